/-! ===== contracts: Rings (16 to 25), the small ones ===== -/
def RgC (h : sH) (k home gr : Nat) (a : Ac) (tr arr rts : Nat → Int32) : Prop :=
  h.2 16 = oC 6 [.ref 17, .ref 20, .ref 22, .ref 24, .int (nI k), .int (nI home), .int (nI gr), .int (nI a.1), .int (nI a.2.1), .int (nI a.2.2.1), .int (nI a.2.2.2)] ∧
  (h.2 20 = oC 3 [.ref 21] ∧ h.2 21 = iA 6 tr) ∧ (h.2 22 = oC 3 [.ref 23] ∧ h.2 23 = iA 832 arr) ∧ (h.2 24 = oC 3 [.ref 25] ∧ h.2 25 = iA 6 rts)
def RgV (x : Gd) (W : Wf) (rt : Nat → Nat) (tr arr rts : Nat → Int32) : Prop :=
  (∀ r, r < 6 → tr r = nI (gMask x r)) ∧ (∀ S i, S < 64 → i < 13 → arr (13 * S + i) = nI (W S i)) ∧ ∀ c, c < 6 → rts c = nI (rt c)
def RgAt (h : sH) (x : Gd) (k home gr : Nat) (a : Ac) (W : Wf) (rt : Nat → Nat) : Prop := GridAt h 17 x ∧ ∃ tr arr rts, RgC h k home gr a tr arr rts ∧ RgV x W rt tr arr rts
def FrR (h h' : sH) : Prop := ∀ q, (q < 16 ∨ 26 ≤ q) → h'.2 q = h.2 q
theorem FrR.rf {h : sH} : FrR h h := fun _ _ => rfl
theorem FrR.tr {h h1 h2 : sH} (a : FrR h h1) (b : FrR h1 h2) : FrR h h2 := fun q hq => (b q hq).trans (a q hq)
theorem FrR.up {h h1 : sH} {a : Nat} {c : sC} (f : FrR h h1) (h7 : 16 ≤ a) (h15 : a < 26) : FrR h (sUp h1 a c) := fun q hq => (sUp_ne (by omega)).trans (f q hq)
theorem RgAt.c16 {h : sH} {x : Gd} {k home gr : Nat} {a : Ac} {W : Wf} {rt : Nat → Nat} (hP : RgAt h x k home gr a W rt) : h.2 16 = oC 6 [.ref 17, .ref 20, .ref 22, .ref 24, .int (nI k), .int (nI home), .int (nI gr), .int (nI a.1), .int (nI a.2.1), .int (nI a.2.2.1), .int (nI a.2.2.2)] := by
  obtain ⟨-, _, _, _, C, -⟩ := hP
  exact C.1
theorem RgAt.congrW {h : sH} {x : Gd} {k home gr : Nat} {a : Ac} {W W' : Wf} {rt : Nat → Nat} (hP : RgAt h x k home gr a W rt) (e : ∀ S i, S < 64 → i < 13 → W S i = W' S i) : RgAt h x k home gr a W' rt := by
  obtain ⟨hG, tr, arr, rts, C, V1, V2, V3⟩ := hP
  exact ⟨hG, tr, arr, rts, C, V1, fun S i hS hi => (V2 S i hS hi).trans (by rw [e S i hS hi]), V3⟩
theorem RgAt.congrR {h : sH} {x : Gd} {k home gr : Nat} {a : Ac} {W : Wf} {rt rt' : Nat → Nat} (hP : RgAt h x k home gr a W rt) (e : ∀ c, c < 6 → rt c = rt' c) : RgAt h x k home gr a W rt' := by
  obtain ⟨hG, tr, arr, rts, C, V1, V2, V3⟩ := hP
  exact ⟨hG, tr, arr, rts, C, V1, V2, fun c hc => (V3 c hc).trans (by rw [e c hc])⟩
def wup (W : Wf) (S i v : Nat) : Wf := fun T j => if T = S ∧ j = i then v else W T j
theorem RgAt.setW {h : sH} {x : Gd} {k home gr : Nat} {a : Ac} {W : Wf} {rt : Nat → Nat} {tr arr rts : Nat → Int32} (hG : GridAt h 17 x) (C : RgC h k home gr a tr arr rts) (V : RgV x W rt tr arr rts) {S i v : Nat} (hi : i < 13) :
    RgAt (sUp h 23 (iA 832 (upd arr (13 * S + i) (nI v)))) x k home gr a (wup W S i v) rt := by
  obtain ⟨c1, ⟨c2, c3⟩, ⟨c4, c5⟩, ⟨c6, c7⟩⟩ := C
  obtain ⟨V1, V2, V3⟩ := V
  refine ⟨hG.kept (sUp_ne (by omega)) (sUp_ne (by omega)) (sUp_ne (by omega)), tr, _, rts, ⟨(sUp_ne (by omega)).trans c1, ⟨(sUp_ne (by omega)).trans c2, (sUp_ne (by omega)).trans c3⟩, ⟨(sUp_ne (by omega)).trans c4, sUp_eq⟩, ⟨(sUp_ne (by omega)).trans c6, (sUp_ne (by omega)).trans c7⟩⟩, V1, fun T j hT hj => ?_, V3⟩
  unfold wup
  by_cases e : T = S ∧ j = i
  · obtain ⟨rfl, rfl⟩ := e
    rw [upd_at]; simp
  · rw [upd_off (by omega), if_neg e, V2 T j hT hj]
theorem RgAt.setR {h : sH} {x : Gd} {k home gr : Nat} {a : Ac} {W : Wf} {rt : Nat → Nat} {tr arr rts : Nat → Int32} (hG : GridAt h 17 x) (C : RgC h k home gr a tr arr rts) (V : RgV x W rt tr arr rts) {c v : Nat} :
    RgAt (sUp h 25 (iA 6 (upd rts c (nI v)))) x k home gr a W (up rt c v) := by
  obtain ⟨c1, ⟨c2, c3⟩, ⟨c4, c5⟩, ⟨c6, c7⟩⟩ := C
  obtain ⟨V1, V2, V3⟩ := V
  refine ⟨hG.kept (sUp_ne (by omega)) (sUp_ne (by omega)) (sUp_ne (by omega)), tr, arr, _, ⟨(sUp_ne (by omega)).trans c1, ⟨(sUp_ne (by omega)).trans c2, (sUp_ne (by omega)).trans c3⟩, ⟨(sUp_ne (by omega)).trans c4, (sUp_ne (by omega)).trans c5⟩, ⟨(sUp_ne (by omega)).trans c6, sUp_eq⟩⟩, V1, V2, fun c' hc' => ?_⟩
  by_cases e : c' = c
  · subst e
    rw [upd_at, up_at]
  · rw [upd_off e, up_off e, V3 c' hc']
theorem RgAt.head {h : sH} {x : Gd} {k home gr k' home' gr' : Nat} {a a' : Ac} {W : Wf} {rt : Nat → Nat} (hP : RgAt h x k home gr a W rt) :
    RgAt (sUp h 16 (oC 6 [.ref 17, .ref 20, .ref 22, .ref 24, .int (nI k'), .int (nI home'), .int (nI gr'), .int (nI a'.1), .int (nI a'.2.1), .int (nI a'.2.2.1), .int (nI a'.2.2.2)])) x k' home' gr' a' W rt := by
  obtain ⟨hG, tr, arr, rts, ⟨c1, ⟨c2, c3⟩, ⟨c4, c5⟩, ⟨c6, c7⟩⟩, V⟩ := hP
  exact ⟨hG.kept (sUp_ne (by omega)) (sUp_ne (by omega)) (sUp_ne (by omega)), tr, arr, rts, ⟨sUp_eq, ⟨(sUp_ne (by omega)).trans c2, (sUp_ne (by omega)).trans c3⟩, ⟨(sUp_ne (by omega)).trans c4, (sUp_ne (by omega)).trans c5⟩, ⟨(sUp_ne (by omega)).trans c6, (sUp_ne (by omega)).trans c7⟩⟩, V⟩
theorem ratStep {f rt : Nat → Nat} {c v : Nat} (h : v = f c) : ∀ c2, c2 < 6 → up (fun c' => if c' < c then f c' else rt c') c v c2 = (if c2 < c + 1 then f c2 else rt c2) := by
  intro c2 _
  by_cases e : c2 = c
  · subst e; rw [up_at, if_pos (by omega), h]
  · rw [up_off e]
    by_cases e2 : c2 < c
    · rw [if_pos e2, if_pos (by omega)]
    · rw [if_neg e2, if_neg (by omega)]
def fgW (W : Wf) (gr d S i : Nat) : Wf := fun T j => if (T < S ∧ pc6 T = d ∧ 1 ≤ j ∧ j ≤ gr) ∨ (T = S ∧ 1 ≤ j ∧ j < i) then 0 else W T j
theorem fgW_s {W : Wf} {gr d S i : Nat} (hi : 1 ≤ i) : ∀ T j, wup (fgW W gr d S i) S i 0 T j = fgW W gr d S (i + 1) T j := by
  intro T j
  unfold wup fgW
  by_cases e : T = S ∧ j = i
  · rw [if_pos e, if_pos (Or.inr (by omega))]
  · rw [if_neg e]
    by_cases e2 : (T < S ∧ pc6 T = d ∧ 1 ≤ j ∧ j ≤ gr) ∨ (T = S ∧ 1 ≤ j ∧ j < i)
    · rw [if_pos e2, if_pos (by omega)]
    · rw [if_neg e2, if_neg (by omega)]
theorem fgW_n {W : Wf} {gr d S : Nat} (hd : pc6 S = d) : ∀ T j, fgW W gr d S (gr + 1) T j = fgW W gr d (S + 1) 1 T j := by
  intro T j
  unfold fgW
  by_cases e : T = S
  · subst e
    by_cases e2 : 1 ≤ j ∧ j ≤ gr
    · rw [if_pos (Or.inr (by omega)), if_pos (Or.inl ⟨by omega, hd, e2⟩)]
    · rw [if_neg (by omega), if_neg (by omega)]
  · by_cases e2 : T < S ∧ pc6 T = d ∧ 1 ≤ j ∧ j ≤ gr
    · rw [if_pos (Or.inl e2), if_pos (Or.inl ⟨by omega, e2.2⟩)]
    · rw [if_neg (by omega), if_neg (by omega)]
theorem fgW_k {W : Wf} {gr d S : Nat} (hd : ¬ pc6 S = d) : ∀ T j, fgW W gr d S 1 T j = fgW W gr d (S + 1) 1 T j := by
  intro T j
  unfold fgW
  by_cases e : T = S
  · subst e
    rw [if_neg (by omega), if_neg (by omega)]
  · by_cases e2 : T < S ∧ pc6 T = d ∧ 1 ≤ j ∧ j ≤ gr
    · rw [if_pos (Or.inl e2), if_pos (Or.inl ⟨by omega, e2.2⟩)]
    · rw [if_neg (by omega), if_neg (by omega)]
theorem loW_s {gr m rt S c i : Nat} {W : Wf} (h0 : 0 < i) : ∀ T j, wup (loW gr m rt W S c i) (S + 2 ^ c) (i * rt % m) (loW gr m rt W S c i (S + 2 ^ c) (i * rt % m) + W S i) T j = loW gr m rt W S c (i + 1) T j := by
  intro T j
  unfold wup loW
  have hi0 : ¬ i = 0 := by omega
  by_cases e : T = S + 2 ^ c
  · subst e
    by_cases e2 : j = i * rt % m
    · subst e2
      simp [sm_succ, hi0]
      omega
    · have e3 : ¬ i * rt % m = j := fun z => e2 z.symm
      simp [sm_succ, hi0, e2, e3]
  · rw [if_neg (fun z => e z.1), if_neg e, if_neg e]
theorem loW_k {gr m rt S c i : Nat} {W : Wf} (h0 : W S i = 0) : ∀ T j, loW gr m rt W S c i T j = loW gr m rt W S c (i + 1) T j := by
  intro T j
  unfold loW
  by_cases e : T = S + 2 ^ c
  · rw [if_pos e, if_pos e, sm_succ, h0]
    by_cases e0 : i = 0
    · rw [if_pos e0]; rfl
    · rw [if_neg e0]; split <;> rfl
  · rw [if_neg e, if_neg e]
theorem loW_0 {gr m rt S c : Nat} {W : Wf} : ∀ T j, loW gr m rt W S c 1 T j = W T j := by
  intro T j
  unfold loW
  split <;> rfl
theorem bit_and {p q : Nat → Bool} {c : Nat} (hc : c < 6) : bit (mk 6 (fun k => p k && q k)) c = (p c && q c) := bit_mk hc
theorem opn6 : ∀ a, a < 64 → ∀ b, b < 64 → (nI a &&& (nI b ^^^ (-1))) = nI (mk 6 (fun c => bit a c && !bit b c)) := by decide +kernel
theorem opn_0 {p : Nat → Bool} (h : mk 6 p = 0) {c : Nat} (hc : c < 6) : p c = false := by
  have := bit_mk (p := p) hc
  rw [h] at this
  rw [← this]
  unfold bit
  rw [Nat.zero_div]; rfl
set_option maxRecDepth 4000 in
theorem c_Rings_findRatios {l : Launch} {h : sH} {x : Gd} (hx : Gok x) {k home gr : Nat} {a : Ac} {W : Wf} {rt : Nat → Nat} (hP : RgAt h x k home gr a W rt) (hg : gr < 2 ^ 31) {r s : Nat} (hr : r < 6) (hs : s < 6) : sY l m_Rings_findRatios 3 [.ref 16, .int (nI (mk 6 (fun c => td x r c && td x s c))), .int (nI r), .int (nI s)] h (none) (fun h1 => RgAt h1 x k home gr a W (rtf x gr r s) ∧ FrR h h1) := by
  have hR := hx.1
  have hC := hx.2.1
  have hM := hx.2.2.1.le
  refine en_Rings_findRatios ?_
  refine e_iconst (v := nI 0) (p' := 1) D_Rings_findRatios_0 cst_iconst_0 rfl ?_
  refine e_istore_4 (p' := 3) D_Rings_findRatios_1 (Nat.le_of_ble_eq_true rfl) rfl rfl ?_
  have lk3 : ∀ c : Nat, c ≤ 6 → ∀ (h1 : sH), (RgAt h1 x k home gr a W (fun c' => if c' < c then rtf x gr r s c' else rt c') ∧ FrR h h1) → sEv l m_Rings_findRatios 3 (0, 0, 0, 0) (sKm 0 0 (fun r1 h1 => r1 = none ∧ (fun h1 => RgAt h1 x k home gr a W (rtf x gr r s) ∧ FrR h h1) h1)) 3 [some (.ref 16), some (.int (nI (mk 6 (fun c => td x r c && td x s c)))), some (.int (nI r)), some (.int (nI s)), some (.int (nI c))] [] (h1) := by
    refine lp_up _ ?_ ?_
    · intro h1 hI
      obtain ⟨hI0, hF1⟩ := hI
      obtain ⟨hG1, tr1, arr1, rts1, D1, V1⟩ := hI0
      have D1c := D1
      have hQ1 : RgAt h1 _ _ _ _ _ _ _ := ⟨hG1, tr1, arr1, rts1, D1, V1⟩
      obtain ⟨d11, ⟨d12, d13⟩, ⟨d14, d15⟩, ⟨d16, d17⟩⟩ := D1
      have V1c := V1
      obtain ⟨V11, V12, V13⟩ := V1
      have hG1c := hG1
      obtain ⟨q10, q11, q12⟩ := hG1
      refine e_iload_4 (p' := 5) D_Rings_findRatios_3 rfl ?_
      refine e_bipush (v := nI 6) (p' := 7) D_Rings_findRatios_5 cst_bipush_6 rfl ?_
      first | refine e_icmpN_ge (q := 82) (p' := 10) D_Rings_findRatios_7 (by omega) (by omega) rfl rfl (fun hc7 => ?_) (fun hc7 => ?_) | refine e_icmp_ge (q := 82) (p' := 10) D_Rings_findRatios_7 rfl rfl (fun hc7 => ?_) (fun hc7 => ?_)
      ·
        refine e_return D_Rings_findRatios_82 rfl ⟨by decide, by decide⟩ ?_
        exact ⟨rfl, hQ1.congrR (fun c hc => if_pos hc), hF1⟩
      ·
        exfalso; omega
    · intro c hc ih3 h1 hI
      obtain ⟨hI0, hF1⟩ := hI
      obtain ⟨hG1, tr1, arr1, rts1, D1, V1⟩ := hI0
      have D1c := D1
      have hQ1 : RgAt h1 _ _ _ _ _ _ _ := ⟨hG1, tr1, arr1, rts1, D1, V1⟩
      obtain ⟨d11, ⟨d12, d13⟩, ⟨d14, d15⟩, ⟨d16, d17⟩⟩ := D1
      have V1c := V1
      obtain ⟨V11, V12, V13⟩ := V1
      have hG1c := hG1
      obtain ⟨q10, q11, q12⟩ := hG1
      refine e_iload_4 (p' := 5) D_Rings_findRatios_3 rfl ?_
      refine e_bipush (v := nI 6) (p' := 7) D_Rings_findRatios_5 cst_bipush_6 rfl ?_
      first | refine e_icmpN_ge (q := 82) (p' := 10) D_Rings_findRatios_7 (by omega) (by omega) rfl rfl (fun hc7 => ?_) (fun hc7 => ?_) | refine e_icmp_ge (q := 82) (p' := 10) D_Rings_findRatios_7 rfl rfl (fun hc7 => ?_) (fun hc7 => ?_)
      ·
        exfalso; omega
      ·
        refine e_aload_0 (p' := 11) D_Rings_findRatios_10 rfl ?_
        refine e_getfield (p' := 14) D_Rings_findRatios_11 F_Rings_45 (by first | assumption | exact sUp_eq | (rw [sUp_ne (by omega)]; assumption) | (rw [sUp_ne (by omega), sUp_ne (by omega)]; assumption) | (rw [sUp_ne (by omega)]; exact sUp_eq) | (simp [sUp]; done)) (by rfl) rfl ?_
        refine e_iconst (v := nI 1) (p' := 15) D_Rings_findRatios_14 cst_iconst_1 rfl ?_
        refine e_icmpN_le (q := 66) (p' := 18) D_Rings_findRatios_15 (by omega) (by omega) rfl rfl (fun hc15 => ?_) (fun hc15 => ?_)
        ·
          refine e_aload_0 (p' := 67) D_Rings_findRatios_66 rfl ?_
          refine e_getfield (p' := 70) D_Rings_findRatios_67 F_Rings_30 (by first | assumption | exact sUp_eq | (rw [sUp_ne (by omega)]; assumption) | (rw [sUp_ne (by omega), sUp_ne (by omega)]; assumption) | (rw [sUp_ne (by omega)]; exact sUp_eq) | (simp [sUp]; done)) (by rfl) rfl ?_
          refine e_iload_4 (p' := 72) D_Rings_findRatios_70 rfl ?_
          refine e_iconst (v := nI 1) (p' := 73) D_Rings_findRatios_72 cst_iconst_1 rfl ?_
          refine x_callV0 (p' := 76) D_Rings_findRatios_73 V_Rings_60 (c_Num_set d16 d17 (by omega) (by omega)) rfl (by first | assumption | exact sUp_eq | (rw [sUp_ne (by omega)]; assumption) | (rw [sUp_ne (by omega), sUp_ne (by omega)]; assumption) | (rw [sUp_ne (by omega)]; exact sUp_eq) | (simp [sUp]; done)) rfl (Nat.le_of_ble_eq_true rfl) (by decide) ⟨by decide, by decide⟩ rfl ?_
          first | refine e_iincN_4 (n := 1) (p' := 79) D_Rings_findRatios_76 (Nat.le_of_ble_eq_true rfl) rfl rfl ?_ | refine e_iinc_4 (p' := 79) D_Rings_findRatios_76 (Nat.le_of_ble_eq_true rfl) rfl rfl rfl ?_
          refine e_goto (p' := 3) D_Rings_findRatios_79 rfl ?_
          refine sEv.castW (ih3 _ ⟨(RgAt.setR hG1c D1c V1c).congrR (ratStep (f := rtf x gr r s) (by unfold rtf; rw [if_neg (by omega)])), hF1.up (by omega) (by omega)⟩) ?_ ?_ ?_
          · first | exact lvW_rfl _ | (simp [lvW]; done) | (simp [lvW, *]; done) | (simp [lvW]; omega)
          · rfl
          · first | rfl | (simp; done)
        ·
          refine e_iload_1 (p' := 19) D_Rings_findRatios_18 rfl ?_
          refine e_iload_4 (p' := 21) D_Rings_findRatios_19 rfl ?_
          refine x_callSN1 (p' := 24) D_Rings_findRatios_21 SN_Rings_84 (c_O_holds mk_lt (by omega)) rfl rfl (Nat.le_of_ble_eq_true rfl) (by decide) ⟨by decide, by decide⟩ rfl ?_
          rw [bit_and (by omega)]
          refine e_ifB_eq (q := 66) (p' := 27) D_Rings_findRatios_24 rfl rfl (fun hc24 => ?_) (fun hc24 => ?_)
          ·
            refine e_aload_0 (p' := 67) D_Rings_findRatios_66 rfl ?_
            refine e_getfield (p' := 70) D_Rings_findRatios_67 F_Rings_30 (by first | assumption | exact sUp_eq | (rw [sUp_ne (by omega)]; assumption) | (rw [sUp_ne (by omega), sUp_ne (by omega)]; assumption) | (rw [sUp_ne (by omega)]; exact sUp_eq) | (simp [sUp]; done)) (by rfl) rfl ?_
            refine e_iload_4 (p' := 72) D_Rings_findRatios_70 rfl ?_
            refine e_iconst (v := nI 1) (p' := 73) D_Rings_findRatios_72 cst_iconst_1 rfl ?_
            refine x_callV0 (p' := 76) D_Rings_findRatios_73 V_Rings_60 (c_Num_set d16 d17 (by omega) (by omega)) rfl (by first | assumption | exact sUp_eq | (rw [sUp_ne (by omega)]; assumption) | (rw [sUp_ne (by omega), sUp_ne (by omega)]; assumption) | (rw [sUp_ne (by omega)]; exact sUp_eq) | (simp [sUp]; done)) rfl (Nat.le_of_ble_eq_true rfl) (by decide) ⟨by decide, by decide⟩ rfl ?_
            first | refine e_iincN_4 (n := 1) (p' := 79) D_Rings_findRatios_76 (Nat.le_of_ble_eq_true rfl) rfl rfl ?_ | refine e_iinc_4 (p' := 79) D_Rings_findRatios_76 (Nat.le_of_ble_eq_true rfl) rfl rfl rfl ?_
            refine e_goto (p' := 3) D_Rings_findRatios_79 rfl ?_
            refine sEv.castW (ih3 _ ⟨(RgAt.setR hG1c D1c V1c).congrR (ratStep (f := rtf x gr r s) (by unfold rtf; rw [if_neg (fun z => by rw [hc24] at z; cases z.2)])), hF1.up (by omega) (by omega)⟩) ?_ ?_ ?_
            · first | exact lvW_rfl _ | (simp [lvW]; done) | (simp [lvW, *]; done) | (simp [lvW]; omega)
            · rfl
            · first | rfl | (simp; done)
          ·
            refine e_aload_0 (p' := 28) D_Rings_findRatios_27 rfl ?_
            refine e_getfield (p' := 31) D_Rings_findRatios_28 F_Rings_30 (by first | assumption | exact sUp_eq | (rw [sUp_ne (by omega)]; assumption) | (rw [sUp_ne (by omega), sUp_ne (by omega)]; assumption) | (rw [sUp_ne (by omega)]; exact sUp_eq) | (simp [sUp]; done)) (by rfl) rfl ?_
            refine e_iload_4 (p' := 33) D_Rings_findRatios_31 rfl ?_
            refine e_aload_0 (p' := 34) D_Rings_findRatios_33 rfl ?_
            refine e_getfield (p' := 37) D_Rings_findRatios_34 F_Rings_12 (by first | assumption | exact sUp_eq | (rw [sUp_ne (by omega)]; assumption) | (rw [sUp_ne (by omega), sUp_ne (by omega)]; assumption) | (rw [sUp_ne (by omega)]; exact sUp_eq) | (simp [sUp]; done)) (by rfl) rfl ?_
            refine e_aload_0 (p' := 38) D_Rings_findRatios_37 rfl ?_
            refine e_getfield (p' := 41) D_Rings_findRatios_38 F_Rings_12 (by first | assumption | exact sUp_eq | (rw [sUp_ne (by omega)]; assumption) | (rw [sUp_ne (by omega), sUp_ne (by omega)]; assumption) | (rw [sUp_ne (by omega)]; exact sUp_eq) | (simp [sUp]; done)) (by rfl) rfl ?_
            refine e_iload_2 (p' := 42) D_Rings_findRatios_41 rfl ?_
            refine e_iload_4 (p' := 44) D_Rings_findRatios_42 rfl ?_
            refine x_callV1 (p' := 47) D_Rings_findRatios_44 V_Rings_106 (c_Grid_number hG1c hx hr (by omega)) rfl (by first | assumption | exact sUp_eq | (rw [sUp_ne (by omega)]; assumption) | (rw [sUp_ne (by omega), sUp_ne (by omega)]; assumption) | (rw [sUp_ne (by omega)]; exact sUp_eq) | (simp [sUp]; done)) rfl (Nat.le_of_ble_eq_true rfl) (by decide) ⟨by decide, by decide⟩ rfl ?_
            refine e_aload_0 (p' := 48) D_Rings_findRatios_47 rfl ?_
            refine e_getfield (p' := 51) D_Rings_findRatios_48 F_Rings_12 (by first | assumption | exact sUp_eq | (rw [sUp_ne (by omega)]; assumption) | (rw [sUp_ne (by omega), sUp_ne (by omega)]; assumption) | (rw [sUp_ne (by omega)]; exact sUp_eq) | (simp [sUp]; done)) (by rfl) rfl ?_
            refine e_iload_3 (p' := 52) D_Rings_findRatios_51 rfl ?_
            refine e_iload_4 (p' := 54) D_Rings_findRatios_52 rfl ?_
            refine x_callV1 (p' := 57) D_Rings_findRatios_54 V_Rings_106 (c_Grid_number hG1c hx hs (by omega)) rfl (by first | assumption | exact sUp_eq | (rw [sUp_ne (by omega)]; assumption) | (rw [sUp_ne (by omega), sUp_ne (by omega)]; assumption) | (rw [sUp_ne (by omega)]; exact sUp_eq) | (simp [sUp]; done)) rfl (Nat.le_of_ble_eq_true rfl) (by decide) ⟨by decide, by decide⟩ rfl ?_
            have hs1 := hx.small r c
            have hs2 := hx.small s c
            refine x_callV1 (p' := 60) D_Rings_findRatios_57 V_Rings_110 (c_Grid_quotient hG1c hx (by omega) (by omega)) rfl (by first | assumption | exact sUp_eq | (rw [sUp_ne (by omega)]; assumption) | (rw [sUp_ne (by omega), sUp_ne (by omega)]; assumption) | (rw [sUp_ne (by omega)]; exact sUp_eq) | (simp [sUp]; done)) rfl (Nat.le_of_ble_eq_true rfl) (by decide) ⟨by decide, by decide⟩ rfl ?_
            refine x_callV0 (p' := 63) D_Rings_findRatios_60 V_Rings_60 (c_Num_set d16 d17 (by omega) (by omega)) rfl (by first | assumption | exact sUp_eq | (rw [sUp_ne (by omega)]; assumption) | (rw [sUp_ne (by omega), sUp_ne (by omega)]; assumption) | (rw [sUp_ne (by omega)]; exact sUp_eq) | (simp [sUp]; done)) rfl (Nat.le_of_ble_eq_true rfl) (by decide) ⟨by decide, by decide⟩ rfl ?_
            refine e_goto (p' := 76) D_Rings_findRatios_63 rfl ?_
            first | refine e_iincN_4 (n := 1) (p' := 79) D_Rings_findRatios_76 (Nat.le_of_ble_eq_true rfl) rfl rfl ?_ | refine e_iinc_4 (p' := 79) D_Rings_findRatios_76 (Nat.le_of_ble_eq_true rfl) rfl rfl rfl ?_
            refine e_goto (p' := 3) D_Rings_findRatios_79 rfl ?_
            refine sEv.castW (ih3 _ ⟨(RgAt.setR hG1c D1c V1c).congrR (ratStep (f := rtf x gr r s) (by unfold rtf; rw [if_pos ⟨by omega, hc24⟩])), hF1.up (by omega) (by omega)⟩) ?_ ?_ ?_
            · first | exact lvW_rfl _ | (simp [lvW]; done) | (simp [lvW, *]; done) | (simp [lvW]; omega)
            · rfl
            · first | rfl | (simp; done)
  refine sEv.castW (lk3 0 (by omega) h ⟨hP.congrR (fun c hc => (if_neg (by omega)).symm), FrR.rf⟩) ?_ ?_ ?_
  · first | exact lvW_rfl _ | (simp [lvW]; done) | (simp [lvW, *]; done) | (simp [lvW]; omega)
  · rfl
  · first | rfl | (simp; done)
set_option maxRecDepth 4000 in
theorem c_Rings_forgetSetsOf {l : Launch} {h : sH} {x : Gd} (hx : Gok x) {k home gr : Nat} {a : Ac} {W : Wf} {rt : Nat → Nat} (hP : RgAt h x k home gr a W rt) (hg : gr ≤ 12) {d : Nat} (hd : d < 2 ^ 31) : sY l m_Rings_forgetSetsOf 1 [.ref 16, .int (nI d)] h (none) (fun h1 => RgAt h1 x k home gr a (fgW W gr d 64 1) rt ∧ FrR h h1) := by
  refine en_Rings_forgetSetsOf ?_
  refine e_iconst (v := nI 0) (p' := 1) D_Rings_forgetSetsOf_0 cst_iconst_0 rfl ?_
  refine e_istore_2 (p' := 2) D_Rings_forgetSetsOf_1 (Nat.le_of_ble_eq_true rfl) rfl rfl ?_
  have lk2 : ∀ S : Nat, S ≤ 64 → ∀ (h1 : sH), (RgAt h1 x k home gr a (fgW W gr d S 1) rt ∧ FrR h h1) → sEv l m_Rings_forgetSetsOf 1 (0, 0, 0, 0) (sKm 0 0 (fun r1 h1 => r1 = none ∧ (fun h1 => RgAt h1 x k home gr a (fgW W gr d 64 1) rt ∧ FrR h h1) h1)) 2 [some (.ref 16), some (.int (nI d)), some (.int (nI S)), none] [] (h1) := by
    refine lp_up _ ?_ ?_
    · intro h1 hI
      obtain ⟨hI0, hF1⟩ := hI
      obtain ⟨hG1, tr1, arr1, rts1, D1, V1⟩ := hI0
      have D1c := D1
      have hQ1 : RgAt h1 _ _ _ _ _ _ _ := ⟨hG1, tr1, arr1, rts1, D1, V1⟩
      obtain ⟨d11, ⟨d12, d13⟩, ⟨d14, d15⟩, ⟨d16, d17⟩⟩ := D1
      have V1c := V1
      obtain ⟨V11, V12, V13⟩ := V1
      have hG1c := hG1
      obtain ⟨q10, q11, q12⟩ := hG1
      refine e_iload_2 (p' := 3) D_Rings_forgetSetsOf_2 rfl ?_
      refine e_bipush (v := nI 64) (p' := 5) D_Rings_forgetSetsOf_3 cst_bipush_64 rfl ?_
      first | refine e_icmpN_ge (q := 52) (p' := 8) D_Rings_forgetSetsOf_5 (by omega) (by omega) rfl rfl (fun hc5 => ?_) (fun hc5 => ?_) | refine e_icmp_ge (q := 52) (p' := 8) D_Rings_forgetSetsOf_5 rfl rfl (fun hc5 => ?_) (fun hc5 => ?_)
      ·
        refine e_return D_Rings_forgetSetsOf_52 rfl ⟨by decide, by decide⟩ ?_
        exact ⟨rfl, hQ1, hF1⟩
      ·
        exfalso; omega
    · intro S hS ih2 h1 hI
      obtain ⟨hI0, hF1⟩ := hI
      obtain ⟨hG1, tr1, arr1, rts1, D1, V1⟩ := hI0
      have D1c := D1
      have hQ1 : RgAt h1 _ _ _ _ _ _ _ := ⟨hG1, tr1, arr1, rts1, D1, V1⟩
      obtain ⟨d11, ⟨d12, d13⟩, ⟨d14, d15⟩, ⟨d16, d17⟩⟩ := D1
      have V1c := V1
      obtain ⟨V11, V12, V13⟩ := V1
      have hG1c := hG1
      obtain ⟨q10, q11, q12⟩ := hG1
      refine e_iload_2 (p' := 3) D_Rings_forgetSetsOf_2 rfl ?_
      refine e_bipush (v := nI 64) (p' := 5) D_Rings_forgetSetsOf_3 cst_bipush_64 rfl ?_
      first | refine e_icmpN_ge (q := 52) (p' := 8) D_Rings_forgetSetsOf_5 (by omega) (by omega) rfl rfl (fun hc5 => ?_) (fun hc5 => ?_) | refine e_icmp_ge (q := 52) (p' := 8) D_Rings_forgetSetsOf_5 rfl rfl (fun hc5 => ?_) (fun hc5 => ?_)
      ·
        exfalso; omega
      ·
        refine e_iload_2 (p' := 9) D_Rings_forgetSetsOf_8 rfl ?_
        refine x_callS1 (p' := 12) D_Rings_forgetSetsOf_9 S_Rings_98 (c_Int_bitCount (by omega)) rfl rfl (Nat.le_of_ble_eq_true rfl) (by decide) ⟨by decide, by decide⟩ rfl ?_
        have hpl := pc6_le S (by omega)
        refine e_iload_1 (p' := 13) D_Rings_forgetSetsOf_12 rfl ?_
        refine e_icmpN_ne (q := 46) (p' := 16) D_Rings_forgetSetsOf_13 (by omega) (by omega) rfl rfl (fun hc13 => ?_) (fun hc13 => ?_)
        ·
          first | refine e_iincN_2 (n := 1) (p' := 49) D_Rings_forgetSetsOf_46 (Nat.le_of_ble_eq_true rfl) rfl rfl ?_ | refine e_iinc_2 (p' := 49) D_Rings_forgetSetsOf_46 (Nat.le_of_ble_eq_true rfl) rfl rfl rfl ?_
          refine e_goto (p' := 2) D_Rings_forgetSetsOf_49 rfl ?_
          refine sEv.castW (ih2 h1 ⟨hQ1.congrW (fun T j _ _ => fgW_k hc13 T j), hF1⟩) ?_ ?_ ?_
          · first | exact lvW_rfl _ | (simp [lvW]; done) | (simp [lvW, *]; done) | (simp [lvW]; omega)
          · rfl
          · first | rfl | (simp; done)
        ·
          refine e_iconst (v := nI 1) (p' := 17) D_Rings_forgetSetsOf_16 cst_iconst_1 rfl ?_
          refine e_istore_3 (p' := 18) D_Rings_forgetSetsOf_17 (Nat.le_of_ble_eq_true rfl) rfl rfl ?_
          have lk18 : ∀ i : Nat, i ≤ (gr + 1) → ∀ (h2 : sH), (1 ≤ i ∧ RgAt h2 x k home gr a (fgW W gr d S i) rt ∧ FrR h h2) → sEv l m_Rings_forgetSetsOf 1 (0, 0, 0, 0) (sKm 0 0 (fun r1 h1 => r1 = none ∧ (fun h1 => RgAt h1 x k home gr a (fgW W gr d 64 1) rt ∧ FrR h h1) h1)) 18 [some (.ref 16), some (.int (nI d)), some (.int (nI S)), some (.int (nI i))] [] (h2) := by
            refine lp_up _ ?_ ?_
            · intro h2 hI2
              obtain ⟨h1i, hI2, hF2⟩ := hI2
              obtain ⟨hG2, tr2, arr2, rts2, D2, V2⟩ := hI2
              have D2c := D2
              have hQ2 : RgAt h2 _ _ _ _ _ _ _ := ⟨hG2, tr2, arr2, rts2, D2, V2⟩
              obtain ⟨d21, ⟨d22, d23⟩, ⟨d24, d25⟩, ⟨d26, d27⟩⟩ := D2
              have V2c := V2
              obtain ⟨V21, V22, V23⟩ := V2
              have hG2c := hG2
              obtain ⟨q20, q21, q22⟩ := hG2
              refine e_iload_3 (p' := 19) D_Rings_forgetSetsOf_18 rfl ?_
              refine e_aload_0 (p' := 20) D_Rings_forgetSetsOf_19 rfl ?_
              refine e_getfield (p' := 23) D_Rings_forgetSetsOf_20 F_Rings_45 (by first | assumption | exact sUp_eq | (rw [sUp_ne (by omega)]; assumption) | (rw [sUp_ne (by omega), sUp_ne (by omega)]; assumption) | (rw [sUp_ne (by omega)]; exact sUp_eq) | (simp [sUp]; done)) (by rfl) rfl ?_
              first | refine e_icmpN_gt (q := 46) (p' := 26) D_Rings_forgetSetsOf_23 (by omega) (by omega) rfl rfl (fun hc23 => ?_) (fun hc23 => ?_) | refine e_icmp_gt (q := 46) (p' := 26) D_Rings_forgetSetsOf_23 rfl rfl (fun hc23 => ?_) (fun hc23 => ?_)
              ·
                first | refine e_iincN_2 (n := 1) (p' := 49) D_Rings_forgetSetsOf_46 (Nat.le_of_ble_eq_true rfl) rfl rfl ?_ | refine e_iinc_2 (p' := 49) D_Rings_forgetSetsOf_46 (Nat.le_of_ble_eq_true rfl) rfl rfl rfl ?_
                refine e_goto (p' := 2) D_Rings_forgetSetsOf_49 rfl ?_
                refine sEv.castW (ih2 h2 ⟨hQ2.congrW (fun T j _ _ => fgW_n (by omega) T j), hF2⟩) ?_ ?_ ?_
                · first | exact lvW_rfl _ | (simp [lvW]; done) | (simp [lvW, *]; done) | (simp [lvW]; omega)
                · rfl
                · first | rfl | (simp; done)
              ·
                exfalso; omega
            · intro i hi ih18 h2 hI2
              obtain ⟨h1i, hI2, hF2⟩ := hI2
              obtain ⟨hG2, tr2, arr2, rts2, D2, V2⟩ := hI2
              have D2c := D2
              have hQ2 : RgAt h2 _ _ _ _ _ _ _ := ⟨hG2, tr2, arr2, rts2, D2, V2⟩
              obtain ⟨d21, ⟨d22, d23⟩, ⟨d24, d25⟩, ⟨d26, d27⟩⟩ := D2
              have V2c := V2
              obtain ⟨V21, V22, V23⟩ := V2
              have hG2c := hG2
              obtain ⟨q20, q21, q22⟩ := hG2
              refine e_iload_3 (p' := 19) D_Rings_forgetSetsOf_18 rfl ?_
              refine e_aload_0 (p' := 20) D_Rings_forgetSetsOf_19 rfl ?_
              refine e_getfield (p' := 23) D_Rings_forgetSetsOf_20 F_Rings_45 (by first | assumption | exact sUp_eq | (rw [sUp_ne (by omega)]; assumption) | (rw [sUp_ne (by omega), sUp_ne (by omega)]; assumption) | (rw [sUp_ne (by omega)]; exact sUp_eq) | (simp [sUp]; done)) (by rfl) rfl ?_
              first | refine e_icmpN_gt (q := 46) (p' := 26) D_Rings_forgetSetsOf_23 (by omega) (by omega) rfl rfl (fun hc23 => ?_) (fun hc23 => ?_) | refine e_icmp_gt (q := 46) (p' := 26) D_Rings_forgetSetsOf_23 rfl rfl (fun hc23 => ?_) (fun hc23 => ?_)
              ·
                exfalso; omega
              ·
                refine e_aload_0 (p' := 27) D_Rings_forgetSetsOf_26 rfl ?_
                refine e_getfield (p' := 30) D_Rings_forgetSetsOf_27 F_Rings_27 (by first | assumption | exact sUp_eq | (rw [sUp_ne (by omega)]; assumption) | (rw [sUp_ne (by omega), sUp_ne (by omega)]; assumption) | (rw [sUp_ne (by omega)]; exact sUp_eq) | (simp [sUp]; done)) (by rfl) rfl ?_
                refine e_bipush (v := nI 13) (p' := 32) D_Rings_forgetSetsOf_30 cst_bipush_13 rfl ?_
                refine e_iload_2 (p' := 33) D_Rings_forgetSetsOf_32 rfl ?_
                first | refine e_imulN (p' := 34) D_Rings_forgetSetsOf_33 rfl ?_ | refine e_imul (p' := 34) D_Rings_forgetSetsOf_33 rfl ?_
                refine e_iload_3 (p' := 35) D_Rings_forgetSetsOf_34 rfl ?_
                first | refine e_iaddN (p' := 36) D_Rings_forgetSetsOf_35 rfl ?_ | refine e_iadd (p' := 36) D_Rings_forgetSetsOf_35 rfl ?_
                refine e_iconst (v := nI 0) (p' := 37) D_Rings_forgetSetsOf_36 cst_iconst_0 rfl ?_
                refine x_callV0 (p' := 40) D_Rings_forgetSetsOf_37 V_Rings_60 (c_Num_set d24 d25 (by omega) (by omega)) rfl (by first | assumption | exact sUp_eq | (rw [sUp_ne (by omega)]; assumption) | (rw [sUp_ne (by omega), sUp_ne (by omega)]; assumption) | (rw [sUp_ne (by omega)]; exact sUp_eq) | (simp [sUp]; done)) rfl (Nat.le_of_ble_eq_true rfl) (by decide) ⟨by decide, by decide⟩ rfl ?_
                first | refine e_iincN_3 (n := 1) (p' := 43) D_Rings_forgetSetsOf_40 (Nat.le_of_ble_eq_true rfl) rfl rfl ?_ | refine e_iinc_3 (p' := 43) D_Rings_forgetSetsOf_40 (Nat.le_of_ble_eq_true rfl) rfl rfl rfl ?_
                refine e_goto (p' := 18) D_Rings_forgetSetsOf_43 rfl ?_
                refine sEv.castW (ih18 _ ⟨by omega, (RgAt.setW hG2c D2c V2c (by omega)).congrW (fun T j _ _ => fgW_s h1i T j), hF2.up (by omega) (by omega)⟩) ?_ ?_ ?_
                · first | exact lvW_rfl _ | (simp [lvW]; done) | (simp [lvW, *]; done) | (simp [lvW]; omega)
                · rfl
                · first | rfl | (simp; done)
          refine sEv.castW (lk18 1 (by omega) h1 ⟨by omega, hQ1, hF1⟩) ?_ ?_ ?_
          · first | exact lvW_rfl _ | (simp [lvW]; done) | (simp [lvW, *]; done) | (simp [lvW]; omega)
          · rfl
          · first | rfl | (simp; done)
  refine sEv.castW (lk2 0 (by omega) h ⟨hP.congrW (fun T j _ _ => by unfold fgW; rw [if_neg (by omega)]), FrR.rf⟩) ?_ ?_ ?_
  · first | exact lvW_rfl _ | (simp [lvW]; done) | (simp [lvW, *]; done) | (simp [lvW]; omega)
  · rfl
  · first | rfl | (simp; done)
set_option maxRecDepth 4000 in
theorem c_Rings_leadOn {l : Launch} {h : sH} {x : Gd} (hx : Gok x) {k home gr : Nat} {a : Ac} {W : Wf} {rt : Nat → Nat} (hP : RgAt h x k home gr a W rt) (hg : gr ≤ 12) {S c : Nat} (hS : S < 64) (hc : c < 6) (hb : bit S c = false) (hrt : rt c < 13) (hr : ∀ i, 0 < i → i ≤ gr → 0 < i * rt c % x.1.2.2 ∧ i * rt c % x.1.2.2 ≤ gr) (hW : ∀ i, 0 < i → i ≤ gr → W S i < 2 ^ 31) : sY l m_Rings_leadOn 1 [.ref 16, .int (nI S), .int (nI c)] h (some (.int (sBo (decide (sm (gr + 1) (fun i => if i = 0 then 0 else W S i) ≠ 0))))) (fun h1 => RgAt h1 x k home gr a (loW gr x.1.2.2 (rt c) W S c (gr + 1)) rt ∧ FrR h h1) := by
  have hR := hx.1
  have hC := hx.2.1
  have hM := hx.2.2.1.le
  have hP0 := hP
  obtain ⟨hG, tr, arr, rts, C, V⟩ := hP
  have C0 := C
  obtain ⟨c1, ⟨c2, c3⟩, ⟨c4, c5⟩, ⟨c6, c7⟩⟩ := C
  obtain ⟨V1, V2, V3⟩ := V
  obtain ⟨⟨hL1, hL2⟩, hL3⟩ := bits6 S hS c hc hb
  refine en_Rings_leadOn ?_
  refine e_iload_1 (p' := 1) D_Rings_leadOn_0 rfl ?_
  refine e_iconst (v := nI 1) (p' := 2) D_Rings_leadOn_1 cst_iconst_1 rfl ?_
  refine e_iload_2 (p' := 3) D_Rings_leadOn_2 rfl ?_
  refine e_ishl (p' := 4) D_Rings_leadOn_3 rfl ?_
  refine e_ior (p' := 5) D_Rings_leadOn_4 rfl ?_
  rw [or6 S hS c hc hb]
  refine e_istore_3 (p' := 6) D_Rings_leadOn_5 (Nat.le_of_ble_eq_true rfl) rfl rfl ?_
  refine e_aload_0 (p' := 7) D_Rings_leadOn_6 rfl ?_
  refine e_getfield (p' := 10) D_Rings_leadOn_7 F_Rings_30 (by first | assumption | exact sUp_eq | (rw [sUp_ne (by omega)]; assumption) | (rw [sUp_ne (by omega), sUp_ne (by omega)]; assumption) | (rw [sUp_ne (by omega)]; exact sUp_eq) | (simp [sUp]; done)) (by rfl) rfl ?_
  refine e_iload_2 (p' := 11) D_Rings_leadOn_10 rfl ?_
  refine x_callV1 (p' := 14) D_Rings_leadOn_11 V_Rings_88 (c_Num_get c6 c7 (by omega) (by omega)) rfl (by first | assumption | exact sUp_eq | (rw [sUp_ne (by omega)]; assumption) | (rw [sUp_ne (by omega), sUp_ne (by omega)]; assumption) | (rw [sUp_ne (by omega)]; exact sUp_eq) | (simp [sUp]; done)) rfl (Nat.le_of_ble_eq_true rfl) (by decide) ⟨by decide, by decide⟩ rfl ?_
  rw [V3 c hc]
  refine e_istore_4 (p' := 16) D_Rings_leadOn_14 (Nat.le_of_ble_eq_true rfl) rfl rfl ?_
  refine e_iconst (v := nI 0) (p' := 17) D_Rings_leadOn_16 cst_iconst_0 rfl ?_
  refine e_istore_5 (p' := 19) D_Rings_leadOn_17 (Nat.le_of_ble_eq_true rfl) rfl rfl ?_
  refine e_iconst (v := nI 1) (p' := 20) D_Rings_leadOn_19 cst_iconst_1 rfl ?_
  refine e_istore_6 (p' := 22) D_Rings_leadOn_20 (Nat.le_of_ble_eq_true rfl) rfl rfl ?_
  have lk22 : ∀ i : Nat, i ≤ (gr + 1) → ∀ (h1 : sH), (1 ≤ i ∧ RgAt h1 x k home gr a (loW gr x.1.2.2 (rt c) W S c i) rt ∧ FrR h h1) → sEv l m_Rings_leadOn 1 (0, 0, 0, 0) (sKm 0 0 (fun r1 h1 => r1 = some (.int (sBo (decide (sm (gr + 1) (fun i => if i = 0 then 0 else W S i) ≠ 0)))) ∧ (fun h1 => RgAt h1 x k home gr a (loW gr x.1.2.2 (rt c) W S c (gr + 1)) rt ∧ FrR h h1) h1)) 22 [some (.ref 16), some (.int (nI S)), some (.int (nI c)), some (.int (nI (S + 2 ^ c))), some (.int (nI (rt c))), some (.int (sBo (decide (sm i (fun i => if i = 0 then 0 else W S i) ≠ 0)))), some (.int (nI i)), none, none] [] (h1) := by
    refine lp_up _ ?_ ?_
    · intro h1 hI
      obtain ⟨h1i, hI0, hF1⟩ := hI
      obtain ⟨hG1, tr1, arr1, rts1, D1, V1⟩ := hI0
      have D1c := D1
      have hQ1 : RgAt h1 _ _ _ _ _ _ _ := ⟨hG1, tr1, arr1, rts1, D1, V1⟩
      obtain ⟨d11, ⟨d12, d13⟩, ⟨d14, d15⟩, ⟨d16, d17⟩⟩ := D1
      have V1c := V1
      obtain ⟨V11, V12, V13⟩ := V1
      have hG1c := hG1
      obtain ⟨q10, q11, q12⟩ := hG1
      refine e_iload_6 (p' := 24) D_Rings_leadOn_22 rfl ?_
      refine e_aload_0 (p' := 25) D_Rings_leadOn_24 rfl ?_
      refine e_getfield (p' := 28) D_Rings_leadOn_25 F_Rings_45 (by first | assumption | exact sUp_eq | (rw [sUp_ne (by omega)]; assumption) | (rw [sUp_ne (by omega), sUp_ne (by omega)]; assumption) | (rw [sUp_ne (by omega)]; exact sUp_eq) | (simp [sUp]; done)) (by rfl) rfl ?_
      first | refine e_icmpN_gt (q := 100) (p' := 31) D_Rings_leadOn_28 (by omega) (by omega) rfl rfl (fun hc28 => ?_) (fun hc28 => ?_) | refine e_icmp_gt (q := 100) (p' := 31) D_Rings_leadOn_28 rfl rfl (fun hc28 => ?_) (fun hc28 => ?_)
      ·
        refine e_iload_5 (p' := 102) D_Rings_leadOn_100 rfl ?_
        refine e_ireturn (ty := .boolean) D_Rings_leadOn_102 rfl (by first | rfl | exact sBo_nar _) ⟨by decide, by decide⟩ ?_
        exact ⟨rfl, hQ1, hF1⟩
      ·
        exfalso; omega
    · intro i hi ih22 h1 hI
      obtain ⟨h1i, hI0, hF1⟩ := hI
      obtain ⟨hG1, tr1, arr1, rts1, D1, V1⟩ := hI0
      have D1c := D1
      have hQ1 : RgAt h1 _ _ _ _ _ _ _ := ⟨hG1, tr1, arr1, rts1, D1, V1⟩
      obtain ⟨d11, ⟨d12, d13⟩, ⟨d14, d15⟩, ⟨d16, d17⟩⟩ := D1
      have V1c := V1
      obtain ⟨V11, V12, V13⟩ := V1
      have hG1c := hG1
      obtain ⟨q10, q11, q12⟩ := hG1
      refine e_iload_6 (p' := 24) D_Rings_leadOn_22 rfl ?_
      refine e_aload_0 (p' := 25) D_Rings_leadOn_24 rfl ?_
      refine e_getfield (p' := 28) D_Rings_leadOn_25 F_Rings_45 (by first | assumption | exact sUp_eq | (rw [sUp_ne (by omega)]; assumption) | (rw [sUp_ne (by omega), sUp_ne (by omega)]; assumption) | (rw [sUp_ne (by omega)]; exact sUp_eq) | (simp [sUp]; done)) (by rfl) rfl ?_
      first | refine e_icmpN_gt (q := 100) (p' := 31) D_Rings_leadOn_28 (by omega) (by omega) rfl rfl (fun hc28 => ?_) (fun hc28 => ?_) | refine e_icmp_gt (q := 100) (p' := 31) D_Rings_leadOn_28 rfl rfl (fun hc28 => ?_) (fun hc28 => ?_)
      ·
        exfalso; omega
      ·
        refine e_aload_0 (p' := 32) D_Rings_leadOn_31 rfl ?_
        refine e_getfield (p' := 35) D_Rings_leadOn_32 F_Rings_27 (by first | assumption | exact sUp_eq | (rw [sUp_ne (by omega)]; assumption) | (rw [sUp_ne (by omega), sUp_ne (by omega)]; assumption) | (rw [sUp_ne (by omega)]; exact sUp_eq) | (simp [sUp]; done)) (by rfl) rfl ?_
        refine e_bipush (v := nI 13) (p' := 37) D_Rings_leadOn_35 cst_bipush_13 rfl ?_
        refine e_iload_1 (p' := 38) D_Rings_leadOn_37 rfl ?_
        first | refine e_imulN (p' := 39) D_Rings_leadOn_38 rfl ?_ | refine e_imul (p' := 39) D_Rings_leadOn_38 rfl ?_
        refine e_iload_6 (p' := 41) D_Rings_leadOn_39 rfl ?_
        first | refine e_iaddN (p' := 42) D_Rings_leadOn_41 rfl ?_ | refine e_iadd (p' := 42) D_Rings_leadOn_41 rfl ?_
        refine x_callV1 (p' := 45) D_Rings_leadOn_42 V_Rings_88 (c_Num_get d14 d15 (by omega) (by omega)) rfl (by first | assumption | exact sUp_eq | (rw [sUp_ne (by omega)]; assumption) | (rw [sUp_ne (by omega), sUp_ne (by omega)]; assumption) | (rw [sUp_ne (by omega)]; exact sUp_eq) | (simp [sUp]; done)) rfl (Nat.le_of_ble_eq_true rfl) (by decide) ⟨by decide, by decide⟩ rfl ?_
        rw [V12 S i (by omega) (by omega), show loW gr x.1.2.2 (rt c) W S c i S i = W S i by unfold loW; rw [if_neg hL3]]
        have hWi := hW i (by omega) (by omega)
        have hri := hr i (by omega) (by omega)
        refine e_istore_7 (p' := 47) D_Rings_leadOn_45 (Nat.le_of_ble_eq_true rfl) rfl rfl ?_
        refine e_iload_7 (p' := 49) D_Rings_leadOn_47 rfl ?_
        refine e_ifN_eq (q := 94) (p' := 52) D_Rings_leadOn_49 (by omega) rfl rfl (fun hc49 => ?_) (fun hc49 => ?_)
        ·
          first | refine e_iincN_6 (n := 1) (p' := 97) D_Rings_leadOn_94 (Nat.le_of_ble_eq_true rfl) rfl rfl ?_ | refine e_iinc_6 (p' := 97) D_Rings_leadOn_94 (Nat.le_of_ble_eq_true rfl) rfl rfl rfl ?_
          refine e_goto (p' := 22) D_Rings_leadOn_97 rfl ?_
          refine sEv.castW (ih22 h1 ⟨by omega, hQ1.congrW (fun T j _ _ => loW_k hc49 T j), hF1⟩) ?_ ?_ ?_
          · rw [sm_succ, if_neg (by omega), hc49, Nat.add_zero]; exact ⟨rfl, rfl, rfl, rfl, rfl, rfl, rfl, trivial⟩
          · rfl
          · first | rfl | (simp; done)
        ·
          refine e_bipush (v := nI 13) (p' := 54) D_Rings_leadOn_52 cst_bipush_13 rfl ?_
          refine e_iload_3 (p' := 55) D_Rings_leadOn_54 rfl ?_
          first | refine e_imulN (p' := 56) D_Rings_leadOn_55 rfl ?_ | refine e_imul (p' := 56) D_Rings_leadOn_55 rfl ?_
          refine e_aload_0 (p' := 57) D_Rings_leadOn_56 rfl ?_
          refine e_getfield (p' := 60) D_Rings_leadOn_57 F_Rings_12 (by first | assumption | exact sUp_eq | (rw [sUp_ne (by omega)]; assumption) | (rw [sUp_ne (by omega), sUp_ne (by omega)]; assumption) | (rw [sUp_ne (by omega)]; exact sUp_eq) | (simp [sUp]; done)) (by rfl) rfl ?_
          refine e_iload_6 (p' := 62) D_Rings_leadOn_60 rfl ?_
          refine e_iload_4 (p' := 64) D_Rings_leadOn_62 rfl ?_
          refine x_callV1 (p' := 67) D_Rings_leadOn_64 V_Rings_113 (c_Grid_product hG1c hx (by omega) (by omega)) rfl (by first | assumption | exact sUp_eq | (rw [sUp_ne (by omega)]; assumption) | (rw [sUp_ne (by omega), sUp_ne (by omega)]; assumption) | (rw [sUp_ne (by omega)]; exact sUp_eq) | (simp [sUp]; done)) rfl (Nat.le_of_ble_eq_true rfl) (by decide) ⟨by decide, by decide⟩ rfl ?_
          first | refine e_iaddN (p' := 68) D_Rings_leadOn_67 rfl ?_ | refine e_iadd (p' := 68) D_Rings_leadOn_67 rfl ?_
          refine e_istore_8 (p' := 70) D_Rings_leadOn_68 (Nat.le_of_ble_eq_true rfl) rfl rfl ?_
          refine e_aload_0 (p' := 71) D_Rings_leadOn_70 rfl ?_
          refine e_getfield (p' := 74) D_Rings_leadOn_71 F_Rings_27 (by first | assumption | exact sUp_eq | (rw [sUp_ne (by omega)]; assumption) | (rw [sUp_ne (by omega), sUp_ne (by omega)]; assumption) | (rw [sUp_ne (by omega)]; exact sUp_eq) | (simp [sUp]; done)) (by rfl) rfl ?_
          refine e_iload_8 (p' := 76) D_Rings_leadOn_74 rfl ?_
          refine e_aload_0 (p' := 77) D_Rings_leadOn_76 rfl ?_
          refine e_getfield (p' := 80) D_Rings_leadOn_77 F_Rings_27 (by first | assumption | exact sUp_eq | (rw [sUp_ne (by omega)]; assumption) | (rw [sUp_ne (by omega), sUp_ne (by omega)]; assumption) | (rw [sUp_ne (by omega)]; exact sUp_eq) | (simp [sUp]; done)) (by rfl) rfl ?_
          refine e_iload_8 (p' := 82) D_Rings_leadOn_80 rfl ?_
          refine x_callV1 (p' := 85) D_Rings_leadOn_82 V_Rings_88 (c_Num_get d14 d15 (by omega) (by omega)) rfl (by first | assumption | exact sUp_eq | (rw [sUp_ne (by omega)]; assumption) | (rw [sUp_ne (by omega), sUp_ne (by omega)]; assumption) | (rw [sUp_ne (by omega)]; exact sUp_eq) | (simp [sUp]; done)) rfl (Nat.le_of_ble_eq_true rfl) (by decide) ⟨by decide, by decide⟩ rfl ?_
          rw [V12 (S + 2 ^ c) (i * rt c % x.1.2.2) (by omega) (by omega)]
          refine e_iload_7 (p' := 87) D_Rings_leadOn_85 rfl ?_
          first | refine e_iaddN (p' := 88) D_Rings_leadOn_87 rfl ?_ | refine e_iadd (p' := 88) D_Rings_leadOn_87 rfl ?_
          refine x_callV0 (p' := 91) D_Rings_leadOn_88 V_Rings_60 (c_Num_set d14 d15 (by omega) (by omega)) rfl (by first | assumption | exact sUp_eq | (rw [sUp_ne (by omega)]; assumption) | (rw [sUp_ne (by omega), sUp_ne (by omega)]; assumption) | (rw [sUp_ne (by omega)]; exact sUp_eq) | (simp [sUp]; done)) rfl (Nat.le_of_ble_eq_true rfl) (by decide) ⟨by decide, by decide⟩ rfl ?_
          refine e_iconst (v := nI 1) (p' := 92) D_Rings_leadOn_91 cst_iconst_1 rfl ?_
          refine e_istore_5 (p' := 94) D_Rings_leadOn_92 (Nat.le_of_ble_eq_true rfl) rfl rfl ?_
          first | refine e_iincN_6 (n := 1) (p' := 97) D_Rings_leadOn_94 (Nat.le_of_ble_eq_true rfl) rfl rfl ?_ | refine e_iinc_6 (p' := 97) D_Rings_leadOn_94 (Nat.le_of_ble_eq_true rfl) rfl rfl rfl ?_
          refine e_goto (p' := 22) D_Rings_leadOn_97 rfl ?_
          refine sEv.castW (ih22 _ ⟨by omega, (RgAt.setW hG1c D1c V1c (by omega)).congrW (fun T j _ _ => loW_s (by omega) T j), hF1.up (by omega) (by omega)⟩) ?_ ?_ ?_
          · rw [decide_eq_true (p := sm (i + 1) (fun i => if i = 0 then 0 else W S i) ≠ 0) (by rw [sm_succ, if_neg (by omega)]; omega)]; exact ⟨rfl, rfl, rfl, rfl, rfl, rfl, rfl, trivial⟩
          · rfl
          · first | rfl | (simp; done)
  refine sEv.castW (lk22 1 (by omega) h ⟨by omega, hP0.congrW (fun T j _ _ => (loW_0 T j).symm), FrR.rf⟩) ?_ ?_ ?_
  · first | exact lvW_rfl _ | (simp [lvW]; done) | (simp [lvW, *]; done) | (simp [lvW]; omega)
  · rfl
  · first | rfl | (simp; done)
