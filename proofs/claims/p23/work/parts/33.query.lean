/-! ===== the class's queries ===== -/
theorem ts_out {w : Int32} {n : Nat} (hn : n < 100) (h : ∀ k, k ≤ n → ¬ w = nI k) : w.toInt < 0 ∨ (n : Int) < w.toInt := by
  rcases Int.lt_or_le w.toInt 0 with q | q
  · exact Or.inl q
  · rcases Int.lt_or_le (n : Int) w.toInt with p | p
    · exact Or.inr p
    · refine absurd ?_ (h w.toInt.toNat (by omega))
      refine Int32.toInt_inj.mp ?_
      rw [nI_toInt (by omega)]
      omega
def natL (k : Int64) : Nat := k.toInt.toNat
theorem lN_of {k : Int64} (h : ¬ k < lN 0) : ∃ n, n < 2 ^ 63 ∧ k = lN n ∧ natL k = n := by
  have h0 : ¬ k.toInt < 0 := fun q => h (Int64.lt_iff_toInt_lt.mpr (by rw [lN_toInt (by omega)]; exact q))
  have h1 := Int64.toInt_lt k
  refine ⟨k.toInt.toNat, by omega, Int64.toInt_inj.mp ?_, rfl⟩
  show _ = (Int64.ofNat _).toInt
  rw [lg_ofNat_toInt (by omega)]
  omega
theorem lN_toIntB {n : Nat} (h : n < 2 ^ 63) : (lN n).toInt = n := lg_ofNat_toInt h
theorem lN_div {a b : Nat} (ha : a < 2 ^ 63) (h0 : 0 < b) (hb : b < 2 ^ 63) : lN a / lN b = lN (a / b) := by
  refine Int64.toInt_inj.mp ?_
  have : a / b ≤ a := Nat.div_le_self _ _
  rw [lg_ldiv_nonneg (by rw [lN_toIntB ha]; omega) (by rw [lN_toIntB hb]; omega), lN_toIntB ha, lN_toIntB hb, lN_toIntB (by omega)]
  exact (Int.natCast_ediv a b).symm
theorem lN_rem {a b : Nat} (ha : a < 2 ^ 63) (h0 : 0 < b) (hb : b < 2 ^ 63) : lN a - lN a / lN b * lN b = lN (a % b) := by
  have e := Nat.div_add_mod a b
  have e2 : a / b * b ≤ a := Nat.div_mul_le_self a b
  rw [lN_div ha h0 hb, lN_mul, lN_sub e2]
  congr 1
  have e3 : a / b * b = b * (a / b) := Nat.mul_comm _ _
  omega
theorem lN_ne0 {b : Nat} (h0 : 0 < b) (hb : b < 2 ^ 63) : ¬ lN b = 0 := fun e => by
  have := congrArg Int64.toInt e
  rw [lN_toIntB hb] at this
  have : (b : Int) = 0 := this
  omega
theorem lay_sz {x : Gd} (hx : Gok x) : 1 ≤ (lay x).2 ∧ (lay x).2 ≤ 12 := by
  have h1 := (layC_ok hx _ (Nat.le_refl _)).2.2.2.2.2.1
  have h2 := (layC_ok hx _ (Nat.le_refl _)).2.2.2.2.2.2.1
  have := hx.1.2
  have := hx.2.1.2
  exact ⟨h2, by show (layC x x.1.2.1).2 ≤ 12; omega⟩
theorem pI_pos {q : Nat} (h : q ≠ 0) : pI q = nI (q - 1) := if_neg h
-- what is answered
def fol (x : Gd) (r c : Nat) : Int32 := if wellX x = true ∧ (lay x).1.1.1 r = (lay x).1.1.2 c then nI (pdt x r c) else -6
def upd1 (x : Gd) (r c v : Nat) : Gd := (x.1, up x.2 (6 * r + c) v)
def Ventry (x : Gd) (r c w : Int32) : Int32 := if gHas x r c = false then -1 else if w = nI 0 then nI (at' x (natOf r) (natOf c)) else if w = nI 1 then fol x (natOf r) (natOf c) else if w = nI 2 then fol (upd1 x (natOf r) (natOf c) 0) (natOf r) (natOf c) else if w = nI 3 then nI (cth x (natOf r) (natOf c)) else -2
def tIn (x : Gd) (q : Nat) : Nat := sm x.1.1 (fun r => if (lay x).1.1.1 r = q then ct 6 (td x r) else 0)
def Vpart (x : Gd) (p w : Int32) : Int32 := if isOut p (nI 0) (nI ((lay x).2 - 1)) = true then -1 else if w = nI 0 then nI (mRows (lay x).1 (natOf p + 1)) else if w = nI 1 then nI (mCols (lay x).1 (natOf p + 1)) else if w = nI 2 then nI (tIn x (natOf p + 1)) else -2
def jnE (x : Gd) : Nat := sm (lay x).2 (fun p => pRows (lay x).1 (p + 1) * pCols (lay x).1 (p + 1))
def Vcop (x : Gd) (w : Int32) : Int32 := if w = nI 4 then nI (lay x).2 else if w = nI 5 then sBo (wellX x) else nI (jnE x)
def mAll (x : Gd) (b : Bool) : Nat := sm x.1.1 (fun r => sm x.1.2.1 (fun c => cb x b r c))
def Vcount (st : St) (w : Int32) : Int32 := if w = nI 0 then nI st.1.1.1 else if w = nI 1 then nI st.1.1.2.1 else if w = nI 2 then nI st.1.1.2.2 else if w = nI 3 then nI (told st.1) else if w = nI 4 then nI (lay st.1).2 else if w = nI 5 then sBo (wellX st.1) else if w = nI 6 then nI (jnE st.1) else if w = nI 7 then nI (mAll st.1 false) else if w = nI 8 then nI (mAll st.1 true) else if w = nI 9 then nI (mxTo (rkF st.1) 64) else if w = nI 10 then nI st.2.2.2.1 else if w = nI 11 then nI st.2.1.1 else -2
def cpl (x : Gd) : Nat := if wellX x = true then (x.1.2.2 - 1) ^ ((lay x).2 - 1) else 0
def fac (m n p : Nat) : Nat := if p = 0 then 1 else 1 + n / (m - 1) ^ (p - 1) % (m - 1)
def Vcompl (x : Gd) (k : Int64) (r c : Int32) : Int32 := if k < lN 0 ∨ lN (cpl x) ≤ k ∨ gHas x r c = false then -1 else nI (qt x.1.2.2 (pdt x (natOf r) (natOf c) * fac x.1.2.2 (natL k) ((lay x).1.1.1 (natOf r) - 1) % x.1.2.2) (fac x.1.2.2 (natL k) ((lay x).1.1.2 (natOf c) - 1)))
def VwellIf (x : Gd) (r c n : Int32) : Int32 := if eT x r c n = 0 then sBo (wellX (upd1 x (natOf r) (natOf c) (natOf n))) else eT x r c n
theorem fac_lt {m n p : Nat} (hm : 2 ≤ m) : 1 ≤ fac m n p ∧ fac m n p < m := by
  unfold fac
  split
  · omega
  · have := Nat.mod_lt (n / (m - 1) ^ (p - 1)) (y := m - 1) (by omega)
    omega
theorem up1_ok {x : Gd} (hx : Gok x) {r c v : Nat} (hr : r < x.1.1) (hc : c < x.1.2.1) (hv : v < x.1.2.2) : Gok (upd1 x r c v) := up_ok hx hr hc hv
set_option maxRecDepth 4000 in
theorem c_O_entry {l : Launch} {h : sH} {st : St} (hC : CInv h st) (hS : StOk st) {r c w : Int32} : sY l m_O_entry 5 [.ref 0, .int r, .int c, .int w] h (some (.int (Ventry st.1 r c w))) (CR h st) := by
  have c0 := hC.1
  have hG := hC.2.1
  have hx := hS.1
  have hM := hx.2.2.1.le
  have hRr := hx.1
  have hCc := hx.2.1
  obtain ⟨g0, g1, g2⟩ := hC.2.1
  have hH := hC.2.2.2.2.2.2.2.1
  have hH32 : ∃ a b c, h.2 32 = oC 1 [a, b, c] := by
    obtain ⟨o, f, Y, C, _⟩ := hH
    exact ⟨_, _, _, C.1⟩
  obtain ⟨_, _, _, hH32⟩ := hH32
  obtain ⟨ry, cy, hP⟩ := hC.2.2.2.2.2.2.1
  have hp0 := hP.1
  have hq := hS.2.2.2
  obtain ⟨ps, psz, pcon, hPt⟩ := hC.2.2.2.1
  have hp7 := hPt.c7
  obtain ⟨t, ht, hto⟩ := hC.2.2.1
  have ht0 := ht.1
  have hmt := hC.2.2.2.2.2.1
  have hm26 : h.2 26 = oC 2 [.ref 27] := by
    obtain ⟨n, B, A, a1, _⟩ := hmt
    exact a1
  have lsz := lay_sz hx
  refine en_O_entry ?_
  refine e_aload_0 (p' := 1) D_O_entry_0 rfl ?_
  refine e_getfield (p' := 4) D_O_entry_1 F_O_10 (by first | assumption | exact sUp_eq | (rw [sUp_ne (by omega)]; assumption) | (rw [sUp_ne (by omega), sUp_ne (by omega)]; assumption) | (rw [sUp_ne (by omega)]; exact sUp_eq) | (rw [gSet_ne (by omega) (by omega)]; first | assumption | exact sUp_eq | (rw [sUp_ne (by omega)]; assumption) | (rw [sUp_ne (by omega), sUp_ne (by omega)]; assumption)) | (rw [sUp_ne (by omega), sUp_ne (by omega), sUp_ne (by omega)]; assumption) | (simp [sUp]; done)) (by rfl) rfl ?_
  refine e_iload_1 (p' := 5) D_O_entry_4 rfl ?_
  refine e_iload_2 (p' := 6) D_O_entry_5 rfl ?_
  refine x_callV1 (p' := 9) D_O_entry_6 V_O_128 (c_Grid_has hG) rfl (by first | assumption | exact sUp_eq | (rw [sUp_ne (by omega)]; assumption) | (rw [sUp_ne (by omega), sUp_ne (by omega)]; assumption) | (rw [sUp_ne (by omega)]; exact sUp_eq) | (rw [gSet_ne (by omega) (by omega)]; first | assumption | exact sUp_eq | (rw [sUp_ne (by omega)]; assumption) | (rw [sUp_ne (by omega), sUp_ne (by omega)]; assumption)) | (rw [sUp_ne (by omega), sUp_ne (by omega), sUp_ne (by omega)]; assumption) | (simp [sUp]; done)) rfl (Nat.le_of_ble_eq_true rfl) (by decide) ⟨by decide, by decide⟩ rfl ?_
  refine e_ifB_ne (q := 14) (p' := 12) D_O_entry_9 rfl rfl (fun hc9 => ?_) (fun hc9 => ?_)
  ·
    obtain ⟨kr, kc, kr1, kc1, rfl, rfl⟩ := has_N hx hc9
    refine e_iload_3 (p' := 15) D_O_entry_14 rfl ?_
    by_cases hw15_0 : w = nI 0
    · subst hw15_0
      refine e_tsIn (off := 29) (p' := 44) D_O_entry_15 (by decide) (by decide) rfl rfl ?_
      refine e_aload_0 (p' := 45) D_O_entry_44 rfl ?_
      refine e_getfield (p' := 48) D_O_entry_45 F_O_10 (by first | assumption | exact sUp_eq | (rw [sUp_ne (by omega)]; assumption) | (rw [sUp_ne (by omega), sUp_ne (by omega)]; assumption) | (rw [sUp_ne (by omega)]; exact sUp_eq) | (rw [gSet_ne (by omega) (by omega)]; first | assumption | exact sUp_eq | (rw [sUp_ne (by omega)]; assumption) | (rw [sUp_ne (by omega), sUp_ne (by omega)]; assumption)) | (rw [sUp_ne (by omega), sUp_ne (by omega), sUp_ne (by omega)]; assumption) | (simp [sUp]; done)) (by rfl) rfl ?_
      refine e_iload_1 (p' := 49) D_O_entry_48 rfl ?_
      refine e_iload_2 (p' := 50) D_O_entry_49 rfl ?_
      refine x_callV1 (p' := 53) D_O_entry_50 V_O_85 (c_Grid_number hG hx (by omega) (by omega)) rfl (by first | assumption | exact sUp_eq | (rw [sUp_ne (by omega)]; assumption) | (rw [sUp_ne (by omega), sUp_ne (by omega)]; assumption) | (rw [sUp_ne (by omega)]; exact sUp_eq) | (rw [gSet_ne (by omega) (by omega)]; first | assumption | exact sUp_eq | (rw [sUp_ne (by omega)]; assumption) | (rw [sUp_ne (by omega), sUp_ne (by omega)]; assumption)) | (rw [sUp_ne (by omega), sUp_ne (by omega), sUp_ne (by omega)]; assumption) | (simp [sUp]; done)) rfl (Nat.le_of_ble_eq_true rfl) (by decide) ⟨by decide, by decide⟩ rfl ?_
      refine e_ireturn (ty := .int) D_O_entry_53 rfl (by first | rfl | exact sBo_nar _) ⟨by decide, by decide⟩ ?_
      rw [show Ventry st.1 (nI kr) (nI kc) (nI 0) = nI (at' st.1 kr kc) from by unfold Ventry; rw [if_neg (by rw [hc9]; decide), natOf_nI (by omega), natOf_nI (by omega), if_pos rfl]]
      exact ⟨rfl, hC, FrO.rf⟩
    by_cases hw15_1 : w = nI 1
    · subst hw15_1
      refine e_tsIn (off := 39) (p' := 54) D_O_entry_15 (by decide) (by decide) rfl rfl ?_
      refine e_aload_0 (p' := 55) D_O_entry_54 rfl ?_
      refine e_getfield (p' := 58) D_O_entry_55 F_O_22 (by first | assumption | exact sUp_eq | (rw [sUp_ne (by omega)]; assumption) | (rw [sUp_ne (by omega), sUp_ne (by omega)]; assumption) | (rw [sUp_ne (by omega)]; exact sUp_eq) | (rw [gSet_ne (by omega) (by omega)]; first | assumption | exact sUp_eq | (rw [sUp_ne (by omega)]; assumption) | (rw [sUp_ne (by omega), sUp_ne (by omega)]; assumption)) | (rw [sUp_ne (by omega), sUp_ne (by omega), sUp_ne (by omega)]; assumption) | (simp [sUp]; done)) (by rfl) rfl ?_
      refine e_aload_0 (p' := 59) D_O_entry_58 rfl ?_
      refine e_getfield (p' := 62) D_O_entry_59 F_O_10 (by first | assumption | exact sUp_eq | (rw [sUp_ne (by omega)]; assumption) | (rw [sUp_ne (by omega), sUp_ne (by omega)]; assumption) | (rw [sUp_ne (by omega)]; exact sUp_eq) | (rw [gSet_ne (by omega) (by omega)]; first | assumption | exact sUp_eq | (rw [sUp_ne (by omega)]; assumption) | (rw [sUp_ne (by omega), sUp_ne (by omega)]; assumption)) | (rw [sUp_ne (by omega), sUp_ne (by omega), sUp_ne (by omega)]; assumption) | (simp [sUp]; done)) (by rfl) rfl ?_
      refine y_callV0 (p' := 65) D_O_entry_62 V_O_92 (c_Parts_find hG hx (by omega) hPt) rfl (by first | assumption | exact sUp_eq | (rw [sUp_ne (by omega)]; assumption) | (rw [sUp_ne (by omega), sUp_ne (by omega)]; assumption) | (rw [sUp_ne (by omega)]; exact sUp_eq) | (rw [gSet_ne (by omega) (by omega)]; first | assumption | exact sUp_eq | (rw [sUp_ne (by omega)]; assumption) | (rw [sUp_ne (by omega), sUp_ne (by omega)]; assumption)) | (rw [sUp_ne (by omega), sUp_ne (by omega), sUp_ne (by omega)]; assumption) | (simp [sUp]; done)) rfl (Nat.le_of_ble_eq_true rfl) (by decide) ⟨by decide, by decide⟩ rfl ?_
      rintro h0 ⟨hp1, hf0⟩
      have C0 := hC.fr hf0 ⟨_, _, _, hp1⟩
      have d00 := C0.1
      have p07 := hp1.c7
      have g00 := C0.2.1.1
      refine e_aload_0 (p' := 66) D_O_entry_65 rfl ?_
      refine e_getfield (p' := 69) D_O_entry_66 F_O_22 (by first | assumption | exact sUp_eq | (rw [sUp_ne (by omega)]; assumption) | (rw [sUp_ne (by omega), sUp_ne (by omega)]; assumption) | (rw [sUp_ne (by omega)]; exact sUp_eq) | (rw [gSet_ne (by omega) (by omega)]; first | assumption | exact sUp_eq | (rw [sUp_ne (by omega)]; assumption) | (rw [sUp_ne (by omega), sUp_ne (by omega)]; assumption)) | (rw [sUp_ne (by omega), sUp_ne (by omega), sUp_ne (by omega)]; assumption) | (simp [sUp]; done)) (by rfl) rfl ?_
      refine e_aload_0 (p' := 70) D_O_entry_69 rfl ?_
      refine e_getfield (p' := 73) D_O_entry_70 F_O_10 (by first | assumption | exact sUp_eq | (rw [sUp_ne (by omega)]; assumption) | (rw [sUp_ne (by omega), sUp_ne (by omega)]; assumption) | (rw [sUp_ne (by omega)]; exact sUp_eq) | (rw [gSet_ne (by omega) (by omega)]; first | assumption | exact sUp_eq | (rw [sUp_ne (by omega)]; assumption) | (rw [sUp_ne (by omega), sUp_ne (by omega)]; assumption)) | (rw [sUp_ne (by omega), sUp_ne (by omega), sUp_ne (by omega)]; assumption) | (simp [sUp]; done)) (by rfl) rfl ?_
      refine e_iload_1 (p' := 74) D_O_entry_73 rfl ?_
      refine e_iload_2 (p' := 75) D_O_entry_74 rfl ?_
      refine x_callV1 (p' := 78) D_O_entry_75 V_O_131 (c_Parts_following C0.2.1 hx (by omega) hp1 (lay_pv hx) (lay_kn hx) kr1 kc1) rfl (by first | assumption | exact sUp_eq | (rw [sUp_ne (by omega)]; assumption) | (rw [sUp_ne (by omega), sUp_ne (by omega)]; assumption) | (rw [sUp_ne (by omega)]; exact sUp_eq) | (rw [gSet_ne (by omega) (by omega)]; first | assumption | exact sUp_eq | (rw [sUp_ne (by omega)]; assumption) | (rw [sUp_ne (by omega), sUp_ne (by omega)]; assumption)) | (rw [sUp_ne (by omega), sUp_ne (by omega), sUp_ne (by omega)]; assumption) | (simp [sUp]; done)) rfl (Nat.le_of_ble_eq_true rfl) (by decide) ⟨by decide, by decide⟩ rfl ?_
      refine e_ireturn (ty := .int) D_O_entry_78 rfl (by first | rfl | exact sBo_nar _) ⟨by decide, by decide⟩ ?_
      rw [show Ventry st.1 (nI kr) (nI kc) (nI 1) = fol st.1 kr kc from by unfold Ventry; rw [if_neg (by rw [hc9]; decide), natOf_nI (by omega), natOf_nI (by omega), if_neg (by decide), if_pos rfl]]
      exact ⟨rfl, C0, hf0.o⟩
    by_cases hw15_2 : w = nI 2
    · subst hw15_2
      refine e_tsIn (off := 64) (p' := 79) D_O_entry_15 (by decide) (by decide) rfl rfl ?_
      refine e_aload_0 (p' := 80) D_O_entry_79 rfl ?_
      refine e_getfield (p' := 83) D_O_entry_80 F_O_16 (by first | assumption | exact sUp_eq | (rw [sUp_ne (by omega)]; assumption) | (rw [sUp_ne (by omega), sUp_ne (by omega)]; assumption) | (rw [sUp_ne (by omega)]; exact sUp_eq) | (rw [gSet_ne (by omega) (by omega)]; first | assumption | exact sUp_eq | (rw [sUp_ne (by omega)]; assumption) | (rw [sUp_ne (by omega), sUp_ne (by omega)]; assumption)) | (rw [sUp_ne (by omega), sUp_ne (by omega), sUp_ne (by omega)]; assumption) | (simp [sUp]; done)) (by rfl) rfl ?_
      refine e_aload_0 (p' := 84) D_O_entry_83 rfl ?_
      refine e_getfield (p' := 87) D_O_entry_84 F_O_10 (by first | assumption | exact sUp_eq | (rw [sUp_ne (by omega)]; assumption) | (rw [sUp_ne (by omega), sUp_ne (by omega)]; assumption) | (rw [sUp_ne (by omega)]; exact sUp_eq) | (rw [gSet_ne (by omega) (by omega)]; first | assumption | exact sUp_eq | (rw [sUp_ne (by omega)]; assumption) | (rw [sUp_ne (by omega), sUp_ne (by omega)]; assumption)) | (rw [sUp_ne (by omega), sUp_ne (by omega), sUp_ne (by omega)]; assumption) | (simp [sUp]; done)) (by rfl) rfl ?_
      refine x_callV0 (p' := 90) D_O_entry_87 V_O_134 (c_Grid_copyFrom ht hto hG hx (by omega)) rfl (by first | assumption | exact sUp_eq | (rw [sUp_ne (by omega)]; assumption) | (rw [sUp_ne (by omega), sUp_ne (by omega)]; assumption) | (rw [sUp_ne (by omega)]; exact sUp_eq) | (rw [gSet_ne (by omega) (by omega)]; first | assumption | exact sUp_eq | (rw [sUp_ne (by omega)]; assumption) | (rw [sUp_ne (by omega), sUp_ne (by omega)]; assumption)) | (rw [sUp_ne (by omega), sUp_ne (by omega), sUp_ne (by omega)]; assumption) | (simp [sUp]; done)) rfl (Nat.le_of_ble_eq_true rfl) (by decide) ⟨by decide, by decide⟩ rfl ?_
      have C1 := hC.tr4 hx
      have T1 : GridAt (gSet h 4 st.1) 4 st.1 := gSet_at ht
      have c10 := C1.1
      have t10 := T1.1
      refine e_aload_0 (p' := 91) D_O_entry_90 rfl ?_
      refine e_getfield (p' := 94) D_O_entry_91 F_O_16 (by first | assumption | exact sUp_eq | (rw [sUp_ne (by omega)]; assumption) | (rw [sUp_ne (by omega), sUp_ne (by omega)]; assumption) | (rw [sUp_ne (by omega)]; exact sUp_eq) | (rw [gSet_ne (by omega) (by omega)]; first | assumption | exact sUp_eq | (rw [sUp_ne (by omega)]; assumption) | (rw [sUp_ne (by omega), sUp_ne (by omega)]; assumption)) | (rw [sUp_ne (by omega), sUp_ne (by omega), sUp_ne (by omega)]; assumption) | (simp [sUp]; done)) (by rfl) rfl ?_
      refine e_iload_1 (p' := 95) D_O_entry_94 rfl ?_
      refine e_iload_2 (p' := 96) D_O_entry_95 rfl ?_
      refine e_iconst (v := nI 0) (p' := 97) D_O_entry_96 cst_iconst_0 rfl ?_
      refine x_callV0 (p' := 100) D_O_entry_97 V_O_89 (c_Grid_setNumber (v := 0) T1 hx kr1 kc1) rfl (by first | assumption | exact sUp_eq | (rw [sUp_ne (by omega)]; assumption) | (rw [sUp_ne (by omega), sUp_ne (by omega)]; assumption) | (rw [sUp_ne (by omega)]; exact sUp_eq) | (rw [gSet_ne (by omega) (by omega)]; first | assumption | exact sUp_eq | (rw [sUp_ne (by omega)]; assumption) | (rw [sUp_ne (by omega), sUp_ne (by omega)]; assumption)) | (rw [sUp_ne (by omega), sUp_ne (by omega), sUp_ne (by omega)]; assumption) | (simp [sUp]; done)) rfl (Nat.le_of_ble_eq_true rfl) (by decide) ⟨by decide, by decide⟩ rfl ?_
      have uok := up1_ok hx kr1 kc1 (show 0 < st.1.1.2.2 by omega)
      have C2 := C1.tr4 uok
      have T2 := gSet_at (x := upd1 st.1 kr kc 0) T1
      have c20 := C2.1
      have t20 := T2.1
      obtain ⟨ps2, sz2, con2, P2⟩ := C2.2.2.2.1
      have p27 := P2.c7
      refine e_aload_0 (p' := 101) D_O_entry_100 rfl ?_
      refine e_getfield (p' := 104) D_O_entry_101 F_O_22 (by first | assumption | exact sUp_eq | (rw [sUp_ne (by omega)]; assumption) | (rw [sUp_ne (by omega), sUp_ne (by omega)]; assumption) | (rw [sUp_ne (by omega)]; exact sUp_eq) | (rw [gSet_ne (by omega) (by omega)]; first | assumption | exact sUp_eq | (rw [sUp_ne (by omega)]; assumption) | (rw [sUp_ne (by omega), sUp_ne (by omega)]; assumption)) | (rw [sUp_ne (by omega), sUp_ne (by omega), sUp_ne (by omega)]; assumption) | (simp [sUp]; done)) (by rfl) rfl ?_
      refine e_aload_0 (p' := 105) D_O_entry_104 rfl ?_
      refine e_getfield (p' := 108) D_O_entry_105 F_O_16 (by first | assumption | exact sUp_eq | (rw [sUp_ne (by omega)]; assumption) | (rw [sUp_ne (by omega), sUp_ne (by omega)]; assumption) | (rw [sUp_ne (by omega)]; exact sUp_eq) | (rw [gSet_ne (by omega) (by omega)]; first | assumption | exact sUp_eq | (rw [sUp_ne (by omega)]; assumption) | (rw [sUp_ne (by omega), sUp_ne (by omega)]; assumption)) | (rw [sUp_ne (by omega), sUp_ne (by omega), sUp_ne (by omega)]; assumption) | (simp [sUp]; done)) (by rfl) rfl ?_
      refine y_callV0 (p' := 111) D_O_entry_108 V_O_92 (c_Parts_find T2 uok (by omega) P2) rfl (by first | assumption | exact sUp_eq | (rw [sUp_ne (by omega)]; assumption) | (rw [sUp_ne (by omega), sUp_ne (by omega)]; assumption) | (rw [sUp_ne (by omega)]; exact sUp_eq) | (rw [gSet_ne (by omega) (by omega)]; first | assumption | exact sUp_eq | (rw [sUp_ne (by omega)]; assumption) | (rw [sUp_ne (by omega), sUp_ne (by omega)]; assumption)) | (rw [sUp_ne (by omega), sUp_ne (by omega), sUp_ne (by omega)]; assumption) | (simp [sUp]; done)) rfl (Nat.le_of_ble_eq_true rfl) (by decide) ⟨by decide, by decide⟩ rfl ?_
      rintro h3 ⟨P3, f3⟩
      have C3 := C2.fr f3 ⟨_, _, _, P3⟩
      have c30 := C3.1
      have p37 := P3.c7
      have T3 := T2.fr f3 (by omega)
      have t30 := T3.1
      have F3 : FrO h h3 := fun a ha => (f3 a (by omega)).trans ((gSet_ne (by omega) (by omega)).trans (gSet_ne (by omega) (by omega)))
      refine e_aload_0 (p' := 112) D_O_entry_111 rfl ?_
      refine e_getfield (p' := 115) D_O_entry_112 F_O_22 (by first | assumption | exact sUp_eq | (rw [sUp_ne (by omega)]; assumption) | (rw [sUp_ne (by omega), sUp_ne (by omega)]; assumption) | (rw [sUp_ne (by omega)]; exact sUp_eq) | (rw [gSet_ne (by omega) (by omega)]; first | assumption | exact sUp_eq | (rw [sUp_ne (by omega)]; assumption) | (rw [sUp_ne (by omega), sUp_ne (by omega)]; assumption)) | (rw [sUp_ne (by omega), sUp_ne (by omega), sUp_ne (by omega)]; assumption) | (simp [sUp]; done)) (by rfl) rfl ?_
      refine e_aload_0 (p' := 116) D_O_entry_115 rfl ?_
      refine e_getfield (p' := 119) D_O_entry_116 F_O_16 (by first | assumption | exact sUp_eq | (rw [sUp_ne (by omega)]; assumption) | (rw [sUp_ne (by omega), sUp_ne (by omega)]; assumption) | (rw [sUp_ne (by omega)]; exact sUp_eq) | (rw [gSet_ne (by omega) (by omega)]; first | assumption | exact sUp_eq | (rw [sUp_ne (by omega)]; assumption) | (rw [sUp_ne (by omega), sUp_ne (by omega)]; assumption)) | (rw [sUp_ne (by omega), sUp_ne (by omega), sUp_ne (by omega)]; assumption) | (simp [sUp]; done)) (by rfl) rfl ?_
      refine e_iload_1 (p' := 120) D_O_entry_119 rfl ?_
      refine e_iload_2 (p' := 121) D_O_entry_120 rfl ?_
      refine x_callV1 (p' := 124) D_O_entry_121 V_O_131 (c_Parts_following T3 uok (by omega) P3 (lay_pv uok) (lay_kn uok) kr1 kc1) rfl (by first | assumption | exact sUp_eq | (rw [sUp_ne (by omega)]; assumption) | (rw [sUp_ne (by omega), sUp_ne (by omega)]; assumption) | (rw [sUp_ne (by omega)]; exact sUp_eq) | (rw [gSet_ne (by omega) (by omega)]; first | assumption | exact sUp_eq | (rw [sUp_ne (by omega)]; assumption) | (rw [sUp_ne (by omega), sUp_ne (by omega)]; assumption)) | (rw [sUp_ne (by omega), sUp_ne (by omega), sUp_ne (by omega)]; assumption) | (simp [sUp]; done)) rfl (Nat.le_of_ble_eq_true rfl) (by decide) ⟨by decide, by decide⟩ rfl ?_
      refine e_ireturn (ty := .int) D_O_entry_124 rfl (by first | rfl | exact sBo_nar _) ⟨by decide, by decide⟩ ?_
      rw [show Ventry st.1 (nI kr) (nI kc) (nI 2) = fol (upd1 st.1 kr kc 0) kr kc from by unfold Ventry; rw [if_neg (by rw [hc9]; decide), natOf_nI (by omega), natOf_nI (by omega), if_neg (by decide), if_neg (by decide), if_pos rfl]]
      exact ⟨rfl, C3, F3⟩
    by_cases hw15_3 : w = nI 3
    · subst hw15_3
      refine e_tsIn (off := 110) (p' := 125) D_O_entry_15 (by decide) (by decide) rfl rfl ?_
      refine e_aload_0 (p' := 126) D_O_entry_125 rfl ?_
      refine e_getfield (p' := 129) D_O_entry_126 F_O_36 (by first | assumption | exact sUp_eq | (rw [sUp_ne (by omega)]; assumption) | (rw [sUp_ne (by omega), sUp_ne (by omega)]; assumption) | (rw [sUp_ne (by omega)]; exact sUp_eq) | (rw [gSet_ne (by omega) (by omega)]; first | assumption | exact sUp_eq | (rw [sUp_ne (by omega)]; assumption) | (rw [sUp_ne (by omega), sUp_ne (by omega)]; assumption)) | (rw [sUp_ne (by omega), sUp_ne (by omega), sUp_ne (by omega)]; assumption) | (simp [sUp]; done)) (by rfl) rfl ?_
      refine e_aload_0 (p' := 130) D_O_entry_129 rfl ?_
      refine e_getfield (p' := 133) D_O_entry_130 F_O_10 (by first | assumption | exact sUp_eq | (rw [sUp_ne (by omega)]; assumption) | (rw [sUp_ne (by omega), sUp_ne (by omega)]; assumption) | (rw [sUp_ne (by omega)]; exact sUp_eq) | (rw [gSet_ne (by omega) (by omega)]; first | assumption | exact sUp_eq | (rw [sUp_ne (by omega)]; assumption) | (rw [sUp_ne (by omega), sUp_ne (by omega)]; assumption)) | (rw [sUp_ne (by omega), sUp_ne (by omega), sUp_ne (by omega)]; assumption) | (simp [sUp]; done)) (by rfl) rfl ?_
      refine e_iload_1 (p' := 134) D_O_entry_133 rfl ?_
      refine e_iload_2 (p' := 135) D_O_entry_134 rfl ?_
      refine x_callV1 (p' := 138) D_O_entry_135 V_O_137 (c_Min_countThrough hG hx kr1 kc1) rfl (by first | assumption | exact sUp_eq | (rw [sUp_ne (by omega)]; assumption) | (rw [sUp_ne (by omega), sUp_ne (by omega)]; assumption) | (rw [sUp_ne (by omega)]; exact sUp_eq) | (rw [gSet_ne (by omega) (by omega)]; first | assumption | exact sUp_eq | (rw [sUp_ne (by omega)]; assumption) | (rw [sUp_ne (by omega), sUp_ne (by omega)]; assumption)) | (rw [sUp_ne (by omega), sUp_ne (by omega), sUp_ne (by omega)]; assumption) | (simp [sUp]; done)) rfl (Nat.le_of_ble_eq_true rfl) (by decide) ⟨by decide, by decide⟩ rfl ?_
      refine e_ireturn (ty := .int) D_O_entry_138 rfl (by first | rfl | exact sBo_nar _) ⟨by decide, by decide⟩ ?_
      rw [show Ventry st.1 (nI kr) (nI kc) (nI 3) = nI (cth st.1 kr kc) from by unfold Ventry; rw [if_neg (by rw [hc9]; decide), natOf_nI (by omega), natOf_nI (by omega), if_neg (by decide), if_neg (by decide), if_neg (by decide), if_pos rfl]]
      exact ⟨rfl, hC, FrO.rf⟩
    refine e_tsOut (p' := 139) D_O_entry_15 (ts_out (n := 3) (by omega) (fun k hk => by rcases (show k = 0 ∨ k = 1 ∨ k = 2 ∨ k = 3 by omega) with rfl | rfl | rfl | rfl <;> assumption)) rfl ?_
    refine e_bipush (v := (-2)) (p' := 141) D_O_entry_139 cst_bipush_m2 rfl ?_
    refine e_ireturn (ty := .int) D_O_entry_141 rfl (by first | rfl | exact sBo_nar _) ⟨by decide, by decide⟩ ?_
    unfold Ventry
    rw [if_neg (by rw [hc9]; decide), if_neg hw15_0, if_neg hw15_1, if_neg hw15_2, if_neg hw15_3]
    exact ⟨rfl, hC, FrO.rf⟩
  ·
    refine e_iconst (v := (-1)) (p' := 13) D_O_entry_12 cst_iconst_m1 rfl ?_
    refine e_ireturn (ty := .int) D_O_entry_13 rfl (by first | rfl | exact sBo_nar _) ⟨by decide, by decide⟩ ?_
    unfold Ventry; rw [if_pos hc9]; exact ⟨rfl, hC, FrO.rf⟩
set_option maxRecDepth 4000 in
theorem c_O_part {l : Launch} {h : sH} {st : St} (hC : CInv h st) (hS : StOk st) {p w : Int32} : sY l m_O_part 5 [.ref 0, .int p, .int w] h (some (.int (Vpart st.1 p w))) (CR h st) := by
  have c0 := hC.1
  have hG := hC.2.1
  have hx := hS.1
  have hM := hx.2.2.1.le
  have hRr := hx.1
  have hCc := hx.2.1
  obtain ⟨g0, g1, g2⟩ := hC.2.1
  have hH := hC.2.2.2.2.2.2.2.1
  have hH32 : ∃ a b c, h.2 32 = oC 1 [a, b, c] := by
    obtain ⟨o, f, Y, C, _⟩ := hH
    exact ⟨_, _, _, C.1⟩
  obtain ⟨_, _, _, hH32⟩ := hH32
  obtain ⟨ry, cy, hP⟩ := hC.2.2.2.2.2.2.1
  have hp0 := hP.1
  have hq := hS.2.2.2
  obtain ⟨ps, psz, pcon, hPt⟩ := hC.2.2.2.1
  have hp7 := hPt.c7
  obtain ⟨t, ht, hto⟩ := hC.2.2.1
  have ht0 := ht.1
  have hmt := hC.2.2.2.2.2.1
  have hm26 : h.2 26 = oC 2 [.ref 27] := by
    obtain ⟨n, B, A, a1, _⟩ := hmt
    exact a1
  have lsz := lay_sz hx
  refine en_O_part ?_
  refine e_aload_0 (p' := 1) D_O_part_0 rfl ?_
  refine e_getfield (p' := 4) D_O_part_1 F_O_22 (by first | assumption | exact sUp_eq | (rw [sUp_ne (by omega)]; assumption) | (rw [sUp_ne (by omega), sUp_ne (by omega)]; assumption) | (rw [sUp_ne (by omega)]; exact sUp_eq) | (rw [gSet_ne (by omega) (by omega)]; first | assumption | exact sUp_eq | (rw [sUp_ne (by omega)]; assumption) | (rw [sUp_ne (by omega), sUp_ne (by omega)]; assumption)) | (rw [sUp_ne (by omega), sUp_ne (by omega), sUp_ne (by omega)]; assumption) | (simp [sUp]; done)) (by rfl) rfl ?_
  refine e_aload_0 (p' := 5) D_O_part_4 rfl ?_
  refine e_getfield (p' := 8) D_O_part_5 F_O_10 (by first | assumption | exact sUp_eq | (rw [sUp_ne (by omega)]; assumption) | (rw [sUp_ne (by omega), sUp_ne (by omega)]; assumption) | (rw [sUp_ne (by omega)]; exact sUp_eq) | (rw [gSet_ne (by omega) (by omega)]; first | assumption | exact sUp_eq | (rw [sUp_ne (by omega)]; assumption) | (rw [sUp_ne (by omega), sUp_ne (by omega)]; assumption)) | (rw [sUp_ne (by omega), sUp_ne (by omega), sUp_ne (by omega)]; assumption) | (simp [sUp]; done)) (by rfl) rfl ?_
  refine y_callV0 (p' := 11) D_O_part_8 V_O_92 (c_Parts_find hG hx (by omega) hPt) rfl (by first | assumption | exact sUp_eq | (rw [sUp_ne (by omega)]; assumption) | (rw [sUp_ne (by omega), sUp_ne (by omega)]; assumption) | (rw [sUp_ne (by omega)]; exact sUp_eq) | (rw [gSet_ne (by omega) (by omega)]; first | assumption | exact sUp_eq | (rw [sUp_ne (by omega)]; assumption) | (rw [sUp_ne (by omega), sUp_ne (by omega)]; assumption)) | (rw [sUp_ne (by omega), sUp_ne (by omega), sUp_ne (by omega)]; assumption) | (simp [sUp]; done)) rfl (Nat.le_of_ble_eq_true rfl) (by decide) ⟨by decide, by decide⟩ rfl ?_
  rintro h0 ⟨hp1, hf0⟩
  have C0 := hC.fr hf0 ⟨_, _, _, hp1⟩
  have d00 := C0.1
  have p07 := hp1.c7
  have g00 := C0.2.1.1
  refine e_iload_1 (p' := 12) D_O_part_11 rfl ?_
  refine e_iconst (v := nI 0) (p' := 13) D_O_part_12 cst_iconst_0 rfl ?_
  refine e_aload_0 (p' := 14) D_O_part_13 rfl ?_
  refine e_getfield (p' := 17) D_O_part_14 F_O_22 (by first | assumption | exact sUp_eq | (rw [sUp_ne (by omega)]; assumption) | (rw [sUp_ne (by omega), sUp_ne (by omega)]; assumption) | (rw [sUp_ne (by omega)]; exact sUp_eq) | (rw [gSet_ne (by omega) (by omega)]; first | assumption | exact sUp_eq | (rw [sUp_ne (by omega)]; assumption) | (rw [sUp_ne (by omega), sUp_ne (by omega)]; assumption)) | (rw [sUp_ne (by omega), sUp_ne (by omega), sUp_ne (by omega)]; assumption) | (simp [sUp]; done)) (by rfl) rfl ?_
  refine x_callV1 (p' := 20) D_O_part_17 V_O_140 (c_Parts_size hp1) rfl (by first | assumption | exact sUp_eq | (rw [sUp_ne (by omega)]; assumption) | (rw [sUp_ne (by omega), sUp_ne (by omega)]; assumption) | (rw [sUp_ne (by omega)]; exact sUp_eq) | (rw [gSet_ne (by omega) (by omega)]; first | assumption | exact sUp_eq | (rw [sUp_ne (by omega)]; assumption) | (rw [sUp_ne (by omega), sUp_ne (by omega)]; assumption)) | (rw [sUp_ne (by omega), sUp_ne (by omega), sUp_ne (by omega)]; assumption) | (simp [sUp]; done)) rfl (Nat.le_of_ble_eq_true rfl) (by decide) ⟨by decide, by decide⟩ rfl ?_
  refine e_iconst (v := nI 1) (p' := 21) D_O_part_20 cst_iconst_1 rfl ?_
  first | refine e_isubN (p' := 22) D_O_part_21 (by omega) rfl ?_ | refine e_isub (p' := 22) D_O_part_21 rfl ?_
  refine x_callS1 (p' := 25) D_O_part_22 S_O_61 (c_O_isOutside) rfl rfl (Nat.le_of_ble_eq_true rfl) (by decide) ⟨by decide, by decide⟩ rfl ?_
  refine e_ifB_eq (q := 30) (p' := 28) D_O_part_25 rfl rfl (fun hc25 => ?_) (fun hc25 => ?_)
  ·
    obtain ⟨kp, kp1, kp2, rfl⟩ := in_R (a := 0) (by omega) (by omega) hc25
    refine e_iload_2 (p' := 31) D_O_part_30 rfl ?_
    by_cases hw31_0 : w = nI 0
    · subst hw31_0
      refine e_tsIn (off := 25) (p' := 56) D_O_part_31 (by decide) (by decide) rfl rfl ?_
      refine e_aload_0 (p' := 57) D_O_part_56 rfl ?_
      refine e_getfield (p' := 60) D_O_part_57 F_O_22 (by first | assumption | exact sUp_eq | (rw [sUp_ne (by omega)]; assumption) | (rw [sUp_ne (by omega), sUp_ne (by omega)]; assumption) | (rw [sUp_ne (by omega)]; exact sUp_eq) | (rw [gSet_ne (by omega) (by omega)]; first | assumption | exact sUp_eq | (rw [sUp_ne (by omega)]; assumption) | (rw [sUp_ne (by omega), sUp_ne (by omega)]; assumption)) | (rw [sUp_ne (by omega), sUp_ne (by omega), sUp_ne (by omega)]; assumption) | (simp [sUp]; done)) (by rfl) rfl ?_
      refine e_iload_1 (p' := 61) D_O_part_60 rfl ?_
      refine x_callV1 (p' := 64) D_O_part_61 V_O_143 ((by have := c_Parts_rowsOf (l := l) hp1 (lay_pv hx).2 (q := kp + 1) (by omega); rw [← pI_N] at this; exact this)) rfl (by first | assumption | exact sUp_eq | (rw [sUp_ne (by omega)]; assumption) | (rw [sUp_ne (by omega), sUp_ne (by omega)]; assumption) | (rw [sUp_ne (by omega)]; exact sUp_eq) | (rw [gSet_ne (by omega) (by omega)]; first | assumption | exact sUp_eq | (rw [sUp_ne (by omega)]; assumption) | (rw [sUp_ne (by omega), sUp_ne (by omega)]; assumption)) | (rw [sUp_ne (by omega), sUp_ne (by omega), sUp_ne (by omega)]; assumption) | (simp [sUp]; done)) rfl (Nat.le_of_ble_eq_true rfl) (by decide) ⟨by decide, by decide⟩ rfl ?_
      refine e_ireturn (ty := .int) D_O_part_64 rfl (by first | rfl | exact sBo_nar _) ⟨by decide, by decide⟩ ?_
      unfold Vpart
      rw [if_neg (by rw [hc25]; decide), natOf_nI (by omega), if_pos rfl]
      exact ⟨rfl, C0, hf0.o⟩
    by_cases hw31_1 : w = nI 1
    · subst hw31_1
      refine e_tsIn (off := 34) (p' := 65) D_O_part_31 (by decide) (by decide) rfl rfl ?_
      refine e_aload_0 (p' := 66) D_O_part_65 rfl ?_
      refine e_getfield (p' := 69) D_O_part_66 F_O_22 (by first | assumption | exact sUp_eq | (rw [sUp_ne (by omega)]; assumption) | (rw [sUp_ne (by omega), sUp_ne (by omega)]; assumption) | (rw [sUp_ne (by omega)]; exact sUp_eq) | (rw [gSet_ne (by omega) (by omega)]; first | assumption | exact sUp_eq | (rw [sUp_ne (by omega)]; assumption) | (rw [sUp_ne (by omega), sUp_ne (by omega)]; assumption)) | (rw [sUp_ne (by omega), sUp_ne (by omega), sUp_ne (by omega)]; assumption) | (simp [sUp]; done)) (by rfl) rfl ?_
      refine e_iload_1 (p' := 70) D_O_part_69 rfl ?_
      refine x_callV1 (p' := 73) D_O_part_70 V_O_147 ((by have := c_Parts_columnsOf (l := l) hp1 (lay_pv hx).2 (q := kp + 1) (by omega); rw [← pI_N] at this; exact this)) rfl (by first | assumption | exact sUp_eq | (rw [sUp_ne (by omega)]; assumption) | (rw [sUp_ne (by omega), sUp_ne (by omega)]; assumption) | (rw [sUp_ne (by omega)]; exact sUp_eq) | (rw [gSet_ne (by omega) (by omega)]; first | assumption | exact sUp_eq | (rw [sUp_ne (by omega)]; assumption) | (rw [sUp_ne (by omega), sUp_ne (by omega)]; assumption)) | (rw [sUp_ne (by omega), sUp_ne (by omega), sUp_ne (by omega)]; assumption) | (simp [sUp]; done)) rfl (Nat.le_of_ble_eq_true rfl) (by decide) ⟨by decide, by decide⟩ rfl ?_
      refine e_ireturn (ty := .int) D_O_part_73 rfl (by first | rfl | exact sBo_nar _) ⟨by decide, by decide⟩ ?_
      unfold Vpart
      rw [if_neg (by rw [hc25]; decide), natOf_nI (by omega), if_neg (by decide), if_pos rfl]
      exact ⟨rfl, C0, hf0.o⟩
    by_cases hw31_2 : w = nI 2
    · subst hw31_2
      refine e_tsIn (off := 43) (p' := 74) D_O_part_31 (by decide) (by decide) rfl rfl ?_
      refine e_aload_0 (p' := 75) D_O_part_74 rfl ?_
      refine e_getfield (p' := 78) D_O_part_75 F_O_22 (by first | assumption | exact sUp_eq | (rw [sUp_ne (by omega)]; assumption) | (rw [sUp_ne (by omega), sUp_ne (by omega)]; assumption) | (rw [sUp_ne (by omega)]; exact sUp_eq) | (rw [gSet_ne (by omega) (by omega)]; first | assumption | exact sUp_eq | (rw [sUp_ne (by omega)]; assumption) | (rw [sUp_ne (by omega), sUp_ne (by omega)]; assumption)) | (rw [sUp_ne (by omega), sUp_ne (by omega), sUp_ne (by omega)]; assumption) | (simp [sUp]; done)) (by rfl) rfl ?_
      refine e_aload_0 (p' := 79) D_O_part_78 rfl ?_
      refine e_getfield (p' := 82) D_O_part_79 F_O_10 (by first | assumption | exact sUp_eq | (rw [sUp_ne (by omega)]; assumption) | (rw [sUp_ne (by omega), sUp_ne (by omega)]; assumption) | (rw [sUp_ne (by omega)]; exact sUp_eq) | (rw [gSet_ne (by omega) (by omega)]; first | assumption | exact sUp_eq | (rw [sUp_ne (by omega)]; assumption) | (rw [sUp_ne (by omega), sUp_ne (by omega)]; assumption)) | (rw [sUp_ne (by omega), sUp_ne (by omega), sUp_ne (by omega)]; assumption) | (simp [sUp]; done)) (by rfl) rfl ?_
      refine e_iload_1 (p' := 83) D_O_part_82 rfl ?_
      refine x_callV1 (p' := 86) D_O_part_83 V_O_150 ((by have := c_Parts_toldIn (l := l) C0.2.1 hx (by omega) hp1 (lay_pv hx) (q := kp + 1) (by omega); rw [← pI_N] at this; exact this)) rfl (by first | assumption | exact sUp_eq | (rw [sUp_ne (by omega)]; assumption) | (rw [sUp_ne (by omega), sUp_ne (by omega)]; assumption) | (rw [sUp_ne (by omega)]; exact sUp_eq) | (rw [gSet_ne (by omega) (by omega)]; first | assumption | exact sUp_eq | (rw [sUp_ne (by omega)]; assumption) | (rw [sUp_ne (by omega), sUp_ne (by omega)]; assumption)) | (rw [sUp_ne (by omega), sUp_ne (by omega), sUp_ne (by omega)]; assumption) | (simp [sUp]; done)) rfl (Nat.le_of_ble_eq_true rfl) (by decide) ⟨by decide, by decide⟩ rfl ?_
      refine e_ireturn (ty := .int) D_O_part_86 rfl (by first | rfl | exact sBo_nar _) ⟨by decide, by decide⟩ ?_
      unfold Vpart
      rw [if_neg (by rw [hc25]; decide), natOf_nI (by omega), if_neg (by decide), if_neg (by decide), if_pos rfl]
      exact ⟨rfl, C0, hf0.o⟩
    refine e_tsOut (p' := 87) D_O_part_31 (ts_out (n := 2) (by omega) (fun k hk => by rcases (show k = 0 ∨ k = 1 ∨ k = 2 by omega) with rfl | rfl | rfl <;> assumption)) rfl ?_
    refine e_bipush (v := (-2)) (p' := 89) D_O_part_87 cst_bipush_m2 rfl ?_
    refine e_ireturn (ty := .int) D_O_part_89 rfl (by first | rfl | exact sBo_nar _) ⟨by decide, by decide⟩ ?_
    unfold Vpart
    rw [if_neg (by rw [hc25]; decide), if_neg hw31_0, if_neg hw31_1, if_neg hw31_2]
    exact ⟨rfl, C0, hf0.o⟩
  ·
    refine e_iconst (v := (-1)) (p' := 29) D_O_part_28 cst_iconst_m1 rfl ?_
    refine e_ireturn (ty := .int) D_O_part_29 rfl (by first | rfl | exact sBo_nar _) ⟨by decide, by decide⟩ ?_
    unfold Vpart; rw [if_pos hc25]; exact ⟨rfl, C0, hf0.o⟩
set_option maxRecDepth 4000 in
theorem c_O_countOfParts {l : Launch} {h : sH} {st : St} (hC : CInv h st) (hS : StOk st) {w : Int32} : sY l m_O_countOfParts 5 [.ref 0, .int w] h (some (.int (Vcop st.1 w))) (CR h st) := by
  have c0 := hC.1
  have hG := hC.2.1
  have hx := hS.1
  have hM := hx.2.2.1.le
  have hRr := hx.1
  have hCc := hx.2.1
  obtain ⟨g0, g1, g2⟩ := hC.2.1
  have hH := hC.2.2.2.2.2.2.2.1
  have hH32 : ∃ a b c, h.2 32 = oC 1 [a, b, c] := by
    obtain ⟨o, f, Y, C, _⟩ := hH
    exact ⟨_, _, _, C.1⟩
  obtain ⟨_, _, _, hH32⟩ := hH32
  obtain ⟨ry, cy, hP⟩ := hC.2.2.2.2.2.2.1
  have hp0 := hP.1
  have hq := hS.2.2.2
  obtain ⟨ps, psz, pcon, hPt⟩ := hC.2.2.2.1
  have hp7 := hPt.c7
  obtain ⟨t, ht, hto⟩ := hC.2.2.1
  have ht0 := ht.1
  have hmt := hC.2.2.2.2.2.1
  have hm26 : h.2 26 = oC 2 [.ref 27] := by
    obtain ⟨n, B, A, a1, _⟩ := hmt
    exact a1
  have lsz := lay_sz hx
  refine en_O_countOfParts ?_
  refine e_aload_0 (p' := 1) D_O_countOfParts_0 rfl ?_
  refine e_getfield (p' := 4) D_O_countOfParts_1 F_O_22 (by first | assumption | exact sUp_eq | (rw [sUp_ne (by omega)]; assumption) | (rw [sUp_ne (by omega), sUp_ne (by omega)]; assumption) | (rw [sUp_ne (by omega)]; exact sUp_eq) | (rw [gSet_ne (by omega) (by omega)]; first | assumption | exact sUp_eq | (rw [sUp_ne (by omega)]; assumption) | (rw [sUp_ne (by omega), sUp_ne (by omega)]; assumption)) | (rw [sUp_ne (by omega), sUp_ne (by omega), sUp_ne (by omega)]; assumption) | (simp [sUp]; done)) (by rfl) rfl ?_
  refine e_aload_0 (p' := 5) D_O_countOfParts_4 rfl ?_
  refine e_getfield (p' := 8) D_O_countOfParts_5 F_O_10 (by first | assumption | exact sUp_eq | (rw [sUp_ne (by omega)]; assumption) | (rw [sUp_ne (by omega), sUp_ne (by omega)]; assumption) | (rw [sUp_ne (by omega)]; exact sUp_eq) | (rw [gSet_ne (by omega) (by omega)]; first | assumption | exact sUp_eq | (rw [sUp_ne (by omega)]; assumption) | (rw [sUp_ne (by omega), sUp_ne (by omega)]; assumption)) | (rw [sUp_ne (by omega), sUp_ne (by omega), sUp_ne (by omega)]; assumption) | (simp [sUp]; done)) (by rfl) rfl ?_
  refine y_callV0 (p' := 11) D_O_countOfParts_8 V_O_92 (c_Parts_find hG hx (by omega) hPt) rfl (by first | assumption | exact sUp_eq | (rw [sUp_ne (by omega)]; assumption) | (rw [sUp_ne (by omega), sUp_ne (by omega)]; assumption) | (rw [sUp_ne (by omega)]; exact sUp_eq) | (rw [gSet_ne (by omega) (by omega)]; first | assumption | exact sUp_eq | (rw [sUp_ne (by omega)]; assumption) | (rw [sUp_ne (by omega), sUp_ne (by omega)]; assumption)) | (rw [sUp_ne (by omega), sUp_ne (by omega), sUp_ne (by omega)]; assumption) | (simp [sUp]; done)) rfl (Nat.le_of_ble_eq_true rfl) (by decide) ⟨by decide, by decide⟩ rfl ?_
  rintro h0 ⟨hp1, hf0⟩
  have C0 := hC.fr hf0 ⟨_, _, _, hp1⟩
  have d00 := C0.1
  have p07 := hp1.c7
  have g00 := C0.2.1.1
  refine e_iload_1 (p' := 12) D_O_countOfParts_11 rfl ?_
  refine e_iconst (v := nI 4) (p' := 13) D_O_countOfParts_12 cst_iconst_4 rfl ?_
  refine e_icmp_ne (q := 24) (p' := 16) D_O_countOfParts_13 rfl rfl (fun hc13 => ?_) (fun hc13 => ?_)
  ·
    refine e_iload_1 (p' := 25) D_O_countOfParts_24 rfl ?_
    refine e_iconst (v := nI 5) (p' := 26) D_O_countOfParts_25 cst_iconst_5 rfl ?_
    refine e_icmp_ne (q := 45) (p' := 29) D_O_countOfParts_26 rfl rfl (fun hc26 => ?_) (fun hc26 => ?_)
    ·
      refine e_aload_0 (p' := 46) D_O_countOfParts_45 rfl ?_
      refine e_getfield (p' := 49) D_O_countOfParts_46 F_O_22 (by first | assumption | exact sUp_eq | (rw [sUp_ne (by omega)]; assumption) | (rw [sUp_ne (by omega), sUp_ne (by omega)]; assumption) | (rw [sUp_ne (by omega)]; exact sUp_eq) | (rw [gSet_ne (by omega) (by omega)]; first | assumption | exact sUp_eq | (rw [sUp_ne (by omega)]; assumption) | (rw [sUp_ne (by omega), sUp_ne (by omega)]; assumption)) | (rw [sUp_ne (by omega), sUp_ne (by omega), sUp_ne (by omega)]; assumption) | (simp [sUp]; done)) (by rfl) rfl ?_
      refine x_callV1 (p' := 52) D_O_countOfParts_49 V_O_169 (c_Parts_joinedEntries hp1 (lay_pv hx).2 (by omega)) rfl (by first | assumption | exact sUp_eq | (rw [sUp_ne (by omega)]; assumption) | (rw [sUp_ne (by omega), sUp_ne (by omega)]; assumption) | (rw [sUp_ne (by omega)]; exact sUp_eq) | (rw [gSet_ne (by omega) (by omega)]; first | assumption | exact sUp_eq | (rw [sUp_ne (by omega)]; assumption) | (rw [sUp_ne (by omega), sUp_ne (by omega)]; assumption)) | (rw [sUp_ne (by omega), sUp_ne (by omega), sUp_ne (by omega)]; assumption) | (simp [sUp]; done)) rfl (Nat.le_of_ble_eq_true rfl) (by decide) ⟨by decide, by decide⟩ rfl ?_
      refine e_ireturn (ty := .int) D_O_countOfParts_52 rfl (by first | rfl | exact sBo_nar _) ⟨by decide, by decide⟩ ?_
      unfold Vcop; rw [if_neg (by assumption), if_neg (by assumption)]; exact ⟨rfl, C0, hf0.o⟩
    ·
      refine e_aload_0 (p' := 30) D_O_countOfParts_29 rfl ?_
      refine e_getfield (p' := 33) D_O_countOfParts_30 F_O_22 (by first | assumption | exact sUp_eq | (rw [sUp_ne (by omega)]; assumption) | (rw [sUp_ne (by omega), sUp_ne (by omega)]; assumption) | (rw [sUp_ne (by omega)]; exact sUp_eq) | (rw [gSet_ne (by omega) (by omega)]; first | assumption | exact sUp_eq | (rw [sUp_ne (by omega)]; assumption) | (rw [sUp_ne (by omega), sUp_ne (by omega)]; assumption)) | (rw [sUp_ne (by omega), sUp_ne (by omega), sUp_ne (by omega)]; assumption) | (simp [sUp]; done)) (by rfl) rfl ?_
      refine x_callV1 (p' := 36) D_O_countOfParts_33 V_O_95 (c_Parts_isConsistent hp1) rfl (by first | assumption | exact sUp_eq | (rw [sUp_ne (by omega)]; assumption) | (rw [sUp_ne (by omega), sUp_ne (by omega)]; assumption) | (rw [sUp_ne (by omega)]; exact sUp_eq) | (rw [gSet_ne (by omega) (by omega)]; first | assumption | exact sUp_eq | (rw [sUp_ne (by omega)]; assumption) | (rw [sUp_ne (by omega), sUp_ne (by omega)]; assumption)) | (rw [sUp_ne (by omega), sUp_ne (by omega), sUp_ne (by omega)]; assumption) | (simp [sUp]; done)) rfl (Nat.le_of_ble_eq_true rfl) (by decide) ⟨by decide, by decide⟩ rfl ?_
      refine e_ifB_eq (q := 43) (p' := 39) D_O_countOfParts_36 rfl rfl (fun hc36 => ?_) (fun hc36 => ?_)
      ·
        refine e_iconst (v := nI 0) (p' := 44) D_O_countOfParts_43 cst_iconst_0 rfl ?_
        refine e_ireturn (ty := .int) D_O_countOfParts_44 rfl (by first | rfl | exact sBo_nar _) ⟨by decide, by decide⟩ ?_
        unfold Vcop; rw [if_neg (by assumption), if_pos (by first | assumption | exact Classical.not_not.mp hc26), hc36]; exact ⟨rfl, C0, hf0.o⟩
      ·
        refine e_iconst (v := nI 1) (p' := 40) D_O_countOfParts_39 cst_iconst_1 rfl ?_
        refine e_goto (p' := 44) D_O_countOfParts_40 rfl ?_
        refine e_ireturn (ty := .int) D_O_countOfParts_44 rfl (by first | rfl | exact sBo_nar _) ⟨by decide, by decide⟩ ?_
        unfold Vcop; rw [if_neg (by assumption), if_pos (by first | assumption | exact Classical.not_not.mp hc26), hc36]; exact ⟨rfl, C0, hf0.o⟩
  ·
    refine e_aload_0 (p' := 17) D_O_countOfParts_16 rfl ?_
    refine e_getfield (p' := 20) D_O_countOfParts_17 F_O_22 (by first | assumption | exact sUp_eq | (rw [sUp_ne (by omega)]; assumption) | (rw [sUp_ne (by omega), sUp_ne (by omega)]; assumption) | (rw [sUp_ne (by omega)]; exact sUp_eq) | (rw [gSet_ne (by omega) (by omega)]; first | assumption | exact sUp_eq | (rw [sUp_ne (by omega)]; assumption) | (rw [sUp_ne (by omega), sUp_ne (by omega)]; assumption)) | (rw [sUp_ne (by omega), sUp_ne (by omega), sUp_ne (by omega)]; assumption) | (simp [sUp]; done)) (by rfl) rfl ?_
    refine x_callV1 (p' := 23) D_O_countOfParts_20 V_O_140 (c_Parts_size hp1) rfl (by first | assumption | exact sUp_eq | (rw [sUp_ne (by omega)]; assumption) | (rw [sUp_ne (by omega), sUp_ne (by omega)]; assumption) | (rw [sUp_ne (by omega)]; exact sUp_eq) | (rw [gSet_ne (by omega) (by omega)]; first | assumption | exact sUp_eq | (rw [sUp_ne (by omega)]; assumption) | (rw [sUp_ne (by omega), sUp_ne (by omega)]; assumption)) | (rw [sUp_ne (by omega), sUp_ne (by omega), sUp_ne (by omega)]; assumption) | (simp [sUp]; done)) rfl (Nat.le_of_ble_eq_true rfl) (by decide) ⟨by decide, by decide⟩ rfl ?_
    refine e_ireturn (ty := .int) D_O_countOfParts_23 rfl (by first | rfl | exact sBo_nar _) ⟨by decide, by decide⟩ ?_
    unfold Vcop; rw [if_pos (by first | assumption | exact Classical.not_not.mp hc13)]; exact ⟨rfl, C0, hf0.o⟩
set_option maxRecDepth 4000 in
theorem c_O_count {l : Launch} {h : sH} {st : St} (hC : CInv h st) (hS : StOk st) {w : Int32} : sY l m_O_count 6 [.ref 0, .int w] h (some (.int (Vcount st w))) (CR h st) := by
  have c0 := hC.1
  have hG := hC.2.1
  have hx := hS.1
  have hM := hx.2.2.1.le
  have hRr := hx.1
  have hCc := hx.2.1
  obtain ⟨g0, g1, g2⟩ := hC.2.1
  have hH := hC.2.2.2.2.2.2.2.1
  have hH32 : ∃ a b c, h.2 32 = oC 1 [a, b, c] := by
    obtain ⟨o, f, Y, C, _⟩ := hH
    exact ⟨_, _, _, C.1⟩
  obtain ⟨_, _, _, hH32⟩ := hH32
  obtain ⟨ry, cy, hP⟩ := hC.2.2.2.2.2.2.1
  have hp0 := hP.1
  have hq := hS.2.2.2
  obtain ⟨ps, psz, pcon, hPt⟩ := hC.2.2.2.1
  have hp7 := hPt.c7
  obtain ⟨t, ht, hto⟩ := hC.2.2.1
  have ht0 := ht.1
  have hmt := hC.2.2.2.2.2.1
  have hm26 : h.2 26 = oC 2 [.ref 27] := by
    obtain ⟨n, B, A, a1, _⟩ := hmt
    exact a1
  have lsz := lay_sz hx
  refine en_O_count ?_
  refine e_iload_1 (p' := 1) D_O_count_0 rfl ?_
  by_cases hw1_0 : w = nI 0
  · subst hw1_0
    refine e_tsIn (off := 63) (p' := 64) D_O_count_1 (by decide) (by decide) rfl rfl ?_
    refine e_aload_0 (p' := 65) D_O_count_64 rfl ?_
    refine e_getfield (p' := 68) D_O_count_65 F_O_10 (by first | assumption | exact sUp_eq | (rw [sUp_ne (by omega)]; assumption) | (rw [sUp_ne (by omega), sUp_ne (by omega)]; assumption) | (rw [sUp_ne (by omega)]; exact sUp_eq) | (rw [gSet_ne (by omega) (by omega)]; first | assumption | exact sUp_eq | (rw [sUp_ne (by omega)]; assumption) | (rw [sUp_ne (by omega), sUp_ne (by omega)]; assumption)) | (rw [sUp_ne (by omega), sUp_ne (by omega), sUp_ne (by omega)]; assumption) | (simp [sUp]; done)) (by rfl) rfl ?_
    refine x_callV1 (p' := 71) D_O_count_68 V_O_99 (c_Grid_rows hG) rfl (by first | assumption | exact sUp_eq | (rw [sUp_ne (by omega)]; assumption) | (rw [sUp_ne (by omega), sUp_ne (by omega)]; assumption) | (rw [sUp_ne (by omega)]; exact sUp_eq) | (rw [gSet_ne (by omega) (by omega)]; first | assumption | exact sUp_eq | (rw [sUp_ne (by omega)]; assumption) | (rw [sUp_ne (by omega), sUp_ne (by omega)]; assumption)) | (rw [sUp_ne (by omega), sUp_ne (by omega), sUp_ne (by omega)]; assumption) | (simp [sUp]; done)) rfl (Nat.le_of_ble_eq_true rfl) (by decide) ⟨by decide, by decide⟩ rfl ?_
    refine e_ireturn (ty := .int) D_O_count_71 rfl (by first | rfl | exact sBo_nar _) ⟨by decide, by decide⟩ ?_
    unfold Vcount
    rw [if_pos rfl]
    exact ⟨rfl, hC, FrO.rf⟩
  by_cases hw1_1 : w = nI 1
  · subst hw1_1
    refine e_tsIn (off := 71) (p' := 72) D_O_count_1 (by decide) (by decide) rfl rfl ?_
    refine e_aload_0 (p' := 73) D_O_count_72 rfl ?_
    refine e_getfield (p' := 76) D_O_count_73 F_O_10 (by first | assumption | exact sUp_eq | (rw [sUp_ne (by omega)]; assumption) | (rw [sUp_ne (by omega), sUp_ne (by omega)]; assumption) | (rw [sUp_ne (by omega)]; exact sUp_eq) | (rw [gSet_ne (by omega) (by omega)]; first | assumption | exact sUp_eq | (rw [sUp_ne (by omega)]; assumption) | (rw [sUp_ne (by omega), sUp_ne (by omega)]; assumption)) | (rw [sUp_ne (by omega), sUp_ne (by omega), sUp_ne (by omega)]; assumption) | (simp [sUp]; done)) (by rfl) rfl ?_
    refine x_callV1 (p' := 79) D_O_count_76 V_O_102 (c_Grid_columns hG) rfl (by first | assumption | exact sUp_eq | (rw [sUp_ne (by omega)]; assumption) | (rw [sUp_ne (by omega), sUp_ne (by omega)]; assumption) | (rw [sUp_ne (by omega)]; exact sUp_eq) | (rw [gSet_ne (by omega) (by omega)]; first | assumption | exact sUp_eq | (rw [sUp_ne (by omega)]; assumption) | (rw [sUp_ne (by omega), sUp_ne (by omega)]; assumption)) | (rw [sUp_ne (by omega), sUp_ne (by omega), sUp_ne (by omega)]; assumption) | (simp [sUp]; done)) rfl (Nat.le_of_ble_eq_true rfl) (by decide) ⟨by decide, by decide⟩ rfl ?_
    refine e_ireturn (ty := .int) D_O_count_79 rfl (by first | rfl | exact sBo_nar _) ⟨by decide, by decide⟩ ?_
    unfold Vcount
    rw [if_neg (by decide), if_pos rfl]
    exact ⟨rfl, hC, FrO.rf⟩
  by_cases hw1_2 : w = nI 2
  · subst hw1_2
    refine e_tsIn (off := 79) (p' := 80) D_O_count_1 (by decide) (by decide) rfl rfl ?_
    refine e_aload_0 (p' := 81) D_O_count_80 rfl ?_
    refine e_getfield (p' := 84) D_O_count_81 F_O_10 (by first | assumption | exact sUp_eq | (rw [sUp_ne (by omega)]; assumption) | (rw [sUp_ne (by omega), sUp_ne (by omega)]; assumption) | (rw [sUp_ne (by omega)]; exact sUp_eq) | (rw [gSet_ne (by omega) (by omega)]; first | assumption | exact sUp_eq | (rw [sUp_ne (by omega)]; assumption) | (rw [sUp_ne (by omega), sUp_ne (by omega)]; assumption)) | (rw [sUp_ne (by omega), sUp_ne (by omega), sUp_ne (by omega)]; assumption) | (simp [sUp]; done)) (by rfl) rfl ?_
    refine x_callV1 (p' := 87) D_O_count_84 V_O_119 (c_Grid_modulus hG) rfl (by first | assumption | exact sUp_eq | (rw [sUp_ne (by omega)]; assumption) | (rw [sUp_ne (by omega), sUp_ne (by omega)]; assumption) | (rw [sUp_ne (by omega)]; exact sUp_eq) | (rw [gSet_ne (by omega) (by omega)]; first | assumption | exact sUp_eq | (rw [sUp_ne (by omega)]; assumption) | (rw [sUp_ne (by omega), sUp_ne (by omega)]; assumption)) | (rw [sUp_ne (by omega), sUp_ne (by omega), sUp_ne (by omega)]; assumption) | (simp [sUp]; done)) rfl (Nat.le_of_ble_eq_true rfl) (by decide) ⟨by decide, by decide⟩ rfl ?_
    refine e_ireturn (ty := .int) D_O_count_87 rfl (by first | rfl | exact sBo_nar _) ⟨by decide, by decide⟩ ?_
    unfold Vcount
    rw [if_neg (by decide), if_neg (by decide), if_pos rfl]
    exact ⟨rfl, hC, FrO.rf⟩
  by_cases hw1_3 : w = nI 3
  · subst hw1_3
    refine e_tsIn (off := 87) (p' := 88) D_O_count_1 (by decide) (by decide) rfl rfl ?_
    refine e_aload_0 (p' := 89) D_O_count_88 rfl ?_
    refine e_getfield (p' := 92) D_O_count_89 F_O_10 (by first | assumption | exact sUp_eq | (rw [sUp_ne (by omega)]; assumption) | (rw [sUp_ne (by omega), sUp_ne (by omega)]; assumption) | (rw [sUp_ne (by omega)]; exact sUp_eq) | (rw [gSet_ne (by omega) (by omega)]; first | assumption | exact sUp_eq | (rw [sUp_ne (by omega)]; assumption) | (rw [sUp_ne (by omega), sUp_ne (by omega)]; assumption)) | (rw [sUp_ne (by omega), sUp_ne (by omega), sUp_ne (by omega)]; assumption) | (simp [sUp]; done)) (by rfl) rfl ?_
    refine x_callV1 (p' := 95) D_O_count_92 V_O_69 (c_Grid_toldCount hG hx) rfl (by first | assumption | exact sUp_eq | (rw [sUp_ne (by omega)]; assumption) | (rw [sUp_ne (by omega), sUp_ne (by omega)]; assumption) | (rw [sUp_ne (by omega)]; exact sUp_eq) | (rw [gSet_ne (by omega) (by omega)]; first | assumption | exact sUp_eq | (rw [sUp_ne (by omega)]; assumption) | (rw [sUp_ne (by omega), sUp_ne (by omega)]; assumption)) | (rw [sUp_ne (by omega), sUp_ne (by omega), sUp_ne (by omega)]; assumption) | (simp [sUp]; done)) rfl (Nat.le_of_ble_eq_true rfl) (by decide) ⟨by decide, by decide⟩ rfl ?_
    refine e_ireturn (ty := .int) D_O_count_95 rfl (by first | rfl | exact sBo_nar _) ⟨by decide, by decide⟩ ?_
    unfold Vcount
    rw [if_neg (by decide), if_neg (by decide), if_neg (by decide), if_pos rfl]
    exact ⟨rfl, hC, FrO.rf⟩
  by_cases hw1_4 : w = nI 4
  · subst hw1_4
    refine e_tsIn (off := 95) (p' := 96) D_O_count_1 (by decide) (by decide) rfl rfl ?_
    refine e_aload_0 (p' := 97) D_O_count_96 rfl ?_
    refine e_iload_1 (p' := 98) D_O_count_97 rfl ?_
    refine y_callV1 (p' := 101) D_O_count_98 V_O_154 (c_O_countOfParts hC hS) rfl (by first | assumption | exact sUp_eq | (rw [sUp_ne (by omega)]; assumption) | (rw [sUp_ne (by omega), sUp_ne (by omega)]; assumption) | (rw [sUp_ne (by omega)]; exact sUp_eq) | (rw [gSet_ne (by omega) (by omega)]; first | assumption | exact sUp_eq | (rw [sUp_ne (by omega)]; assumption) | (rw [sUp_ne (by omega), sUp_ne (by omega)]; assumption)) | (rw [sUp_ne (by omega), sUp_ne (by omega), sUp_ne (by omega)]; assumption) | (simp [sUp]; done)) rfl (Nat.le_of_ble_eq_true rfl) (by decide) ⟨by decide, by decide⟩ rfl ?_
    rintro h1 ⟨C1, F1⟩
    refine e_ireturn (ty := .int) D_O_count_101 rfl (by first | rfl | exact sBo_nar _) ⟨by decide, by decide⟩ ?_
    unfold Vcount
    rw [if_neg (by decide), if_neg (by decide), if_neg (by decide), if_neg (by decide), if_pos rfl, show Vcop st.1 (nI 4) = _ from if_pos rfl]
    exact ⟨rfl, C1, F1⟩
  by_cases hw1_5 : w = nI 5
  · subst hw1_5
    refine e_tsIn (off := 95) (p' := 96) D_O_count_1 (by decide) (by decide) rfl rfl ?_
    refine e_aload_0 (p' := 97) D_O_count_96 rfl ?_
    refine e_iload_1 (p' := 98) D_O_count_97 rfl ?_
    refine y_callV1 (p' := 101) D_O_count_98 V_O_154 (c_O_countOfParts hC hS) rfl (by first | assumption | exact sUp_eq | (rw [sUp_ne (by omega)]; assumption) | (rw [sUp_ne (by omega), sUp_ne (by omega)]; assumption) | (rw [sUp_ne (by omega)]; exact sUp_eq) | (rw [gSet_ne (by omega) (by omega)]; first | assumption | exact sUp_eq | (rw [sUp_ne (by omega)]; assumption) | (rw [sUp_ne (by omega), sUp_ne (by omega)]; assumption)) | (rw [sUp_ne (by omega), sUp_ne (by omega), sUp_ne (by omega)]; assumption) | (simp [sUp]; done)) rfl (Nat.le_of_ble_eq_true rfl) (by decide) ⟨by decide, by decide⟩ rfl ?_
    rintro h1 ⟨C1, F1⟩
    refine e_ireturn (ty := .int) D_O_count_101 rfl (by first | rfl | exact sBo_nar _) ⟨by decide, by decide⟩ ?_
    unfold Vcount
    rw [if_neg (by decide), if_neg (by decide), if_neg (by decide), if_neg (by decide), if_neg (by decide), if_pos rfl, show Vcop st.1 (nI 5) = _ from by unfold Vcop; rw [if_neg (by decide), if_pos rfl]]
    exact ⟨rfl, C1, F1⟩
  by_cases hw1_6 : w = nI 6
  · subst hw1_6
    refine e_tsIn (off := 95) (p' := 96) D_O_count_1 (by decide) (by decide) rfl rfl ?_
    refine e_aload_0 (p' := 97) D_O_count_96 rfl ?_
    refine e_iload_1 (p' := 98) D_O_count_97 rfl ?_
    refine y_callV1 (p' := 101) D_O_count_98 V_O_154 (c_O_countOfParts hC hS) rfl (by first | assumption | exact sUp_eq | (rw [sUp_ne (by omega)]; assumption) | (rw [sUp_ne (by omega), sUp_ne (by omega)]; assumption) | (rw [sUp_ne (by omega)]; exact sUp_eq) | (rw [gSet_ne (by omega) (by omega)]; first | assumption | exact sUp_eq | (rw [sUp_ne (by omega)]; assumption) | (rw [sUp_ne (by omega), sUp_ne (by omega)]; assumption)) | (rw [sUp_ne (by omega), sUp_ne (by omega), sUp_ne (by omega)]; assumption) | (simp [sUp]; done)) rfl (Nat.le_of_ble_eq_true rfl) (by decide) ⟨by decide, by decide⟩ rfl ?_
    rintro h1 ⟨C1, F1⟩
    refine e_ireturn (ty := .int) D_O_count_101 rfl (by first | rfl | exact sBo_nar _) ⟨by decide, by decide⟩ ?_
    unfold Vcount
    rw [if_neg (by decide), if_neg (by decide), if_neg (by decide), if_neg (by decide), if_neg (by decide), if_neg (by decide), if_pos rfl, show Vcop st.1 (nI 6) = _ from by unfold Vcop; rw [if_neg (by decide), if_neg (by decide)]]
    exact ⟨rfl, C1, F1⟩
  by_cases hw1_7 : w = nI 7
  · subst hw1_7
    refine e_tsIn (off := 101) (p' := 102) D_O_count_1 (by decide) (by decide) rfl rfl ?_
    refine e_aload_0 (p' := 103) D_O_count_102 rfl ?_
    refine e_getfield (p' := 106) D_O_count_103 F_O_36 (by first | assumption | exact sUp_eq | (rw [sUp_ne (by omega)]; assumption) | (rw [sUp_ne (by omega), sUp_ne (by omega)]; assumption) | (rw [sUp_ne (by omega)]; exact sUp_eq) | (rw [gSet_ne (by omega) (by omega)]; first | assumption | exact sUp_eq | (rw [sUp_ne (by omega)]; assumption) | (rw [sUp_ne (by omega), sUp_ne (by omega)]; assumption)) | (rw [sUp_ne (by omega), sUp_ne (by omega), sUp_ne (by omega)]; assumption) | (simp [sUp]; done)) (by rfl) rfl ?_
    refine e_aload_0 (p' := 107) D_O_count_106 rfl ?_
    refine e_getfield (p' := 110) D_O_count_107 F_O_10 (by first | assumption | exact sUp_eq | (rw [sUp_ne (by omega)]; assumption) | (rw [sUp_ne (by omega), sUp_ne (by omega)]; assumption) | (rw [sUp_ne (by omega)]; exact sUp_eq) | (rw [gSet_ne (by omega) (by omega)]; first | assumption | exact sUp_eq | (rw [sUp_ne (by omega)]; assumption) | (rw [sUp_ne (by omega), sUp_ne (by omega)]; assumption)) | (rw [sUp_ne (by omega), sUp_ne (by omega), sUp_ne (by omega)]; assumption) | (simp [sUp]; done)) (by rfl) rfl ?_
    refine e_iconst (v := nI 0) (p' := 111) D_O_count_110 cst_iconst_0 rfl ?_
    refine x_callV1 (p' := 114) D_O_count_111 V_O_157 (c_Min_countAll (b := false) hG hx hm26) rfl (by first | assumption | exact sUp_eq | (rw [sUp_ne (by omega)]; assumption) | (rw [sUp_ne (by omega), sUp_ne (by omega)]; assumption) | (rw [sUp_ne (by omega)]; exact sUp_eq) | (rw [gSet_ne (by omega) (by omega)]; first | assumption | exact sUp_eq | (rw [sUp_ne (by omega)]; assumption) | (rw [sUp_ne (by omega), sUp_ne (by omega)]; assumption)) | (rw [sUp_ne (by omega), sUp_ne (by omega), sUp_ne (by omega)]; assumption) | (simp [sUp]; done)) rfl (Nat.le_of_ble_eq_true rfl) (by decide) ⟨by decide, by decide⟩ rfl ?_
    refine e_ireturn (ty := .int) D_O_count_114 rfl (by first | rfl | exact sBo_nar _) ⟨by decide, by decide⟩ ?_
    unfold Vcount
    rw [if_neg (by decide), if_neg (by decide), if_neg (by decide), if_neg (by decide), if_neg (by decide), if_neg (by decide), if_neg (by decide), if_pos rfl]
    exact ⟨rfl, hC, FrO.rf⟩
  by_cases hw1_8 : w = nI 8
  · subst hw1_8
    refine e_tsIn (off := 114) (p' := 115) D_O_count_1 (by decide) (by decide) rfl rfl ?_
    refine e_aload_0 (p' := 116) D_O_count_115 rfl ?_
    refine e_getfield (p' := 119) D_O_count_116 F_O_36 (by first | assumption | exact sUp_eq | (rw [sUp_ne (by omega)]; assumption) | (rw [sUp_ne (by omega), sUp_ne (by omega)]; assumption) | (rw [sUp_ne (by omega)]; exact sUp_eq) | (rw [gSet_ne (by omega) (by omega)]; first | assumption | exact sUp_eq | (rw [sUp_ne (by omega)]; assumption) | (rw [sUp_ne (by omega), sUp_ne (by omega)]; assumption)) | (rw [sUp_ne (by omega), sUp_ne (by omega), sUp_ne (by omega)]; assumption) | (simp [sUp]; done)) (by rfl) rfl ?_
    refine e_aload_0 (p' := 120) D_O_count_119 rfl ?_
    refine e_getfield (p' := 123) D_O_count_120 F_O_10 (by first | assumption | exact sUp_eq | (rw [sUp_ne (by omega)]; assumption) | (rw [sUp_ne (by omega), sUp_ne (by omega)]; assumption) | (rw [sUp_ne (by omega)]; exact sUp_eq) | (rw [gSet_ne (by omega) (by omega)]; first | assumption | exact sUp_eq | (rw [sUp_ne (by omega)]; assumption) | (rw [sUp_ne (by omega), sUp_ne (by omega)]; assumption)) | (rw [sUp_ne (by omega), sUp_ne (by omega), sUp_ne (by omega)]; assumption) | (simp [sUp]; done)) (by rfl) rfl ?_
    refine e_iconst (v := nI 1) (p' := 124) D_O_count_123 cst_iconst_1 rfl ?_
    refine x_callV1 (p' := 127) D_O_count_124 V_O_157 (c_Min_countAll (b := true) hG hx hm26) rfl (by first | assumption | exact sUp_eq | (rw [sUp_ne (by omega)]; assumption) | (rw [sUp_ne (by omega), sUp_ne (by omega)]; assumption) | (rw [sUp_ne (by omega)]; exact sUp_eq) | (rw [gSet_ne (by omega) (by omega)]; first | assumption | exact sUp_eq | (rw [sUp_ne (by omega)]; assumption) | (rw [sUp_ne (by omega), sUp_ne (by omega)]; assumption)) | (rw [sUp_ne (by omega), sUp_ne (by omega), sUp_ne (by omega)]; assumption) | (simp [sUp]; done)) rfl (Nat.le_of_ble_eq_true rfl) (by decide) ⟨by decide, by decide⟩ rfl ?_
    refine e_ireturn (ty := .int) D_O_count_127 rfl (by first | rfl | exact sBo_nar _) ⟨by decide, by decide⟩ ?_
    unfold Vcount
    rw [if_neg (by decide), if_neg (by decide), if_neg (by decide), if_neg (by decide), if_neg (by decide), if_neg (by decide), if_neg (by decide), if_neg (by decide), if_pos rfl]
    exact ⟨rfl, hC, FrO.rf⟩
  by_cases hw1_9 : w = nI 9
  · subst hw1_9
    refine e_tsIn (off := 127) (p' := 128) D_O_count_1 (by decide) (by decide) rfl rfl ?_
    refine e_aload_0 (p' := 129) D_O_count_128 rfl ?_
    refine e_getfield (p' := 132) D_O_count_129 F_O_36 (by first | assumption | exact sUp_eq | (rw [sUp_ne (by omega)]; assumption) | (rw [sUp_ne (by omega), sUp_ne (by omega)]; assumption) | (rw [sUp_ne (by omega)]; exact sUp_eq) | (rw [gSet_ne (by omega) (by omega)]; first | assumption | exact sUp_eq | (rw [sUp_ne (by omega)]; assumption) | (rw [sUp_ne (by omega), sUp_ne (by omega)]; assumption)) | (rw [sUp_ne (by omega), sUp_ne (by omega), sUp_ne (by omega)]; assumption) | (simp [sUp]; done)) (by rfl) rfl ?_
    refine e_aload_0 (p' := 133) D_O_count_132 rfl ?_
    refine e_getfield (p' := 136) D_O_count_133 F_O_10 (by first | assumption | exact sUp_eq | (rw [sUp_ne (by omega)]; assumption) | (rw [sUp_ne (by omega), sUp_ne (by omega)]; assumption) | (rw [sUp_ne (by omega)]; exact sUp_eq) | (rw [gSet_ne (by omega) (by omega)]; first | assumption | exact sUp_eq | (rw [sUp_ne (by omega)]; assumption) | (rw [sUp_ne (by omega), sUp_ne (by omega)]; assumption)) | (rw [sUp_ne (by omega), sUp_ne (by omega), sUp_ne (by omega)]; assumption) | (simp [sUp]; done)) (by rfl) rfl ?_
    refine y_callV1 (p' := 139) D_O_count_136 V_O_161 (c_Min_leastRank hG hx hmt) rfl (by first | assumption | exact sUp_eq | (rw [sUp_ne (by omega)]; assumption) | (rw [sUp_ne (by omega), sUp_ne (by omega)]; assumption) | (rw [sUp_ne (by omega)]; exact sUp_eq) | (rw [gSet_ne (by omega) (by omega)]; first | assumption | exact sUp_eq | (rw [sUp_ne (by omega)]; assumption) | (rw [sUp_ne (by omega), sUp_ne (by omega)]; assumption)) | (rw [sUp_ne (by omega), sUp_ne (by omega), sUp_ne (by omega)]; assumption) | (simp [sUp]; done)) rfl (Nat.le_of_ble_eq_true rfl) (by decide) ⟨by decide, by decide⟩ rfl ?_
    rintro h1 ⟨M1, F1⟩
    have C1 := hC.mt F1 M1
    refine e_ireturn (ty := .int) D_O_count_139 rfl (by first | rfl | exact sBo_nar _) ⟨by decide, by decide⟩ ?_
    unfold Vcount
    rw [if_neg (by decide), if_neg (by decide), if_neg (by decide), if_neg (by decide), if_neg (by decide), if_neg (by decide), if_neg (by decide), if_neg (by decide), if_neg (by decide), if_pos rfl]
    exact ⟨rfl, C1, F1.o⟩
  by_cases hw1_10 : w = nI 10
  · subst hw1_10
    refine e_tsIn (off := 139) (p' := 140) D_O_count_1 (by decide) (by decide) rfl rfl ?_
    refine e_aload_0 (p' := 141) D_O_count_140 rfl ?_
    refine e_getfield (p' := 144) D_O_count_141 F_O_43 (by first | assumption | exact sUp_eq | (rw [sUp_ne (by omega)]; assumption) | (rw [sUp_ne (by omega), sUp_ne (by omega)]; assumption) | (rw [sUp_ne (by omega)]; exact sUp_eq) | (rw [gSet_ne (by omega) (by omega)]; first | assumption | exact sUp_eq | (rw [sUp_ne (by omega)]; assumption) | (rw [sUp_ne (by omega), sUp_ne (by omega)]; assumption)) | (rw [sUp_ne (by omega), sUp_ne (by omega), sUp_ne (by omega)]; assumption) | (simp [sUp]; done)) (by rfl) rfl ?_
    refine x_callV1 (p' := 147) D_O_count_144 V_O_165 (c_Pad_length hP hq) rfl (by first | assumption | exact sUp_eq | (rw [sUp_ne (by omega)]; assumption) | (rw [sUp_ne (by omega), sUp_ne (by omega)]; assumption) | (rw [sUp_ne (by omega)]; exact sUp_eq) | (rw [gSet_ne (by omega) (by omega)]; first | assumption | exact sUp_eq | (rw [sUp_ne (by omega)]; assumption) | (rw [sUp_ne (by omega), sUp_ne (by omega)]; assumption)) | (rw [sUp_ne (by omega), sUp_ne (by omega), sUp_ne (by omega)]; assumption) | (simp [sUp]; done)) rfl (Nat.le_of_ble_eq_true rfl) (by decide) ⟨by decide, by decide⟩ rfl ?_
    refine e_ireturn (ty := .int) D_O_count_147 rfl (by first | rfl | exact sBo_nar _) ⟨by decide, by decide⟩ ?_
    unfold Vcount
    rw [if_neg (by decide), if_neg (by decide), if_neg (by decide), if_neg (by decide), if_neg (by decide), if_neg (by decide), if_neg (by decide), if_neg (by decide), if_neg (by decide), if_neg (by decide), if_pos rfl]
    exact ⟨rfl, hC, FrO.rf⟩
  by_cases hw1_11 : w = nI 11
  · subst hw1_11
    refine e_tsIn (off := 147) (p' := 148) D_O_count_1 (by decide) (by decide) rfl rfl ?_
    refine e_aload_0 (p' := 149) D_O_count_148 rfl ?_
    refine e_getfield (p' := 152) D_O_count_149 F_O_50 (by first | assumption | exact sUp_eq | (rw [sUp_ne (by omega)]; assumption) | (rw [sUp_ne (by omega), sUp_ne (by omega)]; assumption) | (rw [sUp_ne (by omega)]; exact sUp_eq) | (rw [gSet_ne (by omega) (by omega)]; first | assumption | exact sUp_eq | (rw [sUp_ne (by omega)]; assumption) | (rw [sUp_ne (by omega), sUp_ne (by omega)]; assumption)) | (rw [sUp_ne (by omega), sUp_ne (by omega), sUp_ne (by omega)]; assumption) | (simp [sUp]; done)) (by rfl) rfl ?_
    refine x_callV1 (p' := 155) D_O_count_152 V_O_168 (c_Hist_size hH) rfl (by first | assumption | exact sUp_eq | (rw [sUp_ne (by omega)]; assumption) | (rw [sUp_ne (by omega), sUp_ne (by omega)]; assumption) | (rw [sUp_ne (by omega)]; exact sUp_eq) | (rw [gSet_ne (by omega) (by omega)]; first | assumption | exact sUp_eq | (rw [sUp_ne (by omega)]; assumption) | (rw [sUp_ne (by omega), sUp_ne (by omega)]; assumption)) | (rw [sUp_ne (by omega), sUp_ne (by omega), sUp_ne (by omega)]; assumption) | (simp [sUp]; done)) rfl (Nat.le_of_ble_eq_true rfl) (by decide) ⟨by decide, by decide⟩ rfl ?_
    refine e_ireturn (ty := .int) D_O_count_155 rfl (by first | rfl | exact sBo_nar _) ⟨by decide, by decide⟩ ?_
    unfold Vcount
    rw [if_neg (by decide), if_neg (by decide), if_neg (by decide), if_neg (by decide), if_neg (by decide), if_neg (by decide), if_neg (by decide), if_neg (by decide), if_neg (by decide), if_neg (by decide), if_neg (by decide), if_pos rfl]
    exact ⟨rfl, hC, FrO.rf⟩
  refine e_tsOut (p' := 156) D_O_count_1 (ts_out (n := 11) (by omega) (fun k hk => by rcases (show k = 0 ∨ k = 1 ∨ k = 2 ∨ k = 3 ∨ k = 4 ∨ k = 5 ∨ k = 6 ∨ k = 7 ∨ k = 8 ∨ k = 9 ∨ k = 10 ∨ k = 11 by omega) with rfl | rfl | rfl | rfl | rfl | rfl | rfl | rfl | rfl | rfl | rfl | rfl <;> assumption)) rfl ?_
  refine e_bipush (v := (-2)) (p' := 158) D_O_count_156 cst_bipush_m2 rfl ?_
  refine e_ireturn (ty := .int) D_O_count_158 rfl (by first | rfl | exact sBo_nar _) ⟨by decide, by decide⟩ ?_
  unfold Vcount
  rw [if_neg hw1_0, if_neg hw1_1, if_neg hw1_2, if_neg hw1_3, if_neg hw1_4, if_neg hw1_5, if_neg hw1_6, if_neg hw1_7, if_neg hw1_8, if_neg hw1_9, if_neg hw1_10, if_neg hw1_11]
  exact ⟨rfl, hC, FrO.rf⟩
set_option maxRecDepth 4000 in
theorem c_O_countCompletions {l : Launch} {h : sH} {st : St} (hC : CInv h st) (hS : StOk st) (hp1 : PtAt h (lay st.1).1 (lay st.1).2 (wellX st.1)) : sX l m_O_countCompletions 1 [.ref 0] h (some (.long (lN (cpl st.1)))) (h) := by
  have c0 := hC.1
  have hG := hC.2.1
  have hx := hS.1
  have hM := hx.2.2.1.le
  have hRr := hx.1
  have hCc := hx.2.1
  obtain ⟨g0, g1, g2⟩ := hC.2.1
  have hH := hC.2.2.2.2.2.2.2.1
  have hH32 : ∃ a b c, h.2 32 = oC 1 [a, b, c] := by
    obtain ⟨o, f, Y, C, _⟩ := hH
    exact ⟨_, _, _, C.1⟩
  obtain ⟨_, _, _, hH32⟩ := hH32
  obtain ⟨ry, cy, hP⟩ := hC.2.2.2.2.2.2.1
  have hp0 := hP.1
  have hq := hS.2.2.2
  obtain ⟨ps, psz, pcon, hPt⟩ := hC.2.2.2.1
  have hp7 := hPt.c7
  obtain ⟨t, ht, hto⟩ := hC.2.2.1
  have ht0 := ht.1
  have hmt := hC.2.2.2.2.2.1
  have hm26 : h.2 26 = oC 2 [.ref 27] := by
    obtain ⟨n, B, A, a1, _⟩ := hmt
    exact a1
  have lsz := lay_sz hx
  have p07 := hp1.c7
  refine en_O_countCompletions ?_
  refine e_aload_0 (p' := 1) D_O_countCompletions_0 rfl ?_
  refine e_getfield (p' := 4) D_O_countCompletions_1 F_O_22 (by first | assumption | exact sUp_eq | (rw [sUp_ne (by omega)]; assumption) | (rw [sUp_ne (by omega), sUp_ne (by omega)]; assumption) | (rw [sUp_ne (by omega)]; exact sUp_eq) | (rw [gSet_ne (by omega) (by omega)]; first | assumption | exact sUp_eq | (rw [sUp_ne (by omega)]; assumption) | (rw [sUp_ne (by omega), sUp_ne (by omega)]; assumption)) | (rw [sUp_ne (by omega), sUp_ne (by omega), sUp_ne (by omega)]; assumption) | (simp [sUp]; done)) (by rfl) rfl ?_
  refine x_callV1 (p' := 7) D_O_countCompletions_4 V_O_95 (c_Parts_isConsistent hp1) rfl (by first | assumption | exact sUp_eq | (rw [sUp_ne (by omega)]; assumption) | (rw [sUp_ne (by omega), sUp_ne (by omega)]; assumption) | (rw [sUp_ne (by omega)]; exact sUp_eq) | (rw [gSet_ne (by omega) (by omega)]; first | assumption | exact sUp_eq | (rw [sUp_ne (by omega)]; assumption) | (rw [sUp_ne (by omega), sUp_ne (by omega)]; assumption)) | (rw [sUp_ne (by omega), sUp_ne (by omega), sUp_ne (by omega)]; assumption) | (simp [sUp]; done)) rfl (Nat.le_of_ble_eq_true rfl) (by decide) ⟨by decide, by decide⟩ rfl ?_
  refine e_ifB_ne (q := 12) (p' := 10) D_O_countCompletions_7 rfl rfl (fun hc7 => ?_) (fun hc7 => ?_)
  ·
    refine e_lconst (v := lN 1) (p' := 13) D_O_countCompletions_12 rfl rfl ?_
    refine e_lstore_1 (p' := 14) D_O_countCompletions_13 (Nat.le_of_ble_eq_true rfl) rfl rfl ?_
    refine e_iconst (v := nI 1) (p' := 15) D_O_countCompletions_14 cst_iconst_1 rfl ?_
    refine e_istore_3 (p' := 16) D_O_countCompletions_15 (Nat.le_of_ble_eq_true rfl) rfl rfl ?_
    have lk16 : ∀ i : Nat, i ≤ (lay st.1).2 - 1 → sEv l m_O_countCompletions 1 (0, 0, 0, 0) (sKm 0 0 (fun r1 h1 => r1 = some (.long (lN (cpl st.1))) ∧ h1 = h)) 16 [some (.ref 0), some (.long (lN ((st.1.1.2.2 - 1) ^ i))), none, some (.int (nI (i + 1)))] [] (h) := by
      refine lp_up _ ?_ ?_
      · skip
        refine e_iload_3 (p' := 17) D_O_countCompletions_16 rfl ?_
        refine e_aload_0 (p' := 18) D_O_countCompletions_17 rfl ?_
        refine e_getfield (p' := 21) D_O_countCompletions_18 F_O_22 (by first | assumption | exact sUp_eq | (rw [sUp_ne (by omega)]; assumption) | (rw [sUp_ne (by omega), sUp_ne (by omega)]; assumption) | (rw [sUp_ne (by omega)]; exact sUp_eq) | (rw [gSet_ne (by omega) (by omega)]; first | assumption | exact sUp_eq | (rw [sUp_ne (by omega)]; assumption) | (rw [sUp_ne (by omega), sUp_ne (by omega)]; assumption)) | (rw [sUp_ne (by omega), sUp_ne (by omega), sUp_ne (by omega)]; assumption) | (simp [sUp]; done)) (by rfl) rfl ?_
        refine x_callV1 (p' := 24) D_O_countCompletions_21 V_O_140 (c_Parts_size hp1) rfl (by first | assumption | exact sUp_eq | (rw [sUp_ne (by omega)]; assumption) | (rw [sUp_ne (by omega), sUp_ne (by omega)]; assumption) | (rw [sUp_ne (by omega)]; exact sUp_eq) | (rw [gSet_ne (by omega) (by omega)]; first | assumption | exact sUp_eq | (rw [sUp_ne (by omega)]; assumption) | (rw [sUp_ne (by omega), sUp_ne (by omega)]; assumption)) | (rw [sUp_ne (by omega), sUp_ne (by omega), sUp_ne (by omega)]; assumption) | (simp [sUp]; done)) rfl (Nat.le_of_ble_eq_true rfl) (by decide) ⟨by decide, by decide⟩ rfl ?_
        refine e_icmpN_ge (q := 46) (p' := 27) D_O_countCompletions_24 (by omega) (by omega) rfl rfl (fun hc24 => ?_) (fun hc24 => ?_)
        ·
          refine e_lload_1 (p' := 47) D_O_countCompletions_46 rfl ?_
          refine e_lreturn D_O_countCompletions_47 rfl ⟨by decide, by decide⟩ ?_
          unfold cpl; rw [if_pos hc7]; exact ⟨rfl, rfl⟩
        ·
          exfalso; omega
      · intro i hi ih16 
        refine e_iload_3 (p' := 17) D_O_countCompletions_16 rfl ?_
        refine e_aload_0 (p' := 18) D_O_countCompletions_17 rfl ?_
        refine e_getfield (p' := 21) D_O_countCompletions_18 F_O_22 (by first | assumption | exact sUp_eq | (rw [sUp_ne (by omega)]; assumption) | (rw [sUp_ne (by omega), sUp_ne (by omega)]; assumption) | (rw [sUp_ne (by omega)]; exact sUp_eq) | (rw [gSet_ne (by omega) (by omega)]; first | assumption | exact sUp_eq | (rw [sUp_ne (by omega)]; assumption) | (rw [sUp_ne (by omega), sUp_ne (by omega)]; assumption)) | (rw [sUp_ne (by omega), sUp_ne (by omega), sUp_ne (by omega)]; assumption) | (simp [sUp]; done)) (by rfl) rfl ?_
        refine x_callV1 (p' := 24) D_O_countCompletions_21 V_O_140 (c_Parts_size hp1) rfl (by first | assumption | exact sUp_eq | (rw [sUp_ne (by omega)]; assumption) | (rw [sUp_ne (by omega), sUp_ne (by omega)]; assumption) | (rw [sUp_ne (by omega)]; exact sUp_eq) | (rw [gSet_ne (by omega) (by omega)]; first | assumption | exact sUp_eq | (rw [sUp_ne (by omega)]; assumption) | (rw [sUp_ne (by omega), sUp_ne (by omega)]; assumption)) | (rw [sUp_ne (by omega), sUp_ne (by omega), sUp_ne (by omega)]; assumption) | (simp [sUp]; done)) rfl (Nat.le_of_ble_eq_true rfl) (by decide) ⟨by decide, by decide⟩ rfl ?_
        refine e_icmpN_ge (q := 46) (p' := 27) D_O_countCompletions_24 (by omega) (by omega) rfl rfl (fun hc24 => ?_) (fun hc24 => ?_)
        ·
          exfalso; omega
        ·
          refine e_lload_1 (p' := 28) D_O_countCompletions_27 rfl ?_
          refine e_aload_0 (p' := 29) D_O_countCompletions_28 rfl ?_
          refine e_getfield (p' := 32) D_O_countCompletions_29 F_O_10 (by first | assumption | exact sUp_eq | (rw [sUp_ne (by omega)]; assumption) | (rw [sUp_ne (by omega), sUp_ne (by omega)]; assumption) | (rw [sUp_ne (by omega)]; exact sUp_eq) | (rw [gSet_ne (by omega) (by omega)]; first | assumption | exact sUp_eq | (rw [sUp_ne (by omega)]; assumption) | (rw [sUp_ne (by omega), sUp_ne (by omega)]; assumption)) | (rw [sUp_ne (by omega), sUp_ne (by omega), sUp_ne (by omega)]; assumption) | (simp [sUp]; done)) (by rfl) rfl ?_
          refine x_callV1 (p' := 35) D_O_countCompletions_32 V_O_119 (c_Grid_modulus hG) rfl (by first | assumption | exact sUp_eq | (rw [sUp_ne (by omega)]; assumption) | (rw [sUp_ne (by omega), sUp_ne (by omega)]; assumption) | (rw [sUp_ne (by omega)]; exact sUp_eq) | (rw [gSet_ne (by omega) (by omega)]; first | assumption | exact sUp_eq | (rw [sUp_ne (by omega)]; assumption) | (rw [sUp_ne (by omega), sUp_ne (by omega)]; assumption)) | (rw [sUp_ne (by omega), sUp_ne (by omega), sUp_ne (by omega)]; assumption) | (simp [sUp]; done)) rfl (Nat.le_of_ble_eq_true rfl) (by decide) ⟨by decide, by decide⟩ rfl ?_
          refine e_iconst (v := nI 1) (p' := 36) D_O_countCompletions_35 cst_iconst_1 rfl ?_
          first | refine e_isubN (p' := 37) D_O_countCompletions_36 (by omega) rfl ?_ | refine e_isub (p' := 37) D_O_countCompletions_36 rfl ?_
          first | refine e_i2lN (p' := 38) D_O_countCompletions_37 (by omega) rfl ?_ | refine e_i2l (p' := 38) D_O_countCompletions_37 rfl rfl ?_
          refine e_lmul (p' := 39) D_O_countCompletions_38 rfl ?_
          refine e_lstore_1 (p' := 40) D_O_countCompletions_39 (Nat.le_of_ble_eq_true rfl) rfl rfl ?_
          first | refine e_iincN_3 (n := 1) (p' := 43) D_O_countCompletions_40 (Nat.le_of_ble_eq_true rfl) rfl rfl ?_ | refine e_iinc_3 (p' := 43) D_O_countCompletions_40 (Nat.le_of_ble_eq_true rfl) rfl rfl rfl ?_
          refine e_goto (p' := 16) D_O_countCompletions_43 rfl ?_
          refine sEv.castW (ih16) ?_ ?_ ?_
          · exact ⟨rfl, by rw [lN_mul, ← Nat.pow_succ], lvW_rfl _⟩
          · rfl
          · first | rfl | (simp; done)
    refine sEv.castW (lk16 0 (by omega) ) ?_ ?_ ?_
    · exact ⟨rfl, rfl, lvW_rfl _⟩
    · rfl
    · first | rfl | (simp; done)
  ·
    refine e_lconst (v := lN 0) (p' := 11) D_O_countCompletions_10 rfl rfl ?_
    refine e_lreturn D_O_countCompletions_11 rfl ⟨by decide, by decide⟩ ?_
    unfold cpl; rw [if_neg (by rw [hc7]; decide)]; exact ⟨rfl, rfl⟩
set_option maxRecDepth 4000 in
theorem c_O_completions {l : Launch} {h : sH} {st : St} (hC : CInv h st) (hS : StOk st) : sY l m_O_completions 5 [.ref 0] h (some (.long (lN (cpl st.1)))) (CR h st) := by
  have c0 := hC.1
  have hG := hC.2.1
  have hx := hS.1
  have hM := hx.2.2.1.le
  have hRr := hx.1
  have hCc := hx.2.1
  obtain ⟨g0, g1, g2⟩ := hC.2.1
  have hH := hC.2.2.2.2.2.2.2.1
  have hH32 : ∃ a b c, h.2 32 = oC 1 [a, b, c] := by
    obtain ⟨o, f, Y, C, _⟩ := hH
    exact ⟨_, _, _, C.1⟩
  obtain ⟨_, _, _, hH32⟩ := hH32
  obtain ⟨ry, cy, hP⟩ := hC.2.2.2.2.2.2.1
  have hp0 := hP.1
  have hq := hS.2.2.2
  obtain ⟨ps, psz, pcon, hPt⟩ := hC.2.2.2.1
  have hp7 := hPt.c7
  obtain ⟨t, ht, hto⟩ := hC.2.2.1
  have ht0 := ht.1
  have hmt := hC.2.2.2.2.2.1
  have hm26 : h.2 26 = oC 2 [.ref 27] := by
    obtain ⟨n, B, A, a1, _⟩ := hmt
    exact a1
  have lsz := lay_sz hx
  refine en_O_completions ?_
  refine e_aload_0 (p' := 1) D_O_completions_0 rfl ?_
  refine e_getfield (p' := 4) D_O_completions_1 F_O_22 (by first | assumption | exact sUp_eq | (rw [sUp_ne (by omega)]; assumption) | (rw [sUp_ne (by omega), sUp_ne (by omega)]; assumption) | (rw [sUp_ne (by omega)]; exact sUp_eq) | (rw [gSet_ne (by omega) (by omega)]; first | assumption | exact sUp_eq | (rw [sUp_ne (by omega)]; assumption) | (rw [sUp_ne (by omega), sUp_ne (by omega)]; assumption)) | (rw [sUp_ne (by omega), sUp_ne (by omega), sUp_ne (by omega)]; assumption) | (simp [sUp]; done)) (by rfl) rfl ?_
  refine e_aload_0 (p' := 5) D_O_completions_4 rfl ?_
  refine e_getfield (p' := 8) D_O_completions_5 F_O_10 (by first | assumption | exact sUp_eq | (rw [sUp_ne (by omega)]; assumption) | (rw [sUp_ne (by omega), sUp_ne (by omega)]; assumption) | (rw [sUp_ne (by omega)]; exact sUp_eq) | (rw [gSet_ne (by omega) (by omega)]; first | assumption | exact sUp_eq | (rw [sUp_ne (by omega)]; assumption) | (rw [sUp_ne (by omega), sUp_ne (by omega)]; assumption)) | (rw [sUp_ne (by omega), sUp_ne (by omega), sUp_ne (by omega)]; assumption) | (simp [sUp]; done)) (by rfl) rfl ?_
  refine y_callV0 (p' := 11) D_O_completions_8 V_O_92 (c_Parts_find hG hx (by omega) hPt) rfl (by first | assumption | exact sUp_eq | (rw [sUp_ne (by omega)]; assumption) | (rw [sUp_ne (by omega), sUp_ne (by omega)]; assumption) | (rw [sUp_ne (by omega)]; exact sUp_eq) | (rw [gSet_ne (by omega) (by omega)]; first | assumption | exact sUp_eq | (rw [sUp_ne (by omega)]; assumption) | (rw [sUp_ne (by omega), sUp_ne (by omega)]; assumption)) | (rw [sUp_ne (by omega), sUp_ne (by omega), sUp_ne (by omega)]; assumption) | (simp [sUp]; done)) rfl (Nat.le_of_ble_eq_true rfl) (by decide) ⟨by decide, by decide⟩ rfl ?_
  rintro h0 ⟨hp1, hf0⟩
  have C0 := hC.fr hf0 ⟨_, _, _, hp1⟩
  have d00 := C0.1
  have p07 := hp1.c7
  have g00 := C0.2.1.1
  refine e_aload_0 (p' := 12) D_O_completions_11 rfl ?_
  refine x_callV1 (p' := 15) D_O_completions_12 V_O_191 (c_O_countCompletions C0 hS hp1) rfl (by first | assumption | exact sUp_eq | (rw [sUp_ne (by omega)]; assumption) | (rw [sUp_ne (by omega), sUp_ne (by omega)]; assumption) | (rw [sUp_ne (by omega)]; exact sUp_eq) | (rw [gSet_ne (by omega) (by omega)]; first | assumption | exact sUp_eq | (rw [sUp_ne (by omega)]; assumption) | (rw [sUp_ne (by omega), sUp_ne (by omega)]; assumption)) | (rw [sUp_ne (by omega), sUp_ne (by omega), sUp_ne (by omega)]; assumption) | (simp [sUp]; done)) rfl (Nat.le_of_ble_eq_true rfl) (by decide) ⟨by decide, by decide⟩ rfl ?_
  refine e_lreturn D_O_completions_15 rfl ⟨by decide, by decide⟩ ?_
  exact ⟨rfl, C0, hf0.o⟩
set_option maxRecDepth 4000 in
theorem c_O_factorOf {l : Launch} {h : sH} {st : St} (hC : CInv h st) (hS : StOk st) {n p : Nat} (hn : n < 2 ^ 63) (hp : p < 100) : sX l m_O_factorOf 1 [.ref 0, .long (lN n), .int (nI p)] h (some (.int (nI (fac st.1.1.2.2 n p)))) (h) := by
  have c0 := hC.1
  have hG := hC.2.1
  have hx := hS.1
  have hM := hx.2.2.1.le
  have hRr := hx.1
  have hCc := hx.2.1
  obtain ⟨g0, g1, g2⟩ := hC.2.1
  have hH := hC.2.2.2.2.2.2.2.1
  have hH32 : ∃ a b c, h.2 32 = oC 1 [a, b, c] := by
    obtain ⟨o, f, Y, C, _⟩ := hH
    exact ⟨_, _, _, C.1⟩
  obtain ⟨_, _, _, hH32⟩ := hH32
  obtain ⟨ry, cy, hP⟩ := hC.2.2.2.2.2.2.1
  have hp0 := hP.1
  have hq := hS.2.2.2
  obtain ⟨ps, psz, pcon, hPt⟩ := hC.2.2.2.1
  have hp7 := hPt.c7
  obtain ⟨t, ht, hto⟩ := hC.2.2.1
  have ht0 := ht.1
  have hmt := hC.2.2.2.2.2.1
  have hm26 : h.2 26 = oC 2 [.ref 27] := by
    obtain ⟨n, B, A, a1, _⟩ := hmt
    exact a1
  have lsz := lay_sz hx
  have hb0 := lN_ne0 (b := st.1.1.2.2 - 1) (by omega) (by omega)
  refine en_O_factorOf ?_
  refine e_aload_0 (p' := 1) D_O_factorOf_0 rfl ?_
  refine e_getfield (p' := 4) D_O_factorOf_1 F_O_10 (by first | assumption | exact sUp_eq | (rw [sUp_ne (by omega)]; assumption) | (rw [sUp_ne (by omega), sUp_ne (by omega)]; assumption) | (rw [sUp_ne (by omega)]; exact sUp_eq) | (rw [gSet_ne (by omega) (by omega)]; first | assumption | exact sUp_eq | (rw [sUp_ne (by omega)]; assumption) | (rw [sUp_ne (by omega), sUp_ne (by omega)]; assumption)) | (rw [sUp_ne (by omega), sUp_ne (by omega), sUp_ne (by omega)]; assumption) | (simp [sUp]; done)) (by rfl) rfl ?_
  refine x_callV1 (p' := 7) D_O_factorOf_4 V_O_119 (c_Grid_modulus hG) rfl (by first | assumption | exact sUp_eq | (rw [sUp_ne (by omega)]; assumption) | (rw [sUp_ne (by omega), sUp_ne (by omega)]; assumption) | (rw [sUp_ne (by omega)]; exact sUp_eq) | (rw [gSet_ne (by omega) (by omega)]; first | assumption | exact sUp_eq | (rw [sUp_ne (by omega)]; assumption) | (rw [sUp_ne (by omega), sUp_ne (by omega)]; assumption)) | (rw [sUp_ne (by omega), sUp_ne (by omega), sUp_ne (by omega)]; assumption) | (simp [sUp]; done)) rfl (Nat.le_of_ble_eq_true rfl) (by decide) ⟨by decide, by decide⟩ rfl ?_
  refine e_iconst (v := nI 1) (p' := 8) D_O_factorOf_7 cst_iconst_1 rfl ?_
  first | refine e_isubN (p' := 9) D_O_factorOf_8 (by omega) rfl ?_ | refine e_isub (p' := 9) D_O_factorOf_8 rfl ?_
  refine e_istore_4 (p' := 11) D_O_factorOf_9 (Nat.le_of_ble_eq_true rfl) rfl rfl ?_
  refine e_iload_3 (p' := 12) D_O_factorOf_11 rfl ?_
  refine e_ifN_le (q := 20) (p' := 15) D_O_factorOf_12 (by omega) rfl rfl (fun hc12 => ?_) (fun hc12 => ?_)
  ·
    refine e_iconst (v := nI 1) (p' := 21) D_O_factorOf_20 cst_iconst_1 rfl ?_
    refine e_ireturn (ty := .int) D_O_factorOf_21 rfl (by first | rfl | exact sBo_nar _) ⟨by decide, by decide⟩ ?_
    unfold fac; rw [if_pos (by omega)]; exact ⟨rfl, rfl⟩
  ·
    refine e_iload_4 (p' := 17) D_O_factorOf_15 rfl ?_
    refine e_ifN_gt (q := 22) (p' := 20) D_O_factorOf_17 (by omega) rfl rfl (fun hc17 => ?_) (fun hc17 => ?_)
    ·
      refine e_lload_1 (p' := 23) D_O_factorOf_22 rfl ?_
      refine e_lstore_5 (p' := 25) D_O_factorOf_23 (Nat.le_of_ble_eq_true rfl) rfl rfl ?_
      refine e_iconst (v := nI 1) (p' := 26) D_O_factorOf_25 cst_iconst_1 rfl ?_
      refine e_istore_7 (p' := 28) D_O_factorOf_26 (Nat.le_of_ble_eq_true rfl) rfl rfl ?_
      have lk28 : ∀ i : Nat, i ≤ p - 1 → sEv l m_O_factorOf 1 (0, 0, 0, 0) (sKm 0 0 (fun r1 h1 => r1 = some (.int (nI (fac st.1.1.2.2 n p))) ∧ h1 = h)) 28 [some (.ref 0), some (.long (lN n)), none, some (.int (nI p)), some (.int (nI (st.1.1.2.2 - 1))), some (.long (lN (n / (st.1.1.2.2 - 1) ^ i))), none, some (.int (nI (i + 1)))] [] (h) := by
        refine lp_up _ ?_ ?_
        · skip
          refine e_iload_7 (p' := 30) D_O_factorOf_28 rfl ?_
          refine e_iload_3 (p' := 31) D_O_factorOf_30 rfl ?_
          refine e_icmpN_ge (q := 48) (p' := 34) D_O_factorOf_31 (by omega) (by omega) rfl rfl (fun hc31 => ?_) (fun hc31 => ?_)
          ·
            refine e_iconst (v := nI 1) (p' := 49) D_O_factorOf_48 cst_iconst_1 rfl ?_
            refine e_lload_5 (p' := 51) D_O_factorOf_49 rfl ?_
            refine e_iload_4 (p' := 53) D_O_factorOf_51 rfl ?_
            first | refine e_i2lN (p' := 54) D_O_factorOf_53 (by omega) rfl ?_ | refine e_i2l (p' := 54) D_O_factorOf_53 rfl rfl ?_
            refine e_lrem (p' := 55) D_O_factorOf_54 (by assumption) rfl ?_
            refine e_l2i (p' := 56) D_O_factorOf_55 rfl rfl ?_
            first | refine e_iaddN (p' := 57) D_O_factorOf_56 rfl ?_ | refine e_iadd (p' := 57) D_O_factorOf_56 rfl ?_
            refine e_ireturn (ty := .int) D_O_factorOf_57 rfl (by first | rfl | exact sBo_nar _) ⟨by decide, by decide⟩ ?_
            refine ⟨?_, rfl⟩
            rw [lN_rem (Nat.lt_of_le_of_lt (Nat.div_le_self _ _) hn) (by omega) (by omega), lN_i, nI_add]
            unfold fac
            rw [if_neg (by omega)]
          ·
            exfalso; omega
        · intro i hi ih28 
          refine e_iload_7 (p' := 30) D_O_factorOf_28 rfl ?_
          refine e_iload_3 (p' := 31) D_O_factorOf_30 rfl ?_
          refine e_icmpN_ge (q := 48) (p' := 34) D_O_factorOf_31 (by omega) (by omega) rfl rfl (fun hc31 => ?_) (fun hc31 => ?_)
          ·
            exfalso; omega
          ·
            refine e_lload_5 (p' := 36) D_O_factorOf_34 rfl ?_
            refine e_iload_4 (p' := 38) D_O_factorOf_36 rfl ?_
            first | refine e_i2lN (p' := 39) D_O_factorOf_38 (by omega) rfl ?_ | refine e_i2l (p' := 39) D_O_factorOf_38 rfl rfl ?_
            refine e_ldiv (p' := 40) D_O_factorOf_39 (by assumption) rfl ?_
            refine e_lstore_5 (p' := 42) D_O_factorOf_40 (Nat.le_of_ble_eq_true rfl) rfl rfl ?_
            first | refine e_iincN_7 (n := 1) (p' := 45) D_O_factorOf_42 (Nat.le_of_ble_eq_true rfl) rfl rfl ?_ | refine e_iinc_7 (p' := 45) D_O_factorOf_42 (Nat.le_of_ble_eq_true rfl) rfl rfl rfl ?_
            refine e_goto (p' := 28) D_O_factorOf_45 rfl ?_
            refine sEv.castW (ih28) ?_ ?_ ?_
            · refine ⟨rfl, rfl, rfl, rfl, ?_, lvW_rfl _⟩
              rw [lN_div (Nat.lt_of_le_of_lt (Nat.div_le_self _ _) hn) (by omega) (by omega), Nat.div_div_eq_div_mul, ← Nat.pow_succ]
            · rfl
            · first | rfl | (simp; done)
      refine sEv.castW (lk28 0 (by omega) ) ?_ ?_ ?_
      · refine ⟨rfl, rfl, rfl, rfl, ?_, lvW_rfl _⟩
        rw [Nat.pow_zero, Nat.div_one]
      · rfl
      · first | rfl | (simp; done)
    ·
      exfalso; omega
set_option maxRecDepth 4000 in
theorem c_O_completed {l : Launch} {h : sH} {st : St} (hC : CInv h st) (hS : StOk st) {k : Int64} {r c : Int32} : sY l m_O_completed 5 [.ref 0, .long k, .int r, .int c] h (some (.int (Vcompl st.1 k r c))) (CR h st) := by
  have c0 := hC.1
  have hG := hC.2.1
  have hx := hS.1
  have hM := hx.2.2.1.le
  have hRr := hx.1
  have hCc := hx.2.1
  obtain ⟨g0, g1, g2⟩ := hC.2.1
  have hH := hC.2.2.2.2.2.2.2.1
  have hH32 : ∃ a b c, h.2 32 = oC 1 [a, b, c] := by
    obtain ⟨o, f, Y, C, _⟩ := hH
    exact ⟨_, _, _, C.1⟩
  obtain ⟨_, _, _, hH32⟩ := hH32
  obtain ⟨ry, cy, hP⟩ := hC.2.2.2.2.2.2.1
  have hp0 := hP.1
  have hq := hS.2.2.2
  obtain ⟨ps, psz, pcon, hPt⟩ := hC.2.2.2.1
  have hp7 := hPt.c7
  obtain ⟨t, ht, hto⟩ := hC.2.2.1
  have ht0 := ht.1
  have hmt := hC.2.2.2.2.2.1
  have hm26 : h.2 26 = oC 2 [.ref 27] := by
    obtain ⟨n, B, A, a1, _⟩ := hmt
    exact a1
  have lsz := lay_sz hx
  refine en_O_completed ?_
  refine e_aload_0 (p' := 1) D_O_completed_0 rfl ?_
  refine e_getfield (p' := 4) D_O_completed_1 F_O_22 (by first | assumption | exact sUp_eq | (rw [sUp_ne (by omega)]; assumption) | (rw [sUp_ne (by omega), sUp_ne (by omega)]; assumption) | (rw [sUp_ne (by omega)]; exact sUp_eq) | (rw [gSet_ne (by omega) (by omega)]; first | assumption | exact sUp_eq | (rw [sUp_ne (by omega)]; assumption) | (rw [sUp_ne (by omega), sUp_ne (by omega)]; assumption)) | (rw [sUp_ne (by omega), sUp_ne (by omega), sUp_ne (by omega)]; assumption) | (simp [sUp]; done)) (by rfl) rfl ?_
  refine e_aload_0 (p' := 5) D_O_completed_4 rfl ?_
  refine e_getfield (p' := 8) D_O_completed_5 F_O_10 (by first | assumption | exact sUp_eq | (rw [sUp_ne (by omega)]; assumption) | (rw [sUp_ne (by omega), sUp_ne (by omega)]; assumption) | (rw [sUp_ne (by omega)]; exact sUp_eq) | (rw [gSet_ne (by omega) (by omega)]; first | assumption | exact sUp_eq | (rw [sUp_ne (by omega)]; assumption) | (rw [sUp_ne (by omega), sUp_ne (by omega)]; assumption)) | (rw [sUp_ne (by omega), sUp_ne (by omega), sUp_ne (by omega)]; assumption) | (simp [sUp]; done)) (by rfl) rfl ?_
  refine y_callV0 (p' := 11) D_O_completed_8 V_O_92 (c_Parts_find hG hx (by omega) hPt) rfl (by first | assumption | exact sUp_eq | (rw [sUp_ne (by omega)]; assumption) | (rw [sUp_ne (by omega), sUp_ne (by omega)]; assumption) | (rw [sUp_ne (by omega)]; exact sUp_eq) | (rw [gSet_ne (by omega) (by omega)]; first | assumption | exact sUp_eq | (rw [sUp_ne (by omega)]; assumption) | (rw [sUp_ne (by omega), sUp_ne (by omega)]; assumption)) | (rw [sUp_ne (by omega), sUp_ne (by omega), sUp_ne (by omega)]; assumption) | (simp [sUp]; done)) rfl (Nat.le_of_ble_eq_true rfl) (by decide) ⟨by decide, by decide⟩ rfl ?_
  rintro h0 ⟨hp1, hf0⟩
  have C0 := hC.fr hf0 ⟨_, _, _, hp1⟩
  have d00 := C0.1
  have p07 := hp1.c7
  have g00 := C0.2.1.1
  refine e_lload_1 (p' := 12) D_O_completed_11 rfl ?_
  refine e_lconst (v := lN 0) (p' := 13) D_O_completed_12 rfl rfl ?_
  refine e_lcmp (p' := 14) D_O_completed_13 rfl ?_
  refine e_if_lt (q := 39) (p' := 17) D_O_completed_14 rfl rfl (fun hc14 => ?_) (fun hc14 => ?_)
  ·
    refine e_iconst (v := (-1)) (p' := 40) D_O_completed_39 cst_iconst_m1 rfl ?_
    refine e_ireturn (ty := .int) D_O_completed_40 rfl (by first | rfl | exact sBo_nar _) ⟨by decide, by decide⟩ ?_
    unfold Vcompl; rw [if_pos (Or.inl ((lg_cmp_lt _ _).mp hc14))]; exact ⟨rfl, C0, hf0.o⟩
  ·
    refine e_lload_1 (p' := 18) D_O_completed_17 rfl ?_
    refine e_aload_0 (p' := 19) D_O_completed_18 rfl ?_
    refine x_callV1 (p' := 22) D_O_completed_19 V_O_191 (c_O_countCompletions C0 hS hp1) rfl (by first | assumption | exact sUp_eq | (rw [sUp_ne (by omega)]; assumption) | (rw [sUp_ne (by omega), sUp_ne (by omega)]; assumption) | (rw [sUp_ne (by omega)]; exact sUp_eq) | (rw [gSet_ne (by omega) (by omega)]; first | assumption | exact sUp_eq | (rw [sUp_ne (by omega)]; assumption) | (rw [sUp_ne (by omega), sUp_ne (by omega)]; assumption)) | (rw [sUp_ne (by omega), sUp_ne (by omega), sUp_ne (by omega)]; assumption) | (simp [sUp]; done)) rfl (Nat.le_of_ble_eq_true rfl) (by decide) ⟨by decide, by decide⟩ rfl ?_
    refine e_lcmp (p' := 23) D_O_completed_22 rfl ?_
    refine e_if_ge (q := 39) (p' := 26) D_O_completed_23 rfl rfl (fun hc23 => ?_) (fun hc23 => ?_)
    ·
      refine e_iconst (v := (-1)) (p' := 40) D_O_completed_39 cst_iconst_m1 rfl ?_
      refine e_ireturn (ty := .int) D_O_completed_40 rfl (by first | rfl | exact sBo_nar _) ⟨by decide, by decide⟩ ?_
      unfold Vcompl; rw [if_pos (Or.inr (Or.inl ((lg_cmp_ge _ _).mp hc23)))]; exact ⟨rfl, C0, hf0.o⟩
    ·
      refine e_aload_0 (p' := 27) D_O_completed_26 rfl ?_
      refine e_getfield (p' := 30) D_O_completed_27 F_O_10 (by first | assumption | exact sUp_eq | (rw [sUp_ne (by omega)]; assumption) | (rw [sUp_ne (by omega), sUp_ne (by omega)]; assumption) | (rw [sUp_ne (by omega)]; exact sUp_eq) | (rw [gSet_ne (by omega) (by omega)]; first | assumption | exact sUp_eq | (rw [sUp_ne (by omega)]; assumption) | (rw [sUp_ne (by omega), sUp_ne (by omega)]; assumption)) | (rw [sUp_ne (by omega), sUp_ne (by omega), sUp_ne (by omega)]; assumption) | (simp [sUp]; done)) (by rfl) rfl ?_
      refine e_iload_3 (p' := 31) D_O_completed_30 rfl ?_
      refine e_iload_4 (p' := 33) D_O_completed_31 rfl ?_
      refine x_callV1 (p' := 36) D_O_completed_33 V_O_128 (c_Grid_has C0.2.1) rfl (by first | assumption | exact sUp_eq | (rw [sUp_ne (by omega)]; assumption) | (rw [sUp_ne (by omega), sUp_ne (by omega)]; assumption) | (rw [sUp_ne (by omega)]; exact sUp_eq) | (rw [gSet_ne (by omega) (by omega)]; first | assumption | exact sUp_eq | (rw [sUp_ne (by omega)]; assumption) | (rw [sUp_ne (by omega), sUp_ne (by omega)]; assumption)) | (rw [sUp_ne (by omega), sUp_ne (by omega), sUp_ne (by omega)]; assumption) | (simp [sUp]; done)) rfl (Nat.le_of_ble_eq_true rfl) (by decide) ⟨by decide, by decide⟩ rfl ?_
      refine e_ifB_ne (q := 41) (p' := 39) D_O_completed_36 rfl rfl (fun hc36 => ?_) (fun hc36 => ?_)
      ·
        obtain ⟨kr, kc, kr1, kc1, rfl, rfl⟩ := has_N hx hc36
        obtain ⟨n, kn1, rfl, kn2⟩ := lN_of (k := k) (fun q => hc14 ((lg_cmp_lt _ _).mpr q))
        have kn := lay_kn hx
        have pb := (lay_pv hx).2
        have pb1 := (pb kr).1
        have pb2 := (pb kc).2
        have f1 := fac_lt (m := st.1.1.2.2) (n := n) (p := (lay st.1).1.1.1 kr - 1) (by omega)
        have f2 := fac_lt (m := st.1.1.2.2) (n := n) (p := (lay st.1).1.1.2 kc - 1) (by omega)
        have q1 : (lay st.1).1.2.1 kr * (lay st.1).1.2.2 kc % st.1.1.2.2 < st.1.1.2.2 := pdt_lt hx kr kc
        have q2 := Nat.mod_lt ((lay st.1).1.2.1 kr * (lay st.1).1.2.2 kc % st.1.1.2.2 * fac st.1.1.2.2 n ((lay st.1).1.1.1 kr - 1)) (y := st.1.1.2.2) (by omega)
        refine e_aload_0 (p' := 42) D_O_completed_41 rfl ?_
        refine e_lload_1 (p' := 43) D_O_completed_42 rfl ?_
        refine e_aload_0 (p' := 44) D_O_completed_43 rfl ?_
        refine e_getfield (p' := 47) D_O_completed_44 F_O_22 (by first | assumption | exact sUp_eq | (rw [sUp_ne (by omega)]; assumption) | (rw [sUp_ne (by omega), sUp_ne (by omega)]; assumption) | (rw [sUp_ne (by omega)]; exact sUp_eq) | (rw [gSet_ne (by omega) (by omega)]; first | assumption | exact sUp_eq | (rw [sUp_ne (by omega)]; assumption) | (rw [sUp_ne (by omega), sUp_ne (by omega)]; assumption)) | (rw [sUp_ne (by omega), sUp_ne (by omega), sUp_ne (by omega)]; assumption) | (simp [sUp]; done)) (by rfl) rfl ?_
        refine e_iload_3 (p' := 48) D_O_completed_47 rfl ?_
        refine x_callV1 (p' := 51) D_O_completed_48 V_O_195 ((by have := c_Parts_partOfRow (l := l) hp1 (r := kr) (by omega); rw [pI_pos (kn.1 _ kr1)] at this; exact this)) rfl (by first | assumption | exact sUp_eq | (rw [sUp_ne (by omega)]; assumption) | (rw [sUp_ne (by omega), sUp_ne (by omega)]; assumption) | (rw [sUp_ne (by omega)]; exact sUp_eq) | (rw [gSet_ne (by omega) (by omega)]; first | assumption | exact sUp_eq | (rw [sUp_ne (by omega)]; assumption) | (rw [sUp_ne (by omega), sUp_ne (by omega)]; assumption)) | (rw [sUp_ne (by omega), sUp_ne (by omega), sUp_ne (by omega)]; assumption) | (simp [sUp]; done)) rfl (Nat.le_of_ble_eq_true rfl) (by decide) ⟨by decide, by decide⟩ rfl ?_
        refine x_callV1 (p' := 54) D_O_completed_51 V_O_198 (c_O_factorOf C0 hS kn1 (by omega)) rfl (by first | assumption | exact sUp_eq | (rw [sUp_ne (by omega)]; assumption) | (rw [sUp_ne (by omega), sUp_ne (by omega)]; assumption) | (rw [sUp_ne (by omega)]; exact sUp_eq) | (rw [gSet_ne (by omega) (by omega)]; first | assumption | exact sUp_eq | (rw [sUp_ne (by omega)]; assumption) | (rw [sUp_ne (by omega), sUp_ne (by omega)]; assumption)) | (rw [sUp_ne (by omega), sUp_ne (by omega), sUp_ne (by omega)]; assumption) | (simp [sUp]; done)) rfl (Nat.le_of_ble_eq_true rfl) (by decide) ⟨by decide, by decide⟩ rfl ?_
        refine e_istore_5 (p' := 56) D_O_completed_54 (Nat.le_of_ble_eq_true rfl) rfl rfl ?_
        refine e_aload_0 (p' := 57) D_O_completed_56 rfl ?_
        refine e_lload_1 (p' := 58) D_O_completed_57 rfl ?_
        refine e_aload_0 (p' := 59) D_O_completed_58 rfl ?_
        refine e_getfield (p' := 62) D_O_completed_59 F_O_22 (by first | assumption | exact sUp_eq | (rw [sUp_ne (by omega)]; assumption) | (rw [sUp_ne (by omega), sUp_ne (by omega)]; assumption) | (rw [sUp_ne (by omega)]; exact sUp_eq) | (rw [gSet_ne (by omega) (by omega)]; first | assumption | exact sUp_eq | (rw [sUp_ne (by omega)]; assumption) | (rw [sUp_ne (by omega), sUp_ne (by omega)]; assumption)) | (rw [sUp_ne (by omega), sUp_ne (by omega), sUp_ne (by omega)]; assumption) | (simp [sUp]; done)) (by rfl) rfl ?_
        refine e_iload_4 (p' := 64) D_O_completed_62 rfl ?_
        refine x_callV1 (p' := 67) D_O_completed_64 V_O_202 ((by have := c_Parts_partOfColumn (l := l) hp1 (r := kc) (by omega); rw [pI_pos (kn.2 _ kc1)] at this; exact this)) rfl (by first | assumption | exact sUp_eq | (rw [sUp_ne (by omega)]; assumption) | (rw [sUp_ne (by omega), sUp_ne (by omega)]; assumption) | (rw [sUp_ne (by omega)]; exact sUp_eq) | (rw [gSet_ne (by omega) (by omega)]; first | assumption | exact sUp_eq | (rw [sUp_ne (by omega)]; assumption) | (rw [sUp_ne (by omega), sUp_ne (by omega)]; assumption)) | (rw [sUp_ne (by omega), sUp_ne (by omega), sUp_ne (by omega)]; assumption) | (simp [sUp]; done)) rfl (Nat.le_of_ble_eq_true rfl) (by decide) ⟨by decide, by decide⟩ rfl ?_
        refine x_callV1 (p' := 70) D_O_completed_67 V_O_198 (c_O_factorOf C0 hS kn1 (by omega)) rfl (by first | assumption | exact sUp_eq | (rw [sUp_ne (by omega)]; assumption) | (rw [sUp_ne (by omega), sUp_ne (by omega)]; assumption) | (rw [sUp_ne (by omega)]; exact sUp_eq) | (rw [gSet_ne (by omega) (by omega)]; first | assumption | exact sUp_eq | (rw [sUp_ne (by omega)]; assumption) | (rw [sUp_ne (by omega), sUp_ne (by omega)]; assumption)) | (rw [sUp_ne (by omega), sUp_ne (by omega), sUp_ne (by omega)]; assumption) | (simp [sUp]; done)) rfl (Nat.le_of_ble_eq_true rfl) (by decide) ⟨by decide, by decide⟩ rfl ?_
        refine e_istore_6 (p' := 72) D_O_completed_70 (Nat.le_of_ble_eq_true rfl) rfl rfl ?_
        refine e_aload_0 (p' := 73) D_O_completed_72 rfl ?_
        refine e_getfield (p' := 76) D_O_completed_73 F_O_10 (by first | assumption | exact sUp_eq | (rw [sUp_ne (by omega)]; assumption) | (rw [sUp_ne (by omega), sUp_ne (by omega)]; assumption) | (rw [sUp_ne (by omega)]; exact sUp_eq) | (rw [gSet_ne (by omega) (by omega)]; first | assumption | exact sUp_eq | (rw [sUp_ne (by omega)]; assumption) | (rw [sUp_ne (by omega), sUp_ne (by omega)]; assumption)) | (rw [sUp_ne (by omega), sUp_ne (by omega), sUp_ne (by omega)]; assumption) | (simp [sUp]; done)) (by rfl) rfl ?_
        refine e_aload_0 (p' := 77) D_O_completed_76 rfl ?_
        refine e_getfield (p' := 80) D_O_completed_77 F_O_22 (by first | assumption | exact sUp_eq | (rw [sUp_ne (by omega)]; assumption) | (rw [sUp_ne (by omega), sUp_ne (by omega)]; assumption) | (rw [sUp_ne (by omega)]; exact sUp_eq) | (rw [gSet_ne (by omega) (by omega)]; first | assumption | exact sUp_eq | (rw [sUp_ne (by omega)]; assumption) | (rw [sUp_ne (by omega), sUp_ne (by omega)]; assumption)) | (rw [sUp_ne (by omega), sUp_ne (by omega), sUp_ne (by omega)]; assumption) | (simp [sUp]; done)) (by rfl) rfl ?_
        refine e_aload_0 (p' := 81) D_O_completed_80 rfl ?_
        refine e_getfield (p' := 84) D_O_completed_81 F_O_10 (by first | assumption | exact sUp_eq | (rw [sUp_ne (by omega)]; assumption) | (rw [sUp_ne (by omega), sUp_ne (by omega)]; assumption) | (rw [sUp_ne (by omega)]; exact sUp_eq) | (rw [gSet_ne (by omega) (by omega)]; first | assumption | exact sUp_eq | (rw [sUp_ne (by omega)]; assumption) | (rw [sUp_ne (by omega), sUp_ne (by omega)]; assumption)) | (rw [sUp_ne (by omega), sUp_ne (by omega), sUp_ne (by omega)]; assumption) | (simp [sUp]; done)) (by rfl) rfl ?_
        refine e_iload_3 (p' := 85) D_O_completed_84 rfl ?_
        refine e_iload_4 (p' := 87) D_O_completed_85 rfl ?_
        refine x_callV1 (p' := 90) D_O_completed_87 V_O_109 (c_Parts_product C0.2.1 hx (by omega) hp1 (lay_pv hx) (by omega) (by omega) (kn.1 _ kr1) (kn.2 _ kc1)) rfl (by first | assumption | exact sUp_eq | (rw [sUp_ne (by omega)]; assumption) | (rw [sUp_ne (by omega), sUp_ne (by omega)]; assumption) | (rw [sUp_ne (by omega)]; exact sUp_eq) | (rw [gSet_ne (by omega) (by omega)]; first | assumption | exact sUp_eq | (rw [sUp_ne (by omega)]; assumption) | (rw [sUp_ne (by omega), sUp_ne (by omega)]; assumption)) | (rw [sUp_ne (by omega), sUp_ne (by omega), sUp_ne (by omega)]; assumption) | (simp [sUp]; done)) rfl (Nat.le_of_ble_eq_true rfl) (by decide) ⟨by decide, by decide⟩ rfl ?_
        refine e_iload_5 (p' := 92) D_O_completed_90 rfl ?_
        refine x_callV1 (p' := 95) D_O_completed_92 V_O_205 (c_Grid_product C0.2.1 hx (by omega) (by omega)) rfl (by first | assumption | exact sUp_eq | (rw [sUp_ne (by omega)]; assumption) | (rw [sUp_ne (by omega), sUp_ne (by omega)]; assumption) | (rw [sUp_ne (by omega)]; exact sUp_eq) | (rw [gSet_ne (by omega) (by omega)]; first | assumption | exact sUp_eq | (rw [sUp_ne (by omega)]; assumption) | (rw [sUp_ne (by omega), sUp_ne (by omega)]; assumption)) | (rw [sUp_ne (by omega), sUp_ne (by omega), sUp_ne (by omega)]; assumption) | (simp [sUp]; done)) rfl (Nat.le_of_ble_eq_true rfl) (by decide) ⟨by decide, by decide⟩ rfl ?_
        refine e_istore_7 (p' := 97) D_O_completed_95 (Nat.le_of_ble_eq_true rfl) rfl rfl ?_
        refine e_aload_0 (p' := 98) D_O_completed_97 rfl ?_
        refine e_getfield (p' := 101) D_O_completed_98 F_O_10 (by first | assumption | exact sUp_eq | (rw [sUp_ne (by omega)]; assumption) | (rw [sUp_ne (by omega), sUp_ne (by omega)]; assumption) | (rw [sUp_ne (by omega)]; exact sUp_eq) | (rw [gSet_ne (by omega) (by omega)]; first | assumption | exact sUp_eq | (rw [sUp_ne (by omega)]; assumption) | (rw [sUp_ne (by omega), sUp_ne (by omega)]; assumption)) | (rw [sUp_ne (by omega), sUp_ne (by omega), sUp_ne (by omega)]; assumption) | (simp [sUp]; done)) (by rfl) rfl ?_
        refine e_iload_7 (p' := 103) D_O_completed_101 rfl ?_
        refine e_iload_6 (p' := 105) D_O_completed_103 rfl ?_
        refine x_callV1 (p' := 108) D_O_completed_105 V_O_207 (c_Grid_quotient C0.2.1 hx (by omega) (by omega)) rfl (by first | assumption | exact sUp_eq | (rw [sUp_ne (by omega)]; assumption) | (rw [sUp_ne (by omega), sUp_ne (by omega)]; assumption) | (rw [sUp_ne (by omega)]; exact sUp_eq) | (rw [gSet_ne (by omega) (by omega)]; first | assumption | exact sUp_eq | (rw [sUp_ne (by omega)]; assumption) | (rw [sUp_ne (by omega), sUp_ne (by omega)]; assumption)) | (rw [sUp_ne (by omega), sUp_ne (by omega), sUp_ne (by omega)]; assumption) | (simp [sUp]; done)) rfl (Nat.le_of_ble_eq_true rfl) (by decide) ⟨by decide, by decide⟩ rfl ?_
        refine e_ireturn (ty := .int) D_O_completed_108 rfl (by first | rfl | exact sBo_nar _) ⟨by decide, by decide⟩ ?_
        unfold Vcompl
        rw [if_neg (fun q => by rcases q with q | q | q; exact hc14 ((lg_cmp_lt _ _).mpr q); exact hc23 ((lg_cmp_ge _ _).mpr q); rw [hc36] at q; exact absurd q (by decide)), natOf_nI (by omega), natOf_nI (by omega), kn2]
        exact ⟨rfl, C0, hf0.o⟩
      ·
        refine e_iconst (v := (-1)) (p' := 40) D_O_completed_39 cst_iconst_m1 rfl ?_
        refine e_ireturn (ty := .int) D_O_completed_40 rfl (by first | rfl | exact sBo_nar _) ⟨by decide, by decide⟩ ?_
        unfold Vcompl; rw [if_pos (Or.inr (Or.inr hc36))]; exact ⟨rfl, C0, hf0.o⟩
set_option maxRecDepth 4000 in
theorem c_O_isWellIf {l : Launch} {h : sH} {st : St} (hC : CInv h st) (hS : StOk st) {r c n : Int32} : sY l m_O_isWellIf 5 [.ref 0, .int r, .int c, .int n] h (some (.int (VwellIf st.1 r c n))) (CR h st) := by
  have c0 := hC.1
  have hG := hC.2.1
  have hx := hS.1
  have hM := hx.2.2.1.le
  have hRr := hx.1
  have hCc := hx.2.1
  obtain ⟨g0, g1, g2⟩ := hC.2.1
  have hH := hC.2.2.2.2.2.2.2.1
  have hH32 : ∃ a b c, h.2 32 = oC 1 [a, b, c] := by
    obtain ⟨o, f, Y, C, _⟩ := hH
    exact ⟨_, _, _, C.1⟩
  obtain ⟨_, _, _, hH32⟩ := hH32
  obtain ⟨ry, cy, hP⟩ := hC.2.2.2.2.2.2.1
  have hp0 := hP.1
  have hq := hS.2.2.2
  obtain ⟨ps, psz, pcon, hPt⟩ := hC.2.2.2.1
  have hp7 := hPt.c7
  obtain ⟨t, ht, hto⟩ := hC.2.2.1
  have ht0 := ht.1
  have hmt := hC.2.2.2.2.2.1
  have hm26 : h.2 26 = oC 2 [.ref 27] := by
    obtain ⟨n, B, A, a1, _⟩ := hmt
    exact a1
  have lsz := lay_sz hx
  refine en_O_isWellIf ?_
  refine e_aload_0 (p' := 1) D_O_isWellIf_0 rfl ?_
  refine e_iload_1 (p' := 2) D_O_isWellIf_1 rfl ?_
  refine e_iload_2 (p' := 3) D_O_isWellIf_2 rfl ?_
  refine e_iload_3 (p' := 4) D_O_isWellIf_3 rfl ?_
  refine x_callV1 (p' := 7) D_O_isWellIf_4 V_O_81 (c_O_errorOfTelling hC hS) rfl (by first | assumption | exact sUp_eq | (rw [sUp_ne (by omega)]; assumption) | (rw [sUp_ne (by omega), sUp_ne (by omega)]; assumption) | (rw [sUp_ne (by omega)]; exact sUp_eq) | (rw [gSet_ne (by omega) (by omega)]; first | assumption | exact sUp_eq | (rw [sUp_ne (by omega)]; assumption) | (rw [sUp_ne (by omega), sUp_ne (by omega)]; assumption)) | (rw [sUp_ne (by omega), sUp_ne (by omega), sUp_ne (by omega)]; assumption) | (simp [sUp]; done)) rfl (Nat.le_of_ble_eq_true rfl) (by decide) ⟨by decide, by decide⟩ rfl ?_
  refine e_istore_4 (p' := 9) D_O_isWellIf_7 (Nat.le_of_ble_eq_true rfl) rfl rfl ?_
  refine e_iload_4 (p' := 11) D_O_isWellIf_9 rfl ?_
  refine e_if_eq (q := 17) (p' := 14) D_O_isWellIf_11 rfl rfl (fun hc11 => ?_) (fun hc11 => ?_)
  ·
    have hc11 : eT st.1 r c n = 0 := hc11
    have e0 := hc11
    obtain ⟨kr, kc, kv, kr1, kc1, kv1, rfl, rfl, rfl⟩ := eT_0 hx hc11
    refine e_aload_0 (p' := 18) D_O_isWellIf_17 rfl ?_
    refine e_getfield (p' := 21) D_O_isWellIf_18 F_O_16 (by first | assumption | exact sUp_eq | (rw [sUp_ne (by omega)]; assumption) | (rw [sUp_ne (by omega), sUp_ne (by omega)]; assumption) | (rw [sUp_ne (by omega)]; exact sUp_eq) | (rw [gSet_ne (by omega) (by omega)]; first | assumption | exact sUp_eq | (rw [sUp_ne (by omega)]; assumption) | (rw [sUp_ne (by omega), sUp_ne (by omega)]; assumption)) | (rw [sUp_ne (by omega), sUp_ne (by omega), sUp_ne (by omega)]; assumption) | (simp [sUp]; done)) (by rfl) rfl ?_
    refine e_aload_0 (p' := 22) D_O_isWellIf_21 rfl ?_
    refine e_getfield (p' := 25) D_O_isWellIf_22 F_O_10 (by first | assumption | exact sUp_eq | (rw [sUp_ne (by omega)]; assumption) | (rw [sUp_ne (by omega), sUp_ne (by omega)]; assumption) | (rw [sUp_ne (by omega)]; exact sUp_eq) | (rw [gSet_ne (by omega) (by omega)]; first | assumption | exact sUp_eq | (rw [sUp_ne (by omega)]; assumption) | (rw [sUp_ne (by omega), sUp_ne (by omega)]; assumption)) | (rw [sUp_ne (by omega), sUp_ne (by omega), sUp_ne (by omega)]; assumption) | (simp [sUp]; done)) (by rfl) rfl ?_
    refine x_callV0 (p' := 28) D_O_isWellIf_25 V_O_134 (c_Grid_copyFrom ht hto hG hx (by omega)) rfl (by first | assumption | exact sUp_eq | (rw [sUp_ne (by omega)]; assumption) | (rw [sUp_ne (by omega), sUp_ne (by omega)]; assumption) | (rw [sUp_ne (by omega)]; exact sUp_eq) | (rw [gSet_ne (by omega) (by omega)]; first | assumption | exact sUp_eq | (rw [sUp_ne (by omega)]; assumption) | (rw [sUp_ne (by omega), sUp_ne (by omega)]; assumption)) | (rw [sUp_ne (by omega), sUp_ne (by omega), sUp_ne (by omega)]; assumption) | (simp [sUp]; done)) rfl (Nat.le_of_ble_eq_true rfl) (by decide) ⟨by decide, by decide⟩ rfl ?_
    have C1 := hC.tr4 hx
    have T1 : GridAt (gSet h 4 st.1) 4 st.1 := gSet_at ht
    have c10 := C1.1
    have t10 := T1.1
    refine e_aload_0 (p' := 29) D_O_isWellIf_28 rfl ?_
    refine e_getfield (p' := 32) D_O_isWellIf_29 F_O_16 (by first | assumption | exact sUp_eq | (rw [sUp_ne (by omega)]; assumption) | (rw [sUp_ne (by omega), sUp_ne (by omega)]; assumption) | (rw [sUp_ne (by omega)]; exact sUp_eq) | (rw [gSet_ne (by omega) (by omega)]; first | assumption | exact sUp_eq | (rw [sUp_ne (by omega)]; assumption) | (rw [sUp_ne (by omega), sUp_ne (by omega)]; assumption)) | (rw [sUp_ne (by omega), sUp_ne (by omega), sUp_ne (by omega)]; assumption) | (simp [sUp]; done)) (by rfl) rfl ?_
    refine e_iload_1 (p' := 33) D_O_isWellIf_32 rfl ?_
    refine e_iload_2 (p' := 34) D_O_isWellIf_33 rfl ?_
    refine e_iload_3 (p' := 35) D_O_isWellIf_34 rfl ?_
    refine x_callV0 (p' := 38) D_O_isWellIf_35 V_O_89 (c_Grid_setNumber T1 hx kr1 kc1) rfl (by first | assumption | exact sUp_eq | (rw [sUp_ne (by omega)]; assumption) | (rw [sUp_ne (by omega), sUp_ne (by omega)]; assumption) | (rw [sUp_ne (by omega)]; exact sUp_eq) | (rw [gSet_ne (by omega) (by omega)]; first | assumption | exact sUp_eq | (rw [sUp_ne (by omega)]; assumption) | (rw [sUp_ne (by omega), sUp_ne (by omega)]; assumption)) | (rw [sUp_ne (by omega), sUp_ne (by omega), sUp_ne (by omega)]; assumption) | (simp [sUp]; done)) rfl (Nat.le_of_ble_eq_true rfl) (by decide) ⟨by decide, by decide⟩ rfl ?_
    have uok := up1_ok hx kr1 kc1 kv1
    have C2 := C1.tr4 uok
    have T2 := gSet_at (x := upd1 st.1 kr kc kv) T1
    have c20 := C2.1
    have t20 := T2.1
    obtain ⟨ps2, sz2, con2, P2⟩ := C2.2.2.2.1
    have p27 := P2.c7
    refine e_aload_0 (p' := 39) D_O_isWellIf_38 rfl ?_
    refine e_getfield (p' := 42) D_O_isWellIf_39 F_O_22 (by first | assumption | exact sUp_eq | (rw [sUp_ne (by omega)]; assumption) | (rw [sUp_ne (by omega), sUp_ne (by omega)]; assumption) | (rw [sUp_ne (by omega)]; exact sUp_eq) | (rw [gSet_ne (by omega) (by omega)]; first | assumption | exact sUp_eq | (rw [sUp_ne (by omega)]; assumption) | (rw [sUp_ne (by omega), sUp_ne (by omega)]; assumption)) | (rw [sUp_ne (by omega), sUp_ne (by omega), sUp_ne (by omega)]; assumption) | (simp [sUp]; done)) (by rfl) rfl ?_
    refine e_aload_0 (p' := 43) D_O_isWellIf_42 rfl ?_
    refine e_getfield (p' := 46) D_O_isWellIf_43 F_O_16 (by first | assumption | exact sUp_eq | (rw [sUp_ne (by omega)]; assumption) | (rw [sUp_ne (by omega), sUp_ne (by omega)]; assumption) | (rw [sUp_ne (by omega)]; exact sUp_eq) | (rw [gSet_ne (by omega) (by omega)]; first | assumption | exact sUp_eq | (rw [sUp_ne (by omega)]; assumption) | (rw [sUp_ne (by omega), sUp_ne (by omega)]; assumption)) | (rw [sUp_ne (by omega), sUp_ne (by omega), sUp_ne (by omega)]; assumption) | (simp [sUp]; done)) (by rfl) rfl ?_
    refine y_callV0 (p' := 49) D_O_isWellIf_46 V_O_92 (c_Parts_find T2 uok (by omega) P2) rfl (by first | assumption | exact sUp_eq | (rw [sUp_ne (by omega)]; assumption) | (rw [sUp_ne (by omega), sUp_ne (by omega)]; assumption) | (rw [sUp_ne (by omega)]; exact sUp_eq) | (rw [gSet_ne (by omega) (by omega)]; first | assumption | exact sUp_eq | (rw [sUp_ne (by omega)]; assumption) | (rw [sUp_ne (by omega), sUp_ne (by omega)]; assumption)) | (rw [sUp_ne (by omega), sUp_ne (by omega), sUp_ne (by omega)]; assumption) | (simp [sUp]; done)) rfl (Nat.le_of_ble_eq_true rfl) (by decide) ⟨by decide, by decide⟩ rfl ?_
    rintro h3 ⟨P3, f3⟩
    have C3 := C2.fr f3 ⟨_, _, _, P3⟩
    have c30 := C3.1
    have p37 := P3.c7
    have T3 := T2.fr f3 (by omega)
    have t30 := T3.1
    have F3 : FrO h h3 := fun a ha => (f3 a (by omega)).trans ((gSet_ne (by omega) (by omega)).trans (gSet_ne (by omega) (by omega)))
    refine e_aload_0 (p' := 50) D_O_isWellIf_49 rfl ?_
    refine e_getfield (p' := 53) D_O_isWellIf_50 F_O_22 (by first | assumption | exact sUp_eq | (rw [sUp_ne (by omega)]; assumption) | (rw [sUp_ne (by omega), sUp_ne (by omega)]; assumption) | (rw [sUp_ne (by omega)]; exact sUp_eq) | (rw [gSet_ne (by omega) (by omega)]; first | assumption | exact sUp_eq | (rw [sUp_ne (by omega)]; assumption) | (rw [sUp_ne (by omega), sUp_ne (by omega)]; assumption)) | (rw [sUp_ne (by omega), sUp_ne (by omega), sUp_ne (by omega)]; assumption) | (simp [sUp]; done)) (by rfl) rfl ?_
    refine x_callV1 (p' := 56) D_O_isWellIf_53 V_O_95 (c_Parts_isConsistent P3) rfl (by first | assumption | exact sUp_eq | (rw [sUp_ne (by omega)]; assumption) | (rw [sUp_ne (by omega), sUp_ne (by omega)]; assumption) | (rw [sUp_ne (by omega)]; exact sUp_eq) | (rw [gSet_ne (by omega) (by omega)]; first | assumption | exact sUp_eq | (rw [sUp_ne (by omega)]; assumption) | (rw [sUp_ne (by omega), sUp_ne (by omega)]; assumption)) | (rw [sUp_ne (by omega), sUp_ne (by omega), sUp_ne (by omega)]; assumption) | (simp [sUp]; done)) rfl (Nat.le_of_ble_eq_true rfl) (by decide) ⟨by decide, by decide⟩ rfl ?_
    refine e_ifB_eq (q := 63) (p' := 59) D_O_isWellIf_56 rfl rfl (fun hc56 => ?_) (fun hc56 => ?_)
    ·
      refine e_iconst (v := nI 0) (p' := 64) D_O_isWellIf_63 cst_iconst_0 rfl ?_
      refine e_ireturn (ty := .int) D_O_isWellIf_64 rfl (by first | rfl | exact sBo_nar _) ⟨by decide, by decide⟩ ?_
      unfold VwellIf
      rw [if_pos e0, natOf_nI (by omega), natOf_nI (by omega), natOf_nI (by omega), hc56]
      exact ⟨rfl, C3, F3⟩
    ·
      refine e_iconst (v := nI 1) (p' := 60) D_O_isWellIf_59 cst_iconst_1 rfl ?_
      refine e_goto (p' := 64) D_O_isWellIf_60 rfl ?_
      refine e_ireturn (ty := .int) D_O_isWellIf_64 rfl (by first | rfl | exact sBo_nar _) ⟨by decide, by decide⟩ ?_
      unfold VwellIf
      rw [if_pos e0, natOf_nI (by omega), natOf_nI (by omega), natOf_nI (by omega), hc56]
      exact ⟨rfl, C3, F3⟩
  ·
    refine e_iload_4 (p' := 16) D_O_isWellIf_14 rfl ?_
    refine e_ireturn (ty := .int) D_O_isWellIf_16 rfl (by first | rfl | exact sBo_nar _) ⟨by decide, by decide⟩ ?_
    unfold VwellIf; rw [if_neg hc11]; exact ⟨rfl, hC, FrO.rf⟩
