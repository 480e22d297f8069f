/-! ===== the reference: its state; small methods ===== -/
def zN (x : Gd) : Nat → Nat := fun k => if k < 36 then x.2 k else if k = 36 then x.1.1 else if k = 37 then x.1.2.1 else if k = 38 then x.1.2.2 else 0
theorem z36 {x : Gd} : nF (zN x) 36 = nI x.1.1 := rfl
theorem z37 {x : Gd} : nF (zN x) 37 = nI x.1.2.1 := rfl
theorem z38 {x : Gd} : nF (zN x) 38 = nI x.1.2.2 := rfl
theorem zP {x : Gd} {p : Nat} (h : p < 36) : nF (zN x) p = nI (x.2 p) := by unfold nF zN; rw [if_pos h]
theorem zA {x : Gd} {r c : Nat} (h : 6 * r + c < 36) : nF (zN x) (6 * r + c) = nI (at' x r c) := zP h
abbrev mV : Type := Int32 × Int32 × Int32 × Int32 × Int32 × Int32 × Int32 × Int32
abbrev mO (n t : Nat) (v : mV) : sC := oC 9 [.ref 62, .ref 63, .ref 64, .ref 65, .int (nI n), .ref 66, .int (nI t), .ref 67, .ref 68, .ref 69, .ref 70, .int v.1, .int v.2.1, .ref 71, .ref 72, .int v.2.2.1, .int v.2.2.2.1, .int v.2.2.2.2.1, .int v.2.2.2.2.2.1, .ref 73, .int v.2.2.2.2.2.2.1, .int v.2.2.2.2.2.2.2]
abbrev Mr : Type := Hs × (Nat → Option Gd) × Pd
def PastIs (f : Nat → Int32) (s : Hs) : Prop := ∀ i, i < s.1 → ∀ k, k < 39 → f (39 * i + k) = nI (zN (s.2 i) k)
def SlotsAre (f : Nat → Int32) (sl : Nat → Option Gd) : Prop := ∀ s z, s < 2 → sl s = some z → ∀ k, k < 39 → f (39 * s + k) = nI (zN z k)
def MRest (h : sH) (s : Mr) : Prop := (∃ v, h.2 61 = mO s.1.1 s.2.2.1 v) ∧ (∃ f, h.2 63 = iA 234 f ∧ PastIs f s.1) ∧ (∃ f, h.2 64 = iA 78 f ∧ SlotsAre f s.2.1) ∧ (∃ f, h.2 65 = .inl (2, 2, f) ∧ ∀ k, k < 2 → f k = sBo (s.2.1 k).isSome) ∧ (∃ f, h.2 66 = .inl (1, 50, f) ∧ ∀ i, i < s.2.2.1 → f i = nI (s.2.2.2 i)) ∧ (∃ f1 f2 f3 f4, h.2 67 = iA 6 f1 ∧ h.2 68 = iA 6 f2 ∧ h.2 69 = iA 6 f3 ∧ h.2 70 = iA 6 f4) ∧ (∃ f, h.2 71 = iA 36 f) ∧ (∃ f, h.2 72 = iA 12 f) ∧ (∃ f, h.2 73 = iA 36 f)
def MInv (h : sH) (st : St) : Prop := h.2 62 = iA 39 (nF (zN st.1)) ∧ MRest h st.2
def FrK (h h' : sH) : Prop := ∀ a, a < 61 → h'.2 a = h.2 a
theorem FrK.rf {h : sH} : FrK h h := fun _ _ => rfl
theorem FrK.tr {h h1 h2 : sH} (a : FrK h h1) (b : FrK h1 h2) : FrK h h2 := fun q hq => (b q hq).trans (a q hq)
theorem FrK.up {h h1 : sH} {a : Nat} {c : sC} (f : FrK h h1) (h7 : 61 ≤ a) : FrK h (sUp h1 a c) := fun q hq => (sUp_ne (by omega)).trans (f q hq)
abbrev MR (h : sH) (st : St) (h1 : sH) : Prop := MInv h1 st ∧ FrK h h1
theorem MRest.z {h : sH} {s : Mr} {c : sC} (H : MRest h s) : MRest (sUp h 62 c) s := by
  obtain ⟨⟨v, a1⟩, ⟨f, a2, b2⟩, ⟨f3, a3, b3⟩, ⟨f4, a4, b4⟩, ⟨f5, a5, b5⟩, ⟨f6, f7, f8, f9, a6, a7, a8, a9⟩, ⟨f10, a10⟩, ⟨f11, a11⟩, ⟨f12, a12⟩⟩ := H
  exact ⟨⟨v, (sUp_ne (by omega)).trans a1⟩, ⟨f, (sUp_ne (by omega)).trans a2, b2⟩, ⟨f3, (sUp_ne (by omega)).trans a3, b3⟩, ⟨f4, (sUp_ne (by omega)).trans a4, b4⟩, ⟨f5, (sUp_ne (by omega)).trans a5, b5⟩, ⟨f6, f7, f8, f9, (sUp_ne (by omega)).trans a6, (sUp_ne (by omega)).trans a7, (sUp_ne (by omega)).trans a8, (sUp_ne (by omega)).trans a9⟩, ⟨f10, (sUp_ne (by omega)).trans a10⟩, ⟨f11, (sUp_ne (by omega)).trans a11⟩, ⟨f12, (sUp_ne (by omega)).trans a12⟩⟩
theorem MRest.kept {h h' : sH} {s : Mr} (H : MRest h s) (k : ∀ a, 61 ≤ a → a < 74 → a ≠ 62 → h'.2 a = h.2 a) : MRest h' s := by
  obtain ⟨⟨v, a1⟩, ⟨f, a2, b2⟩, ⟨f3, a3, b3⟩, ⟨f4, a4, b4⟩, ⟨f5, a5, b5⟩, ⟨f6, f7, f8, f9, a6, a7, a8, a9⟩, ⟨f10, a10⟩, ⟨f11, a11⟩, ⟨f12, a12⟩⟩ := H
  exact ⟨⟨v, (k _ (by omega) (by omega) (by omega)).trans a1⟩, ⟨f, (k _ (by omega) (by omega) (by omega)).trans a2, b2⟩, ⟨f3, (k _ (by omega) (by omega) (by omega)).trans a3, b3⟩, ⟨f4, (k _ (by omega) (by omega) (by omega)).trans a4, b4⟩, ⟨f5, (k _ (by omega) (by omega) (by omega)).trans a5, b5⟩, ⟨f6, f7, f8, f9, (k _ (by omega) (by omega) (by omega)).trans a6, (k _ (by omega) (by omega) (by omega)).trans a7, (k _ (by omega) (by omega) (by omega)).trans a8, (k _ (by omega) (by omega) (by omega)).trans a9⟩, ⟨f10, (k _ (by omega) (by omega) (by omega)).trans a10⟩, ⟨f11, (k _ (by omega) (by omega) (by omega)).trans a11⟩, ⟨f12, (k _ (by omega) (by omega) (by omega)).trans a12⟩⟩
theorem MInv.kept {h h' : sH} {st : St} (H : MInv h st) (k : ∀ a, 61 ≤ a → a < 74 → h'.2 a = h.2 a) : MInv h' st := ⟨(k _ (by omega) (by omega)).trans H.1, H.2.kept fun a h1 h2 _ => k a h1 h2⟩
def ovr (m a : Nat) : Nat → Nat
  | 0 => 1
  | n + 1 => if a * (n + 1) % m = 1 then n + 1 else ovr m a n
theorem ovr_le {m a : Nat} : ∀ n, 1 ≤ ovr m a n ∧ (ovr m a n ≤ n ∨ ovr m a n = 1) := by
  intro n
  induction n with
  | zero => exact ⟨Nat.le_refl _, Or.inr rfl⟩
  | succ n ih =>
    unfold ovr
    split <;> omega
theorem told_succ {x : Gd} {n : Nat} : sm (n + 1) (fun p => if 0 < x.2 p then 1 else 0) = sm n (fun p => if 0 < x.2 p then 1 else 0) + (if 0 < x.2 n then 1 else 0) := rfl
theorem nF_eq {z z' : Nat → Nat} (h : ∀ k, z k = z' k) : nF z = nF z' := by rw [show z = z' from funext h]
theorem zN_up {x : Gd} {p v : Nat} (hp : p < 36) : upd (nF (zN x)) p (nI v) = nF (zN (x.1, up x.2 p v)) := by
  funext k
  by_cases e : k = p
  · subst e
    unfold upd nF zN up
    simp [hp]
  · unfold upd nF zN up
    simp [e]
theorem zN_mix {x y : Gd} {F : Nat → Int32} (h : ∀ k, k < 39 → F k = nI (zN y k)) (h2 : ∀ k, ¬ k < 39 → F k = nI 0) : F = nF (zN y) := by
  funext k
  by_cases e : k < 39
  · exact h k e
  · rw [h2 k e]
    unfold nF zN
    rw [if_neg (by omega), if_neg (by omega), if_neg (by omega), if_neg (by omega)]
theorem sUp_arrS {h : sH} {a n : Nat} {f g : Nat → Int32} (e : h.2 a = iA n f) (w : ∀ k, f k = g k) : h = sUp h a (iA n g) := by
  rw [show g = f from (funext w).symm]
  exact (sUp_self e).symm
theorem zN_hi {x : Gd} {k : Nat} (e : ¬ k < 39) : nF (zN x) k = nI 0 := by
  unfold nF zN
  rw [if_neg (by omega), if_neg (by omega), if_neg (by omega), if_neg (by omega)]
set_option maxRecDepth 4000 in
theorem c_M_in {l : Launch} {h : sH} {n a b : Int32} : sX l m_M_in 0 [.int n, .int a, .int b] h (some (.int (sBo (!isOut n a b)))) (h) := by
  refine en_M_in ?_
  refine e_iload_0 (p' := 1) D_M_in_0 rfl ?_
  refine e_iload_1 (p' := 2) D_M_in_1 rfl ?_
  refine e_icmp_lt (q := 14) (p' := 5) D_M_in_2 rfl rfl (fun hc2 => ?_) (fun hc2 => ?_)
  ·
    refine e_iconst (v := nI 0) (p' := 15) D_M_in_14 cst_iconst_0 rfl ?_
    refine e_ireturn (ty := .boolean) D_M_in_15 rfl (by first | rfl | exact sBo_nar _) ⟨by decide, by decide⟩ ?_
    unfold isOut; rw [decide_eq_true hc2]; exact ⟨rfl, rfl⟩
  ·
    refine e_iload_0 (p' := 6) D_M_in_5 rfl ?_
    refine e_iload_2 (p' := 7) D_M_in_6 rfl ?_
    refine e_icmp_gt (q := 14) (p' := 10) D_M_in_7 rfl rfl (fun hc7 => ?_) (fun hc7 => ?_)
    ·
      refine e_iconst (v := nI 0) (p' := 15) D_M_in_14 cst_iconst_0 rfl ?_
      refine e_ireturn (ty := .boolean) D_M_in_15 rfl (by first | rfl | exact sBo_nar _) ⟨by decide, by decide⟩ ?_
      unfold isOut; rw [decide_eq_true hc7, Bool.or_true]; exact ⟨rfl, rfl⟩
    ·
      refine e_iconst (v := nI 1) (p' := 11) D_M_in_10 cst_iconst_1 rfl ?_
      refine e_goto (p' := 15) D_M_in_11 rfl ?_
      refine e_ireturn (ty := .boolean) D_M_in_15 rfl (by first | rfl | exact sBo_nar _) ⟨by decide, by decide⟩ ?_
      unfold isOut; rw [decide_eq_false hc2, decide_eq_false hc7]; exact ⟨rfl, rfl⟩
set_option maxRecDepth 4000 in
theorem c_M_isEntry {l : Launch} {h : sH} {x : Gd} {n t : Nat} {v : mV} (hm : h.2 61 = mO n t v) (hz : h.2 62 = iA 39 (nF (zN x))) (hx : Gok x) {r c : Int32} : sX l m_M_isEntry 0 [.ref 61, .int r, .int c] h (some (.int (sBo (gHas x r c)))) (h) := by
  have hM := hx.2.2.1.le
  have hR := hx.1
  have hC := hx.2.1
  refine en_M_isEntry ?_
  refine e_iload_1 (p' := 1) D_M_isEntry_0 rfl ?_
  refine e_if_lt (q := 34) (p' := 4) D_M_isEntry_1 rfl rfl (fun hc1 => ?_) (fun hc1 => ?_)
  ·
    refine e_iconst (v := nI 0) (p' := 35) D_M_isEntry_34 cst_iconst_0 rfl ?_
    refine e_ireturn (ty := .boolean) D_M_isEntry_35 rfl (by first | rfl | exact sBo_nar _) ⟨by decide, by decide⟩ ?_
    rw [gHas_f (Or.inl hc1)]; exact ⟨rfl, rfl⟩
  ·
    refine e_iload_1 (p' := 5) D_M_isEntry_4 rfl ?_
    refine e_aload_0 (p' := 6) D_M_isEntry_5 rfl ?_
    refine e_getfield (p' := 9) D_M_isEntry_6 F_M_7 (by first | assumption | exact sUp_eq | (rw [sUp_ne (by omega)]; assumption) | (rw [sUp_ne (by omega), sUp_ne (by omega)]; assumption) | (rw [sUp_ne (by omega)]; exact sUp_eq) | (rw [gSet_ne (by omega) (by omega)]; first | assumption | exact sUp_eq | (rw [sUp_ne (by omega)]; assumption) | (rw [sUp_ne (by omega), sUp_ne (by omega)]; assumption)) | (rw [sUp_ne (by omega), sUp_ne (by omega), sUp_ne (by omega)]; assumption) | (simp [sUp]; done)) (by rfl) rfl ?_
    refine e_bipush (v := nI 36) (p' := 11) D_M_isEntry_9 cst_bipush_36 rfl ?_
    refine e_iaload (p' := 12) D_M_isEntry_11 (by first | assumption | exact sUp_eq | (rw [sUp_ne (by omega)]; assumption) | (rw [sUp_ne (by omega), sUp_ne (by omega)]; assumption) | (rw [sUp_ne (by omega)]; exact sUp_eq) | (rw [gSet_ne (by omega) (by omega)]; first | assumption | exact sUp_eq | (rw [sUp_ne (by omega)]; assumption) | (rw [sUp_ne (by omega), sUp_ne (by omega)]; assumption)) | (rw [sUp_ne (by omega), sUp_ne (by omega), sUp_ne (by omega)]; assumption) | (simp [sUp]; done)) (by omega) (by omega) (by rfl) rfl ?_
    rw [z36]
    refine e_icmp_ge (q := 34) (p' := 15) D_M_isEntry_12 rfl rfl (fun hc12 => ?_) (fun hc12 => ?_)
    ·
      refine e_iconst (v := nI 0) (p' := 35) D_M_isEntry_34 cst_iconst_0 rfl ?_
      refine e_ireturn (ty := .boolean) D_M_isEntry_35 rfl (by first | rfl | exact sBo_nar _) ⟨by decide, by decide⟩ ?_
      rw [gHas_f (Or.inr (Or.inl hc12))]; exact ⟨rfl, rfl⟩
    ·
      refine e_iload_2 (p' := 16) D_M_isEntry_15 rfl ?_
      refine e_if_lt (q := 34) (p' := 19) D_M_isEntry_16 rfl rfl (fun hc16 => ?_) (fun hc16 => ?_)
      ·
        refine e_iconst (v := nI 0) (p' := 35) D_M_isEntry_34 cst_iconst_0 rfl ?_
        refine e_ireturn (ty := .boolean) D_M_isEntry_35 rfl (by first | rfl | exact sBo_nar _) ⟨by decide, by decide⟩ ?_
        rw [gHas_f (Or.inr (Or.inr (Or.inl hc16)))]; exact ⟨rfl, rfl⟩
      ·
        refine e_iload_2 (p' := 20) D_M_isEntry_19 rfl ?_
        refine e_aload_0 (p' := 21) D_M_isEntry_20 rfl ?_
        refine e_getfield (p' := 24) D_M_isEntry_21 F_M_7 (by first | assumption | exact sUp_eq | (rw [sUp_ne (by omega)]; assumption) | (rw [sUp_ne (by omega), sUp_ne (by omega)]; assumption) | (rw [sUp_ne (by omega)]; exact sUp_eq) | (rw [gSet_ne (by omega) (by omega)]; first | assumption | exact sUp_eq | (rw [sUp_ne (by omega)]; assumption) | (rw [sUp_ne (by omega), sUp_ne (by omega)]; assumption)) | (rw [sUp_ne (by omega), sUp_ne (by omega), sUp_ne (by omega)]; assumption) | (simp [sUp]; done)) (by rfl) rfl ?_
        refine e_bipush (v := nI 37) (p' := 26) D_M_isEntry_24 cst_bipush_37 rfl ?_
        refine e_iaload (p' := 27) D_M_isEntry_26 (by first | assumption | exact sUp_eq | (rw [sUp_ne (by omega)]; assumption) | (rw [sUp_ne (by omega), sUp_ne (by omega)]; assumption) | (rw [sUp_ne (by omega)]; exact sUp_eq) | (rw [gSet_ne (by omega) (by omega)]; first | assumption | exact sUp_eq | (rw [sUp_ne (by omega)]; assumption) | (rw [sUp_ne (by omega), sUp_ne (by omega)]; assumption)) | (rw [sUp_ne (by omega), sUp_ne (by omega), sUp_ne (by omega)]; assumption) | (simp [sUp]; done)) (by omega) (by omega) (by rfl) rfl ?_
        rw [z37]
        refine e_icmp_ge (q := 34) (p' := 30) D_M_isEntry_27 rfl rfl (fun hc27 => ?_) (fun hc27 => ?_)
        ·
          refine e_iconst (v := nI 0) (p' := 35) D_M_isEntry_34 cst_iconst_0 rfl ?_
          refine e_ireturn (ty := .boolean) D_M_isEntry_35 rfl (by first | rfl | exact sBo_nar _) ⟨by decide, by decide⟩ ?_
          rw [gHas_f (Or.inr (Or.inr (Or.inr hc27)))]; exact ⟨rfl, rfl⟩
        ·
          refine e_iconst (v := nI 1) (p' := 31) D_M_isEntry_30 cst_iconst_1 rfl ?_
          refine e_goto (p' := 35) D_M_isEntry_31 rfl ?_
          refine e_ireturn (ty := .boolean) D_M_isEntry_35 rfl (by first | rfl | exact sBo_nar _) ⟨by decide, by decide⟩ ?_
          rw [gHas_t hc1 hc12 hc16 hc27]; exact ⟨rfl, rfl⟩
set_option maxRecDepth 4000 in
theorem c_M_at {l : Launch} {h : sH} {x : Gd} {n t : Nat} {v : mV} (hm : h.2 61 = mO n t v) (hz : h.2 62 = iA 39 (nF (zN x))) (hx : Gok x) {r c : Nat} (hr : r < 6) (hc : c < 6) : sX l m_M_at 0 [.ref 61, .int (nI r), .int (nI c)] h (some (.int (nI (at' x r c)))) (h) := by
  refine en_M_at ?_
  refine e_aload_0 (p' := 1) D_M_at_0 rfl ?_
  refine e_getfield (p' := 4) D_M_at_1 F_M_7 (by first | assumption | exact sUp_eq | (rw [sUp_ne (by omega)]; assumption) | (rw [sUp_ne (by omega), sUp_ne (by omega)]; assumption) | (rw [sUp_ne (by omega)]; exact sUp_eq) | (rw [gSet_ne (by omega) (by omega)]; first | assumption | exact sUp_eq | (rw [sUp_ne (by omega)]; assumption) | (rw [sUp_ne (by omega), sUp_ne (by omega)]; assumption)) | (rw [sUp_ne (by omega), sUp_ne (by omega), sUp_ne (by omega)]; assumption) | (simp [sUp]; done)) (by rfl) rfl ?_
  refine e_bipush (v := nI 6) (p' := 6) D_M_at_4 cst_bipush_6 rfl ?_
  refine e_iload_1 (p' := 7) D_M_at_6 rfl ?_
  first | refine e_imulN (p' := 8) D_M_at_7 rfl ?_ | refine e_imul (p' := 8) D_M_at_7 rfl ?_
  refine e_iload_2 (p' := 9) D_M_at_8 rfl ?_
  first | refine e_iaddN (p' := 10) D_M_at_9 rfl ?_ | refine e_iadd (p' := 10) D_M_at_9 rfl ?_
  refine e_iaload (p' := 11) D_M_at_10 (by first | assumption | exact sUp_eq | (rw [sUp_ne (by omega)]; assumption) | (rw [sUp_ne (by omega), sUp_ne (by omega)]; assumption) | (rw [sUp_ne (by omega)]; exact sUp_eq) | (rw [gSet_ne (by omega) (by omega)]; first | assumption | exact sUp_eq | (rw [sUp_ne (by omega)]; assumption) | (rw [sUp_ne (by omega), sUp_ne (by omega)]; assumption)) | (rw [sUp_ne (by omega), sUp_ne (by omega), sUp_ne (by omega)]; assumption) | (simp [sUp]; done)) (by omega) (by omega) (by rfl) rfl ?_
  refine e_ireturn (ty := .int) D_M_at_11 rfl (by first | rfl | exact sBo_nar _) ⟨by decide, by decide⟩ ?_
  rw [zA (by omega)]; exact ⟨rfl, rfl⟩
set_option maxRecDepth 4000 in
theorem c_M_times {l : Launch} {h : sH} {x : Gd} {n t : Nat} {v : mV} (hm : h.2 61 = mO n t v) (hz : h.2 62 = iA 39 (nF (zN x))) (hx : Gok x) {a b : Nat} (ha : a ≤ 200) (hb : b ≤ 200) : sX l m_M_times 0 [.ref 61, .int (nI a), .int (nI b)] h (some (.int (nI (a * b % x.1.2.2)))) (h) := by
  have hM := hx.2.2.1.le
  have hR := hx.1
  have hC := hx.2.1
  have hab := Nat.mul_le_mul ha hb
  refine en_M_times ?_
  refine e_iload_1 (p' := 1) D_M_times_0 rfl ?_
  refine e_iload_2 (p' := 2) D_M_times_1 rfl ?_
  first | refine e_imulN (p' := 3) D_M_times_2 rfl ?_ | refine e_imul (p' := 3) D_M_times_2 rfl ?_
  refine e_aload_0 (p' := 4) D_M_times_3 rfl ?_
  refine e_getfield (p' := 7) D_M_times_4 F_M_7 (by first | assumption | exact sUp_eq | (rw [sUp_ne (by omega)]; assumption) | (rw [sUp_ne (by omega), sUp_ne (by omega)]; assumption) | (rw [sUp_ne (by omega)]; exact sUp_eq) | (rw [gSet_ne (by omega) (by omega)]; first | assumption | exact sUp_eq | (rw [sUp_ne (by omega)]; assumption) | (rw [sUp_ne (by omega), sUp_ne (by omega)]; assumption)) | (rw [sUp_ne (by omega), sUp_ne (by omega), sUp_ne (by omega)]; assumption) | (simp [sUp]; done)) (by rfl) rfl ?_
  refine e_bipush (v := nI 38) (p' := 9) D_M_times_7 cst_bipush_38 rfl ?_
  refine e_iaload (p' := 10) D_M_times_9 (by first | assumption | exact sUp_eq | (rw [sUp_ne (by omega)]; assumption) | (rw [sUp_ne (by omega), sUp_ne (by omega)]; assumption) | (rw [sUp_ne (by omega)]; exact sUp_eq) | (rw [gSet_ne (by omega) (by omega)]; first | assumption | exact sUp_eq | (rw [sUp_ne (by omega)]; assumption) | (rw [sUp_ne (by omega), sUp_ne (by omega)]; assumption)) | (rw [sUp_ne (by omega), sUp_ne (by omega), sUp_ne (by omega)]; assumption) | (simp [sUp]; done)) (by omega) (by omega) (by rfl) rfl ?_
  rw [z38]
  first | refine e_iremN (p' := 11) D_M_times_10 (by omega) (by omega) (by omega) rfl ?_ | refine e_irem (p' := 11) D_M_times_10 (by assumption) rfl ?_
  refine e_ireturn (ty := .int) D_M_times_11 rfl (by first | rfl | exact sBo_nar _) ⟨by decide, by decide⟩ ?_
  exact ⟨by first | rfl | (simp; done) | (simp [*]; done), by first | rfl | (simp; done)⟩
set_option maxRecDepth 4000 in
theorem c_M_over {l : Launch} {h : sH} {x : Gd} {n t : Nat} {v : mV} (hm : h.2 61 = mO n t v) (hz : h.2 62 = iA 39 (nF (zN x))) (hx : Gok x) {a : Nat} (ha : a ≤ 200) : sX l m_M_over 1 [.ref 61, .int (nI a)] h (some (.int (nI (ovr x.1.2.2 a (x.1.2.2 - 1))))) (h) := by
  have hM := hx.2.2.1.le
  have hR := hx.1
  have hC := hx.2.1
  refine en_M_over ?_
  refine e_iconst (v := nI 1) (p' := 1) D_M_over_0 cst_iconst_1 rfl ?_
  refine e_istore_2 (p' := 2) D_M_over_1 (Nat.le_of_ble_eq_true rfl) rfl rfl ?_
  refine e_iconst (v := nI 1) (p' := 3) D_M_over_2 cst_iconst_1 rfl ?_
  refine e_istore_3 (p' := 4) D_M_over_3 (Nat.le_of_ble_eq_true rfl) rfl rfl ?_
  have lk4 : ∀ i : Nat, i ≤ x.1.2.2 - 1 → sEv l m_M_over 1 (0, 0, 0, 0) (sKm 0 0 (fun r1 h1 => r1 = some (.int (nI (ovr x.1.2.2 a (x.1.2.2 - 1)))) ∧ h1 = h)) 4 [some (.ref 61), some (.int (nI a)), some (.int (nI (ovr x.1.2.2 a i))), some (.int (nI (i + 1)))] [] (h) := by
    refine lp_up _ ?_ ?_
    · skip
      have md := Nat.mod_lt (a * ((x.1.2.2 - 1) + 1)) (y := x.1.2.2) (by omega)
      refine e_iload_3 (p' := 5) D_M_over_4 rfl ?_
      refine e_aload_0 (p' := 6) D_M_over_5 rfl ?_
      refine e_getfield (p' := 9) D_M_over_6 F_M_7 (by first | assumption | exact sUp_eq | (rw [sUp_ne (by omega)]; assumption) | (rw [sUp_ne (by omega), sUp_ne (by omega)]; assumption) | (rw [sUp_ne (by omega)]; exact sUp_eq) | (rw [gSet_ne (by omega) (by omega)]; first | assumption | exact sUp_eq | (rw [sUp_ne (by omega)]; assumption) | (rw [sUp_ne (by omega), sUp_ne (by omega)]; assumption)) | (rw [sUp_ne (by omega), sUp_ne (by omega), sUp_ne (by omega)]; assumption) | (simp [sUp]; done)) (by rfl) rfl ?_
      refine e_bipush (v := nI 38) (p' := 11) D_M_over_9 cst_bipush_38 rfl ?_
      refine e_iaload (p' := 12) D_M_over_11 (by first | assumption | exact sUp_eq | (rw [sUp_ne (by omega)]; assumption) | (rw [sUp_ne (by omega), sUp_ne (by omega)]; assumption) | (rw [sUp_ne (by omega)]; exact sUp_eq) | (rw [gSet_ne (by omega) (by omega)]; first | assumption | exact sUp_eq | (rw [sUp_ne (by omega)]; assumption) | (rw [sUp_ne (by omega), sUp_ne (by omega)]; assumption)) | (rw [sUp_ne (by omega), sUp_ne (by omega), sUp_ne (by omega)]; assumption) | (simp [sUp]; done)) (by omega) (by omega) (by rfl) rfl ?_
      rw [z38]
      refine e_icmpN_ge (q := 37) (p' := 15) D_M_over_12 (by omega) (by omega) rfl rfl (fun hc12 => ?_) (fun hc12 => ?_)
      ·
        refine e_iload_2 (p' := 38) D_M_over_37 rfl ?_
        refine e_ireturn (ty := .int) D_M_over_38 rfl (by first | rfl | exact sBo_nar _) ⟨by decide, by decide⟩ ?_
        exact ⟨by first | rfl | (simp; done) | (simp [*]; done), by first | rfl | (simp; done)⟩
      ·
        exfalso; omega
    · intro i hi ih4 
      have md := Nat.mod_lt (a * (i + 1)) (y := x.1.2.2) (by omega)
      refine e_iload_3 (p' := 5) D_M_over_4 rfl ?_
      refine e_aload_0 (p' := 6) D_M_over_5 rfl ?_
      refine e_getfield (p' := 9) D_M_over_6 F_M_7 (by first | assumption | exact sUp_eq | (rw [sUp_ne (by omega)]; assumption) | (rw [sUp_ne (by omega), sUp_ne (by omega)]; assumption) | (rw [sUp_ne (by omega)]; exact sUp_eq) | (rw [gSet_ne (by omega) (by omega)]; first | assumption | exact sUp_eq | (rw [sUp_ne (by omega)]; assumption) | (rw [sUp_ne (by omega), sUp_ne (by omega)]; assumption)) | (rw [sUp_ne (by omega), sUp_ne (by omega), sUp_ne (by omega)]; assumption) | (simp [sUp]; done)) (by rfl) rfl ?_
      refine e_bipush (v := nI 38) (p' := 11) D_M_over_9 cst_bipush_38 rfl ?_
      refine e_iaload (p' := 12) D_M_over_11 (by first | assumption | exact sUp_eq | (rw [sUp_ne (by omega)]; assumption) | (rw [sUp_ne (by omega), sUp_ne (by omega)]; assumption) | (rw [sUp_ne (by omega)]; exact sUp_eq) | (rw [gSet_ne (by omega) (by omega)]; first | assumption | exact sUp_eq | (rw [sUp_ne (by omega)]; assumption) | (rw [sUp_ne (by omega), sUp_ne (by omega)]; assumption)) | (rw [sUp_ne (by omega), sUp_ne (by omega), sUp_ne (by omega)]; assumption) | (simp [sUp]; done)) (by omega) (by omega) (by rfl) rfl ?_
      rw [z38]
      refine e_icmpN_ge (q := 37) (p' := 15) D_M_over_12 (by omega) (by omega) rfl rfl (fun hc12 => ?_) (fun hc12 => ?_)
      ·
        exfalso; omega
      ·
        refine e_aload_0 (p' := 16) D_M_over_15 rfl ?_
        refine e_iload_1 (p' := 17) D_M_over_16 rfl ?_
        refine e_iload_3 (p' := 18) D_M_over_17 rfl ?_
        refine x_callV1 (p' := 21) D_M_over_18 V_M_63 (c_M_times hm hz hx ha (by omega)) rfl (by first | assumption | exact sUp_eq | (rw [sUp_ne (by omega)]; assumption) | (rw [sUp_ne (by omega), sUp_ne (by omega)]; assumption) | (rw [sUp_ne (by omega)]; exact sUp_eq) | (rw [gSet_ne (by omega) (by omega)]; first | assumption | exact sUp_eq | (rw [sUp_ne (by omega)]; assumption) | (rw [sUp_ne (by omega), sUp_ne (by omega)]; assumption)) | (rw [sUp_ne (by omega), sUp_ne (by omega), sUp_ne (by omega)]; assumption) | (simp [sUp]; done)) rfl (Nat.le_of_ble_eq_true rfl) (by decide) ⟨by decide, by decide⟩ rfl ?_
        refine e_iconst (v := nI 1) (p' := 22) D_M_over_21 cst_iconst_1 rfl ?_
        refine e_icmpN_ne (q := 29) (p' := 25) D_M_over_22 (by omega) (by omega) rfl rfl (fun hc22 => ?_) (fun hc22 => ?_)
        ·
          refine e_iload_2 (p' := 30) D_M_over_29 rfl ?_
          refine e_istore_2 (p' := 31) D_M_over_30 (Nat.le_of_ble_eq_true rfl) rfl rfl ?_
          first | refine e_iincN_3 (n := 1) (p' := 34) D_M_over_31 (Nat.le_of_ble_eq_true rfl) rfl rfl ?_ | refine e_iinc_3 (p' := 34) D_M_over_31 (Nat.le_of_ble_eq_true rfl) rfl rfl rfl ?_
          refine e_goto (p' := 4) D_M_over_34 rfl ?_
          refine sEv.castW (ih4) ?_ ?_ ?_
          · refine ⟨rfl, rfl, ?_, rfl, trivial⟩
            rw [ovr, if_neg (by omega)]
          · rfl
          · first | rfl | (simp; done)
        ·
          refine e_iload_3 (p' := 26) D_M_over_25 rfl ?_
          refine e_goto (p' := 30) D_M_over_26 rfl ?_
          refine e_istore_2 (p' := 31) D_M_over_30 (Nat.le_of_ble_eq_true rfl) rfl rfl ?_
          first | refine e_iincN_3 (n := 1) (p' := 34) D_M_over_31 (Nat.le_of_ble_eq_true rfl) rfl rfl ?_ | refine e_iinc_3 (p' := 34) D_M_over_31 (Nat.le_of_ble_eq_true rfl) rfl rfl rfl ?_
          refine e_goto (p' := 4) D_M_over_34 rfl ?_
          refine sEv.castW (ih4) ?_ ?_ ?_
          · refine ⟨rfl, rfl, ?_, rfl, trivial⟩
            rw [ovr, if_pos (by omega)]
          · rfl
          · first | rfl | (simp; done)
  refine sEv.castW (lk4 0 (by omega) ) ?_ ?_ ?_
  · exact ⟨rfl, rfl, rfl, rfl, trivial⟩
  · rfl
  · first | rfl | (simp; done)
set_option maxRecDepth 4000 in
theorem c_M_toldMany {l : Launch} {h : sH} {x : Gd} {n t : Nat} {v : mV} (hm : h.2 61 = mO n t v) (hz : h.2 62 = iA 39 (nF (zN x))) (hx : Gok x) : sX l m_M_toldMany 0 [.ref 61] h (some (.int (nI (told x)))) (h) := by
  refine en_M_toldMany ?_
  refine e_iconst (v := nI 0) (p' := 1) D_M_toldMany_0 cst_iconst_0 rfl ?_
  refine e_istore_1 (p' := 2) D_M_toldMany_1 (Nat.le_of_ble_eq_true rfl) rfl rfl ?_
  refine e_iconst (v := nI 0) (p' := 3) D_M_toldMany_2 cst_iconst_0 rfl ?_
  refine e_istore_2 (p' := 4) D_M_toldMany_3 (Nat.le_of_ble_eq_true rfl) rfl rfl ?_
  have lk4 : ∀ i : Nat, i ≤ 36 → sEv l m_M_toldMany 0 (0, 0, 0, 0) (sKm 0 0 (fun r1 h1 => r1 = some (.int (nI (told x))) ∧ h1 = h)) 4 [some (.ref 61), some (.int (nI (sm i (fun p => if 0 < x.2 p then 1 else 0)))), some (.int (nI i))] [] (h) := by
    refine lp_up _ ?_ ?_
    · skip
      refine e_iload_2 (p' := 5) D_M_toldMany_4 rfl ?_
      refine e_bipush (v := nI 36) (p' := 7) D_M_toldMany_5 cst_bipush_36 rfl ?_
      refine e_icmpN_ge (q := 33) (p' := 10) D_M_toldMany_7 (by omega) (by omega) rfl rfl (fun hc7 => ?_) (fun hc7 => ?_)
      ·
        refine e_iload_1 (p' := 34) D_M_toldMany_33 rfl ?_
        refine e_ireturn (ty := .int) D_M_toldMany_34 rfl (by first | rfl | exact sBo_nar _) ⟨by decide, by decide⟩ ?_
        exact ⟨by first | rfl | (simp; done) | (simp [*]; done), by first | rfl | (simp; done)⟩
      ·
        exfalso; omega
    · intro i hi ih4 
      refine e_iload_2 (p' := 5) D_M_toldMany_4 rfl ?_
      refine e_bipush (v := nI 36) (p' := 7) D_M_toldMany_5 cst_bipush_36 rfl ?_
      refine e_icmpN_ge (q := 33) (p' := 10) D_M_toldMany_7 (by omega) (by omega) rfl rfl (fun hc7 => ?_) (fun hc7 => ?_)
      ·
        exfalso; omega
      ·
        refine e_iload_1 (p' := 11) D_M_toldMany_10 rfl ?_
        refine e_aload_0 (p' := 12) D_M_toldMany_11 rfl ?_
        refine e_getfield (p' := 15) D_M_toldMany_12 F_M_7 (by first | assumption | exact sUp_eq | (rw [sUp_ne (by omega)]; assumption) | (rw [sUp_ne (by omega), sUp_ne (by omega)]; assumption) | (rw [sUp_ne (by omega)]; exact sUp_eq) | (rw [gSet_ne (by omega) (by omega)]; first | assumption | exact sUp_eq | (rw [sUp_ne (by omega)]; assumption) | (rw [sUp_ne (by omega), sUp_ne (by omega)]; assumption)) | (rw [sUp_ne (by omega), sUp_ne (by omega), sUp_ne (by omega)]; assumption) | (simp [sUp]; done)) (by rfl) rfl ?_
        refine e_iload_2 (p' := 16) D_M_toldMany_15 rfl ?_
        refine e_iaload (p' := 17) D_M_toldMany_16 (by first | assumption | exact sUp_eq | (rw [sUp_ne (by omega)]; assumption) | (rw [sUp_ne (by omega), sUp_ne (by omega)]; assumption) | (rw [sUp_ne (by omega)]; exact sUp_eq) | (rw [gSet_ne (by omega) (by omega)]; first | assumption | exact sUp_eq | (rw [sUp_ne (by omega)]; assumption) | (rw [sUp_ne (by omega), sUp_ne (by omega)]; assumption)) | (rw [sUp_ne (by omega), sUp_ne (by omega), sUp_ne (by omega)]; assumption) | (simp [sUp]; done)) (by omega) (by omega) (by rfl) rfl ?_
        rw [zP (by omega)]
        have bz := hx.2.2.2.1 i
        have hM := hx.2.2.1.le
        refine e_ifN_le (q := 24) (p' := 20) D_M_toldMany_17 (by omega) rfl rfl (fun hc17 => ?_) (fun hc17 => ?_)
        ·
          refine e_iconst (v := nI 0) (p' := 25) D_M_toldMany_24 cst_iconst_0 rfl ?_
          first | refine e_iaddN (p' := 26) D_M_toldMany_25 rfl ?_ | refine e_iadd (p' := 26) D_M_toldMany_25 rfl ?_
          refine e_istore_1 (p' := 27) D_M_toldMany_26 (Nat.le_of_ble_eq_true rfl) rfl rfl ?_
          first | refine e_iincN_2 (n := 1) (p' := 30) D_M_toldMany_27 (Nat.le_of_ble_eq_true rfl) rfl rfl ?_ | refine e_iinc_2 (p' := 30) D_M_toldMany_27 (Nat.le_of_ble_eq_true rfl) rfl rfl rfl ?_
          refine e_goto (p' := 4) D_M_toldMany_30 rfl ?_
          refine sEv.castW (ih4) ?_ ?_ ?_
          · refine ⟨rfl, ?_, rfl, trivial⟩
            rw [told_succ, if_neg (by omega)]
          · rfl
          · first | rfl | (simp; done)
        ·
          refine e_iconst (v := nI 1) (p' := 21) D_M_toldMany_20 cst_iconst_1 rfl ?_
          refine e_goto (p' := 25) D_M_toldMany_21 rfl ?_
          first | refine e_iaddN (p' := 26) D_M_toldMany_25 rfl ?_ | refine e_iadd (p' := 26) D_M_toldMany_25 rfl ?_
          refine e_istore_1 (p' := 27) D_M_toldMany_26 (Nat.le_of_ble_eq_true rfl) rfl rfl ?_
          first | refine e_iincN_2 (n := 1) (p' := 30) D_M_toldMany_27 (Nat.le_of_ble_eq_true rfl) rfl rfl ?_ | refine e_iinc_2 (p' := 30) D_M_toldMany_27 (Nat.le_of_ble_eq_true rfl) rfl rfl rfl ?_
          refine e_goto (p' := 4) D_M_toldMany_30 rfl ?_
          refine sEv.castW (ih4) ?_ ?_ ?_
          · refine ⟨rfl, ?_, rfl, trivial⟩
            rw [told_succ, if_pos (by omega)]
          · rfl
          · first | rfl | (simp; done)
  refine sEv.castW (lk4 0 (by omega) ) ?_ ?_ ?_
  · exact ⟨rfl, rfl, rfl, trivial⟩
  · rfl
  · first | rfl | (simp; done)
set_option maxRecDepth 4000 in
theorem c_M_record {l : Launch} {h : sH} {x : Gd} {s : Mr} (hz : h.2 62 = iA 39 (nF (zN x))) (H : MRest h s) (h6 : s.1.1 ≤ 6) : sY l m_M_record 0 [.ref 61] h (none) (fun h1 => (MRest h1 (recH s.1 x, s.2) ∧ h1.2 62 = iA 39 (nF (zN x))) ∧ FrK h h1) := by
  have H0 := H
  obtain ⟨⟨v, a1⟩, ⟨f, a2, b2⟩, ⟨f3, a3, b3⟩, ⟨f4, a4, b4⟩, ⟨f5, a5, b5⟩, ⟨f6, f7, f8, f9, a6, a7, a8, a9⟩, ⟨f10, a10⟩, ⟨f11, a11⟩, ⟨f12, a12⟩⟩ := H
  refine en_M_record ?_
  have jn49 : ∀ (h1 : sH) (m : Nat) (F : Nat → Int32), ((h1.2 61 = mO m s.2.2.1 v ∧ h1.2 63 = iA 234 F) ∧ m < 6 ∧ ((recH s.1 x).1 = m + 1 ∧ (recH s.1 x).2 m = x) ∧ (∀ i, i < m → ∀ k, k < 39 → F (39 * i + k) = nI (zN ((recH s.1 x).2 i) k)) ∧ ∀ a, a ≠ 61 → a ≠ 63 → h1.2 a = h.2 a) → sEv l m_M_record 0 (0, 0, 0, 0) (sKm 0 0 (fun r1 h1 => r1 = none ∧ (fun h1 => (MRest h1 (recH s.1 x, s.2) ∧ h1.2 62 = iA 39 (nF (zN x))) ∧ FrK h h1) h1)) 49 [some (.ref 61), none] [] h1 := by
    rintro h1 m F ⟨⟨k1, k2⟩, hm6, hr1, hF, hfr⟩
    have k3 := (hfr 62 (by omega) (by omega)).trans hz
    refine e_iconst (v := nI 0) (p' := 50) D_M_record_49 cst_iconst_0 rfl ?_
    refine e_istore_1 (p' := 51) D_M_record_50 (Nat.le_of_ble_eq_true rfl) rfl rfl ?_
    have lk51 : ∀ i : Nat, i ≤ 39 → sEv l m_M_record 0 (0, 0, 0, 0) (sKm 0 0 (fun r1 h1 => r1 = none ∧ (fun h1 => (MRest h1 (recH s.1 x, s.2) ∧ h1.2 62 = iA 39 (nF (zN x))) ∧ FrK h h1) h1)) 51 [some (.ref 61), some (.int (nI i))] [] (sUp h1 63 (iA 234 (fun k => if 39 * m ≤ k ∧ k < 39 * m + i then nI (zN x (k - 39 * m)) else F k))) := by
      refine lp_up _ ?_ ?_
      · skip
        refine e_iload_1 (p' := 52) D_M_record_51 rfl ?_
        refine e_bipush (v := nI 39) (p' := 54) D_M_record_52 cst_bipush_39 rfl ?_
        refine e_icmpN_ge (q := 83) (p' := 57) D_M_record_54 (by omega) (by omega) rfl rfl (fun hc54 => ?_) (fun hc54 => ?_)
        ·
          refine e_aload_0 (p' := 84) D_M_record_83 rfl ?_
          refine e_dup (p' := 85) D_M_record_84 rfl rfl ?_
          refine e_getfield (p' := 88) D_M_record_85 F_M_48 (by first | assumption | exact sUp_eq | (rw [sUp_ne (by omega)]; assumption) | (rw [sUp_ne (by omega), sUp_ne (by omega)]; assumption) | (rw [sUp_ne (by omega)]; exact sUp_eq) | (rw [gSet_ne (by omega) (by omega)]; first | assumption | exact sUp_eq | (rw [sUp_ne (by omega)]; assumption) | (rw [sUp_ne (by omega), sUp_ne (by omega)]; assumption)) | (rw [sUp_ne (by omega), sUp_ne (by omega), sUp_ne (by omega)]; assumption) | (simp [sUp]; done)) (by rfl) rfl ?_
          refine e_iconst (v := nI 1) (p' := 89) D_M_record_88 cst_iconst_1 rfl ?_
          first | refine e_iaddN (p' := 90) D_M_record_89 rfl ?_ | refine e_iadd (p' := 90) D_M_record_89 rfl ?_
          refine e_putfield (p' := 93) D_M_record_90 F_M_48 (Or.inl rfl) (by first | assumption | exact sUp_eq | (rw [sUp_ne (by omega)]; assumption) | (rw [sUp_ne (by omega), sUp_ne (by omega)]; assumption) | (rw [sUp_ne (by omega)]; exact sUp_eq) | (rw [gSet_ne (by omega) (by omega)]; first | assumption | exact sUp_eq | (rw [sUp_ne (by omega)]; assumption) | (rw [sUp_ne (by omega), sUp_ne (by omega)]; assumption)) | (rw [sUp_ne (by omega), sUp_ne (by omega), sUp_ne (by omega)]; assumption) | (simp [sUp]; done)) (fun _ => ⟨rfl, rfl⟩) (Nat.le_of_ble_eq_true rfl) (by rfl) rfl ?_
          try dsimp only [List.set]
          refine e_return D_M_record_93 rfl ⟨by decide, by decide⟩ ?_
          refine ⟨rfl, ⟨⟨⟨v, ?_⟩, ⟨_, (sUp_ne (by omega)).trans sUp_eq, ?_⟩, ⟨f3, ?_, b3⟩, ⟨f4, ?_, b4⟩, ⟨f5, ?_, b5⟩, ⟨f6, f7, f8, f9, ?_, ?_, ?_, ?_⟩, ⟨f10, ?_⟩, ⟨f11, ?_⟩, ⟨f12, ?_⟩⟩, ?_⟩, ?_⟩
          · rw [sUp_eq]; show _ = mO (recH s.1 x).1 s.2.2.1 v; rw [hr1.1]
          · intro i hi k hk
            have hi : i < (recH s.1 x).1 := hi
            show (if _ then _ else _) = nI (zN ((recH s.1 x).2 i) k)
            by_cases e : i = m
            · subst e
              rw [if_pos (by omega), hr1.2, show 39 * i + k - 39 * i = k by omega]
            · rw [if_neg (by omega)]
              exact hF i (by omega) k hk
          · exact (sUp_ne (by omega)).trans ((sUp_ne (by omega)).trans ((hfr _ (by omega) (by omega)).trans a3))
          · exact (sUp_ne (by omega)).trans ((sUp_ne (by omega)).trans ((hfr _ (by omega) (by omega)).trans a4))
          · exact (sUp_ne (by omega)).trans ((sUp_ne (by omega)).trans ((hfr _ (by omega) (by omega)).trans a5))
          · exact (sUp_ne (by omega)).trans ((sUp_ne (by omega)).trans ((hfr _ (by omega) (by omega)).trans a6))
          · exact (sUp_ne (by omega)).trans ((sUp_ne (by omega)).trans ((hfr _ (by omega) (by omega)).trans a7))
          · exact (sUp_ne (by omega)).trans ((sUp_ne (by omega)).trans ((hfr _ (by omega) (by omega)).trans a8))
          · exact (sUp_ne (by omega)).trans ((sUp_ne (by omega)).trans ((hfr _ (by omega) (by omega)).trans a9))
          · exact (sUp_ne (by omega)).trans ((sUp_ne (by omega)).trans ((hfr _ (by omega) (by omega)).trans a10))
          · exact (sUp_ne (by omega)).trans ((sUp_ne (by omega)).trans ((hfr _ (by omega) (by omega)).trans a11))
          · exact (sUp_ne (by omega)).trans ((sUp_ne (by omega)).trans ((hfr _ (by omega) (by omega)).trans a12))
          · exact (sUp_ne (by omega)).trans ((sUp_ne (by omega)).trans ((hfr _ (by omega) (by omega)).trans hz))
          · intro a ha
            exact (sUp_ne (by omega)).trans ((sUp_ne (by omega)).trans (hfr a (by omega) (by omega)))
        ·
          exfalso; omega
      · intro i hi ih51 
        refine e_iload_1 (p' := 52) D_M_record_51 rfl ?_
        refine e_bipush (v := nI 39) (p' := 54) D_M_record_52 cst_bipush_39 rfl ?_
        refine e_icmpN_ge (q := 83) (p' := 57) D_M_record_54 (by omega) (by omega) rfl rfl (fun hc54 => ?_) (fun hc54 => ?_)
        ·
          exfalso; omega
        ·
          refine e_aload_0 (p' := 58) D_M_record_57 rfl ?_
          refine e_getfield (p' := 61) D_M_record_58 F_M_13 (by first | assumption | exact sUp_eq | (rw [sUp_ne (by omega)]; assumption) | (rw [sUp_ne (by omega), sUp_ne (by omega)]; assumption) | (rw [sUp_ne (by omega)]; exact sUp_eq) | (rw [gSet_ne (by omega) (by omega)]; first | assumption | exact sUp_eq | (rw [sUp_ne (by omega)]; assumption) | (rw [sUp_ne (by omega), sUp_ne (by omega)]; assumption)) | (rw [sUp_ne (by omega), sUp_ne (by omega), sUp_ne (by omega)]; assumption) | (simp [sUp]; done)) (by rfl) rfl ?_
          refine e_aload_0 (p' := 62) D_M_record_61 rfl ?_
          refine e_getfield (p' := 65) D_M_record_62 F_M_48 (by first | assumption | exact sUp_eq | (rw [sUp_ne (by omega)]; assumption) | (rw [sUp_ne (by omega), sUp_ne (by omega)]; assumption) | (rw [sUp_ne (by omega)]; exact sUp_eq) | (rw [gSet_ne (by omega) (by omega)]; first | assumption | exact sUp_eq | (rw [sUp_ne (by omega)]; assumption) | (rw [sUp_ne (by omega), sUp_ne (by omega)]; assumption)) | (rw [sUp_ne (by omega), sUp_ne (by omega), sUp_ne (by omega)]; assumption) | (simp [sUp]; done)) (by rfl) rfl ?_
          refine e_bipush (v := nI 39) (p' := 67) D_M_record_65 cst_bipush_39 rfl ?_
          first | refine e_imulN (p' := 68) D_M_record_67 rfl ?_ | refine e_imul (p' := 68) D_M_record_67 rfl ?_
          refine e_iload_1 (p' := 69) D_M_record_68 rfl ?_
          first | refine e_iaddN (p' := 70) D_M_record_69 rfl ?_ | refine e_iadd (p' := 70) D_M_record_69 rfl ?_
          refine e_aload_0 (p' := 71) D_M_record_70 rfl ?_
          refine e_getfield (p' := 74) D_M_record_71 F_M_7 (by first | assumption | exact sUp_eq | (rw [sUp_ne (by omega)]; assumption) | (rw [sUp_ne (by omega), sUp_ne (by omega)]; assumption) | (rw [sUp_ne (by omega)]; exact sUp_eq) | (rw [gSet_ne (by omega) (by omega)]; first | assumption | exact sUp_eq | (rw [sUp_ne (by omega)]; assumption) | (rw [sUp_ne (by omega), sUp_ne (by omega)]; assumption)) | (rw [sUp_ne (by omega), sUp_ne (by omega), sUp_ne (by omega)]; assumption) | (simp [sUp]; done)) (by rfl) rfl ?_
          refine e_iload_1 (p' := 75) D_M_record_74 rfl ?_
          refine e_iaload (p' := 76) D_M_record_75 (by first | assumption | exact sUp_eq | (rw [sUp_ne (by omega)]; assumption) | (rw [sUp_ne (by omega), sUp_ne (by omega)]; assumption) | (rw [sUp_ne (by omega)]; exact sUp_eq) | (rw [gSet_ne (by omega) (by omega)]; first | assumption | exact sUp_eq | (rw [sUp_ne (by omega)]; assumption) | (rw [sUp_ne (by omega), sUp_ne (by omega)]; assumption)) | (rw [sUp_ne (by omega), sUp_ne (by omega), sUp_ne (by omega)]; assumption) | (simp [sUp]; done)) (by omega) (by omega) (by rfl) rfl ?_
          refine e_iastore (p' := 77) D_M_record_76 (by first | assumption | exact sUp_eq | (rw [sUp_ne (by omega)]; assumption) | (rw [sUp_ne (by omega), sUp_ne (by omega)]; assumption) | (rw [sUp_ne (by omega)]; exact sUp_eq) | (rw [gSet_ne (by omega) (by omega)]; first | assumption | exact sUp_eq | (rw [sUp_ne (by omega)]; assumption) | (rw [sUp_ne (by omega), sUp_ne (by omega)]; assumption)) | (rw [sUp_ne (by omega), sUp_ne (by omega), sUp_ne (by omega)]; assumption) | (simp [sUp]; done)) (by omega) (by omega) rfl ?_
          first | refine e_iincN_1 (n := 1) (p' := 80) D_M_record_77 (Nat.le_of_ble_eq_true rfl) rfl rfl ?_ | refine e_iinc_1 (p' := 80) D_M_record_77 (Nat.le_of_ble_eq_true rfl) rfl rfl rfl ?_
          refine e_goto (p' := 51) D_M_record_80 rfl ?_
          refine sEv.castW (ih51) ?_ ?_ ?_
          · first | exact lvW_rfl _ | (simp [lvW]; done) | (simp [lvW, *]; done) | (simp [lvW]; omega)
          · rfl
          · rw [sUp_sUp]
            refine sUp_arr fun k => ?_
            by_cases e : k = m * 39 + i
            · subst e
              rw [if_pos (by omega), show m * 39 + i - 39 * m = i by omega]
              exact if_pos rfl
            · unfold upd
              rw [if_neg e]
              dsimp only
              by_cases w : 39 * m ≤ k ∧ k < 39 * m + i
              · rw [if_pos w, if_pos (by omega)]
              · rw [if_neg w, if_neg (by omega)]
    refine sEv.castW (lk51 0 (by omega) ) ?_ ?_ ?_
    · first | exact lvW_rfl _ | (simp [lvW]; done) | (simp [lvW, *]; done) | (simp [lvW]; omega)
    · rfl
    · refine sUp_arrS k2 fun k => ?_
      rw [if_neg (by omega)]
  refine e_aload_0 (p' := 1) D_M_record_0 rfl ?_
  refine e_getfield (p' := 4) D_M_record_1 F_M_48 (by first | assumption | exact sUp_eq | (rw [sUp_ne (by omega)]; assumption) | (rw [sUp_ne (by omega), sUp_ne (by omega)]; assumption) | (rw [sUp_ne (by omega)]; exact sUp_eq) | (rw [gSet_ne (by omega) (by omega)]; first | assumption | exact sUp_eq | (rw [sUp_ne (by omega)]; assumption) | (rw [sUp_ne (by omega), sUp_ne (by omega)]; assumption)) | (rw [sUp_ne (by omega), sUp_ne (by omega), sUp_ne (by omega)]; assumption) | (simp [sUp]; done)) (by rfl) rfl ?_
  refine e_bipush (v := nI 6) (p' := 6) D_M_record_4 cst_bipush_6 rfl ?_
  refine e_icmpN_ne (q := 49) (p' := 9) D_M_record_6 (by omega) (by omega) rfl rfl (fun hc6 => ?_) (fun hc6 => ?_)
  ·
    refine sEv.castW (jn49 _ s.1.1 f ⟨⟨a1, a2⟩, by omega, ⟨by unfold recH; rw [if_neg hc6], by unfold recH; rw [if_neg hc6]; exact if_pos rfl⟩, fun i hi k hk => by rw [b2 i hi k hk]; unfold recH; rw [if_neg hc6]; dsimp only; rw [if_neg (by omega)], fun _ _ _ => rfl⟩) ?_ ?_ ?_
    · first | exact lvW_rfl _ | (simp [lvW]; done) | (simp [lvW, *]; done) | (simp [lvW]; omega)
    · rfl
    · first | rfl | (simp; done)
  ·
    refine e_iconst (v := nI 0) (p' := 10) D_M_record_9 cst_iconst_0 rfl ?_
    refine e_istore_1 (p' := 11) D_M_record_10 (Nat.le_of_ble_eq_true rfl) rfl rfl ?_
    have lk11 : ∀ i : Nat, i ≤ 195 → sEv l m_M_record 0 (0, 0, 0, 0) (sKm 0 0 (fun r1 h1 => r1 = none ∧ (fun h1 => (MRest h1 (recH s.1 x, s.2) ∧ h1.2 62 = iA 39 (nF (zN x))) ∧ FrK h h1) h1)) 11 [some (.ref 61), some (.int (nI i))] [] (sUp h 63 (iA 234 (fun k => if k < i then f (k + 39) else f k))) := by
      refine lp_up _ ?_ ?_
      · skip
        refine e_iload_1 (p' := 12) D_M_record_11 rfl ?_
        refine e_sipush (v := nI 195) (p' := 15) D_M_record_12 cst_sipush_195 rfl ?_
        refine e_icmpN_ge (q := 39) (p' := 18) D_M_record_15 (by omega) (by omega) rfl rfl (fun hc15 => ?_) (fun hc15 => ?_)
        ·
          refine e_aload_0 (p' := 40) D_M_record_39 rfl ?_
          refine e_dup (p' := 41) D_M_record_40 rfl rfl ?_
          refine e_getfield (p' := 44) D_M_record_41 F_M_48 (by first | assumption | exact sUp_eq | (rw [sUp_ne (by omega)]; assumption) | (rw [sUp_ne (by omega), sUp_ne (by omega)]; assumption) | (rw [sUp_ne (by omega)]; exact sUp_eq) | (rw [gSet_ne (by omega) (by omega)]; first | assumption | exact sUp_eq | (rw [sUp_ne (by omega)]; assumption) | (rw [sUp_ne (by omega), sUp_ne (by omega)]; assumption)) | (rw [sUp_ne (by omega), sUp_ne (by omega), sUp_ne (by omega)]; assumption) | (simp [sUp]; done)) (by rfl) rfl ?_
          refine e_iconst (v := nI 1) (p' := 45) D_M_record_44 cst_iconst_1 rfl ?_
          first | refine e_isubN (p' := 46) D_M_record_45 (by omega) rfl ?_ | refine e_isub (p' := 46) D_M_record_45 rfl ?_
          refine e_putfield (p' := 49) D_M_record_46 F_M_48 (Or.inl rfl) (by first | assumption | exact sUp_eq | (rw [sUp_ne (by omega)]; assumption) | (rw [sUp_ne (by omega), sUp_ne (by omega)]; assumption) | (rw [sUp_ne (by omega)]; exact sUp_eq) | (rw [gSet_ne (by omega) (by omega)]; first | assumption | exact sUp_eq | (rw [sUp_ne (by omega)]; assumption) | (rw [sUp_ne (by omega), sUp_ne (by omega)]; assumption)) | (rw [sUp_ne (by omega), sUp_ne (by omega), sUp_ne (by omega)]; assumption) | (simp [sUp]; done)) (fun _ => ⟨rfl, rfl⟩) (Nat.le_of_ble_eq_true rfl) (by rfl) rfl ?_
          try dsimp only [List.set]
          refine sEv.castW (jn49 (sUp (sUp h 63 (iA 234 (fun k => if k < 195 then f (k + 39) else f k))) 61 (mO (s.1.1 - 1) s.2.2.1 v)) (s.1.1 - 1) (fun k => if k < 195 then f (k + 39) else f k) ⟨⟨sUp_eq, (sUp_ne (by omega)).trans sUp_eq⟩, by omega, ⟨by unfold recH; rw [if_pos hc6]; show 6 = s.1.1 - 1 + 1; omega, by unfold recH; rw [if_pos hc6]; exact if_pos (by omega)⟩, fun i hi k hk => by rw [if_pos (by omega), show 39 * i + k + 39 = 39 * (i + 1) + k by omega, b2 (i + 1) (by omega) k hk]; unfold recH; rw [if_pos hc6]; dsimp only; rw [if_neg (by omega)], fun a n1 n2 => (sUp_ne n1).trans (sUp_ne n2)⟩) ?_ ?_ ?_
          · first | exact lvW_rfl _ | (simp [lvW]; done) | (simp [lvW, *]; done) | (simp [lvW]; omega)
          · rfl
          · first | rfl | (simp; done)
        ·
          exfalso; omega
      · intro i hi ih11 
        refine e_iload_1 (p' := 12) D_M_record_11 rfl ?_
        refine e_sipush (v := nI 195) (p' := 15) D_M_record_12 cst_sipush_195 rfl ?_
        refine e_icmpN_ge (q := 39) (p' := 18) D_M_record_15 (by omega) (by omega) rfl rfl (fun hc15 => ?_) (fun hc15 => ?_)
        ·
          exfalso; omega
        ·
          refine e_aload_0 (p' := 19) D_M_record_18 rfl ?_
          refine e_getfield (p' := 22) D_M_record_19 F_M_13 (by first | assumption | exact sUp_eq | (rw [sUp_ne (by omega)]; assumption) | (rw [sUp_ne (by omega), sUp_ne (by omega)]; assumption) | (rw [sUp_ne (by omega)]; exact sUp_eq) | (rw [gSet_ne (by omega) (by omega)]; first | assumption | exact sUp_eq | (rw [sUp_ne (by omega)]; assumption) | (rw [sUp_ne (by omega), sUp_ne (by omega)]; assumption)) | (rw [sUp_ne (by omega), sUp_ne (by omega), sUp_ne (by omega)]; assumption) | (simp [sUp]; done)) (by rfl) rfl ?_
          refine e_iload_1 (p' := 23) D_M_record_22 rfl ?_
          refine e_aload_0 (p' := 24) D_M_record_23 rfl ?_
          refine e_getfield (p' := 27) D_M_record_24 F_M_13 (by first | assumption | exact sUp_eq | (rw [sUp_ne (by omega)]; assumption) | (rw [sUp_ne (by omega), sUp_ne (by omega)]; assumption) | (rw [sUp_ne (by omega)]; exact sUp_eq) | (rw [gSet_ne (by omega) (by omega)]; first | assumption | exact sUp_eq | (rw [sUp_ne (by omega)]; assumption) | (rw [sUp_ne (by omega), sUp_ne (by omega)]; assumption)) | (rw [sUp_ne (by omega), sUp_ne (by omega), sUp_ne (by omega)]; assumption) | (simp [sUp]; done)) (by rfl) rfl ?_
          refine e_iload_1 (p' := 28) D_M_record_27 rfl ?_
          refine e_bipush (v := nI 39) (p' := 30) D_M_record_28 cst_bipush_39 rfl ?_
          first | refine e_iaddN (p' := 31) D_M_record_30 rfl ?_ | refine e_iadd (p' := 31) D_M_record_30 rfl ?_
          refine e_iaload (p' := 32) D_M_record_31 (by first | assumption | exact sUp_eq | (rw [sUp_ne (by omega)]; assumption) | (rw [sUp_ne (by omega), sUp_ne (by omega)]; assumption) | (rw [sUp_ne (by omega)]; exact sUp_eq) | (rw [gSet_ne (by omega) (by omega)]; first | assumption | exact sUp_eq | (rw [sUp_ne (by omega)]; assumption) | (rw [sUp_ne (by omega), sUp_ne (by omega)]; assumption)) | (rw [sUp_ne (by omega), sUp_ne (by omega), sUp_ne (by omega)]; assumption) | (simp [sUp]; done)) (by omega) (by omega) (by rfl) rfl ?_
          refine e_iastore (p' := 33) D_M_record_32 (by first | assumption | exact sUp_eq | (rw [sUp_ne (by omega)]; assumption) | (rw [sUp_ne (by omega), sUp_ne (by omega)]; assumption) | (rw [sUp_ne (by omega)]; exact sUp_eq) | (rw [gSet_ne (by omega) (by omega)]; first | assumption | exact sUp_eq | (rw [sUp_ne (by omega)]; assumption) | (rw [sUp_ne (by omega), sUp_ne (by omega)]; assumption)) | (rw [sUp_ne (by omega), sUp_ne (by omega), sUp_ne (by omega)]; assumption) | (simp [sUp]; done)) (by omega) (by omega) rfl ?_
          first | refine e_iincN_1 (n := 1) (p' := 36) D_M_record_33 (Nat.le_of_ble_eq_true rfl) rfl rfl ?_ | refine e_iinc_1 (p' := 36) D_M_record_33 (Nat.le_of_ble_eq_true rfl) rfl rfl rfl ?_
          refine e_goto (p' := 11) D_M_record_36 rfl ?_
          refine sEv.castW (ih11) ?_ ?_ ?_
          · first | exact lvW_rfl _ | (simp [lvW]; done) | (simp [lvW, *]; done) | (simp [lvW]; omega)
          · rfl
          · rw [sUp_sUp]
            refine sUp_arr fun k => ?_
            by_cases e : k = i
            · subst e; simp [upd]; omega
            · simp [upd, e]; congr 1; simp; omega
    refine sEv.castW (lk11 0 (by omega) ) ?_ ?_ ?_
    · first | exact lvW_rfl _ | (simp [lvW]; done) | (simp [lvW, *]; done) | (simp [lvW]; omega)
    · rfl
    · rw [sUp_self]; simp [a2]
