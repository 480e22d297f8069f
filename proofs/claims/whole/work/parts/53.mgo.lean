/-! ===== the reference: goCycles ===== -/
def CyA (h : sH) (n t : Nat) (pm wl rr rc : Int32) (a : Ac) : Prop := ∃ wr wc, h.2 61 = mO n t (pm, wl, nI a.1, nI a.2.1, wr, wc, rr, rc) ∧ (a.2.1 ≠ 0 → wr = nI a.2.2.1 ∧ wc = nI a.2.2.2) ∧ (a.2.2.1 < 64 ∧ a.2.2.2 < 64)
def CyP (h : sH) (q : List Nat) : Prop := ∃ f, h.2 72 = iA 12 f ∧ ∀ j, j < q.length → f j = nI (qg q j)
def CyR (h : sH) (q : List Nat) (w : Int32) : Prop := ∃ f, h.2 72 = iA 12 f ∧ (∀ j, j < q.length → f j = nI (qg q j)) ∧ f q.length = w
def FrC (h h1 : sH) : Prop := ∀ b, b ≠ 61 → b ≠ 72 → h1.2 b = h.2 b
theorem FrC.up {h h1 : sH} {c : sC} (f : FrC h h1) : FrC h (sUp h1 72 c) := fun b n1 n2 => (sUp_ne n2).trans (f b n1 n2)
theorem CyA.up {h : sH} {n t : Nat} {pm wl rr rc : Int32} {a : Ac} {c : sC} (H : CyA h n t pm wl rr rc a) : CyA (sUp h 72 c) n t pm wl rr rc a := by
  obtain ⟨wr, wc, h1, h2⟩ := H
  exact ⟨wr, wc, (sUp_ne (by omega)).trans h1, h2⟩
theorem CyP.wr {h : sH} {q : List Nat} {f : Nat → Int32} {i : Nat} {v : Int32} (hq : ∀ j, j < q.length → f j = nI (qg q j)) (hi : q.length ≤ i) : ∀ j, j < q.length → upd f i v j = nI (qg q j) := fun j hj => by
  rw [upd_off (by omega)]; exact hq j hj
theorem CyR.put {h : sH} {q : List Nat} {f : Nat → Int32} {v : Int32} (hq : ∀ j, j < q.length → f j = nI (qg q j)) : CyR (sUp h 72 (iA 12 (upd f q.length v))) q v :=
  ⟨_, sUp_eq, CyP.wr (h := h) hq (Nat.le_refl _), upd_at⟩
theorem pI_inc : ∀ w, w < 8 → pI w + nI 1 = nI w := by decide +kernel
def okP (q : List Nat) : Prop := (∀ i j, 2 * i < q.length → j < i → qg q (2 * j) ≠ qg q (2 * i)) ∧ ∀ i j, 2 * i + 1 < q.length → j < i → qg q (2 * j + 1) ≠ qg q (2 * i + 1)
theorem okP_sn {x : Gd} {q : List Nat} {w : Nat} (h : okP q) (hc : csB x q w = true) : okP (q ++ [w]) := by
  have ll : (q ++ [w]).length = q.length + 1 := by rw [List.length_append]; rfl
  have lm : qg (q ++ [w]) q.length = w := qg_m
  refine ⟨fun i j hi hj => ?_, fun i j hi hj => ?_⟩
  · rw [ll] at hi
    by_cases e : 2 * i = q.length
    · rw [e, lm, qg_l (by omega)]
      exact ((csB_even (d := i - 1) (by omega)).mp hc).2 j (by omega)
    · rw [qg_l (by omega), qg_l (by omega)]
      exact h.1 i j (by omega) hj
  · rw [ll] at hi
    by_cases e : 2 * i + 1 = q.length
    · rw [e, lm, qg_l (by omega)]
      exact ((csB_odd (d := i) e.symm).mp hc).2 j hj
    · rw [qg_l (by omega), qg_l (by omega)]
      exact h.2 i j (by omega) hj
def RS (x : Gd) (k : Nat) (φ : Ph) (q : List Nat) (m w d : Nat) : Nat := sm d (fun i => if csB x q (w + i) = true then DD x (Gh x k φ) m (q ++ [w + i]) else 0)
theorem RS_0 {x : Gd} {k m : Nat} {φ : Ph} {q : List Nat} : RS x k φ q m 0 (mo x q.length) = DD x (Gh x k φ) (m + 1) q := sm_congr fun i _ => by rw [Nat.zero_add]
theorem RS_t {x : Gd} {k m w d : Nat} {φ : Ph} {q : List Nat} (h : csB x q w = true) : RS x k φ q m w (d + 1) = DD x (Gh x k φ) m (q ++ [w]) + RS x k φ q m (w + 1) d := by
  unfold RS
  rw [sm_cons, Nat.add_zero, if_pos h]
  congr 1
  exact sm_congr fun i _ => by rw [show w + (i + 1) = w + 1 + i by omega]
theorem RS_f {x : Gd} {k m w d : Nat} {φ : Ph} {q : List Nat} (h : csB x q w = false) : RS x k φ q m w (d + 1) = RS x k φ q m (w + 1) d := by
  unfold RS
  rw [sm_cons, Nat.add_zero, if_neg (by rw [h]; decide), Nat.zero_add]
  exact sm_congr fun i _ => by rw [show w + (i + 1) = w + 1 + i by omega]
set_option maxRecDepth 4000 in
theorem go_19 {l : Launch} {K : sK} {h1 : sH} {x : Gd} {n t : Nat} {v : mV} (hm : h1.2 61 = mO n t v) (hz : h1.2 62 = iA 39 (nF (zN x))) (hx : Gok x) {k : Nat} {q : List Nat} (hl : q.length < 12) {w : Nat} (hw : w ≤ 6) {f : Nat → Int32} (hf : h1.2 72 = iA 12 f) (hfw : f q.length = pI w)
    (kk : sEv l m_M_goCycles 3 (0, 0, 0, 0) K 57 [some (.ref 61), some (.int (nI (2 * k))), some (.int (nI q.length)), some (.int (nI (mo x q.length)))] [] (sUp h1 72 (iA 12 (upd f q.length (nI w))))) : sEv l m_M_goCycles 3 (0, 0, 0, 0) K 19 [some (.ref 61), some (.int (nI (2 * k))), some (.int (nI q.length)), none] [] h1 := by
  have hRr := hx.1
  have hCc := hx.2.1
  refine e_iload_2 (p' := 20) D_M_goCycles_19 rfl ?_
  refine e_ifN_lt (q := 172) (p' := 23) D_M_goCycles_20 (by omega) rfl rfl (fun hc20 => ?_) (fun hc20 => ?_)
  ·
    exact absurd hc20 (Nat.not_lt_zero _)
  ·
    refine e_iload_2 (p' := 24) D_M_goCycles_23 rfl ?_
    refine e_iconst (v := nI 2) (p' := 25) D_M_goCycles_24 cst_iconst_2 rfl ?_
    first | refine e_iremN (p' := 26) D_M_goCycles_25 (by omega) (by omega) (by omega) rfl ?_ | refine e_irem (p' := 26) D_M_goCycles_25 (by assumption) rfl ?_
    refine e_ifN_ne (q := 39) (p' := 29) D_M_goCycles_26 (by omega) rfl rfl (fun hc26 => ?_) (fun hc26 => ?_)
    ·
      refine e_aload_0 (p' := 40) D_M_goCycles_39 rfl ?_
      refine e_getfield (p' := 43) D_M_goCycles_40 F_M_7 (by first | assumption | exact sUp_eq | (rw [sUp_ne (by omega)]; assumption) | (rw [sUp_ne (by omega), sUp_ne (by omega)]; assumption) | (rw [sUp_ne (by omega)]; exact sUp_eq) | (rw [gSet_ne (by omega) (by omega)]; first | assumption | exact sUp_eq | (rw [sUp_ne (by omega)]; assumption) | (rw [sUp_ne (by omega), sUp_ne (by omega)]; assumption)) | (rw [sUp_ne (by omega), sUp_ne (by omega), sUp_ne (by omega)]; assumption) | (simp [sUp]; done)) (by rfl) rfl ?_
      refine e_bipush (v := nI 37) (p' := 45) D_M_goCycles_43 cst_bipush_37 rfl ?_
      refine e_iaload (p' := 46) D_M_goCycles_45 (by first | assumption | exact sUp_eq | (rw [sUp_ne (by omega)]; assumption) | (rw [sUp_ne (by omega), sUp_ne (by omega)]; assumption) | (rw [sUp_ne (by omega)]; exact sUp_eq) | (rw [gSet_ne (by omega) (by omega)]; first | assumption | exact sUp_eq | (rw [sUp_ne (by omega)]; assumption) | (rw [sUp_ne (by omega), sUp_ne (by omega)]; assumption)) | (rw [sUp_ne (by omega), sUp_ne (by omega), sUp_ne (by omega)]; assumption) | (simp [sUp]; done)) (by omega) (by omega) (by rfl) rfl ?_
      rw [z37]
      refine e_istore_3 (p' := 47) D_M_goCycles_46 (Nat.le_of_ble_eq_true rfl) rfl rfl ?_
      refine e_aload_0 (p' := 48) D_M_goCycles_47 rfl ?_
      refine e_getfield (p' := 51) D_M_goCycles_48 F_M_42 (by first | assumption | exact sUp_eq | (rw [sUp_ne (by omega)]; assumption) | (rw [sUp_ne (by omega), sUp_ne (by omega)]; assumption) | (rw [sUp_ne (by omega)]; exact sUp_eq) | (rw [gSet_ne (by omega) (by omega)]; first | assumption | exact sUp_eq | (rw [sUp_ne (by omega)]; assumption) | (rw [sUp_ne (by omega), sUp_ne (by omega)]; assumption)) | (rw [sUp_ne (by omega), sUp_ne (by omega), sUp_ne (by omega)]; assumption) | (simp [sUp]; done)) (by rfl) rfl ?_
      refine e_iload_2 (p' := 52) D_M_goCycles_51 rfl ?_
      refine e_dup2 (p' := 53) D_M_goCycles_52 rfl rfl rfl ?_
      refine e_iaload (p' := 54) D_M_goCycles_53 (by first | assumption | exact sUp_eq | (rw [sUp_ne (by omega)]; assumption) | (rw [sUp_ne (by omega), sUp_ne (by omega)]; assumption) | (rw [sUp_ne (by omega)]; exact sUp_eq) | (rw [gSet_ne (by omega) (by omega)]; first | assumption | exact sUp_eq | (rw [sUp_ne (by omega)]; assumption) | (rw [sUp_ne (by omega), sUp_ne (by omega)]; assumption)) | (rw [sUp_ne (by omega), sUp_ne (by omega), sUp_ne (by omega)]; assumption) | (simp [sUp]; done)) (by omega) (by omega) (by rfl) rfl ?_
      rw [hfw]
      refine e_iconst (v := nI 1) (p' := 55) D_M_goCycles_54 cst_iconst_1 rfl ?_
      first | refine e_iaddN (p' := 56) D_M_goCycles_55 rfl ?_ | refine e_iadd (p' := 56) D_M_goCycles_55 rfl ?_
      rw [pI_inc w (by omega)]
      refine e_iastore (p' := 57) D_M_goCycles_56 (by first | assumption | exact sUp_eq | (rw [sUp_ne (by omega)]; assumption) | (rw [sUp_ne (by omega), sUp_ne (by omega)]; assumption) | (rw [sUp_ne (by omega)]; exact sUp_eq) | (rw [gSet_ne (by omega) (by omega)]; first | assumption | exact sUp_eq | (rw [sUp_ne (by omega)]; assumption) | (rw [sUp_ne (by omega), sUp_ne (by omega)]; assumption)) | (rw [sUp_ne (by omega), sUp_ne (by omega), sUp_ne (by omega)]; assumption) | (simp [sUp]; done)) (by omega) (by omega) rfl ?_
      refine sEv.castW (kk ) ?_ ?_ ?_
      · rw [show mo x q.length = x.1.2.1 from if_neg (by omega)]
        exact ⟨rfl, rfl, rfl, rfl, trivial⟩
      · rfl
      · first | rfl | (simp; done)
    ·
      refine e_aload_0 (p' := 30) D_M_goCycles_29 rfl ?_
      refine e_getfield (p' := 33) D_M_goCycles_30 F_M_7 (by first | assumption | exact sUp_eq | (rw [sUp_ne (by omega)]; assumption) | (rw [sUp_ne (by omega), sUp_ne (by omega)]; assumption) | (rw [sUp_ne (by omega)]; exact sUp_eq) | (rw [gSet_ne (by omega) (by omega)]; first | assumption | exact sUp_eq | (rw [sUp_ne (by omega)]; assumption) | (rw [sUp_ne (by omega), sUp_ne (by omega)]; assumption)) | (rw [sUp_ne (by omega), sUp_ne (by omega), sUp_ne (by omega)]; assumption) | (simp [sUp]; done)) (by rfl) rfl ?_
      refine e_bipush (v := nI 36) (p' := 35) D_M_goCycles_33 cst_bipush_36 rfl ?_
      refine e_iaload (p' := 36) D_M_goCycles_35 (by first | assumption | exact sUp_eq | (rw [sUp_ne (by omega)]; assumption) | (rw [sUp_ne (by omega), sUp_ne (by omega)]; assumption) | (rw [sUp_ne (by omega)]; exact sUp_eq) | (rw [gSet_ne (by omega) (by omega)]; first | assumption | exact sUp_eq | (rw [sUp_ne (by omega)]; assumption) | (rw [sUp_ne (by omega), sUp_ne (by omega)]; assumption)) | (rw [sUp_ne (by omega), sUp_ne (by omega), sUp_ne (by omega)]; assumption) | (simp [sUp]; done)) (by omega) (by omega) (by rfl) rfl ?_
      rw [z36]
      refine e_goto (p' := 46) D_M_goCycles_36 rfl ?_
      refine e_istore_3 (p' := 47) D_M_goCycles_46 (Nat.le_of_ble_eq_true rfl) rfl rfl ?_
      refine e_aload_0 (p' := 48) D_M_goCycles_47 rfl ?_
      refine e_getfield (p' := 51) D_M_goCycles_48 F_M_42 (by first | assumption | exact sUp_eq | (rw [sUp_ne (by omega)]; assumption) | (rw [sUp_ne (by omega), sUp_ne (by omega)]; assumption) | (rw [sUp_ne (by omega)]; exact sUp_eq) | (rw [gSet_ne (by omega) (by omega)]; first | assumption | exact sUp_eq | (rw [sUp_ne (by omega)]; assumption) | (rw [sUp_ne (by omega), sUp_ne (by omega)]; assumption)) | (rw [sUp_ne (by omega), sUp_ne (by omega), sUp_ne (by omega)]; assumption) | (simp [sUp]; done)) (by rfl) rfl ?_
      refine e_iload_2 (p' := 52) D_M_goCycles_51 rfl ?_
      refine e_dup2 (p' := 53) D_M_goCycles_52 rfl rfl rfl ?_
      refine e_iaload (p' := 54) D_M_goCycles_53 (by first | assumption | exact sUp_eq | (rw [sUp_ne (by omega)]; assumption) | (rw [sUp_ne (by omega), sUp_ne (by omega)]; assumption) | (rw [sUp_ne (by omega)]; exact sUp_eq) | (rw [gSet_ne (by omega) (by omega)]; first | assumption | exact sUp_eq | (rw [sUp_ne (by omega)]; assumption) | (rw [sUp_ne (by omega), sUp_ne (by omega)]; assumption)) | (rw [sUp_ne (by omega), sUp_ne (by omega), sUp_ne (by omega)]; assumption) | (simp [sUp]; done)) (by omega) (by omega) (by rfl) rfl ?_
      rw [hfw]
      refine e_iconst (v := nI 1) (p' := 55) D_M_goCycles_54 cst_iconst_1 rfl ?_
      first | refine e_iaddN (p' := 56) D_M_goCycles_55 rfl ?_ | refine e_iadd (p' := 56) D_M_goCycles_55 rfl ?_
      rw [pI_inc w (by omega)]
      refine e_iastore (p' := 57) D_M_goCycles_56 (by first | assumption | exact sUp_eq | (rw [sUp_ne (by omega)]; assumption) | (rw [sUp_ne (by omega), sUp_ne (by omega)]; assumption) | (rw [sUp_ne (by omega)]; exact sUp_eq) | (rw [gSet_ne (by omega) (by omega)]; first | assumption | exact sUp_eq | (rw [sUp_ne (by omega)]; assumption) | (rw [sUp_ne (by omega), sUp_ne (by omega)]; assumption)) | (rw [sUp_ne (by omega), sUp_ne (by omega), sUp_ne (by omega)]; assumption) | (simp [sUp]; done)) (by omega) (by omega) rfl ?_
      refine sEv.castW (kk ) ?_ ?_ ?_
      · rw [show mo x q.length = x.1.1 from if_pos (by omega)]
        exact ⟨rfl, rfl, rfl, rfl, trivial⟩
      · rfl
      · first | rfl | (simp; done)
set_option maxRecDepth 4000 in
theorem go_57 {l : Launch} {K : sK} {h0 : sH} {x : Gd} (hx : Gok x) {n t : Nat} {pm wl rr rc : Int32} {k : Nat} (hk : 2 ≤ k) (hk6 : k ≤ 6) (hz0 : h0.2 62 = iA 39 (nF (zN x))) :
  ∀ (m : Nat), ∀ (q : List Nat), q.length + (m + 1) = 2 * k → (∀ v, v ∈ q → v < 6) → okP q → ∀ (d w : Nat), w + d = mo x q.length → ∀ (h1 : sH) (a : Ac) (F : Ph → Nat),
    CyA h1 n t pm wl rr rc a → CyR h1 q (nI w) → FrC h0 h1 → AccIs a F → F wrg + RS x k wrg q m w d < 2 ^ 30 →
    (∀ (h2 : sH) (a2 : Ac), CyA h2 n t pm wl rr rc a2 → CyP h2 q → FrC h0 h2 → AccIs a2 (fun φ => F φ + RS x k φ q m w d) → sEv l m_M_goCycles 3 (0, 0, 0, 0) K 19 [some (.ref 61), some (.int (nI (2 * k))), some (.int (pI q.length)), none] [] h2) →
    sEv l m_M_goCycles 3 (0, 0, 0, 0) K 57 [some (.ref 61), some (.int (nI (2 * k))), some (.int (nI q.length)), some (.int (nI (mo x q.length)))] [] h1 := by
  intro m
  induction m with
  | zero =>
    intro q hq h6 hp d
    induction d with
    | zero =>
      intro w hw h1 a F CA ⟨f, hf, hqf, hfw⟩ FR AI hb cont
      have mo6 := mo_6 hx q.length
      obtain ⟨wr, wc, hm, hm2⟩ := id CA
      refine e_aload_0 (p' := 58) D_M_goCycles_57 rfl ?_
      refine e_getfield (p' := 61) D_M_goCycles_58 F_M_42 (by first | assumption | exact sUp_eq | (rw [sUp_ne (by omega)]; assumption) | (rw [sUp_ne (by omega), sUp_ne (by omega)]; assumption) | (rw [sUp_ne (by omega)]; exact sUp_eq) | (rw [gSet_ne (by omega) (by omega)]; first | assumption | exact sUp_eq | (rw [sUp_ne (by omega)]; assumption) | (rw [sUp_ne (by omega), sUp_ne (by omega)]; assumption)) | (rw [sUp_ne (by omega), sUp_ne (by omega), sUp_ne (by omega)]; assumption) | (simp [sUp]; done)) (by rfl) rfl ?_
      refine e_iload_2 (p' := 62) D_M_goCycles_61 rfl ?_
      refine e_iaload (p' := 63) D_M_goCycles_62 (by first | assumption | exact sUp_eq | (rw [sUp_ne (by omega)]; assumption) | (rw [sUp_ne (by omega), sUp_ne (by omega)]; assumption) | (rw [sUp_ne (by omega)]; exact sUp_eq) | (rw [gSet_ne (by omega) (by omega)]; first | assumption | exact sUp_eq | (rw [sUp_ne (by omega)]; assumption) | (rw [sUp_ne (by omega), sUp_ne (by omega)]; assumption)) | (rw [sUp_ne (by omega), sUp_ne (by omega), sUp_ne (by omega)]; assumption) | (simp [sUp]; done)) (by omega) (by omega) (by rfl) rfl ?_
      rw [hfw]
      refine e_iload_3 (p' := 64) D_M_goCycles_63 rfl ?_
      refine e_icmpN_ge (q := 94) (p' := 67) D_M_goCycles_64 (by omega) (by omega) rfl rfl (fun hc64 => ?_) (fun hc64 => ?_)
      ·
        refine e_aload_0 (p' := 95) D_M_goCycles_94 rfl ?_
        refine e_getfield (p' := 98) D_M_goCycles_95 F_M_42 (by first | assumption | exact sUp_eq | (rw [sUp_ne (by omega)]; assumption) | (rw [sUp_ne (by omega), sUp_ne (by omega)]; assumption) | (rw [sUp_ne (by omega)]; exact sUp_eq) | (rw [gSet_ne (by omega) (by omega)]; first | assumption | exact sUp_eq | (rw [sUp_ne (by omega)]; assumption) | (rw [sUp_ne (by omega), sUp_ne (by omega)]; assumption)) | (rw [sUp_ne (by omega), sUp_ne (by omega), sUp_ne (by omega)]; assumption) | (simp [sUp]; done)) (by rfl) rfl ?_
        refine e_iload_2 (p' := 99) D_M_goCycles_98 rfl ?_
        refine e_iaload (p' := 100) D_M_goCycles_99 (by first | assumption | exact sUp_eq | (rw [sUp_ne (by omega)]; assumption) | (rw [sUp_ne (by omega), sUp_ne (by omega)]; assumption) | (rw [sUp_ne (by omega)]; exact sUp_eq) | (rw [gSet_ne (by omega) (by omega)]; first | assumption | exact sUp_eq | (rw [sUp_ne (by omega)]; assumption) | (rw [sUp_ne (by omega), sUp_ne (by omega)]; assumption)) | (rw [sUp_ne (by omega), sUp_ne (by omega), sUp_ne (by omega)]; assumption) | (simp [sUp]; done)) (by omega) (by omega) (by rfl) rfl ?_
        rw [hfw]
        refine e_iload_3 (p' := 101) D_M_goCycles_100 rfl ?_
        refine e_icmpN_ne (q := 110) (p' := 104) D_M_goCycles_101 (by omega) (by omega) rfl rfl (fun hc101 => ?_) (fun hc101 => ?_)
        ·
          exfalso; omega
        ·
          first | refine e_iincM_2 (n := 1) (p' := 107) D_M_goCycles_104 (Nat.le_of_ble_eq_true rfl) rfl (by omega) rfl ?_ | refine e_iinc_2 (p' := 107) D_M_goCycles_104 (Nat.le_of_ble_eq_true rfl) rfl rfl rfl ?_
          refine e_goto (p' := 169) D_M_goCycles_107 rfl ?_
          refine e_goto (p' := 19) D_M_goCycles_169 rfl ?_
          refine sEv.castW (cont h1 a CA ⟨f, hf, hqf⟩ FR (AI.congr fun φ => (Nat.add_zero _).symm) ) ?_ ?_ ?_
          · first | (rw [pI_pos (show q.length ≠ 0 by omega)]; exact ⟨rfl, rfl, rfl, trivial⟩) | exact ⟨rfl, rfl, congrArg (fun v => some (Value.int v)) (pI_dec _), trivial⟩
          · rfl
          · first | rfl | (simp; done)
      ·
        exfalso; omega
    | succ d ihd =>
      intro w hw h1 a F CA ⟨f, hf, hqf, hfw⟩ FR AI hb cont
      have mo6 := mo_6 hx q.length
      obtain ⟨wr, wc, hm, hm2, hm3⟩ := id CA
      have hz := (FR 62 (by omega) (by omega)).trans hz0
      refine e_aload_0 (p' := 58) D_M_goCycles_57 rfl ?_
      refine e_getfield (p' := 61) D_M_goCycles_58 F_M_42 (by first | assumption | exact sUp_eq | (rw [sUp_ne (by omega)]; assumption) | (rw [sUp_ne (by omega), sUp_ne (by omega)]; assumption) | (rw [sUp_ne (by omega)]; exact sUp_eq) | (rw [gSet_ne (by omega) (by omega)]; first | assumption | exact sUp_eq | (rw [sUp_ne (by omega)]; assumption) | (rw [sUp_ne (by omega), sUp_ne (by omega)]; assumption)) | (rw [sUp_ne (by omega), sUp_ne (by omega), sUp_ne (by omega)]; assumption) | (simp [sUp]; done)) (by rfl) rfl ?_
      refine e_iload_2 (p' := 62) D_M_goCycles_61 rfl ?_
      refine e_iaload (p' := 63) D_M_goCycles_62 (by first | assumption | exact sUp_eq | (rw [sUp_ne (by omega)]; assumption) | (rw [sUp_ne (by omega), sUp_ne (by omega)]; assumption) | (rw [sUp_ne (by omega)]; exact sUp_eq) | (rw [gSet_ne (by omega) (by omega)]; first | assumption | exact sUp_eq | (rw [sUp_ne (by omega)]; assumption) | (rw [sUp_ne (by omega), sUp_ne (by omega)]; assumption)) | (rw [sUp_ne (by omega), sUp_ne (by omega), sUp_ne (by omega)]; assumption) | (simp [sUp]; done)) (by omega) (by omega) (by rfl) rfl ?_
      rw [hfw]
      refine e_iload_3 (p' := 64) D_M_goCycles_63 rfl ?_
      refine e_icmpN_ge (q := 94) (p' := 67) D_M_goCycles_64 (by omega) (by omega) rfl rfl (fun hc64 => ?_) (fun hc64 => ?_)
      ·
        exfalso; omega
      ·
        refine e_aload_0 (p' := 68) D_M_goCycles_67 rfl ?_
        refine e_iload_2 (p' := 69) D_M_goCycles_68 rfl ?_
        refine e_aload_0 (p' := 70) D_M_goCycles_69 rfl ?_
        refine e_getfield (p' := 73) D_M_goCycles_70 F_M_42 (by first | assumption | exact sUp_eq | (rw [sUp_ne (by omega)]; assumption) | (rw [sUp_ne (by omega), sUp_ne (by omega)]; assumption) | (rw [sUp_ne (by omega)]; exact sUp_eq) | (rw [gSet_ne (by omega) (by omega)]; first | assumption | exact sUp_eq | (rw [sUp_ne (by omega)]; assumption) | (rw [sUp_ne (by omega), sUp_ne (by omega)]; assumption)) | (rw [sUp_ne (by omega), sUp_ne (by omega), sUp_ne (by omega)]; assumption) | (simp [sUp]; done)) (by rfl) rfl ?_
        refine e_iload_2 (p' := 74) D_M_goCycles_73 rfl ?_
        refine e_iaload (p' := 75) D_M_goCycles_74 (by first | assumption | exact sUp_eq | (rw [sUp_ne (by omega)]; assumption) | (rw [sUp_ne (by omega), sUp_ne (by omega)]; assumption) | (rw [sUp_ne (by omega)]; exact sUp_eq) | (rw [gSet_ne (by omega) (by omega)]; first | assumption | exact sUp_eq | (rw [sUp_ne (by omega)]; assumption) | (rw [sUp_ne (by omega), sUp_ne (by omega)]; assumption)) | (rw [sUp_ne (by omega), sUp_ne (by omega), sUp_ne (by omega)]; assumption) | (simp [sUp]; done)) (by omega) (by omega) (by rfl) rfl ?_
        rw [hfw]
        refine x_callV1 (p' := 78) D_M_goCycles_75 V_M_156 (c_M_canStand hm hz hx hf hqf (qg_6 h6) (by omega) (by omega)) rfl (by first | assumption | exact sUp_eq | (rw [sUp_ne (by omega)]; assumption) | (rw [sUp_ne (by omega), sUp_ne (by omega)]; assumption) | (rw [sUp_ne (by omega)]; exact sUp_eq) | (rw [gSet_ne (by omega) (by omega)]; first | assumption | exact sUp_eq | (rw [sUp_ne (by omega)]; assumption) | (rw [sUp_ne (by omega), sUp_ne (by omega)]; assumption)) | (rw [sUp_ne (by omega), sUp_ne (by omega), sUp_ne (by omega)]; assumption) | (simp [sUp]; done)) rfl (Nat.le_of_ble_eq_true rfl) (by decide) ⟨by decide, by decide⟩ rfl ?_
        refine e_ifB_ne (q := 94) (p' := 81) D_M_goCycles_78 rfl rfl (fun hc78 => ?_) (fun hc78 => ?_)
        ·
          rw [RS_t hc78] at hb
          have ll : (q ++ [w]).length = q.length + 1 := by rw [List.length_append]; rfl
          have q6 := mem_sn (c := w) h6 (by omega)
          have pq := okP_sn hp hc78
          have hQ : ∀ j, j < (q ++ [w]).length → f j = nI (qg (q ++ [w]) j) := by
            intro j hj
            rw [ll] at hj
            by_cases e : j = q.length
            · subst e
              rw [hfw, qg_m]
            · rw [qg_l (by omega)]
              exact hqf j (by omega)
          have back : ∀ (h2 : sH) (a2 : Ac), CyA h2 n t pm wl rr rc a2 → CyR h2 q (nI w) → FrC h0 h2 → AccIs a2 (fun φ => F φ + DD x (Gh x k φ) 0 (q ++ [w])) → sEv l m_M_goCycles 3 (0, 0, 0, 0) K 19 [some (.ref 61), some (.int (nI (2 * k))), some (.int (nI q.length)), none] [] h2 := by
            intro h2 a2 c1 ⟨f2, g1, g2, g3⟩ c3 c4
            obtain ⟨wr2, wc2, b1, b2⟩ := id c1
            refine go_19 (w := w + 1) b1 ((c3 62 (by omega) (by omega)).trans hz0) hx (by omega) (by omega) g1 (g3.trans pI_N) ?_
            refine ihd (w + 1) (by omega) _ a2 (fun φ => F φ + DD x (Gh x k φ) 0 (q ++ [w])) c1.up (CyR.put g2) c3.up c4 (by rw [Nat.add_assoc]; exact hb) (fun h3 a3 e1 e2 e3 e4 => cont h3 a3 e1 e2 e3 (e4.congr fun φ => ?_))
            rw [RS_t hc78, Nat.add_assoc]
          refine e_aload_0 (p' := 95) D_M_goCycles_94 rfl ?_
          refine e_getfield (p' := 98) D_M_goCycles_95 F_M_42 (by first | assumption | exact sUp_eq | (rw [sUp_ne (by omega)]; assumption) | (rw [sUp_ne (by omega), sUp_ne (by omega)]; assumption) | (rw [sUp_ne (by omega)]; exact sUp_eq) | (rw [gSet_ne (by omega) (by omega)]; first | assumption | exact sUp_eq | (rw [sUp_ne (by omega)]; assumption) | (rw [sUp_ne (by omega), sUp_ne (by omega)]; assumption)) | (rw [sUp_ne (by omega), sUp_ne (by omega), sUp_ne (by omega)]; assumption) | (simp [sUp]; done)) (by rfl) rfl ?_
          refine e_iload_2 (p' := 99) D_M_goCycles_98 rfl ?_
          refine e_iaload (p' := 100) D_M_goCycles_99 (by first | assumption | exact sUp_eq | (rw [sUp_ne (by omega)]; assumption) | (rw [sUp_ne (by omega), sUp_ne (by omega)]; assumption) | (rw [sUp_ne (by omega)]; exact sUp_eq) | (rw [gSet_ne (by omega) (by omega)]; first | assumption | exact sUp_eq | (rw [sUp_ne (by omega)]; assumption) | (rw [sUp_ne (by omega), sUp_ne (by omega)]; assumption)) | (rw [sUp_ne (by omega), sUp_ne (by omega), sUp_ne (by omega)]; assumption) | (simp [sUp]; done)) (by omega) (by omega) (by rfl) rfl ?_
          rw [hfw]
          refine e_iload_3 (p' := 101) D_M_goCycles_100 rfl ?_
          refine e_icmpN_ne (q := 110) (p' := 104) D_M_goCycles_101 (by omega) (by omega) rfl rfl (fun hc101 => ?_) (fun hc101 => ?_)
          ·
            refine e_iload_2 (p' := 111) D_M_goCycles_110 rfl ?_
            refine e_iload_1 (p' := 112) D_M_goCycles_111 rfl ?_
            refine e_iconst (v := nI 1) (p' := 113) D_M_goCycles_112 cst_iconst_1 rfl ?_
            first | refine e_isubN (p' := 114) D_M_goCycles_113 (by omega) rfl ?_ | refine e_isub (p' := 114) D_M_goCycles_113 rfl ?_
            refine e_icmpN_ge (q := 130) (p' := 117) D_M_goCycles_114 (by omega) (by omega) rfl rfl (fun hc114 => ?_) (fun hc114 => ?_)
            ·
              have hlen : q.length = 2 * k - 1 := by omega
              have lm : qg (q ++ [w]) (2 * k - 1) = w := by rw [← hlen]; exact qg_m
              have ecl : clQ x k (q ++ [w]) = td x (qg (q ++ [w]) 0) w := by unfold clQ; rw [lm]
              have e0 := hQ 0 (by omega)
              have e1 := hQ 1 (by omega)
              have s60 := qg_6 q6 0
              have s61 := qg_6 q6 1
              have sm0 := hx.small (qg (q ++ [w]) 0) w
              refine e_aload_0 (p' := 131) D_M_goCycles_130 rfl ?_
              refine e_aload_0 (p' := 132) D_M_goCycles_131 rfl ?_
              refine e_getfield (p' := 135) D_M_goCycles_132 F_M_42 (by first | assumption | exact sUp_eq | (rw [sUp_ne (by omega)]; assumption) | (rw [sUp_ne (by omega), sUp_ne (by omega)]; assumption) | (rw [sUp_ne (by omega)]; exact sUp_eq) | (rw [gSet_ne (by omega) (by omega)]; first | assumption | exact sUp_eq | (rw [sUp_ne (by omega)]; assumption) | (rw [sUp_ne (by omega), sUp_ne (by omega)]; assumption)) | (rw [sUp_ne (by omega), sUp_ne (by omega), sUp_ne (by omega)]; assumption) | (simp [sUp]; done)) (by rfl) rfl ?_
              refine e_iconst (v := nI 0) (p' := 136) D_M_goCycles_135 cst_iconst_0 rfl ?_
              refine e_iaload (p' := 137) D_M_goCycles_136 (by first | assumption | exact sUp_eq | (rw [sUp_ne (by omega)]; assumption) | (rw [sUp_ne (by omega), sUp_ne (by omega)]; assumption) | (rw [sUp_ne (by omega)]; exact sUp_eq) | (rw [gSet_ne (by omega) (by omega)]; first | assumption | exact sUp_eq | (rw [sUp_ne (by omega)]; assumption) | (rw [sUp_ne (by omega), sUp_ne (by omega)]; assumption)) | (rw [sUp_ne (by omega), sUp_ne (by omega), sUp_ne (by omega)]; assumption) | (simp [sUp]; done)) (by omega) (by omega) (by rfl) rfl ?_
              rw [e0]
              refine e_aload_0 (p' := 138) D_M_goCycles_137 rfl ?_
              refine e_getfield (p' := 141) D_M_goCycles_138 F_M_42 (by first | assumption | exact sUp_eq | (rw [sUp_ne (by omega)]; assumption) | (rw [sUp_ne (by omega), sUp_ne (by omega)]; assumption) | (rw [sUp_ne (by omega)]; exact sUp_eq) | (rw [gSet_ne (by omega) (by omega)]; first | assumption | exact sUp_eq | (rw [sUp_ne (by omega)]; assumption) | (rw [sUp_ne (by omega), sUp_ne (by omega)]; assumption)) | (rw [sUp_ne (by omega), sUp_ne (by omega), sUp_ne (by omega)]; assumption) | (simp [sUp]; done)) (by rfl) rfl ?_
              refine e_iload_2 (p' := 142) D_M_goCycles_141 rfl ?_
              refine e_iaload (p' := 143) D_M_goCycles_142 (by first | assumption | exact sUp_eq | (rw [sUp_ne (by omega)]; assumption) | (rw [sUp_ne (by omega), sUp_ne (by omega)]; assumption) | (rw [sUp_ne (by omega)]; exact sUp_eq) | (rw [gSet_ne (by omega) (by omega)]; first | assumption | exact sUp_eq | (rw [sUp_ne (by omega)]; assumption) | (rw [sUp_ne (by omega), sUp_ne (by omega)]; assumption)) | (rw [sUp_ne (by omega), sUp_ne (by omega), sUp_ne (by omega)]; assumption) | (simp [sUp]; done)) (by omega) (by omega) (by rfl) rfl ?_
              rw [hfw]
              refine x_callV1 (p' := 146) D_M_goCycles_143 V_M_67 (c_M_at hm hz hx s60 (by omega)) rfl (by first | assumption | exact sUp_eq | (rw [sUp_ne (by omega)]; assumption) | (rw [sUp_ne (by omega), sUp_ne (by omega)]; assumption) | (rw [sUp_ne (by omega)]; exact sUp_eq) | (rw [gSet_ne (by omega) (by omega)]; first | assumption | exact sUp_eq | (rw [sUp_ne (by omega)]; assumption) | (rw [sUp_ne (by omega), sUp_ne (by omega)]; assumption)) | (rw [sUp_ne (by omega), sUp_ne (by omega), sUp_ne (by omega)]; assumption) | (simp [sUp]; done)) rfl (Nat.le_of_ble_eq_true rfl) (by decide) ⟨by decide, by decide⟩ rfl ?_
              refine e_ifN_le (q := 169) (p' := 149) D_M_goCycles_146 (by omega) rfl rfl (fun hc146 => ?_) (fun hc146 => ?_)
              ·
                have ng : ¬ (clQ x k (q ++ [w]) = true ∧ qg (q ++ [w]) 1 < qg (q ++ [w]) (2 * k - 1)) := fun z => by
                  rw [ecl, td_false (by omega)] at z
                  exact absurd z.1 (by decide)
                refine e_goto (p' := 19) D_M_goCycles_169 rfl ?_
                refine sEv.castW (back h1 a CA ⟨f, hf, hqf, hfw⟩ FR (AI.congr fun φ => (show F φ = F φ + Gh x k φ (q ++ [w]) by unfold Gh; rw [if_neg ng]; rfl)) ) ?_ ?_ ?_
                · exact ⟨rfl, rfl, rfl, trivial⟩
                · rfl
                · first | rfl | (simp; done)
              ·
                refine e_aload_0 (p' := 150) D_M_goCycles_149 rfl ?_
                refine e_getfield (p' := 153) D_M_goCycles_150 F_M_42 (by first | assumption | exact sUp_eq | (rw [sUp_ne (by omega)]; assumption) | (rw [sUp_ne (by omega), sUp_ne (by omega)]; assumption) | (rw [sUp_ne (by omega)]; exact sUp_eq) | (rw [gSet_ne (by omega) (by omega)]; first | assumption | exact sUp_eq | (rw [sUp_ne (by omega)]; assumption) | (rw [sUp_ne (by omega), sUp_ne (by omega)]; assumption)) | (rw [sUp_ne (by omega), sUp_ne (by omega), sUp_ne (by omega)]; assumption) | (simp [sUp]; done)) (by rfl) rfl ?_
                refine e_iconst (v := nI 1) (p' := 154) D_M_goCycles_153 cst_iconst_1 rfl ?_
                refine e_iaload (p' := 155) D_M_goCycles_154 (by first | assumption | exact sUp_eq | (rw [sUp_ne (by omega)]; assumption) | (rw [sUp_ne (by omega), sUp_ne (by omega)]; assumption) | (rw [sUp_ne (by omega)]; exact sUp_eq) | (rw [gSet_ne (by omega) (by omega)]; first | assumption | exact sUp_eq | (rw [sUp_ne (by omega)]; assumption) | (rw [sUp_ne (by omega), sUp_ne (by omega)]; assumption)) | (rw [sUp_ne (by omega), sUp_ne (by omega), sUp_ne (by omega)]; assumption) | (simp [sUp]; done)) (by omega) (by omega) (by rfl) rfl ?_
                rw [e1]
                refine e_aload_0 (p' := 156) D_M_goCycles_155 rfl ?_
                refine e_getfield (p' := 159) D_M_goCycles_156 F_M_42 (by first | assumption | exact sUp_eq | (rw [sUp_ne (by omega)]; assumption) | (rw [sUp_ne (by omega), sUp_ne (by omega)]; assumption) | (rw [sUp_ne (by omega)]; exact sUp_eq) | (rw [gSet_ne (by omega) (by omega)]; first | assumption | exact sUp_eq | (rw [sUp_ne (by omega)]; assumption) | (rw [sUp_ne (by omega), sUp_ne (by omega)]; assumption)) | (rw [sUp_ne (by omega), sUp_ne (by omega), sUp_ne (by omega)]; assumption) | (simp [sUp]; done)) (by rfl) rfl ?_
                refine e_iload_2 (p' := 160) D_M_goCycles_159 rfl ?_
                refine e_iaload (p' := 161) D_M_goCycles_160 (by first | assumption | exact sUp_eq | (rw [sUp_ne (by omega)]; assumption) | (rw [sUp_ne (by omega), sUp_ne (by omega)]; assumption) | (rw [sUp_ne (by omega)]; exact sUp_eq) | (rw [gSet_ne (by omega) (by omega)]; first | assumption | exact sUp_eq | (rw [sUp_ne (by omega)]; assumption) | (rw [sUp_ne (by omega), sUp_ne (by omega)]; assumption)) | (rw [sUp_ne (by omega), sUp_ne (by omega), sUp_ne (by omega)]; assumption) | (simp [sUp]; done)) (by omega) (by omega) (by rfl) rfl ?_
                rw [hfw]
                refine e_icmpN_ge (q := 169) (p' := 164) D_M_goCycles_161 (by omega) (by omega) rfl rfl (fun hc161 => ?_) (fun hc161 => ?_)
                ·
                  have ng : ¬ (clQ x k (q ++ [w]) = true ∧ qg (q ++ [w]) 1 < qg (q ++ [w]) (2 * k - 1)) := fun z => by
                    rw [lm] at z
                    omega
                  refine e_goto (p' := 19) D_M_goCycles_169 rfl ?_
                  refine sEv.castW (back h1 a CA ⟨f, hf, hqf, hfw⟩ FR (AI.congr fun φ => (show F φ = F φ + Gh x k φ (q ++ [w]) by unfold Gh; rw [if_neg ng]; rfl)) ) ?_ ?_ ?_
                  · exact ⟨rfl, rfl, rfl, trivial⟩
                  · rfl
                  · first | rfl | (simp; done)
                ·
                  have yg : clQ x k (q ++ [w]) = true ∧ qg (q ++ [w]) 1 < qg (q ++ [w]) (2 * k - 1) := ⟨by rw [ecl, td_true (by omega)], by rw [lm]; omega⟩
                  have bRk : RM k (q ++ [w]) < 64 := (bsum_ok (f := fun j => qg (q ++ [w]) (2 * j)) k (fun j _ => qg_6 q6 _) (fun i j hi hj => pq.1 i j (by omega) hj)).1
                  have bCk : CM k (q ++ [w]) < 64 := (bsum_ok (f := fun j => qg (q ++ [w]) (2 * j + 1)) k (fun j _ => qg_6 q6 _) (fun i j hi hj => pq.2 i j (by omega) hj)).1
                  have ai1 : a.2.1 = F wrg := AI.2.1
                  refine e_aload_0 (p' := 165) D_M_goCycles_164 rfl ?_
                  refine e_iload_1 (p' := 166) D_M_goCycles_165 rfl ?_
                  refine y_callV0 (p' := 169) D_M_goCycles_166 V_M_159 (c_M_meet (q := q ++ [w]) (k := k) hm hz hx hf hQ (qg_6 q6) (by omega) (by omega) hk6 (fun i j hi hj => pq.1 i j (by omega) hj) (fun i j hi hj => pq.2 i j (by omega) hj) hm2 ⟨by omega, hm3.1, hm3.2⟩) rfl (by first | assumption | exact sUp_eq | (rw [sUp_ne (by omega)]; assumption) | (rw [sUp_ne (by omega), sUp_ne (by omega)]; assumption) | (rw [sUp_ne (by omega)]; exact sUp_eq) | (rw [gSet_ne (by omega) (by omega)]; first | assumption | exact sUp_eq | (rw [sUp_ne (by omega)]; assumption) | (rw [sUp_ne (by omega), sUp_ne (by omega)]; assumption)) | (rw [sUp_ne (by omega), sUp_ne (by omega), sUp_ne (by omega)]; assumption) | (simp [sUp]; done)) rfl (Nat.le_of_ble_eq_true rfl) (by decide) ⟨by decide, by decide⟩ rfl ?_
                  rintro h2 ⟨⟨wr2, wc2, M1, M2⟩, MF⟩
                  refine e_goto (p' := 19) D_M_goCycles_169 rfl ?_
                  refine sEv.castW (back h2 (meA x k (q ++ [w]) a) ⟨wr2, wc2, M1, M2, meA_lt hm3 bRk bCk⟩ ⟨f, (MF 72 (by omega)).trans hf, hqf, hfw⟩ (fun b n1 n2 => (MF b n1).trans (FR b n1 n2)) ((meA_acc AI).congr fun φ => (show F φ + wt x k φ (q ++ [w]) = F φ + Gh x k φ (q ++ [w]) by unfold Gh; rw [if_pos yg])) ) ?_ ?_ ?_
                  · exact ⟨rfl, rfl, rfl, trivial⟩
                  · rfl
                  · first | rfl | (simp; done)
            ·
              exfalso; omega
          ·
            exfalso; omega
        ·
          refine e_aload_0 (p' := 82) D_M_goCycles_81 rfl ?_
          refine e_getfield (p' := 85) D_M_goCycles_82 F_M_42 (by first | assumption | exact sUp_eq | (rw [sUp_ne (by omega)]; assumption) | (rw [sUp_ne (by omega), sUp_ne (by omega)]; assumption) | (rw [sUp_ne (by omega)]; exact sUp_eq) | (rw [gSet_ne (by omega) (by omega)]; first | assumption | exact sUp_eq | (rw [sUp_ne (by omega)]; assumption) | (rw [sUp_ne (by omega), sUp_ne (by omega)]; assumption)) | (rw [sUp_ne (by omega), sUp_ne (by omega), sUp_ne (by omega)]; assumption) | (simp [sUp]; done)) (by rfl) rfl ?_
          refine e_iload_2 (p' := 86) D_M_goCycles_85 rfl ?_
          refine e_dup2 (p' := 87) D_M_goCycles_86 rfl rfl rfl ?_
          refine e_iaload (p' := 88) D_M_goCycles_87 (by first | assumption | exact sUp_eq | (rw [sUp_ne (by omega)]; assumption) | (rw [sUp_ne (by omega), sUp_ne (by omega)]; assumption) | (rw [sUp_ne (by omega)]; exact sUp_eq) | (rw [gSet_ne (by omega) (by omega)]; first | assumption | exact sUp_eq | (rw [sUp_ne (by omega)]; assumption) | (rw [sUp_ne (by omega), sUp_ne (by omega)]; assumption)) | (rw [sUp_ne (by omega), sUp_ne (by omega), sUp_ne (by omega)]; assumption) | (simp [sUp]; done)) (by omega) (by omega) (by rfl) rfl ?_
          rw [hfw]
          refine e_iconst (v := nI 1) (p' := 89) D_M_goCycles_88 cst_iconst_1 rfl ?_
          first | refine e_iaddN (p' := 90) D_M_goCycles_89 rfl ?_ | refine e_iadd (p' := 90) D_M_goCycles_89 rfl ?_
          refine e_iastore (p' := 91) D_M_goCycles_90 (by first | assumption | exact sUp_eq | (rw [sUp_ne (by omega)]; assumption) | (rw [sUp_ne (by omega), sUp_ne (by omega)]; assumption) | (rw [sUp_ne (by omega)]; exact sUp_eq) | (rw [gSet_ne (by omega) (by omega)]; first | assumption | exact sUp_eq | (rw [sUp_ne (by omega)]; assumption) | (rw [sUp_ne (by omega), sUp_ne (by omega)]; assumption)) | (rw [sUp_ne (by omega), sUp_ne (by omega), sUp_ne (by omega)]; assumption) | (simp [sUp]; done)) (by omega) (by omega) rfl ?_
          refine e_goto (p' := 57) D_M_goCycles_91 rfl ?_
          refine sEv.castW (ihd (w + 1) (by omega) (sUp h1 72 (iA 12 (upd f q.length (nI (w + 1))))) a F CA.up (CyR.put hqf) FR.up AI (by rw [← RS_f hc78]; exact hb) (fun h3 a3 e1 e2 e3 e4 => cont h3 a3 e1 e2 e3 (e4.congr fun φ => by rw [RS_f hc78])) ) ?_ ?_ ?_
          · exact ⟨rfl, rfl, rfl, rfl, trivial⟩
          · rfl
          · first | rfl | (simp; done)
  | succ m ihm =>
    intro q hq h6 hp d
    induction d with
    | zero =>
      intro w hw h1 a F CA ⟨f, hf, hqf, hfw⟩ FR AI hb cont
      have mo6 := mo_6 hx q.length
      obtain ⟨wr, wc, hm, hm2⟩ := id CA
      refine e_aload_0 (p' := 58) D_M_goCycles_57 rfl ?_
      refine e_getfield (p' := 61) D_M_goCycles_58 F_M_42 (by first | assumption | exact sUp_eq | (rw [sUp_ne (by omega)]; assumption) | (rw [sUp_ne (by omega), sUp_ne (by omega)]; assumption) | (rw [sUp_ne (by omega)]; exact sUp_eq) | (rw [gSet_ne (by omega) (by omega)]; first | assumption | exact sUp_eq | (rw [sUp_ne (by omega)]; assumption) | (rw [sUp_ne (by omega), sUp_ne (by omega)]; assumption)) | (rw [sUp_ne (by omega), sUp_ne (by omega), sUp_ne (by omega)]; assumption) | (simp [sUp]; done)) (by rfl) rfl ?_
      refine e_iload_2 (p' := 62) D_M_goCycles_61 rfl ?_
      refine e_iaload (p' := 63) D_M_goCycles_62 (by first | assumption | exact sUp_eq | (rw [sUp_ne (by omega)]; assumption) | (rw [sUp_ne (by omega), sUp_ne (by omega)]; assumption) | (rw [sUp_ne (by omega)]; exact sUp_eq) | (rw [gSet_ne (by omega) (by omega)]; first | assumption | exact sUp_eq | (rw [sUp_ne (by omega)]; assumption) | (rw [sUp_ne (by omega), sUp_ne (by omega)]; assumption)) | (rw [sUp_ne (by omega), sUp_ne (by omega), sUp_ne (by omega)]; assumption) | (simp [sUp]; done)) (by omega) (by omega) (by rfl) rfl ?_
      rw [hfw]
      refine e_iload_3 (p' := 64) D_M_goCycles_63 rfl ?_
      refine e_icmpN_ge (q := 94) (p' := 67) D_M_goCycles_64 (by omega) (by omega) rfl rfl (fun hc64 => ?_) (fun hc64 => ?_)
      ·
        refine e_aload_0 (p' := 95) D_M_goCycles_94 rfl ?_
        refine e_getfield (p' := 98) D_M_goCycles_95 F_M_42 (by first | assumption | exact sUp_eq | (rw [sUp_ne (by omega)]; assumption) | (rw [sUp_ne (by omega), sUp_ne (by omega)]; assumption) | (rw [sUp_ne (by omega)]; exact sUp_eq) | (rw [gSet_ne (by omega) (by omega)]; first | assumption | exact sUp_eq | (rw [sUp_ne (by omega)]; assumption) | (rw [sUp_ne (by omega), sUp_ne (by omega)]; assumption)) | (rw [sUp_ne (by omega), sUp_ne (by omega), sUp_ne (by omega)]; assumption) | (simp [sUp]; done)) (by rfl) rfl ?_
        refine e_iload_2 (p' := 99) D_M_goCycles_98 rfl ?_
        refine e_iaload (p' := 100) D_M_goCycles_99 (by first | assumption | exact sUp_eq | (rw [sUp_ne (by omega)]; assumption) | (rw [sUp_ne (by omega), sUp_ne (by omega)]; assumption) | (rw [sUp_ne (by omega)]; exact sUp_eq) | (rw [gSet_ne (by omega) (by omega)]; first | assumption | exact sUp_eq | (rw [sUp_ne (by omega)]; assumption) | (rw [sUp_ne (by omega), sUp_ne (by omega)]; assumption)) | (rw [sUp_ne (by omega), sUp_ne (by omega), sUp_ne (by omega)]; assumption) | (simp [sUp]; done)) (by omega) (by omega) (by rfl) rfl ?_
        rw [hfw]
        refine e_iload_3 (p' := 101) D_M_goCycles_100 rfl ?_
        refine e_icmpN_ne (q := 110) (p' := 104) D_M_goCycles_101 (by omega) (by omega) rfl rfl (fun hc101 => ?_) (fun hc101 => ?_)
        ·
          exfalso; omega
        ·
          first | refine e_iincM_2 (n := 1) (p' := 107) D_M_goCycles_104 (Nat.le_of_ble_eq_true rfl) rfl (by omega) rfl ?_ | refine e_iinc_2 (p' := 107) D_M_goCycles_104 (Nat.le_of_ble_eq_true rfl) rfl rfl rfl ?_
          refine e_goto (p' := 169) D_M_goCycles_107 rfl ?_
          refine e_goto (p' := 19) D_M_goCycles_169 rfl ?_
          refine sEv.castW (cont h1 a CA ⟨f, hf, hqf⟩ FR (AI.congr fun φ => (Nat.add_zero _).symm) ) ?_ ?_ ?_
          · first | (rw [pI_pos (show q.length ≠ 0 by omega)]; exact ⟨rfl, rfl, rfl, trivial⟩) | exact ⟨rfl, rfl, congrArg (fun v => some (Value.int v)) (pI_dec _), trivial⟩
          · rfl
          · first | rfl | (simp; done)
      ·
        exfalso; omega
    | succ d ihd =>
      intro w hw h1 a F CA ⟨f, hf, hqf, hfw⟩ FR AI hb cont
      have mo6 := mo_6 hx q.length
      obtain ⟨wr, wc, hm, hm2, hm3⟩ := id CA
      have hz := (FR 62 (by omega) (by omega)).trans hz0
      refine e_aload_0 (p' := 58) D_M_goCycles_57 rfl ?_
      refine e_getfield (p' := 61) D_M_goCycles_58 F_M_42 (by first | assumption | exact sUp_eq | (rw [sUp_ne (by omega)]; assumption) | (rw [sUp_ne (by omega), sUp_ne (by omega)]; assumption) | (rw [sUp_ne (by omega)]; exact sUp_eq) | (rw [gSet_ne (by omega) (by omega)]; first | assumption | exact sUp_eq | (rw [sUp_ne (by omega)]; assumption) | (rw [sUp_ne (by omega), sUp_ne (by omega)]; assumption)) | (rw [sUp_ne (by omega), sUp_ne (by omega), sUp_ne (by omega)]; assumption) | (simp [sUp]; done)) (by rfl) rfl ?_
      refine e_iload_2 (p' := 62) D_M_goCycles_61 rfl ?_
      refine e_iaload (p' := 63) D_M_goCycles_62 (by first | assumption | exact sUp_eq | (rw [sUp_ne (by omega)]; assumption) | (rw [sUp_ne (by omega), sUp_ne (by omega)]; assumption) | (rw [sUp_ne (by omega)]; exact sUp_eq) | (rw [gSet_ne (by omega) (by omega)]; first | assumption | exact sUp_eq | (rw [sUp_ne (by omega)]; assumption) | (rw [sUp_ne (by omega), sUp_ne (by omega)]; assumption)) | (rw [sUp_ne (by omega), sUp_ne (by omega), sUp_ne (by omega)]; assumption) | (simp [sUp]; done)) (by omega) (by omega) (by rfl) rfl ?_
      rw [hfw]
      refine e_iload_3 (p' := 64) D_M_goCycles_63 rfl ?_
      refine e_icmpN_ge (q := 94) (p' := 67) D_M_goCycles_64 (by omega) (by omega) rfl rfl (fun hc64 => ?_) (fun hc64 => ?_)
      ·
        exfalso; omega
      ·
        refine e_aload_0 (p' := 68) D_M_goCycles_67 rfl ?_
        refine e_iload_2 (p' := 69) D_M_goCycles_68 rfl ?_
        refine e_aload_0 (p' := 70) D_M_goCycles_69 rfl ?_
        refine e_getfield (p' := 73) D_M_goCycles_70 F_M_42 (by first | assumption | exact sUp_eq | (rw [sUp_ne (by omega)]; assumption) | (rw [sUp_ne (by omega), sUp_ne (by omega)]; assumption) | (rw [sUp_ne (by omega)]; exact sUp_eq) | (rw [gSet_ne (by omega) (by omega)]; first | assumption | exact sUp_eq | (rw [sUp_ne (by omega)]; assumption) | (rw [sUp_ne (by omega), sUp_ne (by omega)]; assumption)) | (rw [sUp_ne (by omega), sUp_ne (by omega), sUp_ne (by omega)]; assumption) | (simp [sUp]; done)) (by rfl) rfl ?_
        refine e_iload_2 (p' := 74) D_M_goCycles_73 rfl ?_
        refine e_iaload (p' := 75) D_M_goCycles_74 (by first | assumption | exact sUp_eq | (rw [sUp_ne (by omega)]; assumption) | (rw [sUp_ne (by omega), sUp_ne (by omega)]; assumption) | (rw [sUp_ne (by omega)]; exact sUp_eq) | (rw [gSet_ne (by omega) (by omega)]; first | assumption | exact sUp_eq | (rw [sUp_ne (by omega)]; assumption) | (rw [sUp_ne (by omega), sUp_ne (by omega)]; assumption)) | (rw [sUp_ne (by omega), sUp_ne (by omega), sUp_ne (by omega)]; assumption) | (simp [sUp]; done)) (by omega) (by omega) (by rfl) rfl ?_
        rw [hfw]
        refine x_callV1 (p' := 78) D_M_goCycles_75 V_M_156 (c_M_canStand hm hz hx hf hqf (qg_6 h6) (by omega) (by omega)) rfl (by first | assumption | exact sUp_eq | (rw [sUp_ne (by omega)]; assumption) | (rw [sUp_ne (by omega), sUp_ne (by omega)]; assumption) | (rw [sUp_ne (by omega)]; exact sUp_eq) | (rw [gSet_ne (by omega) (by omega)]; first | assumption | exact sUp_eq | (rw [sUp_ne (by omega)]; assumption) | (rw [sUp_ne (by omega), sUp_ne (by omega)]; assumption)) | (rw [sUp_ne (by omega), sUp_ne (by omega), sUp_ne (by omega)]; assumption) | (simp [sUp]; done)) rfl (Nat.le_of_ble_eq_true rfl) (by decide) ⟨by decide, by decide⟩ rfl ?_
        refine e_ifB_ne (q := 94) (p' := 81) D_M_goCycles_78 rfl rfl (fun hc78 => ?_) (fun hc78 => ?_)
        ·
          rw [RS_t hc78] at hb
          have ll : (q ++ [w]).length = q.length + 1 := by rw [List.length_append]; rfl
          have q6 := mem_sn (c := w) h6 (by omega)
          have pq := okP_sn hp hc78
          have hQ : ∀ j, j < (q ++ [w]).length → f j = nI (qg (q ++ [w]) j) := by
            intro j hj
            rw [ll] at hj
            by_cases e : j = q.length
            · subst e
              rw [hfw, qg_m]
            · rw [qg_l (by omega)]
              exact hqf j (by omega)
          have back : ∀ (h2 : sH) (a2 : Ac), CyA h2 n t pm wl rr rc a2 → CyR h2 q (nI w) → FrC h0 h2 → AccIs a2 (fun φ => F φ + DD x (Gh x k φ) (m + 1) (q ++ [w])) → sEv l m_M_goCycles 3 (0, 0, 0, 0) K 19 [some (.ref 61), some (.int (nI (2 * k))), some (.int (nI q.length)), none] [] h2 := by
            intro h2 a2 c1 ⟨f2, g1, g2, g3⟩ c3 c4
            obtain ⟨wr2, wc2, b1, b2⟩ := id c1
            refine go_19 (w := w + 1) b1 ((c3 62 (by omega) (by omega)).trans hz0) hx (by omega) (by omega) g1 (g3.trans pI_N) ?_
            refine ihd (w + 1) (by omega) _ a2 (fun φ => F φ + DD x (Gh x k φ) (m + 1) (q ++ [w])) c1.up (CyR.put g2) c3.up c4 (by rw [Nat.add_assoc]; exact hb) (fun h3 a3 e1 e2 e3 e4 => cont h3 a3 e1 e2 e3 (e4.congr fun φ => ?_))
            rw [RS_t hc78, Nat.add_assoc]
          refine e_aload_0 (p' := 95) D_M_goCycles_94 rfl ?_
          refine e_getfield (p' := 98) D_M_goCycles_95 F_M_42 (by first | assumption | exact sUp_eq | (rw [sUp_ne (by omega)]; assumption) | (rw [sUp_ne (by omega), sUp_ne (by omega)]; assumption) | (rw [sUp_ne (by omega)]; exact sUp_eq) | (rw [gSet_ne (by omega) (by omega)]; first | assumption | exact sUp_eq | (rw [sUp_ne (by omega)]; assumption) | (rw [sUp_ne (by omega), sUp_ne (by omega)]; assumption)) | (rw [sUp_ne (by omega), sUp_ne (by omega), sUp_ne (by omega)]; assumption) | (simp [sUp]; done)) (by rfl) rfl ?_
          refine e_iload_2 (p' := 99) D_M_goCycles_98 rfl ?_
          refine e_iaload (p' := 100) D_M_goCycles_99 (by first | assumption | exact sUp_eq | (rw [sUp_ne (by omega)]; assumption) | (rw [sUp_ne (by omega), sUp_ne (by omega)]; assumption) | (rw [sUp_ne (by omega)]; exact sUp_eq) | (rw [gSet_ne (by omega) (by omega)]; first | assumption | exact sUp_eq | (rw [sUp_ne (by omega)]; assumption) | (rw [sUp_ne (by omega), sUp_ne (by omega)]; assumption)) | (rw [sUp_ne (by omega), sUp_ne (by omega), sUp_ne (by omega)]; assumption) | (simp [sUp]; done)) (by omega) (by omega) (by rfl) rfl ?_
          rw [hfw]
          refine e_iload_3 (p' := 101) D_M_goCycles_100 rfl ?_
          refine e_icmpN_ne (q := 110) (p' := 104) D_M_goCycles_101 (by omega) (by omega) rfl rfl (fun hc101 => ?_) (fun hc101 => ?_)
          ·
            refine e_iload_2 (p' := 111) D_M_goCycles_110 rfl ?_
            refine e_iload_1 (p' := 112) D_M_goCycles_111 rfl ?_
            refine e_iconst (v := nI 1) (p' := 113) D_M_goCycles_112 cst_iconst_1 rfl ?_
            first | refine e_isubN (p' := 114) D_M_goCycles_113 (by omega) rfl ?_ | refine e_isub (p' := 114) D_M_goCycles_113 rfl ?_
            refine e_icmpN_ge (q := 130) (p' := 117) D_M_goCycles_114 (by omega) (by omega) rfl rfl (fun hc114 => ?_) (fun hc114 => ?_)
            ·
              exfalso; omega
            ·
              have inn : ∀ (h2 : sH) (a2 : Ac), CyA h2 n t pm wl rr rc a2 → CyP h2 (q ++ [w]) → FrC h0 h2 → AccIs a2 (fun φ => F φ + RS x k φ (q ++ [w]) m 0 (mo x (q ++ [w]).length)) → sEv l m_M_goCycles 3 (0, 0, 0, 0) K 19 [some (.ref 61), some (.int (nI (2 * k))), some (.int (pI (q ++ [w]).length)), none] [] h2 := by
                intro h2 a2 c1 ⟨f2, g1, g2⟩ c3 c4
                rw [ll, show pI (q.length + 1) = nI q.length from pI_N.symm]
                refine back h2 a2 c1 ⟨f2, g1, fun j hj => ?_, ?_⟩ c3 (c4.congr fun φ => by rw [RS_0])
                · rw [g2 j (by omega), qg_l hj]
                · rw [g2 q.length (by omega), qg_m]
              first | refine e_iincN_2 (n := 1) (p' := 120) D_M_goCycles_117 (Nat.le_of_ble_eq_true rfl) rfl rfl ?_ | refine e_iinc_2 (p' := 120) D_M_goCycles_117 (Nat.le_of_ble_eq_true rfl) rfl rfl rfl ?_
              refine e_aload_0 (p' := 121) D_M_goCycles_120 rfl ?_
              refine e_getfield (p' := 124) D_M_goCycles_121 F_M_42 (by first | assumption | exact sUp_eq | (rw [sUp_ne (by omega)]; assumption) | (rw [sUp_ne (by omega), sUp_ne (by omega)]; assumption) | (rw [sUp_ne (by omega)]; exact sUp_eq) | (rw [gSet_ne (by omega) (by omega)]; first | assumption | exact sUp_eq | (rw [sUp_ne (by omega)]; assumption) | (rw [sUp_ne (by omega), sUp_ne (by omega)]; assumption)) | (rw [sUp_ne (by omega), sUp_ne (by omega), sUp_ne (by omega)]; assumption) | (simp [sUp]; done)) (by rfl) rfl ?_
              refine e_iload_2 (p' := 125) D_M_goCycles_124 rfl ?_
              refine e_iconst (v := (-1)) (p' := 126) D_M_goCycles_125 cst_iconst_m1 rfl ?_
              refine e_iastore (p' := 127) D_M_goCycles_126 (by first | assumption | exact sUp_eq | (rw [sUp_ne (by omega)]; assumption) | (rw [sUp_ne (by omega), sUp_ne (by omega)]; assumption) | (rw [sUp_ne (by omega)]; exact sUp_eq) | (rw [gSet_ne (by omega) (by omega)]; first | assumption | exact sUp_eq | (rw [sUp_ne (by omega)]; assumption) | (rw [sUp_ne (by omega), sUp_ne (by omega)]; assumption)) | (rw [sUp_ne (by omega), sUp_ne (by omega), sUp_ne (by omega)]; assumption) | (simp [sUp]; done)) (by omega) (by omega) rfl ?_
              refine e_goto (p' := 169) D_M_goCycles_127 rfl ?_
              refine e_goto (p' := 19) D_M_goCycles_169 rfl ?_
              refine sEv.castW (go_19 (q := q ++ [w]) (w := 0) (k := k) ((sUp_ne (by omega)).trans hm) ((sUp_ne (by omega)).trans hz) hx (by omega) (by omega) sUp_eq (by rw [ll, upd_at]) (ihm (q ++ [w]) (by omega) q6 pq (mo x (q ++ [w]).length) 0 (by omega) _ a F CA.up.up (CyR.put (CyP.wr (h := h1) hQ (by omega))) FR.up.up AI (by rw [RS_0]; omega) inn) ) ?_ ?_ ?_
              · rw [ll]; exact ⟨rfl, rfl, rfl, trivial⟩
              · rfl
              · first | rfl | (simp; done)
          ·
            exfalso; omega
        ·
          refine e_aload_0 (p' := 82) D_M_goCycles_81 rfl ?_
          refine e_getfield (p' := 85) D_M_goCycles_82 F_M_42 (by first | assumption | exact sUp_eq | (rw [sUp_ne (by omega)]; assumption) | (rw [sUp_ne (by omega), sUp_ne (by omega)]; assumption) | (rw [sUp_ne (by omega)]; exact sUp_eq) | (rw [gSet_ne (by omega) (by omega)]; first | assumption | exact sUp_eq | (rw [sUp_ne (by omega)]; assumption) | (rw [sUp_ne (by omega), sUp_ne (by omega)]; assumption)) | (rw [sUp_ne (by omega), sUp_ne (by omega), sUp_ne (by omega)]; assumption) | (simp [sUp]; done)) (by rfl) rfl ?_
          refine e_iload_2 (p' := 86) D_M_goCycles_85 rfl ?_
          refine e_dup2 (p' := 87) D_M_goCycles_86 rfl rfl rfl ?_
          refine e_iaload (p' := 88) D_M_goCycles_87 (by first | assumption | exact sUp_eq | (rw [sUp_ne (by omega)]; assumption) | (rw [sUp_ne (by omega), sUp_ne (by omega)]; assumption) | (rw [sUp_ne (by omega)]; exact sUp_eq) | (rw [gSet_ne (by omega) (by omega)]; first | assumption | exact sUp_eq | (rw [sUp_ne (by omega)]; assumption) | (rw [sUp_ne (by omega), sUp_ne (by omega)]; assumption)) | (rw [sUp_ne (by omega), sUp_ne (by omega), sUp_ne (by omega)]; assumption) | (simp [sUp]; done)) (by omega) (by omega) (by rfl) rfl ?_
          rw [hfw]
          refine e_iconst (v := nI 1) (p' := 89) D_M_goCycles_88 cst_iconst_1 rfl ?_
          first | refine e_iaddN (p' := 90) D_M_goCycles_89 rfl ?_ | refine e_iadd (p' := 90) D_M_goCycles_89 rfl ?_
          refine e_iastore (p' := 91) D_M_goCycles_90 (by first | assumption | exact sUp_eq | (rw [sUp_ne (by omega)]; assumption) | (rw [sUp_ne (by omega), sUp_ne (by omega)]; assumption) | (rw [sUp_ne (by omega)]; exact sUp_eq) | (rw [gSet_ne (by omega) (by omega)]; first | assumption | exact sUp_eq | (rw [sUp_ne (by omega)]; assumption) | (rw [sUp_ne (by omega), sUp_ne (by omega)]; assumption)) | (rw [sUp_ne (by omega), sUp_ne (by omega), sUp_ne (by omega)]; assumption) | (simp [sUp]; done)) (by omega) (by omega) rfl ?_
          refine e_goto (p' := 57) D_M_goCycles_91 rfl ?_
          refine sEv.castW (ihd (w + 1) (by omega) (sUp h1 72 (iA 12 (upd f q.length (nI (w + 1))))) a F CA.up (CyR.put hqf) FR.up AI (by rw [← RS_f hc78]; exact hb) (fun h3 a3 e1 e2 e3 e4 => cont h3 a3 e1 e2 e3 (e4.congr fun φ => by rw [RS_f hc78])) ) ?_ ?_ ?_
          · exact ⟨rfl, rfl, rfl, rfl, trivial⟩
          · rfl
          · first | rfl | (simp; done)
