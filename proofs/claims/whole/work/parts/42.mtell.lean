/-! ===== the reference: tellAll ===== -/
def taQ (x : Gd) (r c : Nat) : Bool := !td x r c && jn x r c
theorem well_at {x : Gd} (hw : wellX x = true) {r c : Nat} (hr : r < x.1.1) (hc : c < x.1.2.1) (ht : td x r c = true) : at' x r c = pdt x r c := by
  have h1 : psWell x (lay x).1 = true := hw
  rw [psWell_wl] at h1
  have h2 := al_iff.mp (al_iff.mp h1 r hr) c hc
  unfold wl at h2
  rw [ht] at h2
  unfold pdt
  simpa using h2
theorem taQ_eq {x : Gd} (hw : wellX x = true) : ptw x.2 x.1.1 x.1.2.1 (taQ x) (pdt x) x.1.1 0 = (taX x).2 := by
  funext p
  show _ = ptw x.2 x.1.1 x.1.2.1 (jn x) (pdt x) x.1.1 0 p
  unfold ptw
  by_cases w : (p / 6 < x.1.1 ∧ p % 6 < x.1.2.1) ∧ (p / 6 < x.1.1 ∨ p / 6 = x.1.1 ∧ p % 6 < 0)
  · have ep : x.2 p = at' x (p / 6) (p % 6) := by unfold at'; rw [Nat.div_add_mod]
    cases ht : td x (p / 6) (p % 6) with
    | false =>
      have e : taQ x (p / 6) (p % 6) = jn x (p / 6) (p % 6) := by unfold taQ; rw [ht]; rfl
      rw [e]
    | true =>
      have e : taQ x (p / 6) (p % 6) = false := by unfold taQ; rw [ht]; rfl
      rw [if_neg (fun z => absurd z.2.2 (by rw [e]; decide))]
      split
      · rw [ep]; exact well_at hw w.1.1 w.1.2 ht
      · rfl
  · rw [if_neg (fun z => w ⟨z.1, z.2.1⟩), if_neg (fun z => w ⟨z.1, z.2.1⟩)]
def taC (x : Gd) (r c : Nat) : Nat := if taQ x r c = true then 1 else 0
theorem taX_told {x : Gd} (hx : Gok x) (hw : wellX x = true) : told (taX x) = told x + sm x.1.1 (fun r => sm x.1.2.1 (fun c => taC x r c)) := by
  have hR := hx.1.2
  have hC := hx.2.1.2
  have hm := hx.2.2.1.le
  have e0 : sm 36 (fun p => if p / 6 < x.1.1 ∧ p % 6 < x.1.2.1 then taC x (p / 6) (p % 6) else 0) = sm x.1.1 (fun r => sm x.1.2.1 (fun c => taC x r c)) := by
    rw [show (36 : Nat) = 6 * 6 from rfl, sm_split, sm_more hR (fun k h1 h2 => sm_zero fun j hj => if_neg (by omega))]
    refine sm_congr fun i hi => ?_
    rw [sm_more hC (fun k h1 h2 => if_neg (by omega))]
    refine sm_congr fun j hj => ?_
    rw [show (6 * i + j) / 6 = i by omega, show (6 * i + j) % 6 = j by omega, if_pos ⟨hi, hj⟩]
  rw [← e0]
  unfold told
  rw [← sm_add]
  refine sm_congr fun p hp => ?_
  rw [← taQ_eq hw]
  by_cases w : p / 6 < x.1.1 ∧ p % 6 < x.1.2.1
  · have ep : x.2 p = at' x (p / 6) (p % 6) := by unfold at'; rw [Nat.div_add_mod]
    rw [if_pos w]
    cases hq : taQ x (p / 6) (p % 6) with
    | true =>
      have ht : td x (p / 6) (p % 6) = false := by
        cases ht : td x (p / 6) (p % 6) with
        | false => rfl
        | true => unfold taQ at hq; rw [ht] at hq; exact absurd hq (by simp)
      have e1 : ¬ 0 < x.2 p := by rw [ep]; exact of_decide_eq_false ht
      have hv := lay_pv hx
      have hk := lay_kn hx
      have h1 := hv.1.1 _ (hk.1 _ w.1)
      have h2 := hv.1.2 _ (hk.2 _ w.2)
      have e2 : 0 < pdt x (p / 6) (p % 6) := Nat.pos_of_ne_zero (mul_ok _ (by omega) hx.2.2.1 _ h1.2 _ h2.2 (by omega) (by omega))
      have e3 : ptw x.2 x.1.1 x.1.2.1 (taQ x) (pdt x) x.1.1 0 p = pdt x (p / 6) (p % 6) := if_pos ⟨w, Or.inl w.1, hq⟩
      have e4 : taC x (p / 6) (p % 6) = 1 := if_pos hq
      rw [e3, if_pos e2, if_neg e1, e4]
    | false =>
      have e3 : ptw x.2 x.1.1 x.1.2.1 (taQ x) (pdt x) x.1.1 0 p = x.2 p := if_neg (fun z => absurd (hq.symm.trans z.2.2) (by decide))
      have e4 : taC x (p / 6) (p % 6) = 0 := if_neg (fun z => absurd (hq.symm.trans z) (by decide))
      rw [e3, e4, Nat.add_zero]
  · rw [if_neg w, Nat.add_zero]
    have e3 : ptw x.2 x.1.1 x.1.2.1 (taQ x) (pdt x) x.1.1 0 p = x.2 p := if_neg (fun z => w z.1)
    rw [e3]
theorem at_ptw {x : Gd} {q : Nat → Nat → Bool} {v : Nat → Nat → Nat} {i j : Nat} (hj : j < 6) : at' (x.1, ptw x.2 x.1.1 x.1.2.1 q v i j) i j = at' x i j := by
  unfold at'
  show ptw x.2 x.1.1 x.1.2.1 q v i j (6 * i + j) = _
  unfold ptw
  rw [if_neg (by omega)]
set_option maxRecDepth 4000 in
theorem c_M_recordF {l : Launch} {h : sH} {x : Gd} {s : Mr} (hz : h.2 62 = iA 39 (nF (zN x))) (H : MRest h s) (h6 : s.1.1 ≤ 6) : sY l m_M_record 0 [.ref 61] h (none) (fun h1 => ((MRest h1 (recH s.1 x, s.2) ∧ h1.2 62 = iA 39 (nF (zN x))) ∧ FrK h h1) ∧ ∀ a, a ≠ 61 → a ≠ 63 → h1.2 a = h.2 a) := by
  have H0 := H
  obtain ⟨⟨v, a1⟩, ⟨f, a2, b2⟩, ⟨f3, a3, b3⟩, ⟨f4, a4, b4⟩, ⟨f5, a5, b5⟩, ⟨f6, f7, f8, f9, a6, a7, a8, a9⟩, ⟨f10, a10⟩, ⟨f11, a11⟩, ⟨f12, a12⟩⟩ := H
  refine en_M_record ?_
  have jn49 : ∀ (h1 : sH) (m : Nat) (F : Nat → Int32), ((h1.2 61 = mO m s.2.2.1 v ∧ h1.2 63 = iA 234 F) ∧ m < 6 ∧ ((recH s.1 x).1 = m + 1 ∧ (recH s.1 x).2 m = x) ∧ (∀ i, i < m → ∀ k, k < 39 → F (39 * i + k) = nI (zN ((recH s.1 x).2 i) k)) ∧ ∀ a, a ≠ 61 → a ≠ 63 → h1.2 a = h.2 a) → sEv l m_M_record 0 (0, 0, 0, 0) (sKm 0 0 (fun r1 h1 => r1 = none ∧ (fun h1 => ((MRest h1 (recH s.1 x, s.2) ∧ h1.2 62 = iA 39 (nF (zN x))) ∧ FrK h h1) ∧ ∀ a, a ≠ 61 → a ≠ 63 → h1.2 a = h.2 a) h1)) 49 [some (.ref 61), none] [] h1 := by
    rintro h1 m F ⟨⟨k1, k2⟩, hm6, hr1, hF, hfr⟩
    have k3 := (hfr 62 (by omega) (by omega)).trans hz
    refine e_iconst (v := nI 0) (p' := 50) D_M_record_49 cst_iconst_0 rfl ?_
    refine e_istore_1 (p' := 51) D_M_record_50 (Nat.le_of_ble_eq_true rfl) rfl rfl ?_
    have lk51 : ∀ i : Nat, i ≤ 39 → sEv l m_M_record 0 (0, 0, 0, 0) (sKm 0 0 (fun r1 h1 => r1 = none ∧ (fun h1 => ((MRest h1 (recH s.1 x, s.2) ∧ h1.2 62 = iA 39 (nF (zN x))) ∧ FrK h h1) ∧ ∀ a, a ≠ 61 → a ≠ 63 → h1.2 a = h.2 a) h1)) 51 [some (.ref 61), some (.int (nI i))] [] (sUp h1 63 (iA 234 (fun k => if 39 * m ≤ k ∧ k < 39 * m + i then nI (zN x (k - 39 * m)) else F k))) := by
      refine lp_up _ ?_ ?_
      · skip
        refine e_iload_1 (p' := 52) D_M_record_51 rfl ?_
        refine e_bipush (v := nI 39) (p' := 54) D_M_record_52 cst_bipush_39 rfl ?_
        refine e_icmpN_ge (q := 83) (p' := 57) D_M_record_54 (by omega) (by omega) rfl rfl (fun hc54 => ?_) (fun hc54 => ?_)
        ·
          refine e_aload_0 (p' := 84) D_M_record_83 rfl ?_
          refine e_dup (p' := 85) D_M_record_84 rfl rfl ?_
          refine e_getfield (p' := 88) D_M_record_85 F_M_48 (by first | assumption | exact sUp_eq | (rw [sUp_ne (by omega)]; assumption) | (rw [sUp_ne (by omega), sUp_ne (by omega)]; assumption) | (rw [sUp_ne (by omega)]; exact sUp_eq) | (rw [gSet_ne (by omega) (by omega)]; first | assumption | exact sUp_eq | (rw [sUp_ne (by omega)]; assumption) | (rw [sUp_ne (by omega), sUp_ne (by omega)]; assumption)) | (rw [sUp_ne (by omega), sUp_ne (by omega), sUp_ne (by omega)]; assumption) | (simp [sUp]; done)) (by rfl) rfl ?_
          refine e_iconst (v := nI 1) (p' := 89) D_M_record_88 cst_iconst_1 rfl ?_
          first | refine e_iaddN (p' := 90) D_M_record_89 rfl ?_ | refine e_iadd (p' := 90) D_M_record_89 rfl ?_
          refine e_putfield (p' := 93) D_M_record_90 F_M_48 (Or.inl rfl) (by first | assumption | exact sUp_eq | (rw [sUp_ne (by omega)]; assumption) | (rw [sUp_ne (by omega), sUp_ne (by omega)]; assumption) | (rw [sUp_ne (by omega)]; exact sUp_eq) | (rw [gSet_ne (by omega) (by omega)]; first | assumption | exact sUp_eq | (rw [sUp_ne (by omega)]; assumption) | (rw [sUp_ne (by omega), sUp_ne (by omega)]; assumption)) | (rw [sUp_ne (by omega), sUp_ne (by omega), sUp_ne (by omega)]; assumption) | (simp [sUp]; done)) (fun _ => ⟨rfl, rfl⟩) (Nat.le_of_ble_eq_true rfl) (by rfl) rfl ?_
          try dsimp only [List.set]
          refine e_return D_M_record_93 rfl ⟨by decide, by decide⟩ ?_
          refine ⟨rfl, ⟨⟨⟨⟨v, ?_⟩, ⟨_, (sUp_ne (by omega)).trans sUp_eq, ?_⟩, ⟨f3, ?_, b3⟩, ⟨f4, ?_, b4⟩, ⟨f5, ?_, b5⟩, ⟨f6, f7, f8, f9, ?_, ?_, ?_, ?_⟩, ⟨f10, ?_⟩, ⟨f11, ?_⟩, ⟨f12, ?_⟩⟩, ?_⟩, ?_⟩, ?_⟩
          · rw [sUp_eq]; show _ = mO (recH s.1 x).1 s.2.2.1 v; rw [hr1.1]
          · intro i hi k hk
            have hi : i < (recH s.1 x).1 := hi
            show (if _ then _ else _) = nI (zN ((recH s.1 x).2 i) k)
            by_cases e : i = m
            · subst e
              rw [if_pos (by omega), hr1.2, show 39 * i + k - 39 * i = k by omega]
            · rw [if_neg (by omega)]
              exact hF i (by omega) k hk
          · exact (sUp_ne (by omega)).trans ((sUp_ne (by omega)).trans ((hfr _ (by omega) (by omega)).trans a3))
          · exact (sUp_ne (by omega)).trans ((sUp_ne (by omega)).trans ((hfr _ (by omega) (by omega)).trans a4))
          · exact (sUp_ne (by omega)).trans ((sUp_ne (by omega)).trans ((hfr _ (by omega) (by omega)).trans a5))
          · exact (sUp_ne (by omega)).trans ((sUp_ne (by omega)).trans ((hfr _ (by omega) (by omega)).trans a6))
          · exact (sUp_ne (by omega)).trans ((sUp_ne (by omega)).trans ((hfr _ (by omega) (by omega)).trans a7))
          · exact (sUp_ne (by omega)).trans ((sUp_ne (by omega)).trans ((hfr _ (by omega) (by omega)).trans a8))
          · exact (sUp_ne (by omega)).trans ((sUp_ne (by omega)).trans ((hfr _ (by omega) (by omega)).trans a9))
          · exact (sUp_ne (by omega)).trans ((sUp_ne (by omega)).trans ((hfr _ (by omega) (by omega)).trans a10))
          · exact (sUp_ne (by omega)).trans ((sUp_ne (by omega)).trans ((hfr _ (by omega) (by omega)).trans a11))
          · exact (sUp_ne (by omega)).trans ((sUp_ne (by omega)).trans ((hfr _ (by omega) (by omega)).trans a12))
          · exact (sUp_ne (by omega)).trans ((sUp_ne (by omega)).trans ((hfr _ (by omega) (by omega)).trans hz))
          · intro a ha
            exact (sUp_ne (by omega)).trans ((sUp_ne (by omega)).trans (hfr a (by omega) (by omega)))
          · intro a n1 n2
            exact (sUp_ne n1).trans ((sUp_ne n2).trans (hfr a n1 n2))
        ·
          exfalso; omega
      · intro i hi ih51 
        refine e_iload_1 (p' := 52) D_M_record_51 rfl ?_
        refine e_bipush (v := nI 39) (p' := 54) D_M_record_52 cst_bipush_39 rfl ?_
        refine e_icmpN_ge (q := 83) (p' := 57) D_M_record_54 (by omega) (by omega) rfl rfl (fun hc54 => ?_) (fun hc54 => ?_)
        ·
          exfalso; omega
        ·
          refine e_aload_0 (p' := 58) D_M_record_57 rfl ?_
          refine e_getfield (p' := 61) D_M_record_58 F_M_13 (by first | assumption | exact sUp_eq | (rw [sUp_ne (by omega)]; assumption) | (rw [sUp_ne (by omega), sUp_ne (by omega)]; assumption) | (rw [sUp_ne (by omega)]; exact sUp_eq) | (rw [gSet_ne (by omega) (by omega)]; first | assumption | exact sUp_eq | (rw [sUp_ne (by omega)]; assumption) | (rw [sUp_ne (by omega), sUp_ne (by omega)]; assumption)) | (rw [sUp_ne (by omega), sUp_ne (by omega), sUp_ne (by omega)]; assumption) | (simp [sUp]; done)) (by rfl) rfl ?_
          refine e_aload_0 (p' := 62) D_M_record_61 rfl ?_
          refine e_getfield (p' := 65) D_M_record_62 F_M_48 (by first | assumption | exact sUp_eq | (rw [sUp_ne (by omega)]; assumption) | (rw [sUp_ne (by omega), sUp_ne (by omega)]; assumption) | (rw [sUp_ne (by omega)]; exact sUp_eq) | (rw [gSet_ne (by omega) (by omega)]; first | assumption | exact sUp_eq | (rw [sUp_ne (by omega)]; assumption) | (rw [sUp_ne (by omega), sUp_ne (by omega)]; assumption)) | (rw [sUp_ne (by omega), sUp_ne (by omega), sUp_ne (by omega)]; assumption) | (simp [sUp]; done)) (by rfl) rfl ?_
          refine e_bipush (v := nI 39) (p' := 67) D_M_record_65 cst_bipush_39 rfl ?_
          first | refine e_imulN (p' := 68) D_M_record_67 rfl ?_ | refine e_imul (p' := 68) D_M_record_67 rfl ?_
          refine e_iload_1 (p' := 69) D_M_record_68 rfl ?_
          first | refine e_iaddN (p' := 70) D_M_record_69 rfl ?_ | refine e_iadd (p' := 70) D_M_record_69 rfl ?_
          refine e_aload_0 (p' := 71) D_M_record_70 rfl ?_
          refine e_getfield (p' := 74) D_M_record_71 F_M_7 (by first | assumption | exact sUp_eq | (rw [sUp_ne (by omega)]; assumption) | (rw [sUp_ne (by omega), sUp_ne (by omega)]; assumption) | (rw [sUp_ne (by omega)]; exact sUp_eq) | (rw [gSet_ne (by omega) (by omega)]; first | assumption | exact sUp_eq | (rw [sUp_ne (by omega)]; assumption) | (rw [sUp_ne (by omega), sUp_ne (by omega)]; assumption)) | (rw [sUp_ne (by omega), sUp_ne (by omega), sUp_ne (by omega)]; assumption) | (simp [sUp]; done)) (by rfl) rfl ?_
          refine e_iload_1 (p' := 75) D_M_record_74 rfl ?_
          refine e_iaload (p' := 76) D_M_record_75 (by first | assumption | exact sUp_eq | (rw [sUp_ne (by omega)]; assumption) | (rw [sUp_ne (by omega), sUp_ne (by omega)]; assumption) | (rw [sUp_ne (by omega)]; exact sUp_eq) | (rw [gSet_ne (by omega) (by omega)]; first | assumption | exact sUp_eq | (rw [sUp_ne (by omega)]; assumption) | (rw [sUp_ne (by omega), sUp_ne (by omega)]; assumption)) | (rw [sUp_ne (by omega), sUp_ne (by omega), sUp_ne (by omega)]; assumption) | (simp [sUp]; done)) (by omega) (by omega) (by rfl) rfl ?_
          refine e_iastore (p' := 77) D_M_record_76 (by first | assumption | exact sUp_eq | (rw [sUp_ne (by omega)]; assumption) | (rw [sUp_ne (by omega), sUp_ne (by omega)]; assumption) | (rw [sUp_ne (by omega)]; exact sUp_eq) | (rw [gSet_ne (by omega) (by omega)]; first | assumption | exact sUp_eq | (rw [sUp_ne (by omega)]; assumption) | (rw [sUp_ne (by omega), sUp_ne (by omega)]; assumption)) | (rw [sUp_ne (by omega), sUp_ne (by omega), sUp_ne (by omega)]; assumption) | (simp [sUp]; done)) (by omega) (by omega) rfl ?_
          first | refine e_iincN_1 (n := 1) (p' := 80) D_M_record_77 (Nat.le_of_ble_eq_true rfl) rfl rfl ?_ | refine e_iinc_1 (p' := 80) D_M_record_77 (Nat.le_of_ble_eq_true rfl) rfl rfl rfl ?_
          refine e_goto (p' := 51) D_M_record_80 rfl ?_
          refine sEv.castW (ih51) ?_ ?_ ?_
          · first | exact lvW_rfl _ | (simp [lvW]; done) | (simp [lvW, *]; done) | (simp [lvW]; omega)
          · rfl
          · rw [sUp_sUp]
            refine sUp_arr fun k => ?_
            by_cases e : k = m * 39 + i
            · subst e
              rw [if_pos (by omega), show m * 39 + i - 39 * m = i by omega]
              exact if_pos rfl
            · unfold upd
              rw [if_neg e]
              dsimp only
              by_cases w : 39 * m ≤ k ∧ k < 39 * m + i
              · rw [if_pos w, if_pos (by omega)]
              · rw [if_neg w, if_neg (by omega)]
    refine sEv.castW (lk51 0 (by omega) ) ?_ ?_ ?_
    · first | exact lvW_rfl _ | (simp [lvW]; done) | (simp [lvW, *]; done) | (simp [lvW]; omega)
    · rfl
    · refine sUp_arrS k2 fun k => ?_
      rw [if_neg (by omega)]
  refine e_aload_0 (p' := 1) D_M_record_0 rfl ?_
  refine e_getfield (p' := 4) D_M_record_1 F_M_48 (by first | assumption | exact sUp_eq | (rw [sUp_ne (by omega)]; assumption) | (rw [sUp_ne (by omega), sUp_ne (by omega)]; assumption) | (rw [sUp_ne (by omega)]; exact sUp_eq) | (rw [gSet_ne (by omega) (by omega)]; first | assumption | exact sUp_eq | (rw [sUp_ne (by omega)]; assumption) | (rw [sUp_ne (by omega), sUp_ne (by omega)]; assumption)) | (rw [sUp_ne (by omega), sUp_ne (by omega), sUp_ne (by omega)]; assumption) | (simp [sUp]; done)) (by rfl) rfl ?_
  refine e_bipush (v := nI 6) (p' := 6) D_M_record_4 cst_bipush_6 rfl ?_
  refine e_icmpN_ne (q := 49) (p' := 9) D_M_record_6 (by omega) (by omega) rfl rfl (fun hc6 => ?_) (fun hc6 => ?_)
  ·
    refine sEv.castW (jn49 _ s.1.1 f ⟨⟨a1, a2⟩, by omega, ⟨by unfold recH; rw [if_neg hc6], by unfold recH; rw [if_neg hc6]; exact if_pos rfl⟩, fun i hi k hk => by rw [b2 i hi k hk]; unfold recH; rw [if_neg hc6]; dsimp only; rw [if_neg (by omega)], fun _ _ _ => rfl⟩) ?_ ?_ ?_
    · first | exact lvW_rfl _ | (simp [lvW]; done) | (simp [lvW, *]; done) | (simp [lvW]; omega)
    · rfl
    · first | rfl | (simp; done)
  ·
    refine e_iconst (v := nI 0) (p' := 10) D_M_record_9 cst_iconst_0 rfl ?_
    refine e_istore_1 (p' := 11) D_M_record_10 (Nat.le_of_ble_eq_true rfl) rfl rfl ?_
    have lk11 : ∀ i : Nat, i ≤ 195 → sEv l m_M_record 0 (0, 0, 0, 0) (sKm 0 0 (fun r1 h1 => r1 = none ∧ (fun h1 => ((MRest h1 (recH s.1 x, s.2) ∧ h1.2 62 = iA 39 (nF (zN x))) ∧ FrK h h1) ∧ ∀ a, a ≠ 61 → a ≠ 63 → h1.2 a = h.2 a) h1)) 11 [some (.ref 61), some (.int (nI i))] [] (sUp h 63 (iA 234 (fun k => if k < i then f (k + 39) else f k))) := by
      refine lp_up _ ?_ ?_
      · skip
        refine e_iload_1 (p' := 12) D_M_record_11 rfl ?_
        refine e_sipush (v := nI 195) (p' := 15) D_M_record_12 cst_sipush_195 rfl ?_
        refine e_icmpN_ge (q := 39) (p' := 18) D_M_record_15 (by omega) (by omega) rfl rfl (fun hc15 => ?_) (fun hc15 => ?_)
        ·
          refine e_aload_0 (p' := 40) D_M_record_39 rfl ?_
          refine e_dup (p' := 41) D_M_record_40 rfl rfl ?_
          refine e_getfield (p' := 44) D_M_record_41 F_M_48 (by first | assumption | exact sUp_eq | (rw [sUp_ne (by omega)]; assumption) | (rw [sUp_ne (by omega), sUp_ne (by omega)]; assumption) | (rw [sUp_ne (by omega)]; exact sUp_eq) | (rw [gSet_ne (by omega) (by omega)]; first | assumption | exact sUp_eq | (rw [sUp_ne (by omega)]; assumption) | (rw [sUp_ne (by omega), sUp_ne (by omega)]; assumption)) | (rw [sUp_ne (by omega), sUp_ne (by omega), sUp_ne (by omega)]; assumption) | (simp [sUp]; done)) (by rfl) rfl ?_
          refine e_iconst (v := nI 1) (p' := 45) D_M_record_44 cst_iconst_1 rfl ?_
          first | refine e_isubN (p' := 46) D_M_record_45 (by omega) rfl ?_ | refine e_isub (p' := 46) D_M_record_45 rfl ?_
          refine e_putfield (p' := 49) D_M_record_46 F_M_48 (Or.inl rfl) (by first | assumption | exact sUp_eq | (rw [sUp_ne (by omega)]; assumption) | (rw [sUp_ne (by omega), sUp_ne (by omega)]; assumption) | (rw [sUp_ne (by omega)]; exact sUp_eq) | (rw [gSet_ne (by omega) (by omega)]; first | assumption | exact sUp_eq | (rw [sUp_ne (by omega)]; assumption) | (rw [sUp_ne (by omega), sUp_ne (by omega)]; assumption)) | (rw [sUp_ne (by omega), sUp_ne (by omega), sUp_ne (by omega)]; assumption) | (simp [sUp]; done)) (fun _ => ⟨rfl, rfl⟩) (Nat.le_of_ble_eq_true rfl) (by rfl) rfl ?_
          try dsimp only [List.set]
          refine sEv.castW (jn49 (sUp (sUp h 63 (iA 234 (fun k => if k < 195 then f (k + 39) else f k))) 61 (mO (s.1.1 - 1) s.2.2.1 v)) (s.1.1 - 1) (fun k => if k < 195 then f (k + 39) else f k) ⟨⟨sUp_eq, (sUp_ne (by omega)).trans sUp_eq⟩, by omega, ⟨by unfold recH; rw [if_pos hc6]; show 6 = s.1.1 - 1 + 1; omega, by unfold recH; rw [if_pos hc6]; exact if_pos (by omega)⟩, fun i hi k hk => by rw [if_pos (by omega), show 39 * i + k + 39 = 39 * (i + 1) + k by omega, b2 (i + 1) (by omega) k hk]; unfold recH; rw [if_pos hc6]; dsimp only; rw [if_neg (by omega)], fun a n1 n2 => (sUp_ne n1).trans (sUp_ne n2)⟩) ?_ ?_ ?_
          · first | exact lvW_rfl _ | (simp [lvW]; done) | (simp [lvW, *]; done) | (simp [lvW]; omega)
          · rfl
          · first | rfl | (simp; done)
        ·
          exfalso; omega
      · intro i hi ih11 
        refine e_iload_1 (p' := 12) D_M_record_11 rfl ?_
        refine e_sipush (v := nI 195) (p' := 15) D_M_record_12 cst_sipush_195 rfl ?_
        refine e_icmpN_ge (q := 39) (p' := 18) D_M_record_15 (by omega) (by omega) rfl rfl (fun hc15 => ?_) (fun hc15 => ?_)
        ·
          exfalso; omega
        ·
          refine e_aload_0 (p' := 19) D_M_record_18 rfl ?_
          refine e_getfield (p' := 22) D_M_record_19 F_M_13 (by first | assumption | exact sUp_eq | (rw [sUp_ne (by omega)]; assumption) | (rw [sUp_ne (by omega), sUp_ne (by omega)]; assumption) | (rw [sUp_ne (by omega)]; exact sUp_eq) | (rw [gSet_ne (by omega) (by omega)]; first | assumption | exact sUp_eq | (rw [sUp_ne (by omega)]; assumption) | (rw [sUp_ne (by omega), sUp_ne (by omega)]; assumption)) | (rw [sUp_ne (by omega), sUp_ne (by omega), sUp_ne (by omega)]; assumption) | (simp [sUp]; done)) (by rfl) rfl ?_
          refine e_iload_1 (p' := 23) D_M_record_22 rfl ?_
          refine e_aload_0 (p' := 24) D_M_record_23 rfl ?_
          refine e_getfield (p' := 27) D_M_record_24 F_M_13 (by first | assumption | exact sUp_eq | (rw [sUp_ne (by omega)]; assumption) | (rw [sUp_ne (by omega), sUp_ne (by omega)]; assumption) | (rw [sUp_ne (by omega)]; exact sUp_eq) | (rw [gSet_ne (by omega) (by omega)]; first | assumption | exact sUp_eq | (rw [sUp_ne (by omega)]; assumption) | (rw [sUp_ne (by omega), sUp_ne (by omega)]; assumption)) | (rw [sUp_ne (by omega), sUp_ne (by omega), sUp_ne (by omega)]; assumption) | (simp [sUp]; done)) (by rfl) rfl ?_
          refine e_iload_1 (p' := 28) D_M_record_27 rfl ?_
          refine e_bipush (v := nI 39) (p' := 30) D_M_record_28 cst_bipush_39 rfl ?_
          first | refine e_iaddN (p' := 31) D_M_record_30 rfl ?_ | refine e_iadd (p' := 31) D_M_record_30 rfl ?_
          refine e_iaload (p' := 32) D_M_record_31 (by first | assumption | exact sUp_eq | (rw [sUp_ne (by omega)]; assumption) | (rw [sUp_ne (by omega), sUp_ne (by omega)]; assumption) | (rw [sUp_ne (by omega)]; exact sUp_eq) | (rw [gSet_ne (by omega) (by omega)]; first | assumption | exact sUp_eq | (rw [sUp_ne (by omega)]; assumption) | (rw [sUp_ne (by omega), sUp_ne (by omega)]; assumption)) | (rw [sUp_ne (by omega), sUp_ne (by omega), sUp_ne (by omega)]; assumption) | (simp [sUp]; done)) (by omega) (by omega) (by rfl) rfl ?_
          refine e_iastore (p' := 33) D_M_record_32 (by first | assumption | exact sUp_eq | (rw [sUp_ne (by omega)]; assumption) | (rw [sUp_ne (by omega), sUp_ne (by omega)]; assumption) | (rw [sUp_ne (by omega)]; exact sUp_eq) | (rw [gSet_ne (by omega) (by omega)]; first | assumption | exact sUp_eq | (rw [sUp_ne (by omega)]; assumption) | (rw [sUp_ne (by omega), sUp_ne (by omega)]; assumption)) | (rw [sUp_ne (by omega), sUp_ne (by omega), sUp_ne (by omega)]; assumption) | (simp [sUp]; done)) (by omega) (by omega) rfl ?_
          first | refine e_iincN_1 (n := 1) (p' := 36) D_M_record_33 (Nat.le_of_ble_eq_true rfl) rfl rfl ?_ | refine e_iinc_1 (p' := 36) D_M_record_33 (Nat.le_of_ble_eq_true rfl) rfl rfl rfl ?_
          refine e_goto (p' := 11) D_M_record_36 rfl ?_
          refine sEv.castW (ih11) ?_ ?_ ?_
          · first | exact lvW_rfl _ | (simp [lvW]; done) | (simp [lvW, *]; done) | (simp [lvW]; omega)
          · rfl
          · rw [sUp_sUp]
            refine sUp_arr fun k => ?_
            by_cases e : k = i
            · subst e; simp [upd]; omega
            · simp [upd, e]; congr 1; simp; omega
    refine sEv.castW (lk11 0 (by omega) ) ?_ ?_ ?_
    · first | exact lvW_rfl _ | (simp [lvW]; done) | (simp [lvW, *]; done) | (simp [lvW]; omega)
    · rfl
    · rw [sUp_self]; simp [a2]
set_option maxRecDepth 4000 in
theorem c_M_tellAll {l : Launch} {h : sH} {st : St} (hI : MInv h st) (hS : StOk st) : sY l m_M_tellAll 4 [.ref 61] h (some (.int (StellAll st).1)) (MR h (StellAll st).2) := by
  have hI0 := hI
  obtain ⟨hz, H⟩ := hI
  have H0 := H
  have hx := hS.1
  have hM := hx.2.2.1.le
  have hRr := hx.1
  have hCc := hx.2.1
  have hh6 := hS.2.1.1
  obtain ⟨⟨v, a1⟩, ⟨f, a2, b2⟩, ⟨f3, a3, b3⟩, ⟨f4, a4, b4⟩, ⟨f5, a5, b5⟩, ⟨f6, f7, f8, f9, a6, a7, a8, a9⟩, ⟨f10, a10⟩, ⟨f11, a11⟩, ⟨f12, a12⟩⟩ := H
  have lp := lay_pv hx
  have lk := lay_kn hx
  refine en_M_tellAll ?_
  refine e_aload_0 (p' := 1) D_M_tellAll_0 rfl ?_
  refine y_callV0 (p' := 4) D_M_tellAll_1 V_M_85 (c_M_layParts a1 hz hx (MRest.arr H0)) rfl (by first | assumption | exact sUp_eq | (rw [sUp_ne (by omega)]; assumption) | (rw [sUp_ne (by omega), sUp_ne (by omega)]; assumption) | (rw [sUp_ne (by omega)]; exact sUp_eq) | (rw [gSet_ne (by omega) (by omega)]; first | assumption | exact sUp_eq | (rw [sUp_ne (by omega)]; assumption) | (rw [sUp_ne (by omega), sUp_ne (by omega)]; assumption)) | (rw [sUp_ne (by omega), sUp_ne (by omega), sUp_ne (by omega)]; assumption) | (simp [sUp]; done)) rfl (Nat.le_of_ble_eq_true rfl) (by decide) ⟨by decide, by decide⟩ rfl ?_
  rintro h0 ⟨P1, m1, L1⟩
  have Z1 := (L1 62 (by omega) (by omega)).trans (hz)
  have R1 := MRest.lay H0 m1 ⟨_, P1⟩ L1
  obtain ⟨e1, e2, e3, e4, p1, p2, p3, p4, PV⟩ := id P1
  refine e_aload_0 (p' := 5) D_M_tellAll_4 rfl ?_
  refine e_getfield (p' := 8) D_M_tellAll_5 F_M_81 (by first | assumption | exact sUp_eq | (rw [sUp_ne (by omega)]; assumption) | (rw [sUp_ne (by omega), sUp_ne (by omega)]; assumption) | (rw [sUp_ne (by omega)]; exact sUp_eq) | (rw [gSet_ne (by omega) (by omega)]; first | assumption | exact sUp_eq | (rw [sUp_ne (by omega)]; assumption) | (rw [sUp_ne (by omega), sUp_ne (by omega)]; assumption)) | (rw [sUp_ne (by omega), sUp_ne (by omega), sUp_ne (by omega)]; assumption) | (simp [sUp]; done)) (by rfl) rfl ?_
  refine e_ifB_ne (q := 14) (p' := 11) D_M_tellAll_8 rfl rfl (fun hc8 => ?_) (fun hc8 => ?_)
  ·
    refine e_aload_0 (p' := 15) D_M_tellAll_14 rfl ?_
    refine y_callV0 (p' := 18) D_M_tellAll_15 V_M_60 (c_M_recordF Z1 R1 hS.2.1.1) rfl (by first | assumption | exact sUp_eq | (rw [sUp_ne (by omega)]; assumption) | (rw [sUp_ne (by omega), sUp_ne (by omega)]; assumption) | (rw [sUp_ne (by omega)]; exact sUp_eq) | (rw [gSet_ne (by omega) (by omega)]; first | assumption | exact sUp_eq | (rw [sUp_ne (by omega)]; assumption) | (rw [sUp_ne (by omega), sUp_ne (by omega)]; assumption)) | (rw [sUp_ne (by omega), sUp_ne (by omega), sUp_ne (by omega)]; assumption) | (simp [sUp]; done)) rfl (Nat.le_of_ble_eq_true rfl) (by decide) ⟨by decide, by decide⟩ rfl ?_
    rintro h1 ⟨⟨⟨R2, Z2⟩, K2⟩, fr2⟩
    have P2 : PmAt h1 (lay st.1).1 := P1.kept (fun a q1 q2 => fr2 a (by omega) (by omega))
    refine e_iconst (v := nI 0) (p' := 19) D_M_tellAll_18 cst_iconst_0 rfl ?_
    refine e_istore_1 (p' := 20) D_M_tellAll_19 (Nat.le_of_ble_eq_true rfl) rfl rfl ?_
    refine e_iconst (v := nI 0) (p' := 21) D_M_tellAll_20 cst_iconst_0 rfl ?_
    refine e_istore_2 (p' := 22) D_M_tellAll_21 (Nat.le_of_ble_eq_true rfl) rfl rfl ?_
    have lk22 : ∀ i : Nat, i ≤ st.1.1.1 → ∀ (h2 : sH), ((MRest h2 (recH st.2.1 st.1, st.2.2) ∧ h2.2 62 = iA 39 (nF (zN (st.1.1, ptw st.1.2 st.1.1.1 st.1.1.2.1 (taQ st.1) (pdt st.1) i 0)))) ∧ PmAt h2 (lay st.1).1 ∧ FrK h h2) → sEv l m_M_tellAll 4 (0, 0, 0, 0) (sKm 0 0 (fun r1 h1 => r1 = some (.int (StellAll st).1) ∧ (MR h (StellAll st).2) h1)) 22 [some (.ref 61), some (.int (nI (sm i (fun r => sm st.1.1.2.1 (fun c => taC st.1 r c))))), some (.int (nI i)), none] [] (h2) := by
      refine lp_up _ ?_ ?_
      · intro h2 ⟨⟨CC, CZ⟩, CP, FF⟩
        obtain ⟨v1, c1⟩ := CC.1
        refine e_iload_2 (p' := 23) D_M_tellAll_22 rfl ?_
        refine e_aload_0 (p' := 24) D_M_tellAll_23 rfl ?_
        refine e_getfield (p' := 27) D_M_tellAll_24 F_M_7 (by first | assumption | exact sUp_eq | (rw [sUp_ne (by omega)]; assumption) | (rw [sUp_ne (by omega), sUp_ne (by omega)]; assumption) | (rw [sUp_ne (by omega)]; exact sUp_eq) | (rw [gSet_ne (by omega) (by omega)]; first | assumption | exact sUp_eq | (rw [sUp_ne (by omega)]; assumption) | (rw [sUp_ne (by omega), sUp_ne (by omega)]; assumption)) | (rw [sUp_ne (by omega), sUp_ne (by omega), sUp_ne (by omega)]; assumption) | (simp [sUp]; done)) (by rfl) rfl ?_
        refine e_bipush (v := nI 36) (p' := 29) D_M_tellAll_27 cst_bipush_36 rfl ?_
        refine e_iaload (p' := 30) D_M_tellAll_29 (by first | assumption | exact sUp_eq | (rw [sUp_ne (by omega)]; assumption) | (rw [sUp_ne (by omega), sUp_ne (by omega)]; assumption) | (rw [sUp_ne (by omega)]; exact sUp_eq) | (rw [gSet_ne (by omega) (by omega)]; first | assumption | exact sUp_eq | (rw [sUp_ne (by omega)]; assumption) | (rw [sUp_ne (by omega), sUp_ne (by omega)]; assumption)) | (rw [sUp_ne (by omega), sUp_ne (by omega), sUp_ne (by omega)]; assumption) | (simp [sUp]; done)) (by omega) (by omega) (by rfl) rfl ?_
        rw [z36]
        dsimp only
        refine e_icmpN_ge (q := 112) (p' := 33) D_M_tellAll_30 (by omega) (by omega) rfl rfl (fun hc30 => ?_) (fun hc30 => ?_)
        ·
          refine e_iload_1 (p' := 113) D_M_tellAll_112 rfl ?_
          refine e_ireturn (ty := .int) D_M_tellAll_113 rfl (by first | rfl | exact sBo_nar _) ⟨by decide, by decide⟩ ?_
          unfold StellAll
          rw [if_pos hc8, taX_told hx hc8, Nat.add_sub_cancel_left]
          refine ⟨rfl, ⟨?_, CC⟩, FF⟩
          rw [CZ, taQ_eq hc8]
          rfl
        ·
          exfalso; omega
      · intro i hi ih22 h2 ⟨⟨CC, CZ⟩, CP, FF⟩
        obtain ⟨v1, c1⟩ := CC.1
        refine e_iload_2 (p' := 23) D_M_tellAll_22 rfl ?_
        refine e_aload_0 (p' := 24) D_M_tellAll_23 rfl ?_
        refine e_getfield (p' := 27) D_M_tellAll_24 F_M_7 (by first | assumption | exact sUp_eq | (rw [sUp_ne (by omega)]; assumption) | (rw [sUp_ne (by omega), sUp_ne (by omega)]; assumption) | (rw [sUp_ne (by omega)]; exact sUp_eq) | (rw [gSet_ne (by omega) (by omega)]; first | assumption | exact sUp_eq | (rw [sUp_ne (by omega)]; assumption) | (rw [sUp_ne (by omega), sUp_ne (by omega)]; assumption)) | (rw [sUp_ne (by omega), sUp_ne (by omega), sUp_ne (by omega)]; assumption) | (simp [sUp]; done)) (by rfl) rfl ?_
        refine e_bipush (v := nI 36) (p' := 29) D_M_tellAll_27 cst_bipush_36 rfl ?_
        refine e_iaload (p' := 30) D_M_tellAll_29 (by first | assumption | exact sUp_eq | (rw [sUp_ne (by omega)]; assumption) | (rw [sUp_ne (by omega), sUp_ne (by omega)]; assumption) | (rw [sUp_ne (by omega)]; exact sUp_eq) | (rw [gSet_ne (by omega) (by omega)]; first | assumption | exact sUp_eq | (rw [sUp_ne (by omega)]; assumption) | (rw [sUp_ne (by omega), sUp_ne (by omega)]; assumption)) | (rw [sUp_ne (by omega), sUp_ne (by omega), sUp_ne (by omega)]; assumption) | (simp [sUp]; done)) (by omega) (by omega) (by rfl) rfl ?_
        rw [z36]
        dsimp only
        refine e_icmpN_ge (q := 112) (p' := 33) D_M_tellAll_30 (by omega) (by omega) rfl rfl (fun hc30 => ?_) (fun hc30 => ?_)
        ·
          exfalso; omega
        ·
          refine e_iconst (v := nI 0) (p' := 34) D_M_tellAll_33 cst_iconst_0 rfl ?_
          refine e_istore_3 (p' := 35) D_M_tellAll_34 (Nat.le_of_ble_eq_true rfl) rfl rfl ?_
          have lk35 : ∀ j : Nat, j ≤ st.1.1.2.1 → ∀ (h3 : sH), ((MRest h3 (recH st.2.1 st.1, st.2.2) ∧ h3.2 62 = iA 39 (nF (zN (st.1.1, ptw st.1.2 st.1.1.1 st.1.1.2.1 (taQ st.1) (pdt st.1) i j)))) ∧ PmAt h3 (lay st.1).1 ∧ FrK h h3) → sEv l m_M_tellAll 4 (0, 0, 0, 0) (sKm 0 0 (fun r1 h1 => r1 = some (.int (StellAll st).1) ∧ (MR h (StellAll st).2) h1)) 35 [some (.ref 61), some (.int (nI (sm i (fun r => sm st.1.1.2.1 (fun c => taC st.1 r c)) + sm j (fun c => taC st.1 i c)))), some (.int (nI i)), some (.int (nI j))] [] (h3) := by
            refine lp_up _ ?_ ?_
            · intro h3 ⟨⟨CC2, CZ2⟩, CP2, FF2⟩
              obtain ⟨v2, c1⟩ := CC2.1
              obtain ⟨e1, e2, e3, e4, p1, p2, p3, p4, PV⟩ := id CP2
              have yok := ptw_ok hx (q := taQ st.1) (v := pdt st.1) (fun r c _ _ _ => pdt_lt hx r c) i (st.1.1.2.1)
              have sm3 := hx.small i (st.1.1.2.1)
              refine e_iload_3 (p' := 36) D_M_tellAll_35 rfl ?_
              refine e_aload_0 (p' := 37) D_M_tellAll_36 rfl ?_
              refine e_getfield (p' := 40) D_M_tellAll_37 F_M_7 (by first | assumption | exact sUp_eq | (rw [sUp_ne (by omega)]; assumption) | (rw [sUp_ne (by omega), sUp_ne (by omega)]; assumption) | (rw [sUp_ne (by omega)]; exact sUp_eq) | (rw [gSet_ne (by omega) (by omega)]; first | assumption | exact sUp_eq | (rw [sUp_ne (by omega)]; assumption) | (rw [sUp_ne (by omega), sUp_ne (by omega)]; assumption)) | (rw [sUp_ne (by omega), sUp_ne (by omega), sUp_ne (by omega)]; assumption) | (simp [sUp]; done)) (by rfl) rfl ?_
              refine e_bipush (v := nI 37) (p' := 42) D_M_tellAll_40 cst_bipush_37 rfl ?_
              refine e_iaload (p' := 43) D_M_tellAll_42 (by first | assumption | exact sUp_eq | (rw [sUp_ne (by omega)]; assumption) | (rw [sUp_ne (by omega), sUp_ne (by omega)]; assumption) | (rw [sUp_ne (by omega)]; exact sUp_eq) | (rw [gSet_ne (by omega) (by omega)]; first | assumption | exact sUp_eq | (rw [sUp_ne (by omega)]; assumption) | (rw [sUp_ne (by omega), sUp_ne (by omega)]; assumption)) | (rw [sUp_ne (by omega), sUp_ne (by omega), sUp_ne (by omega)]; assumption) | (simp [sUp]; done)) (by omega) (by omega) (by rfl) rfl ?_
              rw [z37]
              dsimp only
              refine e_icmpN_ge (q := 106) (p' := 46) D_M_tellAll_43 (by omega) (by omega) rfl rfl (fun hc43 => ?_) (fun hc43 => ?_)
              ·
                first | refine e_iincN_2 (n := 1) (p' := 109) D_M_tellAll_106 (Nat.le_of_ble_eq_true rfl) rfl rfl ?_ | refine e_iinc_2 (p' := 109) D_M_tellAll_106 (Nat.le_of_ble_eq_true rfl) rfl rfl rfl ?_
                refine e_goto (p' := 22) D_M_tellAll_109 rfl ?_
                refine sEv.castW (ih22 h3 ⟨⟨CC2, by rw [← ptw_row (c := st.1.1.2.1) (Nat.le_refl _)]; exact CZ2⟩, CP2, FF2⟩) ?_ ?_ ?_
                · exact ⟨rfl, rfl, rfl, trivial⟩
                · rfl
                · first | rfl | (simp; done)
              ·
                exfalso; omega
            · intro j hj ih35 h3 ⟨⟨CC2, CZ2⟩, CP2, FF2⟩
              obtain ⟨v2, c1⟩ := CC2.1
              obtain ⟨e1, e2, e3, e4, p1, p2, p3, p4, PV⟩ := id CP2
              have yok := ptw_ok hx (q := taQ st.1) (v := pdt st.1) (fun r c _ _ _ => pdt_lt hx r c) i j
              have sm3 := hx.small i j
              refine e_iload_3 (p' := 36) D_M_tellAll_35 rfl ?_
              refine e_aload_0 (p' := 37) D_M_tellAll_36 rfl ?_
              refine e_getfield (p' := 40) D_M_tellAll_37 F_M_7 (by first | assumption | exact sUp_eq | (rw [sUp_ne (by omega)]; assumption) | (rw [sUp_ne (by omega), sUp_ne (by omega)]; assumption) | (rw [sUp_ne (by omega)]; exact sUp_eq) | (rw [gSet_ne (by omega) (by omega)]; first | assumption | exact sUp_eq | (rw [sUp_ne (by omega)]; assumption) | (rw [sUp_ne (by omega), sUp_ne (by omega)]; assumption)) | (rw [sUp_ne (by omega), sUp_ne (by omega), sUp_ne (by omega)]; assumption) | (simp [sUp]; done)) (by rfl) rfl ?_
              refine e_bipush (v := nI 37) (p' := 42) D_M_tellAll_40 cst_bipush_37 rfl ?_
              refine e_iaload (p' := 43) D_M_tellAll_42 (by first | assumption | exact sUp_eq | (rw [sUp_ne (by omega)]; assumption) | (rw [sUp_ne (by omega), sUp_ne (by omega)]; assumption) | (rw [sUp_ne (by omega)]; exact sUp_eq) | (rw [gSet_ne (by omega) (by omega)]; first | assumption | exact sUp_eq | (rw [sUp_ne (by omega)]; assumption) | (rw [sUp_ne (by omega), sUp_ne (by omega)]; assumption)) | (rw [sUp_ne (by omega), sUp_ne (by omega), sUp_ne (by omega)]; assumption) | (simp [sUp]; done)) (by omega) (by omega) (by rfl) rfl ?_
              rw [z37]
              dsimp only
              refine e_icmpN_ge (q := 106) (p' := 46) D_M_tellAll_43 (by omega) (by omega) rfl rfl (fun hc43 => ?_) (fun hc43 => ?_)
              ·
                exfalso; omega
              ·
                refine e_aload_0 (p' := 47) D_M_tellAll_46 rfl ?_
                refine e_iload_2 (p' := 48) D_M_tellAll_47 rfl ?_
                refine e_iload_3 (p' := 49) D_M_tellAll_48 rfl ?_
                refine x_callV1 (p' := 52) D_M_tellAll_49 V_M_67 (c_M_at c1 CZ2 yok (by omega) (by omega)) rfl (by first | assumption | exact sUp_eq | (rw [sUp_ne (by omega)]; assumption) | (rw [sUp_ne (by omega), sUp_ne (by omega)]; assumption) | (rw [sUp_ne (by omega)]; exact sUp_eq) | (rw [gSet_ne (by omega) (by omega)]; first | assumption | exact sUp_eq | (rw [sUp_ne (by omega)]; assumption) | (rw [sUp_ne (by omega), sUp_ne (by omega)]; assumption)) | (rw [sUp_ne (by omega), sUp_ne (by omega), sUp_ne (by omega)]; assumption) | (simp [sUp]; done)) rfl (Nat.le_of_ble_eq_true rfl) (by decide) ⟨by decide, by decide⟩ rfl ?_
                rw [at_ptw (by omega)]
                refine e_ifN_ne (q := 100) (p' := 55) D_M_tellAll_52 (by omega) rfl rfl (fun hc52 => ?_) (fun hc52 => ?_)
                ·
                  first | refine e_iincN_3 (n := 1) (p' := 103) D_M_tellAll_100 (Nat.le_of_ble_eq_true rfl) rfl rfl ?_ | refine e_iinc_3 (p' := 103) D_M_tellAll_100 (Nat.le_of_ble_eq_true rfl) rfl rfl rfl ?_
                  refine e_goto (p' := 35) D_M_tellAll_103 rfl ?_
                  have tq : taQ st.1 i j = false := by unfold taQ; rw [td_true (by omega)]; rfl
                  refine sEv.castW (ih35 h3 ⟨⟨CC2, by rw [← ptw_no (by omega) (by omega) tq]; exact CZ2⟩, CP2, FF2⟩) ?_ ?_ ?_
                  · refine ⟨rfl, ?_, rfl, rfl, trivial⟩
                    rw [sm_succ, show taC st.1 i j = 0 from if_neg (by rw [tq]; decide), Nat.add_zero]
                  · rfl
                  · rfl
                ·
                  refine e_aload_0 (p' := 56) D_M_tellAll_55 rfl ?_
                  refine e_getfield (p' := 59) D_M_tellAll_56 F_M_27 (by first | assumption | exact sUp_eq | (rw [sUp_ne (by omega)]; assumption) | (rw [sUp_ne (by omega), sUp_ne (by omega)]; assumption) | (rw [sUp_ne (by omega)]; exact sUp_eq) | (rw [gSet_ne (by omega) (by omega)]; first | assumption | exact sUp_eq | (rw [sUp_ne (by omega)]; assumption) | (rw [sUp_ne (by omega), sUp_ne (by omega)]; assumption)) | (rw [sUp_ne (by omega), sUp_ne (by omega), sUp_ne (by omega)]; assumption) | (simp [sUp]; done)) (by rfl) rfl ?_
                  refine e_iload_2 (p' := 60) D_M_tellAll_59 rfl ?_
                  refine e_iaload (p' := 61) D_M_tellAll_60 (by first | assumption | exact sUp_eq | (rw [sUp_ne (by omega)]; assumption) | (rw [sUp_ne (by omega), sUp_ne (by omega)]; assumption) | (rw [sUp_ne (by omega)]; exact sUp_eq) | (rw [gSet_ne (by omega) (by omega)]; first | assumption | exact sUp_eq | (rw [sUp_ne (by omega)]; assumption) | (rw [sUp_ne (by omega), sUp_ne (by omega)]; assumption)) | (rw [sUp_ne (by omega), sUp_ne (by omega), sUp_ne (by omega)]; assumption) | (simp [sUp]; done)) (by omega) (by omega) (by rfl) rfl ?_
                  refine e_aload_0 (p' := 62) D_M_tellAll_61 rfl ?_
                  refine e_getfield (p' := 65) D_M_tellAll_62 F_M_30 (by first | assumption | exact sUp_eq | (rw [sUp_ne (by omega)]; assumption) | (rw [sUp_ne (by omega), sUp_ne (by omega)]; assumption) | (rw [sUp_ne (by omega)]; exact sUp_eq) | (rw [gSet_ne (by omega) (by omega)]; first | assumption | exact sUp_eq | (rw [sUp_ne (by omega)]; assumption) | (rw [sUp_ne (by omega), sUp_ne (by omega)]; assumption)) | (rw [sUp_ne (by omega), sUp_ne (by omega), sUp_ne (by omega)]; assumption) | (simp [sUp]; done)) (by rfl) rfl ?_
                  refine e_iload_3 (p' := 66) D_M_tellAll_65 rfl ?_
                  refine e_iaload (p' := 67) D_M_tellAll_66 (by first | assumption | exact sUp_eq | (rw [sUp_ne (by omega)]; assumption) | (rw [sUp_ne (by omega), sUp_ne (by omega)]; assumption) | (rw [sUp_ne (by omega)]; exact sUp_eq) | (rw [gSet_ne (by omega) (by omega)]; first | assumption | exact sUp_eq | (rw [sUp_ne (by omega)]; assumption) | (rw [sUp_ne (by omega), sUp_ne (by omega)]; assumption)) | (rw [sUp_ne (by omega), sUp_ne (by omega), sUp_ne (by omega)]; assumption) | (simp [sUp]; done)) (by omega) (by omega) (by rfl) rfl ?_
                  rw [(PV i (by omega)).1.1, (PV j (by omega)).1.2]
                  refine e_icmp_ne (q := 100) (p' := 70) D_M_tellAll_67 rfl rfl (fun hc67 => ?_) (fun hc67 => ?_)
                  ·
                    first | refine e_iincN_3 (n := 1) (p' := 103) D_M_tellAll_100 (Nat.le_of_ble_eq_true rfl) rfl rfl ?_ | refine e_iinc_3 (p' := 103) D_M_tellAll_100 (Nat.le_of_ble_eq_true rfl) rfl rfl rfl ?_
                    refine e_goto (p' := 35) D_M_tellAll_103 rfl ?_
                    have tq : taQ st.1 i j = false := by
                      unfold taQ jn
                      rw [decide_eq_false (fun z => hc67 (by rw [z])), Bool.and_false]
                    refine sEv.castW (ih35 h3 ⟨⟨CC2, by rw [← ptw_no (by omega) (by omega) tq]; exact CZ2⟩, CP2, FF2⟩) ?_ ?_ ?_
                    · refine ⟨rfl, ?_, rfl, rfl, trivial⟩
                      rw [sm_succ, show taC st.1 i j = 0 from if_neg (by rw [tq]; decide), Nat.add_zero]
                    · rfl
                    · rfl
                  ·
                    refine e_aload_0 (p' := 71) D_M_tellAll_70 rfl ?_
                    refine e_getfield (p' := 74) D_M_tellAll_71 F_M_7 (by first | assumption | exact sUp_eq | (rw [sUp_ne (by omega)]; assumption) | (rw [sUp_ne (by omega), sUp_ne (by omega)]; assumption) | (rw [sUp_ne (by omega)]; exact sUp_eq) | (rw [gSet_ne (by omega) (by omega)]; first | assumption | exact sUp_eq | (rw [sUp_ne (by omega)]; assumption) | (rw [sUp_ne (by omega), sUp_ne (by omega)]; assumption)) | (rw [sUp_ne (by omega), sUp_ne (by omega), sUp_ne (by omega)]; assumption) | (simp [sUp]; done)) (by rfl) rfl ?_
                    refine e_bipush (v := nI 6) (p' := 76) D_M_tellAll_74 cst_bipush_6 rfl ?_
                    refine e_iload_2 (p' := 77) D_M_tellAll_76 rfl ?_
                    first | refine e_imulN (p' := 78) D_M_tellAll_77 rfl ?_ | refine e_imul (p' := 78) D_M_tellAll_77 rfl ?_
                    refine e_iload_3 (p' := 79) D_M_tellAll_78 rfl ?_
                    first | refine e_iaddN (p' := 80) D_M_tellAll_79 rfl ?_ | refine e_iadd (p' := 80) D_M_tellAll_79 rfl ?_
                    refine e_aload_0 (p' := 81) D_M_tellAll_80 rfl ?_
                    refine e_aload_0 (p' := 82) D_M_tellAll_81 rfl ?_
                    refine e_getfield (p' := 85) D_M_tellAll_82 F_M_33 (by first | assumption | exact sUp_eq | (rw [sUp_ne (by omega)]; assumption) | (rw [sUp_ne (by omega), sUp_ne (by omega)]; assumption) | (rw [sUp_ne (by omega)]; exact sUp_eq) | (rw [gSet_ne (by omega) (by omega)]; first | assumption | exact sUp_eq | (rw [sUp_ne (by omega)]; assumption) | (rw [sUp_ne (by omega), sUp_ne (by omega)]; assumption)) | (rw [sUp_ne (by omega), sUp_ne (by omega), sUp_ne (by omega)]; assumption) | (simp [sUp]; done)) (by rfl) rfl ?_
                    refine e_iload_2 (p' := 86) D_M_tellAll_85 rfl ?_
                    refine e_iaload (p' := 87) D_M_tellAll_86 (by first | assumption | exact sUp_eq | (rw [sUp_ne (by omega)]; assumption) | (rw [sUp_ne (by omega), sUp_ne (by omega)]; assumption) | (rw [sUp_ne (by omega)]; exact sUp_eq) | (rw [gSet_ne (by omega) (by omega)]; first | assumption | exact sUp_eq | (rw [sUp_ne (by omega)]; assumption) | (rw [sUp_ne (by omega), sUp_ne (by omega)]; assumption)) | (rw [sUp_ne (by omega), sUp_ne (by omega), sUp_ne (by omega)]; assumption) | (simp [sUp]; done)) (by omega) (by omega) (by rfl) rfl ?_
                    rw [(PV i (by omega)).2.1]
                    refine e_aload_0 (p' := 88) D_M_tellAll_87 rfl ?_
                    refine e_getfield (p' := 91) D_M_tellAll_88 F_M_36 (by first | assumption | exact sUp_eq | (rw [sUp_ne (by omega)]; assumption) | (rw [sUp_ne (by omega), sUp_ne (by omega)]; assumption) | (rw [sUp_ne (by omega)]; exact sUp_eq) | (rw [gSet_ne (by omega) (by omega)]; first | assumption | exact sUp_eq | (rw [sUp_ne (by omega)]; assumption) | (rw [sUp_ne (by omega), sUp_ne (by omega)]; assumption)) | (rw [sUp_ne (by omega), sUp_ne (by omega), sUp_ne (by omega)]; assumption) | (simp [sUp]; done)) (by rfl) rfl ?_
                    refine e_iload_3 (p' := 92) D_M_tellAll_91 rfl ?_
                    refine e_iaload (p' := 93) D_M_tellAll_92 (by first | assumption | exact sUp_eq | (rw [sUp_ne (by omega)]; assumption) | (rw [sUp_ne (by omega), sUp_ne (by omega)]; assumption) | (rw [sUp_ne (by omega)]; exact sUp_eq) | (rw [gSet_ne (by omega) (by omega)]; first | assumption | exact sUp_eq | (rw [sUp_ne (by omega)]; assumption) | (rw [sUp_ne (by omega), sUp_ne (by omega)]; assumption)) | (rw [sUp_ne (by omega), sUp_ne (by omega), sUp_ne (by omega)]; assumption) | (simp [sUp]; done)) (by omega) (by omega) (by rfl) rfl ?_
                    rw [(PV j (by omega)).2.2]
                    have n1 := lp.1.1 i (lk.1 i (by omega))
                    have n2 := lp.1.2 j (lk.2 j (by omega))
                    refine x_callV1 (p' := 96) D_M_tellAll_93 V_M_63 (c_M_times c1 CZ2 yok (by omega) (by omega)) rfl (by first | assumption | exact sUp_eq | (rw [sUp_ne (by omega)]; assumption) | (rw [sUp_ne (by omega), sUp_ne (by omega)]; assumption) | (rw [sUp_ne (by omega)]; exact sUp_eq) | (rw [gSet_ne (by omega) (by omega)]; first | assumption | exact sUp_eq | (rw [sUp_ne (by omega)]; assumption) | (rw [sUp_ne (by omega), sUp_ne (by omega)]; assumption)) | (rw [sUp_ne (by omega), sUp_ne (by omega), sUp_ne (by omega)]; assumption) | (simp [sUp]; done)) rfl (Nat.le_of_ble_eq_true rfl) (by decide) ⟨by decide, by decide⟩ rfl ?_
                    refine e_iastore (p' := 97) D_M_tellAll_96 (by first | assumption | exact sUp_eq | (rw [sUp_ne (by omega)]; assumption) | (rw [sUp_ne (by omega), sUp_ne (by omega)]; assumption) | (rw [sUp_ne (by omega)]; exact sUp_eq) | (rw [gSet_ne (by omega) (by omega)]; first | assumption | exact sUp_eq | (rw [sUp_ne (by omega)]; assumption) | (rw [sUp_ne (by omega), sUp_ne (by omega)]; assumption)) | (rw [sUp_ne (by omega), sUp_ne (by omega), sUp_ne (by omega)]; assumption) | (simp [sUp]; done)) (by omega) (by omega) rfl ?_
                    first | refine e_iincN_1 (n := 1) (p' := 100) D_M_tellAll_97 (Nat.le_of_ble_eq_true rfl) rfl rfl ?_ | refine e_iinc_1 (p' := 100) D_M_tellAll_97 (Nat.le_of_ble_eq_true rfl) rfl rfl rfl ?_
                    first | refine e_iincN_3 (n := 1) (p' := 103) D_M_tellAll_100 (Nat.le_of_ble_eq_true rfl) rfl rfl ?_ | refine e_iinc_3 (p' := 103) D_M_tellAll_100 (Nat.le_of_ble_eq_true rfl) rfl rfl rfl ?_
                    refine e_goto (p' := 35) D_M_tellAll_103 rfl ?_
                    have tq : taQ st.1 i j = true := by
                      unfold taQ jn
                      rw [td_false (by omega), decide_eq_true (pJ_inj (lp.2 i).1 (lp.2 j).2 hc67)]
                      rfl
                    refine sEv.castW (ih35 (sUp h3 62 (iA 39 (nF (zN (st.1.1, ptw st.1.2 st.1.1.1 st.1.1.2.1 (taQ st.1) (pdt st.1) i (j + 1)))))) ⟨⟨CC2.z, sUp_eq⟩, CP2.kept (fun a h1 h2 => sUp_ne (by omega)), FF2.up (by omega)⟩) ?_ ?_ ?_
                    · refine ⟨rfl, ?_, rfl, rfl, trivial⟩
                      rw [sm_succ, show taC st.1 i j = 1 from if_pos tq, ← Nat.add_assoc]
                    · rfl
                    · rw [← ptw_go (by omega) (by omega) (by omega) tq]; exact congrArg (fun f => sUp h3 62 (iA 39 f)) (zN_up (x := (st.1.1, ptw st.1.2 st.1.1.1 st.1.1.2.1 (taQ st.1) (pdt st.1) i j)) (p := 6 * i + j) (v := pdt st.1 i j) (by omega))
          refine sEv.castW (lk35 0 (by omega) h2 ⟨⟨CC, CZ⟩, CP, FF⟩) ?_ ?_ ?_
          · exact ⟨rfl, rfl, rfl, rfl, trivial⟩
          · rfl
          · first | rfl | (simp; done)
    refine sEv.castW (lk22 0 (by omega) h1 ⟨⟨R2, by rw [ptw_0]; exact Z2⟩, P2, L1.k.tr K2⟩) ?_ ?_ ?_
    · exact ⟨rfl, rfl, rfl, trivial⟩
    · rfl
    · first | rfl | (simp; done)
  ·
    refine e_bipush (v := (-5)) (p' := 13) D_M_tellAll_11 cst_bipush_m5 rfl ?_
    refine e_ireturn (ty := .int) D_M_tellAll_13 rfl (by first | rfl | exact sBo_nar _) ⟨by decide, by decide⟩ ?_
    unfold StellAll; rw [if_neg (by rw [hc8]; decide)]; exact ⟨rfl, ⟨Z1, R1⟩, L1.k⟩
