/-! ===== contracts: History (32 to 51), Slot (52 to 60); the state of the class ===== -/
abbrev Hs : Type := Nat × (Nat → Gd)
def recH (s : Hs) (x : Gd) : Hs := if s.1 = 6 then (6, fun i => if i = 5 then x else s.2 (i + 1)) else (s.1 + 1, fun i => if i = s.1 then x else s.2 i)
def HsC (h : sH) (s : Hs) (o m : Nat) (f : Nat → Option Nat) (Y : Nat → Gd) : Prop := h.2 32 = oC 1 [.ref 33, .int (nI o), .int (nI m)] ∧ h.2 33 = qA 3 6 f ∧ (∀ k, k < 6 → f k = some (34 + 3 * k)) ∧ (∀ k, k < 6 → GridAt h (34 + 3 * k) (Y k) ∧ Gok (Y k))
def HsAt (h : sH) (s : Hs) : Prop := ∃ (o : Nat) (f : Nat → Option Nat) (Y : Nat → Gd), HsC h s o s.1 f Y ∧ o < 6 ∧ s.1 ≤ 6 ∧ ∀ i, i < s.1 → Y ((o + i) % 6) = s.2 i
theorem HsC.kept {h h' : sH} {s : Hs} {o m : Nat} {f : Nat → Option Nat} {Y : Nat → Gd} (C : HsC h s o m f Y) (k : ∀ a, 32 ≤ a → a < 52 → h'.2 a = h.2 a) : HsC h' s o m f Y :=
  ⟨(k _ (by omega) (by omega)).trans C.1, (k _ (by omega) (by omega)).trans C.2.1, C.2.2.1, fun j hj => ⟨(C.2.2.2 j hj).1.kept (k _ (by omega) (by omega)) (k _ (by omega) (by omega)) (k _ (by omega) (by omega)), (C.2.2.2 j hj).2⟩⟩
theorem HsAt.kept {h h' : sH} {s : Hs} (C : HsAt h s) (k : ∀ a, 32 ≤ a → a < 52 → h'.2 a = h.2 a) : HsAt h' s := by
  obtain ⟨o, f, Y, C, r⟩ := C
  exact ⟨o, f, Y, C.kept k, r⟩
theorem HsC.head {h : sH} {s : Hs} {o m o' m' : Nat} {f : Nat → Option Nat} {Y : Nat → Gd} (C : HsC h s o m f Y) : HsC (sUp h 32 (oC 1 [.ref 33, .int (nI o'), .int (nI m')])) s o' m' f Y :=
  ⟨sUp_eq, (sUp_ne (by omega)).trans C.2.1, C.2.2.1, fun j hj => ⟨(C.2.2.2 j hj).1.kept (sUp_ne (by omega)) (sUp_ne (by omega)) (sUp_ne (by omega)), (C.2.2.2 j hj).2⟩⟩
theorem HsC.set {h : sH} {s : Hs} {o m k : Nat} {f : Nat → Option Nat} {Y : Nat → Gd} {x : Gd} (hk : k < 6) (hx : Gok x) (C : HsC h s o m f Y) : HsC (gSet h (34 + 3 * k) x) s o m f (fun j => if j = k then x else Y j) := by
  refine ⟨(gSet_ne (by omega) (by omega)).trans C.1, (gSet_ne (by omega) (by omega)).trans C.2.1, C.2.2.1, fun j hj => ?_⟩
  by_cases e : j = k
  · subst e
    dsimp only
    rw [if_pos rfl]
    exact ⟨gSet_at (C.2.2.2 j hj).1, hx⟩
  · dsimp only
    rw [if_neg e]
    exact ⟨(C.2.2.2 j hj).1.off (by omega), (C.2.2.2 j hj).2⟩
def FrH (h h' : sH) : Prop := ∀ a, (a < 32 ∨ 52 ≤ a) → h'.2 a = h.2 a
set_option maxRecDepth 4000 in
theorem c_Hist_size {l : Launch} {h : sH} {s : Hs} (hH : HsAt h s) : sX l m_Hist_size 0 [.ref 32] h (some (.int (nI s.1))) (h) := by
  have hH0 := hH
  obtain ⟨o, f, Y, C, ho, hm, hY⟩ := hH
  have C0 := C
  obtain ⟨c1, c2, c3, c4⟩ := C
  refine en_Hist_size ?_
  refine e_aload_0 (p' := 1) D_Hist_size_0 rfl ?_
  refine e_getfield (p' := 4) D_Hist_size_1 F_Hist_18 (by first | assumption | exact sUp_eq | (rw [sUp_ne (by omega)]; assumption) | (rw [sUp_ne (by omega), sUp_ne (by omega)]; assumption) | (rw [sUp_ne (by omega)]; exact sUp_eq) | (rw [gSet_ne (by omega) (by omega)]; first | assumption | exact sUp_eq | (rw [sUp_ne (by omega)]; assumption) | (rw [sUp_ne (by omega), sUp_ne (by omega)]; assumption)) | (simp [sUp]; done)) (by rfl) rfl ?_
  refine e_ireturn (ty := .int) D_Hist_size_4 rfl (by first | rfl | exact sBo_nar _) ⟨by decide, by decide⟩ ?_
  exact ⟨by first | rfl | (simp; done) | (simp [*]; done), by first | rfl | (simp; done)⟩
set_option maxRecDepth 4000 in
theorem c_Hist_pastAt {l : Launch} {h : sH} {s : Hs} {o m : Nat} {f : Nat → Option Nat} {Y : Nat → Gd} (C : HsC h s o m f Y) (ho : o < 6) {a : Nat} (ha : a < 100) : sX l m_Hist_pastAt 0 [.ref 32, .int (nI a)] h (some (.ref (34 + 3 * ((o + a) % 6)))) (h) := by
  obtain ⟨c1, c2, c3, c4⟩ := C
  have hmd := Nat.mod_lt (o + a) (y := 6) (by omega)
  have c3a := c3 ((o + a) % 6) (by omega)
  refine en_Hist_pastAt ?_
  refine e_aload_0 (p' := 1) D_Hist_pastAt_0 rfl ?_
  refine e_getfield (p' := 4) D_Hist_pastAt_1 F_Hist_22 (by first | assumption | exact sUp_eq | (rw [sUp_ne (by omega)]; assumption) | (rw [sUp_ne (by omega), sUp_ne (by omega)]; assumption) | (rw [sUp_ne (by omega)]; exact sUp_eq) | (rw [gSet_ne (by omega) (by omega)]; first | assumption | exact sUp_eq | (rw [sUp_ne (by omega)]; assumption) | (rw [sUp_ne (by omega), sUp_ne (by omega)]; assumption)) | (simp [sUp]; done)) (by rfl) rfl ?_
  refine e_iload_1 (p' := 5) D_Hist_pastAt_4 rfl ?_
  first | refine e_iaddN (p' := 6) D_Hist_pastAt_5 rfl ?_ | refine e_iadd (p' := 6) D_Hist_pastAt_5 rfl ?_
  refine e_bipush (v := nI 6) (p' := 8) D_Hist_pastAt_6 cst_bipush_6 rfl ?_
  first | refine e_iremN (p' := 9) D_Hist_pastAt_8 (by omega) (by omega) (by omega) rfl ?_ | refine e_irem (p' := 9) D_Hist_pastAt_8 (by assumption) rfl ?_
  refine e_istore_2 (p' := 10) D_Hist_pastAt_9 (Nat.le_of_ble_eq_true rfl) rfl rfl ?_
  refine e_iload_2 (p' := 11) D_Hist_pastAt_10 rfl ?_
  refine e_ifN_lt (q := 32) (p' := 14) D_Hist_pastAt_11 (by omega) rfl rfl (fun hc11 => ?_) (fun hc11 => ?_)
  ·
    exfalso; omega
  ·
    refine e_iload_2 (p' := 15) D_Hist_pastAt_14 rfl ?_
    refine e_aload_0 (p' := 16) D_Hist_pastAt_15 rfl ?_
    refine e_getfield (p' := 19) D_Hist_pastAt_16 F_Hist_11 (by first | assumption | exact sUp_eq | (rw [sUp_ne (by omega)]; assumption) | (rw [sUp_ne (by omega), sUp_ne (by omega)]; assumption) | (rw [sUp_ne (by omega)]; exact sUp_eq) | (rw [gSet_ne (by omega) (by omega)]; first | assumption | exact sUp_eq | (rw [sUp_ne (by omega)]; assumption) | (rw [sUp_ne (by omega), sUp_ne (by omega)]; assumption)) | (simp [sUp]; done)) (by rfl) rfl ?_
    first | refine e_alen (p' := 20) D_Hist_pastAt_19 (by first | assumption | exact sUp_eq | (rw [sUp_ne (by omega)]; assumption) | (rw [sUp_ne (by omega), sUp_ne (by omega)]; assumption) | (rw [sUp_ne (by omega)]; exact sUp_eq) | (rw [gSet_ne (by omega) (by omega)]; first | assumption | exact sUp_eq | (rw [sUp_ne (by omega)]; assumption) | (rw [sUp_ne (by omega), sUp_ne (by omega)]; assumption)) | (simp [sUp]; done)) (by decide) rfl ?_ | refine e_alenq (p' := 20) D_Hist_pastAt_19 (by first | assumption | exact sUp_eq | (rw [sUp_ne (by omega)]; assumption) | (rw [sUp_ne (by omega), sUp_ne (by omega)]; assumption) | (rw [sUp_ne (by omega)]; exact sUp_eq) | (rw [gSet_ne (by omega) (by omega)]; first | assumption | exact sUp_eq | (rw [sUp_ne (by omega)]; assumption) | (rw [sUp_ne (by omega), sUp_ne (by omega)]; assumption)) | (simp [sUp]; done)) (by decide) rfl ?_
    first | refine e_icmpN_ge (q := 32) (p' := 23) D_Hist_pastAt_20 (by omega) (by omega) rfl rfl (fun hc20 => ?_) (fun hc20 => ?_) | refine e_icmp_ge (q := 32) (p' := 23) D_Hist_pastAt_20 rfl rfl (fun hc20 => ?_) (fun hc20 => ?_)
    ·
      exfalso; omega
    ·
      refine e_aload_0 (p' := 24) D_Hist_pastAt_23 rfl ?_
      refine e_getfield (p' := 27) D_Hist_pastAt_24 F_Hist_11 (by first | assumption | exact sUp_eq | (rw [sUp_ne (by omega)]; assumption) | (rw [sUp_ne (by omega), sUp_ne (by omega)]; assumption) | (rw [sUp_ne (by omega)]; exact sUp_eq) | (rw [gSet_ne (by omega) (by omega)]; first | assumption | exact sUp_eq | (rw [sUp_ne (by omega)]; assumption) | (rw [sUp_ne (by omega), sUp_ne (by omega)]; assumption)) | (simp [sUp]; done)) (by rfl) rfl ?_
      refine e_iload_2 (p' := 28) D_Hist_pastAt_27 rfl ?_
      refine e_aaload (p' := 29) D_Hist_pastAt_28 (Or.inl rfl) (by first | assumption | exact sUp_eq | (rw [sUp_ne (by omega)]; assumption) | (rw [sUp_ne (by omega), sUp_ne (by omega)]; assumption) | (rw [sUp_ne (by omega)]; exact sUp_eq) | (rw [gSet_ne (by omega) (by omega)]; first | assumption | exact sUp_eq | (rw [sUp_ne (by omega)]; assumption) | (rw [sUp_ne (by omega), sUp_ne (by omega)]; assumption)) | (simp [sUp]; done)) (by omega) (by omega) (by assumption) rfl ?_
      refine e_goto (p' := 33) D_Hist_pastAt_29 rfl ?_
      refine e_areturn D_Hist_pastAt_33 rfl (by first | exact Or.inl rfl | exact Or.inr ⟨_, rfl⟩) ⟨by decide, by decide⟩ ?_
      exact ⟨by first | rfl | (simp; done) | (simp [*]; done), by first | rfl | (simp; done)⟩
set_option maxRecDepth 4000 in
theorem c_Hist_record {l : Launch} {h : sH} {s : Hs} (hH : HsAt h s) {x : Gd} (hG : GridAt h 1 x) (hx : Gok x) : sY l m_Hist_record 3 [.ref 32, .ref 1] h (none) (fun h1 => HsAt h1 (recH s x) ∧ FrH h h1) := by
  have hH0 := hH
  obtain ⟨o, f, Y, C, ho, hm, hY⟩ := hH
  have C0 := C
  obtain ⟨c1, c2, c3, c4⟩ := C
  refine en_Hist_record ?_
  have jn32 : ∀ (h1 : sH) (o1 m1 : Nat), (HsC h1 s o1 m1 f Y ∧ FrH h h1 ∧ o1 < 6 ∧ m1 < 6 ∧ (s.1 = 6 → m1 = 5 ∧ o1 = (o + 1) % 6) ∧ (s.1 ≠ 6 → m1 = s.1 ∧ o1 = o)) → sEv l m_Hist_record 3 (0, 0, 0, 0) (sKm 0 0 (fun r1 h1 => r1 = none ∧ (fun h1 => HsAt h1 (recH s x) ∧ FrH h h1) h1)) 32 [some (.ref 32), some (.ref 1), none] [] h1 := by
    rintro h1 o1 m1 ⟨D, hF, ho1, hm1, h6, hn6⟩
    have D0 := D
    obtain ⟨d1, d2, d3, d4⟩ := D
    have hmd := Nat.mod_lt (o1 + m1) (y := 6) (by omega)
    have d40 := (d4 _ hmd).1.1
    have hG1 : GridAt h1 1 x := hG.kept (hF _ (by omega)) (hF _ (by omega)) (hF _ (by omega))
    refine e_aload_0 (p' := 33) D_Hist_record_32 rfl ?_
    refine e_aload_0 (p' := 34) D_Hist_record_33 rfl ?_
    refine e_getfield (p' := 37) D_Hist_record_34 F_Hist_18 (by first | assumption | exact sUp_eq | (rw [sUp_ne (by omega)]; assumption) | (rw [sUp_ne (by omega), sUp_ne (by omega)]; assumption) | (rw [sUp_ne (by omega)]; exact sUp_eq) | (rw [gSet_ne (by omega) (by omega)]; first | assumption | exact sUp_eq | (rw [sUp_ne (by omega)]; assumption) | (rw [sUp_ne (by omega), sUp_ne (by omega)]; assumption)) | (simp [sUp]; done)) (by rfl) rfl ?_
    refine x_callV1 (p' := 40) D_Hist_record_37 V_Hist_25 (c_Hist_pastAt D0 ho1 (by omega)) rfl (by first | assumption | exact sUp_eq | (rw [sUp_ne (by omega)]; assumption) | (rw [sUp_ne (by omega), sUp_ne (by omega)]; assumption) | (rw [sUp_ne (by omega)]; exact sUp_eq) | (rw [gSet_ne (by omega) (by omega)]; first | assumption | exact sUp_eq | (rw [sUp_ne (by omega)]; assumption) | (rw [sUp_ne (by omega), sUp_ne (by omega)]; assumption)) | (simp [sUp]; done)) rfl (Nat.le_of_ble_eq_true rfl) (by decide) ⟨by decide, by decide⟩ rfl ?_
    refine e_astore_2 (p' := 41) D_Hist_record_40 (Nat.le_of_ble_eq_true rfl) rfl rfl ?_
    refine e_aload_2 (p' := 42) D_Hist_record_41 rfl ?_
    refine e_ifnull (p' := 45) D_Hist_record_42 rfl ?_
    refine e_aload_2 (p' := 46) D_Hist_record_45 rfl ?_
    refine e_aload_1 (p' := 47) D_Hist_record_46 rfl ?_
    refine x_callV0 (p' := 50) D_Hist_record_47 V_Hist_29 (c_Grid_copyFrom (d4 _ hmd).1 (d4 _ hmd).2 hG1 hx (by omega)) rfl (by first | assumption | exact sUp_eq | (rw [sUp_ne (by omega)]; assumption) | (rw [sUp_ne (by omega), sUp_ne (by omega)]; assumption) | (rw [sUp_ne (by omega)]; exact sUp_eq) | (rw [gSet_ne (by omega) (by omega)]; first | assumption | exact sUp_eq | (rw [sUp_ne (by omega)]; assumption) | (rw [sUp_ne (by omega), sUp_ne (by omega)]; assumption)) | (simp [sUp]; done)) rfl (Nat.le_of_ble_eq_true rfl) (by decide) ⟨by decide, by decide⟩ rfl ?_
    have D2 := HsC.set hmd hx D0
    have d21 := D2.1
    refine e_aload_0 (p' := 51) D_Hist_record_50 rfl ?_
    refine e_dup (p' := 52) D_Hist_record_51 rfl rfl ?_
    refine e_getfield (p' := 55) D_Hist_record_52 F_Hist_18 (by first | assumption | exact sUp_eq | (rw [sUp_ne (by omega)]; assumption) | (rw [sUp_ne (by omega), sUp_ne (by omega)]; assumption) | (rw [sUp_ne (by omega)]; exact sUp_eq) | (rw [gSet_ne (by omega) (by omega)]; first | assumption | exact sUp_eq | (rw [sUp_ne (by omega)]; assumption) | (rw [sUp_ne (by omega), sUp_ne (by omega)]; assumption)) | (simp [sUp]; done)) (by rfl) rfl ?_
    refine e_iconst (v := nI 1) (p' := 56) D_Hist_record_55 cst_iconst_1 rfl ?_
    first | refine e_iaddN (p' := 57) D_Hist_record_56 rfl ?_ | refine e_iadd (p' := 57) D_Hist_record_56 rfl ?_
    refine e_putfield (p' := 60) D_Hist_record_57 F_Hist_18 (Or.inl rfl) (by first | assumption | exact sUp_eq | (rw [sUp_ne (by omega)]; assumption) | (rw [sUp_ne (by omega), sUp_ne (by omega)]; assumption) | (rw [sUp_ne (by omega)]; exact sUp_eq) | (rw [gSet_ne (by omega) (by omega)]; first | assumption | exact sUp_eq | (rw [sUp_ne (by omega)]; assumption) | (rw [sUp_ne (by omega), sUp_ne (by omega)]; assumption)) | (simp [sUp]; done)) (fun _ => ⟨rfl, rfl⟩) (Nat.le_of_ble_eq_true rfl) (by rfl) rfl ?_
    try dsimp only [List.set]
    refine e_return D_Hist_record_60 rfl ⟨by decide, by decide⟩ ?_
    refine ⟨rfl, ⟨o1, f, fun j => if j = (o1 + m1) % 6 then x else Y j, ?_, ho1, ?_, ?_⟩, fun q hq => (sUp_ne (by omega)).trans ((gSet_ne (by omega) (by omega)).trans (hF q hq))⟩
    · have e : (recH s x).1 = m1 + 1 := by
        unfold recH
        split
        · rename_i e6
          have := h6 e6
          show 6 = _
          omega
        · rename_i e6
          have := hn6 e6
          show s.1 + 1 = _
          omega
      rw [e]
      exact HsC.head D2
    · unfold recH
      split
      · exact Nat.le_refl _
      · show s.1 + 1 ≤ 6
        omega
    · intro i hi
      unfold recH at hi ⊢
      by_cases e6 : s.1 = 6
      · obtain ⟨z1, z2⟩ := h6 e6
        rw [if_pos e6] at hi ⊢
        have hi : i < 6 := hi
        dsimp only
        by_cases e : i = 5
        · subst e
          rw [if_pos (by omega), if_pos rfl]
        · rw [if_neg (by omega), if_neg e, ← hY (i + 1) (by omega)]
          congr 1
          omega
      · obtain ⟨z1, z2⟩ := hn6 e6
        rw [if_neg e6] at hi ⊢
        have hi : i < s.1 + 1 := hi
        dsimp only
        by_cases e : i = s.1
        · subst e
          rw [if_pos (by omega), if_pos rfl]
        · rw [if_neg (by omega), if_neg e, ← hY i (by omega)]
          congr 1
          omega
  refine e_aload_0 (p' := 1) D_Hist_record_0 rfl ?_
  refine e_getfield (p' := 4) D_Hist_record_1 F_Hist_18 (by first | assumption | exact sUp_eq | (rw [sUp_ne (by omega)]; assumption) | (rw [sUp_ne (by omega), sUp_ne (by omega)]; assumption) | (rw [sUp_ne (by omega)]; exact sUp_eq) | (rw [gSet_ne (by omega) (by omega)]; first | assumption | exact sUp_eq | (rw [sUp_ne (by omega)]; assumption) | (rw [sUp_ne (by omega), sUp_ne (by omega)]; assumption)) | (simp [sUp]; done)) (by rfl) rfl ?_
  refine e_bipush (v := nI 6) (p' := 6) D_Hist_record_4 cst_bipush_6 rfl ?_
  first | refine e_icmpN_ne (q := 32) (p' := 9) D_Hist_record_6 (by omega) (by omega) rfl rfl (fun hc6 => ?_) (fun hc6 => ?_) | refine e_icmp_ne (q := 32) (p' := 9) D_Hist_record_6 rfl rfl (fun hc6 => ?_) (fun hc6 => ?_)
  ·
    refine sEv.castW (jn32 _ o s.1 ⟨C0, fun _ _ => rfl, ho, by omega, fun z => absurd z hc6, fun _ => ⟨rfl, rfl⟩⟩) ?_ ?_ ?_
    · first | exact lvW_rfl _ | (simp [lvW]; done) | (simp [lvW, *]; done) | (simp [lvW]; omega)
    · rfl
    · first | rfl | (simp; done)
  ·
    refine e_aload_0 (p' := 10) D_Hist_record_9 rfl ?_
    refine e_aload_0 (p' := 11) D_Hist_record_10 rfl ?_
    refine e_getfield (p' := 14) D_Hist_record_11 F_Hist_22 (by first | assumption | exact sUp_eq | (rw [sUp_ne (by omega)]; assumption) | (rw [sUp_ne (by omega), sUp_ne (by omega)]; assumption) | (rw [sUp_ne (by omega)]; exact sUp_eq) | (rw [gSet_ne (by omega) (by omega)]; first | assumption | exact sUp_eq | (rw [sUp_ne (by omega)]; assumption) | (rw [sUp_ne (by omega), sUp_ne (by omega)]; assumption)) | (simp [sUp]; done)) (by rfl) rfl ?_
    refine e_iconst (v := nI 1) (p' := 15) D_Hist_record_14 cst_iconst_1 rfl ?_
    first | refine e_iaddN (p' := 16) D_Hist_record_15 rfl ?_ | refine e_iadd (p' := 16) D_Hist_record_15 rfl ?_
    refine e_bipush (v := nI 6) (p' := 18) D_Hist_record_16 cst_bipush_6 rfl ?_
    first | refine e_iremN (p' := 19) D_Hist_record_18 (by omega) (by omega) (by omega) rfl ?_ | refine e_irem (p' := 19) D_Hist_record_18 (by assumption) rfl ?_
    refine e_putfield (p' := 22) D_Hist_record_19 F_Hist_22 (Or.inl rfl) (by first | assumption | exact sUp_eq | (rw [sUp_ne (by omega)]; assumption) | (rw [sUp_ne (by omega), sUp_ne (by omega)]; assumption) | (rw [sUp_ne (by omega)]; exact sUp_eq) | (rw [gSet_ne (by omega) (by omega)]; first | assumption | exact sUp_eq | (rw [sUp_ne (by omega)]; assumption) | (rw [sUp_ne (by omega), sUp_ne (by omega)]; assumption)) | (simp [sUp]; done)) (fun _ => ⟨rfl, rfl⟩) (Nat.le_of_ble_eq_true rfl) (by rfl) rfl ?_
    try dsimp only [List.set]
    refine e_aload_0 (p' := 23) D_Hist_record_22 rfl ?_
    refine e_dup (p' := 24) D_Hist_record_23 rfl rfl ?_
    refine e_getfield (p' := 27) D_Hist_record_24 F_Hist_18 (by first | assumption | exact sUp_eq | (rw [sUp_ne (by omega)]; assumption) | (rw [sUp_ne (by omega), sUp_ne (by omega)]; assumption) | (rw [sUp_ne (by omega)]; exact sUp_eq) | (rw [gSet_ne (by omega) (by omega)]; first | assumption | exact sUp_eq | (rw [sUp_ne (by omega)]; assumption) | (rw [sUp_ne (by omega), sUp_ne (by omega)]; assumption)) | (simp [sUp]; done)) (by rfl) rfl ?_
    refine e_iconst (v := nI 1) (p' := 28) D_Hist_record_27 cst_iconst_1 rfl ?_
    first | refine e_isubN (p' := 29) D_Hist_record_28 (by omega) rfl ?_ | refine e_isub (p' := 29) D_Hist_record_28 rfl ?_
    refine e_putfield (p' := 32) D_Hist_record_29 F_Hist_18 (Or.inl rfl) (by first | assumption | exact sUp_eq | (rw [sUp_ne (by omega)]; assumption) | (rw [sUp_ne (by omega), sUp_ne (by omega)]; assumption) | (rw [sUp_ne (by omega)]; exact sUp_eq) | (rw [gSet_ne (by omega) (by omega)]; first | assumption | exact sUp_eq | (rw [sUp_ne (by omega)]; assumption) | (rw [sUp_ne (by omega), sUp_ne (by omega)]; assumption)) | (simp [sUp]; done)) (fun _ => ⟨rfl, rfl⟩) (Nat.le_of_ble_eq_true rfl) (by rfl) rfl ?_
    try dsimp only [List.set]
    rw [sUp_sUp]
    refine sEv.castW (jn32 _ ((o + 1) % 6) (s.1 - 1) ⟨HsC.head C0, fun q hq => sUp_ne (by omega), by omega, by omega, fun _ => ⟨by omega, rfl⟩, fun z => absurd hc6 z⟩) ?_ ?_ ?_
    · first | exact lvW_rfl _ | (simp [lvW]; done) | (simp [lvW, *]; done) | (simp [lvW]; omega)
    · rfl
    · first | rfl | (simp; done)
set_option maxRecDepth 4000 in
theorem c_Hist_takeLatest {l : Launch} {h : sH} {s : Hs} (hH : HsAt h s) : sZ l m_Hist_takeLatest 1 [.ref 32] h (fun v h1 => (s.1 = 0 ∧ v = .null ∧ h1 = h) ∨ (s.1 ≠ 0 ∧ (∃ k, k < 6 ∧ v = .ref (34 + 3 * k) ∧ GridAt h1 (34 + 3 * k) (s.2 (s.1 - 1)) ∧ Gok (s.2 (s.1 - 1))) ∧ HsAt h1 (s.1 - 1, s.2) ∧ FrH h h1)) := by
  have hH0 := hH
  obtain ⟨o, f, Y, C, ho, hm, hY⟩ := hH
  have C0 := C
  obtain ⟨c1, c2, c3, c4⟩ := C
  refine en_Hist_takeLatest ?_
  refine e_aload_0 (p' := 1) D_Hist_takeLatest_0 rfl ?_
  refine e_getfield (p' := 4) D_Hist_takeLatest_1 F_Hist_18 (by first | assumption | exact sUp_eq | (rw [sUp_ne (by omega)]; assumption) | (rw [sUp_ne (by omega), sUp_ne (by omega)]; assumption) | (rw [sUp_ne (by omega)]; exact sUp_eq) | (rw [gSet_ne (by omega) (by omega)]; first | assumption | exact sUp_eq | (rw [sUp_ne (by omega)]; assumption) | (rw [sUp_ne (by omega), sUp_ne (by omega)]; assumption)) | (simp [sUp]; done)) (by rfl) rfl ?_
  refine e_ifN_ne (q := 9) (p' := 7) D_Hist_takeLatest_4 (by omega) rfl rfl (fun hc4 => ?_) (fun hc4 => ?_)
  ·
    refine e_aload_0 (p' := 10) D_Hist_takeLatest_9 rfl ?_
    refine e_dup (p' := 11) D_Hist_takeLatest_10 rfl rfl ?_
    refine e_getfield (p' := 14) D_Hist_takeLatest_11 F_Hist_18 (by first | assumption | exact sUp_eq | (rw [sUp_ne (by omega)]; assumption) | (rw [sUp_ne (by omega), sUp_ne (by omega)]; assumption) | (rw [sUp_ne (by omega)]; exact sUp_eq) | (rw [gSet_ne (by omega) (by omega)]; first | assumption | exact sUp_eq | (rw [sUp_ne (by omega)]; assumption) | (rw [sUp_ne (by omega), sUp_ne (by omega)]; assumption)) | (simp [sUp]; done)) (by rfl) rfl ?_
    refine e_iconst (v := nI 1) (p' := 15) D_Hist_takeLatest_14 cst_iconst_1 rfl ?_
    first | refine e_isubN (p' := 16) D_Hist_takeLatest_15 (by omega) rfl ?_ | refine e_isub (p' := 16) D_Hist_takeLatest_15 rfl ?_
    refine e_putfield (p' := 19) D_Hist_takeLatest_16 F_Hist_18 (Or.inl rfl) (by first | assumption | exact sUp_eq | (rw [sUp_ne (by omega)]; assumption) | (rw [sUp_ne (by omega), sUp_ne (by omega)]; assumption) | (rw [sUp_ne (by omega)]; exact sUp_eq) | (rw [gSet_ne (by omega) (by omega)]; first | assumption | exact sUp_eq | (rw [sUp_ne (by omega)]; assumption) | (rw [sUp_ne (by omega), sUp_ne (by omega)]; assumption)) | (simp [sUp]; done)) (fun _ => ⟨rfl, rfl⟩) (Nat.le_of_ble_eq_true rfl) (by rfl) rfl ?_
    try dsimp only [List.set]
    have D0 := HsC.head (o' := o) (m' := s.1 - 1) C0
    have hmd := Nat.mod_lt (o + (s.1 - 1)) (y := 6) (by omega)
    have hyl := hY (s.1 - 1) (by omega)
    refine e_aload_0 (p' := 20) D_Hist_takeLatest_19 rfl ?_
    refine e_aload_0 (p' := 21) D_Hist_takeLatest_20 rfl ?_
    refine e_getfield (p' := 24) D_Hist_takeLatest_21 F_Hist_18 (by first | assumption | exact sUp_eq | (rw [sUp_ne (by omega)]; assumption) | (rw [sUp_ne (by omega), sUp_ne (by omega)]; assumption) | (rw [sUp_ne (by omega)]; exact sUp_eq) | (rw [gSet_ne (by omega) (by omega)]; first | assumption | exact sUp_eq | (rw [sUp_ne (by omega)]; assumption) | (rw [sUp_ne (by omega), sUp_ne (by omega)]; assumption)) | (simp [sUp]; done)) (by rfl) rfl ?_
    refine x_callV1 (p' := 27) D_Hist_takeLatest_24 V_Hist_25 (c_Hist_pastAt D0 ho (by omega)) rfl (by first | assumption | exact sUp_eq | (rw [sUp_ne (by omega)]; assumption) | (rw [sUp_ne (by omega), sUp_ne (by omega)]; assumption) | (rw [sUp_ne (by omega)]; exact sUp_eq) | (rw [gSet_ne (by omega) (by omega)]; first | assumption | exact sUp_eq | (rw [sUp_ne (by omega)]; assumption) | (rw [sUp_ne (by omega), sUp_ne (by omega)]; assumption)) | (simp [sUp]; done)) rfl (Nat.le_of_ble_eq_true rfl) (by decide) ⟨by decide, by decide⟩ rfl ?_
    refine e_areturn D_Hist_takeLatest_27 rfl (by first | exact Or.inl rfl | exact Or.inr ⟨_, rfl⟩) ⟨by decide, by decide⟩ ?_
    exact ⟨_, rfl, Or.inr ⟨hc4, ⟨_, hmd, rfl, by rw [← hyl]; exact (D0.2.2.2 _ hmd).1, by rw [← hyl]; exact (D0.2.2.2 _ hmd).2⟩, ⟨o, f, Y, D0, ho, by show s.1 - 1 ≤ 6; omega, fun i hi => hY i (by have : i < s.1 - 1 := hi; omega)⟩, fun q hq => sUp_ne (by omega)⟩⟩
  ·
    refine e_aconst_null (p' := 8) D_Hist_takeLatest_7 rfl ?_
    refine e_areturn D_Hist_takeLatest_8 rfl (by first | exact Or.inl rfl | exact Or.inr ⟨_, rfl⟩) ⟨by decide, by decide⟩ ?_
    exact ⟨_, rfl, Or.inl ⟨by omega, rfl, rfl⟩⟩
