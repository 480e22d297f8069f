/-! ===== the reference: readPad, fault, read ===== -/
theorem outB {c a b : Nat} (hc : c < 2 ^ 31) (ha : a < 2 ^ 31) (hb : b < 2 ^ 31) : isOut (nI c) (nI a) (nI b) = false ↔ a ≤ c ∧ c ≤ b := by
  unfold isOut
  rw [Bool.or_eq_false_iff, decide_eq_false_iff_not, decide_eq_false_iff_not, nI_ltI hc ha, nI_ltI hb hc]
  omega
theorem notB {b : Bool} (h : (!b) = true) : b = false := by cases b with
  | true => exact absurd h (by decide)
  | false => rfl
theorem notF {b : Bool} (h : (!b) = false) : ¬ b = false := by cases b with
  | true => decide
  | false => exact absurd h (by decide)
def RdG (P : Nat → Nat) (s : Sc) (G : Nat → Int32) : Prop := ∀ r c, (r < s.1 ∧ c < s.2.2) ∨ (r = s.1 ∧ c < s.2.1) → G (6 * r + c) = nI (sgv (P (r * (s.2.2 + 1) + c)) - 1)
theorem RdG_slash {P : Nat → Nat} {s : Sc} {G : Nat → Int32} (h : RdG P s G) (hw : s.1 = 0 ∨ s.2.1 = s.2.2) : RdG P (s.1 + 1, 0, s.2.1) G := by
  intro r c hh
  have hh : (r < s.1 + 1 ∧ c < s.2.1) ∨ (r = s.1 + 1 ∧ c < 0) := hh
  show G (6 * r + c) = nI (sgv (P (r * (s.2.1 + 1) + c)) - 1)
  rcases hw with e | e
  · have r0 : r = 0 := by omega
    subst r0
    have := h 0 c (Or.inr ⟨e.symm, by omega⟩)
    rwa [Nat.zero_mul] at this ⊢
  · rw [e]
    refine h r c ?_
    omega
theorem RdG_sign {P : Nat → Nat} {i : Nat} {s : Sc} {G : Nat → Int32} {v : Int32} (h : RdG P s G) (hs : scR P i = .inr s) (hc : s.2.1 < s.2.2) (hv : v = nI (sgv (P i) - 1)) : RdG P (s.1, s.2.1 + 1, s.2.2) (upd G (6 * s.1 + s.2.1) v) := by
  have ok := scR_ok hs
  intro r c hh
  have hh : (r < s.1 ∧ c < s.2.2) ∨ (r = s.1 ∧ c < s.2.1 + 1) := hh
  show upd G (6 * s.1 + s.2.1) v (6 * r + c) = nI (sgv (P (r * (s.2.2 + 1) + c)) - 1)
  by_cases e : r = s.1 ∧ c = s.2.1
  · rw [e.1, e.2, upd_at, hv]
    congr 4
    by_cases z : s.1 = 0
    · rw [z, Nat.zero_mul, Nat.zero_add]; exact (ok.2.2.2.1 z).2
    · exact (ok.2.2.2.2 (by omega)).2
  · rw [upd_off (by omega)]
    exact h r c (by omega)
theorem scR_pos {P : Nat → Nat} : ∀ (i : Nat) (s : Sc), scR P i = .inr s → ∀ p, p < i → P p = 47 ∨ ∃ r c, ((r < s.1 ∧ c < s.2.2) ∨ (r = s.1 ∧ c < s.2.1)) ∧ p = r * (s.2.2 + 1) + c := by
  intro i
  induction i with
  | zero => intro s _ p hp; omega
  | succ i ih =>
    intro s h p hp
    obtain ⟨t, ht, hs⟩ := scR_prev h
    have ok := scR_ok ht
    unfold scS at hs
    split at hs
    · rename_i e47
      split at hs
      · rename_i hh
        have e := Option.some.inj hs
        subst e
        by_cases ep : p = i
        · rw [ep]; exact Or.inl e47
        · rcases ih t ht p (by omega) with q | ⟨r, c, q1, q2⟩
          · exact Or.inl q
          · refine Or.inr ⟨r, c, ?_, ?_⟩
            · show (r < t.1 + 1 ∧ c < t.2.1) ∨ (r = t.1 + 1 ∧ c < 0)
              omega
            · show p = r * (t.2.1 + 1) + c
              rcases hh.2.1 with z | z
              · have r0 : r = 0 := by omega
                subst r0
                rw [q2, Nat.zero_mul, Nat.zero_mul]
              · rw [z]; exact q2
      · cases hs
    · split at hs
      · cases hs
      · have e := Option.some.inj hs
        subst e
        by_cases ep : p = i
        · refine Or.inr ⟨t.1, t.2.1, Or.inr ⟨rfl, Nat.lt_succ_self _⟩, ?_⟩
          show p = t.1 * (t.2.2 + 1) + t.2.1
          rw [ep]
          by_cases z : t.1 = 0
          · rw [z, Nat.zero_mul, Nat.zero_add]; exact (ok.2.2.2.1 z).2
          · exact (ok.2.2.2.2 (by omega)).2
        · rcases ih t ht p (by omega) with q | ⟨r, c, q1, q2⟩
          · exact Or.inl q
          · refine Or.inr ⟨r, c, ?_, q2⟩
            show (r < t.1 ∧ c < t.2.2) ∨ (r = t.1 ∧ c < t.2.1 + 1)
            omega
theorem mxTo_lt {f : Nat → Nat} {m : Nat} (h0 : 0 < m) : ∀ n, (∀ k, k < n → f k < m) → mxTo f n < m := by
  intro n
  induction n with
  | zero => intro _; exact h0
  | succ n ih => intro h; exact Nat.max_lt.mpr ⟨ih fun k hk => h k (by omega), h n (by omega)⟩
theorem mx_lt {q : Pd} {R C m : Nat} (h : flt q = .inr (R, C)) (h0 : 0 < m) (ha : ∀ r c, r < R → c < C → sgv (q.2 ((C + 1) * r + c)) - 1 < m) : ¬ m ≤ mxTo (fun i => sgv (q.2 i) - 1) q.1 := by
  obtain ⟨h1, h2, h3, h4⟩ := flt_ok h
  refine Nat.not_le.mpr (mxTo_lt h0 _ fun p hp => ?_)
  rcases scR_pos _ _ h3 p hp with e | ⟨r, c, q1, q2⟩
  · rw [e, sgv_47]; exact h0
  · have q1 : (r < R - 1 ∧ c < C) ∨ (r = R - 1 ∧ c < C) := q1
    have q2 : p = r * (C + 1) + c := q2
    rw [q2, Nat.mul_comm r]
    exact ha r c (by omega) (by omega)
theorem fltI_r2 {q : Pd} (hq : PdOk q) (h : fltI q = -6) : ∃ R C, flt q = .inr (R, C) := by
  cases e : flt q with
  | inr s => exact ⟨s.1, s.2, rfl⟩
  | inl i =>
    rw [fltI_l e] at h
    refine absurd h fun w => ?_
    have := congrArg Int32.toInt w
    have l := flt_le hq e
    rw [nI_toInt (by omega)] at this
    have : ((i : Nat) : Int) = -6 := this
    omega
theorem fltI_l2 {q : Pd} (h : ¬ fltI q = -6) : ∃ i, flt q = .inl i := by
  cases e : flt q with
  | inl i => exact ⟨i, rfl⟩
  | inr s => exact absurd (fltI_r e) h
theorem MRest.rd {h h1 : sH} {s : Mr} (H : MRest h s) (hv : ∃ v, h1.2 61 = mO s.1.1 s.2.2.1 v) (hr : ∃ f, h1.2 73 = iA 36 f) (ff : ∀ b, b ≠ 61 → b ≠ 73 → h1.2 b = h.2 b) : MRest h1 s := by
  obtain ⟨_, ⟨f, a2, b2⟩, ⟨f3, a3, b3⟩, ⟨f4, a4, b4⟩, ⟨f5, a5, b5⟩, ⟨f6, f7, f8, f9, a6, a7, a8, a9⟩, ⟨f10, a10⟩, ⟨f11, a11⟩, _⟩ := H
  exact ⟨hv, ⟨f, (ff _ (by omega) (by omega)).trans a2, b2⟩, ⟨f3, (ff _ (by omega) (by omega)).trans a3, b3⟩, ⟨f4, (ff _ (by omega) (by omega)).trans a4, b4⟩, ⟨f5, (ff _ (by omega) (by omega)).trans a5, b5⟩, ⟨f6, f7, f8, f9, (ff _ (by omega) (by omega)).trans a6, (ff _ (by omega) (by omega)).trans a7, (ff _ (by omega) (by omega)).trans a8, (ff _ (by omega) (by omega)).trans a9⟩, ⟨f10, (ff _ (by omega) (by omega)).trans a10⟩, ⟨f11, (ff _ (by omega) (by omega)).trans a11⟩, hr⟩
theorem MRest.ty {h h1 : sH} {s : Mr} (H : MRest h s) {v : mV} (hv : h1.2 61 = mO s.1.1 0 v) (ff : ∀ b, b ≠ 61 → b ≠ 62 → h1.2 b = h.2 b) : MRest h1 (s.1, s.2.1, (0, s.2.2.2)) := by
  obtain ⟨_, ⟨f, a2, b2⟩, ⟨f3, a3, b3⟩, ⟨f4, a4, b4⟩, ⟨f5, a5, b5⟩, ⟨f6, f7, f8, f9, a6, a7, a8, a9⟩, ⟨f10, a10⟩, ⟨f11, a11⟩, ⟨f12, a12⟩⟩ := H
  exact ⟨⟨v, hv⟩, ⟨f, (ff _ (by omega) (by omega)).trans a2, b2⟩, ⟨f3, (ff _ (by omega) (by omega)).trans a3, b3⟩, ⟨f4, (ff _ (by omega) (by omega)).trans a4, b4⟩, ⟨f5, (ff _ (by omega) (by omega)).trans a5, fun i hi => absurd hi (Nat.not_lt_zero _)⟩, ⟨f6, f7, f8, f9, (ff _ (by omega) (by omega)).trans a6, (ff _ (by omega) (by omega)).trans a7, (ff _ (by omega) (by omega)).trans a8, (ff _ (by omega) (by omega)).trans a9⟩, ⟨f10, (ff _ (by omega) (by omega)).trans a10⟩, ⟨f11, (ff _ (by omega) (by omega)).trans a11⟩, ⟨f12, (ff _ (by omega) (by omega)).trans a12⟩⟩
def rv (q : Pd) (C r c : Nat) : Nat := sgv (q.2 ((C + 1) * r + c)) - 1
def rz (q : Pd) (R C p : Nat) : Nat := if p / 6 < R ∧ p % 6 < C then rv q C (p / 6) (p % 6) else 0
theorem rz_in {q : Pd} {R C i j : Nat} (hj : j < 6) (h : i < R ∧ j < C) : rz q R C (6 * i + j) = rv q C i j := by
  unfold rz
  rw [show (6 * i + j) / 6 = i by omega, show (6 * i + j) % 6 = j by omega, if_pos h]
theorem rz_out {q : Pd} {R C i j : Nat} (hj : j < 6) (h : ¬ (i < R ∧ j < C)) : rz q R C (6 * i + j) = 0 := by
  unfold rz
  rw [show (6 * i + j) / 6 = i by omega, show (6 * i + j) % 6 = j by omega, if_neg h]
def zrd (x : Gd) (q : Pd) (R C n : Nat) : Nat → Int32 := fun p => if p < n then nI (rz q R C p) else nF (zN x) p
theorem zrd_s {x : Gd} {q : Pd} {R C n : Nat} {v : Int32} (h : v = nI (rz q R C n)) : upd (zrd x q R C n) n v = zrd x q R C (n + 1) := by
  funext p
  by_cases e : p = n
  · rw [e, upd_at, h]
    exact (if_pos (Nat.lt_succ_self _)).symm
  · rw [upd_off e]
    unfold zrd
    by_cases w : p < n
    · rw [if_pos w, if_pos (by omega)]
    · rw [if_neg w, if_neg (by omega)]
theorem zrd_end {x : Gd} {q : Pd} {R C : Nat} : upd (upd (zrd x q R C 36) 36 (nI R)) 37 (nI C) = nF (zN (rdX q R C x.1.2.2)) := by
  funext p
  by_cases e : p = 37
  · rw [e, upd_at]; rfl
  · rw [upd_off e]
    by_cases e2 : p = 36
    · rw [e2, upd_at]; rfl
    · rw [upd_off e2]
      unfold zrd
      by_cases w : p < 36
      · rw [if_pos w, zP w]
        refine congrArg nI ?_
        show rz q R C p = ptw (fun _ => 0) R C (fun _ _ => true) (fun r c => sgv (q.2 ((C + 1) * r + c)) - 1) R 0 p
        unfold rz ptw
        by_cases u : p / 6 < R ∧ p % 6 < C
        · rw [if_pos u, if_pos ⟨u, Or.inl u.1, rfl⟩]; rfl
        · rw [if_neg u, if_neg (fun z => u z.1)]
      · rw [if_neg w]
        unfold nF zN
        rw [if_neg w, if_neg w, if_neg e2, if_neg e2, if_neg e, if_neg e]
        rfl
theorem zrd_0 {x : Gd} {q : Pd} {R C : Nat} : zrd x q R C 0 = nF (zN x) := funext fun p => if_neg (Nat.not_lt_zero _)
set_option maxRecDepth 4000 in
theorem c_M_recordV {l : Launch} {h : sH} {x : Gd} {s : Mr} (hz : h.2 62 = iA 39 (nF (zN x))) (H : MRest h s) (h6 : s.1.1 ≤ 6) {v : mV} (hm : h.2 61 = mO s.1.1 s.2.2.1 v) : sY l m_M_record 0 [.ref 61] h (none) (fun h1 => ((MRest h1 (recH s.1 x, s.2) ∧ h1.2 62 = iA 39 (nF (zN x))) ∧ FrK h h1) ∧ (h1.2 61 = mO (recH s.1 x).1 s.2.2.1 v ∧ ∀ a, a ≠ 61 → a ≠ 63 → h1.2 a = h.2 a)) := by
  have H0 := H
  obtain ⟨_, ⟨f, a2, b2⟩, ⟨f3, a3, b3⟩, ⟨f4, a4, b4⟩, ⟨f5, a5, b5⟩, ⟨f6, f7, f8, f9, a6, a7, a8, a9⟩, ⟨f10, a10⟩, ⟨f11, a11⟩, ⟨f12, a12⟩⟩ := H
  have a1 := hm
  refine en_M_record ?_
  have jn49 : ∀ (h1 : sH) (m : Nat) (F : Nat → Int32), ((h1.2 61 = mO m s.2.2.1 v ∧ h1.2 63 = iA 234 F) ∧ m < 6 ∧ ((recH s.1 x).1 = m + 1 ∧ (recH s.1 x).2 m = x) ∧ (∀ i, i < m → ∀ k, k < 39 → F (39 * i + k) = nI (zN ((recH s.1 x).2 i) k)) ∧ ∀ a, a ≠ 61 → a ≠ 63 → h1.2 a = h.2 a) → sEv l m_M_record 0 (0, 0, 0, 0) (sKm 0 0 (fun r1 h1 => r1 = none ∧ (fun h1 => ((MRest h1 (recH s.1 x, s.2) ∧ h1.2 62 = iA 39 (nF (zN x))) ∧ FrK h h1) ∧ (h1.2 61 = mO (recH s.1 x).1 s.2.2.1 v ∧ ∀ a, a ≠ 61 → a ≠ 63 → h1.2 a = h.2 a)) h1)) 49 [some (.ref 61), none] [] h1 := by
    rintro h1 m F ⟨⟨k1, k2⟩, hm6, hr1, hF, hfr⟩
    have k3 := (hfr 62 (by omega) (by omega)).trans hz
    refine e_iconst (v := nI 0) (p' := 50) D_M_record_49 cst_iconst_0 rfl ?_
    refine e_istore_1 (p' := 51) D_M_record_50 (Nat.le_of_ble_eq_true rfl) rfl rfl ?_
    have lk51 : ∀ i : Nat, i ≤ 39 → sEv l m_M_record 0 (0, 0, 0, 0) (sKm 0 0 (fun r1 h1 => r1 = none ∧ (fun h1 => ((MRest h1 (recH s.1 x, s.2) ∧ h1.2 62 = iA 39 (nF (zN x))) ∧ FrK h h1) ∧ (h1.2 61 = mO (recH s.1 x).1 s.2.2.1 v ∧ ∀ a, a ≠ 61 → a ≠ 63 → h1.2 a = h.2 a)) h1)) 51 [some (.ref 61), some (.int (nI i))] [] (sUp h1 63 (iA 234 (fun k => if 39 * m ≤ k ∧ k < 39 * m + i then nI (zN x (k - 39 * m)) else F k))) := by
      refine lp_up _ ?_ ?_
      · skip
        refine e_iload_1 (p' := 52) D_M_record_51 rfl ?_
        refine e_bipush (v := nI 39) (p' := 54) D_M_record_52 cst_bipush_39 rfl ?_
        refine e_icmpN_ge (q := 83) (p' := 57) D_M_record_54 (by omega) (by omega) rfl rfl (fun hc54 => ?_) (fun hc54 => ?_)
        ·
          refine e_aload_0 (p' := 84) D_M_record_83 rfl ?_
          refine e_dup (p' := 85) D_M_record_84 rfl rfl ?_
          refine e_getfield (p' := 88) D_M_record_85 F_M_48 (by first | assumption | exact sUp_eq | (rw [sUp_ne (by omega)]; assumption) | (rw [sUp_ne (by omega), sUp_ne (by omega)]; assumption) | (rw [sUp_ne (by omega)]; exact sUp_eq) | (rw [gSet_ne (by omega) (by omega)]; first | assumption | exact sUp_eq | (rw [sUp_ne (by omega)]; assumption) | (rw [sUp_ne (by omega), sUp_ne (by omega)]; assumption)) | (rw [sUp_ne (by omega), sUp_ne (by omega), sUp_ne (by omega)]; assumption) | (simp [sUp]; done)) (by rfl) rfl ?_
          refine e_iconst (v := nI 1) (p' := 89) D_M_record_88 cst_iconst_1 rfl ?_
          first | refine e_iaddN (p' := 90) D_M_record_89 rfl ?_ | refine e_iadd (p' := 90) D_M_record_89 rfl ?_
          refine e_putfield (p' := 93) D_M_record_90 F_M_48 (Or.inl rfl) (by first | assumption | exact sUp_eq | (rw [sUp_ne (by omega)]; assumption) | (rw [sUp_ne (by omega), sUp_ne (by omega)]; assumption) | (rw [sUp_ne (by omega)]; exact sUp_eq) | (rw [gSet_ne (by omega) (by omega)]; first | assumption | exact sUp_eq | (rw [sUp_ne (by omega)]; assumption) | (rw [sUp_ne (by omega), sUp_ne (by omega)]; assumption)) | (rw [sUp_ne (by omega), sUp_ne (by omega), sUp_ne (by omega)]; assumption) | (simp [sUp]; done)) (fun _ => ⟨rfl, rfl⟩) (Nat.le_of_ble_eq_true rfl) (by rfl) rfl ?_
          try dsimp only [List.set]
          refine e_return D_M_record_93 rfl ⟨by decide, by decide⟩ ?_
          refine ⟨rfl, ⟨⟨⟨⟨v, ?_⟩, ⟨_, (sUp_ne (by omega)).trans sUp_eq, ?_⟩, ⟨f3, ?_, b3⟩, ⟨f4, ?_, b4⟩, ⟨f5, ?_, b5⟩, ⟨f6, f7, f8, f9, ?_, ?_, ?_, ?_⟩, ⟨f10, ?_⟩, ⟨f11, ?_⟩, ⟨f12, ?_⟩⟩, ?_⟩, ?_⟩, ?_⟩
          · rw [sUp_eq]; show _ = mO (recH s.1 x).1 s.2.2.1 v; rw [hr1.1]
          · intro i hi k hk
            have hi : i < (recH s.1 x).1 := hi
            show (if _ then _ else _) = nI (zN ((recH s.1 x).2 i) k)
            by_cases e : i = m
            · subst e
              rw [if_pos (by omega), hr1.2, show 39 * i + k - 39 * i = k by omega]
            · rw [if_neg (by omega)]
              exact hF i (by omega) k hk
          · exact (sUp_ne (by omega)).trans ((sUp_ne (by omega)).trans ((hfr _ (by omega) (by omega)).trans a3))
          · exact (sUp_ne (by omega)).trans ((sUp_ne (by omega)).trans ((hfr _ (by omega) (by omega)).trans a4))
          · exact (sUp_ne (by omega)).trans ((sUp_ne (by omega)).trans ((hfr _ (by omega) (by omega)).trans a5))
          · exact (sUp_ne (by omega)).trans ((sUp_ne (by omega)).trans ((hfr _ (by omega) (by omega)).trans a6))
          · exact (sUp_ne (by omega)).trans ((sUp_ne (by omega)).trans ((hfr _ (by omega) (by omega)).trans a7))
          · exact (sUp_ne (by omega)).trans ((sUp_ne (by omega)).trans ((hfr _ (by omega) (by omega)).trans a8))
          · exact (sUp_ne (by omega)).trans ((sUp_ne (by omega)).trans ((hfr _ (by omega) (by omega)).trans a9))
          · exact (sUp_ne (by omega)).trans ((sUp_ne (by omega)).trans ((hfr _ (by omega) (by omega)).trans a10))
          · exact (sUp_ne (by omega)).trans ((sUp_ne (by omega)).trans ((hfr _ (by omega) (by omega)).trans a11))
          · exact (sUp_ne (by omega)).trans ((sUp_ne (by omega)).trans ((hfr _ (by omega) (by omega)).trans a12))
          · exact (sUp_ne (by omega)).trans ((sUp_ne (by omega)).trans ((hfr _ (by omega) (by omega)).trans hz))
          · intro a ha
            exact (sUp_ne (by omega)).trans ((sUp_ne (by omega)).trans (hfr a (by omega) (by omega)))
          · refine ⟨?_, fun a n1 n2 => (sUp_ne n1).trans ((sUp_ne n2).trans (hfr a n1 n2))⟩
            rw [sUp_eq]; show _ = mO (recH s.1 x).1 s.2.2.1 v; rw [hr1.1]
        ·
          exfalso; omega
      · intro i hi ih51 
        refine e_iload_1 (p' := 52) D_M_record_51 rfl ?_
        refine e_bipush (v := nI 39) (p' := 54) D_M_record_52 cst_bipush_39 rfl ?_
        refine e_icmpN_ge (q := 83) (p' := 57) D_M_record_54 (by omega) (by omega) rfl rfl (fun hc54 => ?_) (fun hc54 => ?_)
        ·
          exfalso; omega
        ·
          refine e_aload_0 (p' := 58) D_M_record_57 rfl ?_
          refine e_getfield (p' := 61) D_M_record_58 F_M_13 (by first | assumption | exact sUp_eq | (rw [sUp_ne (by omega)]; assumption) | (rw [sUp_ne (by omega), sUp_ne (by omega)]; assumption) | (rw [sUp_ne (by omega)]; exact sUp_eq) | (rw [gSet_ne (by omega) (by omega)]; first | assumption | exact sUp_eq | (rw [sUp_ne (by omega)]; assumption) | (rw [sUp_ne (by omega), sUp_ne (by omega)]; assumption)) | (rw [sUp_ne (by omega), sUp_ne (by omega), sUp_ne (by omega)]; assumption) | (simp [sUp]; done)) (by rfl) rfl ?_
          refine e_aload_0 (p' := 62) D_M_record_61 rfl ?_
          refine e_getfield (p' := 65) D_M_record_62 F_M_48 (by first | assumption | exact sUp_eq | (rw [sUp_ne (by omega)]; assumption) | (rw [sUp_ne (by omega), sUp_ne (by omega)]; assumption) | (rw [sUp_ne (by omega)]; exact sUp_eq) | (rw [gSet_ne (by omega) (by omega)]; first | assumption | exact sUp_eq | (rw [sUp_ne (by omega)]; assumption) | (rw [sUp_ne (by omega), sUp_ne (by omega)]; assumption)) | (rw [sUp_ne (by omega), sUp_ne (by omega), sUp_ne (by omega)]; assumption) | (simp [sUp]; done)) (by rfl) rfl ?_
          refine e_bipush (v := nI 39) (p' := 67) D_M_record_65 cst_bipush_39 rfl ?_
          first | refine e_imulN (p' := 68) D_M_record_67 rfl ?_ | refine e_imul (p' := 68) D_M_record_67 rfl ?_
          refine e_iload_1 (p' := 69) D_M_record_68 rfl ?_
          first | refine e_iaddN (p' := 70) D_M_record_69 rfl ?_ | refine e_iadd (p' := 70) D_M_record_69 rfl ?_
          refine e_aload_0 (p' := 71) D_M_record_70 rfl ?_
          refine e_getfield (p' := 74) D_M_record_71 F_M_7 (by first | assumption | exact sUp_eq | (rw [sUp_ne (by omega)]; assumption) | (rw [sUp_ne (by omega), sUp_ne (by omega)]; assumption) | (rw [sUp_ne (by omega)]; exact sUp_eq) | (rw [gSet_ne (by omega) (by omega)]; first | assumption | exact sUp_eq | (rw [sUp_ne (by omega)]; assumption) | (rw [sUp_ne (by omega), sUp_ne (by omega)]; assumption)) | (rw [sUp_ne (by omega), sUp_ne (by omega), sUp_ne (by omega)]; assumption) | (simp [sUp]; done)) (by rfl) rfl ?_
          refine e_iload_1 (p' := 75) D_M_record_74 rfl ?_
          refine e_iaload (p' := 76) D_M_record_75 (by first | assumption | exact sUp_eq | (rw [sUp_ne (by omega)]; assumption) | (rw [sUp_ne (by omega), sUp_ne (by omega)]; assumption) | (rw [sUp_ne (by omega)]; exact sUp_eq) | (rw [gSet_ne (by omega) (by omega)]; first | assumption | exact sUp_eq | (rw [sUp_ne (by omega)]; assumption) | (rw [sUp_ne (by omega), sUp_ne (by omega)]; assumption)) | (rw [sUp_ne (by omega), sUp_ne (by omega), sUp_ne (by omega)]; assumption) | (simp [sUp]; done)) (by omega) (by omega) (by rfl) rfl ?_
          refine e_iastore (p' := 77) D_M_record_76 (by first | assumption | exact sUp_eq | (rw [sUp_ne (by omega)]; assumption) | (rw [sUp_ne (by omega), sUp_ne (by omega)]; assumption) | (rw [sUp_ne (by omega)]; exact sUp_eq) | (rw [gSet_ne (by omega) (by omega)]; first | assumption | exact sUp_eq | (rw [sUp_ne (by omega)]; assumption) | (rw [sUp_ne (by omega), sUp_ne (by omega)]; assumption)) | (rw [sUp_ne (by omega), sUp_ne (by omega), sUp_ne (by omega)]; assumption) | (simp [sUp]; done)) (by omega) (by omega) rfl ?_
          first | refine e_iincN_1 (n := 1) (p' := 80) D_M_record_77 (Nat.le_of_ble_eq_true rfl) rfl rfl ?_ | refine e_iinc_1 (p' := 80) D_M_record_77 (Nat.le_of_ble_eq_true rfl) rfl rfl rfl ?_
          refine e_goto (p' := 51) D_M_record_80 rfl ?_
          refine sEv.castW (ih51) ?_ ?_ ?_
          · first | exact lvW_rfl _ | (simp [lvW]; done) | (simp [lvW, *]; done) | (simp [lvW]; omega)
          · rfl
          · rw [sUp_sUp]
            refine sUp_arr fun k => ?_
            by_cases e : k = m * 39 + i
            · subst e
              rw [if_pos (by omega), show m * 39 + i - 39 * m = i by omega]
              exact if_pos rfl
            · unfold upd
              rw [if_neg e]
              dsimp only
              by_cases w : 39 * m ≤ k ∧ k < 39 * m + i
              · rw [if_pos w, if_pos (by omega)]
              · rw [if_neg w, if_neg (by omega)]
    refine sEv.castW (lk51 0 (by omega) ) ?_ ?_ ?_
    · first | exact lvW_rfl _ | (simp [lvW]; done) | (simp [lvW, *]; done) | (simp [lvW]; omega)
    · rfl
    · refine sUp_arrS k2 fun k => ?_
      rw [if_neg (by omega)]
  refine e_aload_0 (p' := 1) D_M_record_0 rfl ?_
  refine e_getfield (p' := 4) D_M_record_1 F_M_48 (by first | assumption | exact sUp_eq | (rw [sUp_ne (by omega)]; assumption) | (rw [sUp_ne (by omega), sUp_ne (by omega)]; assumption) | (rw [sUp_ne (by omega)]; exact sUp_eq) | (rw [gSet_ne (by omega) (by omega)]; first | assumption | exact sUp_eq | (rw [sUp_ne (by omega)]; assumption) | (rw [sUp_ne (by omega), sUp_ne (by omega)]; assumption)) | (rw [sUp_ne (by omega), sUp_ne (by omega), sUp_ne (by omega)]; assumption) | (simp [sUp]; done)) (by rfl) rfl ?_
  refine e_bipush (v := nI 6) (p' := 6) D_M_record_4 cst_bipush_6 rfl ?_
  refine e_icmpN_ne (q := 49) (p' := 9) D_M_record_6 (by omega) (by omega) rfl rfl (fun hc6 => ?_) (fun hc6 => ?_)
  ·
    refine sEv.castW (jn49 _ s.1.1 f ⟨⟨a1, a2⟩, by omega, ⟨by unfold recH; rw [if_neg hc6], by unfold recH; rw [if_neg hc6]; exact if_pos rfl⟩, fun i hi k hk => by rw [b2 i hi k hk]; unfold recH; rw [if_neg hc6]; dsimp only; rw [if_neg (by omega)], fun _ _ _ => rfl⟩) ?_ ?_ ?_
    · first | exact lvW_rfl _ | (simp [lvW]; done) | (simp [lvW, *]; done) | (simp [lvW]; omega)
    · rfl
    · first | rfl | (simp; done)
  ·
    refine e_iconst (v := nI 0) (p' := 10) D_M_record_9 cst_iconst_0 rfl ?_
    refine e_istore_1 (p' := 11) D_M_record_10 (Nat.le_of_ble_eq_true rfl) rfl rfl ?_
    have lk11 : ∀ i : Nat, i ≤ 195 → sEv l m_M_record 0 (0, 0, 0, 0) (sKm 0 0 (fun r1 h1 => r1 = none ∧ (fun h1 => ((MRest h1 (recH s.1 x, s.2) ∧ h1.2 62 = iA 39 (nF (zN x))) ∧ FrK h h1) ∧ (h1.2 61 = mO (recH s.1 x).1 s.2.2.1 v ∧ ∀ a, a ≠ 61 → a ≠ 63 → h1.2 a = h.2 a)) h1)) 11 [some (.ref 61), some (.int (nI i))] [] (sUp h 63 (iA 234 (fun k => if k < i then f (k + 39) else f k))) := by
      refine lp_up _ ?_ ?_
      · skip
        refine e_iload_1 (p' := 12) D_M_record_11 rfl ?_
        refine e_sipush (v := nI 195) (p' := 15) D_M_record_12 cst_sipush_195 rfl ?_
        refine e_icmpN_ge (q := 39) (p' := 18) D_M_record_15 (by omega) (by omega) rfl rfl (fun hc15 => ?_) (fun hc15 => ?_)
        ·
          refine e_aload_0 (p' := 40) D_M_record_39 rfl ?_
          refine e_dup (p' := 41) D_M_record_40 rfl rfl ?_
          refine e_getfield (p' := 44) D_M_record_41 F_M_48 (by first | assumption | exact sUp_eq | (rw [sUp_ne (by omega)]; assumption) | (rw [sUp_ne (by omega), sUp_ne (by omega)]; assumption) | (rw [sUp_ne (by omega)]; exact sUp_eq) | (rw [gSet_ne (by omega) (by omega)]; first | assumption | exact sUp_eq | (rw [sUp_ne (by omega)]; assumption) | (rw [sUp_ne (by omega), sUp_ne (by omega)]; assumption)) | (rw [sUp_ne (by omega), sUp_ne (by omega), sUp_ne (by omega)]; assumption) | (simp [sUp]; done)) (by rfl) rfl ?_
          refine e_iconst (v := nI 1) (p' := 45) D_M_record_44 cst_iconst_1 rfl ?_
          first | refine e_isubN (p' := 46) D_M_record_45 (by omega) rfl ?_ | refine e_isub (p' := 46) D_M_record_45 rfl ?_
          refine e_putfield (p' := 49) D_M_record_46 F_M_48 (Or.inl rfl) (by first | assumption | exact sUp_eq | (rw [sUp_ne (by omega)]; assumption) | (rw [sUp_ne (by omega), sUp_ne (by omega)]; assumption) | (rw [sUp_ne (by omega)]; exact sUp_eq) | (rw [gSet_ne (by omega) (by omega)]; first | assumption | exact sUp_eq | (rw [sUp_ne (by omega)]; assumption) | (rw [sUp_ne (by omega), sUp_ne (by omega)]; assumption)) | (rw [sUp_ne (by omega), sUp_ne (by omega), sUp_ne (by omega)]; assumption) | (simp [sUp]; done)) (fun _ => ⟨rfl, rfl⟩) (Nat.le_of_ble_eq_true rfl) (by rfl) rfl ?_
          try dsimp only [List.set]
          refine sEv.castW (jn49 (sUp (sUp h 63 (iA 234 (fun k => if k < 195 then f (k + 39) else f k))) 61 (mO (s.1.1 - 1) s.2.2.1 v)) (s.1.1 - 1) (fun k => if k < 195 then f (k + 39) else f k) ⟨⟨sUp_eq, (sUp_ne (by omega)).trans sUp_eq⟩, by omega, ⟨by unfold recH; rw [if_pos hc6]; show 6 = s.1.1 - 1 + 1; omega, by unfold recH; rw [if_pos hc6]; exact if_pos (by omega)⟩, fun i hi k hk => by rw [if_pos (by omega), show 39 * i + k + 39 = 39 * (i + 1) + k by omega, b2 (i + 1) (by omega) k hk]; unfold recH; rw [if_pos hc6]; dsimp only; rw [if_neg (by omega)], fun a n1 n2 => (sUp_ne n1).trans (sUp_ne n2)⟩) ?_ ?_ ?_
          · first | exact lvW_rfl _ | (simp [lvW]; done) | (simp [lvW, *]; done) | (simp [lvW]; omega)
          · rfl
          · first | rfl | (simp; done)
        ·
          exfalso; omega
      · intro i hi ih11 
        refine e_iload_1 (p' := 12) D_M_record_11 rfl ?_
        refine e_sipush (v := nI 195) (p' := 15) D_M_record_12 cst_sipush_195 rfl ?_
        refine e_icmpN_ge (q := 39) (p' := 18) D_M_record_15 (by omega) (by omega) rfl rfl (fun hc15 => ?_) (fun hc15 => ?_)
        ·
          exfalso; omega
        ·
          refine e_aload_0 (p' := 19) D_M_record_18 rfl ?_
          refine e_getfield (p' := 22) D_M_record_19 F_M_13 (by first | assumption | exact sUp_eq | (rw [sUp_ne (by omega)]; assumption) | (rw [sUp_ne (by omega), sUp_ne (by omega)]; assumption) | (rw [sUp_ne (by omega)]; exact sUp_eq) | (rw [gSet_ne (by omega) (by omega)]; first | assumption | exact sUp_eq | (rw [sUp_ne (by omega)]; assumption) | (rw [sUp_ne (by omega), sUp_ne (by omega)]; assumption)) | (rw [sUp_ne (by omega), sUp_ne (by omega), sUp_ne (by omega)]; assumption) | (simp [sUp]; done)) (by rfl) rfl ?_
          refine e_iload_1 (p' := 23) D_M_record_22 rfl ?_
          refine e_aload_0 (p' := 24) D_M_record_23 rfl ?_
          refine e_getfield (p' := 27) D_M_record_24 F_M_13 (by first | assumption | exact sUp_eq | (rw [sUp_ne (by omega)]; assumption) | (rw [sUp_ne (by omega), sUp_ne (by omega)]; assumption) | (rw [sUp_ne (by omega)]; exact sUp_eq) | (rw [gSet_ne (by omega) (by omega)]; first | assumption | exact sUp_eq | (rw [sUp_ne (by omega)]; assumption) | (rw [sUp_ne (by omega), sUp_ne (by omega)]; assumption)) | (rw [sUp_ne (by omega), sUp_ne (by omega), sUp_ne (by omega)]; assumption) | (simp [sUp]; done)) (by rfl) rfl ?_
          refine e_iload_1 (p' := 28) D_M_record_27 rfl ?_
          refine e_bipush (v := nI 39) (p' := 30) D_M_record_28 cst_bipush_39 rfl ?_
          first | refine e_iaddN (p' := 31) D_M_record_30 rfl ?_ | refine e_iadd (p' := 31) D_M_record_30 rfl ?_
          refine e_iaload (p' := 32) D_M_record_31 (by first | assumption | exact sUp_eq | (rw [sUp_ne (by omega)]; assumption) | (rw [sUp_ne (by omega), sUp_ne (by omega)]; assumption) | (rw [sUp_ne (by omega)]; exact sUp_eq) | (rw [gSet_ne (by omega) (by omega)]; first | assumption | exact sUp_eq | (rw [sUp_ne (by omega)]; assumption) | (rw [sUp_ne (by omega), sUp_ne (by omega)]; assumption)) | (rw [sUp_ne (by omega), sUp_ne (by omega), sUp_ne (by omega)]; assumption) | (simp [sUp]; done)) (by omega) (by omega) (by rfl) rfl ?_
          refine e_iastore (p' := 33) D_M_record_32 (by first | assumption | exact sUp_eq | (rw [sUp_ne (by omega)]; assumption) | (rw [sUp_ne (by omega), sUp_ne (by omega)]; assumption) | (rw [sUp_ne (by omega)]; exact sUp_eq) | (rw [gSet_ne (by omega) (by omega)]; first | assumption | exact sUp_eq | (rw [sUp_ne (by omega)]; assumption) | (rw [sUp_ne (by omega), sUp_ne (by omega)]; assumption)) | (rw [sUp_ne (by omega), sUp_ne (by omega), sUp_ne (by omega)]; assumption) | (simp [sUp]; done)) (by omega) (by omega) rfl ?_
          first | refine e_iincN_1 (n := 1) (p' := 36) D_M_record_33 (Nat.le_of_ble_eq_true rfl) rfl rfl ?_ | refine e_iinc_1 (p' := 36) D_M_record_33 (Nat.le_of_ble_eq_true rfl) rfl rfl rfl ?_
          refine e_goto (p' := 11) D_M_record_36 rfl ?_
          refine sEv.castW (ih11) ?_ ?_ ?_
          · first | exact lvW_rfl _ | (simp [lvW]; done) | (simp [lvW, *]; done) | (simp [lvW]; omega)
          · rfl
          · rw [sUp_sUp]
            refine sUp_arr fun k => ?_
            by_cases e : k = i
            · subst e; simp [upd]; omega
            · simp [upd, e]; congr 1; simp; omega
    refine sEv.castW (lk11 0 (by omega) ) ?_ ?_ ?_
    · first | exact lvW_rfl _ | (simp [lvW]; done) | (simp [lvW, *]; done) | (simp [lvW]; omega)
    · rfl
    · rw [sUp_self]; simp [a2]
set_option maxRecDepth 4000 in
theorem c_M_numberOf {l : Launch} {h : sH} {c : Nat} (hc : c < 2 ^ 31) : sX l m_M_numberOf 1 [.int (nI c)] h (some (.int (pJ (sgv c)))) (h) := by
  refine en_M_numberOf ?_
  refine e_iload_0 (p' := 1) D_M_numberOf_0 rfl ?_
  refine e_bipush (v := nI 97) (p' := 3) D_M_numberOf_1 cst_bipush_97 rfl ?_
  refine e_bipush (v := nI 99) (p' := 5) D_M_numberOf_3 cst_bipush_99 rfl ?_
  refine x_callS1 (p' := 8) D_M_numberOf_5 S_M_52 (c_M_in) rfl rfl (Nat.le_of_ble_eq_true rfl) (by decide) ⟨by decide, by decide⟩ rfl ?_
  refine e_ifB_eq (q := 19) (p' := 11) D_M_numberOf_8 rfl rfl (fun hc8 => ?_) (fun hc8 => ?_)
  ·
    refine e_iload_0 (p' := 20) D_M_numberOf_19 rfl ?_
    refine e_bipush (v := nI 46) (p' := 22) D_M_numberOf_20 cst_bipush_46 rfl ?_
    refine e_icmpN_ne (q := 29) (p' := 25) D_M_numberOf_22 (by omega) (by omega) rfl rfl (fun hc22 => ?_) (fun hc22 => ?_)
    ·
      refine e_iload_0 (p' := 30) D_M_numberOf_29 rfl ?_
      refine e_bipush (v := nI 49) (p' := 32) D_M_numberOf_30 cst_bipush_49 rfl ?_
      refine e_bipush (v := nI 57) (p' := 34) D_M_numberOf_32 cst_bipush_57 rfl ?_
      refine x_callS1 (p' := 37) D_M_numberOf_34 S_M_52 (c_M_in) rfl rfl (Nat.le_of_ble_eq_true rfl) (by decide) ⟨by decide, by decide⟩ rfl ?_
      refine e_ifB_eq (q := 47) (p' := 40) D_M_numberOf_37 rfl rfl (fun hc37 => ?_) (fun hc37 => ?_)
      ·
        refine e_bipush (v := (-6)) (p' := 49) D_M_numberOf_47 cst_bipush_m6 rfl ?_
        refine e_ireturn (ty := .int) D_M_numberOf_49 rfl (by first | rfl | exact sBo_nar _) ⟨by decide, by decide⟩ ?_
        have o := fun z => notF hc8 ((outB (a := 97) (b := 99) hc (by omega) (by omega)).mpr z)
        have o2 := fun z => notF hc37 ((outB (a := 49) (b := 57) hc (by omega) (by omega)).mpr z)
        exact ⟨by rw [show sgv c = 0 by unfold sgv; rw [if_neg (by omega), if_neg o2, if_neg o]]; rfl, rfl⟩
      ·
        have o3 := (outB hc (by omega) (by omega)).mp (notB hc37)
        refine e_iload_0 (p' := 41) D_M_numberOf_40 rfl ?_
        refine e_bipush (v := nI 48) (p' := 43) D_M_numberOf_41 cst_bipush_48 rfl ?_
        first | refine e_isubN (p' := 44) D_M_numberOf_43 (by omega) rfl ?_ | refine e_isub (p' := 44) D_M_numberOf_43 rfl ?_
        refine e_goto (p' := 49) D_M_numberOf_44 rfl ?_
        refine e_ireturn (ty := .int) D_M_numberOf_49 rfl (by first | rfl | exact sBo_nar _) ⟨by decide, by decide⟩ ?_
        have o2 := (outB hc (by omega) (by omega)).mp (notB hc37)
        exact ⟨by rw [show sgv c = c - 48 + 1 by unfold sgv; rw [if_neg (by omega), if_pos o2]]; rfl, rfl⟩
    ·
      refine e_iconst (v := nI 0) (p' := 26) D_M_numberOf_25 cst_iconst_0 rfl ?_
      refine e_goto (p' := 49) D_M_numberOf_26 rfl ?_
      refine e_ireturn (ty := .int) D_M_numberOf_49 rfl (by first | rfl | exact sBo_nar _) ⟨by decide, by decide⟩ ?_
      exact ⟨by rw [show c = 46 by omega]; rfl, rfl⟩
  ·
    have o := (outB hc (by omega) (by omega)).mp (notB hc8)
    refine e_iload_0 (p' := 12) D_M_numberOf_11 rfl ?_
    refine e_bipush (v := nI 97) (p' := 14) D_M_numberOf_12 cst_bipush_97 rfl ?_
    first | refine e_isubN (p' := 15) D_M_numberOf_14 (by omega) rfl ?_ | refine e_isub (p' := 15) D_M_numberOf_14 rfl ?_
    refine e_bipush (v := nI 10) (p' := 17) D_M_numberOf_15 cst_bipush_10 rfl ?_
    first | refine e_iaddN (p' := 18) D_M_numberOf_17 rfl ?_ | refine e_iadd (p' := 18) D_M_numberOf_17 rfl ?_
    refine e_ireturn (ty := .int) D_M_numberOf_18 rfl (by first | rfl | exact sBo_nar _) ⟨by decide, by decide⟩ ?_
    have o := (outB hc (by omega) (by omega)).mp (notB hc8)
    exact ⟨by rw [show sgv c = c - 97 + 10 + 1 by unfold sgv; rw [if_neg (by omega), if_neg (by omega), if_pos o]]; rfl, rfl⟩
set_option maxRecDepth 4000 in
theorem c_M_readPad {l : Launch} {h : sH} {n : Nat} {q : Pd} (hq : PdOk q) {pm wl ac wk wr wc rr rc : Int32} (hm : h.2 61 = mO n q.1 (pm, wl, ac, wk, wr, wc, rr, rc)) {f5 : Nat → Int32} (a5 : h.2 66 = .inl (1, 50, f5)) (b5 : ∀ i, i < q.1 → f5 i = nI (q.2 i)) (hr : ∃ G, h.2 73 = iA 36 G) : sY l m_M_readPad 2 [.ref 61] h (some (.int (fltI q))) (fun h1 => (∃ rr2 rc2, h1.2 61 = mO n q.1 (pm, wl, ac, wk, wr, wc, rr2, rc2) ∧ ∃ G, h1.2 73 = iA 36 G ∧ ∀ R C, flt q = .inr (R, C) → (rr2 = nI R ∧ rc2 = nI C) ∧ ∀ r c, r < R → c < C → G (6 * r + c) = nI (rv q C r c)) ∧ ∀ b, b ≠ 61 → b ≠ 73 → h1.2 b = h.2 b) := by
  obtain ⟨G0, hG0⟩ := hr
  have q50 := hq.1
  refine en_M_readPad ?_
  refine e_iconst (v := nI 0) (p' := 1) D_M_readPad_0 cst_iconst_0 rfl ?_
  refine e_istore_1 (p' := 2) D_M_readPad_1 (Nat.le_of_ble_eq_true rfl) rfl rfl ?_
  refine e_iconst (v := nI 0) (p' := 3) D_M_readPad_2 cst_iconst_0 rfl ?_
  refine e_istore_2 (p' := 4) D_M_readPad_3 (Nat.le_of_ble_eq_true rfl) rfl rfl ?_
  refine e_aload_0 (p' := 5) D_M_readPad_4 rfl ?_
  refine e_bipush (v := nI 6) (p' := 7) D_M_readPad_5 cst_bipush_6 rfl ?_
  refine e_putfield (p' := 10) D_M_readPad_7 F_M_186 (Or.inl rfl) (by first | assumption | exact sUp_eq | (rw [sUp_ne (by omega)]; assumption) | (rw [sUp_ne (by omega), sUp_ne (by omega)]; assumption) | (rw [sUp_ne (by omega)]; exact sUp_eq) | (rw [gSet_ne (by omega) (by omega)]; first | assumption | exact sUp_eq | (rw [sUp_ne (by omega)]; assumption) | (rw [sUp_ne (by omega), sUp_ne (by omega)]; assumption)) | (rw [sUp_ne (by omega), sUp_ne (by omega), sUp_ne (by omega)]; assumption) | (simp [sUp]; done)) (fun _ => ⟨rfl, rfl⟩) (Nat.le_of_ble_eq_true rfl) (by rfl) rfl ?_
  try dsimp only [List.set]
  refine e_iconst (v := nI 0) (p' := 11) D_M_readPad_10 cst_iconst_0 rfl ?_
  refine e_istore_3 (p' := 12) D_M_readPad_11 (Nat.le_of_ble_eq_true rfl) rfl rfl ?_
  have lk12 : ∀ i : Nat, i ≤ q.1 → ∀ (h1 : sH) (s : Sc), ((scR q.2 i = .inr s ∧ h1.2 61 = mO n q.1 (pm, wl, ac, wk, wr, wc, rr, (nI s.2.2)) ∧ ∃ G, h1.2 73 = iA 36 G ∧ RdG q.2 s G) ∧ ∀ b, b ≠ 61 → b ≠ 73 → h1.2 b = h.2 b) → sEv l m_M_readPad 2 (0, 0, 0, 0) (sKm 0 0 (fun r1 h1 => r1 = some (.int (fltI q)) ∧ (fun h1 => (∃ rr2 rc2, h1.2 61 = mO n q.1 (pm, wl, ac, wk, wr, wc, rr2, rc2) ∧ ∃ G, h1.2 73 = iA 36 G ∧ ∀ R C, flt q = .inr (R, C) → (rr2 = nI R ∧ rc2 = nI C) ∧ ∀ r c, r < R → c < C → G (6 * r + c) = nI (rv q C r c)) ∧ ∀ b, b ≠ 61 → b ≠ 73 → h1.2 b = h.2 b) h1)) 12 [some (.ref 61), some (.int (nI s.1)), some (.int (nI s.2.1)), some (.int (nI i)), none] [] (h1) := by
    refine lp_up _ ?_ ?_
    · intro h1 s ⟨⟨hs, m1, G, G1, GG⟩, FF⟩
      have hok := scR_ok hs
      have c66 := (FF 66 (by omega) (by omega)).trans a5
      refine e_iload_3 (p' := 13) D_M_readPad_12 rfl ?_
      refine e_aload_0 (p' := 14) D_M_readPad_13 rfl ?_
      refine e_getfield (p' := 17) D_M_readPad_14 F_M_137 (by first | assumption | exact sUp_eq | (rw [sUp_ne (by omega)]; assumption) | (rw [sUp_ne (by omega), sUp_ne (by omega)]; assumption) | (rw [sUp_ne (by omega)]; exact sUp_eq) | (rw [gSet_ne (by omega) (by omega)]; first | assumption | exact sUp_eq | (rw [sUp_ne (by omega)]; assumption) | (rw [sUp_ne (by omega), sUp_ne (by omega)]; assumption)) | (rw [sUp_ne (by omega), sUp_ne (by omega), sUp_ne (by omega)]; assumption) | (simp [sUp]; done)) (by rfl) rfl ?_
      refine e_icmpN_ge (q := 130) (p' := 20) D_M_readPad_17 (by omega) (by omega) rfl rfl (fun hc17 => ?_) (fun hc17 => ?_)
      ·
        refine e_aload_0 (p' := 131) D_M_readPad_130 rfl ?_
        refine e_iload_1 (p' := 132) D_M_readPad_131 rfl ?_
        refine e_iconst (v := nI 1) (p' := 133) D_M_readPad_132 cst_iconst_1 rfl ?_
        first | refine e_iaddN (p' := 134) D_M_readPad_133 rfl ?_ | refine e_iadd (p' := 134) D_M_readPad_133 rfl ?_
        refine e_putfield (p' := 137) D_M_readPad_134 F_M_192 (Or.inl rfl) (by first | assumption | exact sUp_eq | (rw [sUp_ne (by omega)]; assumption) | (rw [sUp_ne (by omega), sUp_ne (by omega)]; assumption) | (rw [sUp_ne (by omega)]; exact sUp_eq) | (rw [gSet_ne (by omega) (by omega)]; first | assumption | exact sUp_eq | (rw [sUp_ne (by omega)]; assumption) | (rw [sUp_ne (by omega), sUp_ne (by omega)]; assumption)) | (rw [sUp_ne (by omega), sUp_ne (by omega), sUp_ne (by omega)]; assumption) | (simp [sUp]; done)) (fun _ => ⟨rfl, rfl⟩) (Nat.le_of_ble_eq_true rfl) (by rfl) rfl ?_
        try dsimp only [List.set]
        refine e_iload_1 (p' := 138) D_M_readPad_137 rfl ?_
        refine e_ifN_eq (q := 149) (p' := 141) D_M_readPad_138 (by omega) rfl rfl (fun hc138 => ?_) (fun hc138 => ?_)
        ·
          refine e_aload_0 (p' := 150) D_M_readPad_149 rfl ?_
          refine e_getfield (p' := 153) D_M_readPad_150 F_M_137 (by first | assumption | exact sUp_eq | (rw [sUp_ne (by omega)]; assumption) | (rw [sUp_ne (by omega), sUp_ne (by omega)]; assumption) | (rw [sUp_ne (by omega)]; exact sUp_eq) | (rw [gSet_ne (by omega) (by omega)]; first | assumption | exact sUp_eq | (rw [sUp_ne (by omega)]; assumption) | (rw [sUp_ne (by omega), sUp_ne (by omega)]; assumption)) | (rw [sUp_ne (by omega), sUp_ne (by omega), sUp_ne (by omega)]; assumption) | (simp [sUp]; done)) (by rfl) rfl ?_
          refine e_goto (p' := 158) D_M_readPad_153 rfl ?_
          refine e_ireturn (ty := .int) D_M_readPad_158 rfl (by first | rfl | exact sBo_nar _) ⟨by decide, by decide⟩ ?_
          have hf : flt q = .inl q.1 := by unfold flt; rw [hs]; dsimp only; rw [if_pos (by omega)]
          exact ⟨by rw [fltI_l hf], ⟨_, _, sUp_eq, G, (sUp_ne (by omega)).trans G1, fun R C z => by rw [hf] at z; cases z⟩, fun b n1 n2 => (sUp_ne n1).trans (FF b n1 n2)⟩
        ·
          refine e_iload_2 (p' := 142) D_M_readPad_141 rfl ?_
          refine e_aload_0 (p' := 143) D_M_readPad_142 rfl ?_
          refine e_getfield (p' := 146) D_M_readPad_143 F_M_186 (by first | assumption | exact sUp_eq | (rw [sUp_ne (by omega)]; assumption) | (rw [sUp_ne (by omega), sUp_ne (by omega)]; assumption) | (rw [sUp_ne (by omega)]; exact sUp_eq) | (rw [gSet_ne (by omega) (by omega)]; first | assumption | exact sUp_eq | (rw [sUp_ne (by omega)]; assumption) | (rw [sUp_ne (by omega), sUp_ne (by omega)]; assumption)) | (rw [sUp_ne (by omega), sUp_ne (by omega), sUp_ne (by omega)]; assumption) | (simp [sUp]; done)) (by rfl) rfl ?_
          refine e_icmpN_ge (q := 156) (p' := 149) D_M_readPad_146 (by omega) (by omega) rfl rfl (fun hc146 => ?_) (fun hc146 => ?_)
          ·
            refine e_bipush (v := (-6)) (p' := 158) D_M_readPad_156 cst_bipush_m6 rfl ?_
            refine e_ireturn (ty := .int) D_M_readPad_158 rfl (by first | rfl | exact sBo_nar _) ⟨by decide, by decide⟩ ?_
            have hf : flt q = .inr (s.1 + 1, s.2.2) := by unfold flt; rw [hs]; dsimp only; rw [if_neg (by omega)]
            refine ⟨by rw [fltI_r hf], ⟨_, _, sUp_eq, G, (sUp_ne (by omega)).trans G1, fun R C z => ?_⟩, fun b n1 n2 => (sUp_ne n1).trans (FF b n1 n2)⟩
            rw [hf] at z
            have z2 := Prod.mk.inj (Sum.inr.inj z)
            obtain ⟨rfl, rfl⟩ := z2
            refine ⟨⟨rfl, rfl⟩, fun r c hr hc => ?_⟩
            rw [GG r c (by omega), Nat.mul_comm r]
            rfl
          ·
            refine e_aload_0 (p' := 150) D_M_readPad_149 rfl ?_
            refine e_getfield (p' := 153) D_M_readPad_150 F_M_137 (by first | assumption | exact sUp_eq | (rw [sUp_ne (by omega)]; assumption) | (rw [sUp_ne (by omega), sUp_ne (by omega)]; assumption) | (rw [sUp_ne (by omega)]; exact sUp_eq) | (rw [gSet_ne (by omega) (by omega)]; first | assumption | exact sUp_eq | (rw [sUp_ne (by omega)]; assumption) | (rw [sUp_ne (by omega), sUp_ne (by omega)]; assumption)) | (rw [sUp_ne (by omega), sUp_ne (by omega), sUp_ne (by omega)]; assumption) | (simp [sUp]; done)) (by rfl) rfl ?_
            refine e_goto (p' := 158) D_M_readPad_153 rfl ?_
            refine e_ireturn (ty := .int) D_M_readPad_158 rfl (by first | rfl | exact sBo_nar _) ⟨by decide, by decide⟩ ?_
            have hf : flt q = .inl q.1 := by unfold flt; rw [hs]; dsimp only; rw [if_pos (by omega)]
            exact ⟨by rw [fltI_l hf], ⟨_, _, sUp_eq, G, (sUp_ne (by omega)).trans G1, fun R C z => by rw [hf] at z; cases z⟩, fun b n1 n2 => (sUp_ne n1).trans (FF b n1 n2)⟩
      ·
        exfalso; omega
    · intro i hi ih12 h1 s ⟨⟨hs, m1, G, G1, GG⟩, FF⟩
      have hok := scR_ok hs
      have c66 := (FF 66 (by omega) (by omega)).trans a5
      refine e_iload_3 (p' := 13) D_M_readPad_12 rfl ?_
      refine e_aload_0 (p' := 14) D_M_readPad_13 rfl ?_
      refine e_getfield (p' := 17) D_M_readPad_14 F_M_137 (by first | assumption | exact sUp_eq | (rw [sUp_ne (by omega)]; assumption) | (rw [sUp_ne (by omega), sUp_ne (by omega)]; assumption) | (rw [sUp_ne (by omega)]; exact sUp_eq) | (rw [gSet_ne (by omega) (by omega)]; first | assumption | exact sUp_eq | (rw [sUp_ne (by omega)]; assumption) | (rw [sUp_ne (by omega), sUp_ne (by omega)]; assumption)) | (rw [sUp_ne (by omega), sUp_ne (by omega), sUp_ne (by omega)]; assumption) | (simp [sUp]; done)) (by rfl) rfl ?_
      refine e_icmpN_ge (q := 130) (p' := 20) D_M_readPad_17 (by omega) (by omega) rfl rfl (fun hc17 => ?_) (fun hc17 => ?_)
      ·
        exfalso; omega
      ·
        refine e_aload_0 (p' := 21) D_M_readPad_20 rfl ?_
        refine e_getfield (p' := 24) D_M_readPad_21 F_M_23 (by first | assumption | exact sUp_eq | (rw [sUp_ne (by omega)]; assumption) | (rw [sUp_ne (by omega), sUp_ne (by omega)]; assumption) | (rw [sUp_ne (by omega)]; exact sUp_eq) | (rw [gSet_ne (by omega) (by omega)]; first | assumption | exact sUp_eq | (rw [sUp_ne (by omega)]; assumption) | (rw [sUp_ne (by omega), sUp_ne (by omega)]; assumption)) | (rw [sUp_ne (by omega), sUp_ne (by omega), sUp_ne (by omega)]; assumption) | (simp [sUp]; done)) (by rfl) rfl ?_
        refine e_iload_3 (p' := 25) D_M_readPad_24 rfl ?_
        refine e_caload (p' := 26) D_M_readPad_25 (by first | assumption | exact sUp_eq | (rw [sUp_ne (by omega)]; assumption) | (rw [sUp_ne (by omega), sUp_ne (by omega)]; assumption) | (rw [sUp_ne (by omega)]; exact sUp_eq) | (rw [gSet_ne (by omega) (by omega)]; first | assumption | exact sUp_eq | (rw [sUp_ne (by omega)]; assumption) | (rw [sUp_ne (by omega), sUp_ne (by omega)]; assumption)) | (rw [sUp_ne (by omega), sUp_ne (by omega), sUp_ne (by omega)]; assumption) | (simp [sUp]; done)) (by omega) (by omega) (by rfl) rfl ?_
        rw [b5 i (by omega)]
        have hqi := hq.2 i (by omega)
        refine e_bipush (v := nI 47) (p' := 28) D_M_readPad_26 cst_bipush_47 rfl ?_
        refine e_icmpN_ne (q := 80) (p' := 31) D_M_readPad_28 (by omega) (by omega) rfl rfl (fun hc28 => ?_) (fun hc28 => ?_)
        ·
          refine e_aload_0 (p' := 81) D_M_readPad_80 rfl ?_
          refine e_getfield (p' := 84) D_M_readPad_81 F_M_23 (by first | assumption | exact sUp_eq | (rw [sUp_ne (by omega)]; assumption) | (rw [sUp_ne (by omega), sUp_ne (by omega)]; assumption) | (rw [sUp_ne (by omega)]; exact sUp_eq) | (rw [gSet_ne (by omega) (by omega)]; first | assumption | exact sUp_eq | (rw [sUp_ne (by omega)]; assumption) | (rw [sUp_ne (by omega), sUp_ne (by omega)]; assumption)) | (rw [sUp_ne (by omega), sUp_ne (by omega), sUp_ne (by omega)]; assumption) | (simp [sUp]; done)) (by rfl) rfl ?_
          refine e_iload_3 (p' := 85) D_M_readPad_84 rfl ?_
          refine e_caload (p' := 86) D_M_readPad_85 (by first | assumption | exact sUp_eq | (rw [sUp_ne (by omega)]; assumption) | (rw [sUp_ne (by omega), sUp_ne (by omega)]; assumption) | (rw [sUp_ne (by omega)]; exact sUp_eq) | (rw [gSet_ne (by omega) (by omega)]; first | assumption | exact sUp_eq | (rw [sUp_ne (by omega)]; assumption) | (rw [sUp_ne (by omega), sUp_ne (by omega)]; assumption)) | (rw [sUp_ne (by omega), sUp_ne (by omega), sUp_ne (by omega)]; assumption) | (simp [sUp]; done)) (by omega) (by omega) (by rfl) rfl ?_
          rw [b5 i (by omega)]
          refine x_callS1 (p' := 89) D_M_readPad_86 S_M_189 (c_M_numberOf (by omega)) rfl rfl (Nat.le_of_ble_eq_true rfl) (by decide) ⟨by decide, by decide⟩ rfl ?_
          refine e_istore_4 (p' := 91) D_M_readPad_89 (Nat.le_of_ble_eq_true rfl) rfl rfl ?_
          refine e_iload_4 (p' := 93) D_M_readPad_91 rfl ?_
          refine e_bipush (v := (-6)) (p' := 95) D_M_readPad_93 cst_bipush_m6 rfl ?_
          have hsl := sgv_le (q.2 i)
          refine e_icmp_eq (q := 106) (p' := 98) D_M_readPad_95 rfl rfl (fun hc95 => ?_) (fun hc95 => ?_)
          ·
            refine e_iload_3 (p' := 107) D_M_readPad_106 rfl ?_
            refine e_ireturn (ty := .int) D_M_readPad_107 rfl (by first | rfl | exact sBo_nar _) ⟨by decide, by decide⟩ ?_
            have hb : scS q.2 i s = none := by unfold scS; rw [if_neg hc28, if_pos (Or.inl ((pJ_m6 (by omega)).mp (by first | exact hc95 | exact Classical.not_not.mp hc95)))]
            exact ⟨by rw [fltI_l (flt_bad hi hs hb)], ⟨_, _, m1, G, G1, fun R C z => by rw [flt_bad hi hs hb] at z; cases z⟩, FF⟩
          ·
            refine e_iload_2 (p' := 99) D_M_readPad_98 rfl ?_
            refine e_aload_0 (p' := 100) D_M_readPad_99 rfl ?_
            refine e_getfield (p' := 103) D_M_readPad_100 F_M_186 (by first | assumption | exact sUp_eq | (rw [sUp_ne (by omega)]; assumption) | (rw [sUp_ne (by omega), sUp_ne (by omega)]; assumption) | (rw [sUp_ne (by omega)]; exact sUp_eq) | (rw [gSet_ne (by omega) (by omega)]; first | assumption | exact sUp_eq | (rw [sUp_ne (by omega)]; assumption) | (rw [sUp_ne (by omega), sUp_ne (by omega)]; assumption)) | (rw [sUp_ne (by omega), sUp_ne (by omega), sUp_ne (by omega)]; assumption) | (simp [sUp]; done)) (by rfl) rfl ?_
            refine e_icmpN_ne (q := 108) (p' := 106) D_M_readPad_103 (by omega) (by omega) rfl rfl (fun hc103 => ?_) (fun hc103 => ?_)
            ·
              refine e_aload_0 (p' := 109) D_M_readPad_108 rfl ?_
              refine e_getfield (p' := 112) D_M_readPad_109 F_M_45 (by first | assumption | exact sUp_eq | (rw [sUp_ne (by omega)]; assumption) | (rw [sUp_ne (by omega), sUp_ne (by omega)]; assumption) | (rw [sUp_ne (by omega)]; exact sUp_eq) | (rw [gSet_ne (by omega) (by omega)]; first | assumption | exact sUp_eq | (rw [sUp_ne (by omega)]; assumption) | (rw [sUp_ne (by omega), sUp_ne (by omega)]; assumption)) | (rw [sUp_ne (by omega), sUp_ne (by omega), sUp_ne (by omega)]; assumption) | (simp [sUp]; done)) (by rfl) rfl ?_
              refine e_bipush (v := nI 6) (p' := 114) D_M_readPad_112 cst_bipush_6 rfl ?_
              refine e_iload_1 (p' := 115) D_M_readPad_114 rfl ?_
              first | refine e_imulN (p' := 116) D_M_readPad_115 rfl ?_ | refine e_imul (p' := 116) D_M_readPad_115 rfl ?_
              refine e_iload_2 (p' := 117) D_M_readPad_116 rfl ?_
              first | refine e_iaddN (p' := 118) D_M_readPad_117 rfl ?_ | refine e_iadd (p' := 118) D_M_readPad_117 rfl ?_
              refine e_iload_4 (p' := 120) D_M_readPad_118 rfl ?_
              refine e_iastore (p' := 121) D_M_readPad_120 (by first | assumption | exact sUp_eq | (rw [sUp_ne (by omega)]; assumption) | (rw [sUp_ne (by omega), sUp_ne (by omega)]; assumption) | (rw [sUp_ne (by omega)]; exact sUp_eq) | (rw [gSet_ne (by omega) (by omega)]; first | assumption | exact sUp_eq | (rw [sUp_ne (by omega)]; assumption) | (rw [sUp_ne (by omega), sUp_ne (by omega)]; assumption)) | (rw [sUp_ne (by omega), sUp_ne (by omega), sUp_ne (by omega)]; assumption) | (simp [sUp]; done)) (by omega) (by omega) rfl ?_
              first | refine e_iincN_2 (n := 1) (p' := 124) D_M_readPad_121 (Nat.le_of_ble_eq_true rfl) rfl rfl ?_ | refine e_iinc_2 (p' := 124) D_M_readPad_121 (Nat.le_of_ble_eq_true rfl) rfl rfl rfl ?_
              first | refine e_iincN_3 (n := 1) (p' := 127) D_M_readPad_124 (Nat.le_of_ble_eq_true rfl) rfl rfl ?_ | refine e_iinc_3 (p' := 127) D_M_readPad_124 (Nat.le_of_ble_eq_true rfl) rfl rfl rfl ?_
              refine e_goto (p' := 12) D_M_readPad_127 rfl ?_
              refine sEv.castW (ih12 (sUp h1 73 (iA 36 (upd G (6 * s.1 + s.2.1) (pJ (sgv (q.2 i)))))) (s.1, s.2.1 + 1, s.2.2) ⟨⟨scR_go hs (by unfold scS; rw [if_neg hc28, if_neg (fun z => z.elim (fun z => hc95 ((pJ_m6 (by omega)).mpr z)) (fun z => by omega))]), (sUp_ne (by omega)).trans m1, _, sUp_eq, RdG_sign GG hs (by omega) (if_neg (fun z => hc95 ((pJ_m6 (by omega)).mpr z)))⟩, fun b n1 n2 => (sUp_ne n2).trans (FF b n1 n2)⟩) ?_ ?_ ?_
              · exact ⟨rfl, rfl, rfl, rfl, trivial⟩
              · rfl
              · first | rfl | (simp; done)
            ·
              refine e_iload_3 (p' := 107) D_M_readPad_106 rfl ?_
              refine e_ireturn (ty := .int) D_M_readPad_107 rfl (by first | rfl | exact sBo_nar _) ⟨by decide, by decide⟩ ?_
              have hb : scS q.2 i s = none := by unfold scS; rw [if_neg hc28, if_pos (Or.inr (by omega))]
              exact ⟨by rw [fltI_l (flt_bad hi hs hb)], ⟨_, _, m1, G, G1, fun R C z => by rw [flt_bad hi hs hb] at z; cases z⟩, FF⟩
        ·
          refine e_iload_2 (p' := 32) D_M_readPad_31 rfl ?_
          refine e_iconst (v := nI 2) (p' := 33) D_M_readPad_32 cst_iconst_2 rfl ?_
          refine e_icmpN_lt (q := 57) (p' := 36) D_M_readPad_33 (by omega) (by omega) rfl rfl (fun hc33 => ?_) (fun hc33 => ?_)
          ·
            refine e_iconst (v := nI 0) (p' := 58) D_M_readPad_57 cst_iconst_0 rfl ?_
            refine e_istore_4 (p' := 60) D_M_readPad_58 (Nat.le_of_ble_eq_true rfl) rfl rfl ?_
            refine e_iload_4 (p' := 62) D_M_readPad_60 rfl ?_
            refine e_ifN_ne (q := 67) (p' := 65) D_M_readPad_62 (by omega) rfl rfl (fun hc62 => ?_) (fun hc62 => ?_)
            ·
              exfalso; omega
            ·
              refine e_iload_3 (p' := 66) D_M_readPad_65 rfl ?_
              refine e_ireturn (ty := .int) D_M_readPad_66 rfl (by first | rfl | exact sBo_nar _) ⟨by decide, by decide⟩ ?_
              have hb : scS q.2 i s = none := by unfold scS; rw [if_pos hc28, if_neg (by omega)]
              exact ⟨by rw [fltI_l (flt_bad hi hs hb)], ⟨_, _, m1, G, G1, fun R C z => by rw [flt_bad hi hs hb] at z; cases z⟩, FF⟩
          ·
            refine e_iload_1 (p' := 37) D_M_readPad_36 rfl ?_
            refine e_ifN_eq (q := 48) (p' := 40) D_M_readPad_37 (by omega) rfl rfl (fun hc37 => ?_) (fun hc37 => ?_)
            ·
              refine e_iload_1 (p' := 49) D_M_readPad_48 rfl ?_
              refine e_iconst (v := nI 5) (p' := 50) D_M_readPad_49 cst_iconst_5 rfl ?_
              refine e_icmpN_ge (q := 57) (p' := 53) D_M_readPad_50 (by omega) (by omega) rfl rfl (fun hc50 => ?_) (fun hc50 => ?_)
              ·
                refine e_iconst (v := nI 0) (p' := 58) D_M_readPad_57 cst_iconst_0 rfl ?_
                refine e_istore_4 (p' := 60) D_M_readPad_58 (Nat.le_of_ble_eq_true rfl) rfl rfl ?_
                refine e_iload_4 (p' := 62) D_M_readPad_60 rfl ?_
                refine e_ifN_ne (q := 67) (p' := 65) D_M_readPad_62 (by omega) rfl rfl (fun hc62 => ?_) (fun hc62 => ?_)
                ·
                  exfalso; omega
                ·
                  refine e_iload_3 (p' := 66) D_M_readPad_65 rfl ?_
                  refine e_ireturn (ty := .int) D_M_readPad_66 rfl (by first | rfl | exact sBo_nar _) ⟨by decide, by decide⟩ ?_
                  have hb : scS q.2 i s = none := by unfold scS; rw [if_pos hc28, if_neg (by omega)]
                  exact ⟨by rw [fltI_l (flt_bad hi hs hb)], ⟨_, _, m1, G, G1, fun R C z => by rw [flt_bad hi hs hb] at z; cases z⟩, FF⟩
              ·
                refine e_iconst (v := nI 1) (p' := 54) D_M_readPad_53 cst_iconst_1 rfl ?_
                refine e_goto (p' := 58) D_M_readPad_54 rfl ?_
                refine e_istore_4 (p' := 60) D_M_readPad_58 (Nat.le_of_ble_eq_true rfl) rfl rfl ?_
                refine e_iload_4 (p' := 62) D_M_readPad_60 rfl ?_
                refine e_ifN_ne (q := 67) (p' := 65) D_M_readPad_62 (by omega) rfl rfl (fun hc62 => ?_) (fun hc62 => ?_)
                ·
                  refine e_aload_0 (p' := 68) D_M_readPad_67 rfl ?_
                  refine e_iload_2 (p' := 69) D_M_readPad_68 rfl ?_
                  refine e_putfield (p' := 72) D_M_readPad_69 F_M_186 (Or.inl rfl) (by first | assumption | exact sUp_eq | (rw [sUp_ne (by omega)]; assumption) | (rw [sUp_ne (by omega), sUp_ne (by omega)]; assumption) | (rw [sUp_ne (by omega)]; exact sUp_eq) | (rw [gSet_ne (by omega) (by omega)]; first | assumption | exact sUp_eq | (rw [sUp_ne (by omega)]; assumption) | (rw [sUp_ne (by omega), sUp_ne (by omega)]; assumption)) | (rw [sUp_ne (by omega), sUp_ne (by omega), sUp_ne (by omega)]; assumption) | (simp [sUp]; done)) (fun _ => ⟨rfl, rfl⟩) (Nat.le_of_ble_eq_true rfl) (by rfl) rfl ?_
                  try dsimp only [List.set]
                  first | refine e_iincN_1 (n := 1) (p' := 75) D_M_readPad_72 (Nat.le_of_ble_eq_true rfl) rfl rfl ?_ | refine e_iinc_1 (p' := 75) D_M_readPad_72 (Nat.le_of_ble_eq_true rfl) rfl rfl rfl ?_
                  refine e_iconst (v := nI 0) (p' := 76) D_M_readPad_75 cst_iconst_0 rfl ?_
                  refine e_istore_2 (p' := 77) D_M_readPad_76 (Nat.le_of_ble_eq_true rfl) rfl rfl ?_
                  refine e_goto (p' := 124) D_M_readPad_77 rfl ?_
                  first | refine e_iincN_3 (n := 1) (p' := 127) D_M_readPad_124 (Nat.le_of_ble_eq_true rfl) rfl rfl ?_ | refine e_iinc_3 (p' := 127) D_M_readPad_124 (Nat.le_of_ble_eq_true rfl) rfl rfl rfl ?_
                  refine e_goto (p' := 12) D_M_readPad_127 rfl ?_
                  refine sEv.castW (ih12 (sUp h1 61 (mO n q.1 (pm, wl, ac, wk, wr, wc, rr, (nI s.2.1)))) (s.1 + 1, 0, s.2.1) ⟨⟨scR_go hs (by unfold scS; rw [if_pos hc28, if_pos (by omega)]), sUp_eq, G, (sUp_ne (by omega)).trans G1, RdG_slash GG (by omega)⟩, fun b n1 n2 => (sUp_ne n1).trans (FF b n1 n2)⟩) ?_ ?_ ?_
                  · exact ⟨rfl, rfl, rfl, rfl, trivial⟩
                  · rfl
                  · first | rfl | (simp; done)
                ·
                  exfalso; omega
            ·
              refine e_iload_2 (p' := 41) D_M_readPad_40 rfl ?_
              refine e_aload_0 (p' := 42) D_M_readPad_41 rfl ?_
              refine e_getfield (p' := 45) D_M_readPad_42 F_M_186 (by first | assumption | exact sUp_eq | (rw [sUp_ne (by omega)]; assumption) | (rw [sUp_ne (by omega), sUp_ne (by omega)]; assumption) | (rw [sUp_ne (by omega)]; exact sUp_eq) | (rw [gSet_ne (by omega) (by omega)]; first | assumption | exact sUp_eq | (rw [sUp_ne (by omega)]; assumption) | (rw [sUp_ne (by omega), sUp_ne (by omega)]; assumption)) | (rw [sUp_ne (by omega), sUp_ne (by omega), sUp_ne (by omega)]; assumption) | (simp [sUp]; done)) (by rfl) rfl ?_
              refine e_icmpN_ne (q := 57) (p' := 48) D_M_readPad_45 (by omega) (by omega) rfl rfl (fun hc45 => ?_) (fun hc45 => ?_)
              ·
                refine e_iconst (v := nI 0) (p' := 58) D_M_readPad_57 cst_iconst_0 rfl ?_
                refine e_istore_4 (p' := 60) D_M_readPad_58 (Nat.le_of_ble_eq_true rfl) rfl rfl ?_
                refine e_iload_4 (p' := 62) D_M_readPad_60 rfl ?_
                refine e_ifN_ne (q := 67) (p' := 65) D_M_readPad_62 (by omega) rfl rfl (fun hc62 => ?_) (fun hc62 => ?_)
                ·
                  exfalso; omega
                ·
                  refine e_iload_3 (p' := 66) D_M_readPad_65 rfl ?_
                  refine e_ireturn (ty := .int) D_M_readPad_66 rfl (by first | rfl | exact sBo_nar _) ⟨by decide, by decide⟩ ?_
                  have hb : scS q.2 i s = none := by unfold scS; rw [if_pos hc28, if_neg (by omega)]
                  exact ⟨by rw [fltI_l (flt_bad hi hs hb)], ⟨_, _, m1, G, G1, fun R C z => by rw [flt_bad hi hs hb] at z; cases z⟩, FF⟩
              ·
                refine e_iload_1 (p' := 49) D_M_readPad_48 rfl ?_
                refine e_iconst (v := nI 5) (p' := 50) D_M_readPad_49 cst_iconst_5 rfl ?_
                refine e_icmpN_ge (q := 57) (p' := 53) D_M_readPad_50 (by omega) (by omega) rfl rfl (fun hc50 => ?_) (fun hc50 => ?_)
                ·
                  refine e_iconst (v := nI 0) (p' := 58) D_M_readPad_57 cst_iconst_0 rfl ?_
                  refine e_istore_4 (p' := 60) D_M_readPad_58 (Nat.le_of_ble_eq_true rfl) rfl rfl ?_
                  refine e_iload_4 (p' := 62) D_M_readPad_60 rfl ?_
                  refine e_ifN_ne (q := 67) (p' := 65) D_M_readPad_62 (by omega) rfl rfl (fun hc62 => ?_) (fun hc62 => ?_)
                  ·
                    exfalso; omega
                  ·
                    refine e_iload_3 (p' := 66) D_M_readPad_65 rfl ?_
                    refine e_ireturn (ty := .int) D_M_readPad_66 rfl (by first | rfl | exact sBo_nar _) ⟨by decide, by decide⟩ ?_
                    have hb : scS q.2 i s = none := by unfold scS; rw [if_pos hc28, if_neg (by omega)]
                    exact ⟨by rw [fltI_l (flt_bad hi hs hb)], ⟨_, _, m1, G, G1, fun R C z => by rw [flt_bad hi hs hb] at z; cases z⟩, FF⟩
                ·
                  refine e_iconst (v := nI 1) (p' := 54) D_M_readPad_53 cst_iconst_1 rfl ?_
                  refine e_goto (p' := 58) D_M_readPad_54 rfl ?_
                  refine e_istore_4 (p' := 60) D_M_readPad_58 (Nat.le_of_ble_eq_true rfl) rfl rfl ?_
                  refine e_iload_4 (p' := 62) D_M_readPad_60 rfl ?_
                  refine e_ifN_ne (q := 67) (p' := 65) D_M_readPad_62 (by omega) rfl rfl (fun hc62 => ?_) (fun hc62 => ?_)
                  ·
                    refine e_aload_0 (p' := 68) D_M_readPad_67 rfl ?_
                    refine e_iload_2 (p' := 69) D_M_readPad_68 rfl ?_
                    refine e_putfield (p' := 72) D_M_readPad_69 F_M_186 (Or.inl rfl) (by first | assumption | exact sUp_eq | (rw [sUp_ne (by omega)]; assumption) | (rw [sUp_ne (by omega), sUp_ne (by omega)]; assumption) | (rw [sUp_ne (by omega)]; exact sUp_eq) | (rw [gSet_ne (by omega) (by omega)]; first | assumption | exact sUp_eq | (rw [sUp_ne (by omega)]; assumption) | (rw [sUp_ne (by omega), sUp_ne (by omega)]; assumption)) | (rw [sUp_ne (by omega), sUp_ne (by omega), sUp_ne (by omega)]; assumption) | (simp [sUp]; done)) (fun _ => ⟨rfl, rfl⟩) (Nat.le_of_ble_eq_true rfl) (by rfl) rfl ?_
                    try dsimp only [List.set]
                    first | refine e_iincN_1 (n := 1) (p' := 75) D_M_readPad_72 (Nat.le_of_ble_eq_true rfl) rfl rfl ?_ | refine e_iinc_1 (p' := 75) D_M_readPad_72 (Nat.le_of_ble_eq_true rfl) rfl rfl rfl ?_
                    refine e_iconst (v := nI 0) (p' := 76) D_M_readPad_75 cst_iconst_0 rfl ?_
                    refine e_istore_2 (p' := 77) D_M_readPad_76 (Nat.le_of_ble_eq_true rfl) rfl rfl ?_
                    refine e_goto (p' := 124) D_M_readPad_77 rfl ?_
                    first | refine e_iincN_3 (n := 1) (p' := 127) D_M_readPad_124 (Nat.le_of_ble_eq_true rfl) rfl rfl ?_ | refine e_iinc_3 (p' := 127) D_M_readPad_124 (Nat.le_of_ble_eq_true rfl) rfl rfl rfl ?_
                    refine e_goto (p' := 12) D_M_readPad_127 rfl ?_
                    refine sEv.castW (ih12 (sUp h1 61 (mO n q.1 (pm, wl, ac, wk, wr, wc, rr, (nI s.2.1)))) (s.1 + 1, 0, s.2.1) ⟨⟨scR_go hs (by unfold scS; rw [if_pos hc28, if_pos (by omega)]), sUp_eq, G, (sUp_ne (by omega)).trans G1, RdG_slash GG (by omega)⟩, fun b n1 n2 => (sUp_ne n1).trans (FF b n1 n2)⟩) ?_ ?_ ?_
                    · exact ⟨rfl, rfl, rfl, rfl, trivial⟩
                    · rfl
                    · first | rfl | (simp; done)
                  ·
                    exfalso; omega
  refine sEv.castW (lk12 0 (by omega) _ (0, 0, 6) ⟨⟨rfl, sUp_eq, G0, (sUp_ne (by omega)).trans hG0, fun r c hh => by rcases hh with hh | hh; exact absurd hh.1 (Nat.not_lt_zero _); exact absurd hh.2 (Nat.not_lt_zero _)⟩, fun b n1 n2 => sUp_ne n1⟩) ?_ ?_ ?_
  · exact ⟨rfl, rfl, rfl, rfl, trivial⟩
  · rfl
  · first | rfl | (simp; done)
set_option maxRecDepth 4000 in
theorem c_M_fault {l : Launch} {h : sH} {st : St} (hI : MInv h st) (hS : StOk st) : sY l m_M_fault 3 [.ref 61] h (some (.int (fltI st.2.2.2))) (MR h st) := by
  have hI0 := hI
  obtain ⟨hz, H⟩ := hI
  have H0 := H
  have hx := hS.1
  have hM := hx.2.2.1.le
  have hRr := hx.1
  have hCc := hx.2.1
  have hh6 := hS.2.1.1
  obtain ⟨⟨v, a1⟩, ⟨f, a2, b2⟩, ⟨f3, a3, b3⟩, ⟨f4, a4, b4⟩, ⟨f5, a5, b5⟩, ⟨f6, f7, f8, f9, a6, a7, a8, a9⟩, ⟨f10, a10⟩, ⟨f11, a11⟩, ⟨f12, a12⟩⟩ := H
  have hq := hS.2.2.2
  obtain ⟨pm, wl, ac, wk, wr, wc, rr, rc⟩ := v
  refine en_M_fault ?_
  refine e_aload_0 (p' := 1) D_M_fault_0 rfl ?_
  refine y_callV1 (p' := 4) D_M_fault_1 V_M_195 (c_M_readPad hq a1 a5 b5 ⟨f12, a12⟩) rfl (by first | assumption | exact sUp_eq | (rw [sUp_ne (by omega)]; assumption) | (rw [sUp_ne (by omega), sUp_ne (by omega)]; assumption) | (rw [sUp_ne (by omega)]; exact sUp_eq) | (rw [gSet_ne (by omega) (by omega)]; first | assumption | exact sUp_eq | (rw [sUp_ne (by omega)]; assumption) | (rw [sUp_ne (by omega), sUp_ne (by omega)]; assumption)) | (rw [sUp_ne (by omega), sUp_ne (by omega), sUp_ne (by omega)]; assumption) | (simp [sUp]; done)) rfl (Nat.le_of_ble_eq_true rfl) (by decide) ⟨by decide, by decide⟩ rfl ?_
  rintro h1 ⟨⟨rr2, rc2, m1, G, G1, GG⟩, FF⟩
  have R1 := H0.rd ⟨_, m1⟩ ⟨G, G1⟩ FF
  have Z1 := (FF 62 (by omega) (by omega)).trans hz
  have K1 : FrK h h1 := fun a ha => FF a (by omega) (by omega)
  refine e_ireturn (ty := .int) D_M_fault_4 rfl (by first | rfl | exact sBo_nar _) ⟨by decide, by decide⟩ ?_
  exact ⟨rfl, ⟨Z1, R1⟩, K1⟩
set_option maxRecDepth 4000 in
theorem c_M_read {l : Launch} {h : sH} {st : St} (hI : MInv h st) (hS : StOk st) : sY l m_M_read 4 [.ref 61] h (some (.int (Sread st).1)) (MR h (Sread st).2) := by
  have hI0 := hI
  obtain ⟨hz, H⟩ := hI
  have H0 := H
  have hx := hS.1
  have hM := hx.2.2.1.le
  have hRr := hx.1
  have hCc := hx.2.1
  have hh6 := hS.2.1.1
  obtain ⟨⟨v, a1⟩, ⟨f, a2, b2⟩, ⟨f3, a3, b3⟩, ⟨f4, a4, b4⟩, ⟨f5, a5, b5⟩, ⟨f6, f7, f8, f9, a6, a7, a8, a9⟩, ⟨f10, a10⟩, ⟨f11, a11⟩, ⟨f12, a12⟩⟩ := H
  have hq := hS.2.2.2
  obtain ⟨pm, wl, ac, wk, wr, wc, rr, rc⟩ := v
  refine en_M_read ?_
  refine e_aload_0 (p' := 1) D_M_read_0 rfl ?_
  refine y_callV1 (p' := 4) D_M_read_1 V_M_195 (c_M_readPad hq a1 a5 b5 ⟨f12, a12⟩) rfl (by first | assumption | exact sUp_eq | (rw [sUp_ne (by omega)]; assumption) | (rw [sUp_ne (by omega), sUp_ne (by omega)]; assumption) | (rw [sUp_ne (by omega)]; exact sUp_eq) | (rw [gSet_ne (by omega) (by omega)]; first | assumption | exact sUp_eq | (rw [sUp_ne (by omega)]; assumption) | (rw [sUp_ne (by omega), sUp_ne (by omega)]; assumption)) | (rw [sUp_ne (by omega), sUp_ne (by omega), sUp_ne (by omega)]; assumption) | (simp [sUp]; done)) rfl (Nat.le_of_ble_eq_true rfl) (by decide) ⟨by decide, by decide⟩ rfl ?_
  rintro h1 ⟨⟨rr2, rc2, m1, G, G1, GG⟩, FF⟩
  have R1 := H0.rd ⟨_, m1⟩ ⟨G, G1⟩ FF
  have Z1 := (FF 62 (by omega) (by omega)).trans hz
  have K1 : FrK h h1 := fun a ha => FF a (by omega) (by omega)
  refine e_bipush (v := (-6)) (p' := 6) D_M_read_4 cst_bipush_m6 rfl ?_
  refine e_icmp_eq (q := 12) (p' := 9) D_M_read_6 rfl rfl (fun hc6 => ?_) (fun hc6 => ?_)
  ·
    obtain ⟨R, C, fe⟩ := fltI_r2 hq (by first | exact hc6 | exact Classical.not_not.mp hc6)
    obtain ⟨⟨er, ec⟩, GQ⟩ := GG R C fe
    subst er
    subst ec
    have fo := flt_ok fe
    refine e_iconst (v := nI 0) (p' := 13) D_M_read_12 cst_iconst_0 rfl ?_
    refine e_istore_1 (p' := 14) D_M_read_13 (Nat.le_of_ble_eq_true rfl) rfl rfl ?_
    have lk14 : ∀ i : Nat, i ≤ R → (∀ r c, r < i → c < C → rv st.2.2.2 C r c < st.1.1.2.2) → sEv l m_M_read 4 (0, 0, 0, 0) (sKm 0 0 (fun r1 h1 => r1 = some (.int (Sread st).1) ∧ (MR h (Sread st).2) h1)) 14 [some (.ref 61), some (.int (nI i)), none] [] (h1) := by
      refine lp_up _ ?_ ?_
      · intro al
        refine e_iload_1 (p' := 15) D_M_read_14 rfl ?_
        refine e_aload_0 (p' := 16) D_M_read_15 rfl ?_
        refine e_getfield (p' := 19) D_M_read_16 F_M_192 (by first | assumption | exact sUp_eq | (rw [sUp_ne (by omega)]; assumption) | (rw [sUp_ne (by omega), sUp_ne (by omega)]; assumption) | (rw [sUp_ne (by omega)]; exact sUp_eq) | (rw [gSet_ne (by omega) (by omega)]; first | assumption | exact sUp_eq | (rw [sUp_ne (by omega)]; assumption) | (rw [sUp_ne (by omega), sUp_ne (by omega)]; assumption)) | (rw [sUp_ne (by omega), sUp_ne (by omega), sUp_ne (by omega)]; assumption) | (simp [sUp]; done)) (by rfl) rfl ?_
        refine e_icmpN_ge (q := 68) (p' := 22) D_M_read_19 (by omega) (by omega) rfl rfl (fun hc19 => ?_) (fun hc19 => ?_)
        ·
          refine e_aload_0 (p' := 69) D_M_read_68 rfl ?_
          have nmx := mx_lt fe (m := st.1.1.2.2) (by omega) al
          have gok : Gok (rdX st.2.2.2 R C st.1.1.2.2) := rdX_ok fe hx.2.2.1 nmx
          refine y_callV0 (p' := 72) D_M_read_69 V_M_60 (c_M_recordV Z1 R1 hh6 m1) rfl (by first | assumption | exact sUp_eq | (rw [sUp_ne (by omega)]; assumption) | (rw [sUp_ne (by omega), sUp_ne (by omega)]; assumption) | (rw [sUp_ne (by omega)]; exact sUp_eq) | (rw [gSet_ne (by omega) (by omega)]; first | assumption | exact sUp_eq | (rw [sUp_ne (by omega)]; assumption) | (rw [sUp_ne (by omega), sUp_ne (by omega)]; assumption)) | (rw [sUp_ne (by omega), sUp_ne (by omega), sUp_ne (by omega)]; assumption) | (simp [sUp]; done)) rfl (Nat.le_of_ble_eq_true rfl) (by decide) ⟨by decide, by decide⟩ rfl ?_
          rintro h2 ⟨⟨⟨R2, Z2⟩, K2⟩, m2, F2⟩
          have c73 := (F2 73 (by omega) (by omega)).trans G1
          refine e_iconst (v := nI 0) (p' := 73) D_M_read_72 cst_iconst_0 rfl ?_
          refine e_istore_1 (p' := 74) D_M_read_73 (Nat.le_of_ble_eq_true rfl) rfl rfl ?_
          have lk74 : ∀ i : Nat, i ≤ 6 → sEv l m_M_read 4 (0, 0, 0, 0) (sKm 0 0 (fun r1 h1 => r1 = some (.int (Sread st).1) ∧ (MR h (Sread st).2) h1)) 74 [some (.ref 61), some (.int (nI i)), none] [] (sUp h2 62 (iA 39 (zrd st.1 st.2.2.2 R C (6 * i)))) := by
            refine lp_up _ ?_ ?_
            · skip
              refine e_iload_1 (p' := 75) D_M_read_74 rfl ?_
              refine e_bipush (v := nI 6) (p' := 77) D_M_read_75 cst_bipush_6 rfl ?_
              refine e_icmpN_ge (q := 142) (p' := 80) D_M_read_77 (by omega) (by omega) rfl rfl (fun hc77 => ?_) (fun hc77 => ?_)
              ·
                refine e_aload_0 (p' := 143) D_M_read_142 rfl ?_
                refine e_getfield (p' := 146) D_M_read_143 F_M_7 (by first | assumption | exact sUp_eq | (rw [sUp_ne (by omega)]; assumption) | (rw [sUp_ne (by omega), sUp_ne (by omega)]; assumption) | (rw [sUp_ne (by omega)]; exact sUp_eq) | (rw [gSet_ne (by omega) (by omega)]; first | assumption | exact sUp_eq | (rw [sUp_ne (by omega)]; assumption) | (rw [sUp_ne (by omega), sUp_ne (by omega)]; assumption)) | (rw [sUp_ne (by omega), sUp_ne (by omega), sUp_ne (by omega)]; assumption) | (simp [sUp]; done)) (by rfl) rfl ?_
                refine e_bipush (v := nI 36) (p' := 148) D_M_read_146 cst_bipush_36 rfl ?_
                refine e_aload_0 (p' := 149) D_M_read_148 rfl ?_
                refine e_getfield (p' := 152) D_M_read_149 F_M_192 (by first | assumption | exact sUp_eq | (rw [sUp_ne (by omega)]; assumption) | (rw [sUp_ne (by omega), sUp_ne (by omega)]; assumption) | (rw [sUp_ne (by omega)]; exact sUp_eq) | (rw [gSet_ne (by omega) (by omega)]; first | assumption | exact sUp_eq | (rw [sUp_ne (by omega)]; assumption) | (rw [sUp_ne (by omega), sUp_ne (by omega)]; assumption)) | (rw [sUp_ne (by omega), sUp_ne (by omega), sUp_ne (by omega)]; assumption) | (simp [sUp]; done)) (by rfl) rfl ?_
                refine e_iastore (p' := 153) D_M_read_152 (by first | assumption | exact sUp_eq | (rw [sUp_ne (by omega)]; assumption) | (rw [sUp_ne (by omega), sUp_ne (by omega)]; assumption) | (rw [sUp_ne (by omega)]; exact sUp_eq) | (rw [gSet_ne (by omega) (by omega)]; first | assumption | exact sUp_eq | (rw [sUp_ne (by omega)]; assumption) | (rw [sUp_ne (by omega), sUp_ne (by omega)]; assumption)) | (rw [sUp_ne (by omega), sUp_ne (by omega), sUp_ne (by omega)]; assumption) | (simp [sUp]; done)) (by omega) (by omega) rfl ?_
                refine e_aload_0 (p' := 154) D_M_read_153 rfl ?_
                refine e_getfield (p' := 157) D_M_read_154 F_M_7 (by first | assumption | exact sUp_eq | (rw [sUp_ne (by omega)]; assumption) | (rw [sUp_ne (by omega), sUp_ne (by omega)]; assumption) | (rw [sUp_ne (by omega)]; exact sUp_eq) | (rw [gSet_ne (by omega) (by omega)]; first | assumption | exact sUp_eq | (rw [sUp_ne (by omega)]; assumption) | (rw [sUp_ne (by omega), sUp_ne (by omega)]; assumption)) | (rw [sUp_ne (by omega), sUp_ne (by omega), sUp_ne (by omega)]; assumption) | (simp [sUp]; done)) (by rfl) rfl ?_
                refine e_bipush (v := nI 37) (p' := 159) D_M_read_157 cst_bipush_37 rfl ?_
                refine e_aload_0 (p' := 160) D_M_read_159 rfl ?_
                refine e_getfield (p' := 163) D_M_read_160 F_M_186 (by first | assumption | exact sUp_eq | (rw [sUp_ne (by omega)]; assumption) | (rw [sUp_ne (by omega), sUp_ne (by omega)]; assumption) | (rw [sUp_ne (by omega)]; exact sUp_eq) | (rw [gSet_ne (by omega) (by omega)]; first | assumption | exact sUp_eq | (rw [sUp_ne (by omega)]; assumption) | (rw [sUp_ne (by omega), sUp_ne (by omega)]; assumption)) | (rw [sUp_ne (by omega), sUp_ne (by omega), sUp_ne (by omega)]; assumption) | (simp [sUp]; done)) (by rfl) rfl ?_
                refine e_iastore (p' := 164) D_M_read_163 (by first | assumption | exact sUp_eq | (rw [sUp_ne (by omega)]; assumption) | (rw [sUp_ne (by omega), sUp_ne (by omega)]; assumption) | (rw [sUp_ne (by omega)]; exact sUp_eq) | (rw [gSet_ne (by omega) (by omega)]; first | assumption | exact sUp_eq | (rw [sUp_ne (by omega)]; assumption) | (rw [sUp_ne (by omega), sUp_ne (by omega)]; assumption)) | (rw [sUp_ne (by omega), sUp_ne (by omega), sUp_ne (by omega)]; assumption) | (simp [sUp]; done)) (by omega) (by omega) rfl ?_
                refine e_aload_0 (p' := 165) D_M_read_164 rfl ?_
                refine e_iconst (v := nI 0) (p' := 166) D_M_read_165 cst_iconst_0 rfl ?_
                refine e_putfield (p' := 169) D_M_read_166 F_M_137 (Or.inl rfl) (by first | assumption | exact sUp_eq | (rw [sUp_ne (by omega)]; assumption) | (rw [sUp_ne (by omega), sUp_ne (by omega)]; assumption) | (rw [sUp_ne (by omega)]; exact sUp_eq) | (rw [gSet_ne (by omega) (by omega)]; first | assumption | exact sUp_eq | (rw [sUp_ne (by omega)]; assumption) | (rw [sUp_ne (by omega), sUp_ne (by omega)]; assumption)) | (rw [sUp_ne (by omega), sUp_ne (by omega), sUp_ne (by omega)]; assumption) | (simp [sUp]; done)) (fun _ => ⟨rfl, rfl⟩) (Nat.le_of_ble_eq_true rfl) (by rfl) rfl ?_
                try dsimp only [List.set]
                refine e_aload_0 (p' := 170) D_M_read_169 rfl ?_
                refine x_callV1 (p' := 173) D_M_read_170 V_M_56 (c_M_toldMany (n := (recH st.2.1 st.1).1) (t := 0) (v := (pm, wl, ac, wk, wr, wc, nI R, nI C)) sUp_eq ((sUp_ne (by omega)).trans (sUp_eq.trans (congrArg (iA 39) zrd_end))) gok) rfl (by first | assumption | exact sUp_eq | (rw [sUp_ne (by omega)]; assumption) | (rw [sUp_ne (by omega), sUp_ne (by omega)]; assumption) | (rw [sUp_ne (by omega)]; exact sUp_eq) | (rw [gSet_ne (by omega) (by omega)]; first | assumption | exact sUp_eq | (rw [sUp_ne (by omega)]; assumption) | (rw [sUp_ne (by omega), sUp_ne (by omega)]; assumption)) | (rw [sUp_ne (by omega), sUp_ne (by omega), sUp_ne (by omega)]; assumption) | (simp [sUp]; done)) rfl (Nat.le_of_ble_eq_true rfl) (by decide) ⟨by decide, by decide⟩ rfl ?_
                refine e_ireturn (ty := .int) D_M_read_173 rfl (by first | rfl | exact sBo_nar _) ⟨by decide, by decide⟩ ?_
                unfold Sread; rw [fe]; dsimp only; rw [if_neg nmx]
                refine ⟨rfl, ⟨(sUp_ne (by omega)).trans (sUp_eq.trans (congrArg (iA 39) zrd_end)), R2.ty (v := (pm, wl, ac, wk, wr, wc, nI R, nI C)) sUp_eq (fun b n1 n2 => (sUp_ne n1).trans ((sUp_ne n2).trans ((sUp_ne n2).trans (sUp_ne n2))))⟩, fun b hb => ?_⟩
                exact (sUp_ne (by omega)).trans ((sUp_ne (by omega)).trans ((sUp_ne (by omega)).trans ((sUp_ne (by omega)).trans ((K2 b hb).trans (K1 b hb)))))
              ·
                exfalso; omega
            · intro i hi ih74 
              refine e_iload_1 (p' := 75) D_M_read_74 rfl ?_
              refine e_bipush (v := nI 6) (p' := 77) D_M_read_75 cst_bipush_6 rfl ?_
              refine e_icmpN_ge (q := 142) (p' := 80) D_M_read_77 (by omega) (by omega) rfl rfl (fun hc77 => ?_) (fun hc77 => ?_)
              ·
                exfalso; omega
              ·
                refine e_iconst (v := nI 0) (p' := 81) D_M_read_80 cst_iconst_0 rfl ?_
                refine e_istore_2 (p' := 82) D_M_read_81 (Nat.le_of_ble_eq_true rfl) rfl rfl ?_
                have lk82 : ∀ j : Nat, j ≤ 6 → sEv l m_M_read 4 (0, 0, 0, 0) (sKm 0 0 (fun r1 h1 => r1 = some (.int (Sread st).1) ∧ (MR h (Sread st).2) h1)) 82 [some (.ref 61), some (.int (nI i)), some (.int (nI j))] [] (sUp h2 62 (iA 39 (zrd st.1 st.2.2.2 R C (6 * i + j)))) := by
                  refine lp_up _ ?_ ?_
                  · skip
                    refine e_iload_2 (p' := 83) D_M_read_82 rfl ?_
                    refine e_bipush (v := nI 6) (p' := 85) D_M_read_83 cst_bipush_6 rfl ?_
                    refine e_icmpN_ge (q := 136) (p' := 88) D_M_read_85 (by omega) (by omega) rfl rfl (fun hc85 => ?_) (fun hc85 => ?_)
                    ·
                      first | refine e_iincN_1 (n := 1) (p' := 139) D_M_read_136 (Nat.le_of_ble_eq_true rfl) rfl rfl ?_ | refine e_iinc_1 (p' := 139) D_M_read_136 (Nat.le_of_ble_eq_true rfl) rfl rfl rfl ?_
                      refine e_goto (p' := 74) D_M_read_139 rfl ?_
                      refine sEv.castW (ih74) ?_ ?_ ?_
                      · exact ⟨rfl, rfl, trivial⟩
                      · rfl
                      · rfl
                    ·
                      exfalso; omega
                  · intro j hj ih82 
                    refine e_iload_2 (p' := 83) D_M_read_82 rfl ?_
                    refine e_bipush (v := nI 6) (p' := 85) D_M_read_83 cst_bipush_6 rfl ?_
                    refine e_icmpN_ge (q := 136) (p' := 88) D_M_read_85 (by omega) (by omega) rfl rfl (fun hc85 => ?_) (fun hc85 => ?_)
                    ·
                      exfalso; omega
                    ·
                      refine e_aload_0 (p' := 89) D_M_read_88 rfl ?_
                      refine e_getfield (p' := 92) D_M_read_89 F_M_7 (by first | assumption | exact sUp_eq | (rw [sUp_ne (by omega)]; assumption) | (rw [sUp_ne (by omega), sUp_ne (by omega)]; assumption) | (rw [sUp_ne (by omega)]; exact sUp_eq) | (rw [gSet_ne (by omega) (by omega)]; first | assumption | exact sUp_eq | (rw [sUp_ne (by omega)]; assumption) | (rw [sUp_ne (by omega), sUp_ne (by omega)]; assumption)) | (rw [sUp_ne (by omega), sUp_ne (by omega), sUp_ne (by omega)]; assumption) | (simp [sUp]; done)) (by rfl) rfl ?_
                      refine e_bipush (v := nI 6) (p' := 94) D_M_read_92 cst_bipush_6 rfl ?_
                      refine e_iload_1 (p' := 95) D_M_read_94 rfl ?_
                      first | refine e_imulN (p' := 96) D_M_read_95 rfl ?_ | refine e_imul (p' := 96) D_M_read_95 rfl ?_
                      refine e_iload_2 (p' := 97) D_M_read_96 rfl ?_
                      first | refine e_iaddN (p' := 98) D_M_read_97 rfl ?_ | refine e_iadd (p' := 98) D_M_read_97 rfl ?_
                      refine e_iload_1 (p' := 99) D_M_read_98 rfl ?_
                      refine e_aload_0 (p' := 100) D_M_read_99 rfl ?_
                      refine e_getfield (p' := 103) D_M_read_100 F_M_192 (by first | assumption | exact sUp_eq | (rw [sUp_ne (by omega)]; assumption) | (rw [sUp_ne (by omega), sUp_ne (by omega)]; assumption) | (rw [sUp_ne (by omega)]; exact sUp_eq) | (rw [gSet_ne (by omega) (by omega)]; first | assumption | exact sUp_eq | (rw [sUp_ne (by omega)]; assumption) | (rw [sUp_ne (by omega), sUp_ne (by omega)]; assumption)) | (rw [sUp_ne (by omega), sUp_ne (by omega), sUp_ne (by omega)]; assumption) | (simp [sUp]; done)) (by rfl) rfl ?_
                      refine e_icmpN_ge (q := 128) (p' := 106) D_M_read_103 (by omega) (by omega) rfl rfl (fun hc103 => ?_) (fun hc103 => ?_)
                      ·
                        refine e_iconst (v := nI 0) (p' := 129) D_M_read_128 cst_iconst_0 rfl ?_
                        refine e_iastore (p' := 130) D_M_read_129 (by first | assumption | exact sUp_eq | (rw [sUp_ne (by omega)]; assumption) | (rw [sUp_ne (by omega), sUp_ne (by omega)]; assumption) | (rw [sUp_ne (by omega)]; exact sUp_eq) | (rw [gSet_ne (by omega) (by omega)]; first | assumption | exact sUp_eq | (rw [sUp_ne (by omega)]; assumption) | (rw [sUp_ne (by omega), sUp_ne (by omega)]; assumption)) | (rw [sUp_ne (by omega), sUp_ne (by omega), sUp_ne (by omega)]; assumption) | (simp [sUp]; done)) (by omega) (by omega) rfl ?_
                        first | refine e_iincN_2 (n := 1) (p' := 133) D_M_read_130 (Nat.le_of_ble_eq_true rfl) rfl rfl ?_ | refine e_iinc_2 (p' := 133) D_M_read_130 (Nat.le_of_ble_eq_true rfl) rfl rfl rfl ?_
                        refine e_goto (p' := 82) D_M_read_133 rfl ?_
                        refine sEv.castW (ih82) ?_ ?_ ?_
                        · exact ⟨rfl, rfl, rfl, trivial⟩
                        · rfl
                        · rw [sUp_sUp, zrd_s (by rw [rz_out (by omega) (by omega)])]
                          rfl
                      ·
                        refine e_iload_2 (p' := 107) D_M_read_106 rfl ?_
                        refine e_aload_0 (p' := 108) D_M_read_107 rfl ?_
                        refine e_getfield (p' := 111) D_M_read_108 F_M_186 (by first | assumption | exact sUp_eq | (rw [sUp_ne (by omega)]; assumption) | (rw [sUp_ne (by omega), sUp_ne (by omega)]; assumption) | (rw [sUp_ne (by omega)]; exact sUp_eq) | (rw [gSet_ne (by omega) (by omega)]; first | assumption | exact sUp_eq | (rw [sUp_ne (by omega)]; assumption) | (rw [sUp_ne (by omega), sUp_ne (by omega)]; assumption)) | (rw [sUp_ne (by omega), sUp_ne (by omega), sUp_ne (by omega)]; assumption) | (simp [sUp]; done)) (by rfl) rfl ?_
                        refine e_icmpN_ge (q := 128) (p' := 114) D_M_read_111 (by omega) (by omega) rfl rfl (fun hc111 => ?_) (fun hc111 => ?_)
                        ·
                          refine e_iconst (v := nI 0) (p' := 129) D_M_read_128 cst_iconst_0 rfl ?_
                          refine e_iastore (p' := 130) D_M_read_129 (by first | assumption | exact sUp_eq | (rw [sUp_ne (by omega)]; assumption) | (rw [sUp_ne (by omega), sUp_ne (by omega)]; assumption) | (rw [sUp_ne (by omega)]; exact sUp_eq) | (rw [gSet_ne (by omega) (by omega)]; first | assumption | exact sUp_eq | (rw [sUp_ne (by omega)]; assumption) | (rw [sUp_ne (by omega), sUp_ne (by omega)]; assumption)) | (rw [sUp_ne (by omega), sUp_ne (by omega), sUp_ne (by omega)]; assumption) | (simp [sUp]; done)) (by omega) (by omega) rfl ?_
                          first | refine e_iincN_2 (n := 1) (p' := 133) D_M_read_130 (Nat.le_of_ble_eq_true rfl) rfl rfl ?_ | refine e_iinc_2 (p' := 133) D_M_read_130 (Nat.le_of_ble_eq_true rfl) rfl rfl rfl ?_
                          refine e_goto (p' := 82) D_M_read_133 rfl ?_
                          refine sEv.castW (ih82) ?_ ?_ ?_
                          · exact ⟨rfl, rfl, rfl, trivial⟩
                          · rfl
                          · rw [sUp_sUp, zrd_s (by rw [rz_out (by omega) (by omega)])]
                            rfl
                        ·
                          refine e_aload_0 (p' := 115) D_M_read_114 rfl ?_
                          refine e_getfield (p' := 118) D_M_read_115 F_M_45 (by first | assumption | exact sUp_eq | (rw [sUp_ne (by omega)]; assumption) | (rw [sUp_ne (by omega), sUp_ne (by omega)]; assumption) | (rw [sUp_ne (by omega)]; exact sUp_eq) | (rw [gSet_ne (by omega) (by omega)]; first | assumption | exact sUp_eq | (rw [sUp_ne (by omega)]; assumption) | (rw [sUp_ne (by omega), sUp_ne (by omega)]; assumption)) | (rw [sUp_ne (by omega), sUp_ne (by omega), sUp_ne (by omega)]; assumption) | (simp [sUp]; done)) (by rfl) rfl ?_
                          refine e_bipush (v := nI 6) (p' := 120) D_M_read_118 cst_bipush_6 rfl ?_
                          refine e_iload_1 (p' := 121) D_M_read_120 rfl ?_
                          first | refine e_imulN (p' := 122) D_M_read_121 rfl ?_ | refine e_imul (p' := 122) D_M_read_121 rfl ?_
                          refine e_iload_2 (p' := 123) D_M_read_122 rfl ?_
                          first | refine e_iaddN (p' := 124) D_M_read_123 rfl ?_ | refine e_iadd (p' := 124) D_M_read_123 rfl ?_
                          refine e_iaload (p' := 125) D_M_read_124 (by first | assumption | exact sUp_eq | (rw [sUp_ne (by omega)]; assumption) | (rw [sUp_ne (by omega), sUp_ne (by omega)]; assumption) | (rw [sUp_ne (by omega)]; exact sUp_eq) | (rw [gSet_ne (by omega) (by omega)]; first | assumption | exact sUp_eq | (rw [sUp_ne (by omega)]; assumption) | (rw [sUp_ne (by omega), sUp_ne (by omega)]; assumption)) | (rw [sUp_ne (by omega), sUp_ne (by omega), sUp_ne (by omega)]; assumption) | (simp [sUp]; done)) (by omega) (by omega) (by rfl) rfl ?_
                          refine e_goto (p' := 129) D_M_read_125 rfl ?_
                          refine e_iastore (p' := 130) D_M_read_129 (by first | assumption | exact sUp_eq | (rw [sUp_ne (by omega)]; assumption) | (rw [sUp_ne (by omega), sUp_ne (by omega)]; assumption) | (rw [sUp_ne (by omega)]; exact sUp_eq) | (rw [gSet_ne (by omega) (by omega)]; first | assumption | exact sUp_eq | (rw [sUp_ne (by omega)]; assumption) | (rw [sUp_ne (by omega), sUp_ne (by omega)]; assumption)) | (rw [sUp_ne (by omega), sUp_ne (by omega), sUp_ne (by omega)]; assumption) | (simp [sUp]; done)) (by omega) (by omega) rfl ?_
                          first | refine e_iincN_2 (n := 1) (p' := 133) D_M_read_130 (Nat.le_of_ble_eq_true rfl) rfl rfl ?_ | refine e_iinc_2 (p' := 133) D_M_read_130 (Nat.le_of_ble_eq_true rfl) rfl rfl rfl ?_
                          refine e_goto (p' := 82) D_M_read_133 rfl ?_
                          refine sEv.castW (ih82) ?_ ?_ ?_
                          · exact ⟨rfl, rfl, rfl, trivial⟩
                          · rfl
                          · rw [sUp_sUp, zrd_s (by rw [rz_in (by omega) ⟨by omega, by omega⟩, GQ i j (by omega) (by omega)])]
                            rfl
                refine sEv.castW (lk82 0 (by omega) ) ?_ ?_ ?_
                · exact ⟨rfl, rfl, rfl, trivial⟩
                · rfl
                · rfl
          refine sEv.castW (lk74 0 (by omega) ) ?_ ?_ ?_
          · exact ⟨rfl, rfl, trivial⟩
          · rfl
          · rw [Nat.mul_zero, zrd_0, sUp_self Z2]
        ·
          exfalso; omega
      · intro i hi ih14 al
        refine e_iload_1 (p' := 15) D_M_read_14 rfl ?_
        refine e_aload_0 (p' := 16) D_M_read_15 rfl ?_
        refine e_getfield (p' := 19) D_M_read_16 F_M_192 (by first | assumption | exact sUp_eq | (rw [sUp_ne (by omega)]; assumption) | (rw [sUp_ne (by omega), sUp_ne (by omega)]; assumption) | (rw [sUp_ne (by omega)]; exact sUp_eq) | (rw [gSet_ne (by omega) (by omega)]; first | assumption | exact sUp_eq | (rw [sUp_ne (by omega)]; assumption) | (rw [sUp_ne (by omega), sUp_ne (by omega)]; assumption)) | (rw [sUp_ne (by omega), sUp_ne (by omega), sUp_ne (by omega)]; assumption) | (simp [sUp]; done)) (by rfl) rfl ?_
        refine e_icmpN_ge (q := 68) (p' := 22) D_M_read_19 (by omega) (by omega) rfl rfl (fun hc19 => ?_) (fun hc19 => ?_)
        ·
          exfalso; omega
        ·
          refine e_iconst (v := nI 0) (p' := 23) D_M_read_22 cst_iconst_0 rfl ?_
          refine e_istore_2 (p' := 24) D_M_read_23 (Nat.le_of_ble_eq_true rfl) rfl rfl ?_
          have lk24 : ∀ j : Nat, j ≤ C → (∀ c, c < j → rv st.2.2.2 C i c < st.1.1.2.2) → sEv l m_M_read 4 (0, 0, 0, 0) (sKm 0 0 (fun r1 h1 => r1 = some (.int (Sread st).1) ∧ (MR h (Sread st).2) h1)) 24 [some (.ref 61), some (.int (nI i)), some (.int (nI j))] [] (h1) := by
            refine lp_up _ ?_ ?_
            · intro al2
              refine e_iload_2 (p' := 25) D_M_read_24 rfl ?_
              refine e_aload_0 (p' := 26) D_M_read_25 rfl ?_
              refine e_getfield (p' := 29) D_M_read_26 F_M_186 (by first | assumption | exact sUp_eq | (rw [sUp_ne (by omega)]; assumption) | (rw [sUp_ne (by omega), sUp_ne (by omega)]; assumption) | (rw [sUp_ne (by omega)]; exact sUp_eq) | (rw [gSet_ne (by omega) (by omega)]; first | assumption | exact sUp_eq | (rw [sUp_ne (by omega)]; assumption) | (rw [sUp_ne (by omega), sUp_ne (by omega)]; assumption)) | (rw [sUp_ne (by omega), sUp_ne (by omega), sUp_ne (by omega)]; assumption) | (simp [sUp]; done)) (by rfl) rfl ?_
              first | refine e_icmpN_ge (q := 62) (p' := 32) D_M_read_29 (by omega) (by omega) rfl rfl (fun hc29 => ?_) (fun hc29 => ?_) | refine e_icmp_ge (q := 62) (p' := 32) D_M_read_29 rfl rfl (fun hc29 => ?_) (fun hc29 => ?_)
              ·
                first | refine e_iincN_1 (n := 1) (p' := 65) D_M_read_62 (Nat.le_of_ble_eq_true rfl) rfl rfl ?_ | refine e_iinc_1 (p' := 65) D_M_read_62 (Nat.le_of_ble_eq_true rfl) rfl rfl rfl ?_
                refine e_goto (p' := 14) D_M_read_65 rfl ?_
                refine sEv.castW (ih14 (fun r c hr hc => by
  by_cases e : r = i
  · rw [e]; exact al2 c (by omega)
  · exact al r c (by omega) hc)) ?_ ?_ ?_
                · exact ⟨rfl, rfl, trivial⟩
                · rfl
                · first | rfl | (simp; done)
              ·
                exfalso; omega
            · intro j hj ih24 al2
              refine e_iload_2 (p' := 25) D_M_read_24 rfl ?_
              refine e_aload_0 (p' := 26) D_M_read_25 rfl ?_
              refine e_getfield (p' := 29) D_M_read_26 F_M_186 (by first | assumption | exact sUp_eq | (rw [sUp_ne (by omega)]; assumption) | (rw [sUp_ne (by omega), sUp_ne (by omega)]; assumption) | (rw [sUp_ne (by omega)]; exact sUp_eq) | (rw [gSet_ne (by omega) (by omega)]; first | assumption | exact sUp_eq | (rw [sUp_ne (by omega)]; assumption) | (rw [sUp_ne (by omega), sUp_ne (by omega)]; assumption)) | (rw [sUp_ne (by omega), sUp_ne (by omega), sUp_ne (by omega)]; assumption) | (simp [sUp]; done)) (by rfl) rfl ?_
              first | refine e_icmpN_ge (q := 62) (p' := 32) D_M_read_29 (by omega) (by omega) rfl rfl (fun hc29 => ?_) (fun hc29 => ?_) | refine e_icmp_ge (q := 62) (p' := 32) D_M_read_29 rfl rfl (fun hc29 => ?_) (fun hc29 => ?_)
              ·
                exfalso; omega
              ·
                refine e_aload_0 (p' := 33) D_M_read_32 rfl ?_
                refine e_getfield (p' := 36) D_M_read_33 F_M_45 (by first | assumption | exact sUp_eq | (rw [sUp_ne (by omega)]; assumption) | (rw [sUp_ne (by omega), sUp_ne (by omega)]; assumption) | (rw [sUp_ne (by omega)]; exact sUp_eq) | (rw [gSet_ne (by omega) (by omega)]; first | assumption | exact sUp_eq | (rw [sUp_ne (by omega)]; assumption) | (rw [sUp_ne (by omega), sUp_ne (by omega)]; assumption)) | (rw [sUp_ne (by omega), sUp_ne (by omega), sUp_ne (by omega)]; assumption) | (simp [sUp]; done)) (by rfl) rfl ?_
                refine e_bipush (v := nI 6) (p' := 38) D_M_read_36 cst_bipush_6 rfl ?_
                refine e_iload_1 (p' := 39) D_M_read_38 rfl ?_
                first | refine e_imulN (p' := 40) D_M_read_39 rfl ?_ | refine e_imul (p' := 40) D_M_read_39 rfl ?_
                refine e_iload_2 (p' := 41) D_M_read_40 rfl ?_
                first | refine e_iaddN (p' := 42) D_M_read_41 rfl ?_ | refine e_iadd (p' := 42) D_M_read_41 rfl ?_
                refine e_iaload (p' := 43) D_M_read_42 (by first | assumption | exact sUp_eq | (rw [sUp_ne (by omega)]; assumption) | (rw [sUp_ne (by omega), sUp_ne (by omega)]; assumption) | (rw [sUp_ne (by omega)]; exact sUp_eq) | (rw [gSet_ne (by omega) (by omega)]; first | assumption | exact sUp_eq | (rw [sUp_ne (by omega)]; assumption) | (rw [sUp_ne (by omega), sUp_ne (by omega)]; assumption)) | (rw [sUp_ne (by omega), sUp_ne (by omega), sUp_ne (by omega)]; assumption) | (simp [sUp]; done)) (by omega) (by omega) (by rfl) rfl ?_
                rw [GQ i j (by omega) (by omega)]
                have rl : rv st.2.2.2 C i j ≤ 12 := by have := sgv_le (st.2.2.2.2 ((C + 1) * i + j)); unfold rv; omega
                refine e_aload_0 (p' := 44) D_M_read_43 rfl ?_
                refine e_getfield (p' := 47) D_M_read_44 F_M_7 (by first | assumption | exact sUp_eq | (rw [sUp_ne (by omega)]; assumption) | (rw [sUp_ne (by omega), sUp_ne (by omega)]; assumption) | (rw [sUp_ne (by omega)]; exact sUp_eq) | (rw [gSet_ne (by omega) (by omega)]; first | assumption | exact sUp_eq | (rw [sUp_ne (by omega)]; assumption) | (rw [sUp_ne (by omega), sUp_ne (by omega)]; assumption)) | (rw [sUp_ne (by omega), sUp_ne (by omega), sUp_ne (by omega)]; assumption) | (simp [sUp]; done)) (by rfl) rfl ?_
                refine e_bipush (v := nI 38) (p' := 49) D_M_read_47 cst_bipush_38 rfl ?_
                refine e_iaload (p' := 50) D_M_read_49 (by first | assumption | exact sUp_eq | (rw [sUp_ne (by omega)]; assumption) | (rw [sUp_ne (by omega), sUp_ne (by omega)]; assumption) | (rw [sUp_ne (by omega)]; exact sUp_eq) | (rw [gSet_ne (by omega) (by omega)]; first | assumption | exact sUp_eq | (rw [sUp_ne (by omega)]; assumption) | (rw [sUp_ne (by omega), sUp_ne (by omega)]; assumption)) | (rw [sUp_ne (by omega), sUp_ne (by omega), sUp_ne (by omega)]; assumption) | (simp [sUp]; done)) (by omega) (by omega) (by rfl) rfl ?_
                rw [z38]
                refine e_icmpN_lt (q := 56) (p' := 53) D_M_read_50 (by omega) (by omega) rfl rfl (fun hc50 => ?_) (fun hc50 => ?_)
                ·
                  first | refine e_iincN_2 (n := 1) (p' := 59) D_M_read_56 (Nat.le_of_ble_eq_true rfl) rfl rfl ?_ | refine e_iinc_2 (p' := 59) D_M_read_56 (Nat.le_of_ble_eq_true rfl) rfl rfl rfl ?_
                  refine e_goto (p' := 24) D_M_read_59 rfl ?_
                  refine sEv.castW (ih24 (fun c hc => by
  by_cases e : c = j
  · rw [e]; omega
  · exact al2 c (by omega))) ?_ ?_ ?_
                  · exact ⟨rfl, rfl, rfl, trivial⟩
                  · rfl
                  · first | rfl | (simp; done)
                ·
                  refine e_bipush (v := (-2)) (p' := 55) D_M_read_53 cst_bipush_m2 rfl ?_
                  refine e_ireturn (ty := .int) D_M_read_55 rfl (by first | rfl | exact sBo_nar _) ⟨by decide, by decide⟩ ?_
                  unfold Sread; rw [fe]; dsimp only; rw [if_pos (Classical.byContradiction fun z => by
                    have := rd_lt fe z (show i < R by omega) (show j < C by omega)
                    have h50 := hc50
                    unfold rv at h50
                    omega)]
                  exact ⟨rfl, ⟨Z1, R1⟩, K1⟩
          refine sEv.castW (lk24 0 (by omega) (fun c hc => absurd hc (Nat.not_lt_zero _))) ?_ ?_ ?_
          · exact ⟨rfl, rfl, rfl, trivial⟩
          · rfl
          · first | rfl | (simp; done)
    refine sEv.castW (lk14 0 (by omega) (fun r c hr => absurd hr (Nat.not_lt_zero _))) ?_ ?_ ?_
    · exact ⟨rfl, rfl, trivial⟩
    · rfl
    · first | rfl | (simp; done)
  ·
    refine e_bipush (v := (-3)) (p' := 11) D_M_read_9 cst_bipush_m3 rfl ?_
    refine e_ireturn (ty := .int) D_M_read_11 rfl (by first | rfl | exact sBo_nar _) ⟨by decide, by decide⟩ ?_
    obtain ⟨i, fe⟩ := fltI_l2 hc6
    unfold Sread; rw [fe]; exact ⟨rfl, ⟨Z1, R1⟩, K1⟩
