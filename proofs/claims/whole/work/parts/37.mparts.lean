/-! ===== the reference's parts ===== -/
def pJ (n : Nat) : Int32 := if n = 0 then -6 else nI (n - 1)
theorem pJ_toInt {n : Nat} (h : n < 100) (h0 : n ≠ 0) : (pJ n).toInt = (n : Int) - 1 := by
  unfold pJ
  rw [if_neg h0, nI_toInt (by omega)]
  omega
theorem pJ_m6 {a : Nat} (h : a < 100) : pJ a = -6 ↔ a = 0 := by
  constructor
  · intro e
    refine Classical.byContradiction fun h0 => ?_
    have := congrArg Int32.toInt e
    rw [pJ_toInt h h0] at this
    have this : (a : Int) - 1 = -6 := this
    omega
  · intro e; rw [e]; rfl
theorem pJ_nI {a n : Nat} (h : a < 100) (hn : n < 100) : pJ a = nI n ↔ a = n + 1 := by
  constructor
  · intro e
    have e := congrArg Int32.toInt e
    rw [nI_toInt (by omega)] at e
    by_cases h0 : a = 0
    · subst h0
      have e : (-6 : Int) = n := e
      omega
    · rw [pJ_toInt h h0] at e
      omega
  · intro e; rw [e]; rfl
theorem pJ_s {n : Nat} : nI n = pJ (n + 1) := rfl
def PmAt (h : sH) (s : Ps) : Prop := ∃ f1 f2 f3 f4, h.2 67 = iA 6 f1 ∧ h.2 68 = iA 6 f2 ∧ h.2 69 = iA 6 f3 ∧ h.2 70 = iA 6 f4 ∧ ∀ k, k < 6 → (f1 k = pJ (s.1.1 k) ∧ f2 k = pJ (s.1.2 k)) ∧ (f3 k = nI (s.2.1 k) ∧ f4 k = nI (s.2.2 k))
def Un (s : Ps) : Prop := ∀ k, (s.1.1 k = 0 → s.2.1 k = 1) ∧ (s.1.2 k = 0 → s.2.2 k = 1)
def FrQ (h h' : sH) : Prop := ∀ a, (a < 67 ∨ 70 < a) → h'.2 a = h.2 a
theorem FrQ.rf {h : sH} : FrQ h h := fun _ _ => rfl
theorem FrQ.tr {h h1 h2 : sH} (a : FrQ h h1) (b : FrQ h1 h2) : FrQ h h2 := fun q hq => (b q hq).trans (a q hq)
theorem FrQ.up {h h1 : sH} {a : Nat} {c : sC} (f : FrQ h h1) (h7 : 67 ≤ a) (h8 : a ≤ 70) : FrQ h (sUp h1 a c) := fun q hq => (sUp_ne (by omega)).trans (f q hq)
def FrL (h h' : sH) : Prop := ∀ a, a ≠ 61 → (a < 67 ∨ 70 < a) → h'.2 a = h.2 a
theorem FrL.rf {h : sH} : FrL h h := fun _ _ _ => rfl
theorem FrL.tr {h h1 h2 : sH} (a : FrL h h1) (b : FrL h1 h2) : FrL h h2 := fun q n hq => (b q n hq).trans (a q n hq)
theorem FrL.q {h h1 h2 : sH} (a : FrL h h1) (b : FrQ h1 h2) : FrL h h2 := fun q n hq => (b q hq).trans (a q n hq)
theorem FrL.up {h h1 : sH} {a : Nat} {c : sC} (f : FrL h h1) (h7 : 67 ≤ a ∧ a ≤ 70 ∨ a = 61) : FrL h (sUp h1 a c) := fun q n hq => (sUp_ne (by omega)).trans (f q n hq)
theorem FrL.k {h h1 : sH} (f : FrL h h1) : FrK h h1 := fun a ha => f a (by omega) (by omega)
theorem PmAt.kept {h h' : sH} {s : Ps} (H : PmAt h s) (k : ∀ a, 67 ≤ a → a ≤ 70 → h'.2 a = h.2 a) : PmAt h' s := by
  obtain ⟨f1, f2, f3, f4, a1, a2, a3, a4, V⟩ := H
  exact ⟨f1, f2, f3, f4, (k _ (by omega) (by omega)).trans a1, (k _ (by omega) (by omega)).trans a2, (k _ (by omega) (by omega)).trans a3, (k _ (by omega) (by omega)).trans a4, V⟩
theorem PmAt.colSet {h : sH} {s : Ps} {c a q : Nat} {f1 f2 f3 f4 : Nat → Int32} {y w : Int32} (a1 : h.2 67 = iA 6 f1) (a3 : h.2 69 = iA 6 f3) (V : ∀ k, k < 6 → (f1 k = pJ (s.1.1 k) ∧ f2 k = pJ (s.1.2 k)) ∧ (f3 k = nI (s.2.1 k) ∧ f4 k = nI (s.2.2 k))) (hy : y = pJ a) (hw : w = nI q) : PmAt (sUp (sUp h 68 (iA 6 (upd f2 c y))) 70 (iA 6 (upd f4 c w))) ((s.1.1, up s.1.2 c a), (s.2.1, up s.2.2 c q)) := by
  refine ⟨f1, _, f3, _, (sUp_ne (by omega)).trans ((sUp_ne (by omega)).trans a1), (sUp_ne (by omega)).trans sUp_eq, (sUp_ne (by omega)).trans ((sUp_ne (by omega)).trans a3), sUp_eq, fun k hk => ⟨⟨(V k hk).1.1, ?_⟩, (V k hk).2.1, ?_⟩⟩
  · show upd f2 c y k = pJ (up s.1.2 c a k)
    unfold upd up
    by_cases e : k = c
    · rw [if_pos e, if_pos e, hy]
    · rw [if_neg e, if_neg e]; exact (V k hk).1.2
  · show upd f4 c w k = nI (up s.2.2 c q k)
    unfold upd up
    by_cases e : k = c
    · rw [if_pos e, if_pos e, hw]
    · rw [if_neg e, if_neg e]; exact (V k hk).2.2
theorem PmAt.rowSet {h : sH} {s : Ps} {c a q : Nat} {f1 f2 f3 f4 : Nat → Int32} {y w : Int32} (a2 : h.2 68 = iA 6 f2) (a4 : h.2 70 = iA 6 f4) (V : ∀ k, k < 6 → (f1 k = pJ (s.1.1 k) ∧ f2 k = pJ (s.1.2 k)) ∧ (f3 k = nI (s.2.1 k) ∧ f4 k = nI (s.2.2 k))) (hy : y = pJ a) (hw : w = nI q) : PmAt (sUp (sUp h 67 (iA 6 (upd f1 c y))) 69 (iA 6 (upd f3 c w))) ((up s.1.1 c a, s.1.2), (up s.2.1 c q, s.2.2)) := by
  refine ⟨_, f2, _, f4, (sUp_ne (by omega)).trans sUp_eq, (sUp_ne (by omega)).trans ((sUp_ne (by omega)).trans a2), sUp_eq, (sUp_ne (by omega)).trans ((sUp_ne (by omega)).trans a4), fun k hk => ⟨⟨?_, (V k hk).1.2⟩, ?_, (V k hk).2.2⟩⟩
  · show upd f1 c y k = pJ (up s.1.1 c a k)
    unfold upd up
    by_cases e : k = c
    · rw [if_pos e, if_pos e, hy]
    · rw [if_neg e, if_neg e]; exact (V k hk).1.1
  · show upd f3 c w k = nI (up s.2.1 c q k)
    unfold upd up
    by_cases e : k = c
    · rw [if_pos e, if_pos e, hw]
    · rw [if_neg e, if_neg e]; exact (V k hk).2.1
theorem ov_qt : ∀ m, m < 14 → Mok m → ∀ a, a < m → ∀ b, b < m → b ≠ 0 → a * ovr m b (m - 1) % m = qt m a b := by
  intro m hm h
  unfold Mok at h
  rcases h with rfl | rfl | rfl | rfl <;> decide +kernel
theorem Un.step {x : Gd} {r c : Nat} {s : Ps} (h : Un s) : Un (psStep x r c s) := by
  intro k
  unfold psStep
  split
  · rename_i e
    refine ⟨(h k).1, fun z => ?_⟩
    have z : up s.1.2 c (s.1.1 r) k = 0 := z
    show up s.2.2 c _ k = 1
    by_cases w : k = c
    · subst w; rw [up_at] at z; exact absurd z e.2.1
    · rw [up_off w] at z ⊢; exact (h k).2 z
  · split
    · rename_i e
      refine ⟨fun z => ?_, (h k).2⟩
      have z : up s.1.1 r (s.1.2 c) k = 0 := z
      show up s.2.1 r _ k = 1
      by_cases w : k = r
      · subst w; rw [up_at] at z; exact absurd z e.2.2
      · rw [up_off w] at z ⊢; exact (h k).1 z
    · exact h k
theorem Un.rdC {x : Gd} {r : Nat} {a : Ps × Bool} (h : Un a.1) : ∀ c, Un (rdC x r c a).1
  | 0 => h
  | c + 1 => (Un.rdC h c).step
theorem Un.rdR {x : Gd} {a : Ps × Bool} (h : Un a.1) : ∀ r, Un (rdR x r a).1
  | 0 => h
  | r + 1 => Un.rdC (Un.rdR h r) _
theorem Un.spr {x : Gd} {s : Ps} (h : Un s) : ∀ k, Un (spr x k s)
  | 0 => h
  | k + 1 => Un.rdR (a := (_, false)) (Un.spr h k) _
theorem Un.row {s : Ps} {r n : Nat} (h : Un s) : Un (psRow s r n) := fun k => ⟨fun z => by
  have z : up s.1.1 r (n + 1) k = 0 := z
  show up s.2.1 r 1 k = 1
  by_cases w : k = r
  · subst w; rw [up_at] at z; omega
  · rw [up_off w] at z ⊢; exact (h k).1 z, (h k).2⟩
theorem Un.col {s : Ps} {c n : Nat} (h : Un s) : Un (psCol s c n) := fun k => ⟨(h k).1, fun z => by
  have z : up s.1.2 c (n + 1) k = 0 := z
  show up s.2.2 c 1 k = 1
  by_cases w : k = c
  · subst w; rw [up_at] at z; omega
  · rw [up_off w] at z ⊢; exact (h k).2 z⟩
theorem un_layR {x : Gd} : ∀ r, Un (layR x r).1
  | 0 => fun _ => ⟨fun _ => rfl, fun _ => rfl⟩
  | r + 1 => by
    by_cases e : (layR x r).1.1.1 r = 0
    · rw [layR_go e]; exact Un.spr (un_layR r).row _
    · rw [layR_skip e]; exact un_layR r
theorem un_layC {x : Gd} : ∀ c, Un (layC x c).1
  | 0 => un_layR _
  | c + 1 => by
    by_cases e : (layC x c).1.1.2 c = 0
    · rw [layC_go e]; exact (un_layC c).col
    · rw [layC_skip e]; exact un_layC c
theorem spr_14 {x : Gd} (hx : Gok x) (s : Ps) {k : Nat} (h : k + 1 = 14) : (rdR x x.1.1 (spr x k s, false)).2 = false := by
  have : k = 13 := by omega
  subst this
  exact spr_end hx s
theorem spread_at {x : Gd} (hx : Gok x) {s : Ps} {k : Nat} (hk : k ≤ 14) (h : (rnd x (spr x k s)).2 = false) : spread x s = spr x k s := by
  unfold spread
  by_cases e13 : k ≤ 13
  · have e := spr_stop h (13 - k)
    rw [show k + (13 - k) = 13 by omega] at e
    exact e
  · have : k = 14 := by omega
    subst this
    exact (spr_stop (k := 13) (spr_end hx s) 1).symm
theorem psRow_m {s : Ps} {r n : Nat} (h : Un s) (h0 : s.1.1 r = 0) : psRow s r n = ((up s.1.1 r (n + 1), s.1.2), s.2) := by
  unfold psRow
  rw [show up s.2.1 r 1 = s.2.1 from funext fun k => by
    by_cases w : k = r
    · subst w; rw [up_at]; exact ((h k).1 h0).symm
    · rw [up_off w]]
theorem psCol_m {s : Ps} {c n : Nat} (h : Un s) (h0 : s.1.2 c = 0) : psCol s c n = ((s.1.1, up s.1.2 c (n + 1)), s.2) := by
  unfold psCol
  rw [show up s.2.2 c 1 = s.2.2 from funext fun k => by
    by_cases w : k = c
    · subst w; rw [up_at]; exact ((h k).2 h0).symm
    · rw [up_off w]]
theorem psCh_no {x : Gd} {r c n : Nat} {s : Ps} (hr : r < x.1.1) (hc : c < x.1.2.1) (hi : Iv x (n + 1) s) (h1 : ¬ (td x r c = true ∧ s.1.1 r = n + 1 ∧ s.1.2 c = 0)) (h2 : ¬ (td x r c = true ∧ s.1.2 c = n + 1 ∧ s.1.1 r = 0)) : psCh x r c s = false := by
  unfold psCh
  cases ht : td x r c with
  | false => rfl
  | true =>
    have := hi.1 r c hr hc ht
    by_cases a : s.1.1 r = 0
    · by_cases b : s.1.2 c = 0
      · rw [decide_eq_true a, decide_eq_true b]; rfl
      · exact absurd ⟨ht, this.2.2 a b, a⟩ h2
    · by_cases b : s.1.2 c = 0
      · exact absurd ⟨ht, this.2.1 a b, b⟩ h1
      · rw [decide_eq_false a, decide_eq_false b]; rfl
theorem rdC_no1 {x : Gd} {r c : Nat} {a : Ps × Bool} (h2 : psCh x r c (rdC x r c a).1 = false) : rdC x r (c + 1) a = rdC x r c a := by
  show (psStep x r c (rdC x r c a).1, (rdC x r c a).2 || psCh x r c (rdC x r c a).1) = _
  rw [psStep_no h2, h2, Bool.or_false]
theorem rdC_go {x : Gd} {r c : Nat} {a : Ps × Bool} (h2 : psCh x r c (rdC x r c a).1 = true) : rdC x r (c + 1) a = (psStep x r c (rdC x r c a).1, true) := by
  show (psStep x r c (rdC x r c a).1, (rdC x r c a).2 || psCh x r c (rdC x r c a).1) = _
  rw [h2, Bool.or_true]
set_option maxRecDepth 4000 in
theorem c_M_spread {l : Launch} {h : sH} {x : Gd} {n t : Nat} {v : mV} (hm : h.2 61 = mO n t v) (hz : h.2 62 = iA 39 (nF (zN x))) (hx : Gok x) {s : Ps} (hP : PmAt h s) {p : Nat} (hp2 : p < 50) (hi0 : Iv x (p + 1) s) : sY l m_M_spread 2 [.ref 61, .int (nI p)] h (none) (fun h1 => PmAt h1 (spread x s) ∧ FrQ h h1) := by
  have hR := hx.1
  have hC := hx.2.1
  have hM := hx.2.2.1.le
  have hp := Nat.succ_ne_zero p
  refine en_M_spread ?_
  refine e_iconst (v := nI 1) (p' := 1) D_M_spread_0 cst_iconst_1 rfl ?_
  refine e_istore_2 (p' := 2) D_M_spread_1 (Nat.le_of_ble_eq_true rfl) rfl rfl ?_
  have lk2 : ∀ k : Nat, k ≤ 14 → ∀ (h1 : sH) (gb : Bool), (PmAt h1 (spr x k s) ∧ FrQ h h1 ∧ (gb = false → (rnd x (spr x k s)).2 = false) ∧ (k = 14 → gb = false)) → sEv l m_M_spread 2 (0, 0, 0, 0) (sKm 0 0 (fun r1 h1 => r1 = none ∧ (fun h1 => PmAt h1 (spread x s) ∧ FrQ h h1) h1)) 2 [some (.ref 61), some (.int (nI p)), some (.int (sBo gb)), none, none] [] (h1) := by
    refine lp_up _ ?_ ?_
    · intro h1 gb hI
      obtain ⟨hP1, hF1, hgb, hkk⟩ := hI
      have hi1 := (spr_iv hx hp hi0 14).1
      have m1 := (hF1 61 (by omega)).trans hm
      have z1 := (hF1 62 (by omega)).trans hz
      refine e_iload_2 (p' := 3) D_M_spread_2 rfl ?_
      refine e_ifB_eq (q := 193) (p' := 6) D_M_spread_3 rfl rfl (fun hc3 => ?_) (fun hc3 => ?_)
      ·
        refine e_return D_M_spread_193 rfl ⟨by decide, by decide⟩ ?_
        exact ⟨rfl, by rw [show spread x s = _ from spread_at hx (by omega) (hgb hc3)]; exact hP1, hF1⟩
      ·
        exact absurd ((hkk rfl).symm.trans hc3) (by decide)
    · intro k hk ih2 h1 gb hI
      obtain ⟨hP1, hF1, hgb, hkk⟩ := hI
      have hi1 := (spr_iv hx hp hi0 k).1
      have m1 := (hF1 61 (by omega)).trans hm
      have z1 := (hF1 62 (by omega)).trans hz
      refine e_iload_2 (p' := 3) D_M_spread_2 rfl ?_
      refine e_ifB_eq (q := 193) (p' := 6) D_M_spread_3 rfl rfl (fun hc3 => ?_) (fun hc3 => ?_)
      ·
        refine e_return D_M_spread_193 rfl ⟨by decide, by decide⟩ ?_
        exact ⟨rfl, by rw [show spread x s = _ from spread_at hx (by omega) (hgb hc3)]; exact hP1, hF1⟩
      ·
        refine e_iconst (v := nI 0) (p' := 7) D_M_spread_6 cst_iconst_0 rfl ?_
        refine e_istore_2 (p' := 8) D_M_spread_7 (Nat.le_of_ble_eq_true rfl) rfl rfl ?_
        refine e_iconst (v := nI 0) (p' := 9) D_M_spread_8 cst_iconst_0 rfl ?_
        refine e_istore_3 (p' := 10) D_M_spread_9 (Nat.le_of_ble_eq_true rfl) rfl rfl ?_
        have lk10 : ∀ i : Nat, i ≤ x.1.1 → ∀ (h2 : sH), (PmAt h2 (rdR x i (spr x k s, false)).1 ∧ FrQ h h2) → sEv l m_M_spread 2 (0, 0, 0, 0) (sKm 0 0 (fun r1 h1 => r1 = none ∧ (fun h1 => PmAt h1 (spread x s) ∧ FrQ h h1) h1)) 10 [some (.ref 61), some (.int (nI p)), some (.int (sBo (rdR x i (spr x k s, false)).2)), some (.int (nI i)), none] [] (h2) := by
          refine lp_up _ ?_ ?_
          · intro h2 hI2
            obtain ⟨hP2, hF2⟩ := hI2
            have hi2 := (rdR_iv hx hp (a := (spr x k s, false)) hi1 (x.1.1) (by omega)).1
            have m2 := (hF2 61 (by omega)).trans hm
            have z2 := (hF2 62 (by omega)).trans hz
            refine e_iload_3 (p' := 11) D_M_spread_10 rfl ?_
            refine e_aload_0 (p' := 12) D_M_spread_11 rfl ?_
            refine e_getfield (p' := 15) D_M_spread_12 F_M_7 (by first | assumption | exact sUp_eq | (rw [sUp_ne (by omega)]; assumption) | (rw [sUp_ne (by omega), sUp_ne (by omega)]; assumption) | (rw [sUp_ne (by omega)]; exact sUp_eq) | (rw [gSet_ne (by omega) (by omega)]; first | assumption | exact sUp_eq | (rw [sUp_ne (by omega)]; assumption) | (rw [sUp_ne (by omega), sUp_ne (by omega)]; assumption)) | (simp [sUp]; done)) (by rfl) rfl ?_
            refine e_bipush (v := nI 36) (p' := 17) D_M_spread_15 cst_bipush_36 rfl ?_
            refine e_iaload (p' := 18) D_M_spread_17 (by first | assumption | exact sUp_eq | (rw [sUp_ne (by omega)]; assumption) | (rw [sUp_ne (by omega), sUp_ne (by omega)]; assumption) | (rw [sUp_ne (by omega)]; exact sUp_eq) | (rw [gSet_ne (by omega) (by omega)]; first | assumption | exact sUp_eq | (rw [sUp_ne (by omega)]; assumption) | (rw [sUp_ne (by omega), sUp_ne (by omega)]; assumption)) | (simp [sUp]; done)) (by omega) (by omega) (by rfl) rfl ?_
            rw [z36]
            refine e_icmpN_ge (q := 190) (p' := 21) D_M_spread_18 (by omega) (by omega) rfl rfl (fun hc18 => ?_) (fun hc18 => ?_)
            ·
              refine e_goto (p' := 2) D_M_spread_190 rfl ?_
              refine sEv.castW (ih2 h2 (rdR x x.1.1 (spr x k s, false)).2 ⟨hP2, hF2, fun z => spr_fix z, fun z => spr_14 hx s z⟩) ?_ ?_ ?_
              · first | exact lvW_rfl _ | (simp [lvW]; done) | (simp [lvW, *]; done) | (simp [lvW]; omega)
              · rfl
              · first | rfl | (simp; done)
            ·
              exfalso; omega
          · intro i hi ih10 h2 hI2
            obtain ⟨hP2, hF2⟩ := hI2
            have hi2 := (rdR_iv hx hp (a := (spr x k s, false)) hi1 i (by omega)).1
            have m2 := (hF2 61 (by omega)).trans hm
            have z2 := (hF2 62 (by omega)).trans hz
            refine e_iload_3 (p' := 11) D_M_spread_10 rfl ?_
            refine e_aload_0 (p' := 12) D_M_spread_11 rfl ?_
            refine e_getfield (p' := 15) D_M_spread_12 F_M_7 (by first | assumption | exact sUp_eq | (rw [sUp_ne (by omega)]; assumption) | (rw [sUp_ne (by omega), sUp_ne (by omega)]; assumption) | (rw [sUp_ne (by omega)]; exact sUp_eq) | (rw [gSet_ne (by omega) (by omega)]; first | assumption | exact sUp_eq | (rw [sUp_ne (by omega)]; assumption) | (rw [sUp_ne (by omega), sUp_ne (by omega)]; assumption)) | (simp [sUp]; done)) (by rfl) rfl ?_
            refine e_bipush (v := nI 36) (p' := 17) D_M_spread_15 cst_bipush_36 rfl ?_
            refine e_iaload (p' := 18) D_M_spread_17 (by first | assumption | exact sUp_eq | (rw [sUp_ne (by omega)]; assumption) | (rw [sUp_ne (by omega), sUp_ne (by omega)]; assumption) | (rw [sUp_ne (by omega)]; exact sUp_eq) | (rw [gSet_ne (by omega) (by omega)]; first | assumption | exact sUp_eq | (rw [sUp_ne (by omega)]; assumption) | (rw [sUp_ne (by omega), sUp_ne (by omega)]; assumption)) | (simp [sUp]; done)) (by omega) (by omega) (by rfl) rfl ?_
            rw [z36]
            refine e_icmpN_ge (q := 190) (p' := 21) D_M_spread_18 (by omega) (by omega) rfl rfl (fun hc18 => ?_) (fun hc18 => ?_)
            ·
              exfalso; omega
            ·
              refine e_iconst (v := nI 0) (p' := 22) D_M_spread_21 cst_iconst_0 rfl ?_
              refine e_istore_4 (p' := 24) D_M_spread_22 (Nat.le_of_ble_eq_true rfl) rfl rfl ?_
              have lk24 : ∀ j : Nat, j ≤ x.1.2.1 → ∀ (h3 : sH), (PmAt h3 (rdC x i j (rdR x i (spr x k s, false))).1 ∧ FrQ h h3) → sEv l m_M_spread 2 (0, 0, 0, 0) (sKm 0 0 (fun r1 h1 => r1 = none ∧ (fun h1 => PmAt h1 (spread x s) ∧ FrQ h h1) h1)) 24 [some (.ref 61), some (.int (nI p)), some (.int (sBo (rdC x i j (rdR x i (spr x k s, false))).2)), some (.int (nI i)), some (.int (nI j))] [] (h3) := by
                refine lp_up _ ?_ ?_
                · intro h3 hI3
                  obtain ⟨hP30, hF3⟩ := hI3
                  have hi3 := (rdC_iv hx hp (r := i) (by omega) (a := rdR x i (spr x k s, false)) hi2 (x.1.2.1) (by omega)).1
                  have m3 := (hF3 61 (by omega)).trans hm
                  have z3 := (hF3 62 (by omega)).trans hz
                  have sm3 := hx.small i (x.1.2.1)
                  have ltm := hx.lt i (x.1.2.1)
                  obtain ⟨e1, e2, e3, e4, p1, p2, p3, p4, PV⟩ := id hP30
                  have bd1 := (hi3.2.2 i).1
                  have bd2 := (hi3.2.2 (x.1.2.1)).2
                  have pv1 := hi3.2.1.1 i
                  have pv2 := hi3.2.1.2 (x.1.2.1)
                  refine e_iload_4 (p' := 26) D_M_spread_24 rfl ?_
                  refine e_aload_0 (p' := 27) D_M_spread_26 rfl ?_
                  refine e_getfield (p' := 30) D_M_spread_27 F_M_7 (by first | assumption | exact sUp_eq | (rw [sUp_ne (by omega)]; assumption) | (rw [sUp_ne (by omega), sUp_ne (by omega)]; assumption) | (rw [sUp_ne (by omega)]; exact sUp_eq) | (rw [gSet_ne (by omega) (by omega)]; first | assumption | exact sUp_eq | (rw [sUp_ne (by omega)]; assumption) | (rw [sUp_ne (by omega), sUp_ne (by omega)]; assumption)) | (simp [sUp]; done)) (by rfl) rfl ?_
                  refine e_bipush (v := nI 37) (p' := 32) D_M_spread_30 cst_bipush_37 rfl ?_
                  refine e_iaload (p' := 33) D_M_spread_32 (by first | assumption | exact sUp_eq | (rw [sUp_ne (by omega)]; assumption) | (rw [sUp_ne (by omega), sUp_ne (by omega)]; assumption) | (rw [sUp_ne (by omega)]; exact sUp_eq) | (rw [gSet_ne (by omega) (by omega)]; first | assumption | exact sUp_eq | (rw [sUp_ne (by omega)]; assumption) | (rw [sUp_ne (by omega), sUp_ne (by omega)]; assumption)) | (simp [sUp]; done)) (by omega) (by omega) (by rfl) rfl ?_
                  rw [z37]
                  refine e_icmpN_ge (q := 184) (p' := 36) D_M_spread_33 (by omega) (by omega) rfl rfl (fun hc33 => ?_) (fun hc33 => ?_)
                  ·
                    first | refine e_iincN_3 (n := 1) (p' := 187) D_M_spread_184 (Nat.le_of_ble_eq_true rfl) rfl rfl ?_ | refine e_iinc_3 (p' := 187) D_M_spread_184 (Nat.le_of_ble_eq_true rfl) rfl rfl rfl ?_
                    refine e_goto (p' := 10) D_M_spread_187 rfl ?_
                    refine sEv.castW (ih10 h3 ⟨hP30, hF3⟩) ?_ ?_ ?_
                    · rw [rdR_succ]; exact ⟨rfl, rfl, rfl, rfl, trivial⟩
                    · rfl
                    · first | rfl | (simp; done)
                  ·
                    exfalso; omega
                · intro j hj ih24 h3 hI3
                  obtain ⟨hP30, hF3⟩ := hI3
                  have hi3 := (rdC_iv hx hp (r := i) (by omega) (a := rdR x i (spr x k s, false)) hi2 j (by omega)).1
                  have m3 := (hF3 61 (by omega)).trans hm
                  have z3 := (hF3 62 (by omega)).trans hz
                  have sm3 := hx.small i j
                  have ltm := hx.lt i j
                  obtain ⟨e1, e2, e3, e4, p1, p2, p3, p4, PV⟩ := id hP30
                  have bd1 := (hi3.2.2 i).1
                  have bd2 := (hi3.2.2 j).2
                  have pv1 := hi3.2.1.1 i
                  have pv2 := hi3.2.1.2 j
                  refine e_iload_4 (p' := 26) D_M_spread_24 rfl ?_
                  refine e_aload_0 (p' := 27) D_M_spread_26 rfl ?_
                  refine e_getfield (p' := 30) D_M_spread_27 F_M_7 (by first | assumption | exact sUp_eq | (rw [sUp_ne (by omega)]; assumption) | (rw [sUp_ne (by omega), sUp_ne (by omega)]; assumption) | (rw [sUp_ne (by omega)]; exact sUp_eq) | (rw [gSet_ne (by omega) (by omega)]; first | assumption | exact sUp_eq | (rw [sUp_ne (by omega)]; assumption) | (rw [sUp_ne (by omega), sUp_ne (by omega)]; assumption)) | (simp [sUp]; done)) (by rfl) rfl ?_
                  refine e_bipush (v := nI 37) (p' := 32) D_M_spread_30 cst_bipush_37 rfl ?_
                  refine e_iaload (p' := 33) D_M_spread_32 (by first | assumption | exact sUp_eq | (rw [sUp_ne (by omega)]; assumption) | (rw [sUp_ne (by omega), sUp_ne (by omega)]; assumption) | (rw [sUp_ne (by omega)]; exact sUp_eq) | (rw [gSet_ne (by omega) (by omega)]; first | assumption | exact sUp_eq | (rw [sUp_ne (by omega)]; assumption) | (rw [sUp_ne (by omega), sUp_ne (by omega)]; assumption)) | (simp [sUp]; done)) (by omega) (by omega) (by rfl) rfl ?_
                  rw [z37]
                  refine e_icmpN_ge (q := 184) (p' := 36) D_M_spread_33 (by omega) (by omega) rfl rfl (fun hc33 => ?_) (fun hc33 => ?_)
                  ·
                    exfalso; omega
                  ·
                    refine e_aload_0 (p' := 37) D_M_spread_36 rfl ?_
                    refine e_iload_3 (p' := 38) D_M_spread_37 rfl ?_
                    refine e_iload_4 (p' := 40) D_M_spread_38 rfl ?_
                    refine x_callV1 (p' := 43) D_M_spread_40 V_M_67 (c_M_at m3 z3 hx (by omega) (by omega)) rfl (by first | assumption | exact sUp_eq | (rw [sUp_ne (by omega)]; assumption) | (rw [sUp_ne (by omega), sUp_ne (by omega)]; assumption) | (rw [sUp_ne (by omega)]; exact sUp_eq) | (rw [gSet_ne (by omega) (by omega)]; first | assumption | exact sUp_eq | (rw [sUp_ne (by omega)]; assumption) | (rw [sUp_ne (by omega), sUp_ne (by omega)]; assumption)) | (simp [sUp]; done)) rfl (Nat.le_of_ble_eq_true rfl) (by decide) ⟨by decide, by decide⟩ rfl ?_
                    have jn109 : (¬ (td x i j = true ∧ ((rdC x i j (rdR x i (spr x k s, false)))).1.1.1 i = p + 1 ∧ ((rdC x i j (rdR x i (spr x k s, false)))).1.1.2 j = 0)) → sEv l m_M_spread 2 (0, 0, 0, 0) (sKm 0 0 (fun r1 h1 => r1 = none ∧ (fun h1 => PmAt h1 (spread x s) ∧ FrQ h h1) h1)) 109 [some (.ref 61), some (.int (nI p)), some (.int (sBo (rdC x i j (rdR x i (spr x k s, false))).2)), some (.int (nI i)), some (.int (nI j))] [] h3 := by
                      intro na
                      refine e_aload_0 (p' := 110) D_M_spread_109 rfl ?_
                      refine e_iload_3 (p' := 111) D_M_spread_110 rfl ?_
                      refine e_iload_4 (p' := 113) D_M_spread_111 rfl ?_
                      refine x_callV1 (p' := 116) D_M_spread_113 V_M_67 (c_M_at m3 z3 hx (by omega) (by omega)) rfl (by first | assumption | exact sUp_eq | (rw [sUp_ne (by omega)]; assumption) | (rw [sUp_ne (by omega), sUp_ne (by omega)]; assumption) | (rw [sUp_ne (by omega)]; exact sUp_eq) | (rw [gSet_ne (by omega) (by omega)]; first | assumption | exact sUp_eq | (rw [sUp_ne (by omega)]; assumption) | (rw [sUp_ne (by omega), sUp_ne (by omega)]; assumption)) | (simp [sUp]; done)) rfl (Nat.le_of_ble_eq_true rfl) (by decide) ⟨by decide, by decide⟩ rfl ?_
                      refine e_ifN_le (q := 178) (p' := 119) D_M_spread_116 (by omega) rfl rfl (fun hc116 => ?_) (fun hc116 => ?_)
                      ·
                        first | refine e_iincN_4 (n := 1) (p' := 181) D_M_spread_178 (Nat.le_of_ble_eq_true rfl) rfl rfl ?_ | refine e_iinc_4 (p' := 181) D_M_spread_178 (Nat.le_of_ble_eq_true rfl) rfl rfl rfl ?_
                        refine e_goto (p' := 24) D_M_spread_181 rfl ?_
                        have ch := psCh_no hi (by omega) hi3 na (fun q => absurd q.1 (by rw [td_false (by omega)]; decide))
                        refine sEv.castW (ih24 h3 ⟨by rw [rdC_no1 ch]; exact hP30, hF3⟩) ?_ ?_ ?_
                        · rw [rdC_no1 ch]; exact ⟨rfl, rfl, rfl, rfl, rfl, trivial⟩
                        · rfl
                        · first | rfl | (simp; done)
                      ·
                        refine e_aload_0 (p' := 120) D_M_spread_119 rfl ?_
                        refine e_getfield (p' := 123) D_M_spread_120 F_M_30 (by first | assumption | exact sUp_eq | (rw [sUp_ne (by omega)]; assumption) | (rw [sUp_ne (by omega), sUp_ne (by omega)]; assumption) | (rw [sUp_ne (by omega)]; exact sUp_eq) | (rw [gSet_ne (by omega) (by omega)]; first | assumption | exact sUp_eq | (rw [sUp_ne (by omega)]; assumption) | (rw [sUp_ne (by omega), sUp_ne (by omega)]; assumption)) | (simp [sUp]; done)) (by rfl) rfl ?_
                        refine e_iload_4 (p' := 125) D_M_spread_123 rfl ?_
                        refine e_iaload (p' := 126) D_M_spread_125 (by first | assumption | exact sUp_eq | (rw [sUp_ne (by omega)]; assumption) | (rw [sUp_ne (by omega), sUp_ne (by omega)]; assumption) | (rw [sUp_ne (by omega)]; exact sUp_eq) | (rw [gSet_ne (by omega) (by omega)]; first | assumption | exact sUp_eq | (rw [sUp_ne (by omega)]; assumption) | (rw [sUp_ne (by omega), sUp_ne (by omega)]; assumption)) | (simp [sUp]; done)) (by omega) (by omega) (by rfl) rfl ?_
                        refine e_iload_1 (p' := 127) D_M_spread_126 rfl ?_
                        refine e_icmp_ne (q := 178) (p' := 130) D_M_spread_127 rfl rfl (fun hc127 => ?_) (fun hc127 => ?_)
                        ·
                          first | refine e_iincN_4 (n := 1) (p' := 181) D_M_spread_178 (Nat.le_of_ble_eq_true rfl) rfl rfl ?_ | refine e_iinc_4 (p' := 181) D_M_spread_178 (Nat.le_of_ble_eq_true rfl) rfl rfl rfl ?_
                          refine e_goto (p' := 24) D_M_spread_181 rfl ?_
                          have ch := psCh_no hi (by omega) hi3 na (fun q => hc127 (by rw [(PV j (by omega)).1.2, pJ_nI (by omega) (by omega)]; exact q.2.1))
                          refine sEv.castW (ih24 h3 ⟨by rw [rdC_no1 ch]; exact hP30, hF3⟩) ?_ ?_ ?_
                          · rw [rdC_no1 ch]; exact ⟨rfl, rfl, rfl, rfl, rfl, trivial⟩
                          · rfl
                          · first | rfl | (simp; done)
                        ·
                          refine e_aload_0 (p' := 131) D_M_spread_130 rfl ?_
                          refine e_getfield (p' := 134) D_M_spread_131 F_M_27 (by first | assumption | exact sUp_eq | (rw [sUp_ne (by omega)]; assumption) | (rw [sUp_ne (by omega), sUp_ne (by omega)]; assumption) | (rw [sUp_ne (by omega)]; exact sUp_eq) | (rw [gSet_ne (by omega) (by omega)]; first | assumption | exact sUp_eq | (rw [sUp_ne (by omega)]; assumption) | (rw [sUp_ne (by omega), sUp_ne (by omega)]; assumption)) | (simp [sUp]; done)) (by rfl) rfl ?_
                          refine e_iload_3 (p' := 135) D_M_spread_134 rfl ?_
                          refine e_iaload (p' := 136) D_M_spread_135 (by first | assumption | exact sUp_eq | (rw [sUp_ne (by omega)]; assumption) | (rw [sUp_ne (by omega), sUp_ne (by omega)]; assumption) | (rw [sUp_ne (by omega)]; exact sUp_eq) | (rw [gSet_ne (by omega) (by omega)]; first | assumption | exact sUp_eq | (rw [sUp_ne (by omega)]; assumption) | (rw [sUp_ne (by omega), sUp_ne (by omega)]; assumption)) | (simp [sUp]; done)) (by omega) (by omega) (by rfl) rfl ?_
                          refine e_bipush (v := (-6)) (p' := 138) D_M_spread_136 cst_bipush_m6 rfl ?_
                          refine e_icmp_ne (q := 178) (p' := 141) D_M_spread_138 rfl rfl (fun hc138 => ?_) (fun hc138 => ?_)
                          ·
                            first | refine e_iincN_4 (n := 1) (p' := 181) D_M_spread_178 (Nat.le_of_ble_eq_true rfl) rfl rfl ?_ | refine e_iinc_4 (p' := 181) D_M_spread_178 (Nat.le_of_ble_eq_true rfl) rfl rfl rfl ?_
                            refine e_goto (p' := 24) D_M_spread_181 rfl ?_
                            have ch := psCh_no hi (by omega) hi3 na (fun q => hc138 (by rw [(PV i (by omega)).1.1, pJ_m6 (by omega)]; exact q.2.2))
                            refine sEv.castW (ih24 h3 ⟨by rw [rdC_no1 ch]; exact hP30, hF3⟩) ?_ ?_ ?_
                            · rw [rdC_no1 ch]; exact ⟨rfl, rfl, rfl, rfl, rfl, trivial⟩
                            · rfl
                            · first | rfl | (simp; done)
                          ·
                            have colq : (rdC x i j (rdR x i (spr x k s, false))).1.1.2 j = p + 1 := (pJ_nI (by omega) (by omega)).mp ((PV j (by omega)).1.2.symm.trans (by first | exact hc127 | exact Classical.not_not.mp hc127))
                            have rowz : (rdC x i j (rdR x i (spr x k s, false))).1.1.1 i = 0 := (pJ_m6 (by omega)).mp ((PV i (by omega)).1.1.symm.trans (by first | exact hc138 | exact Classical.not_not.mp hc138))
                            obtain ⟨ch, st⟩ := psStep_rowU (x := x) (s := (rdC x i j (rdR x i (spr x k s, false))).1) (td_true (r := i) (c := j) (by omega)) rowz (by omega)
                            have vq : nI (at' x i j * ovr x.1.2.2 ((rdC x i j (rdR x i (spr x k s, false))).1.2.2 j) (x.1.2.2 - 1) % x.1.2.2) = nI (qt x.1.2.2 (at' x i j) ((rdC x i j (rdR x i (spr x k s, false))).1.2.2 j)) := by rw [ov_qt _ (by omega) hx.2.2.1 _ ltm _ (by have := pv2 (by omega); omega) (by have := pv2 (by omega); omega)]
                            have ovb := ovr_le (m := x.1.2.2) (a := (rdC x i j (rdR x i (spr x k s, false))).1.2.2 j) (x.1.2.2 - 1)
                            have pv2 := pv2 (by omega)
                            refine e_aload_0 (p' := 142) D_M_spread_141 rfl ?_
                            refine e_getfield (p' := 145) D_M_spread_142 F_M_27 (by first | assumption | exact sUp_eq | (rw [sUp_ne (by omega)]; assumption) | (rw [sUp_ne (by omega), sUp_ne (by omega)]; assumption) | (rw [sUp_ne (by omega)]; exact sUp_eq) | (rw [gSet_ne (by omega) (by omega)]; first | assumption | exact sUp_eq | (rw [sUp_ne (by omega)]; assumption) | (rw [sUp_ne (by omega), sUp_ne (by omega)]; assumption)) | (simp [sUp]; done)) (by rfl) rfl ?_
                            refine e_iload_3 (p' := 146) D_M_spread_145 rfl ?_
                            refine e_iload_1 (p' := 147) D_M_spread_146 rfl ?_
                            refine e_iastore (p' := 148) D_M_spread_147 (by first | assumption | exact sUp_eq | (rw [sUp_ne (by omega)]; assumption) | (rw [sUp_ne (by omega), sUp_ne (by omega)]; assumption) | (rw [sUp_ne (by omega)]; exact sUp_eq) | (rw [gSet_ne (by omega) (by omega)]; first | assumption | exact sUp_eq | (rw [sUp_ne (by omega)]; assumption) | (rw [sUp_ne (by omega), sUp_ne (by omega)]; assumption)) | (simp [sUp]; done)) (by omega) (by omega) rfl ?_
                            refine e_aload_0 (p' := 149) D_M_spread_148 rfl ?_
                            refine e_getfield (p' := 152) D_M_spread_149 F_M_33 (by first | assumption | exact sUp_eq | (rw [sUp_ne (by omega)]; assumption) | (rw [sUp_ne (by omega), sUp_ne (by omega)]; assumption) | (rw [sUp_ne (by omega)]; exact sUp_eq) | (rw [gSet_ne (by omega) (by omega)]; first | assumption | exact sUp_eq | (rw [sUp_ne (by omega)]; assumption) | (rw [sUp_ne (by omega), sUp_ne (by omega)]; assumption)) | (simp [sUp]; done)) (by rfl) rfl ?_
                            refine e_iload_3 (p' := 153) D_M_spread_152 rfl ?_
                            refine e_aload_0 (p' := 154) D_M_spread_153 rfl ?_
                            refine e_aload_0 (p' := 155) D_M_spread_154 rfl ?_
                            refine e_iload_3 (p' := 156) D_M_spread_155 rfl ?_
                            refine e_iload_4 (p' := 158) D_M_spread_156 rfl ?_
                            refine x_callV1 (p' := 161) D_M_spread_158 V_M_67 (c_M_at ((sUp_ne (by omega)).trans m3) ((sUp_ne (by omega)).trans z3) hx (by omega) (by omega)) rfl (by first | assumption | exact sUp_eq | (rw [sUp_ne (by omega)]; assumption) | (rw [sUp_ne (by omega), sUp_ne (by omega)]; assumption) | (rw [sUp_ne (by omega)]; exact sUp_eq) | (rw [gSet_ne (by omega) (by omega)]; first | assumption | exact sUp_eq | (rw [sUp_ne (by omega)]; assumption) | (rw [sUp_ne (by omega), sUp_ne (by omega)]; assumption)) | (simp [sUp]; done)) rfl (Nat.le_of_ble_eq_true rfl) (by decide) ⟨by decide, by decide⟩ rfl ?_
                            refine e_aload_0 (p' := 162) D_M_spread_161 rfl ?_
                            refine e_aload_0 (p' := 163) D_M_spread_162 rfl ?_
                            refine e_getfield (p' := 166) D_M_spread_163 F_M_36 (by first | assumption | exact sUp_eq | (rw [sUp_ne (by omega)]; assumption) | (rw [sUp_ne (by omega), sUp_ne (by omega)]; assumption) | (rw [sUp_ne (by omega)]; exact sUp_eq) | (rw [gSet_ne (by omega) (by omega)]; first | assumption | exact sUp_eq | (rw [sUp_ne (by omega)]; assumption) | (rw [sUp_ne (by omega), sUp_ne (by omega)]; assumption)) | (simp [sUp]; done)) (by rfl) rfl ?_
                            refine e_iload_4 (p' := 168) D_M_spread_166 rfl ?_
                            refine e_iaload (p' := 169) D_M_spread_168 (by first | assumption | exact sUp_eq | (rw [sUp_ne (by omega)]; assumption) | (rw [sUp_ne (by omega), sUp_ne (by omega)]; assumption) | (rw [sUp_ne (by omega)]; exact sUp_eq) | (rw [gSet_ne (by omega) (by omega)]; first | assumption | exact sUp_eq | (rw [sUp_ne (by omega)]; assumption) | (rw [sUp_ne (by omega), sUp_ne (by omega)]; assumption)) | (simp [sUp]; done)) (by omega) (by omega) (by rfl) rfl ?_
                            rw [(PV j (by omega)).2.2]
                            refine x_callV1 (p' := 172) D_M_spread_169 V_M_70 (c_M_over ((sUp_ne (by omega)).trans m3) ((sUp_ne (by omega)).trans z3) hx (by omega)) rfl (by first | assumption | exact sUp_eq | (rw [sUp_ne (by omega)]; assumption) | (rw [sUp_ne (by omega), sUp_ne (by omega)]; assumption) | (rw [sUp_ne (by omega)]; exact sUp_eq) | (rw [gSet_ne (by omega) (by omega)]; first | assumption | exact sUp_eq | (rw [sUp_ne (by omega)]; assumption) | (rw [sUp_ne (by omega), sUp_ne (by omega)]; assumption)) | (simp [sUp]; done)) rfl (Nat.le_of_ble_eq_true rfl) (by decide) ⟨by decide, by decide⟩ rfl ?_
                            refine x_callV1 (p' := 175) D_M_spread_172 V_M_63 (c_M_times ((sUp_ne (by omega)).trans m3) ((sUp_ne (by omega)).trans z3) hx (by omega) (by omega)) rfl (by first | assumption | exact sUp_eq | (rw [sUp_ne (by omega)]; assumption) | (rw [sUp_ne (by omega), sUp_ne (by omega)]; assumption) | (rw [sUp_ne (by omega)]; exact sUp_eq) | (rw [gSet_ne (by omega) (by omega)]; first | assumption | exact sUp_eq | (rw [sUp_ne (by omega)]; assumption) | (rw [sUp_ne (by omega), sUp_ne (by omega)]; assumption)) | (simp [sUp]; done)) rfl (Nat.le_of_ble_eq_true rfl) (by decide) ⟨by decide, by decide⟩ rfl ?_
                            refine e_iastore (p' := 176) D_M_spread_175 (by first | assumption | exact sUp_eq | (rw [sUp_ne (by omega)]; assumption) | (rw [sUp_ne (by omega), sUp_ne (by omega)]; assumption) | (rw [sUp_ne (by omega)]; exact sUp_eq) | (rw [gSet_ne (by omega) (by omega)]; first | assumption | exact sUp_eq | (rw [sUp_ne (by omega)]; assumption) | (rw [sUp_ne (by omega), sUp_ne (by omega)]; assumption)) | (simp [sUp]; done)) (by omega) (by omega) rfl ?_
                            refine e_iconst (v := nI 1) (p' := 177) D_M_spread_176 cst_iconst_1 rfl ?_
                            refine e_istore_2 (p' := 178) D_M_spread_177 (Nat.le_of_ble_eq_true rfl) rfl rfl ?_
                            first | refine e_iincN_4 (n := 1) (p' := 181) D_M_spread_178 (Nat.le_of_ble_eq_true rfl) rfl rfl ?_ | refine e_iinc_4 (p' := 181) D_M_spread_178 (Nat.le_of_ble_eq_true rfl) rfl rfl rfl ?_
                            refine e_goto (p' := 24) D_M_spread_181 rfl ?_
                            refine sEv.castW (ih24 _ ⟨by rw [rdC_go ch, st, colq]; exact PmAt.rowSet p2 p4 PV pJ_s vq, (hF3.up (by omega) (by omega)).up (by omega) (by omega)⟩) ?_ ?_ ?_
                            · rw [rdC_go ch]; exact ⟨rfl, rfl, rfl, rfl, rfl, trivial⟩
                            · rfl
                            · first | rfl | (simp; done)
                    refine e_ifN_le (q := 109) (p' := 46) D_M_spread_43 (by omega) rfl rfl (fun hc43 => ?_) (fun hc43 => ?_)
                    ·
                      refine sEv.castW (jn109 (fun q => absurd q.1 (by rw [td_false (by omega)]; decide))) ?_ ?_ ?_
                      · exact ⟨rfl, rfl, rfl, rfl, rfl, trivial⟩
                      · rfl
                      · first | rfl | (simp; done)
                    ·
                      refine e_aload_0 (p' := 47) D_M_spread_46 rfl ?_
                      refine e_getfield (p' := 50) D_M_spread_47 F_M_27 (by first | assumption | exact sUp_eq | (rw [sUp_ne (by omega)]; assumption) | (rw [sUp_ne (by omega), sUp_ne (by omega)]; assumption) | (rw [sUp_ne (by omega)]; exact sUp_eq) | (rw [gSet_ne (by omega) (by omega)]; first | assumption | exact sUp_eq | (rw [sUp_ne (by omega)]; assumption) | (rw [sUp_ne (by omega), sUp_ne (by omega)]; assumption)) | (simp [sUp]; done)) (by rfl) rfl ?_
                      refine e_iload_3 (p' := 51) D_M_spread_50 rfl ?_
                      refine e_iaload (p' := 52) D_M_spread_51 (by first | assumption | exact sUp_eq | (rw [sUp_ne (by omega)]; assumption) | (rw [sUp_ne (by omega), sUp_ne (by omega)]; assumption) | (rw [sUp_ne (by omega)]; exact sUp_eq) | (rw [gSet_ne (by omega) (by omega)]; first | assumption | exact sUp_eq | (rw [sUp_ne (by omega)]; assumption) | (rw [sUp_ne (by omega), sUp_ne (by omega)]; assumption)) | (simp [sUp]; done)) (by omega) (by omega) (by rfl) rfl ?_
                      refine e_iload_1 (p' := 53) D_M_spread_52 rfl ?_
                      refine e_icmp_ne (q := 109) (p' := 56) D_M_spread_53 rfl rfl (fun hc53 => ?_) (fun hc53 => ?_)
                      ·
                        refine sEv.castW (jn109 (fun q => hc53 (by rw [(PV i (by omega)).1.1, pJ_nI (by omega) (by omega)]; exact q.2.1))) ?_ ?_ ?_
                        · exact ⟨rfl, rfl, rfl, rfl, rfl, trivial⟩
                        · rfl
                        · first | rfl | (simp; done)
                      ·
                        refine e_aload_0 (p' := 57) D_M_spread_56 rfl ?_
                        refine e_getfield (p' := 60) D_M_spread_57 F_M_30 (by first | assumption | exact sUp_eq | (rw [sUp_ne (by omega)]; assumption) | (rw [sUp_ne (by omega), sUp_ne (by omega)]; assumption) | (rw [sUp_ne (by omega)]; exact sUp_eq) | (rw [gSet_ne (by omega) (by omega)]; first | assumption | exact sUp_eq | (rw [sUp_ne (by omega)]; assumption) | (rw [sUp_ne (by omega), sUp_ne (by omega)]; assumption)) | (simp [sUp]; done)) (by rfl) rfl ?_
                        refine e_iload_4 (p' := 62) D_M_spread_60 rfl ?_
                        refine e_iaload (p' := 63) D_M_spread_62 (by first | assumption | exact sUp_eq | (rw [sUp_ne (by omega)]; assumption) | (rw [sUp_ne (by omega), sUp_ne (by omega)]; assumption) | (rw [sUp_ne (by omega)]; exact sUp_eq) | (rw [gSet_ne (by omega) (by omega)]; first | assumption | exact sUp_eq | (rw [sUp_ne (by omega)]; assumption) | (rw [sUp_ne (by omega), sUp_ne (by omega)]; assumption)) | (simp [sUp]; done)) (by omega) (by omega) (by rfl) rfl ?_
                        refine e_bipush (v := (-6)) (p' := 65) D_M_spread_63 cst_bipush_m6 rfl ?_
                        refine e_icmp_ne (q := 109) (p' := 68) D_M_spread_65 rfl rfl (fun hc65 => ?_) (fun hc65 => ?_)
                        ·
                          refine sEv.castW (jn109 (fun q => hc65 (by rw [(PV j (by omega)).1.2, pJ_m6 (by omega)]; exact q.2.2))) ?_ ?_ ?_
                          · exact ⟨rfl, rfl, rfl, rfl, rfl, trivial⟩
                          · rfl
                          · first | rfl | (simp; done)
                        ·
                          have rowq : (rdC x i j (rdR x i (spr x k s, false))).1.1.1 i = p + 1 := (pJ_nI (by omega) (by omega)).mp ((PV i (by omega)).1.1.symm.trans (by first | exact hc53 | exact Classical.not_not.mp hc53))
                          have colz : (rdC x i j (rdR x i (spr x k s, false))).1.1.2 j = 0 := (pJ_m6 (by omega)).mp ((PV j (by omega)).1.2.symm.trans (by first | exact hc65 | exact Classical.not_not.mp hc65))
                          obtain ⟨ch, st⟩ := psStep_colU (x := x) (s := (rdC x i j (rdR x i (spr x k s, false))).1) (td_true (r := i) (c := j) (by omega)) (by omega) colz
                          have vq : nI (at' x i j * ovr x.1.2.2 ((rdC x i j (rdR x i (spr x k s, false))).1.2.1 i) (x.1.2.2 - 1) % x.1.2.2) = nI (qt x.1.2.2 (at' x i j) ((rdC x i j (rdR x i (spr x k s, false))).1.2.1 i)) := by rw [ov_qt _ (by omega) hx.2.2.1 _ ltm _ (by have := pv1 (by omega); omega) (by have := pv1 (by omega); omega)]
                          have ovb := ovr_le (m := x.1.2.2) (a := (rdC x i j (rdR x i (spr x k s, false))).1.2.1 i) (x.1.2.2 - 1)
                          have pv1 := pv1 (by omega)
                          refine e_aload_0 (p' := 69) D_M_spread_68 rfl ?_
                          refine e_getfield (p' := 72) D_M_spread_69 F_M_30 (by first | assumption | exact sUp_eq | (rw [sUp_ne (by omega)]; assumption) | (rw [sUp_ne (by omega), sUp_ne (by omega)]; assumption) | (rw [sUp_ne (by omega)]; exact sUp_eq) | (rw [gSet_ne (by omega) (by omega)]; first | assumption | exact sUp_eq | (rw [sUp_ne (by omega)]; assumption) | (rw [sUp_ne (by omega), sUp_ne (by omega)]; assumption)) | (simp [sUp]; done)) (by rfl) rfl ?_
                          refine e_iload_4 (p' := 74) D_M_spread_72 rfl ?_
                          refine e_iload_1 (p' := 75) D_M_spread_74 rfl ?_
                          refine e_iastore (p' := 76) D_M_spread_75 (by first | assumption | exact sUp_eq | (rw [sUp_ne (by omega)]; assumption) | (rw [sUp_ne (by omega), sUp_ne (by omega)]; assumption) | (rw [sUp_ne (by omega)]; exact sUp_eq) | (rw [gSet_ne (by omega) (by omega)]; first | assumption | exact sUp_eq | (rw [sUp_ne (by omega)]; assumption) | (rw [sUp_ne (by omega), sUp_ne (by omega)]; assumption)) | (simp [sUp]; done)) (by omega) (by omega) rfl ?_
                          refine e_aload_0 (p' := 77) D_M_spread_76 rfl ?_
                          refine e_getfield (p' := 80) D_M_spread_77 F_M_36 (by first | assumption | exact sUp_eq | (rw [sUp_ne (by omega)]; assumption) | (rw [sUp_ne (by omega), sUp_ne (by omega)]; assumption) | (rw [sUp_ne (by omega)]; exact sUp_eq) | (rw [gSet_ne (by omega) (by omega)]; first | assumption | exact sUp_eq | (rw [sUp_ne (by omega)]; assumption) | (rw [sUp_ne (by omega), sUp_ne (by omega)]; assumption)) | (simp [sUp]; done)) (by rfl) rfl ?_
                          refine e_iload_4 (p' := 82) D_M_spread_80 rfl ?_
                          refine e_aload_0 (p' := 83) D_M_spread_82 rfl ?_
                          refine e_aload_0 (p' := 84) D_M_spread_83 rfl ?_
                          refine e_iload_3 (p' := 85) D_M_spread_84 rfl ?_
                          refine e_iload_4 (p' := 87) D_M_spread_85 rfl ?_
                          refine x_callV1 (p' := 90) D_M_spread_87 V_M_67 (c_M_at ((sUp_ne (by omega)).trans m3) ((sUp_ne (by omega)).trans z3) hx (by omega) (by omega)) rfl (by first | assumption | exact sUp_eq | (rw [sUp_ne (by omega)]; assumption) | (rw [sUp_ne (by omega), sUp_ne (by omega)]; assumption) | (rw [sUp_ne (by omega)]; exact sUp_eq) | (rw [gSet_ne (by omega) (by omega)]; first | assumption | exact sUp_eq | (rw [sUp_ne (by omega)]; assumption) | (rw [sUp_ne (by omega), sUp_ne (by omega)]; assumption)) | (simp [sUp]; done)) rfl (Nat.le_of_ble_eq_true rfl) (by decide) ⟨by decide, by decide⟩ rfl ?_
                          refine e_aload_0 (p' := 91) D_M_spread_90 rfl ?_
                          refine e_aload_0 (p' := 92) D_M_spread_91 rfl ?_
                          refine e_getfield (p' := 95) D_M_spread_92 F_M_33 (by first | assumption | exact sUp_eq | (rw [sUp_ne (by omega)]; assumption) | (rw [sUp_ne (by omega), sUp_ne (by omega)]; assumption) | (rw [sUp_ne (by omega)]; exact sUp_eq) | (rw [gSet_ne (by omega) (by omega)]; first | assumption | exact sUp_eq | (rw [sUp_ne (by omega)]; assumption) | (rw [sUp_ne (by omega), sUp_ne (by omega)]; assumption)) | (simp [sUp]; done)) (by rfl) rfl ?_
                          refine e_iload_3 (p' := 96) D_M_spread_95 rfl ?_
                          refine e_iaload (p' := 97) D_M_spread_96 (by first | assumption | exact sUp_eq | (rw [sUp_ne (by omega)]; assumption) | (rw [sUp_ne (by omega), sUp_ne (by omega)]; assumption) | (rw [sUp_ne (by omega)]; exact sUp_eq) | (rw [gSet_ne (by omega) (by omega)]; first | assumption | exact sUp_eq | (rw [sUp_ne (by omega)]; assumption) | (rw [sUp_ne (by omega), sUp_ne (by omega)]; assumption)) | (simp [sUp]; done)) (by omega) (by omega) (by rfl) rfl ?_
                          rw [(PV i (by omega)).2.1]
                          refine x_callV1 (p' := 100) D_M_spread_97 V_M_70 (c_M_over ((sUp_ne (by omega)).trans m3) ((sUp_ne (by omega)).trans z3) hx (by omega)) rfl (by first | assumption | exact sUp_eq | (rw [sUp_ne (by omega)]; assumption) | (rw [sUp_ne (by omega), sUp_ne (by omega)]; assumption) | (rw [sUp_ne (by omega)]; exact sUp_eq) | (rw [gSet_ne (by omega) (by omega)]; first | assumption | exact sUp_eq | (rw [sUp_ne (by omega)]; assumption) | (rw [sUp_ne (by omega), sUp_ne (by omega)]; assumption)) | (simp [sUp]; done)) rfl (Nat.le_of_ble_eq_true rfl) (by decide) ⟨by decide, by decide⟩ rfl ?_
                          refine x_callV1 (p' := 103) D_M_spread_100 V_M_63 (c_M_times ((sUp_ne (by omega)).trans m3) ((sUp_ne (by omega)).trans z3) hx (by omega) (by omega)) rfl (by first | assumption | exact sUp_eq | (rw [sUp_ne (by omega)]; assumption) | (rw [sUp_ne (by omega), sUp_ne (by omega)]; assumption) | (rw [sUp_ne (by omega)]; exact sUp_eq) | (rw [gSet_ne (by omega) (by omega)]; first | assumption | exact sUp_eq | (rw [sUp_ne (by omega)]; assumption) | (rw [sUp_ne (by omega), sUp_ne (by omega)]; assumption)) | (simp [sUp]; done)) rfl (Nat.le_of_ble_eq_true rfl) (by decide) ⟨by decide, by decide⟩ rfl ?_
                          refine e_iastore (p' := 104) D_M_spread_103 (by first | assumption | exact sUp_eq | (rw [sUp_ne (by omega)]; assumption) | (rw [sUp_ne (by omega), sUp_ne (by omega)]; assumption) | (rw [sUp_ne (by omega)]; exact sUp_eq) | (rw [gSet_ne (by omega) (by omega)]; first | assumption | exact sUp_eq | (rw [sUp_ne (by omega)]; assumption) | (rw [sUp_ne (by omega), sUp_ne (by omega)]; assumption)) | (simp [sUp]; done)) (by omega) (by omega) rfl ?_
                          refine e_iconst (v := nI 1) (p' := 105) D_M_spread_104 cst_iconst_1 rfl ?_
                          refine e_istore_2 (p' := 106) D_M_spread_105 (Nat.le_of_ble_eq_true rfl) rfl rfl ?_
                          refine e_goto (p' := 178) D_M_spread_106 rfl ?_
                          first | refine e_iincN_4 (n := 1) (p' := 181) D_M_spread_178 (Nat.le_of_ble_eq_true rfl) rfl rfl ?_ | refine e_iinc_4 (p' := 181) D_M_spread_178 (Nat.le_of_ble_eq_true rfl) rfl rfl rfl ?_
                          refine e_goto (p' := 24) D_M_spread_181 rfl ?_
                          refine sEv.castW (ih24 _ ⟨by rw [rdC_go ch, st, rowq]; exact PmAt.colSet p1 p3 PV pJ_s vq, (hF3.up (by omega) (by omega)).up (by omega) (by omega)⟩) ?_ ?_ ?_
                          · rw [rdC_go ch]; exact ⟨rfl, rfl, rfl, rfl, rfl, trivial⟩
                          · rfl
                          · first | rfl | (simp; done)
              refine sEv.castW (lk24 0 (by omega) h2 ⟨hP2, hF2⟩) ?_ ?_ ?_
              · exact ⟨rfl, rfl, rfl, rfl, rfl, trivial⟩
              · rfl
              · first | rfl | (simp; done)
        refine sEv.castW (lk10 0 (by omega) h1 ⟨hP1, hF1⟩) ?_ ?_ ?_
        · exact ⟨rfl, rfl, rfl, rfl, trivial⟩
        · rfl
        · first | rfl | (simp; done)
  refine sEv.castW (lk2 0 (by omega) h true ⟨hP, FrQ.rf, fun z => absurd z (by decide), fun z => absurd z (by decide)⟩) ?_ ?_ ?_
  · first | exact lvW_rfl _ | (simp [lvW]; done) | (simp [lvW, *]; done) | (simp [lvW]; omega)
  · rfl
  · first | rfl | (simp; done)
