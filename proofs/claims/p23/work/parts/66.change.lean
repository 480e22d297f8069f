/-! ===== what changes tell: all that follows; one entry more ===== -/
theorem td_out {x : Gd} (hx : Gok x) {r c : Nat} (hc : c < 6) (h : x.1.1 ≤ r ∨ x.1.2.1 ≤ c) : td x r c = false := by
  unfold td
  rw [hx.out hc h]; rfl
theorem told_dd {x : Gd} (hx : Gok x) : told x = sm x.1.1 (fun r => sm x.1.2.1 (fun c => if td x r c = true then 1 else 0)) := by
  rw [← told_rows hx]
  refine sm_congr fun r _ => ?_
  exact sm_more hx.2.1.2 fun c h1 h2 => by rw [td_out hx h2 (Or.inr h1)]; rfl
theorem pdt_pos {x : Gd} (hx : Gok x) {r c : Nat} (hr : r < x.1.1) (hc : c < x.1.2.1) : 0 < pdt x r c := by
  have hm := hx.2.2.1.le
  have a := lu_ok hx hr
  have b := lv_ok hx hc
  exact Nat.pos_of_ne_zero (mul_ok x.1.2.2 (by omega) hx.2.2.1 (lu x r) a.2 (lv' x c) b.2 (by omega) (by omega))
theorem jn_iff {x : Gd} {r c : Nat} : jn x r c = true ↔ lP x r = lQ x c := decide_eq_true_iff
theorem at_ta {x : Gd} (hx : Gok x) {r c : Nat} (hr : r < x.1.1) (hc : c < x.1.2.1) : at' (taX x) r c = if lP x r = lQ x c then pdt x r c else at' x r c := by
  have h6 := hx.2.1
  show ptw x.2 x.1.1 x.1.2.1 (jn x) (pdt x) x.1.1 0 (6 * r + c) = _
  unfold ptw
  rw [show (6 * r + c) / 6 = r by omega, show (6 * r + c) % 6 = c by omega]
  by_cases e : lP x r = lQ x c
  · rw [if_pos e, if_pos ⟨⟨hr, hc⟩, Or.inl hr, jn_iff.mpr e⟩]
  · rw [if_neg e, if_neg (fun z => e (jn_iff.mp z.2.2))]; rfl
theorem td_ta {x : Gd} (hx : Gok x) {r c : Nat} (hr : r < x.1.1) (hc : c < x.1.2.1) : td (taX x) r c = true ↔ lP x r = lQ x c := by
  unfold td
  rw [decide_eq_true_iff, at_ta hx hr hc]
  by_cases e : lP x r = lQ x c
  · rw [if_pos e]
    exact ⟨fun _ => e, fun _ => pdt_pos hx hr hc⟩
  · rw [if_neg e]
    refine ⟨fun z => ?_, fun z => absurd z e⟩
    exact l_td hx hr hc (decide_eq_true z)
theorem pot_ta {x : Gd} (hx : Gok x) : Pot (taX x) (lu x) (lv' x) := by
  refine ⟨fun r hr => nz_lt (lu_ok hx hr).1 (lu_ok hx hr).2, fun c hc => nz_lt (lv_ok hx hc).1 (lv_ok hx hc).2, fun r c hr hc ht => ?_⟩
  have e := (td_ta hx hr hc).mp ht
  rw [at_ta hx hr hc, if_pos e]
  exact eqm.md
theorem well_ta {x : Gd} (hx : Gok x) : wellX (taX x) = true := pot_well (taX_ok hx) (pot_ta hx)
theorem lay_ta {x : Gd} (hx : Gok x) : (∀ r, r < 6 → lP (taX x) r = lP x r) ∧ (∀ c, c < 6 → lQ (taX x) c = lQ x c) ∧ (lay (taX x)).2 = (lay x).2 :=
  lay_same hx (taX_ok hx) rfl (fun r c hr hc ht => l_td (taX_ok hx) hr hc ((td_ta hx hr hc).mpr (l_td hx hr hc ht))) (fun r c hr hc ht => (td_ta hx hr hc).mp ht)
theorem num_ta {x : Gd} (hx : Gok x) : (∀ r, r < x.1.1 → lu (taX x) r = lu x r) ∧ ∀ c, c < x.1.2.1 → lv' (taX x) c = lv' x c :=
  num_same hx (taX_ok hx) rfl (lay_ta hx).1 (lay_ta hx).2.1 (well_ta hx) (fun r c hr hc e => ⟨(td_ta hx hr hc).mpr e, by rw [at_ta hx hr hc, if_pos e]; exact eqm.md⟩)
theorem jnE_ta {x : Gd} (hx : Gok x) : jnE (taX x) = jnE x := by
  have h1 := hx.1
  have h2 := hx.2.1
  rw [← inF_sum (taX_ok hx), ← inF_sum hx]
  refine sm_congr fun r hr => sm_congr fun c hc => ?_
  have hr : r < x.1.1 := hr
  have hc : c < x.1.2.1 := hc
  have a := (lay_ta hx).1 r (by omega)
  have b := (lay_ta hx).2.1 c (by omega)
  unfold inF
  show (if lP (taX x) r = lQ (taX x) c then 1 else 0) = (if lP x r = lQ x c then 1 else 0)
  rw [a, b]
theorem told_ta_eq {x : Gd} (hx : Gok x) : told (taX x) = jnE x := by
  rw [told_dd (taX_ok hx), ← inF_sum hx]
  refine sm_congr fun r hr => sm_congr fun c hc => ?_
  have hr : r < x.1.1 := hr
  have hc : c < x.1.2.1 := hc
  unfold inF
  by_cases e : lP x r = lQ x c
  · rw [if_pos ((td_ta hx hr hc).mpr e), if_pos e]
  · rw [if_neg (fun z => e ((td_ta hx hr hc).mp z)), if_neg e]
theorem told_le_jn {x : Gd} (hx : Gok x) : told x ≤ jnE x := by
  rw [told_dd hx, ← inF_sum hx]
  refine sm_leF fun r hr => sm_leF fun c hc => ?_
  unfold inF
  by_cases e : td x r c = true
  · rw [if_pos e, if_pos (l_td hx hr hc e)]; exact Nat.le_refl _
  · rw [if_neg e]; exact Nat.zero_le _
/-- well: no minor is other than 0 -/
theorem mAll_well {x : Gd} (hx : Gok x) (hw : wellX x = true) : mAll x true = 0 := by
  have hp := well_pot hx hw
  refine sm_zero fun r hr => sm_zero fun c hc => sm_zero fun s hs => ?_
  split
  · refine sm_zero fun d hd => ?_
    split
    · refine if_neg fun z => ?_
      unfold mz at z
      rw [Bool.and_eq_true, Bool.true_and, Bool.not_eq_true'] at z
      obtain ⟨z1, z2⟩ := z
      unfold mnr at z1
      rw [Bool.and_eq_true, Bool.and_eq_true, Bool.and_eq_true] at z1
      obtain ⟨t1, t2, t3, t4⟩ := z1
      have e : zr x r s c d = true := by
        refine decide_eq_true ?_
        have a := (hp.2.2 r c hr hc t1).mul (hp.2.2 s d hs hd t4)
        have b := (hp.2.2 r d hr hd t2).mul (hp.2.2 s c hs hc t3)
        refine a.tr (eqm.tr (eqm.of ?_) b.sy)
        ac_rfl
      rw [z2] at e
      cases e
    · rfl
  · rfl
-- one entry more
section MORE1
variable {x : Gd} {r0 c0 v : Nat}
theorem at_up {x : Gd} {r0 c0 v : Nat} (hc0 : c0 < 6) {r c : Nat} (hc : c < 6) : at' (upd1 x r0 c0 v) r c = if r = r0 ∧ c = c0 then v else at' x r c := by
  show up x.2 (6 * r0 + c0) v (6 * r + c) = _
  by_cases e : r = r0 ∧ c = c0
  · rw [if_pos e, e.1, e.2, up_at]
  · rw [if_neg e, up_off (by omega)]; rfl
theorem gain_lab {x : Gd} (hx : Gok x) {r0 c0 v : Nat} (hr0 : r0 < x.1.1) (hc0 : c0 < x.1.2.1) (hv : v < x.1.2.2) (hv0 : v ≠ 0) {r c : Nat} (hr : r < x.1.1) (hc : c < x.1.2.1) :
    lP (upd1 x r0 c0 v) r = lQ (upd1 x r0 c0 v) c ↔ (if lP x r = lQ x c0 then lP x r0 else lP x r) = (if lQ x c = lQ x c0 then lP x r0 else lQ x c) := by
  have h6 := hx.2.1
  have hy : Gok (upd1 x r0 c0 v) := up_ok hx hr0 hc0 hv
  have t0 : td (upd1 x r0 c0 v) r0 c0 = true := by
    unfold td
    rw [at_up (by omega) (by omega), if_pos ⟨rfl, rfl⟩]
    exact decide_eq_true (by omega)
  constructor
  · intro e
    obtain ⟨f, f1, f2⟩ := lay_lab hy (A := fun r => if lP x r = lQ x c0 then lP x r0 else lP x r) (B := fun c => if lQ x c = lQ x c0 then lP x r0 else lQ x c) (fun i j hi hj ht => by
      by_cases e : i = r0 ∧ j = c0
      · rw [e.1, e.2, if_pos (c := lQ x c0 = lQ x c0) rfl]
        split <;> rfl
      · have ht2 : td x i j = true := by
          unfold td at ht ⊢
          rw [at_up (by omega) (by have : j < x.1.2.1 := hj; omega), if_neg e] at ht
          exact ht
        rw [l_td hx hi hj ht2])
    have a := f1 r hr
    have b := f2 c hc
    rw [a, b, e]
  · intro e
    obtain ⟨g, g1, g2⟩ := lay_lab hx (A := lP (upd1 x r0 c0 v)) (B := lQ (upd1 x r0 c0 v)) (fun i j hi hj ht => by
      refine l_td hy hi hj ?_
      by_cases e : i = r0 ∧ j = c0
      · rw [e.1, e.2]; exact t0
      · unfold td at ht ⊢
        rw [at_up (by omega) (by omega), if_neg e]
        exact ht)
    have k := l_td hy hr0 hc0 t0
    rw [g1 r0 hr0, g2 c0 hc0] at k
    have a : g (lP x r) = g (if lP x r = lQ x c0 then lP x r0 else lP x r) := by
      split
      · rename_i z; rw [z, k]
      · rfl
    have b : g (lQ x c) = g (if lQ x c = lQ x c0 then lP x r0 else lQ x c) := by
      split
      · rename_i z; rw [z, k]
      · rfl
    rw [g1 r hr, g2 c hc, a, b, e]
end MORE1
theorem pRows_R {x : Gd} {q : Nat} (hx : Gok x) (hq : q ≠ 0) : pRows (lay x).1 q = ct x.1.1 (fun k => decide (lP x k = q)) := by
  refine sm_more hx.1.2 fun k h1 h2 => ?_
  have := (l_out (x := x)).1 k h1
  rw [if_neg]
  rw [decide_eq_true_iff]
  show ¬ lP x k = q
  omega
theorem pCols_C {x : Gd} {q : Nat} (hx : Gok x) (hq : q ≠ 0) : pCols (lay x).1 q = ct x.1.2.1 (fun k => decide (lQ x k = q)) := by
  refine sm_more hx.2.1.2 fun k h1 h2 => ?_
  have := (l_out (x := x)).2 k h1
  rw [if_neg]
  rw [decide_eq_true_iff]
  show ¬ lQ x k = q
  omega
/-- what an entry more joins -/
theorem gain_jn {x : Gd} (hx : Gok x) {r0 c0 v : Nat} (hr0 : r0 < x.1.1) (hc0 : c0 < x.1.2.1) (hv : v < x.1.2.2) (hv0 : v ≠ 0) : jnE (upd1 x r0 c0 v) = jnE x + gn (lay x).1 r0 c0 := by
  have hy : Gok (upd1 x r0 c0 v) := up_ok hx hr0 hc0 hv
  have p0 := lP_nz hx hr0
  have q0 := lQ_nz hx hc0
  rw [← inF_sum hy, ← inF_sum hx]
  unfold gn
  show sm x.1.1 (fun r => sm x.1.2.1 (fun c => inF (upd1 x r0 c0 v) r c)) = _ + (if lP x r0 = lQ x c0 then 0 else pRows (lay x).1 (lP x r0) * pCols (lay x).1 (lQ x c0) + pRows (lay x).1 (lQ x c0) * pCols (lay x).1 (lP x r0))
  by_cases e : lP x r0 = lQ x c0
  · rw [if_pos e, Nat.add_zero]
    refine sm_congr fun r hr => sm_congr fun c hc => ?_
    have h := gain_lab hx hr0 hc0 hv hv0 hr hc
    unfold inF
    show (if lP (upd1 x r0 c0 v) r = lQ (upd1 x r0 c0 v) c then 1 else 0) = (if lP x r = lQ x c then 1 else 0)
    have h2 : (if lP x r = lQ x c0 then lP x r0 else lP x r) = lP x r := by split <;> omega
    have h3 : (if lQ x c = lQ x c0 then lP x r0 else lQ x c) = lQ x c := by split <;> omega
    rw [h2, h3] at h
    by_cases w : lP x r = lQ x c
    · rw [if_pos w, if_pos (h.mpr w)]
    · rw [if_neg w, if_neg (fun z => w (h.mp z))]
  · rw [if_neg e, pRows_R hx p0, pCols_C hx q0, pRows_R hx q0, pCols_C hx p0, ct_prod, ct_prod, ← sm_add, ← sm_add]
    refine sm_congr fun r hr => ?_
    rw [← sm_add, ← sm_add]
    refine sm_congr fun c hc => ?_
    have h := gain_lab hx hr0 hc0 hv hv0 hr hc
    unfold inF
    show (if lP (upd1 x r0 c0 v) r = lQ (upd1 x r0 c0 v) c then 1 else 0) = (if lP x r = lQ x c then 1 else 0) + ((if decide (lP x r = lP x r0) = true ∧ decide (lQ x c = lQ x c0) = true then 1 else 0) + (if decide (lP x r = lQ x c0) = true ∧ decide (lQ x c = lP x r0) = true then 1 else 0))
    have h2 : (if lP (upd1 x r0 c0 v) r = lQ (upd1 x r0 c0 v) c then 1 else 0) = (if (if lP x r = lQ x c0 then lP x r0 else lP x r) = (if lQ x c = lQ x c0 then lP x r0 else lQ x c) then 1 else 0) := by
      by_cases w : lP (upd1 x r0 c0 v) r = lQ (upd1 x r0 c0 v) c
      · rw [if_pos w, if_pos (h.mp w)]
      · rw [if_neg w, if_neg (fun z => w (h.mpr z))]
    rw [h2]
    simp only [decide_eq_true_eq]
    by_cases a1 : lP x r = lQ x c0 <;> by_cases a2 : lQ x c = lQ x c0 <;> by_cases a3 : lP x r = lP x r0 <;> by_cases a4 : lQ x c = lP x r0 <;> by_cases a5 : lP x r = lQ x c <;> simp_all <;> omega
