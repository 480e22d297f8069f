/-! ===== pure lemmas that whole's reference side rests on: carried over by port.py ===== -/
abbrev mV : Type := Int32 × Int32 × Int32 × Int32 × Int32 × Int32 × Int32 × Int32
abbrev mO (n t : Nat) (v : mV) : sC := oC 9 [.ref 62, .ref 63, .ref 64, .ref 65, .int (nI n), .ref 66, .int (nI t), .ref 67, .ref 68, .ref 69, .ref 70, .int v.1, .int v.2.1, .ref 71, .ref 72, .int v.2.2.1, .int v.2.2.2.1, .int v.2.2.2.2.1, .int v.2.2.2.2.2.1, .ref 73, .int v.2.2.2.2.2.2.1, .int v.2.2.2.2.2.2.2]
abbrev Mr : Type := Hs × (Nat → Option Gd) × Pd
def ovr (m a : Nat) : Nat → Nat
  | 0 => 1
  | n + 1 => if a * (n + 1) % m = 1 then n + 1 else ovr m a n
theorem ovr_le {m a : Nat} : ∀ n, 1 ≤ ovr m a n ∧ (ovr m a n ≤ n ∨ ovr m a n = 1) := by
  intro n
  induction n with
  | zero => exact ⟨Nat.le_refl _, Or.inr rfl⟩
  | succ n ih =>
    unfold ovr
    split <;> omega
theorem told_succ {x : Gd} {n : Nat} : sm (n + 1) (fun p => if 0 < x.2 p then 1 else 0) = sm n (fun p => if 0 < x.2 p then 1 else 0) + (if 0 < x.2 n then 1 else 0) := rfl
theorem nF_eq {z z' : Nat → Nat} (h : ∀ k, z k = z' k) : nF z = nF z' := by rw [show z = z' from funext h]
/-! ===== the reference's changes ===== -/
theorem in_F {i : Int32} (h : (!isOut i (nI 0) (nI 1)) = false) : ¬ (i = nI 0 ∨ i = nI 1) := by
  intro e
  rcases e with rfl | rfl <;> exact absurd h (by decide)
theorem in_T {i : Int32} (h : (!isOut i (nI 0) (nI 1)) = true) : ∃ k, k < 2 ∧ i = nI k := by
  obtain ⟨k, _, h2, h3⟩ := in_R (a := 0) (b := 1) (by omega) (by omega) (by simpa using h)
  exact ⟨k, by omega, h3⟩
theorem isOut_R {k a b : Nat} (hb : b < 2 ^ 31) (h : a ≤ k ∧ k ≤ b) : isOut (nI k) (nI a) (nI b) = false := by
  unfold isOut
  rw [decide_eq_false (nI_nlt (by omega) (by omega)), decide_eq_false (nI_nlt (by omega) (by omega))]
  rfl
theorem isM_M {m : Nat} (h : Mok m) : isM (nI m) = true := by
  unfold Mok at h
  rcases h with rfl | rfl | rfl | rfl <;> decide
/-! ===== the reference's parts ===== -/
def pJ (n : Nat) : Int32 := if n = 0 then -6 else nI (n - 1)
theorem pJ_toInt {n : Nat} (h : n < 100) (h0 : n ≠ 0) : (pJ n).toInt = (n : Int) - 1 := by
  unfold pJ
  rw [if_neg h0, nI_toInt (by omega)]
  omega
theorem pJ_m6 {a : Nat} (h : a < 100) : pJ a = -6 ↔ a = 0 := by
  constructor
  · intro e
    refine Classical.byContradiction fun h0 => ?_
    have := congrArg Int32.toInt e
    rw [pJ_toInt h h0] at this
    have this : (a : Int) - 1 = -6 := this
    omega
  · intro e; rw [e]; rfl
theorem pJ_nI {a n : Nat} (h : a < 100) (hn : n < 100) : pJ a = nI n ↔ a = n + 1 := by
  constructor
  · intro e
    have e := congrArg Int32.toInt e
    rw [nI_toInt (by omega)] at e
    by_cases h0 : a = 0
    · subst h0
      have e : (-6 : Int) = n := e
      omega
    · rw [pJ_toInt h h0] at e
      omega
  · intro e; rw [e]; rfl
theorem pJ_s {n : Nat} : nI n = pJ (n + 1) := rfl
def Un (s : Ps) : Prop := ∀ k, (s.1.1 k = 0 → s.2.1 k = 1) ∧ (s.1.2 k = 0 → s.2.2 k = 1)
theorem ov_qt : ∀ m, m < 14 → Mok m → ∀ a, a < m → ∀ b, b < m → b ≠ 0 → a * ovr m b (m - 1) % m = qt m a b := by
  intro m hm h
  unfold Mok at h
  rcases h with rfl | rfl | rfl | rfl <;> decide +kernel
theorem Un.step {x : Gd} {r c : Nat} {s : Ps} (h : Un s) : Un (psStep x r c s) := by
  intro k
  unfold psStep
  split
  · rename_i e
    refine ⟨(h k).1, fun z => ?_⟩
    have z : up s.1.2 c (s.1.1 r) k = 0 := z
    show up s.2.2 c _ k = 1
    by_cases w : k = c
    · subst w; rw [up_at] at z; exact absurd z e.2.1
    · rw [up_off w] at z ⊢; exact (h k).2 z
  · split
    · rename_i e
      refine ⟨fun z => ?_, (h k).2⟩
      have z : up s.1.1 r (s.1.2 c) k = 0 := z
      show up s.2.1 r _ k = 1
      by_cases w : k = r
      · subst w; rw [up_at] at z; exact absurd z e.2.2
      · rw [up_off w] at z ⊢; exact (h k).1 z
    · exact h k
theorem Un.rdC {x : Gd} {r : Nat} {a : Ps × Bool} (h : Un a.1) : ∀ c, Un (rdC x r c a).1
  | 0 => h
  | c + 1 => (Un.rdC h c).step
theorem Un.rdR {x : Gd} {a : Ps × Bool} (h : Un a.1) : ∀ r, Un (rdR x r a).1
  | 0 => h
  | r + 1 => Un.rdC (Un.rdR h r) _
theorem Un.spr {x : Gd} {s : Ps} (h : Un s) : ∀ k, Un (spr x k s)
  | 0 => h
  | k + 1 => Un.rdR (a := (_, false)) (Un.spr h k) _
theorem Un.row {s : Ps} {r n : Nat} (h : Un s) : Un (psRow s r n) := fun k => ⟨fun z => by
  have z : up s.1.1 r (n + 1) k = 0 := z
  show up s.2.1 r 1 k = 1
  by_cases w : k = r
  · subst w; rw [up_at] at z; omega
  · rw [up_off w] at z ⊢; exact (h k).1 z, (h k).2⟩
theorem Un.col {s : Ps} {c n : Nat} (h : Un s) : Un (psCol s c n) := fun k => ⟨(h k).1, fun z => by
  have z : up s.1.2 c (n + 1) k = 0 := z
  show up s.2.2 c 1 k = 1
  by_cases w : k = c
  · subst w; rw [up_at] at z; omega
  · rw [up_off w] at z ⊢; exact (h k).2 z⟩
theorem un_layR {x : Gd} : ∀ r, Un (layR x r).1
  | 0 => fun _ => ⟨fun _ => rfl, fun _ => rfl⟩
  | r + 1 => by
    by_cases e : (layR x r).1.1.1 r = 0
    · rw [layR_go e]; exact Un.spr (un_layR r).row _
    · rw [layR_skip e]; exact un_layR r
theorem un_layC {x : Gd} : ∀ c, Un (layC x c).1
  | 0 => un_layR _
  | c + 1 => by
    by_cases e : (layC x c).1.1.2 c = 0
    · rw [layC_go e]; exact (un_layC c).col
    · rw [layC_skip e]; exact un_layC c
theorem spr_14 {x : Gd} (hx : Gok x) (s : Ps) {k : Nat} (h : k + 1 = 14) : (rdR x x.1.1 (spr x k s, false)).2 = false := by
  have : k = 13 := by omega
  subst this
  exact spr_end hx s
theorem spread_at {x : Gd} (hx : Gok x) {s : Ps} {k : Nat} (hk : k ≤ 14) (h : (rnd x (spr x k s)).2 = false) : spread x s = spr x k s := by
  unfold spread
  by_cases e13 : k ≤ 13
  · have e := spr_stop h (13 - k)
    rw [show k + (13 - k) = 13 by omega] at e
    exact e
  · have : k = 14 := by omega
    subst this
    exact (spr_stop (k := 13) (spr_end hx s) 1).symm
theorem psRow_m {s : Ps} {r n : Nat} (h : Un s) (h0 : s.1.1 r = 0) : psRow s r n = ((up s.1.1 r (n + 1), s.1.2), s.2) := by
  unfold psRow
  rw [show up s.2.1 r 1 = s.2.1 from funext fun k => by
    by_cases w : k = r
    · subst w; rw [up_at]; exact ((h k).1 h0).symm
    · rw [up_off w]]
theorem psCol_m {s : Ps} {c n : Nat} (h : Un s) (h0 : s.1.2 c = 0) : psCol s c n = ((s.1.1, up s.1.2 c (n + 1)), s.2) := by
  unfold psCol
  rw [show up s.2.2 c 1 = s.2.2 from funext fun k => by
    by_cases w : k = c
    · subst w; rw [up_at]; exact ((h k).2 h0).symm
    · rw [up_off w]]
theorem psCh_no {x : Gd} {r c n : Nat} {s : Ps} (hr : r < x.1.1) (hc : c < x.1.2.1) (hi : Iv x (n + 1) s) (h1 : ¬ (td x r c = true ∧ s.1.1 r = n + 1 ∧ s.1.2 c = 0)) (h2 : ¬ (td x r c = true ∧ s.1.2 c = n + 1 ∧ s.1.1 r = 0)) : psCh x r c s = false := by
  unfold psCh
  cases ht : td x r c with
  | false => rfl
  | true =>
    have := hi.1 r c hr hc ht
    by_cases a : s.1.1 r = 0
    · by_cases b : s.1.2 c = 0
      · rw [decide_eq_true a, decide_eq_true b]; rfl
      · exact absurd ⟨ht, this.2.2 a b, a⟩ h2
    · by_cases b : s.1.2 c = 0
      · exact absurd ⟨ht, this.2.1 a b, b⟩ h1
      · rw [decide_eq_false a, decide_eq_false b]; rfl
theorem rdC_no1 {x : Gd} {r c : Nat} {a : Ps × Bool} (h2 : psCh x r c (rdC x r c a).1 = false) : rdC x r (c + 1) a = rdC x r c a := by
  show (psStep x r c (rdC x r c a).1, (rdC x r c a).2 || psCh x r c (rdC x r c a).1) = _
  rw [psStep_no h2, h2, Bool.or_false]
theorem rdC_go {x : Gd} {r c : Nat} {a : Ps × Bool} (h2 : psCh x r c (rdC x r c a).1 = true) : rdC x r (c + 1) a = (psStep x r c (rdC x r c a).1, true) := by
  show (psStep x r c (rdC x r c a).1, (rdC x r c a).2 || psCh x r c (rdC x r c a).1) = _
  rw [h2, Bool.or_true]
theorem pJ_inj {a b : Nat} (ha : a < 100) (hb : b < 100) (e : pJ a = pJ b) : a = b := by
  by_cases h : b = 0
  · subst h
    exact (pJ_m6 ha).mp e
  · have e2 : pJ a = nI (b - 1) := e.trans (if_neg h)
    have := (pJ_nI ha (by omega)).mp e2
    omega
theorem spl_ok {x : Gd} (hx : Gok x) (p : Nat) : Gok (x.1, up x.2 p 0) := by
  have := hx.2.2.1.le
  refine ⟨hx.1, hx.2.1, hx.2.2.1, fun q => ?_, fun q hq => ?_⟩
  · show up x.2 p 0 q < x.1.2.2
    unfold up
    split
    · omega
    · exact hx.2.2.2.1 q
  · show up x.2 p 0 q = 0
    unfold up
    split
    · rfl
    · exact hx.2.2.2.2 q hq
theorem orL0 {m : Nat} : lN m ||| lN 0 = lN m := by
  refine Int64.toBitVec_inj.mp ?_
  rw [Int64.toBitVec_or]
  show BitVec.ofNat 64 m ||| BitVec.ofNat 64 0 = BitVec.ofNat 64 m
  rw [← BitVec.ofNat_or, Nat.or_zero]
/-! ===== the reference: entry, part ===== -/
def Ou (x : Gd) (s : Ps) : Prop := (∀ k, x.1.1 ≤ k → s.1.1 k = 0) ∧ ∀ k, x.1.2.1 ≤ k → s.1.2 k = 0
theorem Ou.step {x : Gd} {r c : Nat} {s : Ps} (h : Ou x s) (hr : r < x.1.1) (hc : c < x.1.2.1) : Ou x (psStep x r c s) := by
  unfold psStep
  split
  · refine ⟨h.1, fun k hk => ?_⟩
    show up s.1.2 c _ k = 0
    rw [up_off (by omega)]; exact h.2 k hk
  · split
    · refine ⟨fun k hk => ?_, h.2⟩
      show up s.1.1 r _ k = 0
      rw [up_off (by omega)]; exact h.1 k hk
    · exact h
theorem ou_rdC {x : Gd} {r : Nat} {a : Ps × Bool} (h : Ou x a.1) (hr : r < x.1.1) : ∀ c, c ≤ x.1.2.1 → Ou x (rdC x r c a).1
  | 0, _ => h
  | c + 1, hc => (ou_rdC h hr c (by omega)).step hr (by omega)
theorem ou_rdR {x : Gd} {a : Ps × Bool} (h : Ou x a.1) : ∀ r, r ≤ x.1.1 → Ou x (rdR x r a).1
  | 0, _ => h
  | r + 1, hr => ou_rdC (ou_rdR h r (by omega)) (by omega) _ (Nat.le_refl _)
theorem ou_spr {x : Gd} {s : Ps} (h : Ou x s) : ∀ k, Ou x (spr x k s)
  | 0 => h
  | k + 1 => ou_rdR (a := (_, false)) (ou_spr h k) _ (Nat.le_refl _)
theorem ou_layR {x : Gd} : ∀ r, r ≤ x.1.1 → Ou x (layR x r).1
  | 0, _ => ⟨fun _ _ => rfl, fun _ _ => rfl⟩
  | r + 1, hr => by
    have ih := ou_layR (x := x) r (by omega)
    by_cases e : (layR x r).1.1.1 r = 0
    · rw [layR_go e]
      have key : Ou x (psRow (layR x r).1 r (layR x r).2) := by
        refine ⟨fun k hk => ?_, ih.2⟩
        show up (layR x r).1.1.1 r _ k = 0
        rw [up_off (by omega)]; exact ih.1 k hk
      exact ou_spr key _
    · rw [layR_skip e]; exact ih
theorem ou_layC {x : Gd} : ∀ c, c ≤ x.1.2.1 → Ou x (layC x c).1
  | 0, _ => ou_layR _ (Nat.le_refl _)
  | c + 1, hc => by
    have ih := ou_layC (x := x) c (by omega)
    by_cases e : (layC x c).1.1.2 c = 0
    · rw [layC_go e]
      refine ⟨ih.1, fun k hk => ?_⟩
      show up (layC x c).1.1.2 c _ k = 0
      rw [up_off (by omega)]; exact ih.2 k hk
    · rw [layC_skip e]; exact ih
theorem lay_ou {x : Gd} : Ou x (lay x).1 := ou_layC _ (Nat.le_refl _)
def ctF (x : Gd) (r c s d : Nat) : Nat := if s = r then 0 else if d = c then 0 else if mnr x r s c d then 1 else 0
theorem ctF_0 {x : Gd} {r c s d : Nat} (h : s = r ∨ d = c ∨ at' x r c = 0 ∨ at' x s c = 0 ∨ at' x r d = 0 ∨ at' x s d = 0) : ctF x r c s d = 0 := by
  unfold ctF mnr
  split
  · rfl
  · split
    · rfl
    · rename_i a b
      rcases h with h | h | h | h | h | h
      · exact absurd h a
      · exact absurd h b
      · rw [td_false h]; rfl
      · rw [td_false h]; simp
      · rw [td_false h]; simp
      · rw [td_false h]; simp
theorem ctF_1 {x : Gd} {r c s d : Nat} (h1 : ¬ s = r) (h2 : ¬ d = c) (h3 : ¬ at' x r c = 0) (h4 : ¬ at' x s c = 0) (h5 : ¬ at' x r d = 0) (h6 : ¬ at' x s d = 0) : ctF x r c s d = 1 := by
  unfold ctF mnr
  rw [if_neg h1, if_neg h2, td_true h3, td_true h4, td_true h5, td_true h6]
  rfl
theorem cth_F {x : Gd} {r c : Nat} : cth x r c = sm x.1.1 (fun s => sm x.1.2.1 (fun d => ctF x r c s d)) := rfl
theorem orI0 (m : Nat) : nI m ||| nI 0 = nI m := by
  refine Int32.toBitVec_inj.mp ?_
  rw [Int32.toBitVec_or]
  show BitVec.ofNat 32 m ||| BitVec.ofNat 32 0 = BitVec.ofNat 32 m
  rw [← BitVec.ofNat_or, Nat.or_zero]
/-! ===== the reference: part ===== -/
def tiF (x : Gd) (q r c : Nat) : Nat := if td x r c = true ∧ (lay x).1.1.1 r = q then 1 else 0
theorem tiF_sum {x : Gd} (hx : Gok x) {q : Nat} : sm x.1.1 (fun r => sm x.1.2.1 (fun c => tiF x q r c)) = tIn x q := by
  have h6 := hx.2.1.2
  unfold tIn
  refine sm_congr fun r hr => ?_
  by_cases e : (lay x).1.1.1 r = q
  · rw [if_pos e]
    have e2 : ct 6 (td x r) = sm x.1.2.1 (fun c => if td x r c then 1 else 0) := sm_more (f := fun c => if td x r c then 1 else 0) h6 fun k h1 h2 => by
      show (if td x r k then 1 else 0) = 0
      rw [td_false (hx.out h2 (Or.inr h1))]; rfl
    rw [e2]
    refine sm_congr fun c _ => ?_
    unfold tiF
    by_cases w : td x r c = true
    · rw [if_pos ⟨w, e⟩, if_pos w]
    · rw [if_neg (fun z => w z.1), if_neg w]
  · rw [if_neg e]
    refine sm_zero fun c _ => ?_
    exact if_neg (fun z => e z.2)
theorem isOut_no {k sz : Nat} (h1 : 1 ≤ sz) (h2 : sz ≤ 12) (hk : k < 2 ^ 31) (h : ¬ nI k < nI sz) : isOut (nI k) (nI 0) (nI (sz - 1)) = true := by
  rw [nI_ltI hk (by omega)] at h
  unfold isOut
  rw [decide_eq_true (show nI (sz - 1) < nI k from (nI_ltI (by omega) hk).mpr (by omega)), Bool.or_true]
theorem w2 {w : Int32} (h : (!isOut w (nI 0) (nI 2)) = true) (h0 : ¬ w = 0) (h1 : ¬ w = nI 1) : w = nI 2 := by
  obtain ⟨k, k1, k2, rfl⟩ := in_R (a := 0) (b := 2) (by omega) (by omega) (by simpa using h)
  have : k = 0 ∨ k = 1 ∨ k = 2 := by omega
  rcases this with rfl | rfl | rfl
  · exact absurd rfl h0
  · exact absurd rfl h1
  · rfl
theorem isOut_no2 {p : Int32} {sz : Nat} (h1 : 1 ≤ sz) (h2 : sz ≤ 12) (h0 : ¬ p < 0) (h : ¬ p < nI sz) : isOut p (nI 0) (nI (sz - 1)) = true := by
  obtain ⟨k, k0, rfl⟩ := nI_of h0
  exact isOut_no h1 h2 k0 h
theorem isOut_neg {p b : Int32} (h : p < 0) : isOut p (nI 0) b = true := by
  unfold isOut
  rw [decide_eq_true (show p < nI 0 from h), Bool.true_or]
/-! ===== the reference: tellAll ===== -/
def taQ (x : Gd) (r c : Nat) : Bool := !td x r c && jn x r c
theorem well_at {x : Gd} (hw : wellX x = true) {r c : Nat} (hr : r < x.1.1) (hc : c < x.1.2.1) (ht : td x r c = true) : at' x r c = pdt x r c := by
  have h1 : psWell x (lay x).1 = true := hw
  rw [psWell_wl] at h1
  have h2 := al_iff.mp (al_iff.mp h1 r hr) c hc
  unfold wl at h2
  rw [ht] at h2
  unfold pdt
  simpa using h2
theorem taQ_eq {x : Gd} (hw : wellX x = true) : ptw x.2 x.1.1 x.1.2.1 (taQ x) (pdt x) x.1.1 0 = (taX x).2 := by
  funext p
  show _ = ptw x.2 x.1.1 x.1.2.1 (jn x) (pdt x) x.1.1 0 p
  unfold ptw
  by_cases w : (p / 6 < x.1.1 ∧ p % 6 < x.1.2.1) ∧ (p / 6 < x.1.1 ∨ p / 6 = x.1.1 ∧ p % 6 < 0)
  · have ep : x.2 p = at' x (p / 6) (p % 6) := by unfold at'; rw [Nat.div_add_mod]
    cases ht : td x (p / 6) (p % 6) with
    | false =>
      have e : taQ x (p / 6) (p % 6) = jn x (p / 6) (p % 6) := by unfold taQ; rw [ht]; rfl
      rw [e]
    | true =>
      have e : taQ x (p / 6) (p % 6) = false := by unfold taQ; rw [ht]; rfl
      rw [if_neg (fun z => absurd z.2.2 (by rw [e]; decide))]
      split
      · rw [ep]; exact well_at hw w.1.1 w.1.2 ht
      · rfl
  · rw [if_neg (fun z => w ⟨z.1, z.2.1⟩), if_neg (fun z => w ⟨z.1, z.2.1⟩)]
def taC (x : Gd) (r c : Nat) : Nat := if taQ x r c = true then 1 else 0
theorem taX_told {x : Gd} (hx : Gok x) (hw : wellX x = true) : told (taX x) = told x + sm x.1.1 (fun r => sm x.1.2.1 (fun c => taC x r c)) := by
  have hR := hx.1.2
  have hC := hx.2.1.2
  have hm := hx.2.2.1.le
  have e0 : sm 36 (fun p => if p / 6 < x.1.1 ∧ p % 6 < x.1.2.1 then taC x (p / 6) (p % 6) else 0) = sm x.1.1 (fun r => sm x.1.2.1 (fun c => taC x r c)) := by
    rw [show (36 : Nat) = 6 * 6 from rfl, sm_split, sm_more hR (fun k h1 h2 => sm_zero fun j hj => if_neg (by omega))]
    refine sm_congr fun i hi => ?_
    rw [sm_more hC (fun k h1 h2 => if_neg (by omega))]
    refine sm_congr fun j hj => ?_
    rw [show (6 * i + j) / 6 = i by omega, show (6 * i + j) % 6 = j by omega, if_pos ⟨hi, hj⟩]
  rw [← e0]
  unfold told
  rw [← sm_add]
  refine sm_congr fun p hp => ?_
  rw [← taQ_eq hw]
  by_cases w : p / 6 < x.1.1 ∧ p % 6 < x.1.2.1
  · have ep : x.2 p = at' x (p / 6) (p % 6) := by unfold at'; rw [Nat.div_add_mod]
    rw [if_pos w]
    cases hq : taQ x (p / 6) (p % 6) with
    | true =>
      have ht : td x (p / 6) (p % 6) = false := by
        cases ht : td x (p / 6) (p % 6) with
        | false => rfl
        | true => unfold taQ at hq; rw [ht] at hq; exact absurd hq (by simp)
      have e1 : ¬ 0 < x.2 p := by rw [ep]; exact of_decide_eq_false ht
      have hv := lay_pv hx
      have hk := lay_kn hx
      have h1 := hv.1.1 _ (hk.1 _ w.1)
      have h2 := hv.1.2 _ (hk.2 _ w.2)
      have e2 : 0 < pdt x (p / 6) (p % 6) := Nat.pos_of_ne_zero (mul_ok _ (by omega) hx.2.2.1 _ h1.2 _ h2.2 (by omega) (by omega))
      have e3 : ptw x.2 x.1.1 x.1.2.1 (taQ x) (pdt x) x.1.1 0 p = pdt x (p / 6) (p % 6) := if_pos ⟨w, Or.inl w.1, hq⟩
      have e4 : taC x (p / 6) (p % 6) = 1 := if_pos hq
      rw [e3, if_pos e2, if_neg e1, e4]
    | false =>
      have e3 : ptw x.2 x.1.1 x.1.2.1 (taQ x) (pdt x) x.1.1 0 p = x.2 p := if_neg (fun z => absurd (hq.symm.trans z.2.2) (by decide))
      have e4 : taC x (p / 6) (p % 6) = 0 := if_neg (fun z => absurd (hq.symm.trans z) (by decide))
      rw [e3, e4, Nat.add_zero]
  · rw [if_neg w, Nat.add_zero]
    have e3 : ptw x.2 x.1.1 x.1.2.1 (taQ x) (pdt x) x.1.1 0 p = x.2 p := if_neg (fun z => w z.1)
    rw [e3]
theorem at_ptw {x : Gd} {q : Nat → Nat → Bool} {v : Nat → Nat → Nat} {i j : Nat} (hj : j < 6) : at' (x.1, ptw x.2 x.1.1 x.1.2.1 q v i j) i j = at' x i j := by
  unfold at'
  show ptw x.2 x.1.1 x.1.2.1 q v i j (6 * i + j) = _
  unfold ptw
  rw [if_neg (by omega)]
/-! ===== the reference: completions ===== -/
def cplI (x : Gd) (i : Nat) : Nat := if wellX x = true then (x.1.2.2 - 1) ^ i else 0
theorem cplI_s {x : Gd} {i : Nat} : cplI x i * (x.1.2.2 - 1) = cplI x (i + 1) := by
  unfold cplI
  split
  · rw [← Nat.pow_succ]
  · exact Nat.zero_mul _
theorem mod1 (y d m : Nat) : (y % m) * d % m = y * d % m := by rw [Nat.mul_mod, Nat.mod_mod, ← Nat.mul_mod]
theorem mod4 (a b c d m : Nat) : (a * b % m) * (c * d % m) % m = (a * c % m * b % m) * d % m := by
  rw [← Nat.mul_mod, mod1, Nat.mul_assoc (a * c % m), mod1]
  congr 1
  rw [Nat.mul_assoc, Nat.mul_assoc, ← Nat.mul_assoc b c d, Nat.mul_comm b c, Nat.mul_assoc]
/-! ===== the reference: bits, gain ===== -/
def gnP (s : Ps) (p q : Nat) : Nat := if p = q then 0 else pRows s (p + 1) * pCols s (q + 1) + pRows s (q + 1) * pCols s (p + 1)
theorem pc_row (s : Ps) (q : Nat) : pc6 (mRows s q) = pRows s q := pc6_rows
theorem gn_P {s : Ps} {r c : Nat} (hr : s.1.1 r ≠ 0) (hc : s.1.2 c ≠ 0) : gnP s (s.1.1 r - 1) (s.1.2 c - 1) = gn s r c := by
  unfold gnP gn
  rw [show s.1.1 r - 1 + 1 = s.1.1 r by omega, show s.1.2 c - 1 + 1 = s.1.2 c by omega]
  by_cases e : s.1.1 r = s.1.2 c
  · rw [if_pos e, if_pos (by omega)]
  · rw [if_neg e, if_neg (by omega)]
theorem mRows_lt {s : Ps} {q : Nat} : mRows s q < 64 := mk_lt
theorem mCols_lt {s : Ps} {q : Nat} : mCols s q < 64 := mk_lt
/-! ===== the reference: the best entry ===== -/
theorem gr_spread {x : Gd} (hx : Gok x) {r : Nat} (hr : r + 1 ≤ x.1.1) (h0 : (layR x r).1.1.1 r = 0) : Gr (psRow (layR x r).1 r (layR x r).2) (layR x (r + 1)).1 := by
  have hok := layR_ok hx r (by omega)
  rw [layR_go h0]
  exact (spr_iv hx (Nat.succ_ne_zero _) (hok.1.row hx hok.2.1 h0) 13).2
theorem layR_top {x : Gd} (hx : Gok x) : ∀ r, r ≤ x.1.1 → (layR x r).2 = 0 ∨ ((∃ k, k < r ∧ (layR x r).1.1.1 k = (layR x r).2) ∧ (layR x r).1.1.1 0 = 1)
  | 0, _ => Or.inl rfl
  | r + 1, hr => by
    have ih := layR_top hx r (by omega)
    by_cases h0 : (layR x r).1.1.1 r = 0
    · have g := gr_spread hx hr h0
      have e1 : (psRow (layR x r).1 r (layR x r).2).1.1 r = (layR x r).2 + 1 := up_at
      have e2 : (layR x (r + 1)).2 = (layR x r).2 + 1 := by rw [layR_go h0]
      refine Or.inr ⟨⟨r, by omega, ?_⟩, ?_⟩
      · rw [g.1 r (by rw [e1]; omega), e1, e2]
      · by_cases er : r = 0
        · subst er
          rw [g.1 0 (by rw [e1]; omega), e1]
          rfl
        · have e3 : (psRow (layR x r).1 r (layR x r).2).1.1 0 = (layR x r).1.1.1 0 := up_off (by omega)
          rcases ih with ih | ⟨_, ih⟩
          · exfalso
            have := (layR_ok hx r (by omega)).2.2.2.2 (by omega)
            omega
          · rw [g.1 0 (by rw [e3, ih]; decide), e3, ih]
    · rw [layR_skip h0]
      rcases ih with ih | ⟨⟨k, k1, k2⟩, ih⟩
      · exact Or.inl ih
      · exact Or.inr ⟨⟨k, by omega, k2⟩, ih⟩
theorem layC_top {x : Gd} (hx : Gok x) : ∀ c, c ≤ x.1.2.1 → ((∃ k, k < x.1.1 ∧ (layC x c).1.1.1 k = (layC x c).2) ∨ ∃ k, k < c ∧ (layC x c).1.1.2 k = (layC x c).2) ∧ (layC x c).1.1.1 0 = 1
  | 0, _ => by
    have h1 := (layR_ok hx x.1.1 (Nat.le_refl _)).2.2.2.2 (by have := hx.1; omega)
    rcases layR_top hx x.1.1 (Nat.le_refl _) with ih | ⟨a, b⟩
    · omega
    · exact ⟨Or.inl a, b⟩
  | c + 1, hc => by
    have ih := layC_top hx c (by omega)
    by_cases h0 : (layC x c).1.1.2 c = 0
    · rw [layC_go h0]
      exact ⟨Or.inr ⟨c, by omega, up_at⟩, ih.2⟩
    · rw [layC_skip h0]
      refine ⟨?_, ih.2⟩
      rcases ih.1 with a | ⟨k, k1, k2⟩
      · exact Or.inl a
      · exact Or.inr ⟨k, by omega, k2⟩
theorem ct_one {n k : Nat} {p : Nat → Bool} (hk : k < n) (h : p k = true) : 1 ≤ ct n p := by
  have := sm_ge (f := fun k => if p k then 1 else 0) hk
  rw [h] at this
  exact this
theorem gn_pos {s : Ps} {r c : Nat} (hr : r < 6) (hc : c < 6) (h : s.1.1 r ≠ s.1.2 c) : 0 < gn s r c := by
  unfold gn
  rw [if_neg h]
  have a : 1 ≤ pRows s (s.1.1 r) := ct_one hr (decide_eq_true rfl)
  have b : 1 ≤ pCols s (s.1.2 c) := ct_one hc (decide_eq_true rfl)
  have := Nat.mul_le_mul a b
  omega
theorem best_ne {x : Gd} (hx : Gok x) (h : (lay x).2 ≠ 1) : ∃ r c, r < x.1.1 ∧ c < x.1.2.1 ∧ 0 < gn (lay x).1 r c := by
  have h1 := hx.1
  have h2 := hx.2.1
  obtain ⟨a, b⟩ := layC_top hx _ (Nat.le_refl _)
  rcases a with ⟨k, k1, k2⟩ | ⟨k, k1, k2⟩
  · by_cases e : (lay x).1.1.2 0 = 1
    · exact ⟨k, 0, k1, by omega, gn_pos (by omega) (by omega) (by rw [e, show (lay x).1.1.1 k = (lay x).2 from k2]; exact h)⟩
    · exact ⟨0, 0, by omega, by omega, gn_pos (by omega) (by omega) (by rw [show (lay x).1.1.1 0 = 1 from b]; exact fun w => e w.symm)⟩
  · exact ⟨0, k, by omega, k1, gn_pos (by omega) (by omega) (by rw [show (lay x).1.1.1 0 = 1 from b, show (lay x).1.1.2 k = (lay x).2 from k2]; exact fun w => h w.symm)⟩
theorem best_0 {x : Gd} (hx : Gok x) (h : (lay x).2 = 1) {r c : Nat} (hr : r < x.1.1) (hc : c < x.1.2.1) : gn (lay x).1 r c = 0 := by
  have a := (layC_ok hx _ (Nat.le_refl _)).2.2.2.1
  have kn := lay_kn hx
  have a1 : (lay x).1.1.1 r ≤ (lay x).2 := (a r).1
  have a2 : (lay x).1.1.2 c ≤ (lay x).2 := (a c).2
  have b1 := kn.1 r hr
  have b2 := kn.2 c hc
  unfold gn
  rw [if_pos (by omega)]
theorem bst_ge {x : Gd} : ∀ {n p : Nat}, p < n → p / 6 < x.1.1 → p % 6 < x.1.2.1 → gn (lay x).1 (p / 6) (p % 6) ≤ (bst x n).2 := by
  intro n
  induction n with
  | zero => intro p h; omega
  | succ n ih =>
    intro p h h1 h2
    unfold bst
    by_cases e : p = n
    · subst e
      split
      · exact Nat.le_refl _
      · rename_i w
        have : ¬ (bst x p).2 < gn (lay x).1 (p / 6) (p % 6) := fun z => w ⟨⟨h1, h2⟩, z⟩
        omega
    · have := ih (p := p) (by omega) h1 h2
      split
      · rename_i w
        have := w.2
        show _ ≤ gn (lay x).1 (n / 6) (n % 6)
        omega
      · exact this
theorem bst_z {x : Gd} (h : ∀ r c, r < x.1.1 → c < x.1.2.1 → gn (lay x).1 r c = 0) : ∀ n, (bst x n).2 = 0
  | 0 => rfl
  | n + 1 => by
    have ih := bst_z h n
    unfold bst
    split
    · rename_i w
      exact h _ _ w.1.1 w.1.2
    · exact ih
theorem bst_one {x : Gd} (hx : Gok x) : (bst x 36).2 = 0 ↔ (lay x).2 = 1 := by
  constructor
  · intro h
    refine Classical.byContradiction fun e => ?_
    obtain ⟨r, c, hr, hc, hg⟩ := best_ne hx e
    have h1 := hx.1
    have h2 := hx.2.1
    have := bst_ge (x := x) (n := 36) (p := 6 * r + c) (by omega) (by omega) (by omega)
    rw [show (6 * r + c) / 6 = r by omega, show (6 * r + c) % 6 = c by omega] at this
    omega
  · intro h
    exact bst_z (fun r c hr hc => best_0 hx h hr hc) 36
theorem lay_b {x : Gd} (hx : Gok x) (k : Nat) : (lay x).1.1.1 k ≤ 12 ∧ (lay x).1.1.2 k ≤ 12 := by
  have a := (layC_ok hx _ (Nat.le_refl _)).2.2.2.1
  have a1 : (lay x).1.1.1 k ≤ (lay x).2 := (a k).1
  have a2 : (lay x).1.1.2 k ≤ (lay x).2 := (a k).2
  have := (lay_sz hx).2
  omega
def bI (b : Nat × Nat) : Int32 := if b.2 = 0 then -6 else nI b.1
theorem gn_td {x : Gd} (hx : Gok x) {r c : Nat} (hr : r < x.1.1) (hc : c < x.1.2.1) (h : td x r c = true) : gn (lay x).1 r c = 0 := by
  have : (lay x).1.1.1 r = (lay x).1.1.2 c := (layC_ok hx _ (Nat.le_refl _)).1 r c hr hc h
  unfold gn
  rw [if_pos this]
/-! ===== the reference: inParts, minors ===== -/
def inF (x : Gd) (r c : Nat) : Nat := if (lay x).1.1.1 r = (lay x).1.1.2 c then 1 else 0
theorem ct_prod {n m : Nat} {p q : Nat → Bool} : ct n p * ct m q = sm n (fun r => sm m (fun c => if p r = true ∧ q c = true then 1 else 0)) := by
  unfold ct
  rw [← sm_mulr]
  refine sm_congr fun r _ => ?_
  rw [← sm_mul]
  refine sm_congr fun c _ => ?_
  cases p r <;> cases q c <;> rfl
theorem inF_sum {x : Gd} (hx : Gok x) : sm x.1.1 (fun r => sm x.1.2.1 (fun c => inF x r c)) = jnE x := by
  have lo := lay_ou (x := x)
  have lk := lay_kn hx
  have l4 := (layC_ok hx _ (Nat.le_refl _)).2.2.2.1
  have hR := hx.1.2
  have hC := hx.2.1.2
  unfold jnE
  have e : ∀ p, pRows (lay x).1 (p + 1) * pCols (lay x).1 (p + 1) = sm x.1.1 (fun r => sm x.1.2.1 (fun c => if decide ((lay x).1.1.1 r = p + 1) = true ∧ decide ((lay x).1.1.2 c = p + 1) = true then 1 else 0)) := by
    intro p
    rw [← ct_prod]
    unfold pRows pCols ct
    rw [sm_more (f := fun k => if decide ((lay x).1.1.1 k = p + 1) = true then 1 else 0) hR (fun k h1 _ => if_neg (by rw [lo.1 k h1]; simp)), sm_more (f := fun k => if decide ((lay x).1.1.2 k = p + 1) = true then 1 else 0) hC (fun k h1 _ => if_neg (by rw [lo.2 k h1]; simp))]
  rw [sm_congr fun p _ => e p]
  refine Eq.trans ?_ (Eq.symm sm_comm)
  refine sm_congr fun r hr => ?_
  refine Eq.trans ?_ (Eq.symm sm_comm)
  refine sm_congr fun c hc => ?_
  unfold inF
  have z1 := lk.1 r hr
  have z2 := lk.2 c hc
  have z3 := (l4 r).1
  by_cases w : (lay x).1.1.1 r = (lay x).1.1.2 c
  · rw [if_pos w]
    have z4 : (lay x).1.1.1 r ≤ (lay x).2 := z3
    have e1 := sm_pick' (n := (lay x).2) (k := (lay x).1.1.1 r - 1) (f := fun _ => 1) (by omega)
    refine Eq.trans e1.symm (sm_congr fun p _ => ?_)
    by_cases u : p = (lay x).1.1.1 r - 1
    · rw [if_pos u, if_pos ⟨decide_eq_true (by omega), decide_eq_true (by omega)⟩]
    · rw [if_neg u, if_neg (fun q => u (by have := of_decide_eq_true q.1; omega))]
  · rw [if_neg w]
    refine (sm_zero fun p _ => if_neg fun q => w ?_).symm
    rw [of_decide_eq_true q.1, of_decide_eq_true q.2]
def gq (x : Gd) (b : Bool) (r s c d : Nat) : Nat := if mz x b r s c d = true then 1 else 0
theorem mz_sym {x : Gd} {b : Bool} {r s c d : Nat} : mz x b s r d c = mz x b r s c d := by
  unfold mz mnr zr
  rw [Nat.mul_comm (at' x s d), Nat.mul_comm (at' x s c) (at' x r d)]
  cases td x r c <;> cases td x r d <;> cases td x s c <;> cases td x s d <;> rfl
theorem sm_lt {n k : Nat} {f : Nat → Nat} (h : k ≤ n) : sm k f = sm n (fun s => if s < k then f s else 0) := by
  rw [sm_more (n := k) (m := n) h (fun j h1 _ => if_neg (by omega))]
  exact sm_congr fun j hj => (if_pos hj).symm
theorem sm_if {n : Nat} {p : Prop} [Decidable p] {f : Nat → Nat} : (if p then sm n f else 0) = sm n (fun k => if p then f k else 0) := by
  by_cases h : p
  · rw [if_pos h]; exact sm_congr fun k _ => (if_pos h).symm
  · rw [if_neg h]; exact (sm_zero fun k _ => if_neg h).symm
theorem gq_sum {x : Gd} {b : Bool} : sm x.1.1 (fun r => sm r (fun s => sm x.1.2.1 (fun c => sm c (fun d => gq x b r s c d)))) = mAll x b := by
  have e1 : sm x.1.1 (fun r => sm r (fun s => sm x.1.2.1 (fun c => sm c (fun d => gq x b r s c d)))) = sm x.1.1 (fun r => sm x.1.1 (fun s => sm x.1.2.1 (fun c => sm x.1.2.1 (fun d => if s < r then (if d < c then gq x b r s c d else 0) else 0)))) := by
    refine sm_congr fun r hr => ?_
    rw [sm_lt (n := x.1.1) (by omega)]
    refine sm_congr fun s _ => ?_
    rw [sm_if]
    refine sm_congr fun c hc => ?_
    rw [sm_lt (n := x.1.2.1) (by omega), sm_if]
  have e2 : mAll x b = sm x.1.1 (fun r => sm x.1.1 (fun s => sm x.1.2.1 (fun c => sm x.1.2.1 (fun d => if r < s then (if c < d then gq x b r s c d else 0) else 0)))) := by
    unfold mAll cb
    refine sm_congr fun r _ => ?_
    rw [sm_comm]
    refine sm_congr fun s _ => ?_
    refine sm_congr fun c _ => ?_
    rw [sm_if]
    refine sm_congr fun d _ => ?_
    unfold gq
    rfl
  rw [e1, e2, sm_comm]
  refine sm_congr fun r _ => sm_congr fun s _ => ?_
  rw [sm_comm]
  refine sm_congr fun c _ => sm_congr fun d _ => ?_
  unfold gq
  rw [mz_sym]
theorem gq_0 {x : Gd} {b : Bool} {r s c d : Nat} (h : mnr x r s c d = false) : gq x b r s c d = 0 := by
  unfold gq mz; rw [h]; rfl
theorem gq_1 {x : Gd} {r s c d : Nat} (h : mnr x r s c d = true) : gq x false r s c d = 1 := by
  unfold gq mz; rw [h]; rfl
theorem gq_2 {x : Gd} {r s c d : Nat} (h : mnr x r s c d = true) (e : at' x r c * at' x s d % x.1.2.2 = at' x r d * at' x s c % x.1.2.2) : gq x true r s c d = 0 := by
  unfold gq mz zr; rw [h, decide_eq_true e]; rfl
theorem gq_3 {x : Gd} {b : Bool} {r s c d : Nat} (h : mnr x r s c d = true) (e : ¬ at' x r c * at' x s d % x.1.2.2 = at' x r d * at' x s c % x.1.2.2) : gq x b r s c d = 1 := by
  unfold gq mz zr; rw [h, decide_eq_false e]; cases b <;> rfl
theorem mnr_0 {x : Gd} {r s c d : Nat} (h : at' x r c = 0 ∨ at' x s c = 0 ∨ at' x r d = 0 ∨ at' x s d = 0) : mnr x r s c d = false := by
  unfold mnr
  rcases h with h | h | h | h <;> rw [td_false h] <;> simp
theorem mnr_1 {x : Gd} {r s c d : Nat} (h1 : ¬ at' x r c = 0) (h2 : ¬ at' x s c = 0) (h3 : ¬ at' x r d = 0) (h4 : ¬ at' x s d = 0) : mnr x r s c d = true := by
  unfold mnr; rw [td_true h1, td_true h2, td_true h3, td_true h4]; rfl
theorem accS {a b c k : Nat} (h : b = c + k) : (some (Value.int (nI (a + c + k))) : Option Value) = some (Value.int (nI (a + b))) := by rw [h, Nat.add_assoc]
/-! ===== the reference: the rank ===== -/
theorem clr_eq : ∀ m, m < 14 → ∀ a, a < m → ∀ b, b < m → ∀ q, q < m → (a + m - q * b % m) % m = (a + (m - q) * b) % m := by decide +kernel
theorem fp_congr {B B' : Mx} {c c' : Nat} (h : ∀ k, B k c = B' k c') : ∀ n k, fp B c n k = fp B' c' n k := by
  intro n
  induction n with
  | zero => intro k; rfl
  | succ n ih => intro k; unfold fp; rw [h k, ih]
-- columns of a choice, closed up
def cmp (q : Nat → Bool) (B : Mx) : Nat → Nat × Mx
  | 0 => (0, fun _ _ => 0)
  | c + 1 => if q c then ((cmp q B c).1 + 1, fun i j => if j = (cmp q B c).1 then B i c else (cmp q B c).2 i j) else cmp q B c
theorem cmp_no {q : Nat → Bool} {B : Mx} {c : Nat} (e : q c = false) : cmp q B (c + 1) = cmp q B c := by
  rw [show cmp q B (c + 1) = (if q c then ((cmp q B c).1 + 1, fun i j => if j = (cmp q B c).1 then B i c else (cmp q B c).2 i j) else cmp q B c) from rfl, e]; rfl
theorem cmp_go {q : Nat → Bool} {B : Mx} {c : Nat} (e : q c = true) : cmp q B (c + 1) = ((cmp q B c).1 + 1, fun i j => if j = (cmp q B c).1 then B i c else (cmp q B c).2 i j) := by
  rw [show cmp q B (c + 1) = (if q c then ((cmp q B c).1 + 1, fun i j => if j = (cmp q B c).1 then B i c else (cmp q B c).2 i j) else cmp q B c) from rfl, if_pos e]
theorem cmp_le {q : Nat → Bool} {B : Mx} : ∀ c, (cmp q B c).1 ≤ c := by
  intro c
  induction c with
  | zero => exact Nat.le_refl _
  | succ c ih =>
    cases e : q c with
    | false => rw [cmp_no e]; omega
    | true => rw [cmp_go e]; exact Nat.succ_le_succ ih
theorem cmp_bd {m : Nat} {q : Nat → Bool} {B : Mx} (hm : 0 < m) (hB : Bd m B) : ∀ c, Bd m (cmp q B c).2 := by
  intro c
  induction c with
  | zero => intro i j; exact hm
  | succ c ih =>
    cases e : q c with
    | false => rw [cmp_no e]; exact ih
    | true =>
      rw [cmp_go e]
      intro i j
      show (if j = (cmp q B c).1 then B i c else (cmp q B c).2 i j) < m
      split
      · exact hB _ _
      · exact ih _ _
theorem cmp_mono {q : Nat → Bool} {B : Mx} {c : Nat} : ∀ d, c ≤ d → (cmp q B c).1 ≤ (cmp q B d).1 := by
  intro d
  induction d with
  | zero => intro h; rw [show c = 0 by omega]; exact Nat.le_refl _
  | succ d ih =>
    intro h
    by_cases e : c = d + 1
    · subst e; exact Nat.le_refl _
    · have h1 := ih (by omega)
      cases e2 : q d with
      | false => rw [cmp_no e2]; exact h1
      | true => rw [cmp_go e2]; exact Nat.le_succ_of_le h1
theorem cmp_at {q : Nat → Bool} {B : Mx} {c : Nat} (hq : q c = true) : ∀ d, c < d → ∀ i, (cmp q B d).2 i (cmp q B c).1 = B i c := by
  intro d
  induction d with
  | zero => intro h; omega
  | succ d ih =>
    intro h i
    by_cases e : c = d
    · subst e
      rw [cmp_go hq]
      exact if_pos rfl
    · cases e2 : q d with
      | false => rw [cmp_no e2]; exact ih (by omega) i
      | true =>
        rw [cmp_go e2]
        have h1 := cmp_mono (q := q) (B := B) (c := c + 1) d (by omega)
        rw [cmp_go hq] at h1
        have h1 : (cmp q B c).1 + 1 ≤ (cmp q B d).1 := h1
        show (if (cmp q B c).1 = (cmp q B d).1 then B i d else _) = _
        rw [if_neg (by omega)]
        exact ih (by omega) i
theorem cst_cmp {m n : Nat} {q : Nat → Bool} {B : Mx} : ∀ c, c ≤ 6 →
    (cst m n (fun _ => true) (cmp q B 6).2 (cmp q B c).1).2 = (cst m n q B c).2 ∧ ∀ c', c' < 6 → q c' = true → ∀ i, (cst m n (fun _ => true) (cmp q B 6).2 (cmp q B c).1).1 i (cmp q B c').1 = (cst m n q B c).1 i c' := by
  intro c
  induction c with
  | zero => intro _; exact ⟨rfl, fun c' h1 h2 i => cmp_at h2 6 h1 i⟩
  | succ c ih =>
    intro hc
    obtain ⟨i1, i2⟩ := ih (by omega)
    cases e : q c with
    | false => rw [cmp_no e, cst_no e]; exact ⟨i1, i2⟩
    | true =>
      rw [cmp_go e]
      show (cst m n (fun _ => true) (cmp q B 6).2 ((cmp q B c).1 + 1)).2 = _ ∧ ∀ c', c' < 6 → q c' = true → ∀ i, (cst m n (fun _ => true) (cmp q B 6).2 ((cmp q B c).1 + 1)).1 i (cmp q B c').1 = _
      have ef := fp_congr (i2 c (by omega) e) (n - (cst m n q B c).2) (cst m n q B c).2
      cases f : fp (cst m n q B c).1 c (n - (cst m n q B c).2) (cst m n q B c).2 with
      | none =>
        rw [cst_none e f, cst_none (q := fun _ => true) (c := (cmp q B c).1) rfl (by rw [i1, ef, f])]
        exact ⟨i1, i2⟩
      | some p =>
        rw [cst_some e f, cst_some (q := fun _ => true) (c := (cmp q B c).1) (p := p) rfl (by rw [i1, ef, f])]
        rw [i1]
        refine ⟨rfl, fun c' h1 h2 i => ?_⟩
        have sw : ∀ c', c' < 6 → q c' = true → ∀ i, swp (cst m n (fun _ => true) (cmp q B 6).2 (cmp q B c).1).1 p (cst m n q B c).2 i (cmp q B c').1 = swp (cst m n q B c).1 p (cst m n q B c).2 i c' := by
          intro c' h1 h2 i
          unfold swp
          split
          · exact i2 c' h1 h2 _
          · split <;> exact i2 c' h1 h2 _
        show elN _ _ _ _ _ i _ = elN _ _ _ _ _ i _
        unfold elN
        split
        · unfold elR
          rw [sw c' h1 h2, sw c' h1 h2, sw c (by omega) e, sw c (by omega) e]
        · exact sw c' h1 h2 i
theorem cst_le {m h : Nat} {q : Nat → Bool} {B : Mx} (hm : 0 < m) (hB : Bd m B) (c : Nat) : (cst m h q B c).2 ≤ (cst m h q B (c + 1)).2 := by
  cases e : q c with
  | false => rw [cst_no e]; exact Nat.le_refl _
  | true =>
    cases f : fp (cst m h q B c).1 c (h - (cst m h q B c).2) (cst m h q B c).2 with
    | none => rw [cst_none e f]; exact Nat.le_refl _
    | some p => rw [cst_some e f]; exact Nat.le_succ _
theorem cst_full {m h : Nat} {q : Nat → Bool} {B : Mx} (hm : 0 < m) (hB : Bd m B) {c : Nat} (e : (cst m h q B c).2 = h) : ∀ d, c ≤ d → (cst m h q B d).2 = h := by
  intro d
  induction d with
  | zero => intro hd; rw [show c = 0 by omega] at e; exact e
  | succ d ih =>
    intro hd
    by_cases w : c = d + 1
    · subst w; exact e
    · have h1 := ih (by omega)
      have h2 := cst_le (q := q) (h := h) hm hB d
      have h3 := (cst_ok (q := q) (h := h) hm hB (d + 1)).2
      omega
theorem cst_nil {m h : Nat} {q : Nat → Bool} {B : Mx} (e : ∀ k, k < 6 → q k = false) : ∀ c, c ≤ 6 → cst m h q B c = (B, 0) := by
  intro c
  induction c with
  | zero => intro _; rfl
  | succ c ih => intro hc; rw [cst_no (e c (by omega))]; exact ih (by omega)
theorem bit_hi : ∀ R, R < 7 → ∀ S, S < 2 ^ R → ∀ k, k < 6 → R ≤ k → bit S k = false := by decide +kernel
theorem bit_ex : ∀ R, R < 7 → ∀ S, S < 64 → 2 ^ R ≤ S → ∃ k, k < 6 ∧ (R ≤ k ∧ bit S k = true) := by
  have h : ∀ R, R < 7 → ∀ S, S < 64 → 2 ^ R ≤ S → ((List.range 6).any fun k => decide (R ≤ k) && bit S k) = true := by decide +kernel
  intro R hR S hS hh
  obtain ⟨k, k1, k2⟩ := List.any_eq_true.mp (h R hR S hS hh)
  rw [Bool.and_eq_true] at k2
  exact ⟨k, List.mem_range.mp k1, of_decide_eq_true k2.1, k2.2⟩
theorem colB_R {x : Gd} (hx : Gok x) {S c : Nat} (hS : S < 2 ^ x.1.1) : colB x S 6 c = colB x S x.1.1 c := by
  have hR := hx.1.2
  have key : ∀ n, x.1.1 ≤ n → n ≤ 6 → colB x S n c = colB x S x.1.1 c := by
    intro n
    induction n with
    | zero => intro h _; rw [show x.1.1 = 0 by omega]
    | succ n ih =>
      intro h1 h2
      by_cases e : x.1.1 = n + 1
      · rw [e]
      · rw [colB_s, bit_hi _ (by omega) S hS n (by omega) (by omega), ih (by omega) (by omega)]
        simp
  exact key 6 hR (by omega)
theorem bld_R {x : Gd} (hx : Gok x) {S : Nat} (hS : S < 2 ^ x.1.1) : bld x S 6 = bld x S x.1.1 := by
  have hR := hx.1.2
  have key : ∀ n, x.1.1 ≤ n → n ≤ 6 → bld x S n = bld x S x.1.1 := by
    intro n
    induction n with
    | zero => intro h _; rw [show x.1.1 = 0 by omega]
    | succ n ih =>
      intro h1 h2
      by_cases e : x.1.1 = n + 1
      · rw [e]
      · rw [bld_no (bit_hi _ (by omega) S hS n (by omega) (by omega)), ih (by omega) (by omega)]
  exact key 6 hR (by omega)
theorem rank_hi {x : Gd} (hx : Gok x) {S : Nat} (hS : S < 64) (h : 2 ^ x.1.1 ≤ S) : rankSet x S = 0 := by
  obtain ⟨k, k1, k2, k3⟩ := bit_ex _ (by have := hx.1; omega) S hS h
  unfold rankSet
  rw [cst_nil (fun c hc => ?_) 6 (Nat.le_refl _)]
  refine al_false (k := k) k1 ?_
  show (!bit S k || td x k c) = false
  rw [k3, td_false (hx.out hc (Or.inl k2))]; rfl
theorem colB_out {x : Gd} (hx : Gok x) {S c : Nat} (h0 : 0 < S) (hS : S < 2 ^ x.1.1) (hc : c < 6) (h : x.1.2.1 ≤ c) : colB x S 6 c = false := by
  have hR := hx.1.2
  obtain ⟨k, k1, -, k3⟩ := bit_ex 0 (by omega) S (Nat.lt_of_lt_of_le hS (Nat.le_trans (Nat.pow_le_pow_right (by omega) hR) (by decide))) h0
  refine al_false (k := k) k1 ?_
  show (!bit S k || td x k c) = false
  rw [k3, td_false (hx.out hc (Or.inr h))]; rfl
theorem cmp_C {x : Gd} (hx : Gok x) {S : Nat} (h0 : 0 < S) (hS : S < 2 ^ x.1.1) {B : Mx} : cmp (colB x S 6) B 6 = cmp (colB x S 6) B x.1.2.1 := by
  have hC := hx.2.1.2
  have key : ∀ n, x.1.2.1 ≤ n → n ≤ 6 → cmp (colB x S 6) B n = cmp (colB x S 6) B x.1.2.1 := by
    intro n
    induction n with
    | zero => intro h _; rw [show x.1.2.1 = 0 by omega]
    | succ n ih =>
      intro h1 h2
      by_cases e : x.1.2.1 = n + 1
      · rw [e]
      · rw [cmp_no (colB_out hx h0 hS (by omega) (by omega)), ih (by omega) (by omega)]
  exact key 6 hC (by omega)
theorem rank_cmp {x : Gd} (hx : Gok x) {S : Nat} (h0 : 0 < S) (hS : S < 2 ^ x.1.1) :
    (cst x.1.2.2 (bld x S x.1.1).1 (fun _ => true) (cmp (colB x S 6) (bld x S x.1.1).2 x.1.2.1).2 (cmp (colB x S 6) (bld x S x.1.1).2 x.1.2.1).1).2 = rankSet x S := by
  unfold rankSet
  rw [bld_R hx hS]
  rw [← (cst_cmp (m := x.1.2.2) (n := (bld x S x.1.1).1) (q := colB x S 6) (B := (bld x S x.1.1).2) 6 (Nat.le_refl _)).1, cmp_C hx h0 hS]
theorem mxTo_more {f : Nat → Nat} {n m : Nat} (h : n ≤ m) (e : ∀ k, n ≤ k → k < m → f k = 0) : mxTo f m = mxTo f n := by
  induction m with
  | zero => rw [show n = 0 by omega]
  | succ m ih =>
    by_cases w : n = m + 1
    · rw [w]
    · show max (mxTo f m) (f m) = _
      rw [e m (by omega) (by omega), Nat.max_eq_left (Nat.zero_le _)]
      exact ih (by omega) (fun k h1 h2 => e k h1 (by omega))
theorem shlR : ∀ R, R < 7 → nI 1 <<< (nI R &&& 31) = nI (2 ^ R) := by decide +kernel
theorem powR : ∀ R, R < 7 → 1 ≤ 2 ^ R ∧ 2 ^ R ≤ 64 := by decide +kernel
theorem rkF_0 {x : Gd} : mxTo (rkF x) 1 = 0 := by
  show max 0 (rkF x 0) = 0
  unfold rkF
  rfl
theorem rank_all {x : Gd} (hx : Gok x) : mxTo (rkF x) (2 ^ x.1.1) = rankAll x := by
  have hp := powR x.1.1 (by have := hx.1; omega)
  refine (mxTo_more hp.2 fun k h1 h2 => ?_).symm
  unfold rkF
  rw [if_neg (by omega)]
  exact rank_hi hx h2 h1
-- the heap
def WkR (F : Nat → Int32) (n w : Nat) (B : Mx) : Prop := ∀ i j, i < n → j < w → F (6 * i + j) = nI (B i j)
theorem fp_ne {B : Mx} {c : Nat} : ∀ {n k p : Nat}, fp B c n k = some p → ¬ B p c = 0 := by
  intro n
  induction n with
  | zero => intro k p h; cases h
  | succ n ih =>
    intro k p h
    unfold fp at h
    split at h
    · exact ih h
    · rename_i e
      cases h
      exact e
theorem clr_up {G : Nat → Int32} {B : Mx} {n w m a b c k : Nat} (GG : ∀ i j, i < n → j < w → G (6 * i + j) = nI (if j < k then (fun (i j : Nat) => if i = a then elR m B b c a j else B i j) i j else B i j)) (hk : k < w) (hw : w ≤ 6) :
    ∀ i j, i < n → j < w → upd G (6 * a + k) (nI (elR m B b c a k)) (6 * i + j) = nI (if j < k + 1 then (fun (i j : Nat) => if i = a then elR m B b c a j else B i j) i j else B i j) := by
  intro i j hi hj
  by_cases e : 6 * i + j = 6 * a + k
  · have ei : i = a := by omega
    have ej : j = k := by omega
    rw [e, upd_at, if_pos (by omega), ei, ej]
    show _ = nI (if a = a then elR m B b c a k else B a k)
    rw [if_pos rfl]
  · rw [upd_off e, GG i j hi hj]
    by_cases e2 : j < k
    · rw [if_pos e2, if_pos (by omega)]
    · rw [if_neg e2]
      by_cases e3 : j = k
      · rw [if_pos (by omega)]
        show _ = nI (if i = a then _ else B i j)
        rw [if_neg (by omega)]
      · rw [if_neg (by omega)]
theorem exc_up {G : Nat → Int32} {B : Mx} {n w a b k : Nat} (GG : ∀ i j, i < n → j < w → G (6 * i + j) = nI (if j < k then swp B a b i j else B i j)) (ha : a < n) (hb : b < n) (hk : k < w) (hw : w ≤ 6) :
    ∀ i j, i < n → j < w → upd (upd G (6 * a + k) (G (6 * b + k))) (6 * b + k) (G (6 * a + k)) (6 * i + j) = nI (if j < k + 1 then swp B a b i j else B i j) := by
  intro i j hi hj
  have g1 := GG a k ha hk
  have g2 := GG b k hb hk
  rw [if_neg (by omega)] at g1 g2
  by_cases e : j = k
  · subst e
    rw [if_pos (by omega)]
    unfold swp
    by_cases e1 : i = b
    · subst e1
      rw [upd_at, if_pos rfl, g1]
    · rw [upd_off (by omega), if_neg e1]
      by_cases e2 : i = a
      · subst e2
        rw [upd_at, if_pos rfl, g2]
      · rw [upd_off (by omega), if_neg e2, GG i j hi hj, if_neg (by omega)]
  · rw [upd_off (by omega), upd_off (by omega), GG i j hi hj]
    by_cases e2 : j < k
    · rw [if_pos e2, if_pos (by omega)]
    · rw [if_neg e2, if_neg (by omega)]
def ofO : Option Nat → Int32
  | none => -6
  | some p => nI p
theorem ofO_m6 {o : Option Nat} (h : ∀ p, o = some p → p < 100) : ofO o = -6 ↔ o = none := by
  cases o with
  | none => exact ⟨fun _ => rfl, fun _ => rfl⟩
  | some p =>
    refine ⟨fun e => absurd e ?_, fun e => nomatch e⟩
    have := h p rfl
    have key : ∀ p, p < 100 → nI p ≠ -6 := by decide +kernel
    exact key p this
theorem pI_ltN : ∀ a, a < 8 → ∀ b, b < 8 → (pI a < nI b ↔ a ≤ b) := by decide +kernel
theorem fp_step {B : Mx} {c n i : Nat} (hi : i < n) (e : B (n - i - 1) c = 0) : fp B c (i + 1) (n - (i + 1)) = fp B c i (n - i) := by
  rw [show n - (i + 1) = n - i - 1 by omega, fp_0 e, show n - i - 1 + 1 = n - i by omega]
theorem fp_stop {B : Mx} {c n i : Nat} (e : ¬ B (n - i - 1) c = 0) : fp B c (i + 1) (n - (i + 1)) = some (n - i - 1) := by
  rw [show n - (i + 1) = n - i - 1 by omega, fp_s e]
/-! ===== the reference: rankBy, rankBound, count ===== -/
theorem wk_put {G : Nat → Int32} {n w b : Nat} {W : Mx} {v : Int32} (hw : w < 6) (h : WkR G n w W) : WkR (upd G (6 * b + w) v) n w W := by
  intro i j hi hj
  rw [upd_off (by omega)]
  exact h i j hi hj
theorem wk_col {G : Nat → Int32} {w r c : Nat} {x : Gd} {S : Nat} (hw : w < 6) (e : bit S r = true) (h : ∀ i, i < (bld x S r).1 → G (6 * i + w) = nI ((bld x S r).2 i c)) : ∀ i, i < (bld x S (r + 1)).1 → upd G (6 * (bld x S r).1 + w) (nI (at' x r c)) (6 * i + w) = nI ((bld x S (r + 1)).2 i c) := by
  rw [bld_go e]
  intro i hi
  have hi : i < (bld x S r).1 + 1 := hi
  show _ = nI ((if i = (bld x S r).1 then at' x r else (bld x S r).2 i) c)
  by_cases w1 : i = (bld x S r).1
  · rw [w1, upd_at, if_pos rfl]
  · rw [upd_off (by omega), if_neg w1]
    exact h i (by omega)
theorem wk_done {G : Nat → Int32} {n w c : Nat} {q : Nat → Bool} {B : Mx} (hw : w = (cmp q B c).1) (e : q c = true) (h1 : WkR G n w (cmp q B c).2) (h2 : ∀ i, i < n → G (6 * i + w) = nI (B i c)) : WkR G n (cmp q B (c + 1)).1 (cmp q B (c + 1)).2 := by
  rw [cmp_go e]
  subst hw
  intro i j hi hj
  have hj : j < (cmp q B c).1 + 1 := hj
  show _ = nI (if j = (cmp q B c).1 then B i c else (cmp q B c).2 i j)
  by_cases w1 : j = (cmp q B c).1
  · rw [w1, if_pos rfl]; exact h2 i hi
  · rw [if_neg w1]; exact h1 i j hi (by omega)
theorem rkF_s {x : Gd} {i : Nat} : rkF x (i + 1) = rankSet x (i + 1) := if_neg (by omega)
theorem mxTo_le2 {f : Nat → Nat} {n : Nat} (h : f n ≤ mxTo f n) : mxTo f (n + 1) = mxTo f n := Nat.max_eq_left h
theorem mxTo_gt {f : Nat → Nat} {n : Nat} (h : ¬ f n ≤ mxTo f n) : mxTo f (n + 1) = f n := Nat.max_eq_right (by omega)
