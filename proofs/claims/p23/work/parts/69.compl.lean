/-! ===== completions; long numbers; spoilers by their bits ===== -/
theorem lN_inj {a b : Nat} (ha : a < 2 ^ 63) (hb : b < 2 ^ 63) : lN a = lN b ↔ a = b := by
  constructor
  · intro e
    have := congrArg Int64.toInt e
    rw [lN_toIntB ha, lN_toIntB hb] at this
    omega
  · intro e; rw [e]
theorem lN_ltB {a b : Nat} (ha : a < 2 ^ 63) (hb : b < 2 ^ 63) : lN a < lN b ↔ a < b := by
  rw [Int64.lt_iff_toInt_lt, lN_toIntB ha, lN_toIntB hb]; omega
theorem lN_leB {a b : Nat} (ha : a < 2 ^ 63) (hb : b < 2 ^ 63) : lN a ≤ lN b ↔ a ≤ b := by
  rw [Int64.le_iff_toInt_le, lN_toIntB ha, lN_toIntB hb]; omega
theorem natL_lN {n : Nat} (h : n < 2 ^ 63) : natL (lN n) = n := by
  unfold natL
  rw [lN_toIntB h]; rfl
theorem lN_6 {n : Nat} (h : n < 2 ^ 63) : lN n ≠ -6 := by
  intro e
  have := congrArg Int64.toInt e
  rw [lN_toIntB h] at this
  have e2 : (-6 : Int64).toInt = -6 := by decide
  omega
theorem pow_mono12 {m a b : Nat} (hm : Mok m) (h : a ≤ b) : (m - 1) ^ a ≤ (m - 1) ^ b := Nat.pow_le_pow_right (by have := hm.le; omega) h
theorem cpl_le {x : Gd} (hx : Gok x) : (x.1.2.2 - 1) ^ ((lay x).2 - 1) < 2 ^ 62 := by
  have hm := hx.2.2.1.le
  have hn := l_sz hx
  refine Nat.lt_of_le_of_lt (Nat.le_trans (Nat.pow_le_pow_left (show x.1.2.2 - 1 ≤ 12 by omega) _) (Nat.pow_le_pow_right (by omega) (show (lay x).2 - 1 ≤ 11 by omega))) ?_
  decide
/-- an entry of a completion -/
def cv (x : Gd) (k r c : Nat) : Nat := qt x.1.2.2 (pdt x r c * fac x.1.2.2 k (lP x r - 1) % x.1.2.2) (fac x.1.2.2 k (lQ x c - 1))
theorem fac_ok {m : Nat} (hm : Mok m) (k p : Nat) : 1 ≤ fac m k p ∧ fac m k p < m := by
  have h := hm.le
  unfold fac
  split
  · omega
  · have := Nat.mod_lt (k / (m - 1) ^ (p - 1)) (show 0 < m - 1 by omega)
    omega
theorem fac_nz {m : Nat} (hm : Mok m) (k p : Nat) : fac m k p % m ≠ 0 := nz_lt (fac_ok hm k p).1 (fac_ok hm k p).2
theorem pdt_lt' {x : Gd} (hx : Gok x) {r c : Nat} : pdt x r c < x.1.2.2 := Nat.mod_lt _ (by have := hx.2.2.1.le; omega)
theorem cv_ok {x : Gd} (hx : Gok x) {k r c : Nat} (hr : r < x.1.1) (hc : c < x.1.2.1) : (1 ≤ cv x k r c ∧ cv x k r c < x.1.2.2) ∧ eqm x.1.2.2 (cv x k r c * fac x.1.2.2 k (lQ x c - 1)) (lu x r * lv' x c * fac x.1.2.2 k (lP x r - 1)) := by
  have hm := hx.2.2.1
  have h := hm.le
  have p0 := pdt_pos hx hr hc
  have a0 : pdt x r c * fac x.1.2.2 k (lP x r - 1) % x.1.2.2 ≠ 0 := nz_mul hm (nz_lt p0 (pdt_lt' hx)) (fac_nz hm _ _)
  have f := fac_ok hm k (lQ x c - 1)
  have q := qt_ok x.1.2.2 (by omega) hm _ (Nat.mod_lt _ (by omega)) _ f.2 a0 (by omega)
  refine ⟨q.1, ?_⟩
  have e : eqm x.1.2.2 (cv x k r c * fac x.1.2.2 k (lQ x c - 1)) (pdt x r c * fac x.1.2.2 k (lP x r - 1)) := by
    have : eqm x.1.2.2 (cv x k r c * fac x.1.2.2 k (lQ x c - 1)) (pdt x r c * fac x.1.2.2 k (lP x r - 1) % x.1.2.2) := by
      show _ % _ = _
      rw [Nat.mod_mod]
      exact q.2
    exact this.tr eqm.md
  exact e.tr (eqm.md.mul (eqm.rf _ _))
theorem eq_lt {m a b : Nat} (ha : a < m) (hb : b < m) (e : eqm m a b) : a = b := by
  unfold eqm at e
  rwa [Nat.mod_eq_of_lt ha, Nat.mod_eq_of_lt hb] at e
theorem cv_jn {x : Gd} (hx : Gok x) {k r c : Nat} (hr : r < x.1.1) (hc : c < x.1.2.1) (e : lP x r = lQ x c) : cv x k r c = pdt x r c := by
  have h := cv_ok hx (k := k) hr hc
  rw [e] at h
  exact eq_lt h.1.2 (pdt_lt' hx) ((h.2.canc hx.2.2.1 (fac_nz hx.2.2.1 _ _)).tr eqm.md.sy)
theorem cv_told {x : Gd} (hx : Gok x) (hw : wellX x = true) {k r c : Nat} (hr : r < x.1.1) (hc : c < x.1.2.1) (ht : td x r c = true) : cv x k r c = at' x r c := by
  rw [cv_jn hx hr hc (l_td hx hr hc ht), well_at hw hr hc ht]
theorem cv_rest {x : Gd} (hx : Gok x) {k r c : Nat} (hr : r < x.1.1) (hc : c < x.1.2.1) : eqm x.1.2.2 (cv x k r c * cv x k 0 0) (cv x k r 0 * cv x k 0 c) := by
  have hR := hx.1
  have hC := hx.2.1
  have hm := hx.2.2.1
  have a := (cv_ok hx (k := k) hr hc).2
  have b := (cv_ok hx (k := k) (r := 0) (c := 0) (by omega) (by omega)).2
  have d := (cv_ok hx (k := k) (r := r) (c := 0) hr (by omega)).2
  have e := (cv_ok hx (k := k) (r := 0) (c := c) (by omega) hc).2
  refine eqm.canc hm (k := fac x.1.2.2 k (lQ x c - 1) * fac x.1.2.2 k (lQ x 0 - 1)) (nz_mul hm (fac_nz hm _ _) (fac_nz hm _ _)) ?_
  refine (eqm.of ?_).tr ((a.mul b).tr (eqm.tr (eqm.of ?_) ((d.mul e).sy.tr (eqm.of ?_))))
  · ac_rfl
  · ac_rfl
  · ac_rfl
/-- where row and column are in unlike parts: the completion whose digit of the later part is 1 differs from the first -/
theorem cv_ne {x : Gd} (hx : Gok x) {r c : Nat} (hr : r < x.1.1) (hc : c < x.1.2.1) (e : lP x r ≠ lQ x c) : cv x ((x.1.2.2 - 1) ^ (max (lP x r - 1) (lQ x c - 1) - 1)) r c ≠ cv x 0 r c := by
  have hm := hx.2.2.1
  have h := hm.le
  have p0 := lP_nz hx hr
  have q0 := lQ_nz hx hc
  intro z
  have f0 : ∀ p, fac x.1.2.2 0 p = 1 := fun p => by
    unfold fac
    split
    · rfl
    · rw [Nat.zero_div, Nat.zero_mod]
  have f2 : ∀ p, p ≠ 0 → fac x.1.2.2 ((x.1.2.2 - 1) ^ (p - 1)) p = 2 := fun p hp => by
    unfold fac
    rw [if_neg hp, Nat.div_self (Nat.pow_pos (by omega)), Nat.mod_eq_of_lt (by omega)]
  have f1 : ∀ p q, q < p → fac x.1.2.2 ((x.1.2.2 - 1) ^ (p - 1)) q = 1 := fun p q hq => by
    unfold fac
    split
    · rfl
    · rename_i q0
      rw [Nat.pow_div (by omega) (by omega), show p - 1 - (q - 1) = (p - 1 - (q - 1) - 1) + 1 by omega, Nat.pow_succ, Nat.mul_mod_left]
  have a := (cv_ok hx (k := 0) hr hc).2
  rw [f0, f0, Nat.mul_one, Nat.mul_one] at a
  have n12 : ∀ y, y % x.1.2.2 ≠ 0 → ¬ eqm x.1.2.2 (1 * y) (2 * y) := fun y hy w => by
    have := w.canc hm hy
    unfold eqm at this
    rw [Nat.mod_eq_of_lt (by omega), Nat.mod_eq_of_lt (by omega)] at this
    omega
  have y0 : cv x 0 r c % x.1.2.2 ≠ 0 := nz_lt (cv_ok hx (k := 0) hr hc).1.1 (cv_ok hx (k := 0) hr hc).1.2
  by_cases w : lP x r < lQ x c
  · have m1 : max (lP x r - 1) (lQ x c - 1) = lQ x c - 1 := by omega
    rw [m1] at z
    have b := (cv_ok hx (k := (x.1.2.2 - 1) ^ (lQ x c - 1 - 1)) hr hc).2
    rw [f2 (lQ x c - 1) (by omega), f1 (lQ x c - 1) (lP x r - 1) (by omega), Nat.mul_one, z] at b
    refine n12 _ y0 ((eqm.of (Nat.one_mul _)).tr (a.tr (b.sy.tr (eqm.of (Nat.mul_comm _ _)))))
  · have m1 : max (lP x r - 1) (lQ x c - 1) = lP x r - 1 := by omega
    rw [m1] at z
    have b := (cv_ok hx (k := (x.1.2.2 - 1) ^ (lP x r - 1 - 1)) hr hc).2
    rw [f2 (lP x r - 1) (by omega), f1 (lP x r - 1) (lQ x c - 1) (by omega), Nat.mul_one, z] at b
    refine n12 _ y0 ((eqm.of (Nat.one_mul _)).tr (b.tr ((a.sy.mul (eqm.rf _ 2)).tr (eqm.of (Nat.mul_comm _ _)))))
theorem gHas_in {x : Gd} (hx : Gok x) {r c : Nat} (hr : r < x.1.1) (hc : c < x.1.2.1) : gHas x (nI r) (nI c) = true := by
  have h1 := hx.1
  have h2 := hx.2.1
  unfold gHas
  rw [decide_eq_true (Int32.not_lt.mp (nI_pos (by omega))), decide_eq_true ((nI_ltI (by omega) (by omega)).mpr hr), decide_eq_true (Int32.not_lt.mp (nI_pos (by omega))), decide_eq_true ((nI_ltI (by omega) (by omega)).mpr hc)]
  rfl
theorem Vcompl_in {x : Gd} (hx : Gok x) {k r c : Nat} (hk : k < cpl x) (hr : r < x.1.1) (hc : c < x.1.2.1) : Vcompl x (lN k) (nI r) (nI c) = nI (cv x k r c) := by
  have h1 := hx.1
  have h2 := hx.2.1
  have h3 := cpl_le hx
  have h4 : cpl x ≤ (x.1.2.2 - 1) ^ ((lay x).2 - 1) := by
    unfold cpl
    split
    · exact Nat.le_refl _
    · exact Nat.zero_le _
  unfold Vcompl
  rw [if_neg, natOf_nI (by omega), natOf_nI (by omega), natL_lN (by omega)]
  · rfl
  · rintro (z | z | z)
    · rw [lN_ltB (by omega) (by omega)] at z; omega
    · rw [lN_leB (by omega) (by omega)] at z; omega
    · rw [gHas_in hx hr hc] at z; cases z
theorem Vcompl_hi {x : Gd} {r c : Int32} : Vcompl x (lN (cpl x)) r c = -1 := if_pos (Or.inr (Or.inl (Int64.le_refl _)))
theorem Vcompl_lo {x : Gd} {k : Int64} {r c : Int32} (h : k < lN 0) : Vcompl x k r c = -1 := if_pos (Or.inl h)
theorem fol_jn {x : Gd} (hw : wellX x = true) {r c : Nat} (e : lP x r = lQ x c) : fol x r c = nI (pdt x r c) := if_pos ⟨hw, e⟩
theorem fol_no {x : Gd} {r c : Nat} (e : lP x r ≠ lQ x c) : fol x r c = -6 := if_neg fun z => e z.2
theorem shrB (S : Nat) (hS : S < 2 ^ 63) : ∀ p, p < 36 → lN S >>> ((nI p).toInt64 &&& 63) = lN (S / 2 ^ p) := by
  intro p hp
  have e : ((nI p).toInt64 &&& 63) = Int64.ofNat p := by
    have : ∀ p, p < 36 → ((nI p).toInt64 &&& 63) = Int64.ofNat p := by decide +kernel
    exact this p hp
  rw [e]
  have hm : (lN S).toBitVec.msb = false := by
    rw [BitVec.msb_eq_false_iff_two_mul_lt]
    show 2 * (BitVec.ofNat 64 S).toNat < 2 ^ 64
    rw [BitVec.toNat_ofNat]
    omega
  refine Int64.toBitVec_inj.mp ?_
  have h1 : (lN S >>> Int64.ofNat p).toBitVec = (lN S).toBitVec.sshiftRight' ((Int64.ofNat p).toBitVec.smod 64) := rfl
  have h2 : (Int64.ofNat p).toBitVec.smod 64 = BitVec.ofNat 64 p := by
    have : ∀ p, p < 36 → (Int64.ofNat p).toBitVec.smod 64 = BitVec.ofNat 64 p := by decide +kernel
    exact this p hp
  rw [h1, h2]
  refine BitVec.eq_of_toNat_eq ?_
  rw [BitVec.toNat_sshiftRight'_of_msb_false hm]
  show (BitVec.ofNat 64 S).toNat >>> (BitVec.ofNat 64 p).toNat = (BitVec.ofNat 64 (S / 2 ^ p)).toNat
  have hd : S / 2 ^ p ≤ S := Nat.div_le_self _ _
  rw [BitVec.toNat_ofNat, BitVec.toNat_ofNat, BitVec.toNat_ofNat, Nat.mod_eq_of_lt (by omega), Nat.mod_eq_of_lt (show p < 2 ^ 64 by omega), Nat.mod_eq_of_lt (by omega), Nat.shiftRight_eq_div_pow]
theorem and1B (a : Nat) : lN a &&& lN 1 = lN (a % 2) := by
  refine Int64.toBitVec_inj.mp ?_
  rw [Int64.toBitVec_and]
  show BitVec.ofNat 64 a &&& BitVec.ofNat 64 1 = BitVec.ofNat 64 (a % 2)
  rw [← BitVec.ofNat_and, Nat.and_one_is_mod]
theorem spl_bit {x : Gd} {p : Nat} (hp : p < 36) : (lN (mk 36 (spl x)) >>> ((nI p).toInt64 &&& 63)) &&& lN 1 = lN (if spl x p = true then 1 else 0) := by
  have h := mk_lt (n := 36) (p := spl x)
  rw [shrB _ (by omega) p hp, and1B, mk_bit hp]
theorem sBo_l (b : Bool) : (sBo b).toInt64 = lN (if b = true then 1 else 0) := by cases b <;> decide
