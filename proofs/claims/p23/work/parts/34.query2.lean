/-! ===== cycles, spoilers, the best entry, put ===== -/
def LeastW (F : Ph → Nat) (r c : Nat) : Prop := F (wky r c) ≠ 0 ∧ ∀ r' c', (r' < r ∨ r' = r ∧ c' < c) → F (wky r' c') = 0
noncomputable def lw (F : Ph → Nat) : Nat × Nat := Classical.epsilon (fun p : Nat × Nat => LeastW F p.1 p.2)
theorem lw_eq {F : Ph → Nat} {r c : Nat} (h : LeastW F r c) : lw F = (r, c) := by
  have e : LeastW F (lw F).1 (lw F).2 := Classical.epsilon_spec (p := fun p : Nat × Nat => LeastW F p.1 p.2) ⟨(r, c), h⟩
  have k1 : ¬ (r < (lw F).1 ∨ r = (lw F).1 ∧ c < (lw F).2) := fun w => h.1 (e.2 r c w)
  have k2 : ¬ ((lw F).1 < r ∨ (lw F).1 = r ∧ (lw F).2 < c) := fun w => e.1 (h.2 (lw F).1 (lw F).2 w)
  refine Prod.ext ?_ ?_
  · show (lw F).1 = r; omega
  · show (lw F).2 = c; omega
def cyc (x : Gd) (b : Bool) (k : Nat) : Nat := if b = true then Tot x (x.1.2.2 - 1) k wrg / 2 else Tot x 1 k one / 2
def Vcycles (x : Gd) (n w : Int32) : Int32 := if isOut n (nI 4) (nI 12) = true ∨ ¬ (n &&& nI 1) = nI 0 ∨ isOut w (nI 0) (nI 1) = true then -2 else nI (cyc x (decide (w = nI 1)) (natOf n / 2))
theorem and1 : ∀ n, n < 13 → nI n &&& nI 1 = nI (n % 2) := by decide +kernel
theorem shr1 : ∀ n, n < 13 → nI n >>> (nI 1 &&& 31) = nI (n / 2) := by decide +kernel
def swF (x : Gd) : Nat → Nat → Nat
  | 0, _ => 0
  | n + 1, k => if 0 < Tot x (x.1.2.2 - 1) k wrg / 2 then k else swF x n (k + 1)
def sw (x : Gd) : Nat := if wellX x = true then 0 else swF x 5 2
theorem swF_le {x : Gd} : ∀ {n k : Nat}, swF x n k = 0 ∨ (k ≤ swF x n k ∧ swF x n k < k + n) := by
  intro n
  induction n with
  | zero => intro k; exact Or.inl rfl
  | succ n ih =>
    intro k
    unfold swF
    split
    · omega
    · have := @ih (k + 1); omega
theorem sw_le {x : Gd} : sw x = 0 ∨ (2 ≤ sw x ∧ sw x ≤ 6) := by
  unfold sw
  split
  · exact Or.inl rfl
  · have := @swF_le x 5 2; omega
noncomputable def Vwrong (x : Gd) (w : Int32) : Int32 := if isOut w (nI 0) (nI 2) = true then -2 else if sw x = 0 then -6 else if w = nI 0 then nI (2 * sw x) else if w = nI 1 then nI (lw (Tot x (x.1.2.2 - 1) (sw x))).1 else nI (lw (Tot x (x.1.2.2 - 1) (sw x))).2
theorem sw_pos {x : Gd} : ∀ {n k : Nat}, swF x n k ≠ 0 → 0 < Tot x (x.1.2.2 - 1) (swF x n k) wrg / 2 := by
  intro n
  induction n with
  | zero => intro k h; exact absurd rfl h
  | succ n ih =>
    intro k h
    unfold swF at h ⊢
    split at h
    · rename_i e
      rw [if_pos e]; exact e
    · rename_i e
      rw [if_neg e]
      exact ih h
-- spoilers
def spl (x : Gd) (p : Nat) : Bool := decide (0 < x.2 p) && wellX (x.1, up x.2 p 0)
def Vspoil (x : Gd) : Int64 := if wellX x = true then -6 else lN (mk 36 (spl x))
theorem orL {k m : Nat} (hm : m < 2 ^ k) : lN m ||| lN (2 ^ k) = lN (m + 2 ^ k) := by
  have e : m + 2 ^ k = m ||| 2 ^ k := by
    have := Nat.two_pow_add_eq_or_of_lt hm 1
    rw [Nat.mul_one, Nat.or_comm] at this
    omega
  rw [e]
  refine Int64.toBitVec_inj.mp ?_
  rw [Int64.toBitVec_or]
  show BitVec.ofNat 64 m ||| BitVec.ofNat 64 (2 ^ k) = BitVec.ofNat 64 (m ||| 2 ^ k)
  rw [BitVec.ofNat_or]
theorem shlL : ∀ k, k < 36 → lN 1 <<< ((nI k).toInt64 &&& 63) = lN (2 ^ k) := by decide +kernel
theorem sBo_1 {b : Bool} : sBo b = nI 1 ↔ b = true := by cases b <;> decide
theorem VwellIf_0 {x : Gd} (hx : Gok x) {r c : Nat} (hr : r < x.1.1) (hc : c < x.1.2.1) : VwellIf x (nI r) (nI c) (nI 0) = sBo (wellX (x.1, up x.2 (6 * r + c) 0)) := by
  have h1 := hx.1
  have h2 := hx.2.1
  have h3 := hx.2.2.1.le
  have e : eT x (nI r) (nI c) (nI 0) = 0 := by
    unfold eT
    rw [gHas_N hx (by omega) (by omega), decide_eq_true hr, decide_eq_true hc, if_neg (by decide), if_neg]
    · rfl
    · unfold isOut
      rw [decide_eq_false (Int32.not_lt.mpr (Int32.le_refl _)), decide_eq_false (nI_nlt (by omega) (by omega))]
      decide
  unfold VwellIf
  rw [if_pos e, natOf_nI (by omega), natOf_nI (by omega), natOf_nI (by omega)]
  rfl
theorem spl_out {x : Gd} (hx : Gok x) {p : Nat} (h : x.1.1 ≤ p / 6 ∨ x.1.2.1 ≤ p % 6) : spl x p = false := by
  unfold spl
  rw [hx.2.2.2.2 p h]
  rfl
theorem spl_0 {x : Gd} {i j : Nat} (h : at' x i j = 0) : spl x (6 * i + j) = false := by
  unfold spl
  rw [show x.2 (6 * i + j) = 0 from h]
  rfl
theorem mk_spl {x : Gd} (hx : Gok x) {i : Nat} : mk (6 * i + x.1.2.1) (spl x) = mk (6 * (i + 1)) (spl x) := by
  have := hx.2.1
  exact (mk_more (by omega) fun k h1 h2 => spl_out hx (by omega)).symm
theorem mk_splE {x : Gd} (hx : Gok x) : mk (6 * x.1.1) (spl x) = mk 36 (spl x) := by
  have := hx.1
  exact (mk_more (by omega) fun k h1 h2 => spl_out hx (by omega)).symm
theorem mk_succ {n : Nat} {p : Nat → Bool} : mk (n + 1) p = mk n p + if p n then 2 ^ n else 0 := rfl
-- the best entry
def bst (x : Gd) : Nat → Nat × Nat
  | 0 => (0, 0)
  | n + 1 => if (n / 6 < x.1.1 ∧ n % 6 < x.1.2.1) ∧ (bst x n).2 < gn (lay x).1 (n / 6) (n % 6) then (n, gn (lay x).1 (n / 6) (n % 6)) else bst x n
theorem gn_le {s : Ps} {r c : Nat} : gn s r c ≤ 72 := by
  unfold gn
  split
  · omega
  · have a : ∀ q, pRows s q ≤ 6 := fun q => ct_le
    have b : ∀ q, pCols s q ≤ 6 := fun q => ct_le
    have := Nat.mul_le_mul (a (s.1.1 r)) (b (s.1.2 c))
    have := Nat.mul_le_mul (a (s.1.2 c)) (b (s.1.1 r))
    omega
theorem bst_le {x : Gd} : ∀ n, (bst x n).1 ≤ n ∧ (bst x n).2 ≤ 72 := by
  intro n
  induction n with
  | zero => exact ⟨Nat.le_refl _, by show 0 ≤ 72; omega⟩
  | succ n ih =>
    unfold bst
    split
    · exact ⟨by show n ≤ n + 1; omega, gn_le⟩
    · exact ⟨by omega, ih.2⟩
theorem bst_no {x : Gd} {i j : Nat} (hj : j < 6) (h : gn (lay x).1 i j ≤ (bst x (6 * i + j)).2) : bst x (6 * i + (j + 1)) = bst x (6 * i + j) := by
  show bst x (6 * i + j + 1) = _
  have e1 : (6 * i + j) / 6 = i := by omega
  have e2 : (6 * i + j) % 6 = j := by omega
  rw [bst, e1, e2, if_neg (by omega)]
theorem bst_go {x : Gd} {i j : Nat} (hj : j < 6) (h1 : i < x.1.1) (h2 : j < x.1.2.1) (h : ¬ gn (lay x).1 i j ≤ (bst x (6 * i + j)).2) : bst x (6 * i + (j + 1)) = (6 * i + j, gn (lay x).1 i j) := by
  show bst x (6 * i + j + 1) = _
  have e1 : (6 * i + j) / 6 = i := by omega
  have e2 : (6 * i + j) % 6 = j := by omega
  rw [bst, e1, e2, if_pos ⟨⟨h1, h2⟩, by omega⟩]
theorem bst_skip {x : Gd} {a : Nat} : ∀ {b : Nat}, a ≤ b → (∀ k, a ≤ k → k < b → x.1.1 ≤ k / 6 ∨ x.1.2.1 ≤ k % 6) → bst x b = bst x a := by
  intro b
  induction b with
  | zero => intro h _; rw [show a = 0 by omega]
  | succ b ih =>
    intro h1 h2
    rcases Nat.lt_or_ge a (b + 1) with q | q
    · have := h2 b (by omega) (by omega)
      rw [bst, if_neg (by omega)]
      exact ih (by omega) fun k h3 h4 => h2 k h3 (by omega)
    · rw [show a = b + 1 by omega]
def Vbest (x : Gd) (w : Int32) : Int32 := if isOut w (nI 0) (nI 2) = true then -2 else if (bst x 36).2 = 0 then -6 else if w = nI 0 then nI ((bst x 36).1 / 6) else if w = nI 1 then nI ((bst x 36).1 % 6) else nI (bst x 36).2
-- put
def natU (k : Int64) : Nat := k.toUInt64.toNat
theorem natU_lt {k : Int64} : natU k < 2 ^ 64 := k.toUInt64.toNat_lt
theorem natU_eq {k : Int64} : k = lN (natU k) := by
  refine Int64.toBitVec_inj.mp ?_
  show k.toBitVec = BitVec.ofNat 64 (natU k)
  have : natU k = k.toBitVec.toNat := rfl
  rw [this, BitVec.ofNat_toNat]
  exact (BitVec.setWidth_eq _).symm
def by8 (n i : Nat) : Nat := n / 256 ^ i % 256
def szF (n : Nat) : Nat → Nat → Nat
  | 0, i => i
  | f + 1, i => if n / 256 ^ i = 0 then i else if isOut (nI (by8 n i)) (nI 33) (nI 126) = true then 0 else szF n f (i + 1)
def pz (n : Nat) : Nat := szF n 8 0
theorem szF_le {n : Nat} : ∀ {f i : Nat}, szF n f i ≤ i + f := by
  intro f
  induction f with
  | zero => intro i; exact Nat.le_refl _
  | succ f ih =>
    intro i
    unfold szF
    split
    · omega
    · split
      · omega
      · have := @ih (i + 1); omega
theorem szF_good {n : Nat} : ∀ {f i : Nat}, szF n f i ≠ 0 → ∀ j, i ≤ j → j < szF n f i → isOut (nI (by8 n j)) (nI 33) (nI 126) = false := by
  intro f
  induction f with
  | zero => intro i _ j h1 h2; have h2 : j < i := h2; omega
  | succ f ih =>
    intro i h j h1 h2
    unfold szF at h h2
    split at h
    · rename_i e
      rw [if_pos e] at h2
      omega
    · rename_i e
      rw [if_neg e] at h2
      split at h
      · exact absurd rfl h
      · rename_i e2
        rw [if_neg e2] at h2
        rcases Nat.lt_or_ge i j with q | q
        · exact ih h j (by omega) h2
        · rw [show j = i by omega]
          simpa using e2
theorem pz_le {n : Nat} : pz n ≤ 8 := szF_le
theorem by8_ok {n j : Nat} (h : isOut (nI (by8 n j)) (nI 33) (nI 126) = false) : 33 ≤ by8 n j ∧ by8 n j ≤ 126 := by
  have hb : by8 n j < 256 := Nat.mod_lt _ (by omega)
  obtain ⟨k, h1, h2, h3⟩ := in_R (a := 33) (b := 126) (by omega) (by omega) h
  have := (nI_eq (a := by8 n j) (b := k) (by omega) (by omega)).mp h3
  omega
def apd (P : Nat → Nat) (t n s i : Nat) : Nat → Nat := fun j => if t ≤ j ∧ j < t + i then by8 n (s - 1 - (j - t)) else P j
theorem apd_0 {P : Nat → Nat} {t n s : Nat} : apd P t n s 0 = P := by
  funext j; unfold apd; rw [if_neg (by omega)]
theorem apd_s {P : Nat → Nat} {t n s i : Nat} : up (apd P t n s i) (t + i) (by8 n (s - 1 - i)) = apd P t n s (i + 1) := by
  funext j
  by_cases e : j = t + i
  · subst e
    rw [up_at]
    unfold apd
    rw [if_pos (by omega), show t + i - t = i by omega]
  · rw [up_off e]
    unfold apd
    by_cases w : t ≤ j ∧ j < t + i
    · rw [if_pos w, if_pos (by omega)]
    · rw [if_neg w, if_neg (by omega)]
def putP (q : Pd) (n : Nat) : Pd := (q.1 + pz n, apd q.2 q.1 n (pz n) (pz n))
def Sput (st : St) (k : Int64) : Int32 × St := if pz (natU k) = 0 then (-2, st) else if 50 < st.2.2.2.1 + pz (natU k) then (-4, st) else (nI (st.2.2.2.1 + pz (natU k)), (st.1, st.2.1, st.2.2.1, putP st.2.2.2 (natU k)))
theorem apd_ok {q : Pd} (hq : PdOk q) {n i : Nat} (h0 : pz n ≠ 0) (hi : i ≤ pz n) (h5 : q.1 + pz n ≤ 50) : PdOk (q.1 + i, apd q.2 q.1 n (pz n) i) := by
  refine ⟨by show q.1 + i ≤ 50; omega, fun j hj => ?_⟩
  have hj : j < q.1 + i := hj
  show 33 ≤ apd q.2 q.1 n (pz n) i j ∧ apd q.2 q.1 n (pz n) i j ≤ 126
  unfold apd
  split
  · rename_i e
    exact by8_ok (szF_good (f := 8) (i := 0) h0 _ (Nat.zero_le _) (show _ < pz n by omega))
  · exact hq.2 j (by omega)
theorem Sput_ok {st : St} (hS : StOk st) {k : Int64} : StOk (Sput st k).2 := by
  unfold Sput
  split
  · exact hS
  · rename_i e
    split
    · exact hS
    · exact hS.pad (apd_ok hS.2.2.2 e (Nat.le_refl _) (by omega))
theorem ushrL {n : Nat} (hn : n < 2 ^ 64) : ∀ m, m < 8 → ((lN n).toUInt64 >>> ((nI (8 * m)).toInt64.toUInt64 &&& Int64.toUInt64 63)).toInt64 = lN (n / 256 ^ m) := by
  intro m hm
  have e : ∀ m, m < 8 → (nI (8 * m)).toInt64.toUInt64 &&& Int64.toUInt64 63 = UInt64.ofNat (8 * m) := by decide +kernel
  rw [e m hm]
  refine Int64.toBitVec_inj.mp ?_
  show ((lN n).toUInt64 >>> UInt64.ofNat (8 * m)).toBitVec = BitVec.ofNat 64 (n / 256 ^ m)
  refine BitVec.eq_of_toNat_eq ?_
  have h8 : (UInt64.ofNat (8 * m)).toNat = 8 * m := by rw [UInt64.toNat_ofNat']; omega
  have hnn : (lN n).toUInt64.toNat = n := by
    show (BitVec.ofNat 64 n).toNat = n
    rw [BitVec.toNat_ofNat]; omega
  have e3 : ((lN n).toUInt64 >>> UInt64.ofNat (8 * m)).toNat = n / 256 ^ m := by
    rw [UInt64.toNat_shiftRight, hnn, h8, Nat.mod_eq_of_lt (show 8 * m < 64 by omega), Nat.shiftRight_eq_div_pow, Nat.pow_mul]
  have e4 : n / 256 ^ m ≤ n := Nat.div_le_self _ _
  rw [BitVec.toNat_ofNat, Nat.mod_eq_of_lt (by omega)]
  exact e3
theorem byteL (m : Nat) : (lN m &&& (255 : Int64)).toInt32 = nI (m % 256) := by
  have e : lN m &&& (255 : Int64) = lN (m &&& 255) := by
    refine Int64.toBitVec_inj.mp ?_
    rw [Int64.toBitVec_and]
    show BitVec.ofNat 64 m &&& BitVec.ofNat 64 255 = BitVec.ofNat 64 (m &&& 255)
    rw [BitVec.ofNat_and]
  rw [e, lN_i, show (255 : Nat) = 2 ^ 8 - 1 from rfl, Nat.and_two_pow_sub_one_eq_mod]
theorem byteI (m : Nat) : (lN m).toInt32 &&& nI 255 = nI (m % 256) := by
  have e : nI m &&& nI 255 = nI (m &&& 255) := by
    refine Int32.toBitVec_inj.mp ?_
    rw [Int32.toBitVec_and]
    show BitVec.ofNat 32 m &&& BitVec.ofNat 32 255 = BitVec.ofNat 32 (m &&& 255)
    rw [BitVec.ofNat_and]
  rw [lN_i, e, show (255 : Nat) = 2 ^ 8 - 1 from rfl, Nat.and_two_pow_sub_one_eq_mod]
theorem lN_zero {m : Nat} (h : m < 2 ^ 64) : lg_cmp (lN m) (lN 0) = 0 ↔ m = 0 := by
  rw [lg_cmp_eq]
  constructor
  · intro e
    have := congrArg (fun k : Int64 => k.toBitVec.toNat) e
    have this : (BitVec.ofNat 64 m).toNat = (BitVec.ofNat 64 0).toNat := this
    rw [BitVec.toNat_ofNat, BitVec.toNat_ofNat] at this
    omega
  · intro e; rw [e]
set_option maxRecDepth 4000 in
theorem c_O_cycles {l : Launch} {h : sH} {st : St} (hC : CInv h st) (hS : StOk st) {n w : Int32} : sY l m_O_cycles 13 [.ref 0, .int n, .int w] h (some (.int (Vcycles st.1 n w))) (CR h st) := by
  have c0 := hC.1
  have hG := hC.2.1
  have hx := hS.1
  have hM := hx.2.2.1.le
  have hRr := hx.1
  have hCc := hx.2.1
  obtain ⟨g0, g1, g2⟩ := hC.2.1
  have hH := hC.2.2.2.2.2.2.2.1
  have hH32 : ∃ a b c, h.2 32 = oC 1 [a, b, c] := by
    obtain ⟨o, f, Y, C, _⟩ := hH
    exact ⟨_, _, _, C.1⟩
  obtain ⟨_, _, _, hH32⟩ := hH32
  obtain ⟨ry, cy, hP⟩ := hC.2.2.2.2.2.2.1
  have hp0 := hP.1
  have hq := hS.2.2.2
  obtain ⟨ps, psz, pcon, hPt⟩ := hC.2.2.2.1
  have hp7 := hPt.c7
  obtain ⟨t, ht, hto⟩ := hC.2.2.1
  have ht0 := ht.1
  have hmt := hC.2.2.2.2.2.1
  have hm26 : h.2 26 = oC 2 [.ref 27] := by
    obtain ⟨n, B, A, a1, _⟩ := hmt
    exact a1
  have lsz := lay_sz hx
  have r160 : ∃ fs, h.2 16 = oC 6 fs := by
    obtain ⟨x1, k1, ho1, gr1, a1, W1, rt1, hx1, R1, _⟩ := hC.2.2.2.2.1
    exact ⟨_, R1.c16⟩
  obtain ⟨rfs, r160⟩ := r160
  refine en_O_cycles ?_
  refine e_iload_1 (p' := 1) D_O_cycles_0 rfl ?_
  refine e_iconst (v := nI 4) (p' := 2) D_O_cycles_1 cst_iconst_4 rfl ?_
  refine e_bipush (v := nI 12) (p' := 4) D_O_cycles_2 cst_bipush_12 rfl ?_
  refine x_callS1 (p' := 7) D_O_cycles_4 S_O_61 (c_O_isOutside) rfl rfl (Nat.le_of_ble_eq_true rfl) (by decide) ⟨by decide, by decide⟩ rfl ?_
  refine e_ifB_ne (q := 25) (p' := 10) D_O_cycles_7 rfl rfl (fun hc7 => ?_) (fun hc7 => ?_)
  ·
    refine e_bipush (v := (-2)) (p' := 27) D_O_cycles_25 cst_bipush_m2 rfl ?_
    refine e_ireturn (ty := .int) D_O_cycles_27 rfl (by first | rfl | exact sBo_nar _) ⟨by decide, by decide⟩ ?_
    unfold Vcycles; rw [if_pos (Or.inl hc7)]; exact ⟨rfl, hC, FrO.rf⟩
  ·
    obtain ⟨kl, kl1, kl2, rfl⟩ := in_R (a := 4) (b := 12) (by omega) (by omega) hc7
    refine e_iload_1 (p' := 11) D_O_cycles_10 rfl ?_
    refine e_iconst (v := nI 1) (p' := 12) D_O_cycles_11 cst_iconst_1 rfl ?_
    refine e_iand (p' := 13) D_O_cycles_12 rfl ?_
    rw [and1 _ (by omega)]
    refine e_ifN_ne (q := 25) (p' := 16) D_O_cycles_13 (by omega) rfl rfl (fun hc13 => ?_) (fun hc13 => ?_)
    ·
      refine e_bipush (v := (-2)) (p' := 27) D_O_cycles_25 cst_bipush_m2 rfl ?_
      refine e_ireturn (ty := .int) D_O_cycles_27 rfl (by first | rfl | exact sBo_nar _) ⟨by decide, by decide⟩ ?_
      unfold Vcycles; rw [if_pos (Or.inr (Or.inl (by rw [and1 _ (by omega), nI_eq (by omega) (by omega)]; exact hc13)))]; exact ⟨rfl, hC, FrO.rf⟩
    ·
      refine e_iload_2 (p' := 17) D_O_cycles_16 rfl ?_
      refine e_iconst (v := nI 0) (p' := 18) D_O_cycles_17 cst_iconst_0 rfl ?_
      refine e_iconst (v := nI 1) (p' := 19) D_O_cycles_18 cst_iconst_1 rfl ?_
      refine x_callS1 (p' := 22) D_O_cycles_19 S_O_61 (c_O_isOutside) rfl rfl (Nat.le_of_ble_eq_true rfl) (by decide) ⟨by decide, by decide⟩ rfl ?_
      refine e_ifB_eq (q := 28) (p' := 25) D_O_cycles_22 rfl rfl (fun hc22 => ?_) (fun hc22 => ?_)
      ·
        obtain ⟨kw, kw1, kw2, rfl⟩ := in_R (a := 0) (b := 1) (by omega) (by omega) hc22
        refine e_aload_0 (p' := 29) D_O_cycles_28 rfl ?_
        refine e_getfield (p' := 32) D_O_cycles_29 F_O_29 (by first | assumption | exact sUp_eq | (rw [sUp_ne (by omega)]; assumption) | (rw [sUp_ne (by omega), sUp_ne (by omega)]; assumption) | (rw [sUp_ne (by omega)]; exact sUp_eq) | (rw [gSet_ne (by omega) (by omega)]; first | assumption | exact sUp_eq | (rw [sUp_ne (by omega)]; assumption) | (rw [sUp_ne (by omega), sUp_ne (by omega)]; assumption)) | (simp [sUp]; done)) (by rfl) rfl ?_
        refine e_aload_0 (p' := 33) D_O_cycles_32 rfl ?_
        refine e_getfield (p' := 36) D_O_cycles_33 F_O_10 (by first | assumption | exact sUp_eq | (rw [sUp_ne (by omega)]; assumption) | (rw [sUp_ne (by omega), sUp_ne (by omega)]; assumption) | (rw [sUp_ne (by omega)]; exact sUp_eq) | (rw [gSet_ne (by omega) (by omega)]; first | assumption | exact sUp_eq | (rw [sUp_ne (by omega)]; assumption) | (rw [sUp_ne (by omega), sUp_ne (by omega)]; assumption)) | (simp [sUp]; done)) (by rfl) rfl ?_
        refine e_iload_1 (p' := 37) D_O_cycles_36 rfl ?_
        refine e_iconst (v := nI 1) (p' := 38) D_O_cycles_37 cst_iconst_1 rfl ?_
        refine e_ishr (p' := 39) D_O_cycles_38 rfl ?_
        rw [shr1 _ (by omega)]
        refine e_iload_2 (p' := 40) D_O_cycles_39 rfl ?_
        refine e_iconst (v := nI 1) (p' := 41) D_O_cycles_40 cst_iconst_1 rfl ?_
        refine e_icmpN_ne (q := 48) (p' := 44) D_O_cycles_41 (by omega) (by omega) rfl rfl (fun hc41 => ?_) (fun hc41 => ?_)
        ·
          obtain rfl : kw = 0 := by omega
          refine e_iconst (v := nI 0) (p' := 49) D_O_cycles_48 cst_iconst_0 rfl ?_
          refine y_callV0 (p' := 52) D_O_cycles_49 V_O_172 (c_Rings_search (b := false) hG hx hC.2.2.2.2.1 (k := kl / 2) (by omega) (by omega)) rfl (by first | assumption | exact sUp_eq | (rw [sUp_ne (by omega)]; assumption) | (rw [sUp_ne (by omega), sUp_ne (by omega)]; assumption) | (rw [sUp_ne (by omega)]; exact sUp_eq) | (rw [gSet_ne (by omega) (by omega)]; first | assumption | exact sUp_eq | (rw [sUp_ne (by omega)]; assumption) | (rw [sUp_ne (by omega), sUp_ne (by omega)]; assumption)) | (simp [sUp]; done)) rfl (Nat.le_of_ble_eq_true rfl) (by decide) ⟨by decide, by decide⟩ rfl ?_
          rintro h1 ⟨home, a1, W1, rt1, R1, z1, A1, I1, l1, f1⟩
          have C1 := hC.rg f1 ⟨_, _, _, _, _, _, _, hx, R1, z1⟩
          have c10 := C1.1
          have r16 := R1.c16
          refine e_iload_2 (p' := 53) D_O_cycles_52 rfl ?_
          refine e_ifN_ne (q := 66) (p' := 56) D_O_cycles_53 (by omega) rfl rfl (fun hc53 => ?_) (fun hc53 => ?_)
          ·
            exfalso; omega
          ·
            refine e_aload_0 (p' := 57) D_O_cycles_56 rfl ?_
            refine e_getfield (p' := 60) D_O_cycles_57 F_O_29 (by first | assumption | exact sUp_eq | (rw [sUp_ne (by omega)]; assumption) | (rw [sUp_ne (by omega), sUp_ne (by omega)]; assumption) | (rw [sUp_ne (by omega)]; exact sUp_eq) | (rw [gSet_ne (by omega) (by omega)]; first | assumption | exact sUp_eq | (rw [sUp_ne (by omega)]; assumption) | (rw [sUp_ne (by omega), sUp_ne (by omega)]; assumption)) | (simp [sUp]; done)) (by rfl) rfl ?_
            refine x_callV1 (p' := 63) D_O_cycles_60 V_O_176 (c_Rings_all R1 l1 A1) rfl (by first | assumption | exact sUp_eq | (rw [sUp_ne (by omega)]; assumption) | (rw [sUp_ne (by omega), sUp_ne (by omega)]; assumption) | (rw [sUp_ne (by omega)]; exact sUp_eq) | (rw [gSet_ne (by omega) (by omega)]; first | assumption | exact sUp_eq | (rw [sUp_ne (by omega)]; assumption) | (rw [sUp_ne (by omega), sUp_ne (by omega)]; assumption)) | (simp [sUp]; done)) rfl (Nat.le_of_ble_eq_true rfl) (by decide) ⟨by decide, by decide⟩ rfl ?_
            refine e_goto (p' := 73) D_O_cycles_63 rfl ?_
            refine e_ireturn (ty := .int) D_O_cycles_73 rfl (by first | rfl | exact sBo_nar _) ⟨by decide, by decide⟩ ?_
            unfold Vcycles
            rw [if_neg (fun q => by rcases q with q | q | q; exact absurd (hc7.symm.trans q) (by decide); exact q (by rw [and1 _ (by omega), nI_eq (by omega) (by omega)]; omega); exact absurd (hc22.symm.trans q) (by decide)), natOf_nI (by omega)]
            refine ⟨?_, C1, f1.o⟩
            unfold cyc
            rw [I1.1]; rfl
        ·
          obtain rfl : kw = 1 := by omega
          refine e_iconst (v := nI 1) (p' := 45) D_O_cycles_44 cst_iconst_1 rfl ?_
          refine e_goto (p' := 49) D_O_cycles_45 rfl ?_
          refine y_callV0 (p' := 52) D_O_cycles_49 V_O_172 (c_Rings_search (b := true) hG hx hC.2.2.2.2.1 (k := kl / 2) (by omega) (by omega)) rfl (by first | assumption | exact sUp_eq | (rw [sUp_ne (by omega)]; assumption) | (rw [sUp_ne (by omega), sUp_ne (by omega)]; assumption) | (rw [sUp_ne (by omega)]; exact sUp_eq) | (rw [gSet_ne (by omega) (by omega)]; first | assumption | exact sUp_eq | (rw [sUp_ne (by omega)]; assumption) | (rw [sUp_ne (by omega), sUp_ne (by omega)]; assumption)) | (simp [sUp]; done)) rfl (Nat.le_of_ble_eq_true rfl) (by decide) ⟨by decide, by decide⟩ rfl ?_
          rintro h1 ⟨home, a1, W1, rt1, R1, z1, A1, I1, l1, f1⟩
          have C1 := hC.rg f1 ⟨_, _, _, _, _, _, _, hx, R1, z1⟩
          have c10 := C1.1
          have r16 := R1.c16
          refine e_iload_2 (p' := 53) D_O_cycles_52 rfl ?_
          refine e_ifN_ne (q := 66) (p' := 56) D_O_cycles_53 (by omega) rfl rfl (fun hc53 => ?_) (fun hc53 => ?_)
          ·
            refine e_aload_0 (p' := 67) D_O_cycles_66 rfl ?_
            refine e_getfield (p' := 70) D_O_cycles_67 F_O_29 (by first | assumption | exact sUp_eq | (rw [sUp_ne (by omega)]; assumption) | (rw [sUp_ne (by omega), sUp_ne (by omega)]; assumption) | (rw [sUp_ne (by omega)]; exact sUp_eq) | (rw [gSet_ne (by omega) (by omega)]; first | assumption | exact sUp_eq | (rw [sUp_ne (by omega)]; assumption) | (rw [sUp_ne (by omega), sUp_ne (by omega)]; assumption)) | (simp [sUp]; done)) (by rfl) rfl ?_
            refine x_callV1 (p' := 73) D_O_cycles_70 V_O_179 (c_Rings_wrongOnes R1 l1 A1) rfl (by first | assumption | exact sUp_eq | (rw [sUp_ne (by omega)]; assumption) | (rw [sUp_ne (by omega), sUp_ne (by omega)]; assumption) | (rw [sUp_ne (by omega)]; exact sUp_eq) | (rw [gSet_ne (by omega) (by omega)]; first | assumption | exact sUp_eq | (rw [sUp_ne (by omega)]; assumption) | (rw [sUp_ne (by omega), sUp_ne (by omega)]; assumption)) | (simp [sUp]; done)) rfl (Nat.le_of_ble_eq_true rfl) (by decide) ⟨by decide, by decide⟩ rfl ?_
            refine e_ireturn (ty := .int) D_O_cycles_73 rfl (by first | rfl | exact sBo_nar _) ⟨by decide, by decide⟩ ?_
            unfold Vcycles
            rw [if_neg (fun q => by rcases q with q | q | q; exact absurd (hc7.symm.trans q) (by decide); exact q (by rw [and1 _ (by omega), nI_eq (by omega) (by omega)]; omega); exact absurd (hc22.symm.trans q) (by decide)), natOf_nI (by omega)]
            refine ⟨?_, C1, f1.o⟩
            unfold cyc
            rw [I1.2.1]; rfl
          ·
            exfalso; omega
      ·
        refine e_bipush (v := (-2)) (p' := 27) D_O_cycles_25 cst_bipush_m2 rfl ?_
        refine e_ireturn (ty := .int) D_O_cycles_27 rfl (by first | rfl | exact sBo_nar _) ⟨by decide, by decide⟩ ?_
        unfold Vcycles; rw [if_pos (Or.inr (Or.inr hc22))]; exact ⟨rfl, hC, FrO.rf⟩
set_option maxRecDepth 4000 in
theorem c_O_shortestWrongTurns {l : Launch} {h : sH} {st : St} (hC : CInv h st) (hS : StOk st) : sY l m_O_shortestWrongTurns 13 [.ref 0] h (some (.int (nI (sw st.1)))) (fun h1 => CR h st h1 ∧ (sw st.1 ≠ 0 → ∃ (home : Nat) (a1 : Ac) (W1 : Wf) (rt1 : Nat → Nat), RgAt h1 st.1 (sw st.1) home (st.1.1.2.2 - 1) a1 W1 rt1 ∧ AccOk a1 ∧ AccIs a1 (Tot st.1 (st.1.1.2.2 - 1) (sw st.1)) ∧ a1.1 < 2 ^ 31)) := by
  have c0 := hC.1
  have hG := hC.2.1
  have hx := hS.1
  have hM := hx.2.2.1.le
  have hRr := hx.1
  have hCc := hx.2.1
  obtain ⟨g0, g1, g2⟩ := hC.2.1
  have hH := hC.2.2.2.2.2.2.2.1
  have hH32 : ∃ a b c, h.2 32 = oC 1 [a, b, c] := by
    obtain ⟨o, f, Y, C, _⟩ := hH
    exact ⟨_, _, _, C.1⟩
  obtain ⟨_, _, _, hH32⟩ := hH32
  obtain ⟨ry, cy, hP⟩ := hC.2.2.2.2.2.2.1
  have hp0 := hP.1
  have hq := hS.2.2.2
  obtain ⟨ps, psz, pcon, hPt⟩ := hC.2.2.2.1
  have hp7 := hPt.c7
  obtain ⟨t, ht, hto⟩ := hC.2.2.1
  have ht0 := ht.1
  have hmt := hC.2.2.2.2.2.1
  have hm26 : h.2 26 = oC 2 [.ref 27] := by
    obtain ⟨n, B, A, a1, _⟩ := hmt
    exact a1
  have lsz := lay_sz hx
  refine en_O_shortestWrongTurns ?_
  refine e_aload_0 (p' := 1) D_O_shortestWrongTurns_0 rfl ?_
  refine e_getfield (p' := 4) D_O_shortestWrongTurns_1 F_O_22 (by first | assumption | exact sUp_eq | (rw [sUp_ne (by omega)]; assumption) | (rw [sUp_ne (by omega), sUp_ne (by omega)]; assumption) | (rw [sUp_ne (by omega)]; exact sUp_eq) | (rw [gSet_ne (by omega) (by omega)]; first | assumption | exact sUp_eq | (rw [sUp_ne (by omega)]; assumption) | (rw [sUp_ne (by omega), sUp_ne (by omega)]; assumption)) | (simp [sUp]; done)) (by rfl) rfl ?_
  refine e_aload_0 (p' := 5) D_O_shortestWrongTurns_4 rfl ?_
  refine e_getfield (p' := 8) D_O_shortestWrongTurns_5 F_O_10 (by first | assumption | exact sUp_eq | (rw [sUp_ne (by omega)]; assumption) | (rw [sUp_ne (by omega), sUp_ne (by omega)]; assumption) | (rw [sUp_ne (by omega)]; exact sUp_eq) | (rw [gSet_ne (by omega) (by omega)]; first | assumption | exact sUp_eq | (rw [sUp_ne (by omega)]; assumption) | (rw [sUp_ne (by omega), sUp_ne (by omega)]; assumption)) | (simp [sUp]; done)) (by rfl) rfl ?_
  refine y_callV0 (p' := 11) D_O_shortestWrongTurns_8 V_O_92 (c_Parts_find hG hx (by omega) hPt) rfl (by first | assumption | exact sUp_eq | (rw [sUp_ne (by omega)]; assumption) | (rw [sUp_ne (by omega), sUp_ne (by omega)]; assumption) | (rw [sUp_ne (by omega)]; exact sUp_eq) | (rw [gSet_ne (by omega) (by omega)]; first | assumption | exact sUp_eq | (rw [sUp_ne (by omega)]; assumption) | (rw [sUp_ne (by omega), sUp_ne (by omega)]; assumption)) | (simp [sUp]; done)) rfl (Nat.le_of_ble_eq_true rfl) (by decide) ⟨by decide, by decide⟩ rfl ?_
  rintro h0 ⟨hp1, hf0⟩
  have C0 := hC.fr hf0 ⟨_, _, _, hp1⟩
  have d00 := C0.1
  have p07 := hp1.c7
  have g00 := C0.2.1.1
  refine e_aload_0 (p' := 12) D_O_shortestWrongTurns_11 rfl ?_
  refine e_getfield (p' := 15) D_O_shortestWrongTurns_12 F_O_22 (by first | assumption | exact sUp_eq | (rw [sUp_ne (by omega)]; assumption) | (rw [sUp_ne (by omega), sUp_ne (by omega)]; assumption) | (rw [sUp_ne (by omega)]; exact sUp_eq) | (rw [gSet_ne (by omega) (by omega)]; first | assumption | exact sUp_eq | (rw [sUp_ne (by omega)]; assumption) | (rw [sUp_ne (by omega), sUp_ne (by omega)]; assumption)) | (simp [sUp]; done)) (by rfl) rfl ?_
  refine x_callV1 (p' := 18) D_O_shortestWrongTurns_15 V_O_95 (c_Parts_isConsistent hp1) rfl (by first | assumption | exact sUp_eq | (rw [sUp_ne (by omega)]; assumption) | (rw [sUp_ne (by omega), sUp_ne (by omega)]; assumption) | (rw [sUp_ne (by omega)]; exact sUp_eq) | (rw [gSet_ne (by omega) (by omega)]; first | assumption | exact sUp_eq | (rw [sUp_ne (by omega)]; assumption) | (rw [sUp_ne (by omega), sUp_ne (by omega)]; assumption)) | (simp [sUp]; done)) rfl (Nat.le_of_ble_eq_true rfl) (by decide) ⟨by decide, by decide⟩ rfl ?_
  refine e_ifB_eq (q := 23) (p' := 21) D_O_shortestWrongTurns_18 rfl rfl (fun hc18 => ?_) (fun hc18 => ?_)
  ·
    refine e_iconst (v := nI 2) (p' := 24) D_O_shortestWrongTurns_23 cst_iconst_2 rfl ?_
    refine e_istore_1 (p' := 25) D_O_shortestWrongTurns_24 (Nat.le_of_ble_eq_true rfl) rfl rfl ?_
    have lk25 : ∀ i : Nat, i ≤ 5 → ∀ (h1 : sH), ((CInv h1 st ∧ FrO h h1) ∧ swF st.1 5 2 = swF st.1 (5 - i) (i + 2)) → sEv l m_O_shortestWrongTurns 13 (0, 0, 0, 0) (sKm 0 0 (fun r1 h1 => r1 = some (.int (nI (sw st.1))) ∧ (fun h1 => CR h st h1 ∧ (sw st.1 ≠ 0 → ∃ (home : Nat) (a1 : Ac) (W1 : Wf) (rt1 : Nat → Nat), RgAt h1 st.1 (sw st.1) home (st.1.1.2.2 - 1) a1 W1 rt1 ∧ AccOk a1 ∧ AccIs a1 (Tot st.1 (st.1.1.2.2 - 1) (sw st.1)) ∧ a1.1 < 2 ^ 31)) h1)) 25 [some (.ref 0), some (.int (nI (i + 2)))] [] (h1) := by
      refine lp_up _ ?_ ?_
      · intro h1 ⟨⟨CC, FF⟩, ee⟩
        have d0 := CC.1
        have d1 := CC.2.1.1
        have r160 : ∃ fs, h1.2 16 = oC 6 fs := by
          obtain ⟨x1, k1, ho1, gr1, a1, W1, rt1, hx1, R1, _⟩ := CC.2.2.2.2.1
          exact ⟨_, R1.c16⟩
        obtain ⟨rfs, r160⟩ := r160
        refine e_iload_1 (p' := 26) D_O_shortestWrongTurns_25 rfl ?_
        refine e_bipush (v := nI 6) (p' := 28) D_O_shortestWrongTurns_26 cst_bipush_6 rfl ?_
        refine e_icmpN_gt (q := 62) (p' := 31) D_O_shortestWrongTurns_28 (by omega) (by omega) rfl rfl (fun hc28 => ?_) (fun hc28 => ?_)
        ·
          refine e_iconst (v := nI 0) (p' := 63) D_O_shortestWrongTurns_62 cst_iconst_0 rfl ?_
          refine e_ireturn (ty := .int) D_O_shortestWrongTurns_63 rfl (by first | rfl | exact sBo_nar _) ⟨by decide, by decide⟩ ?_
          have e : sw st.1 = 0 := by
            unfold sw
            rw [if_neg (by rw [hc18]; decide), ee]; rfl
          rw [e]; exact ⟨rfl, ⟨CC, FF⟩, fun q => absurd rfl q⟩
        ·
          exfalso; omega
      · intro i hi ih25 h1 ⟨⟨CC, FF⟩, ee⟩
        have d0 := CC.1
        have d1 := CC.2.1.1
        have r160 : ∃ fs, h1.2 16 = oC 6 fs := by
          obtain ⟨x1, k1, ho1, gr1, a1, W1, rt1, hx1, R1, _⟩ := CC.2.2.2.2.1
          exact ⟨_, R1.c16⟩
        obtain ⟨rfs, r160⟩ := r160
        refine e_iload_1 (p' := 26) D_O_shortestWrongTurns_25 rfl ?_
        refine e_bipush (v := nI 6) (p' := 28) D_O_shortestWrongTurns_26 cst_bipush_6 rfl ?_
        refine e_icmpN_gt (q := 62) (p' := 31) D_O_shortestWrongTurns_28 (by omega) (by omega) rfl rfl (fun hc28 => ?_) (fun hc28 => ?_)
        ·
          exfalso; omega
        ·
          refine e_aload_0 (p' := 32) D_O_shortestWrongTurns_31 rfl ?_
          refine e_getfield (p' := 35) D_O_shortestWrongTurns_32 F_O_29 (by first | assumption | exact sUp_eq | (rw [sUp_ne (by omega)]; assumption) | (rw [sUp_ne (by omega), sUp_ne (by omega)]; assumption) | (rw [sUp_ne (by omega)]; exact sUp_eq) | (rw [gSet_ne (by omega) (by omega)]; first | assumption | exact sUp_eq | (rw [sUp_ne (by omega)]; assumption) | (rw [sUp_ne (by omega), sUp_ne (by omega)]; assumption)) | (simp [sUp]; done)) (by rfl) rfl ?_
          refine e_aload_0 (p' := 36) D_O_shortestWrongTurns_35 rfl ?_
          refine e_getfield (p' := 39) D_O_shortestWrongTurns_36 F_O_10 (by first | assumption | exact sUp_eq | (rw [sUp_ne (by omega)]; assumption) | (rw [sUp_ne (by omega), sUp_ne (by omega)]; assumption) | (rw [sUp_ne (by omega)]; exact sUp_eq) | (rw [gSet_ne (by omega) (by omega)]; first | assumption | exact sUp_eq | (rw [sUp_ne (by omega)]; assumption) | (rw [sUp_ne (by omega), sUp_ne (by omega)]; assumption)) | (simp [sUp]; done)) (by rfl) rfl ?_
          refine e_iload_1 (p' := 40) D_O_shortestWrongTurns_39 rfl ?_
          refine e_iconst (v := nI 1) (p' := 41) D_O_shortestWrongTurns_40 cst_iconst_1 rfl ?_
          refine y_callV0 (p' := 44) D_O_shortestWrongTurns_41 V_O_172 (c_Rings_search (b := true) CC.2.1 hx CC.2.2.2.2.1 (k := i + 2) (by omega) (by omega)) rfl (by first | assumption | exact sUp_eq | (rw [sUp_ne (by omega)]; assumption) | (rw [sUp_ne (by omega), sUp_ne (by omega)]; assumption) | (rw [sUp_ne (by omega)]; exact sUp_eq) | (rw [gSet_ne (by omega) (by omega)]; first | assumption | exact sUp_eq | (rw [sUp_ne (by omega)]; assumption) | (rw [sUp_ne (by omega), sUp_ne (by omega)]; assumption)) | (simp [sUp]; done)) rfl (Nat.le_of_ble_eq_true rfl) (by decide) ⟨by decide, by decide⟩ rfl ?_
          rintro h2 ⟨home, a1, W1, rt1, R1, z1, A1, I1, l1, f1⟩
          have C2 := CC.rg f1 ⟨_, _, _, _, _, _, _, hx, R1, z1⟩
          have c20 := C2.1
          have r16 := R1.c16
          refine e_aload_0 (p' := 45) D_O_shortestWrongTurns_44 rfl ?_
          refine e_getfield (p' := 48) D_O_shortestWrongTurns_45 F_O_29 (by first | assumption | exact sUp_eq | (rw [sUp_ne (by omega)]; assumption) | (rw [sUp_ne (by omega), sUp_ne (by omega)]; assumption) | (rw [sUp_ne (by omega)]; exact sUp_eq) | (rw [gSet_ne (by omega) (by omega)]; first | assumption | exact sUp_eq | (rw [sUp_ne (by omega)]; assumption) | (rw [sUp_ne (by omega), sUp_ne (by omega)]; assumption)) | (simp [sUp]; done)) (by rfl) rfl ?_
          have l2 := A1.1
          refine x_callV1 (p' := 51) D_O_shortestWrongTurns_48 V_O_179 (c_Rings_wrongOnes R1 l1 A1) rfl (by first | assumption | exact sUp_eq | (rw [sUp_ne (by omega)]; assumption) | (rw [sUp_ne (by omega), sUp_ne (by omega)]; assumption) | (rw [sUp_ne (by omega)]; exact sUp_eq) | (rw [gSet_ne (by omega) (by omega)]; first | assumption | exact sUp_eq | (rw [sUp_ne (by omega)]; assumption) | (rw [sUp_ne (by omega), sUp_ne (by omega)]; assumption)) | (simp [sUp]; done)) rfl (Nat.le_of_ble_eq_true rfl) (by decide) ⟨by decide, by decide⟩ rfl ?_
          refine e_ifN_le (q := 56) (p' := 54) D_O_shortestWrongTurns_51 (by omega) rfl rfl (fun hc51 => ?_) (fun hc51 => ?_)
          ·
            first | refine e_iincN_1 (n := 1) (p' := 59) D_O_shortestWrongTurns_56 (Nat.le_of_ble_eq_true rfl) rfl rfl ?_ | refine e_iinc_1 (p' := 59) D_O_shortestWrongTurns_56 (Nat.le_of_ble_eq_true rfl) rfl rfl rfl ?_
            refine e_goto (p' := 25) D_O_shortestWrongTurns_59 rfl ?_
            refine sEv.castW (ih25 h2 ⟨⟨C2, FF.tr f1.o⟩, by rw [ee, show 5 - i = 5 - (i + 1) + 1 by omega, swF, if_neg (by have : a1.2.1 = _ := I1.2.1; have hx2 : Tot st.1 (st.1.1.2.2 - 1) (i + 2) wrg = a1.2.1 := this.symm; omega)]⟩) ?_ ?_ ?_
            · first | exact lvW_rfl _ | (simp [lvW]; done) | (simp [lvW, *]; done) | (simp [lvW]; omega)
            · rfl
            · first | rfl | (simp; done)
          ·
            refine e_iload_1 (p' := 55) D_O_shortestWrongTurns_54 rfl ?_
            refine e_ireturn (ty := .int) D_O_shortestWrongTurns_55 rfl (by first | rfl | exact sBo_nar _) ⟨by decide, by decide⟩ ?_
            have e : sw st.1 = i + 2 := by
              unfold sw
              have hx2 : a1.2.1 = Tot st.1 (st.1.1.2.2 - 1) (i + 2) wrg := I1.2.1
              rw [if_neg (by rw [hc18]; decide), ee, show 5 - i = 5 - (i + 1) + 1 by omega, swF, if_pos (by omega)]
            rw [e]; exact ⟨rfl, ⟨C2, FF.tr f1.o⟩, fun _ => ⟨home, a1, W1, rt1, R1, A1, I1, l1⟩⟩
    refine sEv.castW (lk25 0 (by omega) h0 ⟨⟨C0, hf0.o⟩, rfl⟩) ?_ ?_ ?_
    · first | exact lvW_rfl _ | (simp [lvW]; done) | (simp [lvW, *]; done) | (simp [lvW]; omega)
    · rfl
    · first | rfl | (simp; done)
  ·
    refine e_iconst (v := nI 0) (p' := 22) D_O_shortestWrongTurns_21 cst_iconst_0 rfl ?_
    refine e_ireturn (ty := .int) D_O_shortestWrongTurns_22 rfl (by first | rfl | exact sBo_nar _) ⟨by decide, by decide⟩ ?_
    have e : sw st.1 = 0 := by unfold sw; rw [if_pos hc18]
    rw [e]; exact ⟨rfl, ⟨C0, hf0.o⟩, fun q => absurd rfl q⟩
set_option maxRecDepth 4000 in
theorem c_O_wrong {l : Launch} {h : sH} {st : St} (hC : CInv h st) (hS : StOk st) {w : Int32} : sY l m_O_wrong 14 [.ref 0, .int w] h (some (.int (Vwrong st.1 w))) (CR h st) := by
  have c0 := hC.1
  have hG := hC.2.1
  have hx := hS.1
  have hM := hx.2.2.1.le
  have hRr := hx.1
  have hCc := hx.2.1
  obtain ⟨g0, g1, g2⟩ := hC.2.1
  have hH := hC.2.2.2.2.2.2.2.1
  have hH32 : ∃ a b c, h.2 32 = oC 1 [a, b, c] := by
    obtain ⟨o, f, Y, C, _⟩ := hH
    exact ⟨_, _, _, C.1⟩
  obtain ⟨_, _, _, hH32⟩ := hH32
  obtain ⟨ry, cy, hP⟩ := hC.2.2.2.2.2.2.1
  have hp0 := hP.1
  have hq := hS.2.2.2
  obtain ⟨ps, psz, pcon, hPt⟩ := hC.2.2.2.1
  have hp7 := hPt.c7
  obtain ⟨t, ht, hto⟩ := hC.2.2.1
  have ht0 := ht.1
  have hmt := hC.2.2.2.2.2.1
  have hm26 : h.2 26 = oC 2 [.ref 27] := by
    obtain ⟨n, B, A, a1, _⟩ := hmt
    exact a1
  have lsz := lay_sz hx
  have swl := sw_le (x := st.1)
  refine en_O_wrong ?_
  refine e_iload_1 (p' := 1) D_O_wrong_0 rfl ?_
  refine e_iconst (v := nI 0) (p' := 2) D_O_wrong_1 cst_iconst_0 rfl ?_
  refine e_iconst (v := nI 2) (p' := 3) D_O_wrong_2 cst_iconst_2 rfl ?_
  refine x_callS1 (p' := 6) D_O_wrong_3 S_O_61 (c_O_isOutside) rfl rfl (Nat.le_of_ble_eq_true rfl) (by decide) ⟨by decide, by decide⟩ rfl ?_
  refine e_ifB_eq (q := 12) (p' := 9) D_O_wrong_6 rfl rfl (fun hc6 => ?_) (fun hc6 => ?_)
  ·
    refine e_aload_0 (p' := 13) D_O_wrong_12 rfl ?_
    refine y_callV1 (p' := 16) D_O_wrong_13 V_O_182 (c_O_shortestWrongTurns hC hS) rfl (by first | assumption | exact sUp_eq | (rw [sUp_ne (by omega)]; assumption) | (rw [sUp_ne (by omega), sUp_ne (by omega)]; assumption) | (rw [sUp_ne (by omega)]; exact sUp_eq) | (rw [gSet_ne (by omega) (by omega)]; first | assumption | exact sUp_eq | (rw [sUp_ne (by omega)]; assumption) | (rw [sUp_ne (by omega), sUp_ne (by omega)]; assumption)) | (simp [sUp]; done)) rfl (Nat.le_of_ble_eq_true rfl) (by decide) ⟨by decide, by decide⟩ rfl ?_
    rintro h1 ⟨⟨C1, F1⟩, L1⟩
    have c10 := C1.1
    refine e_istore_2 (p' := 17) D_O_wrong_16 (Nat.le_of_ble_eq_true rfl) rfl rfl ?_
    refine e_iload_2 (p' := 18) D_O_wrong_17 rfl ?_
    refine e_ifN_ne (q := 24) (p' := 21) D_O_wrong_18 (by omega) rfl rfl (fun hc18 => ?_) (fun hc18 => ?_)
    ·
      obtain ⟨home, a1, W1, rt1, R1, A1, I1, l1⟩ := L1 hc18
      have r16 := R1.c16
      have lw1 : lw (Tot st.1 (st.1.1.2.2 - 1) (sw st.1)) = a1.2.2 := by
        have e0 : a1.2.1 ≠ 0 := by
          have e1 : a1.2.1 = Tot st.1 (st.1.1.2.2 - 1) (sw st.1) wrg := I1.2.1
          have e2 : 0 < Tot st.1 (st.1.1.2.2 - 1) (sw st.1) wrg / 2 := by
            have e3 := hc18
            unfold sw at e3 ⊢
            split at e3
            · exact absurd rfl e3
            · rename_i e4
              rw [if_neg e4]
              exact sw_pos e3
          omega
        exact lw_eq (I1.2.2.2 e0)
      refine e_iload_1 (p' := 25) D_O_wrong_24 rfl ?_
      refine e_if_ne (q := 32) (p' := 28) D_O_wrong_25 rfl rfl (fun hc25 => ?_) (fun hc25 => ?_)
      ·
        refine e_iload_1 (p' := 33) D_O_wrong_32 rfl ?_
        refine e_iconst (v := nI 1) (p' := 34) D_O_wrong_33 cst_iconst_1 rfl ?_
        refine e_icmp_ne (q := 47) (p' := 37) D_O_wrong_34 rfl rfl (fun hc34 => ?_) (fun hc34 => ?_)
        ·
          refine e_aload_0 (p' := 48) D_O_wrong_47 rfl ?_
          refine e_getfield (p' := 51) D_O_wrong_48 F_O_29 (by first | assumption | exact sUp_eq | (rw [sUp_ne (by omega)]; assumption) | (rw [sUp_ne (by omega), sUp_ne (by omega)]; assumption) | (rw [sUp_ne (by omega)]; exact sUp_eq) | (rw [gSet_ne (by omega) (by omega)]; first | assumption | exact sUp_eq | (rw [sUp_ne (by omega)]; assumption) | (rw [sUp_ne (by omega), sUp_ne (by omega)]; assumption)) | (simp [sUp]; done)) (by rfl) rfl ?_
          refine x_callV1 (p' := 54) D_O_wrong_51 V_O_188 (c_Rings_wrongColumns R1 l1 A1) rfl (by first | assumption | exact sUp_eq | (rw [sUp_ne (by omega)]; assumption) | (rw [sUp_ne (by omega), sUp_ne (by omega)]; assumption) | (rw [sUp_ne (by omega)]; exact sUp_eq) | (rw [gSet_ne (by omega) (by omega)]; first | assumption | exact sUp_eq | (rw [sUp_ne (by omega)]; assumption) | (rw [sUp_ne (by omega), sUp_ne (by omega)]; assumption)) | (simp [sUp]; done)) rfl (Nat.le_of_ble_eq_true rfl) (by decide) ⟨by decide, by decide⟩ rfl ?_
          refine e_ireturn (ty := .int) D_O_wrong_54 rfl (by first | rfl | exact sBo_nar _) ⟨by decide, by decide⟩ ?_
          unfold Vwrong
          rw [if_neg (by rw [hc6]; decide), if_neg hc18, if_neg (show ¬ w = nI 0 from hc25), if_neg hc34]
          rw [lw1]
          exact ⟨rfl, C1, F1⟩
        ·
          refine e_aload_0 (p' := 38) D_O_wrong_37 rfl ?_
          refine e_getfield (p' := 41) D_O_wrong_38 F_O_29 (by first | assumption | exact sUp_eq | (rw [sUp_ne (by omega)]; assumption) | (rw [sUp_ne (by omega), sUp_ne (by omega)]; assumption) | (rw [sUp_ne (by omega)]; exact sUp_eq) | (rw [gSet_ne (by omega) (by omega)]; first | assumption | exact sUp_eq | (rw [sUp_ne (by omega)]; assumption) | (rw [sUp_ne (by omega), sUp_ne (by omega)]; assumption)) | (simp [sUp]; done)) (by rfl) rfl ?_
          refine x_callV1 (p' := 44) D_O_wrong_41 V_O_185 (c_Rings_wrongRows R1 l1 A1) rfl (by first | assumption | exact sUp_eq | (rw [sUp_ne (by omega)]; assumption) | (rw [sUp_ne (by omega), sUp_ne (by omega)]; assumption) | (rw [sUp_ne (by omega)]; exact sUp_eq) | (rw [gSet_ne (by omega) (by omega)]; first | assumption | exact sUp_eq | (rw [sUp_ne (by omega)]; assumption) | (rw [sUp_ne (by omega), sUp_ne (by omega)]; assumption)) | (simp [sUp]; done)) rfl (Nat.le_of_ble_eq_true rfl) (by decide) ⟨by decide, by decide⟩ rfl ?_
          refine e_goto (p' := 54) D_O_wrong_44 rfl ?_
          refine e_ireturn (ty := .int) D_O_wrong_54 rfl (by first | rfl | exact sBo_nar _) ⟨by decide, by decide⟩ ?_
          unfold Vwrong
          rw [if_neg (by rw [hc6]; decide), if_neg hc18, if_neg (show ¬ w = nI 0 from hc25), if_pos (by first | exact hc34 | exact Classical.not_not.mp hc34)]
          rw [lw1]
          exact ⟨rfl, C1, F1⟩
      ·
        refine e_iconst (v := nI 2) (p' := 29) D_O_wrong_28 cst_iconst_2 rfl ?_
        refine e_iload_2 (p' := 30) D_O_wrong_29 rfl ?_
        first | refine e_imulN (p' := 31) D_O_wrong_30 rfl ?_ | refine e_imul (p' := 31) D_O_wrong_30 rfl ?_
        refine e_ireturn (ty := .int) D_O_wrong_31 rfl (by first | rfl | exact sBo_nar _) ⟨by decide, by decide⟩ ?_
        unfold Vwrong
        rw [if_neg (by rw [hc6]; decide), if_neg hc18, if_pos (by first | exact (show w = nI 0 from hc25) | exact (show w = nI 0 from Classical.not_not.mp hc25))]
        exact ⟨rfl, C1, F1⟩
    ·
      refine e_bipush (v := (-6)) (p' := 23) D_O_wrong_21 cst_bipush_m6 rfl ?_
      refine e_ireturn (ty := .int) D_O_wrong_23 rfl (by first | rfl | exact sBo_nar _) ⟨by decide, by decide⟩ ?_
      unfold Vwrong; rw [if_neg (by rw [hc6]; decide), if_pos (by omega)]; exact ⟨rfl, C1, F1⟩
  ·
    refine e_bipush (v := (-2)) (p' := 11) D_O_wrong_9 cst_bipush_m2 rfl ?_
    refine e_ireturn (ty := .int) D_O_wrong_11 rfl (by first | rfl | exact sBo_nar _) ⟨by decide, by decide⟩ ?_
    unfold Vwrong; rw [if_pos hc6]; exact ⟨rfl, hC, FrO.rf⟩
set_option maxRecDepth 4000 in
theorem c_O_spoilers {l : Launch} {h : sH} {st : St} (hC : CInv h st) (hS : StOk st) : sY l m_O_spoilers 6 [.ref 0] h (some (.long (Vspoil st.1))) (CR h st) := by
  have c0 := hC.1
  have hG := hC.2.1
  have hx := hS.1
  have hM := hx.2.2.1.le
  have hRr := hx.1
  have hCc := hx.2.1
  obtain ⟨g0, g1, g2⟩ := hC.2.1
  have hH := hC.2.2.2.2.2.2.2.1
  have hH32 : ∃ a b c, h.2 32 = oC 1 [a, b, c] := by
    obtain ⟨o, f, Y, C, _⟩ := hH
    exact ⟨_, _, _, C.1⟩
  obtain ⟨_, _, _, hH32⟩ := hH32
  obtain ⟨ry, cy, hP⟩ := hC.2.2.2.2.2.2.1
  have hp0 := hP.1
  have hq := hS.2.2.2
  obtain ⟨ps, psz, pcon, hPt⟩ := hC.2.2.2.1
  have hp7 := hPt.c7
  obtain ⟨t, ht, hto⟩ := hC.2.2.1
  have ht0 := ht.1
  have hmt := hC.2.2.2.2.2.1
  have hm26 : h.2 26 = oC 2 [.ref 27] := by
    obtain ⟨n, B, A, a1, _⟩ := hmt
    exact a1
  have lsz := lay_sz hx
  refine en_O_spoilers ?_
  refine e_aload_0 (p' := 1) D_O_spoilers_0 rfl ?_
  refine e_getfield (p' := 4) D_O_spoilers_1 F_O_22 (by first | assumption | exact sUp_eq | (rw [sUp_ne (by omega)]; assumption) | (rw [sUp_ne (by omega), sUp_ne (by omega)]; assumption) | (rw [sUp_ne (by omega)]; exact sUp_eq) | (rw [gSet_ne (by omega) (by omega)]; first | assumption | exact sUp_eq | (rw [sUp_ne (by omega)]; assumption) | (rw [sUp_ne (by omega), sUp_ne (by omega)]; assumption)) | (simp [sUp]; done)) (by rfl) rfl ?_
  refine e_aload_0 (p' := 5) D_O_spoilers_4 rfl ?_
  refine e_getfield (p' := 8) D_O_spoilers_5 F_O_10 (by first | assumption | exact sUp_eq | (rw [sUp_ne (by omega)]; assumption) | (rw [sUp_ne (by omega), sUp_ne (by omega)]; assumption) | (rw [sUp_ne (by omega)]; exact sUp_eq) | (rw [gSet_ne (by omega) (by omega)]; first | assumption | exact sUp_eq | (rw [sUp_ne (by omega)]; assumption) | (rw [sUp_ne (by omega), sUp_ne (by omega)]; assumption)) | (simp [sUp]; done)) (by rfl) rfl ?_
  refine y_callV0 (p' := 11) D_O_spoilers_8 V_O_92 (c_Parts_find hG hx (by omega) hPt) rfl (by first | assumption | exact sUp_eq | (rw [sUp_ne (by omega)]; assumption) | (rw [sUp_ne (by omega), sUp_ne (by omega)]; assumption) | (rw [sUp_ne (by omega)]; exact sUp_eq) | (rw [gSet_ne (by omega) (by omega)]; first | assumption | exact sUp_eq | (rw [sUp_ne (by omega)]; assumption) | (rw [sUp_ne (by omega), sUp_ne (by omega)]; assumption)) | (simp [sUp]; done)) rfl (Nat.le_of_ble_eq_true rfl) (by decide) ⟨by decide, by decide⟩ rfl ?_
  rintro h0 ⟨hp1, hf0⟩
  have C0 := hC.fr hf0 ⟨_, _, _, hp1⟩
  have d00 := C0.1
  have p07 := hp1.c7
  have g00 := C0.2.1.1
  refine e_aload_0 (p' := 12) D_O_spoilers_11 rfl ?_
  refine e_getfield (p' := 15) D_O_spoilers_12 F_O_22 (by first | assumption | exact sUp_eq | (rw [sUp_ne (by omega)]; assumption) | (rw [sUp_ne (by omega), sUp_ne (by omega)]; assumption) | (rw [sUp_ne (by omega)]; exact sUp_eq) | (rw [gSet_ne (by omega) (by omega)]; first | assumption | exact sUp_eq | (rw [sUp_ne (by omega)]; assumption) | (rw [sUp_ne (by omega), sUp_ne (by omega)]; assumption)) | (simp [sUp]; done)) (by rfl) rfl ?_
  refine x_callV1 (p' := 18) D_O_spoilers_15 V_O_95 (c_Parts_isConsistent hp1) rfl (by first | assumption | exact sUp_eq | (rw [sUp_ne (by omega)]; assumption) | (rw [sUp_ne (by omega), sUp_ne (by omega)]; assumption) | (rw [sUp_ne (by omega)]; exact sUp_eq) | (rw [gSet_ne (by omega) (by omega)]; first | assumption | exact sUp_eq | (rw [sUp_ne (by omega)]; assumption) | (rw [sUp_ne (by omega), sUp_ne (by omega)]; assumption)) | (simp [sUp]; done)) rfl (Nat.le_of_ble_eq_true rfl) (by decide) ⟨by decide, by decide⟩ rfl ?_
  refine e_ifB_eq (q := 25) (p' := 21) D_O_spoilers_18 rfl rfl (fun hc18 => ?_) (fun hc18 => ?_)
  ·
    refine e_lconst (v := lN 0) (p' := 26) D_O_spoilers_25 rfl rfl ?_
    refine e_lstore_1 (p' := 27) D_O_spoilers_26 (Nat.le_of_ble_eq_true rfl) rfl rfl ?_
    refine e_iconst (v := nI 0) (p' := 28) D_O_spoilers_27 cst_iconst_0 rfl ?_
    refine e_istore_3 (p' := 29) D_O_spoilers_28 (Nat.le_of_ble_eq_true rfl) rfl rfl ?_
    have lk29 : ∀ i : Nat, i ≤ st.1.1.1 → ∀ (h1 : sH), (CInv h1 st ∧ FrO h h1) → sEv l m_O_spoilers 6 (0, 0, 0, 0) (sKm 0 0 (fun r1 h1 => r1 = some (.long (Vspoil st.1)) ∧ (CR h st) h1)) 29 [some (.ref 0), some (.long (lN (mk (6 * i) (spl st.1)))), none, some (.int (nI i)), none] [] (h1) := by
      refine lp_up _ ?_ ?_
      · intro h1 ⟨CC, FF⟩
        have d0 := CC.1
        have d1 := CC.2.1.1
        refine e_iload_3 (p' := 30) D_O_spoilers_29 rfl ?_
        refine e_aload_0 (p' := 31) D_O_spoilers_30 rfl ?_
        refine e_getfield (p' := 34) D_O_spoilers_31 F_O_10 (by first | assumption | exact sUp_eq | (rw [sUp_ne (by omega)]; assumption) | (rw [sUp_ne (by omega), sUp_ne (by omega)]; assumption) | (rw [sUp_ne (by omega)]; exact sUp_eq) | (rw [gSet_ne (by omega) (by omega)]; first | assumption | exact sUp_eq | (rw [sUp_ne (by omega)]; assumption) | (rw [sUp_ne (by omega), sUp_ne (by omega)]; assumption)) | (simp [sUp]; done)) (by rfl) rfl ?_
        refine x_callV1 (p' := 37) D_O_spoilers_34 V_O_99 (c_Grid_rows CC.2.1) rfl (by first | assumption | exact sUp_eq | (rw [sUp_ne (by omega)]; assumption) | (rw [sUp_ne (by omega), sUp_ne (by omega)]; assumption) | (rw [sUp_ne (by omega)]; exact sUp_eq) | (rw [gSet_ne (by omega) (by omega)]; first | assumption | exact sUp_eq | (rw [sUp_ne (by omega)]; assumption) | (rw [sUp_ne (by omega), sUp_ne (by omega)]; assumption)) | (simp [sUp]; done)) rfl (Nat.le_of_ble_eq_true rfl) (by decide) ⟨by decide, by decide⟩ rfl ?_
        refine e_icmpN_ge (q := 104) (p' := 40) D_O_spoilers_37 (by omega) (by omega) rfl rfl (fun hc37 => ?_) (fun hc37 => ?_)
        ·
          refine e_lload_1 (p' := 105) D_O_spoilers_104 rfl ?_
          refine e_lreturn D_O_spoilers_105 rfl ⟨by decide, by decide⟩ ?_
          unfold Vspoil; rw [if_neg (by rw [hc18]; decide), ← mk_splE hx]; exact ⟨rfl, CC, FF⟩
        ·
          exfalso; omega
      · intro i hi ih29 h1 ⟨CC, FF⟩
        have d0 := CC.1
        have d1 := CC.2.1.1
        refine e_iload_3 (p' := 30) D_O_spoilers_29 rfl ?_
        refine e_aload_0 (p' := 31) D_O_spoilers_30 rfl ?_
        refine e_getfield (p' := 34) D_O_spoilers_31 F_O_10 (by first | assumption | exact sUp_eq | (rw [sUp_ne (by omega)]; assumption) | (rw [sUp_ne (by omega), sUp_ne (by omega)]; assumption) | (rw [sUp_ne (by omega)]; exact sUp_eq) | (rw [gSet_ne (by omega) (by omega)]; first | assumption | exact sUp_eq | (rw [sUp_ne (by omega)]; assumption) | (rw [sUp_ne (by omega), sUp_ne (by omega)]; assumption)) | (simp [sUp]; done)) (by rfl) rfl ?_
        refine x_callV1 (p' := 37) D_O_spoilers_34 V_O_99 (c_Grid_rows CC.2.1) rfl (by first | assumption | exact sUp_eq | (rw [sUp_ne (by omega)]; assumption) | (rw [sUp_ne (by omega), sUp_ne (by omega)]; assumption) | (rw [sUp_ne (by omega)]; exact sUp_eq) | (rw [gSet_ne (by omega) (by omega)]; first | assumption | exact sUp_eq | (rw [sUp_ne (by omega)]; assumption) | (rw [sUp_ne (by omega), sUp_ne (by omega)]; assumption)) | (simp [sUp]; done)) rfl (Nat.le_of_ble_eq_true rfl) (by decide) ⟨by decide, by decide⟩ rfl ?_
        refine e_icmpN_ge (q := 104) (p' := 40) D_O_spoilers_37 (by omega) (by omega) rfl rfl (fun hc37 => ?_) (fun hc37 => ?_)
        ·
          exfalso; omega
        ·
          refine e_iconst (v := nI 0) (p' := 41) D_O_spoilers_40 cst_iconst_0 rfl ?_
          refine e_istore_4 (p' := 43) D_O_spoilers_41 (Nat.le_of_ble_eq_true rfl) rfl rfl ?_
          have lk43 : ∀ j : Nat, j ≤ st.1.1.2.1 → ∀ (h2 : sH), (CInv h2 st ∧ FrO h h2) → sEv l m_O_spoilers 6 (0, 0, 0, 0) (sKm 0 0 (fun r1 h1 => r1 = some (.long (Vspoil st.1)) ∧ (CR h st) h1)) 43 [some (.ref 0), some (.long (lN (mk (6 * i + j) (spl st.1)))), none, some (.int (nI i)), some (.int (nI j))] [] (h2) := by
            refine lp_up _ ?_ ?_
            · intro h2 ⟨CC2, FF2⟩
              have e0 := CC2.1
              have e1 := CC2.2.1.1
              have asm := hx.small i (st.1.1.2.1)
              refine e_iload_4 (p' := 45) D_O_spoilers_43 rfl ?_
              refine e_aload_0 (p' := 46) D_O_spoilers_45 rfl ?_
              refine e_getfield (p' := 49) D_O_spoilers_46 F_O_10 (by first | assumption | exact sUp_eq | (rw [sUp_ne (by omega)]; assumption) | (rw [sUp_ne (by omega), sUp_ne (by omega)]; assumption) | (rw [sUp_ne (by omega)]; exact sUp_eq) | (rw [gSet_ne (by omega) (by omega)]; first | assumption | exact sUp_eq | (rw [sUp_ne (by omega)]; assumption) | (rw [sUp_ne (by omega), sUp_ne (by omega)]; assumption)) | (simp [sUp]; done)) (by rfl) rfl ?_
              refine x_callV1 (p' := 52) D_O_spoilers_49 V_O_102 (c_Grid_columns CC2.2.1) rfl (by first | assumption | exact sUp_eq | (rw [sUp_ne (by omega)]; assumption) | (rw [sUp_ne (by omega), sUp_ne (by omega)]; assumption) | (rw [sUp_ne (by omega)]; exact sUp_eq) | (rw [gSet_ne (by omega) (by omega)]; first | assumption | exact sUp_eq | (rw [sUp_ne (by omega)]; assumption) | (rw [sUp_ne (by omega), sUp_ne (by omega)]; assumption)) | (simp [sUp]; done)) rfl (Nat.le_of_ble_eq_true rfl) (by decide) ⟨by decide, by decide⟩ rfl ?_
              refine e_icmpN_ge (q := 98) (p' := 55) D_O_spoilers_52 (by omega) (by omega) rfl rfl (fun hc52 => ?_) (fun hc52 => ?_)
              ·
                first | refine e_iincN_3 (n := 1) (p' := 101) D_O_spoilers_98 (Nat.le_of_ble_eq_true rfl) rfl rfl ?_ | refine e_iinc_3 (p' := 101) D_O_spoilers_98 (Nat.le_of_ble_eq_true rfl) rfl rfl rfl ?_
                refine e_goto (p' := 29) D_O_spoilers_101 rfl ?_
                refine sEv.castW (ih29 h2 ⟨CC2, FF2⟩) ?_ ?_ ?_
                · rw [← mk_spl hx]; exact ⟨rfl, rfl, rfl, trivial⟩
                · rfl
                · first | rfl | (simp; done)
              ·
                exfalso; omega
            · intro j hj ih43 h2 ⟨CC2, FF2⟩
              have e0 := CC2.1
              have e1 := CC2.2.1.1
              have asm := hx.small i j
              refine e_iload_4 (p' := 45) D_O_spoilers_43 rfl ?_
              refine e_aload_0 (p' := 46) D_O_spoilers_45 rfl ?_
              refine e_getfield (p' := 49) D_O_spoilers_46 F_O_10 (by first | assumption | exact sUp_eq | (rw [sUp_ne (by omega)]; assumption) | (rw [sUp_ne (by omega), sUp_ne (by omega)]; assumption) | (rw [sUp_ne (by omega)]; exact sUp_eq) | (rw [gSet_ne (by omega) (by omega)]; first | assumption | exact sUp_eq | (rw [sUp_ne (by omega)]; assumption) | (rw [sUp_ne (by omega), sUp_ne (by omega)]; assumption)) | (simp [sUp]; done)) (by rfl) rfl ?_
              refine x_callV1 (p' := 52) D_O_spoilers_49 V_O_102 (c_Grid_columns CC2.2.1) rfl (by first | assumption | exact sUp_eq | (rw [sUp_ne (by omega)]; assumption) | (rw [sUp_ne (by omega), sUp_ne (by omega)]; assumption) | (rw [sUp_ne (by omega)]; exact sUp_eq) | (rw [gSet_ne (by omega) (by omega)]; first | assumption | exact sUp_eq | (rw [sUp_ne (by omega)]; assumption) | (rw [sUp_ne (by omega), sUp_ne (by omega)]; assumption)) | (simp [sUp]; done)) rfl (Nat.le_of_ble_eq_true rfl) (by decide) ⟨by decide, by decide⟩ rfl ?_
              refine e_icmpN_ge (q := 98) (p' := 55) D_O_spoilers_52 (by omega) (by omega) rfl rfl (fun hc52 => ?_) (fun hc52 => ?_)
              ·
                exfalso; omega
              ·
                refine e_aload_0 (p' := 56) D_O_spoilers_55 rfl ?_
                refine e_getfield (p' := 59) D_O_spoilers_56 F_O_10 (by first | assumption | exact sUp_eq | (rw [sUp_ne (by omega)]; assumption) | (rw [sUp_ne (by omega), sUp_ne (by omega)]; assumption) | (rw [sUp_ne (by omega)]; exact sUp_eq) | (rw [gSet_ne (by omega) (by omega)]; first | assumption | exact sUp_eq | (rw [sUp_ne (by omega)]; assumption) | (rw [sUp_ne (by omega), sUp_ne (by omega)]; assumption)) | (simp [sUp]; done)) (by rfl) rfl ?_
                refine e_iload_3 (p' := 60) D_O_spoilers_59 rfl ?_
                refine e_iload_4 (p' := 62) D_O_spoilers_60 rfl ?_
                refine x_callV1 (p' := 65) D_O_spoilers_62 V_O_85 (c_Grid_number CC2.2.1 hx (by omega) (by omega)) rfl (by first | assumption | exact sUp_eq | (rw [sUp_ne (by omega)]; assumption) | (rw [sUp_ne (by omega), sUp_ne (by omega)]; assumption) | (rw [sUp_ne (by omega)]; exact sUp_eq) | (rw [gSet_ne (by omega) (by omega)]; first | assumption | exact sUp_eq | (rw [sUp_ne (by omega)]; assumption) | (rw [sUp_ne (by omega), sUp_ne (by omega)]; assumption)) | (simp [sUp]; done)) rfl (Nat.le_of_ble_eq_true rfl) (by decide) ⟨by decide, by decide⟩ rfl ?_
                refine e_ifN_eq (q := 92) (p' := 68) D_O_spoilers_65 (by omega) rfl rfl (fun hc65 => ?_) (fun hc65 => ?_)
                ·
                  first | refine e_iincN_4 (n := 1) (p' := 95) D_O_spoilers_92 (Nat.le_of_ble_eq_true rfl) rfl rfl ?_ | refine e_iinc_4 (p' := 95) D_O_spoilers_92 (Nat.le_of_ble_eq_true rfl) rfl rfl rfl ?_
                  refine e_goto (p' := 43) D_O_spoilers_95 rfl ?_
                  refine sEv.castW (ih43 h2 ⟨CC2, FF2⟩) ?_ ?_ ?_
                  · refine ⟨rfl, ?_, rfl, rfl, trivial⟩
                    show _ = some (Value.long (lN (mk (6 * i + j + 1) (spl st.1))))
                    rw [mk_skip (spl_0 (by omega))]
                  · rfl
                  · first | rfl | (simp; done)
                ·
                  refine e_aload_0 (p' := 69) D_O_spoilers_68 rfl ?_
                  refine e_iload_3 (p' := 70) D_O_spoilers_69 rfl ?_
                  refine e_iload_4 (p' := 72) D_O_spoilers_70 rfl ?_
                  refine e_iconst (v := nI 0) (p' := 73) D_O_spoilers_72 cst_iconst_0 rfl ?_
                  refine y_callV1 (p' := 76) D_O_spoilers_73 V_O_212 (c_O_isWellIf CC2 hS (r := nI i) (c := nI j) (n := nI 0)) rfl (by first | assumption | exact sUp_eq | (rw [sUp_ne (by omega)]; assumption) | (rw [sUp_ne (by omega), sUp_ne (by omega)]; assumption) | (rw [sUp_ne (by omega)]; exact sUp_eq) | (rw [gSet_ne (by omega) (by omega)]; first | assumption | exact sUp_eq | (rw [sUp_ne (by omega)]; assumption) | (rw [sUp_ne (by omega), sUp_ne (by omega)]; assumption)) | (simp [sUp]; done)) rfl (Nat.le_of_ble_eq_true rfl) (by decide) ⟨by decide, by decide⟩ rfl ?_
                  rintro h3 ⟨C3, F3⟩
                  rw [VwellIf_0 hx (by omega) (by omega)]
                  refine e_iconst (v := nI 1) (p' := 77) D_O_spoilers_76 cst_iconst_1 rfl ?_
                  refine e_icmp_ne (q := 92) (p' := 80) D_O_spoilers_77 rfl rfl (fun hc77 => ?_) (fun hc77 => ?_)
                  ·
                    first | refine e_iincN_4 (n := 1) (p' := 95) D_O_spoilers_92 (Nat.le_of_ble_eq_true rfl) rfl rfl ?_ | refine e_iinc_4 (p' := 95) D_O_spoilers_92 (Nat.le_of_ble_eq_true rfl) rfl rfl rfl ?_
                    refine e_goto (p' := 43) D_O_spoilers_95 rfl ?_
                    refine sEv.castW (ih43 h3 ⟨C3, FF2.tr F3⟩) ?_ ?_ ?_
                    · refine ⟨rfl, ?_, rfl, rfl, trivial⟩
                      show _ = some (Value.long (lN (mk (6 * i + j + 1) (spl st.1))))
                      rw [mk_skip (by unfold spl; rw [show wellX (st.1.1, up st.1.2 (6 * i + j) 0) = false by simpa using fun q => hc77 (sBo_1.mpr q), Bool.and_false])]
                    · rfl
                    · first | rfl | (simp; done)
                  ·
                    refine e_lload_1 (p' := 81) D_O_spoilers_80 rfl ?_
                    refine e_lconst (v := lN 1) (p' := 82) D_O_spoilers_81 rfl rfl ?_
                    refine e_bipush (v := nI 6) (p' := 84) D_O_spoilers_82 cst_bipush_6 rfl ?_
                    refine e_iload_3 (p' := 85) D_O_spoilers_84 rfl ?_
                    first | refine e_imulN (p' := 86) D_O_spoilers_85 rfl ?_ | refine e_imul (p' := 86) D_O_spoilers_85 rfl ?_
                    refine e_iload_4 (p' := 88) D_O_spoilers_86 rfl ?_
                    first | refine e_iaddN (p' := 89) D_O_spoilers_88 rfl ?_ | refine e_iadd (p' := 89) D_O_spoilers_88 rfl ?_
                    refine e_lshl (p' := 90) D_O_spoilers_89 rfl rfl ?_
                    refine e_lor (p' := 91) D_O_spoilers_90 rfl ?_
                    refine e_lstore_1 (p' := 92) D_O_spoilers_91 (Nat.le_of_ble_eq_true rfl) rfl rfl ?_
                    first | refine e_iincN_4 (n := 1) (p' := 95) D_O_spoilers_92 (Nat.le_of_ble_eq_true rfl) rfl rfl ?_ | refine e_iinc_4 (p' := 95) D_O_spoilers_92 (Nat.le_of_ble_eq_true rfl) rfl rfl rfl ?_
                    refine e_goto (p' := 43) D_O_spoilers_95 rfl ?_
                    refine sEv.castW (ih43 h3 ⟨C3, FF2.tr F3⟩) ?_ ?_ ?_
                    · refine ⟨rfl, ?_, rfl, rfl, trivial⟩
                      show _ = some (Value.long (lN (mk (6 * i + j + 1) (spl st.1))))
                      have sp : spl st.1 (6 * i + j) = true := by
                        unfold spl
                        rw [sBo_1.mp hc77, Bool.and_true]
                        exact decide_eq_true (show 0 < at' st.1 i j by omega)
                      rw [mk_succ, sp, shlL _ (by omega), orL mk_lt]
                      rfl
                    · rfl
                    · first | rfl | (simp; done)
          refine sEv.castW (lk43 0 (by omega) h1 ⟨CC, FF⟩) ?_ ?_ ?_
          · exact ⟨rfl, rfl, rfl, rfl, trivial⟩
          · rfl
          · first | rfl | (simp; done)
    refine sEv.castW (lk29 0 (by omega) h0 ⟨C0, hf0.o⟩) ?_ ?_ ?_
    · first | exact lvW_rfl _ | (simp [lvW]; done) | (simp [lvW, *]; done) | (simp [lvW]; omega)
    · rfl
    · first | rfl | (simp; done)
  ·
    refine e_ldc2 (p' := 24) D_O_spoilers_21 K_O_210 rfl ?_
    refine e_lreturn D_O_spoilers_24 rfl ⟨by decide, by decide⟩ ?_
    unfold Vspoil; rw [if_pos hc18]; exact ⟨rfl, C0, hf0.o⟩
set_option maxRecDepth 4000 in
theorem c_O_bestEntry {l : Launch} {h : sH} {st : St} (hC : CInv h st) (hS : StOk st) {w : Int32} : sY l m_O_bestEntry 5 [.ref 0, .int w] h (some (.int (Vbest st.1 w))) (CR h st) := by
  have c0 := hC.1
  have hG := hC.2.1
  have hx := hS.1
  have hM := hx.2.2.1.le
  have hRr := hx.1
  have hCc := hx.2.1
  obtain ⟨g0, g1, g2⟩ := hC.2.1
  have hH := hC.2.2.2.2.2.2.2.1
  have hH32 : ∃ a b c, h.2 32 = oC 1 [a, b, c] := by
    obtain ⟨o, f, Y, C, _⟩ := hH
    exact ⟨_, _, _, C.1⟩
  obtain ⟨_, _, _, hH32⟩ := hH32
  obtain ⟨ry, cy, hP⟩ := hC.2.2.2.2.2.2.1
  have hp0 := hP.1
  have hq := hS.2.2.2
  obtain ⟨ps, psz, pcon, hPt⟩ := hC.2.2.2.1
  have hp7 := hPt.c7
  obtain ⟨t, ht, hto⟩ := hC.2.2.1
  have ht0 := ht.1
  have hmt := hC.2.2.2.2.2.1
  have hm26 : h.2 26 = oC 2 [.ref 27] := by
    obtain ⟨n, B, A, a1, _⟩ := hmt
    exact a1
  have lsz := lay_sz hx
  refine en_O_bestEntry ?_
  refine e_iload_1 (p' := 1) D_O_bestEntry_0 rfl ?_
  refine e_iconst (v := nI 0) (p' := 2) D_O_bestEntry_1 cst_iconst_0 rfl ?_
  refine e_iconst (v := nI 2) (p' := 3) D_O_bestEntry_2 cst_iconst_2 rfl ?_
  refine x_callS1 (p' := 6) D_O_bestEntry_3 S_O_61 (c_O_isOutside) rfl rfl (Nat.le_of_ble_eq_true rfl) (by decide) ⟨by decide, by decide⟩ rfl ?_
  refine e_ifB_eq (q := 12) (p' := 9) D_O_bestEntry_6 rfl rfl (fun hc6 => ?_) (fun hc6 => ?_)
  ·
    refine e_aload_0 (p' := 13) D_O_bestEntry_12 rfl ?_
    refine e_getfield (p' := 16) D_O_bestEntry_13 F_O_22 (by first | assumption | exact sUp_eq | (rw [sUp_ne (by omega)]; assumption) | (rw [sUp_ne (by omega), sUp_ne (by omega)]; assumption) | (rw [sUp_ne (by omega)]; exact sUp_eq) | (rw [gSet_ne (by omega) (by omega)]; first | assumption | exact sUp_eq | (rw [sUp_ne (by omega)]; assumption) | (rw [sUp_ne (by omega), sUp_ne (by omega)]; assumption)) | (simp [sUp]; done)) (by rfl) rfl ?_
    refine e_aload_0 (p' := 17) D_O_bestEntry_16 rfl ?_
    refine e_getfield (p' := 20) D_O_bestEntry_17 F_O_10 (by first | assumption | exact sUp_eq | (rw [sUp_ne (by omega)]; assumption) | (rw [sUp_ne (by omega), sUp_ne (by omega)]; assumption) | (rw [sUp_ne (by omega)]; exact sUp_eq) | (rw [gSet_ne (by omega) (by omega)]; first | assumption | exact sUp_eq | (rw [sUp_ne (by omega)]; assumption) | (rw [sUp_ne (by omega), sUp_ne (by omega)]; assumption)) | (simp [sUp]; done)) (by rfl) rfl ?_
    refine y_callV0 (p' := 23) D_O_bestEntry_20 V_O_92 (c_Parts_find hG hx (by omega) hPt) rfl (by first | assumption | exact sUp_eq | (rw [sUp_ne (by omega)]; assumption) | (rw [sUp_ne (by omega), sUp_ne (by omega)]; assumption) | (rw [sUp_ne (by omega)]; exact sUp_eq) | (rw [gSet_ne (by omega) (by omega)]; first | assumption | exact sUp_eq | (rw [sUp_ne (by omega)]; assumption) | (rw [sUp_ne (by omega), sUp_ne (by omega)]; assumption)) | (simp [sUp]; done)) rfl (Nat.le_of_ble_eq_true rfl) (by decide) ⟨by decide, by decide⟩ rfl ?_
    rintro h0 ⟨hp1, hf0⟩
    have C0 := hC.fr hf0 ⟨_, _, _, hp1⟩
    have d00 := C0.1
    have p07 := hp1.c7
    have g00 := C0.2.1.1
    refine e_iconst (v := nI 0) (p' := 24) D_O_bestEntry_23 cst_iconst_0 rfl ?_
    refine e_istore_2 (p' := 25) D_O_bestEntry_24 (Nat.le_of_ble_eq_true rfl) rfl rfl ?_
    refine e_iconst (v := nI 0) (p' := 26) D_O_bestEntry_25 cst_iconst_0 rfl ?_
    refine e_istore_3 (p' := 27) D_O_bestEntry_26 (Nat.le_of_ble_eq_true rfl) rfl rfl ?_
    refine e_iconst (v := nI 0) (p' := 28) D_O_bestEntry_27 cst_iconst_0 rfl ?_
    refine e_istore_4 (p' := 30) D_O_bestEntry_28 (Nat.le_of_ble_eq_true rfl) rfl rfl ?_
    refine e_iconst (v := nI 0) (p' := 31) D_O_bestEntry_30 cst_iconst_0 rfl ?_
    refine e_istore_5 (p' := 33) D_O_bestEntry_31 (Nat.le_of_ble_eq_true rfl) rfl rfl ?_
    have lk33 : ∀ i : Nat, i ≤ st.1.1.1 → sEv l m_O_bestEntry 5 (0, 0, 0, 0) (sKm 0 0 (fun r1 h1 => r1 = some (.int (Vbest st.1 w)) ∧ (CR h st) h1)) 33 [some (.ref 0), some (.int w), some (.int (nI ((bst st.1 (6 * i)).1 / 6))), some (.int (nI ((bst st.1 (6 * i)).1 % 6))), some (.int (nI (bst st.1 (6 * i)).2)), some (.int (nI i)), none, none] [] (h0) := by
      refine lp_up _ ?_ ?_
      · skip
        have b1 := bst_le (x := st.1) (6 * (st.1.1.1))
        refine e_iload_5 (p' := 35) D_O_bestEntry_33 rfl ?_
        refine e_aload_0 (p' := 36) D_O_bestEntry_35 rfl ?_
        refine e_getfield (p' := 39) D_O_bestEntry_36 F_O_10 (by first | assumption | exact sUp_eq | (rw [sUp_ne (by omega)]; assumption) | (rw [sUp_ne (by omega), sUp_ne (by omega)]; assumption) | (rw [sUp_ne (by omega)]; exact sUp_eq) | (rw [gSet_ne (by omega) (by omega)]; first | assumption | exact sUp_eq | (rw [sUp_ne (by omega)]; assumption) | (rw [sUp_ne (by omega), sUp_ne (by omega)]; assumption)) | (simp [sUp]; done)) (by rfl) rfl ?_
        refine x_callV1 (p' := 42) D_O_bestEntry_39 V_O_99 (c_Grid_rows C0.2.1) rfl (by first | assumption | exact sUp_eq | (rw [sUp_ne (by omega)]; assumption) | (rw [sUp_ne (by omega), sUp_ne (by omega)]; assumption) | (rw [sUp_ne (by omega)]; exact sUp_eq) | (rw [gSet_ne (by omega) (by omega)]; first | assumption | exact sUp_eq | (rw [sUp_ne (by omega)]; assumption) | (rw [sUp_ne (by omega), sUp_ne (by omega)]; assumption)) | (simp [sUp]; done)) rfl (Nat.le_of_ble_eq_true rfl) (by decide) ⟨by decide, by decide⟩ rfl ?_
        refine e_icmpN_ge (q := 102) (p' := 45) D_O_bestEntry_42 (by omega) (by omega) rfl rfl (fun hc42 => ?_) (fun hc42 => ?_)
        ·
          have be : bst st.1 (6 * st.1.1.1) = bst st.1 36 := (bst_skip (by omega) (fun k h1 h2 => by omega)).symm
          refine e_iload_4 (p' := 104) D_O_bestEntry_102 rfl ?_
          refine e_ifN_ne (q := 110) (p' := 107) D_O_bestEntry_104 (by omega) rfl rfl (fun hc104 => ?_) (fun hc104 => ?_)
          ·
            refine e_iload_1 (p' := 111) D_O_bestEntry_110 rfl ?_
            refine e_if_ne (q := 116) (p' := 114) D_O_bestEntry_111 rfl rfl (fun hc111 => ?_) (fun hc111 => ?_)
            ·
              refine e_iload_1 (p' := 117) D_O_bestEntry_116 rfl ?_
              refine e_iconst (v := nI 1) (p' := 118) D_O_bestEntry_117 cst_iconst_1 rfl ?_
              refine e_icmp_ne (q := 125) (p' := 121) D_O_bestEntry_118 rfl rfl (fun hc118 => ?_) (fun hc118 => ?_)
              ·
                refine e_iload_4 (p' := 127) D_O_bestEntry_125 rfl ?_
                refine e_ireturn (ty := .int) D_O_bestEntry_127 rfl (by first | rfl | exact sBo_nar _) ⟨by decide, by decide⟩ ?_
                unfold Vbest
                rw [if_neg (by rw [hc6]; decide), ← be, if_neg (by omega), if_neg (show ¬ w = nI 0 from hc111), if_neg hc118]
                exact ⟨rfl, C0, hf0.o⟩
              ·
                refine e_iload_3 (p' := 122) D_O_bestEntry_121 rfl ?_
                refine e_goto (p' := 127) D_O_bestEntry_122 rfl ?_
                refine e_ireturn (ty := .int) D_O_bestEntry_127 rfl (by first | rfl | exact sBo_nar _) ⟨by decide, by decide⟩ ?_
                unfold Vbest
                rw [if_neg (by rw [hc6]; decide), ← be, if_neg (by omega), if_neg (show ¬ w = nI 0 from hc111), if_pos (by first | exact hc118 | exact Classical.not_not.mp hc118)]
                exact ⟨rfl, C0, hf0.o⟩
            ·
              refine e_iload_2 (p' := 115) D_O_bestEntry_114 rfl ?_
              refine e_ireturn (ty := .int) D_O_bestEntry_115 rfl (by first | rfl | exact sBo_nar _) ⟨by decide, by decide⟩ ?_
              unfold Vbest
              rw [if_neg (by rw [hc6]; decide), ← be, if_neg (by omega), if_pos (by first | exact (show w = nI 0 from hc111) | exact (show w = nI 0 from Classical.not_not.mp hc111))]
              exact ⟨rfl, C0, hf0.o⟩
          ·
            refine e_bipush (v := (-6)) (p' := 109) D_O_bestEntry_107 cst_bipush_m6 rfl ?_
            refine e_ireturn (ty := .int) D_O_bestEntry_109 rfl (by first | rfl | exact sBo_nar _) ⟨by decide, by decide⟩ ?_
            unfold Vbest; rw [if_neg (by rw [hc6]; decide), ← be, if_pos (by omega)]; exact ⟨rfl, C0, hf0.o⟩
        ·
          exfalso; omega
      · intro i hi ih33 
        have b1 := bst_le (x := st.1) (6 * i)
        refine e_iload_5 (p' := 35) D_O_bestEntry_33 rfl ?_
        refine e_aload_0 (p' := 36) D_O_bestEntry_35 rfl ?_
        refine e_getfield (p' := 39) D_O_bestEntry_36 F_O_10 (by first | assumption | exact sUp_eq | (rw [sUp_ne (by omega)]; assumption) | (rw [sUp_ne (by omega), sUp_ne (by omega)]; assumption) | (rw [sUp_ne (by omega)]; exact sUp_eq) | (rw [gSet_ne (by omega) (by omega)]; first | assumption | exact sUp_eq | (rw [sUp_ne (by omega)]; assumption) | (rw [sUp_ne (by omega), sUp_ne (by omega)]; assumption)) | (simp [sUp]; done)) (by rfl) rfl ?_
        refine x_callV1 (p' := 42) D_O_bestEntry_39 V_O_99 (c_Grid_rows C0.2.1) rfl (by first | assumption | exact sUp_eq | (rw [sUp_ne (by omega)]; assumption) | (rw [sUp_ne (by omega), sUp_ne (by omega)]; assumption) | (rw [sUp_ne (by omega)]; exact sUp_eq) | (rw [gSet_ne (by omega) (by omega)]; first | assumption | exact sUp_eq | (rw [sUp_ne (by omega)]; assumption) | (rw [sUp_ne (by omega), sUp_ne (by omega)]; assumption)) | (simp [sUp]; done)) rfl (Nat.le_of_ble_eq_true rfl) (by decide) ⟨by decide, by decide⟩ rfl ?_
        refine e_icmpN_ge (q := 102) (p' := 45) D_O_bestEntry_42 (by omega) (by omega) rfl rfl (fun hc42 => ?_) (fun hc42 => ?_)
        ·
          exfalso; omega
        ·
          refine e_iconst (v := nI 0) (p' := 46) D_O_bestEntry_45 cst_iconst_0 rfl ?_
          refine e_istore_6 (p' := 48) D_O_bestEntry_46 (Nat.le_of_ble_eq_true rfl) rfl rfl ?_
          have lk48 : ∀ j : Nat, j ≤ st.1.1.2.1 → sEv l m_O_bestEntry 5 (0, 0, 0, 0) (sKm 0 0 (fun r1 h1 => r1 = some (.int (Vbest st.1 w)) ∧ (CR h st) h1)) 48 [some (.ref 0), some (.int w), some (.int (nI ((bst st.1 (6 * i + j)).1 / 6))), some (.int (nI ((bst st.1 (6 * i + j)).1 % 6))), some (.int (nI (bst st.1 (6 * i + j)).2)), some (.int (nI i)), some (.int (nI j)), none] [] (h0) := by
            refine lp_up _ ?_ ?_
            · skip
              have b2 := bst_le (x := st.1) (6 * i + (st.1.1.2.1))
              have b3 := gn_le (s := (lay st.1).1) (r := i) (c := (st.1.1.2.1))
              refine e_iload_6 (p' := 50) D_O_bestEntry_48 rfl ?_
              refine e_aload_0 (p' := 51) D_O_bestEntry_50 rfl ?_
              refine e_getfield (p' := 54) D_O_bestEntry_51 F_O_10 (by first | assumption | exact sUp_eq | (rw [sUp_ne (by omega)]; assumption) | (rw [sUp_ne (by omega), sUp_ne (by omega)]; assumption) | (rw [sUp_ne (by omega)]; exact sUp_eq) | (rw [gSet_ne (by omega) (by omega)]; first | assumption | exact sUp_eq | (rw [sUp_ne (by omega)]; assumption) | (rw [sUp_ne (by omega), sUp_ne (by omega)]; assumption)) | (simp [sUp]; done)) (by rfl) rfl ?_
              refine x_callV1 (p' := 57) D_O_bestEntry_54 V_O_102 (c_Grid_columns C0.2.1) rfl (by first | assumption | exact sUp_eq | (rw [sUp_ne (by omega)]; assumption) | (rw [sUp_ne (by omega), sUp_ne (by omega)]; assumption) | (rw [sUp_ne (by omega)]; exact sUp_eq) | (rw [gSet_ne (by omega) (by omega)]; first | assumption | exact sUp_eq | (rw [sUp_ne (by omega)]; assumption) | (rw [sUp_ne (by omega), sUp_ne (by omega)]; assumption)) | (simp [sUp]; done)) rfl (Nat.le_of_ble_eq_true rfl) (by decide) ⟨by decide, by decide⟩ rfl ?_
              refine e_icmpN_ge (q := 96) (p' := 60) D_O_bestEntry_57 (by omega) (by omega) rfl rfl (fun hc57 => ?_) (fun hc57 => ?_)
              ·
                first | refine e_iincN_5 (n := 1) (p' := 99) D_O_bestEntry_96 (Nat.le_of_ble_eq_true rfl) rfl rfl ?_ | refine e_iinc_5 (p' := 99) D_O_bestEntry_96 (Nat.le_of_ble_eq_true rfl) rfl rfl rfl ?_
                refine e_goto (p' := 33) D_O_bestEntry_99 rfl ?_
                refine sEv.castW (ih33) ?_ ?_ ?_
                · rw [show bst st.1 (6 * (i + 1)) = bst st.1 (6 * i + st.1.1.2.1) from bst_skip (by omega) (fun k h1 h2 => by omega)]; exact ⟨rfl, rfl, rfl, rfl, rfl, rfl, trivial⟩
                · rfl
                · first | rfl | (simp; done)
              ·
                exfalso; omega
            · intro j hj ih48 
              have b2 := bst_le (x := st.1) (6 * i + j)
              have b3 := gn_le (s := (lay st.1).1) (r := i) (c := j)
              refine e_iload_6 (p' := 50) D_O_bestEntry_48 rfl ?_
              refine e_aload_0 (p' := 51) D_O_bestEntry_50 rfl ?_
              refine e_getfield (p' := 54) D_O_bestEntry_51 F_O_10 (by first | assumption | exact sUp_eq | (rw [sUp_ne (by omega)]; assumption) | (rw [sUp_ne (by omega), sUp_ne (by omega)]; assumption) | (rw [sUp_ne (by omega)]; exact sUp_eq) | (rw [gSet_ne (by omega) (by omega)]; first | assumption | exact sUp_eq | (rw [sUp_ne (by omega)]; assumption) | (rw [sUp_ne (by omega), sUp_ne (by omega)]; assumption)) | (simp [sUp]; done)) (by rfl) rfl ?_
              refine x_callV1 (p' := 57) D_O_bestEntry_54 V_O_102 (c_Grid_columns C0.2.1) rfl (by first | assumption | exact sUp_eq | (rw [sUp_ne (by omega)]; assumption) | (rw [sUp_ne (by omega), sUp_ne (by omega)]; assumption) | (rw [sUp_ne (by omega)]; exact sUp_eq) | (rw [gSet_ne (by omega) (by omega)]; first | assumption | exact sUp_eq | (rw [sUp_ne (by omega)]; assumption) | (rw [sUp_ne (by omega), sUp_ne (by omega)]; assumption)) | (simp [sUp]; done)) rfl (Nat.le_of_ble_eq_true rfl) (by decide) ⟨by decide, by decide⟩ rfl ?_
              refine e_icmpN_ge (q := 96) (p' := 60) D_O_bestEntry_57 (by omega) (by omega) rfl rfl (fun hc57 => ?_) (fun hc57 => ?_)
              ·
                exfalso; omega
              ·
                refine e_aload_0 (p' := 61) D_O_bestEntry_60 rfl ?_
                refine e_getfield (p' := 64) D_O_bestEntry_61 F_O_22 (by first | assumption | exact sUp_eq | (rw [sUp_ne (by omega)]; assumption) | (rw [sUp_ne (by omega), sUp_ne (by omega)]; assumption) | (rw [sUp_ne (by omega)]; exact sUp_eq) | (rw [gSet_ne (by omega) (by omega)]; first | assumption | exact sUp_eq | (rw [sUp_ne (by omega)]; assumption) | (rw [sUp_ne (by omega), sUp_ne (by omega)]; assumption)) | (simp [sUp]; done)) (by rfl) rfl ?_
                refine e_iload_5 (p' := 66) D_O_bestEntry_64 rfl ?_
                refine e_iload_6 (p' := 68) D_O_bestEntry_66 rfl ?_
                refine x_callV1 (p' := 71) D_O_bestEntry_68 V_O_215 (c_Parts_gain hp1 (lay_pv hx).2 (by omega) (by omega)) rfl (by first | assumption | exact sUp_eq | (rw [sUp_ne (by omega)]; assumption) | (rw [sUp_ne (by omega), sUp_ne (by omega)]; assumption) | (rw [sUp_ne (by omega)]; exact sUp_eq) | (rw [gSet_ne (by omega) (by omega)]; first | assumption | exact sUp_eq | (rw [sUp_ne (by omega)]; assumption) | (rw [sUp_ne (by omega), sUp_ne (by omega)]; assumption)) | (simp [sUp]; done)) rfl (Nat.le_of_ble_eq_true rfl) (by decide) ⟨by decide, by decide⟩ rfl ?_
                refine e_istore_7 (p' := 73) D_O_bestEntry_71 (Nat.le_of_ble_eq_true rfl) rfl rfl ?_
                refine e_iload_7 (p' := 75) D_O_bestEntry_73 rfl ?_
                refine e_iload_4 (p' := 77) D_O_bestEntry_75 rfl ?_
                refine e_icmpN_le (q := 90) (p' := 80) D_O_bestEntry_77 (by omega) (by omega) rfl rfl (fun hc77 => ?_) (fun hc77 => ?_)
                ·
                  first | refine e_iincN_6 (n := 1) (p' := 93) D_O_bestEntry_90 (Nat.le_of_ble_eq_true rfl) rfl rfl ?_ | refine e_iinc_6 (p' := 93) D_O_bestEntry_90 (Nat.le_of_ble_eq_true rfl) rfl rfl rfl ?_
                  refine e_goto (p' := 48) D_O_bestEntry_93 rfl ?_
                  refine sEv.castW (ih48) ?_ ?_ ?_
                  · rw [bst_no (by omega) hc77]; exact ⟨rfl, rfl, rfl, rfl, rfl, rfl, rfl, trivial⟩
                  · rfl
                  · first | rfl | (simp; done)
                ·
                  refine e_iload_5 (p' := 82) D_O_bestEntry_80 rfl ?_
                  refine e_istore_2 (p' := 83) D_O_bestEntry_82 (Nat.le_of_ble_eq_true rfl) rfl rfl ?_
                  refine e_iload_6 (p' := 85) D_O_bestEntry_83 rfl ?_
                  refine e_istore_3 (p' := 86) D_O_bestEntry_85 (Nat.le_of_ble_eq_true rfl) rfl rfl ?_
                  refine e_iload_7 (p' := 88) D_O_bestEntry_86 rfl ?_
                  refine e_istore_4 (p' := 90) D_O_bestEntry_88 (Nat.le_of_ble_eq_true rfl) rfl rfl ?_
                  first | refine e_iincN_6 (n := 1) (p' := 93) D_O_bestEntry_90 (Nat.le_of_ble_eq_true rfl) rfl rfl ?_ | refine e_iinc_6 (p' := 93) D_O_bestEntry_90 (Nat.le_of_ble_eq_true rfl) rfl rfl rfl ?_
                  refine e_goto (p' := 48) D_O_bestEntry_93 rfl ?_
                  refine sEv.castW (ih48) ?_ ?_ ?_
                  · rw [bst_go (by omega) (by omega) (by omega) hc77]
                    refine ⟨rfl, rfl, ?_, ?_, rfl, rfl, rfl, trivial⟩
                    · show some (Value.int (nI i)) = some (.int (nI ((6 * i + j) / 6)))
                      rw [show (6 * i + j) / 6 = i by omega]
                    · show some (Value.int (nI j)) = some (.int (nI ((6 * i + j) % 6)))
                      rw [show (6 * i + j) % 6 = j by omega]
                  · rfl
                  · first | rfl | (simp; done)
          refine sEv.castW (lk48 0 (by omega) ) ?_ ?_ ?_
          · exact ⟨rfl, rfl, rfl, rfl, rfl, rfl, rfl, trivial⟩
          · rfl
          · first | rfl | (simp; done)
    refine sEv.castW (lk33 0 (by omega) ) ?_ ?_ ?_
    · rw [show bst st.1 (6 * 0) = (0, 0) from rfl]; exact ⟨rfl, rfl, rfl, rfl, rfl, rfl, trivial⟩
    · rfl
    · first | rfl | (simp; done)
  ·
    refine e_bipush (v := (-2)) (p' := 11) D_O_bestEntry_9 cst_bipush_m2 rfl ?_
    refine e_ireturn (ty := .int) D_O_bestEntry_11 rfl (by first | rfl | exact sBo_nar _) ⟨by decide, by decide⟩ ?_
    unfold Vbest; rw [if_pos hc6]; exact ⟨rfl, hC, FrO.rf⟩
theorem byteK {k : Int64} {s i : Nat} (hi : i < s) (hs : s ≤ 8) : (k.toUInt64 >>> ((nI (8 * (s - i - 1))).toInt64.toUInt64 &&& Int64.toUInt64 63)).toInt64.toInt32 &&& nI 255 = nI (by8 (natU k) (s - 1 - i)) := by
  have e : k.toUInt64 = (lN (natU k)).toUInt64 := congrArg Int64.toUInt64 natU_eq
  rw [e, ushrL natU_lt _ (by omega), byteI, show s - i - 1 = s - 1 - i by omega]
  rfl
theorem pI_dec (m : Nat) : nI m + (-1) = pI m := by
  cases m with
  | zero => decide
  | succ m =>
    rw [← Int32.sub_eq_add_neg, nI_pred]
    exact pI_N
theorem FrP.o2 {h h1 : sH} (f : FrP h h1) : FrO h h1 := f.o
