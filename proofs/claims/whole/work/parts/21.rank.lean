theorem qtF_lt {m a b : Nat} : ∀ n k, k + n ≤ m → qtF m a b n k < m ∨ qtF m a b n k = 0 := by
  intro n
  induction n with
  | zero => intro k _; exact Or.inr rfl
  | succ n ih =>
    intro k hk
    unfold qtF
    split
    · exact Or.inl (by omega)
    · exact ih (k + 1) (by omega)
theorem qt_lt {m a b : Nat} : qt m a b < m ∨ qt m a b = 0 := qtF_lt m 0 (by omega)
/-! ===== the lower bound of the rank: pure, and contracts (the matrix stands at 26 to 28) ===== -/
abbrev Mx : Type := Nat → Nat → Nat
def bit (s k : Nat) : Bool := decide (s / 2 ^ k % 2 = 1)
theorem holds_ok : ∀ s, s < 64 → ∀ m, m < 6 → ((nI s >>> (nI m &&& 31)) &&& nI 1) = nI (s / 2 ^ m % 2) := by decide +kernel
def elR (m : Nat) (B : Mx) (rk c a : Nat) : Nat → Nat := fun j => (B a j + (m - qt m (B a c) (B rk c)) * B rk j) % m
def elN (m : Nat) (B : Mx) (rk c n : Nat) : Mx := fun a => if rk < a ∧ a < n then elR m B rk c a else B a
def swp (B : Mx) (p r : Nat) : Mx := fun a => if a = r then B p else if a = p then B r else B a
/-- the first row from k on that isn't 0 in the column, n rows are left -/
def fp (B : Mx) (c : Nat) : Nat → Nat → Option Nat
  | 0, _ => none
  | n + 1, k => if B k c = 0 then fp B c n (k + 1) else some k
def stC (m h c : Nat) (s : Mx × Nat) : Mx × Nat := match fp s.1 c (h - s.2) s.2 with
  | none => s
  | some p => (elN m (swp s.1 p s.2) s.2 c h, s.2 + 1)
def cst (m h : Nat) (q : Nat → Bool) (B : Mx) : Nat → Mx × Nat
  | 0 => (B, 0)
  | c + 1 => if q c then stC m h c (cst m h q B c) else cst m h q B c
def bld (x : Gd) (S : Nat) : Nat → Nat × Mx
  | 0 => (0, fun _ _ => 0)
  | r + 1 => if bit S r then ((bld x S r).1 + 1, fun i => if i = (bld x S r).1 then at' x r else (bld x S r).2 i) else bld x S r
def colB (x : Gd) (S n c : Nat) : Bool := al n (fun r => !bit S r || td x r c)
def rankSet (x : Gd) (S : Nat) : Nat := (cst x.1.2.2 (bld x S 6).1 (colB x S 6) (bld x S 6).2 6).2
def mxTo (f : Nat → Nat) : Nat → Nat
  | 0 => 0
  | n + 1 => max (mxTo f n) (f n)
def rankAll (x : Gd) : Nat := mxTo (fun s => if s = 0 then 0 else rankSet x s) 64
theorem bld_le {x : Gd} {S r : Nat} : (bld x S r).1 ≤ r := by
  induction r with
  | zero => exact Nat.le_refl _
  | succ r ih =>
    unfold bld
    split
    · exact Nat.succ_le_succ ih
    · omega
theorem bld_lt {x : Gd} (hx : Gok x) {S r : Nat} : ∀ i j, (bld x S r).2 i j < x.1.2.2 := by
  have hM := hx.2.2.1.le
  induction r with
  | zero => intro i j; show 0 < _; omega
  | succ r ih =>
    intro i j
    unfold bld
    split
    · show (if i = (bld x S r).1 then at' x r else (bld x S r).2 i) j < _
      split
      · exact hx.lt r j
      · exact ih i j
    · exact ih i j
def Bd (m : Nat) (B : Mx) : Prop := ∀ i j, B i j < m
theorem Bd.swp {m : Nat} {B : Mx} (h : Bd m B) (p r : Nat) : Bd m (swp B p r) := by
  intro i j
  show (if i = r then B p else if i = p then B r else B i) j < m
  split
  · exact h _ _
  · split <;> exact h _ _
theorem Bd.elN {m : Nat} {B : Mx} (hm : 0 < m) (h : Bd m B) (rk c n : Nat) : Bd m (elN m B rk c n) := by
  intro i j
  show (if rk < i ∧ i < n then elR m B rk c i else B i) j < m
  split
  · exact Nat.mod_lt _ hm
  · exact h _ _
theorem fp_0 {B : Mx} {c n k : Nat} (h : B k c = 0) : fp B c (n + 1) k = fp B c n (k + 1) := if_pos h
theorem fp_s {B : Mx} {c n k : Nat} (h : ¬ B k c = 0) : fp B c (n + 1) k = some k := if_neg h
theorem fp_lt {B : Mx} {c : Nat} : ∀ {n k p : Nat}, fp B c n k = some p → k ≤ p ∧ p < k + n := by
  intro n
  induction n with
  | zero => intro k p h; cases h
  | succ n ih =>
    intro k p h
    unfold fp at h
    split at h
    · have := ih h
      omega
    · cases h
      omega
theorem cst_ok {m h : Nat} {q : Nat → Bool} {B : Mx} (hm : 0 < m) (hB : Bd m B) : ∀ c, Bd m (cst m h q B c).1 ∧ (cst m h q B c).2 ≤ h := by
  intro c
  induction c with
  | zero => exact ⟨hB, Nat.zero_le _⟩
  | succ c ih =>
    unfold cst
    split
    · unfold stC
      split
      · exact ih
      · rename_i p hp
        have := fp_lt hp
        exact ⟨(ih.1.swp _ _).elN hm _ _ _, by show (cst m h q B c).2 + 1 ≤ h; omega⟩
    · exact ih
-- the heap
def MtAt (h : sH) (n : Nat) (B : Mx) : Prop := ∃ A : Nat → Int32, h.2 26 = oC 2 [.ref 27] ∧ h.2 27 = oC 3 [.ref 28] ∧ h.2 28 = iA 36 A ∧ ∀ i c, i < n → c < 6 → A (6 * i + c) = nI (B i c)
def FrM (h h' : sH) : Prop := ∀ a, a ≠ 28 → h'.2 a = h.2 a
theorem FrM.rf {h : sH} : FrM h h := fun _ _ => rfl
theorem FrM.tr {h h1 h2 : sH} (a : FrM h h1) (b : FrM h1 h2) : FrM h h2 := fun q hq => (b q hq).trans (a q hq)
theorem FrM.up {h h1 : sH} {c : sC} (f : FrM h h1) : FrM h (sUp h1 28 c) := fun q hq => (sUp_ne hq).trans (f q hq)
theorem GridAt.frM {h h' : sH} {g : Nat} {x : Gd} (hG : GridAt h g x) (hf : FrM h h') (hg : g + 2 < 7 ∨ 29 ≤ g) : GridAt h' g x := hG.kept (hf _ (by omega)) (hf _ (by omega)) (hf _ (by omega))
theorem MtAt.mono {h : sH} {n k : Nat} {B B' : Mx} (hP : MtAt h n B) (hk : k ≤ n) (e : ∀ i c, i < k → c < 6 → B i c = B' i c) : MtAt h k B' := by
  obtain ⟨A, a1, a2, a3, a4⟩ := hP
  exact ⟨A, a1, a2, a3, fun i c hi hc => (a4 i c (by omega) hc).trans (by rw [e i c hi hc])⟩
def swB (B : Mx) (p r i : Nat) : Mx := fun a j => if j < i then swp B p r a j else B a j
theorem MtAt.swap {h : sH} {n : Nat} {B : Mx} {A : Nat → Int32} {p r i : Nat} (hp : p < n) (hr : r < n) (hi : i < 6) (a1 : h.2 26 = oC 2 [.ref 27]) (a2 : h.2 27 = oC 3 [.ref 28]) (a4 : ∀ a c, a < n → c < 6 → A (6 * a + c) = nI (swB B p r i a c)) :
    MtAt (sUp h 28 (iA 36 (upd (upd A (6 * r + i) (A (6 * p + i))) (6 * p + i) (A (6 * r + i))))) n (swB B p r (i + 1)) := by
  refine ⟨_, (sUp_ne (by omega)).trans a1, (sUp_ne (by omega)).trans a2, sUp_eq, fun a c ha hc => ?_⟩
  have e1 : A (6 * p + i) = nI (B p i) := by rw [a4 p i hp hi]; unfold swB; rw [if_neg (by omega)]
  have e2 : A (6 * r + i) = nI (B r i) := by rw [a4 r i hr hi]; unfold swB; rw [if_neg (by omega)]
  have e3 := a4 a c ha hc
  rw [e1, e2]
  by_cases ec : c = i
  · subst ec
    unfold swB swp
    rw [if_pos (by omega)]
    by_cases ep : a = p
    · subst ep
      rw [upd_at]
      by_cases er : a = r
      · subst er; simp
      · simp [er]
    · rw [upd_off (by omega)]
      by_cases er : a = r
      · subst er
        rw [upd_at]; simp
      · rw [upd_off (by omega), e3]
        unfold swB
        simp [er, ep]
  · rw [upd_off (by omega), upd_off (by omega), e3]
    unfold swB
    by_cases h1 : c < i
    · rw [if_pos h1, if_pos (by omega)]
    · rw [if_neg h1, if_neg (by omega)]
def elB (m : Nat) (B : Mx) (rk c a i : Nat) : Mx := fun b j => if b = a ∧ j < i then elR m B rk c a j else B b j
theorem MtAt.elim {h : sH} {n m : Nat} {B : Mx} {A : Nat → Int32} {rk c a i : Nat} (ha : a < n) (hi : i < 6) (a1 : h.2 26 = oC 2 [.ref 27]) (a2 : h.2 27 = oC 3 [.ref 28]) (a4 : ∀ b j, b < n → j < 6 → A (6 * b + j) = nI (elB m B rk c a i b j)) :
    MtAt (sUp h 28 (iA 36 (upd A (6 * a + i) (nI (elR m B rk c a i))))) n (elB m B rk c a (i + 1)) := by
  refine ⟨_, (sUp_ne (by omega)).trans a1, (sUp_ne (by omega)).trans a2, sUp_eq, fun b j hb hj => ?_⟩
  by_cases e : b = a ∧ j = i
  · obtain ⟨rfl, rfl⟩ := e
    rw [upd_at]
    unfold elB
    rw [if_pos (by omega)]
  · rw [upd_off (by omega), a4 b j hb hj]
    unfold elB
    by_cases h1 : b = a ∧ j < i
    · rw [if_pos h1, if_pos (by omega)]
    · rw [if_neg h1, if_neg (by omega)]
theorem MtAt.row {h : sH} {n : Nat} {B : Mx} {A : Nat → Int32} {v : Nat → Nat} {i : Nat} (hi : i < 6) (a1 : h.2 26 = oC 2 [.ref 27]) (a2 : h.2 27 = oC 3 [.ref 28]) (a4 : (∀ b j, b < n → j < 6 → A (6 * b + j) = nI (B b j)) ∧ ∀ j, j < i → A (6 * n + j) = nI (v j)) :
    ∃ A', (sUp h 28 (iA 36 (upd A (6 * n + i) (nI (v i))))).2 26 = oC 2 [.ref 27] ∧ (sUp h 28 (iA 36 (upd A (6 * n + i) (nI (v i))))).2 27 = oC 3 [.ref 28] ∧ (sUp h 28 (iA 36 (upd A (6 * n + i) (nI (v i))))).2 28 = iA 36 A' ∧ (∀ b j, b < n → j < 6 → A' (6 * b + j) = nI (B b j)) ∧ ∀ j, j < i + 1 → A' (6 * n + j) = nI (v j) := by
  refine ⟨_, (sUp_ne (by omega)).trans a1, (sUp_ne (by omega)).trans a2, sUp_eq, fun b j hb hj => ?_, fun j hj => ?_⟩
  · rw [upd_off (by omega)]; exact a4.1 b j hb hj
  · by_cases e : j = i
    · subst e; rw [upd_at]
    · rw [upd_off (by omega)]; exact a4.2 j (by omega)
theorem and6 : ∀ a, a < 64 → ∀ b, b < 64 → nI a &&& nI b = nI (a &&& b) := by decide +kernel
theorem mk_and6 : ∀ a0 a1 a2 a3 a4 a5 b0 b1 b2 b3 b4 b5 : Bool, (0 + (if a0 then 2 ^ 0 else 0) + (if a1 then 2 ^ 1 else 0) + (if a2 then 2 ^ 2 else 0) + (if a3 then 2 ^ 3 else 0) + (if a4 then 2 ^ 4 else 0) + (if a5 then 2 ^ 5 else 0)) &&& (0 + (if b0 then 2 ^ 0 else 0) + (if b1 then 2 ^ 1 else 0) + (if b2 then 2 ^ 2 else 0) + (if b3 then 2 ^ 3 else 0) + (if b4 then 2 ^ 4 else 0) + (if b5 then 2 ^ 5 else 0)) =
    (0 + (if a0 && b0 then 2 ^ 0 else 0) + (if a1 && b1 then 2 ^ 1 else 0) + (if a2 && b2 then 2 ^ 2 else 0) + (if a3 && b3 then 2 ^ 3 else 0) + (if a4 && b4 then 2 ^ 4 else 0) + (if a5 && b5 then 2 ^ 5 else 0)) := by decide +kernel
theorem mk_and {p q : Nat → Bool} : nI (mk 6 p) &&& nI (mk 6 q) = nI (mk 6 (fun k => p k && q k)) := by
  rw [and6 _ mk_lt _ mk_lt]
  exact congrArg nI (mk_and6 (p 0) (p 1) (p 2) (p 3) (p 4) (p 5) (q 0) (q 1) (q 2) (q 3) (q 4) (q 5))
theorem bit_mk {p : Nat → Bool} {k : Nat} (hk : k < 6) : bit (mk 6 p) k = p k := by
  unfold bit
  rw [mk_bit hk]
  cases p k <;> rfl
theorem mk63 : mk 6 (fun _ => true) = 63 := rfl
set_option maxRecDepth 4000 in
theorem c_O_holds {l : Launch} {h : sH} {s m : Nat} (hs : s < 64) (hm : m < 6) : sX l m_O_holds 0 [.int (nI s), .int (nI m)] h (some (.int (sBo (bit s m)))) (h) := by
  refine en_O_holds ?_
  refine e_iload_0 (p' := 1) D_O_holds_0 rfl ?_
  refine e_iload_1 (p' := 2) D_O_holds_1 rfl ?_
  refine e_ishr (p' := 3) D_O_holds_2 rfl ?_
  refine e_iconst (v := nI 1) (p' := 4) D_O_holds_3 cst_iconst_1 rfl ?_
  refine e_iand (p' := 5) D_O_holds_4 rfl ?_
  rw [holds_ok s hs m hm]
  have hb := Nat.mod_lt (s / 2 ^ m) (y := 2) (by omega)
  refine e_ifN_eq (q := 12) (p' := 8) D_O_holds_5 (by omega) rfl rfl (fun hc5 => ?_) (fun hc5 => ?_)
  ·
    refine e_iconst (v := nI 0) (p' := 13) D_O_holds_12 cst_iconst_0 rfl ?_
    refine e_ireturn (ty := .boolean) D_O_holds_13 rfl (by first | rfl | exact sBo_nar _) ⟨by decide, by decide⟩ ?_
    unfold bit; rw [decide_eq_false (by omega)]; exact ⟨rfl, rfl⟩
  ·
    refine e_iconst (v := nI 1) (p' := 9) D_O_holds_8 cst_iconst_1 rfl ?_
    refine e_goto (p' := 13) D_O_holds_9 rfl ?_
    refine e_ireturn (ty := .boolean) D_O_holds_13 rfl (by first | rfl | exact sBo_nar _) ⟨by decide, by decide⟩ ?_
    unfold bit; rw [decide_eq_true (by omega)]; exact ⟨rfl, rfl⟩
set_option maxRecDepth 4000 in
theorem c_Min_bringUp {l : Launch} {h : sH} {n m : Nat} {B : Mx} (hP : MtAt h n B) (hB : Bd m B) (hm : m < 100) (hn : n ≤ 6) {p c : Nat} (hp : p ≤ n) (hc : c < 6) : sY l m_Min_bringUp 2 [.ref 26, .int (nI n), .int (nI p), .int (nI c)] h (some (.int (sBo (fp B c (n - p) p).isSome))) (fun h1 => MtAt h1 n (match fp B c (n - p) p with | none => B | some r => swp B r p) ∧ FrM h h1) := by
  have hP0 := hP
  obtain ⟨A, a1, a2, a3, a4⟩ := hP
  refine en_Min_bringUp ?_
  refine e_iload_2 (p' := 1) D_Min_bringUp_0 rfl ?_
  refine e_istore_4 (p' := 3) D_Min_bringUp_1 (Nat.le_of_ble_eq_true rfl) rfl rfl ?_
  have lk3 : ∀ r : Nat, r ≤ n → (fp B c (n - r) r = fp B c (n - p) p ∧ p ≤ r) → sEv l m_Min_bringUp 2 (0, 0, 0, 0) (sKm 0 0 (fun r1 h1 => r1 = some (.int (sBo (fp B c (n - p) p).isSome)) ∧ (fun h1 => MtAt h1 n (match fp B c (n - p) p with | none => B | some r => swp B r p) ∧ FrM h h1) h1)) 3 [some (.ref 26), some (.int (nI n)), some (.int (nI p)), some (.int (nI c)), some (.int (nI r)), none] [] (h) := by
    refine lp_up _ ?_ ?_
    · intro hq0
      obtain ⟨hq, hpr⟩ := hq0
      refine e_iload_4 (p' := 5) D_Min_bringUp_3 rfl ?_
      refine e_iload_1 (p' := 6) D_Min_bringUp_5 rfl ?_
      first | refine e_icmpN_ge (q := 72) (p' := 9) D_Min_bringUp_6 (by omega) (by omega) rfl rfl (fun hc6 => ?_) (fun hc6 => ?_) | refine e_icmp_ge (q := 72) (p' := 9) D_Min_bringUp_6 rfl rfl (fun hc6 => ?_) (fun hc6 => ?_)
      ·
        refine e_iconst (v := nI 0) (p' := 73) D_Min_bringUp_72 cst_iconst_0 rfl ?_
        refine e_ireturn (ty := .boolean) D_Min_bringUp_73 rfl (by first | rfl | exact sBo_nar _) ⟨by decide, by decide⟩ ?_
        rw [Nat.sub_self] at hq
        rw [← hq]
        exact ⟨rfl, hP0, FrM.rf⟩
      ·
        exfalso; omega
    · intro r hr ih3 hq0
      obtain ⟨hq, hpr⟩ := hq0
      refine e_iload_4 (p' := 5) D_Min_bringUp_3 rfl ?_
      refine e_iload_1 (p' := 6) D_Min_bringUp_5 rfl ?_
      first | refine e_icmpN_ge (q := 72) (p' := 9) D_Min_bringUp_6 (by omega) (by omega) rfl rfl (fun hc6 => ?_) (fun hc6 => ?_) | refine e_icmp_ge (q := 72) (p' := 9) D_Min_bringUp_6 rfl rfl (fun hc6 => ?_) (fun hc6 => ?_)
      ·
        exfalso; omega
      ·
        refine e_aload_0 (p' := 10) D_Min_bringUp_9 rfl ?_
        refine e_getfield (p' := 13) D_Min_bringUp_10 F_Min_14 (by first | assumption | exact sUp_eq | (rw [sUp_ne (by omega)]; assumption) | (rw [sUp_ne (by omega), sUp_ne (by omega)]; assumption) | (rw [sUp_ne (by omega)]; exact sUp_eq) | (simp [sUp]; done)) (by rfl) rfl ?_
        refine e_bipush (v := nI 6) (p' := 15) D_Min_bringUp_13 cst_bipush_6 rfl ?_
        refine e_iload_4 (p' := 17) D_Min_bringUp_15 rfl ?_
        first | refine e_imulN (p' := 18) D_Min_bringUp_17 rfl ?_ | refine e_imul (p' := 18) D_Min_bringUp_17 rfl ?_
        refine e_iload_3 (p' := 19) D_Min_bringUp_18 rfl ?_
        first | refine e_iaddN (p' := 20) D_Min_bringUp_19 rfl ?_ | refine e_iadd (p' := 20) D_Min_bringUp_19 rfl ?_
        refine x_callV1 (p' := 23) D_Min_bringUp_20 V_Min_76 (c_Num_get a2 a3 (by omega) (by omega)) rfl (by first | assumption | exact sUp_eq | (rw [sUp_ne (by omega)]; assumption) | (rw [sUp_ne (by omega), sUp_ne (by omega)]; assumption) | (rw [sUp_ne (by omega)]; exact sUp_eq) | (simp [sUp]; done)) rfl (Nat.le_of_ble_eq_true rfl) (by decide) ⟨by decide, by decide⟩ rfl ?_
        rw [a4 r c (by omega) hc]
        have hbr := hB r c
        refine e_ifN_eq (q := 66) (p' := 26) D_Min_bringUp_23 (by omega) rfl rfl (fun hc23 => ?_) (fun hc23 => ?_)
        ·
          first | refine e_iincN_4 (n := 1) (p' := 69) D_Min_bringUp_66 (Nat.le_of_ble_eq_true rfl) rfl rfl ?_ | refine e_iinc_4 (p' := 69) D_Min_bringUp_66 (Nat.le_of_ble_eq_true rfl) rfl rfl rfl ?_
          refine e_goto (p' := 3) D_Min_bringUp_69 rfl ?_
          rw [show n - r = (n - (r + 1)) + 1 by omega, fp_0 hc23] at hq
          refine sEv.castW (ih3 ⟨hq, by omega⟩) ?_ ?_ ?_
          · first | exact lvW_rfl _ | (simp [lvW]; done) | (simp [lvW, *]; done) | (simp [lvW]; omega)
          · rfl
          · first | rfl | (simp; done)
        ·
          rw [show n - r = (n - (r + 1)) + 1 by omega, fp_s hc23] at hq
          refine e_iconst (v := nI 0) (p' := 27) D_Min_bringUp_26 cst_iconst_0 rfl ?_
          refine e_istore_5 (p' := 29) D_Min_bringUp_27 (Nat.le_of_ble_eq_true rfl) rfl rfl ?_
          have lk29 : ∀ i : Nat, i ≤ 6 → ∀ (h1 : sH), (MtAt h1 n (swB B r p i) ∧ FrM h h1) → sEv l m_Min_bringUp 2 (0, 0, 0, 0) (sKm 0 0 (fun r1 h1 => r1 = some (.int (sBo (fp B c (n - p) p).isSome)) ∧ (fun h1 => MtAt h1 n (match fp B c (n - p) p with | none => B | some r => swp B r p) ∧ FrM h h1) h1)) 29 [some (.ref 26), some (.int (nI n)), some (.int (nI p)), some (.int (nI c)), some (.int (nI r)), some (.int (nI i))] [] (h1) := by
            refine lp_up _ ?_ ?_
            · intro h1 hI
              obtain ⟨⟨E, e1, e2, e3, e4⟩, hF1⟩ := hI
              have hI0 : MtAt h1 n (swB B r p 6) := ⟨E, e1, e2, e3, e4⟩
              refine e_iload_5 (p' := 31) D_Min_bringUp_29 rfl ?_
              refine e_bipush (v := nI 6) (p' := 33) D_Min_bringUp_31 cst_bipush_6 rfl ?_
              first | refine e_icmpN_ge (q := 64) (p' := 36) D_Min_bringUp_33 (by omega) (by omega) rfl rfl (fun hc33 => ?_) (fun hc33 => ?_) | refine e_icmp_ge (q := 64) (p' := 36) D_Min_bringUp_33 rfl rfl (fun hc33 => ?_) (fun hc33 => ?_)
              ·
                refine e_iconst (v := nI 1) (p' := 65) D_Min_bringUp_64 cst_iconst_1 rfl ?_
                refine e_ireturn (ty := .boolean) D_Min_bringUp_65 rfl (by first | rfl | exact sBo_nar _) ⟨by decide, by decide⟩ ?_
                rw [← hq]
                exact ⟨rfl, hI0.mono (Nat.le_refl _) (fun a j _ hj => by unfold swB; rw [if_pos hj]), hF1⟩
              ·
                exfalso; omega
            · intro i hi ih29 h1 hI
              obtain ⟨⟨E, e1, e2, e3, e4⟩, hF1⟩ := hI
              have hI0 : MtAt h1 n (swB B r p i) := ⟨E, e1, e2, e3, e4⟩
              refine e_iload_5 (p' := 31) D_Min_bringUp_29 rfl ?_
              refine e_bipush (v := nI 6) (p' := 33) D_Min_bringUp_31 cst_bipush_6 rfl ?_
              first | refine e_icmpN_ge (q := 64) (p' := 36) D_Min_bringUp_33 (by omega) (by omega) rfl rfl (fun hc33 => ?_) (fun hc33 => ?_) | refine e_icmp_ge (q := 64) (p' := 36) D_Min_bringUp_33 rfl rfl (fun hc33 => ?_) (fun hc33 => ?_)
              ·
                exfalso; omega
              ·
                refine e_aload_0 (p' := 37) D_Min_bringUp_36 rfl ?_
                refine e_getfield (p' := 40) D_Min_bringUp_37 F_Min_14 (by first | assumption | exact sUp_eq | (rw [sUp_ne (by omega)]; assumption) | (rw [sUp_ne (by omega), sUp_ne (by omega)]; assumption) | (rw [sUp_ne (by omega)]; exact sUp_eq) | (simp [sUp]; done)) (by rfl) rfl ?_
                refine e_bipush (v := nI 6) (p' := 42) D_Min_bringUp_40 cst_bipush_6 rfl ?_
                refine e_iload_2 (p' := 43) D_Min_bringUp_42 rfl ?_
                first | refine e_imulN (p' := 44) D_Min_bringUp_43 rfl ?_ | refine e_imul (p' := 44) D_Min_bringUp_43 rfl ?_
                refine e_iload_5 (p' := 46) D_Min_bringUp_44 rfl ?_
                first | refine e_iaddN (p' := 47) D_Min_bringUp_46 rfl ?_ | refine e_iadd (p' := 47) D_Min_bringUp_46 rfl ?_
                refine e_bipush (v := nI 6) (p' := 49) D_Min_bringUp_47 cst_bipush_6 rfl ?_
                refine e_iload_4 (p' := 51) D_Min_bringUp_49 rfl ?_
                first | refine e_imulN (p' := 52) D_Min_bringUp_51 rfl ?_ | refine e_imul (p' := 52) D_Min_bringUp_51 rfl ?_
                refine e_iload_5 (p' := 54) D_Min_bringUp_52 rfl ?_
                first | refine e_iaddN (p' := 55) D_Min_bringUp_54 rfl ?_ | refine e_iadd (p' := 55) D_Min_bringUp_54 rfl ?_
                refine x_callV0 (p' := 58) D_Min_bringUp_55 V_Min_79 (c_Num_swap e2 e3 (by omega) (by omega) (by omega)) rfl (by first | assumption | exact sUp_eq | (rw [sUp_ne (by omega)]; assumption) | (rw [sUp_ne (by omega), sUp_ne (by omega)]; assumption) | (rw [sUp_ne (by omega)]; exact sUp_eq) | (simp [sUp]; done)) rfl (Nat.le_of_ble_eq_true rfl) (by decide) ⟨by decide, by decide⟩ rfl ?_
                first | refine e_iincN_5 (n := 1) (p' := 61) D_Min_bringUp_58 (Nat.le_of_ble_eq_true rfl) rfl rfl ?_ | refine e_iinc_5 (p' := 61) D_Min_bringUp_58 (Nat.le_of_ble_eq_true rfl) rfl rfl rfl ?_
                refine e_goto (p' := 29) D_Min_bringUp_61 rfl ?_
                refine sEv.castW (ih29 _ ⟨MtAt.swap (n := n) (B := B) (p := r) (r := p) (by omega) (by omega) (by omega) e1 e2 e4, hF1.up⟩) ?_ ?_ ?_
                · first | exact lvW_rfl _ | (simp [lvW]; done) | (simp [lvW, *]; done) | (simp [lvW]; omega)
                · rfl
                · first | rfl | (simp; done)
          refine sEv.castW (lk29 0 (by omega) h ⟨hP0.mono (Nat.le_refl _) (fun _ _ _ _ => rfl), FrM.rf⟩) ?_ ?_ ?_
          · first | exact lvW_rfl _ | (simp [lvW]; done) | (simp [lvW, *]; done) | (simp [lvW]; omega)
          · rfl
          · first | rfl | (simp; done)
  refine sEv.castW (lk3 p (by omega) ⟨rfl, Nat.le_refl _⟩) ?_ ?_ ?_
  · first | exact lvW_rfl _ | (simp [lvW]; done) | (simp [lvW, *]; done) | (simp [lvW]; omega)
  · rfl
  · first | rfl | (simp; done)
set_option maxRecDepth 4000 in
theorem c_Min_eliminate {l : Launch} {h : sH} {x : Gd} (hG : GridAt h 1 x) (hx : Gok x) {n : Nat} {B : Mx} (hP : MtAt h n B) (hB : Bd x.1.2.2 B) (hn : n ≤ 6) {p r c : Nat} (hp : p < n) (hr : r < n) (hpr : p ≠ r) (hc : c < 6) : sY l m_Min_eliminate 2 [.ref 26, .ref 1, .int (nI p), .int (nI r), .int (nI c)] h (none) (fun h1 => MtAt h1 n (fun a => if a = r then elR x.1.2.2 B p c r else B a) ∧ FrM h h1) := by
  have hM := hx.2.2.1.le
  have hP0 := hP
  have hG0 := hG
  obtain ⟨g0, g1, g2⟩ := hG
  obtain ⟨A, a1, a2, a3, a4⟩ := hP
  have b1 := hB r c
  have b2 := hB p c
  refine en_Min_eliminate ?_
  refine e_aload_1 (p' := 1) D_Min_eliminate_0 rfl ?_
  refine e_aload_0 (p' := 2) D_Min_eliminate_1 rfl ?_
  refine e_getfield (p' := 5) D_Min_eliminate_2 F_Min_14 (by first | assumption | exact sUp_eq | (rw [sUp_ne (by omega)]; assumption) | (rw [sUp_ne (by omega), sUp_ne (by omega)]; assumption) | (rw [sUp_ne (by omega)]; exact sUp_eq) | (simp [sUp]; done)) (by rfl) rfl ?_
  refine e_bipush (v := nI 6) (p' := 7) D_Min_eliminate_5 cst_bipush_6 rfl ?_
  refine e_iload_3 (p' := 8) D_Min_eliminate_7 rfl ?_
  first | refine e_imulN (p' := 9) D_Min_eliminate_8 rfl ?_ | refine e_imul (p' := 9) D_Min_eliminate_8 rfl ?_
  refine e_iload_4 (p' := 11) D_Min_eliminate_9 rfl ?_
  first | refine e_iaddN (p' := 12) D_Min_eliminate_11 rfl ?_ | refine e_iadd (p' := 12) D_Min_eliminate_11 rfl ?_
  refine x_callV1 (p' := 15) D_Min_eliminate_12 V_Min_76 (c_Num_get a2 a3 (by omega) (by omega)) rfl (by first | assumption | exact sUp_eq | (rw [sUp_ne (by omega)]; assumption) | (rw [sUp_ne (by omega), sUp_ne (by omega)]; assumption) | (rw [sUp_ne (by omega)]; exact sUp_eq) | (simp [sUp]; done)) rfl (Nat.le_of_ble_eq_true rfl) (by decide) ⟨by decide, by decide⟩ rfl ?_
  rw [a4 r c hr hc]
  refine e_aload_0 (p' := 16) D_Min_eliminate_15 rfl ?_
  refine e_getfield (p' := 19) D_Min_eliminate_16 F_Min_14 (by first | assumption | exact sUp_eq | (rw [sUp_ne (by omega)]; assumption) | (rw [sUp_ne (by omega), sUp_ne (by omega)]; assumption) | (rw [sUp_ne (by omega)]; exact sUp_eq) | (simp [sUp]; done)) (by rfl) rfl ?_
  refine e_bipush (v := nI 6) (p' := 21) D_Min_eliminate_19 cst_bipush_6 rfl ?_
  refine e_iload_2 (p' := 22) D_Min_eliminate_21 rfl ?_
  first | refine e_imulN (p' := 23) D_Min_eliminate_22 rfl ?_ | refine e_imul (p' := 23) D_Min_eliminate_22 rfl ?_
  refine e_iload_4 (p' := 25) D_Min_eliminate_23 rfl ?_
  first | refine e_iaddN (p' := 26) D_Min_eliminate_25 rfl ?_ | refine e_iadd (p' := 26) D_Min_eliminate_25 rfl ?_
  refine x_callV1 (p' := 29) D_Min_eliminate_26 V_Min_76 (c_Num_get a2 a3 (by omega) (by omega)) rfl (by first | assumption | exact sUp_eq | (rw [sUp_ne (by omega)]; assumption) | (rw [sUp_ne (by omega), sUp_ne (by omega)]; assumption) | (rw [sUp_ne (by omega)]; exact sUp_eq) | (simp [sUp]; done)) rfl (Nat.le_of_ble_eq_true rfl) (by decide) ⟨by decide, by decide⟩ rfl ?_
  rw [a4 p c hp hc]
  have hq : qt x.1.2.2 (B r c) (B p c) < x.1.2.2 ∨ qt x.1.2.2 (B r c) (B p c) = 0 := qt_lt
  refine x_callV1 (p' := 32) D_Min_eliminate_29 V_Min_82 (c_Grid_quotient hG0 hx (by omega) (by omega)) rfl (by first | assumption | exact sUp_eq | (rw [sUp_ne (by omega)]; assumption) | (rw [sUp_ne (by omega), sUp_ne (by omega)]; assumption) | (rw [sUp_ne (by omega)]; exact sUp_eq) | (simp [sUp]; done)) rfl (Nat.le_of_ble_eq_true rfl) (by decide) ⟨by decide, by decide⟩ rfl ?_
  refine e_istore_5 (p' := 34) D_Min_eliminate_32 (Nat.le_of_ble_eq_true rfl) rfl rfl ?_
  refine e_aload_1 (p' := 35) D_Min_eliminate_34 rfl ?_
  refine x_callV1 (p' := 38) D_Min_eliminate_35 V_Min_85 (c_Grid_modulus hG0) rfl (by first | assumption | exact sUp_eq | (rw [sUp_ne (by omega)]; assumption) | (rw [sUp_ne (by omega), sUp_ne (by omega)]; assumption) | (rw [sUp_ne (by omega)]; exact sUp_eq) | (simp [sUp]; done)) rfl (Nat.le_of_ble_eq_true rfl) (by decide) ⟨by decide, by decide⟩ rfl ?_
  refine e_iload_5 (p' := 40) D_Min_eliminate_38 rfl ?_
  first | refine e_isubN (p' := 41) D_Min_eliminate_40 (by omega) rfl ?_ | refine e_isub (p' := 41) D_Min_eliminate_40 rfl ?_
  refine e_istore_6 (p' := 43) D_Min_eliminate_41 (Nat.le_of_ble_eq_true rfl) rfl rfl ?_
  refine e_iconst (v := nI 0) (p' := 44) D_Min_eliminate_43 cst_iconst_0 rfl ?_
  refine e_istore_7 (p' := 46) D_Min_eliminate_44 (Nat.le_of_ble_eq_true rfl) rfl rfl ?_
  have lk46 : ∀ i : Nat, i ≤ 6 → ∀ (h1 : sH), (MtAt h1 n (elB x.1.2.2 B p c r i) ∧ FrM h h1) → sEv l m_Min_eliminate 2 (0, 0, 0, 0) (sKm 0 0 (fun r1 h1 => r1 = none ∧ (fun h1 => MtAt h1 n (fun a => if a = r then elR x.1.2.2 B p c r else B a) ∧ FrM h h1) h1)) 46 [some (.ref 26), some (.ref 1), some (.int (nI p)), some (.int (nI r)), some (.int (nI c)), none, some (.int (nI (x.1.2.2 - qt x.1.2.2 (B r c) (B p c)))), some (.int (nI i)), none] [] (h1) := by
    refine lp_up _ ?_ ?_
    · intro h1 hI
      obtain ⟨⟨E, e1, e2, e3, e4⟩, hF1⟩ := hI
      have k0 := (hF1 1 (by omega)).trans g0
      have hI0 : MtAt h1 n (elB x.1.2.2 B p c r 6) := ⟨E, e1, e2, e3, e4⟩
      refine e_iload_7 (p' := 48) D_Min_eliminate_46 rfl ?_
      refine e_bipush (v := nI 6) (p' := 50) D_Min_eliminate_48 cst_bipush_6 rfl ?_
      first | refine e_icmpN_ge (q := 113) (p' := 53) D_Min_eliminate_50 (by omega) (by omega) rfl rfl (fun hc50 => ?_) (fun hc50 => ?_) | refine e_icmp_ge (q := 113) (p' := 53) D_Min_eliminate_50 rfl rfl (fun hc50 => ?_) (fun hc50 => ?_)
      ·
        refine e_return D_Min_eliminate_113 rfl ⟨by decide, by decide⟩ ?_
        exact ⟨rfl, hI0.mono (Nat.le_refl _) (fun a j _ hj => by unfold elB; by_cases e : a = r <;> simp [e, hj]), hF1⟩
      ·
        exfalso; omega
    · intro i hi ih46 h1 hI
      obtain ⟨⟨E, e1, e2, e3, e4⟩, hF1⟩ := hI
      have k0 := (hF1 1 (by omega)).trans g0
      have hI0 : MtAt h1 n (elB x.1.2.2 B p c r i) := ⟨E, e1, e2, e3, e4⟩
      refine e_iload_7 (p' := 48) D_Min_eliminate_46 rfl ?_
      refine e_bipush (v := nI 6) (p' := 50) D_Min_eliminate_48 cst_bipush_6 rfl ?_
      first | refine e_icmpN_ge (q := 113) (p' := 53) D_Min_eliminate_50 (by omega) (by omega) rfl rfl (fun hc50 => ?_) (fun hc50 => ?_) | refine e_icmp_ge (q := 113) (p' := 53) D_Min_eliminate_50 rfl rfl (fun hc50 => ?_) (fun hc50 => ?_)
      ·
        exfalso; omega
      ·
        refine e_aload_0 (p' := 54) D_Min_eliminate_53 rfl ?_
        refine e_getfield (p' := 57) D_Min_eliminate_54 F_Min_14 (by first | assumption | exact sUp_eq | (rw [sUp_ne (by omega)]; assumption) | (rw [sUp_ne (by omega), sUp_ne (by omega)]; assumption) | (rw [sUp_ne (by omega)]; exact sUp_eq) | (simp [sUp]; done)) (by rfl) rfl ?_
        refine e_bipush (v := nI 6) (p' := 59) D_Min_eliminate_57 cst_bipush_6 rfl ?_
        refine e_iload_3 (p' := 60) D_Min_eliminate_59 rfl ?_
        first | refine e_imulN (p' := 61) D_Min_eliminate_60 rfl ?_ | refine e_imul (p' := 61) D_Min_eliminate_60 rfl ?_
        refine e_iload_7 (p' := 63) D_Min_eliminate_61 rfl ?_
        first | refine e_iaddN (p' := 64) D_Min_eliminate_63 rfl ?_ | refine e_iadd (p' := 64) D_Min_eliminate_63 rfl ?_
        refine x_callV1 (p' := 67) D_Min_eliminate_64 V_Min_76 (c_Num_get e2 e3 (by omega) (by omega)) rfl (by first | assumption | exact sUp_eq | (rw [sUp_ne (by omega)]; assumption) | (rw [sUp_ne (by omega), sUp_ne (by omega)]; assumption) | (rw [sUp_ne (by omega)]; exact sUp_eq) | (simp [sUp]; done)) rfl (Nat.le_of_ble_eq_true rfl) (by decide) ⟨by decide, by decide⟩ rfl ?_
        rw [e4 r i hr (by omega), show elB x.1.2.2 B p c r i r i = B r i by unfold elB; rw [if_neg (by omega)]]
        refine e_iload_6 (p' := 69) D_Min_eliminate_67 rfl ?_
        refine e_aload_0 (p' := 70) D_Min_eliminate_69 rfl ?_
        refine e_getfield (p' := 73) D_Min_eliminate_70 F_Min_14 (by first | assumption | exact sUp_eq | (rw [sUp_ne (by omega)]; assumption) | (rw [sUp_ne (by omega), sUp_ne (by omega)]; assumption) | (rw [sUp_ne (by omega)]; exact sUp_eq) | (simp [sUp]; done)) (by rfl) rfl ?_
        refine e_bipush (v := nI 6) (p' := 75) D_Min_eliminate_73 cst_bipush_6 rfl ?_
        refine e_iload_2 (p' := 76) D_Min_eliminate_75 rfl ?_
        first | refine e_imulN (p' := 77) D_Min_eliminate_76 rfl ?_ | refine e_imul (p' := 77) D_Min_eliminate_76 rfl ?_
        refine e_iload_7 (p' := 79) D_Min_eliminate_77 rfl ?_
        first | refine e_iaddN (p' := 80) D_Min_eliminate_79 rfl ?_ | refine e_iadd (p' := 80) D_Min_eliminate_79 rfl ?_
        refine x_callV1 (p' := 83) D_Min_eliminate_80 V_Min_76 (c_Num_get e2 e3 (by omega) (by omega)) rfl (by first | assumption | exact sUp_eq | (rw [sUp_ne (by omega)]; assumption) | (rw [sUp_ne (by omega), sUp_ne (by omega)]; assumption) | (rw [sUp_ne (by omega)]; exact sUp_eq) | (simp [sUp]; done)) rfl (Nat.le_of_ble_eq_true rfl) (by decide) ⟨by decide, by decide⟩ rfl ?_
        rw [e4 p i hp (by omega), show elB x.1.2.2 B p c r i p i = B p i by unfold elB; rw [if_neg (fun z => hpr z.1)]]
        have b3 := hB r i
        have b4 := hB p i
        have b5 : (x.1.2.2 - qt x.1.2.2 (B r c) (B p c)) * B p i ≤ 13 * 13 := Nat.mul_le_mul (by omega) (by omega)
        first | refine e_imulN (p' := 84) D_Min_eliminate_83 rfl ?_ | refine e_imul (p' := 84) D_Min_eliminate_83 rfl ?_
        first | refine e_iaddN (p' := 85) D_Min_eliminate_84 rfl ?_ | refine e_iadd (p' := 85) D_Min_eliminate_84 rfl ?_
        refine e_istore_8 (p' := 87) D_Min_eliminate_85 (Nat.le_of_ble_eq_true rfl) rfl rfl ?_
        refine e_aload_0 (p' := 88) D_Min_eliminate_87 rfl ?_
        refine e_getfield (p' := 91) D_Min_eliminate_88 F_Min_14 (by first | assumption | exact sUp_eq | (rw [sUp_ne (by omega)]; assumption) | (rw [sUp_ne (by omega), sUp_ne (by omega)]; assumption) | (rw [sUp_ne (by omega)]; exact sUp_eq) | (simp [sUp]; done)) (by rfl) rfl ?_
        refine e_bipush (v := nI 6) (p' := 93) D_Min_eliminate_91 cst_bipush_6 rfl ?_
        refine e_iload_3 (p' := 94) D_Min_eliminate_93 rfl ?_
        first | refine e_imulN (p' := 95) D_Min_eliminate_94 rfl ?_ | refine e_imul (p' := 95) D_Min_eliminate_94 rfl ?_
        refine e_iload_7 (p' := 97) D_Min_eliminate_95 rfl ?_
        first | refine e_iaddN (p' := 98) D_Min_eliminate_97 rfl ?_ | refine e_iadd (p' := 98) D_Min_eliminate_97 rfl ?_
        refine e_aload_1 (p' := 99) D_Min_eliminate_98 rfl ?_
        refine e_iload_8 (p' := 101) D_Min_eliminate_99 rfl ?_
        refine x_callV1 (p' := 104) D_Min_eliminate_101 V_Min_88 (c_Grid_remainder (hG0.frM hF1 (by omega)) hx (by omega)) rfl (by first | assumption | exact sUp_eq | (rw [sUp_ne (by omega)]; assumption) | (rw [sUp_ne (by omega), sUp_ne (by omega)]; assumption) | (rw [sUp_ne (by omega)]; exact sUp_eq) | (simp [sUp]; done)) rfl (Nat.le_of_ble_eq_true rfl) (by decide) ⟨by decide, by decide⟩ rfl ?_
        refine x_callV0 (p' := 107) D_Min_eliminate_104 V_Min_64 (c_Num_set e2 e3 (by omega) (by omega)) rfl (by first | assumption | exact sUp_eq | (rw [sUp_ne (by omega)]; assumption) | (rw [sUp_ne (by omega), sUp_ne (by omega)]; assumption) | (rw [sUp_ne (by omega)]; exact sUp_eq) | (simp [sUp]; done)) rfl (Nat.le_of_ble_eq_true rfl) (by decide) ⟨by decide, by decide⟩ rfl ?_
        first | refine e_iincN_7 (n := 1) (p' := 110) D_Min_eliminate_107 (Nat.le_of_ble_eq_true rfl) rfl rfl ?_ | refine e_iinc_7 (p' := 110) D_Min_eliminate_107 (Nat.le_of_ble_eq_true rfl) rfl rfl rfl ?_
        refine e_goto (p' := 46) D_Min_eliminate_110 rfl ?_
        refine sEv.castW (ih46 _ ⟨MtAt.elim hr (by omega) e1 e2 e4, hF1.up⟩) ?_ ?_ ?_
        · first | exact lvW_rfl _ | (simp [lvW]; done) | (simp [lvW, *]; done) | (simp [lvW]; omega)
        · rfl
        · first | rfl | (simp; done)
  refine sEv.castW (lk46 0 (by omega) h ⟨hP0.mono (Nat.le_refl _) (fun b j _ _ => by unfold elB; rw [if_neg (by omega)]), FrM.rf⟩) ?_ ?_ ?_
  · first | exact lvW_rfl _ | (simp [lvW]; done) | (simp [lvW, *]; done) | (simp [lvW]; omega)
  · rfl
  · first | rfl | (simp; done)
