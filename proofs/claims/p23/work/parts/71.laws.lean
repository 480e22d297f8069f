/-! ===== the class's contracts as the law calls them; the law's small methods ===== -/
section KK
variable {l : Launch} {h : sH} {st : St}
theorem k_cnt0 (hC : CInv h st) (hS : StOk st) : sY l m_O_count 6 [.ref 0, .int (nI 0)] h (some (.int (nI st.1.1.1))) (CR h st) := by
  have e : Vcount st (nI 0) = nI st.1.1.1 := by unfold Vcount; rw [if_pos rfl]
  have := c_O_count (l := l) hC hS (w := nI 0)
  rwa [e] at this
theorem k_cnt1 (hC : CInv h st) (hS : StOk st) : sY l m_O_count 6 [.ref 0, .int (nI 1)] h (some (.int (nI st.1.1.2.1))) (CR h st) := by
  have e : Vcount st (nI 1) = nI st.1.1.2.1 := by unfold Vcount; rw [if_neg (by decide), if_pos rfl]
  have := c_O_count (l := l) hC hS (w := nI 1)
  rwa [e] at this
theorem k_cnt2 (hC : CInv h st) (hS : StOk st) : sY l m_O_count 6 [.ref 0, .int (nI 2)] h (some (.int (nI st.1.1.2.2))) (CR h st) := by
  have e : Vcount st (nI 2) = nI st.1.1.2.2 := by unfold Vcount; rw [if_neg (by decide), if_neg (by decide), if_pos rfl]
  have := c_O_count (l := l) hC hS (w := nI 2)
  rwa [e] at this
theorem k_cnt3 (hC : CInv h st) (hS : StOk st) : sY l m_O_count 6 [.ref 0, .int (nI 3)] h (some (.int (nI (told st.1)))) (CR h st) := by
  have e : Vcount st (nI 3) = nI (told st.1) := by unfold Vcount; rw [if_neg (by decide), if_neg (by decide), if_neg (by decide), if_pos rfl]
  have := c_O_count (l := l) hC hS (w := nI 3)
  rwa [e] at this
theorem k_cnt4 (hC : CInv h st) (hS : StOk st) : sY l m_O_count 6 [.ref 0, .int (nI 4)] h (some (.int (nI (lay st.1).2))) (CR h st) := by
  have e : Vcount st (nI 4) = nI (lay st.1).2 := by unfold Vcount; rw [if_neg (by decide), if_neg (by decide), if_neg (by decide), if_neg (by decide), if_pos rfl]
  have := c_O_count (l := l) hC hS (w := nI 4)
  rwa [e] at this
theorem k_cnt5 (hC : CInv h st) (hS : StOk st) : sY l m_O_count 6 [.ref 0, .int (nI 5)] h (some (.int (sBo (wellX st.1)))) (CR h st) := by
  have e : Vcount st (nI 5) = sBo (wellX st.1) := by unfold Vcount; rw [if_neg (by decide), if_neg (by decide), if_neg (by decide), if_neg (by decide), if_neg (by decide), if_pos rfl]
  have := c_O_count (l := l) hC hS (w := nI 5)
  rwa [e] at this
theorem k_cnt6 (hC : CInv h st) (hS : StOk st) : sY l m_O_count 6 [.ref 0, .int (nI 6)] h (some (.int (nI (jnE st.1)))) (CR h st) := by
  have e : Vcount st (nI 6) = nI (jnE st.1) := by unfold Vcount; rw [if_neg (by decide), if_neg (by decide), if_neg (by decide), if_neg (by decide), if_neg (by decide), if_neg (by decide), if_pos rfl]
  have := c_O_count (l := l) hC hS (w := nI 6)
  rwa [e] at this
theorem k_cnt7 (hC : CInv h st) (hS : StOk st) : sY l m_O_count 6 [.ref 0, .int (nI 7)] h (some (.int (nI (mAll st.1 false)))) (CR h st) := by
  have e : Vcount st (nI 7) = nI (mAll st.1 false) := by unfold Vcount; rw [if_neg (by decide), if_neg (by decide), if_neg (by decide), if_neg (by decide), if_neg (by decide), if_neg (by decide), if_neg (by decide), if_pos rfl]
  have := c_O_count (l := l) hC hS (w := nI 7)
  rwa [e] at this
theorem k_cnt8 (hC : CInv h st) (hS : StOk st) : sY l m_O_count 6 [.ref 0, .int (nI 8)] h (some (.int (nI (mAll st.1 true)))) (CR h st) := by
  have e : Vcount st (nI 8) = nI (mAll st.1 true) := by unfold Vcount; rw [if_neg (by decide), if_neg (by decide), if_neg (by decide), if_neg (by decide), if_neg (by decide), if_neg (by decide), if_neg (by decide), if_neg (by decide), if_pos rfl]
  have := c_O_count (l := l) hC hS (w := nI 8)
  rwa [e] at this
theorem k_cnt9 (hC : CInv h st) (hS : StOk st) : sY l m_O_count 6 [.ref 0, .int (nI 9)] h (some (.int (nI (mxTo (rkF st.1) 64)))) (CR h st) := by
  have e : Vcount st (nI 9) = nI (mxTo (rkF st.1) 64) := by unfold Vcount; rw [if_neg (by decide), if_neg (by decide), if_neg (by decide), if_neg (by decide), if_neg (by decide), if_neg (by decide), if_neg (by decide), if_neg (by decide), if_neg (by decide), if_pos rfl]
  have := c_O_count (l := l) hC hS (w := nI 9)
  rwa [e] at this
theorem x6 {x : Gd} (hx : Gok x) {r c : Nat} (hr : r < x.1.1) (hc : c < x.1.2.1) : r < 6 ∧ c < 6 := by
  have h1 := hx.1
  have h2 := hx.2.1
  exact ⟨by omega, by omega⟩
theorem k_ent0 (hC : CInv h st) (hS : StOk st) {r c : Nat} (hr : r < st.1.1.1) (hc : c < st.1.1.2.1) : sY l m_O_entry 5 [.ref 0, .int (nI r), .int (nI c), .int (nI 0)] h (some (.int (nI (at' st.1 r c)))) (CR h st) := by
  have h6 := x6 hS.1 hr hc
  have e : Ventry st.1 (nI r) (nI c) (nI 0) = nI (at' st.1 r c) := by
    unfold Ventry
    rw [if_neg (by rw [gHas_in hS.1 hr hc]; decide), if_pos rfl, natOf_nI (by omega), natOf_nI (by omega)]
  have := c_O_entry (l := l) hC hS (r := nI r) (c := nI c) (w := nI 0)
  rwa [e] at this
theorem k_ent1 (hC : CInv h st) (hS : StOk st) {r c : Nat} (hr : r < st.1.1.1) (hc : c < st.1.1.2.1) : sY l m_O_entry 5 [.ref 0, .int (nI r), .int (nI c), .int (nI 1)] h (some (.int (fol st.1 r c))) (CR h st) := by
  have h6 := x6 hS.1 hr hc
  have e : Ventry st.1 (nI r) (nI c) (nI 1) = fol st.1 r c := by
    unfold Ventry
    rw [if_neg (by rw [gHas_in hS.1 hr hc]; decide), if_neg (by decide), if_pos rfl, natOf_nI (by omega), natOf_nI (by omega)]
  have := c_O_entry (l := l) hC hS (r := nI r) (c := nI c) (w := nI 1)
  rwa [e] at this
theorem k_ent2 (hC : CInv h st) (hS : StOk st) {r c : Nat} (hr : r < st.1.1.1) (hc : c < st.1.1.2.1) : sY l m_O_entry 5 [.ref 0, .int (nI r), .int (nI c), .int (nI 2)] h (some (.int (fol (upd1 st.1 r c 0) r c))) (CR h st) := by
  have h6 := x6 hS.1 hr hc
  have e : Ventry st.1 (nI r) (nI c) (nI 2) = fol (upd1 st.1 r c 0) r c := by
    unfold Ventry
    rw [if_neg (by rw [gHas_in hS.1 hr hc]; decide), if_neg (by decide), if_neg (by decide), if_pos rfl, natOf_nI (by omega), natOf_nI (by omega)]
  have := c_O_entry (l := l) hC hS (r := nI r) (c := nI c) (w := nI 2)
  rwa [e] at this
theorem k_part0 (hC : CInv h st) (hS : StOk st) {p : Nat} (hp : p < (lay st.1).2) : sY l m_O_part 5 [.ref 0, .int (nI p), .int (nI 0)] h (some (.int (nI (mRows (lay st.1).1 (p + 1))))) (CR h st) := by
  have hz := l_sz hS.1
  have e : Vpart st.1 (nI p) (nI 0) = nI (mRows (lay st.1).1 (p + 1)) := by
    unfold Vpart
    rw [if_neg (by rw [isOut_R (by omega) ⟨by omega, by omega⟩]; decide), if_pos rfl, natOf_nI (by omega)]
  have := c_O_part (l := l) hC hS (p := nI p) (w := nI 0)
  rwa [e] at this
theorem k_part1 (hC : CInv h st) (hS : StOk st) {p : Nat} (hp : p < (lay st.1).2) : sY l m_O_part 5 [.ref 0, .int (nI p), .int (nI 1)] h (some (.int (nI (mCols (lay st.1).1 (p + 1))))) (CR h st) := by
  have hz := l_sz hS.1
  have e : Vpart st.1 (nI p) (nI 1) = nI (mCols (lay st.1).1 (p + 1)) := by
    unfold Vpart
    rw [if_neg (by rw [isOut_R (by omega) ⟨by omega, by omega⟩]; decide), if_neg (by decide), if_pos rfl, natOf_nI (by omega)]
  have := c_O_part (l := l) hC hS (p := nI p) (w := nI 1)
  rwa [e] at this
theorem k_part2 (hC : CInv h st) (hS : StOk st) {p : Nat} (hp : p < (lay st.1).2) : sY l m_O_part 5 [.ref 0, .int (nI p), .int (nI 2)] h (some (.int (nI (tIn st.1 (p + 1))))) (CR h st) := by
  have hz := l_sz hS.1
  have e : Vpart st.1 (nI p) (nI 2) = nI (tIn st.1 (p + 1)) := by
    unfold Vpart
    rw [if_neg (by rw [isOut_R (by omega) ⟨by omega, by omega⟩]; decide), if_neg (by decide), if_neg (by decide), if_pos rfl, natOf_nI (by omega)]
  have := c_O_part (l := l) hC hS (p := nI p) (w := nI 2)
  rwa [e] at this
theorem k_partN (hC : CInv h st) (hS : StOk st) : sY l m_O_part 5 [.ref 0, .int (nI (lay st.1).2), .int (nI 0)] h (some (.int (-1))) (CR h st) := by
  have hz := l_sz hS.1
  have e : Vpart st.1 (nI (lay st.1).2) (nI 0) = -1 := by
    unfold Vpart
    refine if_pos (isOut_no hz.1 hz.2 (by omega) ?_)
    rw [nI_ltI (by omega) (by omega)]; omega
  have := c_O_part (l := l) hC hS (p := nI (lay st.1).2) (w := nI 0)
  rwa [e] at this
theorem k_cmd (hC : CInv h st) (hS : StOk st) {k r c : Nat} (hk : k < cpl st.1) (hr : r < st.1.1.1) (hc : c < st.1.1.2.1) : sY l m_O_completed 5 [.ref 0, .long (lN k), .int (nI r), .int (nI c)] h (some (.int (nI (cv st.1 k r c)))) (CR h st) := by
  have := c_O_completed (l := l) hC hS (k := lN k) (r := nI r) (c := nI c)
  rwa [Vcompl_in hS.1 hk hr hc] at this
theorem k_cmdH (hC : CInv h st) (hS : StOk st) {r c : Int32} : sY l m_O_completed 5 [.ref 0, .long (lN (cpl st.1)), .int r, .int c] h (some (.int (-1))) (CR h st) := by
  have := c_O_completed (l := l) hC hS (k := lN (cpl st.1)) (r := r) (c := c)
  rwa [Vcompl_hi] at this
theorem k_cmdL (hC : CInv h st) (hS : StOk st) {k : Int64} (hk : k < lN 0) {r c : Int32} : sY l m_O_completed 5 [.ref 0, .long k, .int r, .int c] h (some (.int (-1))) (CR h st) := by
  have := c_O_completed (l := l) hC hS (k := k) (r := r) (c := c)
  rwa [Vcompl_lo hk] at this
theorem eT_in {x : Gd} (hx : Gok x) {r c n : Nat} (hr : r < x.1.1) (hc : c < x.1.2.1) (hn : n < x.1.2.2) : eT x (nI r) (nI c) (nI n) = 0 := by
  have hm := hx.2.2.1.le
  unfold eT
  rw [if_neg (by rw [gHas_in hx hr hc]; decide), if_neg (by rw [isOut_R (by omega) ⟨by omega, by omega⟩]; decide)]
  rfl
theorem k_wif (hC : CInv h st) (hS : StOk st) {r c n : Nat} (hr : r < st.1.1.1) (hc : c < st.1.1.2.1) (hn : n < st.1.1.2.2) : sY l m_O_isWellIf 5 [.ref 0, .int (nI r), .int (nI c), .int (nI n)] h (some (.int (sBo (wellX (upd1 st.1 r c n))))) (CR h st) := by
  have h6 := x6 hS.1 hr hc
  have hm := hS.1.2.2.1.le
  have e : VwellIf st.1 (nI r) (nI c) (nI n) = sBo (wellX (upd1 st.1 r c n)) := by
    unfold VwellIf
    rw [if_pos (eT_in hS.1 hr hc hn), natOf_nI (by omega), natOf_nI (by omega), natOf_nI (by omega)]
  have := c_O_isWellIf (l := l) hC hS (r := nI r) (c := nI c) (n := nI n)
  rwa [e] at this
/-- the state behind a change to the grid y -/
def chg (st : St) (y : Gd) : St := (y, recH st.2.1 st.1, st.2.2)
theorem k_tell (hC : CInv h st) (hS : StOk st) {r c n : Nat} (hr : r < st.1.1.1) (hc : c < st.1.1.2.1) (hn : n < st.1.1.2.2) : sY l m_O_tell 4 [.ref 0, .int (nI r), .int (nI c), .int (nI n)] h (some (.int (nI (at' st.1 r c)))) (CR h (chg st (upd1 st.1 r c n))) := by
  have h6 := x6 hS.1 hr hc
  have hm := hS.1.2.2.1.le
  have e : Stell st (nI r) (nI c) (nI n) = (nI (at' st.1 r c), chg st (upd1 st.1 r c n)) := by
    unfold Stell
    rw [if_pos (eT_in hS.1 hr hc hn), natOf_nI (by omega), natOf_nI (by omega), natOf_nI (by omega)]
    rfl
  have := c_O_tell (l := l) hC hS (r := nI r) (c := nI c) (n := nI n)
  rwa [e] at this
theorem chg_ok (hS : StOk st) {y : Gd} (hy : Gok y) : StOk (chg st y) := hS.rec hy
theorem k_begin (hC : CInv h st) (hS : StOk st) {a b m : Nat} (ha : 2 ≤ a ∧ a ≤ 6) (hb : 2 ≤ b ∧ b ≤ 6) (hm : Mok m) : sY l m_O_begin 4 [.ref 0, .int (nI a), .int (nI b), .int (nI m)] h (some (.int (nI (told st.1)))) (CR h (chg st ((a, b, m), fun _ => 0))) := by
  have hm2 := hm.le
  have e : Sbegin st (nI a) (nI b) (nI m) = (nI (told st.1), chg st ((a, b, m), fun _ => 0)) := by
    unfold Sbegin
    rw [if_pos ⟨isOut_R (by omega) ha, isOut_R (by omega) hb, isM_M hm⟩, natOf_nI (by omega), natOf_nI (by omega), natOf_nI (by omega)]
    rfl
  have := c_O_begin (l := l) hC hS (a := nI a) (b := nI b) (m := nI m)
  rwa [e] at this
theorem k_tellAll (hC : CInv h st) (hS : StOk st) (hw : wellX st.1 = true) : sY l m_O_tellAll 6 [.ref 0] h (some (.int (nI (jnE st.1 - told st.1)))) (CR h (chg st (taX st.1))) := by
  have e : StellAll st = (nI (jnE st.1 - told st.1), chg st (taX st.1)) := by
    unfold StellAll
    rw [if_pos hw, told_ta_eq hS.1]
    rfl
  have := c_O_tellAll (l := l) hC hS
  rwa [e] at this
theorem k_tellAllN (hC : CInv h st) (hS : StOk st) (hw : wellX st.1 = false) : sY l m_O_tellAll 6 [.ref 0] h (some (.int (-5))) (CR h st) := by
  have e : StellAll st = (-5, st) := by
    unfold StellAll
    rw [if_neg (by rw [hw]; decide)]
  have := c_O_tellAll (l := l) hC hS
  rwa [e] at this
theorem k_undo (hC : CInv h st) (hS : StOk st) (hn : st.2.1.1 ≠ 0) : sY l m_O_undo 3 [.ref 0] h (some (.int (nI (st.2.1.1 - 1)))) (CR h (st.2.1.2 (st.2.1.1 - 1), (st.2.1.1 - 1, st.2.1.2), st.2.2)) := by
  have e : Sundo st = (nI (st.2.1.1 - 1), (st.2.1.2 (st.2.1.1 - 1), (st.2.1.1 - 1, st.2.1.2), st.2.2)) := by
    unfold Sundo
    rw [if_neg hn]
  have := c_O_undo (l := l) hC hS
  rwa [e] at this
theorem und_ok (hS : StOk st) (hn : st.2.1.1 ≠ 0) : StOk (st.2.1.2 (st.2.1.1 - 1), (st.2.1.1 - 1, st.2.1.2), st.2.2) := by
  have := Sundo_ok (st := st) hS
  unfold Sundo at this
  rw [if_neg hn] at this
  exact this
/-- a state whose history's last grid is y -/
def HasL (st : St) (y : Gd) : Prop := st.2.1.1 ≠ 0 ∧ st.2.1.2 (st.2.1.1 - 1) = y
theorem recL {s : Hs} {x : Gd} (h6 : s.1 ≤ 6) : (recH s x).1 ≠ 0 ∧ (recH s x).2 ((recH s x).1 - 1) = x ∧ (recH s x).1 ≤ 6 ∧ (2 ≤ (recH s x).1 → s.1 ≠ 0 ∧ (recH s x).2 ((recH s x).1 - 2) = s.2 (s.1 - 1)) := by
  unfold recH
  by_cases e : s.1 = 6
  · rw [if_pos e]
    refine ⟨by show (6 : Nat) ≠ 0; omega, by show (if 6 - 1 = 5 then x else s.2 (6 - 1 + 1)) = x; exact if_pos rfl, by show (6 : Nat) ≤ 6; omega, fun _ => ⟨by omega, ?_⟩⟩
    show (if 6 - 2 = 5 then x else s.2 (6 - 2 + 1)) = _
    rw [if_neg (by omega), e]
  · rw [if_neg e]
    refine ⟨Nat.succ_ne_zero _, ?_, by show s.1 + 1 ≤ 6; omega, fun h2 => ?_⟩
    · show (if s.1 + 1 - 1 = s.1 then x else _) = x
      exact if_pos rfl
    · have h2 : 2 ≤ s.1 + 1 := h2
      refine ⟨by omega, ?_⟩
      show (if s.1 + 1 - 2 = s.1 then x else s.2 (s.1 + 1 - 2)) = _
      rw [if_neg (by omega), show s.1 + 1 - 2 = s.1 - 1 by omega]
theorem k_cyc (hC : CInv h st) (hS : StOk st) {k : Nat} (hk : 2 ≤ k ∧ k ≤ 6) {w : Nat} (hw : w < 2) : sY l m_O_cycles 13 [.ref 0, .int (nI (2 * k)), .int (nI w)] h (some (.int (nI (cyc st.1 (decide (w = 1)) k)))) (CR h st) := by
  have a : ∀ k, k < 7 → nI (2 * k) &&& nI 1 = nI 0 := by decide +kernel
  have b : decide (nI w = nI 1) = decide (w = 1) := by
    rcases (show w = 0 ∨ w = 1 by omega) with rfl | rfl <;> rfl
  have e : Vcycles st.1 (nI (2 * k)) (nI w) = nI (cyc st.1 (decide (w = 1)) k) := by
    unfold Vcycles
    rw [if_neg, natOf_nI (by omega), b, show 2 * k / 2 = k by omega]
    rintro (z | z | z)
    · rw [isOut_R (by omega) ⟨by omega, by omega⟩] at z; cases z
    · exact z (a k (by omega))
    · rw [isOut_R (by omega) ⟨by omega, by omega⟩] at z; cases z
  have := c_O_cycles (l := l) hC hS (n := nI (2 * k)) (w := nI w)
  rwa [e] at this
theorem k_wrong0 (hC : CInv h st) (hS : StOk st) : sY l m_O_wrong 14 [.ref 0, .int (nI 0)] h (some (.int (if sw st.1 = 0 then -6 else nI (2 * sw st.1)))) (CR h st) := by
  have e : Vwrong st.1 (nI 0) = if sw st.1 = 0 then -6 else nI (2 * sw st.1) := by
    unfold Vwrong
    rw [if_neg (by decide), if_pos rfl]
  have := c_O_wrong (l := l) hC hS (w := nI 0)
  rwa [e] at this
theorem k_wrong1 (hC : CInv h st) (hS : StOk st) (hn : sw st.1 ≠ 0) : sY l m_O_wrong 14 [.ref 0, .int (nI 1)] h (some (.int (nI (lw (Tot st.1 (st.1.1.2.2 - 1) (sw st.1))).1))) (CR h st) := by
  have e : Vwrong st.1 (nI 1) = nI (lw (Tot st.1 (st.1.1.2.2 - 1) (sw st.1))).1 := by
    unfold Vwrong
    rw [if_neg (by decide), if_neg hn, if_neg (by decide), if_pos rfl]
  have := c_O_wrong (l := l) hC hS (w := nI 1)
  rwa [e] at this
theorem k_wrong2 (hC : CInv h st) (hS : StOk st) (hn : sw st.1 ≠ 0) : sY l m_O_wrong 14 [.ref 0, .int (nI 2)] h (some (.int (nI (lw (Tot st.1 (st.1.1.2.2 - 1) (sw st.1))).2))) (CR h st) := by
  have e : Vwrong st.1 (nI 2) = nI (lw (Tot st.1 (st.1.1.2.2 - 1) (sw st.1))).2 := by
    unfold Vwrong
    rw [if_neg (by decide), if_neg hn, if_neg (by decide), if_neg (by decide)]
  have := c_O_wrong (l := l) hC hS (w := nI 2)
  rwa [e] at this
/-- what bestEntry answers -/
def bE (x : Gd) (w : Nat) : Int32 := if (bst x 36).2 = 0 then -6 else nI (if w = 0 then (bst x 36).1 / 6 else if w = 1 then (bst x 36).1 % 6 else (bst x 36).2)
theorem k_best (hC : CInv h st) (hS : StOk st) {w : Nat} (hw : w < 3) : sY l m_O_bestEntry 5 [.ref 0, .int (nI w)] h (some (.int (bE st.1 w))) (CR h st) := by
  have e : Vbest st.1 (nI w) = bE st.1 w := by
    unfold Vbest bE
    rcases (show w = 0 ∨ w = 1 ∨ w = 2 by omega) with rfl | rfl | rfl
    · rw [if_neg (by decide), if_pos (c := nI 0 = nI 0) rfl, if_pos (c := 0 = 0) rfl]
    · rw [if_neg (by decide), if_neg (c := nI 1 = nI 0) (by decide), if_pos (c := nI 1 = nI 1) rfl, if_neg (c := 1 = 0) (by decide), if_pos (c := 1 = 1) rfl]
    · rw [if_neg (by decide), if_neg (c := nI 2 = nI 0) (by decide), if_neg (c := nI 2 = nI 1) (by decide), if_neg (c := 2 = 0) (by decide), if_neg (c := 2 = 1) (by decide)]
  have := c_O_bestEntry (l := l) hC hS (w := nI w)
  rwa [e] at this
end KK
-- the law's small methods
def lowN (v : Int32) (n : Nat) : Nat := natOf (v &&& 2147483647) % n
theorem and_max (v : Int32) : ∃ k, k < 2 ^ 31 ∧ v &&& 2147483647 = nI k ∧ natOf (v &&& 2147483647) = k := by
  have h0 : ¬ (v &&& 2147483647) < 0 := by
    intro z
    rw [Int32.lt_iff_toBitVec_slt] at z
    rw [Int32.toBitVec_and] at z
    have h1 : (v.toBitVec &&& (2147483647 : Int32).toBitVec).msb = false := by
      rw [BitVec.msb_and]
      have : (2147483647 : Int32).toBitVec.msb = false := by decide
      rw [this, Bool.and_false]
    have h2 := BitVec.slt_zero_eq_msb (x := v.toBitVec &&& (2147483647 : Int32).toBitVec)
    have h3 : (0 : Int32).toBitVec = 0#32 := rfl
    rw [h3, h2, h1] at z
    cases z
  obtain ⟨k, hk, e⟩ := nI_of h0
  exact ⟨k, hk, e, by rw [e, natOf_nI hk]⟩
theorem lowN_lt {v : Int32} {n : Nat} (h : 0 < n) : lowN v n < n := Nat.mod_lt _ h
theorem bit_i : ∀ s, s < 64 → ∀ m, m < 6 → (nI s >>> (nI m &&& 31)) &&& nI 1 = nI (s / 2 ^ m % 2) := holds_ok
set_option maxRecDepth 4000 in
theorem c_Law_low {l : Launch} {h : sH} {v : Int32} {n : Nat} (h0 : 0 < n) (hn : n < 2 ^ 31) : sX l m_Law_low 0 [.int v, .int (nI n)] h (some (.int (nI (lowN v n)))) (h) := by
  obtain ⟨k, hk, e1, e2⟩ := and_max v
  unfold lowN
  rw [e2]
  refine en_Law_low ?_
  refine e_iload_0 (p' := 1) D_Law_low_0 rfl ?_
  refine e_ldc (p' := 3) D_Law_low_1 K_Law_9 rfl ?_
  refine e_iand (p' := 4) D_Law_low_3 rfl ?_
  rw [e1]
  refine e_iload_1 (p' := 5) D_Law_low_4 rfl ?_
  first | refine e_iremN (p' := 6) D_Law_low_5 (by omega) (by omega) (by omega) rfl ?_ | refine e_irem (p' := 6) D_Law_low_5 (by assumption) rfl ?_
  refine e_ireturn (ty := .int) D_Law_low_6 rfl (by first | rfl | exact sBo_nar _) ⟨by decide, by decide⟩ ?_
  exact ⟨by first | rfl | (simp; done) | (simp [*]; done), by first | rfl | (simp; done)⟩
set_option maxRecDepth 4000 in
theorem c_Law_bits {l : Launch} {h : sH} {a : Nat} (ha : a < 64) : sX l m_Law_bits 0 [.int (nI a)] h (some (.int (nI (pc6 a)))) (h) := by
  refine en_Law_bits ?_
  refine e_iconst (v := nI 0) (p' := 1) D_Law_bits_0 cst_iconst_0 rfl ?_
  refine e_istore_1 (p' := 2) D_Law_bits_1 (Nat.le_of_ble_eq_true rfl) rfl rfl ?_
  refine e_iconst (v := nI 0) (p' := 3) D_Law_bits_2 cst_iconst_0 rfl ?_
  refine e_istore_2 (p' := 4) D_Law_bits_3 (Nat.le_of_ble_eq_true rfl) rfl rfl ?_
  have lk4 : ∀ k : Nat, k ≤ 6 → sEv l m_Law_bits 0 (0, 0, 0, 0) (sKm 0 0 (fun r1 h1 => r1 = some (.int (nI (pc6 a))) ∧ h1 = h)) 4 [some (.int (nI a)), some (.int (nI (sm k (fun k => a / 2 ^ k % 2)))), some (.int (nI k))] [] (h) := by
    refine lp_up _ ?_ ?_
    · skip
      refine e_iload_2 (p' := 5) D_Law_bits_4 rfl ?_
      refine e_bipush (v := nI 6) (p' := 7) D_Law_bits_5 cst_bipush_6 rfl ?_
      first | refine e_icmpN_ge (q := 24) (p' := 10) D_Law_bits_7 (by omega) (by omega) rfl rfl (fun hc7 => ?_) (fun hc7 => ?_) | refine e_icmp_ge (q := 24) (p' := 10) D_Law_bits_7 rfl rfl (fun hc7 => ?_) (fun hc7 => ?_)
      ·
        refine e_iload_1 (p' := 25) D_Law_bits_24 rfl ?_
        refine e_ireturn (ty := .int) D_Law_bits_25 rfl (by first | rfl | exact sBo_nar _) ⟨by decide, by decide⟩ ?_
        exact ⟨by first | rfl | (simp; done) | (simp [*]; done), by first | rfl | (simp; done)⟩
      ·
        exfalso; omega
    · intro k hk ih4 
      refine e_iload_2 (p' := 5) D_Law_bits_4 rfl ?_
      refine e_bipush (v := nI 6) (p' := 7) D_Law_bits_5 cst_bipush_6 rfl ?_
      first | refine e_icmpN_ge (q := 24) (p' := 10) D_Law_bits_7 (by omega) (by omega) rfl rfl (fun hc7 => ?_) (fun hc7 => ?_) | refine e_icmp_ge (q := 24) (p' := 10) D_Law_bits_7 rfl rfl (fun hc7 => ?_) (fun hc7 => ?_)
      ·
        exfalso; omega
      ·
        refine e_iload_1 (p' := 11) D_Law_bits_10 rfl ?_
        refine e_iload_0 (p' := 12) D_Law_bits_11 rfl ?_
        refine e_iload_2 (p' := 13) D_Law_bits_12 rfl ?_
        refine e_ishr (p' := 14) D_Law_bits_13 rfl ?_
        refine e_iconst (v := nI 1) (p' := 15) D_Law_bits_14 cst_iconst_1 rfl ?_
        refine e_iand (p' := 16) D_Law_bits_15 rfl ?_
        rw [bit_i a ha k (by omega)]
        first | refine e_iaddN (p' := 17) D_Law_bits_16 rfl ?_ | refine e_iadd (p' := 17) D_Law_bits_16 rfl ?_
        refine e_istore_1 (p' := 18) D_Law_bits_17 (Nat.le_of_ble_eq_true rfl) rfl rfl ?_
        first | refine e_iincN_2 (n := 1) (p' := 21) D_Law_bits_18 (Nat.le_of_ble_eq_true rfl) rfl rfl ?_ | refine e_iinc_2 (p' := 21) D_Law_bits_18 (Nat.le_of_ble_eq_true rfl) rfl rfl rfl ?_
        refine e_goto (p' := 4) D_Law_bits_21 rfl ?_
        refine sEv.castW (ih4) ?_ ?_ ?_
        · first | exact lvW_rfl _ | (simp [lvW]; done) | (simp [lvW, *]; done) | (simp [lvW]; omega)
        · rfl
        · first | rfl | (simp; done)
  refine sEv.castW (lk4 0 (by omega) ) ?_ ?_ ?_
  · first | exact lvW_rfl _ | (simp [lvW]; done) | (simp [lvW, *]; done) | (simp [lvW]; omega)
  · rfl
  · first | rfl | (simp; done)
theorem en_Law_cell {l : Launch} {b L : Nat} {xs : Nat → Int32} {d mc ms : Nat} {h : sH} {Q : Option Value → sH → Prop} {x2 : Int32} (k : sEv l m_Law_cell d (0, 0, mc, ms) (sKmL b L xs mc ms Q) 0 [some (.retAddr b), some (.int x2)] [] h) : sCallL l b L xs m_Law_cell d mc ms [.retAddr b, .int x2] h Q := sCallL_of 0 (by decide +kernel) (Nat.le_of_ble_eq_true rfl) k
theorem en_Law_build {l : Launch} {b L : Nat} {xs : Nat → Int32} {d mc ms : Nat} {h : sH} {Q : Option Value → sH → Prop} {a0 : Nat} (k : sEv l m_Law_build d (0, 0, mc, ms) (sKmL b L xs mc ms Q) 0 [some (.ref a0), some (.retAddr b), none, none, none, none, none, none, none, none, none, none, none, none, none, none] [] h) : sCallL l b L xs m_Law_build d mc ms [.ref a0, .retAddr b] h Q := sCallL_of 14 (by decide +kernel) (Nat.le_of_ble_eq_true rfl) k
set_option maxRecDepth 4000 in
theorem c_Law_cell {l : Launch} {h : sH} {b L : Nat} {xs : Nat → Int32} (hL : L < 2 ^ 31) {j : Nat} (hj : j < 2 ^ 31) : sCallL l b L xs m_Law_cell 0 0 0 [.retAddr b, .int (nI j)] h (fun r h1 => ∃ w : Int32, r = some (.int w) ∧ h1 = h) := by
  refine en_Law_cell ?_
  refine e_iload_1 (p' := 1) D_Law_cell_0 rfl ?_
  refine e_aloadA_0 (p' := 2) D_Law_cell_1 rfl ?_
  refine e_slen sKmL_X D_Law_cell_2 rfl ?_
  
  refine e_icmpN_ge (q := 12) (p' := 6) D_Law_cell_3 (by omega) (by omega) rfl rfl (fun hc3 => ?_) (fun hc3 => ?_)
  ·
    refine e_ldc (p' := 14) D_Law_cell_12 K_Law_7 rfl ?_
    refine e_iload_1 (p' := 15) D_Law_cell_14 rfl ?_
    first | refine e_imulN (p' := 16) D_Law_cell_15 rfl ?_ | refine e_imul (p' := 16) D_Law_cell_15 rfl ?_
    refine e_ldc (p' := 18) D_Law_cell_16 K_Law_8 rfl ?_
    first | refine e_iaddN (p' := 19) D_Law_cell_18 rfl ?_ | refine e_iadd (p' := 19) D_Law_cell_18 rfl ?_
    refine sEv.weakK ?_
    refine e_ireturn (ty := .int) D_Law_cell_19 rfl (by first | rfl | exact sBo_nar _) ⟨by decide, by decide⟩ ?_
    exact ⟨_, rfl, rfl⟩
  ·
    refine e_aloadA_0 (p' := 7) D_Law_cell_6 rfl ?_
    refine e_iload_1 (p' := 8) D_Law_cell_7 rfl ?_
    refine e_sld sKmL_X D_Law_cell_8 hL (by omega) rfl ?_
    refine e_goto (p' := 19) D_Law_cell_9 rfl ?_
    refine sEv.weakK ?_
    refine e_ireturn (ty := .int) D_Law_cell_19 rfl (by first | rfl | exact sBo_nar _) ⟨by decide, by decide⟩ ?_
    exact ⟨_, rfl, rfl⟩
