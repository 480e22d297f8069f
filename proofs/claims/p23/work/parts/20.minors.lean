/-! ===== contracts: the rest of Parts; minors ===== -/
def pRows (s : Ps) (q : Nat) : Nat := ct 6 (fun k => decide (s.1.1 k = q))
def pCols (s : Ps) (q : Nat) : Nat := ct 6 (fun k => decide (s.1.2 k = q))
def mRows (s : Ps) (q : Nat) : Nat := mk 6 (fun k => decide (s.1.1 k = q))
def mCols (s : Ps) (q : Nat) : Nat := mk 6 (fun k => decide (s.1.2 k = q))
theorem pc6_rows {s : Ps} {q : Nat} : pc6 (mRows s q) = pRows s q := pc6_mk
theorem pc6_cols {s : Ps} {q : Nat} : pc6 (mCols s q) = pCols s q := pc6_mk
def gn (s : Ps) (r c : Nat) : Nat := if s.1.1 r = s.1.2 c then 0 else pRows s (s.1.1 r) * pCols s (s.1.2 c) + pRows s (s.1.2 c) * pCols s (s.1.1 r)
def mnr (x : Gd) (r s c d : Nat) : Bool := td x r c && (td x r d && (td x s c && td x s d))
def zr (x : Gd) (r s c d : Nat) : Bool := decide (at' x r c * at' x s d % x.1.2.2 = at' x r d * at' x s c % x.1.2.2)
def mz (x : Gd) (b : Bool) (r s c d : Nat) : Bool := mnr x r s c d && !(b && zr x r s c d)
def cb (x : Gd) (b : Bool) (r c : Nat) : Nat := sm x.1.1 (fun s => if r < s then sm x.1.2.1 (fun d => if c < d then (if mz x b r s c d then 1 else 0) else 0) else 0)
def cth (x : Gd) (r c : Nat) : Nat := sm x.1.1 (fun s => sm x.1.2.1 (fun d => if s = r then 0 else if d = c then 0 else if mnr x r s c d then 1 else 0))
theorem sm_succ {n : Nat} {f : Nat → Nat} : sm (n + 1) f = sm n f + f n := rfl
set_option maxRecDepth 4000 in
theorem c_Parts_size {l : Launch} {h : sH} {s : Ps} {sz : Nat} {con : Bool} (hP : PtAt h s sz con) : sX l m_Parts_size 0 [.ref 7] h (some (.int (nI sz))) (h) := by
  have hP0 := hP
  obtain ⟨f1, f2, f3, f4, C, V⟩ := hP
  obtain ⟨c1, ⟨c2, c3⟩, ⟨c4, c5⟩, ⟨c6, c7⟩, ⟨c8, c9⟩⟩ := C
  refine en_Parts_size ?_
  refine e_aload_0 (p' := 1) D_Parts_size_0 rfl ?_
  refine e_getfield (p' := 4) D_Parts_size_1 F_Parts_29 (by first | assumption | exact sUp_eq | (rw [sUp_ne (by omega)]; assumption) | (rw [sUp_ne (by omega), sUp_ne (by omega)]; assumption) | (rw [sUp_ne (by omega)]; exact sUp_eq) | (simp [sUp]; done)) (by rfl) rfl ?_
  refine e_ireturn (ty := .int) D_Parts_size_4 rfl (by first | rfl | exact sBo_nar _) ⟨by decide, by decide⟩ ?_
  exact ⟨by first | rfl | (simp; done) | (simp [*]; done), by first | rfl | (simp; done)⟩
set_option maxRecDepth 4000 in
theorem c_Parts_isConsistent {l : Launch} {h : sH} {s : Ps} {sz : Nat} {con : Bool} (hP : PtAt h s sz con) : sX l m_Parts_isConsistent 0 [.ref 7] h (some (.int (sBo con))) (h) := by
  have hP0 := hP
  obtain ⟨f1, f2, f3, f4, C, V⟩ := hP
  obtain ⟨c1, ⟨c2, c3⟩, ⟨c4, c5⟩, ⟨c6, c7⟩, ⟨c8, c9⟩⟩ := C
  refine en_Parts_isConsistent ?_
  refine e_aload_0 (p' := 1) D_Parts_isConsistent_0 rfl ?_
  refine e_getfield (p' := 4) D_Parts_isConsistent_1 F_Parts_61 (by first | assumption | exact sUp_eq | (rw [sUp_ne (by omega)]; assumption) | (rw [sUp_ne (by omega), sUp_ne (by omega)]; assumption) | (rw [sUp_ne (by omega)]; exact sUp_eq) | (simp [sUp]; done)) (by rfl) rfl ?_
  refine e_ireturn (ty := .boolean) D_Parts_isConsistent_4 rfl (by first | rfl | exact sBo_nar _) ⟨by decide, by decide⟩ ?_
  exact ⟨by first | rfl | (simp; done) | (simp [*]; done), by first | rfl | (simp; done)⟩
set_option maxRecDepth 4000 in
theorem c_Parts_partOfRow {l : Launch} {h : sH} {s : Ps} {sz : Nat} {con : Bool} (hP : PtAt h s sz con) {r : Nat} (hr : r < 6) : sX l m_Parts_partOfRow 1 [.ref 7, .int (nI r)] h (some (.int (pI (s.1.1 r)))) (h) := by
  have hP0 := hP
  obtain ⟨f1, f2, f3, f4, C, V⟩ := hP
  obtain ⟨c1, ⟨c2, c3⟩, ⟨c4, c5⟩, ⟨c6, c7⟩, ⟨c8, c9⟩⟩ := C
  refine en_Parts_partOfRow ?_
  refine e_aload_0 (p' := 1) D_Parts_partOfRow_0 rfl ?_
  refine e_getfield (p' := 4) D_Parts_partOfRow_1 F_Parts_14 (by first | assumption | exact sUp_eq | (rw [sUp_ne (by omega)]; assumption) | (rw [sUp_ne (by omega), sUp_ne (by omega)]; assumption) | (rw [sUp_ne (by omega)]; exact sUp_eq) | (simp [sUp]; done)) (by rfl) rfl ?_
  refine e_iload_1 (p' := 5) D_Parts_partOfRow_4 rfl ?_
  refine x_callV1 (p' := 8) D_Parts_partOfRow_5 V_Parts_42 (c_Num_get c2 c3 (by omega) (by omega)) rfl (by first | assumption | exact sUp_eq | (rw [sUp_ne (by omega)]; assumption) | (rw [sUp_ne (by omega), sUp_ne (by omega)]; assumption) | (rw [sUp_ne (by omega)]; exact sUp_eq) | (simp [sUp]; done)) rfl (Nat.le_of_ble_eq_true rfl) (by decide) ⟨by decide, by decide⟩ rfl ?_
  refine e_ireturn (ty := .int) D_Parts_partOfRow_8 rfl (by first | rfl | exact sBo_nar _) ⟨by decide, by decide⟩ ?_
  rw [(V r hr).1.1]; exact ⟨rfl, rfl⟩
set_option maxRecDepth 4000 in
theorem c_Parts_partOfColumn {l : Launch} {h : sH} {s : Ps} {sz : Nat} {con : Bool} (hP : PtAt h s sz con) {r : Nat} (hr : r < 6) : sX l m_Parts_partOfColumn 1 [.ref 7, .int (nI r)] h (some (.int (pI (s.1.2 r)))) (h) := by
  have hP0 := hP
  obtain ⟨f1, f2, f3, f4, C, V⟩ := hP
  obtain ⟨c1, ⟨c2, c3⟩, ⟨c4, c5⟩, ⟨c6, c7⟩, ⟨c8, c9⟩⟩ := C
  refine en_Parts_partOfColumn ?_
  refine e_aload_0 (p' := 1) D_Parts_partOfColumn_0 rfl ?_
  refine e_getfield (p' := 4) D_Parts_partOfColumn_1 F_Parts_20 (by first | assumption | exact sUp_eq | (rw [sUp_ne (by omega)]; assumption) | (rw [sUp_ne (by omega), sUp_ne (by omega)]; assumption) | (rw [sUp_ne (by omega)]; exact sUp_eq) | (simp [sUp]; done)) (by rfl) rfl ?_
  refine e_iload_1 (p' := 5) D_Parts_partOfColumn_4 rfl ?_
  refine x_callV1 (p' := 8) D_Parts_partOfColumn_5 V_Parts_42 (c_Num_get c4 c5 (by omega) (by omega)) rfl (by first | assumption | exact sUp_eq | (rw [sUp_ne (by omega)]; assumption) | (rw [sUp_ne (by omega), sUp_ne (by omega)]; assumption) | (rw [sUp_ne (by omega)]; exact sUp_eq) | (simp [sUp]; done)) rfl (Nat.le_of_ble_eq_true rfl) (by decide) ⟨by decide, by decide⟩ rfl ?_
  refine e_ireturn (ty := .int) D_Parts_partOfColumn_8 rfl (by first | rfl | exact sBo_nar _) ⟨by decide, by decide⟩ ?_
  rw [(V r hr).1.2]; exact ⟨rfl, rfl⟩
set_option maxRecDepth 4000 in
theorem c_Parts_areJoined {l : Launch} {h : sH} {s : Ps} {sz : Nat} {con : Bool} (hP : PtAt h s sz con) (hb : ∀ k, s.1.1 k < 100 ∧ s.1.2 k < 100) {r c : Nat} (hr : r < 6) (hc : c < 6) : sX l m_Parts_areJoined 1 [.ref 7, .int (nI r), .int (nI c)] h (some (.int (sBo (decide (s.1.1 r = s.1.2 c))))) (h) := by
  have hP0 := hP
  obtain ⟨f1, f2, f3, f4, C, V⟩ := hP
  obtain ⟨c1, ⟨c2, c3⟩, ⟨c4, c5⟩, ⟨c6, c7⟩, ⟨c8, c9⟩⟩ := C
  have b1 := (hb r).1
  have b2 := (hb c).2
  refine en_Parts_areJoined ?_
  refine e_aload_0 (p' := 1) D_Parts_areJoined_0 rfl ?_
  refine e_getfield (p' := 4) D_Parts_areJoined_1 F_Parts_14 (by first | assumption | exact sUp_eq | (rw [sUp_ne (by omega)]; assumption) | (rw [sUp_ne (by omega), sUp_ne (by omega)]; assumption) | (rw [sUp_ne (by omega)]; exact sUp_eq) | (simp [sUp]; done)) (by rfl) rfl ?_
  refine e_iload_1 (p' := 5) D_Parts_areJoined_4 rfl ?_
  refine x_callV1 (p' := 8) D_Parts_areJoined_5 V_Parts_42 (c_Num_get c2 c3 (by omega) (by omega)) rfl (by first | assumption | exact sUp_eq | (rw [sUp_ne (by omega)]; assumption) | (rw [sUp_ne (by omega), sUp_ne (by omega)]; assumption) | (rw [sUp_ne (by omega)]; exact sUp_eq) | (simp [sUp]; done)) rfl (Nat.le_of_ble_eq_true rfl) (by decide) ⟨by decide, by decide⟩ rfl ?_
  refine e_aload_0 (p' := 9) D_Parts_areJoined_8 rfl ?_
  refine e_getfield (p' := 12) D_Parts_areJoined_9 F_Parts_20 (by first | assumption | exact sUp_eq | (rw [sUp_ne (by omega)]; assumption) | (rw [sUp_ne (by omega), sUp_ne (by omega)]; assumption) | (rw [sUp_ne (by omega)]; exact sUp_eq) | (simp [sUp]; done)) (by rfl) rfl ?_
  refine e_iload_2 (p' := 13) D_Parts_areJoined_12 rfl ?_
  refine x_callV1 (p' := 16) D_Parts_areJoined_13 V_Parts_42 (c_Num_get c4 c5 (by omega) (by omega)) rfl (by first | assumption | exact sUp_eq | (rw [sUp_ne (by omega)]; assumption) | (rw [sUp_ne (by omega), sUp_ne (by omega)]; assumption) | (rw [sUp_ne (by omega)]; exact sUp_eq) | (simp [sUp]; done)) rfl (Nat.le_of_ble_eq_true rfl) (by decide) ⟨by decide, by decide⟩ rfl ?_
  rw [(V r hr).1.1, (V c hc).1.2]
  refine e_icmp_ne (q := 23) (p' := 19) D_Parts_areJoined_16 rfl rfl (fun hc16 => ?_) (fun hc16 => ?_)
  ·
    refine e_iconst (v := nI 0) (p' := 24) D_Parts_areJoined_23 cst_iconst_0 rfl ?_
    refine e_ireturn (ty := .boolean) D_Parts_areJoined_24 rfl (by first | rfl | exact sBo_nar _) ⟨by decide, by decide⟩ ?_
    rw [pI_eq (by omega) (by omega)] at hc16
    rw [decide_eq_false hc16]; exact ⟨rfl, rfl⟩
  ·
    refine e_iconst (v := nI 1) (p' := 20) D_Parts_areJoined_19 cst_iconst_1 rfl ?_
    refine e_goto (p' := 24) D_Parts_areJoined_20 rfl ?_
    refine e_ireturn (ty := .boolean) D_Parts_areJoined_24 rfl (by first | rfl | exact sBo_nar _) ⟨by decide, by decide⟩ ?_
    rw [pI_eq (by omega) (by omega)] at hc16
    rw [decide_eq_true hc16]; exact ⟨rfl, rfl⟩
set_option maxRecDepth 4000 in
theorem c_Parts_following {l : Launch} {h : sH} {g : Nat} {x : Gd} (hG : GridAt h g x) (hx : Gok x) (hg : g + 2 < 7 ∨ 16 ≤ g) {s : Ps} {sz : Nat} {con : Bool} (hP : PtAt h s sz con) (hv : Pv x s) (hk : Kn x s) {r c : Nat} (hr : r < x.1.1) (hc : c < x.1.2.1) : sX l m_Parts_following 2 [.ref 7, .ref g, .int (nI r), .int (nI c)] h (some (.int (if con = true ∧ s.1.1 r = s.1.2 c then nI (s.2.1 r * s.2.2 c % x.1.2.2) else (-6)))) (h) := by
  have hR := hx.1
  have hC := hx.2.1
  have c1 := hP.c7
  refine en_Parts_following ?_
  refine e_aload_0 (p' := 1) D_Parts_following_0 rfl ?_
  refine e_getfield (p' := 4) D_Parts_following_1 F_Parts_61 (by first | assumption | exact sUp_eq | (rw [sUp_ne (by omega)]; assumption) | (rw [sUp_ne (by omega), sUp_ne (by omega)]; assumption) | (rw [sUp_ne (by omega)]; exact sUp_eq) | (simp [sUp]; done)) (by rfl) rfl ?_
  refine e_ifB_eq (q := 26) (p' := 7) D_Parts_following_4 rfl rfl (fun hc4 => ?_) (fun hc4 => ?_)
  ·
    refine e_bipush (v := (-6)) (p' := 28) D_Parts_following_26 cst_bipush_m6 rfl ?_
    refine e_ireturn (ty := .int) D_Parts_following_28 rfl (by first | rfl | exact sBo_nar _) ⟨by decide, by decide⟩ ?_
    rw [if_neg (fun z => by rw [z.1] at hc4; cases hc4)]; exact ⟨rfl, rfl⟩
  ·
    refine e_aload_0 (p' := 8) D_Parts_following_7 rfl ?_
    refine e_iload_2 (p' := 9) D_Parts_following_8 rfl ?_
    refine e_iload_3 (p' := 10) D_Parts_following_9 rfl ?_
    refine x_callV1 (p' := 13) D_Parts_following_10 V_Parts_82 (c_Parts_areJoined hP hv.2 (by omega) (by omega)) rfl (by first | assumption | exact sUp_eq | (rw [sUp_ne (by omega)]; assumption) | (rw [sUp_ne (by omega), sUp_ne (by omega)]; assumption) | (rw [sUp_ne (by omega)]; exact sUp_eq) | (simp [sUp]; done)) rfl (Nat.le_of_ble_eq_true rfl) (by decide) ⟨by decide, by decide⟩ rfl ?_
    refine e_ifB_eq (q := 26) (p' := 16) D_Parts_following_13 rfl rfl (fun hc13 => ?_) (fun hc13 => ?_)
    ·
      refine e_bipush (v := (-6)) (p' := 28) D_Parts_following_26 cst_bipush_m6 rfl ?_
      refine e_ireturn (ty := .int) D_Parts_following_28 rfl (by first | rfl | exact sBo_nar _) ⟨by decide, by decide⟩ ?_
      rw [if_neg (fun z => of_decide_eq_false hc13 z.2)]; exact ⟨rfl, rfl⟩
    ·
      refine e_aload_0 (p' := 17) D_Parts_following_16 rfl ?_
      refine e_aload_1 (p' := 18) D_Parts_following_17 rfl ?_
      refine e_iload_2 (p' := 19) D_Parts_following_18 rfl ?_
      refine e_iload_3 (p' := 20) D_Parts_following_19 rfl ?_
      refine x_callV1 (p' := 23) D_Parts_following_20 V_Parts_76 (c_Parts_product hG hx hg hP hv (by omega) (by omega) (hk.1 r hr) (hk.2 c hc)) rfl (by first | assumption | exact sUp_eq | (rw [sUp_ne (by omega)]; assumption) | (rw [sUp_ne (by omega), sUp_ne (by omega)]; assumption) | (rw [sUp_ne (by omega)]; exact sUp_eq) | (simp [sUp]; done)) rfl (Nat.le_of_ble_eq_true rfl) (by decide) ⟨by decide, by decide⟩ rfl ?_
      refine e_goto (p' := 28) D_Parts_following_23 rfl ?_
      refine e_ireturn (ty := .int) D_Parts_following_28 rfl (by first | rfl | exact sBo_nar _) ⟨by decide, by decide⟩ ?_
      rw [if_pos ⟨hc4, of_decide_eq_true hc13⟩]; exact ⟨rfl, rfl⟩
set_option maxRecDepth 4000 in
theorem c_Parts_membersOf {l : Launch} {h : sH} {a b : Nat} {f : Nat → Int32} (hn : h.2 a = oC 3 [.ref b]) (hb : h.2 b = iA 6 f) {p : Int32} : sX l m_Parts_membersOf 1 [.ref a, .int p] h (some (.int (nI (mk 6 (fun k => decide (f k = p)))))) (h) := by
  refine en_Parts_membersOf ?_
  refine e_iconst (v := nI 0) (p' := 1) D_Parts_membersOf_0 cst_iconst_0 rfl ?_
  refine e_istore_2 (p' := 2) D_Parts_membersOf_1 (Nat.le_of_ble_eq_true rfl) rfl rfl ?_
  refine e_iconst (v := nI 0) (p' := 3) D_Parts_membersOf_2 cst_iconst_0 rfl ?_
  refine e_istore_3 (p' := 4) D_Parts_membersOf_3 (Nat.le_of_ble_eq_true rfl) rfl rfl ?_
  have lk4 : ∀ i : Nat, i ≤ 6 → sEv l m_Parts_membersOf 1 (0, 0, 0, 0) (sKm 0 0 (fun r1 h1 => r1 = some (.int (nI (mk 6 (fun k => decide (f k = p))))) ∧ h1 = h)) 4 [some (.ref a), some (.int p), some (.int (nI (mk i (fun k => decide (f k = p))))), some (.int (nI i))] [] (h) := by
    refine lp_up _ ?_ ?_
    · skip
      refine e_iload_3 (p' := 5) D_Parts_membersOf_4 rfl ?_
      refine e_bipush (v := nI 6) (p' := 7) D_Parts_membersOf_5 cst_bipush_6 rfl ?_
      first | refine e_icmpN_ge (q := 31) (p' := 10) D_Parts_membersOf_7 (by omega) (by omega) rfl rfl (fun hc7 => ?_) (fun hc7 => ?_) | refine e_icmp_ge (q := 31) (p' := 10) D_Parts_membersOf_7 rfl rfl (fun hc7 => ?_) (fun hc7 => ?_)
      ·
        refine e_iload_2 (p' := 32) D_Parts_membersOf_31 rfl ?_
        refine e_ireturn (ty := .int) D_Parts_membersOf_32 rfl (by first | rfl | exact sBo_nar _) ⟨by decide, by decide⟩ ?_
        exact ⟨by first | rfl | (simp; done) | (simp [*]; done), by first | rfl | (simp; done)⟩
      ·
        exfalso; omega
    · intro i hi ih4 
      refine e_iload_3 (p' := 5) D_Parts_membersOf_4 rfl ?_
      refine e_bipush (v := nI 6) (p' := 7) D_Parts_membersOf_5 cst_bipush_6 rfl ?_
      first | refine e_icmpN_ge (q := 31) (p' := 10) D_Parts_membersOf_7 (by omega) (by omega) rfl rfl (fun hc7 => ?_) (fun hc7 => ?_) | refine e_icmp_ge (q := 31) (p' := 10) D_Parts_membersOf_7 rfl rfl (fun hc7 => ?_) (fun hc7 => ?_)
      ·
        exfalso; omega
      ·
        refine e_aload_0 (p' := 11) D_Parts_membersOf_10 rfl ?_
        refine e_iload_3 (p' := 12) D_Parts_membersOf_11 rfl ?_
        refine x_callV1 (p' := 15) D_Parts_membersOf_12 V_Parts_42 (c_Num_get hn hb (by omega) (by omega)) rfl (by first | assumption | exact sUp_eq | (rw [sUp_ne (by omega)]; assumption) | (rw [sUp_ne (by omega), sUp_ne (by omega)]; assumption) | (rw [sUp_ne (by omega)]; exact sUp_eq) | (simp [sUp]; done)) rfl (Nat.le_of_ble_eq_true rfl) (by decide) ⟨by decide, by decide⟩ rfl ?_
        refine e_iload_1 (p' := 16) D_Parts_membersOf_15 rfl ?_
        refine e_icmp_ne (q := 25) (p' := 19) D_Parts_membersOf_16 rfl rfl (fun hc16 => ?_) (fun hc16 => ?_)
        ·
          first | refine e_iincN_3 (n := 1) (p' := 28) D_Parts_membersOf_25 (Nat.le_of_ble_eq_true rfl) rfl rfl ?_ | refine e_iinc_3 (p' := 28) D_Parts_membersOf_25 (Nat.le_of_ble_eq_true rfl) rfl rfl rfl ?_
          refine e_goto (p' := 4) D_Parts_membersOf_28 rfl ?_
          refine sEv.castW (ih4) ?_ ?_ ?_
          · first | exact lvW_rfl _ | (rw [mk_skip (decide_eq_false hc16)]; exact lvW_rfl _)
          · rfl
          · first | rfl | (simp; done)
        ·
          refine e_iload_2 (p' := 20) D_Parts_membersOf_19 rfl ?_
          refine e_iconst (v := nI 1) (p' := 21) D_Parts_membersOf_20 cst_iconst_1 rfl ?_
          refine e_iload_3 (p' := 22) D_Parts_membersOf_21 rfl ?_
          refine e_ishl (p' := 23) D_Parts_membersOf_22 rfl ?_
          refine e_ior (p' := 24) D_Parts_membersOf_23 rfl ?_
          rw [mk_or (p := fun k => decide (f k = p)) (by omega) (decide_eq_true hc16)]
          refine e_istore_2 (p' := 25) D_Parts_membersOf_24 (Nat.le_of_ble_eq_true rfl) rfl rfl ?_
          first | refine e_iincN_3 (n := 1) (p' := 28) D_Parts_membersOf_25 (Nat.le_of_ble_eq_true rfl) rfl rfl ?_ | refine e_iinc_3 (p' := 28) D_Parts_membersOf_25 (Nat.le_of_ble_eq_true rfl) rfl rfl rfl ?_
          refine e_goto (p' := 4) D_Parts_membersOf_28 rfl ?_
          refine sEv.castW (ih4) ?_ ?_ ?_
          · first | exact lvW_rfl _ | (rw [mk_skip (decide_eq_false hc16)]; exact lvW_rfl _)
          · rfl
          · first | rfl | (simp; done)
  refine sEv.castW (lk4 0 (by omega) ) ?_ ?_ ?_
  · first | exact lvW_rfl _ | (simp [lvW]; done) | (simp [lvW, *]; done) | (simp [lvW]; omega)
  · rfl
  · first | rfl | (simp; done)
set_option maxRecDepth 4000 in
theorem c_Parts_rowsOf {l : Launch} {h : sH} {s : Ps} {sz : Nat} {con : Bool} (hP : PtAt h s sz con) (hb : ∀ k, s.1.1 k < 100 ∧ s.1.2 k < 100) {q : Nat} (hq : q < 100) : sX l m_Parts_rowsOf 2 [.ref 7, .int (pI q)] h (some (.int (nI (mRows s q)))) (h) := by
  have hP0 := hP
  obtain ⟨f1, f2, f3, f4, C, V⟩ := hP
  obtain ⟨c1, ⟨c2, c3⟩, ⟨c4, c5⟩, ⟨c6, c7⟩, ⟨c8, c9⟩⟩ := C
  refine en_Parts_rowsOf ?_
  refine e_aload_0 (p' := 1) D_Parts_rowsOf_0 rfl ?_
  refine e_getfield (p' := 4) D_Parts_rowsOf_1 F_Parts_14 (by first | assumption | exact sUp_eq | (rw [sUp_ne (by omega)]; assumption) | (rw [sUp_ne (by omega), sUp_ne (by omega)]; assumption) | (rw [sUp_ne (by omega)]; exact sUp_eq) | (simp [sUp]; done)) (by rfl) rfl ?_
  refine e_iload_1 (p' := 5) D_Parts_rowsOf_4 rfl ?_
  refine x_callS1 (p' := 8) D_Parts_rowsOf_5 S_Parts_86 (c_Parts_membersOf c2 c3) rfl rfl (Nat.le_of_ble_eq_true rfl) (by decide) ⟨by decide, by decide⟩ rfl ?_
  refine e_ireturn (ty := .int) D_Parts_rowsOf_8 rfl (by first | rfl | exact sBo_nar _) ⟨by decide, by decide⟩ ?_
  refine ⟨?_, rfl⟩
  unfold mRows
  rw [mk_congr (q := fun k => decide (s.1.1 k = q)) (fun k hk => ?_)]
  have := hb k
  rw [(V k hk).1.1]
  exact decide_eq_decide.mpr (pI_eq (by omega) (by omega))
set_option maxRecDepth 4000 in
theorem c_Parts_columnsOf {l : Launch} {h : sH} {s : Ps} {sz : Nat} {con : Bool} (hP : PtAt h s sz con) (hb : ∀ k, s.1.1 k < 100 ∧ s.1.2 k < 100) {q : Nat} (hq : q < 100) : sX l m_Parts_columnsOf 2 [.ref 7, .int (pI q)] h (some (.int (nI (mCols s q)))) (h) := by
  have hP0 := hP
  obtain ⟨f1, f2, f3, f4, C, V⟩ := hP
  obtain ⟨c1, ⟨c2, c3⟩, ⟨c4, c5⟩, ⟨c6, c7⟩, ⟨c8, c9⟩⟩ := C
  refine en_Parts_columnsOf ?_
  refine e_aload_0 (p' := 1) D_Parts_columnsOf_0 rfl ?_
  refine e_getfield (p' := 4) D_Parts_columnsOf_1 F_Parts_20 (by first | assumption | exact sUp_eq | (rw [sUp_ne (by omega)]; assumption) | (rw [sUp_ne (by omega), sUp_ne (by omega)]; assumption) | (rw [sUp_ne (by omega)]; exact sUp_eq) | (simp [sUp]; done)) (by rfl) rfl ?_
  refine e_iload_1 (p' := 5) D_Parts_columnsOf_4 rfl ?_
  refine x_callS1 (p' := 8) D_Parts_columnsOf_5 S_Parts_86 (c_Parts_membersOf c4 c5) rfl rfl (Nat.le_of_ble_eq_true rfl) (by decide) ⟨by decide, by decide⟩ rfl ?_
  refine e_ireturn (ty := .int) D_Parts_columnsOf_8 rfl (by first | rfl | exact sBo_nar _) ⟨by decide, by decide⟩ ?_
  refine ⟨?_, rfl⟩
  unfold mCols
  rw [mk_congr (q := fun k => decide (s.1.2 k = q)) (fun k hk => ?_)]
  have := hb k
  rw [(V k hk).1.2]
  exact decide_eq_decide.mpr (pI_eq (by omega) (by omega))
set_option maxRecDepth 4000 in
theorem c_Parts_toldIn {l : Launch} {h : sH} {g : Nat} {x : Gd} (hG : GridAt h g x) (hx : Gok x) (hg : g + 2 < 7 ∨ 16 ≤ g) {s : Ps} {sz : Nat} {con : Bool} (hP : PtAt h s sz con) (hv : Pv x s) {q : Nat} (hq : q < 100) : sX l m_Parts_toldIn 3 [.ref 7, .ref g, .int (pI q)] h (some (.int (nI (sm x.1.1 (fun r => if s.1.1 r = q then ct 6 (td x r) else 0))))) (h) := by
  have hR := hx.1
  have hG0 := hG
  obtain ⟨g0, g1, g2⟩ := hG
  have hP0 := hP
  obtain ⟨f1, f2, f3, f4, C, V⟩ := hP
  obtain ⟨c1, ⟨c2, c3⟩, ⟨c4, c5⟩, ⟨c6, c7⟩, ⟨c8, c9⟩⟩ := C
  refine en_Parts_toldIn ?_
  refine e_iconst (v := nI 0) (p' := 1) D_Parts_toldIn_0 cst_iconst_0 rfl ?_
  refine e_istore_3 (p' := 2) D_Parts_toldIn_1 (Nat.le_of_ble_eq_true rfl) rfl rfl ?_
  refine e_iconst (v := nI 0) (p' := 3) D_Parts_toldIn_2 cst_iconst_0 rfl ?_
  refine e_istore_4 (p' := 5) D_Parts_toldIn_3 (Nat.le_of_ble_eq_true rfl) rfl rfl ?_
  have lk5 : ∀ i : Nat, i ≤ x.1.1 → sEv l m_Parts_toldIn 3 (0, 0, 0, 0) (sKm 0 0 (fun r1 h1 => r1 = some (.int (nI (sm x.1.1 (fun r => if s.1.1 r = q then ct 6 (td x r) else 0)))) ∧ h1 = h)) 5 [some (.ref 7), some (.ref g), some (.int (pI q)), some (.int (nI (sm i (fun r => if s.1.1 r = q then ct 6 (td x r) else 0)))), some (.int (nI i))] [] (h) := by
    refine lp_up _ ?_ ?_
    · skip
      refine e_iload_4 (p' := 7) D_Parts_toldIn_5 rfl ?_
      refine e_aload_1 (p' := 8) D_Parts_toldIn_7 rfl ?_
      refine x_callV1 (p' := 11) D_Parts_toldIn_8 V_Parts_36 (c_Grid_rows hG0) rfl (by first | assumption | exact sUp_eq | (rw [sUp_ne (by omega)]; assumption) | (rw [sUp_ne (by omega), sUp_ne (by omega)]; assumption) | (rw [sUp_ne (by omega)]; exact sUp_eq) | (simp [sUp]; done)) rfl (Nat.le_of_ble_eq_true rfl) (by decide) ⟨by decide, by decide⟩ rfl ?_
      first | refine e_icmpN_ge (q := 45) (p' := 14) D_Parts_toldIn_11 (by omega) (by omega) rfl rfl (fun hc11 => ?_) (fun hc11 => ?_) | refine e_icmp_ge (q := 45) (p' := 14) D_Parts_toldIn_11 rfl rfl (fun hc11 => ?_) (fun hc11 => ?_)
      ·
        refine e_iload_3 (p' := 46) D_Parts_toldIn_45 rfl ?_
        refine e_ireturn (ty := .int) D_Parts_toldIn_46 rfl (by first | rfl | exact sBo_nar _) ⟨by decide, by decide⟩ ?_
        exact ⟨by first | rfl | (simp; done) | (simp [*]; done), by first | rfl | (simp; done)⟩
      ·
        exfalso; omega
    · intro i hi ih5 
      refine e_iload_4 (p' := 7) D_Parts_toldIn_5 rfl ?_
      refine e_aload_1 (p' := 8) D_Parts_toldIn_7 rfl ?_
      refine x_callV1 (p' := 11) D_Parts_toldIn_8 V_Parts_36 (c_Grid_rows hG0) rfl (by first | assumption | exact sUp_eq | (rw [sUp_ne (by omega)]; assumption) | (rw [sUp_ne (by omega), sUp_ne (by omega)]; assumption) | (rw [sUp_ne (by omega)]; exact sUp_eq) | (simp [sUp]; done)) rfl (Nat.le_of_ble_eq_true rfl) (by decide) ⟨by decide, by decide⟩ rfl ?_
      first | refine e_icmpN_ge (q := 45) (p' := 14) D_Parts_toldIn_11 (by omega) (by omega) rfl rfl (fun hc11 => ?_) (fun hc11 => ?_) | refine e_icmp_ge (q := 45) (p' := 14) D_Parts_toldIn_11 rfl rfl (fun hc11 => ?_) (fun hc11 => ?_)
      ·
        exfalso; omega
      ·
        refine e_aload_0 (p' := 15) D_Parts_toldIn_14 rfl ?_
        refine e_getfield (p' := 18) D_Parts_toldIn_15 F_Parts_14 (by first | assumption | exact sUp_eq | (rw [sUp_ne (by omega)]; assumption) | (rw [sUp_ne (by omega), sUp_ne (by omega)]; assumption) | (rw [sUp_ne (by omega)]; exact sUp_eq) | (simp [sUp]; done)) (by rfl) rfl ?_
        refine e_iload_4 (p' := 20) D_Parts_toldIn_18 rfl ?_
        refine x_callV1 (p' := 23) D_Parts_toldIn_20 V_Parts_42 (c_Num_get c2 c3 (by omega) (by omega)) rfl (by first | assumption | exact sUp_eq | (rw [sUp_ne (by omega)]; assumption) | (rw [sUp_ne (by omega), sUp_ne (by omega)]; assumption) | (rw [sUp_ne (by omega)]; exact sUp_eq) | (simp [sUp]; done)) rfl (Nat.le_of_ble_eq_true rfl) (by decide) ⟨by decide, by decide⟩ rfl ?_
        refine e_iload_2 (p' := 24) D_Parts_toldIn_23 rfl ?_
        have hbi := (hv.2 i).1
        rw [(V i (by omega)).1.1]
        refine e_icmp_ne (q := 39) (p' := 27) D_Parts_toldIn_24 rfl rfl (fun hc24 => ?_) (fun hc24 => ?_)
        ·
          first | refine e_iincN_4 (n := 1) (p' := 42) D_Parts_toldIn_39 (Nat.le_of_ble_eq_true rfl) rfl rfl ?_ | refine e_iinc_4 (p' := 42) D_Parts_toldIn_39 (Nat.le_of_ble_eq_true rfl) rfl rfl rfl ?_
          refine e_goto (p' := 5) D_Parts_toldIn_42 rfl ?_
          refine sEv.castW (ih5) ?_ ?_ ?_
          · rw [pI_eq (by omega) (by omega)] at hc24
            rw [sm_succ, if_neg hc24]; exact lvW_rfl _
          · rfl
          · first | rfl | (simp; done)
        ·
          refine e_iload_3 (p' := 28) D_Parts_toldIn_27 rfl ?_
          refine e_aload_1 (p' := 29) D_Parts_toldIn_28 rfl ?_
          refine e_iload_4 (p' := 31) D_Parts_toldIn_29 rfl ?_
          refine x_callV1 (p' := 34) D_Parts_toldIn_31 V_Parts_90 (c_Grid_toldInRow hG0 hx (by omega)) rfl (by first | assumption | exact sUp_eq | (rw [sUp_ne (by omega)]; assumption) | (rw [sUp_ne (by omega), sUp_ne (by omega)]; assumption) | (rw [sUp_ne (by omega)]; exact sUp_eq) | (simp [sUp]; done)) rfl (Nat.le_of_ble_eq_true rfl) (by decide) ⟨by decide, by decide⟩ rfl ?_
          refine x_callS1 (p' := 37) D_Parts_toldIn_34 S_Parts_93 (c_Int_bitCount gMask_lt) rfl rfl (Nat.le_of_ble_eq_true rfl) (by decide) ⟨by decide, by decide⟩ rfl ?_
          rw [show pc6 (gMask x i) = ct 6 (td x i) from pc6_mk]
          first | refine e_iaddN (p' := 38) D_Parts_toldIn_37 rfl ?_ | refine e_iadd (p' := 38) D_Parts_toldIn_37 rfl ?_
          refine e_istore_3 (p' := 39) D_Parts_toldIn_38 (Nat.le_of_ble_eq_true rfl) rfl rfl ?_
          first | refine e_iincN_4 (n := 1) (p' := 42) D_Parts_toldIn_39 (Nat.le_of_ble_eq_true rfl) rfl rfl ?_ | refine e_iinc_4 (p' := 42) D_Parts_toldIn_39 (Nat.le_of_ble_eq_true rfl) rfl rfl rfl ?_
          refine e_goto (p' := 5) D_Parts_toldIn_42 rfl ?_
          refine sEv.castW (ih5) ?_ ?_ ?_
          · rw [pI_eq (by omega) (by omega)] at hc24
            rw [sm_succ, if_pos hc24]; exact lvW_rfl _
          · rfl
          · first | rfl | (simp; done)
  refine sEv.castW (lk5 0 (by omega) ) ?_ ?_ ?_
  · first | exact lvW_rfl _ | (simp [lvW]; done) | (simp [lvW, *]; done) | (simp [lvW]; omega)
  · rfl
  · first | rfl | (simp; done)
set_option maxRecDepth 4000 in
theorem c_Parts_joinedEntries {l : Launch} {h : sH} {s : Ps} {sz : Nat} {con : Bool} (hP : PtAt h s sz con) (hb : ∀ k, s.1.1 k < 100 ∧ s.1.2 k < 100) (hs : sz < 99) : sX l m_Parts_joinedEntries 3 [.ref 7] h (some (.int (nI (sm sz (fun p => pRows s (p + 1) * pCols s (p + 1)))))) (h) := by
  have hP0 := hP
  obtain ⟨f1, f2, f3, f4, C, V⟩ := hP
  obtain ⟨c1, ⟨c2, c3⟩, ⟨c4, c5⟩, ⟨c6, c7⟩, ⟨c8, c9⟩⟩ := C
  refine en_Parts_joinedEntries ?_
  refine e_iconst (v := nI 0) (p' := 1) D_Parts_joinedEntries_0 cst_iconst_0 rfl ?_
  refine e_istore_1 (p' := 2) D_Parts_joinedEntries_1 (Nat.le_of_ble_eq_true rfl) rfl rfl ?_
  refine e_iconst (v := nI 0) (p' := 3) D_Parts_joinedEntries_2 cst_iconst_0 rfl ?_
  refine e_istore_2 (p' := 4) D_Parts_joinedEntries_3 (Nat.le_of_ble_eq_true rfl) rfl rfl ?_
  have lk4 : ∀ p : Nat, p ≤ sz → sEv l m_Parts_joinedEntries 3 (0, 0, 0, 0) (sKm 0 0 (fun r1 h1 => r1 = some (.int (nI (sm sz (fun p => pRows s (p + 1) * pCols s (p + 1))))) ∧ h1 = h)) 4 [some (.ref 7), some (.int (nI (sm p (fun p => pRows s (p + 1) * pCols s (p + 1))))), some (.int (nI p))] [] (h) := by
    refine lp_up _ ?_ ?_
    · skip
      refine e_iload_2 (p' := 5) D_Parts_joinedEntries_4 rfl ?_
      refine e_aload_0 (p' := 6) D_Parts_joinedEntries_5 rfl ?_
      refine e_getfield (p' := 9) D_Parts_joinedEntries_6 F_Parts_29 (by first | assumption | exact sUp_eq | (rw [sUp_ne (by omega)]; assumption) | (rw [sUp_ne (by omega), sUp_ne (by omega)]; assumption) | (rw [sUp_ne (by omega)]; exact sUp_eq) | (simp [sUp]; done)) (by rfl) rfl ?_
      first | refine e_icmpN_ge (q := 38) (p' := 12) D_Parts_joinedEntries_9 (by omega) (by omega) rfl rfl (fun hc9 => ?_) (fun hc9 => ?_) | refine e_icmp_ge (q := 38) (p' := 12) D_Parts_joinedEntries_9 rfl rfl (fun hc9 => ?_) (fun hc9 => ?_)
      ·
        refine e_iload_1 (p' := 39) D_Parts_joinedEntries_38 rfl ?_
        refine e_ireturn (ty := .int) D_Parts_joinedEntries_39 rfl (by first | rfl | exact sBo_nar _) ⟨by decide, by decide⟩ ?_
        exact ⟨by first | rfl | (simp; done) | (simp [*]; done), by first | rfl | (simp; done)⟩
      ·
        exfalso; omega
    · intro p hp ih4 
      refine e_iload_2 (p' := 5) D_Parts_joinedEntries_4 rfl ?_
      refine e_aload_0 (p' := 6) D_Parts_joinedEntries_5 rfl ?_
      refine e_getfield (p' := 9) D_Parts_joinedEntries_6 F_Parts_29 (by first | assumption | exact sUp_eq | (rw [sUp_ne (by omega)]; assumption) | (rw [sUp_ne (by omega), sUp_ne (by omega)]; assumption) | (rw [sUp_ne (by omega)]; exact sUp_eq) | (simp [sUp]; done)) (by rfl) rfl ?_
      first | refine e_icmpN_ge (q := 38) (p' := 12) D_Parts_joinedEntries_9 (by omega) (by omega) rfl rfl (fun hc9 => ?_) (fun hc9 => ?_) | refine e_icmp_ge (q := 38) (p' := 12) D_Parts_joinedEntries_9 rfl rfl (fun hc9 => ?_) (fun hc9 => ?_)
      ·
        exfalso; omega
      ·
        refine e_iload_1 (p' := 13) D_Parts_joinedEntries_12 rfl ?_
        refine e_aload_0 (p' := 14) D_Parts_joinedEntries_13 rfl ?_
        refine e_iload_2 (p' := 15) D_Parts_joinedEntries_14 rfl ?_
        rw [pI_N]
        refine x_callV1 (p' := 18) D_Parts_joinedEntries_15 V_Parts_98 (c_Parts_rowsOf hP0 hb (q := p + 1) (by omega)) rfl (by first | assumption | exact sUp_eq | (rw [sUp_ne (by omega)]; assumption) | (rw [sUp_ne (by omega), sUp_ne (by omega)]; assumption) | (rw [sUp_ne (by omega)]; exact sUp_eq) | (simp [sUp]; done)) rfl (Nat.le_of_ble_eq_true rfl) (by decide) ⟨by decide, by decide⟩ rfl ?_
        refine x_callS1 (p' := 21) D_Parts_joinedEntries_18 S_Parts_93 (c_Int_bitCount mk_lt) rfl rfl (Nat.le_of_ble_eq_true rfl) (by decide) ⟨by decide, by decide⟩ rfl ?_
        rw [pc6_rows]
        refine e_aload_0 (p' := 22) D_Parts_joinedEntries_21 rfl ?_
        refine e_iload_2 (p' := 23) D_Parts_joinedEntries_22 rfl ?_
        rw [pI_N]
        refine x_callV1 (p' := 26) D_Parts_joinedEntries_23 V_Parts_101 (c_Parts_columnsOf hP0 hb (q := p + 1) (by omega)) rfl (by first | assumption | exact sUp_eq | (rw [sUp_ne (by omega)]; assumption) | (rw [sUp_ne (by omega), sUp_ne (by omega)]; assumption) | (rw [sUp_ne (by omega)]; exact sUp_eq) | (simp [sUp]; done)) rfl (Nat.le_of_ble_eq_true rfl) (by decide) ⟨by decide, by decide⟩ rfl ?_
        refine x_callS1 (p' := 29) D_Parts_joinedEntries_26 S_Parts_93 (c_Int_bitCount mk_lt) rfl rfl (Nat.le_of_ble_eq_true rfl) (by decide) ⟨by decide, by decide⟩ rfl ?_
        rw [pc6_cols]
        first | refine e_imulN (p' := 30) D_Parts_joinedEntries_29 rfl ?_ | refine e_imul (p' := 30) D_Parts_joinedEntries_29 rfl ?_
        first | refine e_iaddN (p' := 31) D_Parts_joinedEntries_30 rfl ?_ | refine e_iadd (p' := 31) D_Parts_joinedEntries_30 rfl ?_
        refine e_istore_1 (p' := 32) D_Parts_joinedEntries_31 (Nat.le_of_ble_eq_true rfl) rfl rfl ?_
        first | refine e_iincN_2 (n := 1) (p' := 35) D_Parts_joinedEntries_32 (Nat.le_of_ble_eq_true rfl) rfl rfl ?_ | refine e_iinc_2 (p' := 35) D_Parts_joinedEntries_32 (Nat.le_of_ble_eq_true rfl) rfl rfl rfl ?_
        refine e_goto (p' := 4) D_Parts_joinedEntries_35 rfl ?_
        refine sEv.castW (ih4) ?_ ?_ ?_
        · first | exact lvW_rfl _ | (simp [lvW]; done) | (simp [lvW, *]; done) | (simp [lvW]; omega)
        · rfl
        · first | rfl | (simp; done)
  refine sEv.castW (lk4 0 (by omega) ) ?_ ?_ ?_
  · first | exact lvW_rfl _ | (simp [lvW]; done) | (simp [lvW, *]; done) | (simp [lvW]; omega)
  · rfl
  · first | rfl | (simp; done)
set_option maxRecDepth 4000 in
theorem c_Parts_gain {l : Launch} {h : sH} {s : Ps} {sz : Nat} {con : Bool} (hP : PtAt h s sz con) (hb : ∀ k, s.1.1 k < 100 ∧ s.1.2 k < 100) {r c : Nat} (hr : r < 6) (hc : c < 6) : sX l m_Parts_gain 3 [.ref 7, .int (nI r), .int (nI c)] h (some (.int (nI (gn s r c)))) (h) := by
  have hP0 := hP
  obtain ⟨f1, f2, f3, f4, C, V⟩ := hP
  obtain ⟨c1, ⟨c2, c3⟩, ⟨c4, c5⟩, ⟨c6, c7⟩, ⟨c8, c9⟩⟩ := C
  have b1 := (hb r).1
  have b2 := (hb c).2
  obtain ⟨⟨w1, -⟩, -, -⟩ := V r hr
  obtain ⟨⟨-, w2⟩, -, -⟩ := V c hc
  refine en_Parts_gain ?_
  refine e_aload_0 (p' := 1) D_Parts_gain_0 rfl ?_
  refine e_iload_1 (p' := 2) D_Parts_gain_1 rfl ?_
  refine e_iload_2 (p' := 3) D_Parts_gain_2 rfl ?_
  refine x_callV1 (p' := 6) D_Parts_gain_3 V_Parts_82 (c_Parts_areJoined hP0 hb hr hc) rfl (by first | assumption | exact sUp_eq | (rw [sUp_ne (by omega)]; assumption) | (rw [sUp_ne (by omega), sUp_ne (by omega)]; assumption) | (rw [sUp_ne (by omega)]; exact sUp_eq) | (simp [sUp]; done)) rfl (Nat.le_of_ble_eq_true rfl) (by decide) ⟨by decide, by decide⟩ rfl ?_
  refine e_ifB_eq (q := 11) (p' := 9) D_Parts_gain_6 rfl rfl (fun hc6 => ?_) (fun hc6 => ?_)
  ·
    refine e_aload_0 (p' := 12) D_Parts_gain_11 rfl ?_
    refine e_getfield (p' := 15) D_Parts_gain_12 F_Parts_14 (by first | assumption | exact sUp_eq | (rw [sUp_ne (by omega)]; assumption) | (rw [sUp_ne (by omega), sUp_ne (by omega)]; assumption) | (rw [sUp_ne (by omega)]; exact sUp_eq) | (simp [sUp]; done)) (by rfl) rfl ?_
    refine e_iload_1 (p' := 16) D_Parts_gain_15 rfl ?_
    refine x_callV1 (p' := 19) D_Parts_gain_16 V_Parts_42 (c_Num_get c2 c3 (by omega) (by omega)) rfl (by first | assumption | exact sUp_eq | (rw [sUp_ne (by omega)]; assumption) | (rw [sUp_ne (by omega), sUp_ne (by omega)]; assumption) | (rw [sUp_ne (by omega)]; exact sUp_eq) | (simp [sUp]; done)) rfl (Nat.le_of_ble_eq_true rfl) (by decide) ⟨by decide, by decide⟩ rfl ?_
    rw [w1]
    refine e_istore_3 (p' := 20) D_Parts_gain_19 (Nat.le_of_ble_eq_true rfl) rfl rfl ?_
    refine e_aload_0 (p' := 21) D_Parts_gain_20 rfl ?_
    refine e_getfield (p' := 24) D_Parts_gain_21 F_Parts_20 (by first | assumption | exact sUp_eq | (rw [sUp_ne (by omega)]; assumption) | (rw [sUp_ne (by omega), sUp_ne (by omega)]; assumption) | (rw [sUp_ne (by omega)]; exact sUp_eq) | (simp [sUp]; done)) (by rfl) rfl ?_
    refine e_iload_2 (p' := 25) D_Parts_gain_24 rfl ?_
    refine x_callV1 (p' := 28) D_Parts_gain_25 V_Parts_42 (c_Num_get c4 c5 (by omega) (by omega)) rfl (by first | assumption | exact sUp_eq | (rw [sUp_ne (by omega)]; assumption) | (rw [sUp_ne (by omega), sUp_ne (by omega)]; assumption) | (rw [sUp_ne (by omega)]; exact sUp_eq) | (simp [sUp]; done)) rfl (Nat.le_of_ble_eq_true rfl) (by decide) ⟨by decide, by decide⟩ rfl ?_
    rw [w2]
    refine e_istore_4 (p' := 30) D_Parts_gain_28 (Nat.le_of_ble_eq_true rfl) rfl rfl ?_
    refine e_aload_0 (p' := 31) D_Parts_gain_30 rfl ?_
    refine e_iload_3 (p' := 32) D_Parts_gain_31 rfl ?_
    refine x_callV1 (p' := 35) D_Parts_gain_32 V_Parts_98 (c_Parts_rowsOf hP0 hb (by omega)) rfl (by first | assumption | exact sUp_eq | (rw [sUp_ne (by omega)]; assumption) | (rw [sUp_ne (by omega), sUp_ne (by omega)]; assumption) | (rw [sUp_ne (by omega)]; exact sUp_eq) | (simp [sUp]; done)) rfl (Nat.le_of_ble_eq_true rfl) (by decide) ⟨by decide, by decide⟩ rfl ?_
    refine x_callS1 (p' := 38) D_Parts_gain_35 S_Parts_93 (c_Int_bitCount mk_lt) rfl rfl (Nat.le_of_ble_eq_true rfl) (by decide) ⟨by decide, by decide⟩ rfl ?_
    rw [pc6_rows]
    refine e_aload_0 (p' := 39) D_Parts_gain_38 rfl ?_
    refine e_iload_4 (p' := 41) D_Parts_gain_39 rfl ?_
    refine x_callV1 (p' := 44) D_Parts_gain_41 V_Parts_101 (c_Parts_columnsOf hP0 hb (by omega)) rfl (by first | assumption | exact sUp_eq | (rw [sUp_ne (by omega)]; assumption) | (rw [sUp_ne (by omega), sUp_ne (by omega)]; assumption) | (rw [sUp_ne (by omega)]; exact sUp_eq) | (simp [sUp]; done)) rfl (Nat.le_of_ble_eq_true rfl) (by decide) ⟨by decide, by decide⟩ rfl ?_
    refine x_callS1 (p' := 47) D_Parts_gain_44 S_Parts_93 (c_Int_bitCount mk_lt) rfl rfl (Nat.le_of_ble_eq_true rfl) (by decide) ⟨by decide, by decide⟩ rfl ?_
    rw [pc6_cols]
    first | refine e_imulN (p' := 48) D_Parts_gain_47 rfl ?_ | refine e_imul (p' := 48) D_Parts_gain_47 rfl ?_
    refine e_aload_0 (p' := 49) D_Parts_gain_48 rfl ?_
    refine e_iload_4 (p' := 51) D_Parts_gain_49 rfl ?_
    refine x_callV1 (p' := 54) D_Parts_gain_51 V_Parts_98 (c_Parts_rowsOf hP0 hb (by omega)) rfl (by first | assumption | exact sUp_eq | (rw [sUp_ne (by omega)]; assumption) | (rw [sUp_ne (by omega), sUp_ne (by omega)]; assumption) | (rw [sUp_ne (by omega)]; exact sUp_eq) | (simp [sUp]; done)) rfl (Nat.le_of_ble_eq_true rfl) (by decide) ⟨by decide, by decide⟩ rfl ?_
    refine x_callS1 (p' := 57) D_Parts_gain_54 S_Parts_93 (c_Int_bitCount mk_lt) rfl rfl (Nat.le_of_ble_eq_true rfl) (by decide) ⟨by decide, by decide⟩ rfl ?_
    rw [pc6_rows]
    refine e_aload_0 (p' := 58) D_Parts_gain_57 rfl ?_
    refine e_iload_3 (p' := 59) D_Parts_gain_58 rfl ?_
    refine x_callV1 (p' := 62) D_Parts_gain_59 V_Parts_101 (c_Parts_columnsOf hP0 hb (by omega)) rfl (by first | assumption | exact sUp_eq | (rw [sUp_ne (by omega)]; assumption) | (rw [sUp_ne (by omega), sUp_ne (by omega)]; assumption) | (rw [sUp_ne (by omega)]; exact sUp_eq) | (simp [sUp]; done)) rfl (Nat.le_of_ble_eq_true rfl) (by decide) ⟨by decide, by decide⟩ rfl ?_
    refine x_callS1 (p' := 65) D_Parts_gain_62 S_Parts_93 (c_Int_bitCount mk_lt) rfl rfl (Nat.le_of_ble_eq_true rfl) (by decide) ⟨by decide, by decide⟩ rfl ?_
    rw [pc6_cols]
    first | refine e_imulN (p' := 66) D_Parts_gain_65 rfl ?_ | refine e_imul (p' := 66) D_Parts_gain_65 rfl ?_
    first | refine e_iaddN (p' := 67) D_Parts_gain_66 rfl ?_ | refine e_iadd (p' := 67) D_Parts_gain_66 rfl ?_
    refine e_ireturn (ty := .int) D_Parts_gain_67 rfl (by first | rfl | exact sBo_nar _) ⟨by decide, by decide⟩ ?_
    unfold gn; rw [if_neg (of_decide_eq_false hc6)]; exact ⟨rfl, rfl⟩
  ·
    refine e_iconst (v := nI 0) (p' := 10) D_Parts_gain_9 cst_iconst_0 rfl ?_
    refine e_ireturn (ty := .int) D_Parts_gain_10 rfl (by first | rfl | exact sBo_nar _) ⟨by decide, by decide⟩ ?_
    unfold gn; rw [if_pos (of_decide_eq_true hc6)]; exact ⟨rfl, rfl⟩
set_option maxRecDepth 4000 in
theorem c_Min_isMinor {l : Launch} {h : sH} {g : Nat} {x : Gd} (hG : GridAt h g x) (hx : Gok x) {r s c d : Nat} (hr : r < 6) (hs : s < 6) (hc : c < 6) (hd : d < 6) : sX l m_Min_isMinor 2 [.ref g, .int (nI r), .int (nI s), .int (nI c), .int (nI d)] h (some (.int (sBo (mnr x r s c d)))) (h) := by
  have hR := hx.1
  have hC := hx.2.1
  have hM := hx.2.2.1.le
  have hG0 := hG
  obtain ⟨g0, g1, g2⟩ := hG
  have s1 := hx.small r c
  have s2 := hx.small r d
  have s3 := hx.small s c
  have s4 := hx.small s d
  refine en_Min_isMinor ?_
  have jn42 : mnr x r s c d = false → sEv l m_Min_isMinor 2 (0, 0, 0, 0) (sKm 0 0 (fun r1 h1 => r1 = some (.int (sBo (mnr x r s c d))) ∧ h1 = h)) 42 [none, none, none, none, none] [] h := by
    intro hf
    refine e_iconst (v := nI 0) (p' := 43) D_Min_isMinor_42 cst_iconst_0 rfl ?_
    refine e_ireturn (ty := .boolean) D_Min_isMinor_43 rfl (by first | rfl | exact sBo_nar _) ⟨by decide, by decide⟩ ?_
    rw [hf]; exact ⟨rfl, rfl⟩
  refine e_aload_0 (p' := 1) D_Min_isMinor_0 rfl ?_
  refine e_iload_1 (p' := 2) D_Min_isMinor_1 rfl ?_
  refine e_iload_3 (p' := 3) D_Min_isMinor_2 rfl ?_
  refine x_callV1 (p' := 6) D_Min_isMinor_3 V_Min_40 (c_Grid_number hG0 hx hr hc) rfl (by first | assumption | exact sUp_eq | (rw [sUp_ne (by omega)]; assumption) | (rw [sUp_ne (by omega), sUp_ne (by omega)]; assumption) | (rw [sUp_ne (by omega)]; exact sUp_eq) | (simp [sUp]; done)) rfl (Nat.le_of_ble_eq_true rfl) (by decide) ⟨by decide, by decide⟩ rfl ?_
  refine e_ifN_eq (q := 42) (p' := 9) D_Min_isMinor_6 (by omega) rfl rfl (fun hc6 => ?_) (fun hc6 => ?_)
  ·
    refine sEv.castW (jn42 (by unfold mnr; simp [td_false hc6])) ?_ ?_ ?_
    · first | exact lvW_rfl _ | (simp [lvW]; done) | (simp [lvW, *]; done) | (simp [lvW]; omega)
    · rfl
    · first | rfl | (simp; done)
  ·
    refine e_aload_0 (p' := 10) D_Min_isMinor_9 rfl ?_
    refine e_iload_1 (p' := 11) D_Min_isMinor_10 rfl ?_
    refine e_iload_4 (p' := 13) D_Min_isMinor_11 rfl ?_
    refine x_callV1 (p' := 16) D_Min_isMinor_13 V_Min_40 (c_Grid_number hG0 hx hr hd) rfl (by first | assumption | exact sUp_eq | (rw [sUp_ne (by omega)]; assumption) | (rw [sUp_ne (by omega), sUp_ne (by omega)]; assumption) | (rw [sUp_ne (by omega)]; exact sUp_eq) | (simp [sUp]; done)) rfl (Nat.le_of_ble_eq_true rfl) (by decide) ⟨by decide, by decide⟩ rfl ?_
    refine e_ifN_eq (q := 42) (p' := 19) D_Min_isMinor_16 (by omega) rfl rfl (fun hc16 => ?_) (fun hc16 => ?_)
    ·
      refine sEv.castW (jn42 (by unfold mnr; simp [td_false hc16])) ?_ ?_ ?_
      · first | exact lvW_rfl _ | (simp [lvW]; done) | (simp [lvW, *]; done) | (simp [lvW]; omega)
      · rfl
      · first | rfl | (simp; done)
    ·
      refine e_aload_0 (p' := 20) D_Min_isMinor_19 rfl ?_
      refine e_iload_2 (p' := 21) D_Min_isMinor_20 rfl ?_
      refine e_iload_3 (p' := 22) D_Min_isMinor_21 rfl ?_
      refine x_callV1 (p' := 25) D_Min_isMinor_22 V_Min_40 (c_Grid_number hG0 hx hs hc) rfl (by first | assumption | exact sUp_eq | (rw [sUp_ne (by omega)]; assumption) | (rw [sUp_ne (by omega), sUp_ne (by omega)]; assumption) | (rw [sUp_ne (by omega)]; exact sUp_eq) | (simp [sUp]; done)) rfl (Nat.le_of_ble_eq_true rfl) (by decide) ⟨by decide, by decide⟩ rfl ?_
      refine e_ifN_eq (q := 42) (p' := 28) D_Min_isMinor_25 (by omega) rfl rfl (fun hc25 => ?_) (fun hc25 => ?_)
      ·
        refine sEv.castW (jn42 (by unfold mnr; simp [td_false hc25])) ?_ ?_ ?_
        · first | exact lvW_rfl _ | (simp [lvW]; done) | (simp [lvW, *]; done) | (simp [lvW]; omega)
        · rfl
        · first | rfl | (simp; done)
      ·
        refine e_aload_0 (p' := 29) D_Min_isMinor_28 rfl ?_
        refine e_iload_2 (p' := 30) D_Min_isMinor_29 rfl ?_
        refine e_iload_4 (p' := 32) D_Min_isMinor_30 rfl ?_
        refine x_callV1 (p' := 35) D_Min_isMinor_32 V_Min_40 (c_Grid_number hG0 hx hs hd) rfl (by first | assumption | exact sUp_eq | (rw [sUp_ne (by omega)]; assumption) | (rw [sUp_ne (by omega), sUp_ne (by omega)]; assumption) | (rw [sUp_ne (by omega)]; exact sUp_eq) | (simp [sUp]; done)) rfl (Nat.le_of_ble_eq_true rfl) (by decide) ⟨by decide, by decide⟩ rfl ?_
        refine e_ifN_eq (q := 42) (p' := 38) D_Min_isMinor_35 (by omega) rfl rfl (fun hc35 => ?_) (fun hc35 => ?_)
        ·
          refine sEv.castW (jn42 (by unfold mnr; simp [td_false hc35])) ?_ ?_ ?_
          · first | exact lvW_rfl _ | (simp [lvW]; done) | (simp [lvW, *]; done) | (simp [lvW]; omega)
          · rfl
          · first | rfl | (simp; done)
        ·
          refine e_iconst (v := nI 1) (p' := 39) D_Min_isMinor_38 cst_iconst_1 rfl ?_
          refine e_goto (p' := 43) D_Min_isMinor_39 rfl ?_
          refine e_ireturn (ty := .boolean) D_Min_isMinor_43 rfl (by first | rfl | exact sBo_nar _) ⟨by decide, by decide⟩ ?_
          rw [show mnr x r s c d = true by unfold mnr; simp [td_true hc6, td_true hc16, td_true hc25, td_true hc35]]; exact ⟨rfl, rfl⟩
set_option maxRecDepth 4000 in
theorem c_Min_isZero {l : Launch} {h : sH} {g : Nat} {x : Gd} (hG : GridAt h g x) (hx : Gok x) {r s c d : Nat} (hr : r < 6) (hs : s < 6) (hc : c < 6) (hd : d < 6) : sX l m_Min_isZero 2 [.ref g, .int (nI r), .int (nI s), .int (nI c), .int (nI d)] h (some (.int (sBo (zr x r s c d)))) (h) := by
  have hR := hx.1
  have hC := hx.2.1
  have hM := hx.2.2.1.le
  have hG0 := hG
  obtain ⟨g0, g1, g2⟩ := hG
  have s1 := hx.small r c
  have s2 := hx.small r d
  have s3 := hx.small s c
  have s4 := hx.small s d
  have m1 := Nat.mod_lt (at' x r c * at' x s d) (y := x.1.2.2) (by omega)
  have m2 := Nat.mod_lt (at' x r d * at' x s c) (y := x.1.2.2) (by omega)
  refine en_Min_isZero ?_
  refine e_aload_0 (p' := 1) D_Min_isZero_0 rfl ?_
  refine e_aload_0 (p' := 2) D_Min_isZero_1 rfl ?_
  refine e_iload_1 (p' := 3) D_Min_isZero_2 rfl ?_
  refine e_iload_3 (p' := 4) D_Min_isZero_3 rfl ?_
  refine x_callV1 (p' := 7) D_Min_isZero_4 V_Min_40 (c_Grid_number hG0 hx hr hc) rfl (by first | assumption | exact sUp_eq | (rw [sUp_ne (by omega)]; assumption) | (rw [sUp_ne (by omega), sUp_ne (by omega)]; assumption) | (rw [sUp_ne (by omega)]; exact sUp_eq) | (simp [sUp]; done)) rfl (Nat.le_of_ble_eq_true rfl) (by decide) ⟨by decide, by decide⟩ rfl ?_
  refine e_aload_0 (p' := 8) D_Min_isZero_7 rfl ?_
  refine e_iload_2 (p' := 9) D_Min_isZero_8 rfl ?_
  refine e_iload_4 (p' := 11) D_Min_isZero_9 rfl ?_
  refine x_callV1 (p' := 14) D_Min_isZero_11 V_Min_40 (c_Grid_number hG0 hx hs hd) rfl (by first | assumption | exact sUp_eq | (rw [sUp_ne (by omega)]; assumption) | (rw [sUp_ne (by omega), sUp_ne (by omega)]; assumption) | (rw [sUp_ne (by omega)]; exact sUp_eq) | (simp [sUp]; done)) rfl (Nat.le_of_ble_eq_true rfl) (by decide) ⟨by decide, by decide⟩ rfl ?_
  refine x_callV1 (p' := 17) D_Min_isZero_14 V_Min_44 (c_Grid_product hG0 hx (by omega) (by omega)) rfl (by first | assumption | exact sUp_eq | (rw [sUp_ne (by omega)]; assumption) | (rw [sUp_ne (by omega), sUp_ne (by omega)]; assumption) | (rw [sUp_ne (by omega)]; exact sUp_eq) | (simp [sUp]; done)) rfl (Nat.le_of_ble_eq_true rfl) (by decide) ⟨by decide, by decide⟩ rfl ?_
  refine e_aload_0 (p' := 18) D_Min_isZero_17 rfl ?_
  refine e_aload_0 (p' := 19) D_Min_isZero_18 rfl ?_
  refine e_iload_1 (p' := 20) D_Min_isZero_19 rfl ?_
  refine e_iload_4 (p' := 22) D_Min_isZero_20 rfl ?_
  refine x_callV1 (p' := 25) D_Min_isZero_22 V_Min_40 (c_Grid_number hG0 hx hr hd) rfl (by first | assumption | exact sUp_eq | (rw [sUp_ne (by omega)]; assumption) | (rw [sUp_ne (by omega), sUp_ne (by omega)]; assumption) | (rw [sUp_ne (by omega)]; exact sUp_eq) | (simp [sUp]; done)) rfl (Nat.le_of_ble_eq_true rfl) (by decide) ⟨by decide, by decide⟩ rfl ?_
  refine e_aload_0 (p' := 26) D_Min_isZero_25 rfl ?_
  refine e_iload_2 (p' := 27) D_Min_isZero_26 rfl ?_
  refine e_iload_3 (p' := 28) D_Min_isZero_27 rfl ?_
  refine x_callV1 (p' := 31) D_Min_isZero_28 V_Min_40 (c_Grid_number hG0 hx hs hc) rfl (by first | assumption | exact sUp_eq | (rw [sUp_ne (by omega)]; assumption) | (rw [sUp_ne (by omega), sUp_ne (by omega)]; assumption) | (rw [sUp_ne (by omega)]; exact sUp_eq) | (simp [sUp]; done)) rfl (Nat.le_of_ble_eq_true rfl) (by decide) ⟨by decide, by decide⟩ rfl ?_
  refine x_callV1 (p' := 34) D_Min_isZero_31 V_Min_44 (c_Grid_product hG0 hx (by omega) (by omega)) rfl (by first | assumption | exact sUp_eq | (rw [sUp_ne (by omega)]; assumption) | (rw [sUp_ne (by omega), sUp_ne (by omega)]; assumption) | (rw [sUp_ne (by omega)]; exact sUp_eq) | (simp [sUp]; done)) rfl (Nat.le_of_ble_eq_true rfl) (by decide) ⟨by decide, by decide⟩ rfl ?_
  refine e_icmpN_ne (q := 41) (p' := 37) D_Min_isZero_34 (by omega) (by omega) rfl rfl (fun hc34 => ?_) (fun hc34 => ?_)
  ·
    refine e_iconst (v := nI 0) (p' := 42) D_Min_isZero_41 cst_iconst_0 rfl ?_
    refine e_ireturn (ty := .boolean) D_Min_isZero_42 rfl (by first | rfl | exact sBo_nar _) ⟨by decide, by decide⟩ ?_
    unfold zr; rw [decide_eq_false hc34]; exact ⟨rfl, rfl⟩
  ·
    refine e_iconst (v := nI 1) (p' := 38) D_Min_isZero_37 cst_iconst_1 rfl ?_
    refine e_goto (p' := 42) D_Min_isZero_38 rfl ?_
    refine e_ireturn (ty := .boolean) D_Min_isZero_42 rfl (by first | rfl | exact sBo_nar _) ⟨by decide, by decide⟩ ?_
    unfold zr; rw [decide_eq_true hc34]; exact ⟨rfl, rfl⟩
set_option maxRecDepth 4000 in
theorem c_Min_countBelow {l : Launch} {h : sH} {g : Nat} {x : Gd} (hG : GridAt h g x) (hx : Gok x) {a r c : Nat} {b : Bool} (hr : r < x.1.1) (hc : c < x.1.2.1) : sX l m_Min_countBelow 3 [.ref a, .ref g, .int (nI r), .int (nI c), .int (sBo b)] h (some (.int (nI (cb x b r c)))) (h) := by
  have hR := hx.1
  have hC := hx.2.1
  have hM := hx.2.2.1.le
  have hG0 := hG
  obtain ⟨g0, g1, g2⟩ := hG
  refine en_Min_countBelow ?_
  refine e_iconst (v := nI 0) (p' := 1) D_Min_countBelow_0 cst_iconst_0 rfl ?_
  refine e_istore_5 (p' := 3) D_Min_countBelow_1 (Nat.le_of_ble_eq_true rfl) rfl rfl ?_
  refine e_iload_2 (p' := 4) D_Min_countBelow_3 rfl ?_
  refine e_iconst (v := nI 1) (p' := 5) D_Min_countBelow_4 cst_iconst_1 rfl ?_
  first | refine e_iaddN (p' := 6) D_Min_countBelow_5 rfl ?_ | refine e_iadd (p' := 6) D_Min_countBelow_5 rfl ?_
  refine e_istore_6 (p' := 8) D_Min_countBelow_6 (Nat.le_of_ble_eq_true rfl) rfl rfl ?_
  have lk8 : ∀ i : Nat, i ≤ x.1.1 → r < i → sEv l m_Min_countBelow 3 (0, 0, 0, 0) (sKm 0 0 (fun r1 h1 => r1 = some (.int (nI (cb x b r c))) ∧ h1 = h)) 8 [some (.ref a), some (.ref g), some (.int (nI r)), some (.int (nI c)), some (.int (sBo b)), some (.int (nI (sm i (fun s => if r < s then sm x.1.2.1 (fun d => if c < d then (if mz x b r s c d then 1 else 0) else 0) else 0)))), some (.int (nI i)), none] [] (h) := by
    refine lp_up _ ?_ ?_
    · intro hri
      refine e_iload_6 (p' := 10) D_Min_countBelow_8 rfl ?_
      refine e_aload_1 (p' := 11) D_Min_countBelow_10 rfl ?_
      refine x_callV1 (p' := 14) D_Min_countBelow_11 V_Min_20 (c_Grid_rows hG0) rfl (by first | assumption | exact sUp_eq | (rw [sUp_ne (by omega)]; assumption) | (rw [sUp_ne (by omega), sUp_ne (by omega)]; assumption) | (rw [sUp_ne (by omega)]; exact sUp_eq) | (simp [sUp]; done)) rfl (Nat.le_of_ble_eq_true rfl) (by decide) ⟨by decide, by decide⟩ rfl ?_
      first | refine e_icmpN_ge (q := 77) (p' := 17) D_Min_countBelow_14 (by omega) (by omega) rfl rfl (fun hc14 => ?_) (fun hc14 => ?_) | refine e_icmp_ge (q := 77) (p' := 17) D_Min_countBelow_14 rfl rfl (fun hc14 => ?_) (fun hc14 => ?_)
      ·
        refine e_iload_5 (p' := 79) D_Min_countBelow_77 rfl ?_
        refine e_ireturn (ty := .int) D_Min_countBelow_79 rfl (by first | rfl | exact sBo_nar _) ⟨by decide, by decide⟩ ?_
        exact ⟨by first | rfl | (simp; done) | (simp [*]; done), by first | rfl | (simp; done)⟩
      ·
        exfalso; omega
    · intro i hi ih8 hri
      refine e_iload_6 (p' := 10) D_Min_countBelow_8 rfl ?_
      refine e_aload_1 (p' := 11) D_Min_countBelow_10 rfl ?_
      refine x_callV1 (p' := 14) D_Min_countBelow_11 V_Min_20 (c_Grid_rows hG0) rfl (by first | assumption | exact sUp_eq | (rw [sUp_ne (by omega)]; assumption) | (rw [sUp_ne (by omega), sUp_ne (by omega)]; assumption) | (rw [sUp_ne (by omega)]; exact sUp_eq) | (simp [sUp]; done)) rfl (Nat.le_of_ble_eq_true rfl) (by decide) ⟨by decide, by decide⟩ rfl ?_
      first | refine e_icmpN_ge (q := 77) (p' := 17) D_Min_countBelow_14 (by omega) (by omega) rfl rfl (fun hc14 => ?_) (fun hc14 => ?_) | refine e_icmp_ge (q := 77) (p' := 17) D_Min_countBelow_14 rfl rfl (fun hc14 => ?_) (fun hc14 => ?_)
      ·
        exfalso; omega
      ·
        refine e_iload_3 (p' := 18) D_Min_countBelow_17 rfl ?_
        refine e_iconst (v := nI 1) (p' := 19) D_Min_countBelow_18 cst_iconst_1 rfl ?_
        first | refine e_iaddN (p' := 20) D_Min_countBelow_19 rfl ?_ | refine e_iadd (p' := 20) D_Min_countBelow_19 rfl ?_
        refine e_istore_7 (p' := 22) D_Min_countBelow_20 (Nat.le_of_ble_eq_true rfl) rfl rfl ?_
        have lk22 : ∀ j : Nat, j ≤ x.1.2.1 → c < j → sEv l m_Min_countBelow 3 (0, 0, 0, 0) (sKm 0 0 (fun r1 h1 => r1 = some (.int (nI (cb x b r c))) ∧ h1 = h)) 22 [some (.ref a), some (.ref g), some (.int (nI r)), some (.int (nI c)), some (.int (sBo b)), some (.int (nI (sm i (fun s => if r < s then sm x.1.2.1 (fun d => if c < d then (if mz x b r s c d then 1 else 0) else 0) else 0) + sm j (fun d => if c < d then (if mz x b r i c d then 1 else 0) else 0)))), some (.int (nI i)), some (.int (nI j))] [] (h) := by
          refine lp_up _ ?_ ?_
          · intro hcj
            refine e_iload_7 (p' := 24) D_Min_countBelow_22 rfl ?_
            refine e_aload_1 (p' := 25) D_Min_countBelow_24 rfl ?_
            refine x_callV1 (p' := 28) D_Min_countBelow_25 V_Min_26 (c_Grid_columns hG0) rfl (by first | assumption | exact sUp_eq | (rw [sUp_ne (by omega)]; assumption) | (rw [sUp_ne (by omega), sUp_ne (by omega)]; assumption) | (rw [sUp_ne (by omega)]; exact sUp_eq) | (simp [sUp]; done)) rfl (Nat.le_of_ble_eq_true rfl) (by decide) ⟨by decide, by decide⟩ rfl ?_
            first | refine e_icmpN_ge (q := 71) (p' := 31) D_Min_countBelow_28 (by omega) (by omega) rfl rfl (fun hc28 => ?_) (fun hc28 => ?_) | refine e_icmp_ge (q := 71) (p' := 31) D_Min_countBelow_28 rfl rfl (fun hc28 => ?_) (fun hc28 => ?_)
            ·
              first | refine e_iincN_6 (n := 1) (p' := 74) D_Min_countBelow_71 (Nat.le_of_ble_eq_true rfl) rfl rfl ?_ | refine e_iinc_6 (p' := 74) D_Min_countBelow_71 (Nat.le_of_ble_eq_true rfl) rfl rfl rfl ?_
              refine e_goto (p' := 8) D_Min_countBelow_74 rfl ?_
              refine sEv.castW (ih8 (by omega)) ?_ ?_ ?_
              · rw [sm_succ, if_pos hri]; exact ⟨rfl, rfl, rfl, rfl, rfl, rfl, rfl, trivial⟩
              · rfl
              · first | rfl | (simp; done)
            ·
              exfalso; omega
          · intro j hj ih22 hcj
            refine e_iload_7 (p' := 24) D_Min_countBelow_22 rfl ?_
            refine e_aload_1 (p' := 25) D_Min_countBelow_24 rfl ?_
            refine x_callV1 (p' := 28) D_Min_countBelow_25 V_Min_26 (c_Grid_columns hG0) rfl (by first | assumption | exact sUp_eq | (rw [sUp_ne (by omega)]; assumption) | (rw [sUp_ne (by omega), sUp_ne (by omega)]; assumption) | (rw [sUp_ne (by omega)]; exact sUp_eq) | (simp [sUp]; done)) rfl (Nat.le_of_ble_eq_true rfl) (by decide) ⟨by decide, by decide⟩ rfl ?_
            first | refine e_icmpN_ge (q := 71) (p' := 31) D_Min_countBelow_28 (by omega) (by omega) rfl rfl (fun hc28 => ?_) (fun hc28 => ?_) | refine e_icmp_ge (q := 71) (p' := 31) D_Min_countBelow_28 rfl rfl (fun hc28 => ?_) (fun hc28 => ?_)
            ·
              exfalso; omega
            ·
              refine e_aload_1 (p' := 32) D_Min_countBelow_31 rfl ?_
              refine e_iload_2 (p' := 33) D_Min_countBelow_32 rfl ?_
              refine e_iload_6 (p' := 35) D_Min_countBelow_33 rfl ?_
              refine e_iload_3 (p' := 36) D_Min_countBelow_35 rfl ?_
              refine e_iload_7 (p' := 38) D_Min_countBelow_36 rfl ?_
              refine x_callS1 (p' := 41) D_Min_countBelow_38 S_Min_33 (c_Min_isMinor hG0 hx (by omega) (by omega) (by omega) (by omega)) rfl rfl (Nat.le_of_ble_eq_true rfl) (by decide) ⟨by decide, by decide⟩ rfl ?_
              refine e_ifB_eq (q := 65) (p' := 44) D_Min_countBelow_41 rfl rfl (fun hc41 => ?_) (fun hc41 => ?_)
              ·
                first | refine e_iincN_7 (n := 1) (p' := 68) D_Min_countBelow_65 (Nat.le_of_ble_eq_true rfl) rfl rfl ?_ | refine e_iinc_7 (p' := 68) D_Min_countBelow_65 (Nat.le_of_ble_eq_true rfl) rfl rfl rfl ?_
                refine e_goto (p' := 22) D_Min_countBelow_68 rfl ?_
                refine sEv.castW (ih22 (by omega)) ?_ ?_ ?_
                · rw [sm_succ (n := j), if_pos hcj, show mz x b r i c j = false by unfold mz; simp [hc41]]; exact lvW_rfl _
                · rfl
                · first | rfl | (simp; done)
              ·
                refine e_iload_4 (p' := 46) D_Min_countBelow_44 rfl ?_
                refine e_ifB_eq (q := 62) (p' := 49) D_Min_countBelow_46 rfl rfl (fun hc46 => ?_) (fun hc46 => ?_)
                ·
                  first | refine e_iincN_5 (n := 1) (p' := 65) D_Min_countBelow_62 (Nat.le_of_ble_eq_true rfl) rfl rfl ?_ | refine e_iinc_5 (p' := 65) D_Min_countBelow_62 (Nat.le_of_ble_eq_true rfl) rfl rfl rfl ?_
                  first | refine e_iincN_7 (n := 1) (p' := 68) D_Min_countBelow_65 (Nat.le_of_ble_eq_true rfl) rfl rfl ?_ | refine e_iinc_7 (p' := 68) D_Min_countBelow_65 (Nat.le_of_ble_eq_true rfl) rfl rfl rfl ?_
                  refine e_goto (p' := 22) D_Min_countBelow_68 rfl ?_
                  refine sEv.castW (ih22 (by omega)) ?_ ?_ ?_
                  · rw [sm_succ (n := j), if_pos hcj, show mz x b r i c j = true by unfold mz; simp [hc41, hc46]]; exact lvW_rfl _
                  · rfl
                  · first | rfl | (simp; done)
                ·
                  refine e_aload_1 (p' := 50) D_Min_countBelow_49 rfl ?_
                  refine e_iload_2 (p' := 51) D_Min_countBelow_50 rfl ?_
                  refine e_iload_6 (p' := 53) D_Min_countBelow_51 rfl ?_
                  refine e_iload_3 (p' := 54) D_Min_countBelow_53 rfl ?_
                  refine e_iload_7 (p' := 56) D_Min_countBelow_54 rfl ?_
                  refine x_callS1 (p' := 59) D_Min_countBelow_56 S_Min_37 (c_Min_isZero hG0 hx (by omega) (by omega) (by omega) (by omega)) rfl rfl (Nat.le_of_ble_eq_true rfl) (by decide) ⟨by decide, by decide⟩ rfl ?_
                  refine e_ifB_ne (q := 65) (p' := 62) D_Min_countBelow_59 rfl rfl (fun hc59 => ?_) (fun hc59 => ?_)
                  ·
                    first | refine e_iincN_7 (n := 1) (p' := 68) D_Min_countBelow_65 (Nat.le_of_ble_eq_true rfl) rfl rfl ?_ | refine e_iinc_7 (p' := 68) D_Min_countBelow_65 (Nat.le_of_ble_eq_true rfl) rfl rfl rfl ?_
                    refine e_goto (p' := 22) D_Min_countBelow_68 rfl ?_
                    refine sEv.castW (ih22 (by omega)) ?_ ?_ ?_
                    · rw [sm_succ (n := j), if_pos hcj, show mz x b r i c j = false by unfold mz; simp [hc41, hc46, hc59]]; exact lvW_rfl _
                    · rfl
                    · first | rfl | (simp; done)
                  ·
                    first | refine e_iincN_5 (n := 1) (p' := 65) D_Min_countBelow_62 (Nat.le_of_ble_eq_true rfl) rfl rfl ?_ | refine e_iinc_5 (p' := 65) D_Min_countBelow_62 (Nat.le_of_ble_eq_true rfl) rfl rfl rfl ?_
                    first | refine e_iincN_7 (n := 1) (p' := 68) D_Min_countBelow_65 (Nat.le_of_ble_eq_true rfl) rfl rfl ?_ | refine e_iinc_7 (p' := 68) D_Min_countBelow_65 (Nat.le_of_ble_eq_true rfl) rfl rfl rfl ?_
                    refine e_goto (p' := 22) D_Min_countBelow_68 rfl ?_
                    refine sEv.castW (ih22 (by omega)) ?_ ?_ ?_
                    · rw [sm_succ (n := j), if_pos hcj, show mz x b r i c j = true by unfold mz; simp [hc41, hc46, hc59]]; exact lvW_rfl _
                    · rfl
                    · first | rfl | (simp; done)
        refine sEv.castW (lk22 (c + 1) (by omega) (by omega)) ?_ ?_ ?_
        · rw [sm_zero (n := c + 1) (fun k hk => if_neg (by omega))]; exact lvW_rfl _
        · rfl
        · first | rfl | (simp; done)
  refine sEv.castW (lk8 (r + 1) (by omega) (by omega)) ?_ ?_ ?_
  · rw [sm_zero (fun k hk => if_neg (by omega))]; exact ⟨rfl, rfl, rfl, rfl, rfl, rfl, rfl, trivial⟩
  · rfl
  · first | rfl | (simp; done)
set_option maxRecDepth 4000 in
theorem c_Min_countAll {l : Launch} {h : sH} {g : Nat} {x : Gd} (hG : GridAt h g x) (hx : Gok x) {a : Nat} {b : Bool} (ha : h.2 a = oC 2 [.ref (a + 1)]) : sX l m_Min_countAll 4 [.ref a, .ref g, .int (sBo b)] h (some (.int (nI (sm x.1.1 (fun r => sm x.1.2.1 (fun c => cb x b r c)))))) (h) := by
  have hR := hx.1
  have hC := hx.2.1
  have hM := hx.2.2.1.le
  have hG0 := hG
  obtain ⟨g0, g1, g2⟩ := hG
  refine en_Min_countAll ?_
  refine e_iconst (v := nI 0) (p' := 1) D_Min_countAll_0 cst_iconst_0 rfl ?_
  refine e_istore_3 (p' := 2) D_Min_countAll_1 (Nat.le_of_ble_eq_true rfl) rfl rfl ?_
  refine e_iconst (v := nI 0) (p' := 3) D_Min_countAll_2 cst_iconst_0 rfl ?_
  refine e_istore_4 (p' := 5) D_Min_countAll_3 (Nat.le_of_ble_eq_true rfl) rfl rfl ?_
  have lk5 : ∀ i : Nat, i ≤ x.1.1 → sEv l m_Min_countAll 4 (0, 0, 0, 0) (sKm 0 0 (fun r1 h1 => r1 = some (.int (nI (sm x.1.1 (fun r => sm x.1.2.1 (fun c => cb x b r c))))) ∧ h1 = h)) 5 [some (.ref a), some (.ref g), some (.int (sBo b)), some (.int (nI (sm i (fun r => sm x.1.2.1 (fun c => cb x b r c))))), some (.int (nI i)), none] [] (h) := by
    refine lp_up _ ?_ ?_
    · skip
      refine e_iload_4 (p' := 7) D_Min_countAll_5 rfl ?_
      refine e_aload_1 (p' := 8) D_Min_countAll_7 rfl ?_
      refine x_callV1 (p' := 11) D_Min_countAll_8 V_Min_20 (c_Grid_rows hG0) rfl (by first | assumption | exact sUp_eq | (rw [sUp_ne (by omega)]; assumption) | (rw [sUp_ne (by omega), sUp_ne (by omega)]; assumption) | (rw [sUp_ne (by omega)]; exact sUp_eq) | (simp [sUp]; done)) rfl (Nat.le_of_ble_eq_true rfl) (by decide) ⟨by decide, by decide⟩ rfl ?_
      first | refine e_icmpN_ge (q := 51) (p' := 14) D_Min_countAll_11 (by omega) (by omega) rfl rfl (fun hc11 => ?_) (fun hc11 => ?_) | refine e_icmp_ge (q := 51) (p' := 14) D_Min_countAll_11 rfl rfl (fun hc11 => ?_) (fun hc11 => ?_)
      ·
        refine e_iload_3 (p' := 52) D_Min_countAll_51 rfl ?_
        refine e_ireturn (ty := .int) D_Min_countAll_52 rfl (by first | rfl | exact sBo_nar _) ⟨by decide, by decide⟩ ?_
        exact ⟨by first | rfl | (simp; done) | (simp [*]; done), by first | rfl | (simp; done)⟩
      ·
        exfalso; omega
    · intro i hi ih5 
      refine e_iload_4 (p' := 7) D_Min_countAll_5 rfl ?_
      refine e_aload_1 (p' := 8) D_Min_countAll_7 rfl ?_
      refine x_callV1 (p' := 11) D_Min_countAll_8 V_Min_20 (c_Grid_rows hG0) rfl (by first | assumption | exact sUp_eq | (rw [sUp_ne (by omega)]; assumption) | (rw [sUp_ne (by omega), sUp_ne (by omega)]; assumption) | (rw [sUp_ne (by omega)]; exact sUp_eq) | (simp [sUp]; done)) rfl (Nat.le_of_ble_eq_true rfl) (by decide) ⟨by decide, by decide⟩ rfl ?_
      first | refine e_icmpN_ge (q := 51) (p' := 14) D_Min_countAll_11 (by omega) (by omega) rfl rfl (fun hc11 => ?_) (fun hc11 => ?_) | refine e_icmp_ge (q := 51) (p' := 14) D_Min_countAll_11 rfl rfl (fun hc11 => ?_) (fun hc11 => ?_)
      ·
        exfalso; omega
      ·
        refine e_iconst (v := nI 0) (p' := 15) D_Min_countAll_14 cst_iconst_0 rfl ?_
        refine e_istore_5 (p' := 17) D_Min_countAll_15 (Nat.le_of_ble_eq_true rfl) rfl rfl ?_
        have lk17 : ∀ j : Nat, j ≤ x.1.2.1 → sEv l m_Min_countAll 4 (0, 0, 0, 0) (sKm 0 0 (fun r1 h1 => r1 = some (.int (nI (sm x.1.1 (fun r => sm x.1.2.1 (fun c => cb x b r c))))) ∧ h1 = h)) 17 [some (.ref a), some (.ref g), some (.int (sBo b)), some (.int (nI (sm i (fun r => sm x.1.2.1 (fun c => cb x b r c)) + sm j (fun c => cb x b i c)))), some (.int (nI i)), some (.int (nI j))] [] (h) := by
          refine lp_up _ ?_ ?_
          · skip
            refine e_iload_5 (p' := 19) D_Min_countAll_17 rfl ?_
            refine e_aload_1 (p' := 20) D_Min_countAll_19 rfl ?_
            refine x_callV1 (p' := 23) D_Min_countAll_20 V_Min_26 (c_Grid_columns hG0) rfl (by first | assumption | exact sUp_eq | (rw [sUp_ne (by omega)]; assumption) | (rw [sUp_ne (by omega), sUp_ne (by omega)]; assumption) | (rw [sUp_ne (by omega)]; exact sUp_eq) | (simp [sUp]; done)) rfl (Nat.le_of_ble_eq_true rfl) (by decide) ⟨by decide, by decide⟩ rfl ?_
            first | refine e_icmpN_ge (q := 45) (p' := 26) D_Min_countAll_23 (by omega) (by omega) rfl rfl (fun hc23 => ?_) (fun hc23 => ?_) | refine e_icmp_ge (q := 45) (p' := 26) D_Min_countAll_23 rfl rfl (fun hc23 => ?_) (fun hc23 => ?_)
            ·
              first | refine e_iincN_4 (n := 1) (p' := 48) D_Min_countAll_45 (Nat.le_of_ble_eq_true rfl) rfl rfl ?_ | refine e_iinc_4 (p' := 48) D_Min_countAll_45 (Nat.le_of_ble_eq_true rfl) rfl rfl rfl ?_
              refine e_goto (p' := 5) D_Min_countAll_48 rfl ?_
              refine sEv.castW (ih5) ?_ ?_ ?_
              · rw [sm_succ]; exact ⟨rfl, rfl, rfl, rfl, rfl, trivial⟩
              · rfl
              · first | rfl | (simp; done)
            ·
              exfalso; omega
          · intro j hj ih17 
            refine e_iload_5 (p' := 19) D_Min_countAll_17 rfl ?_
            refine e_aload_1 (p' := 20) D_Min_countAll_19 rfl ?_
            refine x_callV1 (p' := 23) D_Min_countAll_20 V_Min_26 (c_Grid_columns hG0) rfl (by first | assumption | exact sUp_eq | (rw [sUp_ne (by omega)]; assumption) | (rw [sUp_ne (by omega), sUp_ne (by omega)]; assumption) | (rw [sUp_ne (by omega)]; exact sUp_eq) | (simp [sUp]; done)) rfl (Nat.le_of_ble_eq_true rfl) (by decide) ⟨by decide, by decide⟩ rfl ?_
            first | refine e_icmpN_ge (q := 45) (p' := 26) D_Min_countAll_23 (by omega) (by omega) rfl rfl (fun hc23 => ?_) (fun hc23 => ?_) | refine e_icmp_ge (q := 45) (p' := 26) D_Min_countAll_23 rfl rfl (fun hc23 => ?_) (fun hc23 => ?_)
            ·
              exfalso; omega
            ·
              refine e_iload_3 (p' := 27) D_Min_countAll_26 rfl ?_
              refine e_aload_0 (p' := 28) D_Min_countAll_27 rfl ?_
              refine e_aload_1 (p' := 29) D_Min_countAll_28 rfl ?_
              refine e_iload_4 (p' := 31) D_Min_countAll_29 rfl ?_
              refine e_iload_5 (p' := 33) D_Min_countAll_31 rfl ?_
              refine e_iload_2 (p' := 34) D_Min_countAll_33 rfl ?_
              refine x_callV1 (p' := 37) D_Min_countAll_34 V_Min_29 (c_Min_countBelow hG0 hx (by omega) (by omega)) rfl (by first | assumption | exact sUp_eq | (rw [sUp_ne (by omega)]; assumption) | (rw [sUp_ne (by omega), sUp_ne (by omega)]; assumption) | (rw [sUp_ne (by omega)]; exact sUp_eq) | (simp [sUp]; done)) rfl (Nat.le_of_ble_eq_true rfl) (by decide) ⟨by decide, by decide⟩ rfl ?_
              first | refine e_iaddN (p' := 38) D_Min_countAll_37 rfl ?_ | refine e_iadd (p' := 38) D_Min_countAll_37 rfl ?_
              refine e_istore_3 (p' := 39) D_Min_countAll_38 (Nat.le_of_ble_eq_true rfl) rfl rfl ?_
              first | refine e_iincN_5 (n := 1) (p' := 42) D_Min_countAll_39 (Nat.le_of_ble_eq_true rfl) rfl rfl ?_ | refine e_iinc_5 (p' := 42) D_Min_countAll_39 (Nat.le_of_ble_eq_true rfl) rfl rfl rfl ?_
              refine e_goto (p' := 17) D_Min_countAll_42 rfl ?_
              refine sEv.castW (ih17) ?_ ?_ ?_
              · rw [sm_succ (n := j), ← Nat.add_assoc]; exact lvW_rfl _
              · rfl
              · first | rfl | (simp; done)
        refine sEv.castW (lk17 0 (by omega) ) ?_ ?_ ?_
        · first | exact lvW_rfl _ | (simp [lvW]; done) | (simp [lvW, *]; done) | (simp [lvW]; omega)
        · rfl
        · first | rfl | (simp; done)
  refine sEv.castW (lk5 0 (by omega) ) ?_ ?_ ?_
  · first | exact lvW_rfl _ | (simp [lvW]; done) | (simp [lvW, *]; done) | (simp [lvW]; omega)
  · rfl
  · first | rfl | (simp; done)
set_option maxRecDepth 4000 in
theorem c_Min_countThrough {l : Launch} {h : sH} {g : Nat} {x : Gd} (hG : GridAt h g x) (hx : Gok x) {a r c : Nat} (hr : r < x.1.1) (hc : c < x.1.2.1) : sX l m_Min_countThrough 3 [.ref a, .ref g, .int (nI r), .int (nI c)] h (some (.int (nI (cth x r c)))) (h) := by
  have hR := hx.1
  have hC := hx.2.1
  have hM := hx.2.2.1.le
  have hG0 := hG
  obtain ⟨g0, g1, g2⟩ := hG
  refine en_Min_countThrough ?_
  refine e_iconst (v := nI 0) (p' := 1) D_Min_countThrough_0 cst_iconst_0 rfl ?_
  refine e_istore_4 (p' := 3) D_Min_countThrough_1 (Nat.le_of_ble_eq_true rfl) rfl rfl ?_
  refine e_iconst (v := nI 0) (p' := 4) D_Min_countThrough_3 cst_iconst_0 rfl ?_
  refine e_istore_5 (p' := 6) D_Min_countThrough_4 (Nat.le_of_ble_eq_true rfl) rfl rfl ?_
  have lk6 : ∀ i : Nat, i ≤ x.1.1 → sEv l m_Min_countThrough 3 (0, 0, 0, 0) (sKm 0 0 (fun r1 h1 => r1 = some (.int (nI (cth x r c))) ∧ h1 = h)) 6 [some (.ref a), some (.ref g), some (.int (nI r)), some (.int (nI c)), some (.int (nI (sm i (fun s => sm x.1.2.1 (fun d => if s = r then 0 else if d = c then 0 else if mnr x r s c d then 1 else 0))))), some (.int (nI i)), none] [] (h) := by
    refine lp_up _ ?_ ?_
    · skip
      refine e_iload_5 (p' := 8) D_Min_countThrough_6 rfl ?_
      refine e_aload_1 (p' := 9) D_Min_countThrough_8 rfl ?_
      refine x_callV1 (p' := 12) D_Min_countThrough_9 V_Min_20 (c_Grid_rows hG0) rfl (by first | assumption | exact sUp_eq | (rw [sUp_ne (by omega)]; assumption) | (rw [sUp_ne (by omega), sUp_ne (by omega)]; assumption) | (rw [sUp_ne (by omega)]; exact sUp_eq) | (simp [sUp]; done)) rfl (Nat.le_of_ble_eq_true rfl) (by decide) ⟨by decide, by decide⟩ rfl ?_
      first | refine e_icmpN_ge (q := 67) (p' := 15) D_Min_countThrough_12 (by omega) (by omega) rfl rfl (fun hc12 => ?_) (fun hc12 => ?_) | refine e_icmp_ge (q := 67) (p' := 15) D_Min_countThrough_12 rfl rfl (fun hc12 => ?_) (fun hc12 => ?_)
      ·
        refine e_iload_4 (p' := 69) D_Min_countThrough_67 rfl ?_
        refine e_ireturn (ty := .int) D_Min_countThrough_69 rfl (by first | rfl | exact sBo_nar _) ⟨by decide, by decide⟩ ?_
        exact ⟨by first | rfl | (simp; done) | (simp [*]; done), by first | rfl | (simp; done)⟩
      ·
        exfalso; omega
    · intro i hi ih6 
      refine e_iload_5 (p' := 8) D_Min_countThrough_6 rfl ?_
      refine e_aload_1 (p' := 9) D_Min_countThrough_8 rfl ?_
      refine x_callV1 (p' := 12) D_Min_countThrough_9 V_Min_20 (c_Grid_rows hG0) rfl (by first | assumption | exact sUp_eq | (rw [sUp_ne (by omega)]; assumption) | (rw [sUp_ne (by omega), sUp_ne (by omega)]; assumption) | (rw [sUp_ne (by omega)]; exact sUp_eq) | (simp [sUp]; done)) rfl (Nat.le_of_ble_eq_true rfl) (by decide) ⟨by decide, by decide⟩ rfl ?_
      first | refine e_icmpN_ge (q := 67) (p' := 15) D_Min_countThrough_12 (by omega) (by omega) rfl rfl (fun hc12 => ?_) (fun hc12 => ?_) | refine e_icmp_ge (q := 67) (p' := 15) D_Min_countThrough_12 rfl rfl (fun hc12 => ?_) (fun hc12 => ?_)
      ·
        exfalso; omega
      ·
        refine e_iconst (v := nI 0) (p' := 16) D_Min_countThrough_15 cst_iconst_0 rfl ?_
        refine e_istore_6 (p' := 18) D_Min_countThrough_16 (Nat.le_of_ble_eq_true rfl) rfl rfl ?_
        have lk18 : ∀ j : Nat, j ≤ x.1.2.1 → sEv l m_Min_countThrough 3 (0, 0, 0, 0) (sKm 0 0 (fun r1 h1 => r1 = some (.int (nI (cth x r c))) ∧ h1 = h)) 18 [some (.ref a), some (.ref g), some (.int (nI r)), some (.int (nI c)), some (.int (nI (sm i (fun s => sm x.1.2.1 (fun d => if s = r then 0 else if d = c then 0 else if mnr x r s c d then 1 else 0)) + sm j (fun d => if i = r then 0 else if d = c then 0 else if mnr x r i c d then 1 else 0)))), some (.int (nI i)), some (.int (nI j))] [] (h) := by
          refine lp_up _ ?_ ?_
          · skip
            refine e_iload_6 (p' := 20) D_Min_countThrough_18 rfl ?_
            refine e_aload_1 (p' := 21) D_Min_countThrough_20 rfl ?_
            refine x_callV1 (p' := 24) D_Min_countThrough_21 V_Min_26 (c_Grid_columns hG0) rfl (by first | assumption | exact sUp_eq | (rw [sUp_ne (by omega)]; assumption) | (rw [sUp_ne (by omega), sUp_ne (by omega)]; assumption) | (rw [sUp_ne (by omega)]; exact sUp_eq) | (simp [sUp]; done)) rfl (Nat.le_of_ble_eq_true rfl) (by decide) ⟨by decide, by decide⟩ rfl ?_
            first | refine e_icmpN_ge (q := 61) (p' := 27) D_Min_countThrough_24 (by omega) (by omega) rfl rfl (fun hc24 => ?_) (fun hc24 => ?_) | refine e_icmp_ge (q := 61) (p' := 27) D_Min_countThrough_24 rfl rfl (fun hc24 => ?_) (fun hc24 => ?_)
            ·
              first | refine e_iincN_5 (n := 1) (p' := 64) D_Min_countThrough_61 (Nat.le_of_ble_eq_true rfl) rfl rfl ?_ | refine e_iinc_5 (p' := 64) D_Min_countThrough_61 (Nat.le_of_ble_eq_true rfl) rfl rfl rfl ?_
              refine e_goto (p' := 6) D_Min_countThrough_64 rfl ?_
              refine sEv.castW (ih6) ?_ ?_ ?_
              · rw [sm_succ]; exact ⟨rfl, rfl, rfl, rfl, rfl, rfl, trivial⟩
              · rfl
              · first | rfl | (simp; done)
            ·
              exfalso; omega
          · intro j hj ih18 
            refine e_iload_6 (p' := 20) D_Min_countThrough_18 rfl ?_
            refine e_aload_1 (p' := 21) D_Min_countThrough_20 rfl ?_
            refine x_callV1 (p' := 24) D_Min_countThrough_21 V_Min_26 (c_Grid_columns hG0) rfl (by first | assumption | exact sUp_eq | (rw [sUp_ne (by omega)]; assumption) | (rw [sUp_ne (by omega), sUp_ne (by omega)]; assumption) | (rw [sUp_ne (by omega)]; exact sUp_eq) | (simp [sUp]; done)) rfl (Nat.le_of_ble_eq_true rfl) (by decide) ⟨by decide, by decide⟩ rfl ?_
            first | refine e_icmpN_ge (q := 61) (p' := 27) D_Min_countThrough_24 (by omega) (by omega) rfl rfl (fun hc24 => ?_) (fun hc24 => ?_) | refine e_icmp_ge (q := 61) (p' := 27) D_Min_countThrough_24 rfl rfl (fun hc24 => ?_) (fun hc24 => ?_)
            ·
              exfalso; omega
            ·
              refine e_iload_5 (p' := 29) D_Min_countThrough_27 rfl ?_
              refine e_iload_2 (p' := 30) D_Min_countThrough_29 rfl ?_
              first | refine e_icmpN_eq (q := 55) (p' := 33) D_Min_countThrough_30 (by omega) (by omega) rfl rfl (fun hc30 => ?_) (fun hc30 => ?_) | refine e_icmp_eq (q := 55) (p' := 33) D_Min_countThrough_30 rfl rfl (fun hc30 => ?_) (fun hc30 => ?_)
              ·
                first | refine e_iincN_6 (n := 1) (p' := 58) D_Min_countThrough_55 (Nat.le_of_ble_eq_true rfl) rfl rfl ?_ | refine e_iinc_6 (p' := 58) D_Min_countThrough_55 (Nat.le_of_ble_eq_true rfl) rfl rfl rfl ?_
                refine e_goto (p' := 18) D_Min_countThrough_58 rfl ?_
                refine sEv.castW (ih18) ?_ ?_ ?_
                · rw [sm_succ (n := j), if_pos hc30]; exact lvW_rfl _
                · rfl
                · first | rfl | (simp; done)
              ·
                refine e_iload_6 (p' := 35) D_Min_countThrough_33 rfl ?_
                refine e_iload_3 (p' := 36) D_Min_countThrough_35 rfl ?_
                first | refine e_icmpN_eq (q := 55) (p' := 39) D_Min_countThrough_36 (by omega) (by omega) rfl rfl (fun hc36 => ?_) (fun hc36 => ?_) | refine e_icmp_eq (q := 55) (p' := 39) D_Min_countThrough_36 rfl rfl (fun hc36 => ?_) (fun hc36 => ?_)
                ·
                  first | refine e_iincN_6 (n := 1) (p' := 58) D_Min_countThrough_55 (Nat.le_of_ble_eq_true rfl) rfl rfl ?_ | refine e_iinc_6 (p' := 58) D_Min_countThrough_55 (Nat.le_of_ble_eq_true rfl) rfl rfl rfl ?_
                  refine e_goto (p' := 18) D_Min_countThrough_58 rfl ?_
                  refine sEv.castW (ih18) ?_ ?_ ?_
                  · rw [sm_succ (n := j), if_neg hc30, if_pos hc36]; exact lvW_rfl _
                  · rfl
                  · first | rfl | (simp; done)
                ·
                  refine e_aload_1 (p' := 40) D_Min_countThrough_39 rfl ?_
                  refine e_iload_2 (p' := 41) D_Min_countThrough_40 rfl ?_
                  refine e_iload_5 (p' := 43) D_Min_countThrough_41 rfl ?_
                  refine e_iload_3 (p' := 44) D_Min_countThrough_43 rfl ?_
                  refine e_iload_6 (p' := 46) D_Min_countThrough_44 rfl ?_
                  refine x_callS1 (p' := 49) D_Min_countThrough_46 S_Min_33 (c_Min_isMinor hG0 hx (by omega) (by omega) (by omega) (by omega)) rfl rfl (Nat.le_of_ble_eq_true rfl) (by decide) ⟨by decide, by decide⟩ rfl ?_
                  refine e_ifB_eq (q := 55) (p' := 52) D_Min_countThrough_49 rfl rfl (fun hc49 => ?_) (fun hc49 => ?_)
                  ·
                    first | refine e_iincN_6 (n := 1) (p' := 58) D_Min_countThrough_55 (Nat.le_of_ble_eq_true rfl) rfl rfl ?_ | refine e_iinc_6 (p' := 58) D_Min_countThrough_55 (Nat.le_of_ble_eq_true rfl) rfl rfl rfl ?_
                    refine e_goto (p' := 18) D_Min_countThrough_58 rfl ?_
                    refine sEv.castW (ih18) ?_ ?_ ?_
                    · rw [sm_succ (n := j), if_neg hc30, if_neg hc36, hc49]; exact lvW_rfl _
                    · rfl
                    · first | rfl | (simp; done)
                  ·
                    first | refine e_iincN_4 (n := 1) (p' := 55) D_Min_countThrough_52 (Nat.le_of_ble_eq_true rfl) rfl rfl ?_ | refine e_iinc_4 (p' := 55) D_Min_countThrough_52 (Nat.le_of_ble_eq_true rfl) rfl rfl rfl ?_
                    first | refine e_iincN_6 (n := 1) (p' := 58) D_Min_countThrough_55 (Nat.le_of_ble_eq_true rfl) rfl rfl ?_ | refine e_iinc_6 (p' := 58) D_Min_countThrough_55 (Nat.le_of_ble_eq_true rfl) rfl rfl rfl ?_
                    refine e_goto (p' := 18) D_Min_countThrough_58 rfl ?_
                    refine sEv.castW (ih18) ?_ ?_ ?_
                    · rw [sm_succ (n := j), if_neg hc30, if_neg hc36, hc49]; exact lvW_rfl _
                    · rfl
                    · first | rfl | (simp; done)
        refine sEv.castW (lk18 0 (by omega) ) ?_ ?_ ?_
        · first | exact lvW_rfl _ | (simp [lvW]; done) | (simp [lvW, *]; done) | (simp [lvW]; omega)
        · rfl
        · first | rfl | (simp; done)
  refine sEv.castW (lk6 0 (by omega) ) ?_ ?_ ?_
  · first | exact lvW_rfl _ | (simp [lvW]; done) | (simp [lvW, *]; done) | (simp [lvW]; omega)
  · rfl
  · first | rfl | (simp; done)
