/-! THE CLAIM OUT OF ONE WALK OF THE LAW'S BODY. Your part is whole_start (and what it stands on); all else here is the same for every law, but numbers. -/
def R_law : String := "OneRankGridLaw"
def lw_P (b : Addr) (xs : List Int32) (args : Array Value) (s : State) : Prop := args = #[.ref b] ∧ s.IntsAt b xs ∧ xs.length ≤ 260 ∧ (Jvm.Cond.and given_1 narrow_1).before args s = true
def lw_Q (_ : Array Value) (s : State) (o : Outcome) (t : State) : Prop := o = .returned (some (.int 1)) ∧ Framed s o t [] 600000 7302250
def lw_Z (below : List Frame) (a : Array Value) (s : State) : State → Prop := fun t => ∃ o, t.status = .running ∧ Ended t below o ∧ lw_Q a s o t
/-- the law's own end, with 1 on the stack, nothing written that was there before, its room as the claim has it -/
theorem lw_ret {p : Program} {l : Launch} {e : Env} {s : State} {m : MethodId} {below : List Frame} {meth : Method} {c : Code} {b : Nat} (hx : p.tables.exec = Jvm.exec) (hb : c.code = code) (hr : meth.sig.returnType = ret) (hlocks : meth.locks = false) {pc : Nat} {H : Heap} {ls : Array Slot} (hdg : decode code pc = .ok (.ireturn, 1)) : W p l e room_1 s m #[Value.ref b] below meth c H [] 600000 7302250 (lw_Z below #[Value.ref b] s) (F0 m pc ls [.int 1]) := by
  intro T hT X
  obtain ⟨fs, hret, hrun, hended, hW, hframe⟩ := X.leave (v := some (.int 1)) (hlocks := hlocks) (fun h => by rw [hr] at h; cases h)
  have hmeth' : T.vm.method? m = some meth := X.method'
  refine ⟨T.setFrames fs, ?_, .returned (some (.int 1)), hrun, hended, rfl, ⟨_, rfl⟩, hW, hframe⟩
  jvm_step X.here [X.here.top, hx, hb, hdg, hmeth', hr, ret, narrow_b1]
  (try refine ⟨rfl, ?_⟩); (try refine ⟨rfl, ?_⟩)
  first | (intro acts; rw [hret _ acts rfl rfl rfl]) | rw [hret _ _ rfl rfl rfl]
  exact Steps.refl _
/-- what holds at the law's entry: the machine, the code, the tables' words (any of lw_tbl by 'hts w (by decide +kernel)'), the script of L ints xs at the cell b, what the Statement gives of the start (any of its parts by flat_of_before) -/
def lw_At (p : Program) (s : State) (m : MethodId) (meth : Method) (c : Code) (b L : Nat) (xs : Nat → Int32) : Prop :=
  p.tables.exec = Jvm.exec ∧ c.code = code ∧ meth.sig.returnType = ret ∧ c.maxLocals = 8 ∧ s.vm.findClass R_law = some m.cls ∧ (∀ w ∈ lw_tbl, w.before #[Value.ref b] s = true) ∧ va_X b L xs s s.heap ∧ b < s.heap.size ∧ meth.locks = false ∧ (Jvm.Cond.and given_1 narrow_1).before #[Value.ref b] s = true
-- the law in the engine's words
def lK (b L : Nat) (xs : Nat → Int32) : sK := (fun G s args _ => args = #[Value.ref b] ∧ va_X b L xs s s.heap ∧ b < s.heap.size ∧ G.1 = s.heap.size, fun _ s args below => lw_Z below args s)
section LAW
variable {l : Launch} {d : Nat} {B : sB} {pc p' : Nat} {lv : List (Option Value)} {st : List Value} {h : sH} {b L : Nat} {xs : Nat → Int32}
theorem lw_retR {R : Room} {p : Program} {l : Launch} {e : Env} {s : State} {m : MethodId} {below : List Frame} {meth : Method} {c : Code} {b : Nat} (hx : p.tables.exec = Jvm.exec) (hb : c.code = code) (hr : meth.sig.returnType = ret) (hlocks : meth.locks = false) {pc : Nat} {H : Heap} {ls : Array Slot} (hdg : decode code pc = .ok (.ireturn, 1)) : W p l e R s m #[Value.ref b] below meth c H [] 600000 7302250 (lw_Z below #[Value.ref b] s) (F0 m pc ls [.int 1]) := by
  intro T hT X
  obtain ⟨fs, hret, hrun, hended, hW, hframe⟩ := X.leave (v := some (.int 1)) (hlocks := hlocks) (fun h => by rw [hr] at h; cases h)
  have hmeth' : T.vm.method? m = some meth := X.method'
  refine ⟨T.setFrames fs, ?_, .returned (some (.int 1)), hrun, hended, rfl, ⟨_, rfl⟩, hW, hframe⟩
  jvm_step X.here [X.here.top, hx, hb, hdg, hmeth', hr, ret, narrow_b1]
  (try refine ⟨rfl, ?_⟩); (try refine ⟨rfl, ?_⟩)
  first | (intro acts; rw [hret _ acts rfl rfl rfl]) | rw [hret _ _ rfl rfl rfl]
  exact Steps.refl _
theorem e_Lret (hdg : decode m_Law_law.2.1 pc = .ok (.ireturn, 1)) (hB : B.1 ≤ 600000 ∧ B.2.1 ≤ 7302250) : sEv l m_Law_law d B (lK b L xs) pc lv [.int (nI 1)] h := by
  intro G p e R s m args below meth c H locs ls C hR hS hL2
  obtain ⟨hx, hb, hml, hrt, hlk, hown, hin, hts, hBa, hrm, hG, hK⟩ := C
  obtain ⟨rfl, hX, hbl, hGe⟩ := hK
  refine va_forget (fun q hq => by rw [← hGe]; exact hS.2.2 q hq) ?_
  refine W.widen (k := 600000) (n := 7302250) hB.1 hB.2 ?_
  exact lw_retR hx hb hrt hlk hdg
end LAW
theorem lK_X {b L : Nat} {xs : Nat → Int32} : sXs (lK b L xs) b L xs := fun _ _ _ _ h => ⟨h.2.1, h.2.2.1, by rw [h.2.2.2]; exact h.2.2.1⟩
theorem well_g0 : wellX g0 = true := pot_well (U := fun _ => 1) (V := fun _ => 1) g0_ok ⟨fun _ _ => by show 1 % 7 ≠ 0; decide, fun _ _ => by show 1 % 7 ≠ 0; decide, fun r c _ _ t => by
  have : td g0 r c = false := rfl
  rw [this] at t; cases t⟩
theorem cpl_g0 : cpl st0.1 = 7776 := by
  have e : (lay g0).2 = 6 := (lay_empty g0_ok (fun _ _ => rfl)).1
  have e2 : cpl g0 = (g0.1.2.2 - 1) ^ ((lay g0).2 - 1) := if_pos well_g0
  have e3 : g0.1.2.2 = 7 := rfl
  rw [show cpl st0.1 = cpl g0 from rfl, e2, e, e3]
theorem cpl_ta {x : Gd} (hx : Gok x) (hw : wellX x = true) : cpl (taX x) = cpl x := by
  show (if wellX (taX x) = true then (x.1.2.2 - 1) ^ ((lay (taX x)).2 - 1) else 0) = (if wellX x = true then (x.1.2.2 - 1) ^ ((lay x).2 - 1) else 0)
  rw [if_pos (well_ta hx), if_pos hw, (lay_ta hx).2.2]
theorem cv_ta {x : Gd} (hx : Gok x) {k r c : Nat} (hr : r < x.1.1) (hc : c < x.1.2.1) : cv (taX x) k r c = cv x k r c := by
  have h6 := x6 hx hr hc
  have a := (lay_ta hx).1 r h6.1
  have b := (lay_ta hx).2.1 c h6.2
  have d := (num_ta hx).1 r hr
  have e := (num_ta hx).2 c hc
  have f : pdt (taX x) r c = pdt x r c := by
    show lu (taX x) r * lv' (taX x) c % x.1.2.2 = lu x r * lv' x c % x.1.2.2
    rw [d, e]
  show qt x.1.2.2 (pdt (taX x) r c * fac x.1.2.2 k (lP (taX x) r - 1) % x.1.2.2) (fac x.1.2.2 k (lQ (taX x) c - 1)) = _
  rw [f, a, b]
  rfl
section T2
variable {l : Launch} {h : sH} {x y : Gd} {s : Hs} {w : (Nat → Option Gd) × Pd}
theorem t_compl (hC : CInv h (x, s, w)) (hS : StOk (x, s, w)) : sY l m_O_completions 5 [.ref 0] h (some (.long (lN (cpl x)))) (CR h (x, s, w)) := c_O_completions (st := (x, s, w)) hC hS
theorem t_cmd (hC : CInv h (x, s, w)) (hS : StOk (x, s, w)) {k r c : Nat} (hk : k < cpl x) (hr : r < x.1.1) (hc : c < x.1.2.1) : sY l m_O_completed 5 [.ref 0, .long (lN k), .int (nI r), .int (nI c)] h (some (.int (nI (cv x k r c)))) (CR h (x, s, w)) := k_cmd (st := (x, s, w)) hC hS hk hr hc
theorem t_cmd0 (hC : CInv h (x, s, w)) (hS : StOk (x, s, w)) (h0 : cpl x = 0) {r c : Int32} : sY l m_O_completed 5 [.ref 0, .long (lN 0), .int r, .int c] h (some (.int (-1))) (CR h (x, s, w)) := by
  have := k_cmdH (l := l) (st := (x, s, w)) hC hS (r := r) (c := c)
  have e : cpl (x, s, w).1 = 0 := h0
  rwa [e] at this
theorem t_tellAll (hC : CInv h (x, s, w)) (hS : StOk (x, s, w)) (hw : wellX x = true) : sY l m_O_tellAll 6 [.ref 0] h (some (.int (nI (jnE x - told x)))) (CR h (taX x, recH s x, w)) := k_tellAll (st := (x, s, w)) hC hS hw
theorem t_tellAllN (hC : CInv h (x, s, w)) (hS : StOk (x, s, w)) (hw : wellX x = false) : sY l m_O_tellAll 6 [.ref 0] h (some (.int (-5))) (CR h (x, s, w)) := k_tellAllN (st := (x, s, w)) hC hS hw
theorem rec_1 {s : Hs} {x : Gd} : (recH s x).1 = if s.1 = 6 then 6 else s.1 + 1 := by
  unfold recH
  split <;> rfl
theorem rec_2 (h6 : s.1 ≤ 6) : 2 ≤ (recH (recH s x) y).1 := by
  have a := (recL (x := x) h6).1
  have b := (recL (x := x) h6).2.2.1
  rw [rec_1]
  split <;> omega
theorem t_undo2 (h6 : s.1 ≤ 6) (hC : CInv h (y, ((recH (recH s x) y).1 - 1, (recH (recH s x) y).2), w)) (hS : StOk (y, ((recH (recH s x) y).1 - 1, (recH (recH s x) y).2), w)) : sY l m_O_undo 3 [.ref 0] h (some (.int (nI ((recH (recH s x) y).1 - 1 - 1)))) (CR h (x, ((recH (recH s x) y).1 - 1 - 1, (recH (recH s x) y).2), w)) := by
  have a := recL (x := x) h6
  have b := recL (s := recH s x) (x := y) a.2.2.1
  have n2 := rec_2 (x := x) (y := y) h6
  have e : (recH (recH s x) y).2 ((recH (recH s x) y).1 - 1 - 1) = x := by
    rw [show (recH (recH s x) y).1 - 1 - 1 = (recH (recH s x) y).1 - 2 by omega, (b.2.2.2 n2).2]
    exact a.2.1
  have hne : (recH (recH s x) y).1 - 1 ≠ 0 := by omega
  have := k_undo (l := l) hC hS hne
  have this : sY l m_O_undo 3 [.ref 0] h (some (.int (nI ((recH (recH s x) y).1 - 1 - 1)))) (CR h ((recH (recH s x) y).2 ((recH (recH s x) y).1 - 1 - 1), ((recH (recH s x) y).1 - 1 - 1, (recH (recH s x) y).2), w)) := this
  rwa [e] at this
theorem t_und2 (h6 : s.1 ≤ 6) (hS : StOk (y, ((recH (recH s x) y).1 - 1, (recH (recH s x) y).2), w)) : StOk (x, ((recH (recH s x) y).1 - 1 - 1, (recH (recH s x) y).2), w) := by
  have a := recL (x := x) h6
  have b := recL (s := recH s x) (x := y) a.2.2.1
  have n2 := rec_2 (x := x) (y := y) h6
  have e : (recH (recH s x) y).2 ((recH (recH s x) y).1 - 1 - 1) = x := by
    rw [show (recH (recH s x) y).1 - 1 - 1 = (recH (recH s x) y).1 - 2 by omega, (b.2.2.2 n2).2]
    exact a.2.1
  have hne : (recH (recH s x) y).1 - 1 ≠ 0 := by omega
  have := und_ok hS hne
  have this : StOk ((recH (recH s x) y).2 ((recH (recH s x) y).1 - 1 - 1), ((recH (recH s x) y).1 - 1 - 1, (recH (recH s x) y).2), w) := this
  rwa [e] at this
end T2
theorem told_g0 : told st0.1 = 0 := sm_zero fun _ _ => rfl
set_option maxRecDepth 4000 in
theorem law_sEv {l : Launch} {b L : Nat} {xs : Nat → Int32} (hL0 : L ≤ 260) {h : sH} (e0 : h.1 = 0) : sEv l m_Law_law 20 (0, 0, 600000, 7302250) (lK b L xs) 0 [some (.retAddr b), none, none, none, none, none, none, none] [] h := by
  have hL : L < 2 ^ 31 := by omega
  refine e_new (p' := 3) D_Law_law_0 N_Law_21 ⟨Nat.le_of_ble_eq_true rfl, Nat.le_of_ble_eq_true rfl⟩ rfl ?_
  refine ev_push (fun h1 n1 c1 f1 => ?_)
  rw [e0] at n1 c1 f1 ⊢
  have e1 : h1.1 = 1 := n1
  refine e_dup (p' := 4) D_Law_law_3 rfl rfl ?_
  refine e_callI (p' := 7) D_Law_law_4 I_Law_82 (c_O_init e1 c1) rfl rfl (Nat.le_of_ble_eq_true rfl) (by decide) ⟨Nat.le_of_ble_eq_true rfl, Nat.le_of_ble_eq_true rfl⟩ rfl ?_
  rintro _ h2 ⟨rfl, ⟨n2, C2⟩, f2⟩
  try simp only [Option.toList, List.nil_append]
  have c2 := C2.1
  refine e_astore_1 (p' := 8) D_Law_law_7 (Nat.le_of_ble_eq_true rfl) rfl rfl ?_
  refine e_aload_1 (p' := 9) D_Law_law_8 rfl ?_
  refine y_callV1 (p' := 12) D_Law_law_9 V_Law_50 (c_O_completions C2 st0_ok) rfl (by first | assumption | exact sUp_eq | (rw [sUp_ne (by omega)]; assumption) | (rw [sUp_ne (by omega), sUp_ne (by omega)]; assumption) | (rw [sUp_ne (by omega)]; exact sUp_eq) | (rw [gSet_ne (by omega) (by omega)]; first | assumption | exact sUp_eq | (rw [sUp_ne (by omega)]; assumption) | (rw [sUp_ne (by omega), sUp_ne (by omega)]; assumption)) | (rw [sUp_ne (by omega), sUp_ne (by omega), sUp_ne (by omega)]; assumption) | (simp [sUp]; done)) rfl (Nat.le_of_ble_eq_true rfl) (by decide) ⟨Nat.le_of_ble_eq_true rfl, Nat.le_of_ble_eq_true rfl⟩ rfl ?_
  rintro h3 ⟨C3, F3⟩
  have c3 := C3.1
  rw [cpl_g0]
  refine e_ldc2 (p' := 15) D_Law_law_12 K_Law_83 rfl ?_
  refine e_lcmp (p' := 16) D_Law_law_15 rfl ?_
  refine e_if_ne (q := 54) (p' := 19) D_Law_law_16 rfl rfl (fun hc16 => ?_) (fun hc16 => ?_)
  ·
    exact absurd (lg_cmp_r _) hc16
  ·
    refine e_aload_1 (p' := 20) D_Law_law_19 rfl ?_
    refine e_aloadA_0 (p' := 21) D_Law_law_20 rfl ?_
    refine e_callSL lK_X D_Law_law_21 S_Law_85 (c_Law_build C3 st0_ok told_g0 hL) rfl rfl (Nat.le_of_ble_eq_true rfl) (by decide) ⟨Nat.le_of_ble_eq_true rfl, Nat.le_of_ble_eq_true rfl⟩ rfl ?_
    rintro _ h4 ⟨rfl, x, hs, C4, hS4⟩
    try simp only [Option.toList, List.cons_append, List.nil_append]
    have c4 := C4.1
    refine e_ifN_eq (q := 54) (p' := 27) D_Law_law_24 (by omega) rfl rfl (fun hc24 => ?_) (fun hc24 => ?_)
    ·
      first | exact absurd rfl hc24 | exact hc24 rfl | (exfalso; omega) | exact absurd hc24 (by decide) | exact absurd hc24 (by simp [*])
    ·
      refine e_aload_1 (p' := 28) D_Law_law_27 rfl ?_
      refine y_callS1 (p' := 31) D_Law_law_28 S_Law_89 (c_Law_parts C4 hS4) rfl rfl (Nat.le_of_ble_eq_true rfl) (by decide) ⟨Nat.le_of_ble_eq_true rfl, Nat.le_of_ble_eq_true rfl⟩ rfl ?_
      rintro h5 C5
      have c5 := C5.1
      refine e_ifN_eq (q := 54) (p' := 34) D_Law_law_31 (by omega) rfl rfl (fun hc31 => ?_) (fun hc31 => ?_)
      ·
        first | exact absurd rfl hc31 | exact hc31 rfl | (exfalso; omega) | exact absurd hc31 (by decide) | exact absurd hc31 (by simp [*])
      ·
        refine e_aload_1 (p' := 35) D_Law_law_34 rfl ?_
        refine y_callS1 (p' := 38) D_Law_law_35 S_Law_93 (c_Law_cycles C5 hS4) rfl rfl (Nat.le_of_ble_eq_true rfl) (by decide) ⟨Nat.le_of_ble_eq_true rfl, Nat.le_of_ble_eq_true rfl⟩ rfl ?_
        rintro h6 C6
        have c6 := C6.1
        refine e_ifN_eq (q := 54) (p' := 41) D_Law_law_38 (by omega) rfl rfl (fun hc38 => ?_) (fun hc38 => ?_)
        ·
          first | exact absurd rfl hc38 | exact hc38 rfl | (exfalso; omega) | exact absurd hc38 (by decide) | exact absurd hc38 (by simp [*])
        ·
          refine e_aload_1 (p' := 42) D_Law_law_41 rfl ?_
          refine e_aloadA_0 (p' := 43) D_Law_law_42 rfl ?_
          refine e_bipush (v := nI 41) (p' := 45) D_Law_law_43 cst_bipush_41 rfl ?_
          refine e_cell lK_X hL (by omega) (p' := 48) D_Law_law_45 S_Law_10 (Nat.le_of_ble_eq_true rfl) (by decide) ⟨Nat.le_of_ble_eq_true rfl, Nat.le_of_ble_eq_true rfl⟩ rfl (fun w45 => ?_)
          refine y_callS1 (p' := 51) D_Law_law_48 S_Law_95 (c_Law_tries C6 hS4) rfl rfl (Nat.le_of_ble_eq_true rfl) (by decide) ⟨Nat.le_of_ble_eq_true rfl, Nat.le_of_ble_eq_true rfl⟩ rfl ?_
          rintro h7 ⟨hs7, C7, hS7⟩
          have C7 : CInv h7 (x, hs7, st0.2.2) := C7
          have hS7 : StOk (x, hs7, st0.2.2) := hS7
          have c7 := C7.1
          have hx : Gok x := hS7.1
          refine e_ifN_ne (q := 56) (p' := 54) D_Law_law_51 (by omega) rfl rfl (fun hc51 => ?_) (fun hc51 => ?_)
          ·
            refine e_aload_1 (p' := 57) D_Law_law_56 rfl ?_
            refine e_iconst (v := nI 5) (p' := 58) D_Law_law_57 cst_iconst_5 rfl ?_
            refine y_callV1 (p' := 61) D_Law_law_58 V_Law_26 (t_cnt5 C7 hS7) rfl (by first | assumption | exact sUp_eq | (rw [sUp_ne (by omega)]; assumption) | (rw [sUp_ne (by omega), sUp_ne (by omega)]; assumption) | (rw [sUp_ne (by omega)]; exact sUp_eq) | (rw [gSet_ne (by omega) (by omega)]; first | assumption | exact sUp_eq | (rw [sUp_ne (by omega)]; assumption) | (rw [sUp_ne (by omega), sUp_ne (by omega)]; assumption)) | (rw [sUp_ne (by omega), sUp_ne (by omega), sUp_ne (by omega)]; assumption) | (simp [sUp]; done)) rfl (Nat.le_of_ble_eq_true rfl) (by decide) ⟨Nat.le_of_ble_eq_true rfl, Nat.le_of_ble_eq_true rfl⟩ rfl ?_
            rintro h8 ⟨C8, F8⟩
            have c8 := C8.1
            refine e_ifB_ne (q := 99) (p' := 64) D_Law_law_61 rfl rfl (fun hc61 => ?_) (fun hc61 => ?_)
            ·
              refine e_aload_1 (p' := 100) D_Law_law_99 rfl ?_
              refine e_aloadA_0 (p' := 101) D_Law_law_100 rfl ?_
              refine e_bipush (v := nI 42) (p' := 103) D_Law_law_101 cst_bipush_42 rfl ?_
              refine e_cell lK_X hL (by omega) (p' := 106) D_Law_law_103 S_Law_10 (Nat.le_of_ble_eq_true rfl) (by decide) ⟨Nat.le_of_ble_eq_true rfl, Nat.le_of_ble_eq_true rfl⟩ rfl (fun w103 => ?_)
              refine y_callS1 (p' := 109) D_Law_law_106 S_Law_102 (c_Law_completions C8 hS7 hc61) rfl rfl (Nat.le_of_ble_eq_true rfl) (by decide) ⟨Nat.le_of_ble_eq_true rfl, Nat.le_of_ble_eq_true rfl⟩ rfl ?_
              rintro h9 C9
              have c9 := C9.1
              obtain ⟨hp1, hp2, hp3⟩ := cpl_pos hx hc61
              have hRR := hx.1
              have hCC := hx.2.1
              have hm := hx.2.2.1.le
              have htj := told_le_jn hx
              refine e_ifN_ne (q := 114) (p' := 112) D_Law_law_109 (by omega) rfl rfl (fun hc109 => ?_) (fun hc109 => ?_)
              ·
                refine e_aload_1 (p' := 115) D_Law_law_114 rfl ?_
                refine e_iconst (v := nI 3) (p' := 116) D_Law_law_115 cst_iconst_3 rfl ?_
                refine y_callV1 (p' := 119) D_Law_law_116 V_Law_26 (t_cnt3 C9 hS7) rfl (by first | assumption | exact sUp_eq | (rw [sUp_ne (by omega)]; assumption) | (rw [sUp_ne (by omega), sUp_ne (by omega)]; assumption) | (rw [sUp_ne (by omega)]; exact sUp_eq) | (rw [gSet_ne (by omega) (by omega)]; first | assumption | exact sUp_eq | (rw [sUp_ne (by omega)]; assumption) | (rw [sUp_ne (by omega), sUp_ne (by omega)]; assumption)) | (rw [sUp_ne (by omega), sUp_ne (by omega), sUp_ne (by omega)]; assumption) | (simp [sUp]; done)) rfl (Nat.le_of_ble_eq_true rfl) (by decide) ⟨Nat.le_of_ble_eq_true rfl, Nat.le_of_ble_eq_true rfl⟩ rfl ?_
                rintro h10 ⟨C10, F10⟩
                have c10 := C10.1
                refine e_istore_2 (p' := 120) D_Law_law_119 (Nat.le_of_ble_eq_true rfl) rfl rfl ?_
                refine e_aload_1 (p' := 121) D_Law_law_120 rfl ?_
                refine e_bipush (v := nI 6) (p' := 123) D_Law_law_121 cst_bipush_6 rfl ?_
                refine y_callV1 (p' := 126) D_Law_law_123 V_Law_26 (t_cnt6 C10 hS7) rfl (by first | assumption | exact sUp_eq | (rw [sUp_ne (by omega)]; assumption) | (rw [sUp_ne (by omega), sUp_ne (by omega)]; assumption) | (rw [sUp_ne (by omega)]; exact sUp_eq) | (rw [gSet_ne (by omega) (by omega)]; first | assumption | exact sUp_eq | (rw [sUp_ne (by omega)]; assumption) | (rw [sUp_ne (by omega), sUp_ne (by omega)]; assumption)) | (rw [sUp_ne (by omega), sUp_ne (by omega), sUp_ne (by omega)]; assumption) | (simp [sUp]; done)) rfl (Nat.le_of_ble_eq_true rfl) (by decide) ⟨Nat.le_of_ble_eq_true rfl, Nat.le_of_ble_eq_true rfl⟩ rfl ?_
                rintro h11 ⟨C11, F11⟩
                have c11 := C11.1
                refine e_istore_3 (p' := 127) D_Law_law_126 (Nat.le_of_ble_eq_true rfl) rfl rfl ?_
                refine e_aload_1 (p' := 128) D_Law_law_127 rfl ?_
                refine y_callV1 (p' := 131) D_Law_law_128 V_Law_50 (t_compl C11 hS7) rfl (by first | assumption | exact sUp_eq | (rw [sUp_ne (by omega)]; assumption) | (rw [sUp_ne (by omega), sUp_ne (by omega)]; assumption) | (rw [sUp_ne (by omega)]; exact sUp_eq) | (rw [gSet_ne (by omega) (by omega)]; first | assumption | exact sUp_eq | (rw [sUp_ne (by omega)]; assumption) | (rw [sUp_ne (by omega), sUp_ne (by omega)]; assumption)) | (rw [sUp_ne (by omega), sUp_ne (by omega), sUp_ne (by omega)]; assumption) | (simp [sUp]; done)) rfl (Nat.le_of_ble_eq_true rfl) (by decide) ⟨Nat.le_of_ble_eq_true rfl, Nat.le_of_ble_eq_true rfl⟩ rfl ?_
                rintro h12 ⟨C12, F12⟩
                have c12 := C12.1
                refine e_lstore_4 (p' := 133) D_Law_law_131 (Nat.le_of_ble_eq_true rfl) rfl rfl ?_
                refine e_aload_1 (p' := 134) D_Law_law_133 rfl ?_
                refine e_lload_4 (p' := 136) D_Law_law_134 rfl ?_
                refine e_lconst (v := lN 1) (p' := 137) D_Law_law_136 rfl rfl ?_
                refine e_lsub (p' := 138) D_Law_law_137 rfl ?_
                rw [lN_sub (by omega)]
                refine e_iconst (v := nI 0) (p' := 139) D_Law_law_138 cst_iconst_0 rfl ?_
                refine e_aload_1 (p' := 140) D_Law_law_139 rfl ?_
                refine e_iconst (v := nI 1) (p' := 141) D_Law_law_140 cst_iconst_1 rfl ?_
                refine y_callV1 (p' := 144) D_Law_law_141 V_Law_26 (t_cnt1 C12 hS7) rfl (by first | assumption | exact sUp_eq | (rw [sUp_ne (by omega)]; assumption) | (rw [sUp_ne (by omega), sUp_ne (by omega)]; assumption) | (rw [sUp_ne (by omega)]; exact sUp_eq) | (rw [gSet_ne (by omega) (by omega)]; first | assumption | exact sUp_eq | (rw [sUp_ne (by omega)]; assumption) | (rw [sUp_ne (by omega), sUp_ne (by omega)]; assumption)) | (rw [sUp_ne (by omega), sUp_ne (by omega), sUp_ne (by omega)]; assumption) | (simp [sUp]; done)) rfl (Nat.le_of_ble_eq_true rfl) (by decide) ⟨Nat.le_of_ble_eq_true rfl, Nat.le_of_ble_eq_true rfl⟩ rfl ?_
                rintro h13 ⟨C13, F13⟩
                have c13 := C13.1
                refine e_iconst (v := nI 1) (p' := 145) D_Law_law_144 cst_iconst_1 rfl ?_
                first | refine e_isubN (p' := 146) D_Law_law_145 (by omega) rfl ?_ | refine e_isub (p' := 146) D_Law_law_145 rfl ?_
                refine y_callV1 (p' := 149) D_Law_law_146 V_Law_46 (t_cmd C13 hS7 (k := cpl x - 1) (r := 0) (c := x.1.2.1 - 1) (by omega) (by omega) (by omega)) rfl (by first | assumption | exact sUp_eq | (rw [sUp_ne (by omega)]; assumption) | (rw [sUp_ne (by omega), sUp_ne (by omega)]; assumption) | (rw [sUp_ne (by omega)]; exact sUp_eq) | (rw [gSet_ne (by omega) (by omega)]; first | assumption | exact sUp_eq | (rw [sUp_ne (by omega)]; assumption) | (rw [sUp_ne (by omega), sUp_ne (by omega)]; assumption)) | (rw [sUp_ne (by omega), sUp_ne (by omega), sUp_ne (by omega)]; assumption) | (simp [sUp]; done)) rfl (Nat.le_of_ble_eq_true rfl) (by decide) ⟨Nat.le_of_ble_eq_true rfl, Nat.le_of_ble_eq_true rfl⟩ rfl ?_
                rintro h14 ⟨C14, F14⟩
                have c14 := C14.1
                refine e_istore_6 (p' := 151) D_Law_law_149 (Nat.le_of_ble_eq_true rfl) rfl rfl ?_
                refine e_aload_1 (p' := 152) D_Law_law_151 rfl ?_
                refine y_callV1 (p' := 155) D_Law_law_152 V_Law_99 (t_tellAll C14 hS7 hc61) rfl (by first | assumption | exact sUp_eq | (rw [sUp_ne (by omega)]; assumption) | (rw [sUp_ne (by omega), sUp_ne (by omega)]; assumption) | (rw [sUp_ne (by omega)]; exact sUp_eq) | (rw [gSet_ne (by omega) (by omega)]; first | assumption | exact sUp_eq | (rw [sUp_ne (by omega)]; assumption) | (rw [sUp_ne (by omega), sUp_ne (by omega)]; assumption)) | (rw [sUp_ne (by omega), sUp_ne (by omega), sUp_ne (by omega)]; assumption) | (simp [sUp]; done)) rfl (Nat.le_of_ble_eq_true rfl) (by decide) ⟨Nat.le_of_ble_eq_true rfl, Nat.le_of_ble_eq_true rfl⟩ rfl ?_
                rintro h15 ⟨C15, F15⟩
                have c15 := C15.1
                have hS15 : StOk (taX x, recH hs7 x, st0.2.2) := chg_ok (st := (x, hs7, st0.2.2)) hS7 (taX_ok hx)
                refine e_iload_3 (p' := 156) D_Law_law_155 rfl ?_
                refine e_iload_2 (p' := 157) D_Law_law_156 rfl ?_
                first | refine e_isubN (p' := 158) D_Law_law_157 (by omega) rfl ?_ | refine e_isub (p' := 158) D_Law_law_157 rfl ?_
                refine e_icmp_ne (q := 223) (p' := 161) D_Law_law_158 rfl rfl (fun hc158 => ?_) (fun hc158 => ?_)
                ·
                  first | exact absurd rfl hc158 | exact hc158 rfl | (exfalso; omega) | exact absurd hc158 (by decide) | exact absurd hc158 (by simp [*])
                ·
                  refine e_aload_1 (p' := 162) D_Law_law_161 rfl ?_
                  refine e_iconst (v := nI 3) (p' := 163) D_Law_law_162 cst_iconst_3 rfl ?_
                  refine y_callV1 (p' := 166) D_Law_law_163 V_Law_26 (t_cnt3 C15 hS15) rfl (by first | assumption | exact sUp_eq | (rw [sUp_ne (by omega)]; assumption) | (rw [sUp_ne (by omega), sUp_ne (by omega)]; assumption) | (rw [sUp_ne (by omega)]; exact sUp_eq) | (rw [gSet_ne (by omega) (by omega)]; first | assumption | exact sUp_eq | (rw [sUp_ne (by omega)]; assumption) | (rw [sUp_ne (by omega), sUp_ne (by omega)]; assumption)) | (rw [sUp_ne (by omega), sUp_ne (by omega), sUp_ne (by omega)]; assumption) | (simp [sUp]; done)) rfl (Nat.le_of_ble_eq_true rfl) (by decide) ⟨Nat.le_of_ble_eq_true rfl, Nat.le_of_ble_eq_true rfl⟩ rfl ?_
                  rintro h16 ⟨C16, F16⟩
                  have c16 := C16.1
                  rw [told_ta_eq hx]
                  refine e_iload_3 (p' := 167) D_Law_law_166 rfl ?_
                  refine e_icmp_ne (q := 223) (p' := 170) D_Law_law_167 rfl rfl (fun hc167 => ?_) (fun hc167 => ?_)
                  ·
                    first | exact absurd rfl hc167 | exact hc167 rfl | (exfalso; omega) | exact absurd hc167 (by decide) | exact absurd hc167 (by simp [*])
                  ·
                    refine e_aload_1 (p' := 171) D_Law_law_170 rfl ?_
                    refine e_iconst (v := nI 5) (p' := 172) D_Law_law_171 cst_iconst_5 rfl ?_
                    refine y_callV1 (p' := 175) D_Law_law_172 V_Law_26 (t_cnt5 C16 hS15) rfl (by first | assumption | exact sUp_eq | (rw [sUp_ne (by omega)]; assumption) | (rw [sUp_ne (by omega), sUp_ne (by omega)]; assumption) | (rw [sUp_ne (by omega)]; exact sUp_eq) | (rw [gSet_ne (by omega) (by omega)]; first | assumption | exact sUp_eq | (rw [sUp_ne (by omega)]; assumption) | (rw [sUp_ne (by omega), sUp_ne (by omega)]; assumption)) | (rw [sUp_ne (by omega), sUp_ne (by omega), sUp_ne (by omega)]; assumption) | (simp [sUp]; done)) rfl (Nat.le_of_ble_eq_true rfl) (by decide) ⟨Nat.le_of_ble_eq_true rfl, Nat.le_of_ble_eq_true rfl⟩ rfl ?_
                    rintro h17 ⟨C17, F17⟩
                    have c17 := C17.1
                    rw [well_ta hx]
                    refine e_iconst (v := nI 1) (p' := 176) D_Law_law_175 cst_iconst_1 rfl ?_
                    refine e_icmp_ne (q := 223) (p' := 179) D_Law_law_176 rfl rfl (fun hc176 => ?_) (fun hc176 => ?_)
                    ·
                      first | exact absurd rfl hc176 | exact hc176 rfl | (exfalso; omega) | exact absurd hc176 (by decide) | exact absurd hc176 (by simp [*])
                    ·
                      refine e_aload_1 (p' := 180) D_Law_law_179 rfl ?_
                      refine y_callV1 (p' := 183) D_Law_law_180 V_Law_50 (t_compl C17 hS15) rfl (by first | assumption | exact sUp_eq | (rw [sUp_ne (by omega)]; assumption) | (rw [sUp_ne (by omega), sUp_ne (by omega)]; assumption) | (rw [sUp_ne (by omega)]; exact sUp_eq) | (rw [gSet_ne (by omega) (by omega)]; first | assumption | exact sUp_eq | (rw [sUp_ne (by omega)]; assumption) | (rw [sUp_ne (by omega), sUp_ne (by omega)]; assumption)) | (rw [sUp_ne (by omega), sUp_ne (by omega), sUp_ne (by omega)]; assumption) | (simp [sUp]; done)) rfl (Nat.le_of_ble_eq_true rfl) (by decide) ⟨Nat.le_of_ble_eq_true rfl, Nat.le_of_ble_eq_true rfl⟩ rfl ?_
                      rintro h18 ⟨C18, F18⟩
                      have c18 := C18.1
                      rw [cpl_ta hx hc61]
                      refine e_lload_4 (p' := 185) D_Law_law_183 rfl ?_
                      refine e_lcmp (p' := 186) D_Law_law_185 rfl ?_
                      refine e_if_ne (q := 223) (p' := 189) D_Law_law_186 rfl rfl (fun hc186 => ?_) (fun hc186 => ?_)
                      ·
                        exact absurd (lg_cmp_r _) hc186
                      ·
                        refine e_aload_1 (p' := 190) D_Law_law_189 rfl ?_
                        refine e_lload_4 (p' := 192) D_Law_law_190 rfl ?_
                        refine e_lconst (v := lN 1) (p' := 193) D_Law_law_192 rfl rfl ?_
                        refine e_lsub (p' := 194) D_Law_law_193 rfl ?_
                        rw [lN_sub (by omega)]
                        refine e_iconst (v := nI 0) (p' := 195) D_Law_law_194 cst_iconst_0 rfl ?_
                        refine e_aload_1 (p' := 196) D_Law_law_195 rfl ?_
                        refine e_iconst (v := nI 1) (p' := 197) D_Law_law_196 cst_iconst_1 rfl ?_
                        refine y_callV1 (p' := 200) D_Law_law_197 V_Law_26 (t_cnt1 C18 hS15) rfl (by first | assumption | exact sUp_eq | (rw [sUp_ne (by omega)]; assumption) | (rw [sUp_ne (by omega), sUp_ne (by omega)]; assumption) | (rw [sUp_ne (by omega)]; exact sUp_eq) | (rw [gSet_ne (by omega) (by omega)]; first | assumption | exact sUp_eq | (rw [sUp_ne (by omega)]; assumption) | (rw [sUp_ne (by omega), sUp_ne (by omega)]; assumption)) | (rw [sUp_ne (by omega), sUp_ne (by omega), sUp_ne (by omega)]; assumption) | (simp [sUp]; done)) rfl (Nat.le_of_ble_eq_true rfl) (by decide) ⟨Nat.le_of_ble_eq_true rfl, Nat.le_of_ble_eq_true rfl⟩ rfl ?_
                        rintro h19 ⟨C19, F19⟩
                        have c19 := C19.1
                        rw [show (taX x).1.2.1 = x.1.2.1 from rfl]
                        refine e_iconst (v := nI 1) (p' := 201) D_Law_law_200 cst_iconst_1 rfl ?_
                        first | refine e_isubN (p' := 202) D_Law_law_201 (by omega) rfl ?_ | refine e_isub (p' := 202) D_Law_law_201 rfl ?_
                        refine y_callV1 (p' := 205) D_Law_law_202 V_Law_46 (t_cmd C19 hS15 (k := cpl x - 1) (r := 0) (c := x.1.2.1 - 1) (by rw [cpl_ta hx hc61]; omega) (by show 0 < x.1.1; omega) (by show x.1.2.1 - 1 < x.1.2.1; omega)) rfl (by first | assumption | exact sUp_eq | (rw [sUp_ne (by omega)]; assumption) | (rw [sUp_ne (by omega), sUp_ne (by omega)]; assumption) | (rw [sUp_ne (by omega)]; exact sUp_eq) | (rw [gSet_ne (by omega) (by omega)]; first | assumption | exact sUp_eq | (rw [sUp_ne (by omega)]; assumption) | (rw [sUp_ne (by omega), sUp_ne (by omega)]; assumption)) | (rw [sUp_ne (by omega), sUp_ne (by omega), sUp_ne (by omega)]; assumption) | (simp [sUp]; done)) rfl (Nat.le_of_ble_eq_true rfl) (by decide) ⟨Nat.le_of_ble_eq_true rfl, Nat.le_of_ble_eq_true rfl⟩ rfl ?_
                        rintro h20 ⟨C20, F20⟩
                        have c20 := C20.1
                        rw [cv_ta hx (by omega) (by omega)]
                        refine e_iload_6 (p' := 207) D_Law_law_205 rfl ?_
                        refine e_icmp_ne (q := 223) (p' := 210) D_Law_law_207 rfl rfl (fun hc207 => ?_) (fun hc207 => ?_)
                        ·
                          first | exact absurd rfl hc207 | exact hc207 rfl | (exfalso; omega) | exact absurd hc207 (by decide) | exact absurd hc207 (by simp [*])
                        ·
                          refine e_aload_1 (p' := 211) D_Law_law_210 rfl ?_
                          refine e_bipush (v := nI 8) (p' := 213) D_Law_law_211 cst_bipush_8 rfl ?_
                          refine y_callV1 (p' := 216) D_Law_law_213 V_Law_26 (t_cnt8 C20 hS15) rfl (by first | assumption | exact sUp_eq | (rw [sUp_ne (by omega)]; assumption) | (rw [sUp_ne (by omega), sUp_ne (by omega)]; assumption) | (rw [sUp_ne (by omega)]; exact sUp_eq) | (rw [gSet_ne (by omega) (by omega)]; first | assumption | exact sUp_eq | (rw [sUp_ne (by omega)]; assumption) | (rw [sUp_ne (by omega), sUp_ne (by omega)]; assumption)) | (rw [sUp_ne (by omega), sUp_ne (by omega), sUp_ne (by omega)]; assumption) | (simp [sUp]; done)) rfl (Nat.le_of_ble_eq_true rfl) (by decide) ⟨Nat.le_of_ble_eq_true rfl, Nat.le_of_ble_eq_true rfl⟩ rfl ?_
                          rintro h21 ⟨C21, F21⟩
                          have c21 := C21.1
                          rw [mAll_well (taX_ok hx) (well_ta hx)]
                          refine e_ifN_ne (q := 223) (p' := 219) D_Law_law_216 (by omega) rfl rfl (fun hc216 => ?_) (fun hc216 => ?_)
                          ·
                            first | exact absurd rfl hc216 | exact hc216 rfl | (exfalso; omega) | exact absurd hc216 (by decide) | exact absurd hc216 (by simp [*])
                          ·
                            refine e_iconst (v := nI 1) (p' := 220) D_Law_law_219 cst_iconst_1 rfl ?_
                            refine e_goto (p' := 224) D_Law_law_220 rfl ?_
                            refine e_istore_7 (p' := 226) D_Law_law_224 (Nat.le_of_ble_eq_true rfl) rfl rfl ?_
                            refine e_iload_7 (p' := 228) D_Law_law_226 rfl ?_
                            refine e_ifN_eq (q := 265) (p' := 231) D_Law_law_228 (by omega) rfl rfl (fun hc228 => ?_) (fun hc228 => ?_)
                            ·
                              first | exact absurd rfl hc228 | exact hc228 rfl | (exfalso; omega) | exact absurd hc228 (by decide) | exact absurd hc228 (by simp [*])
                            ·
                              refine e_aload_1 (p' := 232) D_Law_law_231 rfl ?_
                              refine y_callV1 (p' := 235) D_Law_law_232 V_Law_99 (t_tellAll C21 hS15 (well_ta hx)) rfl (by first | assumption | exact sUp_eq | (rw [sUp_ne (by omega)]; assumption) | (rw [sUp_ne (by omega), sUp_ne (by omega)]; assumption) | (rw [sUp_ne (by omega)]; exact sUp_eq) | (rw [gSet_ne (by omega) (by omega)]; first | assumption | exact sUp_eq | (rw [sUp_ne (by omega)]; assumption) | (rw [sUp_ne (by omega), sUp_ne (by omega)]; assumption)) | (rw [sUp_ne (by omega), sUp_ne (by omega), sUp_ne (by omega)]; assumption) | (simp [sUp]; done)) rfl (Nat.le_of_ble_eq_true rfl) (by decide) ⟨Nat.le_of_ble_eq_true rfl, Nat.le_of_ble_eq_true rfl⟩ rfl ?_
                              rintro h22 ⟨C22, F22⟩
                              have c22 := C22.1
                              have hS22 : StOk (taX (taX x), recH (recH hs7 x) (taX x), st0.2.2) := chg_ok (st := (taX x, recH hs7 x, st0.2.2)) hS15 (taX_ok (taX_ok hx))
                              have h6 : hs7.1 ≤ 6 := hS7.2.1.1
                              have h66 := (recL (s := hs7) (x := x) h6).2.2.1
                              have h67 := (recL (s := recH hs7 x) (x := taX x) h66).2.2.1
                              rw [jnE_ta hx, told_ta_eq hx, Nat.sub_self]
                              refine e_ifN_ne (q := 265) (p' := 238) D_Law_law_235 (by omega) rfl rfl (fun hc235 => ?_) (fun hc235 => ?_)
                              ·
                                first | exact absurd rfl hc235 | exact hc235 rfl | (exfalso; omega) | exact absurd hc235 (by decide) | exact absurd hc235 (by simp [*])
                              ·
                                refine e_aload_1 (p' := 239) D_Law_law_238 rfl ?_
                                refine y_callV1 (p' := 242) D_Law_law_239 V_Law_70 (t_undo C22 hS22 h66) rfl (by first | assumption | exact sUp_eq | (rw [sUp_ne (by omega)]; assumption) | (rw [sUp_ne (by omega), sUp_ne (by omega)]; assumption) | (rw [sUp_ne (by omega)]; exact sUp_eq) | (rw [gSet_ne (by omega) (by omega)]; first | assumption | exact sUp_eq | (rw [sUp_ne (by omega)]; assumption) | (rw [sUp_ne (by omega), sUp_ne (by omega)]; assumption)) | (rw [sUp_ne (by omega), sUp_ne (by omega), sUp_ne (by omega)]; assumption) | (simp [sUp]; done)) rfl (Nat.le_of_ble_eq_true rfl) (by decide) ⟨Nat.le_of_ble_eq_true rfl, Nat.le_of_ble_eq_true rfl⟩ rfl ?_
                                rintro h23 ⟨C23, F23⟩
                                have c23 := C23.1
                                have hS23 := t_und hS22 h66
                                refine e_ifN_lt (q := 265) (p' := 245) D_Law_law_242 (by omega) rfl rfl (fun hc242 => ?_) (fun hc242 => ?_)
                                ·
                                  exfalso; omega
                                ·
                                  refine e_aload_1 (p' := 246) D_Law_law_245 rfl ?_
                                  refine y_callV1 (p' := 249) D_Law_law_246 V_Law_70 (t_undo2 h6 C23 hS23) rfl (by first | assumption | exact sUp_eq | (rw [sUp_ne (by omega)]; assumption) | (rw [sUp_ne (by omega), sUp_ne (by omega)]; assumption) | (rw [sUp_ne (by omega)]; exact sUp_eq) | (rw [gSet_ne (by omega) (by omega)]; first | assumption | exact sUp_eq | (rw [sUp_ne (by omega)]; assumption) | (rw [sUp_ne (by omega), sUp_ne (by omega)]; assumption)) | (rw [sUp_ne (by omega), sUp_ne (by omega), sUp_ne (by omega)]; assumption) | (simp [sUp]; done)) rfl (Nat.le_of_ble_eq_true rfl) (by decide) ⟨Nat.le_of_ble_eq_true rfl, Nat.le_of_ble_eq_true rfl⟩ rfl ?_
                                  rintro h24 ⟨C24, F24⟩
                                  have c24 := C24.1
                                  have hS24 := t_und2 h6 hS23
                                  refine e_ifN_lt (q := 265) (p' := 252) D_Law_law_249 (by omega) rfl rfl (fun hc249 => ?_) (fun hc249 => ?_)
                                  ·
                                    exfalso; omega
                                  ·
                                    refine e_aload_1 (p' := 253) D_Law_law_252 rfl ?_
                                    refine e_iconst (v := nI 3) (p' := 254) D_Law_law_253 cst_iconst_3 rfl ?_
                                    refine y_callV1 (p' := 257) D_Law_law_254 V_Law_26 (t_cnt3 C24 hS24) rfl (by first | assumption | exact sUp_eq | (rw [sUp_ne (by omega)]; assumption) | (rw [sUp_ne (by omega), sUp_ne (by omega)]; assumption) | (rw [sUp_ne (by omega)]; exact sUp_eq) | (rw [gSet_ne (by omega) (by omega)]; first | assumption | exact sUp_eq | (rw [sUp_ne (by omega)]; assumption) | (rw [sUp_ne (by omega), sUp_ne (by omega)]; assumption)) | (rw [sUp_ne (by omega), sUp_ne (by omega), sUp_ne (by omega)]; assumption) | (simp [sUp]; done)) rfl (Nat.le_of_ble_eq_true rfl) (by decide) ⟨Nat.le_of_ble_eq_true rfl, Nat.le_of_ble_eq_true rfl⟩ rfl ?_
                                    rintro h25 ⟨C25, F25⟩
                                    have c25 := C25.1
                                    refine e_iload_2 (p' := 258) D_Law_law_257 rfl ?_
                                    refine e_icmp_ne (q := 265) (p' := 261) D_Law_law_258 rfl rfl (fun hc258 => ?_) (fun hc258 => ?_)
                                    ·
                                      first | exact absurd rfl hc258 | exact hc258 rfl | (exfalso; omega) | exact absurd hc258 (by decide) | exact absurd hc258 (by simp [*])
                                    ·
                                      refine e_iconst (v := nI 1) (p' := 262) D_Law_law_261 cst_iconst_1 rfl ?_
                                      refine e_goto (p' := 266) D_Law_law_262 rfl ?_
                                      exact e_Lret D_Law_law_266 ⟨Nat.le_of_ble_eq_true rfl, Nat.le_of_ble_eq_true rfl⟩
              ·
                first | exact absurd rfl hc109 | exact hc109 rfl | (exfalso; omega) | exact absurd hc109 (by decide) | exact absurd hc109 (by simp [*])
            ·
              refine e_aload_1 (p' := 65) D_Law_law_64 rfl ?_
              refine y_callV1 (p' := 68) D_Law_law_65 V_Law_50 (t_compl C8 hS7) rfl (by first | assumption | exact sUp_eq | (rw [sUp_ne (by omega)]; assumption) | (rw [sUp_ne (by omega), sUp_ne (by omega)]; assumption) | (rw [sUp_ne (by omega)]; exact sUp_eq) | (rw [gSet_ne (by omega) (by omega)]; first | assumption | exact sUp_eq | (rw [sUp_ne (by omega)]; assumption) | (rw [sUp_ne (by omega), sUp_ne (by omega)]; assumption)) | (rw [sUp_ne (by omega), sUp_ne (by omega), sUp_ne (by omega)]; assumption) | (simp [sUp]; done)) rfl (Nat.le_of_ble_eq_true rfl) (by decide) ⟨Nat.le_of_ble_eq_true rfl, Nat.le_of_ble_eq_true rfl⟩ rfl ?_
              rintro h9 ⟨C9, F9⟩
              have c9 := C9.1
              have hc0 : cpl x = 0 := if_neg (by rw [hc61]; decide)
              rw [hc0]
              refine e_lconst (v := lN 0) (p' := 69) D_Law_law_68 rfl rfl ?_
              refine e_lcmp (p' := 70) D_Law_law_69 rfl ?_
              refine e_if_ne (q := 97) (p' := 73) D_Law_law_70 rfl rfl (fun hc70 => ?_) (fun hc70 => ?_)
              ·
                exact absurd (lg_cmp_r _) hc70
              ·
                refine e_aload_1 (p' := 74) D_Law_law_73 rfl ?_
                refine y_callV1 (p' := 77) D_Law_law_74 V_Law_99 (t_tellAllN C9 hS7 hc61) rfl (by first | assumption | exact sUp_eq | (rw [sUp_ne (by omega)]; assumption) | (rw [sUp_ne (by omega), sUp_ne (by omega)]; assumption) | (rw [sUp_ne (by omega)]; exact sUp_eq) | (rw [gSet_ne (by omega) (by omega)]; first | assumption | exact sUp_eq | (rw [sUp_ne (by omega)]; assumption) | (rw [sUp_ne (by omega), sUp_ne (by omega)]; assumption)) | (rw [sUp_ne (by omega), sUp_ne (by omega), sUp_ne (by omega)]; assumption) | (simp [sUp]; done)) rfl (Nat.le_of_ble_eq_true rfl) (by decide) ⟨Nat.le_of_ble_eq_true rfl, Nat.le_of_ble_eq_true rfl⟩ rfl ?_
                rintro h10 ⟨C10, F10⟩
                have c10 := C10.1
                refine e_bipush (v := (-5)) (p' := 79) D_Law_law_77 cst_bipush_m5 rfl ?_
                refine e_icmp_ne (q := 97) (p' := 82) D_Law_law_79 rfl rfl (fun hc79 => ?_) (fun hc79 => ?_)
                ·
                  first | exact absurd rfl hc79 | exact hc79 rfl | (exfalso; omega) | exact absurd hc79 (by decide) | exact absurd hc79 (by simp [*])
                ·
                  refine e_aload_1 (p' := 83) D_Law_law_82 rfl ?_
                  refine e_lconst (v := lN 0) (p' := 84) D_Law_law_83 rfl rfl ?_
                  refine e_iconst (v := nI 0) (p' := 85) D_Law_law_84 cst_iconst_0 rfl ?_
                  refine e_iconst (v := nI 0) (p' := 86) D_Law_law_85 cst_iconst_0 rfl ?_
                  refine y_callV1 (p' := 89) D_Law_law_86 V_Law_46 (t_cmd0 C10 hS7 hc0) rfl (by first | assumption | exact sUp_eq | (rw [sUp_ne (by omega)]; assumption) | (rw [sUp_ne (by omega), sUp_ne (by omega)]; assumption) | (rw [sUp_ne (by omega)]; exact sUp_eq) | (rw [gSet_ne (by omega) (by omega)]; first | assumption | exact sUp_eq | (rw [sUp_ne (by omega)]; assumption) | (rw [sUp_ne (by omega), sUp_ne (by omega)]; assumption)) | (rw [sUp_ne (by omega), sUp_ne (by omega), sUp_ne (by omega)]; assumption) | (simp [sUp]; done)) rfl (Nat.le_of_ble_eq_true rfl) (by decide) ⟨Nat.le_of_ble_eq_true rfl, Nat.le_of_ble_eq_true rfl⟩ rfl ?_
                  rintro h11 ⟨C11, F11⟩
                  have c11 := C11.1
                  refine e_iconst (v := (-1)) (p' := 90) D_Law_law_89 cst_iconst_m1 rfl ?_
                  refine e_icmp_ne (q := 97) (p' := 93) D_Law_law_90 rfl rfl (fun hc90 => ?_) (fun hc90 => ?_)
                  ·
                    first | exact absurd rfl hc90 | exact hc90 rfl | (exfalso; omega) | exact absurd hc90 (by decide) | exact absurd hc90 (by simp [*])
                  ·
                    refine e_iconst (v := nI 1) (p' := 94) D_Law_law_93 cst_iconst_1 rfl ?_
                    refine e_goto (p' := 98) D_Law_law_94 rfl ?_
                    exact e_Lret D_Law_law_98 ⟨Nat.le_of_ble_eq_true rfl, Nat.le_of_ble_eq_true rfl⟩
          ·
            first | exact absurd rfl hc51 | exact hc51 rfl | (exfalso; omega) | exact absurd hc51 (by decide) | exact absurd hc51 (by simp [*])
