/-! ===== new cells, calls, ends ===== -/
def sNL (own : String) (idx ci : Nat) (fs : List Value) : Prop := ∃ (C : String) (T : u_T) (N : Nat) (ty0 : Nat → FieldType), vwCl[ci]? = some (C, T, N) ∧ Cond.classLink own idx C ∈ lw_good ∧ Cond.instantiable C N ∈ lw_good ∧ Cond.initialized C ∈ lw_good ∧ (∀ w ∈ u_ws C T N, w ∈ lw_good) ∧
  (∀ j, j < N → parseFieldDescriptor (T j).2.2.1 = some (ty0 j)) ∧ (∀ j, j < N → defaultValue (ty0 j) = vp_V fs j) ∧ (∀ b, fs.map (sTr b) = fs) ∧ fs.length = N
/-- a method that may be called: its words -/
def sML (M : sM) (n : Nat) : Prop := Cond.code M.1 M.2.1 M.2.2.1 M.2.2.2 ∈ lw_good ∧ Cond.initialized M.1.cls ∈ lw_good ∧ (M.1.cls ≠ "java/lang/invoke/MethodHandle" ∧ M.1.cls ≠ "java/lang/invoke/VarHandle") ∧ (parseMethodDescriptor M.1.desc).map (fun d => d.parameters.length) = some n ∧ M.2.2.1 ≤ 40
def sVL (own : String) (idx ci : Nat) (M : sM) (n : Nat) : Prop := sML M n ∧ Cond.methodLink own idx M.1 ∈ lw_good ∧ Cond.instanceMethod M.1 ∈ lw_good ∧ Cond.selects M.1.cls M.1 M.1 ∈ lw_good ∧ ∃ T N, vwCl[ci]? = some (M.1.cls, T, N)
def sSL (own : String) (idx : Nat) (M : sM) (n : Nat) : Prop := sML M n ∧ Cond.methodLink own idx M.1 ∈ lw_good ∧ Cond.static M.1 ∈ lw_good
def sSNL (own : String) (idx : Nat) (M : sM) (n : Nat) : Prop := sML M n ∧ (∃ host, Cond.methodLinkNest own idx M.1 host ∈ sNest) ∧ Cond.static M.1 ∈ lw_good
def sIL (own : String) (idx : Nat) (M : sM) (n : Nat) : Prop := sML M n ∧ Cond.methodLink own idx M.1 ∈ lw_good ∧ Cond.instanceMethod M.1 ∈ lw_good ∧ M.1.name = "<init>" ∧ M.2.2.2 = none
def sINL (own : String) (idx : Nat) (M : sM) (n : Nat) : Prop := sML M n ∧ (∃ host, Cond.methodLinkNest own idx M.1 host ∈ sNest) ∧ Cond.instanceMethod M.1 ∈ lw_good ∧ M.1.name = "<init>" ∧ M.2.2.2 = none
theorem sGoodWs {M : sM} {n : Nat} (h : sML M n) : GoodIn lw_good (sWs M) := by
  intro w hw
  rcases List.mem_cons.mp hw with rfl | hw
  · exact ⟨h.1, good_of_word (lw_good_word h.1)⟩
  · exact ⟨hw, good_of_word (lw_good_word hw)⟩
theorem sPc_blind {G : sG} {as : List Value} {h : sH} : FrameBlind (sPc G as h) := fun a U g mk q => ⟨q.1, q.2.1, q.2.2.blind⟩
section CALLS
variable {l : Launch} {M : sM} {d : Nat} {B : sB} {K : sK} {pc p' : Nat} {lv : List (Option Value)} {st : List Value} {h : sH}
theorem e_new {idx ci : Nat} {fs : List Value} (hd : decode M.2.1 pc = .ok (.new idx, 3)) (F : sNL M.1.cls idx ci fs) (hB : B.1 + 1 ≤ B.2.2.1 ∧ B.2.1 + fs.length ≤ B.2.2.2) (hp : pc + 3 = p') (kk : sEv l M d (B.1 + 1, B.2.1 + fs.length, B.2.2) K p' lv (.ref h.1 :: st) (sPush h (.inr (.inr (ci, fs))))) : sEv l M d B K pc lv st h := by
  subst hp
  intro G p e R s m args below meth c H locs ls C hR hS hL
  have C0 := C
  obtain ⟨hx, hb, hml, hrt, hlk, hown, hin, hts, hBa, hrm, hG, hK⟩ := C
  obtain ⟨Cn, T, N, ty0, h1, h2, h3, h4, h5, h6, h7, h8, h9⟩ := F
  have hKn := hBa.1.1 ci _ h1
  subst h9
  refine W.newcK (g := F0 m pc ls (st.map (sTr G.1))) hx hb hown (hts _ h2) (hts _ h3) (hts _ h4) rfl hd (Nat.le_trans hB.1 hrm.2.2.1) (Nat.le_trans hB.2 hrm.2.2.2) hKn.2.1 (h := G.1 + h.1) hR.2.1 fun H1 kC hkC e1 z1 o1 => ?_
  refine kk G p e R s m args below meth c H1 locs ls C0 (sR_push hR ?_ (by rw [z1, hR.2.1]) (fun q hq => o1 q (by rw [← hR.2.1]; exact hq))) ⟨Nat.le_trans hS.1 (by rw [z1, hR.2.1]; omega), fun q q1 q2 => (o1 q (by rw [← hR.2.1]; exact Nat.lt_of_lt_of_le q1 hS.1)).trans (hS.2.1 q q1 q2), hS.2.2⟩ hL
  show va_at _ _ (_, .inr (ci, fs.map (sTr G.1))) _
  rw [h8]
  exact ⟨_, h1, (u_born ty0 hts h5 hKn hkC e1 h6).to h7⟩
theorem e_newarr {t N : Nat} {at' : ArrayType} {ty : FieldType} (hd : decode M.2.1 pc = .ok (.newarray at', 2)) (ht : t < 3) (hty : newarray.typeOf at' = ty) (ht2 : sTyOf t = ty) (hdv : defaultValue ty = .int 0) (F : Cond.arrayClass ty ∈ lw_good) (hN : N * componentBytes ty ≤ 536870912) (hN2 : N < 2 ^ 31) (hB : B.1 + 1 ≤ B.2.2.1 ∧ B.2.1 + N ≤ B.2.2.2) (hp : pc + 2 = p')
    (kk : sEv l M d (B.1 + 1, B.2.1 + N, B.2.2) K p' lv (.ref h.1 :: st) (sPush h (.inl (t, N, fun _ => 0)))) : sEv l M d B K pc lv (.int (nI N) :: st) h := by
  subst hp
  subst hty
  intro G p e R s m args below meth c H locs ls C hR hS hL
  have C0 := C
  obtain ⟨hx, hb, hml, hrt, hlk, hown, hin, hts, hBa, hrm, hG, hK⟩ := C
  have hcl : (nI N).toNatClampNeg = N := nI_clamp hN2
  refine va_newaK (g := F0 m pc ls (.int (nI N) :: st.map (sTr G.1))) hx hb (hts _ F) rfl hd rfl (nI_pos hN2) hcl hN (Nat.le_trans hB.1 hrm.2.2.1) (Nat.le_trans hB.2 hrm.2.2.2) (h := G.1 + h.1) hR.2.1 fun H1 cA e1 z1 o1 hAr hNm => ?_
  refine kk G p e R s m args below meth c H1 locs ls C0 (sR_push hR ?_ (by rw [z1, hR.2.1]) (fun q hq => o1 q (by rw [← hR.2.1]; exact hq))) ⟨Nat.le_trans hS.1 (by rw [z1, hR.2.1]; omega), fun q q1 q2 => (o1 q (by rw [← hR.2.1]; exact Nat.lt_of_lt_of_le q1 hS.1)).trans (hS.2.1 q q1 q2), hS.2.2⟩ hL
  have hra := (hBa.1.2 t _ (sTys_get G (by omega))).2
  rw [ht2] at hra
  have hcA : G.2.2 t = cA := by
    have : s.vm.findClass ("[" ++ (newarray.typeOf at').toString) = some (G.2.2 t) := by
      rw [← ht2] at hra ⊢
      match t, ht, hra with
      | 0, _, hra => exact hra
      | 1, _, hra => exact hra
      | 2, _, hra => exact hra
    exact Option.some.inj (this.symm.trans hNm)
  show H1[G.1 + h.1]? = some (vp_cell (G.2.2 t) (N, .inl (fun _ => 0)))
  rw [e1, vp_cell_i, hcA, hdv]
theorem e_anewarr {idx t N : Nat} {Cn : String} (hd : decode M.2.1 pc = .ok (.anewarray idx, 3)) (ht : t = 3 ∧ Cn = "OneRankGrid$Grid" ∨ t = 4 ∧ Cn = "OneRankGrid$Slot") (F : Cond.classLink M.1.cls idx Cn ∈ lw_good) (hN : N * 4 ≤ 536870912) (hN2 : N < 2 ^ 31) (hB : B.1 + 1 ≤ B.2.2.1 ∧ B.2.1 + N ≤ B.2.2.2) (hp : pc + 3 = p')
    (kk : sEv l M d (B.1 + 1, B.2.1 + N, B.2.2) K p' lv (.ref h.1 :: st) (sPush h (.inr (.inl (t, N, fun _ => none))))) : sEv l M d B K pc lv (.int (nI N) :: st) h := by
  subst hp
  intro G p e R s m args below meth c H locs ls C hR hS hL
  have C0 := C
  obtain ⟨hx, hb, hml, hrt, hlk, hown, hin, hts, hBa, hrm, hG, hK⟩ := C
  have hcl : (nI N).toNatClampNeg = N := nI_clamp hN2
  have hov : va_AO Cn s := by
    rcases ht with ⟨-, rfl⟩ | ⟨-, rfl⟩
    · exact hBa.2.1.1
    · exact hBa.2.1.2
  refine W.anew (g := F0 m pc ls (.int (nI N) :: st.map (sTr G.1))) hx hb hown (hts _ F) (va_AO.use hov) rfl hd rfl (nI_pos hN2) (by rw [hcl]; exact hN) (Nat.le_trans hB.1 hrm.2.2.1) (by rw [hcl]; exact Nat.le_trans hB.2 hrm.2.2.2) fun cA kA comp f1 f2 f3 f4 => ?_
  rw [hcl, hR.2.1]
  refine kk G p e R s m args below meth c _ locs ls C0 (sR_push hR ?_ (Array.size_push ..) (fun q hq => by rw [Array.getElem?_push, if_neg (Nat.ne_of_lt hq)])) ⟨Nat.le_trans hS.1 (by rw [Array.size_push]; omega), fun q q1 q2 => by rw [Array.getElem?_push, if_neg (Nat.ne_of_lt (Nat.lt_of_lt_of_le q1 hS.1))]; exact hS.2.1 q q1 q2, hS.2.2⟩ hL
  have hcA : G.2.2 t = cA := by
    rcases ht with ⟨rfl, rfl⟩ | ⟨rfl, rfl⟩
    · obtain ⟨_, _, _, _, _, g4⟩ := (hBa.1.2 3 _ rfl).2
      exact Option.some.inj (g4.symm.trans f1)
    · obtain ⟨_, _, _, _, _, g4⟩ := (hBa.1.2 4 _ rfl).2
      exact Option.some.inj (g4.symm.trans f1)
  show _ = some (vp_cell (G.2.2 t) (N, .inr (.inr (.inr (.inr (fun j => (none : Option Nat).map (fun a => G.1 + a)))))))
  rw [← hR.2.1, Array.getElem?_push_size, vp_cell_q, hcA, arrV_new]
  rfl
theorem e_objInit {idx a : Nat} (hd : decode M.2.1 pc = .ok (.invokespecial idx, 3)) (F : Cond.methodLink M.1.cls idx Lib.objectInit ∈ lw_good) (F2 : Cond.instanceMethod Lib.objectInit ∈ lw_good) (F3 : Cond.code Lib.objectInit ⟨#[0xb1]⟩ 1 none ∈ lw_good) (hst : (st.map fun v => v.category).sum ≤ 8) (hdp : 1 ≤ d) (hp : pc + 3 = p') (kk : sEv l M d B K p' lv st h) : sEv l M d B K pc lv (.ref a :: st) h := by
  subst hp
  intro G p e R s m args below meth c H locs ls C hR hS hL
  have k2 := kk G p e R s m args below meth c H locs ls C hR hS hL
  obtain ⟨hx, hb, hml, hrt, hlk, hown, hin, hts, hBa, hrm, hG, hK⟩ := C
  refine W.objInit (g := F0 m pc ls (.ref (G.1 + a) :: st.map (sTr G.1))) hx hb hown (hts _ F) (hts _ F2) (hts _ F3) rfl ?_ rfl hd (by omega) ?_ k2
  · rw [hml]; exact hL.1
  · have h1 := hrm.2.1
    show 2 * 0 + _ + 12 ≤ _
    rw [sTr_sum]
    omega
/-- a callee's run, taken into the caller's judgement -/
theorem e_run {rest : List Value} {mc ms : Nat} {st0 : List Value} {Q' : Option Value → sH → Prop}
    (hr : ∀ (G : sG) (p : Program) (e : Env) (R : Room) (s : State) (m : MethodId) (args : Array Value) (below : List Frame) (meth : Method) (c : Code) (H : Heap) (locs : List Loc) (ls : Array Slot), sCtx l M d B K G p R s m args meth c → sR G h H → sL G.1 M.2.2.1 lv ls →
      ∃ a, va_Run p l e R s m args below meth c H locs B.1 B.2.1 mc ms (F0 m pc ls (st0.map (sTr G.1))) (rest.map (sTr G.1)) (sQ G Q' a) (fun q => G.1 ≤ q))
    (kk : ∀ r h', Q' r h' → sEv l M d (B.1 + mc, B.2.1 + ms, B.2.2) K (pc + 3) lv (r.toList ++ rest) h') : sEv l M d B K pc lv st0 h := by
  intro G p e R s m args below meth c H locs ls C hR hS hL
  obtain ⟨a, hrun⟩ := hr G p e R s m args below meth c H locs ls C hR hL
  intro T hT X
  obtain ⟨v, st₀, t, T', L, h0, X', hL2, e1, e2, ⟨⟨r, h', hv, hq, hR'⟩, hz, hk⟩, stp⟩ := hrun T hT X
  have hv2 : v = r.map (sTr G.1) := by cases hv; rfl
  subst hv2
  rw [h0] at hz hk
  have hS' : va_S (fun q => G.1 ≤ q) s.heap T'.heap (locs ++ L) := by
    refine ⟨Nat.le_trans hS.1 (by rw [e1]; exact hz), fun q h1 h2 => ?_, fun q hq => ?_⟩
    · rw [e1, hk q (Nat.lt_of_lt_of_le h1 hS.1) h2]
      exact hS.2.1 q h1 h2
    · rcases List.mem_append.mp hq with h | h
      · exact hS.2.2 q h
      · exact hL2 q h
  obtain ⟨t2, a1, b1⟩ := kk r h' hq G p e R s m args below meth c T'.heap (locs ++ L) ls C (by rw [e1]; exact hR') hS' hL T' rfl X'
  refine ⟨t2, stp t2 ?_, b1⟩
  have e3 : (r.map (sTr G.1)).toList ++ rest.map (sTr G.1) = (r.toList ++ rest).map (sTr G.1) := by cases r <;> rfl
  show Steps p.tables e below (T'.setTop { F0 m pc ls (st0.map (sTr G.1)) with pc := pc + 3, stack := (r.map (sTr G.1)).toList ++ rest.map (sTr G.1) }) t2
  rw [e3]
  exact a1
theorem sRest {G : sG} {st : List Value} {m : MethodId} {ls : Array Slot} {x : List Value} (h : (st.map fun v => v.category).sum ≤ 8) : 2 * (F0 m pc ls x).monitorRoom + ((st.map (sTr G.1)).map fun v => v.category).sum ≤ 8 := by
  rw [sTr_sum]
  exact lv_room h
variable {M' : sM} {n d' mc ms idx : Nat} {As st0 : List Value} {Q' : Option Value → sH → Prop}
theorem sRoom {R : Room} (h1 : d ≤ R.frames) (h2 : 60 * d ≤ R.locals) (hd : d' + 1 ≤ d) (hm : M'.2.2.1 ≤ 40) : (sRm d' mc ms).frames + 1 ≤ R.frames ∧ 8 + (M'.2.2.1 + 11) + (sRm d' mc ms).locals ≤ R.locals := by
  refine ⟨Nat.le_trans hd h1, ?_⟩
  show 8 + (M'.2.2.1 + 11) + 60 * d' ≤ R.locals
  omega
theorem e_callV {a ci : Nat} {fs : List Value} (hd : decode M.2.1 pc = .ok (.invokevirtual idx, 3)) (F : sVL M.1.cls idx ci M' n) (hc : sCall l M' d' mc ms (.ref a :: As) h Q') (hn : As.length = n) (hr : h.2 a = .inr (.inr (ci, fs))) (hst : st0 = As.reverse ++ .ref a :: st) (hcat : (st.map fun v => v.category).sum ≤ 8) (hdp : d' + 1 ≤ d) (hB : B.1 + mc ≤ B.2.2.1 ∧ B.2.1 + ms ≤ B.2.2.2) (hp : pc + 3 = p')
    (kk : ∀ r h', Q' r h' → sEv l M d (B.1 + mc, B.2.1 + ms, B.2.2) K p' lv (r.toList ++ st) h') : sEv l M d B K pc lv st0 h := by
  subst hp
  subst hst
  refine e_run (rest := st) (Q' := Q') (mc := mc) (ms := ms) (fun G p e R s m args below meth c H locs ls C hR hL => ?_) kk
  obtain ⟨hx, hb, hml, hrt, hlk, hown, hin, hts, hBa, hrm, hG, hK⟩ := C
  obtain ⟨F1, F2, F3, F4, T, N, F5⟩ := F
  have ha : a < h.1 := sR_lt hR (by rw [hr]; exact sJ_obj F5)
  have cw : CallW R s args M.1.cls M'.1.cls idx M'.1 M'.2.1 M'.2.2.1 M'.2.2.2 (sWs M') (sRm d' mc ms) mc ms n :=
    ⟨callB_of n hts (sGoodWs F1) rfl rfl rfl (hts _ F1.2.1) (hts _ F2) ⟨F1.2.2.1.1, F1.2.2.1.2, F1.2.2.2.1⟩ (sRoom hrm.1 hrm.2.1 hdp F1.2.2.2.2), hts _ F3, hts _ F4⟩
  refine ⟨_, va_runV (As := As.map (sTr G.1)) (rest := st.map (sTr G.1)) (b := G.1 + a) ⟨hx, hb, hml, hown, hts⟩ (hc G) cw ⟨sPc_blind, ?_, fun U hU hW => ⟨rfl, by rw [hU]; exact hR, hBa.warm hW⟩⟩ rfl (by rw [List.length_map]; exact hn) hL.1 ?_ (sRest hcat) hd ⟨Nat.le_trans hB.1 hrm.2.2.1, Nat.le_trans hB.2 hrm.2.2.2⟩⟩
  · exact va_recv hBa.1 hR.1 (ci := ci) (q0 := a) F5 (by rw [sW_get ha, hr]; rfl)
  · show (As.reverse ++ .ref a :: st).map (sTr G.1) = (As.map (sTr G.1)).reverse ++ .ref (G.1 + a) :: st.map (sTr G.1)
    rw [List.map_append, List.map_reverse]
    rfl
theorem e_callS (hd : decode M.2.1 pc = .ok (.invokestatic idx, 3)) (F : sSL M.1.cls idx M' n) (hc : sCall l M' d' mc ms As h Q') (hn : As.length = n) (hst : st0 = As.reverse ++ st) (hcat : (st.map fun v => v.category).sum ≤ 8) (hdp : d' + 1 ≤ d) (hB : B.1 + mc ≤ B.2.2.1 ∧ B.2.1 + ms ≤ B.2.2.2) (hp : pc + 3 = p')
    (kk : ∀ r h', Q' r h' → sEv l M d (B.1 + mc, B.2.1 + ms, B.2.2) K p' lv (r.toList ++ st) h') : sEv l M d B K pc lv st0 h := by
  subst hp
  subst hst
  refine e_run (rest := st) (Q' := Q') (mc := mc) (ms := ms) (fun G p e R s m args below meth c H locs ls C hR hL => ?_) kk
  obtain ⟨hx, hb, hml, hrt, hlk, hown, hin, hts, hBa, hrm, hG, hK⟩ := C
  obtain ⟨F1, F2, F3⟩ := F
  refine ⟨_, va_runS (As := As.map (sTr G.1)) (rest := st.map (sTr G.1)) ⟨hx, hb, hml, hown, hts⟩ (hc G) ⟨callB_of n hts (sGoodWs F1) rfl rfl rfl (hts _ F1.2.1) (hts _ F2) ⟨F1.2.2.1.1, F1.2.2.1.2, F1.2.2.2.1⟩ (sRoom hrm.1 hrm.2.1 hdp F1.2.2.2.2), hts _ F3⟩ ⟨sPc_blind, fun U hU hW => ⟨rfl, by rw [hU]; exact hR, hBa.warm hW⟩⟩ rfl (by rw [List.length_map]; exact hn) hL.1 ?_ (sRest hcat) hd ⟨Nat.le_trans hB.1 hrm.2.2.1, Nat.le_trans hB.2 hrm.2.2.2⟩⟩
  show (As.reverse ++ st).map (sTr G.1) = _
  rw [List.map_append, List.map_reverse]
theorem e_callSN (hd : decode M.2.1 pc = .ok (.invokestatic idx, 3)) (F : sSNL M.1.cls idx M' n) (hc : sCall l M' d' mc ms As h Q') (hn : As.length = n) (hst : st0 = As.reverse ++ st) (hcat : (st.map fun v => v.category).sum ≤ 8) (hdp : d' + 1 ≤ d) (hB : B.1 + mc ≤ B.2.2.1 ∧ B.2.1 + ms ≤ B.2.2.2) (hp : pc + 3 = p')
    (kk : ∀ r h', Q' r h' → sEv l M d (B.1 + mc, B.2.1 + ms, B.2.2) K p' lv (r.toList ++ st) h') : sEv l M d B K pc lv st0 h := by
  subst hp
  subst hst
  refine e_run (rest := st) (Q' := Q') (mc := mc) (ms := ms) (fun G p e R s m args below meth c H locs ls C hR hL => ?_) kk
  obtain ⟨hx, hb, hml, hrt, hlk, hown, hin, hts, hBa, hrm, hG, hK⟩ := C
  obtain ⟨F1, ⟨host, F2⟩, F3⟩ := F
  refine ⟨_, va_runSN (As := As.map (sTr G.1)) (rest := st.map (sTr G.1)) ⟨hx, hb, hml, hown, hts⟩ (hc G) ⟨va_cnB n hts (sGoodWs F1) rfl rfl rfl (hBa.2.2 _ F2).2 (hts _ F1.2.1) ⟨F1.2.2.1.1, F1.2.2.1.2, F1.2.2.2.1⟩ (sRoom hrm.1 hrm.2.1 hdp F1.2.2.2.2), hts _ F3, trivial⟩ ⟨sPc_blind, fun U hU hW => ⟨rfl, by rw [hU]; exact hR, hBa.warm hW⟩⟩ rfl (by rw [List.length_map]; exact hn) hL.1 ?_ (sRest hcat) hd ⟨Nat.le_trans hB.1 hrm.2.2.1, Nat.le_trans hB.2 hrm.2.2.2⟩⟩
  show (As.reverse ++ st).map (sTr G.1) = _
  rw [List.map_append, List.map_reverse]
theorem e_callI {a : Nat} (hd : decode M.2.1 pc = .ok (.invokespecial idx, 3)) (F : sIL M.1.cls idx M' n) (hc : sCall l M' d' mc ms (.ref a :: As) h Q') (hn : As.length = n) (hst : st0 = As.reverse ++ .ref a :: st) (hcat : (st.map fun v => v.category).sum ≤ 8) (hdp : d' + 1 ≤ d) (hB : B.1 + mc ≤ B.2.2.1 ∧ B.2.1 + ms ≤ B.2.2.2) (hp : pc + 3 = p')
    (kk : ∀ r h', Q' r h' → sEv l M d (B.1 + mc, B.2.1 + ms, B.2.2) K p' lv (r.toList ++ st) h') : sEv l M d B K pc lv st0 h := by
  subst hp
  subst hst
  refine e_run (rest := st) (Q' := Q') (mc := mc) (ms := ms) (fun G p e R s m args below meth c H locs ls C hR hL => ?_) kk
  obtain ⟨hx, hb, hml, hrt, hlk, hown, hin, hts, hBa, hrm, hG, hK⟩ := C
  obtain ⟨F1, F2, F3, F4, F5⟩ := F
  refine ⟨_, va_runI (As := As.map (sTr G.1)) (rest := st.map (sTr G.1)) (b := G.1 + a) ⟨hx, hb, hml, hown, hts⟩ (hc G) (maxL := M'.2.2.1) (bytes := M'.2.1) ⟨callB_of (ws' := lw_good) n hts (sGoodWs F1) (by rw [← F5]; rfl) rfl rfl (hts _ F1.2.1) (hts _ F2) ⟨F1.2.2.1.1, F1.2.2.1.2, F1.2.2.2.1⟩ (sRoom hrm.1 hrm.2.1 hdp F1.2.2.2.2), F4, hts _ F3⟩ ⟨sPc_blind, fun U hU hW => ⟨rfl, by rw [hU]; exact hR, hBa.warm hW⟩⟩ rfl (by rw [List.length_map]; exact hn) hL.1 ?_ (sRest hcat) hd ⟨Nat.le_trans hB.1 hrm.2.2.1, Nat.le_trans hB.2 hrm.2.2.2⟩⟩
  show (As.reverse ++ .ref a :: st).map (sTr G.1) = (As.map (sTr G.1)).reverse ++ .ref (G.1 + a) :: st.map (sTr G.1)
  rw [List.map_append, List.map_reverse]
  rfl
theorem e_callIN {a : Nat} (hd : decode M.2.1 pc = .ok (.invokespecial idx, 3)) (F : sINL M.1.cls idx M' n) (hc : sCall l M' d' mc ms (.ref a :: As) h Q') (hn : As.length = n) (hst : st0 = As.reverse ++ .ref a :: st) (hcat : (st.map fun v => v.category).sum ≤ 8) (hdp : d' + 1 ≤ d) (hB : B.1 + mc ≤ B.2.2.1 ∧ B.2.1 + ms ≤ B.2.2.2) (hp : pc + 3 = p')
    (kk : ∀ r h', Q' r h' → sEv l M d (B.1 + mc, B.2.1 + ms, B.2.2) K p' lv (r.toList ++ st) h') : sEv l M d B K pc lv st0 h := by
  subst hp
  subst hst
  refine e_run (rest := st) (Q' := Q') (mc := mc) (ms := ms) (fun G p e R s m args below meth c H locs ls C hR hL => ?_) kk
  obtain ⟨hx, hb, hml, hrt, hlk, hown, hin, hts, hBa, hrm, hG, hK⟩ := C
  obtain ⟨F1, ⟨host, F2⟩, F3, F4, F5⟩ := F
  refine ⟨_, va_runIN (As := As.map (sTr G.1)) (rest := st.map (sTr G.1)) (b := G.1 + a) ⟨hx, hb, hml, hown, hts⟩ (hc G) (maxL := M'.2.2.1) (bytes := M'.2.1) ⟨va_cnB (ws' := lw_good) n hts (sGoodWs F1) (by rw [← F5]; rfl) rfl rfl (hBa.2.2 _ F2).2 (hts _ F1.2.1) ⟨F1.2.2.1.1, F1.2.2.1.2, F1.2.2.2.1⟩ (sRoom hrm.1 hrm.2.1 hdp F1.2.2.2.2), F4, hts _ F3⟩ ⟨sPc_blind, fun U hU hW => ⟨rfl, by rw [hU]; exact hR, hBa.warm hW⟩⟩ rfl (by rw [List.length_map]; exact hn) hL.1 ?_ (sRest hcat) hd ⟨Nat.le_trans hB.1 hrm.2.2.1, Nat.le_trans hB.2 hrm.2.2.2⟩⟩
  show (As.reverse ++ .ref a :: st).map (sTr G.1) = (As.map (sTr G.1)).reverse ++ .ref (G.1 + a) :: st.map (sTr G.1)
  rw [List.map_append, List.map_reverse]
  rfl
-- ends
variable {Q : Option Value → sH → Prop}
theorem e_ireturn {x : Int32} {ty : FieldType} (hd : decode M.2.1 pc = .ok (.ireturn, 1)) (hr : M.2.2.2 = some ty) (hn : narrow ty (.int x) = .int x) (hB : B.1 ≤ B.2.2.1 ∧ B.2.1 ≤ B.2.2.2) (hq : Q (some (.int x)) h) : sEv l M d B (sKm B.2.2.1 B.2.2.2 Q) pc lv [.int x] h := by
  intro G p e R s m args below meth c H locs ls C hR hS hL
  obtain ⟨hx, hb, hml, hrt, hlk, hown, hin, hts, hBa, hrm, hG, hK⟩ := C
  exact W.widen hB.1 hB.2 (W.zret hx hb (hrt.trans hr) hn (fun t ht hW => ⟨⟨some (.int x), h, rfl, hq, by rw [ht]; exact hR⟩, hS.F ht⟩) hS.2.2 hd hlk)
theorem e_lreturn {x : Int64} (hd : decode M.2.1 pc = .ok (.lreturn, 1)) (hr : M.2.2.2 = some .long) (hB : B.1 ≤ B.2.2.1 ∧ B.2.1 ≤ B.2.2.2) (hq : Q (some (.long x)) h) : sEv l M d B (sKm B.2.2.1 B.2.2.2 Q) pc lv [.long x] h := by
  intro G p e R s m args below meth c H locs ls C hR hS hL
  obtain ⟨hx, hb, hml, hrt, hlk, hown, hin, hts, hBa, hrm, hG, hK⟩ := C
  exact W.widen hB.1 hB.2 (W.lret hx hb (hrt.trans hr) (fun t ht hW => ⟨⟨some (.long x), h, rfl, hq, by rw [ht]; exact hR⟩, hS.F ht⟩) hS.2.2 hd hlk)
theorem e_areturn {v : Value} {C0 : String} (hd : decode M.2.1 pc = .ok (.areturn, 1)) (hr : M.2.2.2 = some (.object C0)) (hv : v = .null ∨ ∃ a, v = .ref a) (hB : B.1 ≤ B.2.2.1 ∧ B.2.1 ≤ B.2.2.2) (hq : Q (some v) h) : sEv l M d B (sKm B.2.2.1 B.2.2.2 Q) pc lv [v] h := by
  intro G p e R s m args below meth c H locs ls C hR hS hL
  obtain ⟨hx, hb, hml, hrt, hlk, hown, hin, hts, hBa, hrm, hG, hK⟩ := C
  refine W.widen hB.1 hB.2 (W.aret (v := sTr G.1 v) hx hb (hrt.trans hr) (Or.inl ⟨_, rfl⟩) ?_ (fun t ht hW => ⟨⟨some v, h, rfl, hq, by rw [ht]; exact hR⟩, hS.F ht⟩) hS.2.2 hd hlk)
  rcases hv with rfl | ⟨a, rfl⟩
  · exact Or.inl rfl
  · exact Or.inr ⟨_, rfl⟩
theorem e_return (hd : decode M.2.1 pc = .ok (.return_, 1)) (hr : M.2.2.2 = none) (hB : B.1 ≤ B.2.2.1 ∧ B.2.1 ≤ B.2.2.2) (hq : Q none h) : sEv l M d B (sKm B.2.2.1 B.2.2.2 Q) pc lv [] h := by
  intro G p e R s m args below meth c H locs ls C hR hS hL
  obtain ⟨hx, hb, hml, hrt, hlk, hown, hin, hts, hBa, hrm, hG, hK⟩ := C
  exact W.widen hB.1 hB.2 (W.vret hx hb (hrt.trans hr) (fun t ht hW => ⟨⟨none, h, rfl, hq, by rw [ht]; exact hR⟩, hS.F ht⟩) hS.2.2 hd hlk)
theorem e_ldc2 {v : Int64} (hd : decode M.2.1 pc = .ok (.ldc2_w idx, 3)) (F : Cond.constantLong M.1.cls idx v ∈ lw_good) (hp : pc + 3 = p') (kk : sEv l M d B K p' lv (.long v :: st) h) : sEv l M d B K pc lv st h := by
  subst hp
  intro G p e R s m args below meth c H locs ls C hR hS hL
  exact lv_ldc2 C.1 C.2.1 C.2.2.2.2.2.1 (C.2.2.2.2.2.2.2.1 _ F) hd (kk G p e R s m args below meth c H locs ls C hR hS hL)
theorem e_ldcw {v : Int32} (hd : decode M.2.1 pc = .ok (.ldc_w idx, 3)) (F : Cond.constant M.1.cls idx v ∈ lw_good) (hp : pc + 3 = p') (kk : sEv l M d B K p' lv (.int v :: st) h) : sEv l M d B K pc lv st h := by
  subst hp
  intro G p e R s m args below meth c H locs ls C hR hS hL
  exact lv_ldcw C.1 C.2.1 C.2.2.2.2.2.1 (C.2.2.2.2.2.2.2.1 _ F) hd (kk G p e R s m args below meth c H locs ls C hR hS hL)
end CALLS
