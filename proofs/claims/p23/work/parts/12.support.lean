/-! ===== what the scripts of wip/whole/gen.py use ===== -/
abbrev oC (ci : Nat) (fs : List Value) : sC := .inr (.inr (ci, fs))
abbrev iA (n : Nat) (f : Nat → Int32) : sC := .inl (0, n, f)
abbrev qA (t n : Nat) (f : Nat → Option Nat) : sC := .inr (.inl (t, n, f))
theorem sUp_eq {h : sH} {a : Nat} {c : sC} : (sUp h a c).2 a = c := if_pos rfl
theorem sUp_ne {h : sH} {a b : Nat} {c : sC} (n : a ≠ b) : (sUp h b c).2 a = h.2 a := if_neg n
theorem sUp_sUp {h : sH} {a : Nat} {c c' : sC} : sUp (sUp h a c) a c' = sUp h a c' := by
  unfold sUp
  congr 1
  funext j
  by_cases e : j = a <;> simp [e]
theorem sUp_self {h : sH} {a : Nat} {c : sC} (e : h.2 a = c) : sUp h a c = h := by
  unfold sUp
  refine Prod.ext rfl ?_
  funext j
  by_cases q : j = a
  · subst q; simp [e]
  · simp [q]
theorem sUp_comm {h : sH} {a b : Nat} {c c' : sC} (n : a ≠ b) : sUp (sUp h a c) b c' = sUp (sUp h b c') a c := by
  unfold sUp
  congr 1
  funext j
  by_cases e : j = b
  · by_cases e2 : j = a
    · exact absurd (e2.symm.trans e) n
    · subst e; simp [e2]
  · by_cases e2 : j = a
    · subst e2; simp [n]
    · simp [e, e2]
def lvW : List (Option Value) → List (Option Value) → Prop
  | [], [] => True
  | none :: a, _ :: b => lvW a b
  | some v :: a, o :: b => o = some v ∧ lvW a b
  | _, _ => False
theorem lvW_rfl : ∀ a : List (Option Value), lvW a a
  | [] => trivial
  | none :: a => lvW_rfl a
  | some _ :: a => ⟨rfl, lvW_rfl a⟩
theorem lvW_get : ∀ {a b : List (Option Value)}, lvW a b → ∀ {i : Nat} {v : Value}, a[i]? = some (some v) → b[i]? = some (some v)
  | [], [], _, i, v, h => by simp at h
  | none :: a, o :: b, hw, 0, v, h => by simp at h
  | none :: a, o :: b, hw, i + 1, v, h => by
    rw [List.getElem?_cons_succ] at h ⊢
    exact lvW_get (a := a) (b := b) hw h
  | some w :: a, o :: b, hw, 0, v, h => by
    rw [List.getElem?_cons_zero] at h ⊢
    rw [hw.1]; exact h
  | some w :: a, o :: b, hw, i + 1, v, h => by
    rw [List.getElem?_cons_succ] at h ⊢
    exact lvW_get (a := a) (b := b) hw.2 h
section SUP
variable {l : Launch} {M : sM} {d : Nat} {B : sB} {K : sK} {pc p' : Nat} {lv : List (Option Value)} {st : List Value} {h : sH}
theorem sEv.castW {lv2 : List (Option Value)} {st2 : List Value} {h2 : sH} (k : sEv l M d B K pc lv2 st2 h2) (e1 : lvW lv2 lv) (e2 : st = st2) (e3 : h = h2) : sEv l M d B K pc lv st h := by
  subst e2; subst e3
  intro G p e R s m args below meth c H locs ls C hR hS hL
  refine k G p e R s m args below meth c H locs ls C hR hS ⟨hL.1, hL.2.1, fun q hq => ?_⟩
  obtain ⟨v, h1, h2⟩ := sLv_mem.mp hq
  exact hL.2.2 q (sLv_mem.mpr ⟨v, lvW_get e1 h1, h2⟩)
theorem sBo_nar (b : Bool) : narrow .boolean (.int (sBo b)) = .int (sBo b) := by cases b <;> rfl
theorem sBo_nar1 : narrow .boolean (.int (nI 1)) = .int (nI 1) := rfl
theorem sBo_nar0 : narrow .boolean (.int (nI 0)) = .int (nI 0) := rfl
variable {M' : sM} {n d' mc ms idx : Nat} {As st0 : List Value} {v : Value} {h' : sH}
theorem x_callV1 {a ci : Nat} {fs : List Value} (hd : decode M.2.1 pc = .ok (.invokevirtual idx, 3)) (F : sVL M.1.cls idx ci M' n) (hc : sX l M' d' (.ref a :: As) h (some v) h') (hn : As.length = n) (hr : h.2 a = .inr (.inr (ci, fs))) (hst : st0 = As.reverse ++ .ref a :: st) (hcat : (st.map fun v => v.category).sum ≤ 8) (hdp : d' + 1 ≤ d) (hB : B.1 ≤ B.2.2.1 ∧ B.2.1 ≤ B.2.2.2) (hp : pc + 3 = p')
    (kk : sEv l M d B K p' lv (v :: st) h') : sEv l M d B K pc lv st0 h := by
  refine e_callV hd F hc hn hr hst hcat hdp hB hp (fun r1 h1 hq => ?_)
  rw [hq.1, hq.2]
  exact kk
theorem x_callV0 {a ci : Nat} {fs : List Value} (hd : decode M.2.1 pc = .ok (.invokevirtual idx, 3)) (F : sVL M.1.cls idx ci M' n) (hc : sX l M' d' (.ref a :: As) h none h') (hn : As.length = n) (hr : h.2 a = .inr (.inr (ci, fs))) (hst : st0 = As.reverse ++ .ref a :: st) (hcat : (st.map fun v => v.category).sum ≤ 8) (hdp : d' + 1 ≤ d) (hB : B.1 ≤ B.2.2.1 ∧ B.2.1 ≤ B.2.2.2) (hp : pc + 3 = p')
    (kk : sEv l M d B K p' lv st h') : sEv l M d B K pc lv st0 h := by
  refine e_callV hd F hc hn hr hst hcat hdp hB hp (fun r1 h1 hq => ?_)
  rw [hq.1, hq.2]
  exact kk
theorem x_callS1 (hd : decode M.2.1 pc = .ok (.invokestatic idx, 3)) (F : sSL M.1.cls idx M' n) (hc : sX l M' d' As h (some v) h') (hn : As.length = n) (hst : st0 = As.reverse ++ st) (hcat : (st.map fun v => v.category).sum ≤ 8) (hdp : d' + 1 ≤ d) (hB : B.1 ≤ B.2.2.1 ∧ B.2.1 ≤ B.2.2.2) (hp : pc + 3 = p')
    (kk : sEv l M d B K p' lv (v :: st) h') : sEv l M d B K pc lv st0 h := by
  refine e_callS hd F hc hn hst hcat hdp hB hp (fun r1 h1 hq => ?_)
  rw [hq.1, hq.2]
  exact kk
theorem x_callS0 (hd : decode M.2.1 pc = .ok (.invokestatic idx, 3)) (F : sSL M.1.cls idx M' n) (hc : sX l M' d' As h none h') (hn : As.length = n) (hst : st0 = As.reverse ++ st) (hcat : (st.map fun v => v.category).sum ≤ 8) (hdp : d' + 1 ≤ d) (hB : B.1 ≤ B.2.2.1 ∧ B.2.1 ≤ B.2.2.2) (hp : pc + 3 = p')
    (kk : sEv l M d B K p' lv st h') : sEv l M d B K pc lv st0 h := by
  refine e_callS hd F hc hn hst hcat hdp hB hp (fun r1 h1 hq => ?_)
  rw [hq.1, hq.2]
  exact kk
theorem x_callSN1 (hd : decode M.2.1 pc = .ok (.invokestatic idx, 3)) (F : sSNL M.1.cls idx M' n) (hc : sX l M' d' As h (some v) h') (hn : As.length = n) (hst : st0 = As.reverse ++ st) (hcat : (st.map fun v => v.category).sum ≤ 8) (hdp : d' + 1 ≤ d) (hB : B.1 ≤ B.2.2.1 ∧ B.2.1 ≤ B.2.2.2) (hp : pc + 3 = p')
    (kk : sEv l M d B K p' lv (v :: st) h') : sEv l M d B K pc lv st0 h := by
  refine e_callSN hd F hc hn hst hcat hdp hB hp (fun r1 h1 hq => ?_)
  rw [hq.1, hq.2]
  exact kk
theorem x_callSN0 (hd : decode M.2.1 pc = .ok (.invokestatic idx, 3)) (F : sSNL M.1.cls idx M' n) (hc : sX l M' d' As h none h') (hn : As.length = n) (hst : st0 = As.reverse ++ st) (hcat : (st.map fun v => v.category).sum ≤ 8) (hdp : d' + 1 ≤ d) (hB : B.1 ≤ B.2.2.1 ∧ B.2.1 ≤ B.2.2.2) (hp : pc + 3 = p')
    (kk : sEv l M d B K p' lv st h') : sEv l M d B K pc lv st0 h := by
  refine e_callSN hd F hc hn hst hcat hdp hB hp (fun r1 h1 hq => ?_)
  rw [hq.1, hq.2]
  exact kk
theorem x_callI1 {a : Nat} (hd : decode M.2.1 pc = .ok (.invokespecial idx, 3)) (F : sIL M.1.cls idx M' n) (hc : sX l M' d' (.ref a :: As) h (some v) h') (hn : As.length = n) (hst : st0 = As.reverse ++ .ref a :: st) (hcat : (st.map fun v => v.category).sum ≤ 8) (hdp : d' + 1 ≤ d) (hB : B.1 ≤ B.2.2.1 ∧ B.2.1 ≤ B.2.2.2) (hp : pc + 3 = p')
    (kk : sEv l M d B K p' lv (v :: st) h') : sEv l M d B K pc lv st0 h := by
  refine e_callI hd F hc hn hst hcat hdp hB hp (fun r1 h1 hq => ?_)
  rw [hq.1, hq.2]
  exact kk
theorem x_callI0 {a : Nat} (hd : decode M.2.1 pc = .ok (.invokespecial idx, 3)) (F : sIL M.1.cls idx M' n) (hc : sX l M' d' (.ref a :: As) h none h') (hn : As.length = n) (hst : st0 = As.reverse ++ .ref a :: st) (hcat : (st.map fun v => v.category).sum ≤ 8) (hdp : d' + 1 ≤ d) (hB : B.1 ≤ B.2.2.1 ∧ B.2.1 ≤ B.2.2.2) (hp : pc + 3 = p')
    (kk : sEv l M d B K p' lv st h') : sEv l M d B K pc lv st0 h := by
  refine e_callI hd F hc hn hst hcat hdp hB hp (fun r1 h1 hq => ?_)
  rw [hq.1, hq.2]
  exact kk
theorem x_callIN1 {a : Nat} (hd : decode M.2.1 pc = .ok (.invokespecial idx, 3)) (F : sINL M.1.cls idx M' n) (hc : sX l M' d' (.ref a :: As) h (some v) h') (hn : As.length = n) (hst : st0 = As.reverse ++ .ref a :: st) (hcat : (st.map fun v => v.category).sum ≤ 8) (hdp : d' + 1 ≤ d) (hB : B.1 ≤ B.2.2.1 ∧ B.2.1 ≤ B.2.2.2) (hp : pc + 3 = p')
    (kk : sEv l M d B K p' lv (v :: st) h') : sEv l M d B K pc lv st0 h := by
  refine e_callIN hd F hc hn hst hcat hdp hB hp (fun r1 h1 hq => ?_)
  rw [hq.1, hq.2]
  exact kk
theorem x_callIN0 {a : Nat} (hd : decode M.2.1 pc = .ok (.invokespecial idx, 3)) (F : sINL M.1.cls idx M' n) (hc : sX l M' d' (.ref a :: As) h none h') (hn : As.length = n) (hst : st0 = As.reverse ++ .ref a :: st) (hcat : (st.map fun v => v.category).sum ≤ 8) (hdp : d' + 1 ≤ d) (hB : B.1 ≤ B.2.2.1 ∧ B.2.1 ≤ B.2.2.2) (hp : pc + 3 = p')
    (kk : sEv l M d B K p' lv st h') : sEv l M d B K pc lv st0 h := by
  refine e_callIN hd F hc hn hst hcat hdp hB hp (fun r1 h1 hq => ?_)
  rw [hq.1, hq.2]
  exact kk
def sY (l : Launch) (M : sM) (d : Nat) (as : List Value) (h : sH) (r : Option Value) (R : sH → Prop) : Prop := sCall l M d 0 0 as h (fun r1 h1 => r1 = r ∧ R h1)
variable {R : sH → Prop}
theorem y_callV1 {a ci : Nat} {fs : List Value} (hd : decode M.2.1 pc = .ok (.invokevirtual idx, 3)) (F : sVL M.1.cls idx ci M' n) (hc : sY l M' d' (.ref a :: As) h (some v) R) (hn : As.length = n) (hr : h.2 a = .inr (.inr (ci, fs))) (hst : st0 = As.reverse ++ .ref a :: st) (hcat : (st.map fun v => v.category).sum ≤ 8) (hdp : d' + 1 ≤ d) (hB : B.1 ≤ B.2.2.1 ∧ B.2.1 ≤ B.2.2.2) (hp : pc + 3 = p')
    (kk : ∀ h', R h' → sEv l M d B K p' lv (v :: st) h') : sEv l M d B K pc lv st0 h := by
  refine e_callV hd F hc hn hr hst hcat hdp hB hp (fun r1 h1 hq => ?_)
  rw [hq.1]
  exact kk h1 hq.2
theorem y_callV0 {a ci : Nat} {fs : List Value} (hd : decode M.2.1 pc = .ok (.invokevirtual idx, 3)) (F : sVL M.1.cls idx ci M' n) (hc : sY l M' d' (.ref a :: As) h none R) (hn : As.length = n) (hr : h.2 a = .inr (.inr (ci, fs))) (hst : st0 = As.reverse ++ .ref a :: st) (hcat : (st.map fun v => v.category).sum ≤ 8) (hdp : d' + 1 ≤ d) (hB : B.1 ≤ B.2.2.1 ∧ B.2.1 ≤ B.2.2.2) (hp : pc + 3 = p')
    (kk : ∀ h', R h' → sEv l M d B K p' lv st h') : sEv l M d B K pc lv st0 h := by
  refine e_callV hd F hc hn hr hst hcat hdp hB hp (fun r1 h1 hq => ?_)
  rw [hq.1]
  exact kk h1 hq.2
theorem y_callS1 (hd : decode M.2.1 pc = .ok (.invokestatic idx, 3)) (F : sSL M.1.cls idx M' n) (hc : sY l M' d' As h (some v) R) (hn : As.length = n) (hst : st0 = As.reverse ++ st) (hcat : (st.map fun v => v.category).sum ≤ 8) (hdp : d' + 1 ≤ d) (hB : B.1 ≤ B.2.2.1 ∧ B.2.1 ≤ B.2.2.2) (hp : pc + 3 = p')
    (kk : ∀ h', R h' → sEv l M d B K p' lv (v :: st) h') : sEv l M d B K pc lv st0 h := by
  refine e_callS hd F hc hn hst hcat hdp hB hp (fun r1 h1 hq => ?_)
  rw [hq.1]
  exact kk h1 hq.2
theorem y_callS0 (hd : decode M.2.1 pc = .ok (.invokestatic idx, 3)) (F : sSL M.1.cls idx M' n) (hc : sY l M' d' As h none R) (hn : As.length = n) (hst : st0 = As.reverse ++ st) (hcat : (st.map fun v => v.category).sum ≤ 8) (hdp : d' + 1 ≤ d) (hB : B.1 ≤ B.2.2.1 ∧ B.2.1 ≤ B.2.2.2) (hp : pc + 3 = p')
    (kk : ∀ h', R h' → sEv l M d B K p' lv st h') : sEv l M d B K pc lv st0 h := by
  refine e_callS hd F hc hn hst hcat hdp hB hp (fun r1 h1 hq => ?_)
  rw [hq.1]
  exact kk h1 hq.2
theorem y_callSN1 (hd : decode M.2.1 pc = .ok (.invokestatic idx, 3)) (F : sSNL M.1.cls idx M' n) (hc : sY l M' d' As h (some v) R) (hn : As.length = n) (hst : st0 = As.reverse ++ st) (hcat : (st.map fun v => v.category).sum ≤ 8) (hdp : d' + 1 ≤ d) (hB : B.1 ≤ B.2.2.1 ∧ B.2.1 ≤ B.2.2.2) (hp : pc + 3 = p')
    (kk : ∀ h', R h' → sEv l M d B K p' lv (v :: st) h') : sEv l M d B K pc lv st0 h := by
  refine e_callSN hd F hc hn hst hcat hdp hB hp (fun r1 h1 hq => ?_)
  rw [hq.1]
  exact kk h1 hq.2
theorem y_callSN0 (hd : decode M.2.1 pc = .ok (.invokestatic idx, 3)) (F : sSNL M.1.cls idx M' n) (hc : sY l M' d' As h none R) (hn : As.length = n) (hst : st0 = As.reverse ++ st) (hcat : (st.map fun v => v.category).sum ≤ 8) (hdp : d' + 1 ≤ d) (hB : B.1 ≤ B.2.2.1 ∧ B.2.1 ≤ B.2.2.2) (hp : pc + 3 = p')
    (kk : ∀ h', R h' → sEv l M d B K p' lv st h') : sEv l M d B K pc lv st0 h := by
  refine e_callSN hd F hc hn hst hcat hdp hB hp (fun r1 h1 hq => ?_)
  rw [hq.1]
  exact kk h1 hq.2
theorem y_callI1 {a : Nat} (hd : decode M.2.1 pc = .ok (.invokespecial idx, 3)) (F : sIL M.1.cls idx M' n) (hc : sY l M' d' (.ref a :: As) h (some v) R) (hn : As.length = n) (hst : st0 = As.reverse ++ .ref a :: st) (hcat : (st.map fun v => v.category).sum ≤ 8) (hdp : d' + 1 ≤ d) (hB : B.1 ≤ B.2.2.1 ∧ B.2.1 ≤ B.2.2.2) (hp : pc + 3 = p')
    (kk : ∀ h', R h' → sEv l M d B K p' lv (v :: st) h') : sEv l M d B K pc lv st0 h := by
  refine e_callI hd F hc hn hst hcat hdp hB hp (fun r1 h1 hq => ?_)
  rw [hq.1]
  exact kk h1 hq.2
theorem y_callI0 {a : Nat} (hd : decode M.2.1 pc = .ok (.invokespecial idx, 3)) (F : sIL M.1.cls idx M' n) (hc : sY l M' d' (.ref a :: As) h none R) (hn : As.length = n) (hst : st0 = As.reverse ++ .ref a :: st) (hcat : (st.map fun v => v.category).sum ≤ 8) (hdp : d' + 1 ≤ d) (hB : B.1 ≤ B.2.2.1 ∧ B.2.1 ≤ B.2.2.2) (hp : pc + 3 = p')
    (kk : ∀ h', R h' → sEv l M d B K p' lv st h') : sEv l M d B K pc lv st0 h := by
  refine e_callI hd F hc hn hst hcat hdp hB hp (fun r1 h1 hq => ?_)
  rw [hq.1]
  exact kk h1 hq.2
theorem y_callIN1 {a : Nat} (hd : decode M.2.1 pc = .ok (.invokespecial idx, 3)) (F : sINL M.1.cls idx M' n) (hc : sY l M' d' (.ref a :: As) h (some v) R) (hn : As.length = n) (hst : st0 = As.reverse ++ .ref a :: st) (hcat : (st.map fun v => v.category).sum ≤ 8) (hdp : d' + 1 ≤ d) (hB : B.1 ≤ B.2.2.1 ∧ B.2.1 ≤ B.2.2.2) (hp : pc + 3 = p')
    (kk : ∀ h', R h' → sEv l M d B K p' lv (v :: st) h') : sEv l M d B K pc lv st0 h := by
  refine e_callIN hd F hc hn hst hcat hdp hB hp (fun r1 h1 hq => ?_)
  rw [hq.1]
  exact kk h1 hq.2
theorem y_callIN0 {a : Nat} (hd : decode M.2.1 pc = .ok (.invokespecial idx, 3)) (F : sINL M.1.cls idx M' n) (hc : sY l M' d' (.ref a :: As) h none R) (hn : As.length = n) (hst : st0 = As.reverse ++ .ref a :: st) (hcat : (st.map fun v => v.category).sum ≤ 8) (hdp : d' + 1 ≤ d) (hB : B.1 ≤ B.2.2.1 ∧ B.2.1 ≤ B.2.2.2) (hp : pc + 3 = p')
    (kk : ∀ h', R h' → sEv l M d B K p' lv st h') : sEv l M d B K pc lv st0 h := by
  refine e_callIN hd F hc hn hst hcat hdp hB hp (fun r1 h1 hq => ?_)
  rw [hq.1]
  exact kk h1 hq.2
theorem e_iincM_0 {r : List (Option Value)} {a n : Nat} (hd : decode M.2.1 pc = .ok (.iinc 0 (-(n : Int)), 3)) (hn : 0 < M.2.2.1) (ha : n ≤ a) (hp : pc + 3 = p') (kk : sEv l M d B K p' (some (.int (nI (a - n))) :: r) st h) : sEv l M d B K pc (some (.int (nI a)) :: r) st h := e_iinc_0 hd hn (by rw [← pk_sub ha, Int32.ofInt_neg, ← Int32.sub_eq_add_neg]; rfl) hp kk
theorem e_iincM_1 {a0 : Option Value} {r : List (Option Value)} {a n : Nat} (hd : decode M.2.1 pc = .ok (.iinc 1 (-(n : Int)), 3)) (hn : 1 < M.2.2.1) (hno : sN1 a0 = true) (ha : n ≤ a) (hp : pc + 3 = p') (kk : sEv l M d B K p' (a0 :: some (.int (nI (a - n))) :: r) st h) : sEv l M d B K pc (a0 :: some (.int (nI a)) :: r) st h := e_iinc_1 hd hn hno (by rw [← pk_sub ha, Int32.ofInt_neg, ← Int32.sub_eq_add_neg]; rfl) hp kk
theorem e_iincM_2 {a0 a1 : Option Value} {r : List (Option Value)} {a n : Nat} (hd : decode M.2.1 pc = .ok (.iinc 2 (-(n : Int)), 3)) (hn : 2 < M.2.2.1) (hno : sN1 a1 = true) (ha : n ≤ a) (hp : pc + 3 = p') (kk : sEv l M d B K p' (a0 :: a1 :: some (.int (nI (a - n))) :: r) st h) : sEv l M d B K pc (a0 :: a1 :: some (.int (nI a)) :: r) st h := e_iinc_2 hd hn hno (by rw [← pk_sub ha, Int32.ofInt_neg, ← Int32.sub_eq_add_neg]; rfl) hp kk
theorem e_iincM_3 {a0 a1 a2 : Option Value} {r : List (Option Value)} {a n : Nat} (hd : decode M.2.1 pc = .ok (.iinc 3 (-(n : Int)), 3)) (hn : 3 < M.2.2.1) (hno : sN1 a2 = true) (ha : n ≤ a) (hp : pc + 3 = p') (kk : sEv l M d B K p' (a0 :: a1 :: a2 :: some (.int (nI (a - n))) :: r) st h) : sEv l M d B K pc (a0 :: a1 :: a2 :: some (.int (nI a)) :: r) st h := e_iinc_3 hd hn hno (by rw [← pk_sub ha, Int32.ofInt_neg, ← Int32.sub_eq_add_neg]; rfl) hp kk
theorem e_iincM_4 {a0 a1 a2 a3 : Option Value} {r : List (Option Value)} {a n : Nat} (hd : decode M.2.1 pc = .ok (.iinc 4 (-(n : Int)), 3)) (hn : 4 < M.2.2.1) (hno : sN1 a3 = true) (ha : n ≤ a) (hp : pc + 3 = p') (kk : sEv l M d B K p' (a0 :: a1 :: a2 :: a3 :: some (.int (nI (a - n))) :: r) st h) : sEv l M d B K pc (a0 :: a1 :: a2 :: a3 :: some (.int (nI a)) :: r) st h := e_iinc_4 hd hn hno (by rw [← pk_sub ha, Int32.ofInt_neg, ← Int32.sub_eq_add_neg]; rfl) hp kk
theorem e_iincM_5 {a0 a1 a2 a3 a4 : Option Value} {r : List (Option Value)} {a n : Nat} (hd : decode M.2.1 pc = .ok (.iinc 5 (-(n : Int)), 3)) (hn : 5 < M.2.2.1) (hno : sN1 a4 = true) (ha : n ≤ a) (hp : pc + 3 = p') (kk : sEv l M d B K p' (a0 :: a1 :: a2 :: a3 :: a4 :: some (.int (nI (a - n))) :: r) st h) : sEv l M d B K pc (a0 :: a1 :: a2 :: a3 :: a4 :: some (.int (nI a)) :: r) st h := e_iinc_5 hd hn hno (by rw [← pk_sub ha, Int32.ofInt_neg, ← Int32.sub_eq_add_neg]; rfl) hp kk
theorem e_iincM_6 {a0 a1 a2 a3 a4 a5 : Option Value} {r : List (Option Value)} {a n : Nat} (hd : decode M.2.1 pc = .ok (.iinc 6 (-(n : Int)), 3)) (hn : 6 < M.2.2.1) (hno : sN1 a5 = true) (ha : n ≤ a) (hp : pc + 3 = p') (kk : sEv l M d B K p' (a0 :: a1 :: a2 :: a3 :: a4 :: a5 :: some (.int (nI (a - n))) :: r) st h) : sEv l M d B K pc (a0 :: a1 :: a2 :: a3 :: a4 :: a5 :: some (.int (nI a)) :: r) st h := e_iinc_6 hd hn hno (by rw [← pk_sub ha, Int32.ofInt_neg, ← Int32.sub_eq_add_neg]; rfl) hp kk
theorem e_iincM_7 {a0 a1 a2 a3 a4 a5 a6 : Option Value} {r : List (Option Value)} {a n : Nat} (hd : decode M.2.1 pc = .ok (.iinc 7 (-(n : Int)), 3)) (hn : 7 < M.2.2.1) (hno : sN1 a6 = true) (ha : n ≤ a) (hp : pc + 3 = p') (kk : sEv l M d B K p' (a0 :: a1 :: a2 :: a3 :: a4 :: a5 :: a6 :: some (.int (nI (a - n))) :: r) st h) : sEv l M d B K pc (a0 :: a1 :: a2 :: a3 :: a4 :: a5 :: a6 :: some (.int (nI a)) :: r) st h := e_iinc_7 hd hn hno (by rw [← pk_sub ha, Int32.ofInt_neg, ← Int32.sub_eq_add_neg]; rfl) hp kk
theorem e_iincM_8 {a0 a1 a2 a3 a4 a5 a6 a7 : Option Value} {r : List (Option Value)} {a n : Nat} (hd : decode M.2.1 pc = .ok (.iinc 8 (-(n : Int)), 3)) (hn : 8 < M.2.2.1) (hno : sN1 a7 = true) (ha : n ≤ a) (hp : pc + 3 = p') (kk : sEv l M d B K p' (a0 :: a1 :: a2 :: a3 :: a4 :: a5 :: a6 :: a7 :: some (.int (nI (a - n))) :: r) st h) : sEv l M d B K pc (a0 :: a1 :: a2 :: a3 :: a4 :: a5 :: a6 :: a7 :: some (.int (nI a)) :: r) st h := e_iinc_8 hd hn hno (by rw [← pk_sub ha, Int32.ofInt_neg, ← Int32.sub_eq_add_neg]; rfl) hp kk
end SUP
theorem cst_bipush_m2 : (Int8.ofInt (-2)).toInt32 = (-2 : Int32) := by decide +kernel
theorem cst_bipush_m3 : (Int8.ofInt (-3)).toInt32 = (-3 : Int32) := by decide +kernel
theorem cst_bipush_m4 : (Int8.ofInt (-4)).toInt32 = (-4 : Int32) := by decide +kernel
theorem cst_bipush_m5 : (Int8.ofInt (-5)).toInt32 = (-5 : Int32) := by decide +kernel
theorem cst_bipush_m6 : (Int8.ofInt (-6)).toInt32 = (-6 : Int32) := by decide +kernel
theorem cst_bipush_10 : (Int8.ofInt (10)).toInt32 = nI 10 := by decide +kernel
theorem cst_bipush_11 : (Int8.ofInt (11)).toInt32 = nI 11 := by decide +kernel
theorem cst_bipush_12 : (Int8.ofInt (12)).toInt32 = nI 12 := by decide +kernel
theorem cst_bipush_126 : (Int8.ofInt (126)).toInt32 = nI 126 := by decide +kernel
theorem cst_bipush_13 : (Int8.ofInt (13)).toInt32 = nI 13 := by decide +kernel
theorem cst_bipush_16 : (Int8.ofInt (16)).toInt32 = nI 16 := by decide +kernel
theorem cst_bipush_31 : (Int8.ofInt (31)).toInt32 = nI 31 := by decide +kernel
theorem cst_bipush_32 : (Int8.ofInt (32)).toInt32 = nI 32 := by decide +kernel
theorem cst_bipush_33 : (Int8.ofInt (33)).toInt32 = nI 33 := by decide +kernel
theorem cst_bipush_36 : (Int8.ofInt (36)).toInt32 = nI 36 := by decide +kernel
theorem cst_bipush_37 : (Int8.ofInt (37)).toInt32 = nI 37 := by decide +kernel
theorem cst_bipush_38 : (Int8.ofInt (38)).toInt32 = nI 38 := by decide +kernel
theorem cst_bipush_39 : (Int8.ofInt (39)).toInt32 = nI 39 := by decide +kernel
theorem cst_bipush_46 : (Int8.ofInt (46)).toInt32 = nI 46 := by decide +kernel
theorem cst_bipush_47 : (Int8.ofInt (47)).toInt32 = nI 47 := by decide +kernel
theorem cst_bipush_48 : (Int8.ofInt (48)).toInt32 = nI 48 := by decide +kernel
theorem cst_bipush_49 : (Int8.ofInt (49)).toInt32 = nI 49 := by decide +kernel
theorem cst_bipush_50 : (Int8.ofInt (50)).toInt32 = nI 50 := by decide +kernel
theorem cst_bipush_57 : (Int8.ofInt (57)).toInt32 = nI 57 := by decide +kernel
theorem cst_bipush_6 : (Int8.ofInt (6)).toInt32 = nI 6 := by decide +kernel
theorem cst_bipush_63 : (Int8.ofInt (63)).toInt32 = nI 63 := by decide +kernel
theorem cst_bipush_64 : (Int8.ofInt (64)).toInt32 = nI 64 := by decide +kernel
theorem cst_bipush_7 : (Int8.ofInt (7)).toInt32 = nI 7 := by decide +kernel
theorem cst_bipush_78 : (Int8.ofInt (78)).toInt32 = nI 78 := by decide +kernel
theorem cst_bipush_8 : (Int8.ofInt (8)).toInt32 = nI 8 := by decide +kernel
theorem cst_bipush_97 : (Int8.ofInt (97)).toInt32 = nI 97 := by decide +kernel
theorem cst_bipush_99 : (Int8.ofInt (99)).toInt32 = nI 99 := by decide +kernel
theorem cst_iconst_m1 : Int32.ofInt (-1) = (-1 : Int32) := by decide +kernel
theorem cst_iconst_0 : Int32.ofInt (0) = nI 0 := by decide +kernel
theorem cst_iconst_1 : Int32.ofInt (1) = nI 1 := by decide +kernel
theorem cst_iconst_2 : Int32.ofInt (2) = nI 2 := by decide +kernel
theorem cst_iconst_3 : Int32.ofInt (3) = nI 3 := by decide +kernel
theorem cst_iconst_4 : Int32.ofInt (4) = nI 4 := by decide +kernel
theorem cst_iconst_5 : Int32.ofInt (5) = nI 5 := by decide +kernel
theorem cst_sipush_195 : (Int16.ofInt (195)).toInt32 = nI 195 := by decide +kernel
theorem cst_sipush_234 : (Int16.ofInt (234)).toInt32 = nI 234 := by decide +kernel
theorem cst_sipush_255 : (Int16.ofInt (255)).toInt32 = nI 255 := by decide +kernel
theorem cst_sipush_832 : (Int16.ofInt (832)).toInt32 = nI 832 := by decide +kernel
