/-! ===== more rules ===== -/
section MORE
variable {l : Launch} {M : sM} {d : Nat} {B : sB} {K : sK} {pc p' : Nat} {lv : List (Option Value)} {st : List Value} {h : sH}
theorem e_mmax {idx : Nat} {x y : Int32} (hd : decode M.2.1 pc = .ok (.invokestatic idx, 3)) (F : Cond.methodLink M.1.cls idx Lib.Math.max.name ∈ lw_good) (hst : (st.map fun v => v.category).sum ≤ 8) (hdp : 1 ≤ d) (hB : B.1 ≤ B.2.2.1 ∧ B.2.1 ≤ B.2.2.2) (hp : pc + 3 = p') (kk : sEv l M d B K p' lv (.int (if x < y then y else x) :: st) h) : sEv l M d B K pc lv (.int y :: .int x :: st) h := by
  subst hp
  intro G p e R s m args below meth c H locs ls C hR hS hL
  have k2 := kk G p e R s m args below meth c H locs ls C hR hS hL
  obtain ⟨hx, hb, hml, hrt, hlk, hown, hin, hts, hBa, hrm, hG, hK⟩ := C
  refine va_mmax hx hb (hml.trans hL.1.symm) hown (hts _ F) (hts _ ?_) (hts _ ml_Math_max.2.1) (hts _ ml_Math_max.1) (by omega) ?_ (Nat.le_trans hB.1 hrm.2.2.1) (Nat.le_trans hB.2 hrm.2.2.2) hd k2
  · exact S_Num_7.2.2
  · have h1 := hrm.2.1
    rw [sTr_sum]
    omega
theorem e_mmaxN {idx a b : Nat} (hd : decode M.2.1 pc = .ok (.invokestatic idx, 3)) (F : Cond.methodLink M.1.cls idx Lib.Math.max.name ∈ lw_good) (ha : a < 2 ^ 31) (hb : b < 2 ^ 31) (hst : (st.map fun v => v.category).sum ≤ 8) (hdp : 1 ≤ d) (hB : B.1 ≤ B.2.2.1 ∧ B.2.1 ≤ B.2.2.2) (hp : pc + 3 = p') (kk : sEv l M d B K p' lv (.int (nI (max a b)) :: st) h) : sEv l M d B K pc lv (.int (nI b) :: .int (nI a) :: st) h := by
  refine e_mmax hd F hst hdp hB hp ?_
  have e : (if nI a < nI b then nI b else nI a) = nI (max a b) := by
    by_cases hc : a < b
    · rw [if_pos ((nI_ltI ha hb).mpr hc), Nat.max_eq_right (Nat.le_of_lt hc)]
    · rw [if_neg (fun z => hc ((nI_ltI ha hb).mp z)), Nat.max_eq_left (Nat.not_lt.mp hc)]
  rw [e]
  exact kk
theorem sEv.cast {pc2 : Nat} {lv2 : List (Option Value)} {st2 : List Value} {h2 : sH} (k : sEv l M d B K pc2 lv2 st2 h2) (e1 : lv = lv2) (e2 : st = st2) (e3 : h = h2) : sEv l M d B K pc2 lv st h := by
  subst e1; subst e2; subst e3; exact k
/-- a counting loop: from the end back -/
theorem lp_up {N : Nat} (P : Nat → Prop) (h0 : P N) (hs : ∀ i, i < N → P (i + 1) → P i) : ∀ i, i ≤ N → P i := by
  have key : ∀ k i, i + k = N → P i := by
    intro k
    induction k with
    | zero => intro i hi; rw [Nat.add_zero] at hi; rw [hi]; exact h0
    | succ k ih => intro i hi; exact hs i (by omega) (ih (i + 1) (by omega))
  intro i hi
  exact key (N - i) i (by omega)
-- exact contracts: one answer, one heap
def sX (l : Launch) (M : sM) (d : Nat) (as : List Value) (h : sH) (r : Option Value) (h' : sH) : Prop := sCall l M d 0 0 as h (fun r1 h1 => r1 = r ∧ h1 = h')
variable {M' : sM} {n d' mc ms idx : Nat} {As st0 : List Value} {r : Option Value} {h' : sH}
theorem sB0 {B : sB} (hB : B.1 ≤ B.2.2.1 ∧ B.2.1 ≤ B.2.2.2) : B.1 + 0 ≤ B.2.2.1 ∧ B.2.1 + 0 ≤ B.2.2.2 := hB
theorem x_callV {a ci : Nat} {fs : List Value} (hd : decode M.2.1 pc = .ok (.invokevirtual idx, 3)) (F : sVL M.1.cls idx ci M' n) (hc : sX l M' d' (.ref a :: As) h r h') (hn : As.length = n) (hr : h.2 a = .inr (.inr (ci, fs))) (hst : st0 = As.reverse ++ .ref a :: st) (hcat : (st.map fun v => v.category).sum ≤ 8) (hdp : d' + 1 ≤ d) (hB : B.1 ≤ B.2.2.1 ∧ B.2.1 ≤ B.2.2.2) (hp : pc + 3 = p')
    (kk : sEv l M d B K p' lv (r.toList ++ st) h') : sEv l M d B K pc lv st0 h := by
  refine e_callV hd F hc hn hr hst hcat hdp hB hp (fun r1 h1 hq => ?_)
  rw [hq.1, hq.2]
  exact kk
theorem x_callS (hd : decode M.2.1 pc = .ok (.invokestatic idx, 3)) (F : sSL M.1.cls idx M' n) (hc : sX l M' d' As h r h') (hn : As.length = n) (hst : st0 = As.reverse ++ st) (hcat : (st.map fun v => v.category).sum ≤ 8) (hdp : d' + 1 ≤ d) (hB : B.1 ≤ B.2.2.1 ∧ B.2.1 ≤ B.2.2.2) (hp : pc + 3 = p')
    (kk : sEv l M d B K p' lv (r.toList ++ st) h') : sEv l M d B K pc lv st0 h := by
  refine e_callS hd F hc hn hst hcat hdp hB hp (fun r1 h1 hq => ?_)
  rw [hq.1, hq.2]
  exact kk
theorem x_callSN (hd : decode M.2.1 pc = .ok (.invokestatic idx, 3)) (F : sSNL M.1.cls idx M' n) (hc : sX l M' d' As h r h') (hn : As.length = n) (hst : st0 = As.reverse ++ st) (hcat : (st.map fun v => v.category).sum ≤ 8) (hdp : d' + 1 ≤ d) (hB : B.1 ≤ B.2.2.1 ∧ B.2.1 ≤ B.2.2.2) (hp : pc + 3 = p')
    (kk : sEv l M d B K p' lv (r.toList ++ st) h') : sEv l M d B K pc lv st0 h := by
  refine e_callSN hd F hc hn hst hcat hdp hB hp (fun r1 h1 hq => ?_)
  rw [hq.1, hq.2]
  exact kk
end MORE
