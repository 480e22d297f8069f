/-! ===== the reference: inParts, minors ===== -/
def inF (x : Gd) (r c : Nat) : Nat := if (lay x).1.1.1 r = (lay x).1.1.2 c then 1 else 0
theorem ct_prod {n m : Nat} {p q : Nat → Bool} : ct n p * ct m q = sm n (fun r => sm m (fun c => if p r = true ∧ q c = true then 1 else 0)) := by
  unfold ct
  rw [← sm_mulr]
  refine sm_congr fun r _ => ?_
  rw [← sm_mul]
  refine sm_congr fun c _ => ?_
  cases p r <;> cases q c <;> rfl
theorem inF_sum {x : Gd} (hx : Gok x) : sm x.1.1 (fun r => sm x.1.2.1 (fun c => inF x r c)) = jnE x := by
  have lo := lay_ou (x := x)
  have lk := lay_kn hx
  have l4 := (layC_ok hx _ (Nat.le_refl _)).2.2.2.1
  have hR := hx.1.2
  have hC := hx.2.1.2
  unfold jnE
  have e : ∀ p, pRows (lay x).1 (p + 1) * pCols (lay x).1 (p + 1) = sm x.1.1 (fun r => sm x.1.2.1 (fun c => if decide ((lay x).1.1.1 r = p + 1) = true ∧ decide ((lay x).1.1.2 c = p + 1) = true then 1 else 0)) := by
    intro p
    rw [← ct_prod]
    unfold pRows pCols ct
    rw [sm_more (f := fun k => if decide ((lay x).1.1.1 k = p + 1) = true then 1 else 0) hR (fun k h1 _ => if_neg (by rw [lo.1 k h1]; simp)), sm_more (f := fun k => if decide ((lay x).1.1.2 k = p + 1) = true then 1 else 0) hC (fun k h1 _ => if_neg (by rw [lo.2 k h1]; simp))]
  rw [sm_congr fun p _ => e p]
  refine Eq.trans ?_ (Eq.symm sm_comm)
  refine sm_congr fun r hr => ?_
  refine Eq.trans ?_ (Eq.symm sm_comm)
  refine sm_congr fun c hc => ?_
  unfold inF
  have z1 := lk.1 r hr
  have z2 := lk.2 c hc
  have z3 := (l4 r).1
  by_cases w : (lay x).1.1.1 r = (lay x).1.1.2 c
  · rw [if_pos w]
    have z4 : (lay x).1.1.1 r ≤ (lay x).2 := z3
    have e1 := sm_pick' (n := (lay x).2) (k := (lay x).1.1.1 r - 1) (f := fun _ => 1) (by omega)
    refine Eq.trans e1.symm (sm_congr fun p _ => ?_)
    by_cases u : p = (lay x).1.1.1 r - 1
    · rw [if_pos u, if_pos ⟨decide_eq_true (by omega), decide_eq_true (by omega)⟩]
    · rw [if_neg u, if_neg (fun q => u (by have := of_decide_eq_true q.1; omega))]
  · rw [if_neg w]
    refine (sm_zero fun p _ => if_neg fun q => w ?_).symm
    rw [of_decide_eq_true q.1, of_decide_eq_true q.2]
def gq (x : Gd) (b : Bool) (r s c d : Nat) : Nat := if mz x b r s c d = true then 1 else 0
theorem mz_sym {x : Gd} {b : Bool} {r s c d : Nat} : mz x b s r d c = mz x b r s c d := by
  unfold mz mnr zr
  rw [Nat.mul_comm (at' x s d), Nat.mul_comm (at' x s c) (at' x r d)]
  cases td x r c <;> cases td x r d <;> cases td x s c <;> cases td x s d <;> rfl
theorem sm_lt {n k : Nat} {f : Nat → Nat} (h : k ≤ n) : sm k f = sm n (fun s => if s < k then f s else 0) := by
  rw [sm_more (n := k) (m := n) h (fun j h1 _ => if_neg (by omega))]
  exact sm_congr fun j hj => (if_pos hj).symm
theorem sm_if {n : Nat} {p : Prop} [Decidable p] {f : Nat → Nat} : (if p then sm n f else 0) = sm n (fun k => if p then f k else 0) := by
  by_cases h : p
  · rw [if_pos h]; exact sm_congr fun k _ => (if_pos h).symm
  · rw [if_neg h]; exact (sm_zero fun k _ => if_neg h).symm
theorem gq_sum {x : Gd} {b : Bool} : sm x.1.1 (fun r => sm r (fun s => sm x.1.2.1 (fun c => sm c (fun d => gq x b r s c d)))) = mAll x b := by
  have e1 : sm x.1.1 (fun r => sm r (fun s => sm x.1.2.1 (fun c => sm c (fun d => gq x b r s c d)))) = sm x.1.1 (fun r => sm x.1.1 (fun s => sm x.1.2.1 (fun c => sm x.1.2.1 (fun d => if s < r then (if d < c then gq x b r s c d else 0) else 0)))) := by
    refine sm_congr fun r hr => ?_
    rw [sm_lt (n := x.1.1) (by omega)]
    refine sm_congr fun s _ => ?_
    rw [sm_if]
    refine sm_congr fun c hc => ?_
    rw [sm_lt (n := x.1.2.1) (by omega), sm_if]
  have e2 : mAll x b = sm x.1.1 (fun r => sm x.1.1 (fun s => sm x.1.2.1 (fun c => sm x.1.2.1 (fun d => if r < s then (if c < d then gq x b r s c d else 0) else 0)))) := by
    unfold mAll cb
    refine sm_congr fun r _ => ?_
    rw [sm_comm]
    refine sm_congr fun s _ => ?_
    refine sm_congr fun c _ => ?_
    rw [sm_if]
    refine sm_congr fun d _ => ?_
    unfold gq
    rfl
  rw [e1, e2, sm_comm]
  refine sm_congr fun r _ => sm_congr fun s _ => ?_
  rw [sm_comm]
  refine sm_congr fun c _ => sm_congr fun d _ => ?_
  unfold gq
  rw [mz_sym]
theorem gq_0 {x : Gd} {b : Bool} {r s c d : Nat} (h : mnr x r s c d = false) : gq x b r s c d = 0 := by
  unfold gq mz; rw [h]; rfl
theorem gq_1 {x : Gd} {r s c d : Nat} (h : mnr x r s c d = true) : gq x false r s c d = 1 := by
  unfold gq mz; rw [h]; rfl
theorem gq_2 {x : Gd} {r s c d : Nat} (h : mnr x r s c d = true) (e : at' x r c * at' x s d % x.1.2.2 = at' x r d * at' x s c % x.1.2.2) : gq x true r s c d = 0 := by
  unfold gq mz zr; rw [h, decide_eq_true e]; rfl
theorem gq_3 {x : Gd} {b : Bool} {r s c d : Nat} (h : mnr x r s c d = true) (e : ¬ at' x r c * at' x s d % x.1.2.2 = at' x r d * at' x s c % x.1.2.2) : gq x b r s c d = 1 := by
  unfold gq mz zr; rw [h, decide_eq_false e]; cases b <;> rfl
theorem mnr_0 {x : Gd} {r s c d : Nat} (h : at' x r c = 0 ∨ at' x s c = 0 ∨ at' x r d = 0 ∨ at' x s d = 0) : mnr x r s c d = false := by
  unfold mnr
  rcases h with h | h | h | h <;> rw [td_false h] <;> simp
theorem mnr_1 {x : Gd} {r s c d : Nat} (h1 : ¬ at' x r c = 0) (h2 : ¬ at' x s c = 0) (h3 : ¬ at' x r d = 0) (h4 : ¬ at' x s d = 0) : mnr x r s c d = true := by
  unfold mnr; rw [td_true h1, td_true h2, td_true h3, td_true h4]; rfl
theorem accS {a b c k : Nat} (h : b = c + k) : (some (Value.int (nI (a + c + k))) : Option Value) = some (Value.int (nI (a + b))) := by rw [h, Nat.add_assoc]
set_option maxRecDepth 4000 in
theorem c_M_inParts {l : Launch} {h : sH} {x : Gd} {n t : Nat} {v : mV} (hm : h.2 61 = mO n t v) (hz : h.2 62 = iA 39 (nF (zN x))) (hx : Gok x) (hP : PmAt h (lay x).1) : sX l m_M_inParts 0 [.ref 61] h (some (.int (nI (jnE x)))) (h) := by
  have hM := hx.2.2.1.le
  have hR := hx.1
  have hC := hx.2.1
  obtain ⟨e1, e2, e3, e4, p1, p2, p3, p4, PV⟩ := id hP
  have lp := lay_pv hx
  have lo := lay_ou (x := x)
  refine en_M_inParts ?_
  refine e_iconst (v := nI 0) (p' := 1) D_M_inParts_0 cst_iconst_0 rfl ?_
  refine e_istore_1 (p' := 2) D_M_inParts_1 (Nat.le_of_ble_eq_true rfl) rfl rfl ?_
  refine e_iconst (v := nI 0) (p' := 3) D_M_inParts_2 cst_iconst_0 rfl ?_
  refine e_istore_2 (p' := 4) D_M_inParts_3 (Nat.le_of_ble_eq_true rfl) rfl rfl ?_
  have lk4 : ∀ i : Nat, i ≤ x.1.1 → sEv l m_M_inParts 0 (0, 0, 0, 0) (sKm 0 0 (fun r1 h1 => r1 = some (.int (nI (jnE x))) ∧ h1 = h)) 4 [some (.ref 61), some (.int (nI (sm i (fun r => sm x.1.2.1 (fun c => inF x r c))))), some (.int (nI i)), none] [] (h) := by
    refine lp_up _ ?_ ?_
    · skip
      have pb := (lp.2 (x.1.1)).1
      refine e_iload_2 (p' := 5) D_M_inParts_4 rfl ?_
      refine e_aload_0 (p' := 6) D_M_inParts_5 rfl ?_
      refine e_getfield (p' := 9) D_M_inParts_6 F_M_7 (by first | assumption | exact sUp_eq | (rw [sUp_ne (by omega)]; assumption) | (rw [sUp_ne (by omega), sUp_ne (by omega)]; assumption) | (rw [sUp_ne (by omega)]; exact sUp_eq) | (rw [gSet_ne (by omega) (by omega)]; first | assumption | exact sUp_eq | (rw [sUp_ne (by omega)]; assumption) | (rw [sUp_ne (by omega), sUp_ne (by omega)]; assumption)) | (rw [sUp_ne (by omega), sUp_ne (by omega), sUp_ne (by omega)]; assumption) | (simp [sUp]; done)) (by rfl) rfl ?_
      refine e_bipush (v := nI 36) (p' := 11) D_M_inParts_9 cst_bipush_36 rfl ?_
      refine e_iaload (p' := 12) D_M_inParts_11 (by first | assumption | exact sUp_eq | (rw [sUp_ne (by omega)]; assumption) | (rw [sUp_ne (by omega), sUp_ne (by omega)]; assumption) | (rw [sUp_ne (by omega)]; exact sUp_eq) | (rw [gSet_ne (by omega) (by omega)]; first | assumption | exact sUp_eq | (rw [sUp_ne (by omega)]; assumption) | (rw [sUp_ne (by omega), sUp_ne (by omega)]; assumption)) | (rw [sUp_ne (by omega), sUp_ne (by omega), sUp_ne (by omega)]; assumption) | (simp [sUp]; done)) (by omega) (by omega) (by rfl) rfl ?_
      rw [z36]
      refine e_icmpN_ge (q := 63) (p' := 15) D_M_inParts_12 (by omega) (by omega) rfl rfl (fun hc12 => ?_) (fun hc12 => ?_)
      ·
        refine e_iload_1 (p' := 64) D_M_inParts_63 rfl ?_
        refine e_ireturn (ty := .int) D_M_inParts_64 rfl (by first | rfl | exact sBo_nar _) ⟨by decide, by decide⟩ ?_
        rw [inF_sum hx]; exact ⟨rfl, rfl⟩
      ·
        exfalso; omega
    · intro i hi ih4 
      have pb := (lp.2 i).1
      refine e_iload_2 (p' := 5) D_M_inParts_4 rfl ?_
      refine e_aload_0 (p' := 6) D_M_inParts_5 rfl ?_
      refine e_getfield (p' := 9) D_M_inParts_6 F_M_7 (by first | assumption | exact sUp_eq | (rw [sUp_ne (by omega)]; assumption) | (rw [sUp_ne (by omega), sUp_ne (by omega)]; assumption) | (rw [sUp_ne (by omega)]; exact sUp_eq) | (rw [gSet_ne (by omega) (by omega)]; first | assumption | exact sUp_eq | (rw [sUp_ne (by omega)]; assumption) | (rw [sUp_ne (by omega), sUp_ne (by omega)]; assumption)) | (rw [sUp_ne (by omega), sUp_ne (by omega), sUp_ne (by omega)]; assumption) | (simp [sUp]; done)) (by rfl) rfl ?_
      refine e_bipush (v := nI 36) (p' := 11) D_M_inParts_9 cst_bipush_36 rfl ?_
      refine e_iaload (p' := 12) D_M_inParts_11 (by first | assumption | exact sUp_eq | (rw [sUp_ne (by omega)]; assumption) | (rw [sUp_ne (by omega), sUp_ne (by omega)]; assumption) | (rw [sUp_ne (by omega)]; exact sUp_eq) | (rw [gSet_ne (by omega) (by omega)]; first | assumption | exact sUp_eq | (rw [sUp_ne (by omega)]; assumption) | (rw [sUp_ne (by omega), sUp_ne (by omega)]; assumption)) | (rw [sUp_ne (by omega), sUp_ne (by omega), sUp_ne (by omega)]; assumption) | (simp [sUp]; done)) (by omega) (by omega) (by rfl) rfl ?_
      rw [z36]
      refine e_icmpN_ge (q := 63) (p' := 15) D_M_inParts_12 (by omega) (by omega) rfl rfl (fun hc12 => ?_) (fun hc12 => ?_)
      ·
        exfalso; omega
      ·
        refine e_iconst (v := nI 0) (p' := 16) D_M_inParts_15 cst_iconst_0 rfl ?_
        refine e_istore_3 (p' := 17) D_M_inParts_16 (Nat.le_of_ble_eq_true rfl) rfl rfl ?_
        have lk17 : ∀ j : Nat, j ≤ x.1.2.1 → sEv l m_M_inParts 0 (0, 0, 0, 0) (sKm 0 0 (fun r1 h1 => r1 = some (.int (nI (jnE x))) ∧ h1 = h)) 17 [some (.ref 61), some (.int (nI (sm i (fun r => sm x.1.2.1 (fun c => inF x r c)) + sm j (fun c => inF x i c)))), some (.int (nI i)), some (.int (nI j))] [] (h) := by
          refine lp_up _ ?_ ?_
          · skip
            have pc := (lp.2 (x.1.2.1)).2
            refine e_iload_3 (p' := 18) D_M_inParts_17 rfl ?_
            refine e_aload_0 (p' := 19) D_M_inParts_18 rfl ?_
            refine e_getfield (p' := 22) D_M_inParts_19 F_M_7 (by first | assumption | exact sUp_eq | (rw [sUp_ne (by omega)]; assumption) | (rw [sUp_ne (by omega), sUp_ne (by omega)]; assumption) | (rw [sUp_ne (by omega)]; exact sUp_eq) | (rw [gSet_ne (by omega) (by omega)]; first | assumption | exact sUp_eq | (rw [sUp_ne (by omega)]; assumption) | (rw [sUp_ne (by omega), sUp_ne (by omega)]; assumption)) | (rw [sUp_ne (by omega), sUp_ne (by omega), sUp_ne (by omega)]; assumption) | (simp [sUp]; done)) (by rfl) rfl ?_
            refine e_bipush (v := nI 37) (p' := 24) D_M_inParts_22 cst_bipush_37 rfl ?_
            refine e_iaload (p' := 25) D_M_inParts_24 (by first | assumption | exact sUp_eq | (rw [sUp_ne (by omega)]; assumption) | (rw [sUp_ne (by omega), sUp_ne (by omega)]; assumption) | (rw [sUp_ne (by omega)]; exact sUp_eq) | (rw [gSet_ne (by omega) (by omega)]; first | assumption | exact sUp_eq | (rw [sUp_ne (by omega)]; assumption) | (rw [sUp_ne (by omega), sUp_ne (by omega)]; assumption)) | (rw [sUp_ne (by omega), sUp_ne (by omega), sUp_ne (by omega)]; assumption) | (simp [sUp]; done)) (by omega) (by omega) (by rfl) rfl ?_
            rw [z37]
            refine e_icmpN_ge (q := 57) (p' := 28) D_M_inParts_25 (by omega) (by omega) rfl rfl (fun hc25 => ?_) (fun hc25 => ?_)
            ·
              first | refine e_iincN_2 (n := 1) (p' := 60) D_M_inParts_57 (Nat.le_of_ble_eq_true rfl) rfl rfl ?_ | refine e_iinc_2 (p' := 60) D_M_inParts_57 (Nat.le_of_ble_eq_true rfl) rfl rfl rfl ?_
              refine e_goto (p' := 4) D_M_inParts_60 rfl ?_
              refine sEv.castW (ih4) ?_ ?_ ?_
              · exact ⟨rfl, rfl, rfl, trivial⟩
              · rfl
              · first | rfl | (simp; done)
            ·
              exfalso; omega
          · intro j hj ih17 
            have pc := (lp.2 j).2
            refine e_iload_3 (p' := 18) D_M_inParts_17 rfl ?_
            refine e_aload_0 (p' := 19) D_M_inParts_18 rfl ?_
            refine e_getfield (p' := 22) D_M_inParts_19 F_M_7 (by first | assumption | exact sUp_eq | (rw [sUp_ne (by omega)]; assumption) | (rw [sUp_ne (by omega), sUp_ne (by omega)]; assumption) | (rw [sUp_ne (by omega)]; exact sUp_eq) | (rw [gSet_ne (by omega) (by omega)]; first | assumption | exact sUp_eq | (rw [sUp_ne (by omega)]; assumption) | (rw [sUp_ne (by omega), sUp_ne (by omega)]; assumption)) | (rw [sUp_ne (by omega), sUp_ne (by omega), sUp_ne (by omega)]; assumption) | (simp [sUp]; done)) (by rfl) rfl ?_
            refine e_bipush (v := nI 37) (p' := 24) D_M_inParts_22 cst_bipush_37 rfl ?_
            refine e_iaload (p' := 25) D_M_inParts_24 (by first | assumption | exact sUp_eq | (rw [sUp_ne (by omega)]; assumption) | (rw [sUp_ne (by omega), sUp_ne (by omega)]; assumption) | (rw [sUp_ne (by omega)]; exact sUp_eq) | (rw [gSet_ne (by omega) (by omega)]; first | assumption | exact sUp_eq | (rw [sUp_ne (by omega)]; assumption) | (rw [sUp_ne (by omega), sUp_ne (by omega)]; assumption)) | (rw [sUp_ne (by omega), sUp_ne (by omega), sUp_ne (by omega)]; assumption) | (simp [sUp]; done)) (by omega) (by omega) (by rfl) rfl ?_
            rw [z37]
            refine e_icmpN_ge (q := 57) (p' := 28) D_M_inParts_25 (by omega) (by omega) rfl rfl (fun hc25 => ?_) (fun hc25 => ?_)
            ·
              exfalso; omega
            ·
              refine e_iload_1 (p' := 29) D_M_inParts_28 rfl ?_
              refine e_aload_0 (p' := 30) D_M_inParts_29 rfl ?_
              refine e_getfield (p' := 33) D_M_inParts_30 F_M_27 (by first | assumption | exact sUp_eq | (rw [sUp_ne (by omega)]; assumption) | (rw [sUp_ne (by omega), sUp_ne (by omega)]; assumption) | (rw [sUp_ne (by omega)]; exact sUp_eq) | (rw [gSet_ne (by omega) (by omega)]; first | assumption | exact sUp_eq | (rw [sUp_ne (by omega)]; assumption) | (rw [sUp_ne (by omega), sUp_ne (by omega)]; assumption)) | (rw [sUp_ne (by omega), sUp_ne (by omega), sUp_ne (by omega)]; assumption) | (simp [sUp]; done)) (by rfl) rfl ?_
              refine e_iload_2 (p' := 34) D_M_inParts_33 rfl ?_
              refine e_iaload (p' := 35) D_M_inParts_34 (by first | assumption | exact sUp_eq | (rw [sUp_ne (by omega)]; assumption) | (rw [sUp_ne (by omega), sUp_ne (by omega)]; assumption) | (rw [sUp_ne (by omega)]; exact sUp_eq) | (rw [gSet_ne (by omega) (by omega)]; first | assumption | exact sUp_eq | (rw [sUp_ne (by omega)]; assumption) | (rw [sUp_ne (by omega), sUp_ne (by omega)]; assumption)) | (rw [sUp_ne (by omega), sUp_ne (by omega), sUp_ne (by omega)]; assumption) | (simp [sUp]; done)) (by omega) (by omega) (by rfl) rfl ?_
              refine e_aload_0 (p' := 36) D_M_inParts_35 rfl ?_
              refine e_getfield (p' := 39) D_M_inParts_36 F_M_30 (by first | assumption | exact sUp_eq | (rw [sUp_ne (by omega)]; assumption) | (rw [sUp_ne (by omega), sUp_ne (by omega)]; assumption) | (rw [sUp_ne (by omega)]; exact sUp_eq) | (rw [gSet_ne (by omega) (by omega)]; first | assumption | exact sUp_eq | (rw [sUp_ne (by omega)]; assumption) | (rw [sUp_ne (by omega), sUp_ne (by omega)]; assumption)) | (rw [sUp_ne (by omega), sUp_ne (by omega), sUp_ne (by omega)]; assumption) | (simp [sUp]; done)) (by rfl) rfl ?_
              refine e_iload_3 (p' := 40) D_M_inParts_39 rfl ?_
              refine e_iaload (p' := 41) D_M_inParts_40 (by first | assumption | exact sUp_eq | (rw [sUp_ne (by omega)]; assumption) | (rw [sUp_ne (by omega), sUp_ne (by omega)]; assumption) | (rw [sUp_ne (by omega)]; exact sUp_eq) | (rw [gSet_ne (by omega) (by omega)]; first | assumption | exact sUp_eq | (rw [sUp_ne (by omega)]; assumption) | (rw [sUp_ne (by omega), sUp_ne (by omega)]; assumption)) | (rw [sUp_ne (by omega), sUp_ne (by omega), sUp_ne (by omega)]; assumption) | (simp [sUp]; done)) (by omega) (by omega) (by rfl) rfl ?_
              rw [(PV i (by omega)).1.1, (PV j (by omega)).1.2]
              refine e_icmp_ne (q := 48) (p' := 44) D_M_inParts_41 rfl rfl (fun hc41 => ?_) (fun hc41 => ?_)
              ·
                refine e_iconst (v := nI 0) (p' := 49) D_M_inParts_48 cst_iconst_0 rfl ?_
                first | refine e_iaddN (p' := 50) D_M_inParts_49 rfl ?_ | refine e_iadd (p' := 50) D_M_inParts_49 rfl ?_
                refine e_istore_1 (p' := 51) D_M_inParts_50 (Nat.le_of_ble_eq_true rfl) rfl rfl ?_
                first | refine e_iincN_3 (n := 1) (p' := 54) D_M_inParts_51 (Nat.le_of_ble_eq_true rfl) rfl rfl ?_ | refine e_iinc_3 (p' := 54) D_M_inParts_51 (Nat.le_of_ble_eq_true rfl) rfl rfl rfl ?_
                refine e_goto (p' := 17) D_M_inParts_54 rfl ?_
                refine sEv.castW (ih17) ?_ ?_ ?_
                · refine ⟨rfl, ?_, rfl, rfl, trivial⟩
                  exact accS (by rw [sm_succ, show inF x i j = 0 from if_neg (fun z => hc41 (by rw [z]))])
                · rfl
                · first | rfl | (simp; done)
              ·
                refine e_iconst (v := nI 1) (p' := 45) D_M_inParts_44 cst_iconst_1 rfl ?_
                refine e_goto (p' := 49) D_M_inParts_45 rfl ?_
                first | refine e_iaddN (p' := 50) D_M_inParts_49 rfl ?_ | refine e_iadd (p' := 50) D_M_inParts_49 rfl ?_
                refine e_istore_1 (p' := 51) D_M_inParts_50 (Nat.le_of_ble_eq_true rfl) rfl rfl ?_
                first | refine e_iincN_3 (n := 1) (p' := 54) D_M_inParts_51 (Nat.le_of_ble_eq_true rfl) rfl rfl ?_ | refine e_iinc_3 (p' := 54) D_M_inParts_51 (Nat.le_of_ble_eq_true rfl) rfl rfl rfl ?_
                refine e_goto (p' := 17) D_M_inParts_54 rfl ?_
                refine sEv.castW (ih17) ?_ ?_ ?_
                · refine ⟨rfl, ?_, rfl, rfl, trivial⟩
                  exact accS (by rw [sm_succ, show inF x i j = 1 from if_pos (pJ_inj pb pc (by first | exact hc41 | exact Classical.not_not.mp hc41))])
                · rfl
                · first | rfl | (simp; done)
        refine sEv.castW (lk17 0 (by omega) ) ?_ ?_ ?_
        · exact ⟨rfl, rfl, rfl, rfl, trivial⟩
        · rfl
        · first | rfl | (simp; done)
  refine sEv.castW (lk4 0 (by omega) ) ?_ ?_ ?_
  · exact ⟨rfl, rfl, rfl, trivial⟩
  · rfl
  · first | rfl | (simp; done)
set_option maxRecDepth 4000 in
theorem c_M_minors {l : Launch} {h : sH} {x : Gd} {n t : Nat} {v : mV} (hm : h.2 61 = mO n t v) (hz : h.2 62 = iA 39 (nF (zN x))) (hx : Gok x) {b : Bool} : sX l m_M_minors 1 [.ref 61, .int (sBo b)] h (some (.int (nI (mAll x b)))) (h) := by
  have hM := hx.2.2.1.le
  have hR := hx.1
  have hC := hx.2.1
  refine en_M_minors ?_
  refine e_iconst (v := nI 0) (p' := 1) D_M_minors_0 cst_iconst_0 rfl ?_
  refine e_istore_2 (p' := 2) D_M_minors_1 (Nat.le_of_ble_eq_true rfl) rfl rfl ?_
  refine e_iconst (v := nI 0) (p' := 3) D_M_minors_2 cst_iconst_0 rfl ?_
  refine e_istore_3 (p' := 4) D_M_minors_3 (Nat.le_of_ble_eq_true rfl) rfl rfl ?_
  have lk4 : ∀ i : Nat, i ≤ x.1.1 → sEv l m_M_minors 1 (0, 0, 0, 0) (sKm 0 0 (fun r1 h1 => r1 = some (.int (nI (mAll x b))) ∧ h1 = h)) 4 [some (.ref 61), some (.int (sBo b)), some (.int (nI (sm i (fun r => sm r (fun s => sm x.1.2.1 (fun c => sm c (fun d => gq x b r s c d))))))), some (.int (nI i)), none, none, none, none, none] [] (h) := by
    refine lp_up _ ?_ ?_
    · skip
      refine e_iload_3 (p' := 5) D_M_minors_4 rfl ?_
      refine e_aload_0 (p' := 6) D_M_minors_5 rfl ?_
      refine e_getfield (p' := 9) D_M_minors_6 F_M_7 (by first | assumption | exact sUp_eq | (rw [sUp_ne (by omega)]; assumption) | (rw [sUp_ne (by omega), sUp_ne (by omega)]; assumption) | (rw [sUp_ne (by omega)]; exact sUp_eq) | (rw [gSet_ne (by omega) (by omega)]; first | assumption | exact sUp_eq | (rw [sUp_ne (by omega)]; assumption) | (rw [sUp_ne (by omega), sUp_ne (by omega)]; assumption)) | (rw [sUp_ne (by omega), sUp_ne (by omega), sUp_ne (by omega)]; assumption) | (simp [sUp]; done)) (by rfl) rfl ?_
      refine e_bipush (v := nI 36) (p' := 11) D_M_minors_9 cst_bipush_36 rfl ?_
      refine e_iaload (p' := 12) D_M_minors_11 (by first | assumption | exact sUp_eq | (rw [sUp_ne (by omega)]; assumption) | (rw [sUp_ne (by omega), sUp_ne (by omega)]; assumption) | (rw [sUp_ne (by omega)]; exact sUp_eq) | (rw [gSet_ne (by omega) (by omega)]; first | assumption | exact sUp_eq | (rw [sUp_ne (by omega)]; assumption) | (rw [sUp_ne (by omega), sUp_ne (by omega)]; assumption)) | (rw [sUp_ne (by omega), sUp_ne (by omega), sUp_ne (by omega)]; assumption) | (simp [sUp]; done)) (by omega) (by omega) (by rfl) rfl ?_
      rw [z36]
      refine e_icmpN_ge (q := 192) (p' := 15) D_M_minors_12 (by omega) (by omega) rfl rfl (fun hc12 => ?_) (fun hc12 => ?_)
      ·
        refine e_iload_2 (p' := 193) D_M_minors_192 rfl ?_
        refine e_ireturn (ty := .int) D_M_minors_193 rfl (by first | rfl | exact sBo_nar _) ⟨by decide, by decide⟩ ?_
        rw [gq_sum]; exact ⟨rfl, rfl⟩
      ·
        exfalso; omega
    · intro i hi ih4 
      refine e_iload_3 (p' := 5) D_M_minors_4 rfl ?_
      refine e_aload_0 (p' := 6) D_M_minors_5 rfl ?_
      refine e_getfield (p' := 9) D_M_minors_6 F_M_7 (by first | assumption | exact sUp_eq | (rw [sUp_ne (by omega)]; assumption) | (rw [sUp_ne (by omega), sUp_ne (by omega)]; assumption) | (rw [sUp_ne (by omega)]; exact sUp_eq) | (rw [gSet_ne (by omega) (by omega)]; first | assumption | exact sUp_eq | (rw [sUp_ne (by omega)]; assumption) | (rw [sUp_ne (by omega), sUp_ne (by omega)]; assumption)) | (rw [sUp_ne (by omega), sUp_ne (by omega), sUp_ne (by omega)]; assumption) | (simp [sUp]; done)) (by rfl) rfl ?_
      refine e_bipush (v := nI 36) (p' := 11) D_M_minors_9 cst_bipush_36 rfl ?_
      refine e_iaload (p' := 12) D_M_minors_11 (by first | assumption | exact sUp_eq | (rw [sUp_ne (by omega)]; assumption) | (rw [sUp_ne (by omega), sUp_ne (by omega)]; assumption) | (rw [sUp_ne (by omega)]; exact sUp_eq) | (rw [gSet_ne (by omega) (by omega)]; first | assumption | exact sUp_eq | (rw [sUp_ne (by omega)]; assumption) | (rw [sUp_ne (by omega), sUp_ne (by omega)]; assumption)) | (rw [sUp_ne (by omega), sUp_ne (by omega), sUp_ne (by omega)]; assumption) | (simp [sUp]; done)) (by omega) (by omega) (by rfl) rfl ?_
      rw [z36]
      refine e_icmpN_ge (q := 192) (p' := 15) D_M_minors_12 (by omega) (by omega) rfl rfl (fun hc12 => ?_) (fun hc12 => ?_)
      ·
        exfalso; omega
      ·
        refine e_iconst (v := nI 0) (p' := 16) D_M_minors_15 cst_iconst_0 rfl ?_
        refine e_istore_4 (p' := 18) D_M_minors_16 (Nat.le_of_ble_eq_true rfl) rfl rfl ?_
        have lk18 : ∀ j : Nat, j ≤ i → sEv l m_M_minors 1 (0, 0, 0, 0) (sKm 0 0 (fun r1 h1 => r1 = some (.int (nI (mAll x b))) ∧ h1 = h)) 18 [some (.ref 61), some (.int (sBo b)), some (.int (nI (sm i (fun r => sm r (fun s => sm x.1.2.1 (fun c => sm c (fun d => gq x b r s c d)))) + sm j (fun s => sm x.1.2.1 (fun c => sm c (fun d => gq x b i s c d)))))), some (.int (nI i)), some (.int (nI j)), none, none, none, none] [] (h) := by
          refine lp_up _ ?_ ?_
          · skip
            refine e_iload_4 (p' := 20) D_M_minors_18 rfl ?_
            refine e_iload_3 (p' := 21) D_M_minors_20 rfl ?_
            refine e_icmpN_ge (q := 186) (p' := 24) D_M_minors_21 (by omega) (by omega) rfl rfl (fun hc21 => ?_) (fun hc21 => ?_)
            ·
              first | refine e_iincN_3 (n := 1) (p' := 189) D_M_minors_186 (Nat.le_of_ble_eq_true rfl) rfl rfl ?_ | refine e_iinc_3 (p' := 189) D_M_minors_186 (Nat.le_of_ble_eq_true rfl) rfl rfl rfl ?_
              refine e_goto (p' := 4) D_M_minors_189 rfl ?_
              refine sEv.castW (ih4) ?_ ?_ ?_
              · exact ⟨rfl, rfl, rfl, rfl, trivial⟩
              · rfl
              · first | rfl | (simp; done)
            ·
              exfalso; omega
          · intro j hj ih18 
            refine e_iload_4 (p' := 20) D_M_minors_18 rfl ?_
            refine e_iload_3 (p' := 21) D_M_minors_20 rfl ?_
            refine e_icmpN_ge (q := 186) (p' := 24) D_M_minors_21 (by omega) (by omega) rfl rfl (fun hc21 => ?_) (fun hc21 => ?_)
            ·
              exfalso; omega
            ·
              refine e_iconst (v := nI 0) (p' := 25) D_M_minors_24 cst_iconst_0 rfl ?_
              refine e_istore_5 (p' := 27) D_M_minors_25 (Nat.le_of_ble_eq_true rfl) rfl rfl ?_
              have lk27 : ∀ k : Nat, k ≤ x.1.2.1 → sEv l m_M_minors 1 (0, 0, 0, 0) (sKm 0 0 (fun r1 h1 => r1 = some (.int (nI (mAll x b))) ∧ h1 = h)) 27 [some (.ref 61), some (.int (sBo b)), some (.int (nI (sm i (fun r => sm r (fun s => sm x.1.2.1 (fun c => sm c (fun d => gq x b r s c d)))) + sm j (fun s => sm x.1.2.1 (fun c => sm c (fun d => gq x b i s c d))) + sm k (fun c => sm c (fun d => gq x b i j c d))))), some (.int (nI i)), some (.int (nI j)), some (.int (nI k)), none, none, none] [] (h) := by
                refine lp_up _ ?_ ?_
                · skip
                  refine e_iload_5 (p' := 29) D_M_minors_27 rfl ?_
                  refine e_aload_0 (p' := 30) D_M_minors_29 rfl ?_
                  refine e_getfield (p' := 33) D_M_minors_30 F_M_7 (by first | assumption | exact sUp_eq | (rw [sUp_ne (by omega)]; assumption) | (rw [sUp_ne (by omega), sUp_ne (by omega)]; assumption) | (rw [sUp_ne (by omega)]; exact sUp_eq) | (rw [gSet_ne (by omega) (by omega)]; first | assumption | exact sUp_eq | (rw [sUp_ne (by omega)]; assumption) | (rw [sUp_ne (by omega), sUp_ne (by omega)]; assumption)) | (rw [sUp_ne (by omega), sUp_ne (by omega), sUp_ne (by omega)]; assumption) | (simp [sUp]; done)) (by rfl) rfl ?_
                  refine e_bipush (v := nI 37) (p' := 35) D_M_minors_33 cst_bipush_37 rfl ?_
                  refine e_iaload (p' := 36) D_M_minors_35 (by first | assumption | exact sUp_eq | (rw [sUp_ne (by omega)]; assumption) | (rw [sUp_ne (by omega), sUp_ne (by omega)]; assumption) | (rw [sUp_ne (by omega)]; exact sUp_eq) | (rw [gSet_ne (by omega) (by omega)]; first | assumption | exact sUp_eq | (rw [sUp_ne (by omega)]; assumption) | (rw [sUp_ne (by omega), sUp_ne (by omega)]; assumption)) | (rw [sUp_ne (by omega), sUp_ne (by omega), sUp_ne (by omega)]; assumption) | (simp [sUp]; done)) (by omega) (by omega) (by rfl) rfl ?_
                  rw [z37]
                  refine e_icmpN_ge (q := 180) (p' := 39) D_M_minors_36 (by omega) (by omega) rfl rfl (fun hc36 => ?_) (fun hc36 => ?_)
                  ·
                    first | refine e_iincN_4 (n := 1) (p' := 183) D_M_minors_180 (Nat.le_of_ble_eq_true rfl) rfl rfl ?_ | refine e_iinc_4 (p' := 183) D_M_minors_180 (Nat.le_of_ble_eq_true rfl) rfl rfl rfl ?_
                    refine e_goto (p' := 18) D_M_minors_183 rfl ?_
                    refine sEv.castW (ih18) ?_ ?_ ?_
                    · exact ⟨rfl, rfl, accS rfl, rfl, rfl, trivial⟩
                    · rfl
                    · first | rfl | (simp; done)
                  ·
                    exfalso; omega
                · intro k hk ih27 
                  refine e_iload_5 (p' := 29) D_M_minors_27 rfl ?_
                  refine e_aload_0 (p' := 30) D_M_minors_29 rfl ?_
                  refine e_getfield (p' := 33) D_M_minors_30 F_M_7 (by first | assumption | exact sUp_eq | (rw [sUp_ne (by omega)]; assumption) | (rw [sUp_ne (by omega), sUp_ne (by omega)]; assumption) | (rw [sUp_ne (by omega)]; exact sUp_eq) | (rw [gSet_ne (by omega) (by omega)]; first | assumption | exact sUp_eq | (rw [sUp_ne (by omega)]; assumption) | (rw [sUp_ne (by omega), sUp_ne (by omega)]; assumption)) | (rw [sUp_ne (by omega), sUp_ne (by omega), sUp_ne (by omega)]; assumption) | (simp [sUp]; done)) (by rfl) rfl ?_
                  refine e_bipush (v := nI 37) (p' := 35) D_M_minors_33 cst_bipush_37 rfl ?_
                  refine e_iaload (p' := 36) D_M_minors_35 (by first | assumption | exact sUp_eq | (rw [sUp_ne (by omega)]; assumption) | (rw [sUp_ne (by omega), sUp_ne (by omega)]; assumption) | (rw [sUp_ne (by omega)]; exact sUp_eq) | (rw [gSet_ne (by omega) (by omega)]; first | assumption | exact sUp_eq | (rw [sUp_ne (by omega)]; assumption) | (rw [sUp_ne (by omega), sUp_ne (by omega)]; assumption)) | (rw [sUp_ne (by omega), sUp_ne (by omega), sUp_ne (by omega)]; assumption) | (simp [sUp]; done)) (by omega) (by omega) (by rfl) rfl ?_
                  rw [z37]
                  refine e_icmpN_ge (q := 180) (p' := 39) D_M_minors_36 (by omega) (by omega) rfl rfl (fun hc36 => ?_) (fun hc36 => ?_)
                  ·
                    exfalso; omega
                  ·
                    refine e_iconst (v := nI 0) (p' := 40) D_M_minors_39 cst_iconst_0 rfl ?_
                    refine e_istore_6 (p' := 42) D_M_minors_40 (Nat.le_of_ble_eq_true rfl) rfl rfl ?_
                    have lk42 : ∀ y : Nat, y ≤ k → sEv l m_M_minors 1 (0, 0, 0, 0) (sKm 0 0 (fun r1 h1 => r1 = some (.int (nI (mAll x b))) ∧ h1 = h)) 42 [some (.ref 61), some (.int (sBo b)), some (.int (nI (sm i (fun r => sm r (fun s => sm x.1.2.1 (fun c => sm c (fun d => gq x b r s c d)))) + sm j (fun s => sm x.1.2.1 (fun c => sm c (fun d => gq x b i s c d))) + sm k (fun c => sm c (fun d => gq x b i j c d)) + sm y (fun d => gq x b i j k d)))), some (.int (nI i)), some (.int (nI j)), some (.int (nI k)), some (.int (nI y)), none, none] [] (h) := by
                      refine lp_up _ ?_ ?_
                      · skip
                        have s1 := hx.small i k
                        have s2 := hx.small j k
                        have s3 := hx.small i k
                        have s4 := hx.small j k
                        refine e_iload_6 (p' := 44) D_M_minors_42 rfl ?_
                        refine e_iload_5 (p' := 46) D_M_minors_44 rfl ?_
                        refine e_icmpN_ge (q := 174) (p' := 49) D_M_minors_46 (by omega) (by omega) rfl rfl (fun hc46 => ?_) (fun hc46 => ?_)
                        ·
                          first | refine e_iincN_5 (n := 1) (p' := 177) D_M_minors_174 (Nat.le_of_ble_eq_true rfl) rfl rfl ?_ | refine e_iinc_5 (p' := 177) D_M_minors_174 (Nat.le_of_ble_eq_true rfl) rfl rfl rfl ?_
                          refine e_goto (p' := 27) D_M_minors_177 rfl ?_
                          refine sEv.castW (ih27) ?_ ?_ ?_
                          · exact ⟨rfl, rfl, accS rfl, rfl, rfl, rfl, trivial⟩
                          · rfl
                          · first | rfl | (simp; done)
                        ·
                          exfalso; omega
                      · intro y hy ih42 
                        have s1 := hx.small i k
                        have s2 := hx.small j k
                        have s3 := hx.small i y
                        have s4 := hx.small j y
                        refine e_iload_6 (p' := 44) D_M_minors_42 rfl ?_
                        refine e_iload_5 (p' := 46) D_M_minors_44 rfl ?_
                        refine e_icmpN_ge (q := 174) (p' := 49) D_M_minors_46 (by omega) (by omega) rfl rfl (fun hc46 => ?_) (fun hc46 => ?_)
                        ·
                          exfalso; omega
                        ·
                          have jn98 : sEv l m_M_minors 1 (0, 0, 0, 0) (sKm 0 0 (fun r1 h1 => r1 = some (.int (nI (mAll x b))) ∧ h1 = h)) 98 [some (.ref 61), some (.int (sBo b)), some (.int (nI (sm i (fun r => sm r (fun s => sm x.1.2.1 (fun c => sm c (fun d => gq x b r s c d)))) + sm j (fun s => sm x.1.2.1 (fun c => sm c (fun d => gq x b i s c d))) + sm k (fun c => sm c (fun d => gq x b i j c d)) + sm y (fun d => gq x b i j k d)))), some (.int (nI i)), some (.int (nI j)), some (.int (nI k)), some (.int (nI y)), some (.int (sBo (mnr x i j k y))), none] [] h := by
                            refine e_aload_0 (p' := 99) D_M_minors_98 rfl ?_
                            refine e_aload_0 (p' := 100) D_M_minors_99 rfl ?_
                            refine e_iload_3 (p' := 101) D_M_minors_100 rfl ?_
                            refine e_iload_5 (p' := 103) D_M_minors_101 rfl ?_
                            refine x_callV1 (p' := 106) D_M_minors_103 V_M_67 (c_M_at hm hz hx (by omega) (by omega)) rfl (by first | assumption | exact sUp_eq | (rw [sUp_ne (by omega)]; assumption) | (rw [sUp_ne (by omega), sUp_ne (by omega)]; assumption) | (rw [sUp_ne (by omega)]; exact sUp_eq) | (rw [gSet_ne (by omega) (by omega)]; first | assumption | exact sUp_eq | (rw [sUp_ne (by omega)]; assumption) | (rw [sUp_ne (by omega), sUp_ne (by omega)]; assumption)) | (rw [sUp_ne (by omega), sUp_ne (by omega), sUp_ne (by omega)]; assumption) | (simp [sUp]; done)) rfl (Nat.le_of_ble_eq_true rfl) (by decide) ⟨by decide, by decide⟩ rfl ?_
                            refine e_aload_0 (p' := 107) D_M_minors_106 rfl ?_
                            refine e_iload_4 (p' := 109) D_M_minors_107 rfl ?_
                            refine e_iload_6 (p' := 111) D_M_minors_109 rfl ?_
                            refine x_callV1 (p' := 114) D_M_minors_111 V_M_67 (c_M_at hm hz hx (by omega) (by omega)) rfl (by first | assumption | exact sUp_eq | (rw [sUp_ne (by omega)]; assumption) | (rw [sUp_ne (by omega), sUp_ne (by omega)]; assumption) | (rw [sUp_ne (by omega)]; exact sUp_eq) | (rw [gSet_ne (by omega) (by omega)]; first | assumption | exact sUp_eq | (rw [sUp_ne (by omega)]; assumption) | (rw [sUp_ne (by omega), sUp_ne (by omega)]; assumption)) | (rw [sUp_ne (by omega), sUp_ne (by omega), sUp_ne (by omega)]; assumption) | (simp [sUp]; done)) rfl (Nat.le_of_ble_eq_true rfl) (by decide) ⟨by decide, by decide⟩ rfl ?_
                            refine x_callV1 (p' := 117) D_M_minors_114 V_M_63 (c_M_times hm hz hx (by omega) (by omega)) rfl (by first | assumption | exact sUp_eq | (rw [sUp_ne (by omega)]; assumption) | (rw [sUp_ne (by omega), sUp_ne (by omega)]; assumption) | (rw [sUp_ne (by omega)]; exact sUp_eq) | (rw [gSet_ne (by omega) (by omega)]; first | assumption | exact sUp_eq | (rw [sUp_ne (by omega)]; assumption) | (rw [sUp_ne (by omega), sUp_ne (by omega)]; assumption)) | (rw [sUp_ne (by omega), sUp_ne (by omega), sUp_ne (by omega)]; assumption) | (simp [sUp]; done)) rfl (Nat.le_of_ble_eq_true rfl) (by decide) ⟨by decide, by decide⟩ rfl ?_
                            refine e_aload_0 (p' := 118) D_M_minors_117 rfl ?_
                            refine e_aload_0 (p' := 119) D_M_minors_118 rfl ?_
                            refine e_iload_3 (p' := 120) D_M_minors_119 rfl ?_
                            refine e_iload_6 (p' := 122) D_M_minors_120 rfl ?_
                            refine x_callV1 (p' := 125) D_M_minors_122 V_M_67 (c_M_at hm hz hx (by omega) (by omega)) rfl (by first | assumption | exact sUp_eq | (rw [sUp_ne (by omega)]; assumption) | (rw [sUp_ne (by omega), sUp_ne (by omega)]; assumption) | (rw [sUp_ne (by omega)]; exact sUp_eq) | (rw [gSet_ne (by omega) (by omega)]; first | assumption | exact sUp_eq | (rw [sUp_ne (by omega)]; assumption) | (rw [sUp_ne (by omega), sUp_ne (by omega)]; assumption)) | (rw [sUp_ne (by omega), sUp_ne (by omega), sUp_ne (by omega)]; assumption) | (simp [sUp]; done)) rfl (Nat.le_of_ble_eq_true rfl) (by decide) ⟨by decide, by decide⟩ rfl ?_
                            refine e_aload_0 (p' := 126) D_M_minors_125 rfl ?_
                            refine e_iload_4 (p' := 128) D_M_minors_126 rfl ?_
                            refine e_iload_5 (p' := 130) D_M_minors_128 rfl ?_
                            refine x_callV1 (p' := 133) D_M_minors_130 V_M_67 (c_M_at hm hz hx (by omega) (by omega)) rfl (by first | assumption | exact sUp_eq | (rw [sUp_ne (by omega)]; assumption) | (rw [sUp_ne (by omega), sUp_ne (by omega)]; assumption) | (rw [sUp_ne (by omega)]; exact sUp_eq) | (rw [gSet_ne (by omega) (by omega)]; first | assumption | exact sUp_eq | (rw [sUp_ne (by omega)]; assumption) | (rw [sUp_ne (by omega), sUp_ne (by omega)]; assumption)) | (rw [sUp_ne (by omega), sUp_ne (by omega), sUp_ne (by omega)]; assumption) | (simp [sUp]; done)) rfl (Nat.le_of_ble_eq_true rfl) (by decide) ⟨by decide, by decide⟩ rfl ?_
                            refine x_callV1 (p' := 136) D_M_minors_133 V_M_63 (c_M_times hm hz hx (by omega) (by omega)) rfl (by first | assumption | exact sUp_eq | (rw [sUp_ne (by omega)]; assumption) | (rw [sUp_ne (by omega), sUp_ne (by omega)]; assumption) | (rw [sUp_ne (by omega)]; exact sUp_eq) | (rw [gSet_ne (by omega) (by omega)]; first | assumption | exact sUp_eq | (rw [sUp_ne (by omega)]; assumption) | (rw [sUp_ne (by omega), sUp_ne (by omega)]; assumption)) | (rw [sUp_ne (by omega), sUp_ne (by omega), sUp_ne (by omega)]; assumption) | (simp [sUp]; done)) rfl (Nat.le_of_ble_eq_true rfl) (by decide) ⟨by decide, by decide⟩ rfl ?_
                            have q1 := Nat.mod_lt (at' x i k * at' x j y) (y := x.1.2.2) (by omega)
                            have q2 := Nat.mod_lt (at' x i y * at' x j k) (y := x.1.2.2) (by omega)
                            refine e_icmpN_ne (q := 143) (p' := 139) D_M_minors_136 (by omega) (by omega) rfl rfl (fun hc136 => ?_) (fun hc136 => ?_)
                            ·
                              refine e_iconst (v := nI 0) (p' := 144) D_M_minors_143 cst_iconst_0 rfl ?_
                              refine e_istore_8 (p' := 146) D_M_minors_144 (Nat.le_of_ble_eq_true rfl) rfl rfl ?_
                              refine e_iload_2 (p' := 147) D_M_minors_146 rfl ?_
                              refine e_iload_7 (p' := 149) D_M_minors_147 rfl ?_
                              refine e_ifB_eq (q := 165) (p' := 152) D_M_minors_149 rfl rfl (fun hc149 => ?_) (fun hc149 => ?_)
                              ·
                                refine e_iconst (v := nI 0) (p' := 166) D_M_minors_165 cst_iconst_0 rfl ?_
                                first | refine e_iaddN (p' := 167) D_M_minors_166 rfl ?_ | refine e_iadd (p' := 167) D_M_minors_166 rfl ?_
                                refine e_istore_2 (p' := 168) D_M_minors_167 (Nat.le_of_ble_eq_true rfl) rfl rfl ?_
                                first | refine e_iincN_6 (n := 1) (p' := 171) D_M_minors_168 (Nat.le_of_ble_eq_true rfl) rfl rfl ?_ | refine e_iinc_6 (p' := 171) D_M_minors_168 (Nat.le_of_ble_eq_true rfl) rfl rfl rfl ?_
                                refine e_goto (p' := 42) D_M_minors_171 rfl ?_
                                refine sEv.castW (ih42) ?_ ?_ ?_
                                · refine ⟨rfl, rfl, ?_, rfl, rfl, rfl, rfl, trivial⟩
                                  exact accS (by rw [sm_succ, gq_0 hc149])
                                · rfl
                                · first | rfl | (simp; done)
                              ·
                                refine e_iload_1 (p' := 153) D_M_minors_152 rfl ?_
                                refine e_ifB_eq (q := 161) (p' := 156) D_M_minors_153 rfl rfl (fun hc153 => ?_) (fun hc153 => ?_)
                                ·
                                  refine e_iconst (v := nI 1) (p' := 162) D_M_minors_161 cst_iconst_1 rfl ?_
                                  refine e_goto (p' := 166) D_M_minors_162 rfl ?_
                                  first | refine e_iaddN (p' := 167) D_M_minors_166 rfl ?_ | refine e_iadd (p' := 167) D_M_minors_166 rfl ?_
                                  refine e_istore_2 (p' := 168) D_M_minors_167 (Nat.le_of_ble_eq_true rfl) rfl rfl ?_
                                  first | refine e_iincN_6 (n := 1) (p' := 171) D_M_minors_168 (Nat.le_of_ble_eq_true rfl) rfl rfl ?_ | refine e_iinc_6 (p' := 171) D_M_minors_168 (Nat.le_of_ble_eq_true rfl) rfl rfl rfl ?_
                                  refine e_goto (p' := 42) D_M_minors_171 rfl ?_
                                  refine sEv.castW (ih42) ?_ ?_ ?_
                                  · refine ⟨rfl, rfl, ?_, rfl, rfl, rfl, rfl, trivial⟩
                                    exact accS (by rw [sm_succ, hc153, gq_1 hc149])
                                  · rfl
                                  · first | rfl | (simp; done)
                                ·
                                  refine e_iload_8 (p' := 158) D_M_minors_156 rfl ?_
                                  refine e_ifN_ne (q := 165) (p' := 161) D_M_minors_158 (by omega) rfl rfl (fun hc158 => ?_) (fun hc158 => ?_)
                                  ·
                                    exfalso; omega
                                  ·
                                    refine e_iconst (v := nI 1) (p' := 162) D_M_minors_161 cst_iconst_1 rfl ?_
                                    refine e_goto (p' := 166) D_M_minors_162 rfl ?_
                                    first | refine e_iaddN (p' := 167) D_M_minors_166 rfl ?_ | refine e_iadd (p' := 167) D_M_minors_166 rfl ?_
                                    refine e_istore_2 (p' := 168) D_M_minors_167 (Nat.le_of_ble_eq_true rfl) rfl rfl ?_
                                    first | refine e_iincN_6 (n := 1) (p' := 171) D_M_minors_168 (Nat.le_of_ble_eq_true rfl) rfl rfl ?_ | refine e_iinc_6 (p' := 171) D_M_minors_168 (Nat.le_of_ble_eq_true rfl) rfl rfl rfl ?_
                                    refine e_goto (p' := 42) D_M_minors_171 rfl ?_
                                    refine sEv.castW (ih42) ?_ ?_ ?_
                                    · refine ⟨rfl, rfl, ?_, rfl, rfl, rfl, rfl, trivial⟩
                                      exact accS (by rw [sm_succ, gq_3 hc149 (by omega)])
                                    · rfl
                                    · first | rfl | (simp; done)
                            ·
                              refine e_iconst (v := nI 1) (p' := 140) D_M_minors_139 cst_iconst_1 rfl ?_
                              refine e_goto (p' := 144) D_M_minors_140 rfl ?_
                              refine e_istore_8 (p' := 146) D_M_minors_144 (Nat.le_of_ble_eq_true rfl) rfl rfl ?_
                              refine e_iload_2 (p' := 147) D_M_minors_146 rfl ?_
                              refine e_iload_7 (p' := 149) D_M_minors_147 rfl ?_
                              refine e_ifB_eq (q := 165) (p' := 152) D_M_minors_149 rfl rfl (fun hc149 => ?_) (fun hc149 => ?_)
                              ·
                                refine e_iconst (v := nI 0) (p' := 166) D_M_minors_165 cst_iconst_0 rfl ?_
                                first | refine e_iaddN (p' := 167) D_M_minors_166 rfl ?_ | refine e_iadd (p' := 167) D_M_minors_166 rfl ?_
                                refine e_istore_2 (p' := 168) D_M_minors_167 (Nat.le_of_ble_eq_true rfl) rfl rfl ?_
                                first | refine e_iincN_6 (n := 1) (p' := 171) D_M_minors_168 (Nat.le_of_ble_eq_true rfl) rfl rfl ?_ | refine e_iinc_6 (p' := 171) D_M_minors_168 (Nat.le_of_ble_eq_true rfl) rfl rfl rfl ?_
                                refine e_goto (p' := 42) D_M_minors_171 rfl ?_
                                refine sEv.castW (ih42) ?_ ?_ ?_
                                · refine ⟨rfl, rfl, ?_, rfl, rfl, rfl, rfl, trivial⟩
                                  exact accS (by rw [sm_succ, gq_0 hc149])
                                · rfl
                                · first | rfl | (simp; done)
                              ·
                                refine e_iload_1 (p' := 153) D_M_minors_152 rfl ?_
                                refine e_ifB_eq (q := 161) (p' := 156) D_M_minors_153 rfl rfl (fun hc153 => ?_) (fun hc153 => ?_)
                                ·
                                  refine e_iconst (v := nI 1) (p' := 162) D_M_minors_161 cst_iconst_1 rfl ?_
                                  refine e_goto (p' := 166) D_M_minors_162 rfl ?_
                                  first | refine e_iaddN (p' := 167) D_M_minors_166 rfl ?_ | refine e_iadd (p' := 167) D_M_minors_166 rfl ?_
                                  refine e_istore_2 (p' := 168) D_M_minors_167 (Nat.le_of_ble_eq_true rfl) rfl rfl ?_
                                  first | refine e_iincN_6 (n := 1) (p' := 171) D_M_minors_168 (Nat.le_of_ble_eq_true rfl) rfl rfl ?_ | refine e_iinc_6 (p' := 171) D_M_minors_168 (Nat.le_of_ble_eq_true rfl) rfl rfl rfl ?_
                                  refine e_goto (p' := 42) D_M_minors_171 rfl ?_
                                  refine sEv.castW (ih42) ?_ ?_ ?_
                                  · refine ⟨rfl, rfl, ?_, rfl, rfl, rfl, rfl, trivial⟩
                                    exact accS (by rw [sm_succ, hc153, gq_1 hc149])
                                  · rfl
                                  · first | rfl | (simp; done)
                                ·
                                  refine e_iload_8 (p' := 158) D_M_minors_156 rfl ?_
                                  refine e_ifN_ne (q := 165) (p' := 161) D_M_minors_158 (by omega) rfl rfl (fun hc158 => ?_) (fun hc158 => ?_)
                                  ·
                                    refine e_iconst (v := nI 0) (p' := 166) D_M_minors_165 cst_iconst_0 rfl ?_
                                    first | refine e_iaddN (p' := 167) D_M_minors_166 rfl ?_ | refine e_iadd (p' := 167) D_M_minors_166 rfl ?_
                                    refine e_istore_2 (p' := 168) D_M_minors_167 (Nat.le_of_ble_eq_true rfl) rfl rfl ?_
                                    first | refine e_iincN_6 (n := 1) (p' := 171) D_M_minors_168 (Nat.le_of_ble_eq_true rfl) rfl rfl ?_ | refine e_iinc_6 (p' := 171) D_M_minors_168 (Nat.le_of_ble_eq_true rfl) rfl rfl rfl ?_
                                    refine e_goto (p' := 42) D_M_minors_171 rfl ?_
                                    refine sEv.castW (ih42) ?_ ?_ ?_
                                    · refine ⟨rfl, rfl, ?_, rfl, rfl, rfl, rfl, trivial⟩
                                      exact accS (by rw [sm_succ, hc153, gq_2 hc149 (by omega)])
                                    · rfl
                                    · first | rfl | (simp; done)
                                  ·
                                    exfalso; omega
                          refine e_aload_0 (p' := 50) D_M_minors_49 rfl ?_
                          refine e_iload_3 (p' := 51) D_M_minors_50 rfl ?_
                          refine e_iload_5 (p' := 53) D_M_minors_51 rfl ?_
                          refine x_callV1 (p' := 56) D_M_minors_53 V_M_67 (c_M_at hm hz hx (by omega) (by omega)) rfl (by first | assumption | exact sUp_eq | (rw [sUp_ne (by omega)]; assumption) | (rw [sUp_ne (by omega), sUp_ne (by omega)]; assumption) | (rw [sUp_ne (by omega)]; exact sUp_eq) | (rw [gSet_ne (by omega) (by omega)]; first | assumption | exact sUp_eq | (rw [sUp_ne (by omega)]; assumption) | (rw [sUp_ne (by omega), sUp_ne (by omega)]; assumption)) | (rw [sUp_ne (by omega), sUp_ne (by omega), sUp_ne (by omega)]; assumption) | (simp [sUp]; done)) rfl (Nat.le_of_ble_eq_true rfl) (by decide) ⟨by decide, by decide⟩ rfl ?_
                          refine e_ifN_le (q := 95) (p' := 59) D_M_minors_56 (by omega) rfl rfl (fun hc56 => ?_) (fun hc56 => ?_)
                          ·
                            refine e_iconst (v := nI 0) (p' := 96) D_M_minors_95 cst_iconst_0 rfl ?_
                            refine e_istore_7 (p' := 98) D_M_minors_96 (Nat.le_of_ble_eq_true rfl) rfl rfl ?_
                            refine sEv.castW (jn98 ) ?_ ?_ ?_
                            · rw [mnr_0 (Or.inl (by omega))]
                              exact ⟨rfl, rfl, rfl, rfl, rfl, rfl, rfl, rfl, trivial⟩
                            · rfl
                            · first | rfl | (simp; done)
                          ·
                            refine e_aload_0 (p' := 60) D_M_minors_59 rfl ?_
                            refine e_iload_4 (p' := 62) D_M_minors_60 rfl ?_
                            refine e_iload_5 (p' := 64) D_M_minors_62 rfl ?_
                            refine x_callV1 (p' := 67) D_M_minors_64 V_M_67 (c_M_at hm hz hx (by omega) (by omega)) rfl (by first | assumption | exact sUp_eq | (rw [sUp_ne (by omega)]; assumption) | (rw [sUp_ne (by omega), sUp_ne (by omega)]; assumption) | (rw [sUp_ne (by omega)]; exact sUp_eq) | (rw [gSet_ne (by omega) (by omega)]; first | assumption | exact sUp_eq | (rw [sUp_ne (by omega)]; assumption) | (rw [sUp_ne (by omega), sUp_ne (by omega)]; assumption)) | (rw [sUp_ne (by omega), sUp_ne (by omega), sUp_ne (by omega)]; assumption) | (simp [sUp]; done)) rfl (Nat.le_of_ble_eq_true rfl) (by decide) ⟨by decide, by decide⟩ rfl ?_
                            refine e_ifN_le (q := 95) (p' := 70) D_M_minors_67 (by omega) rfl rfl (fun hc67 => ?_) (fun hc67 => ?_)
                            ·
                              refine e_iconst (v := nI 0) (p' := 96) D_M_minors_95 cst_iconst_0 rfl ?_
                              refine e_istore_7 (p' := 98) D_M_minors_96 (Nat.le_of_ble_eq_true rfl) rfl rfl ?_
                              refine sEv.castW (jn98 ) ?_ ?_ ?_
                              · rw [mnr_0 (Or.inr (Or.inl (by omega)))]
                                exact ⟨rfl, rfl, rfl, rfl, rfl, rfl, rfl, rfl, trivial⟩
                              · rfl
                              · first | rfl | (simp; done)
                            ·
                              refine e_aload_0 (p' := 71) D_M_minors_70 rfl ?_
                              refine e_iload_3 (p' := 72) D_M_minors_71 rfl ?_
                              refine e_iload_6 (p' := 74) D_M_minors_72 rfl ?_
                              refine x_callV1 (p' := 77) D_M_minors_74 V_M_67 (c_M_at hm hz hx (by omega) (by omega)) rfl (by first | assumption | exact sUp_eq | (rw [sUp_ne (by omega)]; assumption) | (rw [sUp_ne (by omega), sUp_ne (by omega)]; assumption) | (rw [sUp_ne (by omega)]; exact sUp_eq) | (rw [gSet_ne (by omega) (by omega)]; first | assumption | exact sUp_eq | (rw [sUp_ne (by omega)]; assumption) | (rw [sUp_ne (by omega), sUp_ne (by omega)]; assumption)) | (rw [sUp_ne (by omega), sUp_ne (by omega), sUp_ne (by omega)]; assumption) | (simp [sUp]; done)) rfl (Nat.le_of_ble_eq_true rfl) (by decide) ⟨by decide, by decide⟩ rfl ?_
                              refine e_ifN_le (q := 95) (p' := 80) D_M_minors_77 (by omega) rfl rfl (fun hc77 => ?_) (fun hc77 => ?_)
                              ·
                                refine e_iconst (v := nI 0) (p' := 96) D_M_minors_95 cst_iconst_0 rfl ?_
                                refine e_istore_7 (p' := 98) D_M_minors_96 (Nat.le_of_ble_eq_true rfl) rfl rfl ?_
                                refine sEv.castW (jn98 ) ?_ ?_ ?_
                                · rw [mnr_0 (Or.inr (Or.inr (Or.inl (by omega))))]
                                  exact ⟨rfl, rfl, rfl, rfl, rfl, rfl, rfl, rfl, trivial⟩
                                · rfl
                                · first | rfl | (simp; done)
                              ·
                                refine e_aload_0 (p' := 81) D_M_minors_80 rfl ?_
                                refine e_iload_4 (p' := 83) D_M_minors_81 rfl ?_
                                refine e_iload_6 (p' := 85) D_M_minors_83 rfl ?_
                                refine x_callV1 (p' := 88) D_M_minors_85 V_M_67 (c_M_at hm hz hx (by omega) (by omega)) rfl (by first | assumption | exact sUp_eq | (rw [sUp_ne (by omega)]; assumption) | (rw [sUp_ne (by omega), sUp_ne (by omega)]; assumption) | (rw [sUp_ne (by omega)]; exact sUp_eq) | (rw [gSet_ne (by omega) (by omega)]; first | assumption | exact sUp_eq | (rw [sUp_ne (by omega)]; assumption) | (rw [sUp_ne (by omega), sUp_ne (by omega)]; assumption)) | (rw [sUp_ne (by omega), sUp_ne (by omega), sUp_ne (by omega)]; assumption) | (simp [sUp]; done)) rfl (Nat.le_of_ble_eq_true rfl) (by decide) ⟨by decide, by decide⟩ rfl ?_
                                refine e_ifN_le (q := 95) (p' := 91) D_M_minors_88 (by omega) rfl rfl (fun hc88 => ?_) (fun hc88 => ?_)
                                ·
                                  refine e_iconst (v := nI 0) (p' := 96) D_M_minors_95 cst_iconst_0 rfl ?_
                                  refine e_istore_7 (p' := 98) D_M_minors_96 (Nat.le_of_ble_eq_true rfl) rfl rfl ?_
                                  refine sEv.castW (jn98 ) ?_ ?_ ?_
                                  · rw [mnr_0 (Or.inr (Or.inr (Or.inr (by omega))))]
                                    exact ⟨rfl, rfl, rfl, rfl, rfl, rfl, rfl, rfl, trivial⟩
                                  · rfl
                                  · first | rfl | (simp; done)
                                ·
                                  refine e_iconst (v := nI 1) (p' := 92) D_M_minors_91 cst_iconst_1 rfl ?_
                                  refine e_goto (p' := 96) D_M_minors_92 rfl ?_
                                  refine e_istore_7 (p' := 98) D_M_minors_96 (Nat.le_of_ble_eq_true rfl) rfl rfl ?_
                                  refine sEv.castW (jn98 ) ?_ ?_ ?_
                                  · rw [mnr_1 (by omega) (by omega) (by omega) (by omega)]
                                    exact ⟨rfl, rfl, rfl, rfl, rfl, rfl, rfl, rfl, trivial⟩
                                  · rfl
                                  · first | rfl | (simp; done)
                    refine sEv.castW (lk42 0 (by omega) ) ?_ ?_ ?_
                    · exact ⟨rfl, rfl, rfl, rfl, rfl, rfl, rfl, trivial⟩
                    · rfl
                    · first | rfl | (simp; done)
              refine sEv.castW (lk27 0 (by omega) ) ?_ ?_ ?_
              · exact ⟨rfl, rfl, rfl, rfl, rfl, rfl, trivial⟩
              · rfl
              · first | rfl | (simp; done)
        refine sEv.castW (lk18 0 (by omega) ) ?_ ?_ ?_
        · exact ⟨rfl, rfl, rfl, rfl, rfl, trivial⟩
        · rfl
        · first | rfl | (simp; done)
  refine sEv.castW (lk4 0 (by omega) ) ?_ ?_ ?_
  · exact ⟨rfl, rfl, rfl, rfl, trivial⟩
  · rfl
  · first | rfl | (simp; done)
