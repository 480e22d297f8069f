/-! ===== contracts: rankOf, leastRank ===== -/
theorem cst_no {m h c : Nat} {q : Nat → Bool} {B : Mx} (e : q c = false) : cst m h q B (c + 1) = cst m h q B c := by
  rw [show cst m h q B (c + 1) = (if q c then stC m h c (cst m h q B c) else cst m h q B c) from rfl, e]; rfl
theorem cst_none {m h c : Nat} {q : Nat → Bool} {B : Mx} (e : q c = true) (f : fp (cst m h q B c).1 c (h - (cst m h q B c).2) (cst m h q B c).2 = none) : cst m h q B (c + 1) = cst m h q B c := by
  rw [show cst m h q B (c + 1) = (if q c then stC m h c (cst m h q B c) else cst m h q B c) from rfl, if_pos e]
  unfold stC
  rw [f]
theorem cst_some {m h c p : Nat} {q : Nat → Bool} {B : Mx} (e : q c = true) (f : fp (cst m h q B c).1 c (h - (cst m h q B c).2) (cst m h q B c).2 = some p) : cst m h q B (c + 1) = (elN m (swp (cst m h q B c).1 p (cst m h q B c).2) (cst m h q B c).2 c h, (cst m h q B c).2 + 1) := by
  rw [show cst m h q B (c + 1) = (if q c then stC m h c (cst m h q B c) else cst m h q B c) from rfl, if_pos e]
  unfold stC
  rw [f]
theorem elN_0 {m rk c : Nat} {B : Mx} : elN m B rk c (rk + 1) = B := by
  funext a
  unfold elN
  rw [if_neg (by omega)]
theorem elN_s {m rk c a : Nat} {B : Mx} (h : rk < a) : (fun b => if b = a then elR m (elN m B rk c a) rk c a else elN m B rk c a b) = elN m B rk c (a + 1) := by
  funext b
  by_cases e : b = a
  · subst e
    rw [if_pos rfl]
    have e1 : elN m B rk c b b = B b := if_neg (by omega)
    have e2 : elN m B rk c b rk = B rk := if_neg (by omega)
    have e3 : elN m B rk c (b + 1) b = elR m B rk c b := if_pos (by omega)
    rw [e3]
    funext j
    unfold elR
    rw [e1, e2]
  · rw [if_neg e]
    unfold elN
    by_cases h1 : rk < b ∧ b < a
    · rw [if_pos h1, if_pos (by omega)]
    · rw [if_neg h1, if_neg (by omega)]
theorem bld_no {x : Gd} {S r : Nat} (e : bit S r = false) : bld x S (r + 1) = bld x S r := by
  rw [show bld x S (r + 1) = (if bit S r then ((bld x S r).1 + 1, fun i => if i = (bld x S r).1 then at' x r else (bld x S r).2 i) else bld x S r) from rfl, e]; rfl
theorem bld_go {x : Gd} {S r : Nat} (e : bit S r = true) : bld x S (r + 1) = ((bld x S r).1 + 1, fun i => if i = (bld x S r).1 then at' x r else (bld x S r).2 i) := by
  rw [show bld x S (r + 1) = (if bit S r then ((bld x S r).1 + 1, fun i => if i = (bld x S r).1 then at' x r else (bld x S r).2 i) else bld x S r) from rfl, if_pos e]
theorem colB_s {x : Gd} {S r c : Nat} : colB x S (r + 1) c = (colB x S r c && (!bit S r || td x r c)) := rfl
theorem rankSet_le {x : Gd} (hx : Gok x) {S : Nat} : rankSet x S ≤ 6 := Nat.le_trans (cst_ok (by have := hx.2.2.1.le; omega) (bld_lt hx) 6).2 bld_le
theorem mxTo_le {f : Nat → Nat} {b : Nat} (h : ∀ k, f k ≤ b) : ∀ n, mxTo f n ≤ b := by
  intro n
  induction n with
  | zero => exact Nat.zero_le _
  | succ n ih => exact Nat.max_le.mpr ⟨ih, h n⟩
def rkF (x : Gd) (s : Nat) : Nat := if s = 0 then 0 else rankSet x s
theorem rkF_le {x : Gd} (hx : Gok x) (s : Nat) : rkF x s ≤ 6 := by
  unfold rkF
  split
  · omega
  · exact rankSet_le hx
set_option maxRecDepth 4000 in
theorem c_Min_rankOf {l : Launch} {h : sH} {x : Gd} (hG : GridAt h 1 x) (hx : Gok x) (hP : ∃ n B, MtAt h n B) {S : Nat} (hS : S < 64) : sY l m_Min_rankOf 3 [.ref 26, .ref 1, .int (nI S)] h (some (.int (nI (rankSet x S)))) (fun h1 => (∃ n B, MtAt h1 n B) ∧ FrM h h1) := by
  have hM := hx.2.2.1.le
  have hG0 := hG
  obtain ⟨g0, g1, g2⟩ := hG
  obtain ⟨n0, B0, hP⟩ := hP
  have hP0 := hP.mono (B' := (bld x S 0).2) (Nat.zero_le _) (fun i _ hi => absurd hi (by omega))
  obtain ⟨A0, a1, a2, a3, a4⟩ := hP
  refine en_Min_rankOf ?_
  refine e_bipush (v := nI 63) (p' := 2) D_Min_rankOf_0 cst_bipush_63 rfl ?_
  refine e_istore_3 (p' := 3) D_Min_rankOf_2 (Nat.le_of_ble_eq_true rfl) rfl rfl ?_
  refine e_iconst (v := nI 0) (p' := 4) D_Min_rankOf_3 cst_iconst_0 rfl ?_
  refine e_istore_4 (p' := 6) D_Min_rankOf_4 (Nat.le_of_ble_eq_true rfl) rfl rfl ?_
  refine e_iconst (v := nI 0) (p' := 7) D_Min_rankOf_6 cst_iconst_0 rfl ?_
  refine e_istore_5 (p' := 9) D_Min_rankOf_7 (Nat.le_of_ble_eq_true rfl) rfl rfl ?_
  have lk9 : ∀ r : Nat, r ≤ 6 → ∀ (h1 : sH), (MtAt h1 (bld x S r).1 (bld x S r).2 ∧ FrM h h1) → sEv l m_Min_rankOf 3 (0, 0, 0, 0) (sKm 0 0 (fun r1 h1 => r1 = some (.int (nI (rankSet x S))) ∧ (fun h1 => (∃ n B, MtAt h1 n B) ∧ FrM h h1) h1)) 9 [some (.ref 26), some (.ref 1), some (.int (nI S)), some (.int (nI (mk 6 (colB x S r)))), some (.int (nI (bld x S r).1)), some (.int (nI r)), none, none] [] (h1) := by
    refine lp_up _ ?_ ?_
    · intro h1 hI
      obtain ⟨hI0, hF1⟩ := hI
      have hbl := bld_le (x := x) (S := S) (r := 6)
      have k0 := (hF1 1 (by omega)).trans g0
      obtain ⟨E1, k1, k2, k3, k4⟩ := hI0
      have hI0 : MtAt h1 (bld x S 6).1 (bld x S 6).2 := ⟨E1, k1, k2, k3, k4⟩
      refine e_iload_5 (p' := 11) D_Min_rankOf_9 rfl ?_
      refine e_bipush (v := nI 6) (p' := 13) D_Min_rankOf_11 cst_bipush_6 rfl ?_
      first | refine e_icmpN_ge (q := 82) (p' := 16) D_Min_rankOf_13 (by omega) (by omega) rfl rfl (fun hc13 => ?_) (fun hc13 => ?_) | refine e_icmp_ge (q := 82) (p' := 16) D_Min_rankOf_13 rfl rfl (fun hc13 => ?_) (fun hc13 => ?_)
      ·
        refine e_iconst (v := nI 0) (p' := 83) D_Min_rankOf_82 cst_iconst_0 rfl ?_
        refine e_istore_5 (p' := 85) D_Min_rankOf_83 (Nat.le_of_ble_eq_true rfl) rfl rfl ?_
        refine e_iconst (v := nI 0) (p' := 86) D_Min_rankOf_85 cst_iconst_0 rfl ?_
        refine e_istore_6 (p' := 88) D_Min_rankOf_86 (Nat.le_of_ble_eq_true rfl) rfl rfl ?_
        have lk88 : ∀ c : Nat, c ≤ 6 → ∀ (h1 : sH), (MtAt h1 (bld x S 6).1 (cst x.1.2.2 (bld x S 6).1 (colB x S 6) (bld x S 6).2 c).1 ∧ FrM h h1) → sEv l m_Min_rankOf 3 (0, 0, 0, 0) (sKm 0 0 (fun r1 h1 => r1 = some (.int (nI (rankSet x S))) ∧ (fun h1 => (∃ n B, MtAt h1 n B) ∧ FrM h h1) h1)) 88 [some (.ref 26), some (.ref 1), some (.int (nI S)), some (.int (nI (mk 6 (colB x S 6)))), some (.int (nI (bld x S 6).1)), some (.int (nI (cst x.1.2.2 (bld x S 6).1 (colB x S 6) (bld x S 6).2 c).2)), some (.int (nI c)), none] [] (h1) := by
          refine lp_up _ ?_ ?_
          · intro h1 hI
            obtain ⟨hI0, hF1⟩ := hI
            have hbl := bld_le (x := x) (S := S) (r := 6)
            have hck := cst_ok (m := x.1.2.2) (h := (bld x S 6).1) (q := colB x S 6) (B := (bld x S 6).2) (by omega) (bld_lt hx) 6
            obtain ⟨E1, k1, k2, k3, k4⟩ := hI0
            have hI0 : MtAt h1 (bld x S 6).1 (cst x.1.2.2 (bld x S 6).1 (colB x S 6) (bld x S 6).2 6).1 := ⟨E1, k1, k2, k3, k4⟩
            refine e_iload_6 (p' := 90) D_Min_rankOf_88 rfl ?_
            refine e_bipush (v := nI 6) (p' := 92) D_Min_rankOf_90 cst_bipush_6 rfl ?_
            first | refine e_icmpN_ge (q := 156) (p' := 95) D_Min_rankOf_92 (by omega) (by omega) rfl rfl (fun hc92 => ?_) (fun hc92 => ?_) | refine e_icmp_ge (q := 156) (p' := 95) D_Min_rankOf_92 rfl rfl (fun hc92 => ?_) (fun hc92 => ?_)
            ·
              refine e_iload_5 (p' := 158) D_Min_rankOf_156 rfl ?_
              refine e_ireturn (ty := .int) D_Min_rankOf_158 rfl (by first | rfl | exact sBo_nar _) ⟨by decide, by decide⟩ ?_
              exact ⟨rfl, ⟨_, _, hI0⟩, hF1⟩
            ·
              exfalso; omega
          · intro c hc ih88 h1 hI
            obtain ⟨hI0, hF1⟩ := hI
            have hbl := bld_le (x := x) (S := S) (r := 6)
            have hck := cst_ok (m := x.1.2.2) (h := (bld x S 6).1) (q := colB x S 6) (B := (bld x S 6).2) (by omega) (bld_lt hx) c
            obtain ⟨E1, k1, k2, k3, k4⟩ := hI0
            have hI0 : MtAt h1 (bld x S 6).1 (cst x.1.2.2 (bld x S 6).1 (colB x S 6) (bld x S 6).2 c).1 := ⟨E1, k1, k2, k3, k4⟩
            refine e_iload_6 (p' := 90) D_Min_rankOf_88 rfl ?_
            refine e_bipush (v := nI 6) (p' := 92) D_Min_rankOf_90 cst_bipush_6 rfl ?_
            first | refine e_icmpN_ge (q := 156) (p' := 95) D_Min_rankOf_92 (by omega) (by omega) rfl rfl (fun hc92 => ?_) (fun hc92 => ?_) | refine e_icmp_ge (q := 156) (p' := 95) D_Min_rankOf_92 rfl rfl (fun hc92 => ?_) (fun hc92 => ?_)
            ·
              exfalso; omega
            ·
              refine e_iload_3 (p' := 96) D_Min_rankOf_95 rfl ?_
              refine e_iload_6 (p' := 98) D_Min_rankOf_96 rfl ?_
              refine x_callSN1 (p' := 101) D_Min_rankOf_98 SN_Min_56 (c_O_holds mk_lt (by omega)) rfl rfl (Nat.le_of_ble_eq_true rfl) (by decide) ⟨by decide, by decide⟩ rfl ?_
              rw [bit_mk (by omega)]
              refine e_ifB_eq (q := 150) (p' := 104) D_Min_rankOf_101 rfl rfl (fun hc101 => ?_) (fun hc101 => ?_)
              ·
                first | refine e_iincN_6 (n := 1) (p' := 153) D_Min_rankOf_150 (Nat.le_of_ble_eq_true rfl) rfl rfl ?_ | refine e_iinc_6 (p' := 153) D_Min_rankOf_150 (Nat.le_of_ble_eq_true rfl) rfl rfl rfl ?_
                refine e_goto (p' := 88) D_Min_rankOf_153 rfl ?_
                refine sEv.castW (ih88 h1 ⟨by rw [cst_no hc101]; exact hI0, hF1⟩) ?_ ?_ ?_
                · rw [cst_no hc101]; exact lvW_rfl _
                · rfl
                · first | rfl | (simp; done)
              ·
                refine e_aload_0 (p' := 105) D_Min_rankOf_104 rfl ?_
                refine e_iload_4 (p' := 107) D_Min_rankOf_105 rfl ?_
                refine e_iload_5 (p' := 109) D_Min_rankOf_107 rfl ?_
                refine e_iload_6 (p' := 111) D_Min_rankOf_109 rfl ?_
                refine y_callV1 (p' := 114) D_Min_rankOf_111 V_Min_68 (c_Min_bringUp hI0 hck.1 (by omega) (by omega) hck.2 (by omega)) rfl (by first | assumption | exact sUp_eq | (rw [sUp_ne (by omega)]; assumption) | (rw [sUp_ne (by omega), sUp_ne (by omega)]; assumption) | (rw [sUp_ne (by omega)]; exact sUp_eq) | (simp [sUp]; done)) rfl (Nat.le_of_ble_eq_true rfl) (by decide) ⟨by decide, by decide⟩ rfl ?_
                rintro h2 ⟨hP2, hF2⟩
                refine e_ifB_eq (q := 150) (p' := 117) D_Min_rankOf_114 rfl rfl (fun hc114 => ?_) (fun hc114 => ?_)
                ·
                  have hno : fp (cst x.1.2.2 (bld x S 6).1 (colB x S 6) (bld x S 6).2 c).1 c ((bld x S 6).1 - (cst x.1.2.2 (bld x S 6).1 (colB x S 6) (bld x S 6).2 c).2) (cst x.1.2.2 (bld x S 6).1 (colB x S 6) (bld x S 6).2 c).2 = none := by simpa using hc114
                  rw [hno] at hP2
                  first | refine e_iincN_6 (n := 1) (p' := 153) D_Min_rankOf_150 (Nat.le_of_ble_eq_true rfl) rfl rfl ?_ | refine e_iinc_6 (p' := 153) D_Min_rankOf_150 (Nat.le_of_ble_eq_true rfl) rfl rfl rfl ?_
                  refine e_goto (p' := 88) D_Min_rankOf_153 rfl ?_
                  refine sEv.castW (ih88 h2 ⟨by rw [cst_none hc101 hno]; exact hP2, hF1.tr hF2⟩) ?_ ?_ ?_
                  · rw [cst_none hc101 hno]; exact lvW_rfl _
                  · rfl
                  · first | rfl | (simp; done)
                ·
                  obtain ⟨p, hso⟩ := Option.isSome_iff_exists.mp hc114
                  rw [hso] at hP2
                  have hpl := fp_lt hso
                  refine e_iload_5 (p' := 119) D_Min_rankOf_117 rfl ?_
                  refine e_iconst (v := nI 1) (p' := 120) D_Min_rankOf_119 cst_iconst_1 rfl ?_
                  first | refine e_iaddN (p' := 121) D_Min_rankOf_120 rfl ?_ | refine e_iadd (p' := 121) D_Min_rankOf_120 rfl ?_
                  refine e_istore_7 (p' := 123) D_Min_rankOf_121 (Nat.le_of_ble_eq_true rfl) rfl rfl ?_
                  have lk123 : ∀ a : Nat, a ≤ (bld x S 6).1 → ∀ (h3 : sH), ((cst x.1.2.2 (bld x S 6).1 (colB x S 6) (bld x S 6).2 c).2 < a ∧ MtAt h3 (bld x S 6).1 (elN x.1.2.2 (swp (cst x.1.2.2 (bld x S 6).1 (colB x S 6) (bld x S 6).2 c).1 p (cst x.1.2.2 (bld x S 6).1 (colB x S 6) (bld x S 6).2 c).2) (cst x.1.2.2 (bld x S 6).1 (colB x S 6) (bld x S 6).2 c).2 c a) ∧ FrM h h3) → sEv l m_Min_rankOf 3 (0, 0, 0, 0) (sKm 0 0 (fun r1 h1 => r1 = some (.int (nI (rankSet x S))) ∧ (fun h1 => (∃ n B, MtAt h1 n B) ∧ FrM h h1) h1)) 123 [some (.ref 26), some (.ref 1), some (.int (nI S)), some (.int (nI (mk 6 (colB x S 6)))), some (.int (nI (bld x S 6).1)), some (.int (nI (cst x.1.2.2 (bld x S 6).1 (colB x S 6) (bld x S 6).2 c).2)), some (.int (nI c)), some (.int (nI a))] [] (h3) := by
                    refine lp_up _ ?_ ?_
                    · intro h3 hI3
                      obtain ⟨hra, hI3, hF3⟩ := hI3
                      obtain ⟨E3, j1, j2, j3, j4⟩ := hI3
                      have hI3 : MtAt h3 (bld x S 6).1 (elN x.1.2.2 (swp (cst x.1.2.2 (bld x S 6).1 (colB x S 6) (bld x S 6).2 c).1 p (cst x.1.2.2 (bld x S 6).1 (colB x S 6) (bld x S 6).2 c).2) (cst x.1.2.2 (bld x S 6).1 (colB x S 6) (bld x S 6).2 c).2 c ((bld x S 6).1)) := ⟨E3, j1, j2, j3, j4⟩
                      refine e_iload_7 (p' := 125) D_Min_rankOf_123 rfl ?_
                      refine e_iload_4 (p' := 127) D_Min_rankOf_125 rfl ?_
                      first | refine e_icmpN_ge (q := 147) (p' := 130) D_Min_rankOf_127 (by omega) (by omega) rfl rfl (fun hc127 => ?_) (fun hc127 => ?_) | refine e_icmp_ge (q := 147) (p' := 130) D_Min_rankOf_127 rfl rfl (fun hc127 => ?_) (fun hc127 => ?_)
                      ·
                        first | refine e_iincN_5 (n := 1) (p' := 150) D_Min_rankOf_147 (Nat.le_of_ble_eq_true rfl) rfl rfl ?_ | refine e_iinc_5 (p' := 150) D_Min_rankOf_147 (Nat.le_of_ble_eq_true rfl) rfl rfl rfl ?_
                        first | refine e_iincN_6 (n := 1) (p' := 153) D_Min_rankOf_150 (Nat.le_of_ble_eq_true rfl) rfl rfl ?_ | refine e_iinc_6 (p' := 153) D_Min_rankOf_150 (Nat.le_of_ble_eq_true rfl) rfl rfl rfl ?_
                        refine e_goto (p' := 88) D_Min_rankOf_153 rfl ?_
                        refine sEv.castW (ih88 h3 ⟨by rw [cst_some hc101 hso]; exact hI3, hF3⟩) ?_ ?_ ?_
                        · rw [cst_some hc101 hso]; exact ⟨rfl, rfl, rfl, rfl, rfl, rfl, rfl, trivial⟩
                        · rfl
                        · first | rfl | (simp; done)
                      ·
                        exfalso; omega
                    · intro a ha ih123 h3 hI3
                      obtain ⟨hra, hI3, hF3⟩ := hI3
                      obtain ⟨E3, j1, j2, j3, j4⟩ := hI3
                      have hI3 : MtAt h3 (bld x S 6).1 (elN x.1.2.2 (swp (cst x.1.2.2 (bld x S 6).1 (colB x S 6) (bld x S 6).2 c).1 p (cst x.1.2.2 (bld x S 6).1 (colB x S 6) (bld x S 6).2 c).2) (cst x.1.2.2 (bld x S 6).1 (colB x S 6) (bld x S 6).2 c).2 c a) := ⟨E3, j1, j2, j3, j4⟩
                      refine e_iload_7 (p' := 125) D_Min_rankOf_123 rfl ?_
                      refine e_iload_4 (p' := 127) D_Min_rankOf_125 rfl ?_
                      first | refine e_icmpN_ge (q := 147) (p' := 130) D_Min_rankOf_127 (by omega) (by omega) rfl rfl (fun hc127 => ?_) (fun hc127 => ?_) | refine e_icmp_ge (q := 147) (p' := 130) D_Min_rankOf_127 rfl rfl (fun hc127 => ?_) (fun hc127 => ?_)
                      ·
                        exfalso; omega
                      ·
                        refine e_aload_0 (p' := 131) D_Min_rankOf_130 rfl ?_
                        refine e_aload_1 (p' := 132) D_Min_rankOf_131 rfl ?_
                        refine e_iload_5 (p' := 134) D_Min_rankOf_132 rfl ?_
                        refine e_iload_7 (p' := 136) D_Min_rankOf_134 rfl ?_
                        refine e_iload_6 (p' := 138) D_Min_rankOf_136 rfl ?_
                        refine y_callV0 (p' := 141) D_Min_rankOf_138 V_Min_72 (c_Min_eliminate (hG0.frM hF3 (by omega)) hx hI3 ((hck.1.swp _ _).elN (by omega) _ _ _) (by omega) (by omega) (by omega) (by omega) (by omega)) rfl (by first | assumption | exact sUp_eq | (rw [sUp_ne (by omega)]; assumption) | (rw [sUp_ne (by omega), sUp_ne (by omega)]; assumption) | (rw [sUp_ne (by omega)]; exact sUp_eq) | (simp [sUp]; done)) rfl (Nat.le_of_ble_eq_true rfl) (by decide) ⟨by decide, by decide⟩ rfl ?_
                        rintro h4 ⟨hP4, hF4⟩
                        first | refine e_iincN_7 (n := 1) (p' := 144) D_Min_rankOf_141 (Nat.le_of_ble_eq_true rfl) rfl rfl ?_ | refine e_iinc_7 (p' := 144) D_Min_rankOf_141 (Nat.le_of_ble_eq_true rfl) rfl rfl rfl ?_
                        refine e_goto (p' := 123) D_Min_rankOf_144 rfl ?_
                        refine sEv.castW (ih123 h4 ⟨by omega, by rw [← elN_s hra]; exact hP4, hF3.tr hF4⟩) ?_ ?_ ?_
                        · first | exact lvW_rfl _ | (simp [lvW]; done) | (simp [lvW, *]; done) | (simp [lvW]; omega)
                        · rfl
                        · first | rfl | (simp; done)
                  refine sEv.castW (lk123 ((cst x.1.2.2 (bld x S 6).1 (colB x S 6) (bld x S 6).2 c).2 + 1) (by omega) h2 ⟨by omega, by rw [elN_0]; exact hP2, hF1.tr hF2⟩) ?_ ?_ ?_
                  · first | exact lvW_rfl _ | (simp [lvW]; done) | (simp [lvW, *]; done) | (simp [lvW]; omega)
                  · rfl
                  · first | rfl | (simp; done)
        refine sEv.castW (lk88 0 (by omega) h1 ⟨hI0, hF1⟩) ?_ ?_ ?_
        · first | exact lvW_rfl _ | (simp [lvW]; done) | (simp [lvW, *]; done) | (simp [lvW]; omega)
        · rfl
        · first | rfl | (simp; done)
      ·
        exfalso; omega
    · intro r hr ih9 h1 hI
      obtain ⟨hI0, hF1⟩ := hI
      have hbl := bld_le (x := x) (S := S) (r := r)
      have k0 := (hF1 1 (by omega)).trans g0
      obtain ⟨E1, k1, k2, k3, k4⟩ := hI0
      have hI0 : MtAt h1 (bld x S r).1 (bld x S r).2 := ⟨E1, k1, k2, k3, k4⟩
      refine e_iload_5 (p' := 11) D_Min_rankOf_9 rfl ?_
      refine e_bipush (v := nI 6) (p' := 13) D_Min_rankOf_11 cst_bipush_6 rfl ?_
      first | refine e_icmpN_ge (q := 82) (p' := 16) D_Min_rankOf_13 (by omega) (by omega) rfl rfl (fun hc13 => ?_) (fun hc13 => ?_) | refine e_icmp_ge (q := 82) (p' := 16) D_Min_rankOf_13 rfl rfl (fun hc13 => ?_) (fun hc13 => ?_)
      ·
        exfalso; omega
      ·
        refine e_iload_2 (p' := 17) D_Min_rankOf_16 rfl ?_
        refine e_iload_5 (p' := 19) D_Min_rankOf_17 rfl ?_
        refine x_callSN1 (p' := 22) D_Min_rankOf_19 SN_Min_56 (c_O_holds hS (by omega)) rfl rfl (Nat.le_of_ble_eq_true rfl) (by decide) ⟨by decide, by decide⟩ rfl ?_
        refine e_ifB_eq (q := 76) (p' := 25) D_Min_rankOf_22 rfl rfl (fun hc22 => ?_) (fun hc22 => ?_)
        ·
          first | refine e_iincN_5 (n := 1) (p' := 79) D_Min_rankOf_76 (Nat.le_of_ble_eq_true rfl) rfl rfl ?_ | refine e_iinc_5 (p' := 79) D_Min_rankOf_76 (Nat.le_of_ble_eq_true rfl) rfl rfl rfl ?_
          refine e_goto (p' := 9) D_Min_rankOf_79 rfl ?_
          refine sEv.castW (ih9 h1 ⟨by rw [bld_no hc22]; exact hI0, hF1⟩) ?_ ?_ ?_
          · rw [bld_no hc22, mk_congr (q := colB x S r) (fun k _ => by rw [colB_s, hc22]; simp)]; exact lvW_rfl _
          · rfl
          · first | rfl | (simp; done)
        ·
          refine e_iload_3 (p' := 26) D_Min_rankOf_25 rfl ?_
          refine e_aload_1 (p' := 27) D_Min_rankOf_26 rfl ?_
          refine e_iload_5 (p' := 29) D_Min_rankOf_27 rfl ?_
          refine x_callV1 (p' := 32) D_Min_rankOf_29 V_Min_60 (c_Grid_toldInRow (hG0.frM hF1 (by omega)) hx (by omega)) rfl (by first | assumption | exact sUp_eq | (rw [sUp_ne (by omega)]; assumption) | (rw [sUp_ne (by omega), sUp_ne (by omega)]; assumption) | (rw [sUp_ne (by omega)]; exact sUp_eq) | (simp [sUp]; done)) rfl (Nat.le_of_ble_eq_true rfl) (by decide) ⟨by decide, by decide⟩ rfl ?_
          refine e_iand (p' := 33) D_Min_rankOf_32 rfl ?_
          rw [show gMask x r = mk 6 (td x r) from rfl, mk_and]
          refine e_istore_3 (p' := 34) D_Min_rankOf_33 (Nat.le_of_ble_eq_true rfl) rfl rfl ?_
          refine e_iconst (v := nI 0) (p' := 35) D_Min_rankOf_34 cst_iconst_0 rfl ?_
          refine e_istore_6 (p' := 37) D_Min_rankOf_35 (Nat.le_of_ble_eq_true rfl) rfl rfl ?_
          have lk37 : ∀ i : Nat, i ≤ 6 → ∀ (h2 : sH), ((∃ A, h2.2 26 = oC 2 [.ref 27] ∧ h2.2 27 = oC 3 [.ref 28] ∧ h2.2 28 = iA 36 A ∧ (∀ b j, b < (bld x S r).1 → j < 6 → A (6 * b + j) = nI ((bld x S r).2 b j)) ∧ ∀ j, j < i → A (6 * (bld x S r).1 + j) = nI (at' x r j)) ∧ FrM h h2) → sEv l m_Min_rankOf 3 (0, 0, 0, 0) (sKm 0 0 (fun r1 h1 => r1 = some (.int (nI (rankSet x S))) ∧ (fun h1 => (∃ n B, MtAt h1 n B) ∧ FrM h h1) h1)) 37 [some (.ref 26), some (.ref 1), some (.int (nI S)), some (.int (nI (mk 6 (fun k => colB x S r k && td x r k)))), some (.int (nI (bld x S r).1)), some (.int (nI r)), some (.int (nI i)), none] [] (h2) := by
            refine lp_up _ ?_ ?_
            · intro h2 hI2
              obtain ⟨⟨E2, e1, e2, e3, e4, e5⟩, hF2⟩ := hI2
              have j0 := (hF2 1 (by omega)).trans g0
              refine e_iload_6 (p' := 39) D_Min_rankOf_37 rfl ?_
              refine e_bipush (v := nI 6) (p' := 41) D_Min_rankOf_39 cst_bipush_6 rfl ?_
              first | refine e_icmpN_ge (q := 73) (p' := 44) D_Min_rankOf_41 (by omega) (by omega) rfl rfl (fun hc41 => ?_) (fun hc41 => ?_) | refine e_icmp_ge (q := 73) (p' := 44) D_Min_rankOf_41 rfl rfl (fun hc41 => ?_) (fun hc41 => ?_)
              ·
                first | refine e_iincN_4 (n := 1) (p' := 76) D_Min_rankOf_73 (Nat.le_of_ble_eq_true rfl) rfl rfl ?_ | refine e_iinc_4 (p' := 76) D_Min_rankOf_73 (Nat.le_of_ble_eq_true rfl) rfl rfl rfl ?_
                first | refine e_iincN_5 (n := 1) (p' := 79) D_Min_rankOf_76 (Nat.le_of_ble_eq_true rfl) rfl rfl ?_ | refine e_iinc_5 (p' := 79) D_Min_rankOf_76 (Nat.le_of_ble_eq_true rfl) rfl rfl rfl ?_
                refine e_goto (p' := 9) D_Min_rankOf_79 rfl ?_
                have hz : ∀ i c, i < (bld x S r).1 + 1 → c < 6 → E2 (6 * i + c) = nI ((fun i => if i = (bld x S r).1 then at' x r else (bld x S r).2 i) i c) := by
                  intro i c hi hc
                  by_cases e : i = (bld x S r).1
                  · subst e; simp only [if_true]; exact e5 c (by omega)
                  · simp only [if_neg e]; exact e4 i c (by omega) hc
                refine sEv.castW (ih9 h2 ⟨by rw [bld_go hc22]; exact ⟨E2, e1, e2, e3, hz⟩, hF2⟩) ?_ ?_ ?_
                · rw [bld_go hc22, mk_congr (p := colB x S (r + 1)) (q := fun k => colB x S r k && td x r k) (fun k _ => by rw [colB_s, hc22]; simp)]; exact ⟨rfl, rfl, rfl, rfl, rfl, rfl, trivial⟩
                · rfl
                · first | rfl | (simp; done)
              ·
                exfalso; omega
            · intro i hi ih37 h2 hI2
              obtain ⟨⟨E2, e1, e2, e3, e4, e5⟩, hF2⟩ := hI2
              have j0 := (hF2 1 (by omega)).trans g0
              refine e_iload_6 (p' := 39) D_Min_rankOf_37 rfl ?_
              refine e_bipush (v := nI 6) (p' := 41) D_Min_rankOf_39 cst_bipush_6 rfl ?_
              first | refine e_icmpN_ge (q := 73) (p' := 44) D_Min_rankOf_41 (by omega) (by omega) rfl rfl (fun hc41 => ?_) (fun hc41 => ?_) | refine e_icmp_ge (q := 73) (p' := 44) D_Min_rankOf_41 rfl rfl (fun hc41 => ?_) (fun hc41 => ?_)
              ·
                exfalso; omega
              ·
                refine e_aload_0 (p' := 45) D_Min_rankOf_44 rfl ?_
                refine e_getfield (p' := 48) D_Min_rankOf_45 F_Min_14 (by first | assumption | exact sUp_eq | (rw [sUp_ne (by omega)]; assumption) | (rw [sUp_ne (by omega), sUp_ne (by omega)]; assumption) | (rw [sUp_ne (by omega)]; exact sUp_eq) | (simp [sUp]; done)) (by rfl) rfl ?_
                refine e_bipush (v := nI 6) (p' := 50) D_Min_rankOf_48 cst_bipush_6 rfl ?_
                refine e_iload_4 (p' := 52) D_Min_rankOf_50 rfl ?_
                first | refine e_imulN (p' := 53) D_Min_rankOf_52 rfl ?_ | refine e_imul (p' := 53) D_Min_rankOf_52 rfl ?_
                refine e_iload_6 (p' := 55) D_Min_rankOf_53 rfl ?_
                first | refine e_iaddN (p' := 56) D_Min_rankOf_55 rfl ?_ | refine e_iadd (p' := 56) D_Min_rankOf_55 rfl ?_
                refine e_aload_1 (p' := 57) D_Min_rankOf_56 rfl ?_
                refine e_iload_5 (p' := 59) D_Min_rankOf_57 rfl ?_
                refine e_iload_6 (p' := 61) D_Min_rankOf_59 rfl ?_
                refine x_callV1 (p' := 64) D_Min_rankOf_61 V_Min_40 (c_Grid_number (hG0.frM hF2 (by omega)) hx (by omega) (by omega)) rfl (by first | assumption | exact sUp_eq | (rw [sUp_ne (by omega)]; assumption) | (rw [sUp_ne (by omega), sUp_ne (by omega)]; assumption) | (rw [sUp_ne (by omega)]; exact sUp_eq) | (simp [sUp]; done)) rfl (Nat.le_of_ble_eq_true rfl) (by decide) ⟨by decide, by decide⟩ rfl ?_
                refine x_callV0 (p' := 67) D_Min_rankOf_64 V_Min_64 (c_Num_set e2 e3 (by omega) (by omega)) rfl (by first | assumption | exact sUp_eq | (rw [sUp_ne (by omega)]; assumption) | (rw [sUp_ne (by omega), sUp_ne (by omega)]; assumption) | (rw [sUp_ne (by omega)]; exact sUp_eq) | (simp [sUp]; done)) rfl (Nat.le_of_ble_eq_true rfl) (by decide) ⟨by decide, by decide⟩ rfl ?_
                first | refine e_iincN_6 (n := 1) (p' := 70) D_Min_rankOf_67 (Nat.le_of_ble_eq_true rfl) rfl rfl ?_ | refine e_iinc_6 (p' := 70) D_Min_rankOf_67 (Nat.le_of_ble_eq_true rfl) rfl rfl rfl ?_
                refine e_goto (p' := 37) D_Min_rankOf_70 rfl ?_
                refine sEv.castW (ih37 _ ⟨MtAt.row (v := at' x r) (by omega) e1 e2 ⟨e4, e5⟩, hF2.up⟩) ?_ ?_ ?_
                · first | exact lvW_rfl _ | (simp [lvW]; done) | (simp [lvW, *]; done) | (simp [lvW]; omega)
                · rfl
                · first | rfl | (simp; done)
          refine sEv.castW (lk37 0 (by omega) h1 ⟨⟨E1, k1, k2, k3, k4, fun j hj => absurd hj (by omega)⟩, hF1⟩) ?_ ?_ ?_
          · first | exact lvW_rfl _ | (simp [lvW]; done) | (simp [lvW, *]; done) | (simp [lvW]; omega)
          · rfl
          · first | rfl | (simp; done)
  refine sEv.castW (lk9 0 (by omega) h ⟨hP0, FrM.rf⟩) ?_ ?_ ?_
  · first | exact lvW_rfl _ | (simp [lvW]; done) | (simp [lvW, *]; done) | (simp [lvW]; omega)
  · rfl
  · first | rfl | (simp; done)
set_option maxRecDepth 4000 in
theorem c_Min_leastRank {l : Launch} {h : sH} {x : Gd} (hG : GridAt h 1 x) (hx : Gok x) (hP : ∃ n B, MtAt h n B) : sY l m_Min_leastRank 4 [.ref 26, .ref 1] h (some (.int (nI (mxTo (rkF x) 64)))) (fun h1 => (∃ n B, MtAt h1 n B) ∧ FrM h h1) := by
  refine en_Min_leastRank ?_
  refine e_iconst (v := nI 0) (p' := 1) D_Min_leastRank_0 cst_iconst_0 rfl ?_
  refine e_istore_2 (p' := 2) D_Min_leastRank_1 (Nat.le_of_ble_eq_true rfl) rfl rfl ?_
  refine e_iconst (v := nI 1) (p' := 3) D_Min_leastRank_2 cst_iconst_1 rfl ?_
  refine e_istore_3 (p' := 4) D_Min_leastRank_3 (Nat.le_of_ble_eq_true rfl) rfl rfl ?_
  have lk4 : ∀ s : Nat, s ≤ 64 → ∀ (h1 : sH), (0 < s ∧ (∃ n B, MtAt h1 n B) ∧ FrM h h1) → sEv l m_Min_leastRank 4 (0, 0, 0, 0) (sKm 0 0 (fun r1 h1 => r1 = some (.int (nI (mxTo (rkF x) 64))) ∧ (fun h1 => (∃ n B, MtAt h1 n B) ∧ FrM h h1) h1)) 4 [some (.ref 26), some (.ref 1), some (.int (nI (mxTo (rkF x) s))), some (.int (nI s))] [] (h1) := by
    refine lp_up _ ?_ ?_
    · intro h1 hI
      obtain ⟨hs0, hI0, hF1⟩ := hI
      have q26 := hI0.choose_spec.choose_spec.choose_spec.1
      refine e_iload_3 (p' := 5) D_Min_leastRank_4 rfl ?_
      refine e_bipush (v := nI 64) (p' := 7) D_Min_leastRank_5 cst_bipush_64 rfl ?_
      first | refine e_icmpN_ge (q := 27) (p' := 10) D_Min_leastRank_7 (by omega) (by omega) rfl rfl (fun hc7 => ?_) (fun hc7 => ?_) | refine e_icmp_ge (q := 27) (p' := 10) D_Min_leastRank_7 rfl rfl (fun hc7 => ?_) (fun hc7 => ?_)
      ·
        refine e_iload_2 (p' := 28) D_Min_leastRank_27 rfl ?_
        refine e_ireturn (ty := .int) D_Min_leastRank_28 rfl (by first | rfl | exact sBo_nar _) ⟨by decide, by decide⟩ ?_
        exact ⟨rfl, hI0, hF1⟩
      ·
        exfalso; omega
    · intro s hs ih4 h1 hI
      obtain ⟨hs0, hI0, hF1⟩ := hI
      have q26 := hI0.choose_spec.choose_spec.choose_spec.1
      refine e_iload_3 (p' := 5) D_Min_leastRank_4 rfl ?_
      refine e_bipush (v := nI 64) (p' := 7) D_Min_leastRank_5 cst_bipush_64 rfl ?_
      first | refine e_icmpN_ge (q := 27) (p' := 10) D_Min_leastRank_7 (by omega) (by omega) rfl rfl (fun hc7 => ?_) (fun hc7 => ?_) | refine e_icmp_ge (q := 27) (p' := 10) D_Min_leastRank_7 rfl rfl (fun hc7 => ?_) (fun hc7 => ?_)
      ·
        exfalso; omega
      ·
        refine e_iload_2 (p' := 11) D_Min_leastRank_10 rfl ?_
        refine e_aload_0 (p' := 12) D_Min_leastRank_11 rfl ?_
        refine e_aload_1 (p' := 13) D_Min_leastRank_12 rfl ?_
        refine e_iload_3 (p' := 14) D_Min_leastRank_13 rfl ?_
        refine y_callV1 (p' := 17) D_Min_leastRank_14 V_Min_47 (c_Min_rankOf (hG.frM hF1 (by omega)) hx hI0 (by omega)) rfl (by first | assumption | exact sUp_eq | (rw [sUp_ne (by omega)]; assumption) | (rw [sUp_ne (by omega), sUp_ne (by omega)]; assumption) | (rw [sUp_ne (by omega)]; exact sUp_eq) | (simp [sUp]; done)) rfl (Nat.le_of_ble_eq_true rfl) (by decide) ⟨by decide, by decide⟩ rfl ?_
        rintro h2 ⟨hP2, hF2⟩
        have hm1 := mxTo_le (rkF_le hx) s
        have hm2 := rankSet_le hx (S := s)
        rw [show rankSet x s = rkF x s by unfold rkF; rw [if_neg (by omega)]] at *
        refine e_mmaxN (p' := 20) D_Min_leastRank_17 S_Min_51.2.1 (by omega) (by omega) (Nat.le_of_ble_eq_true rfl) (by decide) ⟨by decide, by decide⟩ rfl ?_
        refine e_istore_2 (p' := 21) D_Min_leastRank_20 (Nat.le_of_ble_eq_true rfl) rfl rfl ?_
        first | refine e_iincN_3 (n := 1) (p' := 24) D_Min_leastRank_21 (Nat.le_of_ble_eq_true rfl) rfl rfl ?_ | refine e_iinc_3 (p' := 24) D_Min_leastRank_21 (Nat.le_of_ble_eq_true rfl) rfl rfl rfl ?_
        refine e_goto (p' := 4) D_Min_leastRank_24 rfl ?_
        refine sEv.castW (ih4 h2 ⟨by omega, hP2, hF1.tr hF2⟩) ?_ ?_ ?_
        · first | exact lvW_rfl _ | (simp [lvW]; done) | (simp [lvW, *]; done) | (simp [lvW]; omega)
        · rfl
        · first | rfl | (simp; done)
  refine sEv.castW (lk4 1 (by omega) h ⟨by omega, hP, FrM.rf⟩) ?_ ?_ ?_
  · first | exact lvW_rfl _ | (simp [lvW]; done) | (simp [lvW, *]; done) | (simp [lvW]; omega)
  · rfl
  · first | rfl | (simp; done)
