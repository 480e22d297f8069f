/-! THE CLAIM OUT OF ONE WALK OF THE LAW'S BODY. Your part is whole_start (and what it stands on); all else here is the same for every law, but numbers. -/
def R_law : String := "OneRankGridLaw"
def lw_P (b : Addr) (xs : List Int32) (args : Array Value) (s : State) : Prop := args = #[.ref b] ∧ s.IntsAt b xs ∧ xs.length ≤ 2560 ∧ (Jvm.Cond.and given_1 narrow_1).before args s = true
def lw_Q (_ : Array Value) (s : State) (o : Outcome) (t : State) : Prop := o = .returned (some (.int 1)) ∧ Framed s o t [] 600000 7302250
def lw_Z (below : List Frame) (a : Array Value) (s : State) : State → Prop := fun t => ∃ o, t.status = .running ∧ Ended t below o ∧ lw_Q a s o t
/-- the law's own end, with 1 on the stack, nothing written that was there before, its room as the claim has it -/
theorem lw_ret {p : Program} {l : Launch} {e : Env} {s : State} {m : MethodId} {below : List Frame} {meth : Method} {c : Code} {b : Nat} (hx : p.tables.exec = Jvm.exec) (hb : c.code = code) (hr : meth.sig.returnType = ret) (hlocks : meth.locks = false) {pc : Nat} {H : Heap} {ls : Array Slot} (hdg : decode code pc = .ok (.ireturn, 1)) : W p l e room_1 s m #[Value.ref b] below meth c H [] 600000 7302250 (lw_Z below #[Value.ref b] s) (F0 m pc ls [.int 1]) := by
  intro T hT X
  obtain ⟨fs, hret, hrun, hended, hW, hframe⟩ := X.leave (v := some (.int 1)) (hlocks := hlocks) (fun h => by rw [hr] at h; cases h)
  have hmeth' : T.vm.method? m = some meth := X.method'
  refine ⟨T.setFrames fs, ?_, .returned (some (.int 1)), hrun, hended, rfl, ⟨_, rfl⟩, hW, hframe⟩
  jvm_step X.here [X.here.top, hx, hb, hdg, hmeth', hr, ret, narrow_b1]
  (try refine ⟨rfl, ?_⟩); (try refine ⟨rfl, ?_⟩)
  first | (intro acts; rw [hret _ acts rfl rfl rfl]) | rw [hret _ _ rfl rfl rfl]
  exact Steps.refl _
/-- what holds at the law's entry: the machine, the code, the tables' words (any of lw_tbl by 'hts w (by decide +kernel)'), the script of L ints xs at the cell b, what the Statement gives of the start (any of its parts by flat_of_before) -/
def lw_At (p : Program) (s : State) (m : MethodId) (meth : Method) (c : Code) (b L : Nat) (xs : Nat → Int32) : Prop :=
  p.tables.exec = Jvm.exec ∧ c.code = code ∧ meth.sig.returnType = ret ∧ c.maxLocals = 4 ∧ s.vm.findClass R_law = some m.cls ∧ (∀ w ∈ lw_tbl, w.before #[Value.ref b] s = true) ∧ va_X b L xs s s.heap ∧ b < s.heap.size ∧ meth.locks = false ∧ (Jvm.Cond.and given_1 narrow_1).before #[Value.ref b] s = true
-- the law in the engine's words
def lK (b L : Nat) (xs : Nat → Int32) : sK := (fun G s args _ => args = #[Value.ref b] ∧ va_X b L xs s s.heap ∧ b < s.heap.size ∧ G.1 = s.heap.size, fun _ s args below => lw_Z below args s)
section LAW
variable {l : Launch} {d : Nat} {B : sB} {pc p' : Nat} {lv : List (Option Value)} {st : List Value} {h : sH} {b L : Nat} {xs : Nat → Int32}
theorem e_aloadA_0 {K : sK} {r : List (Option Value)} (hd : decode m_Law_law.2.1 pc = .ok (.aload_n 0, 1)) (hp : pc + 1 = p') (kk : sEv l m_Law_law d B K p' (some (.retAddr b) :: r) (.retAddr b :: st) h) : sEv l m_Law_law d B K pc (some (.retAddr b) :: r) st h := by
  subst hp
  exact e_ld (i := 0) rfl (fun b p e R s m args below meth c H locs ls cells slots Q hx hb hl k => lv_aload_n hx hb hd rfl hl k) kk
theorem e_Lsld {i : Nat} (hd : decode m_Law_law.2.1 pc = .ok (.iaload, 1)) (hL : L ≤ 2560) (hi : i < L) (hp : pc + 1 = p') (kk : sEv l m_Law_law d B (lK b L xs) p' lv (.int (xs i) :: st) h) : sEv l m_Law_law d B (lK b L xs) pc lv (.int (nI i) :: .retAddr b :: st) h := by
  subst hp
  intro G p e R s m args below meth c H locs ls C hR hS hL2
  have k2 := kk G p e R s m args below meth c H locs ls C hR hS hL2
  obtain ⟨hx, hb, hml, hrt, hlk, hown, hin, hts, hBa, hrm, hG, hK⟩ := C
  obtain ⟨-, hX, hbl, hGe⟩ := hK
  have hcl : (nI i).toNatClampNeg = i := nI_clamp (by omega)
  refine va_sld (A := fun q => G.1 ≤ q) (i := nI i) hx hb hX hbl (by rw [hGe]; exact Nat.not_le.mpr hbl) hS ?_ hd ?_
  · show ¬ (nI i < 0 ∨ L ≤ (nI i).toNatClampNeg)
    rw [hcl]
    exact fun z => z.elim (nI_pos (by omega)) (fun z => by omega)
  · rw [hcl]; exact k2
theorem e_Lslen (hd : decode m_Law_law.2.1 pc = .ok (.arraylength, 1)) (hp : pc + 1 = p') (kk : sEv l m_Law_law d B (lK b L xs) p' lv (.int (nI L) :: st) h) : sEv l m_Law_law d B (lK b L xs) pc lv (.retAddr b :: st) h := by
  subst hp
  intro G p e R s m args below meth c H locs ls C hR hS hL2
  have k2 := kk G p e R s m args below meth c H locs ls C hR hS hL2
  obtain ⟨hx, hb, hml, hrt, hlk, hown, hin, hts, hBa, hrm, hG, hK⟩ := C
  obtain ⟨-, hX, hbl, hGe⟩ := hK
  exact va_slen (A := fun q => G.1 ≤ q) hx hb hX hbl (by rw [hGe]; exact Nat.not_le.mpr hbl) hS hd k2
theorem lw_retR {R : Room} {p : Program} {l : Launch} {e : Env} {s : State} {m : MethodId} {below : List Frame} {meth : Method} {c : Code} {b : Nat} (hx : p.tables.exec = Jvm.exec) (hb : c.code = code) (hr : meth.sig.returnType = ret) (hlocks : meth.locks = false) {pc : Nat} {H : Heap} {ls : Array Slot} (hdg : decode code pc = .ok (.ireturn, 1)) : W p l e R s m #[Value.ref b] below meth c H [] 600000 7302250 (lw_Z below #[Value.ref b] s) (F0 m pc ls [.int 1]) := by
  intro T hT X
  obtain ⟨fs, hret, hrun, hended, hW, hframe⟩ := X.leave (v := some (.int 1)) (hlocks := hlocks) (fun h => by rw [hr] at h; cases h)
  have hmeth' : T.vm.method? m = some meth := X.method'
  refine ⟨T.setFrames fs, ?_, .returned (some (.int 1)), hrun, hended, rfl, ⟨_, rfl⟩, hW, hframe⟩
  jvm_step X.here [X.here.top, hx, hb, hdg, hmeth', hr, ret, narrow_b1]
  (try refine ⟨rfl, ?_⟩); (try refine ⟨rfl, ?_⟩)
  first | (intro acts; rw [hret _ acts rfl rfl rfl]) | rw [hret _ _ rfl rfl rfl]
  exact Steps.refl _
theorem e_Lret (hdg : decode m_Law_law.2.1 pc = .ok (.ireturn, 1)) (hB : B.1 ≤ 600000 ∧ B.2.1 ≤ 7302250) : sEv l m_Law_law d B (lK b L xs) pc lv [.int (nI 1)] h := by
  intro G p e R s m args below meth c H locs ls C hR hS hL2
  obtain ⟨hx, hb, hml, hrt, hlk, hown, hin, hts, hBa, hrm, hG, hK⟩ := C
  obtain ⟨rfl, hX, hbl, hGe⟩ := hK
  refine va_forget (fun q hq => by rw [← hGe]; exact hS.2.2 q hq) ?_
  refine W.widen (k := 600000) (n := 7302250) hB.1 hB.2 ?_
  exact lw_retR hx hb hrt hlk hdg
end LAW
theorem CInv.keptK {h h' : sH} {st : St} (C : CInv h st) (k : FrK h h') : CInv h' st := by
  obtain ⟨c0, c1, ⟨t, c2, c3⟩, ⟨s, sz, con, c4⟩, c5, ⟨n, B, c6⟩, ⟨ry, cy, c7⟩, c8, c9⟩ := C
  exact ⟨(k _ (by omega)).trans c0, c1.kept (k _ (by omega)) (k _ (by omega)) (k _ (by omega)), ⟨t, c2.kept (k _ (by omega)) (k _ (by omega)) (k _ (by omega)), c3⟩, ⟨s, sz, con, c4.kept fun a _ _ => k a (by omega)⟩, c5.kept fun a _ _ => k a (by omega), ⟨n, B, c6.kept fun a _ _ => k a (by omega)⟩, ⟨ry, cy, c7.kept fun a _ _ => k a (by omega)⟩, c8.kept fun a _ _ => k a (by omega), c9.kept fun a _ _ => k a (by omega)⟩
theorem sub5 {L i : Nat} (hL : L ≤ 2560) (hi : i ≤ 3000) : (nI L - nI 5 < nI i) ↔ L < i + 5 := by
  by_cases e : 5 ≤ L
  · rw [nI_subN e, nI_ltI (by omega) (by omega)]
    omega
  · have key : ∀ n, n < 5 → (nI n - nI 5).toInt < 0 := by decide +kernel
    have k2 := key L (by omega)
    rw [Int32.lt_iff_toInt_lt, nI_toInt (show i < 2 ^ 31 by omega)]
    omega
theorem lg_cmp_r (x : Int64) : lg_cmp x x = 0 := by
  unfold lg_cmp
  rw [if_neg (Int64.lt_irrefl), if_pos rfl]
set_option maxRecDepth 4000 in
theorem law_loop {l : Launch} {b L : Nat} {xs : Nat → Int32} (hL : L ≤ 2560) {h0 : sH} (C0 : CInv h0 st0) (M0 : MInv h0 st0) : sEv l m_Law_law 20 (74, 2630, 600000, 7302250) (lK b L xs) 18 [some (.retAddr b), some (.ref 0), some (.ref 61), some (.int (nI 0))] [] h0 := by
  have lk18 : ∀ j : Nat, j ≤ L / 5 → ∀ (h1 : sH) (st : St), ((CInv h1 st ∧ MInv h1 st) ∧ StOk st) → sEv l m_Law_law 20 (74, 2630, 600000, 7302250) (lK b L xs) 18 [some (.retAddr b), some (.ref 0), some (.ref 61), some (.int (nI (5 * j)))] [] (h1) := by
    refine lp_up _ ?_ ?_
    · intro h1 st ⟨⟨CC, MM⟩, hS⟩
      have cc0 := CC.1
      refine e_iload_3 (p' := 19) D_Law_law_18 rfl ?_
      refine e_aloadA_0 (p' := 20) D_Law_law_19 rfl ?_
      refine e_Lslen (p' := 21) D_Law_law_20 rfl ?_
      refine e_iconst (v := nI 5) (p' := 22) D_Law_law_21 cst_iconst_5 rfl ?_
      first | refine e_isubN (p' := 23) D_Law_law_22 (by omega) rfl ?_ | refine e_isub (p' := 23) D_Law_law_22 rfl ?_
      refine e_icmp_gt (q := 706) (p' := 26) D_Law_law_23 rfl rfl (fun hc23 => ?_) (fun hc23 => ?_)
      ·
        refine e_iconst (v := nI 1) (p' := 707) D_Law_law_706 cst_iconst_1 rfl ?_
        exact e_Lret D_Law_law_707 ⟨Nat.le_of_ble_eq_true rfl, Nat.le_of_ble_eq_true rfl⟩
      ·
        first | exact absurd ((nI_ltI (by omega) (by omega)).mp hc23) (by omega) | exact absurd ((sub5 hL (by omega)).mp hc23) (by omega) | exact absurd ((sub5 hL (by omega)).mpr (by omega)) hc23
    · intro j hj ih18 h1 st ⟨⟨CC, MM⟩, hS⟩
      have cc0 := CC.1
      refine e_iload_3 (p' := 19) D_Law_law_18 rfl ?_
      refine e_aloadA_0 (p' := 20) D_Law_law_19 rfl ?_
      refine e_Lslen (p' := 21) D_Law_law_20 rfl ?_
      refine e_iconst (v := nI 5) (p' := 22) D_Law_law_21 cst_iconst_5 rfl ?_
      first | refine e_isubN (p' := 23) D_Law_law_22 (by omega) rfl ?_ | refine e_isub (p' := 23) D_Law_law_22 rfl ?_
      refine e_icmp_gt (q := 706) (p' := 26) D_Law_law_23 rfl rfl (fun hc23 => ?_) (fun hc23 => ?_)
      ·
        first | exact absurd ((nI_ltI (by omega) (by omega)).mp hc23) (by omega) | exact absurd ((sub5 hL (by omega)).mp hc23) (by omega) | exact absurd ((sub5 hL (by omega)).mpr (by omega)) hc23
      ·
        refine e_aloadA_0 (p' := 27) D_Law_law_26 rfl ?_
        refine e_iload_3 (p' := 28) D_Law_law_27 rfl ?_
        refine e_Lsld (p' := 29) D_Law_law_28 hL (by omega) rfl ?_
        refine e_bipush (v := nI 31) (p' := 31) D_Law_law_29 cst_bipush_31 rfl ?_
        refine e_iand (p' := 32) D_Law_law_31 rfl ?_
        obtain ⟨w, ew⟩ : ∃ w, xs (5 * j) &&& nI 31 = w := ⟨_, rfl⟩
        rw [ew]
        by_cases hw32_0 : w = nI 0
        · subst hw32_0
          refine e_tsIn (off := 96) (p' := 128) D_Law_law_32 (by decide) (by decide) rfl rfl ?_
          refine e_aload_1 (p' := 129) D_Law_law_128 rfl ?_
          refine e_aloadA_0 (p' := 130) D_Law_law_129 rfl ?_
          refine e_iload_3 (p' := 131) D_Law_law_130 rfl ?_
          refine e_iconst (v := nI 1) (p' := 132) D_Law_law_131 cst_iconst_1 rfl ?_
          first | refine e_iaddN (p' := 133) D_Law_law_132 rfl ?_ | refine e_iadd (p' := 133) D_Law_law_132 rfl ?_
          refine e_Lsld (p' := 134) D_Law_law_133 hL (by omega) rfl ?_
          refine e_aloadA_0 (p' := 135) D_Law_law_134 rfl ?_
          refine e_iload_3 (p' := 136) D_Law_law_135 rfl ?_
          refine e_iconst (v := nI 2) (p' := 137) D_Law_law_136 cst_iconst_2 rfl ?_
          first | refine e_iaddN (p' := 138) D_Law_law_137 rfl ?_ | refine e_iadd (p' := 138) D_Law_law_137 rfl ?_
          refine e_Lsld (p' := 139) D_Law_law_138 hL (by omega) rfl ?_
          refine e_aloadA_0 (p' := 140) D_Law_law_139 rfl ?_
          refine e_iload_3 (p' := 141) D_Law_law_140 rfl ?_
          refine e_iconst (v := nI 3) (p' := 142) D_Law_law_141 cst_iconst_3 rfl ?_
          first | refine e_iaddN (p' := 143) D_Law_law_142 rfl ?_ | refine e_iadd (p' := 143) D_Law_law_142 rfl ?_
          refine e_Lsld (p' := 144) D_Law_law_143 hL (by omega) rfl ?_
          refine y_callV1 (p' := 147) D_Law_law_144 V_Law_13 (c_O_begin CC hS) rfl (by first | assumption | exact sUp_eq | (rw [sUp_ne (by omega)]; assumption) | (rw [sUp_ne (by omega), sUp_ne (by omega)]; assumption) | (rw [sUp_ne (by omega)]; exact sUp_eq) | (rw [gSet_ne (by omega) (by omega)]; first | assumption | exact sUp_eq | (rw [sUp_ne (by omega)]; assumption) | (rw [sUp_ne (by omega), sUp_ne (by omega)]; assumption)) | (rw [sUp_ne (by omega), sUp_ne (by omega), sUp_ne (by omega)]; assumption) | (simp [sUp]; done)) rfl (Nat.le_of_ble_eq_true rfl) (by decide) ⟨Nat.le_of_ble_eq_true rfl, Nat.le_of_ble_eq_true rfl⟩ rfl ?_
          rintro h2 ⟨C2, F2⟩
          have MM2 := MM.kept (fun a h1 _ => F2 a h1)
          obtain ⟨v2, mm2⟩ := MM2.2.1
          refine e_aload_2 (p' := 148) D_Law_law_147 rfl ?_
          refine e_aloadA_0 (p' := 149) D_Law_law_148 rfl ?_
          refine e_iload_3 (p' := 150) D_Law_law_149 rfl ?_
          refine e_iconst (v := nI 1) (p' := 151) D_Law_law_150 cst_iconst_1 rfl ?_
          first | refine e_iaddN (p' := 152) D_Law_law_151 rfl ?_ | refine e_iadd (p' := 152) D_Law_law_151 rfl ?_
          refine e_Lsld (p' := 153) D_Law_law_152 hL (by omega) rfl ?_
          refine e_aloadA_0 (p' := 154) D_Law_law_153 rfl ?_
          refine e_iload_3 (p' := 155) D_Law_law_154 rfl ?_
          refine e_iconst (v := nI 2) (p' := 156) D_Law_law_155 cst_iconst_2 rfl ?_
          first | refine e_iaddN (p' := 157) D_Law_law_156 rfl ?_ | refine e_iadd (p' := 157) D_Law_law_156 rfl ?_
          refine e_Lsld (p' := 158) D_Law_law_157 hL (by omega) rfl ?_
          refine e_aloadA_0 (p' := 159) D_Law_law_158 rfl ?_
          refine e_iload_3 (p' := 160) D_Law_law_159 rfl ?_
          refine e_iconst (v := nI 3) (p' := 161) D_Law_law_160 cst_iconst_3 rfl ?_
          first | refine e_iaddN (p' := 162) D_Law_law_161 rfl ?_ | refine e_iadd (p' := 162) D_Law_law_161 rfl ?_
          refine e_Lsld (p' := 163) D_Law_law_162 hL (by omega) rfl ?_
          refine y_callV1 (p' := 166) D_Law_law_163 V_Law_17 (c_M_begin MM2 hS) rfl (by first | assumption | exact sUp_eq | (rw [sUp_ne (by omega)]; assumption) | (rw [sUp_ne (by omega), sUp_ne (by omega)]; assumption) | (rw [sUp_ne (by omega)]; exact sUp_eq) | (rw [gSet_ne (by omega) (by omega)]; first | assumption | exact sUp_eq | (rw [sUp_ne (by omega)]; assumption) | (rw [sUp_ne (by omega), sUp_ne (by omega)]; assumption)) | (rw [sUp_ne (by omega), sUp_ne (by omega), sUp_ne (by omega)]; assumption) | (simp [sUp]; done)) rfl (Nat.le_of_ble_eq_true rfl) (by decide) ⟨Nat.le_of_ble_eq_true rfl, Nat.le_of_ble_eq_true rfl⟩ rfl ?_
          rintro h3 ⟨M3, K3⟩
          have C3 := C2.keptK K3
          refine e_icmp_eq (q := 700) (p' := 169) D_Law_law_166 rfl rfl (fun hc166 => ?_) (fun hc166 => ?_)
          ·
            first | refine e_iincN_3 (n := 5) (p' := 703) D_Law_law_700 (Nat.le_of_ble_eq_true rfl) rfl rfl ?_ | refine e_iinc_3 (p' := 703) D_Law_law_700 (Nat.le_of_ble_eq_true rfl) rfl rfl rfl ?_
            refine e_goto (p' := 18) D_Law_law_703 rfl ?_
            refine sEv.castW (ih18 h3 _ ⟨⟨C3, M3⟩, Sbegin_ok hS⟩) ?_ ?_ ?_
            · exact ⟨rfl, rfl, rfl, rfl, trivial⟩
            · rfl
            · first | rfl | (simp; done)
          ·
            exact absurd rfl hc166
        by_cases hw32_1 : w = nI 1
        · subst hw32_1
          refine e_tsIn (off := 139) (p' := 171) D_Law_law_32 (by decide) (by decide) rfl rfl ?_
          refine e_aload_1 (p' := 172) D_Law_law_171 rfl ?_
          refine e_aloadA_0 (p' := 173) D_Law_law_172 rfl ?_
          refine e_iload_3 (p' := 174) D_Law_law_173 rfl ?_
          refine e_iconst (v := nI 1) (p' := 175) D_Law_law_174 cst_iconst_1 rfl ?_
          first | refine e_iaddN (p' := 176) D_Law_law_175 rfl ?_ | refine e_iadd (p' := 176) D_Law_law_175 rfl ?_
          refine e_Lsld (p' := 177) D_Law_law_176 hL (by omega) rfl ?_
          refine e_aloadA_0 (p' := 178) D_Law_law_177 rfl ?_
          refine e_iload_3 (p' := 179) D_Law_law_178 rfl ?_
          refine e_iconst (v := nI 2) (p' := 180) D_Law_law_179 cst_iconst_2 rfl ?_
          first | refine e_iaddN (p' := 181) D_Law_law_180 rfl ?_ | refine e_iadd (p' := 181) D_Law_law_180 rfl ?_
          refine e_Lsld (p' := 182) D_Law_law_181 hL (by omega) rfl ?_
          refine e_aloadA_0 (p' := 183) D_Law_law_182 rfl ?_
          refine e_iload_3 (p' := 184) D_Law_law_183 rfl ?_
          refine e_iconst (v := nI 3) (p' := 185) D_Law_law_184 cst_iconst_3 rfl ?_
          first | refine e_iaddN (p' := 186) D_Law_law_185 rfl ?_ | refine e_iadd (p' := 186) D_Law_law_185 rfl ?_
          refine e_Lsld (p' := 187) D_Law_law_186 hL (by omega) rfl ?_
          refine y_callV1 (p' := 190) D_Law_law_187 V_Law_18 (c_O_tell CC hS) rfl (by first | assumption | exact sUp_eq | (rw [sUp_ne (by omega)]; assumption) | (rw [sUp_ne (by omega), sUp_ne (by omega)]; assumption) | (rw [sUp_ne (by omega)]; exact sUp_eq) | (rw [gSet_ne (by omega) (by omega)]; first | assumption | exact sUp_eq | (rw [sUp_ne (by omega)]; assumption) | (rw [sUp_ne (by omega), sUp_ne (by omega)]; assumption)) | (rw [sUp_ne (by omega), sUp_ne (by omega), sUp_ne (by omega)]; assumption) | (simp [sUp]; done)) rfl (Nat.le_of_ble_eq_true rfl) (by decide) ⟨Nat.le_of_ble_eq_true rfl, Nat.le_of_ble_eq_true rfl⟩ rfl ?_
          rintro h2 ⟨C2, F2⟩
          have MM2 := MM.kept (fun a h1 _ => F2 a h1)
          obtain ⟨v2, mm2⟩ := MM2.2.1
          refine e_aload_2 (p' := 191) D_Law_law_190 rfl ?_
          refine e_aloadA_0 (p' := 192) D_Law_law_191 rfl ?_
          refine e_iload_3 (p' := 193) D_Law_law_192 rfl ?_
          refine e_iconst (v := nI 1) (p' := 194) D_Law_law_193 cst_iconst_1 rfl ?_
          first | refine e_iaddN (p' := 195) D_Law_law_194 rfl ?_ | refine e_iadd (p' := 195) D_Law_law_194 rfl ?_
          refine e_Lsld (p' := 196) D_Law_law_195 hL (by omega) rfl ?_
          refine e_aloadA_0 (p' := 197) D_Law_law_196 rfl ?_
          refine e_iload_3 (p' := 198) D_Law_law_197 rfl ?_
          refine e_iconst (v := nI 2) (p' := 199) D_Law_law_198 cst_iconst_2 rfl ?_
          first | refine e_iaddN (p' := 200) D_Law_law_199 rfl ?_ | refine e_iadd (p' := 200) D_Law_law_199 rfl ?_
          refine e_Lsld (p' := 201) D_Law_law_200 hL (by omega) rfl ?_
          refine e_aloadA_0 (p' := 202) D_Law_law_201 rfl ?_
          refine e_iload_3 (p' := 203) D_Law_law_202 rfl ?_
          refine e_iconst (v := nI 3) (p' := 204) D_Law_law_203 cst_iconst_3 rfl ?_
          first | refine e_iaddN (p' := 205) D_Law_law_204 rfl ?_ | refine e_iadd (p' := 205) D_Law_law_204 rfl ?_
          refine e_Lsld (p' := 206) D_Law_law_205 hL (by omega) rfl ?_
          refine y_callV1 (p' := 209) D_Law_law_206 V_Law_21 (c_M_tell MM2 hS) rfl (by first | assumption | exact sUp_eq | (rw [sUp_ne (by omega)]; assumption) | (rw [sUp_ne (by omega), sUp_ne (by omega)]; assumption) | (rw [sUp_ne (by omega)]; exact sUp_eq) | (rw [gSet_ne (by omega) (by omega)]; first | assumption | exact sUp_eq | (rw [sUp_ne (by omega)]; assumption) | (rw [sUp_ne (by omega), sUp_ne (by omega)]; assumption)) | (rw [sUp_ne (by omega), sUp_ne (by omega), sUp_ne (by omega)]; assumption) | (simp [sUp]; done)) rfl (Nat.le_of_ble_eq_true rfl) (by decide) ⟨Nat.le_of_ble_eq_true rfl, Nat.le_of_ble_eq_true rfl⟩ rfl ?_
          rintro h3 ⟨M3, K3⟩
          have C3 := C2.keptK K3
          refine e_icmp_eq (q := 700) (p' := 212) D_Law_law_209 rfl rfl (fun hc209 => ?_) (fun hc209 => ?_)
          ·
            first | refine e_iincN_3 (n := 5) (p' := 703) D_Law_law_700 (Nat.le_of_ble_eq_true rfl) rfl rfl ?_ | refine e_iinc_3 (p' := 703) D_Law_law_700 (Nat.le_of_ble_eq_true rfl) rfl rfl rfl ?_
            refine e_goto (p' := 18) D_Law_law_703 rfl ?_
            refine sEv.castW (ih18 h3 _ ⟨⟨C3, M3⟩, Stell_ok hS⟩) ?_ ?_ ?_
            · exact ⟨rfl, rfl, rfl, rfl, trivial⟩
            · rfl
            · first | rfl | (simp; done)
          ·
            exact absurd rfl hc209
        by_cases hw32_2 : w = nI 2
        · subst hw32_2
          refine e_tsIn (off := 182) (p' := 214) D_Law_law_32 (by decide) (by decide) rfl rfl ?_
          refine e_aload_1 (p' := 215) D_Law_law_214 rfl ?_
          refine y_callV1 (p' := 218) D_Law_law_215 V_Law_22 (c_O_tellAll CC hS) rfl (by first | assumption | exact sUp_eq | (rw [sUp_ne (by omega)]; assumption) | (rw [sUp_ne (by omega), sUp_ne (by omega)]; assumption) | (rw [sUp_ne (by omega)]; exact sUp_eq) | (rw [gSet_ne (by omega) (by omega)]; first | assumption | exact sUp_eq | (rw [sUp_ne (by omega)]; assumption) | (rw [sUp_ne (by omega), sUp_ne (by omega)]; assumption)) | (rw [sUp_ne (by omega), sUp_ne (by omega), sUp_ne (by omega)]; assumption) | (simp [sUp]; done)) rfl (Nat.le_of_ble_eq_true rfl) (by decide) ⟨Nat.le_of_ble_eq_true rfl, Nat.le_of_ble_eq_true rfl⟩ rfl ?_
          rintro h2 ⟨C2, F2⟩
          have MM2 := MM.kept (fun a h1 _ => F2 a h1)
          obtain ⟨v2, mm2⟩ := MM2.2.1
          refine e_aload_2 (p' := 219) D_Law_law_218 rfl ?_
          refine y_callV1 (p' := 222) D_Law_law_219 V_Law_26 (c_M_tellAll MM2 hS) rfl (by first | assumption | exact sUp_eq | (rw [sUp_ne (by omega)]; assumption) | (rw [sUp_ne (by omega), sUp_ne (by omega)]; assumption) | (rw [sUp_ne (by omega)]; exact sUp_eq) | (rw [gSet_ne (by omega) (by omega)]; first | assumption | exact sUp_eq | (rw [sUp_ne (by omega)]; assumption) | (rw [sUp_ne (by omega), sUp_ne (by omega)]; assumption)) | (rw [sUp_ne (by omega), sUp_ne (by omega), sUp_ne (by omega)]; assumption) | (simp [sUp]; done)) rfl (Nat.le_of_ble_eq_true rfl) (by decide) ⟨Nat.le_of_ble_eq_true rfl, Nat.le_of_ble_eq_true rfl⟩ rfl ?_
          rintro h3 ⟨M3, K3⟩
          have C3 := C2.keptK K3
          refine e_icmp_eq (q := 700) (p' := 225) D_Law_law_222 rfl rfl (fun hc222 => ?_) (fun hc222 => ?_)
          ·
            first | refine e_iincN_3 (n := 5) (p' := 703) D_Law_law_700 (Nat.le_of_ble_eq_true rfl) rfl rfl ?_ | refine e_iinc_3 (p' := 703) D_Law_law_700 (Nat.le_of_ble_eq_true rfl) rfl rfl rfl ?_
            refine e_goto (p' := 18) D_Law_law_703 rfl ?_
            refine sEv.castW (ih18 h3 _ ⟨⟨C3, M3⟩, StellAll_ok hS⟩) ?_ ?_ ?_
            · exact ⟨rfl, rfl, rfl, rfl, trivial⟩
            · rfl
            · first | rfl | (simp; done)
          ·
            exact absurd rfl hc222
        by_cases hw32_3 : w = nI 3
        · subst hw32_3
          refine e_tsIn (off := 195) (p' := 227) D_Law_law_32 (by decide) (by decide) rfl rfl ?_
          refine e_aload_1 (p' := 228) D_Law_law_227 rfl ?_
          refine y_callV1 (p' := 231) D_Law_law_228 V_Law_27 (c_O_read CC hS) rfl (by first | assumption | exact sUp_eq | (rw [sUp_ne (by omega)]; assumption) | (rw [sUp_ne (by omega), sUp_ne (by omega)]; assumption) | (rw [sUp_ne (by omega)]; exact sUp_eq) | (rw [gSet_ne (by omega) (by omega)]; first | assumption | exact sUp_eq | (rw [sUp_ne (by omega)]; assumption) | (rw [sUp_ne (by omega), sUp_ne (by omega)]; assumption)) | (rw [sUp_ne (by omega), sUp_ne (by omega), sUp_ne (by omega)]; assumption) | (simp [sUp]; done)) rfl (Nat.le_of_ble_eq_true rfl) (by decide) ⟨Nat.le_of_ble_eq_true rfl, Nat.le_of_ble_eq_true rfl⟩ rfl ?_
          rintro h2 ⟨C2, F2⟩
          have MM2 := MM.kept (fun a h1 _ => F2 a h1)
          obtain ⟨v2, mm2⟩ := MM2.2.1
          refine e_aload_2 (p' := 232) D_Law_law_231 rfl ?_
          refine y_callV1 (p' := 235) D_Law_law_232 V_Law_30 (c_M_read MM2 hS) rfl (by first | assumption | exact sUp_eq | (rw [sUp_ne (by omega)]; assumption) | (rw [sUp_ne (by omega), sUp_ne (by omega)]; assumption) | (rw [sUp_ne (by omega)]; exact sUp_eq) | (rw [gSet_ne (by omega) (by omega)]; first | assumption | exact sUp_eq | (rw [sUp_ne (by omega)]; assumption) | (rw [sUp_ne (by omega), sUp_ne (by omega)]; assumption)) | (rw [sUp_ne (by omega), sUp_ne (by omega), sUp_ne (by omega)]; assumption) | (simp [sUp]; done)) rfl (Nat.le_of_ble_eq_true rfl) (by decide) ⟨Nat.le_of_ble_eq_true rfl, Nat.le_of_ble_eq_true rfl⟩ rfl ?_
          rintro h3 ⟨M3, K3⟩
          have C3 := C2.keptK K3
          refine e_icmp_eq (q := 700) (p' := 238) D_Law_law_235 rfl rfl (fun hc235 => ?_) (fun hc235 => ?_)
          ·
            first | refine e_iincN_3 (n := 5) (p' := 703) D_Law_law_700 (Nat.le_of_ble_eq_true rfl) rfl rfl ?_ | refine e_iinc_3 (p' := 703) D_Law_law_700 (Nat.le_of_ble_eq_true rfl) rfl rfl rfl ?_
            refine e_goto (p' := 18) D_Law_law_703 rfl ?_
            refine sEv.castW (ih18 h3 _ ⟨⟨C3, M3⟩, Sread_ok hS⟩) ?_ ?_ ?_
            · exact ⟨rfl, rfl, rfl, rfl, trivial⟩
            · rfl
            · first | rfl | (simp; done)
          ·
            exact absurd rfl hc235
        by_cases hw32_4 : w = nI 4
        · subst hw32_4
          refine e_tsIn (off := 208) (p' := 240) D_Law_law_32 (by decide) (by decide) rfl rfl ?_
          refine e_aload_1 (p' := 241) D_Law_law_240 rfl ?_
          refine e_aloadA_0 (p' := 242) D_Law_law_241 rfl ?_
          refine e_iload_3 (p' := 243) D_Law_law_242 rfl ?_
          refine e_iconst (v := nI 1) (p' := 244) D_Law_law_243 cst_iconst_1 rfl ?_
          first | refine e_iaddN (p' := 245) D_Law_law_244 rfl ?_ | refine e_iadd (p' := 245) D_Law_law_244 rfl ?_
          refine e_Lsld (p' := 246) D_Law_law_245 hL (by omega) rfl ?_
          refine e_aloadA_0 (p' := 247) D_Law_law_246 rfl ?_
          refine e_iload_3 (p' := 248) D_Law_law_247 rfl ?_
          refine e_iconst (v := nI 2) (p' := 249) D_Law_law_248 cst_iconst_2 rfl ?_
          first | refine e_iaddN (p' := 250) D_Law_law_249 rfl ?_ | refine e_iadd (p' := 250) D_Law_law_249 rfl ?_
          refine e_Lsld (p' := 251) D_Law_law_250 hL (by omega) rfl ?_
          refine e_aloadA_0 (p' := 252) D_Law_law_251 rfl ?_
          refine e_iload_3 (p' := 253) D_Law_law_252 rfl ?_
          refine e_iconst (v := nI 3) (p' := 254) D_Law_law_253 cst_iconst_3 rfl ?_
          first | refine e_iaddN (p' := 255) D_Law_law_254 rfl ?_ | refine e_iadd (p' := 255) D_Law_law_254 rfl ?_
          refine e_Lsld (p' := 256) D_Law_law_255 hL (by omega) rfl ?_
          refine y_callV1 (p' := 259) D_Law_law_256 V_Law_31 (c_O_entry CC hS) rfl (by first | assumption | exact sUp_eq | (rw [sUp_ne (by omega)]; assumption) | (rw [sUp_ne (by omega), sUp_ne (by omega)]; assumption) | (rw [sUp_ne (by omega)]; exact sUp_eq) | (rw [gSet_ne (by omega) (by omega)]; first | assumption | exact sUp_eq | (rw [sUp_ne (by omega)]; assumption) | (rw [sUp_ne (by omega), sUp_ne (by omega)]; assumption)) | (rw [sUp_ne (by omega), sUp_ne (by omega), sUp_ne (by omega)]; assumption) | (simp [sUp]; done)) rfl (Nat.le_of_ble_eq_true rfl) (by decide) ⟨Nat.le_of_ble_eq_true rfl, Nat.le_of_ble_eq_true rfl⟩ rfl ?_
          rintro h2 ⟨C2, F2⟩
          have MM2 := MM.kept (fun a h1 _ => F2 a h1)
          obtain ⟨v2, mm2⟩ := MM2.2.1
          refine e_aload_2 (p' := 260) D_Law_law_259 rfl ?_
          refine e_aloadA_0 (p' := 261) D_Law_law_260 rfl ?_
          refine e_iload_3 (p' := 262) D_Law_law_261 rfl ?_
          refine e_iconst (v := nI 1) (p' := 263) D_Law_law_262 cst_iconst_1 rfl ?_
          first | refine e_iaddN (p' := 264) D_Law_law_263 rfl ?_ | refine e_iadd (p' := 264) D_Law_law_263 rfl ?_
          refine e_Lsld (p' := 265) D_Law_law_264 hL (by omega) rfl ?_
          refine e_aloadA_0 (p' := 266) D_Law_law_265 rfl ?_
          refine e_iload_3 (p' := 267) D_Law_law_266 rfl ?_
          refine e_iconst (v := nI 2) (p' := 268) D_Law_law_267 cst_iconst_2 rfl ?_
          first | refine e_iaddN (p' := 269) D_Law_law_268 rfl ?_ | refine e_iadd (p' := 269) D_Law_law_268 rfl ?_
          refine e_Lsld (p' := 270) D_Law_law_269 hL (by omega) rfl ?_
          refine e_aloadA_0 (p' := 271) D_Law_law_270 rfl ?_
          refine e_iload_3 (p' := 272) D_Law_law_271 rfl ?_
          refine e_iconst (v := nI 3) (p' := 273) D_Law_law_272 cst_iconst_3 rfl ?_
          first | refine e_iaddN (p' := 274) D_Law_law_273 rfl ?_ | refine e_iadd (p' := 274) D_Law_law_273 rfl ?_
          refine e_Lsld (p' := 275) D_Law_law_274 hL (by omega) rfl ?_
          refine y_callV1 (p' := 278) D_Law_law_275 V_Law_34 (c_M_entry MM2 hS) rfl (by first | assumption | exact sUp_eq | (rw [sUp_ne (by omega)]; assumption) | (rw [sUp_ne (by omega), sUp_ne (by omega)]; assumption) | (rw [sUp_ne (by omega)]; exact sUp_eq) | (rw [gSet_ne (by omega) (by omega)]; first | assumption | exact sUp_eq | (rw [sUp_ne (by omega)]; assumption) | (rw [sUp_ne (by omega), sUp_ne (by omega)]; assumption)) | (rw [sUp_ne (by omega), sUp_ne (by omega), sUp_ne (by omega)]; assumption) | (simp [sUp]; done)) rfl (Nat.le_of_ble_eq_true rfl) (by decide) ⟨Nat.le_of_ble_eq_true rfl, Nat.le_of_ble_eq_true rfl⟩ rfl ?_
          rintro h3 ⟨M3, K3⟩
          have C3 := C2.keptK K3
          refine e_icmp_eq (q := 700) (p' := 281) D_Law_law_278 rfl rfl (fun hc278 => ?_) (fun hc278 => ?_)
          ·
            first | refine e_iincN_3 (n := 5) (p' := 703) D_Law_law_700 (Nat.le_of_ble_eq_true rfl) rfl rfl ?_ | refine e_iinc_3 (p' := 703) D_Law_law_700 (Nat.le_of_ble_eq_true rfl) rfl rfl rfl ?_
            refine e_goto (p' := 18) D_Law_law_703 rfl ?_
            refine sEv.castW (ih18 h3 _ ⟨⟨C3, M3⟩, hS⟩) ?_ ?_ ?_
            · exact ⟨rfl, rfl, rfl, rfl, trivial⟩
            · rfl
            · first | rfl | (simp; done)
          ·
            exact absurd rfl hc278
        by_cases hw32_5 : w = nI 5
        · subst hw32_5
          refine e_tsIn (off := 251) (p' := 283) D_Law_law_32 (by decide) (by decide) rfl rfl ?_
          refine e_aload_1 (p' := 284) D_Law_law_283 rfl ?_
          refine e_aloadA_0 (p' := 285) D_Law_law_284 rfl ?_
          refine e_iload_3 (p' := 286) D_Law_law_285 rfl ?_
          refine e_iconst (v := nI 1) (p' := 287) D_Law_law_286 cst_iconst_1 rfl ?_
          first | refine e_iaddN (p' := 288) D_Law_law_287 rfl ?_ | refine e_iadd (p' := 288) D_Law_law_287 rfl ?_
          refine e_Lsld (p' := 289) D_Law_law_288 hL (by omega) rfl ?_
          refine e_aloadA_0 (p' := 290) D_Law_law_289 rfl ?_
          refine e_iload_3 (p' := 291) D_Law_law_290 rfl ?_
          refine e_iconst (v := nI 2) (p' := 292) D_Law_law_291 cst_iconst_2 rfl ?_
          first | refine e_iaddN (p' := 293) D_Law_law_292 rfl ?_ | refine e_iadd (p' := 293) D_Law_law_292 rfl ?_
          refine e_Lsld (p' := 294) D_Law_law_293 hL (by omega) rfl ?_
          refine y_callV1 (p' := 297) D_Law_law_294 V_Law_35 (c_O_part CC hS) rfl (by first | assumption | exact sUp_eq | (rw [sUp_ne (by omega)]; assumption) | (rw [sUp_ne (by omega), sUp_ne (by omega)]; assumption) | (rw [sUp_ne (by omega)]; exact sUp_eq) | (rw [gSet_ne (by omega) (by omega)]; first | assumption | exact sUp_eq | (rw [sUp_ne (by omega)]; assumption) | (rw [sUp_ne (by omega), sUp_ne (by omega)]; assumption)) | (rw [sUp_ne (by omega), sUp_ne (by omega), sUp_ne (by omega)]; assumption) | (simp [sUp]; done)) rfl (Nat.le_of_ble_eq_true rfl) (by decide) ⟨Nat.le_of_ble_eq_true rfl, Nat.le_of_ble_eq_true rfl⟩ rfl ?_
          rintro h2 ⟨C2, F2⟩
          have MM2 := MM.kept (fun a h1 _ => F2 a h1)
          obtain ⟨v2, mm2⟩ := MM2.2.1
          refine e_aload_2 (p' := 298) D_Law_law_297 rfl ?_
          refine e_aloadA_0 (p' := 299) D_Law_law_298 rfl ?_
          refine e_iload_3 (p' := 300) D_Law_law_299 rfl ?_
          refine e_iconst (v := nI 1) (p' := 301) D_Law_law_300 cst_iconst_1 rfl ?_
          first | refine e_iaddN (p' := 302) D_Law_law_301 rfl ?_ | refine e_iadd (p' := 302) D_Law_law_301 rfl ?_
          refine e_Lsld (p' := 303) D_Law_law_302 hL (by omega) rfl ?_
          refine e_aloadA_0 (p' := 304) D_Law_law_303 rfl ?_
          refine e_iload_3 (p' := 305) D_Law_law_304 rfl ?_
          refine e_iconst (v := nI 2) (p' := 306) D_Law_law_305 cst_iconst_2 rfl ?_
          first | refine e_iaddN (p' := 307) D_Law_law_306 rfl ?_ | refine e_iadd (p' := 307) D_Law_law_306 rfl ?_
          refine e_Lsld (p' := 308) D_Law_law_307 hL (by omega) rfl ?_
          refine y_callV1 (p' := 311) D_Law_law_308 V_Law_39 (c_M_part MM2 hS) rfl (by first | assumption | exact sUp_eq | (rw [sUp_ne (by omega)]; assumption) | (rw [sUp_ne (by omega), sUp_ne (by omega)]; assumption) | (rw [sUp_ne (by omega)]; exact sUp_eq) | (rw [gSet_ne (by omega) (by omega)]; first | assumption | exact sUp_eq | (rw [sUp_ne (by omega)]; assumption) | (rw [sUp_ne (by omega), sUp_ne (by omega)]; assumption)) | (rw [sUp_ne (by omega), sUp_ne (by omega), sUp_ne (by omega)]; assumption) | (simp [sUp]; done)) rfl (Nat.le_of_ble_eq_true rfl) (by decide) ⟨Nat.le_of_ble_eq_true rfl, Nat.le_of_ble_eq_true rfl⟩ rfl ?_
          rintro h3 ⟨M3, K3⟩
          have C3 := C2.keptK K3
          refine e_icmp_eq (q := 700) (p' := 314) D_Law_law_311 rfl rfl (fun hc311 => ?_) (fun hc311 => ?_)
          ·
            first | refine e_iincN_3 (n := 5) (p' := 703) D_Law_law_700 (Nat.le_of_ble_eq_true rfl) rfl rfl ?_ | refine e_iinc_3 (p' := 703) D_Law_law_700 (Nat.le_of_ble_eq_true rfl) rfl rfl rfl ?_
            refine e_goto (p' := 18) D_Law_law_703 rfl ?_
            refine sEv.castW (ih18 h3 _ ⟨⟨C3, M3⟩, hS⟩) ?_ ?_ ?_
            · exact ⟨rfl, rfl, rfl, rfl, trivial⟩
            · rfl
            · first | rfl | (simp; done)
          ·
            exact absurd rfl hc311
        by_cases hw32_6 : w = nI 6
        · subst hw32_6
          refine e_tsIn (off := 284) (p' := 316) D_Law_law_32 (by decide) (by decide) rfl rfl ?_
          refine e_aload_1 (p' := 317) D_Law_law_316 rfl ?_
          refine e_aloadA_0 (p' := 318) D_Law_law_317 rfl ?_
          refine e_iload_3 (p' := 319) D_Law_law_318 rfl ?_
          refine e_iconst (v := nI 1) (p' := 320) D_Law_law_319 cst_iconst_1 rfl ?_
          first | refine e_iaddN (p' := 321) D_Law_law_320 rfl ?_ | refine e_iadd (p' := 321) D_Law_law_320 rfl ?_
          refine e_Lsld (p' := 322) D_Law_law_321 hL (by omega) rfl ?_
          refine y_callV1 (p' := 325) D_Law_law_322 V_Law_40 (c_O_count CC hS) rfl (by first | assumption | exact sUp_eq | (rw [sUp_ne (by omega)]; assumption) | (rw [sUp_ne (by omega), sUp_ne (by omega)]; assumption) | (rw [sUp_ne (by omega)]; exact sUp_eq) | (rw [gSet_ne (by omega) (by omega)]; first | assumption | exact sUp_eq | (rw [sUp_ne (by omega)]; assumption) | (rw [sUp_ne (by omega), sUp_ne (by omega)]; assumption)) | (rw [sUp_ne (by omega), sUp_ne (by omega), sUp_ne (by omega)]; assumption) | (simp [sUp]; done)) rfl (Nat.le_of_ble_eq_true rfl) (by decide) ⟨Nat.le_of_ble_eq_true rfl, Nat.le_of_ble_eq_true rfl⟩ rfl ?_
          rintro h2 ⟨C2, F2⟩
          have MM2 := MM.kept (fun a h1 _ => F2 a h1)
          obtain ⟨v2, mm2⟩ := MM2.2.1
          refine e_aload_2 (p' := 326) D_Law_law_325 rfl ?_
          refine e_aloadA_0 (p' := 327) D_Law_law_326 rfl ?_
          refine e_iload_3 (p' := 328) D_Law_law_327 rfl ?_
          refine e_iconst (v := nI 1) (p' := 329) D_Law_law_328 cst_iconst_1 rfl ?_
          first | refine e_iaddN (p' := 330) D_Law_law_329 rfl ?_ | refine e_iadd (p' := 330) D_Law_law_329 rfl ?_
          refine e_Lsld (p' := 331) D_Law_law_330 hL (by omega) rfl ?_
          refine y_callV1 (p' := 334) D_Law_law_331 V_Law_44 (c_M_count MM2 hS) rfl (by first | assumption | exact sUp_eq | (rw [sUp_ne (by omega)]; assumption) | (rw [sUp_ne (by omega), sUp_ne (by omega)]; assumption) | (rw [sUp_ne (by omega)]; exact sUp_eq) | (rw [gSet_ne (by omega) (by omega)]; first | assumption | exact sUp_eq | (rw [sUp_ne (by omega)]; assumption) | (rw [sUp_ne (by omega), sUp_ne (by omega)]; assumption)) | (rw [sUp_ne (by omega), sUp_ne (by omega), sUp_ne (by omega)]; assumption) | (simp [sUp]; done)) rfl (Nat.le_of_ble_eq_true rfl) (by decide) ⟨Nat.le_of_ble_eq_true rfl, Nat.le_of_ble_eq_true rfl⟩ rfl ?_
          rintro h3 ⟨M3, K3⟩
          have C3 := C2.keptK K3
          refine e_icmp_eq (q := 700) (p' := 337) D_Law_law_334 rfl rfl (fun hc334 => ?_) (fun hc334 => ?_)
          ·
            first | refine e_iincN_3 (n := 5) (p' := 703) D_Law_law_700 (Nat.le_of_ble_eq_true rfl) rfl rfl ?_ | refine e_iinc_3 (p' := 703) D_Law_law_700 (Nat.le_of_ble_eq_true rfl) rfl rfl rfl ?_
            refine e_goto (p' := 18) D_Law_law_703 rfl ?_
            refine sEv.castW (ih18 h3 _ ⟨⟨C3, M3⟩, hS⟩) ?_ ?_ ?_
            · exact ⟨rfl, rfl, rfl, rfl, trivial⟩
            · rfl
            · first | rfl | (simp; done)
          ·
            exact absurd rfl hc334
        by_cases hw32_7 : w = nI 7
        · subst hw32_7
          refine e_tsIn (off := 307) (p' := 339) D_Law_law_32 (by decide) (by decide) rfl rfl ?_
          refine e_aload_1 (p' := 340) D_Law_law_339 rfl ?_
          refine e_aloadA_0 (p' := 341) D_Law_law_340 rfl ?_
          refine e_iload_3 (p' := 342) D_Law_law_341 rfl ?_
          refine e_iconst (v := nI 1) (p' := 343) D_Law_law_342 cst_iconst_1 rfl ?_
          first | refine e_iaddN (p' := 344) D_Law_law_343 rfl ?_ | refine e_iadd (p' := 344) D_Law_law_343 rfl ?_
          refine e_Lsld (p' := 345) D_Law_law_344 hL (by omega) rfl ?_
          refine e_aloadA_0 (p' := 346) D_Law_law_345 rfl ?_
          refine e_iload_3 (p' := 347) D_Law_law_346 rfl ?_
          refine e_iconst (v := nI 2) (p' := 348) D_Law_law_347 cst_iconst_2 rfl ?_
          first | refine e_iaddN (p' := 349) D_Law_law_348 rfl ?_ | refine e_iadd (p' := 349) D_Law_law_348 rfl ?_
          refine e_Lsld (p' := 350) D_Law_law_349 hL (by omega) rfl ?_
          refine y_callV1 (p' := 353) D_Law_law_350 V_Law_45 (c_O_cycles CC hS) rfl (by first | assumption | exact sUp_eq | (rw [sUp_ne (by omega)]; assumption) | (rw [sUp_ne (by omega), sUp_ne (by omega)]; assumption) | (rw [sUp_ne (by omega)]; exact sUp_eq) | (rw [gSet_ne (by omega) (by omega)]; first | assumption | exact sUp_eq | (rw [sUp_ne (by omega)]; assumption) | (rw [sUp_ne (by omega), sUp_ne (by omega)]; assumption)) | (rw [sUp_ne (by omega), sUp_ne (by omega), sUp_ne (by omega)]; assumption) | (simp [sUp]; done)) rfl (Nat.le_of_ble_eq_true rfl) (by decide) ⟨Nat.le_of_ble_eq_true rfl, Nat.le_of_ble_eq_true rfl⟩ rfl ?_
          rintro h2 ⟨C2, F2⟩
          have MM2 := MM.kept (fun a h1 _ => F2 a h1)
          obtain ⟨v2, mm2⟩ := MM2.2.1
          refine e_aload_2 (p' := 354) D_Law_law_353 rfl ?_
          refine e_aloadA_0 (p' := 355) D_Law_law_354 rfl ?_
          refine e_iload_3 (p' := 356) D_Law_law_355 rfl ?_
          refine e_iconst (v := nI 1) (p' := 357) D_Law_law_356 cst_iconst_1 rfl ?_
          first | refine e_iaddN (p' := 358) D_Law_law_357 rfl ?_ | refine e_iadd (p' := 358) D_Law_law_357 rfl ?_
          refine e_Lsld (p' := 359) D_Law_law_358 hL (by omega) rfl ?_
          refine e_aloadA_0 (p' := 360) D_Law_law_359 rfl ?_
          refine e_iload_3 (p' := 361) D_Law_law_360 rfl ?_
          refine e_iconst (v := nI 2) (p' := 362) D_Law_law_361 cst_iconst_2 rfl ?_
          first | refine e_iaddN (p' := 363) D_Law_law_362 rfl ?_ | refine e_iadd (p' := 363) D_Law_law_362 rfl ?_
          refine e_Lsld (p' := 364) D_Law_law_363 hL (by omega) rfl ?_
          refine y_callV1 (p' := 367) D_Law_law_364 V_Law_48 (c_M_cycles MM2 hS) rfl (by first | assumption | exact sUp_eq | (rw [sUp_ne (by omega)]; assumption) | (rw [sUp_ne (by omega), sUp_ne (by omega)]; assumption) | (rw [sUp_ne (by omega)]; exact sUp_eq) | (rw [gSet_ne (by omega) (by omega)]; first | assumption | exact sUp_eq | (rw [sUp_ne (by omega)]; assumption) | (rw [sUp_ne (by omega), sUp_ne (by omega)]; assumption)) | (rw [sUp_ne (by omega), sUp_ne (by omega), sUp_ne (by omega)]; assumption) | (simp [sUp]; done)) rfl (Nat.le_of_ble_eq_true rfl) (by decide) ⟨Nat.le_of_ble_eq_true rfl, Nat.le_of_ble_eq_true rfl⟩ rfl ?_
          rintro h3 ⟨M3, K3⟩
          have C3 := C2.keptK K3
          refine e_icmp_eq (q := 700) (p' := 370) D_Law_law_367 rfl rfl (fun hc367 => ?_) (fun hc367 => ?_)
          ·
            first | refine e_iincN_3 (n := 5) (p' := 703) D_Law_law_700 (Nat.le_of_ble_eq_true rfl) rfl rfl ?_ | refine e_iinc_3 (p' := 703) D_Law_law_700 (Nat.le_of_ble_eq_true rfl) rfl rfl rfl ?_
            refine e_goto (p' := 18) D_Law_law_703 rfl ?_
            refine sEv.castW (ih18 h3 _ ⟨⟨C3, M3⟩, hS⟩) ?_ ?_ ?_
            · exact ⟨rfl, rfl, rfl, rfl, trivial⟩
            · rfl
            · first | rfl | (simp; done)
          ·
            exact absurd rfl hc367
        by_cases hw32_8 : w = nI 8
        · subst hw32_8
          refine e_tsIn (off := 340) (p' := 372) D_Law_law_32 (by decide) (by decide) rfl rfl ?_
          refine e_aload_1 (p' := 373) D_Law_law_372 rfl ?_
          refine e_aloadA_0 (p' := 374) D_Law_law_373 rfl ?_
          refine e_iload_3 (p' := 375) D_Law_law_374 rfl ?_
          refine e_iconst (v := nI 1) (p' := 376) D_Law_law_375 cst_iconst_1 rfl ?_
          first | refine e_iaddN (p' := 377) D_Law_law_376 rfl ?_ | refine e_iadd (p' := 377) D_Law_law_376 rfl ?_
          refine e_Lsld (p' := 378) D_Law_law_377 hL (by omega) rfl ?_
          refine y_callV1 (p' := 381) D_Law_law_378 V_Law_49 (c_O_wrong CC hS) rfl (by first | assumption | exact sUp_eq | (rw [sUp_ne (by omega)]; assumption) | (rw [sUp_ne (by omega), sUp_ne (by omega)]; assumption) | (rw [sUp_ne (by omega)]; exact sUp_eq) | (rw [gSet_ne (by omega) (by omega)]; first | assumption | exact sUp_eq | (rw [sUp_ne (by omega)]; assumption) | (rw [sUp_ne (by omega), sUp_ne (by omega)]; assumption)) | (rw [sUp_ne (by omega), sUp_ne (by omega), sUp_ne (by omega)]; assumption) | (simp [sUp]; done)) rfl (Nat.le_of_ble_eq_true rfl) (by decide) ⟨Nat.le_of_ble_eq_true rfl, Nat.le_of_ble_eq_true rfl⟩ rfl ?_
          rintro h2 ⟨C2, F2⟩
          have MM2 := MM.kept (fun a h1 _ => F2 a h1)
          obtain ⟨v2, mm2⟩ := MM2.2.1
          refine e_aload_2 (p' := 382) D_Law_law_381 rfl ?_
          refine e_aloadA_0 (p' := 383) D_Law_law_382 rfl ?_
          refine e_iload_3 (p' := 384) D_Law_law_383 rfl ?_
          refine e_iconst (v := nI 1) (p' := 385) D_Law_law_384 cst_iconst_1 rfl ?_
          first | refine e_iaddN (p' := 386) D_Law_law_385 rfl ?_ | refine e_iadd (p' := 386) D_Law_law_385 rfl ?_
          refine e_Lsld (p' := 387) D_Law_law_386 hL (by omega) rfl ?_
          refine y_callV1 (p' := 390) D_Law_law_387 V_Law_52 (c_M_wrong MM2 hS) rfl (by first | assumption | exact sUp_eq | (rw [sUp_ne (by omega)]; assumption) | (rw [sUp_ne (by omega), sUp_ne (by omega)]; assumption) | (rw [sUp_ne (by omega)]; exact sUp_eq) | (rw [gSet_ne (by omega) (by omega)]; first | assumption | exact sUp_eq | (rw [sUp_ne (by omega)]; assumption) | (rw [sUp_ne (by omega), sUp_ne (by omega)]; assumption)) | (rw [sUp_ne (by omega), sUp_ne (by omega), sUp_ne (by omega)]; assumption) | (simp [sUp]; done)) rfl (Nat.le_of_ble_eq_true rfl) (by decide) ⟨Nat.le_of_ble_eq_true rfl, Nat.le_of_ble_eq_true rfl⟩ rfl ?_
          rintro h3 ⟨M3, K3⟩
          have C3 := C2.keptK K3
          refine e_icmp_eq (q := 700) (p' := 393) D_Law_law_390 rfl rfl (fun hc390 => ?_) (fun hc390 => ?_)
          ·
            first | refine e_iincN_3 (n := 5) (p' := 703) D_Law_law_700 (Nat.le_of_ble_eq_true rfl) rfl rfl ?_ | refine e_iinc_3 (p' := 703) D_Law_law_700 (Nat.le_of_ble_eq_true rfl) rfl rfl rfl ?_
            refine e_goto (p' := 18) D_Law_law_703 rfl ?_
            refine sEv.castW (ih18 h3 _ ⟨⟨C3, M3⟩, hS⟩) ?_ ?_ ?_
            · exact ⟨rfl, rfl, rfl, rfl, trivial⟩
            · rfl
            · first | rfl | (simp; done)
          ·
            exact absurd rfl hc390
        by_cases hw32_9 : w = nI 9
        · subst hw32_9
          refine e_tsIn (off := 363) (p' := 395) D_Law_law_32 (by decide) (by decide) rfl rfl ?_
          refine e_aload_1 (p' := 396) D_Law_law_395 rfl ?_
          refine y_callV1 (p' := 399) D_Law_law_396 V_Law_53 (c_O_completions CC hS) rfl (by first | assumption | exact sUp_eq | (rw [sUp_ne (by omega)]; assumption) | (rw [sUp_ne (by omega), sUp_ne (by omega)]; assumption) | (rw [sUp_ne (by omega)]; exact sUp_eq) | (rw [gSet_ne (by omega) (by omega)]; first | assumption | exact sUp_eq | (rw [sUp_ne (by omega)]; assumption) | (rw [sUp_ne (by omega), sUp_ne (by omega)]; assumption)) | (rw [sUp_ne (by omega), sUp_ne (by omega), sUp_ne (by omega)]; assumption) | (simp [sUp]; done)) rfl (Nat.le_of_ble_eq_true rfl) (by decide) ⟨Nat.le_of_ble_eq_true rfl, Nat.le_of_ble_eq_true rfl⟩ rfl ?_
          rintro h2 ⟨C2, F2⟩
          have MM2 := MM.kept (fun a h1 _ => F2 a h1)
          obtain ⟨v2, mm2⟩ := MM2.2.1
          refine e_aload_2 (p' := 400) D_Law_law_399 rfl ?_
          refine y_callV1 (p' := 403) D_Law_law_400 V_Law_57 (c_M_completions MM2.1 MM2.2 hS.1) rfl (by first | assumption | exact sUp_eq | (rw [sUp_ne (by omega)]; assumption) | (rw [sUp_ne (by omega), sUp_ne (by omega)]; assumption) | (rw [sUp_ne (by omega)]; exact sUp_eq) | (rw [gSet_ne (by omega) (by omega)]; first | assumption | exact sUp_eq | (rw [sUp_ne (by omega)]; assumption) | (rw [sUp_ne (by omega), sUp_ne (by omega)]; assumption)) | (rw [sUp_ne (by omega), sUp_ne (by omega), sUp_ne (by omega)]; assumption) | (simp [sUp]; done)) rfl (Nat.le_of_ble_eq_true rfl) (by decide) ⟨Nat.le_of_ble_eq_true rfl, Nat.le_of_ble_eq_true rfl⟩ rfl ?_
          rintro h3 ⟨⟨⟨R3, Z3⟩, K3⟩, -⟩
          have C3 := C2.keptK K3
          have M3 : MInv h3 st := ⟨Z3, R3⟩
          refine e_lcmp (p' := 404) D_Law_law_403 rfl ?_
          refine e_if_eq (q := 700) (p' := 407) D_Law_law_404 rfl rfl (fun hc404 => ?_) (fun hc404 => ?_)
          ·
            first | refine e_iincN_3 (n := 5) (p' := 703) D_Law_law_700 (Nat.le_of_ble_eq_true rfl) rfl rfl ?_ | refine e_iinc_3 (p' := 703) D_Law_law_700 (Nat.le_of_ble_eq_true rfl) rfl rfl rfl ?_
            refine e_goto (p' := 18) D_Law_law_703 rfl ?_
            refine sEv.castW (ih18 h3 _ ⟨⟨C3, M3⟩, hS⟩) ?_ ?_ ?_
            · exact ⟨rfl, rfl, rfl, rfl, trivial⟩
            · rfl
            · first | rfl | (simp; done)
          ·
            exact absurd (lg_cmp_r _) hc404
        by_cases hw32_10 : w = nI 10
        · subst hw32_10
          refine e_tsIn (off := 377) (p' := 409) D_Law_law_32 (by decide) (by decide) rfl rfl ?_
          refine e_aload_1 (p' := 410) D_Law_law_409 rfl ?_
          refine e_aloadA_0 (p' := 411) D_Law_law_410 rfl ?_
          refine e_iload_3 (p' := 412) D_Law_law_411 rfl ?_
          refine e_iconst (v := nI 1) (p' := 413) D_Law_law_412 cst_iconst_1 rfl ?_
          first | refine e_iaddN (p' := 414) D_Law_law_413 rfl ?_ | refine e_iadd (p' := 414) D_Law_law_413 rfl ?_
          refine e_Lsld (p' := 415) D_Law_law_414 hL (by omega) rfl ?_
          first | refine e_i2lN (p' := 416) D_Law_law_415 (by omega) rfl ?_ | refine e_i2l (p' := 416) D_Law_law_415 rfl rfl ?_
          refine e_bipush (v := nI 32) (p' := 418) D_Law_law_416 cst_bipush_32 rfl ?_
          refine e_lshl (p' := 419) D_Law_law_418 rfl rfl ?_
          refine e_aloadA_0 (p' := 420) D_Law_law_419 rfl ?_
          refine e_iload_3 (p' := 421) D_Law_law_420 rfl ?_
          refine e_iconst (v := nI 2) (p' := 422) D_Law_law_421 cst_iconst_2 rfl ?_
          first | refine e_iaddN (p' := 423) D_Law_law_422 rfl ?_ | refine e_iadd (p' := 423) D_Law_law_422 rfl ?_
          refine e_Lsld (p' := 424) D_Law_law_423 hL (by omega) rfl ?_
          first | refine e_i2lN (p' := 425) D_Law_law_424 (by omega) rfl ?_ | refine e_i2l (p' := 425) D_Law_law_424 rfl rfl ?_
          refine e_ldc2 (p' := 428) D_Law_law_425 K_Law_58 rfl ?_
          refine e_land (p' := 429) D_Law_law_428 rfl ?_
          refine e_lor (p' := 430) D_Law_law_429 rfl ?_
          refine e_aloadA_0 (p' := 431) D_Law_law_430 rfl ?_
          refine e_iload_3 (p' := 432) D_Law_law_431 rfl ?_
          refine e_iconst (v := nI 3) (p' := 433) D_Law_law_432 cst_iconst_3 rfl ?_
          first | refine e_iaddN (p' := 434) D_Law_law_433 rfl ?_ | refine e_iadd (p' := 434) D_Law_law_433 rfl ?_
          refine e_Lsld (p' := 435) D_Law_law_434 hL (by omega) rfl ?_
          refine e_aloadA_0 (p' := 436) D_Law_law_435 rfl ?_
          refine e_iload_3 (p' := 437) D_Law_law_436 rfl ?_
          refine e_iconst (v := nI 4) (p' := 438) D_Law_law_437 cst_iconst_4 rfl ?_
          first | refine e_iaddN (p' := 439) D_Law_law_438 rfl ?_ | refine e_iadd (p' := 439) D_Law_law_438 rfl ?_
          refine e_Lsld (p' := 440) D_Law_law_439 hL (by omega) rfl ?_
          refine y_callV1 (p' := 443) D_Law_law_440 V_Law_60 (c_O_completed CC hS) rfl (by first | assumption | exact sUp_eq | (rw [sUp_ne (by omega)]; assumption) | (rw [sUp_ne (by omega), sUp_ne (by omega)]; assumption) | (rw [sUp_ne (by omega)]; exact sUp_eq) | (rw [gSet_ne (by omega) (by omega)]; first | assumption | exact sUp_eq | (rw [sUp_ne (by omega)]; assumption) | (rw [sUp_ne (by omega), sUp_ne (by omega)]; assumption)) | (rw [sUp_ne (by omega), sUp_ne (by omega), sUp_ne (by omega)]; assumption) | (simp [sUp]; done)) rfl (Nat.le_of_ble_eq_true rfl) (by decide) ⟨Nat.le_of_ble_eq_true rfl, Nat.le_of_ble_eq_true rfl⟩ rfl ?_
          rintro h2 ⟨C2, F2⟩
          have MM2 := MM.kept (fun a h1 _ => F2 a h1)
          obtain ⟨v2, mm2⟩ := MM2.2.1
          refine e_aload_2 (p' := 444) D_Law_law_443 rfl ?_
          refine e_aloadA_0 (p' := 445) D_Law_law_444 rfl ?_
          refine e_iload_3 (p' := 446) D_Law_law_445 rfl ?_
          refine e_iconst (v := nI 1) (p' := 447) D_Law_law_446 cst_iconst_1 rfl ?_
          first | refine e_iaddN (p' := 448) D_Law_law_447 rfl ?_ | refine e_iadd (p' := 448) D_Law_law_447 rfl ?_
          refine e_Lsld (p' := 449) D_Law_law_448 hL (by omega) rfl ?_
          first | refine e_i2lN (p' := 450) D_Law_law_449 (by omega) rfl ?_ | refine e_i2l (p' := 450) D_Law_law_449 rfl rfl ?_
          refine e_bipush (v := nI 32) (p' := 452) D_Law_law_450 cst_bipush_32 rfl ?_
          refine e_lshl (p' := 453) D_Law_law_452 rfl rfl ?_
          refine e_aloadA_0 (p' := 454) D_Law_law_453 rfl ?_
          refine e_iload_3 (p' := 455) D_Law_law_454 rfl ?_
          refine e_iconst (v := nI 2) (p' := 456) D_Law_law_455 cst_iconst_2 rfl ?_
          first | refine e_iaddN (p' := 457) D_Law_law_456 rfl ?_ | refine e_iadd (p' := 457) D_Law_law_456 rfl ?_
          refine e_Lsld (p' := 458) D_Law_law_457 hL (by omega) rfl ?_
          first | refine e_i2lN (p' := 459) D_Law_law_458 (by omega) rfl ?_ | refine e_i2l (p' := 459) D_Law_law_458 rfl rfl ?_
          refine e_ldc2 (p' := 462) D_Law_law_459 K_Law_58 rfl ?_
          refine e_land (p' := 463) D_Law_law_462 rfl ?_
          refine e_lor (p' := 464) D_Law_law_463 rfl ?_
          refine e_aloadA_0 (p' := 465) D_Law_law_464 rfl ?_
          refine e_iload_3 (p' := 466) D_Law_law_465 rfl ?_
          refine e_iconst (v := nI 3) (p' := 467) D_Law_law_466 cst_iconst_3 rfl ?_
          first | refine e_iaddN (p' := 468) D_Law_law_467 rfl ?_ | refine e_iadd (p' := 468) D_Law_law_467 rfl ?_
          refine e_Lsld (p' := 469) D_Law_law_468 hL (by omega) rfl ?_
          refine e_aloadA_0 (p' := 470) D_Law_law_469 rfl ?_
          refine e_iload_3 (p' := 471) D_Law_law_470 rfl ?_
          refine e_iconst (v := nI 4) (p' := 472) D_Law_law_471 cst_iconst_4 rfl ?_
          first | refine e_iaddN (p' := 473) D_Law_law_472 rfl ?_ | refine e_iadd (p' := 473) D_Law_law_472 rfl ?_
          refine e_Lsld (p' := 474) D_Law_law_473 hL (by omega) rfl ?_
          refine y_callV1 (p' := 477) D_Law_law_474 V_Law_64 (c_M_completed MM2 hS) rfl (by first | assumption | exact sUp_eq | (rw [sUp_ne (by omega)]; assumption) | (rw [sUp_ne (by omega), sUp_ne (by omega)]; assumption) | (rw [sUp_ne (by omega)]; exact sUp_eq) | (rw [gSet_ne (by omega) (by omega)]; first | assumption | exact sUp_eq | (rw [sUp_ne (by omega)]; assumption) | (rw [sUp_ne (by omega), sUp_ne (by omega)]; assumption)) | (rw [sUp_ne (by omega), sUp_ne (by omega), sUp_ne (by omega)]; assumption) | (simp [sUp]; done)) rfl (Nat.le_of_ble_eq_true rfl) (by decide) ⟨Nat.le_of_ble_eq_true rfl, Nat.le_of_ble_eq_true rfl⟩ rfl ?_
          rintro h3 ⟨M3, K3⟩
          have C3 := C2.keptK K3
          refine e_icmp_eq (q := 700) (p' := 480) D_Law_law_477 rfl rfl (fun hc477 => ?_) (fun hc477 => ?_)
          ·
            first | refine e_iincN_3 (n := 5) (p' := 703) D_Law_law_700 (Nat.le_of_ble_eq_true rfl) rfl rfl ?_ | refine e_iinc_3 (p' := 703) D_Law_law_700 (Nat.le_of_ble_eq_true rfl) rfl rfl rfl ?_
            refine e_goto (p' := 18) D_Law_law_703 rfl ?_
            refine sEv.castW (ih18 h3 _ ⟨⟨C3, M3⟩, hS⟩) ?_ ?_ ?_
            · exact ⟨rfl, rfl, rfl, rfl, trivial⟩
            · rfl
            · first | rfl | (simp; done)
          ·
            exact absurd rfl hc477
        by_cases hw32_11 : w = nI 11
        · subst hw32_11
          refine e_tsIn (off := 450) (p' := 482) D_Law_law_32 (by decide) (by decide) rfl rfl ?_
          refine e_aload_1 (p' := 483) D_Law_law_482 rfl ?_
          refine e_aloadA_0 (p' := 484) D_Law_law_483 rfl ?_
          refine e_iload_3 (p' := 485) D_Law_law_484 rfl ?_
          refine e_iconst (v := nI 1) (p' := 486) D_Law_law_485 cst_iconst_1 rfl ?_
          first | refine e_iaddN (p' := 487) D_Law_law_486 rfl ?_ | refine e_iadd (p' := 487) D_Law_law_486 rfl ?_
          refine e_Lsld (p' := 488) D_Law_law_487 hL (by omega) rfl ?_
          refine e_aloadA_0 (p' := 489) D_Law_law_488 rfl ?_
          refine e_iload_3 (p' := 490) D_Law_law_489 rfl ?_
          refine e_iconst (v := nI 2) (p' := 491) D_Law_law_490 cst_iconst_2 rfl ?_
          first | refine e_iaddN (p' := 492) D_Law_law_491 rfl ?_ | refine e_iadd (p' := 492) D_Law_law_491 rfl ?_
          refine e_Lsld (p' := 493) D_Law_law_492 hL (by omega) rfl ?_
          refine e_aloadA_0 (p' := 494) D_Law_law_493 rfl ?_
          refine e_iload_3 (p' := 495) D_Law_law_494 rfl ?_
          refine e_iconst (v := nI 3) (p' := 496) D_Law_law_495 cst_iconst_3 rfl ?_
          first | refine e_iaddN (p' := 497) D_Law_law_496 rfl ?_ | refine e_iadd (p' := 497) D_Law_law_496 rfl ?_
          refine e_Lsld (p' := 498) D_Law_law_497 hL (by omega) rfl ?_
          refine y_callV1 (p' := 501) D_Law_law_498 V_Law_65 (c_O_isWellIf CC hS) rfl (by first | assumption | exact sUp_eq | (rw [sUp_ne (by omega)]; assumption) | (rw [sUp_ne (by omega), sUp_ne (by omega)]; assumption) | (rw [sUp_ne (by omega)]; exact sUp_eq) | (rw [gSet_ne (by omega) (by omega)]; first | assumption | exact sUp_eq | (rw [sUp_ne (by omega)]; assumption) | (rw [sUp_ne (by omega), sUp_ne (by omega)]; assumption)) | (rw [sUp_ne (by omega), sUp_ne (by omega), sUp_ne (by omega)]; assumption) | (simp [sUp]; done)) rfl (Nat.le_of_ble_eq_true rfl) (by decide) ⟨Nat.le_of_ble_eq_true rfl, Nat.le_of_ble_eq_true rfl⟩ rfl ?_
          rintro h2 ⟨C2, F2⟩
          have MM2 := MM.kept (fun a h1 _ => F2 a h1)
          obtain ⟨v2, mm2⟩ := MM2.2.1
          refine e_aload_2 (p' := 502) D_Law_law_501 rfl ?_
          refine e_aloadA_0 (p' := 503) D_Law_law_502 rfl ?_
          refine e_iload_3 (p' := 504) D_Law_law_503 rfl ?_
          refine e_iconst (v := nI 1) (p' := 505) D_Law_law_504 cst_iconst_1 rfl ?_
          first | refine e_iaddN (p' := 506) D_Law_law_505 rfl ?_ | refine e_iadd (p' := 506) D_Law_law_505 rfl ?_
          refine e_Lsld (p' := 507) D_Law_law_506 hL (by omega) rfl ?_
          refine e_aloadA_0 (p' := 508) D_Law_law_507 rfl ?_
          refine e_iload_3 (p' := 509) D_Law_law_508 rfl ?_
          refine e_iconst (v := nI 2) (p' := 510) D_Law_law_509 cst_iconst_2 rfl ?_
          first | refine e_iaddN (p' := 511) D_Law_law_510 rfl ?_ | refine e_iadd (p' := 511) D_Law_law_510 rfl ?_
          refine e_Lsld (p' := 512) D_Law_law_511 hL (by omega) rfl ?_
          refine e_aloadA_0 (p' := 513) D_Law_law_512 rfl ?_
          refine e_iload_3 (p' := 514) D_Law_law_513 rfl ?_
          refine e_iconst (v := nI 3) (p' := 515) D_Law_law_514 cst_iconst_3 rfl ?_
          first | refine e_iaddN (p' := 516) D_Law_law_515 rfl ?_ | refine e_iadd (p' := 516) D_Law_law_515 rfl ?_
          refine e_Lsld (p' := 517) D_Law_law_516 hL (by omega) rfl ?_
          refine y_callV1 (p' := 520) D_Law_law_517 V_Law_68 (c_M_isWellIf MM2 hS) rfl (by first | assumption | exact sUp_eq | (rw [sUp_ne (by omega)]; assumption) | (rw [sUp_ne (by omega), sUp_ne (by omega)]; assumption) | (rw [sUp_ne (by omega)]; exact sUp_eq) | (rw [gSet_ne (by omega) (by omega)]; first | assumption | exact sUp_eq | (rw [sUp_ne (by omega)]; assumption) | (rw [sUp_ne (by omega), sUp_ne (by omega)]; assumption)) | (rw [sUp_ne (by omega), sUp_ne (by omega), sUp_ne (by omega)]; assumption) | (simp [sUp]; done)) rfl (Nat.le_of_ble_eq_true rfl) (by decide) ⟨Nat.le_of_ble_eq_true rfl, Nat.le_of_ble_eq_true rfl⟩ rfl ?_
          rintro h3 ⟨M3, K3⟩
          have C3 := C2.keptK K3
          refine e_icmp_eq (q := 700) (p' := 523) D_Law_law_520 rfl rfl (fun hc520 => ?_) (fun hc520 => ?_)
          ·
            first | refine e_iincN_3 (n := 5) (p' := 703) D_Law_law_700 (Nat.le_of_ble_eq_true rfl) rfl rfl ?_ | refine e_iinc_3 (p' := 703) D_Law_law_700 (Nat.le_of_ble_eq_true rfl) rfl rfl rfl ?_
            refine e_goto (p' := 18) D_Law_law_703 rfl ?_
            refine sEv.castW (ih18 h3 _ ⟨⟨C3, M3⟩, hS⟩) ?_ ?_ ?_
            · exact ⟨rfl, rfl, rfl, rfl, trivial⟩
            · rfl
            · first | rfl | (simp; done)
          ·
            exact absurd rfl hc520
        by_cases hw32_12 : w = nI 12
        · subst hw32_12
          refine e_tsIn (off := 493) (p' := 525) D_Law_law_32 (by decide) (by decide) rfl rfl ?_
          refine e_aload_1 (p' := 526) D_Law_law_525 rfl ?_
          refine y_callV1 (p' := 529) D_Law_law_526 V_Law_69 (c_O_spoilers CC hS) rfl (by first | assumption | exact sUp_eq | (rw [sUp_ne (by omega)]; assumption) | (rw [sUp_ne (by omega), sUp_ne (by omega)]; assumption) | (rw [sUp_ne (by omega)]; exact sUp_eq) | (rw [gSet_ne (by omega) (by omega)]; first | assumption | exact sUp_eq | (rw [sUp_ne (by omega)]; assumption) | (rw [sUp_ne (by omega), sUp_ne (by omega)]; assumption)) | (rw [sUp_ne (by omega), sUp_ne (by omega), sUp_ne (by omega)]; assumption) | (simp [sUp]; done)) rfl (Nat.le_of_ble_eq_true rfl) (by decide) ⟨Nat.le_of_ble_eq_true rfl, Nat.le_of_ble_eq_true rfl⟩ rfl ?_
          rintro h2 ⟨C2, F2⟩
          have MM2 := MM.kept (fun a h1 _ => F2 a h1)
          obtain ⟨v2, mm2⟩ := MM2.2.1
          refine e_aload_2 (p' := 530) D_Law_law_529 rfl ?_
          refine y_callV1 (p' := 533) D_Law_law_530 V_Law_72 (c_M_spoilers MM2 hS) rfl (by first | assumption | exact sUp_eq | (rw [sUp_ne (by omega)]; assumption) | (rw [sUp_ne (by omega), sUp_ne (by omega)]; assumption) | (rw [sUp_ne (by omega)]; exact sUp_eq) | (rw [gSet_ne (by omega) (by omega)]; first | assumption | exact sUp_eq | (rw [sUp_ne (by omega)]; assumption) | (rw [sUp_ne (by omega), sUp_ne (by omega)]; assumption)) | (rw [sUp_ne (by omega), sUp_ne (by omega), sUp_ne (by omega)]; assumption) | (simp [sUp]; done)) rfl (Nat.le_of_ble_eq_true rfl) (by decide) ⟨Nat.le_of_ble_eq_true rfl, Nat.le_of_ble_eq_true rfl⟩ rfl ?_
          rintro h3 ⟨M3, K3⟩
          have C3 := C2.keptK K3
          refine e_lcmp (p' := 534) D_Law_law_533 rfl ?_
          refine e_if_eq (q := 700) (p' := 537) D_Law_law_534 rfl rfl (fun hc534 => ?_) (fun hc534 => ?_)
          ·
            first | refine e_iincN_3 (n := 5) (p' := 703) D_Law_law_700 (Nat.le_of_ble_eq_true rfl) rfl rfl ?_ | refine e_iinc_3 (p' := 703) D_Law_law_700 (Nat.le_of_ble_eq_true rfl) rfl rfl rfl ?_
            refine e_goto (p' := 18) D_Law_law_703 rfl ?_
            refine sEv.castW (ih18 h3 _ ⟨⟨C3, M3⟩, hS⟩) ?_ ?_ ?_
            · exact ⟨rfl, rfl, rfl, rfl, trivial⟩
            · rfl
            · first | rfl | (simp; done)
          ·
            exact absurd (lg_cmp_r _) hc534
        by_cases hw32_13 : w = nI 13
        · subst hw32_13
          refine e_tsIn (off := 507) (p' := 539) D_Law_law_32 (by decide) (by decide) rfl rfl ?_
          refine e_aload_1 (p' := 540) D_Law_law_539 rfl ?_
          refine e_aloadA_0 (p' := 541) D_Law_law_540 rfl ?_
          refine e_iload_3 (p' := 542) D_Law_law_541 rfl ?_
          refine e_iconst (v := nI 1) (p' := 543) D_Law_law_542 cst_iconst_1 rfl ?_
          first | refine e_iaddN (p' := 544) D_Law_law_543 rfl ?_ | refine e_iadd (p' := 544) D_Law_law_543 rfl ?_
          refine e_Lsld (p' := 545) D_Law_law_544 hL (by omega) rfl ?_
          refine y_callV1 (p' := 548) D_Law_law_545 V_Law_73 (c_O_bestEntry CC hS) rfl (by first | assumption | exact sUp_eq | (rw [sUp_ne (by omega)]; assumption) | (rw [sUp_ne (by omega), sUp_ne (by omega)]; assumption) | (rw [sUp_ne (by omega)]; exact sUp_eq) | (rw [gSet_ne (by omega) (by omega)]; first | assumption | exact sUp_eq | (rw [sUp_ne (by omega)]; assumption) | (rw [sUp_ne (by omega), sUp_ne (by omega)]; assumption)) | (rw [sUp_ne (by omega), sUp_ne (by omega), sUp_ne (by omega)]; assumption) | (simp [sUp]; done)) rfl (Nat.le_of_ble_eq_true rfl) (by decide) ⟨Nat.le_of_ble_eq_true rfl, Nat.le_of_ble_eq_true rfl⟩ rfl ?_
          rintro h2 ⟨C2, F2⟩
          have MM2 := MM.kept (fun a h1 _ => F2 a h1)
          obtain ⟨v2, mm2⟩ := MM2.2.1
          refine e_aload_2 (p' := 549) D_Law_law_548 rfl ?_
          refine e_aloadA_0 (p' := 550) D_Law_law_549 rfl ?_
          refine e_iload_3 (p' := 551) D_Law_law_550 rfl ?_
          refine e_iconst (v := nI 1) (p' := 552) D_Law_law_551 cst_iconst_1 rfl ?_
          first | refine e_iaddN (p' := 553) D_Law_law_552 rfl ?_ | refine e_iadd (p' := 553) D_Law_law_552 rfl ?_
          refine e_Lsld (p' := 554) D_Law_law_553 hL (by omega) rfl ?_
          refine y_callV1 (p' := 557) D_Law_law_554 V_Law_76 (c_M_bestEntry MM2 hS) rfl (by first | assumption | exact sUp_eq | (rw [sUp_ne (by omega)]; assumption) | (rw [sUp_ne (by omega), sUp_ne (by omega)]; assumption) | (rw [sUp_ne (by omega)]; exact sUp_eq) | (rw [gSet_ne (by omega) (by omega)]; first | assumption | exact sUp_eq | (rw [sUp_ne (by omega)]; assumption) | (rw [sUp_ne (by omega), sUp_ne (by omega)]; assumption)) | (rw [sUp_ne (by omega), sUp_ne (by omega), sUp_ne (by omega)]; assumption) | (simp [sUp]; done)) rfl (Nat.le_of_ble_eq_true rfl) (by decide) ⟨Nat.le_of_ble_eq_true rfl, Nat.le_of_ble_eq_true rfl⟩ rfl ?_
          rintro h3 ⟨M3, K3⟩
          have C3 := C2.keptK K3
          refine e_icmp_eq (q := 700) (p' := 560) D_Law_law_557 rfl rfl (fun hc557 => ?_) (fun hc557 => ?_)
          ·
            first | refine e_iincN_3 (n := 5) (p' := 703) D_Law_law_700 (Nat.le_of_ble_eq_true rfl) rfl rfl ?_ | refine e_iinc_3 (p' := 703) D_Law_law_700 (Nat.le_of_ble_eq_true rfl) rfl rfl rfl ?_
            refine e_goto (p' := 18) D_Law_law_703 rfl ?_
            refine sEv.castW (ih18 h3 _ ⟨⟨C3, M3⟩, hS⟩) ?_ ?_ ?_
            · exact ⟨rfl, rfl, rfl, rfl, trivial⟩
            · rfl
            · first | rfl | (simp; done)
          ·
            exact absurd rfl hc557
        by_cases hw32_14 : w = nI 14
        · subst hw32_14
          refine e_tsIn (off := 530) (p' := 562) D_Law_law_32 (by decide) (by decide) rfl rfl ?_
          refine e_aload_1 (p' := 563) D_Law_law_562 rfl ?_
          refine e_aloadA_0 (p' := 564) D_Law_law_563 rfl ?_
          refine e_iload_3 (p' := 565) D_Law_law_564 rfl ?_
          refine e_iconst (v := nI 1) (p' := 566) D_Law_law_565 cst_iconst_1 rfl ?_
          first | refine e_iaddN (p' := 567) D_Law_law_566 rfl ?_ | refine e_iadd (p' := 567) D_Law_law_566 rfl ?_
          refine e_Lsld (p' := 568) D_Law_law_567 hL (by omega) rfl ?_
          first | refine e_i2lN (p' := 569) D_Law_law_568 (by omega) rfl ?_ | refine e_i2l (p' := 569) D_Law_law_568 rfl rfl ?_
          refine e_bipush (v := nI 32) (p' := 571) D_Law_law_569 cst_bipush_32 rfl ?_
          refine e_lshl (p' := 572) D_Law_law_571 rfl rfl ?_
          refine e_aloadA_0 (p' := 573) D_Law_law_572 rfl ?_
          refine e_iload_3 (p' := 574) D_Law_law_573 rfl ?_
          refine e_iconst (v := nI 2) (p' := 575) D_Law_law_574 cst_iconst_2 rfl ?_
          first | refine e_iaddN (p' := 576) D_Law_law_575 rfl ?_ | refine e_iadd (p' := 576) D_Law_law_575 rfl ?_
          refine e_Lsld (p' := 577) D_Law_law_576 hL (by omega) rfl ?_
          first | refine e_i2lN (p' := 578) D_Law_law_577 (by omega) rfl ?_ | refine e_i2l (p' := 578) D_Law_law_577 rfl rfl ?_
          refine e_ldc2 (p' := 581) D_Law_law_578 K_Law_58 rfl ?_
          refine e_land (p' := 582) D_Law_law_581 rfl ?_
          refine e_lor (p' := 583) D_Law_law_582 rfl ?_
          refine y_callV1 (p' := 586) D_Law_law_583 V_Law_77 (c_O_put CC hS) rfl (by first | assumption | exact sUp_eq | (rw [sUp_ne (by omega)]; assumption) | (rw [sUp_ne (by omega), sUp_ne (by omega)]; assumption) | (rw [sUp_ne (by omega)]; exact sUp_eq) | (rw [gSet_ne (by omega) (by omega)]; first | assumption | exact sUp_eq | (rw [sUp_ne (by omega)]; assumption) | (rw [sUp_ne (by omega), sUp_ne (by omega)]; assumption)) | (rw [sUp_ne (by omega), sUp_ne (by omega), sUp_ne (by omega)]; assumption) | (simp [sUp]; done)) rfl (Nat.le_of_ble_eq_true rfl) (by decide) ⟨Nat.le_of_ble_eq_true rfl, Nat.le_of_ble_eq_true rfl⟩ rfl ?_
          rintro h2 ⟨C2, F2⟩
          have MM2 := MM.kept (fun a h1 _ => F2 a h1)
          obtain ⟨v2, mm2⟩ := MM2.2.1
          refine e_aload_2 (p' := 587) D_Law_law_586 rfl ?_
          refine e_aloadA_0 (p' := 588) D_Law_law_587 rfl ?_
          refine e_iload_3 (p' := 589) D_Law_law_588 rfl ?_
          refine e_iconst (v := nI 1) (p' := 590) D_Law_law_589 cst_iconst_1 rfl ?_
          first | refine e_iaddN (p' := 591) D_Law_law_590 rfl ?_ | refine e_iadd (p' := 591) D_Law_law_590 rfl ?_
          refine e_Lsld (p' := 592) D_Law_law_591 hL (by omega) rfl ?_
          first | refine e_i2lN (p' := 593) D_Law_law_592 (by omega) rfl ?_ | refine e_i2l (p' := 593) D_Law_law_592 rfl rfl ?_
          refine e_bipush (v := nI 32) (p' := 595) D_Law_law_593 cst_bipush_32 rfl ?_
          refine e_lshl (p' := 596) D_Law_law_595 rfl rfl ?_
          refine e_aloadA_0 (p' := 597) D_Law_law_596 rfl ?_
          refine e_iload_3 (p' := 598) D_Law_law_597 rfl ?_
          refine e_iconst (v := nI 2) (p' := 599) D_Law_law_598 cst_iconst_2 rfl ?_
          first | refine e_iaddN (p' := 600) D_Law_law_599 rfl ?_ | refine e_iadd (p' := 600) D_Law_law_599 rfl ?_
          refine e_Lsld (p' := 601) D_Law_law_600 hL (by omega) rfl ?_
          first | refine e_i2lN (p' := 602) D_Law_law_601 (by omega) rfl ?_ | refine e_i2l (p' := 602) D_Law_law_601 rfl rfl ?_
          refine e_ldc2 (p' := 605) D_Law_law_602 K_Law_58 rfl ?_
          refine e_land (p' := 606) D_Law_law_605 rfl ?_
          refine e_lor (p' := 607) D_Law_law_606 rfl ?_
          refine y_callV1 (p' := 610) D_Law_law_607 V_Law_81 (c_M_put MM2 hS) rfl (by first | assumption | exact sUp_eq | (rw [sUp_ne (by omega)]; assumption) | (rw [sUp_ne (by omega), sUp_ne (by omega)]; assumption) | (rw [sUp_ne (by omega)]; exact sUp_eq) | (rw [gSet_ne (by omega) (by omega)]; first | assumption | exact sUp_eq | (rw [sUp_ne (by omega)]; assumption) | (rw [sUp_ne (by omega), sUp_ne (by omega)]; assumption)) | (rw [sUp_ne (by omega), sUp_ne (by omega), sUp_ne (by omega)]; assumption) | (simp [sUp]; done)) rfl (Nat.le_of_ble_eq_true rfl) (by decide) ⟨Nat.le_of_ble_eq_true rfl, Nat.le_of_ble_eq_true rfl⟩ rfl ?_
          rintro h3 ⟨M3, K3⟩
          have C3 := C2.keptK K3
          refine e_icmp_eq (q := 700) (p' := 613) D_Law_law_610 rfl rfl (fun hc610 => ?_) (fun hc610 => ?_)
          ·
            first | refine e_iincN_3 (n := 5) (p' := 703) D_Law_law_700 (Nat.le_of_ble_eq_true rfl) rfl rfl ?_ | refine e_iinc_3 (p' := 703) D_Law_law_700 (Nat.le_of_ble_eq_true rfl) rfl rfl rfl ?_
            refine e_goto (p' := 18) D_Law_law_703 rfl ?_
            refine sEv.castW (ih18 h3 _ ⟨⟨C3, M3⟩, Sput_ok hS⟩) ?_ ?_ ?_
            · exact ⟨rfl, rfl, rfl, rfl, trivial⟩
            · rfl
            · first | rfl | (simp; done)
          ·
            exact absurd rfl hc610
        by_cases hw32_15 : w = nI 15
        · subst hw32_15
          refine e_tsIn (off := 583) (p' := 615) D_Law_law_32 (by decide) (by decide) rfl rfl ?_
          refine e_aload_1 (p' := 616) D_Law_law_615 rfl ?_
          refine y_callV1 (p' := 619) D_Law_law_616 V_Law_82 (c_O_wipe CC hS) rfl (by first | assumption | exact sUp_eq | (rw [sUp_ne (by omega)]; assumption) | (rw [sUp_ne (by omega), sUp_ne (by omega)]; assumption) | (rw [sUp_ne (by omega)]; exact sUp_eq) | (rw [gSet_ne (by omega) (by omega)]; first | assumption | exact sUp_eq | (rw [sUp_ne (by omega)]; assumption) | (rw [sUp_ne (by omega), sUp_ne (by omega)]; assumption)) | (rw [sUp_ne (by omega), sUp_ne (by omega), sUp_ne (by omega)]; assumption) | (simp [sUp]; done)) rfl (Nat.le_of_ble_eq_true rfl) (by decide) ⟨Nat.le_of_ble_eq_true rfl, Nat.le_of_ble_eq_true rfl⟩ rfl ?_
          rintro h2 ⟨C2, F2⟩
          have MM2 := MM.kept (fun a h1 _ => F2 a h1)
          obtain ⟨v2, mm2⟩ := MM2.2.1
          refine e_aload_2 (p' := 620) D_Law_law_619 rfl ?_
          refine y_callV1 (p' := 623) D_Law_law_620 V_Law_85 (c_M_wipe MM2 hS) rfl (by first | assumption | exact sUp_eq | (rw [sUp_ne (by omega)]; assumption) | (rw [sUp_ne (by omega), sUp_ne (by omega)]; assumption) | (rw [sUp_ne (by omega)]; exact sUp_eq) | (rw [gSet_ne (by omega) (by omega)]; first | assumption | exact sUp_eq | (rw [sUp_ne (by omega)]; assumption) | (rw [sUp_ne (by omega), sUp_ne (by omega)]; assumption)) | (rw [sUp_ne (by omega), sUp_ne (by omega), sUp_ne (by omega)]; assumption) | (simp [sUp]; done)) rfl (Nat.le_of_ble_eq_true rfl) (by decide) ⟨Nat.le_of_ble_eq_true rfl, Nat.le_of_ble_eq_true rfl⟩ rfl ?_
          rintro h3 ⟨M3, K3⟩
          have C3 := C2.keptK K3
          refine e_icmp_eq (q := 700) (p' := 626) D_Law_law_623 rfl rfl (fun hc623 => ?_) (fun hc623 => ?_)
          ·
            first | refine e_iincN_3 (n := 5) (p' := 703) D_Law_law_700 (Nat.le_of_ble_eq_true rfl) rfl rfl ?_ | refine e_iinc_3 (p' := 703) D_Law_law_700 (Nat.le_of_ble_eq_true rfl) rfl rfl rfl ?_
            refine e_goto (p' := 18) D_Law_law_703 rfl ?_
            refine sEv.castW (ih18 h3 _ ⟨⟨C3, M3⟩, Swipe_ok hS⟩) ?_ ?_ ?_
            · exact ⟨rfl, rfl, rfl, rfl, trivial⟩
            · rfl
            · first | rfl | (simp; done)
          ·
            exact absurd rfl hc623
        by_cases hw32_16 : w = nI 16
        · subst hw32_16
          refine e_tsIn (off := 596) (p' := 628) D_Law_law_32 (by decide) (by decide) rfl rfl ?_
          refine e_aload_1 (p' := 629) D_Law_law_628 rfl ?_
          refine y_callV1 (p' := 632) D_Law_law_629 V_Law_86 (c_O_fault CC hS) rfl (by first | assumption | exact sUp_eq | (rw [sUp_ne (by omega)]; assumption) | (rw [sUp_ne (by omega), sUp_ne (by omega)]; assumption) | (rw [sUp_ne (by omega)]; exact sUp_eq) | (rw [gSet_ne (by omega) (by omega)]; first | assumption | exact sUp_eq | (rw [sUp_ne (by omega)]; assumption) | (rw [sUp_ne (by omega), sUp_ne (by omega)]; assumption)) | (rw [sUp_ne (by omega), sUp_ne (by omega), sUp_ne (by omega)]; assumption) | (simp [sUp]; done)) rfl (Nat.le_of_ble_eq_true rfl) (by decide) ⟨Nat.le_of_ble_eq_true rfl, Nat.le_of_ble_eq_true rfl⟩ rfl ?_
          rintro h2 ⟨C2, F2⟩
          have MM2 := MM.kept (fun a h1 _ => F2 a h1)
          obtain ⟨v2, mm2⟩ := MM2.2.1
          refine e_aload_2 (p' := 633) D_Law_law_632 rfl ?_
          refine y_callV1 (p' := 636) D_Law_law_633 V_Law_89 (c_M_fault MM2 hS) rfl (by first | assumption | exact sUp_eq | (rw [sUp_ne (by omega)]; assumption) | (rw [sUp_ne (by omega), sUp_ne (by omega)]; assumption) | (rw [sUp_ne (by omega)]; exact sUp_eq) | (rw [gSet_ne (by omega) (by omega)]; first | assumption | exact sUp_eq | (rw [sUp_ne (by omega)]; assumption) | (rw [sUp_ne (by omega), sUp_ne (by omega)]; assumption)) | (rw [sUp_ne (by omega), sUp_ne (by omega), sUp_ne (by omega)]; assumption) | (simp [sUp]; done)) rfl (Nat.le_of_ble_eq_true rfl) (by decide) ⟨Nat.le_of_ble_eq_true rfl, Nat.le_of_ble_eq_true rfl⟩ rfl ?_
          rintro h3 ⟨M3, K3⟩
          have C3 := C2.keptK K3
          refine e_icmp_eq (q := 700) (p' := 639) D_Law_law_636 rfl rfl (fun hc636 => ?_) (fun hc636 => ?_)
          ·
            first | refine e_iincN_3 (n := 5) (p' := 703) D_Law_law_700 (Nat.le_of_ble_eq_true rfl) rfl rfl ?_ | refine e_iinc_3 (p' := 703) D_Law_law_700 (Nat.le_of_ble_eq_true rfl) rfl rfl rfl ?_
            refine e_goto (p' := 18) D_Law_law_703 rfl ?_
            refine sEv.castW (ih18 h3 _ ⟨⟨C3, M3⟩, hS⟩) ?_ ?_ ?_
            · exact ⟨rfl, rfl, rfl, rfl, trivial⟩
            · rfl
            · first | rfl | (simp; done)
          ·
            exact absurd rfl hc636
        by_cases hw32_17 : w = nI 17
        · subst hw32_17
          refine e_tsIn (off := 609) (p' := 641) D_Law_law_32 (by decide) (by decide) rfl rfl ?_
          refine e_aload_1 (p' := 642) D_Law_law_641 rfl ?_
          refine y_callV1 (p' := 645) D_Law_law_642 V_Law_90 (c_O_undo CC hS) rfl (by first | assumption | exact sUp_eq | (rw [sUp_ne (by omega)]; assumption) | (rw [sUp_ne (by omega), sUp_ne (by omega)]; assumption) | (rw [sUp_ne (by omega)]; exact sUp_eq) | (rw [gSet_ne (by omega) (by omega)]; first | assumption | exact sUp_eq | (rw [sUp_ne (by omega)]; assumption) | (rw [sUp_ne (by omega), sUp_ne (by omega)]; assumption)) | (rw [sUp_ne (by omega), sUp_ne (by omega), sUp_ne (by omega)]; assumption) | (simp [sUp]; done)) rfl (Nat.le_of_ble_eq_true rfl) (by decide) ⟨Nat.le_of_ble_eq_true rfl, Nat.le_of_ble_eq_true rfl⟩ rfl ?_
          rintro h2 ⟨C2, F2⟩
          have MM2 := MM.kept (fun a h1 _ => F2 a h1)
          obtain ⟨v2, mm2⟩ := MM2.2.1
          refine e_aload_2 (p' := 646) D_Law_law_645 rfl ?_
          refine y_callV1 (p' := 649) D_Law_law_646 V_Law_93 (c_M_undo MM2 hS) rfl (by first | assumption | exact sUp_eq | (rw [sUp_ne (by omega)]; assumption) | (rw [sUp_ne (by omega), sUp_ne (by omega)]; assumption) | (rw [sUp_ne (by omega)]; exact sUp_eq) | (rw [gSet_ne (by omega) (by omega)]; first | assumption | exact sUp_eq | (rw [sUp_ne (by omega)]; assumption) | (rw [sUp_ne (by omega), sUp_ne (by omega)]; assumption)) | (rw [sUp_ne (by omega), sUp_ne (by omega), sUp_ne (by omega)]; assumption) | (simp [sUp]; done)) rfl (Nat.le_of_ble_eq_true rfl) (by decide) ⟨Nat.le_of_ble_eq_true rfl, Nat.le_of_ble_eq_true rfl⟩ rfl ?_
          rintro h3 ⟨M3, K3⟩
          have C3 := C2.keptK K3
          refine e_icmp_eq (q := 700) (p' := 652) D_Law_law_649 rfl rfl (fun hc649 => ?_) (fun hc649 => ?_)
          ·
            first | refine e_iincN_3 (n := 5) (p' := 703) D_Law_law_700 (Nat.le_of_ble_eq_true rfl) rfl rfl ?_ | refine e_iinc_3 (p' := 703) D_Law_law_700 (Nat.le_of_ble_eq_true rfl) rfl rfl rfl ?_
            refine e_goto (p' := 18) D_Law_law_703 rfl ?_
            refine sEv.castW (ih18 h3 _ ⟨⟨C3, M3⟩, Sundo_ok hS⟩) ?_ ?_ ?_
            · exact ⟨rfl, rfl, rfl, rfl, trivial⟩
            · rfl
            · first | rfl | (simp; done)
          ·
            exact absurd rfl hc649
        by_cases hw32_18 : w = nI 18
        · subst hw32_18
          refine e_tsIn (off := 622) (p' := 654) D_Law_law_32 (by decide) (by decide) rfl rfl ?_
          refine e_aload_1 (p' := 655) D_Law_law_654 rfl ?_
          refine e_aloadA_0 (p' := 656) D_Law_law_655 rfl ?_
          refine e_iload_3 (p' := 657) D_Law_law_656 rfl ?_
          refine e_iconst (v := nI 1) (p' := 658) D_Law_law_657 cst_iconst_1 rfl ?_
          first | refine e_iaddN (p' := 659) D_Law_law_658 rfl ?_ | refine e_iadd (p' := 659) D_Law_law_658 rfl ?_
          refine e_Lsld (p' := 660) D_Law_law_659 hL (by omega) rfl ?_
          refine y_callV1 (p' := 663) D_Law_law_660 V_Law_94 (c_O_save CC hS) rfl (by first | assumption | exact sUp_eq | (rw [sUp_ne (by omega)]; assumption) | (rw [sUp_ne (by omega), sUp_ne (by omega)]; assumption) | (rw [sUp_ne (by omega)]; exact sUp_eq) | (rw [gSet_ne (by omega) (by omega)]; first | assumption | exact sUp_eq | (rw [sUp_ne (by omega)]; assumption) | (rw [sUp_ne (by omega), sUp_ne (by omega)]; assumption)) | (rw [sUp_ne (by omega), sUp_ne (by omega), sUp_ne (by omega)]; assumption) | (simp [sUp]; done)) rfl (Nat.le_of_ble_eq_true rfl) (by decide) ⟨Nat.le_of_ble_eq_true rfl, Nat.le_of_ble_eq_true rfl⟩ rfl ?_
          rintro h2 ⟨C2, F2⟩
          have MM2 := MM.kept (fun a h1 _ => F2 a h1)
          obtain ⟨v2, mm2⟩ := MM2.2.1
          refine e_aload_2 (p' := 664) D_Law_law_663 rfl ?_
          refine e_aloadA_0 (p' := 665) D_Law_law_664 rfl ?_
          refine e_iload_3 (p' := 666) D_Law_law_665 rfl ?_
          refine e_iconst (v := nI 1) (p' := 667) D_Law_law_666 cst_iconst_1 rfl ?_
          first | refine e_iaddN (p' := 668) D_Law_law_667 rfl ?_ | refine e_iadd (p' := 668) D_Law_law_667 rfl ?_
          refine e_Lsld (p' := 669) D_Law_law_668 hL (by omega) rfl ?_
          refine y_callV1 (p' := 672) D_Law_law_669 V_Law_97 (c_M_save MM2 hS) rfl (by first | assumption | exact sUp_eq | (rw [sUp_ne (by omega)]; assumption) | (rw [sUp_ne (by omega), sUp_ne (by omega)]; assumption) | (rw [sUp_ne (by omega)]; exact sUp_eq) | (rw [gSet_ne (by omega) (by omega)]; first | assumption | exact sUp_eq | (rw [sUp_ne (by omega)]; assumption) | (rw [sUp_ne (by omega), sUp_ne (by omega)]; assumption)) | (rw [sUp_ne (by omega), sUp_ne (by omega), sUp_ne (by omega)]; assumption) | (simp [sUp]; done)) rfl (Nat.le_of_ble_eq_true rfl) (by decide) ⟨Nat.le_of_ble_eq_true rfl, Nat.le_of_ble_eq_true rfl⟩ rfl ?_
          rintro h3 ⟨M3, K3⟩
          have C3 := C2.keptK K3
          refine e_icmp_eq (q := 700) (p' := 675) D_Law_law_672 rfl rfl (fun hc672 => ?_) (fun hc672 => ?_)
          ·
            first | refine e_iincN_3 (n := 5) (p' := 703) D_Law_law_700 (Nat.le_of_ble_eq_true rfl) rfl rfl ?_ | refine e_iinc_3 (p' := 703) D_Law_law_700 (Nat.le_of_ble_eq_true rfl) rfl rfl rfl ?_
            refine e_goto (p' := 18) D_Law_law_703 rfl ?_
            refine sEv.castW (ih18 h3 _ ⟨⟨C3, M3⟩, Ssave_ok hS⟩) ?_ ?_ ?_
            · exact ⟨rfl, rfl, rfl, rfl, trivial⟩
            · rfl
            · first | rfl | (simp; done)
          ·
            exact absurd rfl hc672
        by_cases hw32_19 : w = nI 19
        · subst hw32_19
          refine e_tsIn (off := 645) (p' := 677) D_Law_law_32 (by decide) (by decide) rfl rfl ?_
          refine e_aload_1 (p' := 678) D_Law_law_677 rfl ?_
          refine e_aloadA_0 (p' := 679) D_Law_law_678 rfl ?_
          refine e_iload_3 (p' := 680) D_Law_law_679 rfl ?_
          refine e_iconst (v := nI 1) (p' := 681) D_Law_law_680 cst_iconst_1 rfl ?_
          first | refine e_iaddN (p' := 682) D_Law_law_681 rfl ?_ | refine e_iadd (p' := 682) D_Law_law_681 rfl ?_
          refine e_Lsld (p' := 683) D_Law_law_682 hL (by omega) rfl ?_
          refine y_callV1 (p' := 686) D_Law_law_683 V_Law_98 (c_O_restore CC hS) rfl (by first | assumption | exact sUp_eq | (rw [sUp_ne (by omega)]; assumption) | (rw [sUp_ne (by omega), sUp_ne (by omega)]; assumption) | (rw [sUp_ne (by omega)]; exact sUp_eq) | (rw [gSet_ne (by omega) (by omega)]; first | assumption | exact sUp_eq | (rw [sUp_ne (by omega)]; assumption) | (rw [sUp_ne (by omega), sUp_ne (by omega)]; assumption)) | (rw [sUp_ne (by omega), sUp_ne (by omega), sUp_ne (by omega)]; assumption) | (simp [sUp]; done)) rfl (Nat.le_of_ble_eq_true rfl) (by decide) ⟨Nat.le_of_ble_eq_true rfl, Nat.le_of_ble_eq_true rfl⟩ rfl ?_
          rintro h2 ⟨C2, F2⟩
          have MM2 := MM.kept (fun a h1 _ => F2 a h1)
          obtain ⟨v2, mm2⟩ := MM2.2.1
          refine e_aload_2 (p' := 687) D_Law_law_686 rfl ?_
          refine e_aloadA_0 (p' := 688) D_Law_law_687 rfl ?_
          refine e_iload_3 (p' := 689) D_Law_law_688 rfl ?_
          refine e_iconst (v := nI 1) (p' := 690) D_Law_law_689 cst_iconst_1 rfl ?_
          first | refine e_iaddN (p' := 691) D_Law_law_690 rfl ?_ | refine e_iadd (p' := 691) D_Law_law_690 rfl ?_
          refine e_Lsld (p' := 692) D_Law_law_691 hL (by omega) rfl ?_
          refine y_callV1 (p' := 695) D_Law_law_692 V_Law_101 (c_M_restore MM2 hS) rfl (by first | assumption | exact sUp_eq | (rw [sUp_ne (by omega)]; assumption) | (rw [sUp_ne (by omega), sUp_ne (by omega)]; assumption) | (rw [sUp_ne (by omega)]; exact sUp_eq) | (rw [gSet_ne (by omega) (by omega)]; first | assumption | exact sUp_eq | (rw [sUp_ne (by omega)]; assumption) | (rw [sUp_ne (by omega), sUp_ne (by omega)]; assumption)) | (rw [sUp_ne (by omega), sUp_ne (by omega), sUp_ne (by omega)]; assumption) | (simp [sUp]; done)) rfl (Nat.le_of_ble_eq_true rfl) (by decide) ⟨Nat.le_of_ble_eq_true rfl, Nat.le_of_ble_eq_true rfl⟩ rfl ?_
          rintro h3 ⟨M3, K3⟩
          have C3 := C2.keptK K3
          refine e_icmp_eq (q := 700) (p' := 698) D_Law_law_695 rfl rfl (fun hc695 => ?_) (fun hc695 => ?_)
          ·
            first | refine e_iincN_3 (n := 5) (p' := 703) D_Law_law_700 (Nat.le_of_ble_eq_true rfl) rfl rfl ?_ | refine e_iinc_3 (p' := 703) D_Law_law_700 (Nat.le_of_ble_eq_true rfl) rfl rfl rfl ?_
            refine e_goto (p' := 18) D_Law_law_703 rfl ?_
            refine sEv.castW (ih18 h3 _ ⟨⟨C3, M3⟩, Srestore_ok hS⟩) ?_ ?_ ?_
            · exact ⟨rfl, rfl, rfl, rfl, trivial⟩
            · rfl
            · first | rfl | (simp; done)
          ·
            exact absurd rfl hc695
        refine e_tsOut (p' := 700) D_Law_law_32 (ts_out (n := 19) (by omega) (fun k hk => by rcases (show k = 0 ∨ k = 1 ∨ k = 2 ∨ k = 3 ∨ k = 4 ∨ k = 5 ∨ k = 6 ∨ k = 7 ∨ k = 8 ∨ k = 9 ∨ k = 10 ∨ k = 11 ∨ k = 12 ∨ k = 13 ∨ k = 14 ∨ k = 15 ∨ k = 16 ∨ k = 17 ∨ k = 18 ∨ k = 19 by omega) with rfl | rfl | rfl | rfl | rfl | rfl | rfl | rfl | rfl | rfl | rfl | rfl | rfl | rfl | rfl | rfl | rfl | rfl | rfl | rfl <;> assumption)) rfl ?_
        first | refine e_iincN_3 (n := 5) (p' := 703) D_Law_law_700 (Nat.le_of_ble_eq_true rfl) rfl rfl ?_ | refine e_iinc_3 (p' := 703) D_Law_law_700 (Nat.le_of_ble_eq_true rfl) rfl rfl rfl ?_
        refine e_goto (p' := 18) D_Law_law_703 rfl ?_
        refine sEv.castW (ih18 h1 st ⟨⟨CC, MM⟩, hS⟩) ?_ ?_ ?_
        · exact ⟨rfl, rfl, rfl, rfl, trivial⟩
        · rfl
        · first | rfl | (simp; done)
  refine sEv.castW (lk18 0 (by omega) h0 st0 ⟨⟨C0, M0⟩, st0_ok⟩) ?_ ?_ ?_
  · exact ⟨rfl, rfl, rfl, rfl, trivial⟩
  · rfl
  · first | rfl | (simp; done)
set_option maxRecDepth 4000 in
theorem law_sEv {l : Launch} {b L : Nat} {xs : Nat → Int32} (hL : L ≤ 2560) {h : sH} (e0 : h.1 = 0) : sEv l m_Law_law 20 (0, 0, 600000, 7302250) (lK b L xs) 0 [some (.retAddr b), none, none, none] [] h := by
  refine e_new (p' := 3) D_Law_law_0 N_Law_7 ⟨Nat.le_of_ble_eq_true rfl, Nat.le_of_ble_eq_true rfl⟩ rfl ?_
  refine ev_push (fun h1 n1 c1 f1 => ?_)
  rw [e0] at n1 c1 f1 ⊢
  have e1 : h1.1 = 1 := n1
  refine e_dup (p' := 4) D_Law_law_3 rfl rfl ?_
  refine e_callI (p' := 7) D_Law_law_4 I_Law_9 (c_O_init e1 c1) rfl rfl (Nat.le_of_ble_eq_true rfl) (by decide) ⟨Nat.le_of_ble_eq_true rfl, Nat.le_of_ble_eq_true rfl⟩ rfl ?_
  rintro _ h2 ⟨rfl, ⟨n2, C2⟩, f2⟩
  try simp only [Option.toList, List.nil_append]
  have e2 : h2.1 = 61 := n2
  refine e_astore_1 (p' := 8) D_Law_law_7 (Nat.le_of_ble_eq_true rfl) rfl rfl ?_
  refine e_new (p' := 11) D_Law_law_8 N_Law_10 ⟨Nat.le_of_ble_eq_true rfl, Nat.le_of_ble_eq_true rfl⟩ rfl ?_
  refine ev_push (fun h3 n3 c3 f3 => ?_)
  rw [e2] at n3 c3 f3 ⊢
  have e3 : h3.1 = 62 := n3
  refine e_dup (p' := 12) D_Law_law_11 rfl rfl ?_
  refine e_callI (p' := 15) D_Law_law_12 I_Law_12 (c_M_init e3 c3) rfl rfl (Nat.le_of_ble_eq_true rfl) (by decide) ⟨Nat.le_of_ble_eq_true rfl, Nat.le_of_ble_eq_true rfl⟩ rfl ?_
  rintro _ h4 ⟨rfl, ⟨n4, h4I⟩, f4⟩
  try simp only [Option.toList, List.nil_append]
  have C0 : CInv h4 st0 := C2.keptK fun b hb => (f4 b (by omega)).trans (f3 b (by omega))
  refine e_astore_2 (p' := 16) D_Law_law_15 (Nat.le_of_ble_eq_true rfl) rfl rfl ?_
  refine e_iconst (v := nI 0) (p' := 17) D_Law_law_16 cst_iconst_0 rfl ?_
  refine e_istore_3 (p' := 18) D_Law_law_17 (Nat.le_of_ble_eq_true rfl) rfl rfl ?_
  refine sEv.castW (law_loop hL C0 h4I ) ?_ ?_ ?_
  · exact ⟨rfl, rfl, rfl, rfl, trivial⟩
  · rfl
  · first | rfl | (simp; done)
