/-! ===== the law: parts ===== -/
theorem c_bitsR {l : Launch} {h : sH} {s : Ps} {q : Nat} : sX l m_Law_bits 0 [.int (nI (mRows s q))] h (some (.int (nI (pRows s q)))) (h) := by
  rw [← pc6_rows]
  exact c_Law_bits mRows_lt
theorem c_bitsC {l : Launch} {h : sH} {s : Ps} {q : Nat} : sX l m_Law_bits 0 [.int (nI (mCols s q))] h (some (.int (nI (pCols s q)))) (h) := by
  rw [← pc6_cols]
  exact c_Law_bits mCols_lt
def LastOk (x : Gd) (p : Nat) (la : Int32) : Prop := (p = 0 → la = -1) ∧ (p ≠ 0 → ∃ v, LdAt x p v ∧ la = nI (2 ^ v))
theorem last_lt {x : Gd} {p v : Nat} {la : Int32} (h : LastOk x p la) (hv : LdAt x (p + 1) v) : la < nI (2 ^ v) := by
  have hp := pow12 v hv.1
  by_cases e : p = 0
  · rw [h.1 e]
    have : ∀ v, v < 12 → (-1 : Int32) < nI (2 ^ v) := by decide +kernel
    exact this v hv.1
  · obtain ⟨w, w1, w2⟩ := h.2 e
    have hl := ld_lt w1 hv (Nat.lt_succ_self p)
    rw [w2, nI_ltI (by have := pow12 w w1.1; omega) (by omega)]
    exact Nat.pow_lt_pow_right (by omega) hl
theorem rows_pos {s : Ps} {q : Nat} (h : mRows s q ≠ 0) : 1 ≤ pRows s q := by
  rw [← pc6_rows]
  refine Nat.pos_of_ne_zero fun z => h ((pc6_0 _ mRows_lt).mp z)
theorem tIn_le {x : Gd} (hx : Gok x) {q : Nat} : tIn x q ≤ 36 := by
  have h : tIn x q ≤ x.1.1 * 6 := sm_le fun r _ => by
    split
    · exact ct_le
    · exact Nat.zero_le _
  have := hx.1
  omega
set_option maxRecDepth 4000 in
theorem c_Law_parts {l : Launch} {h : sH} {st : St} (hC : CInv h st) (hS : StOk st) : sY l m_Law_parts 8 [.ref 0] h (some (.int (nI 1))) (fun h1 => CInv h1 st) := by
  have hx := hS.1
  have hz := l_sz hx
  have hR := hx.1
  have hCc := hx.2.1
  have h2R : 1 ≤ 2 ^ st.1.1.1 := Nat.one_le_two_pow
  have h2C : 1 ≤ 2 ^ st.1.1.2.1 := Nat.one_le_two_pow
  refine en_Law_parts ?_
  refine e_iconst (v := nI 0) (p' := 1) D_Law_parts_0 cst_iconst_0 rfl ?_
  refine e_istore_1 (p' := 2) D_Law_parts_1 (Nat.le_of_ble_eq_true rfl) rfl rfl ?_
  refine e_iconst (v := nI 0) (p' := 3) D_Law_parts_2 cst_iconst_0 rfl ?_
  refine e_istore_2 (p' := 4) D_Law_parts_3 (Nat.le_of_ble_eq_true rfl) rfl rfl ?_
  refine e_iconst (v := nI 0) (p' := 5) D_Law_parts_4 cst_iconst_0 rfl ?_
  refine e_istore_3 (p' := 6) D_Law_parts_5 (Nat.le_of_ble_eq_true rfl) rfl rfl ?_
  refine e_iconst (v := nI 0) (p' := 7) D_Law_parts_6 cst_iconst_0 rfl ?_
  refine e_istore_4 (p' := 9) D_Law_parts_7 (Nat.le_of_ble_eq_true rfl) rfl rfl ?_
  refine e_iconst (v := (-1)) (p' := 10) D_Law_parts_9 cst_iconst_m1 rfl ?_
  refine e_istore_5 (p' := 12) D_Law_parts_10 (Nat.le_of_ble_eq_true rfl) rfl rfl ?_
  refine e_iconst (v := nI 0) (p' := 13) D_Law_parts_12 cst_iconst_0 rfl ?_
  refine e_istore_6 (p' := 15) D_Law_parts_13 (Nat.le_of_ble_eq_true rfl) rfl rfl ?_
  have lk15 : ∀ p : Nat, p ≤ (lay st.1).2 → ∀ (h1 : sH) (la : Int32), (CInv h1 st ∧ LastOk st.1 p la) → sEv l m_Law_parts 8 (0, 0, 0, 0) (sKm 0 0 (fun r1 h1 => r1 = some (.int (nI 1)) ∧ (fun h1 => CInv h1 st) h1)) 15 [some (.ref 0), some (.int (nI (mk 6 (rwTo st.1 p)))), some (.int (nI (mk 6 (clTo st.1 p)))), some (.int (nI (sm p (fun p => pRows (lay st.1).1 (p + 1) * pCols (lay st.1).1 (p + 1))))), some (.int (nI (sm p (fun p => tIn st.1 (p + 1))))), some (.int la), some (.int (nI p)), none, none, none] [] (h1) := by
    refine lp_up _ ?_ ?_
    · intro h1 la ⟨CC, hla⟩
      have cc := CC.1
      refine e_iload_6 (p' := 17) D_Law_parts_15 rfl ?_
      refine e_aload_0 (p' := 18) D_Law_parts_17 rfl ?_
      refine e_iconst (v := nI 4) (p' := 19) D_Law_parts_18 cst_iconst_4 rfl ?_
      refine y_callV1 (p' := 22) D_Law_parts_19 V_Law_26 (k_cnt4 CC hS) rfl (by first | assumption | exact sUp_eq | (rw [sUp_ne (by omega)]; assumption) | (rw [sUp_ne (by omega), sUp_ne (by omega)]; assumption) | (rw [sUp_ne (by omega)]; exact sUp_eq) | (rw [gSet_ne (by omega) (by omega)]; first | assumption | exact sUp_eq | (rw [sUp_ne (by omega)]; assumption) | (rw [sUp_ne (by omega), sUp_ne (by omega)]; assumption)) | (rw [sUp_ne (by omega), sUp_ne (by omega), sUp_ne (by omega)]; assumption) | (simp [sUp]; done)) rfl (Nat.le_of_ble_eq_true rfl) (by decide) ⟨by decide, by decide⟩ rfl ?_
      rintro h2 ⟨C2, F2⟩
      have c2 := C2.1
      refine e_icmpN_ge (q := 174) (p' := 25) D_Law_parts_22 (by omega) (by omega) rfl rfl (fun hc22 => ?_) (fun hc22 => ?_)
      ·
        rw [rw_n hx, cl_n hx, tIn_sum hx]
        refine e_iload_1 (p' := 175) D_Law_parts_174 rfl ?_
        refine e_iconst (v := nI 1) (p' := 176) D_Law_parts_175 cst_iconst_1 rfl ?_
        refine e_aload_0 (p' := 177) D_Law_parts_176 rfl ?_
        refine e_iconst (v := nI 0) (p' := 178) D_Law_parts_177 cst_iconst_0 rfl ?_
        refine y_callV1 (p' := 181) D_Law_parts_178 V_Law_26 (k_cnt0 C2 hS) rfl (by first | assumption | exact sUp_eq | (rw [sUp_ne (by omega)]; assumption) | (rw [sUp_ne (by omega), sUp_ne (by omega)]; assumption) | (rw [sUp_ne (by omega)]; exact sUp_eq) | (rw [gSet_ne (by omega) (by omega)]; first | assumption | exact sUp_eq | (rw [sUp_ne (by omega)]; assumption) | (rw [sUp_ne (by omega), sUp_ne (by omega)]; assumption)) | (rw [sUp_ne (by omega), sUp_ne (by omega), sUp_ne (by omega)]; assumption) | (simp [sUp]; done)) rfl (Nat.le_of_ble_eq_true rfl) (by decide) ⟨by decide, by decide⟩ rfl ?_
        rintro h3 ⟨C3, F3⟩
        have c3 := C3.1
        refine e_ishl (p' := 182) D_Law_parts_181 rfl ?_
        rw [shlR _ (by omega)]
        refine e_iconst (v := nI 1) (p' := 183) D_Law_parts_182 cst_iconst_1 rfl ?_
        first | refine e_isubN (p' := 184) D_Law_parts_183 (by omega) rfl ?_ | refine e_isub (p' := 184) D_Law_parts_183 rfl ?_
        refine e_icmp_ne (q := 238) (p' := 187) D_Law_parts_184 rfl rfl (fun hc184 => ?_) (fun hc184 => ?_)
        ·
          first | exact absurd rfl hc184 | exact hc184 rfl | (exfalso; omega) | exact absurd hc184 (by decide) | exact absurd hc184 (by simp [*])
        ·
          refine e_iload_2 (p' := 188) D_Law_parts_187 rfl ?_
          refine e_iconst (v := nI 1) (p' := 189) D_Law_parts_188 cst_iconst_1 rfl ?_
          refine e_aload_0 (p' := 190) D_Law_parts_189 rfl ?_
          refine e_iconst (v := nI 1) (p' := 191) D_Law_parts_190 cst_iconst_1 rfl ?_
          refine y_callV1 (p' := 194) D_Law_parts_191 V_Law_26 (k_cnt1 C3 hS) rfl (by first | assumption | exact sUp_eq | (rw [sUp_ne (by omega)]; assumption) | (rw [sUp_ne (by omega), sUp_ne (by omega)]; assumption) | (rw [sUp_ne (by omega)]; exact sUp_eq) | (rw [gSet_ne (by omega) (by omega)]; first | assumption | exact sUp_eq | (rw [sUp_ne (by omega)]; assumption) | (rw [sUp_ne (by omega), sUp_ne (by omega)]; assumption)) | (rw [sUp_ne (by omega), sUp_ne (by omega), sUp_ne (by omega)]; assumption) | (simp [sUp]; done)) rfl (Nat.le_of_ble_eq_true rfl) (by decide) ⟨by decide, by decide⟩ rfl ?_
          rintro h4 ⟨C4, F4⟩
          have c4 := C4.1
          refine e_ishl (p' := 195) D_Law_parts_194 rfl ?_
          rw [shlR _ (by omega)]
          refine e_iconst (v := nI 1) (p' := 196) D_Law_parts_195 cst_iconst_1 rfl ?_
          first | refine e_isubN (p' := 197) D_Law_parts_196 (by omega) rfl ?_ | refine e_isub (p' := 197) D_Law_parts_196 rfl ?_
          refine e_icmp_ne (q := 238) (p' := 200) D_Law_parts_197 rfl rfl (fun hc197 => ?_) (fun hc197 => ?_)
          ·
            first | exact absurd rfl hc197 | exact hc197 rfl | (exfalso; omega) | exact absurd hc197 (by decide) | exact absurd hc197 (by simp [*])
          ·
            refine e_iload_3 (p' := 201) D_Law_parts_200 rfl ?_
            refine e_aload_0 (p' := 202) D_Law_parts_201 rfl ?_
            refine e_bipush (v := nI 6) (p' := 204) D_Law_parts_202 cst_bipush_6 rfl ?_
            refine y_callV1 (p' := 207) D_Law_parts_204 V_Law_26 (k_cnt6 C4 hS) rfl (by first | assumption | exact sUp_eq | (rw [sUp_ne (by omega)]; assumption) | (rw [sUp_ne (by omega), sUp_ne (by omega)]; assumption) | (rw [sUp_ne (by omega)]; exact sUp_eq) | (rw [gSet_ne (by omega) (by omega)]; first | assumption | exact sUp_eq | (rw [sUp_ne (by omega)]; assumption) | (rw [sUp_ne (by omega), sUp_ne (by omega)]; assumption)) | (rw [sUp_ne (by omega), sUp_ne (by omega), sUp_ne (by omega)]; assumption) | (simp [sUp]; done)) rfl (Nat.le_of_ble_eq_true rfl) (by decide) ⟨by decide, by decide⟩ rfl ?_
            rintro h5 ⟨C5, F5⟩
            have c5 := C5.1
            refine e_icmp_ne (q := 238) (p' := 210) D_Law_parts_207 rfl rfl (fun hc207 => ?_) (fun hc207 => ?_)
            ·
              first | exact absurd rfl hc207 | exact hc207 rfl | (exfalso; omega) | exact absurd hc207 (by decide) | exact absurd hc207 (by simp [*])
            ·
              refine e_iload_4 (p' := 212) D_Law_parts_210 rfl ?_
              refine e_aload_0 (p' := 213) D_Law_parts_212 rfl ?_
              refine e_iconst (v := nI 3) (p' := 214) D_Law_parts_213 cst_iconst_3 rfl ?_
              refine y_callV1 (p' := 217) D_Law_parts_214 V_Law_26 (k_cnt3 C5 hS) rfl (by first | assumption | exact sUp_eq | (rw [sUp_ne (by omega)]; assumption) | (rw [sUp_ne (by omega), sUp_ne (by omega)]; assumption) | (rw [sUp_ne (by omega)]; exact sUp_eq) | (rw [gSet_ne (by omega) (by omega)]; first | assumption | exact sUp_eq | (rw [sUp_ne (by omega)]; assumption) | (rw [sUp_ne (by omega), sUp_ne (by omega)]; assumption)) | (rw [sUp_ne (by omega), sUp_ne (by omega), sUp_ne (by omega)]; assumption) | (simp [sUp]; done)) rfl (Nat.le_of_ble_eq_true rfl) (by decide) ⟨by decide, by decide⟩ rfl ?_
              rintro h6 ⟨C6, F6⟩
              have c6 := C6.1
              refine e_icmp_ne (q := 238) (p' := 220) D_Law_parts_217 rfl rfl (fun hc217 => ?_) (fun hc217 => ?_)
              ·
                first | exact absurd rfl hc217 | exact hc217 rfl | (exfalso; omega) | exact absurd hc217 (by decide) | exact absurd hc217 (by simp [*])
              ·
                refine e_aload_0 (p' := 221) D_Law_parts_220 rfl ?_
                refine e_aload_0 (p' := 222) D_Law_parts_221 rfl ?_
                refine e_iconst (v := nI 4) (p' := 223) D_Law_parts_222 cst_iconst_4 rfl ?_
                refine y_callV1 (p' := 226) D_Law_parts_223 V_Law_26 (k_cnt4 C6 hS) rfl (by first | assumption | exact sUp_eq | (rw [sUp_ne (by omega)]; assumption) | (rw [sUp_ne (by omega), sUp_ne (by omega)]; assumption) | (rw [sUp_ne (by omega)]; exact sUp_eq) | (rw [gSet_ne (by omega) (by omega)]; first | assumption | exact sUp_eq | (rw [sUp_ne (by omega)]; assumption) | (rw [sUp_ne (by omega), sUp_ne (by omega)]; assumption)) | (rw [sUp_ne (by omega), sUp_ne (by omega), sUp_ne (by omega)]; assumption) | (simp [sUp]; done)) rfl (Nat.le_of_ble_eq_true rfl) (by decide) ⟨by decide, by decide⟩ rfl ?_
                rintro h7 ⟨C7, F7⟩
                have c7 := C7.1
                refine e_iconst (v := nI 0) (p' := 227) D_Law_parts_226 cst_iconst_0 rfl ?_
                refine y_callV1 (p' := 230) D_Law_parts_227 V_Law_36 (k_partN C7 hS) rfl (by first | assumption | exact sUp_eq | (rw [sUp_ne (by omega)]; assumption) | (rw [sUp_ne (by omega), sUp_ne (by omega)]; assumption) | (rw [sUp_ne (by omega)]; exact sUp_eq) | (rw [gSet_ne (by omega) (by omega)]; first | assumption | exact sUp_eq | (rw [sUp_ne (by omega)]; assumption) | (rw [sUp_ne (by omega), sUp_ne (by omega)]; assumption)) | (rw [sUp_ne (by omega), sUp_ne (by omega), sUp_ne (by omega)]; assumption) | (simp [sUp]; done)) rfl (Nat.le_of_ble_eq_true rfl) (by decide) ⟨by decide, by decide⟩ rfl ?_
                rintro h8 ⟨C8, F8⟩
                have c8 := C8.1
                refine e_iconst (v := (-1)) (p' := 231) D_Law_parts_230 cst_iconst_m1 rfl ?_
                refine e_icmp_ne (q := 238) (p' := 234) D_Law_parts_231 rfl rfl (fun hc231 => ?_) (fun hc231 => ?_)
                ·
                  first | exact absurd rfl hc231 | exact hc231 rfl | (exfalso; omega) | exact absurd hc231 (by decide) | exact absurd hc231 (by simp [*])
                ·
                  refine e_iconst (v := nI 1) (p' := 235) D_Law_parts_234 cst_iconst_1 rfl ?_
                  refine e_goto (p' := 239) D_Law_parts_235 rfl ?_
                  refine e_istore_6 (p' := 241) D_Law_parts_239 (Nat.le_of_ble_eq_true rfl) rfl rfl ?_
                  refine e_iconst (v := nI 0) (p' := 242) D_Law_parts_241 cst_iconst_0 rfl ?_
                  refine e_istore_7 (p' := 244) D_Law_parts_242 (Nat.le_of_ble_eq_true rfl) rfl rfl ?_
                  have lk244 : ∀ r : Nat, r ≤ st.1.1.1 → ∀ (h1 : sH), CInv h1 st → sEv l m_Law_parts 8 (0, 0, 0, 0) (sKm 0 0 (fun r1 h1 => r1 = some (.int (nI 1)) ∧ (fun h1 => CInv h1 st) h1)) 244 [some (.ref 0), none, none, none, none, none, some (.int (nI 1)), some (.int (nI r)), none, none] [] (h1) := by
                    refine lp_up _ ?_ ?_
                    · intro h1 CC
                      have cc := CC.1
                      refine e_iload_7 (p' := 246) D_Law_parts_244 rfl ?_
                      refine e_aload_0 (p' := 247) D_Law_parts_246 rfl ?_
                      refine e_iconst (v := nI 0) (p' := 248) D_Law_parts_247 cst_iconst_0 rfl ?_
                      refine y_callV1 (p' := 251) D_Law_parts_248 V_Law_26 (k_cnt0 CC hS) rfl (by first | assumption | exact sUp_eq | (rw [sUp_ne (by omega)]; assumption) | (rw [sUp_ne (by omega), sUp_ne (by omega)]; assumption) | (rw [sUp_ne (by omega)]; exact sUp_eq) | (rw [gSet_ne (by omega) (by omega)]; first | assumption | exact sUp_eq | (rw [sUp_ne (by omega)]; assumption) | (rw [sUp_ne (by omega), sUp_ne (by omega)]; assumption)) | (rw [sUp_ne (by omega), sUp_ne (by omega), sUp_ne (by omega)]; assumption) | (simp [sUp]; done)) rfl (Nat.le_of_ble_eq_true rfl) (by decide) ⟨by decide, by decide⟩ rfl ?_
                      rintro h9 ⟨C9, F9⟩
                      have c9 := C9.1
                      refine e_icmpN_ge (q := 320) (p' := 254) D_Law_parts_251 (by omega) (by omega) rfl rfl (fun hc251 => ?_) (fun hc251 => ?_)
                      ·
                        refine e_iload_6 (p' := 322) D_Law_parts_320 rfl ?_
                        refine e_ireturn (ty := .boolean) D_Law_parts_322 rfl (by first | rfl | exact sBo_nar _) ⟨by decide, by decide⟩ ?_
                        exact ⟨rfl, C9⟩
                      ·
                        exfalso; omega
                    · intro r hr ih244 h1 CC
                      have cc := CC.1
                      refine e_iload_7 (p' := 246) D_Law_parts_244 rfl ?_
                      refine e_aload_0 (p' := 247) D_Law_parts_246 rfl ?_
                      refine e_iconst (v := nI 0) (p' := 248) D_Law_parts_247 cst_iconst_0 rfl ?_
                      refine y_callV1 (p' := 251) D_Law_parts_248 V_Law_26 (k_cnt0 CC hS) rfl (by first | assumption | exact sUp_eq | (rw [sUp_ne (by omega)]; assumption) | (rw [sUp_ne (by omega), sUp_ne (by omega)]; assumption) | (rw [sUp_ne (by omega)]; exact sUp_eq) | (rw [gSet_ne (by omega) (by omega)]; first | assumption | exact sUp_eq | (rw [sUp_ne (by omega)]; assumption) | (rw [sUp_ne (by omega), sUp_ne (by omega)]; assumption)) | (rw [sUp_ne (by omega), sUp_ne (by omega), sUp_ne (by omega)]; assumption) | (simp [sUp]; done)) rfl (Nat.le_of_ble_eq_true rfl) (by decide) ⟨by decide, by decide⟩ rfl ?_
                      rintro h9 ⟨C9, F9⟩
                      have c9 := C9.1
                      refine e_icmpN_ge (q := 320) (p' := 254) D_Law_parts_251 (by omega) (by omega) rfl rfl (fun hc251 => ?_) (fun hc251 => ?_)
                      ·
                        exfalso; omega
                      ·
                        refine e_iconst (v := nI 0) (p' := 255) D_Law_parts_254 cst_iconst_0 rfl ?_
                        refine e_istore_8 (p' := 257) D_Law_parts_255 (Nat.le_of_ble_eq_true rfl) rfl rfl ?_
                        have lk257 : ∀ c : Nat, c ≤ st.1.1.2.1 → ∀ (h1 : sH), CInv h1 st → sEv l m_Law_parts 8 (0, 0, 0, 0) (sKm 0 0 (fun r1 h1 => r1 = some (.int (nI 1)) ∧ (fun h1 => CInv h1 st) h1)) 257 [some (.ref 0), none, none, none, none, none, some (.int (nI 1)), some (.int (nI r)), some (.int (nI c)), none] [] (h1) := by
                          refine lp_up _ ?_ ?_
                          · intro h1 CD
                            have cd := CD.1
                            refine e_iload_8 (p' := 259) D_Law_parts_257 rfl ?_
                            refine e_aload_0 (p' := 260) D_Law_parts_259 rfl ?_
                            refine e_iconst (v := nI 1) (p' := 261) D_Law_parts_260 cst_iconst_1 rfl ?_
                            refine y_callV1 (p' := 264) D_Law_parts_261 V_Law_26 (k_cnt1 CD hS) rfl (by first | assumption | exact sUp_eq | (rw [sUp_ne (by omega)]; assumption) | (rw [sUp_ne (by omega), sUp_ne (by omega)]; assumption) | (rw [sUp_ne (by omega)]; exact sUp_eq) | (rw [gSet_ne (by omega) (by omega)]; first | assumption | exact sUp_eq | (rw [sUp_ne (by omega)]; assumption) | (rw [sUp_ne (by omega), sUp_ne (by omega)]; assumption)) | (rw [sUp_ne (by omega), sUp_ne (by omega), sUp_ne (by omega)]; assumption) | (simp [sUp]; done)) rfl (Nat.le_of_ble_eq_true rfl) (by decide) ⟨by decide, by decide⟩ rfl ?_
                            rintro h10 ⟨C10, F10⟩
                            have c10 := C10.1
                            refine e_icmpN_ge (q := 314) (p' := 267) D_Law_parts_264 (by omega) (by omega) rfl rfl (fun hc264 => ?_) (fun hc264 => ?_)
                            ·
                              first | refine e_iincN_7 (n := 1) (p' := 317) D_Law_parts_314 (Nat.le_of_ble_eq_true rfl) rfl rfl ?_ | refine e_iinc_7 (p' := 317) D_Law_parts_314 (Nat.le_of_ble_eq_true rfl) rfl rfl rfl ?_
                              refine e_goto (p' := 244) D_Law_parts_317 rfl ?_
                              refine sEv.castW (ih244 h10 C10) ?_ ?_ ?_
                              · exact ⟨rfl, rfl, rfl, trivial⟩
                              · rfl
                              · first | rfl | (simp; done)
                            ·
                              exfalso; omega
                          · intro c hc ih257 h1 CD
                            have cd := CD.1
                            refine e_iload_8 (p' := 259) D_Law_parts_257 rfl ?_
                            refine e_aload_0 (p' := 260) D_Law_parts_259 rfl ?_
                            refine e_iconst (v := nI 1) (p' := 261) D_Law_parts_260 cst_iconst_1 rfl ?_
                            refine y_callV1 (p' := 264) D_Law_parts_261 V_Law_26 (k_cnt1 CD hS) rfl (by first | assumption | exact sUp_eq | (rw [sUp_ne (by omega)]; assumption) | (rw [sUp_ne (by omega), sUp_ne (by omega)]; assumption) | (rw [sUp_ne (by omega)]; exact sUp_eq) | (rw [gSet_ne (by omega) (by omega)]; first | assumption | exact sUp_eq | (rw [sUp_ne (by omega)]; assumption) | (rw [sUp_ne (by omega), sUp_ne (by omega)]; assumption)) | (rw [sUp_ne (by omega), sUp_ne (by omega), sUp_ne (by omega)]; assumption) | (simp [sUp]; done)) rfl (Nat.le_of_ble_eq_true rfl) (by decide) ⟨by decide, by decide⟩ rfl ?_
                            rintro h10 ⟨C10, F10⟩
                            have c10 := C10.1
                            refine e_icmpN_ge (q := 314) (p' := 267) D_Law_parts_264 (by omega) (by omega) rfl rfl (fun hc264 => ?_) (fun hc264 => ?_)
                            ·
                              exfalso; omega
                            ·
                              refine e_iload_6 (p' := 269) D_Law_parts_267 rfl ?_
                              refine e_ifN_eq (q := 305) (p' := 272) D_Law_parts_269 (by omega) rfl rfl (fun hc269 => ?_) (fun hc269 => ?_)
                              ·
                                first | exact absurd rfl hc269 | exact hc269 rfl | (exfalso; omega) | exact absurd hc269 (by decide) | exact absurd hc269 (by simp [*])
                              ·
                                refine e_aload_0 (p' := 273) D_Law_parts_272 rfl ?_
                                refine e_iload_7 (p' := 275) D_Law_parts_273 rfl ?_
                                refine e_iload_8 (p' := 277) D_Law_parts_275 rfl ?_
                                refine e_iconst (v := nI 0) (p' := 278) D_Law_parts_277 cst_iconst_0 rfl ?_
                                refine y_callV1 (p' := 281) D_Law_parts_278 V_Law_33 (k_ent0 C10 hS (by omega) (by omega)) rfl (by first | assumption | exact sUp_eq | (rw [sUp_ne (by omega)]; assumption) | (rw [sUp_ne (by omega), sUp_ne (by omega)]; assumption) | (rw [sUp_ne (by omega)]; exact sUp_eq) | (rw [gSet_ne (by omega) (by omega)]; first | assumption | exact sUp_eq | (rw [sUp_ne (by omega)]; assumption) | (rw [sUp_ne (by omega), sUp_ne (by omega)]; assumption)) | (rw [sUp_ne (by omega), sUp_ne (by omega), sUp_ne (by omega)]; assumption) | (simp [sUp]; done)) rfl (Nat.le_of_ble_eq_true rfl) (by decide) ⟨by decide, by decide⟩ rfl ?_
                                rintro h11 ⟨C11, F11⟩
                                have c11 := C11.1
                                have hat := hx.small r c
                                refine e_ifN_eq (q := 301) (p' := 284) D_Law_parts_281 (by omega) rfl rfl (fun hc281 => ?_) (fun hc281 => ?_)
                                ·
                                  refine e_iconst (v := nI 1) (p' := 302) D_Law_parts_301 cst_iconst_1 rfl ?_
                                  refine e_goto (p' := 306) D_Law_parts_302 rfl ?_
                                  refine e_istore_6 (p' := 308) D_Law_parts_306 (Nat.le_of_ble_eq_true rfl) rfl rfl ?_
                                  first | refine e_iincN_8 (n := 1) (p' := 311) D_Law_parts_308 (Nat.le_of_ble_eq_true rfl) rfl rfl ?_ | refine e_iinc_8 (p' := 311) D_Law_parts_308 (Nat.le_of_ble_eq_true rfl) rfl rfl rfl ?_
                                  refine e_goto (p' := 257) D_Law_parts_311 rfl ?_
                                  refine sEv.castW (ih257 h11 C11) ?_ ?_ ?_
                                  · exact ⟨rfl, rfl, rfl, rfl, trivial⟩
                                  · rfl
                                  · first | rfl | (simp; done)
                                ·
                                  refine e_aload_0 (p' := 285) D_Law_parts_284 rfl ?_
                                  refine e_iload_7 (p' := 287) D_Law_parts_285 rfl ?_
                                  refine e_iconst (v := nI 0) (p' := 288) D_Law_parts_287 cst_iconst_0 rfl ?_
                                  refine y_callS1 (p' := 291) D_Law_parts_288 S_Law_42 (c_Law_partOfR C11 hS (by omega) (lP_nz hx (by omega))) rfl rfl (Nat.le_of_ble_eq_true rfl) (by decide) ⟨by decide, by decide⟩ rfl ?_
                                  rintro h12 C12
                                  have c12 := C12.1
                                  refine e_aload_0 (p' := 292) D_Law_parts_291 rfl ?_
                                  refine e_iload_8 (p' := 294) D_Law_parts_292 rfl ?_
                                  refine e_iconst (v := nI 1) (p' := 295) D_Law_parts_294 cst_iconst_1 rfl ?_
                                  refine y_callS1 (p' := 298) D_Law_parts_295 S_Law_42 (c_Law_partOfC C12 hS (by omega) (lQ_nz hx (by omega))) rfl rfl (Nat.le_of_ble_eq_true rfl) (by decide) ⟨by decide, by decide⟩ rfl ?_
                                  rintro h13 C13
                                  have c13 := C13.1
                                  refine e_icmp_ne (q := 305) (p' := 301) D_Law_parts_298 rfl rfl (fun hc298 => ?_) (fun hc298 => ?_)
                                  ·
                                    exact absurd (by rw [l_td hx (by omega) (by omega) (td_true hc281)]) hc298
                                  ·
                                    refine e_iconst (v := nI 1) (p' := 302) D_Law_parts_301 cst_iconst_1 rfl ?_
                                    refine e_goto (p' := 306) D_Law_parts_302 rfl ?_
                                    refine e_istore_6 (p' := 308) D_Law_parts_306 (Nat.le_of_ble_eq_true rfl) rfl rfl ?_
                                    first | refine e_iincN_8 (n := 1) (p' := 311) D_Law_parts_308 (Nat.le_of_ble_eq_true rfl) rfl rfl ?_ | refine e_iinc_8 (p' := 311) D_Law_parts_308 (Nat.le_of_ble_eq_true rfl) rfl rfl rfl ?_
                                    refine e_goto (p' := 257) D_Law_parts_311 rfl ?_
                                    refine sEv.castW (ih257 h13 C13) ?_ ?_ ?_
                                    · exact ⟨rfl, rfl, rfl, rfl, trivial⟩
                                    · rfl
                                    · first | rfl | (simp; done)
                        refine sEv.castW (lk257 0 (by omega) h9 C9) ?_ ?_ ?_
                        · exact ⟨rfl, rfl, rfl, rfl, trivial⟩
                        · rfl
                        · first | rfl | (simp; done)
                  refine sEv.castW (lk244 0 (by omega) h8 C8) ?_ ?_ ?_
                  · exact ⟨rfl, rfl, rfl, trivial⟩
                  · rfl
                  · first | rfl | (simp; done)
      ·
        exfalso; omega
    · intro p hp ih15 h1 la ⟨CC, hla⟩
      have cc := CC.1
      refine e_iload_6 (p' := 17) D_Law_parts_15 rfl ?_
      refine e_aload_0 (p' := 18) D_Law_parts_17 rfl ?_
      refine e_iconst (v := nI 4) (p' := 19) D_Law_parts_18 cst_iconst_4 rfl ?_
      refine y_callV1 (p' := 22) D_Law_parts_19 V_Law_26 (k_cnt4 CC hS) rfl (by first | assumption | exact sUp_eq | (rw [sUp_ne (by omega)]; assumption) | (rw [sUp_ne (by omega), sUp_ne (by omega)]; assumption) | (rw [sUp_ne (by omega)]; exact sUp_eq) | (rw [gSet_ne (by omega) (by omega)]; first | assumption | exact sUp_eq | (rw [sUp_ne (by omega)]; assumption) | (rw [sUp_ne (by omega), sUp_ne (by omega)]; assumption)) | (rw [sUp_ne (by omega), sUp_ne (by omega), sUp_ne (by omega)]; assumption) | (simp [sUp]; done)) rfl (Nat.le_of_ble_eq_true rfl) (by decide) ⟨by decide, by decide⟩ rfl ?_
      rintro h2 ⟨C2, F2⟩
      have c2 := C2.1
      refine e_icmpN_ge (q := 174) (p' := 25) D_Law_parts_22 (by omega) (by omega) rfl rfl (fun hc22 => ?_) (fun hc22 => ?_)
      ·
        exfalso; omega
      ·
        refine e_aload_0 (p' := 26) D_Law_parts_25 rfl ?_
        refine e_iload_6 (p' := 28) D_Law_parts_26 rfl ?_
        refine e_iconst (v := nI 0) (p' := 29) D_Law_parts_28 cst_iconst_0 rfl ?_
        refine y_callV1 (p' := 32) D_Law_parts_29 V_Law_36 (k_part0 C2 hS (by omega)) rfl (by first | assumption | exact sUp_eq | (rw [sUp_ne (by omega)]; assumption) | (rw [sUp_ne (by omega), sUp_ne (by omega)]; assumption) | (rw [sUp_ne (by omega)]; exact sUp_eq) | (rw [gSet_ne (by omega) (by omega)]; first | assumption | exact sUp_eq | (rw [sUp_ne (by omega)]; assumption) | (rw [sUp_ne (by omega), sUp_ne (by omega)]; assumption)) | (rw [sUp_ne (by omega), sUp_ne (by omega), sUp_ne (by omega)]; assumption) | (simp [sUp]; done)) rfl (Nat.le_of_ble_eq_true rfl) (by decide) ⟨by decide, by decide⟩ rfl ?_
        rintro h3 ⟨C3, F3⟩
        have c3 := C3.1
        refine e_istore_7 (p' := 34) D_Law_parts_32 (Nat.le_of_ble_eq_true rfl) rfl rfl ?_
        refine e_aload_0 (p' := 35) D_Law_parts_34 rfl ?_
        refine e_iload_6 (p' := 37) D_Law_parts_35 rfl ?_
        refine e_iconst (v := nI 1) (p' := 38) D_Law_parts_37 cst_iconst_1 rfl ?_
        refine y_callV1 (p' := 41) D_Law_parts_38 V_Law_36 (k_part1 C3 hS (by omega)) rfl (by first | assumption | exact sUp_eq | (rw [sUp_ne (by omega)]; assumption) | (rw [sUp_ne (by omega), sUp_ne (by omega)]; assumption) | (rw [sUp_ne (by omega)]; exact sUp_eq) | (rw [gSet_ne (by omega) (by omega)]; first | assumption | exact sUp_eq | (rw [sUp_ne (by omega)]; assumption) | (rw [sUp_ne (by omega), sUp_ne (by omega)]; assumption)) | (rw [sUp_ne (by omega), sUp_ne (by omega), sUp_ne (by omega)]; assumption) | (simp [sUp]; done)) rfl (Nat.le_of_ble_eq_true rfl) (by decide) ⟨by decide, by decide⟩ rfl ?_
        rintro h4 ⟨C4, F4⟩
        have c4 := C4.1
        refine e_istore_8 (p' := 43) D_Law_parts_41 (Nat.le_of_ble_eq_true rfl) rfl rfl ?_
        obtain ⟨v, hv, hv1, hv2⟩ := part_low hx (p := p + 1) (by omega) (by omega)
        have a64 := mRows_lt (s := (lay st.1).1) (q := p + 1)
        have jn66 : sEv l m_Law_parts 8 (0, 0, 0, 0) (sKm 0 0 (fun r1 h1 => r1 = some (.int (nI 1)) ∧ (fun h1 => CInv h1 st) h1)) 66 [some (.ref 0), some (.int (nI (mk 6 (rwTo st.1 p)))), some (.int (nI (mk 6 (clTo st.1 p)))), some (.int (nI (sm p (fun p => pRows (lay st.1).1 (p + 1) * pCols (lay st.1).1 (p + 1))))), some (.int (nI (sm p (fun p => tIn st.1 (p + 1))))), some (.int la), some (.int (nI p)), some (.int (nI (mRows (lay st.1).1 (p + 1)))), some (.int (nI (mCols (lay st.1).1 (p + 1)))), none] [.int (nI (2 ^ v))] h4 := by
          refine e_istore_9 (p' := 68) D_Law_parts_66 (Nat.le_of_ble_eq_true rfl) rfl rfl ?_
          refine e_iload_1 (p' := 69) D_Law_parts_68 rfl ?_
          refine e_iload_7 (p' := 71) D_Law_parts_69 rfl ?_
          refine e_iand (p' := 72) D_Law_parts_71 rfl ?_
          rw [rw_and]
          refine e_ifN_ne (q := 126) (p' := 75) D_Law_parts_72 (by omega) rfl rfl (fun hc72 => ?_) (fun hc72 => ?_)
          ·
            first | exact absurd rfl hc72 | exact hc72 rfl | (exfalso; omega) | exact absurd hc72 (by decide) | exact absurd hc72 (by simp [*])
          ·
            refine e_iload_2 (p' := 76) D_Law_parts_75 rfl ?_
            refine e_iload_8 (p' := 78) D_Law_parts_76 rfl ?_
            refine e_iand (p' := 79) D_Law_parts_78 rfl ?_
            rw [cl_and]
            refine e_ifN_ne (q := 126) (p' := 82) D_Law_parts_79 (by omega) rfl rfl (fun hc79 => ?_) (fun hc79 => ?_)
            ·
              first | exact absurd rfl hc79 | exact hc79 rfl | (exfalso; omega) | exact absurd hc79 (by decide) | exact absurd hc79 (by simp [*])
            ·
              refine e_iload_9 (p' := 84) D_Law_parts_82 rfl ?_
              refine e_iload_5 (p' := 86) D_Law_parts_84 rfl ?_
              refine e_icmp_le (q := 126) (p' := 89) D_Law_parts_86 rfl rfl (fun hc86 => ?_) (fun hc86 => ?_)
              ·
                exact absurd hc86 (Int32.not_le.mpr (last_lt hla hv))
              ·
                have hsp := span hx (p := p + 1) (by omega)
                have hpos : 1 ≤ pRows (lay st.1).1 (p + 1) + pCols (lay st.1).1 (p + 1) := by
                  by_cases e : mRows (lay st.1).1 (p + 1) = 0
                  · have := (hv2 e).1; omega
                  · have := rows_pos e; omega
                have hr6 : pRows (lay st.1).1 (p + 1) ≤ 6 := ct_le
                have hc6 : pCols (lay st.1).1 (p + 1) ≤ 6 := ct_le
                have ht6 : tIn st.1 (p + 1) ≤ 36 := tIn_le hx
                have jn103 : sEv l m_Law_parts 8 (0, 0, 0, 0) (sKm 0 0 (fun r1 h1 => r1 = some (.int (nI 1)) ∧ (fun h1 => CInv h1 st) h1)) 103 [some (.ref 0), some (.int (nI (mk 6 (rwTo st.1 p)))), some (.int (nI (mk 6 (clTo st.1 p)))), some (.int (nI (sm p (fun p => pRows (lay st.1).1 (p + 1) * pCols (lay st.1).1 (p + 1))))), some (.int (nI (sm p (fun p => tIn st.1 (p + 1))))), some (.int la), some (.int (nI p)), some (.int (nI (mRows (lay st.1).1 (p + 1)))), some (.int (nI (mCols (lay st.1).1 (p + 1)))), some (.int (nI (2 ^ v)))] [] h4 := by
                  refine e_aload_0 (p' := 104) D_Law_parts_103 rfl ?_
                  refine e_iload_6 (p' := 106) D_Law_parts_104 rfl ?_
                  refine e_iconst (v := nI 2) (p' := 107) D_Law_parts_106 cst_iconst_2 rfl ?_
                  refine y_callV1 (p' := 110) D_Law_parts_107 V_Law_36 (k_part2 C4 hS (by omega)) rfl (by first | assumption | exact sUp_eq | (rw [sUp_ne (by omega)]; assumption) | (rw [sUp_ne (by omega), sUp_ne (by omega)]; assumption) | (rw [sUp_ne (by omega)]; exact sUp_eq) | (rw [gSet_ne (by omega) (by omega)]; first | assumption | exact sUp_eq | (rw [sUp_ne (by omega)]; assumption) | (rw [sUp_ne (by omega), sUp_ne (by omega)]; assumption)) | (rw [sUp_ne (by omega), sUp_ne (by omega), sUp_ne (by omega)]; assumption) | (simp [sUp]; done)) rfl (Nat.le_of_ble_eq_true rfl) (by decide) ⟨by decide, by decide⟩ rfl ?_
                  rintro h5 ⟨C5, F5⟩
                  have c5 := C5.1
                  refine e_iload_7 (p' := 112) D_Law_parts_110 rfl ?_
                  refine x_callS1 (p' := 115) D_Law_parts_112 S_Law_39 (c_bitsR) rfl rfl (Nat.le_of_ble_eq_true rfl) (by decide) ⟨by decide, by decide⟩ rfl ?_
                  refine e_iload_8 (p' := 117) D_Law_parts_115 rfl ?_
                  refine x_callS1 (p' := 120) D_Law_parts_117 S_Law_39 (c_bitsC) rfl rfl (Nat.le_of_ble_eq_true rfl) (by decide) ⟨by decide, by decide⟩ rfl ?_
                  first | refine e_iaddN (p' := 121) D_Law_parts_120 rfl ?_ | refine e_iadd (p' := 121) D_Law_parts_120 rfl ?_
                  refine e_iconst (v := nI 1) (p' := 122) D_Law_parts_121 cst_iconst_1 rfl ?_
                  first | refine e_isubN (p' := 123) D_Law_parts_122 (by omega) rfl ?_ | refine e_isub (p' := 123) D_Law_parts_122 rfl ?_
                  refine e_icmpN_ge (q := 128) (p' := 126) D_Law_parts_123 (by omega) (by omega) rfl rfl (fun hc123 => ?_) (fun hc123 => ?_)
                  ·
                    refine e_iload_9 (p' := 130) D_Law_parts_128 rfl ?_
                    refine e_istore_5 (p' := 132) D_Law_parts_130 (Nat.le_of_ble_eq_true rfl) rfl rfl ?_
                    refine e_iload_1 (p' := 133) D_Law_parts_132 rfl ?_
                    refine e_iload_7 (p' := 135) D_Law_parts_133 rfl ?_
                    refine e_ior (p' := 136) D_Law_parts_135 rfl ?_
                    rw [rw_or]
                    refine e_istore_1 (p' := 137) D_Law_parts_136 (Nat.le_of_ble_eq_true rfl) rfl rfl ?_
                    refine e_iload_2 (p' := 138) D_Law_parts_137 rfl ?_
                    refine e_iload_8 (p' := 140) D_Law_parts_138 rfl ?_
                    refine e_ior (p' := 141) D_Law_parts_140 rfl ?_
                    rw [cl_or]
                    refine e_istore_2 (p' := 142) D_Law_parts_141 (Nat.le_of_ble_eq_true rfl) rfl rfl ?_
                    refine e_iload_3 (p' := 143) D_Law_parts_142 rfl ?_
                    refine e_iload_7 (p' := 145) D_Law_parts_143 rfl ?_
                    refine x_callS1 (p' := 148) D_Law_parts_145 S_Law_39 (c_bitsR) rfl rfl (Nat.le_of_ble_eq_true rfl) (by decide) ⟨by decide, by decide⟩ rfl ?_
                    refine e_iload_8 (p' := 150) D_Law_parts_148 rfl ?_
                    refine x_callS1 (p' := 153) D_Law_parts_150 S_Law_39 (c_bitsC) rfl rfl (Nat.le_of_ble_eq_true rfl) (by decide) ⟨by decide, by decide⟩ rfl ?_
                    first | refine e_imulN (p' := 154) D_Law_parts_153 rfl ?_ | refine e_imul (p' := 154) D_Law_parts_153 rfl ?_
                    first | refine e_iaddN (p' := 155) D_Law_parts_154 rfl ?_ | refine e_iadd (p' := 155) D_Law_parts_154 rfl ?_
                    refine e_istore_3 (p' := 156) D_Law_parts_155 (Nat.le_of_ble_eq_true rfl) rfl rfl ?_
                    refine e_iload_4 (p' := 158) D_Law_parts_156 rfl ?_
                    refine e_aload_0 (p' := 159) D_Law_parts_158 rfl ?_
                    refine e_iload_6 (p' := 161) D_Law_parts_159 rfl ?_
                    refine e_iconst (v := nI 2) (p' := 162) D_Law_parts_161 cst_iconst_2 rfl ?_
                    refine y_callV1 (p' := 165) D_Law_parts_162 V_Law_36 (k_part2 C5 hS (by omega)) rfl (by first | assumption | exact sUp_eq | (rw [sUp_ne (by omega)]; assumption) | (rw [sUp_ne (by omega), sUp_ne (by omega)]; assumption) | (rw [sUp_ne (by omega)]; exact sUp_eq) | (rw [gSet_ne (by omega) (by omega)]; first | assumption | exact sUp_eq | (rw [sUp_ne (by omega)]; assumption) | (rw [sUp_ne (by omega), sUp_ne (by omega)]; assumption)) | (rw [sUp_ne (by omega), sUp_ne (by omega), sUp_ne (by omega)]; assumption) | (simp [sUp]; done)) rfl (Nat.le_of_ble_eq_true rfl) (by decide) ⟨by decide, by decide⟩ rfl ?_
                    rintro h6 ⟨C6, F6⟩
                    have c6 := C6.1
                    first | refine e_iaddN (p' := 166) D_Law_parts_165 rfl ?_ | refine e_iadd (p' := 166) D_Law_parts_165 rfl ?_
                    refine e_istore_4 (p' := 168) D_Law_parts_166 (Nat.le_of_ble_eq_true rfl) rfl rfl ?_
                    first | refine e_iincN_6 (n := 1) (p' := 171) D_Law_parts_168 (Nat.le_of_ble_eq_true rfl) rfl rfl ?_ | refine e_iinc_6 (p' := 171) D_Law_parts_168 (Nat.le_of_ble_eq_true rfl) rfl rfl rfl ?_
                    refine e_goto (p' := 15) D_Law_parts_171 rfl ?_
                    refine sEv.castW (ih15 h6 (nI (2 ^ v)) ⟨C6, fun z => absurd z (by omega), fun _ => ⟨v, hv, rfl⟩⟩) ?_ ?_ ?_
                    · exact ⟨rfl, rfl, rfl, rfl, rfl, rfl, rfl, trivial⟩
                    · rfl
                    · first | rfl | (simp; done)
                  ·
                    exfalso; omega
                refine e_iload_7 (p' := 91) D_Law_parts_89 rfl ?_
                refine e_ifN_ne (q := 103) (p' := 94) D_Law_parts_91 (by omega) rfl rfl (fun hc91 => ?_) (fun hc91 => ?_)
                ·
                  refine sEv.castW (jn103 ) ?_ ?_ ?_
                  · exact lvW_rfl _
                  · rfl
                  · first | rfl | (simp; done)
                ·
                  have hb1 := (hv2 (by omega)).1
                  refine e_iload_8 (p' := 96) D_Law_parts_94 rfl ?_
                  refine x_callS1 (p' := 99) D_Law_parts_96 S_Law_39 (c_bitsC) rfl rfl (Nat.le_of_ble_eq_true rfl) (by decide) ⟨by decide, by decide⟩ rfl ?_
                  refine e_iconst (v := nI 1) (p' := 100) D_Law_parts_99 cst_iconst_1 rfl ?_
                  refine e_icmpN_ne (q := 126) (p' := 103) D_Law_parts_100 (by omega) (by omega) rfl rfl (fun hc100 => ?_) (fun hc100 => ?_)
                  ·
                    exfalso; omega
                  ·
                    refine sEv.castW (jn103 ) ?_ ?_ ?_
                    · exact lvW_rfl _
                    · rfl
                    · first | rfl | (simp; done)
        refine e_iload_7 (p' := 45) D_Law_parts_43 rfl ?_
        refine e_ifN_eq (q := 57) (p' := 48) D_Law_parts_45 (by omega) rfl rfl (fun hc45 => ?_) (fun hc45 => ?_)
        ·
          refine e_bipush (v := nI 64) (p' := 59) D_Law_parts_57 cst_bipush_64 rfl ?_
          refine e_iload_8 (p' := 61) D_Law_parts_59 rfl ?_
          refine e_iload_8 (p' := 63) D_Law_parts_61 rfl ?_
          refine e_ineg (p' := 64) D_Law_parts_63 rfl ?_
          refine e_iand (p' := 65) D_Law_parts_64 rfl ?_
          first | refine e_imulN (p' := 66) D_Law_parts_65 rfl ?_ | refine e_imul (p' := 66) D_Law_parts_65 rfl ?_
          refine sEv.castW (jn66 ) ?_ ?_ ?_
          · exact lvW_rfl _
          · first | exact congrArg (fun z => [Value.int z]) (hv1 (by omega)) | exact congrArg (fun z => [Value.int z]) (hv2 (by omega)).2
          · first | rfl | (simp; done)
        ·
          refine e_iload_7 (p' := 50) D_Law_parts_48 rfl ?_
          refine e_iload_7 (p' := 52) D_Law_parts_50 rfl ?_
          refine e_ineg (p' := 53) D_Law_parts_52 rfl ?_
          refine e_iand (p' := 54) D_Law_parts_53 rfl ?_
          refine e_goto (p' := 66) D_Law_parts_54 rfl ?_
          refine sEv.castW (jn66 ) ?_ ?_ ?_
          · exact lvW_rfl _
          · first | exact congrArg (fun z => [Value.int z]) (hv1 (by omega)) | exact congrArg (fun z => [Value.int z]) (hv2 (by omega)).2
          · first | rfl | (simp; done)
  refine sEv.castW (lk15 0 (by omega) h (-1) ⟨hC, ⟨fun _ => rfl, fun z => absurd rfl z⟩⟩) ?_ ?_ ?_
  · exact ⟨rfl, by rw [rw_0], by rw [cl_0], rfl, rfl, rfl, rfl, trivial⟩
  · rfl
  · first | rfl | (simp; done)
