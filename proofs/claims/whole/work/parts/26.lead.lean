/-! ===== contracts: Rings, lead ===== -/
section ZC
variable {l : Launch} {M : sM} {d : Nat} {B : sB} {K : sK} {pc p' : Nat} {lv : List (Option Value)} {st : List Value} {h : sH} {M' : sM} {n d' idx : Nat} {As st0 : List Value}
def sZ (l : Launch) (M : sM) (d : Nat) (as : List Value) (h : sH) (R : Value → sH → Prop) : Prop := sCall l M d 0 0 as h (fun r1 h1 => ∃ v, r1 = some v ∧ R v h1)
theorem z_callV1 {R : Value → sH → Prop} {a ci : Nat} {fs : List Value} (hd : decode M.2.1 pc = .ok (.invokevirtual idx, 3)) (F : sVL M.1.cls idx ci M' n) (hc : sZ l M' d' (.ref a :: As) h R) (hn : As.length = n) (hr : h.2 a = .inr (.inr (ci, fs))) (hst : st0 = As.reverse ++ .ref a :: st) (hcat : (st.map fun v => v.category).sum ≤ 8) (hdp : d' + 1 ≤ d) (hB : B.1 ≤ B.2.2.1 ∧ B.2.1 ≤ B.2.2.2) (hp : pc + 3 = p')
    (kk : ∀ v h', R v h' → sEv l M d B K p' lv (v :: st) h') : sEv l M d B K pc lv st0 h := by
  refine e_callV hd F hc hn hr hst hcat hdp hB hp (fun r1 h1 hq => ?_)
  obtain ⟨v, rfl, hv⟩ := hq
  exact kk v h1 hv
end ZC
theorem ldS_0 {x : Gd} {gr r s e : Nat} {W : Wf} {ψ : Nat → Nat → Nat} {S c : Nat} (h : okc x r s S c = false) : ldS x gr r s e W ψ S c = 0 := by unfold ldS; rw [h]; rfl
theorem ldS_1 {x : Gd} {gr r s e : Nat} {W : Wf} {ψ : Nat → Nat → Nat} {S c : Nat} (h : okc x r s S c = true) : ldS x gr r s e W ψ S c = sm (gr + 1) (fun i => if i = 0 then 0 else W S i * ψ (S + 2 ^ c) (i * rtf x gr r s c % x.1.2.2)) := by unfold ldS; rw [if_pos h]
theorem okc_opn {x : Gd} {r s S c : Nat} (hc : c < 6) : bit (mk 6 (fun c => bit (mk 6 (fun c => td x r c && td x s c)) c && !bit S c)) c = okc x r s S c := by
  rw [bit_mk hc, bit_mk hc]; rfl
theorem lo_keep {gr m rt : Nat} {W : Wf} {S c n : Nat} (hS : S < 64) (hc : c < 6) (hb : bit S c = false) {T j : Nat} (hT : pc6 T ≠ pc6 S + 1) : loW gr m rt W S c n T j = W T j := by
  unfold loW
  rw [if_neg (fun z => hT (by rw [z]; exact (bits6 S hS c hc hb).1.2))]
/-- what holds behind all sets below S, and the columns below c of S -/
def LdI (x : Gd) (gr r s e : Nat) (W W1 : Wf) (led : Bool) (S c : Nat) : Prop :=
  (∀ T j, T < 64 → pc6 T ≠ e + 1 → W1 T j = W T j) ∧
  (∀ ψ, Ls (e + 1) gr W1 ψ = sm S (fun S => if pc6 S = e then sm 6 (ldS x gr r s e W ψ S) else 0) + sm c (ldS x gr r s e W ψ S)) ∧ (led = false → ∀ ψ, Ls (e + 1) gr W1 ψ = 0)
theorem LdI.init {x : Gd} {gr r s e : Nat} {W : Wf} : LdI x gr r s e W (fgW W gr (e + 1) 64 1) false 0 0 := by
  have h0 : ∀ ψ, Ls (e + 1) gr (fgW W gr (e + 1) 64 1) ψ = 0 := fun ψ => Ls_zero fun S i hS hp h1 h2 => by
    unfold fgW
    rw [if_pos (Or.inl ⟨hS, hp, h1, h2⟩), Nat.zero_mul]
  refine ⟨fun T j hT hp => ?_, fun ψ => h0 ψ, fun _ => h0⟩
  unfold fgW
  rw [if_neg (by omega)]
theorem LdI.next {x : Gd} {gr r s e : Nat} {W W1 : Wf} {led : Bool} {S : Nat} (h : LdI x gr r s e W W1 led S 6) (hp : pc6 S = e) : LdI x gr r s e W W1 led (S + 1) 0 := by
  refine ⟨h.1, fun ψ => ?_, h.2.2⟩
  rw [h.2.1 ψ, sm_succ (n := S), if_pos hp]; rfl
theorem LdI.skip {x : Gd} {gr r s e : Nat} {W W1 : Wf} {led : Bool} {S : Nat} (h : LdI x gr r s e W W1 led S 0) (hp : ¬ pc6 S = e ∨ ∀ c, c < 6 → okc x r s S c = false) : LdI x gr r s e W W1 led (S + 1) 0 := by
  refine ⟨h.1, fun ψ => ?_, h.2.2⟩
  rw [h.2.1 ψ, sm_succ (n := S)]
  rcases hp with hp | hp
  · rw [if_neg hp]; rfl
  · rw [sm_zero (n := 6) (fun c hc => ldS_0 (hp c hc))]
    split <;> rfl
theorem LdI.skipc {x : Gd} {gr r s e : Nat} {W W1 : Wf} {led : Bool} {S c : Nat} (h : LdI x gr r s e W W1 led S c) (ho : okc x r s S c = false) : LdI x gr r s e W W1 led S (c + 1) := by
  refine ⟨h.1, fun ψ => ?_, h.2.2⟩
  rw [h.2.1 ψ, sm_succ (n := c), ldS_0 ho]; rfl
theorem LdI.lo {x : Gd} (hx : Gok x) {gr r s e : Nat} (hg : Gok2 x gr) {W W1 : Wf} {led : Bool} {S c : Nat} (hS : S < 64) (hc : c < 6) (hp : pc6 S = e) (h : LdI x gr r s e W W1 led S c) (ho : okc x r s S c = true) {led2 : Bool}
    (hl : led2 = false → led = false ∧ sm (gr + 1) (fun i => if i = 0 then 0 else W1 S i) = 0) : LdI x gr r s e W (loW gr x.1.2.2 (rtf x gr r s c) W1 S c (gr + 1)) led2 S (c + 1) := by
  have hb := okc_bit ho
  have hk : ∀ i, W1 S i = W S i := fun i => h.1 S i hS (by omega)
  have key : ∀ ψ, Ls (e + 1) gr (loW gr x.1.2.2 (rtf x gr r s c) W1 S c (gr + 1)) ψ = Ls (e + 1) gr W1 ψ + ldS x gr r s e W ψ S c := by
    intro ψ
    rw [Ls_lo hS hc hb (by omega) (rtf_ok hx hg), ldS_1 ho]
    congr 1
    exact sm_congr fun i _ => by rw [hk]
  refine ⟨fun T j hT hpT => ?_, fun ψ => ?_, fun z ψ => ?_⟩
  · rw [lo_keep hS hc hb (by omega)]; exact h.1 T j hT hpT
  · rw [key ψ, h.2.1 ψ, sm_succ (n := c)]; omega
  · obtain ⟨z1, z2⟩ := hl z
    rw [key ψ, h.2.2 z1 ψ, ldS_1 ho]
    refine (Nat.zero_add _).trans (sm_zero fun i hi => ?_)
    have := sm_eq0 z2 i hi
    by_cases e0 : i = 0
    · exact if_pos e0
    · rw [if_neg e0] at this ⊢
      rw [← hk i, this, Nat.zero_mul]
theorem LdI.fin {x : Gd} {gr r s e : Nat} {W W1 : Wf} {led : Bool} (h : LdI x gr r s e W W1 led 64 0) (ψ : Nat → Nat → Nat) : Ls (e + 1) gr W1 ψ = Ls e gr W (fun S i => sm 6 (fun c => if okc x r s S c then ψ (S + 2 ^ c) (i * rtf x gr r s c % x.1.2.2) else 0)) := by
  rw [h.2.1 ψ, ← ldS_all]; rfl
theorem Gok2.le {x : Gd} (hx : Gok x) {gr : Nat} (h : Gok2 x gr) : 1 ≤ gr ∧ gr ≤ 12 := by
  have := hx.2.2.1.le
  unfold Gok2 at h; omega
set_option maxRecDepth 4000 in
theorem c_Rings_lead {l : Launch} {h : sH} {x : Gd} (hx : Gok x) {k home gr : Nat} {a : Ac} {W : Wf} {rt : Nat → Nat} (hP : RgAt h x k home gr a W rt) (hg : Gok2 x gr) {e r s : Nat} (he : e < 6) (hr : r < 6) (hs : s < 6) (hW : Ls e gr W (fun _ _ => 1) < 2 ^ 31) : sZ l m_Rings_lead 4 [.ref 16, .int (nI (e + 1)), .int (nI r), .int (nI s)] h (fun v h1 => ∃ led, v = .int (sBo led) ∧ ∃ W', RgAt h1 x k home gr a W' (rtf x gr r s) ∧ LdI x gr r s e W W' led 64 0 ∧ FrR h h1) := by
  have hgl := hg.le hx
  have hR := hx.1
  have hC := hx.2.1
  have hM := hx.2.2.1.le
  have hP0 := hP
  obtain ⟨hG, tr, arr, rts, C, V⟩ := hP
  have C0 := C
  obtain ⟨c1, ⟨c2, c3⟩, ⟨c4, c5⟩, ⟨c6, c7⟩⟩ := C
  obtain ⟨V1, V2, V3⟩ := V
  refine en_Rings_lead ?_
  refine e_aload_0 (p' := 1) D_Rings_lead_0 rfl ?_
  refine e_getfield (p' := 4) D_Rings_lead_1 F_Rings_23 (by first | assumption | exact sUp_eq | (rw [sUp_ne (by omega)]; assumption) | (rw [sUp_ne (by omega), sUp_ne (by omega)]; assumption) | (rw [sUp_ne (by omega)]; exact sUp_eq) | (simp [sUp]; done)) (by rfl) rfl ?_
  refine e_iload_2 (p' := 5) D_Rings_lead_4 rfl ?_
  refine x_callV1 (p' := 8) D_Rings_lead_5 V_Rings_88 (c_Num_get c2 c3 (by omega) (by omega)) rfl (by first | assumption | exact sUp_eq | (rw [sUp_ne (by omega)]; assumption) | (rw [sUp_ne (by omega), sUp_ne (by omega)]; assumption) | (rw [sUp_ne (by omega)]; exact sUp_eq) | (simp [sUp]; done)) rfl (Nat.le_of_ble_eq_true rfl) (by decide) ⟨by decide, by decide⟩ rfl ?_
  rw [V1 r hr]
  refine e_aload_0 (p' := 9) D_Rings_lead_8 rfl ?_
  refine e_getfield (p' := 12) D_Rings_lead_9 F_Rings_23 (by first | assumption | exact sUp_eq | (rw [sUp_ne (by omega)]; assumption) | (rw [sUp_ne (by omega), sUp_ne (by omega)]; assumption) | (rw [sUp_ne (by omega)]; exact sUp_eq) | (simp [sUp]; done)) (by rfl) rfl ?_
  refine e_iload_3 (p' := 13) D_Rings_lead_12 rfl ?_
  refine x_callV1 (p' := 16) D_Rings_lead_13 V_Rings_88 (c_Num_get c2 c3 (by omega) (by omega)) rfl (by first | assumption | exact sUp_eq | (rw [sUp_ne (by omega)]; assumption) | (rw [sUp_ne (by omega), sUp_ne (by omega)]; assumption) | (rw [sUp_ne (by omega)]; exact sUp_eq) | (simp [sUp]; done)) rfl (Nat.le_of_ble_eq_true rfl) (by decide) ⟨by decide, by decide⟩ rfl ?_
  rw [V1 s hs]
  refine e_iand (p' := 17) D_Rings_lead_16 rfl ?_
  rw [show gMask x r = mk 6 (td x r) from rfl, show gMask x s = mk 6 (td x s) from rfl, mk_and]
  refine e_istore_4 (p' := 19) D_Rings_lead_17 (Nat.le_of_ble_eq_true rfl) rfl rfl ?_
  refine e_aload_0 (p' := 20) D_Rings_lead_19 rfl ?_
  refine e_iload_4 (p' := 22) D_Rings_lead_20 rfl ?_
  refine e_iload_2 (p' := 23) D_Rings_lead_22 rfl ?_
  refine e_iload_3 (p' := 24) D_Rings_lead_23 rfl ?_
  refine y_callV0 (p' := 27) D_Rings_lead_24 V_Rings_91 (c_Rings_findRatios hx hP0 (by omega) hr hs) rfl (by first | assumption | exact sUp_eq | (rw [sUp_ne (by omega)]; assumption) | (rw [sUp_ne (by omega), sUp_ne (by omega)]; assumption) | (rw [sUp_ne (by omega)]; exact sUp_eq) | (simp [sUp]; done)) rfl (Nat.le_of_ble_eq_true rfl) (by decide) ⟨by decide, by decide⟩ rfl ?_
  rintro h2 ⟨hP2, hF2⟩
  have q16 := hP2.c16
  refine e_aload_0 (p' := 28) D_Rings_lead_27 rfl ?_
  refine e_iload_1 (p' := 29) D_Rings_lead_28 rfl ?_
  refine y_callV0 (p' := 32) D_Rings_lead_29 V_Rings_95 (c_Rings_forgetSetsOf hx hP2 (by omega) (by omega)) rfl (by first | assumption | exact sUp_eq | (rw [sUp_ne (by omega)]; assumption) | (rw [sUp_ne (by omega), sUp_ne (by omega)]; assumption) | (rw [sUp_ne (by omega)]; exact sUp_eq) | (simp [sUp]; done)) rfl (Nat.le_of_ble_eq_true rfl) (by decide) ⟨by decide, by decide⟩ rfl ?_
  rintro h3 ⟨hP3, hF3⟩
  refine e_iconst (v := nI 0) (p' := 33) D_Rings_lead_32 cst_iconst_0 rfl ?_
  refine e_istore_5 (p' := 35) D_Rings_lead_33 (Nat.le_of_ble_eq_true rfl) rfl rfl ?_
  refine e_iconst (v := nI 0) (p' := 36) D_Rings_lead_35 cst_iconst_0 rfl ?_
  refine e_istore_6 (p' := 38) D_Rings_lead_36 (Nat.le_of_ble_eq_true rfl) rfl rfl ?_
  have lk38 : ∀ S : Nat, S ≤ 64 → ∀ (h4 : sH) (W4 : Wf) (led : Bool), (RgAt h4 x k home gr a W4 (rtf x gr r s) ∧ LdI x gr r s e W W4 led S 0 ∧ FrR h h4) → sEv l m_Rings_lead 4 (0, 0, 0, 0) (sKm 0 0 (fun r1 h1 => ∃ v, r1 = some v ∧ (fun v h1 => ∃ led, v = .int (sBo led) ∧ ∃ W', RgAt h1 x k home gr a W' (rtf x gr r s) ∧ LdI x gr r s e W W' led 64 0 ∧ FrR h h1) v h1)) 38 [some (.ref 16), some (.int (nI (e + 1))), some (.int (nI r)), some (.int (nI s)), some (.int (nI (mk 6 (fun c => td x r c && td x s c)))), some (.int (sBo led)), some (.int (nI S)), none, none] [] (h4) := by
    refine lp_up _ ?_ ?_
    · intro h4 W4 led hI
      obtain ⟨hI0, hL4, hF4⟩ := hI
      have q164 := hI0.c16
      refine e_iload_6 (p' := 40) D_Rings_lead_38 rfl ?_
      refine e_bipush (v := nI 64) (p' := 42) D_Rings_lead_40 cst_bipush_64 rfl ?_
      first | refine e_icmpN_ge (q := 116) (p' := 45) D_Rings_lead_42 (by omega) (by omega) rfl rfl (fun hc42 => ?_) (fun hc42 => ?_) | refine e_icmp_ge (q := 116) (p' := 45) D_Rings_lead_42 rfl rfl (fun hc42 => ?_) (fun hc42 => ?_)
      ·
        refine e_iload_5 (p' := 118) D_Rings_lead_116 rfl ?_
        refine e_ireturn (ty := .boolean) D_Rings_lead_118 rfl (by first | rfl | exact sBo_nar _) ⟨by decide, by decide⟩ ?_
        exact ⟨_, rfl, _, rfl, W4, hI0, hL4, hF4⟩
      ·
        exfalso; omega
    · intro S hS ih38 h4 W4 led hI
      obtain ⟨hI0, hL4, hF4⟩ := hI
      have q164 := hI0.c16
      refine e_iload_6 (p' := 40) D_Rings_lead_38 rfl ?_
      refine e_bipush (v := nI 64) (p' := 42) D_Rings_lead_40 cst_bipush_64 rfl ?_
      first | refine e_icmpN_ge (q := 116) (p' := 45) D_Rings_lead_42 (by omega) (by omega) rfl rfl (fun hc42 => ?_) (fun hc42 => ?_) | refine e_icmp_ge (q := 116) (p' := 45) D_Rings_lead_42 rfl rfl (fun hc42 => ?_) (fun hc42 => ?_)
      ·
        exfalso; omega
      ·
        refine e_iload_4 (p' := 47) D_Rings_lead_45 rfl ?_
        refine e_iload_6 (p' := 49) D_Rings_lead_47 rfl ?_
        refine e_iconst (v := (-1)) (p' := 50) D_Rings_lead_49 cst_iconst_m1 rfl ?_
        refine e_ixor (p' := 51) D_Rings_lead_50 rfl ?_
        refine e_iand (p' := 52) D_Rings_lead_51 rfl ?_
        rw [opn6 _ mk_lt S (by omega)]
        have hml := mk_lt (n := 6) (p := fun c => bit (mk 6 (fun c => td x r c && td x s c)) c && !bit S c)
        refine e_istore_7 (p' := 54) D_Rings_lead_52 (Nat.le_of_ble_eq_true rfl) rfl rfl ?_
        refine e_iload_7 (p' := 56) D_Rings_lead_54 rfl ?_
        refine e_ifN_eq (q := 110) (p' := 59) D_Rings_lead_56 (by omega) rfl rfl (fun hc56 => ?_) (fun hc56 => ?_)
        ·
          first | refine e_iincN_6 (n := 1) (p' := 113) D_Rings_lead_110 (Nat.le_of_ble_eq_true rfl) rfl rfl ?_ | refine e_iinc_6 (p' := 113) D_Rings_lead_110 (Nat.le_of_ble_eq_true rfl) rfl rfl rfl ?_
          refine e_goto (p' := 38) D_Rings_lead_113 rfl ?_
          refine sEv.castW (ih38 h4 W4 led ⟨hI0, hL4.skip (Or.inr (fun c hc => by rw [← okc_opn hc]; exact (bit_mk hc).trans (opn_0 hc56 hc))), hF4⟩) ?_ ?_ ?_
          · first | exact lvW_rfl _ | (simp [lvW]; done) | (simp [lvW, *]; done) | (simp [lvW]; omega)
          · rfl
          · first | rfl | (simp; done)
        ·
          refine e_iload_6 (p' := 61) D_Rings_lead_59 rfl ?_
          refine x_callS1 (p' := 64) D_Rings_lead_61 S_Rings_98 (c_Int_bitCount (by omega)) rfl rfl (Nat.le_of_ble_eq_true rfl) (by decide) ⟨by decide, by decide⟩ rfl ?_
          refine e_iload_1 (p' := 65) D_Rings_lead_64 rfl ?_
          refine e_iconst (v := nI 1) (p' := 66) D_Rings_lead_65 cst_iconst_1 rfl ?_
          first | refine e_isubN (p' := 67) D_Rings_lead_66 (by omega) rfl ?_ | refine e_isub (p' := 67) D_Rings_lead_66 rfl ?_
          have hpl := pc6_le S (by omega)
          refine e_icmpN_ne (q := 110) (p' := 70) D_Rings_lead_67 (by omega) (by omega) rfl rfl (fun hc67 => ?_) (fun hc67 => ?_)
          ·
            first | refine e_iincN_6 (n := 1) (p' := 113) D_Rings_lead_110 (Nat.le_of_ble_eq_true rfl) rfl rfl ?_ | refine e_iinc_6 (p' := 113) D_Rings_lead_110 (Nat.le_of_ble_eq_true rfl) rfl rfl rfl ?_
            refine e_goto (p' := 38) D_Rings_lead_113 rfl ?_
            refine sEv.castW (ih38 h4 W4 led ⟨hI0, hL4.skip (Or.inl (by omega)), hF4⟩) ?_ ?_ ?_
            · first | exact lvW_rfl _ | (simp [lvW]; done) | (simp [lvW, *]; done) | (simp [lvW]; omega)
            · rfl
            · first | rfl | (simp; done)
          ·
            refine e_iconst (v := nI 0) (p' := 71) D_Rings_lead_70 cst_iconst_0 rfl ?_
            refine e_istore_8 (p' := 73) D_Rings_lead_71 (Nat.le_of_ble_eq_true rfl) rfl rfl ?_
            have lk73 : ∀ c : Nat, c ≤ 6 → ∀ (h5 : sH) (W5 : Wf) (led5 : Bool), (RgAt h5 x k home gr a W5 (rtf x gr r s) ∧ LdI x gr r s e W W5 led5 S c ∧ FrR h h5) → sEv l m_Rings_lead 4 (0, 0, 0, 0) (sKm 0 0 (fun r1 h1 => ∃ v, r1 = some v ∧ (fun v h1 => ∃ led, v = .int (sBo led) ∧ ∃ W', RgAt h1 x k home gr a W' (rtf x gr r s) ∧ LdI x gr r s e W W' led 64 0 ∧ FrR h h1) v h1)) 73 [some (.ref 16), some (.int (nI (e + 1))), some (.int (nI r)), some (.int (nI s)), some (.int (nI (mk 6 (fun c => td x r c && td x s c)))), some (.int (sBo led5)), some (.int (nI S)), some (.int (nI (mk 6 (fun c => bit (mk 6 (fun c => td x r c && td x s c)) c && !bit S c)))), some (.int (nI c))] [] (h5) := by
              refine lp_up _ ?_ ?_
              · intro h5 W5 led5 hI5
                obtain ⟨hI5, hL5, hF5⟩ := hI5
                have q165 := hI5.c16
                refine e_iload_8 (p' := 75) D_Rings_lead_73 rfl ?_
                refine e_bipush (v := nI 6) (p' := 77) D_Rings_lead_75 cst_bipush_6 rfl ?_
                first | refine e_icmpN_ge (q := 110) (p' := 80) D_Rings_lead_77 (by omega) (by omega) rfl rfl (fun hc77 => ?_) (fun hc77 => ?_) | refine e_icmp_ge (q := 110) (p' := 80) D_Rings_lead_77 rfl rfl (fun hc77 => ?_) (fun hc77 => ?_)
                ·
                  first | refine e_iincN_6 (n := 1) (p' := 113) D_Rings_lead_110 (Nat.le_of_ble_eq_true rfl) rfl rfl ?_ | refine e_iinc_6 (p' := 113) D_Rings_lead_110 (Nat.le_of_ble_eq_true rfl) rfl rfl rfl ?_
                  refine e_goto (p' := 38) D_Rings_lead_113 rfl ?_
                  refine sEv.castW (ih38 h5 W5 led5 ⟨hI5, hL5.next (by omega), hF5⟩) ?_ ?_ ?_
                  · first | exact lvW_rfl _ | (simp [lvW]; done) | (simp [lvW, *]; done) | (simp [lvW]; omega)
                  · rfl
                  · first | rfl | (simp; done)
                ·
                  exfalso; omega
              · intro c hc ih73 h5 W5 led5 hI5
                obtain ⟨hI5, hL5, hF5⟩ := hI5
                have q165 := hI5.c16
                refine e_iload_8 (p' := 75) D_Rings_lead_73 rfl ?_
                refine e_bipush (v := nI 6) (p' := 77) D_Rings_lead_75 cst_bipush_6 rfl ?_
                first | refine e_icmpN_ge (q := 110) (p' := 80) D_Rings_lead_77 (by omega) (by omega) rfl rfl (fun hc77 => ?_) (fun hc77 => ?_) | refine e_icmp_ge (q := 110) (p' := 80) D_Rings_lead_77 rfl rfl (fun hc77 => ?_) (fun hc77 => ?_)
                ·
                  exfalso; omega
                ·
                  refine e_iload_7 (p' := 82) D_Rings_lead_80 rfl ?_
                  refine e_iload_8 (p' := 84) D_Rings_lead_82 rfl ?_
                  refine x_callSN1 (p' := 87) D_Rings_lead_84 SN_Rings_84 (c_O_holds mk_lt (by omega)) rfl rfl (Nat.le_of_ble_eq_true rfl) (by decide) ⟨by decide, by decide⟩ rfl ?_
                  rw [okc_opn (by omega)]
                  refine e_ifB_eq (q := 104) (p' := 90) D_Rings_lead_87 rfl rfl (fun hc87 => ?_) (fun hc87 => ?_)
                  ·
                    first | refine e_iincN_8 (n := 1) (p' := 107) D_Rings_lead_104 (Nat.le_of_ble_eq_true rfl) rfl rfl ?_ | refine e_iinc_8 (p' := 107) D_Rings_lead_104 (Nat.le_of_ble_eq_true rfl) rfl rfl rfl ?_
                    refine e_goto (p' := 73) D_Rings_lead_107 rfl ?_
                    refine sEv.castW (ih73 h5 W5 led5 ⟨hI5, hL5.skipc hc87, hF5⟩) ?_ ?_ ?_
                    · first | exact lvW_rfl _ | (simp [lvW]; done) | (simp [lvW, *]; done) | (simp [lvW]; omega)
                    · rfl
                    · first | rfl | (simp; done)
                  ·
                    refine e_aload_0 (p' := 91) D_Rings_lead_90 rfl ?_
                    refine e_iload_6 (p' := 93) D_Rings_lead_91 rfl ?_
                    refine e_iload_8 (p' := 95) D_Rings_lead_93 rfl ?_
                    refine y_callV1 (p' := 98) D_Rings_lead_95 V_Rings_103 (c_Rings_leadOn hx hI5 hgl.2 (by omega) (by omega) (okc_bit hc87) (by have := (rtf_lt hx (gr := gr) (r := r) (s := s) (c := c)).2; have := hx.2.2.1.le; omega) (rtf_ok hx hg) (fun i h1 h2 => by rw [hL5.1 S i (by omega) (by omega)]; exact Nat.lt_of_le_of_lt (Ls_ge (by omega) (by omega) h1 h2) hW)) rfl (by first | assumption | exact sUp_eq | (rw [sUp_ne (by omega)]; assumption) | (rw [sUp_ne (by omega), sUp_ne (by omega)]; assumption) | (rw [sUp_ne (by omega)]; exact sUp_eq) | (simp [sUp]; done)) rfl (Nat.le_of_ble_eq_true rfl) (by decide) ⟨by decide, by decide⟩ rfl ?_
                    rintro h6 ⟨hP6, hF6⟩
                    refine e_ifB_eq (q := 104) (p' := 101) D_Rings_lead_98 rfl rfl (fun hc98 => ?_) (fun hc98 => ?_)
                    ·
                      first | refine e_iincN_8 (n := 1) (p' := 107) D_Rings_lead_104 (Nat.le_of_ble_eq_true rfl) rfl rfl ?_ | refine e_iinc_8 (p' := 107) D_Rings_lead_104 (Nat.le_of_ble_eq_true rfl) rfl rfl rfl ?_
                      refine e_goto (p' := 73) D_Rings_lead_107 rfl ?_
                      refine sEv.castW (ih73 h6 _ led5 ⟨hP6, hL5.lo hx hg (by omega) (by omega) (by omega) hc87 (fun z => ⟨z, by simpa using hc98⟩), hF5.tr hF6⟩) ?_ ?_ ?_
                      · first | exact lvW_rfl _ | (simp [lvW]; done) | (simp [lvW, *]; done) | (simp [lvW]; omega)
                      · rfl
                      · first | rfl | (simp; done)
                    ·
                      refine e_iconst (v := nI 1) (p' := 102) D_Rings_lead_101 cst_iconst_1 rfl ?_
                      refine e_istore_5 (p' := 104) D_Rings_lead_102 (Nat.le_of_ble_eq_true rfl) rfl rfl ?_
                      first | refine e_iincN_8 (n := 1) (p' := 107) D_Rings_lead_104 (Nat.le_of_ble_eq_true rfl) rfl rfl ?_ | refine e_iinc_8 (p' := 107) D_Rings_lead_104 (Nat.le_of_ble_eq_true rfl) rfl rfl rfl ?_
                      refine e_goto (p' := 73) D_Rings_lead_107 rfl ?_
                      refine sEv.castW (ih73 h6 _ true ⟨hP6, hL5.lo hx hg (by omega) (by omega) (by omega) hc87 (fun z => by cases z), hF5.tr hF6⟩) ?_ ?_ ?_
                      · first | exact lvW_rfl _ | (simp [lvW]; done) | (simp [lvW, *]; done) | (simp [lvW]; omega)
                      · rfl
                      · first | rfl | (simp; done)
            refine sEv.castW (lk73 0 (by omega) h4 W4 led ⟨hI0, hL4, hF4⟩) ?_ ?_ ?_
            · first | exact lvW_rfl _ | (simp [lvW]; done) | (simp [lvW, *]; done) | (simp [lvW]; omega)
            · rfl
            · first | rfl | (simp; done)
  refine sEv.castW (lk38 0 (by omega) h3 _ false ⟨hP3, LdI.init, hF2.tr hF3⟩) ?_ ?_ ?_
  · first | exact lvW_rfl _ | (simp [lvW]; done) | (simp [lvW, *]; done) | (simp [lvW]; omega)
  · rfl
  · first | rfl | (simp; done)
