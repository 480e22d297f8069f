/-! ===== contracts: Rings, noteWrong, collect, lead ===== -/
def AccOk (a : Ac) : Prop := a.2.1 ≤ a.1 ∧ a.2.2.1 < 64 ∧ a.2.2.2 < 64
theorem noteW_ok {a : Ac} (h : AccOk a) {n r c : Nat} (hr : r < 64) (hc : c < 64) : AccOk (noteW a n r c) ∧ (noteW a n r c).1 = a.1 + n := by
  unfold noteW
  split
  · rename_i e
    exact ⟨h, by rw [e]; rfl⟩
  · obtain ⟨h1, h2, h3⟩ := h
    refine ⟨⟨by show a.2.1 + n ≤ a.1 + n; omega, ?_⟩, rfl⟩
    show (if a.2.1 = 0 ∨ r < a.2.2.1 ∨ r = a.2.2.1 ∧ c < a.2.2.2 then (r, c) else a.2.2).1 < 64 ∧ (if a.2.1 = 0 ∨ r < a.2.2.1 ∨ r = a.2.2.1 ∧ c < a.2.2.2 then (r, c) else a.2.2).2 < 64
    split
    · exact ⟨hr, hc⟩
    · exact ⟨h2, h3⟩
theorem colI_ok {W : Wf} {S r : Nat} (hS : S < 64) (hr : r < 64) {a : Ac} (h : AccOk a) : ∀ n, AccOk (colI W S r n a) ∧ (colI W S r n a).1 = a.1 + sm n (fun i => if i < 2 then 0 else W S i) := by
  intro n
  induction n with
  | zero => exact ⟨h, rfl⟩
  | succ n ih =>
    unfold colI
    split
    · rename_i e
      exact ⟨ih.1, by rw [ih.2, sm_succ, if_pos e]; rfl⟩
    · rename_i e
      obtain ⟨g1, g2⟩ := noteW_ok ih.1 (n := W S n) hr hS
      exact ⟨g1, by rw [g2, ih.2, sm_succ, if_neg e]; omega⟩
theorem sm_12 {gr : Nat} (hg : 1 ≤ gr) {f : Nat → Nat} : f 1 + sm (gr + 1) (fun i => if i < 2 then 0 else f i) = sm (gr + 1) (fun i => if i = 0 then 0 else f i * 1) := by
  rw [← sm_pick' (n := gr + 1) (k := 1) (f := f) (by omega), ← sm_add]
  refine sm_congr fun i _ => ?_
  by_cases e0 : i = 0
  · subst e0; simp
  · by_cases e1 : i = 1
    · subst e1; simp
    · simp [e0, e1]; omega
theorem colS_ok {W : Wf} {k gr r : Nat} (hg : 1 ≤ gr) (hr : r < 64) {a : Ac} (h : AccOk a) : ∀ S, S ≤ 64 → AccOk (colS W k gr r S a) ∧ (colS W k gr r S a).1 = a.1 + sm S (fun S => if pc6 S = k then sm (gr + 1) (fun i => if i = 0 then 0 else W S i * 1) else 0) := by
  intro S
  induction S with
  | zero => exact fun _ => ⟨h, rfl⟩
  | succ S ih =>
    intro hS
    obtain ⟨h1, h2⟩ := ih (by omega)
    unfold colS
    split
    · rename_i e
      have h3 : AccOk ((colS W k gr r S a).1 + W S 1, (colS W k gr r S a).2) := ⟨Nat.le_trans h1.1 (Nat.le_add_right _ _), h1.2⟩
      obtain ⟨g1, g2⟩ := colI_ok (W := W) (S := S) (r := r) (by omega) hr h3 (gr + 1)
      refine ⟨g1, ?_⟩
      rw [g2, sm_succ (n := S), if_pos e, ← sm_12 hg]
      show (colS W k gr r S a).1 + W S 1 + _ = _
      rw [h2]; omega
    · rename_i e
      exact ⟨h1, by rw [h2, sm_succ, if_neg e]; rfl⟩
theorem colI_s {W : Wf} {S r i : Nat} {a : Ac} (h : 2 ≤ i) : colI W S r (i + 1) a = noteW (colI W S r i a) (W S i) r S := by
  rw [show colI W S r (i + 1) a = (if i < 2 then colI W S r i a else noteW (colI W S r i a) (W S i) r S) from rfl, if_neg (by omega)]
theorem colS_go {W : Wf} {k gr r S : Nat} {a : Ac} (e : pc6 S = k) : colS W k gr r (S + 1) a = colI W S r (gr + 1) ((colS W k gr r S a).1 + W S 1, (colS W k gr r S a).2) := by
  rw [show colS W k gr r (S + 1) a = (if pc6 S = k then colI W S r (gr + 1) ((colS W k gr r S a).1 + W S 1, (colS W k gr r S a).2) else colS W k gr r S a) from rfl, if_pos e]
theorem colS_no {W : Wf} {k gr r S : Nat} {a : Ac} (e : ¬ pc6 S = k) : colS W k gr r (S + 1) a = colS W k gr r S a := by
  rw [show colS W k gr r (S + 1) a = (if pc6 S = k then colI W S r (gr + 1) ((colS W k gr r S a).1 + W S 1, (colS W k gr r S a).2) else colS W k gr r S a) from rfl, if_neg e]
theorem sm_mono {n m : Nat} {f : Nat → Nat} (h : n ≤ m) : sm n f ≤ sm m f := by
  induction m with
  | zero => rw [show n = 0 by omega]; exact Nat.le_refl _
  | succ m ih =>
    by_cases e : n = m + 1
    · rw [e]; exact Nat.le_refl _
    · rw [sm_succ]; have := ih (by omega); omega
/-- all ways over one column more -/
def ldS (x : Gd) (gr r s e : Nat) (W : Wf) (ψ : Nat → Nat → Nat) (S c : Nat) : Nat := if okc x r s S c then sm (gr + 1) (fun i => if i = 0 then 0 else W S i * ψ (S + 2 ^ c) (i * rtf x gr r s c % x.1.2.2)) else 0
theorem ldS_all {x : Gd} {gr r s e : Nat} {W : Wf} {ψ : Nat → Nat → Nat} : sm 64 (fun S => if pc6 S = e then sm 6 (ldS x gr r s e W ψ S) else 0) = Ls e gr W (fun S i => sm 6 (fun c => if okc x r s S c then ψ (S + 2 ^ c) (i * rtf x gr r s c % x.1.2.2) else 0)) := by
  refine sm_congr fun S _ => ?_
  by_cases h : pc6 S = e
  · rw [if_pos h, if_pos h]
    have h1 : ∀ i, (if i = 0 then 0 else W S i * sm 6 (fun c => if okc x r s S c then ψ (S + 2 ^ c) (i * rtf x gr r s c % x.1.2.2) else 0)) = sm 6 (fun c => if okc x r s S c then (if i = 0 then 0 else W S i * ψ (S + 2 ^ c) (i * rtf x gr r s c % x.1.2.2)) else 0) := by
      intro i
      by_cases e0 : i = 0
      · rw [if_pos e0]
        exact (sm_zero fun c _ => by split <;> simp [e0]).symm
      · rw [if_neg e0, ← sm_mul]
        refine sm_congr fun c _ => ?_
        split
        · rfl
        · exact Nat.mul_zero _
    rw [show sm (gr + 1) (fun i => if i = 0 then 0 else W S i * sm 6 (fun c => if okc x r s S c then ψ (S + 2 ^ c) (i * rtf x gr r s c % x.1.2.2) else 0)) = sm (gr + 1) (fun i => sm 6 (fun c => if okc x r s S c then (if i = 0 then 0 else W S i * ψ (S + 2 ^ c) (i * rtf x gr r s c % x.1.2.2)) else 0)) from sm_congr fun i _ => h1 i, sm_comm]
    refine sm_congr fun c _ => ?_
    unfold ldS
    split
    · rfl
    · exact (sm_zero fun i _ => rfl).symm
  · rw [if_neg h, if_neg h]
theorem okc_bit {x : Gd} {r s S c : Nat} (h : okc x r s S c = true) : bit S c = false := by
  unfold okc at h
  rw [Bool.and_eq_true] at h
  simpa using h.2
theorem sm_eq0 {n : Nat} {f : Nat → Nat} (h : sm n f = 0) : ∀ k, k < n → f k = 0 := by
  intro k hk
  have := sm_ge (f := f) hk
  omega
set_option maxRecDepth 4000 in
theorem c_Rings_noteWrong {l : Launch} {h : sH} {x : Gd} (hx : Gok x) {k home gr : Nat} {a : Ac} {W : Wf} {rt : Nat → Nat} (hP : RgAt h x k home gr a W rt) (hA : AccOk a) (ha : a.1 < 2 ^ 31) {n r c : Nat} (hn : n < 2 ^ 31) (hr : r < 64) (hc : c < 64) : sY l m_Rings_noteWrong 0 [.ref 16, .int (nI n), .int (nI r), .int (nI c)] h (none) (fun h1 => RgAt h1 x k home gr (noteW a n r c) W rt ∧ FrR h h1) := by
  have c1 := hP.c16
  obtain ⟨hA1, hA2, hA3⟩ := hA
  refine en_Rings_noteWrong ?_
  refine e_iload_1 (p' := 1) D_Rings_noteWrong_0 rfl ?_
  refine e_ifN_ne (q := 5) (p' := 4) D_Rings_noteWrong_1 (by omega) rfl rfl (fun hc1 => ?_) (fun hc1 => ?_)
  ·
    have jn36 : ∀ (e : Bool), e = decide (r < a.2.2.1 ∨ r = a.2.2.1 ∧ c < a.2.2.2) → sEv l m_Rings_noteWrong 0 (0, 0, 0, 0) (sKm 0 0 (fun r1 h1 => r1 = none ∧ (fun h1 => RgAt h1 x k home gr (noteW a n r c) W rt ∧ FrR h h1) h1)) 36 [some (.ref 16), some (.int (nI n)), some (.int (nI r)), some (.int (nI c)), some (.int (sBo e))] [] h := by
      intro e he
      refine e_aload_0 (p' := 37) D_Rings_noteWrong_36 rfl ?_
      refine e_getfield (p' := 40) D_Rings_noteWrong_37 F_Rings_51 (by first | assumption | exact sUp_eq | (rw [sUp_ne (by omega)]; assumption) | (rw [sUp_ne (by omega), sUp_ne (by omega)]; assumption) | (rw [sUp_ne (by omega)]; exact sUp_eq) | (simp [sUp]; done)) (by rfl) rfl ?_
      refine e_ifN_eq (q := 48) (p' := 43) D_Rings_noteWrong_40 (by omega) rfl rfl (fun hc40 => ?_) (fun hc40 => ?_)
      ·
        refine e_aload_0 (p' := 49) D_Rings_noteWrong_48 rfl ?_
        refine e_iload_2 (p' := 50) D_Rings_noteWrong_49 rfl ?_
        refine e_putfield (p' := 53) D_Rings_noteWrong_50 F_Rings_54 (Or.inl rfl) (by first | assumption | exact sUp_eq | (rw [sUp_ne (by omega)]; assumption) | (rw [sUp_ne (by omega), sUp_ne (by omega)]; assumption) | (rw [sUp_ne (by omega)]; exact sUp_eq) | (simp [sUp]; done)) (fun _ => ⟨rfl, rfl⟩) (Nat.le_of_ble_eq_true rfl) (by rfl) rfl ?_
        try dsimp only [List.set]
        refine e_aload_0 (p' := 54) D_Rings_noteWrong_53 rfl ?_
        refine e_iload_3 (p' := 55) D_Rings_noteWrong_54 rfl ?_
        refine e_putfield (p' := 58) D_Rings_noteWrong_55 F_Rings_57 (Or.inl rfl) (by first | assumption | exact sUp_eq | (rw [sUp_ne (by omega)]; assumption) | (rw [sUp_ne (by omega), sUp_ne (by omega)]; assumption) | (rw [sUp_ne (by omega)]; exact sUp_eq) | (simp [sUp]; done)) (fun _ => ⟨rfl, rfl⟩) (Nat.le_of_ble_eq_true rfl) (by rfl) rfl ?_
        try dsimp only [List.set]
        rw [sUp_sUp]
        refine e_aload_0 (p' := 59) D_Rings_noteWrong_58 rfl ?_
        refine e_dup (p' := 60) D_Rings_noteWrong_59 rfl rfl ?_
        refine e_getfield (p' := 63) D_Rings_noteWrong_60 F_Rings_48 (by first | assumption | exact sUp_eq | (rw [sUp_ne (by omega)]; assumption) | (rw [sUp_ne (by omega), sUp_ne (by omega)]; assumption) | (rw [sUp_ne (by omega)]; exact sUp_eq) | (simp [sUp]; done)) (by rfl) rfl ?_
        refine e_iload_1 (p' := 64) D_Rings_noteWrong_63 rfl ?_
        first | refine e_iaddN (p' := 65) D_Rings_noteWrong_64 rfl ?_ | refine e_iadd (p' := 65) D_Rings_noteWrong_64 rfl ?_
        refine e_putfield (p' := 68) D_Rings_noteWrong_65 F_Rings_48 (Or.inl rfl) (by first | assumption | exact sUp_eq | (rw [sUp_ne (by omega)]; assumption) | (rw [sUp_ne (by omega), sUp_ne (by omega)]; assumption) | (rw [sUp_ne (by omega)]; exact sUp_eq) | (simp [sUp]; done)) (fun _ => ⟨rfl, rfl⟩) (Nat.le_of_ble_eq_true rfl) (by rfl) rfl ?_
        try dsimp only [List.set]
        rw [sUp_sUp]
        refine e_aload_0 (p' := 69) D_Rings_noteWrong_68 rfl ?_
        refine e_dup (p' := 70) D_Rings_noteWrong_69 rfl rfl ?_
        refine e_getfield (p' := 73) D_Rings_noteWrong_70 F_Rings_51 (by first | assumption | exact sUp_eq | (rw [sUp_ne (by omega)]; assumption) | (rw [sUp_ne (by omega), sUp_ne (by omega)]; assumption) | (rw [sUp_ne (by omega)]; exact sUp_eq) | (simp [sUp]; done)) (by rfl) rfl ?_
        refine e_iload_1 (p' := 74) D_Rings_noteWrong_73 rfl ?_
        first | refine e_iaddN (p' := 75) D_Rings_noteWrong_74 rfl ?_ | refine e_iadd (p' := 75) D_Rings_noteWrong_74 rfl ?_
        refine e_putfield (p' := 78) D_Rings_noteWrong_75 F_Rings_51 (Or.inl rfl) (by first | assumption | exact sUp_eq | (rw [sUp_ne (by omega)]; assumption) | (rw [sUp_ne (by omega), sUp_ne (by omega)]; assumption) | (rw [sUp_ne (by omega)]; exact sUp_eq) | (simp [sUp]; done)) (fun _ => ⟨rfl, rfl⟩) (Nat.le_of_ble_eq_true rfl) (by rfl) rfl ?_
        try dsimp only [List.set]
        rw [sUp_sUp]
        refine e_return D_Rings_noteWrong_78 rfl ⟨by decide, by decide⟩ ?_
        refine ⟨rfl, ?_, FrR.rf.up (by omega) (by omega)⟩
        unfold noteW
        rw [if_neg hc1, if_pos (Or.inl hc40)]
        exact RgAt.head (k' := k) (home' := home) (gr' := gr) (a' := (a.1 + n, a.2.1 + n, r, c)) hP
      ·
        refine e_iload_4 (p' := 45) D_Rings_noteWrong_43 rfl ?_
        refine e_ifB_eq (q := 58) (p' := 48) D_Rings_noteWrong_45 rfl rfl (fun hc45 => ?_) (fun hc45 => ?_)
        ·
          refine e_aload_0 (p' := 59) D_Rings_noteWrong_58 rfl ?_
          refine e_dup (p' := 60) D_Rings_noteWrong_59 rfl rfl ?_
          refine e_getfield (p' := 63) D_Rings_noteWrong_60 F_Rings_48 (by first | assumption | exact sUp_eq | (rw [sUp_ne (by omega)]; assumption) | (rw [sUp_ne (by omega), sUp_ne (by omega)]; assumption) | (rw [sUp_ne (by omega)]; exact sUp_eq) | (simp [sUp]; done)) (by rfl) rfl ?_
          refine e_iload_1 (p' := 64) D_Rings_noteWrong_63 rfl ?_
          first | refine e_iaddN (p' := 65) D_Rings_noteWrong_64 rfl ?_ | refine e_iadd (p' := 65) D_Rings_noteWrong_64 rfl ?_
          refine e_putfield (p' := 68) D_Rings_noteWrong_65 F_Rings_48 (Or.inl rfl) (by first | assumption | exact sUp_eq | (rw [sUp_ne (by omega)]; assumption) | (rw [sUp_ne (by omega), sUp_ne (by omega)]; assumption) | (rw [sUp_ne (by omega)]; exact sUp_eq) | (simp [sUp]; done)) (fun _ => ⟨rfl, rfl⟩) (Nat.le_of_ble_eq_true rfl) (by rfl) rfl ?_
          try dsimp only [List.set]
          refine e_aload_0 (p' := 69) D_Rings_noteWrong_68 rfl ?_
          refine e_dup (p' := 70) D_Rings_noteWrong_69 rfl rfl ?_
          refine e_getfield (p' := 73) D_Rings_noteWrong_70 F_Rings_51 (by first | assumption | exact sUp_eq | (rw [sUp_ne (by omega)]; assumption) | (rw [sUp_ne (by omega), sUp_ne (by omega)]; assumption) | (rw [sUp_ne (by omega)]; exact sUp_eq) | (simp [sUp]; done)) (by rfl) rfl ?_
          refine e_iload_1 (p' := 74) D_Rings_noteWrong_73 rfl ?_
          first | refine e_iaddN (p' := 75) D_Rings_noteWrong_74 rfl ?_ | refine e_iadd (p' := 75) D_Rings_noteWrong_74 rfl ?_
          refine e_putfield (p' := 78) D_Rings_noteWrong_75 F_Rings_51 (Or.inl rfl) (by first | assumption | exact sUp_eq | (rw [sUp_ne (by omega)]; assumption) | (rw [sUp_ne (by omega), sUp_ne (by omega)]; assumption) | (rw [sUp_ne (by omega)]; exact sUp_eq) | (simp [sUp]; done)) (fun _ => ⟨rfl, rfl⟩) (Nat.le_of_ble_eq_true rfl) (by rfl) rfl ?_
          try dsimp only [List.set]
          rw [sUp_sUp]
          refine e_return D_Rings_noteWrong_78 rfl ⟨by decide, by decide⟩ ?_
          refine ⟨rfl, ?_, FrR.rf.up (by omega) (by omega)⟩
          unfold noteW
          rw [if_neg hc1, if_neg (fun z => z.elim hc40 (of_decide_eq_false (he.symm.trans hc45)))]
          exact RgAt.head (k' := k) (home' := home) (gr' := gr) (a' := (a.1 + n, a.2.1 + n, a.2.2)) hP
        ·
          refine e_aload_0 (p' := 49) D_Rings_noteWrong_48 rfl ?_
          refine e_iload_2 (p' := 50) D_Rings_noteWrong_49 rfl ?_
          refine e_putfield (p' := 53) D_Rings_noteWrong_50 F_Rings_54 (Or.inl rfl) (by first | assumption | exact sUp_eq | (rw [sUp_ne (by omega)]; assumption) | (rw [sUp_ne (by omega), sUp_ne (by omega)]; assumption) | (rw [sUp_ne (by omega)]; exact sUp_eq) | (simp [sUp]; done)) (fun _ => ⟨rfl, rfl⟩) (Nat.le_of_ble_eq_true rfl) (by rfl) rfl ?_
          try dsimp only [List.set]
          refine e_aload_0 (p' := 54) D_Rings_noteWrong_53 rfl ?_
          refine e_iload_3 (p' := 55) D_Rings_noteWrong_54 rfl ?_
          refine e_putfield (p' := 58) D_Rings_noteWrong_55 F_Rings_57 (Or.inl rfl) (by first | assumption | exact sUp_eq | (rw [sUp_ne (by omega)]; assumption) | (rw [sUp_ne (by omega), sUp_ne (by omega)]; assumption) | (rw [sUp_ne (by omega)]; exact sUp_eq) | (simp [sUp]; done)) (fun _ => ⟨rfl, rfl⟩) (Nat.le_of_ble_eq_true rfl) (by rfl) rfl ?_
          try dsimp only [List.set]
          rw [sUp_sUp]
          refine e_aload_0 (p' := 59) D_Rings_noteWrong_58 rfl ?_
          refine e_dup (p' := 60) D_Rings_noteWrong_59 rfl rfl ?_
          refine e_getfield (p' := 63) D_Rings_noteWrong_60 F_Rings_48 (by first | assumption | exact sUp_eq | (rw [sUp_ne (by omega)]; assumption) | (rw [sUp_ne (by omega), sUp_ne (by omega)]; assumption) | (rw [sUp_ne (by omega)]; exact sUp_eq) | (simp [sUp]; done)) (by rfl) rfl ?_
          refine e_iload_1 (p' := 64) D_Rings_noteWrong_63 rfl ?_
          first | refine e_iaddN (p' := 65) D_Rings_noteWrong_64 rfl ?_ | refine e_iadd (p' := 65) D_Rings_noteWrong_64 rfl ?_
          refine e_putfield (p' := 68) D_Rings_noteWrong_65 F_Rings_48 (Or.inl rfl) (by first | assumption | exact sUp_eq | (rw [sUp_ne (by omega)]; assumption) | (rw [sUp_ne (by omega), sUp_ne (by omega)]; assumption) | (rw [sUp_ne (by omega)]; exact sUp_eq) | (simp [sUp]; done)) (fun _ => ⟨rfl, rfl⟩) (Nat.le_of_ble_eq_true rfl) (by rfl) rfl ?_
          try dsimp only [List.set]
          rw [sUp_sUp]
          refine e_aload_0 (p' := 69) D_Rings_noteWrong_68 rfl ?_
          refine e_dup (p' := 70) D_Rings_noteWrong_69 rfl rfl ?_
          refine e_getfield (p' := 73) D_Rings_noteWrong_70 F_Rings_51 (by first | assumption | exact sUp_eq | (rw [sUp_ne (by omega)]; assumption) | (rw [sUp_ne (by omega), sUp_ne (by omega)]; assumption) | (rw [sUp_ne (by omega)]; exact sUp_eq) | (simp [sUp]; done)) (by rfl) rfl ?_
          refine e_iload_1 (p' := 74) D_Rings_noteWrong_73 rfl ?_
          first | refine e_iaddN (p' := 75) D_Rings_noteWrong_74 rfl ?_ | refine e_iadd (p' := 75) D_Rings_noteWrong_74 rfl ?_
          refine e_putfield (p' := 78) D_Rings_noteWrong_75 F_Rings_51 (Or.inl rfl) (by first | assumption | exact sUp_eq | (rw [sUp_ne (by omega)]; assumption) | (rw [sUp_ne (by omega), sUp_ne (by omega)]; assumption) | (rw [sUp_ne (by omega)]; exact sUp_eq) | (simp [sUp]; done)) (fun _ => ⟨rfl, rfl⟩) (Nat.le_of_ble_eq_true rfl) (by rfl) rfl ?_
          try dsimp only [List.set]
          rw [sUp_sUp]
          refine e_return D_Rings_noteWrong_78 rfl ⟨by decide, by decide⟩ ?_
          refine ⟨rfl, ?_, FrR.rf.up (by omega) (by omega)⟩
          unfold noteW
          rw [if_neg hc1, if_pos (Or.inr (of_decide_eq_true (he.symm.trans hc45)))]
          exact RgAt.head (k' := k) (home' := home) (gr' := gr) (a' := (a.1 + n, a.2.1 + n, r, c)) hP
    refine e_iload_2 (p' := 6) D_Rings_noteWrong_5 rfl ?_
    refine e_aload_0 (p' := 7) D_Rings_noteWrong_6 rfl ?_
    refine e_getfield (p' := 10) D_Rings_noteWrong_7 F_Rings_54 (by first | assumption | exact sUp_eq | (rw [sUp_ne (by omega)]; assumption) | (rw [sUp_ne (by omega), sUp_ne (by omega)]; assumption) | (rw [sUp_ne (by omega)]; exact sUp_eq) | (simp [sUp]; done)) (by rfl) rfl ?_
    refine e_icmpN_lt (q := 29) (p' := 13) D_Rings_noteWrong_10 (by omega) (by omega) rfl rfl (fun hc10 => ?_) (fun hc10 => ?_)
    ·
      refine e_iconst (v := nI 1) (p' := 30) D_Rings_noteWrong_29 cst_iconst_1 rfl ?_
      refine e_goto (p' := 34) D_Rings_noteWrong_30 rfl ?_
      refine e_istore_4 (p' := 36) D_Rings_noteWrong_34 (Nat.le_of_ble_eq_true rfl) rfl rfl ?_
      refine sEv.castW (jn36 true (by rw [decide_eq_true (by omega)])) ?_ ?_ ?_
      · first | exact lvW_rfl _ | (simp [lvW]; done) | (simp [lvW, *]; done) | (simp [lvW]; omega)
      · rfl
      · first | rfl | (simp; done)
    ·
      refine e_iload_2 (p' := 14) D_Rings_noteWrong_13 rfl ?_
      refine e_aload_0 (p' := 15) D_Rings_noteWrong_14 rfl ?_
      refine e_getfield (p' := 18) D_Rings_noteWrong_15 F_Rings_54 (by first | assumption | exact sUp_eq | (rw [sUp_ne (by omega)]; assumption) | (rw [sUp_ne (by omega), sUp_ne (by omega)]; assumption) | (rw [sUp_ne (by omega)]; exact sUp_eq) | (simp [sUp]; done)) (by rfl) rfl ?_
      refine e_icmpN_ne (q := 33) (p' := 21) D_Rings_noteWrong_18 (by omega) (by omega) rfl rfl (fun hc18 => ?_) (fun hc18 => ?_)
      ·
        refine e_iconst (v := nI 0) (p' := 34) D_Rings_noteWrong_33 cst_iconst_0 rfl ?_
        refine e_istore_4 (p' := 36) D_Rings_noteWrong_34 (Nat.le_of_ble_eq_true rfl) rfl rfl ?_
        refine sEv.castW (jn36 false (by rw [decide_eq_false (by omega)])) ?_ ?_ ?_
        · first | exact lvW_rfl _ | (simp [lvW]; done) | (simp [lvW, *]; done) | (simp [lvW]; omega)
        · rfl
        · first | rfl | (simp; done)
      ·
        refine e_iload_3 (p' := 22) D_Rings_noteWrong_21 rfl ?_
        refine e_aload_0 (p' := 23) D_Rings_noteWrong_22 rfl ?_
        refine e_getfield (p' := 26) D_Rings_noteWrong_23 F_Rings_57 (by first | assumption | exact sUp_eq | (rw [sUp_ne (by omega)]; assumption) | (rw [sUp_ne (by omega), sUp_ne (by omega)]; assumption) | (rw [sUp_ne (by omega)]; exact sUp_eq) | (simp [sUp]; done)) (by rfl) rfl ?_
        refine e_icmpN_ge (q := 33) (p' := 29) D_Rings_noteWrong_26 (by omega) (by omega) rfl rfl (fun hc26 => ?_) (fun hc26 => ?_)
        ·
          refine e_iconst (v := nI 0) (p' := 34) D_Rings_noteWrong_33 cst_iconst_0 rfl ?_
          refine e_istore_4 (p' := 36) D_Rings_noteWrong_34 (Nat.le_of_ble_eq_true rfl) rfl rfl ?_
          refine sEv.castW (jn36 false (by rw [decide_eq_false (by omega)])) ?_ ?_ ?_
          · first | exact lvW_rfl _ | (simp [lvW]; done) | (simp [lvW, *]; done) | (simp [lvW]; omega)
          · rfl
          · first | rfl | (simp; done)
        ·
          refine e_iconst (v := nI 1) (p' := 30) D_Rings_noteWrong_29 cst_iconst_1 rfl ?_
          refine e_goto (p' := 34) D_Rings_noteWrong_30 rfl ?_
          refine e_istore_4 (p' := 36) D_Rings_noteWrong_34 (Nat.le_of_ble_eq_true rfl) rfl rfl ?_
          refine sEv.castW (jn36 true (by rw [decide_eq_true (by omega)])) ?_ ?_ ?_
          · first | exact lvW_rfl _ | (simp [lvW]; done) | (simp [lvW, *]; done) | (simp [lvW]; omega)
          · rfl
          · first | rfl | (simp; done)
  ·
    refine e_return D_Rings_noteWrong_4 rfl ⟨by decide, by decide⟩ ?_
    refine ⟨rfl, ?_, FrR.rf⟩
    unfold noteW
    rw [if_pos hc1]; exact hP
set_option maxRecDepth 4000 in
theorem c_Rings_collect {l : Launch} {h : sH} {x : Gd} (hx : Gok x) {k home gr : Nat} {a : Ac} {W : Wf} {rt : Nat → Nat} (hP : RgAt h x k home gr a W rt) (hk : k < 2 ^ 31) (hg : 1 ≤ gr) (hg2 : gr ≤ 12) (hA : AccOk a) (ha : a.1 + Ls k gr W (fun _ _ => 1) < 2 ^ 31) {r : Nat} (hr : r < 64) : sY l m_Rings_collect 1 [.ref 16, .int (nI r)] h (none) (fun h1 => RgAt h1 x k home gr (colS W k gr r 64 a) W rt ∧ FrR h h1) := by
  refine en_Rings_collect ?_
  refine e_iconst (v := nI 0) (p' := 1) D_Rings_collect_0 cst_iconst_0 rfl ?_
  refine e_istore_2 (p' := 2) D_Rings_collect_1 (Nat.le_of_ble_eq_true rfl) rfl rfl ?_
  have lk2 : ∀ S : Nat, S ≤ 64 → ∀ (h1 : sH), (RgAt h1 x k home gr (colS W k gr r S a) W rt ∧ FrR h h1) → sEv l m_Rings_collect 1 (0, 0, 0, 0) (sKm 0 0 (fun r1 h1 => r1 = none ∧ (fun h1 => RgAt h1 x k home gr (colS W k gr r 64 a) W rt ∧ FrR h h1) h1)) 2 [some (.ref 16), some (.int (nI r)), some (.int (nI S)), none] [] (h1) := by
    refine lp_up _ ?_ ?_
    · intro h1 hI
      obtain ⟨hI0, hF1⟩ := hI
      obtain ⟨hG1, tr1, arr1, rts1, D1, V1⟩ := hI0
      have D1c := D1
      have hQ1 : RgAt h1 _ _ _ _ _ _ _ := ⟨hG1, tr1, arr1, rts1, D1, V1⟩
      obtain ⟨d11, ⟨d12, d13⟩, ⟨d14, d15⟩, ⟨d16, d17⟩⟩ := D1
      have V1c := V1
      obtain ⟨V11, V12, V13⟩ := V1
      have hG1c := hG1
      obtain ⟨q10, q11, q12⟩ := hG1
      have hcS := colS_ok (W := W) (k := k) hg hr hA 64 (by omega)
      refine e_iload_2 (p' := 3) D_Rings_collect_2 rfl ?_
      refine e_bipush (v := nI 64) (p' := 5) D_Rings_collect_3 cst_bipush_64 rfl ?_
      first | refine e_icmpN_ge (q := 82) (p' := 8) D_Rings_collect_5 (by omega) (by omega) rfl rfl (fun hc5 => ?_) (fun hc5 => ?_) | refine e_icmp_ge (q := 82) (p' := 8) D_Rings_collect_5 rfl rfl (fun hc5 => ?_) (fun hc5 => ?_)
      ·
        refine e_return D_Rings_collect_82 rfl ⟨by decide, by decide⟩ ?_
        exact ⟨rfl, hQ1, hF1⟩
      ·
        exfalso; omega
    · intro S hS ih2 h1 hI
      obtain ⟨hI0, hF1⟩ := hI
      obtain ⟨hG1, tr1, arr1, rts1, D1, V1⟩ := hI0
      have D1c := D1
      have hQ1 : RgAt h1 _ _ _ _ _ _ _ := ⟨hG1, tr1, arr1, rts1, D1, V1⟩
      obtain ⟨d11, ⟨d12, d13⟩, ⟨d14, d15⟩, ⟨d16, d17⟩⟩ := D1
      have V1c := V1
      obtain ⟨V11, V12, V13⟩ := V1
      have hG1c := hG1
      obtain ⟨q10, q11, q12⟩ := hG1
      have hcS := colS_ok (W := W) (k := k) hg hr hA S (by omega)
      refine e_iload_2 (p' := 3) D_Rings_collect_2 rfl ?_
      refine e_bipush (v := nI 64) (p' := 5) D_Rings_collect_3 cst_bipush_64 rfl ?_
      first | refine e_icmpN_ge (q := 82) (p' := 8) D_Rings_collect_5 (by omega) (by omega) rfl rfl (fun hc5 => ?_) (fun hc5 => ?_) | refine e_icmp_ge (q := 82) (p' := 8) D_Rings_collect_5 rfl rfl (fun hc5 => ?_) (fun hc5 => ?_)
      ·
        exfalso; omega
      ·
        refine e_iload_2 (p' := 9) D_Rings_collect_8 rfl ?_
        refine x_callS1 (p' := 12) D_Rings_collect_9 S_Rings_98 (c_Int_bitCount (by omega)) rfl rfl (Nat.le_of_ble_eq_true rfl) (by decide) ⟨by decide, by decide⟩ rfl ?_
        refine e_aload_0 (p' := 13) D_Rings_collect_12 rfl ?_
        refine e_getfield (p' := 16) D_Rings_collect_13 F_Rings_37 (by first | assumption | exact sUp_eq | (rw [sUp_ne (by omega)]; assumption) | (rw [sUp_ne (by omega), sUp_ne (by omega)]; assumption) | (rw [sUp_ne (by omega)]; exact sUp_eq) | (simp [sUp]; done)) (by rfl) rfl ?_
        have hpl := pc6_le S (by omega)
        refine e_icmpN_ne (q := 76) (p' := 19) D_Rings_collect_16 (by omega) (by omega) rfl rfl (fun hc16 => ?_) (fun hc16 => ?_)
        ·
          first | refine e_iincN_2 (n := 1) (p' := 79) D_Rings_collect_76 (Nat.le_of_ble_eq_true rfl) rfl rfl ?_ | refine e_iinc_2 (p' := 79) D_Rings_collect_76 (Nat.le_of_ble_eq_true rfl) rfl rfl rfl ?_
          refine e_goto (p' := 2) D_Rings_collect_79 rfl ?_
          refine sEv.castW (ih2 h1 ⟨by rw [colS_no hc16]; exact hQ1, hF1⟩) ?_ ?_ ?_
          · first | exact lvW_rfl _ | (simp [lvW]; done) | (simp [lvW, *]; done) | (simp [lvW]; omega)
          · rfl
          · first | rfl | (simp; done)
        ·
          refine e_aload_0 (p' := 20) D_Rings_collect_19 rfl ?_
          refine e_dup (p' := 21) D_Rings_collect_20 rfl rfl ?_
          refine e_getfield (p' := 24) D_Rings_collect_21 F_Rings_48 (by first | assumption | exact sUp_eq | (rw [sUp_ne (by omega)]; assumption) | (rw [sUp_ne (by omega), sUp_ne (by omega)]; assumption) | (rw [sUp_ne (by omega)]; exact sUp_eq) | (simp [sUp]; done)) (by rfl) rfl ?_
          refine e_aload_0 (p' := 25) D_Rings_collect_24 rfl ?_
          refine e_getfield (p' := 28) D_Rings_collect_25 F_Rings_27 (by first | assumption | exact sUp_eq | (rw [sUp_ne (by omega)]; assumption) | (rw [sUp_ne (by omega), sUp_ne (by omega)]; assumption) | (rw [sUp_ne (by omega)]; exact sUp_eq) | (simp [sUp]; done)) (by rfl) rfl ?_
          refine e_bipush (v := nI 13) (p' := 30) D_Rings_collect_28 cst_bipush_13 rfl ?_
          refine e_iload_2 (p' := 31) D_Rings_collect_30 rfl ?_
          first | refine e_imulN (p' := 32) D_Rings_collect_31 rfl ?_ | refine e_imul (p' := 32) D_Rings_collect_31 rfl ?_
          refine e_iconst (v := nI 1) (p' := 33) D_Rings_collect_32 cst_iconst_1 rfl ?_
          first | refine e_iaddN (p' := 34) D_Rings_collect_33 rfl ?_ | refine e_iadd (p' := 34) D_Rings_collect_33 rfl ?_
          refine x_callV1 (p' := 37) D_Rings_collect_34 V_Rings_88 (c_Num_get d14 d15 (by omega) (by omega)) rfl (by first | assumption | exact sUp_eq | (rw [sUp_ne (by omega)]; assumption) | (rw [sUp_ne (by omega), sUp_ne (by omega)]; assumption) | (rw [sUp_ne (by omega)]; exact sUp_eq) | (simp [sUp]; done)) rfl (Nat.le_of_ble_eq_true rfl) (by decide) ⟨by decide, by decide⟩ rfl ?_
          rw [V12 S 1 (by omega) (by omega)]
          first | refine e_iaddN (p' := 38) D_Rings_collect_37 rfl ?_ | refine e_iadd (p' := 38) D_Rings_collect_37 rfl ?_
          refine e_putfield (p' := 41) D_Rings_collect_38 F_Rings_48 (Or.inl rfl) (by first | assumption | exact sUp_eq | (rw [sUp_ne (by omega)]; assumption) | (rw [sUp_ne (by omega), sUp_ne (by omega)]; assumption) | (rw [sUp_ne (by omega)]; exact sUp_eq) | (simp [sUp]; done)) (fun _ => ⟨rfl, rfl⟩) (Nat.le_of_ble_eq_true rfl) (by rfl) rfl ?_
          try dsimp only [List.set]
          refine e_iconst (v := nI 2) (p' := 42) D_Rings_collect_41 cst_iconst_2 rfl ?_
          refine e_istore_3 (p' := 43) D_Rings_collect_42 (Nat.le_of_ble_eq_true rfl) rfl rfl ?_
          have lk43 : ∀ i : Nat, i ≤ (gr + 1) → ∀ (h2 : sH), (2 ≤ i ∧ RgAt h2 x k home gr (colI W S r i ((colS W k gr r S a).1 + W S 1, (colS W k gr r S a).2)) W rt ∧ FrR h h2) → sEv l m_Rings_collect 1 (0, 0, 0, 0) (sKm 0 0 (fun r1 h1 => r1 = none ∧ (fun h1 => RgAt h1 x k home gr (colS W k gr r 64 a) W rt ∧ FrR h h1) h1)) 43 [some (.ref 16), some (.int (nI r)), some (.int (nI S)), some (.int (nI i))] [] (h2) := by
            refine lp_up _ ?_ ?_
            · intro h2 hI2
              obtain ⟨h2i, hI2, hF2⟩ := hI2
              obtain ⟨hG2, tr2, arr2, rts2, D2, V2⟩ := hI2
              have D2c := D2
              have hQ2 : RgAt h2 _ _ _ _ _ _ _ := ⟨hG2, tr2, arr2, rts2, D2, V2⟩
              obtain ⟨d21, ⟨d22, d23⟩, ⟨d24, d25⟩, ⟨d26, d27⟩⟩ := D2
              have V2c := V2
              obtain ⟨V21, V22, V23⟩ := V2
              have hG2c := hG2
              obtain ⟨q20, q21, q22⟩ := hG2
              have hcA : AccOk ((colS W k gr r S a).1 + W S 1, (colS W k gr r S a).2) := ⟨Nat.le_trans hcS.1.1 (Nat.le_add_right _ _), hcS.1.2⟩
              have hcI := colI_ok (W := W) (S := S) (r := r) (by omega) hr hcA ((gr + 1))
              have hs1 := sm_mono (n := S + 1) (m := 64) (f := fun S => if pc6 S = k then sm (gr + 1) (fun i => if i = 0 then 0 else W S i * 1) else 0) (by omega)
              rw [sm_succ, if_pos hc16, ← sm_12 hg] at hs1
              have hs2 := sm_mono (n := ((gr + 1))) (m := gr + 1) (f := fun i => if i < 2 then 0 else W S i) (by omega)
              have hs3 : sm 64 (fun S => if pc6 S = k then sm (gr + 1) (fun i => if i = 0 then 0 else W S i * 1) else 0) = Ls k gr W (fun _ _ => 1) := rfl
              have hs4 := hcI.2
              have hs5 := hcS.2
              dsimp only at hs1 hs4
              refine e_iload_3 (p' := 44) D_Rings_collect_43 rfl ?_
              refine e_aload_0 (p' := 45) D_Rings_collect_44 rfl ?_
              refine e_getfield (p' := 48) D_Rings_collect_45 F_Rings_45 (by first | assumption | exact sUp_eq | (rw [sUp_ne (by omega)]; assumption) | (rw [sUp_ne (by omega), sUp_ne (by omega)]; assumption) | (rw [sUp_ne (by omega)]; exact sUp_eq) | (simp [sUp]; done)) (by rfl) rfl ?_
              first | refine e_icmpN_gt (q := 76) (p' := 51) D_Rings_collect_48 (by omega) (by omega) rfl rfl (fun hc48 => ?_) (fun hc48 => ?_) | refine e_icmp_gt (q := 76) (p' := 51) D_Rings_collect_48 rfl rfl (fun hc48 => ?_) (fun hc48 => ?_)
              ·
                first | refine e_iincN_2 (n := 1) (p' := 79) D_Rings_collect_76 (Nat.le_of_ble_eq_true rfl) rfl rfl ?_ | refine e_iinc_2 (p' := 79) D_Rings_collect_76 (Nat.le_of_ble_eq_true rfl) rfl rfl rfl ?_
                refine e_goto (p' := 2) D_Rings_collect_79 rfl ?_
                refine sEv.castW (ih2 h2 ⟨by rw [colS_go hc16]; exact hQ2, hF2⟩) ?_ ?_ ?_
                · first | exact lvW_rfl _ | (simp [lvW]; done) | (simp [lvW, *]; done) | (simp [lvW]; omega)
                · rfl
                · first | rfl | (simp; done)
              ·
                exfalso; omega
            · intro i hi ih43 h2 hI2
              obtain ⟨h2i, hI2, hF2⟩ := hI2
              obtain ⟨hG2, tr2, arr2, rts2, D2, V2⟩ := hI2
              have D2c := D2
              have hQ2 : RgAt h2 _ _ _ _ _ _ _ := ⟨hG2, tr2, arr2, rts2, D2, V2⟩
              obtain ⟨d21, ⟨d22, d23⟩, ⟨d24, d25⟩, ⟨d26, d27⟩⟩ := D2
              have V2c := V2
              obtain ⟨V21, V22, V23⟩ := V2
              have hG2c := hG2
              obtain ⟨q20, q21, q22⟩ := hG2
              have hcA : AccOk ((colS W k gr r S a).1 + W S 1, (colS W k gr r S a).2) := ⟨Nat.le_trans hcS.1.1 (Nat.le_add_right _ _), hcS.1.2⟩
              have hcI := colI_ok (W := W) (S := S) (r := r) (by omega) hr hcA i
              have hs1 := sm_mono (n := S + 1) (m := 64) (f := fun S => if pc6 S = k then sm (gr + 1) (fun i => if i = 0 then 0 else W S i * 1) else 0) (by omega)
              rw [sm_succ, if_pos hc16, ← sm_12 hg] at hs1
              have hs2 := sm_mono (n := i) (m := gr + 1) (f := fun i => if i < 2 then 0 else W S i) (by omega)
              have hs3 : sm 64 (fun S => if pc6 S = k then sm (gr + 1) (fun i => if i = 0 then 0 else W S i * 1) else 0) = Ls k gr W (fun _ _ => 1) := rfl
              have hs4 := hcI.2
              have hs5 := hcS.2
              dsimp only at hs1 hs4
              refine e_iload_3 (p' := 44) D_Rings_collect_43 rfl ?_
              refine e_aload_0 (p' := 45) D_Rings_collect_44 rfl ?_
              refine e_getfield (p' := 48) D_Rings_collect_45 F_Rings_45 (by first | assumption | exact sUp_eq | (rw [sUp_ne (by omega)]; assumption) | (rw [sUp_ne (by omega), sUp_ne (by omega)]; assumption) | (rw [sUp_ne (by omega)]; exact sUp_eq) | (simp [sUp]; done)) (by rfl) rfl ?_
              first | refine e_icmpN_gt (q := 76) (p' := 51) D_Rings_collect_48 (by omega) (by omega) rfl rfl (fun hc48 => ?_) (fun hc48 => ?_) | refine e_icmp_gt (q := 76) (p' := 51) D_Rings_collect_48 rfl rfl (fun hc48 => ?_) (fun hc48 => ?_)
              ·
                exfalso; omega
              ·
                refine e_aload_0 (p' := 52) D_Rings_collect_51 rfl ?_
                refine e_aload_0 (p' := 53) D_Rings_collect_52 rfl ?_
                refine e_getfield (p' := 56) D_Rings_collect_53 F_Rings_27 (by first | assumption | exact sUp_eq | (rw [sUp_ne (by omega)]; assumption) | (rw [sUp_ne (by omega), sUp_ne (by omega)]; assumption) | (rw [sUp_ne (by omega)]; exact sUp_eq) | (simp [sUp]; done)) (by rfl) rfl ?_
                refine e_bipush (v := nI 13) (p' := 58) D_Rings_collect_56 cst_bipush_13 rfl ?_
                refine e_iload_2 (p' := 59) D_Rings_collect_58 rfl ?_
                first | refine e_imulN (p' := 60) D_Rings_collect_59 rfl ?_ | refine e_imul (p' := 60) D_Rings_collect_59 rfl ?_
                refine e_iload_3 (p' := 61) D_Rings_collect_60 rfl ?_
                first | refine e_iaddN (p' := 62) D_Rings_collect_61 rfl ?_ | refine e_iadd (p' := 62) D_Rings_collect_61 rfl ?_
                refine x_callV1 (p' := 65) D_Rings_collect_62 V_Rings_88 (c_Num_get d24 d25 (by omega) (by omega)) rfl (by first | assumption | exact sUp_eq | (rw [sUp_ne (by omega)]; assumption) | (rw [sUp_ne (by omega), sUp_ne (by omega)]; assumption) | (rw [sUp_ne (by omega)]; exact sUp_eq) | (simp [sUp]; done)) rfl (Nat.le_of_ble_eq_true rfl) (by decide) ⟨by decide, by decide⟩ rfl ?_
                rw [V22 S i (by omega) (by omega)]
                have hWi : W S i < 2 ^ 31 := by have := Ls_ge (W := W) (gr := gr) (S := S) (i := i) (by omega) hc16 (by omega) (by omega); omega
                refine e_iload_1 (p' := 66) D_Rings_collect_65 rfl ?_
                refine e_iload_2 (p' := 67) D_Rings_collect_66 rfl ?_
                refine y_callV0 (p' := 70) D_Rings_collect_67 V_Rings_116 (c_Rings_noteWrong hx hQ2 hcI.1 (by omega) hWi hr (by omega)) rfl (by first | assumption | exact sUp_eq | (rw [sUp_ne (by omega)]; assumption) | (rw [sUp_ne (by omega), sUp_ne (by omega)]; assumption) | (rw [sUp_ne (by omega)]; exact sUp_eq) | (simp [sUp]; done)) rfl (Nat.le_of_ble_eq_true rfl) (by decide) ⟨by decide, by decide⟩ rfl ?_
                rintro h3 ⟨hP3, hF3⟩
                first | refine e_iincN_3 (n := 1) (p' := 73) D_Rings_collect_70 (Nat.le_of_ble_eq_true rfl) rfl rfl ?_ | refine e_iinc_3 (p' := 73) D_Rings_collect_70 (Nat.le_of_ble_eq_true rfl) rfl rfl rfl ?_
                refine e_goto (p' := 43) D_Rings_collect_73 rfl ?_
                refine sEv.castW (ih43 h3 ⟨by omega, by rw [colI_s h2i]; exact hP3, hF2.tr hF3⟩) ?_ ?_ ?_
                · first | exact lvW_rfl _ | (simp [lvW]; done) | (simp [lvW, *]; done) | (simp [lvW]; omega)
                · rfl
                · first | rfl | (simp; done)
          refine sEv.castW (lk43 2 (by omega) _ ⟨by omega, hQ1.head, hF1.up (by omega) (by omega)⟩) ?_ ?_ ?_
          · first | exact lvW_rfl _ | (simp [lvW]; done) | (simp [lvW, *]; done) | (simp [lvW]; omega)
          · rfl
          · first | rfl | (simp; done)
  refine sEv.castW (lk2 0 (by omega) h ⟨hP, FrR.rf⟩) ?_ ?_ ?_
  · first | exact lvW_rfl _ | (simp [lvW]; done) | (simp [lvW, *]; done) | (simp [lvW]; omega)
  · rfl
  · first | rfl | (simp; done)
