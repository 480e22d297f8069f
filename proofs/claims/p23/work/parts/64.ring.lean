/-! ===== a wrong ring is counted ===== -/
def fl : List (Nat × Nat) → List Nat
  | [] => []
  | q :: t => q.1 :: q.2 :: fl t
def gr' (L : List (Nat × Nat)) (i : Nat) : Nat := (L[i]?.map Prod.fst).getD 0
def gc' (L : List (Nat × Nat)) (i : Nat) : Nat := (L[i]?.map Prod.snd).getD 0
theorem fl_len (L : List (Nat × Nat)) : (fl L).length = 2 * L.length := by
  induction L with
  | nil => rfl
  | cons q t ih =>
    show (fl t).length + 1 + 1 = 2 * (t.length + 1)
    omega
theorem fl_r (L : List (Nat × Nat)) : ∀ i, qg (fl L) (2 * i) = gr' L i := by
  induction L with
  | nil => intro i; rfl
  | cons q t ih =>
    intro i
    cases i with
    | zero => rfl
    | succ i =>
      have h := ih i
      exact h
theorem fl_c (L : List (Nat × Nat)) : ∀ i, qg (fl L) (2 * i + 1) = gc' L i := by
  induction L with
  | nil => intro i; rfl
  | cons q t ih =>
    intro i
    cases i with
    | zero => rfl
    | succ i =>
      have h := ih i
      exact h
theorem gr_of {L : List (Nat × Nat)} {i : Nat} (h : i < L.length) : gr' L i = L[i].1 := by
  unfold gr'
  rw [List.getElem?_eq_getElem h]; rfl
theorem gc_of {L : List (Nat × Nat)} {i : Nat} (h : i < L.length) : gc' L i = L[i].2 := by
  unfold gc'
  rw [List.getElem?_eq_getElem h]; rfl
theorem wM_prd {x : Gd} (L : List (Nat × Nat)) : wM x L = prd L.length (fun j => at' x (gr' L j) (gc' L j)) := by
  induction L with
  | nil => rfl
  | cons q t ih =>
    show at' x q.1 q.2 * wM x t = prd (t.length + 1) _
    rw [prd_cons, ih]
    rfl
/-- the row behind place j, and e behind the last -/
def gn' (L : List (Nat × Nat)) (e j : Nat) : Nat := if j + 1 < L.length then gr' L (j + 1) else e
theorem wh_gn (q : Nat × Nat) (t : List (Nat × Nat)) (e : Nat) : gn' (q :: t) e 0 = wh t e := by
  cases t with
  | nil => rfl
  | cons q' t' => rfl
theorem gn_cons (q : Nat × Nat) (t : List (Nat × Nat)) (e j : Nat) : gn' (q :: t) e (j + 1) = gn' t e j := by
  unfold gn'
  show (if j + 1 + 1 < t.length + 1 then gr' (q :: t) (j + 1 + 1) else e) = _
  by_cases c : j + 1 < t.length
  · rw [if_pos c, if_pos (by omega)]; rfl
  · rw [if_neg c, if_neg (by omega)]
theorem wN_prd {x : Gd} (L : List (Nat × Nat)) (e : Nat) : wN x L e = prd L.length (fun j => at' x (gn' L e j) (gc' L j)) := by
  induction L with
  | nil => rfl
  | cons q t ih =>
    show at' x (wh t e) q.2 * wN x t e = prd (t.length + 1) _
    rw [prd_cons, ih, wh_gn]
    have : ∀ j, j < t.length → at' x (gn' t e j) (gc' t j) = at' x (gn' (q :: t) e (j + 1)) (gc' (q :: t) (j + 1)) := fun j _ => by rw [gn_cons]; rfl
    rw [prd_congr this]
    rfl
theorem wV_at {x : Gd} (L : List (Nat × Nat)) : ∀ (e : Nat), wV x L e → ∀ j, j < L.length → (gr' L j < x.1.1 ∧ gc' L j < x.1.2.1) ∧ td x (gr' L j) (gc' L j) = true ∧ td x (gn' L e j) (gc' L j) = true := by
  induction L with
  | nil => intro e _ j hj; exact absurd hj (Nat.not_lt_zero _)
  | cons q t ih =>
    intro e h j hj
    cases j with
    | zero =>
      rw [wh_gn]
      exact h.1
    | succ j =>
      have hj : j + 1 < t.length + 1 := hj
      rw [gn_cons]
      exact ih e h.2 j (by omega)
theorem nd_ne {l : List Nat} (h : l.Nodup) {i j : Nat} (hj : j < l.length) (hi : i < j) : l[i] ≠ l[j] := by
  exact List.pairwise_iff_getElem.mp h i j (by omega) hj hi
theorem SL_ge {F : List Nat → Nat} : ∀ n (l : List Nat), l.length = n → (∀ v, v ∈ l → v < 6) → F l ≤ SL n F := by
  intro n
  induction n generalizing F with
  | zero =>
    intro l hl _
    rw [List.length_eq_zero_iff.mp hl]
    exact Nat.le_refl _
  | succ n ih =>
    intro l hl hv
    cases l with
    | nil => cases hl
    | cons v l =>
      have h1 := ih (F := fun l => F (v :: l)) l (Nat.succ.inj hl) (fun w hw => hv w (List.mem_cons_of_mem _ hw))
      exact Nat.le_trans h1 (sm_ge (f := fun v => SL n (fun l => F (v :: l))) (hv v List.mem_cons_self))
theorem SL_ex {F : List Nat → Nat} : ∀ n, SL n F ≠ 0 → ∃ l, l.length = n ∧ (∀ v, v ∈ l → v < 6) ∧ F l ≠ 0 := by
  intro n
  induction n generalizing F with
  | zero => intro h; exact ⟨[], rfl, fun v hv => absurd hv List.not_mem_nil, h⟩
  | succ n ih =>
    intro h
    obtain ⟨v, h1, h2⟩ : ∃ v, v < 6 ∧ SL n (fun l => F (v :: l)) ≠ 0 := by
      refine Classical.byContradiction fun z => h ?_
      exact sm_zero fun k hk => Classical.byContradiction fun w => z ⟨k, hk, w⟩
    obtain ⟨l, g1, g2, g3⟩ := ih h2
    refine ⟨v :: l, by rw [List.length_cons, g1], fun w hw => ?_, g3⟩
    rcases List.mem_cons.mp hw with z | z
    · rw [z]; exact h1
    · exact g2 w z
theorem bsum_pc {f : Nat → Nat} : ∀ n, (∀ j, j < n → f j < 6) → (∀ i j, i < n → j < i → f j ≠ f i) → pc6 (sm n (fun j => 2 ^ f j)) = n := by
  intro n
  induction n with
  | zero => intro _ _; exact (by decide : pc6 0 = 0)
  | succ n ih =>
    intro h6 hd
    have h1 := bsum_ok (f := f) n (fun j hj => h6 j (by omega)) (fun i j hi hj => hd i j (by omega) hj)
    have hb := (h1.2 (f n) (h6 n (by omega))).mpr (fun j hj => hd n j (by omega) hj)
    have h2 := (bits6 _ h1.1 _ (h6 n (by omega)) hb).1.2
    have h3 := ih (fun j hj => h6 j (by omega)) (fun i j hi hj => hd i j (by omega) hj)
    show pc6 (sm n (fun j => 2 ^ f j) + 2 ^ f n) = n + 1
    rw [h2, h3]
theorem pc6_all : ∀ S, S < 64 → pc6 S = 6 → ∀ v, v < 6 → bit S v = true := by decide +kernel
/-- a wrong ring, as its list -/
theorem ring_ok {x : Gd} (hx : Gok x) {L : List (Nat × Nat)} (hw : Wrong x L) (hs : Simp L) (hl : Low L) : 2 ≤ L.length ∧ L.length ≤ 6 ∧ okQ x L.length (fl L) ∧ clQ x L.length (fl L) = true ∧ o1 x L.length (fl L) L.length ≠ o2 x L.length (fl L) L.length := by
  obtain ⟨hV, hW⟩ := hw
  have hR := hx.1
  have hat := wV_at L _ hV
  have rne : ∀ i j, j < L.length → i < j → gr' L i ≠ gr' L j := fun i j hj hi => by
    have := nd_ne hs.1 (i := i) (j := j) (by rw [List.length_map]; exact hj) hi
    rw [List.getElem_map, List.getElem_map] at this
    rw [gr_of (by omega), gr_of hj]
    exact this
  have cne : ∀ i j, j < L.length → i < j → gc' L i ≠ gc' L j := fun i j hj hi => by
    have := nd_ne hs.2 (i := i) (j := j) (by rw [List.length_map]; exact hj) hi
    rw [List.getElem_map, List.getElem_map] at this
    rw [gc_of (by omega), gc_of hj]
    exact this
  have h1 : L.length ≠ 0 := fun z => by
    rw [List.length_eq_zero_iff.mp z] at hW
    exact hW (eqm.rf _ _)
  have g0 : gr' L 0 = wh L 0 := by
    cases L with
    | nil => exact absurd rfl h1
    | cons q t => rfl
  have h2 : L.length ≠ 1 := fun z => by
    obtain ⟨q, rfl⟩ := List.length_eq_one_iff.mp z
    exact hW (eqm.rf _ _)
  have h6 : L.length ≤ 6 := by
    refine Classical.byContradiction fun z => ?_
    have b := bsum_ok (f := gr' L) 6 (fun j hj => by have := (hat j (by omega)).1.1; omega) (fun i j hi hj => rne j i (by omega) hj)
    have c := hat 6 (by omega)
    have hall := pc6_all _ b.1 (bsum_pc (f := gr' L) 6 (fun j hj => by have := (hat j (by omega)).1.1; omega) (fun i j hi hj => rne j i (by omega) hj))
    have c1 := c.1.1
    have c2 := (b.2 (gr' L 6) (by omega)).mpr (fun j hj => rne j 6 (by omega) hj)
    rw [hall (gr' L 6) (by omega)] at c2
    cases c2
  have hnx : ∀ j, j < L.length → qg (fl L) (nx L.length j) = gn' L (wh L 0) j := fun j hj => by
    unfold gn'
    by_cases c : j + 1 < L.length
    · rw [if_pos c, nx_lt c, show 2 * j + 2 = 2 * (j + 1) by omega, fl_r]
    · rw [if_neg c, show j = L.length - 1 by omega, nx_k (by omega), show (0 : Nat) = 2 * 0 by rfl, fl_r, g0]
  refine ⟨by omega, h6, ⟨fun d hd => ?_, fun d hd => ?_⟩, ?_, ?_⟩
  · refine ⟨?_, fun j hj => ?_⟩
    · rw [fl_r, fl_c]; exact (hat d hd).2.1
    · rw [fl_c, fl_c]; exact cne j d hd hj
  · refine ⟨⟨?_, ?_⟩, fun j hj => ?_⟩
    · rw [show (0 : Nat) = 2 * 0 by rfl, show 2 * d + 2 = 2 * (d + 1) by omega, fl_r, fl_r]
      have a := rne 0 (d + 1) hd (by omega)
      have b : wh L 0 ≤ gr' L (d + 1) := by
        rw [gr_of hd]
        exact hl _ (List.getElem_mem hd)
      omega
    · rw [show 2 * d + 2 = 2 * (d + 1) by omega, fl_r, fl_c]
      have := (hat d (by omega)).2.2
      unfold gn' at this
      rw [if_pos hd] at this
      exact this
    · rw [show 2 * d + 2 = 2 * (d + 1) by omega, fl_r, fl_r]
      exact rne j (d + 1) hd (by omega)
  · unfold clQ
    rw [show (0 : Nat) = 2 * 0 by rfl, show 2 * L.length - 1 = 2 * (L.length - 1) + 1 by omega, fl_r, fl_c, g0]
    have := (hat (L.length - 1) (by omega)).2.2
    unfold gn' at this
    rw [if_neg (by omega)] at this
    exact this
  · intro e
    refine hW ?_
    show wM x L % x.1.2.2 = wN x L (wh L 0) % x.1.2.2
    rw [wM_prd, wN_prd]
    unfold o1 o2 at e
    rw [prd_congr (f := fun j => at' x (qg (fl L) (2 * j)) (qg (fl L) (2 * j + 1))) (g := fun j => at' x (gr' L j) (gc' L j)) (fun j _ => by rw [fl_r, fl_c]), prd_congr (f := fun j => at' x (qg (fl L) (nx L.length j)) (qg (fl L) (2 * j + 1))) (g := fun j => at' x (gn' L (wh L 0) j) (gc' L j)) (fun j hj => by rw [hnx j hj, fl_c])] at e
    exact e
theorem fl_6 {x : Gd} (hx : Gok x) : ∀ (L : List (Nat × Nat)) (e : Nat), wV x L e → ∀ v, v ∈ fl L → v < 6 := by
  have hR := hx.1
  have hC := hx.2.1
  intro L
  induction L with
  | nil => intro e _ v hv; exact absurd hv List.not_mem_nil
  | cons q t ih =>
    intro e h v hv
    have h1 := h.1.1
    rcases List.mem_cons.mp hv with z | z
    · rw [z]; omega
    · rcases List.mem_cons.mp z with z | z
      · rw [z]; omega
      · exact ih e h.2 v z
theorem DD_top {x : Gd} {k : Nat} (hk : 1 ≤ k) {G : List Nat → Nat} : DD x G (2 * k) [] = sm x.1.1 (fun v => DD x G (2 * k - 1) [v]) := by
  rw [show 2 * k = (2 * k - 1) + 1 by omega]
  show sm x.1.1 (fun v => if csB x [] v = true then DD x G (2 * k - 1 + 1 - 1) ([] ++ [v]) else 0) = _
  refine sm_congr fun v _ => ?_
  rw [csB_nil, if_pos rfl]
  rfl
/-- not well: some wrong cycle is counted -/
theorem wrong_cyc {x : Gd} (hx : Gok x) (h : wellX x = false) : ∃ k, 2 ≤ k ∧ k ≤ 6 ∧ DD x (Gh x k wrg) (2 * k) [] ≠ 0 := by
  have hR := hx.1
  obtain ⟨L0, h0⟩ := wrong_walk hx h
  obtain ⟨L, h1, h2, h3⟩ := wrong_low hx h0
  obtain ⟨a1, a2, a3, a4, a5⟩ := ring_ok hx h1 h2 h3
  refine ⟨L.length, a1, a2, fun z => ?_⟩
  have h6 := fl_6 hx L _ h1.1
  cases L with
  | nil => exact absurd a1 (by show ¬ 2 ≤ 0; omega)
  | cons q t =>
    obtain ⟨k, hk⟩ : ∃ k, k = (q :: t).length := ⟨_, rfl⟩
    rw [← hk] at a1 a2 a3 a4 a5 z
    obtain ⟨l, hl⟩ : ∃ l, l = q.2 :: fl t := ⟨_, rfl⟩
    have e : fl (q :: t) = q.1 :: l := by rw [hl]; rfl
    have hlen := fl_len (q :: t)
    rw [e, List.length_cons, ← hk] at hlen
    rw [e] at a3 a4 a5 h6
    have q1 : q.1 < x.1.1 := h1.1.1.1.1
    have q6 : q.1 < 6 := by omega
    rw [DD_top (by omega)] at z
    have z1 := sm_eq0 z q.1 q1
    have z2 := half hx (k := k) (r := q.1) (φ := wrg) a1 q6
    rw [z1, DD_SL hx _ [q.1] (by simp) (fun v hv => by rw [List.mem_singleton.mp hv]; exact q6)] at z2
    have z3 := SL_ge (F := fun l => if VV x [q.1] l = true then Gf x k wrg ([q.1] ++ l) else 0) (2 * k - 1) l (by omega) (fun v hv => h6 v (List.mem_cons_of_mem _ hv))
    rw [z2] at z3
    rw [if_pos ((VV_ok (by omega)).mpr a3)] at z3
    have z4 : Gf x k wrg (q.1 :: l) = 1 := by
      unfold Gf wt
      rw [if_pos a4, if_neg a5]
      rfl
    have z5 : Gf x k wrg (q.1 :: l) ≤ 2 * 0 := z3
    omega
/-- where the least wrong cycle's rows and columns are told, there are as many as its half length -/
theorem wky_pc {x : Gd} (hx : Gok x) {k a b : Nat} (hk : 2 ≤ k) (h : DD x (Gh x k (wky a b)) (2 * k) [] ≠ 0) : pc6 a = k ∧ pc6 b = k ∧ a < 64 ∧ b < 64 := by
  have hR := hx.1
  rw [DD_top (by omega)] at h
  obtain ⟨r, hr, h1⟩ : ∃ r, r < x.1.1 ∧ DD x (Gh x k (wky a b)) (2 * k - 1) [r] ≠ 0 := by
    refine Classical.byContradiction fun z => h ?_
    exact sm_zero fun v hv => Classical.byContradiction fun w => z ⟨v, hv, w⟩
  rw [DD_SL hx _ [r] (by simp) (fun v hv => by rw [List.mem_singleton.mp hv]; omega)] at h1
  obtain ⟨l, l1, l2, l3⟩ := SL_ex _ h1
  have v1 : VV x [r] l = true := Classical.byContradiction fun z => l3 (if_neg z)
  rw [if_pos v1] at l3
  have ok := (VV_ok (k := k) (by omega)).mp v1
  have l3 : Gh x k (wky a b) (r :: l) ≠ 0 := l3
  unfold Gh at l3
  have c : clQ x k (r :: l) = true ∧ qg (r :: l) 1 < qg (r :: l) (2 * k - 1) := Classical.byContradiction fun z => l3 (if_neg z)
  rw [if_pos c] at l3
  unfold wt wky at l3
  have w : RM k (r :: l) = a ∧ CM k (r :: l) = b := by
    refine Classical.byContradiction fun z => l3 (if_neg (fun y => z y.2))
  have h6 : ∀ v, v ∈ r :: l → v < 6 := fun v hv => by
    rcases List.mem_cons.mp hv with z | z
    · rw [z]; omega
    · exact l2 v z
  have rd : ∀ i j, i < k → j < i → qg (r :: l) (2 * j) ≠ qg (r :: l) (2 * i) := fun i j hi hj => by
    have := (ok.2 (i - 1) (by omega)).2 j (by omega)
    rwa [show 2 * (i - 1) + 2 = 2 * i by omega] at this
  have cd : ∀ i j, i < k → j < i → qg (r :: l) (2 * j + 1) ≠ qg (r :: l) (2 * i + 1) := fun i j hi hj => (ok.1 i hi).2 j hj
  have p1 := bsum_pc (f := fun j => qg (r :: l) (2 * j)) k (fun j _ => qg_6 h6 _) rd
  have p2 := bsum_pc (f := fun j => qg (r :: l) (2 * j + 1)) k (fun j _ => qg_6 h6 _) cd
  have p3 := (bsum_ok (f := fun j => qg (r :: l) (2 * j)) k (fun j _ => qg_6 h6 _) rd).1
  have p4 := (bsum_ok (f := fun j => qg (r :: l) (2 * j + 1)) k (fun j _ => qg_6 h6 _) cd).1
  rw [← w.1, ← w.2]
  exact ⟨p1, p2, p3, p4⟩
