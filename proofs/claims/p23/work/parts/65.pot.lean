/-! ===== well is: there are numbers; parts are numbered in one way alone ===== -/
theorem well_pot {x : Gd} (hx : Gok x) (hw : wellX x = true) : Pot x (lu x) (lv' x) := by
  refine ⟨fun r hr => nz_lt (lu_ok hx hr).1 (lu_ok hx hr).2, fun c hc => nz_lt (lv_ok hx hc).1 (lv_ok hx hc).2, fun r c hr hc ht => ?_⟩
  rw [well_at hw hr hc ht]
  exact eqm.md
theorem pot_well {x : Gd} (hx : Gok x) {U V : Nat → Nat} (h : Pot x U V) : wellX x = true := by
  cases e : wellX x with
  | true => rfl
  | false =>
    obtain ⟨L, h1, h2⟩ := wrong_walk hx e
    exact absurd (h.closed hx (fun z => by rw [z] at h2; exact h2 (eqm.rf _ _)) h1) h2
/-- rows and columns one behind the other: columns from 6 on -/
def Lab (x : Gd) (v : Nat) : Nat := if v < 6 then lP x v else lQ x (v - 6)
theorem Lab_r {x : Gd} {r : Nat} (h : r < 6) : Lab x r = lP x r := if_pos h
theorem Lab_c {x : Gd} {c : Nat} : Lab x (6 + c) = lQ x c := by
  unfold Lab
  rw [if_neg (by omega), show 6 + c - 6 = c by omega]
theorem Lab_le {x : Gd} (hx : Gok x) (v : Nat) : Lab x v ≤ (lay x).2 := by
  unfold Lab
  split
  · exact lP_le hx _
  · exact lQ_le hx _
theorem Lab_first {x : Gd} (hx : Gok x) {p : Nat} (h1 : 1 ≤ p) (h2 : p ≤ (lay x).2) : ∃ v, v < 12 ∧ Lab x v = p ∧ ∀ w, w < v → Lab x w < p := by
  have hR := hx.1
  have hC := hx.2.1
  rcases lay_led hx p h1 h2 with ⟨f, g1, g2, g3, g4⟩ | ⟨g0, c, g1, g2, g3, g4, g5⟩
  · refine ⟨f, by omega, (Lab_r (by omega)).trans g2, fun w hw => ?_⟩
    rw [Lab_r (by omega)]
    exact g3 w hw
  · refine ⟨6 + c, by omega, Lab_c.trans g2, fun w hw => ?_⟩
    by_cases e : w < 6
    · rw [Lab_r e]
      by_cases e2 : w < x.1.1
      · exact g0 w e2
      · rw [l_out.1 w (by omega)]; omega
    · obtain ⟨k, rfl⟩ : ∃ k, w = 6 + k := ⟨w - 6, by omega⟩
      rw [Lab_c]
      exact g3 k (by omega)
theorem Lab_same {x y : Gd} (hx : Gok x) (hy : Gok y) {F H : Nat → Nat} (hF : ∀ v, v < 12 → Lab y v = F (Lab x v)) (hH : ∀ v, v < 12 → Lab x v = H (Lab y v)) (h0 : ∀ v, v < 12 → (Lab x v = 0 ↔ Lab y v = 0)) : ∀ v, v < 12 → Lab y v = Lab x v := by
  intro v
  induction v using Nat.strongRecOn with
  | _ v ih =>
  intro hv
  have ih : ∀ w, w < v → Lab y w = Lab x w := fun w hw => ih w hw (by omega)
  by_cases z : Lab x v = 0
  · rw [z, (h0 v hv).mp z]
  have z2 : Lab y v ≠ 0 := fun e => z ((h0 v hv).mpr e)
  by_cases a : ∃ w, w < v ∧ Lab x w = Lab x v
  · obtain ⟨w, w1, w2⟩ := a
    rw [hF v hv, ← w2, ← hF w (by omega), ih w w1]
  by_cases b : ∃ w, w < v ∧ Lab y w = Lab y v
  · obtain ⟨w, w1, w2⟩ := b
    rw [hH v hv, ← w2, ← hH w (by omega), ih w w1]
  have fx : ∀ w, w < v → Lab x w < Lab x v := by
    obtain ⟨u, u1, u2, u3⟩ := Lab_first hx (p := Lab x v) (by omega) (Lab_le hx v)
    rcases Nat.lt_trichotomy u v with c | c | c
    · exact absurd ⟨u, c, u2⟩ a
    · subst c; exact u3
    · have := u3 v c; omega
  have fy : ∀ w, w < v → Lab y w < Lab y v := by
    obtain ⟨u, u1, u2, u3⟩ := Lab_first hy (p := Lab y v) (by omega) (Lab_le hy v)
    rcases Nat.lt_trichotomy u v with c | c | c
    · exact absurd ⟨u, c, u2⟩ b
    · subst c; exact u3
    · have := u3 v c; omega
  rcases Nat.lt_trichotomy (Lab x v) (Lab y v) with c | c | c
  · obtain ⟨u, u1, u2, u3⟩ := Lab_first hy (p := Lab x v) (by omega) (by have := Lab_le hy v; omega)
    rcases Nat.lt_trichotomy u v with d | d | d
    · have := fx u d; rw [← ih u d, u2] at this; omega
    · subst d; omega
    · have := u3 v d; omega
  · exact c.symm
  · obtain ⟨u, u1, u2, u3⟩ := Lab_first hx (p := Lab y v) (by omega) (by have := Lab_le hx v; omega)
    rcases Nat.lt_trichotomy u v with d | d | d
    · have := fy u d; rw [ih u d, u2] at this; omega
    · subst d; omega
    · have := u3 v d; omega
theorem lab_F {x y : Gd} (hx : Gok x) (hy : Gok y) (hd : y.1 = x.1) (h1 : ∀ r c, r < x.1.1 → c < x.1.2.1 → td x r c = true → lP y r = lQ y c) : ∃ F : Nat → Nat, ∀ v, v < 12 → Lab y v = F (Lab x v) := by
  have hR := hx.1
  have hC := hx.2.1
  obtain ⟨f, f1, f2⟩ := lay_lab hx h1
  refine ⟨fun p => if p = 0 then 0 else f p, fun v hv => ?_⟩
  by_cases e : v < 6
  · rw [Lab_r e, Lab_r e]
    by_cases e2 : v < x.1.1
    · rw [f1 v e2]; exact (if_neg (lP_nz hx e2)).symm
    · rw [(l_out (x := y)).1 v (by rw [hd]; omega), (l_out (x := x)).1 v (by omega)]; rfl
  · obtain ⟨c, rfl⟩ : ∃ c, v = 6 + c := ⟨v - 6, by omega⟩
    rw [Lab_c, Lab_c]
    by_cases e2 : c < x.1.2.1
    · rw [f2 c e2]; exact (if_neg (lQ_nz hx e2)).symm
    · rw [(l_out (x := y)).2 c (by rw [hd]; omega), (l_out (x := x)).2 c (by omega)]; rfl
theorem Lab_z {x : Gd} (hx : Gok x) {v : Nat} : Lab x v = 0 ↔ (v < 6 ∧ x.1.1 ≤ v) ∨ (6 ≤ v ∧ x.1.2.1 ≤ v - 6) := by
  by_cases e : v < 6
  · rw [Lab_r e]
    by_cases e2 : v < x.1.1
    · have := lP_nz hx e2; omega
    · rw [l_out.1 v (by omega)]; omega
  · obtain ⟨c, rfl⟩ : ∃ c, v = 6 + c := ⟨v - 6, by omega⟩
    rw [Lab_c]
    by_cases e2 : c < x.1.2.1
    · have := lQ_nz hx e2; omega
    · rw [l_out.2 c (by omega)]; omega
/-- grids whose told entries join the same have the same parts -/
theorem lay_same {x y : Gd} (hx : Gok x) (hy : Gok y) (hd : y.1 = x.1) (h1 : ∀ r c, r < x.1.1 → c < x.1.2.1 → td x r c = true → lP y r = lQ y c) (h2 : ∀ r c, r < x.1.1 → c < x.1.2.1 → td y r c = true → lP x r = lQ x c) :
    (∀ r, r < 6 → lP y r = lP x r) ∧ (∀ c, c < 6 → lQ y c = lQ x c) ∧ (lay y).2 = (lay x).2 := by
  obtain ⟨F, hF⟩ := lab_F hx hy hd h1
  obtain ⟨H, hH⟩ := lab_F hy hx hd.symm (fun r c hr hc ht => h2 r c (by rw [← hd]; exact hr) (by rw [← hd]; exact hc) ht)
  have key := Lab_same hx hy hF hH (fun v hv => by rw [Lab_z hx, Lab_z hy, hd])
  have e1 : ∀ r, r < 6 → lP y r = lP x r := fun r hr => by
    have := key r (by omega)
    rwa [Lab_r hr, Lab_r hr] at this
  have e2 : ∀ c, c < 6 → lQ y c = lQ x c := fun c hc => by
    have := key (6 + c) (by omega)
    rwa [Lab_c, Lab_c] at this
  refine ⟨e1, e2, Nat.le_antisymm ?_ ?_⟩
  · obtain ⟨v, v1, v2, v3⟩ := Lab_first hy (p := (lay y).2) (l_sz hy).1 (Nat.le_refl _)
    rw [← v2, key v v1]
    exact Lab_le hx v
  · obtain ⟨v, v1, v2, v3⟩ := Lab_first hx (p := (lay x).2) (l_sz hx).1 (Nat.le_refl _)
    rw [← v2, ← key v v1]
    exact Lab_le hy v
/-- a row without a column in its part is a part by itself -/
theorem row_alone {x : Gd} (hx : Gok x) {r : Nat} (hr : r < x.1.1) (h : ∀ c, c < x.1.2.1 → lQ x c ≠ lP x r) : ∀ k, k < x.1.1 → lP x k = lP x r → k = r := by
  intro k hk e
  obtain ⟨f, f1, f2⟩ := lay_lab hx (A := fun k => if k = r then 1 else 0) (B := fun _ => 0) (fun i c hi hc ht => if_neg (fun z => h c hc (by rw [← z]; exact (l_td hx hi hc ht).symm)))
  refine Classical.byContradiction fun z => ?_
  have a := f1 k hk
  have b := f1 r hr
  rw [e, ← b] at a
  simp only [if_neg z, if_pos] at a
  exact absurd a (by decide)
/-- the same parts, and all that is joined told as in x: the same numbers -/
theorem num_same {x y : Gd} (hx : Gok x) (hy : Gok y) (hd : y.1 = x.1) (hP : ∀ r, r < 6 → lP y r = lP x r) (hQ : ∀ c, c < 6 → lQ y c = lQ x c) (hwy : wellX y = true)
    (hj : ∀ r c, r < x.1.1 → c < x.1.2.1 → lP x r = lQ x c → td y r c = true ∧ eqm x.1.2.2 (at' y r c) (lu x r * lv' x c)) : (∀ r, r < x.1.1 → lu y r = lu x r) ∧ ∀ c, c < x.1.2.1 → lv' y c = lv' x c := by
  have hR := hx.1
  have hC := hx.2.1
  have hm := hx.2.2.1
  have hpot := well_pot hy hwy
  have hS : (lay y).2 = (lay x).2 := by
    have a : ∀ v, v < 12 → Lab y v = Lab x v := fun v hv => by
      by_cases e : v < 6
      · rw [Lab_r e, Lab_r e]; exact hP v e
      · obtain ⟨c, rfl⟩ : ∃ c, v = 6 + c := ⟨v - 6, by omega⟩
        rw [Lab_c, Lab_c]; exact hQ c (by omega)
    refine Nat.le_antisymm ?_ ?_
    · obtain ⟨v, v1, v2, v3⟩ := Lab_first hy (p := (lay y).2) (l_sz hy).1 (Nat.le_refl _)
      rw [← v2, a v v1]; exact Lab_le hx v
    · obtain ⟨v, v1, v2, v3⟩ := Lab_first hx (p := (lay x).2) (l_sz hx).1 (Nat.le_refl _)
      rw [← v2, ← a v v1]; exact Lab_le hy v
  have hlt : ∀ {a b : Nat}, a < x.1.2.2 → b < x.1.2.2 → eqm x.1.2.2 a b → a = b := fun ha hb e => by
    unfold eqm at e
    rwa [Nat.mod_eq_of_lt ha, Nat.mod_eq_of_lt hb] at e
  have em : y.1.2.2 = x.1.2.2 := by rw [hd]
  have er : y.1.1 = x.1.1 := by rw [hd]
  have ec : y.1.2.1 = x.1.2.1 := by rw [hd]
  have pj : ∀ r c, r < x.1.1 → c < x.1.2.1 → lP x r = lQ x c → eqm x.1.2.2 (lu x r * lv' x c) (lu y r * lv' y c) := fun r c hr hc e => by
    obtain ⟨a, b⟩ := hj r c hr hc e
    have := hpot.2.2 r c (by omega) (by omega) a
    rw [em] at this
    exact b.sy.tr this
  have uy : ∀ r, r < x.1.1 → 1 ≤ lu y r ∧ lu y r < x.1.2.2 := fun r hr => by rw [← em]; exact lu_ok hy (by omega)
  have vy : ∀ c, c < x.1.2.1 → 1 ≤ lv' y c ∧ lv' y c < x.1.2.2 := fun c hc => by rw [← em]; exact lv_ok hy (by omega)
  -- the leaders are the same
  have led : ∀ p, 1 ≤ p → p ≤ (lay x).2 → (∃ f, f < x.1.1 ∧ lP x f = p ∧ lu x f = 1 ∧ lu y f = 1) ∨ ((∀ k, k < x.1.1 → lP x k < p) ∧ ∃ c, c < x.1.2.1 ∧ lQ x c = p ∧ lv' x c = 1 ∧ lv' y c = 1 ∧ ∀ k, lQ x k = p → k = c) := by
    intro p p1 p2
    rcases lay_led hx p p1 p2 with ⟨f, g1, g2, g3, g4⟩ | ⟨g0, c, g1, g2, g3, g4, g5⟩
    · rcases lay_led hy p p1 (by omega) with ⟨f', k1, k2, k3, k4⟩ | ⟨k0, c', k1, k2, k3, k4, k5⟩
      · have : f = f' := by
          rcases Nat.lt_trichotomy f f' with z | z | z
          · have a := k3 f z
            have b := hP f (by omega)
            have g2 : lP x f = p := g2
            have a : lP y f < p := a
            omega
          · exact z
          · have a := g3 f' z
            have b := hP f' (by omega)
            have k2 : lP y f' = p := k2
            have a : lP x f' < p := a
            omega
        subst this
        exact Or.inl ⟨f, g1, g2, g4, k4⟩
      · have a := k0 f (by omega)
        have b := hP f (by omega)
        have g2 : lP x f = p := g2
        have a : lP y f < p := a
        omega
    · rcases lay_led hy p p1 (by omega) with ⟨f', k1, k2, k3, k4⟩ | ⟨k0, c', k1, k2, k3, k4, k5⟩
      · have a := g0 f' (by omega)
        have b := hP f' (by omega)
        have k2 : lP y f' = p := k2
        have a : lP x f' < p := a
        omega
      · have : c' = c := g5 c' (by have := hQ c' (by omega); have k2 : lQ y c' = p := k2; show lQ x c' = p; omega)
        subst this
        exact Or.inr ⟨g0, c', g1, g2, g4, k4, g5⟩
  have hv : ∀ c, c < x.1.2.1 → lv' y c = lv' x c := by
    intro c hc
    have q0 := lQ_nz hx hc
    rcases led (lQ x c) (by omega) (lQ_le hx c) with ⟨f, g1, g2, g3, g4⟩ | ⟨g0, d, g1, g2, g3, g4, g5⟩
    · have a := pj f c g1 hc g2
      rw [g3, g4, Nat.one_mul, Nat.one_mul] at a
      exact (hlt (lv_ok hx hc).2 (vy c hc).2 a).symm
    · have := g5 c rfl
      subst this
      rw [g3, g4]
  refine ⟨fun r hr => ?_, hv⟩
  by_cases e : ∃ c, c < x.1.2.1 ∧ lQ x c = lP x r
  · obtain ⟨c, hc, ec2⟩ := e
    have a := pj r c hr hc ec2.symm
    rw [hv c hc] at a
    exact (hlt (lu_ok hx hr).2 (uy r hr).2 (a.canc hm (nz_lt (lv_ok hx hc).1 (lv_ok hx hc).2))).symm
  · have al := row_alone hx hr (fun c hc z => e ⟨c, hc, z⟩)
    have p0 := lP_nz hx hr
    rcases led (lP x r) (by omega) (lP_le hx r) with ⟨f, g1, g2, g3, g4⟩ | ⟨g0, d, g1, g2, g3, g4, g5⟩
    · have := al f g1 g2
      subst this
      rw [g3, g4]
    · have := g0 r hr; omega
