/-! ===== well is: there are numbers; parts are numbered in one way alone ===== -/
theorem well_pot {x : Gd} (hx : Gok x) (hw : wellX x = true) : Pot x (lu x) (lv' x) := by
  refine ⟨fun r hr => nz_lt (lu_ok hx hr).1 (lu_ok hx hr).2, fun c hc => nz_lt (lv_ok hx hc).1 (lv_ok hx hc).2, fun r c hr hc ht => ?_⟩
  rw [well_at hw hr hc ht]
  exact eqm.md
theorem pot_well {x : Gd} (hx : Gok x) {U V : Nat → Nat} (h : Pot x U V) : wellX x = true := by
  cases e : wellX x with
  | true => rfl
  | false =>
    obtain ⟨L, h1, h2⟩ := wrong_walk hx e
    exact absurd (h.closed hx (fun z => by rw [z] at h2; exact h2 (eqm.rf _ _)) h1) h2
/-- rows and columns one behind the other: columns from 6 on -/
def Lab (x : Gd) (v : Nat) : Nat := if v < 6 then lP x v else lQ x (v - 6)
theorem Lab_r {x : Gd} {r : Nat} (h : r < 6) : Lab x r = lP x r := if_pos h
theorem Lab_c {x : Gd} {c : Nat} : Lab x (6 + c) = lQ x c := by
  unfold Lab
  rw [if_neg (by omega), show 6 + c - 6 = c by omega]
theorem Lab_le {x : Gd} (hx : Gok x) (v : Nat) : Lab x v ≤ (lay x).2 := by
  unfold Lab
  split
  · exact lP_le hx _
  · exact lQ_le hx _
theorem Lab_first {x : Gd} (hx : Gok x) {p : Nat} (h1 : 1 ≤ p) (h2 : p ≤ (lay x).2) : ∃ v, v < 12 ∧ Lab x v = p ∧ ∀ w, w < v → Lab x w < p := by
  have hR := hx.1
  have hC := hx.2.1
  rcases lay_led hx p h1 h2 with ⟨f, g1, g2, g3, g4⟩ | ⟨g0, c, g1, g2, g3, g4, g5⟩
  · refine ⟨f, by omega, (Lab_r (by omega)).trans g2, fun w hw => ?_⟩
    rw [Lab_r (by omega)]
    exact g3 w hw
  · refine ⟨6 + c, by omega, Lab_c.trans g2, fun w hw => ?_⟩
    by_cases e : w < 6
    · rw [Lab_r e]
      by_cases e2 : w < x.1.1
      · exact g0 w e2
      · rw [l_out.1 w (by omega)]; omega
    · obtain ⟨k, rfl⟩ : ∃ k, w = 6 + k := ⟨w - 6, by omega⟩
      rw [Lab_c]
      exact g3 k (by omega)
theorem Lab_same {x y : Gd} (hx : Gok x) (hy : Gok y) {F H : Nat → Nat} (hF : ∀ v, v < 12 → Lab y v = F (Lab x v)) (hH : ∀ v, v < 12 → Lab x v = H (Lab y v)) (h0 : ∀ v, v < 12 → (Lab x v = 0 ↔ Lab y v = 0)) : ∀ v, v < 12 → Lab y v = Lab x v := by
  intro v
  induction v using Nat.strongRecOn with
  | _ v ih =>
  intro hv
  have ih : ∀ w, w < v → Lab y w = Lab x w := fun w hw => ih w hw (by omega)
  by_cases z : Lab x v = 0
  · rw [z, (h0 v hv).mp z]
  have z2 : Lab y v ≠ 0 := fun e => z ((h0 v hv).mpr e)
  by_cases a : ∃ w, w < v ∧ Lab x w = Lab x v
  · obtain ⟨w, w1, w2⟩ := a
    rw [hF v hv, ← w2, ← hF w (by omega), ih w w1]
  by_cases b : ∃ w, w < v ∧ Lab y w = Lab y v
  · obtain ⟨w, w1, w2⟩ := b
    rw [hH v hv, ← w2, ← hH w (by omega), ih w w1]
  have fx : ∀ w, w < v → Lab x w < Lab x v := by
    obtain ⟨u, u1, u2, u3⟩ := Lab_first hx (p := Lab x v) (by omega) (Lab_le hx v)
    rcases Nat.lt_trichotomy u v with c | c | c
    · exact absurd ⟨u, c, u2⟩ a
    · subst c; exact u3
    · have := u3 v c; omega
  have fy : ∀ w, w < v → Lab y w < Lab y v := by
    obtain ⟨u, u1, u2, u3⟩ := Lab_first hy (p := Lab y v) (by omega) (Lab_le hy v)
    rcases Nat.lt_trichotomy u v with c | c | c
    · exact absurd ⟨u, c, u2⟩ b
    · subst c; exact u3
    · have := u3 v c; omega
  rcases Nat.lt_trichotomy (Lab x v) (Lab y v) with c | c | c
  · obtain ⟨u, u1, u2, u3⟩ := Lab_first hy (p := Lab x v) (by omega) (by have := Lab_le hy v; omega)
    rcases Nat.lt_trichotomy u v with d | d | d
    · have := fx u d; rw [← ih u d, u2] at this; omega
    · subst d; omega
    · have := u3 v d; omega
  · exact c.symm
  · obtain ⟨u, u1, u2, u3⟩ := Lab_first hx (p := Lab y v) (by omega) (by have := Lab_le hx v; omega)
    rcases Nat.lt_trichotomy u v with d | d | d
    · have := fy u d; rw [ih u d, u2] at this; omega
    · subst d; omega
    · have := u3 v d; omega
theorem lab_F {x y : Gd} (hx : Gok x) (hy : Gok y) (hd : y.1 = x.1) (h1 : ∀ r c, r < x.1.1 → c < x.1.2.1 → td x r c = true → lP y r = lQ y c) : ∃ F : Nat → Nat, ∀ v, v < 12 → Lab y v = F (Lab x v) := by
  have hR := hx.1
  have hC := hx.2.1
  obtain ⟨f, f1, f2⟩ := lay_lab hx h1
  refine ⟨fun p => if p = 0 then 0 else f p, fun v hv => ?_⟩
  by_cases e : v < 6
  · rw [Lab_r e, Lab_r e]
    by_cases e2 : v < x.1.1
    · rw [f1 v e2, if_neg (lP_nz hx e2)]
    · rw [l_out.1 v (by omega), l_out.1 v (by rw [hd]; omega)]; rfl
  · obtain ⟨c, rfl⟩ : ∃ c, v = 6 + c := ⟨v - 6, by omega⟩
    rw [Lab_c, Lab_c]
    by_cases e2 : c < x.1.2.1
    · rw [f2 c e2, if_neg (lQ_nz hx e2)]
    · rw [l_out.2 c (by omega), l_out.2 c (by rw [hd]; omega)]; rfl
theorem Lab_z {x : Gd} (hx : Gok x) {v : Nat} : Lab x v = 0 ↔ (v < 6 ∧ x.1.1 ≤ v) ∨ (6 ≤ v ∧ x.1.2.1 ≤ v - 6) := by
  by_cases e : v < 6
  · rw [Lab_r e]
    by_cases e2 : v < x.1.1
    · have := lP_nz hx e2; omega
    · rw [l_out.1 v (by omega)]; omega
  · obtain ⟨c, rfl⟩ : ∃ c, v = 6 + c := ⟨v - 6, by omega⟩
    rw [Lab_c]
    by_cases e2 : c < x.1.2.1
    · have := lQ_nz hx e2; omega
    · rw [l_out.2 c (by omega)]; omega
/-- grids whose told entries join the same have the same parts -/
theorem lay_same {x y : Gd} (hx : Gok x) (hy : Gok y) (hd : y.1 = x.1) (h1 : ∀ r c, r < x.1.1 → c < x.1.2.1 → td x r c = true → lP y r = lQ y c) (h2 : ∀ r c, r < x.1.1 → c < x.1.2.1 → td y r c = true → lP x r = lQ x c) :
    (∀ r, r < 6 → lP y r = lP x r) ∧ (∀ c, c < 6 → lQ y c = lQ x c) ∧ (lay y).2 = (lay x).2 := by
  obtain ⟨F, hF⟩ := lab_F hx hy hd h1
  obtain ⟨H, hH⟩ := lab_F hy hx hd.symm (fun r c hr hc ht => h2 r c (by rw [← hd]; exact hr) (by rw [← hd]; exact hc) ht)
  have key := Lab_same hx hy hF hH (fun v hv => by rw [Lab_z hx, Lab_z hy, hd])
  have e1 : ∀ r, r < 6 → lP y r = lP x r := fun r hr => by
    have := key r (by omega)
    rwa [Lab_r hr, Lab_r hr] at this
  have e2 : ∀ c, c < 6 → lQ y c = lQ x c := fun c hc => by
    have := key (6 + c) (by omega)
    rwa [Lab_c, Lab_c] at this
  refine ⟨e1, e2, Nat.le_antisymm ?_ ?_⟩
  · obtain ⟨v, v1, v2, v3⟩ := Lab_first hy (p := (lay y).2) (l_sz hy).1 (Nat.le_refl _)
    rw [← v2, key v v1]
    exact Lab_le hx v
  · obtain ⟨v, v1, v2, v3⟩ := Lab_first hx (p := (lay x).2) (l_sz hx).1 (Nat.le_refl _)
    rw [← v2, ← key v v1]
    exact Lab_le hy v
/-- a row without a column in its part is a part by itself -/
theorem row_alone {x : Gd} (hx : Gok x) {r : Nat} (hr : r < x.1.1) (h : ∀ c, c < x.1.2.1 → lQ x c ≠ lP x r) : ∀ k, k < x.1.1 → lP x k = lP x r → k = r := by
  intro k hk e
  obtain ⟨f, f1, f2⟩ := lay_lab hx (A := fun k => if k = r then 1 else 0) (B := fun _ => 0) (fun i c hi hc ht => if_neg (fun z => h c hc (by rw [← z]; exact (l_td hx hi hc ht).symm)))
  refine Classical.byContradiction fun z => ?_
  have a := f1 k hk
  have b := f1 r hr
  rw [e, ← b] at a
  simp only [if_neg z, if_pos] at a
  exact absurd a (by decide)
