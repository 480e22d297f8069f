/-! ===== the reference: the best entry ===== -/
theorem gr_spread {x : Gd} (hx : Gok x) {r : Nat} (hr : r + 1 ≤ x.1.1) (h0 : (layR x r).1.1.1 r = 0) : Gr (psRow (layR x r).1 r (layR x r).2) (layR x (r + 1)).1 := by
  have hok := layR_ok hx r (by omega)
  rw [layR_go h0]
  exact (spr_iv hx (Nat.succ_ne_zero _) (hok.1.row hx hok.2.1 h0) 13).2
theorem layR_top {x : Gd} (hx : Gok x) : ∀ r, r ≤ x.1.1 → (layR x r).2 = 0 ∨ ((∃ k, k < r ∧ (layR x r).1.1.1 k = (layR x r).2) ∧ (layR x r).1.1.1 0 = 1)
  | 0, _ => Or.inl rfl
  | r + 1, hr => by
    have ih := layR_top hx r (by omega)
    by_cases h0 : (layR x r).1.1.1 r = 0
    · have g := gr_spread hx hr h0
      have e1 : (psRow (layR x r).1 r (layR x r).2).1.1 r = (layR x r).2 + 1 := up_at
      have e2 : (layR x (r + 1)).2 = (layR x r).2 + 1 := by rw [layR_go h0]
      refine Or.inr ⟨⟨r, by omega, ?_⟩, ?_⟩
      · rw [g.1 r (by rw [e1]; omega), e1, e2]
      · by_cases er : r = 0
        · subst er
          rw [g.1 0 (by rw [e1]; omega), e1]
          rfl
        · have e3 : (psRow (layR x r).1 r (layR x r).2).1.1 0 = (layR x r).1.1.1 0 := up_off (by omega)
          rcases ih with ih | ⟨_, ih⟩
          · exfalso
            have := (layR_ok hx r (by omega)).2.2.2.2 (by omega)
            omega
          · rw [g.1 0 (by rw [e3, ih]; decide), e3, ih]
    · rw [layR_skip h0]
      rcases ih with ih | ⟨⟨k, k1, k2⟩, ih⟩
      · exact Or.inl ih
      · exact Or.inr ⟨⟨k, by omega, k2⟩, ih⟩
theorem layC_top {x : Gd} (hx : Gok x) : ∀ c, c ≤ x.1.2.1 → ((∃ k, k < x.1.1 ∧ (layC x c).1.1.1 k = (layC x c).2) ∨ ∃ k, k < c ∧ (layC x c).1.1.2 k = (layC x c).2) ∧ (layC x c).1.1.1 0 = 1
  | 0, _ => by
    have h1 := (layR_ok hx x.1.1 (Nat.le_refl _)).2.2.2.2 (by have := hx.1; omega)
    rcases layR_top hx x.1.1 (Nat.le_refl _) with ih | ⟨a, b⟩
    · omega
    · exact ⟨Or.inl a, b⟩
  | c + 1, hc => by
    have ih := layC_top hx c (by omega)
    by_cases h0 : (layC x c).1.1.2 c = 0
    · rw [layC_go h0]
      exact ⟨Or.inr ⟨c, by omega, up_at⟩, ih.2⟩
    · rw [layC_skip h0]
      refine ⟨?_, ih.2⟩
      rcases ih.1 with a | ⟨k, k1, k2⟩
      · exact Or.inl a
      · exact Or.inr ⟨k, by omega, k2⟩
