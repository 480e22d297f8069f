/-! ===== a wrong walk is wrong at a ring ===== -/
/-- no row and no column twice -/
def Simp (L : List (Nat × Nat)) : Prop := (L.map Prod.fst).Nodup ∧ (L.map Prod.snd).Nodup
theorem dup_split {f : Nat × Nat → Nat} : ∀ (L : List (Nat × Nat)), ¬ (L.map f).Nodup → ∃ X q A q' B, L = X ++ q :: (A ++ q' :: B) ∧ f q = f q' := by
  intro L
  induction L with
  | nil => exact fun h => absurd List.nodup_nil h
  | cons q t ih =>
    intro h
    rw [List.map_cons, List.nodup_cons] at h
    by_cases e : f q ∈ t.map f
    · obtain ⟨q', h1, h2⟩ := List.mem_map.mp e
      obtain ⟨A, B, h3⟩ := List.append_of_mem h1
      exact ⟨[], q, A, q', B, by rw [h3]; rfl, h2.symm⟩
    · obtain ⟨X, q1, A, q2, B, h1, h2⟩ := ih (fun z => h ⟨e, z⟩)
      exact ⟨q :: X, q1, A, q2, B, by rw [h1]; rfl, h2⟩
theorem wrong_simple {x : Gd} (hx : Gok x) : ∀ n (L : List (Nat × Nat)), L.length ≤ n → Wrong x L → ∃ L', Wrong x L' ∧ Simp L' := by
  intro n
  induction n with
  | zero =>
    intro L hl hw
    have : L = [] := List.length_eq_zero_iff.mp (by omega)
    subst this
    exact absurd (eqm.rf _ _) hw.2
  | succ n ih =>
    intro L hl hw
    refine Classical.byContradiction fun hno => ?_
    have hns : ¬ Simp L := fun z => hno ⟨L, hw, z⟩
    have hsh : ∀ L', L'.length < L.length → wV x L' (wh L' 0) → eqm x.1.2.2 (wM x L') (wN x L' (wh L' 0)) := fun L' h1 h2 => Classical.byContradiction fun z => hno (ih L' (by omega) ⟨h2, z⟩)
    refine hns ⟨Classical.byContradiction fun hd => ?_, Classical.byContradiction fun hd => ?_⟩
    · -- a row twice
      obtain ⟨X, q, A, q', B, hL, hr⟩ := dup_split L hd
      obtain ⟨hV, hW⟩ := hw
      refine hW ?_
      obtain ⟨e, he⟩ : ∃ e, e = wh L 0 := ⟨_, rfl⟩
      rw [← he] at hV ⊢
      have hhd : wh X q.1 = e := by rw [he, hL, wh_app]; rfl
      subst hL
      have hV1 := (wV_app _ _ _).mp hV
      have hV2 : wV x (q :: (A ++ q' :: B)) e := hV1.2
      have hV3 := (wV_app (q :: A) (q' :: B) e).mp hV2
      have eA : wh (q :: A) 0 = q'.1 := hr
      have eB : wh (X ++ q' :: B) 0 = e := by
        rw [wh_app]; show wh X q'.1 = e
        rw [← hr]; exact hhd
      have f1 := hsh (q :: A) (by simp; omega) (by rw [eA]; exact hV3.1)
      have f2 := hsh (X ++ q' :: B) (by simp; omega) (by
        rw [eB]
        refine (wV_app _ _ _).mpr ⟨?_, hV3.2⟩
        show wV x X q'.1
        rw [← hr]; exact hV1.1)
      rw [eA] at f1
      rw [eB, wM_app, wN_app] at f2
      have f3 := f1.mul f2
      refine (eqm.of ?_).tr (f3.tr (eqm.of ?_))
      · rw [wM_app]
        show _ * wM x ((q :: A) ++ q' :: B) = _
        rw [wM_app]; ac_rfl
      · rw [wN_app]
        show _ = wN x X q.1 * wN x ((q :: A) ++ q' :: B) e
        rw [wN_app]
        show wN x (q :: A) q'.1 * (wN x X q'.1 * wN x (q' :: B) e) = wN x X q.1 * (wN x (q :: A) q'.1 * wN x (q' :: B) e)
        rw [hr]; ac_rfl
    · -- a column twice
      obtain ⟨X, q, A, q', B, hL, hc⟩ := dup_split L hd
      obtain ⟨hV, hW⟩ := hw
      refine hW ?_
      obtain ⟨e, he⟩ : ∃ e, e = wh L 0 := ⟨_, rfl⟩
      rw [← he] at hV ⊢
      have hhd : wh X q.1 = e := by rw [he, hL, wh_app]; rfl
      subst hL
      have hV1 := (wV_app _ _ _).mp hV
      obtain ⟨⟨⟨v1, v2⟩, v3, v4⟩, v5⟩ : wV x (q :: (A ++ q' :: B)) e := hV1.2
      have hV3 := (wV_app A (q' :: B) e).mp v5
      obtain ⟨hA, ⟨⟨w1, w2⟩, w3, w4⟩, w5⟩ := hV3
      have hA : wV x A q'.1 := hA
      obtain ⟨a, ha⟩ : ∃ a, a = wh A q'.1 := ⟨_, rfl⟩
      have ea : wh (A ++ q' :: B) e = a := by rw [wh_app, ha]; rfl
      rw [ea] at v4
      obtain ⟨b, hb⟩ : ∃ b, b = wh B e := ⟨_, rfl⟩
      rw [← hb] at w4
      have eA : wh (A ++ [q']) 0 = a := by rw [wh_snoc, ha]
      have eB : wh (X ++ q :: B) 0 = e := by rw [wh_app]; exact hhd
      have f1 := hsh (A ++ [q']) (by simp; omega) (by
        rw [eA]
        refine (wV_app _ _ _).mpr ⟨hA, ⟨⟨w1, w2⟩, w3, ?_⟩, trivial⟩
        show td x a q'.2 = true
        rw [← hc]; exact v4)
      have f2 := hsh (X ++ q :: B) (by simp; omega) (by
        rw [eB]
        refine (wV_app _ _ _).mpr ⟨hV1.1, ⟨⟨v1, v2⟩, v3, ?_⟩, w5⟩
        show td x (wh B e) q.2 = true
        rw [← hb, hc]; exact w4)
      rw [eA, wM_app, wN_app] at f1
      rw [eB, wM_app, wN_app] at f2
      have f1 : eqm x.1.2.2 (wM x A * (at' x q'.1 q'.2 * 1)) (wN x A q'.1 * (at' x a q'.2 * 1)) := f1
      have f2 : eqm x.1.2.2 (wM x X * (at' x q.1 q.2 * wM x B)) (wN x X q.1 * (at' x (wh B e) q.2 * wN x B e)) := f2
      have f3 := f1.mul f2
      refine (eqm.of ?_).tr (f3.tr (eqm.of ?_))
      · rw [wM_app]
        show _ * (at' x q.1 q.2 * wM x (A ++ q' :: B)) = _
        rw [wM_app]
        show _ * (at' x q.1 q.2 * (wM x A * (at' x q'.1 q'.2 * wM x B))) = _
        rw [Nat.mul_one]; ac_rfl
      · rw [wN_app]
        show _ = wN x X q.1 * (at' x (wh (A ++ q' :: B) e) q.2 * wN x (A ++ q' :: B) e)
        rw [wN_app, ea]
        show _ = wN x X q.1 * (at' x a q.2 * (wN x A q'.1 * (at' x (wh B e) q'.2 * wN x B e)))
        rw [hc, Nat.mul_one]; ac_rfl
/-- the ring begins at its lowest row -/
def Low (L : List (Nat × Nat)) : Prop := ∀ q, q ∈ L → wh L 0 ≤ q.1
theorem wrong_turn {x : Gd} {A B : List (Nat × Nat)} (h : Wrong x (A ++ B)) : Wrong x (B ++ A) := by
  cases A with
  | nil => rw [List.append_nil]; exact h
  | cons q A =>
    cases B with
    | nil => rw [List.append_nil] at h; exact h
    | cons q' B =>
      obtain ⟨h1, h2⟩ := h
      have h1 : wV x ((q :: A) ++ q' :: B) q.1 := h1
      have h2 : ¬ eqm x.1.2.2 (wM x ((q :: A) ++ q' :: B)) (wN x ((q :: A) ++ q' :: B) q.1) := h2
      rw [wV_app] at h1
      rw [wM_app, wN_app] at h2
      refine ⟨?_, ?_⟩
      · show wV x ((q' :: B) ++ q :: A) q'.1
        exact (wV_app _ _ _).mpr ⟨h1.2, h1.1⟩
      · show ¬ eqm x.1.2.2 (wM x ((q' :: B) ++ q :: A)) (wN x ((q' :: B) ++ q :: A) q'.1)
        rw [wM_app, wN_app]
        refine fun z => h2 ((eqm.of (Nat.mul_comm _ _)).tr (z.tr (eqm.of (Nat.mul_comm _ _))))
theorem simp_turn {A B : List (Nat × Nat)} (h : Simp (A ++ B)) : Simp (B ++ A) :=
  ⟨(List.perm_append_comm.map Prod.fst).nodup h.1, (List.perm_append_comm.map Prod.snd).nodup h.2⟩
theorem low_ex : ∀ (L : List (Nat × Nat)), L ≠ [] → ∃ q, q ∈ L ∧ ∀ q', q' ∈ L → q.1 ≤ q'.1 := by
  intro L
  induction L with
  | nil => exact fun h => absurd rfl h
  | cons q t ih =>
    intro _
    by_cases e : t = []
    · subst e
      exact ⟨q, List.mem_cons_self, fun q' h => by rw [List.mem_singleton.mp h]; exact Nat.le_refl _⟩
    · obtain ⟨p, h1, h2⟩ := ih e
      by_cases c : q.1 ≤ p.1
      · refine ⟨q, List.mem_cons_self, fun q' h => ?_⟩
        rcases List.mem_cons.mp h with z | z
        · rw [z]; exact Nat.le_refl _
        · exact Nat.le_trans c (h2 q' z)
      · refine ⟨p, List.mem_cons_of_mem _ h1, fun q' h => ?_⟩
        rcases List.mem_cons.mp h with z | z
        · rw [z]; omega
        · exact h2 q' z
theorem wrong_low {x : Gd} (hx : Gok x) {L : List (Nat × Nat)} (h : Wrong x L) : ∃ L', Wrong x L' ∧ Simp L' ∧ Low L' := by
  obtain ⟨L1, h1, h2⟩ := wrong_simple hx L.length L (Nat.le_refl _) h
  have hne : L1 ≠ [] := fun z => by rw [z] at h1; exact h1.2 (eqm.rf _ _)
  obtain ⟨q, g1, g2⟩ := low_ex L1 hne
  obtain ⟨A, B, e⟩ := List.append_of_mem g1
  rw [e] at h1 h2
  refine ⟨(q :: B) ++ A, wrong_turn h1, simp_turn h2, fun q' hq => ?_⟩
  show q.1 ≤ q'.1
  refine g2 q' ?_
  rw [e]
  rcases List.mem_append.mp hq with z | z
  · exact List.mem_append.mpr (Or.inr z)
  · exact List.mem_append.mpr (Or.inl z)
