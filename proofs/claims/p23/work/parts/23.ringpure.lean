/-! ===== cycles of the class, pure: counts of ways by sets of columns and ratios ===== -/
abbrev Wf : Type := Nat → Nat → Nat
abbrev Ph : Type := Nat → Nat → Nat → Nat
theorem sm_pick {n k : Nat} {f : Nat → Nat} (hk : k < n) : sm n (fun j => if k = j then f j else 0) = f k := by
  induction n with
  | zero => omega
  | succ n ih =>
    rw [sm_succ]
    by_cases e : k = n
    · subst e
      rw [sm_zero (fun j hj => if_neg (by omega)), if_pos rfl]; omega
    · rw [ih (by omega), if_neg e]; rfl
theorem sm_pick' {n k : Nat} {f : Nat → Nat} (hk : k < n) : sm n (fun j => if j = k then f j else 0) = f k := by
  rw [← sm_pick (f := f) hk]
  refine sm_congr fun j _ => ?_
  by_cases e : j = k
  · rw [if_pos e, if_pos e.symm]
  · rw [if_neg e, if_neg (fun z => e z.symm)]
theorem sm_ge {n k : Nat} {f : Nat → Nat} (hk : k < n) : f k ≤ sm n f := by
  induction n with
  | zero => omega
  | succ n ih =>
    rw [sm_succ]
    by_cases e : k = n
    · subst e; omega
    · have := ih (by omega); omega
/-- the weight of all ways over so many columns -/
def Ls (d gr : Nat) (W : Wf) (ψ : Nat → Nat → Nat) : Nat := sm 64 (fun S => if pc6 S = d then sm (gr + 1) (fun i => if i = 0 then 0 else W S i * ψ S i) else 0)
theorem Ls_congr {d gr : Nat} {W W' : Wf} {ψ ψ' : Nat → Nat → Nat} (h : ∀ S i, S < 64 → pc6 S = d → 0 < i → i ≤ gr → W S i = W' S i ∧ ψ S i = ψ' S i) : Ls d gr W ψ = Ls d gr W' ψ' := by
  refine sm_congr fun S hS => ?_
  by_cases e : pc6 S = d
  · rw [if_pos e, if_pos e]
    refine sm_congr fun i hi => ?_
    by_cases e2 : i = 0
    · rw [if_pos e2, if_pos e2]
    · rw [if_neg e2, if_neg e2, (h S i hS e (by omega) (by omega)).1, (h S i hS e (by omega) (by omega)).2]
  · rw [if_neg e, if_neg e]
theorem Ls_ge {d gr : Nat} {W : Wf} {S i : Nat} (hS : S < 64) (hp : pc6 S = d) (h0 : 0 < i) (hi : i ≤ gr) : W S i ≤ Ls d gr W (fun _ _ => 1) := by
  have h1 : (if i = 0 then 0 else W S i * 1) ≤ sm (gr + 1) (fun i => if i = 0 then 0 else W S i * 1) := sm_ge (f := fun i => if i = 0 then 0 else W S i * 1) (by omega)
  have h2 : (if pc6 S = d then sm (gr + 1) (fun i => if i = 0 then 0 else W S i * 1) else 0) ≤ Ls d gr W (fun _ _ => 1) := sm_ge (f := fun S => if pc6 S = d then sm (gr + 1) (fun i => if i = 0 then 0 else W S i * 1) else 0) hS
  rw [if_pos hp] at h2
  rw [if_neg (by omega)] at h1
  omega
theorem Ls_sum {d gr n : Nat} {W : Wf} {ψ : Nat → Nat → Nat → Nat} : Ls d gr W (fun S i => sm n (fun k => ψ k S i)) = sm n (fun k => Ls d gr W (ψ k)) := by
  unfold Ls
  rw [sm_comm]
  refine sm_congr fun S _ => ?_
  by_cases e : pc6 S = d
  · rw [if_pos e]
    rw [show sm n (fun j => if pc6 S = d then sm (gr + 1) (fun i => if i = 0 then 0 else W S i * ψ j S i) else 0) = sm n (fun j => sm (gr + 1) (fun i => if i = 0 then 0 else W S i * ψ j S i)) from sm_congr fun j _ => if_pos e]
    rw [sm_comm]
    refine sm_congr fun i _ => ?_
    by_cases e2 : i = 0
    · rw [if_pos e2]; exact (sm_zero fun j _ => if_pos e2).symm
    · rw [if_neg e2, ← sm_mul]
      exact sm_congr fun j _ => (if_neg e2).symm
  · rw [if_neg e]
    exact (sm_zero fun j _ => if_neg e).symm
theorem Ls_zero {d gr : Nat} {W : Wf} {ψ : Nat → Nat → Nat} (h : ∀ S i, S < 64 → pc6 S = d → 0 < i → i ≤ gr → W S i * ψ S i = 0) : Ls d gr W ψ = 0 := by
  refine sm_zero fun S hS => ?_
  by_cases e : pc6 S = d
  · rw [if_pos e]
    refine sm_zero fun i hi => ?_
    by_cases e2 : i = 0
    · rw [if_pos e2]
    · rw [if_neg e2]; exact h S i hS e (by omega) (by omega)
  · exact if_neg e
theorem Ls_le {d gr b : Nat} {W : Wf} {ψ : Nat → Nat → Nat} (h : ∀ S i, ψ S i ≤ b) : Ls d gr W ψ ≤ b * Ls d gr W (fun _ _ => 1) := by
  have mono : ∀ (n : Nat) (f g : Nat → Nat), (∀ k, k < n → f k ≤ b * g k) → sm n f ≤ b * sm n g := by
    intro n f g
    induction n with
    | zero => intro _; simp [sm]
    | succ n ih =>
      intro hk
      rw [sm_succ, sm_succ, Nat.mul_add]
      exact Nat.add_le_add (ih fun k hk2 => hk k (by omega)) (hk n (by omega))
  refine mono 64 _ _ fun S _ => ?_
  split
  · refine mono (gr + 1) _ _ fun i _ => ?_
    split
    · exact Nat.zero_le _
    · rw [Nat.mul_one, Nat.mul_comm b]
      exact Nat.mul_le_mul_left _ (h S i)
  · exact Nat.zero_le _
-- one set, one column
def loW (gr m rt : Nat) (W : Wf) (S c n : Nat) : Wf := fun T j => if T = S + 2 ^ c then W T j + sm n (fun i => if i = 0 then 0 else if i * rt % m = j then W S i else 0) else W T j
theorem bits6 : ∀ S, S < 64 → ∀ c, c < 6 → bit S c = false → (S + 2 ^ c < 64 ∧ pc6 (S + 2 ^ c) = pc6 S + 1) ∧ S ≠ S + 2 ^ c := by decide +kernel
theorem or6 : ∀ S, S < 64 → ∀ c, c < 6 → bit S c = false → (nI S ||| (nI 1 <<< (nI c &&& 31))) = nI (S + 2 ^ c) := by decide +kernel
theorem pc6_0 : ∀ S, S < 64 → (pc6 S = 0 ↔ S = 0) := by decide +kernel
theorem pc6_le : ∀ S, S < 64 → pc6 S ≤ 6 := by decide +kernel
theorem Ls_lo {d gr m rt S c : Nat} {W : Wf} {ψ : Nat → Nat → Nat} (hS : S < 64) (hc : c < 6) (hb : bit S c = false) (hd : pc6 S + 1 = d) (hr : ∀ i, 0 < i → i ≤ gr → 0 < i * rt % m ∧ i * rt % m ≤ gr) :
    Ls d gr (loW gr m rt W S c (gr + 1)) ψ = Ls d gr W ψ + sm (gr + 1) (fun i => if i = 0 then 0 else W S i * ψ (S + 2 ^ c) (i * rt % m)) := by
  obtain ⟨⟨h1, h2⟩, h3⟩ := bits6 S hS c hc hb
  have key : ∀ T, T < 64 → (if pc6 T = d then sm (gr + 1) (fun i => if i = 0 then 0 else loW gr m rt W S c (gr + 1) T i * ψ T i) else 0) =
      (if pc6 T = d then sm (gr + 1) (fun i => if i = 0 then 0 else W T i * ψ T i) else 0) + (if T = S + 2 ^ c then sm (gr + 1) (fun i => if i = 0 then 0 else W S i * ψ (S + 2 ^ c) (i * rt % m)) else 0) := by
    intro T hT
    by_cases e : T = S + 2 ^ c
    · subst e
      rw [if_pos (by omega), if_pos (by omega), if_pos rfl]
      have h4 : sm (gr + 1) (fun i => if i = 0 then 0 else W S i * ψ (S + 2 ^ c) (i * rt % m)) = sm (gr + 1) (fun j => if j = 0 then 0 else sm (gr + 1) (fun i => if i = 0 then 0 else if i * rt % m = j then W S i else 0) * ψ (S + 2 ^ c) j) := by
        rw [show sm (gr + 1) (fun j => if j = 0 then 0 else sm (gr + 1) (fun i => if i = 0 then 0 else if i * rt % m = j then W S i else 0) * ψ (S + 2 ^ c) j) = sm (gr + 1) (fun j => sm (gr + 1) (fun i => if i = 0 then 0 else if i * rt % m = j then W S i * ψ (S + 2 ^ c) j else 0)) from ?_]
        · rw [sm_comm]
          refine sm_congr fun i hi => ?_
          by_cases e0 : i = 0
          · rw [if_pos e0]; exact (sm_zero fun j _ => if_pos e0).symm
          · rw [if_neg e0]
            have := hr i (by omega) (by omega)
            rw [show sm (gr + 1) (fun j => if i = 0 then 0 else if i * rt % m = j then W S i * ψ (S + 2 ^ c) j else 0) = sm (gr + 1) (fun j => if i * rt % m = j then W S i * ψ (S + 2 ^ c) j else 0) from sm_congr fun j _ => if_neg e0]
            exact (sm_pick (f := fun j => W S i * ψ (S + 2 ^ c) j) (by omega)).symm
        · refine sm_congr fun j hj => ?_
          by_cases e0 : j = 0
          · rw [if_pos e0]
            refine (sm_zero fun i hi => ?_).symm
            by_cases e1 : i = 0
            · exact if_pos e1
            · have := hr i (by omega) (by omega)
              rw [if_neg e1, if_neg (by omega)]
          · rw [if_neg e0, ← sm_mulr]
            refine sm_congr fun i _ => ?_
            by_cases e1 : i = 0
            · rw [if_pos e1, if_pos e1, Nat.zero_mul]
            · rw [if_neg e1, if_neg e1]
              split
              · rfl
              · exact Nat.zero_mul _
      rw [h4, ← sm_add]
      refine sm_congr fun j _ => ?_
      by_cases e0 : j = 0
      · rw [if_pos e0, if_pos e0, if_pos e0]
      · rw [if_neg e0, if_neg e0, if_neg e0]
        unfold loW
        rw [if_pos rfl, Nat.add_mul]
    · rw [if_neg e, Nat.add_zero]
      by_cases e2 : pc6 T = d
      · rw [if_pos e2, if_pos e2]
        refine sm_congr fun j _ => ?_
        unfold loW
        rw [if_neg e]
      · rw [if_neg e2, if_neg e2]
  unfold Ls
  rw [sm_congr key, sm_add, sm_pick' (f := fun _ => sm (gr + 1) (fun i => if i = 0 then 0 else W S i * ψ (S + 2 ^ c) (i * rt % m))) h1]
-- what has been counted: all, wrong ones, rows and columns of the first wrong one
abbrev Ac : Type := Nat × Nat × Nat × Nat
def wrg : Ph := fun _ _ i => if i = 1 then 0 else 1
def one : Ph := fun _ _ _ => 1
def wky (a b : Nat) : Ph := fun r c i => if i ≠ 1 ∧ r = a ∧ c = b then 1 else 0
def AccIs (a : Ac) (F : Ph → Nat) : Prop := a.1 = F one ∧ a.2.1 = F wrg ∧ (a.2.1 = 0 → ∀ r c, F (wky r c) = 0) ∧
  (a.2.1 ≠ 0 → F (wky a.2.2.1 a.2.2.2) ≠ 0 ∧ ∀ r c, (r < a.2.2.1 ∨ r = a.2.2.1 ∧ c < a.2.2.2) → F (wky r c) = 0)
def noteW (a : Ac) (n r c : Nat) : Ac := if n = 0 then a else (a.1 + n, a.2.1 + n, if a.2.1 = 0 ∨ r < a.2.2.1 ∨ r = a.2.2.1 ∧ c < a.2.2.2 then (r, c) else a.2.2)
theorem AccIs.congr {a : Ac} {F F' : Ph → Nat} (h : AccIs a F) (e : ∀ φ, F φ = F' φ) : AccIs a F' := by
  have : F = F' := funext e
  rw [← this]; exact h
theorem AccIs.add1 {a : Ac} {F : Ph → Nat} (h : AccIs a F) (n r c : Nat) : AccIs (a.1 + n, a.2) (fun φ => F φ + n * φ r c 1) := by
  obtain ⟨h1, h2, h3, h4⟩ := h
  refine ⟨?_, ?_, fun z r' c' => ?_, fun z => ⟨?_, fun r' c' hh => ?_⟩⟩
  · show a.1 + n = F one + n * 1
    rw [h1, Nat.mul_one]
  · show a.2.1 = F wrg + n * 0
    rw [h2]; rfl
  · show F (wky r' c') + n * (wky r' c' r c 1) = 0
    rw [h3 z r' c']; simp [wky]
  · show F (wky a.2.2.1 a.2.2.2) + _ ≠ 0
    have := (h4 z).1
    omega
  · show F (wky r' c') + n * (wky r' c' r c 1) = 0
    rw [(h4 z).2 r' c' hh]; simp [wky]
theorem AccIs.note {a : Ac} {F : Ph → Nat} (h : AccIs a F) {n r c i : Nat} (hi : i ≠ 1) : AccIs (noteW a n r c) (fun φ => F φ + n * φ r c i) := by
  by_cases hn : n = 0
  · subst hn
    unfold noteW
    rw [if_pos rfl]
    exact h.congr fun φ => by rw [Nat.zero_mul]; rfl
  · obtain ⟨h1, h2, h3, h4⟩ := h
    unfold noteW
    rw [if_neg hn]
    have hw : ∀ r' c', wky r' c' r c i = if r = r' ∧ c = c' then 1 else 0 := by
      intro r' c'
      unfold wky
      by_cases e : r = r' ∧ c = c'
      · rw [if_pos ⟨hi, e.1, e.2⟩, if_pos e]
      · rw [if_neg (fun z => e ⟨z.2.1, z.2.2⟩), if_neg e]
    refine ⟨?_, ?_, fun z => ?_, fun _ => ?_⟩
    · show a.1 + n = F one + n * 1
      rw [h1, Nat.mul_one]
    · show a.2.1 + n = F wrg + n * (if i = 1 then 0 else 1)
      rw [h2, if_neg hi, Nat.mul_one]
    · have z : a.2.1 + n = 0 := z
      omega
    · show F (wky (if a.2.1 = 0 ∨ r < a.2.2.1 ∨ r = a.2.2.1 ∧ c < a.2.2.2 then (r, c) else a.2.2).1 (if a.2.1 = 0 ∨ r < a.2.2.1 ∨ r = a.2.2.1 ∧ c < a.2.2.2 then (r, c) else a.2.2).2) + n * _ ≠ 0 ∧ ∀ r' c', (r' < (if a.2.1 = 0 ∨ r < a.2.2.1 ∨ r = a.2.2.1 ∧ c < a.2.2.2 then (r, c) else a.2.2).1 ∨ r' = (if a.2.1 = 0 ∨ r < a.2.2.1 ∨ r = a.2.2.1 ∧ c < a.2.2.2 then (r, c) else a.2.2).1 ∧ c' < (if a.2.1 = 0 ∨ r < a.2.2.1 ∨ r = a.2.2.1 ∧ c < a.2.2.2 then (r, c) else a.2.2).2) → F (wky r' c') + n * (wky r' c' r c i) = 0
      by_cases e : a.2.1 = 0 ∨ r < a.2.2.1 ∨ r = a.2.2.1 ∧ c < a.2.2.2
      · rw [if_pos e]
        refine ⟨?_, fun r' c' hh => ?_⟩
        · rw [hw, if_pos ⟨rfl, rfl⟩]; omega
        · have hh : r' < r ∨ r' = r ∧ c' < c := hh
          rw [hw, if_neg (by omega), Nat.mul_zero, Nat.add_zero]
          by_cases e0 : a.2.1 = 0
          · exact h3 e0 r' c'
          · exact (h4 e0).2 r' c' (by omega)
      · rw [if_neg e]
        have e0 : a.2.1 ≠ 0 := by omega
        refine ⟨?_, fun r' c' hh => ?_⟩
        · have := (h4 e0).1
          omega
        · rw [hw, if_neg (by omega), (h4 e0).2 r' c' hh, Nat.mul_zero]
def colI (W : Wf) (S r : Nat) : Nat → Ac → Ac
  | 0, a => a
  | i + 1, a => if i < 2 then colI W S r i a else noteW (colI W S r i a) (W S i) r S
def colS (W : Wf) (k gr r : Nat) : Nat → Ac → Ac
  | 0, a => a
  | S + 1, a => if pc6 S = k then colI W S r (gr + 1) ((colS W k gr r S a).1 + W S 1, (colS W k gr r S a).2) else colS W k gr r S a
theorem colI_acc {W : Wf} {S r : Nat} {a : Ac} {F : Ph → Nat} (h : AccIs a F) : ∀ n, AccIs (colI W S r n a) (fun φ => F φ + sm n (fun i => if i < 2 then 0 else W S i * φ r S i)) := by
  intro n
  induction n with
  | zero => exact h.congr fun φ => (Nat.add_zero _).symm
  | succ n ih =>
    unfold colI
    split
    · rename_i h2
      exact ih.congr fun φ => by rw [sm_succ, if_pos h2]; rfl
    · rename_i h2
      exact (ih.note (i := n) (by omega)).congr fun φ => by rw [sm_succ, if_neg h2, Nat.add_assoc]
theorem colS_acc {W : Wf} {k gr r : Nat} (hg : 1 ≤ gr) {a : Ac} {F : Ph → Nat} (h : AccIs a F) : ∀ n, AccIs (colS W k gr r n a) (fun φ => F φ + sm n (fun S => if pc6 S = k then sm (gr + 1) (fun i => if i = 0 then 0 else W S i * φ r S i) else 0)) := by
  intro n
  induction n with
  | zero => exact h.congr fun φ => (Nat.add_zero _).symm
  | succ n ih =>
    unfold colS
    split
    · rename_i h2
      refine (colI_acc (W := W) (S := n) (r := r) (ih.add1 (W n 1) r n) (gr + 1)).congr fun φ => ?_
      rw [sm_succ (n := n), if_pos h2, ← Nat.add_assoc, Nat.add_assoc _ (W n 1 * φ r n 1)]
      congr 1
      have h3 : W n 1 * φ r n 1 = sm (gr + 1) (fun i => if i = 1 then W n i * φ r n i else 0) := (sm_pick' (f := fun i => W n i * φ r n i) (by omega)).symm
      rw [h3, ← sm_add]
      refine sm_congr fun i _ => ?_
      by_cases e0 : i = 0
      · subst e0; rfl
      · by_cases e1 : i = 1
        · subst e1; simp
        · rw [if_neg e1, if_neg (by omega), if_neg e0]; omega
    · rename_i h2
      exact ih.congr fun φ => by rw [sm_succ, if_neg h2]; rfl
theorem colS_64 {W : Wf} {k gr r : Nat} (hg : 1 ≤ gr) {a : Ac} {F : Ph → Nat} (h : AccIs a F) : AccIs (colS W k gr r 64 a) (fun φ => F φ + Ls k gr W (fun S i => φ r S i)) := colS_acc hg h 64
theorem noteW_le {a : Ac} {n r c : Nat} : (noteW a n r c).2.1 ≤ (noteW a n r c).1 ∨ ¬ a.2.1 ≤ a.1 := by
  unfold noteW
  split
  · omega
  · show a.2.1 + n ≤ a.1 + n ∨ _
    omega
-- the ways on from a row
def okc (x : Gd) (r s S c : Nat) : Bool := (td x r c && td x s c) && !bit S c
def rtf (x : Gd) (gr r s c : Nat) : Nat := if 1 < gr ∧ (td x r c && td x s c) = true then qt x.1.2.2 (at' x r c) (at' x s c) else 1
def Gw (x : Gd) (gr home : Nat) (φ : Ph) : Nat → Nat → Nat → Nat → Nat → Nat
  | 0, r, seen, S, i => sm 6 (fun c => if okc x r home S c then φ seen (S + 2 ^ c) (i * rtf x gr r home c % x.1.2.2) else 0)
  | n + 1, r, seen, S, i => sm x.1.1 (fun s => if home < s ∧ bit seen s = false then sm 6 (fun c => if okc x r s S c then Gw x gr home φ n s (seen + 2 ^ s) (S + 2 ^ c) (i * rtf x gr r s c % x.1.2.2) else 0) else 0)
def Gok2 (x : Gd) (gr : Nat) : Prop := gr = 1 ∨ gr + 1 = x.1.2.2
theorem mul_ok : ∀ m, m < 14 → Mok m → ∀ a, a < m → ∀ b, b < m → a ≠ 0 → b ≠ 0 → a * b % m ≠ 0 := by
  intro m hm h
  unfold Mok at h
  rcases h with rfl | rfl | rfl | rfl <;> decide +kernel
theorem rtf_lt {x : Gd} (hx : Gok x) {gr r s c : Nat} : 1 ≤ rtf x gr r s c ∧ rtf x gr r s c < x.1.2.2 := by
  have hM := hx.2.2.1.le
  unfold rtf
  split
  · rename_i h
    have h2 := h.2
    rw [Bool.and_eq_true] at h2
    have h3 := of_decide_eq_true h2.1
    have h4 := of_decide_eq_true h2.2
    exact (qt_ok _ (by omega) hx.2.2.1 _ (hx.lt r c) _ (hx.lt s c) (by omega) (by omega)).1
  · omega
theorem rtf_ok {x : Gd} (hx : Gok x) {gr r s c : Nat} (hg : Gok2 x gr) : ∀ i, 0 < i → i ≤ gr → 0 < i * rtf x gr r s c % x.1.2.2 ∧ i * rtf x gr r s c % x.1.2.2 ≤ gr := by
  intro i h0 hi
  have hM := hx.2.2.1.le
  have hr := rtf_lt hx (gr := gr) (r := r) (s := s) (c := c)
  rcases hg with rfl | hg
  · have : rtf x 1 r s c = 1 := by unfold rtf; rw [if_neg (by omega)]
    rw [this, show i = 1 by omega, Nat.mod_eq_of_lt (by omega)]
    omega
  · have h1 := mul_ok _ (by omega) hx.2.2.1 i (by omega) (rtf x gr r s c) hr.2 (by omega) (by omega)
    have h2 := Nat.mod_lt (i * rtf x gr r s c) (y := x.1.2.2) (by omega)
    omega
theorem sm_first {n b : Nat} {f : Nat → Nat} (h0 : f 0 = 0) (h : ∀ k, k < n → f k ≤ b) : sm n f ≤ (n - 1) * b := by
  induction n with
  | zero => simp [sm]
  | succ n ih =>
    rw [sm_succ]
    by_cases e : n = 0
    · subst e; simp [sm, h0]
    · have h1 := ih (fun k hk => h k (by omega))
      have h2 := h n (by omega)
      have h3 : (n + 1 - 1) * b = (n - 1) * b + b := by
        rw [show n + 1 - 1 = (n - 1) + 1 by omega, Nat.succ_mul]
      omega
theorem Gw_le {x : Gd} (hx : Gok x) {gr home : Nat} : ∀ (n r seen S i : Nat), Gw x gr home one n r seen S i ≤ 6 * 30 ^ n := by
  intro n
  induction n with
  | zero =>
    intro r seen S i
    refine Nat.le_trans (sm_le (b := 1) fun c _ => ?_) (by omega)
    split
    · exact Nat.le_refl _
    · omega
  | succ n ih =>
    intro r seen S i
    have hR := hx.1
    have h1 : ∀ s, s < x.1.1 → (if home < s ∧ bit seen s = false then sm 6 (fun c => if okc x r s S c then Gw x gr home one n s (seen + 2 ^ s) (S + 2 ^ c) (i * rtf x gr r s c % x.1.2.2) else 0) else 0) ≤ 6 * (6 * 30 ^ n) := by
      intro s _
      split
      · refine sm_le fun c _ => ?_
        split
        · exact ih _ _ _ _
        · omega
      · omega
    have h2 := sm_first (n := x.1.1) (by rw [if_neg (by omega)]) h1
    refine Nat.le_trans h2 ?_
    have h3 : (x.1.1 - 1) * (6 * (6 * 30 ^ n)) ≤ 5 * (6 * (6 * 30 ^ n)) := Nat.mul_le_mul_right _ (by omega)
    have h4 : 6 * 30 ^ (n + 1) = 5 * (6 * (6 * 30 ^ n)) := by rw [Nat.pow_succ]; omega
    omega
