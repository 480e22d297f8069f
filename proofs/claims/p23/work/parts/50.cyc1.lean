/-! ===== cycles of the reference, pure: rings as lists of rows and columns in turn ===== -/
def qg (q : List Nat) (i : Nat) : Nat := (q[i]?).getD 0
theorem qg_l {q l : List Nat} {j : Nat} (h : j < q.length) : qg (q ++ l) j = qg q j := by
  unfold qg
  rw [List.getElem?_append_left h]
theorem qg_m {q l : List Nat} {v : Nat} : qg (q ++ v :: l) q.length = v := by
  unfold qg
  rw [List.getElem?_append_right (Nat.le_refl _), Nat.sub_self]
  rfl
theorem qg_t {q : List Nat} {i j : Nat} (h : j < i) : qg (q.take i) j = qg q j := by
  unfold qg
  rw [List.getElem?_take_of_lt h]
theorem qg_rev {r : Nat} {l : List Nat} {j : Nat} (h : j < l.length) : qg (r :: l.reverse) (j + 1) = qg (r :: l) (l.length - j) := by
  show (l.reverse[j]?).getD 0 = ((r :: l)[l.length - j]?).getD 0
  rw [List.getElem?_reverse h, show l.length - j = (l.length - 1 - j) + 1 by omega]
  rfl
theorem qg_6 {q : List Nat} (h : ∀ v, v ∈ q → v < 6) (j : Nat) : qg q j < 6 := by
  unfold qg
  cases e : q[j]? with
  | none => show 0 < 6; omega
  | some v => exact h v (List.mem_of_getElem? e)
def mo (x : Gd) (k : Nat) : Nat := if k % 2 = 0 then x.1.1 else x.1.2.1
def csH (x : Gd) (q : List Nat) (v : Nat) : Bool := if q.length % 2 = 1 then td x (qg q (q.length - 1)) v else decide (q.length = 0) || (decide (qg q 0 < v) && td x v (qg q (q.length - 1)))
def csT (q : List Nat) (v i : Nat) : Bool := al i (fun t => !decide (qg q (q.length - 2 - 2 * t) = v))
/-- whether v can stand behind the ring's beginning q -/
def csB (x : Gd) (q : List Nat) (v : Nat) : Bool := csH x q v && csT q v (q.length / 2)
theorem csT_iff {q : List Nat} {v i : Nat} : csT q v i = true ↔ ∀ t, t < i → qg q (q.length - 2 - 2 * t) ≠ v := by
  unfold csT
  rw [al_iff]
  constructor
  · intro h t ht e
    have := h t ht
    rw [decide_eq_true e] at this
    exact absurd this (by decide)
  · intro h t ht
    rw [decide_eq_false (h t ht)]; rfl
theorem csB_odd {x : Gd} {q : List Nat} {v d : Nat} (hl : q.length = 2 * d + 1) : csB x q v = true ↔ td x (qg q (2 * d)) v = true ∧ ∀ j, j < d → qg q (2 * j + 1) ≠ v := by
  unfold csB csH
  rw [if_pos (by omega), Bool.and_eq_true, csT_iff, show q.length - 1 = 2 * d by omega, show q.length / 2 = d by omega]
  refine ⟨fun h => ⟨h.1, fun j hj => ?_⟩, fun h => ⟨h.1, fun t ht => ?_⟩⟩
  · have := h.2 (d - 1 - j) (by omega)
    rwa [show q.length - 2 - 2 * (d - 1 - j) = 2 * j + 1 by omega] at this
  · rw [show q.length - 2 - 2 * t = 2 * (d - 1 - t) + 1 by omega]
    exact h.2 _ (by omega)
theorem csB_even {x : Gd} {q : List Nat} {v d : Nat} (hl : q.length = 2 * d + 2) : csB x q v = true ↔ (qg q 0 < v ∧ td x v (qg q (2 * d + 1)) = true) ∧ ∀ j, j < d + 1 → qg q (2 * j) ≠ v := by
  unfold csB csH
  rw [if_neg (by omega), Bool.and_eq_true, csT_iff, decide_eq_false (show ¬ q.length = 0 by omega), Bool.false_or, Bool.and_eq_true, decide_eq_true_iff, show q.length - 1 = 2 * d + 1 by omega, show q.length / 2 = d + 1 by omega]
  refine ⟨fun h => ⟨h.1, fun j hj => ?_⟩, fun h => ⟨h.1, fun t ht => ?_⟩⟩
  · have := h.2 (d - j) (by omega)
    rwa [show q.length - 2 - 2 * (d - j) = 2 * j by omega] at this
  · rw [show q.length - 2 - 2 * t = 2 * (d - t) by omega]
    exact h.2 _ (by omega)
theorem csB_nil {x : Gd} {v : Nat} : csB x [] v = true := rfl
theorem td_lt {x : Gd} (hx : Gok x) {r c : Nat} (hc : c < 6) (h : td x r c = true) : r < x.1.1 ∧ c < x.1.2.1 := by
  have h1 : 0 < at' x r c := of_decide_eq_true h
  refine ⟨Classical.byContradiction fun z => ?_, Classical.byContradiction fun z => ?_⟩
  · have := hx.out hc (Or.inl (show x.1.1 ≤ r by omega)); omega
  · have := hx.out (r := r) hc (Or.inr (show x.1.2.1 ≤ c by omega)); omega
theorem csB_mo {x : Gd} (hx : Gok x) {q : List Nat} {v : Nat} (h6 : ∀ v, v ∈ q → v < 6) (hv : v < 6) (h1 : 1 ≤ q.length) (h : csB x q v = true) : v < mo x q.length := by
  unfold mo
  by_cases e : q.length % 2 = 0
  · rw [if_pos e]
    have := ((csB_even (d := q.length / 2 - 1) (by omega)).mp h).1.2
    exact (td_lt hx (qg_6 h6 _) this).1
  · rw [if_neg e]
    have := ((csB_odd (d := q.length / 2) (by omega)).mp h).1
    exact (td_lt hx hv this).2
theorem mo_6 {x : Gd} (hx : Gok x) (k : Nat) : 2 ≤ mo x k ∧ mo x k ≤ 6 := by
  have := hx.1
  have := hx.2.1
  unfold mo
  split <;> omega
/-- the sum over all rings that begin with q, n places more -/
def DD (x : Gd) (G : List Nat → Nat) : Nat → List Nat → Nat
  | 0, q => G q
  | n + 1, q => sm (mo x q.length) (fun v => if csB x q v = true then DD x G n (q ++ [v]) else 0)
def SL : Nat → (List Nat → Nat) → Nat
  | 0, F => F []
  | n + 1, F => sm 6 (fun v => SL n (fun l => F (v :: l)))
theorem SL_congr {F G : List Nat → Nat} : ∀ n, (∀ l, l.length = n → (∀ v, v ∈ l → v < 6) → F l = G l) → SL n F = SL n G := by
  intro n
  induction n generalizing F G with
  | zero => intro h; exact h [] rfl (fun v hv => nomatch hv)
  | succ n ih =>
    intro h
    refine sm_congr fun v hv => ih fun l h1 h2 => h (v :: l) (by simp [h1]) fun w hw => ?_
    rcases List.mem_cons.mp hw with e | e
    · rw [e]; exact hv
    · exact h2 w e
theorem SL_sm {m : Nat} {F : Nat → List Nat → Nat} : ∀ n, SL n (fun l => sm m (fun v => F v l)) = sm m (fun v => SL n (F v)) := by
  intro n
  induction n generalizing F with
  | zero => rfl
  | succ n ih =>
    show sm 6 (fun w => SL n (fun l => sm m (fun v => F v (w :: l)))) = _
    rw [sm_congr fun w _ => ih (F := fun v l => F v (w :: l)), sm_comm]
    rfl
theorem SL_add {F G : List Nat → Nat} : ∀ n, SL n (fun l => F l + G l) = SL n F + SL n G := by
  intro n
  induction n generalizing F G with
  | zero => rfl
  | succ n ih =>
    show sm 6 (fun w => SL n (fun l => F (w :: l) + G (w :: l))) = _
    rw [sm_congr fun w _ => ih (F := fun l => F (w :: l)) (G := fun l => G (w :: l)), sm_add]
    rfl
theorem SL_zero : ∀ n, SL n (fun _ => 0) = 0 := by
  intro n
  induction n with
  | zero => rfl
  | succ n ih => exact sm_zero fun v _ => ih
theorem SL_snoc {F : List Nat → Nat} : ∀ n, SL (n + 1) F = SL n (fun l => sm 6 (fun v => F (l ++ [v]))) := by
  intro n
  induction n generalizing F with
  | zero => rfl
  | succ n ih =>
    show sm 6 (fun v => SL (n + 1) (fun l => F (v :: l))) = _
    rw [sm_congr fun v _ => ih (F := fun l => F (v :: l))]
    rfl
theorem SL_rev {F : List Nat → Nat} : ∀ n, SL n F = SL n (fun l => F l.reverse) := by
  intro n
  induction n generalizing F with
  | zero => rfl
  | succ n ih =>
    rw [SL_snoc, SL_sm]
    show _ = sm 6 (fun v => SL n (fun l => F (v :: l).reverse))
    refine sm_congr fun v _ => ?_
    rw [ih (F := fun l => F (l ++ [v]))]
    exact SL_congr n fun l _ _ => by rw [List.reverse_cons]
def VV (x : Gd) : List Nat → List Nat → Bool
  | _, [] => true
  | q, v :: l => csB x q v && VV x (q ++ [v]) l
theorem DD_SL {x : Gd} (hx : Gok x) {G : List Nat → Nat} : ∀ n (q : List Nat), 1 ≤ q.length → (∀ v, v ∈ q → v < 6) → DD x G n q = SL n (fun l => if VV x q l = true then G (q ++ l) else 0) := by
  intro n
  induction n with
  | zero =>
    intro q _ _
    show G q = if true = true then G (q ++ []) else 0
    rw [if_pos rfl, List.append_nil]
  | succ n ih =>
    intro q h1 h6
    show sm (mo x q.length) (fun v => if csB x q v = true then DD x G n (q ++ [v]) else 0) = sm 6 (fun v => SL n (fun l => if VV x q (v :: l) = true then G (q ++ v :: l) else 0))
    rw [← sm_more (f := fun v => if csB x q v = true then DD x G n (q ++ [v]) else 0) (mo_6 hx q.length).2 (fun v h2 h3 => if_neg fun z => by have := csB_mo hx h6 h3 h1 z; omega)]
    refine sm_congr fun v hv => ?_
    cases e : csB x q v with
    | true =>
      rw [if_pos rfl, ih (q ++ [v]) (by simp) (fun w hw => by
        rcases List.mem_append.mp hw with z | z
        · exact h6 w z
        · rw [List.mem_singleton.mp z]; exact hv)]
      refine SL_congr n fun l _ _ => ?_
      rw [show VV x q (v :: l) = (csB x q v && VV x (q ++ [v]) l) from rfl, e, Bool.true_and, List.append_assoc]
      rfl
    | false =>
      rw [if_neg (by decide)]
      refine Eq.trans (SL_zero n).symm (SL_congr n fun l _ _ => ?_)
      rw [show VV x q (v :: l) = (csB x q v && VV x (q ++ [v]) l) from rfl, e, Bool.false_and]
      rfl
theorem VV_iff {x : Gd} : ∀ (l q : List Nat), VV x q l = true ↔ ∀ i, q.length ≤ i → i < q.length + l.length → csB x ((q ++ l).take i) (qg (q ++ l) i) = true := by
  intro l
  induction l with
  | nil => intro q; exact ⟨fun _ i h1 h2 => by simp at h2; omega, fun _ => rfl⟩
  | cons v l ih =>
    intro q
    have e1 : q ++ v :: l = (q ++ [v]) ++ l := by rw [List.append_assoc]; rfl
    have e2 : csB x ((q ++ v :: l).take q.length) (qg (q ++ v :: l) q.length) = csB x q v := by
      rw [qg_m, List.take_left]
    rw [show VV x q (v :: l) = (csB x q v && VV x (q ++ [v]) l) from rfl, Bool.and_eq_true, ih (q ++ [v]), ← e1, ← e2, List.length_append, List.length_cons]
    constructor
    · rintro ⟨h1, h2⟩ i h3 h4
      by_cases e : i = q.length
      · rw [e]; exact h1
      · exact h2 i (by simp; omega) (by simp at h4 ⊢; omega)
    · intro h
      exact ⟨h _ (Nat.le_refl _) (by simp), fun i h3 h4 => h i (by simp at h3; omega) (by simp at h4 ⊢; omega)⟩
-- a whole ring of k rows and k columns
def PO (x : Gd) (Q : List Nat) (d : Nat) : Prop := td x (qg Q (2 * d)) (qg Q (2 * d + 1)) = true ∧ ∀ j, j < d → qg Q (2 * j + 1) ≠ qg Q (2 * d + 1)
def PE (x : Gd) (Q : List Nat) (d : Nat) : Prop := (qg Q 0 < qg Q (2 * d + 2) ∧ td x (qg Q (2 * d + 2)) (qg Q (2 * d + 1)) = true) ∧ ∀ j, j < d + 1 → qg Q (2 * j) ≠ qg Q (2 * d + 2)
def okQ (x : Gd) (k : Nat) (Q : List Nat) : Prop := (∀ d, d < k → PO x Q d) ∧ ∀ d, d + 1 < k → PE x Q d
theorem VV_ok {x : Gd} {r k : Nat} {l : List Nat} (hl : l.length + 1 = 2 * k) : VV x [r] l = true ↔ okQ x k (r :: l) := by
  rw [VV_iff]
  have e : [r] ++ l = r :: l := rfl
  rw [e]
  have hlen : (r :: l).length = 2 * k := by rw [List.length_cons]; exact hl
  have co : ∀ d, d < k → (csB x ((r :: l).take (2 * d + 1)) (qg (r :: l) (2 * d + 1)) = true ↔ PO x (r :: l) d) := by
    intro d hd
    rw [csB_odd (d := d) (by rw [List.length_take, hlen]; omega), qg_t (by omega)]
    refine and_congr Iff.rfl ⟨fun h j hj => ?_, fun h j hj => ?_⟩
    · have := h j hj
      rwa [qg_t (by omega)] at this
    · rw [qg_t (by omega)]; exact h j hj
  have ce : ∀ d, d + 1 < k → (csB x ((r :: l).take (2 * d + 2)) (qg (r :: l) (2 * d + 2)) = true ↔ PE x (r :: l) d) := by
    intro d hd
    rw [csB_even (d := d) (by rw [List.length_take, hlen]; omega), qg_t (by omega), qg_t (by omega)]
    refine and_congr Iff.rfl ⟨fun h j hj => ?_, fun h j hj => ?_⟩
    · have := h j hj
      rwa [qg_t (by omega)] at this
    · rw [qg_t (by omega)]; exact h j hj
  constructor
  · intro h
    refine ⟨fun d hd => (co d hd).mp (h _ (by simp) (by simp; omega)), fun d hd => (ce d hd).mp (h _ (by simp) (by simp; omega))⟩
  · rintro ⟨h1, h2⟩ i h3 h4
    have h3 : 1 ≤ i := h3
    have h4 : i < 1 + l.length := h4
    by_cases e : i % 2 = 1
    · have := (co (i / 2) (by omega)).mpr (h1 _ (by omega))
      rwa [show 2 * (i / 2) + 1 = i by omega] at this
    · have := (ce (i / 2 - 1) (by omega)).mpr (h2 _ (by omega))
      rwa [show 2 * (i / 2 - 1) + 2 = i by omega] at this
def clQ (x : Gd) (k : Nat) (Q : List Nat) : Bool := td x (qg Q 0) (qg Q (2 * k - 1))
theorem ok_rev {x : Gd} {r k : Nat} {l : List Nat} (hl : l.length + 1 = 2 * k) (h : okQ x k (r :: l)) (hc : clQ x k (r :: l) = true) : okQ x k (r :: l.reverse) ∧ clQ x k (r :: l.reverse) = true := by
  obtain ⟨h1, h2⟩ := h
  have e0 : qg (r :: l.reverse) 0 = qg (r :: l) 0 := rfl
  have eO : ∀ d, d < k → qg (r :: l.reverse) (2 * d + 1) = qg (r :: l) (2 * (k - 1 - d) + 1) := by
    intro d hd
    rw [qg_rev (by omega), show l.length - 2 * d = 2 * (k - 1 - d) + 1 by omega]
  have eE : ∀ d, d + 1 < k → qg (r :: l.reverse) (2 * d + 2) = qg (r :: l) (2 * (k - 2 - d) + 2) := by
    intro d hd
    rw [qg_rev (j := 2 * d + 1) (by omega), show l.length - (2 * d + 1) = 2 * (k - 2 - d) + 2 by omega]
  refine ⟨⟨fun d hd => ⟨?_, fun j hj => ?_⟩, fun d hd => ⟨⟨?_, ?_⟩, fun j hj => ?_⟩⟩, ?_⟩
  · rw [eO d hd]
    by_cases e : d = 0
    · subst e
      show td x r _ = true
      have := hc
      unfold clQ at this
      rwa [show 2 * k - 1 = 2 * (k - 1 - 0) + 1 by omega] at this
    · rw [show 2 * d = 2 * (d - 1) + 2 by omega, eE (d - 1) (by omega)]
      have := (h2 (k - 1 - d) (by omega)).1.2
      rwa [show k - 1 - d = k - 2 - (d - 1) by omega] at this ⊢
  · rw [eO d hd, eO j (by omega)]
    have := (h1 (k - 1 - j) (by omega)).2 (k - 1 - d) (by omega)
    exact fun z => this z.symm
  · rw [eE d hd]; exact (h2 (k - 2 - d) (by omega)).1.1
  · rw [eE d hd, eO d (by omega)]
    have := (h1 (k - 2 - d + 1) (by omega)).1
    rw [show 2 * (k - 2 - d + 1) = 2 * (k - 2 - d) + 2 by omega] at this
    rw [show 2 * (k - 1 - d) + 1 = 2 * (k - 2 - d) + 2 + 1 by omega]
    exact this
  · rw [eE d hd]
    by_cases e : j = 0
    · subst e
      show qg (r :: l) 0 ≠ _
      have := (h2 (k - 2 - d) (by omega)).1.1
      omega
    · rw [show 2 * j = 2 * (j - 1) + 2 by omega, eE (j - 1) (by omega)]
      have := (h2 (k - 2 - (j - 1)) (by omega)).2 (k - 2 - d + 1) (by omega)
      rw [show 2 * (k - 2 - d + 1) = 2 * (k - 2 - d) + 2 by omega] at this
      exact fun z => this z.symm
  · unfold clQ
    rw [show 2 * k - 1 = 2 * (k - 1) + 1 by omega, eO (k - 1) (by omega), show k - 1 - (k - 1) = 0 by omega]
    exact (h1 0 (by omega)).1
def okB (x : Gd) (k r : Nat) (l : List Nat) : Bool := VV x [r] l && clQ x k (r :: l)
theorem okB_rev {x : Gd} {r k : Nat} {l : List Nat} (hl : l.length + 1 = 2 * k) : okB x k r l.reverse = okB x k r l := by
  have key : ∀ l : List Nat, l.length + 1 = 2 * k → okB x k r l = true → okB x k r l.reverse = true := by
    intro l hl h
    unfold okB at h ⊢
    rw [Bool.and_eq_true] at h ⊢
    have := ok_rev hl ((VV_ok hl).mp h.1) h.2
    exact ⟨(VV_ok (by rw [List.length_reverse]; exact hl)).mpr this.1, this.2⟩
  refine Bool.eq_iff_iff.mpr ⟨fun h => ?_, key l hl⟩
  have := key l.reverse (by rw [List.length_reverse]; exact hl) h
  rwa [List.reverse_reverse] at this
-- sums and products over a ring
def prd : Nat → (Nat → Nat) → Nat
  | 0, _ => 1
  | n + 1, f => prd n f * f n
theorem prd_congr {n : Nat} {f g : Nat → Nat} (h : ∀ k, k < n → f k = g k) : prd n f = prd n g := by
  induction n with
  | zero => rfl
  | succ n ih => unfold prd; rw [ih (fun k hk => h k (by omega)), h n (by omega)]
theorem prd_cons {n : Nat} {f : Nat → Nat} : prd (n + 1) f = f 0 * prd n (fun j => f (j + 1)) := by
  induction n with
  | zero => show 1 * f 0 = f 0 * 1; omega
  | succ n ih =>
    show prd (n + 1) f * f (n + 1) = f 0 * (prd n (fun j => f (j + 1)) * f (n + 1))
    rw [ih, Nat.mul_assoc]
theorem prd_rev {n : Nat} {f : Nat → Nat} : prd n (fun j => f (n - 1 - j)) = prd n f := by
  induction n with
  | zero => rfl
  | succ n ih =>
    rw [prd_cons, show prd (n + 1) f = prd n f * f n from rfl, Nat.mul_comm, ← ih]
    congr 1
    exact prd_congr fun j hj => by rw [show n + 1 - 1 - (j + 1) = n - 1 - j by omega]
theorem prd_mul {n : Nat} {f g : Nat → Nat} : prd n (fun j => f j * g j) = prd n f * prd n g := by
  induction n with
  | zero => rfl
  | succ n ih =>
    show prd n (fun j => f j * g j) * (f n * g n) = prd n f * f n * (prd n g * g n)
    rw [ih, Nat.mul_assoc, Nat.mul_assoc, ← Nat.mul_assoc (prd n g), Nat.mul_comm (prd n g), Nat.mul_assoc]
theorem prd_mod {m n : Nat} {f g : Nat → Nat} (h : ∀ k, k < n → f k % m = g k % m) : prd n f % m = prd n g % m := by
  induction n with
  | zero => rfl
  | succ n ih =>
    show prd n f * f n % m = prd n g * g n % m
    rw [Nat.mul_mod, ih (fun k hk => h k (by omega)), h n (by omega), ← Nat.mul_mod]
theorem sm_cons {n : Nat} {f : Nat → Nat} : sm (n + 1) f = f 0 + sm n (fun j => f (j + 1)) := by
  induction n with
  | zero => show 0 + f 0 = f 0 + 0; omega
  | succ n ih =>
    show sm (n + 1) f + f (n + 1) = f 0 + (sm n (fun j => f (j + 1)) + f (n + 1))
    rw [ih, Nat.add_assoc]
theorem sm_rev {n : Nat} {f : Nat → Nat} : sm n (fun j => f (n - 1 - j)) = sm n f := by
  induction n with
  | zero => rfl
  | succ n ih =>
    rw [sm_cons, show sm (n + 1) f = sm n f + f n from rfl, Nat.add_comm, ← ih]
    congr 1
    exact sm_congr fun j hj => by rw [show n + 1 - 1 - (j + 1) = n - 1 - j by omega]
def RM (k : Nat) (Q : List Nat) : Nat := sm k (fun j => 2 ^ qg Q (2 * j))
def CM (k : Nat) (Q : List Nat) : Nat := sm k (fun j => 2 ^ qg Q (2 * j + 1))
def nx (k j : Nat) : Nat := (2 * j + 2) % (2 * k)
def o1 (x : Gd) (k : Nat) (Q : List Nat) (i : Nat) : Nat := prd i (fun j => at' x (qg Q (2 * j)) (qg Q (2 * j + 1))) % x.1.2.2
def o2 (x : Gd) (k : Nat) (Q : List Nat) (i : Nat) : Nat := prd i (fun j => at' x (qg Q (nx k j)) (qg Q (2 * j + 1))) % x.1.2.2
def wt (x : Gd) (k : Nat) (φ : Ph) (Q : List Nat) : Nat := φ (RM k Q) (CM k Q) (if o1 x k Q k = o2 x k Q k then 1 else 2)
theorem nx_lt {k j : Nat} (h : j + 1 < k) : nx k j = 2 * j + 2 := Nat.mod_eq_of_lt (by omega)
theorem nx_k {k : Nat} (h : 1 ≤ k) : nx k (k - 1) = 0 := by
  unfold nx
  rw [show 2 * (k - 1) + 2 = 2 * k by omega, Nat.mod_self]
theorem wt_rev {x : Gd} {r k : Nat} {φ : Ph} {l : List Nat} (hl : l.length + 1 = 2 * k) (hk : 1 ≤ k) : wt x k φ (r :: l.reverse) = wt x k φ (r :: l) := by
  have e0 : qg (r :: l.reverse) 0 = qg (r :: l) 0 := rfl
  have eO : ∀ d, d < k → qg (r :: l.reverse) (2 * d + 1) = qg (r :: l) (2 * (k - 1 - d) + 1) := by
    intro d hd
    rw [qg_rev (by omega), show l.length - 2 * d = 2 * (k - 1 - d) + 1 by omega]
  have eE : ∀ d, d + 1 < k → qg (r :: l.reverse) (2 * d + 2) = qg (r :: l) (2 * (k - 2 - d) + 2) := by
    intro d hd
    rw [qg_rev (j := 2 * d + 1) (by omega), show l.length - (2 * d + 1) = 2 * (k - 2 - d) + 2 by omega]
  have eR : RM k (r :: l.reverse) = RM k (r :: l) := by
    unfold RM
    obtain ⟨n, rfl⟩ : ∃ n, k = n + 1 := ⟨k - 1, by omega⟩
    rw [sm_cons, sm_cons, ← sm_rev (n := n) (f := fun j => 2 ^ qg (r :: l) (2 * (j + 1)))]
    congr 1
    refine sm_congr fun j hj => ?_
    rw [show 2 * (j + 1) = 2 * j + 2 by omega, eE j (by omega), show 2 * (n + 1 - 2 - j) + 2 = 2 * (n - 1 - j + 1) by omega]
  have eC : CM k (r :: l.reverse) = CM k (r :: l) := by
    unfold CM
    rw [← sm_rev (n := k) (f := fun j => 2 ^ qg (r :: l) (2 * j + 1))]
    exact sm_congr fun j hj => by rw [eO j hj]
  have e1 : o1 x k (r :: l.reverse) k = o2 x k (r :: l) k := by
    unfold o1 o2
    rw [← prd_rev (n := k) (f := fun j => at' x (qg (r :: l) (nx k j)) (qg (r :: l) (2 * j + 1)))]
    congr 1
    refine prd_congr fun j hj => ?_
    show _ = at' x (qg (r :: l) (nx k (k - 1 - j))) _
    rw [eO j hj]
    by_cases e : j = 0
    · subst e
      rw [show k - 1 - 0 = k - 1 by omega, nx_k hk]
      rfl
    · rw [nx_lt (by omega), show 2 * j = 2 * (j - 1) + 2 by omega, eE (j - 1) (by omega), show k - 2 - (j - 1) = k - 1 - (j - 1 + 1) by omega, show j - 1 + 1 = j by omega]
  have e2 : o2 x k (r :: l.reverse) k = o1 x k (r :: l) k := by
    unfold o1 o2
    rw [← prd_rev (n := k) (f := fun j => at' x (qg (r :: l) (2 * j)) (qg (r :: l) (2 * j + 1)))]
    congr 1
    refine prd_congr fun j hj => ?_
    show _ = at' x (qg (r :: l) (2 * (k - 1 - j))) _
    rw [eO j hj]
    by_cases e : j = k - 1
    · subst e
      rw [nx_k hk, show k - 1 - (k - 1) = 0 by omega]
      rfl
    · rw [nx_lt (by omega), eE j (by omega), show 2 * (k - 2 - j) + 2 = 2 * (k - 1 - j) by omega]
  unfold wt
  rw [eR, eC, e1, e2]
  by_cases e : o1 x k (r :: l) k = o2 x k (r :: l) k
  · rw [if_pos e, if_pos e.symm]
  · rw [if_neg e, if_neg (fun z => e z.symm)]
def Gf (x : Gd) (k : Nat) (φ : Ph) (Q : List Nat) : Nat := if clQ x k Q = true then wt x k φ Q else 0
/-- what the reference counts: of each two directions that whose first column is below the last -/
def Gh (x : Gd) (k : Nat) (φ : Ph) (Q : List Nat) : Nat := if clQ x k Q = true ∧ qg Q 1 < qg Q (2 * k - 1) then wt x k φ Q else 0
theorem half {x : Gd} (hx : Gok x) {k r : Nat} {φ : Ph} (hk : 2 ≤ k) (hr : r < 6) : DD x (Gf x k φ) (2 * k - 1) [r] = 2 * DD x (Gh x k φ) (2 * k - 1) [r] := by
  have h6 : ∀ v, v ∈ [r] → v < 6 := fun v hv => by rw [List.mem_singleton.mp hv]; exact hr
  rw [DD_SL hx _ [r] (by simp) h6, DD_SL hx _ [r] (by simp) h6]
  have a : SL (2 * k - 1) (fun l => if VV x [r] l = true then Gh x k φ ([r] ++ l) else 0) = SL (2 * k - 1) (fun l => if okB x k r l = true ∧ qg (r :: l) 1 < qg (r :: l) (2 * k - 1) then wt x k φ (r :: l) else 0) := by
    refine SL_congr _ fun l _ _ => ?_
    show (if VV x [r] l = true then Gh x k φ (r :: l) else 0) = _
    unfold Gh okB
    by_cases e1 : VV x [r] l = true
    · rw [if_pos e1, e1, Bool.true_and]
    · rw [if_neg e1, if_neg (fun z => e1 (by have := z.1; rw [Bool.and_eq_true] at this; exact this.1))]
  have b : SL (2 * k - 1) (fun l => if VV x [r] l = true then Gf x k φ ([r] ++ l) else 0) = SL (2 * k - 1) (fun l => (if okB x k r l = true ∧ qg (r :: l) 1 < qg (r :: l) (2 * k - 1) then wt x k φ (r :: l) else 0) + (if okB x k r l = true ∧ qg (r :: l) (2 * k - 1) < qg (r :: l) 1 then wt x k φ (r :: l) else 0)) := by
    refine SL_congr _ fun l hl _ => ?_
    show (if VV x [r] l = true then Gf x k φ (r :: l) else 0) = _
    unfold Gf
    by_cases e1 : VV x [r] l = true
    · have ok := (VV_ok (k := k) (by omega)).mp e1
      have ne := (ok.1 (k - 1) (by omega)).2 0 (by omega)
      rw [show 2 * (k - 1) + 1 = 2 * k - 1 by omega] at ne
      have ne : qg (r :: l) 1 ≠ qg (r :: l) (2 * k - 1) := ne
      rw [if_pos e1, show okB x k r l = clQ x k (r :: l) by unfold okB; rw [e1, Bool.true_and]]
      by_cases e2 : clQ x k (r :: l) = true
      · rw [if_pos e2]
        by_cases e3 : qg (r :: l) 1 < qg (r :: l) (2 * k - 1)
        · rw [if_pos ⟨e2, e3⟩, if_neg (fun z => by have := z.2; omega)]; rfl
        · rw [if_neg (fun z => e3 z.2), if_pos ⟨e2, by omega⟩, Nat.zero_add]
      · rw [if_neg e2, if_neg (fun z => e2 z.1), if_neg (fun z => e2 z.1)]
    · have e2 : ¬ okB x k r l = true := fun z => e1 (by unfold okB at z; rw [Bool.and_eq_true] at z; exact z.1)
      rw [if_neg e1, if_neg (fun z => e2 z.1), if_neg (fun z => e2 z.1)]
  rw [a, b, SL_add]
  have c : SL (2 * k - 1) (fun l => if okB x k r l = true ∧ qg (r :: l) (2 * k - 1) < qg (r :: l) 1 then wt x k φ (r :: l) else 0) = SL (2 * k - 1) (fun l => if okB x k r l = true ∧ qg (r :: l) 1 < qg (r :: l) (2 * k - 1) then wt x k φ (r :: l) else 0) := by
    rw [SL_rev]
    refine SL_congr _ fun l hl _ => ?_
    rw [okB_rev (by omega), wt_rev (by omega) (by omega)]
    have q1 : qg (r :: l.reverse) 1 = qg (r :: l) (2 * k - 1) := by rw [qg_rev (j := 0) (by omega), show l.length - 0 = 2 * k - 1 by omega]
    have q2 : qg (r :: l.reverse) (2 * k - 1) = qg (r :: l) 1 := by
      rw [show 2 * k - 1 = (2 * k - 2) + 1 by omega, qg_rev (j := 2 * k - 2) (by omega), show l.length - (2 * k - 2) = 1 by omega]
    rw [q1, q2]
  rw [c]
  omega
