/-! ===== cycles: what the class counts is twice what the reference counts ===== -/
theorem bit0 : ∀ v, v < 6 → bit 0 v = false := by decide +kernel
theorem bitS : ∀ S, S < 64 → ∀ c, c < 6 → bit S c = false → ∀ v, v < 6 → bit (S + 2 ^ c) v = (bit S v || decide (c = v)) := by decide +kernel
theorem bsum_ok {f : Nat → Nat} : ∀ n, (∀ j, j < n → f j < 6) → (∀ i j, i < n → j < i → f j ≠ f i) → sm n (fun j => 2 ^ f j) < 64 ∧ ∀ v, v < 6 → (bit (sm n (fun j => 2 ^ f j)) v = false ↔ ∀ j, j < n → f j ≠ v) := by
  intro n
  induction n with
  | zero => intro _ _; exact ⟨by show 0 < 64; omega, fun v hv => ⟨fun _ j hj => absurd hj (Nat.not_lt_zero _), fun _ => bit0 v hv⟩⟩
  | succ n ih =>
    intro h6 hd
    obtain ⟨h1, h2⟩ := ih (fun j hj => h6 j (by omega)) (fun i j hi hj => hd i j (by omega) hj)
    have hb := (h2 (f n) (h6 n (by omega))).mpr (fun j hj => hd n j (by omega) hj)
    refine ⟨(bits6 _ h1 _ (h6 n (by omega)) hb).1.1, fun v hv => ?_⟩
    show bit (sm n (fun j => 2 ^ f j) + 2 ^ f n) v = false ↔ _
    rw [bitS _ h1 _ (h6 n (by omega)) hb v hv, Bool.or_eq_false_iff, h2 v hv, decide_eq_false_iff_not]
    constructor
    · rintro ⟨a, b⟩ j hj
      by_cases e : j = n
      · rw [e]; exact b
      · exact a j (by omega)
    · intro a
      exact ⟨fun j hj => a j (by omega), a n (by omega)⟩
def PhOk (φ : Ph) : Prop := ∀ r c i, φ r c i = φ r c (if i = 1 then 1 else 2)
theorem ph_one : PhOk one := fun _ _ _ => rfl
theorem ph_wrg : PhOk wrg := by
  intro r c i
  unfold wrg
  by_cases e : i = 1
  · rw [if_pos e, if_pos (by rw [if_pos e])]
  · rw [if_neg e, if_neg (by rw [if_neg e]; decide)]
theorem ph_wky {a b : Nat} : PhOk (wky a b) := by
  intro r c i
  unfold wky
  by_cases e : i = 1
  · rw [if_neg (fun z => z.1 e), if_neg (fun z => z.1 (by rw [if_pos e]))]
  · rw [if_neg e]
    by_cases w : r = a ∧ c = b
    · rw [if_pos ⟨e, w⟩, if_pos ⟨by decide, w⟩]
    · rw [if_neg (fun z => w z.2), if_neg (fun z => w z.2)]
def ri (x : Gd) (gr k : Nat) (Q : List Nat) (i : Nat) : Nat := prd i (fun j => rtf x gr (qg Q (2 * j)) (qg Q (nx k j)) (qg Q (2 * j + 1))) % x.1.2.2
def Gc (x : Gd) (gr k : Nat) (φ : Ph) (Q : List Nat) : Nat := if clQ x k Q = true then φ (RM k Q) (CM k Q) (ri x gr k Q k) else 0
theorem DD_6 {x : Gd} (hx : Gok x) {G : List Nat → Nat} {n : Nat} {q : List Nat} (h6 : ∀ v, v ∈ q → v < 6) (h1 : 1 ≤ q.length) : DD x G (n + 1) q = sm 6 (fun v => if csB x q v = true then DD x G n (q ++ [v]) else 0) :=
  (sm_more (f := fun v => if csB x q v = true then DD x G n (q ++ [v]) else 0) (mo_6 hx q.length).2 (fun v h2 h3 => if_neg fun z => by have := csB_mo hx h6 h3 h1 z; omega)).symm
theorem mem_sn {q : List Nat} {c : Nat} (h6 : ∀ v, v ∈ q → v < 6) (hc : c < 6) : ∀ v, v ∈ q ++ [c] → v < 6 := fun w hw => by
  rcases List.mem_append.mp hw with z | z
  · exact h6 w z
  · rw [List.mem_singleton.mp z]; exact hc
theorem RM_sn {q : List Nat} {c d : Nat} (h : 2 * d ≤ q.length + 1) : RM d (q ++ [c]) = RM d q := by
  refine sm_congr fun j hj => ?_
  rw [qg_l (by omega)]
theorem CM_sn {q : List Nat} {c d : Nat} (h : 2 * d ≤ q.length) : CM d (q ++ [c]) = CM d q := by
  refine sm_congr fun j hj => ?_
  rw [qg_l (by omega)]
theorem ri_sn {x : Gd} {gr k : Nat} {q : List Nat} {c d : Nat} (h : 2 * d < q.length) (hd : d < k) : ri x gr k (q ++ [c]) d = ri x gr k q d := by
  unfold ri
  congr 1
  refine prd_congr fun j hj => ?_
  rw [nx_lt (by omega), qg_l (by omega), qg_l (by omega), qg_l (by omega)]
theorem ri_s {x : Gd} {gr k : Nat} {Q : List Nat} {i : Nat} : ri x gr k Q (i + 1) = ri x gr k Q i * rtf x gr (qg Q (2 * i)) (qg Q (nx k i)) (qg Q (2 * i + 1)) % x.1.2.2 := by
  unfold ri
  rw [mod1]
  rfl
theorem Gw_DD {x : Gd} (hx : Gok x) {gr k : Nat} {φ : Ph} : ∀ (n d : Nat) (q : List Nat), d + n + 1 = k → q.length = 2 * d + 1 → (∀ v, v ∈ q → v < 6) → (∀ i j, i < d + 1 → j < i → qg q (2 * j) ≠ qg q (2 * i)) → (∀ i j, i < d → j < i → qg q (2 * j + 1) ≠ qg q (2 * i + 1)) →
    Gw x gr (qg q 0) φ n (qg q (2 * d)) (RM (d + 1) q) (CM d q) (ri x gr k q d) = DD x (Gc x gr k φ) (2 * n + 1) q := by
  intro n
  induction n with
  | zero =>
    intro d q hd hl h6 h1 h2
    have bC := bsum_ok (f := fun j => qg q (2 * j + 1)) d (fun j _ => qg_6 h6 _) h2
    rw [DD_6 hx h6 (by omega)]
    refine sm_congr fun c hc => ?_
    have lc : qg (q ++ [c]) (2 * d + 1) = c := by rw [← hl]; exact qg_m
    have dk : k = d + 1 := by omega
    have e0 : clQ x k (q ++ [c]) = td x (qg q 0) c := by
      unfold clQ
      rw [qg_l (by omega), show 2 * k - 1 = 2 * d + 1 by omega, lc]
    have e1 : RM k (q ++ [c]) = RM (d + 1) q := by rw [dk]; exact RM_sn (by omega)
    have e2 : CM k (q ++ [c]) = CM d q + 2 ^ c := by
      rw [dk]
      show CM d (q ++ [c]) + 2 ^ qg (q ++ [c]) (2 * d + 1) = _
      rw [CM_sn (by omega), lc]
    have e3 : ri x gr k (q ++ [c]) k = ri x gr k q d * rtf x gr (qg q (2 * d)) (qg q 0) c % x.1.2.2 := by
      have e4 : ri x gr k (q ++ [c]) k = ri x gr k (q ++ [c]) (d + 1) := by rw [← dk]
      rw [e4, ri_s, ri_sn (by omega) (by omega), lc, show d = k - 1 by omega, nx_k (by omega), show k - 1 = d by omega, qg_l (by omega), qg_l (by omega)]
    have ec := csB_odd (x := x) (v := c) hl
    have eb := bC.2 c hc
    by_cases w : csB x q c = true
    · obtain ⟨w1, w2⟩ := ec.mp w
      have w3 : bit (CM d q) c = false := eb.mpr w2
      rw [if_pos w]
      show _ = Gc x gr k φ (q ++ [c])
      unfold Gc
      rw [e0, e1, e2, e3]
      unfold okc
      rw [w1, w3, Bool.true_and, Bool.not_false, Bool.and_true]
    · rw [if_neg w]
      refine if_neg fun z => w (ec.mpr ?_)
      unfold okc at z
      rw [Bool.and_eq_true, Bool.and_eq_true] at z
      refine ⟨z.1.1, eb.mp ?_⟩
      have := z.2
      cases u : bit (CM d q) c with
      | true => rw [u] at this; exact absurd this (by decide)
      | false => exact u
  | succ n ih =>
    intro d q hd hl h6 h1 h2
    have bC := bsum_ok (f := fun j => qg q (2 * j + 1)) d (fun j _ => qg_6 h6 _) h2
    have bR := bsum_ok (f := fun j => qg q (2 * j)) (d + 1) (fun j _ => qg_6 h6 _) h1
    rw [show 2 * (n + 1) + 1 = (2 * n + 1 + 1) + 1 by omega, DD_6 hx h6 (by omega)]
    show sm x.1.1 (fun s => if qg q 0 < s ∧ bit (RM (d + 1) q) s = false then sm 6 (fun c => if okc x (qg q (2 * d)) s (CM d q) c = true then Gw x gr (qg q 0) φ n s (RM (d + 1) q + 2 ^ s) (CM d q + 2 ^ c) (ri x gr k q d * rtf x gr (qg q (2 * d)) s c % x.1.2.2) else 0) else 0) = _
    rw [sm_congr fun s _ => sm_if, sm_comm]
    refine sm_congr fun c hc => ?_
    have lc : qg (q ++ [c]) (2 * d + 1) = c := by rw [← hl]; exact qg_m
    have l2 : (q ++ [c]).length = 2 * d + 2 := by rw [List.length_append, hl]; rfl
    have ec := csB_odd (x := x) (v := c) hl
    have eb := bC.2 c hc
    by_cases w : csB x q c = true
    · obtain ⟨w1, w2⟩ := ec.mp w
      have w3 : bit (CM d q) c = false := eb.mpr w2
      rw [if_pos w]
      show _ = sm (mo x (q ++ [c]).length) (fun v => if csB x (q ++ [c]) v = true then DD x (Gc x gr k φ) (2 * n + 1) (q ++ [c] ++ [v]) else 0)
      rw [l2, show mo x (2 * d + 2) = x.1.1 from if_pos (by omega)]
      refine sm_congr fun s hs => ?_
      have hs6 : s < 6 := by have := hx.1; omega
      have es := csB_even (x := x) (v := s) l2
      have er := bR.2 s hs6
      have k0 : qg (q ++ [c]) 0 = qg q 0 := qg_l (by omega)
      have kk : ∀ j, j < d + 1 → qg (q ++ [c]) (2 * j) = qg q (2 * j) := fun j hj => qg_l (by omega)
      by_cases u : csB x (q ++ [c]) s = true
      · obtain ⟨⟨u1, u2⟩, u3⟩ := es.mp u
        rw [k0] at u1
        rw [lc] at u2
        have u4 : bit (RM (d + 1) q) s = false := er.mpr fun j hj => by rw [← kk j hj]; exact u3 j hj
        have okk : okc x (qg q (2 * d)) s (CM d q) c = true := by unfold okc; rw [w1, u2, w3]; rfl
        rw [if_pos ⟨u1, u4⟩, if_pos okk, if_pos u]
        have ls : qg (q ++ [c] ++ [s]) (2 * d + 2) = s := by rw [← l2]; exact qg_m
        have lk : ∀ j, j < 2 * d + 2 → qg (q ++ [c] ++ [s]) j = qg (q ++ [c]) j := fun j hj => qg_l (by omega)
        have lc2 : qg (q ++ [c] ++ [s]) (2 * d + 1) = c := by rw [lk _ (by omega), lc]
        have hi := ih (d + 1) (q ++ [c] ++ [s]) (by omega) (by rw [List.length_append, l2]; rfl) (mem_sn (mem_sn h6 hc) hs6) ?_ ?_
        · rw [← hi]
          have f0 : qg (q ++ [c] ++ [s]) 0 = qg q 0 := by rw [lk _ (by omega), k0]
          have f1 : qg (q ++ [c] ++ [s]) (2 * (d + 1)) = s := ls
          have f2 : RM (d + 1 + 1) (q ++ [c] ++ [s]) = RM (d + 1) q + 2 ^ s := by
            show RM (d + 1) (q ++ [c] ++ [s]) + 2 ^ qg (q ++ [c] ++ [s]) (2 * (d + 1)) = _
            rw [f1, RM_sn (by omega), RM_sn (by omega)]
          have f3 : CM (d + 1) (q ++ [c] ++ [s]) = CM d q + 2 ^ c := by
            rw [CM_sn (by omega)]
            show CM d (q ++ [c]) + 2 ^ qg (q ++ [c]) (2 * d + 1) = _
            rw [lc, CM_sn (by omega)]
          have f4 : ri x gr k (q ++ [c] ++ [s]) (d + 1) = ri x gr k q d * rtf x gr (qg q (2 * d)) s c % x.1.2.2 := by
            rw [ri_s, nx_lt (by omega), ls, lc2, lk _ (by omega), qg_l (show 2 * d < q.length by omega), ri_sn (by omega) (by omega), ri_sn (by omega) (by omega)]
          rw [f0, f1, f2, f3, f4]
        · intro i j hi hj
          by_cases e : i = d + 1
          · subst e
            rw [show 2 * (d + 1) = 2 * d + 2 by omega, ls, lk _ (by omega)]
            exact u3 j hj
          · rw [lk _ (by omega), lk _ (by omega), kk j (by omega), kk i (by omega)]
            exact h1 i j (by omega) hj
        · intro i j hi hj
          by_cases e : i = d
          · subst e
            rw [lc2, lk _ (by omega), qg_l (by omega)]
            exact w2 j hj
          · rw [lk _ (by omega), lk _ (by omega), qg_l (show 2 * j + 1 < q.length by omega), qg_l (show 2 * i + 1 < q.length by omega)]
            exact h2 i j (by omega) hj
      · rw [if_neg u]
        by_cases v1 : qg q 0 < s ∧ bit (RM (d + 1) q) s = false
        · rw [if_pos v1]
          refine if_neg fun z => u (es.mpr ⟨⟨by rw [k0]; exact v1.1, ?_⟩, fun j hj => by rw [kk j hj]; exact er.mp v1.2 j hj⟩)
          rw [lc]
          unfold okc at z
          rw [Bool.and_eq_true, Bool.and_eq_true] at z
          exact z.1.2
        · exact if_neg v1
    · rw [if_neg w]
      refine sm_zero fun s hs => ?_
      by_cases v1 : qg q 0 < s ∧ bit (RM (d + 1) q) s = false
      · rw [if_pos v1]
        refine if_neg fun z => w (ec.mpr ?_)
        unfold okc at z
        rw [Bool.and_eq_true, Bool.and_eq_true] at z
        refine ⟨z.1.1, eb.mp ?_⟩
        have := z.2
        cases u : bit (CM d q) c with
        | true => rw [u] at this; exact absurd this (by decide)
        | false => exact u
      · exact if_neg v1
theorem canc : ∀ m, m < 14 → Mok m → ∀ i, i < m → ∀ b, b < m → b ≠ 0 → i * b % m = b → i = 1 := by
  intro m hm h
  unfold Mok at h
  rcases h with rfl | rfl | rfl | rfl <;> decide +kernel
theorem td_nx {x : Gd} {k : Nat} {Q : List Nat} (hq : okQ x k Q) (hc : clQ x k Q = true) {j : Nat} (hj : j < k) : td x (qg Q (nx k j)) (qg Q (2 * j + 1)) = true := by
  by_cases e : j + 1 < k
  · rw [nx_lt e]; exact (hq.2 j e).1.2
  · have e2 : j = k - 1 := by omega
    subst e2
    rw [nx_k (by omega), show 2 * (k - 1) + 1 = 2 * k - 1 by omega]
    exact hc
theorem ri_one {x : Gd} (hx : Gok x) {gr k : Nat} {Q : List Nat} (hg : gr + 1 = x.1.2.2) (hq : okQ x k Q) (hc : clQ x k Q = true) : ri x gr k Q k = 1 ↔ o1 x k Q k = o2 x k Q k := by
  have hM := hx.2.2.1.le
  have hb : ∀ j, j < k → 0 < at' x (qg Q (nx k j)) (qg Q (2 * j + 1)) := fun j hj => of_decide_eq_true (td_nx hq hc hj)
  have ha : ∀ j, j < k → 0 < at' x (qg Q (2 * j)) (qg Q (2 * j + 1)) := fun j hj => of_decide_eq_true (hq.1 j hj).1
  have hr : ∀ j, j < k → rtf x gr (qg Q (2 * j)) (qg Q (nx k j)) (qg Q (2 * j + 1)) * at' x (qg Q (nx k j)) (qg Q (2 * j + 1)) % x.1.2.2 = at' x (qg Q (2 * j)) (qg Q (2 * j + 1)) := by
    intro j hj
    unfold rtf
    rw [if_pos ⟨by omega, by rw [(hq.1 j hj).1, td_nx hq hc hj]; rfl⟩]
    exact (qt_ok _ (by omega) hx.2.2.1 _ (hx.lt _ _) _ (hx.lt _ _) (by have := ha j hj; omega) (by have := hb j hj; omega)).2
  have h1 : ri x gr k Q k * o2 x k Q k % x.1.2.2 = o1 x k Q k := by
    unfold ri o1 o2
    rw [← Nat.mul_mod, ← prd_mul]
    exact prd_mod fun j hj => by rw [hr j hj, Nat.mod_eq_of_lt (hx.lt _ _)]
  have h2 : o2 x k Q k ≠ 0 := by
    unfold o2
    have key : ∀ n, n ≤ k → prd n (fun j => at' x (qg Q (nx k j)) (qg Q (2 * j + 1))) % x.1.2.2 ≠ 0 := by
      intro n
      induction n with
      | zero =>
        intro _
        show 1 % x.1.2.2 ≠ 0
        rw [Nat.mod_eq_of_lt (by omega)]
        omega
      | succ n ih =>
        intro hn
        show prd n (fun j => at' x (qg Q (nx k j)) (qg Q (2 * j + 1))) * at' x (qg Q (nx k n)) (qg Q (2 * n + 1)) % x.1.2.2 ≠ 0
        rw [← mod1]
        exact mul_ok _ (by omega) hx.2.2.1 _ (Nat.mod_lt _ (by omega)) _ (hx.lt _ _) (ih (by omega)) (by have := hb n (by omega); omega)
    exact key k (Nat.le_refl _)
  have l1 : ri x gr k Q k < x.1.2.2 := Nat.mod_lt _ (by omega)
  have l2 : o2 x k Q k < x.1.2.2 := Nat.mod_lt _ (by omega)
  constructor
  · intro e
    rw [e, Nat.one_mul, Nat.mod_eq_of_lt l2] at h1
    exact h1.symm
  · intro e
    rw [e] at h1
    exact canc _ (by omega) hx.2.2.1 _ l1 _ l2 h2 h1
def PhG (x : Gd) (gr : Nat) (φ : Ph) : Prop := PhOk φ ∧ (gr + 1 = x.1.2.2 ∨ ∀ r c i j, φ r c i = φ r c j)
theorem wt_Gc {x : Gd} (hx : Gok x) {gr k : Nat} {φ : Ph} {Q : List Nat} (hφ : PhG x gr φ) (hq : okQ x k Q) : Gc x gr k φ Q = Gf x k φ Q := by
  unfold Gc Gf
  by_cases hc : clQ x k Q = true
  · rw [if_pos hc, if_pos hc]
    unfold wt
    rcases hφ.2 with hg | hg
    · rw [hφ.1]
      by_cases e : ri x gr k Q k = 1
      · rw [if_pos e, if_pos ((ri_one hx hg hq hc).mp e)]
      · rw [if_neg e, if_neg (fun z => e ((ri_one hx hg hq hc).mpr z))]
    · exact hg _ _ _ _
  · rw [if_neg hc, if_neg hc]
theorem Tot_2 {x : Gd} (hx : Gok x) {gr k : Nat} {φ : Ph} (hφ : PhG x gr φ) (hk : 2 ≤ k) : Tot x gr k φ = 2 * DD x (Gh x k φ) (2 * k) [] := by
  have hM := hx.2.2.1.le
  have hR := hx.1
  have e1 : DD x (Gh x k φ) (2 * k) [] = sm x.1.1 (fun v => DD x (Gh x k φ) (2 * k - 1) [v]) := by
    rw [show 2 * k = (2 * k - 1) + 1 by omega]
    show sm x.1.1 (fun v => if csB x [] v = true then DD x (Gh x k φ) (2 * k - 1 + 1 - 1) ([] ++ [v]) else 0) = _
    refine sm_congr fun v _ => ?_
    rw [csB_nil, if_pos rfl]
    rfl
  rw [e1, ← sm_mul]
  refine sm_congr fun r hr => ?_
  have h6 : ∀ v, v ∈ [r] → v < 6 := fun v hv => by rw [List.mem_singleton.mp hv]; omega
  rw [← half hx hk (by omega)]
  have e2 := Gw_DD hx (gr := gr) (k := k) (φ := φ) (k - 1) 0 [r] (by omega) rfl h6 (fun i j hi hj => by omega) (fun i j hi hj => by omega)
  have e3 : RM (0 + 1) [r] = 2 ^ r := Nat.zero_add _
  have e4 : ri x gr k [r] 0 = 1 := by
    show 1 % x.1.2.2 = 1
    exact Nat.mod_eq_of_lt (by omega)
  rw [e3, e4] at e2
  refine Eq.trans e2 ?_
  rw [show 2 * (k - 1) + 1 = 2 * k - 1 by omega, DD_SL hx _ [r] (by simp) h6, DD_SL hx _ [r] (by simp) h6]
  refine SL_congr _ fun l hl _ => ?_
  by_cases w : VV x [r] l = true
  · rw [if_pos w, if_pos w]
    exact wt_Gc hx (Q := r :: l) hφ ((VV_ok (l := l) (by omega)).mp w)
  · rw [if_neg w, if_neg w]
theorem well_o {x : Gd} (hx : Gok x) (hw : wellX x = true) {k : Nat} {Q : List Nat} (h6 : ∀ v, v ∈ Q → v < 6) (hq : okQ x k Q) (hc : clQ x k Q = true) : o1 x k Q k = o2 x k Q k := by
  have e1 : ∀ j, j < k → at' x (qg Q (2 * j)) (qg Q (2 * j + 1)) = (lay x).1.2.1 (qg Q (2 * j)) * (lay x).1.2.2 (qg Q (2 * j + 1)) % x.1.2.2 := by
    intro j hj
    have t := (hq.1 j hj).1
    have b := td_lt hx (qg_6 h6 _) t
    exact well_at hw b.1 b.2 t
  have e2 : ∀ j, j < k → at' x (qg Q (nx k j)) (qg Q (2 * j + 1)) = (lay x).1.2.1 (qg Q (nx k j)) * (lay x).1.2.2 (qg Q (2 * j + 1)) % x.1.2.2 := by
    intro j hj
    have t := td_nx hq hc hj
    have b := td_lt hx (qg_6 h6 _) t
    exact well_at hw b.1 b.2 t
  unfold o1 o2
  rw [prd_mod (m := x.1.2.2) (g := fun j => (lay x).1.2.1 (qg Q (2 * j)) * (lay x).1.2.2 (qg Q (2 * j + 1))) (fun j hj => by rw [e1 j hj, Nat.mod_mod]), prd_mod (m := x.1.2.2) (f := fun j => at' x (qg Q (nx k j)) (qg Q (2 * j + 1))) (g := fun j => (lay x).1.2.1 (qg Q (nx k j)) * (lay x).1.2.2 (qg Q (2 * j + 1))) (fun j hj => by rw [e2 j hj, Nat.mod_mod]), prd_mul, prd_mul]
  congr 2
  by_cases k0 : k = 0
  · subst k0; rfl
  · obtain ⟨n, rfl⟩ : ∃ n, k = n + 1 := ⟨k - 1, by omega⟩
    rw [prd_cons]
    show _ = prd n (fun j => (lay x).1.2.1 (qg Q (nx (n + 1) j))) * (lay x).1.2.1 (qg Q (nx (n + 1) n))
    have en : nx (n + 1) n = 0 := nx_k (k := n + 1) (by omega)
    rw [en, Nat.mul_comm]
    congr 1
    exact prd_congr fun j hj => by rw [nx_lt (by omega)]; rfl
theorem DD_zero {x : Gd} (hx : Gok x) (hw : wellX x = true) {k : Nat} (hk : 2 ≤ k) : DD x (Gh x k wrg) (2 * k) [] = 0 := by
  have hR := hx.1
  rw [show 2 * k = (2 * k - 1) + 1 by omega]
  refine sm_zero fun r hr => ?_
  have hr : r < x.1.1 := hr
  have h6 : ∀ v, v ∈ [r] → v < 6 := fun v hv => by rw [List.mem_singleton.mp hv]; omega
  rw [csB_nil, if_pos rfl]
  show DD x (Gh x k wrg) (2 * k - 1) [r] = 0
  rw [DD_SL hx _ [r] (by simp) h6]
  refine Eq.trans (SL_congr (G := fun _ => 0) _ fun l hl hv => ?_) (SL_zero _)
  by_cases w : VV x [r] l = true
  · rw [if_pos w]
    show Gh x k wrg (r :: l) = 0
    unfold Gh
    by_cases c : clQ x k (r :: l) = true ∧ qg (r :: l) 1 < qg (r :: l) (2 * k - 1)
    · rw [if_pos c]
      unfold wt
      have e := well_o hx hw (k := k) (Q := r :: l) (fun v hv2 => by
        rcases List.mem_cons.mp hv2 with z | z
        · rw [z]; omega
        · exact hv v z) ((VV_ok (by omega)).mp w) c.1
      rw [if_pos e]; rfl
    · exact if_neg c
  · exact if_neg w
theorem sm_leF {n : Nat} {f g : Nat → Nat} (h : ∀ k, k < n → f k ≤ g k) : sm n f ≤ sm n g := by
  induction n with
  | zero => exact Nat.le_refl _
  | succ n ih => exact Nat.add_le_add (ih fun k hk => h k (by omega)) (h n (by omega))
theorem DD_leF {x : Gd} {G G' : List Nat → Nat} (h : ∀ Q, G Q ≤ G' Q) : ∀ n q, DD x G n q ≤ DD x G' n q := by
  intro n
  induction n with
  | zero => intro q; exact h q
  | succ n ih =>
    intro q
    refine sm_leF fun v _ => ?_
    split
    · exact ih _
    · exact Nat.le_refl _
theorem DD_wrg {x : Gd} (hx : Gok x) {k : Nat} (hk : 2 ≤ k) (hk6 : k ≤ 6) : DD x (Gh x k wrg) (2 * k) [] < 2 ^ 30 := by
  have hM := hx.2.2.1.le
  have hR := hx.1.2
  have h1 : DD x (Gh x k wrg) (2 * k) [] ≤ DD x (Gh x k one) (2 * k) [] := by
    refine DD_leF (fun Q => ?_) _ _
    unfold Gh
    split
    · unfold wt wrg one
      split <;> split <;> omega
    · exact Nat.le_refl _
  have h2 := Tot_2 hx (gr := x.1.2.2 - 1) (φ := one) ⟨ph_one, Or.inl (by omega)⟩ hk
  have h3 : Tot x (x.1.2.2 - 1) k one ≤ x.1.1 * (6 * 30 ^ (k - 1)) := sm_le fun r _ => Gw_le hx _ _ _ _ _
  have h4 : 30 ^ (k - 1) ≤ 30 ^ 5 := Nat.pow_le_pow_right (by omega) (by omega)
  have h5 : x.1.1 * (6 * 30 ^ (k - 1)) ≤ 6 * (6 * 30 ^ 5) := Nat.mul_le_mul hR (Nat.mul_le_mul_left _ h4)
  have h6 : 6 * (6 * 30 ^ 5) < 2 ^ 30 := by decide
  omega
