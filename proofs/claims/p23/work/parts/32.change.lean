/-! ===== the class's changes ===== -/
theorem in_R {n : Int32} {a b : Nat} (ha : a ≤ b) (hb : b < 2 ^ 31) (h : isOut n (nI a) (nI b) = false) : ∃ k, a ≤ k ∧ k ≤ b ∧ n = nI k := by
  obtain ⟨h1, h2⟩ := isOut_f h
  have h0 : 0 ≤ nI a := by rw [Int32.le_iff_toInt_le, nI_toInt (by omega)]; show (0 : Int) ≤ _; omega
  obtain ⟨k, hk, rfl⟩ := nI_of (x := n) (Int32.not_lt.mpr (Int32.le_trans h0 (Int32.not_lt.mp h1)))
  rw [nI_ltI hk (by omega)] at h1
  rw [nI_ltI hb hk] at h2
  exact ⟨k, by omega, by omega, rfl⟩
/-- entries set one after another, row by row -/
def ptw (z : Nat → Nat) (R C : Nat) (q : Nat → Nat → Bool) (v : Nat → Nat → Nat) (r c : Nat) : Nat → Nat := fun p => if (p / 6 < R ∧ p % 6 < C) ∧ (p / 6 < r ∨ (p / 6 = r ∧ p % 6 < c)) ∧ q (p / 6) (p % 6) = true then v (p / 6) (p % 6) else z p
section PTW
variable {z : Nat → Nat} {R C : Nat} {q : Nat → Nat → Bool} {v : Nat → Nat → Nat} {r c : Nat}
theorem ptw_0 : ptw z R C q v 0 0 = z := by
  funext p; unfold ptw; rw [if_neg (by omega)]
theorem ptw_row (hc : C ≤ c) : ptw z R C q v r c = ptw z R C q v (r + 1) 0 := by
  funext p; unfold ptw
  by_cases e : (p / 6 < R ∧ p % 6 < C) ∧ (p / 6 < r ∨ (p / 6 = r ∧ p % 6 < c)) ∧ q (p / 6) (p % 6) = true
  · rw [if_pos e, if_pos ⟨e.1, by omega, e.2.2⟩]
  · rw [if_neg e, if_neg (fun w => e ⟨w.1, by omega, w.2.2⟩)]
theorem ptw_no (hc : c < C) (hC : C ≤ 6) (h : q r c = false) : ptw z R C q v r c = ptw z R C q v r (c + 1) := by
  funext p; unfold ptw
  by_cases e : (p / 6 < R ∧ p % 6 < C) ∧ (p / 6 < r ∨ (p / 6 = r ∧ p % 6 < c)) ∧ q (p / 6) (p % 6) = true
  · rw [if_pos e, if_pos ⟨e.1, by omega, e.2.2⟩]
  · rw [if_neg e, if_neg (fun w => e ⟨w.1, ?_, w.2.2⟩)]
    rcases w.2.1 with a | ⟨a, b⟩
    · exact Or.inl a
    · by_cases e2 : p % 6 = c
      · have := w.2.2
        rw [a, e2, h] at this
        exact absurd this (by decide)
      · exact Or.inr ⟨a, by omega⟩
theorem ptw_go (hr : r < R) (hc : c < C) (hC : C ≤ 6) (h : q r c = true) : up (ptw z R C q v r c) (6 * r + c) (v r c) = ptw z R C q v r (c + 1) := by
  funext p
  by_cases e : p = 6 * r + c
  · subst e
    have e1 : (6 * r + c) / 6 = r := by omega
    have e2 : (6 * r + c) % 6 = c := by omega
    rw [up_at]
    unfold ptw
    rw [e1, e2, if_pos ⟨⟨hr, hc⟩, Or.inr ⟨rfl, by omega⟩, h⟩]
  · rw [up_off e]
    unfold ptw
    by_cases w : (p / 6 < R ∧ p % 6 < C) ∧ (p / 6 < r ∨ (p / 6 = r ∧ p % 6 < c)) ∧ q (p / 6) (p % 6) = true
    · rw [if_pos w, if_pos ⟨w.1, by omega, w.2.2⟩]
    · rw [if_neg w, if_neg (fun w' => w ⟨w'.1, by omega, w'.2.2⟩)]
end PTW
theorem ptw_ok {x : Gd} (hx : Gok x) {q : Nat → Nat → Bool} {v : Nat → Nat → Nat} (hv : ∀ r c, r < x.1.1 → c < x.1.2.1 → q r c = true → v r c < x.1.2.2) (r c : Nat) : Gok (x.1, ptw x.2 x.1.1 x.1.2.1 q v r c) := by
  refine ⟨hx.1, hx.2.1, hx.2.2.1, fun p => ?_, fun p hp => ?_⟩
  · show ptw x.2 x.1.1 x.1.2.1 q v r c p < x.1.2.2
    unfold ptw
    split
    · rename_i e; exact hv _ _ e.1.1 e.1.2 e.2.2
    · exact hx.2.2.2.1 p
  · show ptw x.2 x.1.1 x.1.2.1 q v r c p = 0
    have hp : x.1.1 ≤ p / 6 ∨ x.1.2.1 ≤ p % 6 := hp
    unfold ptw
    rw [if_neg (by omega)]
    exact hx.2.2.2.2 p hp
theorem up_ok {x : Gd} (hx : Gok x) {r c v : Nat} (hr : r < x.1.1) (hc : c < x.1.2.1) (hv : v < x.1.2.2) : Gok (x.1, up x.2 (6 * r + c) v) := by
  have h6 := hx.2.1.2
  refine ⟨hx.1, hx.2.1, hx.2.2.1, fun p => ?_, fun p hp => ?_⟩
  · show up x.2 (6 * r + c) v p < x.1.2.2
    unfold up
    split
    · exact hv
    · exact hx.2.2.2.1 p
  · show up x.2 (6 * r + c) v p = 0
    have hp : x.1.1 ≤ p / 6 ∨ x.1.2.1 ≤ p % 6 := hp
    rw [up_off (by omega)]
    exact hx.2.2.2.2 p hp
theorem StOk.rec {st : St} (h : StOk st) {y : Gd} (hy : Gok y) : StOk (y, recH st.2.1 st.1, st.2.2) := by
  obtain ⟨h1, ⟨h2, h3⟩, h4, h5⟩ := h
  refine ⟨hy, ?_, h4, h5⟩
  show (recH st.2.1 st.1).1 ≤ 6 ∧ ∀ i, i < (recH st.2.1 st.1).1 → Gok ((recH st.2.1 st.1).2 i)
  unfold recH
  split
  · rename_i e
    refine ⟨Nat.le_refl _, fun i hi => ?_⟩
    have hi : i < 6 := hi
    dsimp only
    split
    · exact h1
    · exact h3 _ (by omega)
  · rename_i e
    refine ⟨by show st.2.1.1 + 1 ≤ 6; omega, fun i hi => ?_⟩
    have hi : i < st.2.1.1 + 1 := hi
    dsimp only
    split
    · exact h1
    · exact h3 _ (by omega)
theorem StOk.pad {st : St} (h : StOk st) {q : Pd} (hq : PdOk q) : StOk (st.1, st.2.1, st.2.2.1, q) := ⟨h.1, h.2.1, h.2.2.1, hq⟩
abbrev CR (h : sH) (st : St) (h1 : sH) : Prop := CInv h1 st ∧ FrO h h1
def Sbegin (st : St) (a b m : Int32) : Int32 × St := if isOut a (nI 2) (nI 6) = false ∧ isOut b (nI 2) (nI 6) = false ∧ isM m = true then (nI (told st.1), (((natOf a, natOf b, natOf m), fun _ => 0), recH st.2.1 st.1, st.2.2)) else (-2, st)
def Stell (st : St) (r c n : Int32) : Int32 × St := if eT st.1 r c n = 0 then (nI (at' st.1 (natOf r) (natOf c)), ((st.1.1, up st.1.2 (6 * natOf r + natOf c) (natOf n)), recH st.2.1 st.1, st.2.2)) else (eT st.1 r c n, st)
def jn (x : Gd) (r c : Nat) : Bool := decide ((lay x).1.1.1 r = (lay x).1.1.2 c)
def pdt (x : Gd) (r c : Nat) : Nat := (lay x).1.2.1 r * (lay x).1.2.2 c % x.1.2.2
def taX (x : Gd) : Gd := (x.1, ptw x.2 x.1.1 x.1.2.1 (jn x) (pdt x) x.1.1 0)
def StellAll (st : St) : Int32 × St := if wellX st.1 = true then (nI (told (taX st.1) - told st.1), (taX st.1, recH st.2.1 st.1, st.2.2)) else (-5, st)
def rdX (q : Pd) (R C M : Nat) : Gd := ((R, C, M), ptw (fun _ => 0) R C (fun _ _ => true) (fun r c => sgv (q.2 ((C + 1) * r + c)) - 1) R 0)
def Sread (st : St) : Int32 × St := match flt st.2.2.2 with
  | .inl _ => (-3, st)
  | .inr (R, C) => if st.1.1.2.2 ≤ mxTo (fun i => sgv (st.2.2.2.2 i) - 1) st.2.2.2.1 then (-2, st) else (nI (told (rdX st.2.2.2 R C st.1.1.2.2)), (rdX st.2.2.2 R C st.1.1.2.2, recH st.2.1 st.1, st.2.2.1, (0, st.2.2.2.2)))
def Swipe (st : St) : Int32 × St := (nI st.2.2.2.1, (st.1, st.2.1, st.2.2.1, (0, st.2.2.2.2)))
def Sundo (st : St) : Int32 × St := if st.2.1.1 = 0 then (-5, st) else (nI (st.2.1.1 - 1), (st.2.1.2 (st.2.1.1 - 1), (st.2.1.1 - 1, st.2.1.2), st.2.2))
def Ssave (st : St) (i : Int32) : Int32 × St := if i = nI 0 ∨ i = nI 1 then (nI (told st.1), (st.1, st.2.1, (fun s => if s = natOf i then some st.1 else st.2.2.1 s), st.2.2.2)) else (-2, st)
def Srestore (st : St) (i : Int32) : Int32 × St := if i = nI 0 ∨ i = nI 1 then (match st.2.2.1 (natOf i) with | none => (-5, st) | some z => (nI (told z), (z, recH st.2.1 st.1, st.2.2))) else (-2, st)
theorem Sbegin_no {st : St} {a b m : Int32} (h : ¬ (isOut a (nI 2) (nI 6) = false ∧ isOut b (nI 2) (nI 6) = false ∧ isM m = true)) : Sbegin st a b m = (-2, st) := if_neg h
theorem clr_ok {r c m : Nat} (hr : 2 ≤ r ∧ r ≤ 6) (hc : 2 ≤ c ∧ c ≤ 6) (hm : Mok m) : Gok ((r, c, m), fun _ => 0) := ⟨hr, hc, hm, fun p => by have := hm.le; show 0 < m; omega, fun _ _ => rfl⟩
theorem Sbegin_ok {st : St} (hS : StOk st) {a b m : Int32} : StOk (Sbegin st a b m).2 := by
  unfold Sbegin
  split
  · rename_i e
    obtain ⟨ka, a1, a2, rfl⟩ := in_R (by omega) (by omega) e.1
    obtain ⟨kb, b1, b2, rfl⟩ := in_R (by omega) (by omega) e.2.1
    obtain ⟨km, m1, rfl⟩ := isM_ok e.2.2
    have := m1.le
    refine hS.rec ?_
    rw [natOf_nI (by omega), natOf_nI (by omega), natOf_nI (by omega)]
    exact clr_ok ⟨a1, a2⟩ ⟨b1, b2⟩ m1
  · exact hS
theorem Stell_ok {st : St} (hS : StOk st) {r c n : Int32} : StOk (Stell st r c n).2 := by
  unfold Stell
  split
  · rename_i e
    have hx := hS.1
    have := hx.1
    have := hx.2.1
    have := hx.2.2.1.le
    obtain ⟨kr, kc, kv, h1, h2, h3, rfl, rfl, rfl⟩ := eT_0 hS.1 e
    refine hS.rec ?_
    rw [natOf_nI (by omega), natOf_nI (by omega), natOf_nI (by omega)]
    exact up_ok hS.1 h1 h2 h3
  · exact hS
theorem pdt_lt {x : Gd} (hx : Gok x) (r c : Nat) : pdt x r c < x.1.2.2 := Nat.mod_lt _ (by have := hx.2.2.1.le; omega)
theorem taX_ok {x : Gd} (hx : Gok x) : Gok (taX x) := ptw_ok hx (fun r c _ _ _ => pdt_lt hx r c) _ _
theorem StellAll_ok {st : St} (hS : StOk st) : StOk (StellAll st).2 := by
  unfold StellAll
  split
  · exact hS.rec (taX_ok hS.1)
  · exact hS
theorem mxTo_at {f : Nat → Nat} : ∀ {n k : Nat}, k < n → f k ≤ mxTo f n := by
  intro n
  induction n with
  | zero => intro k hk; omega
  | succ n ih =>
    intro k hk
    show f k ≤ max (mxTo f n) (f n)
    rcases Nat.lt_or_ge k n with q | q
    · exact Nat.le_trans (ih q) (Nat.le_max_left _ _)
    · have : k = n := by omega
      subst this
      exact Nat.le_max_right _ _
theorem rd_lt {q : Pd} {R C m r c : Nat} (h : flt q = .inr (R, C)) (hm : ¬ m ≤ mxTo (fun i => sgv (q.2 i) - 1) q.1) (hr : r < R) (hc : c < C) : sgv (q.2 ((C + 1) * r + c)) - 1 < m := by
  have := mxTo_at (f := fun i => sgv (q.2 i) - 1) (rd_at h hr hc).1
  omega
theorem rdX_ok {q : Pd} {R C m r c : Nat} (h : flt q = .inr (R, C)) (hM : Mok m) (hm : ¬ m ≤ mxTo (fun i => sgv (q.2 i) - 1) q.1) : Gok ((R, C, m), ptw (fun _ => 0) R C (fun _ _ => true) (fun r c => sgv (q.2 ((C + 1) * r + c)) - 1) r c) :=
  ptw_ok (x := ((R, C, m), fun _ => 0)) (clr_ok (flt_ok h).1 (flt_ok h).2.1 hM) (fun _ _ hr hc _ => rd_lt h hm hr hc) _ _
theorem PdOk.zero {q : Pd} : PdOk (0, q.2) := ⟨Nat.zero_le _, fun i hi => absurd hi (Nat.not_lt_zero _)⟩
theorem Sread_ok {st : St} (hS : StOk st) : StOk (Sread st).2 := by
  unfold Sread
  split
  · exact hS
  · rename_i R C e
    split
    · exact hS
    · rename_i e2
      exact (hS.rec (rdX_ok e hS.1.2.2.1 e2)).pad PdOk.zero
theorem Swipe_ok {st : St} (hS : StOk st) : StOk (Swipe st).2 := hS.pad PdOk.zero
theorem Sundo_ok {st : St} (hS : StOk st) : StOk (Sundo st).2 := by
  unfold Sundo
  split
  · exact hS
  · rename_i e
    refine ⟨hS.2.1.2 _ (by omega), ⟨?_, fun i hi => hS.2.1.2 i ?_⟩, hS.2.2⟩
    · have := hS.2.1.1
      show st.2.1.1 - 1 ≤ 6
      omega
    · have hi : i < st.2.1.1 - 1 := hi
      omega
theorem Ssave_ok {st : St} (hS : StOk st) {i : Int32} : StOk (Ssave st i).2 := by
  unfold Ssave
  split
  · refine ⟨hS.1, hS.2.1, fun s z hz => ?_, hS.2.2.2⟩
    have hz : (if s = natOf i then some st.1 else st.2.2.1 s) = some z := hz
    split at hz
    · injection hz with hz
      subst hz
      exact hS.1
    · exact hS.2.2.1 s z hz
  · exact hS
theorem Srestore_ok {st : St} (hS : StOk st) {i : Int32} : StOk (Srestore st i).2 := by
  unfold Srestore
  split
  · split
    · exact hS
    · rename_i z e
      exact hS.rec (hS.2.2.1 _ z e)
  · exact hS
theorem slotV_k {k : Nat} (hk : k < 2) : slotV (nI k) = .ref (53 + 4 * k) := by
  match k, hk with
  | 0, _ => rfl
  | 1, _ => rfl
theorem slot_nI {k : Nat} (hk : k < 2) : nI k = nI 0 ∨ nI k = nI 1 := by
  match k, hk with
  | 0, _ => exact Or.inl rfl
  | 1, _ => exact Or.inr rfl
theorem slot_k {i : Int32} (h : i = nI 0 ∨ i = nI 1) : ∃ k, k < 2 ∧ i = nI k := by
  rcases h with h | h
  · exact ⟨0, by omega, h⟩
  · exact ⟨1, by omega, h⟩
theorem slotV_n {i : Int32} (h : ¬ (i = nI 0 ∨ i = nI 1)) : slotV i = .null := by
  unfold slotV
  rw [if_neg (fun e => h (Or.inl e)), if_neg (fun e => h (Or.inr e))]
theorem SlC.at {h : sH} {sl : Nat → Option Gd} (H : SlC h sl) {k : Nat} (hk : k < 2) : SlAt h (53 + 4 * k) (sl k) := by
  match k, hk with
  | 0, _ => exact H.2.1
  | 1, _ => exact H.2.2
theorem CInv.slt {h : sH} {st : St} {y : Gd} {k : Nat} (hk : k < 2) (C : CInv h st) (hy : Gok y) : CInv (sUp (gSet h (53 + 4 * k + 1) y) (53 + 4 * k) (oC 7 [.ref (53 + 4 * k + 1), .int (sBo true)])) (st.1, st.2.1, (fun s => if s = k then some y else st.2.2.1 s), st.2.2.2) := by
  obtain ⟨c0, c1, ⟨t0, c2, c2'⟩, ⟨s, sz, con, c3⟩, c4, ⟨n, B, c5⟩, ⟨ry, cy, c6⟩, c7, ⟨c8, c9, c10⟩⟩ := C
  have f : ∀ a, a < 53 → (sUp (gSet h (53 + 4 * k + 1) y) (53 + 4 * k) (oC 7 [.ref (53 + 4 * k + 1), .int (sBo true)])).2 a = h.2 a := fun a ha => (sUp_ne (by omega)).trans (gSet_ne (by omega) (by omega))
  refine ⟨(f 0 (by omega)).trans c0, c1.kept (f _ (by omega)) (f _ (by omega)) (f _ (by omega)), ⟨t0, c2.kept (f _ (by omega)) (f _ (by omega)) (f _ (by omega)), c2'⟩, ⟨s, sz, con, c3.kept (fun a h1 h2 => f a (by omega))⟩, c4.kept (fun a h1 h2 => f a (by omega)), ⟨n, B, c5.kept (fun a h1 h2 => f a (by omega))⟩, ⟨ry, cy, c6.kept (fun a h1 h2 => f a (by omega))⟩, c7.kept (fun a h1 h2 => f a (by omega)), ?_, ?_, ?_⟩
  · obtain ⟨fq, q1, q2⟩ := c8
    exact ⟨fq, (f 52 (by omega)).trans q1, q2⟩
  · by_cases e : k = 0
    · subst e
      obtain ⟨w, w1, w2, w3, w4⟩ := c9
      exact ⟨y, hy, (gSet_at w2).kept (sUp_ne (by omega)) (sUp_ne (by omega)) (sUp_ne (by omega)), sUp_eq, fun z hz => by injection hz⟩
    · have : k = 1 := by omega
      subst this
      exact c9.kept (fun a h1 h2 => (sUp_ne (by omega)).trans (gSet_ne (by omega) (by omega)))
  · by_cases e : k = 1
    · subst e
      obtain ⟨w, w1, w2, w3, w4⟩ := c10
      exact ⟨y, hy, (gSet_at w2).kept (sUp_ne (by omega)) (sUp_ne (by omega)) (sUp_ne (by omega)), sUp_eq, fun z hz => by injection hz⟩
    · have : k = 0 := by omega
      subst this
      exact c10.kept (fun a h1 h2 => (sUp_ne (by omega)).trans (gSet_ne (by omega) (by omega)))
theorem c_Grid_rowsN {l : Launch} {h : sH} {g n : Nat} {x : Gd} (hG : GridAt h g x) (e : x.1.1 = n) : sX l m_Grid_rows 0 [.ref g] h (some (.int (nI n))) h := e ▸ c_Grid_rows hG
theorem c_Grid_columnsN {l : Launch} {h : sH} {g n : Nat} {x : Gd} (hG : GridAt h g x) (e : x.1.2.1 = n) : sX l m_Grid_columns 0 [.ref g] h (some (.int (nI n))) h := e ▸ c_Grid_columns hG
theorem c_Grid_modulusN {l : Launch} {h : sH} {g n : Nat} {x : Gd} (hG : GridAt h g x) (e : x.1.2.2 = n) : sX l m_Grid_modulus 0 [.ref g] h (some (.int (nI n))) h := e ▸ c_Grid_modulus hG
set_option maxRecDepth 4000 in
theorem c_O_begin {l : Launch} {h : sH} {st : St} (hC : CInv h st) (hS : StOk st) {a b m : Int32} : sY l m_O_begin 4 [.ref 0, .int a, .int b, .int m] h (some (.int (Sbegin st a b m).1)) (CR h (Sbegin st a b m).2) := by
  have c0 := hC.1
  have hG := hC.2.1
  have hx := hS.1
  have hM := hx.2.2.1.le
  have hRr := hx.1
  have hCc := hx.2.1
  obtain ⟨g0, g1, g2⟩ := hC.2.1
  have hH := hC.2.2.2.2.2.2.2.1
  have hH32 : ∃ a b c, h.2 32 = oC 1 [a, b, c] := by
    obtain ⟨o, f, Y, C, _⟩ := hH
    exact ⟨_, _, _, C.1⟩
  obtain ⟨_, _, _, hH32⟩ := hH32
  obtain ⟨ry, cy, hP⟩ := hC.2.2.2.2.2.2.1
  have hp0 := hP.1
  have hq := hS.2.2.2
  obtain ⟨ps, psz, pcon, hPt⟩ := hC.2.2.2.1
  have hp7 := hPt.c7
  refine en_O_begin ?_
  refine e_iload_1 (p' := 1) D_O_begin_0 rfl ?_
  refine e_iconst (v := nI 2) (p' := 2) D_O_begin_1 cst_iconst_2 rfl ?_
  refine e_bipush (v := nI 6) (p' := 4) D_O_begin_2 cst_bipush_6 rfl ?_
  refine x_callS1 (p' := 7) D_O_begin_4 S_O_61 (c_O_isOutside) rfl rfl (Nat.le_of_ble_eq_true rfl) (by decide) ⟨by decide, by decide⟩ rfl ?_
  refine e_ifB_ne (q := 27) (p' := 10) D_O_begin_7 rfl rfl (fun hc7 => ?_) (fun hc7 => ?_)
  ·
    refine e_bipush (v := (-2)) (p' := 29) D_O_begin_27 cst_bipush_m2 rfl ?_
    refine e_ireturn (ty := .int) D_O_begin_29 rfl (by first | rfl | exact sBo_nar _) ⟨by decide, by decide⟩ ?_
    refine ⟨?_, ?_⟩
    · rw [Sbegin_no (fun w => absurd w.1 (by rw [hc7]; decide))]
    · rw [Sbegin_no (fun w => absurd w.1 (by rw [hc7]; decide))]; exact ⟨hC, FrO.rf⟩
  ·
    refine e_iload_2 (p' := 11) D_O_begin_10 rfl ?_
    refine e_iconst (v := nI 2) (p' := 12) D_O_begin_11 cst_iconst_2 rfl ?_
    refine e_bipush (v := nI 6) (p' := 14) D_O_begin_12 cst_bipush_6 rfl ?_
    refine x_callS1 (p' := 17) D_O_begin_14 S_O_61 (c_O_isOutside) rfl rfl (Nat.le_of_ble_eq_true rfl) (by decide) ⟨by decide, by decide⟩ rfl ?_
    refine e_ifB_ne (q := 27) (p' := 20) D_O_begin_17 rfl rfl (fun hc17 => ?_) (fun hc17 => ?_)
    ·
      refine e_bipush (v := (-2)) (p' := 29) D_O_begin_27 cst_bipush_m2 rfl ?_
      refine e_ireturn (ty := .int) D_O_begin_29 rfl (by first | rfl | exact sBo_nar _) ⟨by decide, by decide⟩ ?_
      refine ⟨?_, ?_⟩
      · rw [Sbegin_no (fun w => absurd w.2.1 (by rw [hc17]; decide))]
      · rw [Sbegin_no (fun w => absurd w.2.1 (by rw [hc17]; decide))]; exact ⟨hC, FrO.rf⟩
    ·
      refine e_iload_3 (p' := 21) D_O_begin_20 rfl ?_
      refine x_callS1 (p' := 24) D_O_begin_21 S_O_65 (c_O_isModulus) rfl rfl (Nat.le_of_ble_eq_true rfl) (by decide) ⟨by decide, by decide⟩ rfl ?_
      refine e_ifB_ne (q := 30) (p' := 27) D_O_begin_24 rfl rfl (fun hc24 => ?_) (fun hc24 => ?_)
      ·
        obtain ⟨ka, a1, a2, rfl⟩ := in_R (a := 2) (b := 6) (by omega) (by omega) hc7
        obtain ⟨kb, b1, b2, rfl⟩ := in_R (a := 2) (b := 6) (by omega) (by omega) hc17
        obtain ⟨km, m1, rfl⟩ := isM_ok hc24
        refine e_aload_0 (p' := 31) D_O_begin_30 rfl ?_
        refine e_getfield (p' := 34) D_O_begin_31 F_O_10 (by first | assumption | exact sUp_eq | (rw [sUp_ne (by omega)]; assumption) | (rw [sUp_ne (by omega), sUp_ne (by omega)]; assumption) | (rw [sUp_ne (by omega)]; exact sUp_eq) | (rw [gSet_ne (by omega) (by omega)]; first | assumption | exact sUp_eq | (rw [sUp_ne (by omega)]; assumption) | (rw [sUp_ne (by omega), sUp_ne (by omega)]; assumption)) | (simp [sUp]; done)) (by rfl) rfl ?_
        refine x_callV1 (p' := 37) D_O_begin_34 V_O_69 (c_Grid_toldCount hG hx) rfl (by first | assumption | exact sUp_eq | (rw [sUp_ne (by omega)]; assumption) | (rw [sUp_ne (by omega), sUp_ne (by omega)]; assumption) | (rw [sUp_ne (by omega)]; exact sUp_eq) | (rw [gSet_ne (by omega) (by omega)]; first | assumption | exact sUp_eq | (rw [sUp_ne (by omega)]; assumption) | (rw [sUp_ne (by omega), sUp_ne (by omega)]; assumption)) | (simp [sUp]; done)) rfl (Nat.le_of_ble_eq_true rfl) (by decide) ⟨by decide, by decide⟩ rfl ?_
        refine e_istore_4 (p' := 39) D_O_begin_37 (Nat.le_of_ble_eq_true rfl) rfl rfl ?_
        refine e_aload_0 (p' := 40) D_O_begin_39 rfl ?_
        refine e_getfield (p' := 43) D_O_begin_40 F_O_50 (by first | assumption | exact sUp_eq | (rw [sUp_ne (by omega)]; assumption) | (rw [sUp_ne (by omega), sUp_ne (by omega)]; assumption) | (rw [sUp_ne (by omega)]; exact sUp_eq) | (rw [gSet_ne (by omega) (by omega)]; first | assumption | exact sUp_eq | (rw [sUp_ne (by omega)]; assumption) | (rw [sUp_ne (by omega), sUp_ne (by omega)]; assumption)) | (simp [sUp]; done)) (by rfl) rfl ?_
        refine e_aload_0 (p' := 44) D_O_begin_43 rfl ?_
        refine e_getfield (p' := 47) D_O_begin_44 F_O_10 (by first | assumption | exact sUp_eq | (rw [sUp_ne (by omega)]; assumption) | (rw [sUp_ne (by omega), sUp_ne (by omega)]; assumption) | (rw [sUp_ne (by omega)]; exact sUp_eq) | (rw [gSet_ne (by omega) (by omega)]; first | assumption | exact sUp_eq | (rw [sUp_ne (by omega)]; assumption) | (rw [sUp_ne (by omega), sUp_ne (by omega)]; assumption)) | (simp [sUp]; done)) (by rfl) rfl ?_
        refine y_callV0 (p' := 50) D_O_begin_47 V_O_73 (c_Hist_record hH hG hx) rfl (by first | assumption | exact sUp_eq | (rw [sUp_ne (by omega)]; assumption) | (rw [sUp_ne (by omega), sUp_ne (by omega)]; assumption) | (rw [sUp_ne (by omega)]; exact sUp_eq) | (rw [gSet_ne (by omega) (by omega)]; first | assumption | exact sUp_eq | (rw [sUp_ne (by omega)]; assumption) | (rw [sUp_ne (by omega), sUp_ne (by omega)]; assumption)) | (simp [sUp]; done)) rfl (Nat.le_of_ble_eq_true rfl) (by decide) ⟨by decide, by decide⟩ rfl ?_
        rintro h1 ⟨hh1, hf1⟩
        have C1 := hC.hist hf1 hh1
        have c10 := C1.1
        have g10 := C1.2.1.1
        refine e_aload_0 (p' := 51) D_O_begin_50 rfl ?_
        refine e_getfield (p' := 54) D_O_begin_51 F_O_10 (by first | assumption | exact sUp_eq | (rw [sUp_ne (by omega)]; assumption) | (rw [sUp_ne (by omega), sUp_ne (by omega)]; assumption) | (rw [sUp_ne (by omega)]; exact sUp_eq) | (rw [gSet_ne (by omega) (by omega)]; first | assumption | exact sUp_eq | (rw [sUp_ne (by omega)]; assumption) | (rw [sUp_ne (by omega), sUp_ne (by omega)]; assumption)) | (simp [sUp]; done)) (by rfl) rfl ?_
        refine e_iload_1 (p' := 55) D_O_begin_54 rfl ?_
        refine e_iload_2 (p' := 56) D_O_begin_55 rfl ?_
        refine e_iload_3 (p' := 57) D_O_begin_56 rfl ?_
        refine x_callV0 (p' := 60) D_O_begin_57 V_O_77 (c_Grid_clear C1.2.1 hx) rfl (by first | assumption | exact sUp_eq | (rw [sUp_ne (by omega)]; assumption) | (rw [sUp_ne (by omega), sUp_ne (by omega)]; assumption) | (rw [sUp_ne (by omega)]; exact sUp_eq) | (rw [gSet_ne (by omega) (by omega)]; first | assumption | exact sUp_eq | (rw [sUp_ne (by omega)]; assumption) | (rw [sUp_ne (by omega), sUp_ne (by omega)]; assumption)) | (simp [sUp]; done)) rfl (Nat.le_of_ble_eq_true rfl) (by decide) ⟨by decide, by decide⟩ rfl ?_
        refine e_iload_4 (p' := 62) D_O_begin_60 rfl ?_
        refine e_ireturn (ty := .int) D_O_begin_62 rfl (by first | rfl | exact sBo_nar _) ⟨by decide, by decide⟩ ?_
        have := m1.le
        unfold Sbegin
        rw [if_pos ⟨hc7, hc17, hc24⟩, natOf_nI (by omega), natOf_nI (by omega), natOf_nI (by omega)]
        exact ⟨rfl, C1.g1, hf1.o.g (by omega)⟩
      ·
        refine e_bipush (v := (-2)) (p' := 29) D_O_begin_27 cst_bipush_m2 rfl ?_
        refine e_ireturn (ty := .int) D_O_begin_29 rfl (by first | rfl | exact sBo_nar _) ⟨by decide, by decide⟩ ?_
        refine ⟨?_, ?_⟩
        · rw [Sbegin_no (fun w => absurd w.2.2 (by rw [hc24]; decide))]
        · rw [Sbegin_no (fun w => absurd w.2.2 (by rw [hc24]; decide))]; exact ⟨hC, FrO.rf⟩
set_option maxRecDepth 4000 in
theorem c_O_tell {l : Launch} {h : sH} {st : St} (hC : CInv h st) (hS : StOk st) {r c n : Int32} : sY l m_O_tell 4 [.ref 0, .int r, .int c, .int n] h (some (.int (Stell st r c n).1)) (CR h (Stell st r c n).2) := by
  have c0 := hC.1
  have hG := hC.2.1
  have hx := hS.1
  have hM := hx.2.2.1.le
  have hRr := hx.1
  have hCc := hx.2.1
  obtain ⟨g0, g1, g2⟩ := hC.2.1
  have hH := hC.2.2.2.2.2.2.2.1
  have hH32 : ∃ a b c, h.2 32 = oC 1 [a, b, c] := by
    obtain ⟨o, f, Y, C, _⟩ := hH
    exact ⟨_, _, _, C.1⟩
  obtain ⟨_, _, _, hH32⟩ := hH32
  obtain ⟨ry, cy, hP⟩ := hC.2.2.2.2.2.2.1
  have hp0 := hP.1
  have hq := hS.2.2.2
  obtain ⟨ps, psz, pcon, hPt⟩ := hC.2.2.2.1
  have hp7 := hPt.c7
  refine en_O_tell ?_
  refine e_aload_0 (p' := 1) D_O_tell_0 rfl ?_
  refine e_iload_1 (p' := 2) D_O_tell_1 rfl ?_
  refine e_iload_2 (p' := 3) D_O_tell_2 rfl ?_
  refine e_iload_3 (p' := 4) D_O_tell_3 rfl ?_
  refine x_callV1 (p' := 7) D_O_tell_4 V_O_81 (c_O_errorOfTelling hC hS) rfl (by first | assumption | exact sUp_eq | (rw [sUp_ne (by omega)]; assumption) | (rw [sUp_ne (by omega), sUp_ne (by omega)]; assumption) | (rw [sUp_ne (by omega)]; exact sUp_eq) | (rw [gSet_ne (by omega) (by omega)]; first | assumption | exact sUp_eq | (rw [sUp_ne (by omega)]; assumption) | (rw [sUp_ne (by omega), sUp_ne (by omega)]; assumption)) | (simp [sUp]; done)) rfl (Nat.le_of_ble_eq_true rfl) (by decide) ⟨by decide, by decide⟩ rfl ?_
  refine e_istore_4 (p' := 9) D_O_tell_7 (Nat.le_of_ble_eq_true rfl) rfl rfl ?_
  refine e_iload_4 (p' := 11) D_O_tell_9 rfl ?_
  refine e_if_eq (q := 17) (p' := 14) D_O_tell_11 rfl rfl (fun hc11 => ?_) (fun hc11 => ?_)
  ·
    have hc11 : eT st.1 r c n = 0 := hc11
    have e0 := hc11
    obtain ⟨kr, kc, kv, kr1, kc1, kv1, rfl, rfl, rfl⟩ := eT_0 hx hc11
    refine e_aload_0 (p' := 18) D_O_tell_17 rfl ?_
    refine e_getfield (p' := 21) D_O_tell_18 F_O_10 (by first | assumption | exact sUp_eq | (rw [sUp_ne (by omega)]; assumption) | (rw [sUp_ne (by omega), sUp_ne (by omega)]; assumption) | (rw [sUp_ne (by omega)]; exact sUp_eq) | (rw [gSet_ne (by omega) (by omega)]; first | assumption | exact sUp_eq | (rw [sUp_ne (by omega)]; assumption) | (rw [sUp_ne (by omega), sUp_ne (by omega)]; assumption)) | (simp [sUp]; done)) (by rfl) rfl ?_
    refine e_iload_1 (p' := 22) D_O_tell_21 rfl ?_
    refine e_iload_2 (p' := 23) D_O_tell_22 rfl ?_
    refine x_callV1 (p' := 26) D_O_tell_23 V_O_85 (c_Grid_number hG hx (by omega) (by omega)) rfl (by first | assumption | exact sUp_eq | (rw [sUp_ne (by omega)]; assumption) | (rw [sUp_ne (by omega), sUp_ne (by omega)]; assumption) | (rw [sUp_ne (by omega)]; exact sUp_eq) | (rw [gSet_ne (by omega) (by omega)]; first | assumption | exact sUp_eq | (rw [sUp_ne (by omega)]; assumption) | (rw [sUp_ne (by omega), sUp_ne (by omega)]; assumption)) | (simp [sUp]; done)) rfl (Nat.le_of_ble_eq_true rfl) (by decide) ⟨by decide, by decide⟩ rfl ?_
    refine e_istore_5 (p' := 28) D_O_tell_26 (Nat.le_of_ble_eq_true rfl) rfl rfl ?_
    refine e_aload_0 (p' := 29) D_O_tell_28 rfl ?_
    refine e_getfield (p' := 32) D_O_tell_29 F_O_50 (by first | assumption | exact sUp_eq | (rw [sUp_ne (by omega)]; assumption) | (rw [sUp_ne (by omega), sUp_ne (by omega)]; assumption) | (rw [sUp_ne (by omega)]; exact sUp_eq) | (rw [gSet_ne (by omega) (by omega)]; first | assumption | exact sUp_eq | (rw [sUp_ne (by omega)]; assumption) | (rw [sUp_ne (by omega), sUp_ne (by omega)]; assumption)) | (simp [sUp]; done)) (by rfl) rfl ?_
    refine e_aload_0 (p' := 33) D_O_tell_32 rfl ?_
    refine e_getfield (p' := 36) D_O_tell_33 F_O_10 (by first | assumption | exact sUp_eq | (rw [sUp_ne (by omega)]; assumption) | (rw [sUp_ne (by omega), sUp_ne (by omega)]; assumption) | (rw [sUp_ne (by omega)]; exact sUp_eq) | (rw [gSet_ne (by omega) (by omega)]; first | assumption | exact sUp_eq | (rw [sUp_ne (by omega)]; assumption) | (rw [sUp_ne (by omega), sUp_ne (by omega)]; assumption)) | (simp [sUp]; done)) (by rfl) rfl ?_
    refine y_callV0 (p' := 39) D_O_tell_36 V_O_73 (c_Hist_record hH hG hx) rfl (by first | assumption | exact sUp_eq | (rw [sUp_ne (by omega)]; assumption) | (rw [sUp_ne (by omega), sUp_ne (by omega)]; assumption) | (rw [sUp_ne (by omega)]; exact sUp_eq) | (rw [gSet_ne (by omega) (by omega)]; first | assumption | exact sUp_eq | (rw [sUp_ne (by omega)]; assumption) | (rw [sUp_ne (by omega), sUp_ne (by omega)]; assumption)) | (simp [sUp]; done)) rfl (Nat.le_of_ble_eq_true rfl) (by decide) ⟨by decide, by decide⟩ rfl ?_
    rintro h1 ⟨hh1, hf1⟩
    have C1 := hC.hist hf1 hh1
    have c10 := C1.1
    have g10 := C1.2.1.1
    refine e_aload_0 (p' := 40) D_O_tell_39 rfl ?_
    refine e_getfield (p' := 43) D_O_tell_40 F_O_10 (by first | assumption | exact sUp_eq | (rw [sUp_ne (by omega)]; assumption) | (rw [sUp_ne (by omega), sUp_ne (by omega)]; assumption) | (rw [sUp_ne (by omega)]; exact sUp_eq) | (rw [gSet_ne (by omega) (by omega)]; first | assumption | exact sUp_eq | (rw [sUp_ne (by omega)]; assumption) | (rw [sUp_ne (by omega), sUp_ne (by omega)]; assumption)) | (simp [sUp]; done)) (by rfl) rfl ?_
    refine e_iload_1 (p' := 44) D_O_tell_43 rfl ?_
    refine e_iload_2 (p' := 45) D_O_tell_44 rfl ?_
    refine e_iload_3 (p' := 46) D_O_tell_45 rfl ?_
    refine x_callV0 (p' := 49) D_O_tell_46 V_O_89 (c_Grid_setNumber C1.2.1 hx kr1 kc1) rfl (by first | assumption | exact sUp_eq | (rw [sUp_ne (by omega)]; assumption) | (rw [sUp_ne (by omega), sUp_ne (by omega)]; assumption) | (rw [sUp_ne (by omega)]; exact sUp_eq) | (rw [gSet_ne (by omega) (by omega)]; first | assumption | exact sUp_eq | (rw [sUp_ne (by omega)]; assumption) | (rw [sUp_ne (by omega), sUp_ne (by omega)]; assumption)) | (simp [sUp]; done)) rfl (Nat.le_of_ble_eq_true rfl) (by decide) ⟨by decide, by decide⟩ rfl ?_
    refine e_iload_5 (p' := 51) D_O_tell_49 rfl ?_
    refine e_ireturn (ty := .int) D_O_tell_51 rfl (by first | rfl | exact sBo_nar _) ⟨by decide, by decide⟩ ?_
    unfold Stell
    rw [if_pos e0, natOf_nI (by omega), natOf_nI (by omega), natOf_nI (by omega)]
    exact ⟨rfl, C1.g1, hf1.o.g (by omega)⟩
  ·
    refine e_iload_4 (p' := 16) D_O_tell_14 rfl ?_
    refine e_ireturn (ty := .int) D_O_tell_16 rfl (by first | rfl | exact sBo_nar _) ⟨by decide, by decide⟩ ?_
    unfold Stell; rw [if_neg hc11]; exact ⟨rfl, hC, FrO.rf⟩
theorem lay_pv {x : Gd} (hx : Gok x) : Pv x (lay x).1 := layC_pv hx (Nat.le_refl _)
theorem lay_kn {x : Gd} (hx : Gok x) : Kn x (lay x).1 := ⟨(layC_ok hx _ (Nat.le_refl _)).2.1, (layC_ok hx _ (Nat.le_refl _)).2.2.1⟩
theorem smLe {n : Nat} {f g : Nat → Nat} (h : ∀ k, k < n → f k ≤ g k) : sm n f ≤ sm n g := by
  induction n with
  | zero => exact Nat.le_refl _
  | succ n ih => exact Nat.add_le_add (ih fun k hk => h k (by omega)) (h n (by omega))
theorem told_ta {x : Gd} (hx : Gok x) : told x ≤ told (taX x) := by
  unfold told
  refine smLe fun p hp => ?_
  have := hx.2.1.2
  split
  · rename_i e
    have ex : p / 6 < x.1.1 ∧ p % 6 < x.1.2.1 := by
      rcases Nat.lt_or_ge (p / 6) x.1.1 with a | a
      · rcases Nat.lt_or_ge (p % 6) x.1.2.1 with b | b
        · exact ⟨a, b⟩
        · have := hx.2.2.2.2 p (Or.inr b); omega
      · have := hx.2.2.2.2 p (Or.inl a); omega
    have hv := lay_pv hx
    have hk := lay_kn hx
    have h1 := hv.1.1 _ (hk.1 _ ex.1)
    have h2 := hv.1.2 _ (hk.2 _ ex.2)
    have hm := hx.2.2.1.le
    rw [if_pos]
    · exact Nat.le_refl _
    · show 0 < ptw x.2 x.1.1 x.1.2.1 (jn x) (pdt x) x.1.1 0 p
      unfold ptw
      split
      · unfold pdt
        exact Nat.pos_of_ne_zero (mul_ok _ (by omega) hx.2.2.1 _ h1.2 _ h2.2 (by omega) (by omega))
      · exact e
  · split
    · exact Nat.zero_le _
    · exact Nat.le_refl _
set_option maxRecDepth 4000 in
theorem c_O_tellAll {l : Launch} {h : sH} {st : St} (hC : CInv h st) (hS : StOk st) : sY l m_O_tellAll 6 [.ref 0] h (some (.int (StellAll st).1)) (CR h (StellAll st).2) := by
  have c0 := hC.1
  have hG := hC.2.1
  have hx := hS.1
  have hM := hx.2.2.1.le
  have hRr := hx.1
  have hCc := hx.2.1
  obtain ⟨g0, g1, g2⟩ := hC.2.1
  have hH := hC.2.2.2.2.2.2.2.1
  have hH32 : ∃ a b c, h.2 32 = oC 1 [a, b, c] := by
    obtain ⟨o, f, Y, C, _⟩ := hH
    exact ⟨_, _, _, C.1⟩
  obtain ⟨_, _, _, hH32⟩ := hH32
  obtain ⟨ry, cy, hP⟩ := hC.2.2.2.2.2.2.1
  have hp0 := hP.1
  have hq := hS.2.2.2
  obtain ⟨ps, psz, pcon, hPt⟩ := hC.2.2.2.1
  have hp7 := hPt.c7
  refine en_O_tellAll ?_
  refine e_aload_0 (p' := 1) D_O_tellAll_0 rfl ?_
  refine e_getfield (p' := 4) D_O_tellAll_1 F_O_22 (by first | assumption | exact sUp_eq | (rw [sUp_ne (by omega)]; assumption) | (rw [sUp_ne (by omega), sUp_ne (by omega)]; assumption) | (rw [sUp_ne (by omega)]; exact sUp_eq) | (rw [gSet_ne (by omega) (by omega)]; first | assumption | exact sUp_eq | (rw [sUp_ne (by omega)]; assumption) | (rw [sUp_ne (by omega), sUp_ne (by omega)]; assumption)) | (simp [sUp]; done)) (by rfl) rfl ?_
  refine e_aload_0 (p' := 5) D_O_tellAll_4 rfl ?_
  refine e_getfield (p' := 8) D_O_tellAll_5 F_O_10 (by first | assumption | exact sUp_eq | (rw [sUp_ne (by omega)]; assumption) | (rw [sUp_ne (by omega), sUp_ne (by omega)]; assumption) | (rw [sUp_ne (by omega)]; exact sUp_eq) | (rw [gSet_ne (by omega) (by omega)]; first | assumption | exact sUp_eq | (rw [sUp_ne (by omega)]; assumption) | (rw [sUp_ne (by omega), sUp_ne (by omega)]; assumption)) | (simp [sUp]; done)) (by rfl) rfl ?_
  refine y_callV0 (p' := 11) D_O_tellAll_8 V_O_92 (c_Parts_find hG hx (by omega) hPt) rfl (by first | assumption | exact sUp_eq | (rw [sUp_ne (by omega)]; assumption) | (rw [sUp_ne (by omega), sUp_ne (by omega)]; assumption) | (rw [sUp_ne (by omega)]; exact sUp_eq) | (rw [gSet_ne (by omega) (by omega)]; first | assumption | exact sUp_eq | (rw [sUp_ne (by omega)]; assumption) | (rw [sUp_ne (by omega), sUp_ne (by omega)]; assumption)) | (simp [sUp]; done)) rfl (Nat.le_of_ble_eq_true rfl) (by decide) ⟨by decide, by decide⟩ rfl ?_
  rintro h0 ⟨hp1, hf0⟩
  have C0 := hC.fr hf0 ⟨_, _, _, hp1⟩
  have d00 := C0.1
  have p07 := hp1.c7
  have g00 := C0.2.1.1
  have h032 := (hf0 32 (by omega)).trans hH32
  refine e_aload_0 (p' := 12) D_O_tellAll_11 rfl ?_
  refine e_getfield (p' := 15) D_O_tellAll_12 F_O_22 (by first | assumption | exact sUp_eq | (rw [sUp_ne (by omega)]; assumption) | (rw [sUp_ne (by omega), sUp_ne (by omega)]; assumption) | (rw [sUp_ne (by omega)]; exact sUp_eq) | (rw [gSet_ne (by omega) (by omega)]; first | assumption | exact sUp_eq | (rw [sUp_ne (by omega)]; assumption) | (rw [sUp_ne (by omega), sUp_ne (by omega)]; assumption)) | (simp [sUp]; done)) (by rfl) rfl ?_
  refine x_callV1 (p' := 18) D_O_tellAll_15 V_O_95 (c_Parts_isConsistent hp1) rfl (by first | assumption | exact sUp_eq | (rw [sUp_ne (by omega)]; assumption) | (rw [sUp_ne (by omega), sUp_ne (by omega)]; assumption) | (rw [sUp_ne (by omega)]; exact sUp_eq) | (rw [gSet_ne (by omega) (by omega)]; first | assumption | exact sUp_eq | (rw [sUp_ne (by omega)]; assumption) | (rw [sUp_ne (by omega), sUp_ne (by omega)]; assumption)) | (simp [sUp]; done)) rfl (Nat.le_of_ble_eq_true rfl) (by decide) ⟨by decide, by decide⟩ rfl ?_
  refine e_ifB_ne (q := 24) (p' := 21) D_O_tellAll_18 rfl rfl (fun hc18 => ?_) (fun hc18 => ?_)
  ·
    have kn := lay_kn hx
    have tl := told_ta hx
    refine e_aload_0 (p' := 25) D_O_tellAll_24 rfl ?_
    refine e_getfield (p' := 28) D_O_tellAll_25 F_O_10 (by first | assumption | exact sUp_eq | (rw [sUp_ne (by omega)]; assumption) | (rw [sUp_ne (by omega), sUp_ne (by omega)]; assumption) | (rw [sUp_ne (by omega)]; exact sUp_eq) | (rw [gSet_ne (by omega) (by omega)]; first | assumption | exact sUp_eq | (rw [sUp_ne (by omega)]; assumption) | (rw [sUp_ne (by omega), sUp_ne (by omega)]; assumption)) | (simp [sUp]; done)) (by rfl) rfl ?_
    refine x_callV1 (p' := 31) D_O_tellAll_28 V_O_69 (c_Grid_toldCount C0.2.1 hx) rfl (by first | assumption | exact sUp_eq | (rw [sUp_ne (by omega)]; assumption) | (rw [sUp_ne (by omega), sUp_ne (by omega)]; assumption) | (rw [sUp_ne (by omega)]; exact sUp_eq) | (rw [gSet_ne (by omega) (by omega)]; first | assumption | exact sUp_eq | (rw [sUp_ne (by omega)]; assumption) | (rw [sUp_ne (by omega), sUp_ne (by omega)]; assumption)) | (simp [sUp]; done)) rfl (Nat.le_of_ble_eq_true rfl) (by decide) ⟨by decide, by decide⟩ rfl ?_
    refine e_istore_1 (p' := 32) D_O_tellAll_31 (Nat.le_of_ble_eq_true rfl) rfl rfl ?_
    refine e_aload_0 (p' := 33) D_O_tellAll_32 rfl ?_
    refine e_getfield (p' := 36) D_O_tellAll_33 F_O_50 (by first | assumption | exact sUp_eq | (rw [sUp_ne (by omega)]; assumption) | (rw [sUp_ne (by omega), sUp_ne (by omega)]; assumption) | (rw [sUp_ne (by omega)]; exact sUp_eq) | (rw [gSet_ne (by omega) (by omega)]; first | assumption | exact sUp_eq | (rw [sUp_ne (by omega)]; assumption) | (rw [sUp_ne (by omega), sUp_ne (by omega)]; assumption)) | (simp [sUp]; done)) (by rfl) rfl ?_
    refine e_aload_0 (p' := 37) D_O_tellAll_36 rfl ?_
    refine e_getfield (p' := 40) D_O_tellAll_37 F_O_10 (by first | assumption | exact sUp_eq | (rw [sUp_ne (by omega)]; assumption) | (rw [sUp_ne (by omega), sUp_ne (by omega)]; assumption) | (rw [sUp_ne (by omega)]; exact sUp_eq) | (rw [gSet_ne (by omega) (by omega)]; first | assumption | exact sUp_eq | (rw [sUp_ne (by omega)]; assumption) | (rw [sUp_ne (by omega), sUp_ne (by omega)]; assumption)) | (simp [sUp]; done)) (by rfl) rfl ?_
    refine y_callV0 (p' := 43) D_O_tellAll_40 V_O_73 (c_Hist_record C0.2.2.2.2.2.2.2.1 C0.2.1 hx) rfl (by first | assumption | exact sUp_eq | (rw [sUp_ne (by omega)]; assumption) | (rw [sUp_ne (by omega), sUp_ne (by omega)]; assumption) | (rw [sUp_ne (by omega)]; exact sUp_eq) | (rw [gSet_ne (by omega) (by omega)]; first | assumption | exact sUp_eq | (rw [sUp_ne (by omega)]; assumption) | (rw [sUp_ne (by omega), sUp_ne (by omega)]; assumption)) | (simp [sUp]; done)) rfl (Nat.le_of_ble_eq_true rfl) (by decide) ⟨by decide, by decide⟩ rfl ?_
    rintro h1 ⟨hh1, hf1⟩
    have C1 := C0.hist hf1 hh1
    have hp2 := hp1.kept (fun a h1 h2 => hf1 a (by omega))
    have F1 := hf0.o.tr hf1.o
    refine e_iconst (v := nI 0) (p' := 44) D_O_tellAll_43 cst_iconst_0 rfl ?_
    refine e_istore_2 (p' := 45) D_O_tellAll_44 (Nat.le_of_ble_eq_true rfl) rfl rfl ?_
    have lk45 : ∀ i : Nat, i ≤ st.1.1.1 → ∀ (h1 : sH), (CInv h1 ((st.1.1, ptw st.1.2 st.1.1.1 st.1.1.2.1 (jn st.1) (pdt st.1) i 0), recH st.2.1 st.1, st.2.2) ∧ PtAt h1 (lay st.1).1 (lay st.1).2 (wellX st.1) ∧ FrO h h1) → sEv l m_O_tellAll 6 (0, 0, 0, 0) (sKm 0 0 (fun r1 h1 => r1 = some (.int (StellAll st).1) ∧ (CR h (StellAll st).2) h1)) 45 [some (.ref 0), some (.int (nI (told st.1))), some (.int (nI i)), none] [] (h1) := by
      refine lp_up _ ?_ ?_
      · intro h1 ⟨CC, PP, FF⟩
        have d0 := CC.1
        have d1 := CC.2.1
        have d10 := d1.1
        have d7 := PP.c7
        have yok := ptw_ok hx (q := jn st.1) (v := pdt st.1) (fun r c _ _ _ => pdt_lt hx r c) (st.1.1.1) 0
        refine e_iload_2 (p' := 46) D_O_tellAll_45 rfl ?_
        refine e_aload_0 (p' := 47) D_O_tellAll_46 rfl ?_
        refine e_getfield (p' := 50) D_O_tellAll_47 F_O_10 (by first | assumption | exact sUp_eq | (rw [sUp_ne (by omega)]; assumption) | (rw [sUp_ne (by omega), sUp_ne (by omega)]; assumption) | (rw [sUp_ne (by omega)]; exact sUp_eq) | (rw [gSet_ne (by omega) (by omega)]; first | assumption | exact sUp_eq | (rw [sUp_ne (by omega)]; assumption) | (rw [sUp_ne (by omega), sUp_ne (by omega)]; assumption)) | (simp [sUp]; done)) (by rfl) rfl ?_
        refine x_callV1 (p' := 53) D_O_tellAll_50 V_O_99 (c_Grid_rowsN (n := st.1.1.1) d1 rfl) rfl (by first | assumption | exact sUp_eq | (rw [sUp_ne (by omega)]; assumption) | (rw [sUp_ne (by omega), sUp_ne (by omega)]; assumption) | (rw [sUp_ne (by omega)]; exact sUp_eq) | (rw [gSet_ne (by omega) (by omega)]; first | assumption | exact sUp_eq | (rw [sUp_ne (by omega)]; assumption) | (rw [sUp_ne (by omega), sUp_ne (by omega)]; assumption)) | (simp [sUp]; done)) rfl (Nat.le_of_ble_eq_true rfl) (by decide) ⟨by decide, by decide⟩ rfl ?_
        refine e_icmpN_ge (q := 115) (p' := 56) D_O_tellAll_53 (by omega) (by omega) rfl rfl (fun hc53 => ?_) (fun hc53 => ?_)
        ·
          refine e_aload_0 (p' := 116) D_O_tellAll_115 rfl ?_
          refine e_getfield (p' := 119) D_O_tellAll_116 F_O_10 (by first | assumption | exact sUp_eq | (rw [sUp_ne (by omega)]; assumption) | (rw [sUp_ne (by omega), sUp_ne (by omega)]; assumption) | (rw [sUp_ne (by omega)]; exact sUp_eq) | (rw [gSet_ne (by omega) (by omega)]; first | assumption | exact sUp_eq | (rw [sUp_ne (by omega)]; assumption) | (rw [sUp_ne (by omega), sUp_ne (by omega)]; assumption)) | (simp [sUp]; done)) (by rfl) rfl ?_
          refine x_callV1 (p' := 122) D_O_tellAll_119 V_O_69 (c_Grid_toldCount d1 yok) rfl (by first | assumption | exact sUp_eq | (rw [sUp_ne (by omega)]; assumption) | (rw [sUp_ne (by omega), sUp_ne (by omega)]; assumption) | (rw [sUp_ne (by omega)]; exact sUp_eq) | (rw [gSet_ne (by omega) (by omega)]; first | assumption | exact sUp_eq | (rw [sUp_ne (by omega)]; assumption) | (rw [sUp_ne (by omega), sUp_ne (by omega)]; assumption)) | (simp [sUp]; done)) rfl (Nat.le_of_ble_eq_true rfl) (by decide) ⟨by decide, by decide⟩ rfl ?_
          refine e_iload_1 (p' := 123) D_O_tellAll_122 rfl ?_
          first | refine e_isubN (p' := 124) D_O_tellAll_123 (by omega) rfl ?_ | refine e_isub (p' := 124) D_O_tellAll_123 rfl ?_
          refine e_ireturn (ty := .int) D_O_tellAll_124 rfl (by first | rfl | exact sBo_nar _) ⟨by decide, by decide⟩ ?_
          unfold StellAll; rw [if_pos hc18, ← nI_subN tl]; exact ⟨rfl, CC, FF⟩
        ·
          exfalso; omega
      · intro i hi ih45 h1 ⟨CC, PP, FF⟩
        have d0 := CC.1
        have d1 := CC.2.1
        have d10 := d1.1
        have d7 := PP.c7
        have yok := ptw_ok hx (q := jn st.1) (v := pdt st.1) (fun r c _ _ _ => pdt_lt hx r c) i 0
        refine e_iload_2 (p' := 46) D_O_tellAll_45 rfl ?_
        refine e_aload_0 (p' := 47) D_O_tellAll_46 rfl ?_
        refine e_getfield (p' := 50) D_O_tellAll_47 F_O_10 (by first | assumption | exact sUp_eq | (rw [sUp_ne (by omega)]; assumption) | (rw [sUp_ne (by omega), sUp_ne (by omega)]; assumption) | (rw [sUp_ne (by omega)]; exact sUp_eq) | (rw [gSet_ne (by omega) (by omega)]; first | assumption | exact sUp_eq | (rw [sUp_ne (by omega)]; assumption) | (rw [sUp_ne (by omega), sUp_ne (by omega)]; assumption)) | (simp [sUp]; done)) (by rfl) rfl ?_
        refine x_callV1 (p' := 53) D_O_tellAll_50 V_O_99 (c_Grid_rowsN (n := st.1.1.1) d1 rfl) rfl (by first | assumption | exact sUp_eq | (rw [sUp_ne (by omega)]; assumption) | (rw [sUp_ne (by omega), sUp_ne (by omega)]; assumption) | (rw [sUp_ne (by omega)]; exact sUp_eq) | (rw [gSet_ne (by omega) (by omega)]; first | assumption | exact sUp_eq | (rw [sUp_ne (by omega)]; assumption) | (rw [sUp_ne (by omega), sUp_ne (by omega)]; assumption)) | (simp [sUp]; done)) rfl (Nat.le_of_ble_eq_true rfl) (by decide) ⟨by decide, by decide⟩ rfl ?_
        refine e_icmpN_ge (q := 115) (p' := 56) D_O_tellAll_53 (by omega) (by omega) rfl rfl (fun hc53 => ?_) (fun hc53 => ?_)
        ·
          exfalso; omega
        ·
          refine e_iconst (v := nI 0) (p' := 57) D_O_tellAll_56 cst_iconst_0 rfl ?_
          refine e_istore_3 (p' := 58) D_O_tellAll_57 (Nat.le_of_ble_eq_true rfl) rfl rfl ?_
          have lk58 : ∀ j : Nat, j ≤ st.1.1.2.1 → ∀ (h2 : sH), (CInv h2 ((st.1.1, ptw st.1.2 st.1.1.1 st.1.1.2.1 (jn st.1) (pdt st.1) i j), recH st.2.1 st.1, st.2.2) ∧ PtAt h2 (lay st.1).1 (lay st.1).2 (wellX st.1) ∧ FrO h h2) → sEv l m_O_tellAll 6 (0, 0, 0, 0) (sKm 0 0 (fun r1 h1 => r1 = some (.int (StellAll st).1) ∧ (CR h (StellAll st).2) h1)) 58 [some (.ref 0), some (.int (nI (told st.1))), some (.int (nI i)), some (.int (nI j))] [] (h2) := by
            refine lp_up _ ?_ ?_
            · intro h2 ⟨CC2, PP2, FF2⟩
              have e0 := CC2.1
              have e1 := CC2.2.1
              have e10 := e1.1
              have e7 := PP2.c7
              have yok2 := ptw_ok hx (q := jn st.1) (v := pdt st.1) (fun r c _ _ _ => pdt_lt hx r c) i (st.1.1.2.1)
              refine e_iload_3 (p' := 59) D_O_tellAll_58 rfl ?_
              refine e_aload_0 (p' := 60) D_O_tellAll_59 rfl ?_
              refine e_getfield (p' := 63) D_O_tellAll_60 F_O_10 (by first | assumption | exact sUp_eq | (rw [sUp_ne (by omega)]; assumption) | (rw [sUp_ne (by omega), sUp_ne (by omega)]; assumption) | (rw [sUp_ne (by omega)]; exact sUp_eq) | (rw [gSet_ne (by omega) (by omega)]; first | assumption | exact sUp_eq | (rw [sUp_ne (by omega)]; assumption) | (rw [sUp_ne (by omega), sUp_ne (by omega)]; assumption)) | (simp [sUp]; done)) (by rfl) rfl ?_
              refine x_callV1 (p' := 66) D_O_tellAll_63 V_O_102 (c_Grid_columnsN (n := st.1.1.2.1) e1 rfl) rfl (by first | assumption | exact sUp_eq | (rw [sUp_ne (by omega)]; assumption) | (rw [sUp_ne (by omega), sUp_ne (by omega)]; assumption) | (rw [sUp_ne (by omega)]; exact sUp_eq) | (rw [gSet_ne (by omega) (by omega)]; first | assumption | exact sUp_eq | (rw [sUp_ne (by omega)]; assumption) | (rw [sUp_ne (by omega), sUp_ne (by omega)]; assumption)) | (simp [sUp]; done)) rfl (Nat.le_of_ble_eq_true rfl) (by decide) ⟨by decide, by decide⟩ rfl ?_
              refine e_icmpN_ge (q := 109) (p' := 69) D_O_tellAll_66 (by omega) (by omega) rfl rfl (fun hc66 => ?_) (fun hc66 => ?_)
              ·
                first | refine e_iincN_2 (n := 1) (p' := 112) D_O_tellAll_109 (Nat.le_of_ble_eq_true rfl) rfl rfl ?_ | refine e_iinc_2 (p' := 112) D_O_tellAll_109 (Nat.le_of_ble_eq_true rfl) rfl rfl rfl ?_
                refine e_goto (p' := 45) D_O_tellAll_112 rfl ?_
                refine sEv.castW (ih45 h2 ⟨by rw [← ptw_row (c := st.1.1.2.1) (Nat.le_refl _)]; exact CC2, PP2, FF2⟩) ?_ ?_ ?_
                · first | exact lvW_rfl _ | (simp [lvW]; done) | (simp [lvW, *]; done) | (simp [lvW]; omega)
                · rfl
                · first | rfl | (simp; done)
              ·
                exfalso; omega
            · intro j hj ih58 h2 ⟨CC2, PP2, FF2⟩
              have e0 := CC2.1
              have e1 := CC2.2.1
              have e10 := e1.1
              have e7 := PP2.c7
              have yok2 := ptw_ok hx (q := jn st.1) (v := pdt st.1) (fun r c _ _ _ => pdt_lt hx r c) i j
              refine e_iload_3 (p' := 59) D_O_tellAll_58 rfl ?_
              refine e_aload_0 (p' := 60) D_O_tellAll_59 rfl ?_
              refine e_getfield (p' := 63) D_O_tellAll_60 F_O_10 (by first | assumption | exact sUp_eq | (rw [sUp_ne (by omega)]; assumption) | (rw [sUp_ne (by omega), sUp_ne (by omega)]; assumption) | (rw [sUp_ne (by omega)]; exact sUp_eq) | (rw [gSet_ne (by omega) (by omega)]; first | assumption | exact sUp_eq | (rw [sUp_ne (by omega)]; assumption) | (rw [sUp_ne (by omega), sUp_ne (by omega)]; assumption)) | (simp [sUp]; done)) (by rfl) rfl ?_
              refine x_callV1 (p' := 66) D_O_tellAll_63 V_O_102 (c_Grid_columnsN (n := st.1.1.2.1) e1 rfl) rfl (by first | assumption | exact sUp_eq | (rw [sUp_ne (by omega)]; assumption) | (rw [sUp_ne (by omega), sUp_ne (by omega)]; assumption) | (rw [sUp_ne (by omega)]; exact sUp_eq) | (rw [gSet_ne (by omega) (by omega)]; first | assumption | exact sUp_eq | (rw [sUp_ne (by omega)]; assumption) | (rw [sUp_ne (by omega), sUp_ne (by omega)]; assumption)) | (simp [sUp]; done)) rfl (Nat.le_of_ble_eq_true rfl) (by decide) ⟨by decide, by decide⟩ rfl ?_
              refine e_icmpN_ge (q := 109) (p' := 69) D_O_tellAll_66 (by omega) (by omega) rfl rfl (fun hc66 => ?_) (fun hc66 => ?_)
              ·
                exfalso; omega
              ·
                refine e_aload_0 (p' := 70) D_O_tellAll_69 rfl ?_
                refine e_getfield (p' := 73) D_O_tellAll_70 F_O_22 (by first | assumption | exact sUp_eq | (rw [sUp_ne (by omega)]; assumption) | (rw [sUp_ne (by omega), sUp_ne (by omega)]; assumption) | (rw [sUp_ne (by omega)]; exact sUp_eq) | (rw [gSet_ne (by omega) (by omega)]; first | assumption | exact sUp_eq | (rw [sUp_ne (by omega)]; assumption) | (rw [sUp_ne (by omega), sUp_ne (by omega)]; assumption)) | (simp [sUp]; done)) (by rfl) rfl ?_
                refine e_iload_2 (p' := 74) D_O_tellAll_73 rfl ?_
                refine e_iload_3 (p' := 75) D_O_tellAll_74 rfl ?_
                refine x_callV1 (p' := 78) D_O_tellAll_75 V_O_105 (c_Parts_areJoined PP2 (lay_pv hx).2 (by omega) (by omega)) rfl (by first | assumption | exact sUp_eq | (rw [sUp_ne (by omega)]; assumption) | (rw [sUp_ne (by omega), sUp_ne (by omega)]; assumption) | (rw [sUp_ne (by omega)]; exact sUp_eq) | (rw [gSet_ne (by omega) (by omega)]; first | assumption | exact sUp_eq | (rw [sUp_ne (by omega)]; assumption) | (rw [sUp_ne (by omega), sUp_ne (by omega)]; assumption)) | (simp [sUp]; done)) rfl (Nat.le_of_ble_eq_true rfl) (by decide) ⟨by decide, by decide⟩ rfl ?_
                refine e_ifB_eq (q := 103) (p' := 81) D_O_tellAll_78 rfl rfl (fun hc78 => ?_) (fun hc78 => ?_)
                ·
                  first | refine e_iincN_3 (n := 1) (p' := 106) D_O_tellAll_103 (Nat.le_of_ble_eq_true rfl) rfl rfl ?_ | refine e_iinc_3 (p' := 106) D_O_tellAll_103 (Nat.le_of_ble_eq_true rfl) rfl rfl rfl ?_
                  refine e_goto (p' := 58) D_O_tellAll_106 rfl ?_
                  refine sEv.castW (ih58 h2 ⟨by rw [← ptw_no (by omega) (by omega) hc78]; exact CC2, PP2, FF2⟩) ?_ ?_ ?_
                  · first | exact lvW_rfl _ | (simp [lvW]; done) | (simp [lvW, *]; done) | (simp [lvW]; omega)
                  · rfl
                  · first | rfl | (simp; done)
                ·
                  refine e_aload_0 (p' := 82) D_O_tellAll_81 rfl ?_
                  refine e_getfield (p' := 85) D_O_tellAll_82 F_O_10 (by first | assumption | exact sUp_eq | (rw [sUp_ne (by omega)]; assumption) | (rw [sUp_ne (by omega), sUp_ne (by omega)]; assumption) | (rw [sUp_ne (by omega)]; exact sUp_eq) | (rw [gSet_ne (by omega) (by omega)]; first | assumption | exact sUp_eq | (rw [sUp_ne (by omega)]; assumption) | (rw [sUp_ne (by omega), sUp_ne (by omega)]; assumption)) | (simp [sUp]; done)) (by rfl) rfl ?_
                  refine e_iload_2 (p' := 86) D_O_tellAll_85 rfl ?_
                  refine e_iload_3 (p' := 87) D_O_tellAll_86 rfl ?_
                  refine e_aload_0 (p' := 88) D_O_tellAll_87 rfl ?_
                  refine e_getfield (p' := 91) D_O_tellAll_88 F_O_22 (by first | assumption | exact sUp_eq | (rw [sUp_ne (by omega)]; assumption) | (rw [sUp_ne (by omega), sUp_ne (by omega)]; assumption) | (rw [sUp_ne (by omega)]; exact sUp_eq) | (rw [gSet_ne (by omega) (by omega)]; first | assumption | exact sUp_eq | (rw [sUp_ne (by omega)]; assumption) | (rw [sUp_ne (by omega), sUp_ne (by omega)]; assumption)) | (simp [sUp]; done)) (by rfl) rfl ?_
                  refine e_aload_0 (p' := 92) D_O_tellAll_91 rfl ?_
                  refine e_getfield (p' := 95) D_O_tellAll_92 F_O_10 (by first | assumption | exact sUp_eq | (rw [sUp_ne (by omega)]; assumption) | (rw [sUp_ne (by omega), sUp_ne (by omega)]; assumption) | (rw [sUp_ne (by omega)]; exact sUp_eq) | (rw [gSet_ne (by omega) (by omega)]; first | assumption | exact sUp_eq | (rw [sUp_ne (by omega)]; assumption) | (rw [sUp_ne (by omega), sUp_ne (by omega)]; assumption)) | (simp [sUp]; done)) (by rfl) rfl ?_
                  refine e_iload_2 (p' := 96) D_O_tellAll_95 rfl ?_
                  refine e_iload_3 (p' := 97) D_O_tellAll_96 rfl ?_
                  refine x_callV1 (p' := 100) D_O_tellAll_97 V_O_109 (c_Parts_product (x := (st.1.1, _)) e1 yok2 (by omega) PP2 (lay_pv hx) (by omega) (by omega) (kn.1 _ (by omega)) (kn.2 _ (by omega))) rfl (by first | assumption | exact sUp_eq | (rw [sUp_ne (by omega)]; assumption) | (rw [sUp_ne (by omega), sUp_ne (by omega)]; assumption) | (rw [sUp_ne (by omega)]; exact sUp_eq) | (rw [gSet_ne (by omega) (by omega)]; first | assumption | exact sUp_eq | (rw [sUp_ne (by omega)]; assumption) | (rw [sUp_ne (by omega), sUp_ne (by omega)]; assumption)) | (simp [sUp]; done)) rfl (Nat.le_of_ble_eq_true rfl) (by decide) ⟨by decide, by decide⟩ rfl ?_
                  refine x_callV0 (p' := 103) D_O_tellAll_100 V_O_89 (c_Grid_setNumber (x := (st.1.1, _)) e1 yok2 (by show (_ : Nat) < st.1.1.1; omega) (by show (_ : Nat) < st.1.1.2.1; omega)) rfl (by first | assumption | exact sUp_eq | (rw [sUp_ne (by omega)]; assumption) | (rw [sUp_ne (by omega), sUp_ne (by omega)]; assumption) | (rw [sUp_ne (by omega)]; exact sUp_eq) | (rw [gSet_ne (by omega) (by omega)]; first | assumption | exact sUp_eq | (rw [sUp_ne (by omega)]; assumption) | (rw [sUp_ne (by omega), sUp_ne (by omega)]; assumption)) | (simp [sUp]; done)) rfl (Nat.le_of_ble_eq_true rfl) (by decide) ⟨by decide, by decide⟩ rfl ?_
                  first | refine e_iincN_3 (n := 1) (p' := 106) D_O_tellAll_103 (Nat.le_of_ble_eq_true rfl) rfl rfl ?_ | refine e_iinc_3 (p' := 106) D_O_tellAll_103 (Nat.le_of_ble_eq_true rfl) rfl rfl rfl ?_
                  refine e_goto (p' := 58) D_O_tellAll_106 rfl ?_
                  refine sEv.castW (ih58 (gSet h2 1 _) ⟨by rw [← ptw_go (by omega) (by omega) (by omega) hc78]; exact CC2.g1, PP2.kept (fun a h1 h2 => gSet_ne (by omega) (by omega)), FF2.g (by omega)⟩) ?_ ?_ ?_
                  · first | exact lvW_rfl _ | (simp [lvW]; done) | (simp [lvW, *]; done) | (simp [lvW]; omega)
                  · rfl
                  · first | rfl | (simp; done)
          refine sEv.castW (lk58 0 (by omega) h1 ⟨CC, PP, FF⟩) ?_ ?_ ?_
          · first | exact lvW_rfl _ | (simp [lvW]; done) | (simp [lvW, *]; done) | (simp [lvW]; omega)
          · rfl
          · first | rfl | (simp; done)
    refine sEv.castW (lk45 0 (by omega) h1 ⟨by rw [ptw_0]; exact C1, hp2, F1⟩) ?_ ?_ ?_
    · first | exact lvW_rfl _ | (simp [lvW]; done) | (simp [lvW, *]; done) | (simp [lvW]; omega)
    · rfl
    · first | rfl | (simp; done)
  ·
    refine e_bipush (v := (-5)) (p' := 23) D_O_tellAll_21 cst_bipush_m5 rfl ?_
    refine e_ireturn (ty := .int) D_O_tellAll_23 rfl (by first | rfl | exact sBo_nar _) ⟨by decide, by decide⟩ ?_
    unfold StellAll; rw [if_neg (by rw [hc18]; decide)]; exact ⟨rfl, C0, hf0.o⟩
theorem scR_le {P : Nat → Nat} : ∀ {n i : Nat}, scR P n = .inl i → i < n := by
  intro n
  induction n with
  | zero => intro i h; exact absurd h (by unfold scR; exact fun w => nomatch w)
  | succ n ih =>
    intro i h
    cases e : scR P n with
    | inl j =>
      have := scR_stop e 1
      rw [this] at h
      injection h with h
      have := ih e
      omega
    | inr s =>
      cases e2 : scS P n s with
      | none =>
        rw [scR_bad e e2] at h
        injection h with h
        omega
      | some s' => rw [scR_go e e2] at h; exact nomatch h
theorem flt_le {q : Pd} (hq : PdOk q) {i : Nat} (h : flt q = .inl i) : i ≤ 50 := by
  have := hq.1
  unfold flt at h
  split at h
  · rename_i j e
    injection h with h
    have := scR_le e
    omega
  · split at h
    · injection h with h
      omega
    · exact nomatch h
theorem e_astoreN_1 {l : Launch} {M : sM} {d : Nat} {B : sB} {K : sK} {pc p' : Nat} {st : List Value} {h : sH} {a0 a1 : Option Value} {r : List (Option Value)} (hd : decode M.2.1 pc = .ok (.astore_n 1, 1)) (hn : 1 < M.2.2.1) (hno : sN1 a0 = true) (hp : pc + 1 = p') (kk : sEv l M d B K p' (a0 :: some .null :: r) st h) : sEv l M d B K pc (a0 :: a1 :: r) (.null :: st) h := by
  subst hp
  exact e_st1 (i := 1) (sN1_ok (j := 0) (o := a0) rfl hno) (fun b p e R s m args below meth c H locs ls cells slots Q hx hb hl k => lv_astore_nN hx hb hd rfl hl hn rfl k) kk
theorem e_astoreN_2 {l : Launch} {M : sM} {d : Nat} {B : sB} {K : sK} {pc p' : Nat} {st : List Value} {h : sH} {a0 a1 a2 : Option Value} {r : List (Option Value)} (hd : decode M.2.1 pc = .ok (.astore_n 2, 1)) (hn : 2 < M.2.2.1) (hno : sN1 a1 = true) (hp : pc + 1 = p') (kk : sEv l M d B K p' (a0 :: a1 :: some .null :: r) st h) : sEv l M d B K pc (a0 :: a1 :: a2 :: r) (.null :: st) h := by
  subst hp
  exact e_st1 (i := 2) (sN1_ok (j := 1) (o := a1) rfl hno) (fun b p e R s m args below meth c H locs ls cells slots Q hx hb hl k => lv_astore_nN hx hb hd rfl hl hn rfl k) kk
theorem e_aloadN_1 {l : Launch} {M : sM} {d : Nat} {B : sB} {K : sK} {pc p' : Nat} {st : List Value} {h : sH} {a0 : Option Value} {r : List (Option Value)} (hd : decode M.2.1 pc = .ok (.aload_n 1, 1)) (hp : pc + 1 = p') (kk : sEv l M d B K p' (a0 :: some .null :: r) (.null :: st) h) : sEv l M d B K pc (a0 :: some .null :: r) st h := by
  subst hp
  exact e_ld (i := 1) rfl (fun b p e R s m args below meth c H locs ls cells slots Q hx hb hl k => lv_aload_nN hx hb hd rfl hl k) kk
theorem e_aloadN_2 {l : Launch} {M : sM} {d : Nat} {B : sB} {K : sK} {pc p' : Nat} {st : List Value} {h : sH} {a0 a1 : Option Value} {r : List (Option Value)} (hd : decode M.2.1 pc = .ok (.aload_n 2, 1)) (hp : pc + 1 = p') (kk : sEv l M d B K p' (a0 :: a1 :: some .null :: r) (.null :: st) h) : sEv l M d B K pc (a0 :: a1 :: some .null :: r) st h := by
  subst hp
  exact e_ld (i := 2) rfl (fun b p e R s m args below meth c H locs ls cells slots Q hx hb hl k => lv_aload_nN hx hb hd rfl hl k) kk
set_option maxRecDepth 4000 in
theorem c_O_undo0 {l : Launch} {h : sH} {st : St} (hC : CInv h st) (hS : StOk st) (hn : st.2.1.1 = 0) : sY l m_O_undo 3 [.ref 0] h (some (.int (Sundo st).1)) (CR h (Sundo st).2) := by
  have c0 := hC.1
  have hG := hC.2.1
  have hx := hS.1
  have hM := hx.2.2.1.le
  have hRr := hx.1
  have hCc := hx.2.1
  obtain ⟨g0, g1, g2⟩ := hC.2.1
  have hH := hC.2.2.2.2.2.2.2.1
  have hH32 : ∃ a b c, h.2 32 = oC 1 [a, b, c] := by
    obtain ⟨o, f, Y, C, _⟩ := hH
    exact ⟨_, _, _, C.1⟩
  obtain ⟨_, _, _, hH32⟩ := hH32
  obtain ⟨ry, cy, hP⟩ := hC.2.2.2.2.2.2.1
  have hp0 := hP.1
  have hq := hS.2.2.2
  obtain ⟨ps, psz, pcon, hPt⟩ := hC.2.2.2.1
  have hp7 := hPt.c7
  refine en_O_undo ?_
  refine e_aload_0 (p' := 1) D_O_undo_0 rfl ?_
  refine e_getfield (p' := 4) D_O_undo_1 F_O_50 (by first | assumption | exact sUp_eq | (rw [sUp_ne (by omega)]; assumption) | (rw [sUp_ne (by omega), sUp_ne (by omega)]; assumption) | (rw [sUp_ne (by omega)]; exact sUp_eq) | (rw [gSet_ne (by omega) (by omega)]; first | assumption | exact sUp_eq | (rw [sUp_ne (by omega)]; assumption) | (rw [sUp_ne (by omega), sUp_ne (by omega)]; assumption)) | (simp [sUp]; done)) (by rfl) rfl ?_
  refine z_callV1 (p' := 7) D_O_undo_4 V_O_228 (c_Hist_takeLatest hH) rfl (by first | assumption | exact sUp_eq | (rw [sUp_ne (by omega)]; assumption) | (rw [sUp_ne (by omega), sUp_ne (by omega)]; assumption) | (rw [sUp_ne (by omega)]; exact sUp_eq) | (rw [gSet_ne (by omega) (by omega)]; first | assumption | exact sUp_eq | (rw [sUp_ne (by omega)]; assumption) | (rw [sUp_ne (by omega), sUp_ne (by omega)]; assumption)) | (simp [sUp]; done)) rfl (Nat.le_of_ble_eq_true rfl) (by decide) ⟨by decide, by decide⟩ rfl ?_
  rintro _ h2 (⟨z1, rfl, rfl⟩ | ⟨z1, _⟩)
  rotate_left
  · exact absurd hn z1
  refine e_astoreN_1 (p' := 8) D_O_undo_7 (Nat.le_of_ble_eq_true rfl) rfl rfl ?_
  refine e_aloadN_1 (p' := 9) D_O_undo_8 rfl ?_
  refine e_ifnonnullN (p' := 12) D_O_undo_9 rfl ?_
  refine e_bipush (v := (-5)) (p' := 14) D_O_undo_12 cst_bipush_m5 rfl ?_
  refine e_ireturn (ty := .int) D_O_undo_14 rfl (by first | rfl | exact sBo_nar _) ⟨by decide, by decide⟩ ?_
  unfold Sundo; rw [if_pos hn]; exact ⟨rfl, hC, FrO.rf⟩
set_option maxRecDepth 4000 in
theorem c_O_undo {l : Launch} {h : sH} {st : St} (hC : CInv h st) (hS : StOk st) : sY l m_O_undo 3 [.ref 0] h (some (.int (Sundo st).1)) (CR h (Sundo st).2) := by
  have c0 := hC.1
  have hG := hC.2.1
  have hx := hS.1
  have hM := hx.2.2.1.le
  have hRr := hx.1
  have hCc := hx.2.1
  obtain ⟨g0, g1, g2⟩ := hC.2.1
  have hH := hC.2.2.2.2.2.2.2.1
  have hH32 : ∃ a b c, h.2 32 = oC 1 [a, b, c] := by
    obtain ⟨o, f, Y, C, _⟩ := hH
    exact ⟨_, _, _, C.1⟩
  obtain ⟨_, _, _, hH32⟩ := hH32
  obtain ⟨ry, cy, hP⟩ := hC.2.2.2.2.2.2.1
  have hp0 := hP.1
  have hq := hS.2.2.2
  obtain ⟨ps, psz, pcon, hPt⟩ := hC.2.2.2.1
  have hp7 := hPt.c7
  by_cases hn : st.2.1.1 = 0
  · exact c_O_undo0 hC hS hn
  refine en_O_undo ?_
  refine e_aload_0 (p' := 1) D_O_undo_0 rfl ?_
  refine e_getfield (p' := 4) D_O_undo_1 F_O_50 (by first | assumption | exact sUp_eq | (rw [sUp_ne (by omega)]; assumption) | (rw [sUp_ne (by omega), sUp_ne (by omega)]; assumption) | (rw [sUp_ne (by omega)]; exact sUp_eq) | (rw [gSet_ne (by omega) (by omega)]; first | assumption | exact sUp_eq | (rw [sUp_ne (by omega)]; assumption) | (rw [sUp_ne (by omega), sUp_ne (by omega)]; assumption)) | (simp [sUp]; done)) (by rfl) rfl ?_
  refine z_callV1 (p' := 7) D_O_undo_4 V_O_228 (c_Hist_takeLatest hH) rfl (by first | assumption | exact sUp_eq | (rw [sUp_ne (by omega)]; assumption) | (rw [sUp_ne (by omega), sUp_ne (by omega)]; assumption) | (rw [sUp_ne (by omega)]; exact sUp_eq) | (rw [gSet_ne (by omega) (by omega)]; first | assumption | exact sUp_eq | (rw [sUp_ne (by omega)]; assumption) | (rw [sUp_ne (by omega), sUp_ne (by omega)]; assumption)) | (simp [sUp]; done)) rfl (Nat.le_of_ble_eq_true rfl) (by decide) ⟨by decide, by decide⟩ rfl ?_
  rintro _ h2 (⟨z1, rfl, rfl⟩ | ⟨z1, ⟨k, hk, rfl, hgk, hok⟩, hh2, hf2⟩)
  · exact absurd z1 hn
  have C2 := hC.hist hf2 hh2
  have c20 := C2.1
  have g20 := C2.2.1.1
  refine e_astore_1 (p' := 8) D_O_undo_7 (Nat.le_of_ble_eq_true rfl) rfl rfl ?_
  refine e_aload_1 (p' := 9) D_O_undo_8 rfl ?_
  refine e_ifnonnull (p' := 15) D_O_undo_9 rfl ?_
  refine e_aload_0 (p' := 16) D_O_undo_15 rfl ?_
  refine e_getfield (p' := 19) D_O_undo_16 F_O_10 (by first | assumption | exact sUp_eq | (rw [sUp_ne (by omega)]; assumption) | (rw [sUp_ne (by omega), sUp_ne (by omega)]; assumption) | (rw [sUp_ne (by omega)]; exact sUp_eq) | (rw [gSet_ne (by omega) (by omega)]; first | assumption | exact sUp_eq | (rw [sUp_ne (by omega)]; assumption) | (rw [sUp_ne (by omega), sUp_ne (by omega)]; assumption)) | (simp [sUp]; done)) (by rfl) rfl ?_
  refine e_aload_1 (p' := 20) D_O_undo_19 rfl ?_
  refine x_callV0 (p' := 23) D_O_undo_20 V_O_134 (c_Grid_copyFrom C2.2.1 hx hgk hok (by omega)) rfl (by first | assumption | exact sUp_eq | (rw [sUp_ne (by omega)]; assumption) | (rw [sUp_ne (by omega), sUp_ne (by omega)]; assumption) | (rw [sUp_ne (by omega)]; exact sUp_eq) | (rw [gSet_ne (by omega) (by omega)]; first | assumption | exact sUp_eq | (rw [sUp_ne (by omega)]; assumption) | (rw [sUp_ne (by omega), sUp_ne (by omega)]; assumption)) | (simp [sUp]; done)) rfl (Nat.le_of_ble_eq_true rfl) (by decide) ⟨by decide, by decide⟩ rfl ?_
  have C3 := C2.g1 (t := st.2.1.2 (st.2.1.1 - 1))
  have c30 := C3.1
  have h332 : ∃ a b c, (gSet h2 1 (st.2.1.2 (st.2.1.1 - 1))).2 32 = oC 1 [a, b, c] := by
    obtain ⟨o, f, Y, C, _⟩ := C3.2.2.2.2.2.2.2.1
    exact ⟨_, _, _, C.1⟩
  obtain ⟨_, _, _, h332⟩ := h332
  refine e_aload_0 (p' := 24) D_O_undo_23 rfl ?_
  refine e_getfield (p' := 27) D_O_undo_24 F_O_50 (by first | assumption | exact sUp_eq | (rw [sUp_ne (by omega)]; assumption) | (rw [sUp_ne (by omega), sUp_ne (by omega)]; assumption) | (rw [sUp_ne (by omega)]; exact sUp_eq) | (rw [gSet_ne (by omega) (by omega)]; first | assumption | exact sUp_eq | (rw [sUp_ne (by omega)]; assumption) | (rw [sUp_ne (by omega), sUp_ne (by omega)]; assumption)) | (simp [sUp]; done)) (by rfl) rfl ?_
  refine x_callV1 (p' := 30) D_O_undo_27 V_O_168 (c_Hist_size C3.2.2.2.2.2.2.2.1) rfl (by first | assumption | exact sUp_eq | (rw [sUp_ne (by omega)]; assumption) | (rw [sUp_ne (by omega), sUp_ne (by omega)]; assumption) | (rw [sUp_ne (by omega)]; exact sUp_eq) | (rw [gSet_ne (by omega) (by omega)]; first | assumption | exact sUp_eq | (rw [sUp_ne (by omega)]; assumption) | (rw [sUp_ne (by omega), sUp_ne (by omega)]; assumption)) | (simp [sUp]; done)) rfl (Nat.le_of_ble_eq_true rfl) (by decide) ⟨by decide, by decide⟩ rfl ?_
  refine e_ireturn (ty := .int) D_O_undo_30 rfl (by first | rfl | exact sBo_nar _) ⟨by decide, by decide⟩ ?_
  unfold Sundo; rw [if_neg hn]; exact ⟨rfl, C3, hf2.o.g (by omega)⟩
