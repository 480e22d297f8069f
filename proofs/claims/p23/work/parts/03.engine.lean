/-! ===== the engine: abstract frames over relative addresses; one judgement, one rule an instruction ===== -/
abbrev sM : Type := MethodName × ByteArray × Nat × Option FieldType
abbrev sC : Type := (Nat × Nat × (Nat → Int32)) ⊕ ((Nat × Nat × (Nat → Option Nat)) ⊕ (Nat × List Value))
abbrev sH : Type := Nat × (Nat → sC)
abbrev sG : Type := Nat × va_G × (Nat → ClassId)
abbrev sB : Type := Nat × Nat × Nat × Nat
/-- a relative address stands for base + address; 'retAddr a' stands for the absolute reference a (the law's script) -/
def sTr (b : Nat) : Value → Value
  | .ref a => .ref (b + a)
  | .retAddr a => .ref a
  | v => v
def sE (G : sG) : sC → va_E
  | .inl x => .inl (G.2.2 x.1, (x.2.1, .inl x.2.2))
  | .inr (.inl x) => .inl (G.2.2 x.1, (x.2.1, .inr (.inr (.inr (.inr (fun j => (x.2.2 j).map (fun a => G.1 + a)))))))
  | .inr (.inr x) => .inr (x.1, x.2.map (sTr G.1))
def sW (G : sG) (h : sH) : va_W := (List.range h.1).map fun i => (G.1 + i, sE G (h.2 i))
def sJ : sC := .inr (.inr (99, []))
def sR (G : sG) (h : sH) (H : Heap) : Prop := va_P G.2.1 vwCl (sW G h) H ∧ H.size = G.1 + h.1 ∧ ∀ i, h.1 ≤ i → h.2 i = sJ
def sUp (h : sH) (k : Nat) (c : sC) : sH := (h.1, fun j => if j = k then c else h.2 j)
def sPush (h : sH) (c : sC) : sH := (h.1 + 1, fun j => if j = h.1 then c else h.2 j)
theorem sW_get {G : sG} {h : sH} {i : Nat} (hi : i < h.1) : (sW G h)[i]? = some (G.1 + i, sE G (h.2 i)) := by simp [sW, hi]
theorem sW_len {G : sG} {h : sH} : (sW G h).length = h.1 := by simp [sW]
theorem sW_of {G : sG} {h : sH} {i : Nat} {q : Nat × va_E} (hq : (sW G h)[i]? = some q) : i < h.1 ∧ q = (G.1 + i, sE G (h.2 i)) := by
  have hi : i < h.1 := by
    have := (List.getElem?_eq_some_iff.mp hq).1
    rwa [sW_len] at this
  exact ⟨hi, (Option.some.inj (hq.symm.trans (sW_get hi)))⟩
theorem sW_set {G : sG} {h : sH} {k : Nat} {c : sC} : (sW G h).set k (G.1 + k, sE G c) = sW G (sUp h k c) := by
  apply List.ext_getElem?
  intro i
  rw [List.getElem?_set]
  by_cases hk : k = i
  · subst hk
    rw [if_pos rfl, sW_len]
    by_cases hi : k < h.1
    · rw [if_pos hi, sW_get (h := sUp h k c) hi]
      simp [sUp]
    · rw [if_neg hi]
      exact (List.getElem?_eq_none (by rw [sW_len]; exact Nat.not_lt.mp hi)).symm
  · rw [if_neg hk]
    by_cases hi : i < h.1
    · rw [sW_get hi, sW_get (h := sUp h k c) hi]
      simp [sUp, Ne.symm hk]
    · rw [List.getElem?_eq_none (by rw [sW_len]; exact Nat.not_lt.mp hi), List.getElem?_eq_none (by rw [sW_len]; exact Nat.not_lt.mp hi)]
theorem sD (G : sG) (h : sH) : va_D (fun q => G.1 ≤ q) (sW G h) := by
  refine ⟨fun i j p q hi hj hpq => ?_, fun k q hk => ?_⟩
  · obtain ⟨-, rfl⟩ := sW_of hi
    obtain ⟨-, rfl⟩ := sW_of hj
    exact Nat.add_left_cancel hpq
  · obtain ⟨-, rfl⟩ := sW_of hk
    exact Nat.le_add_right _ _
theorem sR_lt {G : sG} {h : sH} {H : Heap} (hR : sR G h H) {a : Nat} (hc : h.2 a ≠ sJ) : a < h.1 := by
  rcases Nat.lt_or_ge a h.1 with q | q
  · exact q
  · exact absurd (hR.2.2 a q) hc
theorem sR_upd {G : sG} {h : sH} {H H1 : Heap} (hR : sR G h H) {a : Nat} (ha : a < h.1) {c : sC} (he : va_at G.2.1 vwCl (G.1 + a, sE G c) H1) (z : H1.size = H.size) (oq : ∀ q : Nat, q ≠ G.1 + a → H1[q]? = H[q]?) : sR G (sUp h a c) H1 := by
  refine ⟨?_, z.trans hR.2.1, fun i hi => ?_⟩
  · rw [← sW_set]
    exact hR.1.set (sD G h) (sW_get ha) he oq
  · show (if i = a then c else h.2 i) = sJ
    rw [if_neg (by have : h.1 ≤ i := hi; omega)]
    exact hR.2.2 i hi
theorem sR_push {G : sG} {h : sH} {H H1 : Heap} (hR : sR G h H) {c : sC} (he : va_at G.2.1 vwCl (G.1 + h.1, sE G c) H1) (z : H1.size = H.size + 1) (oq : ∀ q : Nat, q < H.size → H1[q]? = H[q]?) : sR G (sPush h c) H1 := by
  refine ⟨fun k q hq => ?_, ?_, fun i hi => ?_⟩
  · obtain ⟨hk, rfl⟩ := sW_of hq
    have hk' : k < h.1 + 1 := hk
    by_cases e : k = h.1
    · subst e
      simpa [sPush] using he
    · have hlt : k < h.1 := by omega
      have h1 := hR.1 k _ (sW_get hlt)
      have h2 : (sPush h c).2 k = h.2 k := by simp [sPush, e]
      rw [h2]
      exact h1.kept (oq (G.1 + k) (by rw [hR.2.1]; omega))
  · rw [z, hR.2.1]
    show _ = G.1 + (h.1 + 1)
    omega
  · have hi' : h.1 + 1 ≤ i := hi
    show (if i = h.1 then c else h.2 i) = sJ
    rw [if_neg (by omega)]
    exact hR.2.2 i (by omega)
-- what holds of the tables at every state
def sTys (G : sG) : List (ClassId × FieldType) := [(G.2.2 0, .int), (G.2.2 1, .int), (G.2.2 2, .int), (G.2.2 3, .object "OneRankGrid$Grid"), (G.2.2 4, .object "OneRankGrid$Slot")]
def sTyOf : Nat → FieldType
  | 0 => .int
  | 1 => .int
  | 2 => .int
  | 3 => .object "OneRankGrid$Grid"
  | _ => .object "OneRankGrid$Slot"
theorem sTys_get (G : sG) {t : Nat} (h : t < 5) : (sTys G)[t]? = some (G.2.2 t, sTyOf t) := by
  match t, h with
  | 0, _ => rfl
  | 1, _ => rfl
  | 2, _ => rfl
  | 3, _ => rfl
  | 4, _ => rfl
def sNest : List Cond := [
  .methodLinkNest RX8 9 yX0_init RX8, .methodLinkNest RX8 21 yX5_init RX8, .methodLinkNest RX8 28 yX6_init RX8, .methodLinkNest RX8 35 yX2_init RX8, .methodLinkNest RX8 42 yX4_init RX8, .methodLinkNest RX8 60 yX7_init RX8,
  .methodLinkNest RX1 17 yX0_init RX8, .methodLinkNest RX2 56 yX8_holds RX8, .methodLinkNest RX6 11 yX0_init RX8, .methodLinkNest RX6 84 yX8_holds RX8, .methodLinkNest RX7 9 yX0_init RX8]
def sNestW (w : Cond) : Prop := ∃ a i x h, w = Cond.methodLinkNest a i x h
def sBase (G : sG) (U : State) : Prop := va_K G.2.1 vwCl (sTys G) U ∧ (va_AO "OneRankGrid$Grid" U ∧ va_AO "OneRankGrid$Slot" U) ∧ ∀ w ∈ sNest, sNestW w ∧ va_Nw w U
theorem sBase.warm {G : sG} {s U : State} (hW : s.WarmedH U.vm) (h : sBase G s) : sBase G U := by
  refine ⟨va_K.moved hW.alike h.1, ⟨va_AO.moved hW.alike h.2.1.1, va_AO.moved hW.alike h.2.1.2⟩, fun w hw => ?_⟩
  obtain ⟨⟨a, i, x, hh, rfl⟩, h2⟩ := h.2.2 w hw
  exact ⟨⟨a, i, x, hh, rfl⟩, va_Nw.warmM hW h2⟩
theorem sBase.blind {G : sG} {U : State} {g : JFrame} {mk : MethodId} {a : Array Value} (h : sBase G U) : sBase G (U.calling g mk a) := by
  refine ⟨va_K.moved (u := U) (U := U.calling g mk a) (Vm.Alike.refl U.vm) h.1, ⟨va_AO.moved (u := U) (U := U.calling g mk a) (Vm.Alike.refl U.vm) h.2.1.1, va_AO.moved (u := U) (U := U.calling g mk a) (Vm.Alike.refl U.vm) h.2.1.2⟩, fun w hw => ?_⟩
  obtain ⟨⟨b, i, x, hh, rfl⟩, h2⟩ := h.2.2 w hw
  exact ⟨⟨b, i, x, hh, rfl⟩, va_Nw.same rfl (u := U) (U := U.calling g mk a) rfl h2⟩
def lw_good : List Cond := lw_tbl.filter goodWord
theorem lw_goodIn {w : Cond} (h : w ∈ lw_tbl) (hg : goodWord w = true) : w ∈ lw_good := List.mem_filter.mpr ⟨h, hg⟩
theorem lw_good_tbl {w : Cond} (h : w ∈ lw_good) : w ∈ lw_tbl := (List.mem_filter.mp h).1
theorem lw_good_word {w : Cond} (h : w ∈ lw_good) : goodWord w = true := (List.mem_filter.mp h).2
-- the locals: a list by slot, 'none' where nothing is known
def sLv (b : Nat) (lv : List (Option Value)) : List (Nat × Value) := (List.range lv.length).filterMap fun i => match lv[i]? with
  | some (some v) => some (i, sTr b v)
  | _ => none
theorem sLv_mem {b : Nat} {lv : List (Option Value)} {q : Nat × Value} : q ∈ sLv b lv ↔ ∃ v, lv[q.1]? = some (some v) ∧ q.2 = sTr b v := by
  obtain ⟨i, w⟩ := q
  unfold sLv
  rw [List.mem_filterMap]
  constructor
  · rintro ⟨j, hj, h⟩
    cases hl : lv[j]? with
    | none => rw [hl] at h; cases h
    | some o =>
      cases o with
      | none => rw [hl] at h; cases h
      | some v =>
        rw [hl] at h
        cases h
        exact ⟨v, hl, rfl⟩
  · rintro ⟨v, h1, h2⟩
    dsimp only at h1 h2
    subst h2
    refine ⟨i, List.mem_range.mpr (List.getElem?_eq_some_iff.mp h1).1, ?_⟩
    rw [h1]
def sL (b nL : Nat) (lv : List (Option Value)) (ls : Array Slot) : Prop := lv_has ls nL (sLv b lv)
theorem sL_at {b nL : Nat} {lv : List (Option Value)} {ls : Array Slot} (h : sL b nL lv ls) {i : Nat} {v : Value} (hi : lv[i]? = some (some v)) : ls[i]? = some (.val (sTr b v)) := h.2.2 (i, sTr b v) (sLv_mem.mpr ⟨v, hi, rfl⟩)
theorem sTr_cat (b : Nat) (v : Value) : (sTr b v).category = v.category := by cases v <;> rfl
theorem sTr_sum (b : Nat) (st : List Value) : ((st.map (sTr b)).map fun v => v.category).sum = (st.map fun v => v.category).sum := by
  congr 1
  rw [List.map_map]
  exact List.map_congr_left fun v _ => sTr_cat b v
/-- the slot below a store holds no long -/
def sNoL (lv : List (Option Value)) (i : Nat) : Prop := ∀ j v, j + 1 = i → lv[j]? = some (some v) → v.category = 1
theorem sL_set1 {b nL : Nat} {lv : List (Option Value)} {ls' : Array Slot} {i : Nat} {v : Value} (hn : sNoL lv i) (h : lv_has ls' nL ((i, sTr b v) :: (sLv b lv).filter (fun q => !(q.1 == i) && !(q.1 + 1 == i && q.2.category == 2)))) : sL b nL (lv.set i (some v)) ls' := by
  refine ⟨h.1, h.2.1, fun q hq => ?_⟩
  obtain ⟨w, h1, h2⟩ := sLv_mem.mp hq
  by_cases hi : i = q.1
  · rw [List.getElem?_set, if_pos hi] at h1
    split at h1
    · cases h1
      exact h.2.2 q (by rw [show q = (i, sTr b v) from Prod.ext hi.symm h2]; exact List.mem_cons_self)
    · cases h1
  · rw [List.getElem?_set, if_neg hi] at h1
    refine h.2.2 q (List.mem_cons_of_mem _ (List.mem_filter.mpr ⟨sLv_mem.mpr ⟨w, h1, h2⟩, ?_⟩))
    have hi' : ¬ q.1 = i := fun e => hi e.symm
    by_cases h3 : q.1 + 1 = i
    · have := hn q.1 w h3 h1
      rw [h2, sTr_cat, this]
      simp [hi']
    · simp [hi', h3]
theorem sL_set2 {b nL : Nat} {lv : List (Option Value)} {ls' : Array Slot} {i : Nat} {v : Value} (hn : sNoL lv i) (h : lv_has ls' nL ((i, sTr b v) :: (sLv b lv).filter (fun q => !(q.1 == i) && (!(q.1 == i + 1) && !(q.1 + 1 == i && q.2.category == 2))))) : sL b nL ((lv.set i (some v)).set (i + 1) none) ls' := by
  refine ⟨h.1, h.2.1, fun q hq => ?_⟩
  obtain ⟨w, h1, h2⟩ := sLv_mem.mp hq
  by_cases hj : i + 1 = q.1
  · rw [List.getElem?_set, if_pos hj] at h1
    split at h1 <;> cases h1
  · rw [List.getElem?_set, if_neg hj] at h1
    by_cases hi : i = q.1
    · rw [List.getElem?_set, if_pos hi] at h1
      split at h1
      · cases h1
        exact h.2.2 q (by rw [show q = (i, sTr b v) from Prod.ext hi.symm h2]; exact List.mem_cons_self)
      · cases h1
    · rw [List.getElem?_set, if_neg hi] at h1
      refine h.2.2 q (List.mem_cons_of_mem _ (List.mem_filter.mpr ⟨sLv_mem.mpr ⟨w, h1, h2⟩, ?_⟩))
      have hi' : ¬ q.1 = i := fun e => hi e.symm
      have hj' : ¬ q.1 = i + 1 := fun e => hj e.symm
      by_cases h3 : q.1 + 1 = i
      · have := hn q.1 w h3 h1
        rw [h2, sTr_cat, this]
        simp [hi', hj']
      · simp [hi', hj', h3]
-- the judgement
abbrev sK : Type := (sG → State → Array Value → Method → Prop) × (sG → State → Array Value → List Frame → State → Prop)
def sCtx (l : Launch) (M : sM) (d : Nat) (B : sB) (K : sK) (G : sG) (p : Program) (R : Room) (s : State) (m : MethodId) (args : Array Value) (meth : Method) (c : Code) : Prop :=
  p.tables.exec = Jvm.exec ∧ c.code = M.2.1 ∧ c.maxLocals = M.2.2.1 ∧ meth.sig.returnType = M.2.2.2 ∧ meth.locks = false ∧ s.vm.findClass M.1.cls = some m.cls ∧ (M.1.name = "<init>" → meth.name = "<init>") ∧ (∀ w ∈ lw_good, w.before args s = true) ∧ sBase G s ∧
    (d ≤ R.frames ∧ 60 * d ≤ R.locals ∧ B.2.2.1 ≤ R.cells ∧ B.2.2.2 ≤ R.slots) ∧ G.1 ≤ s.heap.size ∧ K.1 G s args meth
def sEv (l : Launch) (M : sM) (d : Nat) (B : sB) (K : sK) (pc : Nat) (lv : List (Option Value)) (st : List Value) (h : sH) : Prop :=
  ∀ (G : sG) (p : Program) (e : Env) (R : Room) (s : State) (m : MethodId) (args : Array Value) (below : List Frame) (meth : Method) (c : Code) (H : Heap) (locs : List Loc) (ls : Array Slot),
    sCtx l M d B K G p R s m args meth c → sR G h H → va_S (fun q => G.1 ≤ q) s.heap H locs → sL G.1 M.2.2.1 lv ls →
    W p l e R s m args below meth c H locs B.1 B.2.1 (K.2 G s args below) (F0 m pc ls (st.map (sTr G.1)))
-- contracts
def sQ (G : sG) (Q : Option Value → sH → Prop) : Array Value → State → Outcome → State → Prop := fun _ st oc t => (∃ (r : Option Value) (h' : sH), oc = .returned (r.map (sTr G.1)) ∧ Q r h' ∧ sR G h' t.heap) ∧ va_F (fun q => G.1 ≤ q) st t
def sWs (M : sM) : List Cond := Cond.code M.1 M.2.1 M.2.2.1 M.2.2.2 :: lw_good
def sRm (d mc ms : Nat) : Room := { frames := d, cells := mc, slots := ms, locals := 60 * d }
def sPc (G : sG) (as : List Value) (h : sH) : Array Value → State → Prop := va_Pc (as.map (sTr G.1)) (fun U => sR G h U.heap ∧ sBase G U)
def sCall (l : Launch) (M : sM) (d mc ms : Nat) (as : List Value) (h : sH) (Q : Option Value → sH → Prop) : Prop :=
  ∀ G : sG, Met l M.1 (sWs M) (sRm d mc ms) (sPc G as h) (sQ G Q) mc ms (fun q => G.1 ≤ q)
/-- a method's own end: what it answers, and the heap behind it -/
def sKm (mc ms : Nat) (Q : Option Value → sH → Prop) : sK := (fun _ _ _ _ => True, fun G s args below => MQ below (sQ G Q) args s mc ms (fun q => G.1 ≤ q))
def sArgs : List Value → List (Option Value)
  | [] => []
  | v :: vs => if v.category = 2 then some v :: none :: sArgs vs else some v :: sArgs vs
theorem sArgs_mem (b : Nat) (vs : List Value) (k : Nat) (i : Nat) (v : Value) (h : (sArgs vs)[i]? = some (some v)) : (k + i, sTr b v) ∈ lv_args k (vs.map (sTr b)) := by
  induction vs generalizing k i with
  | nil => simp [sArgs] at h
  | cons w vs ih =>
    rw [List.map_cons, lv_args]
    unfold sArgs at h
    rw [sTr_cat]
    split at h
    · rename_i hc
      rw [if_pos hc]
      match i with
      | 0 => cases h; exact List.mem_cons_self
      | 1 => cases h
      | i + 2 =>
        have h' : (sArgs vs)[i]? = some (some v) := h
        have := ih (k + 2) i h'
        rw [show k + (i + 2) = k + 2 + i by omega]
        exact List.mem_cons_of_mem _ this
    · rename_i hc
      rw [if_neg hc]
      match i with
      | 0 => cases h; exact List.mem_cons_self
      | i + 1 =>
        have h' : (sArgs vs)[i]? = some (some v) := h
        have := ih (k + 1) i h'
        rw [show k + (i + 1) = k + 1 + i by omega]
        exact List.mem_cons_of_mem _ this
theorem sLg_len (b : Nat) (vs : List Value) : (lg_sl (vs.map (sTr b))).length = (sArgs vs).length := by
  induction vs with
  | nil => rfl
  | cons v vs ih =>
    have : lg_sl ((v :: vs).map (sTr b)) = (if (sTr b v).category = 2 then [.val (sTr b v), .second] else [.val (sTr b v)]) ++ lg_sl (vs.map (sTr b)) := rfl
    rw [this, sTr_cat]
    unfold sArgs
    split <;> simp [ih]
theorem sArgs_pad {as : List Value} {n i : Nat} {v : Value} (h : (sArgs as ++ List.replicate n none)[i]? = some (some v)) : (sArgs as)[i]? = some (some v) := by
  rw [List.getElem?_append] at h
  split at h
  · exact h
  · rw [List.getElem?_replicate] at h
    split at h <;> cases h
theorem sCall_of {l : Launch} {M : sM} {d mc ms : Nat} {as : List Value} {h : sH} {Q : Option Value → sH → Prop} (n : Nat) (hpl : plainName M.1.cls = true) (hle : (sArgs as).length ≤ M.2.2.1)
    (k : sEv l M d (0, 0, mc, ms) (sKm mc ms Q) 0 (sArgs as ++ List.replicate n none) [] h) : sCall l M d mc ms as h Q := by
  intro G
  refine Met.ofW (cc := M.2.1) (maxL := M.2.2.1) (ret := M.2.2.2) hpl rfl ?_
  intro p e s m args below meth c s₁ B hml hv
  obtain ⟨rfl, hR, hB⟩ := hv
  have hts := atoms_spec (ws := sWs M) B.pre
  have hl := lv_entry (as.map (sTr G.1)) (n := M.2.2.1) (by rw [sLg_len]; exact hle)
  rw [lg_entry_eq]
  refine k G p e (sRm d mc ms) s m _ below meth c s.heap [] _ ⟨B.exec, B.bytes, hml, B.returns, B.notSynchronized, findClass_of_methodNamed B.named, fun hi => ?_, fun w hw => hts w (List.mem_cons_of_mem _ hw), hB, ⟨Nat.le_refl _, Nat.le_refl _, Nat.le_refl _, Nat.le_refl _⟩, ?_, trivial⟩ hR va_S.rf ⟨hl.1, hl.2.1, fun q hq => ?_⟩
  · exact (name_of_methodNamed B.named B.method).1.trans hi
  · rw [hR.2.1]; exact Nat.le_add_right _ _
  · obtain ⟨w, h1, h2⟩ := sLv_mem.mp hq
    have h3 := sArgs_mem G.1 as 0 q.1 w (sArgs_pad h1)
    rw [Nat.zero_add, ← h2] at h3
    exact hl.2.2 q h3
