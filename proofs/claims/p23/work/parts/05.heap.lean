/-! ===== rules of the heap, of calls and of ends ===== -/
/-- a field by its place in the constant pool of 'own': field k of class ci -/
def sFL (own : String) (idx ci k : Nat) (fin : Bool) (ty : FieldType) : Prop := ∃ (C : String) (T : u_T) (N : Nat) (ty0 : Nat → FieldType), vwCl[ci]? = some (C, T, N) ∧ k < N ∧ Cond.fieldLink own idx (T k).1 (T k).2.1 (T k).2.2.1 ∈ lw_good ∧ (∀ w ∈ u_ws C T N, w ∈ lw_good) ∧ ty0 k = ty ∧ (T k).2.2.2 = fin ∧ (T k).1 = own ∧
  (∀ j, j < N → parseFieldDescriptor (T j).2.2.1 = some (ty0 j)) ∧ (∀ a, a < N → ∀ b, b < N → a ≠ b → (T a).2.1 ≠ (T b).2.1)
theorem vwCl_99 : vwCl[99]? = none := rfl
theorem sJ_obj {ci : Nat} {fs : List Value} {q : vw_C} (hq : vwCl[ci]? = some q) : (.inr (.inr (ci, fs)) : sC) ≠ sJ := by
  intro e
  have : ci = 99 := (Prod.mk.inj (Sum.inr.inj (Sum.inr.inj e))).1
  rw [this, vwCl_99] at hq
  cases hq
theorem sJ_arr {x : Nat × Nat × (Nat → Int32)} : (.inl x : sC) ≠ sJ := fun e => by cases e
theorem sJ_arq {x : Nat × Nat × (Nat → Option Nat)} : (.inr (.inl x) : sC) ≠ sJ := fun e => by cases (Sum.inr.inj e)
section HEAP
variable {l : Launch} {M : sM} {d : Nat} {B : sB} {K : sK} {pc p' : Nat} {lv : List (Option Value)} {st : List Value} {h : sH}
theorem e_getfield {idx ci k a : Nat} {fin : Bool} {ty : FieldType} {fs : List Value} {v : Value} (hd : decode M.2.1 pc = .ok (.getfield idx, 3)) (F : sFL M.1.cls idx ci k fin ty) (hc : h.2 a = .inr (.inr (ci, fs))) (hv : fs[k]? = some v) (hp : pc + 3 = p') (kk : sEv l M d B K p' lv (v :: st) h) : sEv l M d B K pc lv (.ref a :: st) h := by
  subst hp
  intro G p e R s m args below meth c H locs ls C hR hS hL
  have k2 := kk G p e R s m args below meth c H locs ls C hR hS hL
  obtain ⟨hx, hb, hml, hrt, hlk, hown, hin, hts, hB, hrm, hG, hK⟩ := C
  obtain ⟨Cn, T, N, ty0, h1, h2, h3, h4, h5, h6, h7, h8, h9⟩ := F
  have ha : a < h.1 := sR_lt hR (by rw [hc]; exact sJ_obj h1)
  exact va_get (D := G.2.1) (Ts := lw_good) hx hb hts h4 hown hB.1 hR.1 a (by rw [sW_get ha, hc]; rfl) h1 k h2 (hts _ h3) (fun _ h => h) (by simp [hv]) hd k2
theorem e_putfield {idx ci k a : Nat} {fin : Bool} {ty : FieldType} {fs fs' : List Value} {v : Value} (hd : decode M.2.1 pc = .ok (.putfield idx, 3)) (F : sFL M.1.cls idx ci k fin ty) (hfi : fin = false ∨ M.1.name = "<init>") (hc : h.2 a = .inr (.inr (ci, fs))) (hty : ∀ b, narrow ty (sTr b v) = sTr b v ∧ fits ty (sTr b v) = true) (hl : k < fs.length) (hfs : fs.set k v = fs') (hp : pc + 3 = p')
    (kk : sEv l M d B K p' lv st (sUp h a (.inr (.inr (ci, fs'))))) : sEv l M d B K pc lv (v :: .ref a :: st) h := by
  subst hp
  subst hfs
  intro G p e R s m args below meth c H locs ls C hR hS hL
  have C0 := C
  obtain ⟨hx, hb, hml, hrt, hlk, hown, hin, hts, hB, hrm, hG, hK⟩ := C
  obtain ⟨Cn, T, N, ty0, h1, h2, h3, h4, h5, h6, h7, h8, h9⟩ := F
  have ha : a < h.1 := sR_lt hR (by rw [hc]; exact sJ_obj h1)
  have he : (sW G h)[a]? = some (G.1 + a, .inr (ci, fs.map (sTr G.1))) := by rw [sW_get ha, hc]; rfl
  have hap := va_apart (own := M.1.cls) hts h4 ty0 h8 h9 hB.1 h1
  obtain ⟨r, g1, cell, q1, q2, q3, q4⟩ := hR.1 a _ he
  have hr : r = (Cn, T, N) := Option.some.inj (g1.symm.trans h1)
  subst hr
  obtain ⟨hSl, hfc, kC, hkC, hkind⟩ := hB.1.1 ci _ h1
  obtain ⟨cf, kf, fi, f, hi, hsl⟩ := hSl k h2
  have hlay := u_lays hts h4 h2
  have hst := (u_facts hfc hkC hlay hi).1
  obtain ⟨hn, hfit⟩ := hty G.1
  have hd2 : parseFieldDescriptor (T k).2.2.1 = some ty := by rw [h8 k h2, h5]
  have go : ∀ H' : Heap, H'[G.1 + a]? = some (cell.setSlot f.slot (sTr G.1 v)) → H'.size = H.size → (∀ q, q ≠ G.1 + a → H'[q]? = H[q]?) → W p l e R s m args below meth c H' (locs ++ [⟨G.1 + a, f.slot⟩]) B.1 B.2.1 (K.2 G s args below) (F0 m (pc + 3) ls (st.map (sTr G.1))) := by
    intro H' e1 e2 e3
    rw [hsl] at e1 ⊢
    refine kk G p e R s m args below meth c H' _ ls C0 (sR_upd hR ha ?_ e2 e3) (hS.put e2 e3 (Nat.le_add_right _ _)) hL
    have e4 : (sE G (.inr (.inr (ci, fs.set k v)))) = .inr (ci, (fs.map (sTr G.1)).set k (sTr G.1 v)) := by
      show (Sum.inr (ci, (fs.set k v).map (sTr G.1)) : va_E) = _
      rw [List.map_set]
    rw [e4]
    exact ⟨_, h1, t_OB.to (V := updV (vp_V (fs.map (sTr G.1))) k (sTr G.1 v)) ⟨_, e1, q2, q3, t_set q4 hap h2 _⟩ (fun j _ => vp_updV_set (by simpa using hl) _ j)⟩
  have hlink : (Cond.fieldLink M.1.cls idx (T k).1 (T k).2.1 (T k).2.2.1).before args s = true := hts _ h3
  by_cases hf : (T k).2.2.2 = true
  · have hin2 : meth.name = "<init>" := by
      rcases hfi with z | z
      · rw [← h6, hf] at z; cases z
      · exact hin z
    have hlayF := hts _ (h4 _ (u_in_lay h2))
    unfold u_lay at hlayF
    rw [if_pos hf] at hlayF
    have hcf : m.cls = cf := by
      obtain ⟨_, _, c', _, _, _, -, -, hf', -, -, -, hown2, -⟩ := Cond.laysFinal_spec hlayF
      have e1 : c' = cf := by have := hi.symm.trans hf'; simp at this; exact this.1.symm
      rw [h7] at hown2
      rw [← e1]; exact Option.some.inj (hown.symm.trans hown2)
    have h6' := u_fits hfc hkC hkind (Or.inr hlayF) hi hd2 hn hfit
    exact W.putFinK hx hb hown hlink hi hst hcf hin2 (by rw [q2]; exact h6') q1 q3 (by rw [hsl]; exact k2_hasslot (q4 k h2)) rfl rfl hd go
  · have hlayN := hts _ (h4 _ (u_in_lay h2))
    unfold u_lay at hlayN
    rw [if_neg hf] at hlayN
    have h6' := u_store hfc hkC hkind hlayN hi hd2 hn hfit
    exact W.putK hx hb (f := f) ⟨hown, hlink, ⟨_, _, _, hi⟩, hst⟩ (by rw [q2]; exact h6') q1 q3 (by rw [hsl]; exact k2_hasslot (q4 k h2)) rfl rfl hd go
theorem sIn {i n : Nat} (hi : i < n) (hn : n < 2 ^ 31) : vp_in (nI i) n := vp_in_nI hi hn
theorem e_iaload {a i n : Nat} {f : Nat → Int32} {x : Int32} (hd : decode M.2.1 pc = .ok (.iaload, 1)) (hc : h.2 a = .inl (0, n, f)) (hi : i < n) (hn : n < 2 ^ 31) (hx : f i = x) (hp : pc + 1 = p') (kk : sEv l M d B K p' lv (.int x :: st) h) : sEv l M d B K pc lv (.int (nI i) :: .ref a :: st) h := by
  subst hp
  subst hx
  intro G p e R s m args below meth c H locs ls C hR hS hL
  have k2 := kk G p e R s m args below meth c H locs ls C hR hS hL
  have ha : a < h.1 := sR_lt hR (by rw [hc]; exact sJ_arr)
  have hcl : (nI i).toNatClampNeg = i := nI_clamp (by omega)
  refine va_iald C.1 C.2.1 C.2.2.2.2.2.2.2.2.1.1 hR.1 a 0 (f := f) (n := n) (cA := G.2.2 0) (by rw [sW_get ha, hc]; rfl) rfl (sIn hi hn) hd ?_
  rw [hcl]
  exact k2
theorem e_aaload {a i n t r : Nat} {f : Nat → Option Nat} (hd : decode M.2.1 pc = .ok (.aaload, 1)) (ht : t = 3 ∨ t = 4) (hc : h.2 a = .inr (.inl (t, n, f))) (hi : i < n) (hn : n < 2 ^ 31) (hx : f i = some r) (hp : pc + 1 = p') (kk : sEv l M d B K p' lv (.ref r :: st) h) : sEv l M d B K pc lv (.int (nI i) :: .ref a :: st) h := by
  subst hp
  intro G p e R s m args below meth c H locs ls C hR hS hL
  have k2 := kk G p e R s m args below meth c H locs ls C hR hS hL
  have ha : a < h.1 := sR_lt hR (by rw [hc]; exact sJ_arq)
  have hcl : (nI i).toNatClampNeg = i := nI_clamp (by omega)
  have he : (sW G h)[a]? = some (G.1 + a, .inl (G.2.2 t, n, .inr (.inr (.inr (.inr (fun j => (f j).map (fun a => G.1 + a))))))) := by rw [sW_get ha, hc]; rfl
  rcases ht with rfl | rfl
  · refine va_aldq C.1 C.2.1 C.2.2.2.2.2.2.2.2.1.1 hR.1 a 3 (C := "OneRankGrid$Grid") he rfl (sIn hi hn) hd ?_
    rw [hcl, hx]
    exact k2
  · refine va_aldq C.1 C.2.1 C.2.2.2.2.2.2.2.2.1.1 hR.1 a 4 (C := "OneRankGrid$Slot") he rfl (sIn hi hn) hd ?_
    rw [hcl, hx]
    exact k2
theorem e_alen {a n t : Nat} {f : Nat → Int32} (hd : decode M.2.1 pc = .ok (.arraylength, 1)) (hc : h.2 a = .inl (t, n, f)) (ht : t < 5) (hp : pc + 1 = p') (kk : sEv l M d B K p' lv (.int (nI n) :: st) h) : sEv l M d B K pc lv (.ref a :: st) h := by
  subst hp
  intro G p e R s m args below meth c H locs ls C hR hS hL
  have k2 := kk G p e R s m args below meth c H locs ls C hR hS hL
  have ha : a < h.1 := sR_lt hR (by rw [hc]; exact sJ_arr)
  exact va_alen C.1 C.2.1 C.2.2.2.2.2.2.2.2.1.1 hR.1 a t (x := (n, .inl f)) (cA := G.2.2 t) (by rw [sW_get ha, hc]; rfl) (sTys_get G ht) rfl hd k2
theorem e_alenq {a n t : Nat} {f : Nat → Option Nat} (hd : decode M.2.1 pc = .ok (.arraylength, 1)) (hc : h.2 a = .inr (.inl (t, n, f))) (ht : t < 5) (hp : pc + 1 = p') (kk : sEv l M d B K p' lv (.int (nI n) :: st) h) : sEv l M d B K pc lv (.ref a :: st) h := by
  subst hp
  intro G p e R s m args below meth c H locs ls C hR hS hL
  have k2 := kk G p e R s m args below meth c H locs ls C hR hS hL
  have ha : a < h.1 := sR_lt hR (by rw [hc]; exact sJ_arq)
  exact va_alen C.1 C.2.1 C.2.2.2.2.2.2.2.2.1.1 hR.1 a t (x := (n, .inr (.inr (.inr (.inr (fun j => (f j).map (fun a => G.1 + a))))))) (cA := G.2.2 t) (by rw [sW_get ha, hc]; rfl) (sTys_get G ht) rfl hd k2
theorem sUpd_arr {cA : ClassId} {n i : Nat} {f : Nat → Int32} {x : Int32} : arrV cA n (updV (fun j => .int (f j)) i (.int x)) = vp_cell cA (n, .inl (upd f i x)) := by
  rw [vp_cell_i]
  congr 1
  funext q
  by_cases hq : q = i
  · subst hq
    simp [updV, upd]
  · simp [updV, upd, hq]
theorem e_iastore {a i n : Nat} {f : Nat → Int32} {x : Int32} (hd : decode M.2.1 pc = .ok (.iastore, 1)) (hc : h.2 a = .inl (0, n, f)) (hi : i < n) (hn : n < 2 ^ 31) (hp : pc + 1 = p') (kk : sEv l M d B K p' lv st (sUp h a (.inl (0, n, upd f i x)))) : sEv l M d B K pc lv (.int x :: .int (nI i) :: .ref a :: st) h := by
  subst hp
  intro G p e R s m args below meth c H locs ls C hR hS hL
  have ha : a < h.1 := sR_lt hR (by rw [hc]; exact sJ_arr)
  have hcl : (nI i).toNatClampNeg = i := nI_clamp (by omega)
  have he : (sW G h)[a]? = some (G.1 + a, .inl (G.2.2 0, n, .inl f)) := by rw [sW_get ha, hc]; rfl
  refine W.iast C.1 C.2.1 (hR.1 a _ he) ((C.2.2.2.2.2.2.2.2.1.1.2 0 _ rfl).1 n (fun j => .int (f j))) (fun q => by cases q) (by show ¬ (nI i < 0 ∨ (arrV _ _ _).slots.size ≤ _); rw [arrV_size]; exact sIn hi hn) rfl rfl hd fun H1 e1 z oq => ?_
  refine kk G p e R s m args below meth c H1 _ ls C (sR_upd hR ha ?_ z oq) (hS.put z oq (Nat.le_add_right _ _)) hL
  show H1[G.1 + a]? = some (vp_cell (G.2.2 0) (n, .inl (upd f i x)))
  rw [e1, ← sUpd_arr, hcl]
  exact congrArg some (arrV_store _ _ _ _ _)
theorem e_aastore {a i n t r ci : Nat} {f : Nat → Option Nat} {fs : List Value} {Cn : String} {T : u_T} {N : Nat} (hd : decode M.2.1 pc = .ok (.aastore, 1)) (ht : t < 5) (hty : sTyOf t = .object Cn) (hc : h.2 a = .inr (.inl (t, n, f))) (hr : h.2 r = .inr (.inr (ci, fs))) (hcl : vwCl[ci]? = some (Cn, T, N)) (hi : i < n) (hn : n < 2 ^ 31) (hp : pc + 1 = p') (kk : sEv l M d B K p' lv st (sUp h a (.inr (.inl (t, n, va_up f i (some r)))))) : sEv l M d B K pc lv (.ref r :: .int (nI i) :: .ref a :: st) h := by
  subst hp
  intro G p e R s m args below meth c H locs ls C hR hS hL
  have ha : a < h.1 := sR_lt hR (by rw [hc]; exact sJ_arq)
  have hr1 : r < h.1 := sR_lt hR (by rw [hr]; exact sJ_obj hcl)
  have hci : (nI i).toNatClampNeg = i := nI_clamp (by omega)
  have he : (sW G h)[a]? = some (G.1 + a, .inl (G.2.2 t, n, .inr (.inr (.inr (.inr (fun j => (f j).map (fun a => G.1 + a))))))) := by rw [sW_get ha, hc]; rfl
  have hv : (sW G h)[r]? = some (G.1 + r, .inr (ci, fs.map (sTr G.1))) := by rw [sW_get hr1, hr]; rfl
  have hB := C.2.2.2.2.2.2.2.2.1.1
  have htt : (sTys G)[t]? = some (G.2.2 t, .object Cn) := by rw [sTys_get G ht, hty]
  have hlt : i < n := hi
  obtain ⟨r', hr', cellV, g1, g2, g3, -⟩ := hR.1 r _ hv
  have hcls := (hB.1 ci _ hcl).2
  obtain ⟨kA, comp, k1, k2, k3, -⟩ := (hB.2 t _ htt).2
  have hcomp : comp = G.2.1.1 ci := Option.some.inj (k3.symm.trans hcls.1)
  subst hcomp
  obtain ⟨kC, hkC, -⟩ := hcls.2
  refine W.aast C.1 C.2.1 (hR.1 a _ he) (fun q h => by cases h) (fun h => by cases h) k1 k2 rfl hkC ⟨nI_pos (by omega), by show _ < (arrV _ _ _).slots.size; rw [arrV_size, hci]; exact hlt⟩ g1 (fun q h => by rw [g3] at h; cases h) (by rw [g2]; exact hkC) (by rw [g2]; exact va_assign hcls) rfl rfl hd fun H1 e1 z oq => ?_
  refine kk G p e R s m args below meth c H1 _ ls C (sR_upd hR ha ?_ z oq) (hS.put z oq (Nat.le_add_right _ _)) hL
  show H1[G.1 + a]? = some (vp_cell (G.2.2 t) (n, .inr (.inr (.inr (.inr (fun j => (va_up f i (some r) j).map (fun a => G.1 + a)))))))
  rw [e1, vp_cell_q, vp_cell_q, arrV_store, hci]
  congr 2
  funext q
  by_cases hq : q = i
  · subst hq
    simp [updV, va_up, va_rf]
  · simp [updV, va_up, hq]
end HEAP
