/-! ===== the rules: one an instruction ===== -/
theorem nI_subN {a b : Nat} (h : b ≤ a) : nI a - nI b = nI (a - b) := pk_sub h
theorem sI_zero : (0 : Int32) = nI 0 := rfl
def sBo : Bool → Int32
  | true => nI 1
  | false => nI 0
theorem sBo_0 {b : Bool} : sBo b = 0 ↔ b = false := by cases b <;> decide
def sN1 : Option Value → Bool
  | some (.long _) => false
  | some (.double _) => false
  | _ => true
theorem sN1_ok {lv : List (Option Value)} {j : Nat} {o : Option Value} (hj : lv[j]? = some o) (h : sN1 o = true) : sNoL lv (j + 1) := by
  intro k v hk hv
  have hk' : k = j := by omega
  subst hk'
  rw [hj] at hv
  have ho : o = some v := Option.some.inj hv
  rw [ho] at h
  cases v <;> first | rfl | cases h
theorem sNoL_0 {lv : List (Option Value)} : sNoL lv 0 := fun j _ h => absurd h (by omega)
section RULES
variable {l : Launch} {M : sM} {d : Nat} {B : sB} {K : sK} {pc p' : Nat} {lv : List (Option Value)} {st : List Value} {h : sH}
theorem e_of {q : Nat} {st' : List Value} (f : ∀ (b : Nat) (p : Program) (e : Env) (R : Room) (s : State) (m : MethodId) (args : Array Value) (below : List Frame) (meth : Method) (c : Code) (H : Heap) (locs : List Loc) (ls : Array Slot) (cells slots : Nat) (Q : State → Prop), p.tables.exec = Jvm.exec → c.code = M.2.1 →
    W p l e R s m args below meth c H locs cells slots Q (F0 m q ls (st'.map (sTr b))) → W p l e R s m args below meth c H locs cells slots Q (F0 m pc ls (st.map (sTr b)))) (kk : sEv l M d B K q lv st' h) : sEv l M d B K pc lv st h := by
  intro G p e R s m args below meth c H locs ls C hR hS hL
  exact f G.1 p e R s m args below meth c H locs ls _ _ _ C.1 C.2.1 (kk G p e R s m args below meth c H locs ls C hR hS hL)
theorem e_ld {q i : Nat} {v : Value} (hi : lv[i]? = some (some v)) (f : ∀ (b : Nat) (p : Program) (e : Env) (R : Room) (s : State) (m : MethodId) (args : Array Value) (below : List Frame) (meth : Method) (c : Code) (H : Heap) (locs : List Loc) (ls : Array Slot) (cells slots : Nat) (Q : State → Prop), p.tables.exec = Jvm.exec → c.code = M.2.1 → ls[i]? = some (.val (sTr b v)) →
    W p l e R s m args below meth c H locs cells slots Q (F0 m q ls ((v :: st).map (sTr b))) → W p l e R s m args below meth c H locs cells slots Q (F0 m pc ls (st.map (sTr b)))) (kk : sEv l M d B K q lv (v :: st) h) : sEv l M d B K pc lv st h := by
  intro G p e R s m args below meth c H locs ls C hR hS hL
  exact f G.1 p e R s m args below meth c H locs ls _ _ _ C.1 C.2.1 (sL_at hL hi) (kk G p e R s m args below meth c H locs ls C hR hS hL)
theorem e_st1 {q i : Nat} {v : Value} (hno : sNoL lv i) (f : ∀ (b : Nat) (p : Program) (e : Env) (R : Room) (s : State) (m : MethodId) (args : Array Value) (below : List Frame) (meth : Method) (c : Code) (H : Heap) (locs : List Loc) (ls : Array Slot) (cells slots : Nat) (Q : State → Prop), p.tables.exec = Jvm.exec → c.code = M.2.1 → lv_has ls M.2.2.1 (sLv b lv) →
    (∀ ls' : Array Slot, lv_has ls' M.2.2.1 ((i, sTr b v) :: (sLv b lv).filter (fun q => !(q.1 == i) && !(q.1 + 1 == i && q.2.category == 2))) → W p l e R s m args below meth c H locs cells slots Q (F0 m q ls' (st.map (sTr b)))) → W p l e R s m args below meth c H locs cells slots Q (F0 m pc ls ((v :: st).map (sTr b)))) (kk : sEv l M d B K q (lv.set i (some v)) st h) : sEv l M d B K pc lv (v :: st) h := by
  intro G p e R s m args below meth c H locs ls C hR hS hL
  exact f G.1 p e R s m args below meth c H locs ls _ _ _ C.1 C.2.1 hL (fun ls' hl' => kk G p e R s m args below meth c H locs ls' C hR hS (sL_set1 hno hl'))
theorem e_st2 {q i : Nat} {v : Value} (hno : sNoL lv i) (f : ∀ (b : Nat) (p : Program) (e : Env) (R : Room) (s : State) (m : MethodId) (args : Array Value) (below : List Frame) (meth : Method) (c : Code) (H : Heap) (locs : List Loc) (ls : Array Slot) (cells slots : Nat) (Q : State → Prop), p.tables.exec = Jvm.exec → c.code = M.2.1 → lv_has ls M.2.2.1 (sLv b lv) →
    (∀ ls' : Array Slot, lv_has ls' M.2.2.1 ((i, sTr b v) :: (sLv b lv).filter (fun q => !(q.1 == i) && (!(q.1 == i + 1) && !(q.1 + 1 == i && q.2.category == 2)))) → W p l e R s m args below meth c H locs cells slots Q (F0 m q ls' (st.map (sTr b)))) → W p l e R s m args below meth c H locs cells slots Q (F0 m pc ls ((v :: st).map (sTr b)))) (kk : sEv l M d B K q ((lv.set i (some v)).set (i + 1) none) st h) : sEv l M d B K pc lv (v :: st) h := by
  intro G p e R s m args below meth c H locs ls C hR hS hL
  exact f G.1 p e R s m args below meth c H locs ls _ _ _ C.1 C.2.1 hL (fun ls' hl' => kk G p e R s m args below meth c H locs ls' C hR hS (sL_set2 hno hl'))
theorem e_inc {q i : Nat} {x : Int32} {v : Int32} (hi : lv[i]? = some (some (.int x))) (hno : sNoL lv i) (f : ∀ (b : Nat) (p : Program) (e : Env) (R : Room) (s : State) (m : MethodId) (args : Array Value) (below : List Frame) (meth : Method) (c : Code) (H : Heap) (locs : List Loc) (ls : Array Slot) (cells slots : Nat) (Q : State → Prop) (k : Nat), p.tables.exec = Jvm.exec → c.code = M.2.1 → lv_has ls M.2.2.1 (sLv b lv) → (sLv b lv)[k]? = some (i, .int x) →
    (∀ ls' : Array Slot, lv_has ls' M.2.2.1 ((i, .int v) :: (sLv b lv).filter (fun q => !(q.1 == i) && !(q.1 + 1 == i && q.2.category == 2))) → W p l e R s m args below meth c H locs cells slots Q (F0 m q ls' (st.map (sTr b)))) → W p l e R s m args below meth c H locs cells slots Q (F0 m pc ls (st.map (sTr b)))) (kk : sEv l M d B K q (lv.set i (some (.int v))) st h) : sEv l M d B K pc lv st h := by
  intro G p e R s m args below meth c H locs ls C hR hS hL
  obtain ⟨k, hk⟩ := List.getElem?_of_mem (sLv_mem (b := G.1) (q := (i, .int x)).mpr ⟨.int x, hi, rfl⟩)
  exact f G.1 p e R s m args below meth c H locs ls _ _ _ k C.1 C.2.1 hL hk (fun ls' hl' => kk G p e R s m args below meth c H locs ls' C hR hS (sL_set1 (v := .int v) hno hl'))

theorem e_iconst {n : Int} {v : Int32} (hd : decode M.2.1 pc = .ok (.iconst n, 1)) (hv : Int32.ofInt n = v) (hp : pc + 1 = p') (kk : sEv l M d B K p' lv (.int v :: st) h) : sEv l M d B K pc lv (st) h := by
  subst hp
  exact e_of (fun b p e R s m args below meth c H locs ls cells slots Q hx hb k => lv_iconst hx hb hd hv k) kk
theorem e_bipush {n : Int} {v : Int32} (hd : decode M.2.1 pc = .ok (.bipush n, 2)) (hv : (Int8.ofInt n).toInt32 = v) (hp : pc + 2 = p') (kk : sEv l M d B K p' lv (.int v :: st) h) : sEv l M d B K pc lv (st) h := by
  subst hp
  exact e_of (fun b p e R s m args below meth c H locs ls cells slots Q hx hb k => lv_bipush hx hb hd hv k) kk
theorem e_sipush {n : Int} {v : Int32} (hd : decode M.2.1 pc = .ok (.sipush n, 3)) (hv : (Int16.ofInt n).toInt32 = v) (hp : pc + 3 = p') (kk : sEv l M d B K p' lv (.int v :: st) h) : sEv l M d B K pc lv (st) h := by
  subst hp
  exact e_of (fun b p e R s m args below meth c H locs ls cells slots Q hx hb k => lv_sipush hx hb hd hv k) kk
theorem e_lconst {n : Fin 2} {v : Int64} (hd : decode M.2.1 pc = .ok (.lconst n, 1)) (hv : Int64.ofNat (n : Nat) = v) (hp : pc + 1 = p') (kk : sEv l M d B K p' lv (.long v :: st) h) : sEv l M d B K pc lv (st) h := by
  subst hp
  exact e_of (fun b p e R s m args below meth c H locs ls cells slots Q hx hb k => lv_lconst hx hb hd hv k) kk
theorem e_aconst_null (hd : decode M.2.1 pc = .ok (.aconst_null, 1)) (hp : pc + 1 = p') (kk : sEv l M d B K p' lv (.null :: st) h) : sEv l M d B K pc lv (st) h := by
  subst hp
  exact e_of (fun b p e R s m args below meth c H locs ls cells slots Q hx hb k => lv_null hx hb hd k) kk
theorem e_dup {v : Value} (hd : decode M.2.1 pc = .ok (.dup, 1)) (hv : v.category = 1) (hp : pc + 1 = p') (kk : sEv l M d B K p' lv (v :: v :: st) h) : sEv l M d B K pc lv (v :: st) h := by
  subst hp
  exact e_of (fun b p e R s m args below meth c H locs ls cells slots Q hx hb k => lv_dup hx hb hd (by rw [sTr_cat]; exact hv) k) kk
theorem e_dup2 {v w : Value} (hd : decode M.2.1 pc = .ok (.dup2, 1)) (hv : v.category = 1) (hw : w.category = 1) (hp : pc + 1 = p') (kk : sEv l M d B K p' lv (v :: w :: v :: w :: st) h) : sEv l M d B K pc lv (v :: w :: st) h := by
  subst hp
  exact e_of (fun b p e R s m args below meth c H locs ls cells slots Q hx hb k => lv_dup2_11 hx hb hd (by rw [sTr_cat]; exact hv) (by rw [sTr_cat]; exact hw) k) kk
theorem e_iadd {x y : Int32} (hd : decode M.2.1 pc = .ok (.iadd, 1)) (hp : pc + 1 = p') (kk : sEv l M d B K p' lv (.int (x + y) :: st) h) : sEv l M d B K pc lv (.int y :: .int x :: st) h := by
  subst hp
  exact e_of (fun b p e R s m args below meth c H locs ls cells slots Q hx hb k => lv_iadd hx hb hd k) kk
theorem e_isub {x y : Int32} (hd : decode M.2.1 pc = .ok (.isub, 1)) (hp : pc + 1 = p') (kk : sEv l M d B K p' lv (.int (x - y) :: st) h) : sEv l M d B K pc lv (.int y :: .int x :: st) h := by
  subst hp
  exact e_of (fun b p e R s m args below meth c H locs ls cells slots Q hx hb k => lv_isub hx hb hd k) kk
theorem e_imul {x y : Int32} (hd : decode M.2.1 pc = .ok (.imul, 1)) (hp : pc + 1 = p') (kk : sEv l M d B K p' lv (.int (x * y) :: st) h) : sEv l M d B K pc lv (.int y :: .int x :: st) h := by
  subst hp
  exact e_of (fun b p e R s m args below meth c H locs ls cells slots Q hx hb k => lv_imul hx hb hd k) kk
theorem e_iand {x y : Int32} (hd : decode M.2.1 pc = .ok (.iand, 1)) (hp : pc + 1 = p') (kk : sEv l M d B K p' lv (.int (x &&& y) :: st) h) : sEv l M d B K pc lv (.int y :: .int x :: st) h := by
  subst hp
  exact e_of (fun b p e R s m args below meth c H locs ls cells slots Q hx hb k => lv_iand hx hb hd k) kk
theorem e_ior {x y : Int32} (hd : decode M.2.1 pc = .ok (.ior, 1)) (hp : pc + 1 = p') (kk : sEv l M d B K p' lv (.int (x ||| y) :: st) h) : sEv l M d B K pc lv (.int y :: .int x :: st) h := by
  subst hp
  exact e_of (fun b p e R s m args below meth c H locs ls cells slots Q hx hb k => lv_ior hx hb hd k) kk
theorem e_ixor {x y : Int32} (hd : decode M.2.1 pc = .ok (.ixor, 1)) (hp : pc + 1 = p') (kk : sEv l M d B K p' lv (.int (x ^^^ y) :: st) h) : sEv l M d B K pc lv (.int y :: .int x :: st) h := by
  subst hp
  exact e_of (fun b p e R s m args below meth c H locs ls cells slots Q hx hb k => lv_ixor hx hb hd k) kk
theorem e_ishl {x y : Int32} (hd : decode M.2.1 pc = .ok (.ishl, 1)) (hp : pc + 1 = p') (kk : sEv l M d B K p' lv (.int (x <<< (y &&& 31)) :: st) h) : sEv l M d B K pc lv (.int y :: .int x :: st) h := by
  subst hp
  exact e_of (fun b p e R s m args below meth c H locs ls cells slots Q hx hb k => lv_ishl hx hb hd k) kk
theorem e_ishr {x y : Int32} (hd : decode M.2.1 pc = .ok (.ishr, 1)) (hp : pc + 1 = p') (kk : sEv l M d B K p' lv (.int (x >>> (y &&& 31)) :: st) h) : sEv l M d B K pc lv (.int y :: .int x :: st) h := by
  subst hp
  exact e_of (fun b p e R s m args below meth c H locs ls cells slots Q hx hb k => lv_ishr hx hb hd k) kk
theorem e_iushr {x y v : Int32} (hd : decode M.2.1 pc = .ok (.iushr, 1)) (hv : (x.toUInt32 >>> (y.toUInt32 &&& Int32.toUInt32 31)).toInt32 = v) (hp : pc + 1 = p') (kk : sEv l M d B K p' lv (.int v :: st) h) : sEv l M d B K pc lv (.int y :: .int x :: st) h := by
  subst hp
  exact e_of (fun b p e R s m args below meth c H locs ls cells slots Q hx hb k => lv_iushr hx hb hd hv k) kk
theorem e_idiv {x y : Int32} (hd : decode M.2.1 pc = .ok (.idiv, 1)) (hne : ¬ y = 0) (hp : pc + 1 = p') (kk : sEv l M d B K p' lv (.int (x / y) :: st) h) : sEv l M d B K pc lv (.int y :: .int x :: st) h := by
  subst hp
  exact e_of (fun b p e R s m args below meth c H locs ls cells slots Q hx hb k => lv_idiv hx hb hd hne k) kk
theorem e_irem {x y : Int32} (hd : decode M.2.1 pc = .ok (.irem, 1)) (hne : ¬ y = 0) (hp : pc + 1 = p') (kk : sEv l M d B K p' lv (.int (x - x / y * y) :: st) h) : sEv l M d B K pc lv (.int y :: .int x :: st) h := by
  subst hp
  exact e_of (fun b p e R s m args below meth c H locs ls cells slots Q hx hb k => lv_irem hx hb hd hne k) kk
theorem e_lmul {x y : Int64} (hd : decode M.2.1 pc = .ok (.lmul, 1)) (hp : pc + 1 = p') (kk : sEv l M d B K p' lv (.long (x * y) :: st) h) : sEv l M d B K pc lv (.long y :: .long x :: st) h := by
  subst hp
  exact e_of (fun b p e R s m args below meth c H locs ls cells slots Q hx hb k => lv_lmul hx hb hd k) kk
theorem e_land {x y : Int64} (hd : decode M.2.1 pc = .ok (.land, 1)) (hp : pc + 1 = p') (kk : sEv l M d B K p' lv (.long (x &&& y) :: st) h) : sEv l M d B K pc lv (.long y :: .long x :: st) h := by
  subst hp
  exact e_of (fun b p e R s m args below meth c H locs ls cells slots Q hx hb k => lv_land hx hb hd k) kk
theorem e_lor {x y : Int64} (hd : decode M.2.1 pc = .ok (.lor, 1)) (hp : pc + 1 = p') (kk : sEv l M d B K p' lv (.long (x ||| y) :: st) h) : sEv l M d B K pc lv (.long y :: .long x :: st) h := by
  subst hp
  exact e_of (fun b p e R s m args below meth c H locs ls cells slots Q hx hb k => lv_lor hx hb hd k) kk
theorem e_ldiv {x y : Int64} (hd : decode M.2.1 pc = .ok (.ldiv, 1)) (hne : ¬ y = 0) (hp : pc + 1 = p') (kk : sEv l M d B K p' lv (.long (x / y) :: st) h) : sEv l M d B K pc lv (.long y :: .long x :: st) h := by
  subst hp
  exact e_of (fun b p e R s m args below meth c H locs ls cells slots Q hx hb k => lv_ldiv hx hb hd hne k) kk
theorem e_lrem {x y : Int64} (hd : decode M.2.1 pc = .ok (.lrem, 1)) (hne : ¬ y = 0) (hp : pc + 1 = p') (kk : sEv l M d B K p' lv (.long (x - x / y * y) :: st) h) : sEv l M d B K pc lv (.long y :: .long x :: st) h := by
  subst hp
  exact e_of (fun b p e R s m args below meth c H locs ls cells slots Q hx hb k => lv_lrem hx hb hd hne k) kk
theorem e_lushr {x v : Int64} {y : Int32} (hd : decode M.2.1 pc = .ok (.lushr, 1)) (hv : (x.toUInt64 >>> (y.toInt64.toUInt64 &&& Int64.toUInt64 63)).toInt64 = v) (hp : pc + 1 = p') (kk : sEv l M d B K p' lv (.long v :: st) h) : sEv l M d B K pc lv (.int y :: .long x :: st) h := by
  subst hp
  exact e_of (fun b p e R s m args below meth c H locs ls cells slots Q hx hb k => lv_lushr hx hb hd hv k) kk
theorem e_lshl {x v : Int64} {y : Int32} (hd : decode M.2.1 pc = .ok (.lshl, 1)) (hv : x <<< (y.toInt64 &&& 63) = v) (hp : pc + 1 = p') (kk : sEv l M d B K p' lv (.long v :: st) h) : sEv l M d B K pc lv (.int y :: .long x :: st) h := by
  subst hp
  exact e_of (fun b p e R s m args below meth c H locs ls cells slots Q hx hb k => lv_lshl hx hb hd hv k) kk
theorem e_i2l {x : Int32} {v : Int64} (hd : decode M.2.1 pc = .ok (.i2l, 1)) (hv : x.toInt64 = v) (hp : pc + 1 = p') (kk : sEv l M d B K p' lv (.long v :: st) h) : sEv l M d B K pc lv (.int x :: st) h := by
  subst hp
  exact e_of (fun b p e R s m args below meth c H locs ls cells slots Q hx hb k => lv_i2l hx hb hd hv k) kk
theorem e_l2i {x : Int64} {v : Int32} (hd : decode M.2.1 pc = .ok (.l2i, 1)) (hv : x.toInt32 = v) (hp : pc + 1 = p') (kk : sEv l M d B K p' lv (.int v :: st) h) : sEv l M d B K pc lv (.long x :: st) h := by
  subst hp
  exact e_of (fun b p e R s m args below meth c H locs ls cells slots Q hx hb k => lv_l2i hx hb hd hv k) kk
theorem e_i2c {x v : Int32} (hd : decode M.2.1 pc = .ok (.i2c, 1)) (hv : (x.toUInt32 % 65536).toInt32 = v) (hp : pc + 1 = p') (kk : sEv l M d B K p' lv (.int v :: st) h) : sEv l M d B K pc lv (.int x :: st) h := by
  subst hp
  exact e_of (fun b p e R s m args below meth c H locs ls cells slots Q hx hb k => lv_i2c hx hb hd hv k) kk
theorem e_lcmp {x y : Int64} (hd : decode M.2.1 pc = .ok (.lcmp, 1)) (hp : pc + 1 = p') (kk : sEv l M d B K p' lv (.int (lg_cmp x y) :: st) h) : sEv l M d B K pc lv (.long y :: .long x :: st) h := by
  subst hp
  exact e_of (fun b p e R s m args below meth c H locs ls cells slots Q hx hb k => W.lcmp hx hb hd k) kk
theorem e_iaddN {a b : Nat} (hd : decode M.2.1 pc = .ok (.iadd, 1)) (hp : pc + 1 = p') (kk : sEv l M d B K p' lv (.int (nI (a + b)) :: st) h) : sEv l M d B K pc lv (.int (nI b) :: .int (nI a) :: st) h := e_iadd hd hp (by rw [nI_add]; exact kk)
theorem e_imulN {a b : Nat} (hd : decode M.2.1 pc = .ok (.imul, 1)) (hp : pc + 1 = p') (kk : sEv l M d B K p' lv (.int (nI (a * b)) :: st) h) : sEv l M d B K pc lv (.int (nI b) :: .int (nI a) :: st) h := e_imul hd hp (by rw [pk_mul]; exact kk)
theorem e_isubN {a b : Nat} (hd : decode M.2.1 pc = .ok (.isub, 1)) (hab : b ≤ a) (hp : pc + 1 = p') (kk : sEv l M d B K p' lv (.int (nI (a - b)) :: st) h) : sEv l M d B K pc lv (.int (nI b) :: .int (nI a) :: st) h := e_isub hd hp (by rw [pk_sub hab]; exact kk)
theorem e_iremN {a b : Nat} (hd : decode M.2.1 pc = .ok (.irem, 1)) (ha : a < 2 ^ 31) (h0 : 0 < b) (hb : b < 2 ^ 31) (hp : pc + 1 = p') (kk : sEv l M d B K p' lv (.int (nI (a % b)) :: st) h) : sEv l M d B K pc lv (.int (nI b) :: .int (nI a) :: st) h := e_irem hd (nI_ne0 h0 hb) hp (by rw [pk_rem ha h0 hb]; exact kk)
theorem e_idivN {a b : Nat} (hd : decode M.2.1 pc = .ok (.idiv, 1)) (ha : a < 2 ^ 31) (h0 : 0 < b) (hb : b < 2 ^ 31) (hp : pc + 1 = p') (kk : sEv l M d B K p' lv (.int (nI (a / b)) :: st) h) : sEv l M d B K pc lv (.int (nI b) :: .int (nI a) :: st) h := e_idiv hd (nI_ne0 h0 hb) hp (by rw [pk_div ha h0 hb]; exact kk)
theorem e_i2lN {a : Nat} (hd : decode M.2.1 pc = .ok (.i2l, 1)) (ha : a < 2 ^ 31) (hp : pc + 1 = p') (kk : sEv l M d B K p' lv (.long (lN a) :: st) h) : sEv l M d B K pc lv (.int (nI a) :: st) h := e_i2l hd (nI_l ha) hp kk

theorem e_iload_0 {r : List (Option Value)} {x : Int32} (hd : decode M.2.1 pc = .ok (.iload_n 0, 1)) (hp : pc + 1 = p') (kk : sEv l M d B K p' (some (.int x) :: r) (.int x :: st) h) : sEv l M d B K pc (some (.int x) :: r) st h := by
  subst hp
  exact e_ld (i := 0) rfl (fun b p e R s m args below meth c H locs ls cells slots Q hx hb hl k => lv_iload_n hx hb hd rfl hl k) kk
theorem e_lload_0 {r : List (Option Value)} {x : Int64} (hd : decode M.2.1 pc = .ok (.lload_n 0, 1)) (hp : pc + 1 = p') (kk : sEv l M d B K p' (some (.long x) :: r) (.long x :: st) h) : sEv l M d B K pc (some (.long x) :: r) st h := by
  subst hp
  exact e_ld (i := 0) rfl (fun b p e R s m args below meth c H locs ls cells slots Q hx hb hl k => lv_lload_n hx hb hd rfl hl k) kk
theorem e_aload_0 {r : List (Option Value)} {x : Nat} (hd : decode M.2.1 pc = .ok (.aload_n 0, 1)) (hp : pc + 1 = p') (kk : sEv l M d B K p' (some (.ref x) :: r) (.ref x :: st) h) : sEv l M d B K pc (some (.ref x) :: r) st h := by
  subst hp
  exact e_ld (i := 0) rfl (fun b p e R s m args below meth c H locs ls cells slots Q hx hb hl k => lv_aload_n hx hb hd rfl hl k) kk
theorem e_istore_0 {a0 : Option Value} {r : List (Option Value)} {x : Int32} (hd : decode M.2.1 pc = .ok (.istore_n 0, 1)) (hn : 0 < M.2.2.1) (hp : pc + 1 = p') (kk : sEv l M d B K p' (some (.int x) :: r) st h) : sEv l M d B K pc (a0 :: r) (.int x :: st) h := by
  subst hp
  exact e_st1 (i := 0) sNoL_0 (fun b p e R s m args below meth c H locs ls cells slots Q hx hb hl k => lv_istore_n hx hb hd rfl hl hn rfl k) kk
theorem e_astore_0 {a0 : Option Value} {r : List (Option Value)} {x : Nat} (hd : decode M.2.1 pc = .ok (.astore_n 0, 1)) (hn : 0 < M.2.2.1) (hp : pc + 1 = p') (kk : sEv l M d B K p' (some (.ref x) :: r) st h) : sEv l M d B K pc (a0 :: r) (.ref x :: st) h := by
  subst hp
  exact e_st1 (i := 0) sNoL_0 (fun b p e R s m args below meth c H locs ls cells slots Q hx hb hl k => lv_astore_n hx hb hd rfl hl hn rfl k) kk
theorem e_lstore_0 {a0 a1 : Option Value} {r : List (Option Value)} {x : Int64} (hd : decode M.2.1 pc = .ok (.lstore_n 0, 1)) (hn : 1 < M.2.2.1) (hp : pc + 1 = p') (kk : sEv l M d B K p' (some (.long x) :: none :: r) st h) : sEv l M d B K pc (a0 :: a1 :: r) (.long x :: st) h := by
  subst hp
  exact e_st2 (i := 0) sNoL_0 (fun b p e R s m args below meth c H locs ls cells slots Q hx hb hl k => lv_lstore_n hx hb hd rfl hl hn rfl k) kk
theorem e_iinc_0 {r : List (Option Value)} {x v : Int32} {n : Int} (hd : decode M.2.1 pc = .ok (.iinc 0 n, 3)) (hn : 0 < M.2.2.1) (hv : x + Int32.ofInt n = v) (hp : pc + 3 = p') (kk : sEv l M d B K p' (some (.int v) :: r) st h) : sEv l M d B K pc (some (.int x) :: r) st h := by
  subst hp
  exact e_inc (i := 0) rfl sNoL_0 (fun b p e R s m args below meth c H locs ls cells slots Q k0 hx hb hl hk k => lv_iinc hx hb hd hl hk hv hn rfl k) kk
theorem e_iincN_0 {r : List (Option Value)} {a n : Nat} (hd : decode M.2.1 pc = .ok (.iinc 0 (n : Int), 3)) (hn : 0 < M.2.2.1) (hp : pc + 3 = p') (kk : sEv l M d B K p' (some (.int (nI (a + n))) :: r) st h) : sEv l M d B K pc (some (.int (nI a)) :: r) st h := e_iinc_0 hd hn (by rw [← nI_add]; rfl) hp kk
theorem e_iload_1 {a0 : Option Value} {r : List (Option Value)} {x : Int32} (hd : decode M.2.1 pc = .ok (.iload_n 1, 1)) (hp : pc + 1 = p') (kk : sEv l M d B K p' (a0 :: some (.int x) :: r) (.int x :: st) h) : sEv l M d B K pc (a0 :: some (.int x) :: r) st h := by
  subst hp
  exact e_ld (i := 1) rfl (fun b p e R s m args below meth c H locs ls cells slots Q hx hb hl k => lv_iload_n hx hb hd rfl hl k) kk
theorem e_lload_1 {a0 : Option Value} {r : List (Option Value)} {x : Int64} (hd : decode M.2.1 pc = .ok (.lload_n 1, 1)) (hp : pc + 1 = p') (kk : sEv l M d B K p' (a0 :: some (.long x) :: r) (.long x :: st) h) : sEv l M d B K pc (a0 :: some (.long x) :: r) st h := by
  subst hp
  exact e_ld (i := 1) rfl (fun b p e R s m args below meth c H locs ls cells slots Q hx hb hl k => lv_lload_n hx hb hd rfl hl k) kk
theorem e_aload_1 {a0 : Option Value} {r : List (Option Value)} {x : Nat} (hd : decode M.2.1 pc = .ok (.aload_n 1, 1)) (hp : pc + 1 = p') (kk : sEv l M d B K p' (a0 :: some (.ref x) :: r) (.ref x :: st) h) : sEv l M d B K pc (a0 :: some (.ref x) :: r) st h := by
  subst hp
  exact e_ld (i := 1) rfl (fun b p e R s m args below meth c H locs ls cells slots Q hx hb hl k => lv_aload_n hx hb hd rfl hl k) kk
theorem e_istore_1 {a0 a1 : Option Value} {r : List (Option Value)} {x : Int32} (hd : decode M.2.1 pc = .ok (.istore_n 1, 1)) (hn : 1 < M.2.2.1) (hno : sN1 a0 = true) (hp : pc + 1 = p') (kk : sEv l M d B K p' (a0 :: some (.int x) :: r) st h) : sEv l M d B K pc (a0 :: a1 :: r) (.int x :: st) h := by
  subst hp
  exact e_st1 (i := 1) (sN1_ok (j := 0) (o := a0) rfl hno) (fun b p e R s m args below meth c H locs ls cells slots Q hx hb hl k => lv_istore_n hx hb hd rfl hl hn rfl k) kk
theorem e_astore_1 {a0 a1 : Option Value} {r : List (Option Value)} {x : Nat} (hd : decode M.2.1 pc = .ok (.astore_n 1, 1)) (hn : 1 < M.2.2.1) (hno : sN1 a0 = true) (hp : pc + 1 = p') (kk : sEv l M d B K p' (a0 :: some (.ref x) :: r) st h) : sEv l M d B K pc (a0 :: a1 :: r) (.ref x :: st) h := by
  subst hp
  exact e_st1 (i := 1) (sN1_ok (j := 0) (o := a0) rfl hno) (fun b p e R s m args below meth c H locs ls cells slots Q hx hb hl k => lv_astore_n hx hb hd rfl hl hn rfl k) kk
theorem e_lstore_1 {a0 a1 a2 : Option Value} {r : List (Option Value)} {x : Int64} (hd : decode M.2.1 pc = .ok (.lstore_n 1, 1)) (hn : 2 < M.2.2.1) (hno : sN1 a0 = true) (hp : pc + 1 = p') (kk : sEv l M d B K p' (a0 :: some (.long x) :: none :: r) st h) : sEv l M d B K pc (a0 :: a1 :: a2 :: r) (.long x :: st) h := by
  subst hp
  exact e_st2 (i := 1) (sN1_ok (j := 0) (o := a0) rfl hno) (fun b p e R s m args below meth c H locs ls cells slots Q hx hb hl k => lv_lstore_n hx hb hd rfl hl hn rfl k) kk
theorem e_iinc_1 {a0 : Option Value} {r : List (Option Value)} {x v : Int32} {n : Int} (hd : decode M.2.1 pc = .ok (.iinc 1 n, 3)) (hn : 1 < M.2.2.1) (hno : sN1 a0 = true) (hv : x + Int32.ofInt n = v) (hp : pc + 3 = p') (kk : sEv l M d B K p' (a0 :: some (.int v) :: r) st h) : sEv l M d B K pc (a0 :: some (.int x) :: r) st h := by
  subst hp
  exact e_inc (i := 1) rfl (sN1_ok (j := 0) (o := a0) rfl hno) (fun b p e R s m args below meth c H locs ls cells slots Q k0 hx hb hl hk k => lv_iinc hx hb hd hl hk hv hn rfl k) kk
theorem e_iincN_1 {a0 : Option Value} {r : List (Option Value)} {a n : Nat} (hd : decode M.2.1 pc = .ok (.iinc 1 (n : Int), 3)) (hn : 1 < M.2.2.1) (hno : sN1 a0 = true) (hp : pc + 3 = p') (kk : sEv l M d B K p' (a0 :: some (.int (nI (a + n))) :: r) st h) : sEv l M d B K pc (a0 :: some (.int (nI a)) :: r) st h := e_iinc_1 hd hn hno (by rw [← nI_add]; rfl) hp kk
theorem e_iload_2 {a0 a1 : Option Value} {r : List (Option Value)} {x : Int32} (hd : decode M.2.1 pc = .ok (.iload_n 2, 1)) (hp : pc + 1 = p') (kk : sEv l M d B K p' (a0 :: a1 :: some (.int x) :: r) (.int x :: st) h) : sEv l M d B K pc (a0 :: a1 :: some (.int x) :: r) st h := by
  subst hp
  exact e_ld (i := 2) rfl (fun b p e R s m args below meth c H locs ls cells slots Q hx hb hl k => lv_iload_n hx hb hd rfl hl k) kk
theorem e_lload_2 {a0 a1 : Option Value} {r : List (Option Value)} {x : Int64} (hd : decode M.2.1 pc = .ok (.lload_n 2, 1)) (hp : pc + 1 = p') (kk : sEv l M d B K p' (a0 :: a1 :: some (.long x) :: r) (.long x :: st) h) : sEv l M d B K pc (a0 :: a1 :: some (.long x) :: r) st h := by
  subst hp
  exact e_ld (i := 2) rfl (fun b p e R s m args below meth c H locs ls cells slots Q hx hb hl k => lv_lload_n hx hb hd rfl hl k) kk
theorem e_aload_2 {a0 a1 : Option Value} {r : List (Option Value)} {x : Nat} (hd : decode M.2.1 pc = .ok (.aload_n 2, 1)) (hp : pc + 1 = p') (kk : sEv l M d B K p' (a0 :: a1 :: some (.ref x) :: r) (.ref x :: st) h) : sEv l M d B K pc (a0 :: a1 :: some (.ref x) :: r) st h := by
  subst hp
  exact e_ld (i := 2) rfl (fun b p e R s m args below meth c H locs ls cells slots Q hx hb hl k => lv_aload_n hx hb hd rfl hl k) kk
theorem e_istore_2 {a0 a1 a2 : Option Value} {r : List (Option Value)} {x : Int32} (hd : decode M.2.1 pc = .ok (.istore_n 2, 1)) (hn : 2 < M.2.2.1) (hno : sN1 a1 = true) (hp : pc + 1 = p') (kk : sEv l M d B K p' (a0 :: a1 :: some (.int x) :: r) st h) : sEv l M d B K pc (a0 :: a1 :: a2 :: r) (.int x :: st) h := by
  subst hp
  exact e_st1 (i := 2) (sN1_ok (j := 1) (o := a1) rfl hno) (fun b p e R s m args below meth c H locs ls cells slots Q hx hb hl k => lv_istore_n hx hb hd rfl hl hn rfl k) kk
theorem e_astore_2 {a0 a1 a2 : Option Value} {r : List (Option Value)} {x : Nat} (hd : decode M.2.1 pc = .ok (.astore_n 2, 1)) (hn : 2 < M.2.2.1) (hno : sN1 a1 = true) (hp : pc + 1 = p') (kk : sEv l M d B K p' (a0 :: a1 :: some (.ref x) :: r) st h) : sEv l M d B K pc (a0 :: a1 :: a2 :: r) (.ref x :: st) h := by
  subst hp
  exact e_st1 (i := 2) (sN1_ok (j := 1) (o := a1) rfl hno) (fun b p e R s m args below meth c H locs ls cells slots Q hx hb hl k => lv_astore_n hx hb hd rfl hl hn rfl k) kk
theorem e_lstore_2 {a0 a1 a2 a3 : Option Value} {r : List (Option Value)} {x : Int64} (hd : decode M.2.1 pc = .ok (.lstore_n 2, 1)) (hn : 3 < M.2.2.1) (hno : sN1 a1 = true) (hp : pc + 1 = p') (kk : sEv l M d B K p' (a0 :: a1 :: some (.long x) :: none :: r) st h) : sEv l M d B K pc (a0 :: a1 :: a2 :: a3 :: r) (.long x :: st) h := by
  subst hp
  exact e_st2 (i := 2) (sN1_ok (j := 1) (o := a1) rfl hno) (fun b p e R s m args below meth c H locs ls cells slots Q hx hb hl k => lv_lstore_n hx hb hd rfl hl hn rfl k) kk
theorem e_iinc_2 {a0 a1 : Option Value} {r : List (Option Value)} {x v : Int32} {n : Int} (hd : decode M.2.1 pc = .ok (.iinc 2 n, 3)) (hn : 2 < M.2.2.1) (hno : sN1 a1 = true) (hv : x + Int32.ofInt n = v) (hp : pc + 3 = p') (kk : sEv l M d B K p' (a0 :: a1 :: some (.int v) :: r) st h) : sEv l M d B K pc (a0 :: a1 :: some (.int x) :: r) st h := by
  subst hp
  exact e_inc (i := 2) rfl (sN1_ok (j := 1) (o := a1) rfl hno) (fun b p e R s m args below meth c H locs ls cells slots Q k0 hx hb hl hk k => lv_iinc hx hb hd hl hk hv hn rfl k) kk
theorem e_iincN_2 {a0 a1 : Option Value} {r : List (Option Value)} {a n : Nat} (hd : decode M.2.1 pc = .ok (.iinc 2 (n : Int), 3)) (hn : 2 < M.2.2.1) (hno : sN1 a1 = true) (hp : pc + 3 = p') (kk : sEv l M d B K p' (a0 :: a1 :: some (.int (nI (a + n))) :: r) st h) : sEv l M d B K pc (a0 :: a1 :: some (.int (nI a)) :: r) st h := e_iinc_2 hd hn hno (by rw [← nI_add]; rfl) hp kk
theorem e_iload_3 {a0 a1 a2 : Option Value} {r : List (Option Value)} {x : Int32} (hd : decode M.2.1 pc = .ok (.iload_n 3, 1)) (hp : pc + 1 = p') (kk : sEv l M d B K p' (a0 :: a1 :: a2 :: some (.int x) :: r) (.int x :: st) h) : sEv l M d B K pc (a0 :: a1 :: a2 :: some (.int x) :: r) st h := by
  subst hp
  exact e_ld (i := 3) rfl (fun b p e R s m args below meth c H locs ls cells slots Q hx hb hl k => lv_iload_n hx hb hd rfl hl k) kk
theorem e_lload_3 {a0 a1 a2 : Option Value} {r : List (Option Value)} {x : Int64} (hd : decode M.2.1 pc = .ok (.lload_n 3, 1)) (hp : pc + 1 = p') (kk : sEv l M d B K p' (a0 :: a1 :: a2 :: some (.long x) :: r) (.long x :: st) h) : sEv l M d B K pc (a0 :: a1 :: a2 :: some (.long x) :: r) st h := by
  subst hp
  exact e_ld (i := 3) rfl (fun b p e R s m args below meth c H locs ls cells slots Q hx hb hl k => lv_lload_n hx hb hd rfl hl k) kk
theorem e_aload_3 {a0 a1 a2 : Option Value} {r : List (Option Value)} {x : Nat} (hd : decode M.2.1 pc = .ok (.aload_n 3, 1)) (hp : pc + 1 = p') (kk : sEv l M d B K p' (a0 :: a1 :: a2 :: some (.ref x) :: r) (.ref x :: st) h) : sEv l M d B K pc (a0 :: a1 :: a2 :: some (.ref x) :: r) st h := by
  subst hp
  exact e_ld (i := 3) rfl (fun b p e R s m args below meth c H locs ls cells slots Q hx hb hl k => lv_aload_n hx hb hd rfl hl k) kk
theorem e_istore_3 {a0 a1 a2 a3 : Option Value} {r : List (Option Value)} {x : Int32} (hd : decode M.2.1 pc = .ok (.istore_n 3, 1)) (hn : 3 < M.2.2.1) (hno : sN1 a2 = true) (hp : pc + 1 = p') (kk : sEv l M d B K p' (a0 :: a1 :: a2 :: some (.int x) :: r) st h) : sEv l M d B K pc (a0 :: a1 :: a2 :: a3 :: r) (.int x :: st) h := by
  subst hp
  exact e_st1 (i := 3) (sN1_ok (j := 2) (o := a2) rfl hno) (fun b p e R s m args below meth c H locs ls cells slots Q hx hb hl k => lv_istore_n hx hb hd rfl hl hn rfl k) kk
theorem e_astore_3 {a0 a1 a2 a3 : Option Value} {r : List (Option Value)} {x : Nat} (hd : decode M.2.1 pc = .ok (.astore_n 3, 1)) (hn : 3 < M.2.2.1) (hno : sN1 a2 = true) (hp : pc + 1 = p') (kk : sEv l M d B K p' (a0 :: a1 :: a2 :: some (.ref x) :: r) st h) : sEv l M d B K pc (a0 :: a1 :: a2 :: a3 :: r) (.ref x :: st) h := by
  subst hp
  exact e_st1 (i := 3) (sN1_ok (j := 2) (o := a2) rfl hno) (fun b p e R s m args below meth c H locs ls cells slots Q hx hb hl k => lv_astore_n hx hb hd rfl hl hn rfl k) kk
theorem e_lstore_3 {a0 a1 a2 a3 a4 : Option Value} {r : List (Option Value)} {x : Int64} (hd : decode M.2.1 pc = .ok (.lstore_n 3, 1)) (hn : 4 < M.2.2.1) (hno : sN1 a2 = true) (hp : pc + 1 = p') (kk : sEv l M d B K p' (a0 :: a1 :: a2 :: some (.long x) :: none :: r) st h) : sEv l M d B K pc (a0 :: a1 :: a2 :: a3 :: a4 :: r) (.long x :: st) h := by
  subst hp
  exact e_st2 (i := 3) (sN1_ok (j := 2) (o := a2) rfl hno) (fun b p e R s m args below meth c H locs ls cells slots Q hx hb hl k => lv_lstore_n hx hb hd rfl hl hn rfl k) kk
theorem e_iinc_3 {a0 a1 a2 : Option Value} {r : List (Option Value)} {x v : Int32} {n : Int} (hd : decode M.2.1 pc = .ok (.iinc 3 n, 3)) (hn : 3 < M.2.2.1) (hno : sN1 a2 = true) (hv : x + Int32.ofInt n = v) (hp : pc + 3 = p') (kk : sEv l M d B K p' (a0 :: a1 :: a2 :: some (.int v) :: r) st h) : sEv l M d B K pc (a0 :: a1 :: a2 :: some (.int x) :: r) st h := by
  subst hp
  exact e_inc (i := 3) rfl (sN1_ok (j := 2) (o := a2) rfl hno) (fun b p e R s m args below meth c H locs ls cells slots Q k0 hx hb hl hk k => lv_iinc hx hb hd hl hk hv hn rfl k) kk
theorem e_iincN_3 {a0 a1 a2 : Option Value} {r : List (Option Value)} {a n : Nat} (hd : decode M.2.1 pc = .ok (.iinc 3 (n : Int), 3)) (hn : 3 < M.2.2.1) (hno : sN1 a2 = true) (hp : pc + 3 = p') (kk : sEv l M d B K p' (a0 :: a1 :: a2 :: some (.int (nI (a + n))) :: r) st h) : sEv l M d B K pc (a0 :: a1 :: a2 :: some (.int (nI a)) :: r) st h := e_iinc_3 hd hn hno (by rw [← nI_add]; rfl) hp kk
theorem e_iload_4 {a0 a1 a2 a3 : Option Value} {r : List (Option Value)} {x : Int32} (hd : decode M.2.1 pc = .ok (.iload 4, 2)) (hp : pc + 2 = p') (kk : sEv l M d B K p' (a0 :: a1 :: a2 :: a3 :: some (.int x) :: r) (.int x :: st) h) : sEv l M d B K pc (a0 :: a1 :: a2 :: a3 :: some (.int x) :: r) st h := by
  subst hp
  exact e_ld (i := 4) rfl (fun b p e R s m args below meth c H locs ls cells slots Q hx hb hl k => lv_iload hx hb hd hl k) kk
theorem e_lload_4 {a0 a1 a2 a3 : Option Value} {r : List (Option Value)} {x : Int64} (hd : decode M.2.1 pc = .ok (.lload 4, 2)) (hp : pc + 2 = p') (kk : sEv l M d B K p' (a0 :: a1 :: a2 :: a3 :: some (.long x) :: r) (.long x :: st) h) : sEv l M d B K pc (a0 :: a1 :: a2 :: a3 :: some (.long x) :: r) st h := by
  subst hp
  exact e_ld (i := 4) rfl (fun b p e R s m args below meth c H locs ls cells slots Q hx hb hl k => lv_lload hx hb hd hl k) kk
theorem e_aload_4 {a0 a1 a2 a3 : Option Value} {r : List (Option Value)} {x : Nat} (hd : decode M.2.1 pc = .ok (.aload 4, 2)) (hp : pc + 2 = p') (kk : sEv l M d B K p' (a0 :: a1 :: a2 :: a3 :: some (.ref x) :: r) (.ref x :: st) h) : sEv l M d B K pc (a0 :: a1 :: a2 :: a3 :: some (.ref x) :: r) st h := by
  subst hp
  exact e_ld (i := 4) rfl (fun b p e R s m args below meth c H locs ls cells slots Q hx hb hl k => lv_aload hx hb hd hl k) kk
theorem e_istore_4 {a0 a1 a2 a3 a4 : Option Value} {r : List (Option Value)} {x : Int32} (hd : decode M.2.1 pc = .ok (.istore 4, 2)) (hn : 4 < M.2.2.1) (hno : sN1 a3 = true) (hp : pc + 2 = p') (kk : sEv l M d B K p' (a0 :: a1 :: a2 :: a3 :: some (.int x) :: r) st h) : sEv l M d B K pc (a0 :: a1 :: a2 :: a3 :: a4 :: r) (.int x :: st) h := by
  subst hp
  exact e_st1 (i := 4) (sN1_ok (j := 3) (o := a3) rfl hno) (fun b p e R s m args below meth c H locs ls cells slots Q hx hb hl k => lv_istore hx hb hd hl hn rfl k) kk
theorem e_astore_4 {a0 a1 a2 a3 a4 : Option Value} {r : List (Option Value)} {x : Nat} (hd : decode M.2.1 pc = .ok (.astore 4, 2)) (hn : 4 < M.2.2.1) (hno : sN1 a3 = true) (hp : pc + 2 = p') (kk : sEv l M d B K p' (a0 :: a1 :: a2 :: a3 :: some (.ref x) :: r) st h) : sEv l M d B K pc (a0 :: a1 :: a2 :: a3 :: a4 :: r) (.ref x :: st) h := by
  subst hp
  exact e_st1 (i := 4) (sN1_ok (j := 3) (o := a3) rfl hno) (fun b p e R s m args below meth c H locs ls cells slots Q hx hb hl k => lv_astore hx hb hd hl hn rfl k) kk
theorem e_lstore_4 {a0 a1 a2 a3 a4 a5 : Option Value} {r : List (Option Value)} {x : Int64} (hd : decode M.2.1 pc = .ok (.lstore 4, 2)) (hn : 5 < M.2.2.1) (hno : sN1 a3 = true) (hp : pc + 2 = p') (kk : sEv l M d B K p' (a0 :: a1 :: a2 :: a3 :: some (.long x) :: none :: r) st h) : sEv l M d B K pc (a0 :: a1 :: a2 :: a3 :: a4 :: a5 :: r) (.long x :: st) h := by
  subst hp
  exact e_st2 (i := 4) (sN1_ok (j := 3) (o := a3) rfl hno) (fun b p e R s m args below meth c H locs ls cells slots Q hx hb hl k => lv_lstore hx hb hd hl hn rfl k) kk
theorem e_iinc_4 {a0 a1 a2 a3 : Option Value} {r : List (Option Value)} {x v : Int32} {n : Int} (hd : decode M.2.1 pc = .ok (.iinc 4 n, 3)) (hn : 4 < M.2.2.1) (hno : sN1 a3 = true) (hv : x + Int32.ofInt n = v) (hp : pc + 3 = p') (kk : sEv l M d B K p' (a0 :: a1 :: a2 :: a3 :: some (.int v) :: r) st h) : sEv l M d B K pc (a0 :: a1 :: a2 :: a3 :: some (.int x) :: r) st h := by
  subst hp
  exact e_inc (i := 4) rfl (sN1_ok (j := 3) (o := a3) rfl hno) (fun b p e R s m args below meth c H locs ls cells slots Q k0 hx hb hl hk k => lv_iinc hx hb hd hl hk hv hn rfl k) kk
theorem e_iincN_4 {a0 a1 a2 a3 : Option Value} {r : List (Option Value)} {a n : Nat} (hd : decode M.2.1 pc = .ok (.iinc 4 (n : Int), 3)) (hn : 4 < M.2.2.1) (hno : sN1 a3 = true) (hp : pc + 3 = p') (kk : sEv l M d B K p' (a0 :: a1 :: a2 :: a3 :: some (.int (nI (a + n))) :: r) st h) : sEv l M d B K pc (a0 :: a1 :: a2 :: a3 :: some (.int (nI a)) :: r) st h := e_iinc_4 hd hn hno (by rw [← nI_add]; rfl) hp kk
theorem e_iload_5 {a0 a1 a2 a3 a4 : Option Value} {r : List (Option Value)} {x : Int32} (hd : decode M.2.1 pc = .ok (.iload 5, 2)) (hp : pc + 2 = p') (kk : sEv l M d B K p' (a0 :: a1 :: a2 :: a3 :: a4 :: some (.int x) :: r) (.int x :: st) h) : sEv l M d B K pc (a0 :: a1 :: a2 :: a3 :: a4 :: some (.int x) :: r) st h := by
  subst hp
  exact e_ld (i := 5) rfl (fun b p e R s m args below meth c H locs ls cells slots Q hx hb hl k => lv_iload hx hb hd hl k) kk
theorem e_lload_5 {a0 a1 a2 a3 a4 : Option Value} {r : List (Option Value)} {x : Int64} (hd : decode M.2.1 pc = .ok (.lload 5, 2)) (hp : pc + 2 = p') (kk : sEv l M d B K p' (a0 :: a1 :: a2 :: a3 :: a4 :: some (.long x) :: r) (.long x :: st) h) : sEv l M d B K pc (a0 :: a1 :: a2 :: a3 :: a4 :: some (.long x) :: r) st h := by
  subst hp
  exact e_ld (i := 5) rfl (fun b p e R s m args below meth c H locs ls cells slots Q hx hb hl k => lv_lload hx hb hd hl k) kk
theorem e_aload_5 {a0 a1 a2 a3 a4 : Option Value} {r : List (Option Value)} {x : Nat} (hd : decode M.2.1 pc = .ok (.aload 5, 2)) (hp : pc + 2 = p') (kk : sEv l M d B K p' (a0 :: a1 :: a2 :: a3 :: a4 :: some (.ref x) :: r) (.ref x :: st) h) : sEv l M d B K pc (a0 :: a1 :: a2 :: a3 :: a4 :: some (.ref x) :: r) st h := by
  subst hp
  exact e_ld (i := 5) rfl (fun b p e R s m args below meth c H locs ls cells slots Q hx hb hl k => lv_aload hx hb hd hl k) kk
theorem e_istore_5 {a0 a1 a2 a3 a4 a5 : Option Value} {r : List (Option Value)} {x : Int32} (hd : decode M.2.1 pc = .ok (.istore 5, 2)) (hn : 5 < M.2.2.1) (hno : sN1 a4 = true) (hp : pc + 2 = p') (kk : sEv l M d B K p' (a0 :: a1 :: a2 :: a3 :: a4 :: some (.int x) :: r) st h) : sEv l M d B K pc (a0 :: a1 :: a2 :: a3 :: a4 :: a5 :: r) (.int x :: st) h := by
  subst hp
  exact e_st1 (i := 5) (sN1_ok (j := 4) (o := a4) rfl hno) (fun b p e R s m args below meth c H locs ls cells slots Q hx hb hl k => lv_istore hx hb hd hl hn rfl k) kk
theorem e_astore_5 {a0 a1 a2 a3 a4 a5 : Option Value} {r : List (Option Value)} {x : Nat} (hd : decode M.2.1 pc = .ok (.astore 5, 2)) (hn : 5 < M.2.2.1) (hno : sN1 a4 = true) (hp : pc + 2 = p') (kk : sEv l M d B K p' (a0 :: a1 :: a2 :: a3 :: a4 :: some (.ref x) :: r) st h) : sEv l M d B K pc (a0 :: a1 :: a2 :: a3 :: a4 :: a5 :: r) (.ref x :: st) h := by
  subst hp
  exact e_st1 (i := 5) (sN1_ok (j := 4) (o := a4) rfl hno) (fun b p e R s m args below meth c H locs ls cells slots Q hx hb hl k => lv_astore hx hb hd hl hn rfl k) kk
theorem e_lstore_5 {a0 a1 a2 a3 a4 a5 a6 : Option Value} {r : List (Option Value)} {x : Int64} (hd : decode M.2.1 pc = .ok (.lstore 5, 2)) (hn : 6 < M.2.2.1) (hno : sN1 a4 = true) (hp : pc + 2 = p') (kk : sEv l M d B K p' (a0 :: a1 :: a2 :: a3 :: a4 :: some (.long x) :: none :: r) st h) : sEv l M d B K pc (a0 :: a1 :: a2 :: a3 :: a4 :: a5 :: a6 :: r) (.long x :: st) h := by
  subst hp
  exact e_st2 (i := 5) (sN1_ok (j := 4) (o := a4) rfl hno) (fun b p e R s m args below meth c H locs ls cells slots Q hx hb hl k => lv_lstore hx hb hd hl hn rfl k) kk
theorem e_iinc_5 {a0 a1 a2 a3 a4 : Option Value} {r : List (Option Value)} {x v : Int32} {n : Int} (hd : decode M.2.1 pc = .ok (.iinc 5 n, 3)) (hn : 5 < M.2.2.1) (hno : sN1 a4 = true) (hv : x + Int32.ofInt n = v) (hp : pc + 3 = p') (kk : sEv l M d B K p' (a0 :: a1 :: a2 :: a3 :: a4 :: some (.int v) :: r) st h) : sEv l M d B K pc (a0 :: a1 :: a2 :: a3 :: a4 :: some (.int x) :: r) st h := by
  subst hp
  exact e_inc (i := 5) rfl (sN1_ok (j := 4) (o := a4) rfl hno) (fun b p e R s m args below meth c H locs ls cells slots Q k0 hx hb hl hk k => lv_iinc hx hb hd hl hk hv hn rfl k) kk
theorem e_iincN_5 {a0 a1 a2 a3 a4 : Option Value} {r : List (Option Value)} {a n : Nat} (hd : decode M.2.1 pc = .ok (.iinc 5 (n : Int), 3)) (hn : 5 < M.2.2.1) (hno : sN1 a4 = true) (hp : pc + 3 = p') (kk : sEv l M d B K p' (a0 :: a1 :: a2 :: a3 :: a4 :: some (.int (nI (a + n))) :: r) st h) : sEv l M d B K pc (a0 :: a1 :: a2 :: a3 :: a4 :: some (.int (nI a)) :: r) st h := e_iinc_5 hd hn hno (by rw [← nI_add]; rfl) hp kk
theorem e_iload_6 {a0 a1 a2 a3 a4 a5 : Option Value} {r : List (Option Value)} {x : Int32} (hd : decode M.2.1 pc = .ok (.iload 6, 2)) (hp : pc + 2 = p') (kk : sEv l M d B K p' (a0 :: a1 :: a2 :: a3 :: a4 :: a5 :: some (.int x) :: r) (.int x :: st) h) : sEv l M d B K pc (a0 :: a1 :: a2 :: a3 :: a4 :: a5 :: some (.int x) :: r) st h := by
  subst hp
  exact e_ld (i := 6) rfl (fun b p e R s m args below meth c H locs ls cells slots Q hx hb hl k => lv_iload hx hb hd hl k) kk
theorem e_lload_6 {a0 a1 a2 a3 a4 a5 : Option Value} {r : List (Option Value)} {x : Int64} (hd : decode M.2.1 pc = .ok (.lload 6, 2)) (hp : pc + 2 = p') (kk : sEv l M d B K p' (a0 :: a1 :: a2 :: a3 :: a4 :: a5 :: some (.long x) :: r) (.long x :: st) h) : sEv l M d B K pc (a0 :: a1 :: a2 :: a3 :: a4 :: a5 :: some (.long x) :: r) st h := by
  subst hp
  exact e_ld (i := 6) rfl (fun b p e R s m args below meth c H locs ls cells slots Q hx hb hl k => lv_lload hx hb hd hl k) kk
theorem e_aload_6 {a0 a1 a2 a3 a4 a5 : Option Value} {r : List (Option Value)} {x : Nat} (hd : decode M.2.1 pc = .ok (.aload 6, 2)) (hp : pc + 2 = p') (kk : sEv l M d B K p' (a0 :: a1 :: a2 :: a3 :: a4 :: a5 :: some (.ref x) :: r) (.ref x :: st) h) : sEv l M d B K pc (a0 :: a1 :: a2 :: a3 :: a4 :: a5 :: some (.ref x) :: r) st h := by
  subst hp
  exact e_ld (i := 6) rfl (fun b p e R s m args below meth c H locs ls cells slots Q hx hb hl k => lv_aload hx hb hd hl k) kk
theorem e_istore_6 {a0 a1 a2 a3 a4 a5 a6 : Option Value} {r : List (Option Value)} {x : Int32} (hd : decode M.2.1 pc = .ok (.istore 6, 2)) (hn : 6 < M.2.2.1) (hno : sN1 a5 = true) (hp : pc + 2 = p') (kk : sEv l M d B K p' (a0 :: a1 :: a2 :: a3 :: a4 :: a5 :: some (.int x) :: r) st h) : sEv l M d B K pc (a0 :: a1 :: a2 :: a3 :: a4 :: a5 :: a6 :: r) (.int x :: st) h := by
  subst hp
  exact e_st1 (i := 6) (sN1_ok (j := 5) (o := a5) rfl hno) (fun b p e R s m args below meth c H locs ls cells slots Q hx hb hl k => lv_istore hx hb hd hl hn rfl k) kk
theorem e_astore_6 {a0 a1 a2 a3 a4 a5 a6 : Option Value} {r : List (Option Value)} {x : Nat} (hd : decode M.2.1 pc = .ok (.astore 6, 2)) (hn : 6 < M.2.2.1) (hno : sN1 a5 = true) (hp : pc + 2 = p') (kk : sEv l M d B K p' (a0 :: a1 :: a2 :: a3 :: a4 :: a5 :: some (.ref x) :: r) st h) : sEv l M d B K pc (a0 :: a1 :: a2 :: a3 :: a4 :: a5 :: a6 :: r) (.ref x :: st) h := by
  subst hp
  exact e_st1 (i := 6) (sN1_ok (j := 5) (o := a5) rfl hno) (fun b p e R s m args below meth c H locs ls cells slots Q hx hb hl k => lv_astore hx hb hd hl hn rfl k) kk
theorem e_lstore_6 {a0 a1 a2 a3 a4 a5 a6 a7 : Option Value} {r : List (Option Value)} {x : Int64} (hd : decode M.2.1 pc = .ok (.lstore 6, 2)) (hn : 7 < M.2.2.1) (hno : sN1 a5 = true) (hp : pc + 2 = p') (kk : sEv l M d B K p' (a0 :: a1 :: a2 :: a3 :: a4 :: a5 :: some (.long x) :: none :: r) st h) : sEv l M d B K pc (a0 :: a1 :: a2 :: a3 :: a4 :: a5 :: a6 :: a7 :: r) (.long x :: st) h := by
  subst hp
  exact e_st2 (i := 6) (sN1_ok (j := 5) (o := a5) rfl hno) (fun b p e R s m args below meth c H locs ls cells slots Q hx hb hl k => lv_lstore hx hb hd hl hn rfl k) kk
theorem e_iinc_6 {a0 a1 a2 a3 a4 a5 : Option Value} {r : List (Option Value)} {x v : Int32} {n : Int} (hd : decode M.2.1 pc = .ok (.iinc 6 n, 3)) (hn : 6 < M.2.2.1) (hno : sN1 a5 = true) (hv : x + Int32.ofInt n = v) (hp : pc + 3 = p') (kk : sEv l M d B K p' (a0 :: a1 :: a2 :: a3 :: a4 :: a5 :: some (.int v) :: r) st h) : sEv l M d B K pc (a0 :: a1 :: a2 :: a3 :: a4 :: a5 :: some (.int x) :: r) st h := by
  subst hp
  exact e_inc (i := 6) rfl (sN1_ok (j := 5) (o := a5) rfl hno) (fun b p e R s m args below meth c H locs ls cells slots Q k0 hx hb hl hk k => lv_iinc hx hb hd hl hk hv hn rfl k) kk
theorem e_iincN_6 {a0 a1 a2 a3 a4 a5 : Option Value} {r : List (Option Value)} {a n : Nat} (hd : decode M.2.1 pc = .ok (.iinc 6 (n : Int), 3)) (hn : 6 < M.2.2.1) (hno : sN1 a5 = true) (hp : pc + 3 = p') (kk : sEv l M d B K p' (a0 :: a1 :: a2 :: a3 :: a4 :: a5 :: some (.int (nI (a + n))) :: r) st h) : sEv l M d B K pc (a0 :: a1 :: a2 :: a3 :: a4 :: a5 :: some (.int (nI a)) :: r) st h := e_iinc_6 hd hn hno (by rw [← nI_add]; rfl) hp kk
theorem e_iload_7 {a0 a1 a2 a3 a4 a5 a6 : Option Value} {r : List (Option Value)} {x : Int32} (hd : decode M.2.1 pc = .ok (.iload 7, 2)) (hp : pc + 2 = p') (kk : sEv l M d B K p' (a0 :: a1 :: a2 :: a3 :: a4 :: a5 :: a6 :: some (.int x) :: r) (.int x :: st) h) : sEv l M d B K pc (a0 :: a1 :: a2 :: a3 :: a4 :: a5 :: a6 :: some (.int x) :: r) st h := by
  subst hp
  exact e_ld (i := 7) rfl (fun b p e R s m args below meth c H locs ls cells slots Q hx hb hl k => lv_iload hx hb hd hl k) kk
theorem e_lload_7 {a0 a1 a2 a3 a4 a5 a6 : Option Value} {r : List (Option Value)} {x : Int64} (hd : decode M.2.1 pc = .ok (.lload 7, 2)) (hp : pc + 2 = p') (kk : sEv l M d B K p' (a0 :: a1 :: a2 :: a3 :: a4 :: a5 :: a6 :: some (.long x) :: r) (.long x :: st) h) : sEv l M d B K pc (a0 :: a1 :: a2 :: a3 :: a4 :: a5 :: a6 :: some (.long x) :: r) st h := by
  subst hp
  exact e_ld (i := 7) rfl (fun b p e R s m args below meth c H locs ls cells slots Q hx hb hl k => lv_lload hx hb hd hl k) kk
theorem e_aload_7 {a0 a1 a2 a3 a4 a5 a6 : Option Value} {r : List (Option Value)} {x : Nat} (hd : decode M.2.1 pc = .ok (.aload 7, 2)) (hp : pc + 2 = p') (kk : sEv l M d B K p' (a0 :: a1 :: a2 :: a3 :: a4 :: a5 :: a6 :: some (.ref x) :: r) (.ref x :: st) h) : sEv l M d B K pc (a0 :: a1 :: a2 :: a3 :: a4 :: a5 :: a6 :: some (.ref x) :: r) st h := by
  subst hp
  exact e_ld (i := 7) rfl (fun b p e R s m args below meth c H locs ls cells slots Q hx hb hl k => lv_aload hx hb hd hl k) kk
theorem e_istore_7 {a0 a1 a2 a3 a4 a5 a6 a7 : Option Value} {r : List (Option Value)} {x : Int32} (hd : decode M.2.1 pc = .ok (.istore 7, 2)) (hn : 7 < M.2.2.1) (hno : sN1 a6 = true) (hp : pc + 2 = p') (kk : sEv l M d B K p' (a0 :: a1 :: a2 :: a3 :: a4 :: a5 :: a6 :: some (.int x) :: r) st h) : sEv l M d B K pc (a0 :: a1 :: a2 :: a3 :: a4 :: a5 :: a6 :: a7 :: r) (.int x :: st) h := by
  subst hp
  exact e_st1 (i := 7) (sN1_ok (j := 6) (o := a6) rfl hno) (fun b p e R s m args below meth c H locs ls cells slots Q hx hb hl k => lv_istore hx hb hd hl hn rfl k) kk
theorem e_astore_7 {a0 a1 a2 a3 a4 a5 a6 a7 : Option Value} {r : List (Option Value)} {x : Nat} (hd : decode M.2.1 pc = .ok (.astore 7, 2)) (hn : 7 < M.2.2.1) (hno : sN1 a6 = true) (hp : pc + 2 = p') (kk : sEv l M d B K p' (a0 :: a1 :: a2 :: a3 :: a4 :: a5 :: a6 :: some (.ref x) :: r) st h) : sEv l M d B K pc (a0 :: a1 :: a2 :: a3 :: a4 :: a5 :: a6 :: a7 :: r) (.ref x :: st) h := by
  subst hp
  exact e_st1 (i := 7) (sN1_ok (j := 6) (o := a6) rfl hno) (fun b p e R s m args below meth c H locs ls cells slots Q hx hb hl k => lv_astore hx hb hd hl hn rfl k) kk
theorem e_lstore_7 {a0 a1 a2 a3 a4 a5 a6 a7 a8 : Option Value} {r : List (Option Value)} {x : Int64} (hd : decode M.2.1 pc = .ok (.lstore 7, 2)) (hn : 8 < M.2.2.1) (hno : sN1 a6 = true) (hp : pc + 2 = p') (kk : sEv l M d B K p' (a0 :: a1 :: a2 :: a3 :: a4 :: a5 :: a6 :: some (.long x) :: none :: r) st h) : sEv l M d B K pc (a0 :: a1 :: a2 :: a3 :: a4 :: a5 :: a6 :: a7 :: a8 :: r) (.long x :: st) h := by
  subst hp
  exact e_st2 (i := 7) (sN1_ok (j := 6) (o := a6) rfl hno) (fun b p e R s m args below meth c H locs ls cells slots Q hx hb hl k => lv_lstore hx hb hd hl hn rfl k) kk
theorem e_iinc_7 {a0 a1 a2 a3 a4 a5 a6 : Option Value} {r : List (Option Value)} {x v : Int32} {n : Int} (hd : decode M.2.1 pc = .ok (.iinc 7 n, 3)) (hn : 7 < M.2.2.1) (hno : sN1 a6 = true) (hv : x + Int32.ofInt n = v) (hp : pc + 3 = p') (kk : sEv l M d B K p' (a0 :: a1 :: a2 :: a3 :: a4 :: a5 :: a6 :: some (.int v) :: r) st h) : sEv l M d B K pc (a0 :: a1 :: a2 :: a3 :: a4 :: a5 :: a6 :: some (.int x) :: r) st h := by
  subst hp
  exact e_inc (i := 7) rfl (sN1_ok (j := 6) (o := a6) rfl hno) (fun b p e R s m args below meth c H locs ls cells slots Q k0 hx hb hl hk k => lv_iinc hx hb hd hl hk hv hn rfl k) kk
theorem e_iincN_7 {a0 a1 a2 a3 a4 a5 a6 : Option Value} {r : List (Option Value)} {a n : Nat} (hd : decode M.2.1 pc = .ok (.iinc 7 (n : Int), 3)) (hn : 7 < M.2.2.1) (hno : sN1 a6 = true) (hp : pc + 3 = p') (kk : sEv l M d B K p' (a0 :: a1 :: a2 :: a3 :: a4 :: a5 :: a6 :: some (.int (nI (a + n))) :: r) st h) : sEv l M d B K pc (a0 :: a1 :: a2 :: a3 :: a4 :: a5 :: a6 :: some (.int (nI a)) :: r) st h := e_iinc_7 hd hn hno (by rw [← nI_add]; rfl) hp kk
theorem e_iload_8 {a0 a1 a2 a3 a4 a5 a6 a7 : Option Value} {r : List (Option Value)} {x : Int32} (hd : decode M.2.1 pc = .ok (.iload 8, 2)) (hp : pc + 2 = p') (kk : sEv l M d B K p' (a0 :: a1 :: a2 :: a3 :: a4 :: a5 :: a6 :: a7 :: some (.int x) :: r) (.int x :: st) h) : sEv l M d B K pc (a0 :: a1 :: a2 :: a3 :: a4 :: a5 :: a6 :: a7 :: some (.int x) :: r) st h := by
  subst hp
  exact e_ld (i := 8) rfl (fun b p e R s m args below meth c H locs ls cells slots Q hx hb hl k => lv_iload hx hb hd hl k) kk
theorem e_lload_8 {a0 a1 a2 a3 a4 a5 a6 a7 : Option Value} {r : List (Option Value)} {x : Int64} (hd : decode M.2.1 pc = .ok (.lload 8, 2)) (hp : pc + 2 = p') (kk : sEv l M d B K p' (a0 :: a1 :: a2 :: a3 :: a4 :: a5 :: a6 :: a7 :: some (.long x) :: r) (.long x :: st) h) : sEv l M d B K pc (a0 :: a1 :: a2 :: a3 :: a4 :: a5 :: a6 :: a7 :: some (.long x) :: r) st h := by
  subst hp
  exact e_ld (i := 8) rfl (fun b p e R s m args below meth c H locs ls cells slots Q hx hb hl k => lv_lload hx hb hd hl k) kk
theorem e_aload_8 {a0 a1 a2 a3 a4 a5 a6 a7 : Option Value} {r : List (Option Value)} {x : Nat} (hd : decode M.2.1 pc = .ok (.aload 8, 2)) (hp : pc + 2 = p') (kk : sEv l M d B K p' (a0 :: a1 :: a2 :: a3 :: a4 :: a5 :: a6 :: a7 :: some (.ref x) :: r) (.ref x :: st) h) : sEv l M d B K pc (a0 :: a1 :: a2 :: a3 :: a4 :: a5 :: a6 :: a7 :: some (.ref x) :: r) st h := by
  subst hp
  exact e_ld (i := 8) rfl (fun b p e R s m args below meth c H locs ls cells slots Q hx hb hl k => lv_aload hx hb hd hl k) kk
theorem e_istore_8 {a0 a1 a2 a3 a4 a5 a6 a7 a8 : Option Value} {r : List (Option Value)} {x : Int32} (hd : decode M.2.1 pc = .ok (.istore 8, 2)) (hn : 8 < M.2.2.1) (hno : sN1 a7 = true) (hp : pc + 2 = p') (kk : sEv l M d B K p' (a0 :: a1 :: a2 :: a3 :: a4 :: a5 :: a6 :: a7 :: some (.int x) :: r) st h) : sEv l M d B K pc (a0 :: a1 :: a2 :: a3 :: a4 :: a5 :: a6 :: a7 :: a8 :: r) (.int x :: st) h := by
  subst hp
  exact e_st1 (i := 8) (sN1_ok (j := 7) (o := a7) rfl hno) (fun b p e R s m args below meth c H locs ls cells slots Q hx hb hl k => lv_istore hx hb hd hl hn rfl k) kk
theorem e_astore_8 {a0 a1 a2 a3 a4 a5 a6 a7 a8 : Option Value} {r : List (Option Value)} {x : Nat} (hd : decode M.2.1 pc = .ok (.astore 8, 2)) (hn : 8 < M.2.2.1) (hno : sN1 a7 = true) (hp : pc + 2 = p') (kk : sEv l M d B K p' (a0 :: a1 :: a2 :: a3 :: a4 :: a5 :: a6 :: a7 :: some (.ref x) :: r) st h) : sEv l M d B K pc (a0 :: a1 :: a2 :: a3 :: a4 :: a5 :: a6 :: a7 :: a8 :: r) (.ref x :: st) h := by
  subst hp
  exact e_st1 (i := 8) (sN1_ok (j := 7) (o := a7) rfl hno) (fun b p e R s m args below meth c H locs ls cells slots Q hx hb hl k => lv_astore hx hb hd hl hn rfl k) kk
theorem e_lstore_8 {a0 a1 a2 a3 a4 a5 a6 a7 a8 a9 : Option Value} {r : List (Option Value)} {x : Int64} (hd : decode M.2.1 pc = .ok (.lstore 8, 2)) (hn : 9 < M.2.2.1) (hno : sN1 a7 = true) (hp : pc + 2 = p') (kk : sEv l M d B K p' (a0 :: a1 :: a2 :: a3 :: a4 :: a5 :: a6 :: a7 :: some (.long x) :: none :: r) st h) : sEv l M d B K pc (a0 :: a1 :: a2 :: a3 :: a4 :: a5 :: a6 :: a7 :: a8 :: a9 :: r) (.long x :: st) h := by
  subst hp
  exact e_st2 (i := 8) (sN1_ok (j := 7) (o := a7) rfl hno) (fun b p e R s m args below meth c H locs ls cells slots Q hx hb hl k => lv_lstore hx hb hd hl hn rfl k) kk
theorem e_iinc_8 {a0 a1 a2 a3 a4 a5 a6 a7 : Option Value} {r : List (Option Value)} {x v : Int32} {n : Int} (hd : decode M.2.1 pc = .ok (.iinc 8 n, 3)) (hn : 8 < M.2.2.1) (hno : sN1 a7 = true) (hv : x + Int32.ofInt n = v) (hp : pc + 3 = p') (kk : sEv l M d B K p' (a0 :: a1 :: a2 :: a3 :: a4 :: a5 :: a6 :: a7 :: some (.int v) :: r) st h) : sEv l M d B K pc (a0 :: a1 :: a2 :: a3 :: a4 :: a5 :: a6 :: a7 :: some (.int x) :: r) st h := by
  subst hp
  exact e_inc (i := 8) rfl (sN1_ok (j := 7) (o := a7) rfl hno) (fun b p e R s m args below meth c H locs ls cells slots Q k0 hx hb hl hk k => lv_iinc hx hb hd hl hk hv hn rfl k) kk
theorem e_iincN_8 {a0 a1 a2 a3 a4 a5 a6 a7 : Option Value} {r : List (Option Value)} {a n : Nat} (hd : decode M.2.1 pc = .ok (.iinc 8 (n : Int), 3)) (hn : 8 < M.2.2.1) (hno : sN1 a7 = true) (hp : pc + 3 = p') (kk : sEv l M d B K p' (a0 :: a1 :: a2 :: a3 :: a4 :: a5 :: a6 :: a7 :: some (.int (nI (a + n))) :: r) st h) : sEv l M d B K pc (a0 :: a1 :: a2 :: a3 :: a4 :: a5 :: a6 :: a7 :: some (.int (nI a)) :: r) st h := e_iinc_8 hd hn hno (by rw [← nI_add]; rfl) hp kk
theorem e_aloadS_0 {r : List (Option Value)} {x : Nat} (hd : decode M.2.1 pc = .ok (.aload_n 0, 1)) (hp : pc + 1 = p') (kk : sEv l M d B K p' (some (.retAddr x) :: r) (.retAddr x :: st) h) : sEv l M d B K pc (some (.retAddr x) :: r) st h := by
  subst hp
  exact e_ld (i := 0) rfl (fun b p e R s m args below meth c H locs ls cells slots Q hx hb hl k => lv_aload_n hx hb hd rfl hl k) kk
theorem e_goto {off : Int} (hd : decode M.2.1 pc = .ok (.goto off, 3)) (hp : (pc : Int) + off = (p' : Int)) (kk : sEv l M d B K p' lv st h) : sEv l M d B K pc lv st h :=
  e_of (fun b p e R s m args below meth c H locs ls cells slots Q hx hb k => lv_goto hx hb hd hp k) kk
theorem e_tsOut {dflt lo hi : Int} {offs : Array Int} {len : Nat} {x : Int32} (hd : decode M.2.1 pc = .ok (.tableswitch dflt lo hi offs, len)) (hx0 : x.toInt < lo ∨ hi < x.toInt) (hp : (pc : Int) + dflt = (p' : Int)) (kk : sEv l M d B K p' lv st h) : sEv l M d B K pc lv (.int x :: st) h :=
  e_of (fun b p e R s m args below meth c H locs ls cells slots Q hx hb k => lv_tableOut hx hb hd hx0 hp k) kk
theorem e_tsIn {dflt lo hi : Int} {offs : Array Int} {len : Nat} {x : Int32} {off : Int} (hd : decode M.2.1 pc = .ok (.tableswitch dflt lo hi offs, len)) (h1 : ¬ x.toInt < lo) (h2 : ¬ hi < x.toInt) (ho : offs[(x.toInt - lo).toNat]? = some off) (hp : (pc : Int) + off = (p' : Int)) (kk : sEv l M d B K p' lv st h) : sEv l M d B K pc lv (.int x :: st) h :=
  e_of (fun b p e R s m args below meth c H locs ls cells slots Q hx hb k => lv_tableIn hx hb hd h1 h2 ho hp k) kk
theorem e_ifnonnull {a : Nat} {off : Int} (hd : decode M.2.1 pc = .ok (.ifnonnull off, 3)) (hp : (pc : Int) + off = (p' : Int)) (kk : sEv l M d B K p' lv st h) : sEv l M d B K pc lv (.ref a :: st) h :=
  e_of (fun b p e R s m args below meth c H locs ls cells slots Q hx hb k => lv_ifnonnull hx hb hd hp k) kk
theorem e_ifnonnullN {off : Int} (hd : decode M.2.1 pc = .ok (.ifnonnull off, 3)) (hp : pc + 3 = p') (kk : sEv l M d B K p' lv st h) : sEv l M d B K pc lv (.null :: st) h := by
  subst hp
  exact e_of (fun b p e R s m args below meth c H locs ls cells slots Q hx hb k => lv_ifnonnullN hx hb hd k) kk
theorem e_ifnull {a : Nat} {off : Int} (hd : decode M.2.1 pc = .ok (.ifnull off, 3)) (hp : pc + 3 = p') (kk : sEv l M d B K p' lv st h) : sEv l M d B K pc lv (.ref a :: st) h := by
  subst hp
  exact e_of (fun b p e R s m args below meth c H locs ls cells slots Q hx hb k => lv_ifnull hx hb hd k) kk
theorem e_ifnullN {off : Int} (hd : decode M.2.1 pc = .ok (.ifnull off, 3)) (hp : (pc : Int) + off = (p' : Int)) (kk : sEv l M d B K p' lv st h) : sEv l M d B K pc lv (.null :: st) h :=
  e_of (fun b p e R s m args below meth c H locs ls cells slots Q hx hb k => lv_ifnullN hx hb hd hp k) kk

theorem e_icmp_eq {x y : Int32} {off : Int} {q : Nat} (hd : decode M.2.1 pc = .ok (.if_icmp .eq off, 3)) (hq : (pc : Int) + off = (q : Int)) (hp : pc + 3 = p') (kt : x = y → sEv l M d B K q lv st h) (kf : ¬ (x = y) → sEv l M d B K p' lv st h) : sEv l M d B K pc lv (.int y :: .int x :: st) h := by
  subst hp
  intro G p e R s m args below meth c H locs ls C hR hS hL
  exact lv_icmp_eq C.1 C.2.1 hd hq (fun hc => kt hc G p e R s m args below meth c H locs ls C hR hS hL) (fun hc => kf hc G p e R s m args below meth c H locs ls C hR hS hL)
theorem e_icmpN_eq {a b : Nat} {off : Int} {q : Nat} (hd : decode M.2.1 pc = .ok (.if_icmp .eq off, 3)) (ha : a < 2 ^ 31) (hb : b < 2 ^ 31) (hq : (pc : Int) + off = (q : Int)) (hp : pc + 3 = p') (kt : a = b → sEv l M d B K q lv st h) (kf : ¬ (a = b) → sEv l M d B K p' lv st h) : sEv l M d B K pc lv (.int (nI b) :: .int (nI a) :: st) h := by
  have hi : (nI a = nI b) ↔ (a = b) := nI_eq ha hb
  exact e_icmp_eq hd hq hp (fun hc => kt (hi.mp hc)) (fun hc => kf (fun z => hc (hi.mpr z)))
theorem e_if_eq {x : Int32} {off : Int} {q : Nat} (hd : decode M.2.1 pc = .ok (.ifCond .eq off, 3)) (hq : (pc : Int) + off = (q : Int)) (hp : pc + 3 = p') (kt : x = 0 → sEv l M d B K q lv st h) (kf : ¬ (x = 0) → sEv l M d B K p' lv st h) : sEv l M d B K pc lv (.int x :: st) h := by
  subst hp
  intro G p e R s m args below meth c H locs ls C hR hS hL
  exact lv_if_eq C.1 C.2.1 hd hq (fun hc => kt hc G p e R s m args below meth c H locs ls C hR hS hL) (fun hc => kf hc G p e R s m args below meth c H locs ls C hR hS hL)
theorem e_ifN_eq {a : Nat} {off : Int} {q : Nat} (hd : decode M.2.1 pc = .ok (.ifCond .eq off, 3)) (ha : a < 2 ^ 31) (hq : (pc : Int) + off = (q : Int)) (hp : pc + 3 = p') (kt : a = 0 → sEv l M d B K q lv st h) (kf : ¬ (a = 0) → sEv l M d B K p' lv st h) : sEv l M d B K pc lv (.int (nI a) :: st) h := by
  have hi : (nI a = 0) ↔ (a = 0) := by rw [sI_zero]; exact nI_eq ha (by decide)
  exact e_if_eq hd hq hp (fun hc => kt (hi.mp hc)) (fun hc => kf (fun z => hc (hi.mpr z)))
theorem e_icmp_ne {x y : Int32} {off : Int} {q : Nat} (hd : decode M.2.1 pc = .ok (.if_icmp .ne off, 3)) (hq : (pc : Int) + off = (q : Int)) (hp : pc + 3 = p') (kt : ¬ x = y → sEv l M d B K q lv st h) (kf : x = y → sEv l M d B K p' lv st h) : sEv l M d B K pc lv (.int y :: .int x :: st) h := by
  subst hp
  intro G p e R s m args below meth c H locs ls C hR hS hL
  exact lv_icmp_ne C.1 C.2.1 hd hq (fun hc => kt hc G p e R s m args below meth c H locs ls C hR hS hL) (fun hc => kf hc G p e R s m args below meth c H locs ls C hR hS hL)
theorem e_icmpN_ne {a b : Nat} {off : Int} {q : Nat} (hd : decode M.2.1 pc = .ok (.if_icmp .ne off, 3)) (ha : a < 2 ^ 31) (hb : b < 2 ^ 31) (hq : (pc : Int) + off = (q : Int)) (hp : pc + 3 = p') (kt : ¬ a = b → sEv l M d B K q lv st h) (kf : a = b → sEv l M d B K p' lv st h) : sEv l M d B K pc lv (.int (nI b) :: .int (nI a) :: st) h := by
  have hi : (¬ nI a = nI b) ↔ (¬ a = b) := not_congr (nI_eq ha hb)
  exact e_icmp_ne hd hq hp (fun hc => kt (hi.mp hc)) (fun hc => kf (by rw [← Decidable.not_not (p := (a = b))]; exact fun z => (hi.mpr z) hc))
theorem e_if_ne {x : Int32} {off : Int} {q : Nat} (hd : decode M.2.1 pc = .ok (.ifCond .ne off, 3)) (hq : (pc : Int) + off = (q : Int)) (hp : pc + 3 = p') (kt : ¬ x = 0 → sEv l M d B K q lv st h) (kf : x = 0 → sEv l M d B K p' lv st h) : sEv l M d B K pc lv (.int x :: st) h := by
  subst hp
  intro G p e R s m args below meth c H locs ls C hR hS hL
  exact lv_if_ne C.1 C.2.1 hd hq (fun hc => kt hc G p e R s m args below meth c H locs ls C hR hS hL) (fun hc => kf hc G p e R s m args below meth c H locs ls C hR hS hL)
theorem e_ifN_ne {a : Nat} {off : Int} {q : Nat} (hd : decode M.2.1 pc = .ok (.ifCond .ne off, 3)) (ha : a < 2 ^ 31) (hq : (pc : Int) + off = (q : Int)) (hp : pc + 3 = p') (kt : ¬ a = 0 → sEv l M d B K q lv st h) (kf : a = 0 → sEv l M d B K p' lv st h) : sEv l M d B K pc lv (.int (nI a) :: st) h := by
  have hi : (¬ nI a = 0) ↔ (¬ a = 0) := by rw [sI_zero]; exact not_congr (nI_eq ha (by decide))
  exact e_if_ne hd hq hp (fun hc => kt (hi.mp hc)) (fun hc => kf (by rw [← Decidable.not_not (p := (a = 0))]; exact fun z => (hi.mpr z) hc))
theorem e_icmp_lt {x y : Int32} {off : Int} {q : Nat} (hd : decode M.2.1 pc = .ok (.if_icmp .lt off, 3)) (hq : (pc : Int) + off = (q : Int)) (hp : pc + 3 = p') (kt : x < y → sEv l M d B K q lv st h) (kf : ¬ (x < y) → sEv l M d B K p' lv st h) : sEv l M d B K pc lv (.int y :: .int x :: st) h := by
  subst hp
  intro G p e R s m args below meth c H locs ls C hR hS hL
  exact lv_icmp_lt C.1 C.2.1 hd hq (fun hc => kt hc G p e R s m args below meth c H locs ls C hR hS hL) (fun hc => kf hc G p e R s m args below meth c H locs ls C hR hS hL)
theorem e_icmpN_lt {a b : Nat} {off : Int} {q : Nat} (hd : decode M.2.1 pc = .ok (.if_icmp .lt off, 3)) (ha : a < 2 ^ 31) (hb : b < 2 ^ 31) (hq : (pc : Int) + off = (q : Int)) (hp : pc + 3 = p') (kt : a < b → sEv l M d B K q lv st h) (kf : ¬ (a < b) → sEv l M d B K p' lv st h) : sEv l M d B K pc lv (.int (nI b) :: .int (nI a) :: st) h := by
  have hi : (nI a < nI b) ↔ (a < b) := nI_ltI ha hb
  exact e_icmp_lt hd hq hp (fun hc => kt (hi.mp hc)) (fun hc => kf (fun z => hc (hi.mpr z)))
theorem e_if_lt {x : Int32} {off : Int} {q : Nat} (hd : decode M.2.1 pc = .ok (.ifCond .lt off, 3)) (hq : (pc : Int) + off = (q : Int)) (hp : pc + 3 = p') (kt : x < 0 → sEv l M d B K q lv st h) (kf : ¬ (x < 0) → sEv l M d B K p' lv st h) : sEv l M d B K pc lv (.int x :: st) h := by
  subst hp
  intro G p e R s m args below meth c H locs ls C hR hS hL
  exact lv_if_lt C.1 C.2.1 hd hq (fun hc => kt hc G p e R s m args below meth c H locs ls C hR hS hL) (fun hc => kf hc G p e R s m args below meth c H locs ls C hR hS hL)
theorem e_ifN_lt {a : Nat} {off : Int} {q : Nat} (hd : decode M.2.1 pc = .ok (.ifCond .lt off, 3)) (ha : a < 2 ^ 31) (hq : (pc : Int) + off = (q : Int)) (hp : pc + 3 = p') (kt : a < 0 → sEv l M d B K q lv st h) (kf : ¬ (a < 0) → sEv l M d B K p' lv st h) : sEv l M d B K pc lv (.int (nI a) :: st) h := by
  have hi : (nI a < 0) ↔ (a < 0) := by rw [sI_zero]; exact nI_ltI ha (by decide)
  exact e_if_lt hd hq hp (fun hc => kt (hi.mp hc)) (fun hc => kf (fun z => hc (hi.mpr z)))
theorem e_icmp_ge {x y : Int32} {off : Int} {q : Nat} (hd : decode M.2.1 pc = .ok (.if_icmp .ge off, 3)) (hq : (pc : Int) + off = (q : Int)) (hp : pc + 3 = p') (kt : y ≤ x → sEv l M d B K q lv st h) (kf : ¬ (y ≤ x) → sEv l M d B K p' lv st h) : sEv l M d B K pc lv (.int y :: .int x :: st) h := by
  subst hp
  intro G p e R s m args below meth c H locs ls C hR hS hL
  exact lv_icmp_ge C.1 C.2.1 hd hq (fun hc => kt hc G p e R s m args below meth c H locs ls C hR hS hL) (fun hc => kf hc G p e R s m args below meth c H locs ls C hR hS hL)
theorem e_icmpN_ge {a b : Nat} {off : Int} {q : Nat} (hd : decode M.2.1 pc = .ok (.if_icmp .ge off, 3)) (ha : a < 2 ^ 31) (hb : b < 2 ^ 31) (hq : (pc : Int) + off = (q : Int)) (hp : pc + 3 = p') (kt : b ≤ a → sEv l M d B K q lv st h) (kf : ¬ (b ≤ a) → sEv l M d B K p' lv st h) : sEv l M d B K pc lv (.int (nI b) :: .int (nI a) :: st) h := by
  have hi : (nI b ≤ nI a) ↔ (b ≤ a) := nI_leI hb ha
  exact e_icmp_ge hd hq hp (fun hc => kt (hi.mp hc)) (fun hc => kf (fun z => hc (hi.mpr z)))
theorem e_if_ge {x : Int32} {off : Int} {q : Nat} (hd : decode M.2.1 pc = .ok (.ifCond .ge off, 3)) (hq : (pc : Int) + off = (q : Int)) (hp : pc + 3 = p') (kt : 0 ≤ x → sEv l M d B K q lv st h) (kf : ¬ (0 ≤ x) → sEv l M d B K p' lv st h) : sEv l M d B K pc lv (.int x :: st) h := by
  subst hp
  intro G p e R s m args below meth c H locs ls C hR hS hL
  exact lv_if_ge C.1 C.2.1 hd hq (fun hc => kt hc G p e R s m args below meth c H locs ls C hR hS hL) (fun hc => kf hc G p e R s m args below meth c H locs ls C hR hS hL)
theorem e_ifN_ge {a : Nat} {off : Int} {q : Nat} (hd : decode M.2.1 pc = .ok (.ifCond .ge off, 3)) (ha : a < 2 ^ 31) (hq : (pc : Int) + off = (q : Int)) (hp : pc + 3 = p') (kt : 0 ≤ a → sEv l M d B K q lv st h) (kf : ¬ (0 ≤ a) → sEv l M d B K p' lv st h) : sEv l M d B K pc lv (.int (nI a) :: st) h := by
  have hi : (0 ≤ nI a) ↔ (0 ≤ a) := by rw [sI_zero]; exact nI_leI (by decide) ha
  exact e_if_ge hd hq hp (fun hc => kt (hi.mp hc)) (fun hc => kf (fun z => hc (hi.mpr z)))
theorem e_icmp_gt {x y : Int32} {off : Int} {q : Nat} (hd : decode M.2.1 pc = .ok (.if_icmp .gt off, 3)) (hq : (pc : Int) + off = (q : Int)) (hp : pc + 3 = p') (kt : y < x → sEv l M d B K q lv st h) (kf : ¬ (y < x) → sEv l M d B K p' lv st h) : sEv l M d B K pc lv (.int y :: .int x :: st) h := by
  subst hp
  intro G p e R s m args below meth c H locs ls C hR hS hL
  exact lv_icmp_gt C.1 C.2.1 hd hq (fun hc => kt hc G p e R s m args below meth c H locs ls C hR hS hL) (fun hc => kf hc G p e R s m args below meth c H locs ls C hR hS hL)
theorem e_icmpN_gt {a b : Nat} {off : Int} {q : Nat} (hd : decode M.2.1 pc = .ok (.if_icmp .gt off, 3)) (ha : a < 2 ^ 31) (hb : b < 2 ^ 31) (hq : (pc : Int) + off = (q : Int)) (hp : pc + 3 = p') (kt : b < a → sEv l M d B K q lv st h) (kf : ¬ (b < a) → sEv l M d B K p' lv st h) : sEv l M d B K pc lv (.int (nI b) :: .int (nI a) :: st) h := by
  have hi : (nI b < nI a) ↔ (b < a) := nI_ltI hb ha
  exact e_icmp_gt hd hq hp (fun hc => kt (hi.mp hc)) (fun hc => kf (fun z => hc (hi.mpr z)))
theorem e_if_gt {x : Int32} {off : Int} {q : Nat} (hd : decode M.2.1 pc = .ok (.ifCond .gt off, 3)) (hq : (pc : Int) + off = (q : Int)) (hp : pc + 3 = p') (kt : 0 < x → sEv l M d B K q lv st h) (kf : ¬ (0 < x) → sEv l M d B K p' lv st h) : sEv l M d B K pc lv (.int x :: st) h := by
  subst hp
  intro G p e R s m args below meth c H locs ls C hR hS hL
  exact lv_if_gt C.1 C.2.1 hd hq (fun hc => kt hc G p e R s m args below meth c H locs ls C hR hS hL) (fun hc => kf hc G p e R s m args below meth c H locs ls C hR hS hL)
theorem e_ifN_gt {a : Nat} {off : Int} {q : Nat} (hd : decode M.2.1 pc = .ok (.ifCond .gt off, 3)) (ha : a < 2 ^ 31) (hq : (pc : Int) + off = (q : Int)) (hp : pc + 3 = p') (kt : 0 < a → sEv l M d B K q lv st h) (kf : ¬ (0 < a) → sEv l M d B K p' lv st h) : sEv l M d B K pc lv (.int (nI a) :: st) h := by
  have hi : (0 < nI a) ↔ (0 < a) := by rw [sI_zero]; exact nI_ltI (by decide) ha
  exact e_if_gt hd hq hp (fun hc => kt (hi.mp hc)) (fun hc => kf (fun z => hc (hi.mpr z)))
theorem e_icmp_le {x y : Int32} {off : Int} {q : Nat} (hd : decode M.2.1 pc = .ok (.if_icmp .le off, 3)) (hq : (pc : Int) + off = (q : Int)) (hp : pc + 3 = p') (kt : x ≤ y → sEv l M d B K q lv st h) (kf : ¬ (x ≤ y) → sEv l M d B K p' lv st h) : sEv l M d B K pc lv (.int y :: .int x :: st) h := by
  subst hp
  intro G p e R s m args below meth c H locs ls C hR hS hL
  exact lv_icmp_le C.1 C.2.1 hd hq (fun hc => kt hc G p e R s m args below meth c H locs ls C hR hS hL) (fun hc => kf hc G p e R s m args below meth c H locs ls C hR hS hL)
theorem e_icmpN_le {a b : Nat} {off : Int} {q : Nat} (hd : decode M.2.1 pc = .ok (.if_icmp .le off, 3)) (ha : a < 2 ^ 31) (hb : b < 2 ^ 31) (hq : (pc : Int) + off = (q : Int)) (hp : pc + 3 = p') (kt : a ≤ b → sEv l M d B K q lv st h) (kf : ¬ (a ≤ b) → sEv l M d B K p' lv st h) : sEv l M d B K pc lv (.int (nI b) :: .int (nI a) :: st) h := by
  have hi : (nI a ≤ nI b) ↔ (a ≤ b) := nI_leI ha hb
  exact e_icmp_le hd hq hp (fun hc => kt (hi.mp hc)) (fun hc => kf (fun z => hc (hi.mpr z)))
theorem e_if_le {x : Int32} {off : Int} {q : Nat} (hd : decode M.2.1 pc = .ok (.ifCond .le off, 3)) (hq : (pc : Int) + off = (q : Int)) (hp : pc + 3 = p') (kt : x ≤ 0 → sEv l M d B K q lv st h) (kf : ¬ (x ≤ 0) → sEv l M d B K p' lv st h) : sEv l M d B K pc lv (.int x :: st) h := by
  subst hp
  intro G p e R s m args below meth c H locs ls C hR hS hL
  exact lv_if_le C.1 C.2.1 hd hq (fun hc => kt hc G p e R s m args below meth c H locs ls C hR hS hL) (fun hc => kf hc G p e R s m args below meth c H locs ls C hR hS hL)
theorem e_ifN_le {a : Nat} {off : Int} {q : Nat} (hd : decode M.2.1 pc = .ok (.ifCond .le off, 3)) (ha : a < 2 ^ 31) (hq : (pc : Int) + off = (q : Int)) (hp : pc + 3 = p') (kt : a ≤ 0 → sEv l M d B K q lv st h) (kf : ¬ (a ≤ 0) → sEv l M d B K p' lv st h) : sEv l M d B K pc lv (.int (nI a) :: st) h := by
  have hi : (nI a ≤ 0) ↔ (a ≤ 0) := by rw [sI_zero]; exact nI_leI ha (by decide)
  exact e_if_le hd hq hp (fun hc => kt (hi.mp hc)) (fun hc => kf (fun z => hc (hi.mpr z)))
theorem e_ifB_eq {b : Bool} {off : Int} {q : Nat} (hd : decode M.2.1 pc = .ok (.ifCond .eq off, 3)) (hq : (pc : Int) + off = (q : Int)) (hp : pc + 3 = p') (kt : b = false → sEv l M d B K q lv st h) (kf : b = true → sEv l M d B K p' lv st h) : sEv l M d B K pc lv (.int (sBo b) :: st) h :=
  e_if_eq hd hq hp (fun hc => kt (sBo_0.mp hc)) (fun hc => kf (by cases b with | true => rfl | false => exact absurd rfl hc))
theorem e_ifB_ne {b : Bool} {off : Int} {q : Nat} (hd : decode M.2.1 pc = .ok (.ifCond .ne off, 3)) (hq : (pc : Int) + off = (q : Int)) (hp : pc + 3 = p') (kt : b = true → sEv l M d B K q lv st h) (kf : b = false → sEv l M d B K p' lv st h) : sEv l M d B K pc lv (.int (sBo b) :: st) h :=
  e_if_ne hd hq hp (fun hc => kt (by cases b with | true => rfl | false => exact absurd rfl hc)) (fun hc => kf (sBo_0.mp hc))
end RULES
