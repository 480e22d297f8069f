/-! ===== more rules: high locals, further instructions, the script in a callee ===== -/
section RULES
variable {l : Launch} {M : sM} {d : Nat} {B : sB} {K : sK} {pc p' : Nat} {lv : List (Option Value)} {st : List Value} {h : sH}
theorem e_iload_9 {a0 a1 a2 a3 a4 a5 a6 a7 a8 : Option Value} {r : List (Option Value)} {x : Int32} (hd : decode M.2.1 pc = .ok (.iload 9, 2)) (hp : pc + 2 = p') (kk : sEv l M d B K p' (a0 :: a1 :: a2 :: a3 :: a4 :: a5 :: a6 :: a7 :: a8 :: some (.int x) :: r) (.int x :: st) h) : sEv l M d B K pc (a0 :: a1 :: a2 :: a3 :: a4 :: a5 :: a6 :: a7 :: a8 :: some (.int x) :: r) st h := by
  subst hp
  exact e_ld (i := 9) rfl (fun b p e R s m args below meth c H locs ls cells slots Q hx hb hl k => lv_iload hx hb hd hl k) kk
theorem e_lload_9 {a0 a1 a2 a3 a4 a5 a6 a7 a8 : Option Value} {r : List (Option Value)} {x : Int64} (hd : decode M.2.1 pc = .ok (.lload 9, 2)) (hp : pc + 2 = p') (kk : sEv l M d B K p' (a0 :: a1 :: a2 :: a3 :: a4 :: a5 :: a6 :: a7 :: a8 :: some (.long x) :: r) (.long x :: st) h) : sEv l M d B K pc (a0 :: a1 :: a2 :: a3 :: a4 :: a5 :: a6 :: a7 :: a8 :: some (.long x) :: r) st h := by
  subst hp
  exact e_ld (i := 9) rfl (fun b p e R s m args below meth c H locs ls cells slots Q hx hb hl k => lv_lload hx hb hd hl k) kk
theorem e_istore_9 {a0 a1 a2 a3 a4 a5 a6 a7 a8 a9 : Option Value} {r : List (Option Value)} {x : Int32} (hd : decode M.2.1 pc = .ok (.istore 9, 2)) (hn : 9 < M.2.2.1) (hno : sN1 a8 = true) (hp : pc + 2 = p') (kk : sEv l M d B K p' (a0 :: a1 :: a2 :: a3 :: a4 :: a5 :: a6 :: a7 :: a8 :: some (.int x) :: r) st h) : sEv l M d B K pc (a0 :: a1 :: a2 :: a3 :: a4 :: a5 :: a6 :: a7 :: a8 :: a9 :: r) (.int x :: st) h := by
  subst hp
  exact e_st1 (i := 9) (sN1_ok (j := 8) (o := a8) rfl hno) (fun b p e R s m args below meth c H locs ls cells slots Q hx hb hl k => lv_istore hx hb hd hl hn rfl k) kk
theorem e_lstore_9 {a0 a1 a2 a3 a4 a5 a6 a7 a8 a9 a10 : Option Value} {r : List (Option Value)} {x : Int64} (hd : decode M.2.1 pc = .ok (.lstore 9, 2)) (hn : 10 < M.2.2.1) (hno : sN1 a8 = true) (hp : pc + 2 = p') (kk : sEv l M d B K p' (a0 :: a1 :: a2 :: a3 :: a4 :: a5 :: a6 :: a7 :: a8 :: some (.long x) :: none :: r) st h) : sEv l M d B K pc (a0 :: a1 :: a2 :: a3 :: a4 :: a5 :: a6 :: a7 :: a8 :: a9 :: a10 :: r) (.long x :: st) h := by
  subst hp
  exact e_st2 (i := 9) (sN1_ok (j := 8) (o := a8) rfl hno) (fun b p e R s m args below meth c H locs ls cells slots Q hx hb hl k => lv_lstore hx hb hd hl hn rfl k) kk
theorem e_iinc_9 {a0 a1 a2 a3 a4 a5 a6 a7 a8 : Option Value} {r : List (Option Value)} {x v : Int32} {n : Int} (hd : decode M.2.1 pc = .ok (.iinc 9 n, 3)) (hn : 9 < M.2.2.1) (hno : sN1 a8 = true) (hv : x + Int32.ofInt n = v) (hp : pc + 3 = p') (kk : sEv l M d B K p' (a0 :: a1 :: a2 :: a3 :: a4 :: a5 :: a6 :: a7 :: a8 :: some (.int v) :: r) st h) : sEv l M d B K pc (a0 :: a1 :: a2 :: a3 :: a4 :: a5 :: a6 :: a7 :: a8 :: some (.int x) :: r) st h := by
  subst hp
  exact e_inc (i := 9) rfl (sN1_ok (j := 8) (o := a8) rfl hno) (fun b p e R s m args below meth c H locs ls cells slots Q k0 hx hb hl hk k => lv_iinc hx hb hd hl hk hv hn rfl k) kk
theorem e_iincN_9 {a0 a1 a2 a3 a4 a5 a6 a7 a8 : Option Value} {r : List (Option Value)} {a n : Nat} (hd : decode M.2.1 pc = .ok (.iinc 9 (n : Int), 3)) (hn : 9 < M.2.2.1) (hno : sN1 a8 = true) (hp : pc + 3 = p') (kk : sEv l M d B K p' (a0 :: a1 :: a2 :: a3 :: a4 :: a5 :: a6 :: a7 :: a8 :: some (.int (nI (a + n))) :: r) st h) : sEv l M d B K pc (a0 :: a1 :: a2 :: a3 :: a4 :: a5 :: a6 :: a7 :: a8 :: some (.int (nI a)) :: r) st h := e_iinc_9 hd hn hno (by rw [← nI_add]; rfl) hp kk
theorem e_iload_10 {a0 a1 a2 a3 a4 a5 a6 a7 a8 a9 : Option Value} {r : List (Option Value)} {x : Int32} (hd : decode M.2.1 pc = .ok (.iload 10, 2)) (hp : pc + 2 = p') (kk : sEv l M d B K p' (a0 :: a1 :: a2 :: a3 :: a4 :: a5 :: a6 :: a7 :: a8 :: a9 :: some (.int x) :: r) (.int x :: st) h) : sEv l M d B K pc (a0 :: a1 :: a2 :: a3 :: a4 :: a5 :: a6 :: a7 :: a8 :: a9 :: some (.int x) :: r) st h := by
  subst hp
  exact e_ld (i := 10) rfl (fun b p e R s m args below meth c H locs ls cells slots Q hx hb hl k => lv_iload hx hb hd hl k) kk
theorem e_lload_10 {a0 a1 a2 a3 a4 a5 a6 a7 a8 a9 : Option Value} {r : List (Option Value)} {x : Int64} (hd : decode M.2.1 pc = .ok (.lload 10, 2)) (hp : pc + 2 = p') (kk : sEv l M d B K p' (a0 :: a1 :: a2 :: a3 :: a4 :: a5 :: a6 :: a7 :: a8 :: a9 :: some (.long x) :: r) (.long x :: st) h) : sEv l M d B K pc (a0 :: a1 :: a2 :: a3 :: a4 :: a5 :: a6 :: a7 :: a8 :: a9 :: some (.long x) :: r) st h := by
  subst hp
  exact e_ld (i := 10) rfl (fun b p e R s m args below meth c H locs ls cells slots Q hx hb hl k => lv_lload hx hb hd hl k) kk
theorem e_istore_10 {a0 a1 a2 a3 a4 a5 a6 a7 a8 a9 a10 : Option Value} {r : List (Option Value)} {x : Int32} (hd : decode M.2.1 pc = .ok (.istore 10, 2)) (hn : 10 < M.2.2.1) (hno : sN1 a9 = true) (hp : pc + 2 = p') (kk : sEv l M d B K p' (a0 :: a1 :: a2 :: a3 :: a4 :: a5 :: a6 :: a7 :: a8 :: a9 :: some (.int x) :: r) st h) : sEv l M d B K pc (a0 :: a1 :: a2 :: a3 :: a4 :: a5 :: a6 :: a7 :: a8 :: a9 :: a10 :: r) (.int x :: st) h := by
  subst hp
  exact e_st1 (i := 10) (sN1_ok (j := 9) (o := a9) rfl hno) (fun b p e R s m args below meth c H locs ls cells slots Q hx hb hl k => lv_istore hx hb hd hl hn rfl k) kk
theorem e_lstore_10 {a0 a1 a2 a3 a4 a5 a6 a7 a8 a9 a10 a11 : Option Value} {r : List (Option Value)} {x : Int64} (hd : decode M.2.1 pc = .ok (.lstore 10, 2)) (hn : 11 < M.2.2.1) (hno : sN1 a9 = true) (hp : pc + 2 = p') (kk : sEv l M d B K p' (a0 :: a1 :: a2 :: a3 :: a4 :: a5 :: a6 :: a7 :: a8 :: a9 :: some (.long x) :: none :: r) st h) : sEv l M d B K pc (a0 :: a1 :: a2 :: a3 :: a4 :: a5 :: a6 :: a7 :: a8 :: a9 :: a10 :: a11 :: r) (.long x :: st) h := by
  subst hp
  exact e_st2 (i := 10) (sN1_ok (j := 9) (o := a9) rfl hno) (fun b p e R s m args below meth c H locs ls cells slots Q hx hb hl k => lv_lstore hx hb hd hl hn rfl k) kk
theorem e_iinc_10 {a0 a1 a2 a3 a4 a5 a6 a7 a8 a9 : Option Value} {r : List (Option Value)} {x v : Int32} {n : Int} (hd : decode M.2.1 pc = .ok (.iinc 10 n, 3)) (hn : 10 < M.2.2.1) (hno : sN1 a9 = true) (hv : x + Int32.ofInt n = v) (hp : pc + 3 = p') (kk : sEv l M d B K p' (a0 :: a1 :: a2 :: a3 :: a4 :: a5 :: a6 :: a7 :: a8 :: a9 :: some (.int v) :: r) st h) : sEv l M d B K pc (a0 :: a1 :: a2 :: a3 :: a4 :: a5 :: a6 :: a7 :: a8 :: a9 :: some (.int x) :: r) st h := by
  subst hp
  exact e_inc (i := 10) rfl (sN1_ok (j := 9) (o := a9) rfl hno) (fun b p e R s m args below meth c H locs ls cells slots Q k0 hx hb hl hk k => lv_iinc hx hb hd hl hk hv hn rfl k) kk
theorem e_iincN_10 {a0 a1 a2 a3 a4 a5 a6 a7 a8 a9 : Option Value} {r : List (Option Value)} {a n : Nat} (hd : decode M.2.1 pc = .ok (.iinc 10 (n : Int), 3)) (hn : 10 < M.2.2.1) (hno : sN1 a9 = true) (hp : pc + 3 = p') (kk : sEv l M d B K p' (a0 :: a1 :: a2 :: a3 :: a4 :: a5 :: a6 :: a7 :: a8 :: a9 :: some (.int (nI (a + n))) :: r) st h) : sEv l M d B K pc (a0 :: a1 :: a2 :: a3 :: a4 :: a5 :: a6 :: a7 :: a8 :: a9 :: some (.int (nI a)) :: r) st h := e_iinc_10 hd hn hno (by rw [← nI_add]; rfl) hp kk
theorem e_iload_11 {a0 a1 a2 a3 a4 a5 a6 a7 a8 a9 a10 : Option Value} {r : List (Option Value)} {x : Int32} (hd : decode M.2.1 pc = .ok (.iload 11, 2)) (hp : pc + 2 = p') (kk : sEv l M d B K p' (a0 :: a1 :: a2 :: a3 :: a4 :: a5 :: a6 :: a7 :: a8 :: a9 :: a10 :: some (.int x) :: r) (.int x :: st) h) : sEv l M d B K pc (a0 :: a1 :: a2 :: a3 :: a4 :: a5 :: a6 :: a7 :: a8 :: a9 :: a10 :: some (.int x) :: r) st h := by
  subst hp
  exact e_ld (i := 11) rfl (fun b p e R s m args below meth c H locs ls cells slots Q hx hb hl k => lv_iload hx hb hd hl k) kk
theorem e_lload_11 {a0 a1 a2 a3 a4 a5 a6 a7 a8 a9 a10 : Option Value} {r : List (Option Value)} {x : Int64} (hd : decode M.2.1 pc = .ok (.lload 11, 2)) (hp : pc + 2 = p') (kk : sEv l M d B K p' (a0 :: a1 :: a2 :: a3 :: a4 :: a5 :: a6 :: a7 :: a8 :: a9 :: a10 :: some (.long x) :: r) (.long x :: st) h) : sEv l M d B K pc (a0 :: a1 :: a2 :: a3 :: a4 :: a5 :: a6 :: a7 :: a8 :: a9 :: a10 :: some (.long x) :: r) st h := by
  subst hp
  exact e_ld (i := 11) rfl (fun b p e R s m args below meth c H locs ls cells slots Q hx hb hl k => lv_lload hx hb hd hl k) kk
theorem e_istore_11 {a0 a1 a2 a3 a4 a5 a6 a7 a8 a9 a10 a11 : Option Value} {r : List (Option Value)} {x : Int32} (hd : decode M.2.1 pc = .ok (.istore 11, 2)) (hn : 11 < M.2.2.1) (hno : sN1 a10 = true) (hp : pc + 2 = p') (kk : sEv l M d B K p' (a0 :: a1 :: a2 :: a3 :: a4 :: a5 :: a6 :: a7 :: a8 :: a9 :: a10 :: some (.int x) :: r) st h) : sEv l M d B K pc (a0 :: a1 :: a2 :: a3 :: a4 :: a5 :: a6 :: a7 :: a8 :: a9 :: a10 :: a11 :: r) (.int x :: st) h := by
  subst hp
  exact e_st1 (i := 11) (sN1_ok (j := 10) (o := a10) rfl hno) (fun b p e R s m args below meth c H locs ls cells slots Q hx hb hl k => lv_istore hx hb hd hl hn rfl k) kk
theorem e_lstore_11 {a0 a1 a2 a3 a4 a5 a6 a7 a8 a9 a10 a11 a12 : Option Value} {r : List (Option Value)} {x : Int64} (hd : decode M.2.1 pc = .ok (.lstore 11, 2)) (hn : 12 < M.2.2.1) (hno : sN1 a10 = true) (hp : pc + 2 = p') (kk : sEv l M d B K p' (a0 :: a1 :: a2 :: a3 :: a4 :: a5 :: a6 :: a7 :: a8 :: a9 :: a10 :: some (.long x) :: none :: r) st h) : sEv l M d B K pc (a0 :: a1 :: a2 :: a3 :: a4 :: a5 :: a6 :: a7 :: a8 :: a9 :: a10 :: a11 :: a12 :: r) (.long x :: st) h := by
  subst hp
  exact e_st2 (i := 11) (sN1_ok (j := 10) (o := a10) rfl hno) (fun b p e R s m args below meth c H locs ls cells slots Q hx hb hl k => lv_lstore hx hb hd hl hn rfl k) kk
theorem e_iinc_11 {a0 a1 a2 a3 a4 a5 a6 a7 a8 a9 a10 : Option Value} {r : List (Option Value)} {x v : Int32} {n : Int} (hd : decode M.2.1 pc = .ok (.iinc 11 n, 3)) (hn : 11 < M.2.2.1) (hno : sN1 a10 = true) (hv : x + Int32.ofInt n = v) (hp : pc + 3 = p') (kk : sEv l M d B K p' (a0 :: a1 :: a2 :: a3 :: a4 :: a5 :: a6 :: a7 :: a8 :: a9 :: a10 :: some (.int v) :: r) st h) : sEv l M d B K pc (a0 :: a1 :: a2 :: a3 :: a4 :: a5 :: a6 :: a7 :: a8 :: a9 :: a10 :: some (.int x) :: r) st h := by
  subst hp
  exact e_inc (i := 11) rfl (sN1_ok (j := 10) (o := a10) rfl hno) (fun b p e R s m args below meth c H locs ls cells slots Q k0 hx hb hl hk k => lv_iinc hx hb hd hl hk hv hn rfl k) kk
theorem e_iincN_11 {a0 a1 a2 a3 a4 a5 a6 a7 a8 a9 a10 : Option Value} {r : List (Option Value)} {a n : Nat} (hd : decode M.2.1 pc = .ok (.iinc 11 (n : Int), 3)) (hn : 11 < M.2.2.1) (hno : sN1 a10 = true) (hp : pc + 3 = p') (kk : sEv l M d B K p' (a0 :: a1 :: a2 :: a3 :: a4 :: a5 :: a6 :: a7 :: a8 :: a9 :: a10 :: some (.int (nI (a + n))) :: r) st h) : sEv l M d B K pc (a0 :: a1 :: a2 :: a3 :: a4 :: a5 :: a6 :: a7 :: a8 :: a9 :: a10 :: some (.int (nI a)) :: r) st h := e_iinc_11 hd hn hno (by rw [← nI_add]; rfl) hp kk
theorem e_iload_12 {a0 a1 a2 a3 a4 a5 a6 a7 a8 a9 a10 a11 : Option Value} {r : List (Option Value)} {x : Int32} (hd : decode M.2.1 pc = .ok (.iload 12, 2)) (hp : pc + 2 = p') (kk : sEv l M d B K p' (a0 :: a1 :: a2 :: a3 :: a4 :: a5 :: a6 :: a7 :: a8 :: a9 :: a10 :: a11 :: some (.int x) :: r) (.int x :: st) h) : sEv l M d B K pc (a0 :: a1 :: a2 :: a3 :: a4 :: a5 :: a6 :: a7 :: a8 :: a9 :: a10 :: a11 :: some (.int x) :: r) st h := by
  subst hp
  exact e_ld (i := 12) rfl (fun b p e R s m args below meth c H locs ls cells slots Q hx hb hl k => lv_iload hx hb hd hl k) kk
theorem e_lload_12 {a0 a1 a2 a3 a4 a5 a6 a7 a8 a9 a10 a11 : Option Value} {r : List (Option Value)} {x : Int64} (hd : decode M.2.1 pc = .ok (.lload 12, 2)) (hp : pc + 2 = p') (kk : sEv l M d B K p' (a0 :: a1 :: a2 :: a3 :: a4 :: a5 :: a6 :: a7 :: a8 :: a9 :: a10 :: a11 :: some (.long x) :: r) (.long x :: st) h) : sEv l M d B K pc (a0 :: a1 :: a2 :: a3 :: a4 :: a5 :: a6 :: a7 :: a8 :: a9 :: a10 :: a11 :: some (.long x) :: r) st h := by
  subst hp
  exact e_ld (i := 12) rfl (fun b p e R s m args below meth c H locs ls cells slots Q hx hb hl k => lv_lload hx hb hd hl k) kk
theorem e_istore_12 {a0 a1 a2 a3 a4 a5 a6 a7 a8 a9 a10 a11 a12 : Option Value} {r : List (Option Value)} {x : Int32} (hd : decode M.2.1 pc = .ok (.istore 12, 2)) (hn : 12 < M.2.2.1) (hno : sN1 a11 = true) (hp : pc + 2 = p') (kk : sEv l M d B K p' (a0 :: a1 :: a2 :: a3 :: a4 :: a5 :: a6 :: a7 :: a8 :: a9 :: a10 :: a11 :: some (.int x) :: r) st h) : sEv l M d B K pc (a0 :: a1 :: a2 :: a3 :: a4 :: a5 :: a6 :: a7 :: a8 :: a9 :: a10 :: a11 :: a12 :: r) (.int x :: st) h := by
  subst hp
  exact e_st1 (i := 12) (sN1_ok (j := 11) (o := a11) rfl hno) (fun b p e R s m args below meth c H locs ls cells slots Q hx hb hl k => lv_istore hx hb hd hl hn rfl k) kk
theorem e_lstore_12 {a0 a1 a2 a3 a4 a5 a6 a7 a8 a9 a10 a11 a12 a13 : Option Value} {r : List (Option Value)} {x : Int64} (hd : decode M.2.1 pc = .ok (.lstore 12, 2)) (hn : 13 < M.2.2.1) (hno : sN1 a11 = true) (hp : pc + 2 = p') (kk : sEv l M d B K p' (a0 :: a1 :: a2 :: a3 :: a4 :: a5 :: a6 :: a7 :: a8 :: a9 :: a10 :: a11 :: some (.long x) :: none :: r) st h) : sEv l M d B K pc (a0 :: a1 :: a2 :: a3 :: a4 :: a5 :: a6 :: a7 :: a8 :: a9 :: a10 :: a11 :: a12 :: a13 :: r) (.long x :: st) h := by
  subst hp
  exact e_st2 (i := 12) (sN1_ok (j := 11) (o := a11) rfl hno) (fun b p e R s m args below meth c H locs ls cells slots Q hx hb hl k => lv_lstore hx hb hd hl hn rfl k) kk
theorem e_iinc_12 {a0 a1 a2 a3 a4 a5 a6 a7 a8 a9 a10 a11 : Option Value} {r : List (Option Value)} {x v : Int32} {n : Int} (hd : decode M.2.1 pc = .ok (.iinc 12 n, 3)) (hn : 12 < M.2.2.1) (hno : sN1 a11 = true) (hv : x + Int32.ofInt n = v) (hp : pc + 3 = p') (kk : sEv l M d B K p' (a0 :: a1 :: a2 :: a3 :: a4 :: a5 :: a6 :: a7 :: a8 :: a9 :: a10 :: a11 :: some (.int v) :: r) st h) : sEv l M d B K pc (a0 :: a1 :: a2 :: a3 :: a4 :: a5 :: a6 :: a7 :: a8 :: a9 :: a10 :: a11 :: some (.int x) :: r) st h := by
  subst hp
  exact e_inc (i := 12) rfl (sN1_ok (j := 11) (o := a11) rfl hno) (fun b p e R s m args below meth c H locs ls cells slots Q k0 hx hb hl hk k => lv_iinc hx hb hd hl hk hv hn rfl k) kk
theorem e_iincN_12 {a0 a1 a2 a3 a4 a5 a6 a7 a8 a9 a10 a11 : Option Value} {r : List (Option Value)} {a n : Nat} (hd : decode M.2.1 pc = .ok (.iinc 12 (n : Int), 3)) (hn : 12 < M.2.2.1) (hno : sN1 a11 = true) (hp : pc + 3 = p') (kk : sEv l M d B K p' (a0 :: a1 :: a2 :: a3 :: a4 :: a5 :: a6 :: a7 :: a8 :: a9 :: a10 :: a11 :: some (.int (nI (a + n))) :: r) st h) : sEv l M d B K pc (a0 :: a1 :: a2 :: a3 :: a4 :: a5 :: a6 :: a7 :: a8 :: a9 :: a10 :: a11 :: some (.int (nI a)) :: r) st h := e_iinc_12 hd hn hno (by rw [← nI_add]; rfl) hp kk
theorem e_iload_13 {a0 a1 a2 a3 a4 a5 a6 a7 a8 a9 a10 a11 a12 : Option Value} {r : List (Option Value)} {x : Int32} (hd : decode M.2.1 pc = .ok (.iload 13, 2)) (hp : pc + 2 = p') (kk : sEv l M d B K p' (a0 :: a1 :: a2 :: a3 :: a4 :: a5 :: a6 :: a7 :: a8 :: a9 :: a10 :: a11 :: a12 :: some (.int x) :: r) (.int x :: st) h) : sEv l M d B K pc (a0 :: a1 :: a2 :: a3 :: a4 :: a5 :: a6 :: a7 :: a8 :: a9 :: a10 :: a11 :: a12 :: some (.int x) :: r) st h := by
  subst hp
  exact e_ld (i := 13) rfl (fun b p e R s m args below meth c H locs ls cells slots Q hx hb hl k => lv_iload hx hb hd hl k) kk
theorem e_lload_13 {a0 a1 a2 a3 a4 a5 a6 a7 a8 a9 a10 a11 a12 : Option Value} {r : List (Option Value)} {x : Int64} (hd : decode M.2.1 pc = .ok (.lload 13, 2)) (hp : pc + 2 = p') (kk : sEv l M d B K p' (a0 :: a1 :: a2 :: a3 :: a4 :: a5 :: a6 :: a7 :: a8 :: a9 :: a10 :: a11 :: a12 :: some (.long x) :: r) (.long x :: st) h) : sEv l M d B K pc (a0 :: a1 :: a2 :: a3 :: a4 :: a5 :: a6 :: a7 :: a8 :: a9 :: a10 :: a11 :: a12 :: some (.long x) :: r) st h := by
  subst hp
  exact e_ld (i := 13) rfl (fun b p e R s m args below meth c H locs ls cells slots Q hx hb hl k => lv_lload hx hb hd hl k) kk
theorem e_istore_13 {a0 a1 a2 a3 a4 a5 a6 a7 a8 a9 a10 a11 a12 a13 : Option Value} {r : List (Option Value)} {x : Int32} (hd : decode M.2.1 pc = .ok (.istore 13, 2)) (hn : 13 < M.2.2.1) (hno : sN1 a12 = true) (hp : pc + 2 = p') (kk : sEv l M d B K p' (a0 :: a1 :: a2 :: a3 :: a4 :: a5 :: a6 :: a7 :: a8 :: a9 :: a10 :: a11 :: a12 :: some (.int x) :: r) st h) : sEv l M d B K pc (a0 :: a1 :: a2 :: a3 :: a4 :: a5 :: a6 :: a7 :: a8 :: a9 :: a10 :: a11 :: a12 :: a13 :: r) (.int x :: st) h := by
  subst hp
  exact e_st1 (i := 13) (sN1_ok (j := 12) (o := a12) rfl hno) (fun b p e R s m args below meth c H locs ls cells slots Q hx hb hl k => lv_istore hx hb hd hl hn rfl k) kk
theorem e_lstore_13 {a0 a1 a2 a3 a4 a5 a6 a7 a8 a9 a10 a11 a12 a13 a14 : Option Value} {r : List (Option Value)} {x : Int64} (hd : decode M.2.1 pc = .ok (.lstore 13, 2)) (hn : 14 < M.2.2.1) (hno : sN1 a12 = true) (hp : pc + 2 = p') (kk : sEv l M d B K p' (a0 :: a1 :: a2 :: a3 :: a4 :: a5 :: a6 :: a7 :: a8 :: a9 :: a10 :: a11 :: a12 :: some (.long x) :: none :: r) st h) : sEv l M d B K pc (a0 :: a1 :: a2 :: a3 :: a4 :: a5 :: a6 :: a7 :: a8 :: a9 :: a10 :: a11 :: a12 :: a13 :: a14 :: r) (.long x :: st) h := by
  subst hp
  exact e_st2 (i := 13) (sN1_ok (j := 12) (o := a12) rfl hno) (fun b p e R s m args below meth c H locs ls cells slots Q hx hb hl k => lv_lstore hx hb hd hl hn rfl k) kk
theorem e_iinc_13 {a0 a1 a2 a3 a4 a5 a6 a7 a8 a9 a10 a11 a12 : Option Value} {r : List (Option Value)} {x v : Int32} {n : Int} (hd : decode M.2.1 pc = .ok (.iinc 13 n, 3)) (hn : 13 < M.2.2.1) (hno : sN1 a12 = true) (hv : x + Int32.ofInt n = v) (hp : pc + 3 = p') (kk : sEv l M d B K p' (a0 :: a1 :: a2 :: a3 :: a4 :: a5 :: a6 :: a7 :: a8 :: a9 :: a10 :: a11 :: a12 :: some (.int v) :: r) st h) : sEv l M d B K pc (a0 :: a1 :: a2 :: a3 :: a4 :: a5 :: a6 :: a7 :: a8 :: a9 :: a10 :: a11 :: a12 :: some (.int x) :: r) st h := by
  subst hp
  exact e_inc (i := 13) rfl (sN1_ok (j := 12) (o := a12) rfl hno) (fun b p e R s m args below meth c H locs ls cells slots Q k0 hx hb hl hk k => lv_iinc hx hb hd hl hk hv hn rfl k) kk
theorem e_iincN_13 {a0 a1 a2 a3 a4 a5 a6 a7 a8 a9 a10 a11 a12 : Option Value} {r : List (Option Value)} {a n : Nat} (hd : decode M.2.1 pc = .ok (.iinc 13 (n : Int), 3)) (hn : 13 < M.2.2.1) (hno : sN1 a12 = true) (hp : pc + 3 = p') (kk : sEv l M d B K p' (a0 :: a1 :: a2 :: a3 :: a4 :: a5 :: a6 :: a7 :: a8 :: a9 :: a10 :: a11 :: a12 :: some (.int (nI (a + n))) :: r) st h) : sEv l M d B K pc (a0 :: a1 :: a2 :: a3 :: a4 :: a5 :: a6 :: a7 :: a8 :: a9 :: a10 :: a11 :: a12 :: some (.int (nI a)) :: r) st h := e_iinc_13 hd hn hno (by rw [← nI_add]; rfl) hp kk
theorem e_iload_14 {a0 a1 a2 a3 a4 a5 a6 a7 a8 a9 a10 a11 a12 a13 : Option Value} {r : List (Option Value)} {x : Int32} (hd : decode M.2.1 pc = .ok (.iload 14, 2)) (hp : pc + 2 = p') (kk : sEv l M d B K p' (a0 :: a1 :: a2 :: a3 :: a4 :: a5 :: a6 :: a7 :: a8 :: a9 :: a10 :: a11 :: a12 :: a13 :: some (.int x) :: r) (.int x :: st) h) : sEv l M d B K pc (a0 :: a1 :: a2 :: a3 :: a4 :: a5 :: a6 :: a7 :: a8 :: a9 :: a10 :: a11 :: a12 :: a13 :: some (.int x) :: r) st h := by
  subst hp
  exact e_ld (i := 14) rfl (fun b p e R s m args below meth c H locs ls cells slots Q hx hb hl k => lv_iload hx hb hd hl k) kk
theorem e_lload_14 {a0 a1 a2 a3 a4 a5 a6 a7 a8 a9 a10 a11 a12 a13 : Option Value} {r : List (Option Value)} {x : Int64} (hd : decode M.2.1 pc = .ok (.lload 14, 2)) (hp : pc + 2 = p') (kk : sEv l M d B K p' (a0 :: a1 :: a2 :: a3 :: a4 :: a5 :: a6 :: a7 :: a8 :: a9 :: a10 :: a11 :: a12 :: a13 :: some (.long x) :: r) (.long x :: st) h) : sEv l M d B K pc (a0 :: a1 :: a2 :: a3 :: a4 :: a5 :: a6 :: a7 :: a8 :: a9 :: a10 :: a11 :: a12 :: a13 :: some (.long x) :: r) st h := by
  subst hp
  exact e_ld (i := 14) rfl (fun b p e R s m args below meth c H locs ls cells slots Q hx hb hl k => lv_lload hx hb hd hl k) kk
theorem e_istore_14 {a0 a1 a2 a3 a4 a5 a6 a7 a8 a9 a10 a11 a12 a13 a14 : Option Value} {r : List (Option Value)} {x : Int32} (hd : decode M.2.1 pc = .ok (.istore 14, 2)) (hn : 14 < M.2.2.1) (hno : sN1 a13 = true) (hp : pc + 2 = p') (kk : sEv l M d B K p' (a0 :: a1 :: a2 :: a3 :: a4 :: a5 :: a6 :: a7 :: a8 :: a9 :: a10 :: a11 :: a12 :: a13 :: some (.int x) :: r) st h) : sEv l M d B K pc (a0 :: a1 :: a2 :: a3 :: a4 :: a5 :: a6 :: a7 :: a8 :: a9 :: a10 :: a11 :: a12 :: a13 :: a14 :: r) (.int x :: st) h := by
  subst hp
  exact e_st1 (i := 14) (sN1_ok (j := 13) (o := a13) rfl hno) (fun b p e R s m args below meth c H locs ls cells slots Q hx hb hl k => lv_istore hx hb hd hl hn rfl k) kk
theorem e_lstore_14 {a0 a1 a2 a3 a4 a5 a6 a7 a8 a9 a10 a11 a12 a13 a14 a15 : Option Value} {r : List (Option Value)} {x : Int64} (hd : decode M.2.1 pc = .ok (.lstore 14, 2)) (hn : 15 < M.2.2.1) (hno : sN1 a13 = true) (hp : pc + 2 = p') (kk : sEv l M d B K p' (a0 :: a1 :: a2 :: a3 :: a4 :: a5 :: a6 :: a7 :: a8 :: a9 :: a10 :: a11 :: a12 :: a13 :: some (.long x) :: none :: r) st h) : sEv l M d B K pc (a0 :: a1 :: a2 :: a3 :: a4 :: a5 :: a6 :: a7 :: a8 :: a9 :: a10 :: a11 :: a12 :: a13 :: a14 :: a15 :: r) (.long x :: st) h := by
  subst hp
  exact e_st2 (i := 14) (sN1_ok (j := 13) (o := a13) rfl hno) (fun b p e R s m args below meth c H locs ls cells slots Q hx hb hl k => lv_lstore hx hb hd hl hn rfl k) kk
theorem e_iinc_14 {a0 a1 a2 a3 a4 a5 a6 a7 a8 a9 a10 a11 a12 a13 : Option Value} {r : List (Option Value)} {x v : Int32} {n : Int} (hd : decode M.2.1 pc = .ok (.iinc 14 n, 3)) (hn : 14 < M.2.2.1) (hno : sN1 a13 = true) (hv : x + Int32.ofInt n = v) (hp : pc + 3 = p') (kk : sEv l M d B K p' (a0 :: a1 :: a2 :: a3 :: a4 :: a5 :: a6 :: a7 :: a8 :: a9 :: a10 :: a11 :: a12 :: a13 :: some (.int v) :: r) st h) : sEv l M d B K pc (a0 :: a1 :: a2 :: a3 :: a4 :: a5 :: a6 :: a7 :: a8 :: a9 :: a10 :: a11 :: a12 :: a13 :: some (.int x) :: r) st h := by
  subst hp
  exact e_inc (i := 14) rfl (sN1_ok (j := 13) (o := a13) rfl hno) (fun b p e R s m args below meth c H locs ls cells slots Q k0 hx hb hl hk k => lv_iinc hx hb hd hl hk hv hn rfl k) kk
theorem e_iincN_14 {a0 a1 a2 a3 a4 a5 a6 a7 a8 a9 a10 a11 a12 a13 : Option Value} {r : List (Option Value)} {a n : Nat} (hd : decode M.2.1 pc = .ok (.iinc 14 (n : Int), 3)) (hn : 14 < M.2.2.1) (hno : sN1 a13 = true) (hp : pc + 3 = p') (kk : sEv l M d B K p' (a0 :: a1 :: a2 :: a3 :: a4 :: a5 :: a6 :: a7 :: a8 :: a9 :: a10 :: a11 :: a12 :: a13 :: some (.int (nI (a + n))) :: r) st h) : sEv l M d B K pc (a0 :: a1 :: a2 :: a3 :: a4 :: a5 :: a6 :: a7 :: a8 :: a9 :: a10 :: a11 :: a12 :: a13 :: some (.int (nI a)) :: r) st h := e_iinc_14 hd hn hno (by rw [← nI_add]; rfl) hp kk
theorem e_iload_15 {a0 a1 a2 a3 a4 a5 a6 a7 a8 a9 a10 a11 a12 a13 a14 : Option Value} {r : List (Option Value)} {x : Int32} (hd : decode M.2.1 pc = .ok (.iload 15, 2)) (hp : pc + 2 = p') (kk : sEv l M d B K p' (a0 :: a1 :: a2 :: a3 :: a4 :: a5 :: a6 :: a7 :: a8 :: a9 :: a10 :: a11 :: a12 :: a13 :: a14 :: some (.int x) :: r) (.int x :: st) h) : sEv l M d B K pc (a0 :: a1 :: a2 :: a3 :: a4 :: a5 :: a6 :: a7 :: a8 :: a9 :: a10 :: a11 :: a12 :: a13 :: a14 :: some (.int x) :: r) st h := by
  subst hp
  exact e_ld (i := 15) rfl (fun b p e R s m args below meth c H locs ls cells slots Q hx hb hl k => lv_iload hx hb hd hl k) kk
theorem e_lload_15 {a0 a1 a2 a3 a4 a5 a6 a7 a8 a9 a10 a11 a12 a13 a14 : Option Value} {r : List (Option Value)} {x : Int64} (hd : decode M.2.1 pc = .ok (.lload 15, 2)) (hp : pc + 2 = p') (kk : sEv l M d B K p' (a0 :: a1 :: a2 :: a3 :: a4 :: a5 :: a6 :: a7 :: a8 :: a9 :: a10 :: a11 :: a12 :: a13 :: a14 :: some (.long x) :: r) (.long x :: st) h) : sEv l M d B K pc (a0 :: a1 :: a2 :: a3 :: a4 :: a5 :: a6 :: a7 :: a8 :: a9 :: a10 :: a11 :: a12 :: a13 :: a14 :: some (.long x) :: r) st h := by
  subst hp
  exact e_ld (i := 15) rfl (fun b p e R s m args below meth c H locs ls cells slots Q hx hb hl k => lv_lload hx hb hd hl k) kk
theorem e_istore_15 {a0 a1 a2 a3 a4 a5 a6 a7 a8 a9 a10 a11 a12 a13 a14 a15 : Option Value} {r : List (Option Value)} {x : Int32} (hd : decode M.2.1 pc = .ok (.istore 15, 2)) (hn : 15 < M.2.2.1) (hno : sN1 a14 = true) (hp : pc + 2 = p') (kk : sEv l M d B K p' (a0 :: a1 :: a2 :: a3 :: a4 :: a5 :: a6 :: a7 :: a8 :: a9 :: a10 :: a11 :: a12 :: a13 :: a14 :: some (.int x) :: r) st h) : sEv l M d B K pc (a0 :: a1 :: a2 :: a3 :: a4 :: a5 :: a6 :: a7 :: a8 :: a9 :: a10 :: a11 :: a12 :: a13 :: a14 :: a15 :: r) (.int x :: st) h := by
  subst hp
  exact e_st1 (i := 15) (sN1_ok (j := 14) (o := a14) rfl hno) (fun b p e R s m args below meth c H locs ls cells slots Q hx hb hl k => lv_istore hx hb hd hl hn rfl k) kk
theorem e_lstore_15 {a0 a1 a2 a3 a4 a5 a6 a7 a8 a9 a10 a11 a12 a13 a14 a15 a16 : Option Value} {r : List (Option Value)} {x : Int64} (hd : decode M.2.1 pc = .ok (.lstore 15, 2)) (hn : 16 < M.2.2.1) (hno : sN1 a14 = true) (hp : pc + 2 = p') (kk : sEv l M d B K p' (a0 :: a1 :: a2 :: a3 :: a4 :: a5 :: a6 :: a7 :: a8 :: a9 :: a10 :: a11 :: a12 :: a13 :: a14 :: some (.long x) :: none :: r) st h) : sEv l M d B K pc (a0 :: a1 :: a2 :: a3 :: a4 :: a5 :: a6 :: a7 :: a8 :: a9 :: a10 :: a11 :: a12 :: a13 :: a14 :: a15 :: a16 :: r) (.long x :: st) h := by
  subst hp
  exact e_st2 (i := 15) (sN1_ok (j := 14) (o := a14) rfl hno) (fun b p e R s m args below meth c H locs ls cells slots Q hx hb hl k => lv_lstore hx hb hd hl hn rfl k) kk
theorem e_iinc_15 {a0 a1 a2 a3 a4 a5 a6 a7 a8 a9 a10 a11 a12 a13 a14 : Option Value} {r : List (Option Value)} {x v : Int32} {n : Int} (hd : decode M.2.1 pc = .ok (.iinc 15 n, 3)) (hn : 15 < M.2.2.1) (hno : sN1 a14 = true) (hv : x + Int32.ofInt n = v) (hp : pc + 3 = p') (kk : sEv l M d B K p' (a0 :: a1 :: a2 :: a3 :: a4 :: a5 :: a6 :: a7 :: a8 :: a9 :: a10 :: a11 :: a12 :: a13 :: a14 :: some (.int v) :: r) st h) : sEv l M d B K pc (a0 :: a1 :: a2 :: a3 :: a4 :: a5 :: a6 :: a7 :: a8 :: a9 :: a10 :: a11 :: a12 :: a13 :: a14 :: some (.int x) :: r) st h := by
  subst hp
  exact e_inc (i := 15) rfl (sN1_ok (j := 14) (o := a14) rfl hno) (fun b p e R s m args below meth c H locs ls cells slots Q k0 hx hb hl hk k => lv_iinc hx hb hd hl hk hv hn rfl k) kk
theorem e_iincN_15 {a0 a1 a2 a3 a4 a5 a6 a7 a8 a9 a10 a11 a12 a13 a14 : Option Value} {r : List (Option Value)} {a n : Nat} (hd : decode M.2.1 pc = .ok (.iinc 15 (n : Int), 3)) (hn : 15 < M.2.2.1) (hno : sN1 a14 = true) (hp : pc + 3 = p') (kk : sEv l M d B K p' (a0 :: a1 :: a2 :: a3 :: a4 :: a5 :: a6 :: a7 :: a8 :: a9 :: a10 :: a11 :: a12 :: a13 :: a14 :: some (.int (nI (a + n))) :: r) st h) : sEv l M d B K pc (a0 :: a1 :: a2 :: a3 :: a4 :: a5 :: a6 :: a7 :: a8 :: a9 :: a10 :: a11 :: a12 :: a13 :: a14 :: some (.int (nI a)) :: r) st h := e_iinc_15 hd hn hno (by rw [← nI_add]; rfl) hp kk
theorem e_iload_16 {a0 a1 a2 a3 a4 a5 a6 a7 a8 a9 a10 a11 a12 a13 a14 a15 : Option Value} {r : List (Option Value)} {x : Int32} (hd : decode M.2.1 pc = .ok (.iload 16, 2)) (hp : pc + 2 = p') (kk : sEv l M d B K p' (a0 :: a1 :: a2 :: a3 :: a4 :: a5 :: a6 :: a7 :: a8 :: a9 :: a10 :: a11 :: a12 :: a13 :: a14 :: a15 :: some (.int x) :: r) (.int x :: st) h) : sEv l M d B K pc (a0 :: a1 :: a2 :: a3 :: a4 :: a5 :: a6 :: a7 :: a8 :: a9 :: a10 :: a11 :: a12 :: a13 :: a14 :: a15 :: some (.int x) :: r) st h := by
  subst hp
  exact e_ld (i := 16) rfl (fun b p e R s m args below meth c H locs ls cells slots Q hx hb hl k => lv_iload hx hb hd hl k) kk
theorem e_lload_16 {a0 a1 a2 a3 a4 a5 a6 a7 a8 a9 a10 a11 a12 a13 a14 a15 : Option Value} {r : List (Option Value)} {x : Int64} (hd : decode M.2.1 pc = .ok (.lload 16, 2)) (hp : pc + 2 = p') (kk : sEv l M d B K p' (a0 :: a1 :: a2 :: a3 :: a4 :: a5 :: a6 :: a7 :: a8 :: a9 :: a10 :: a11 :: a12 :: a13 :: a14 :: a15 :: some (.long x) :: r) (.long x :: st) h) : sEv l M d B K pc (a0 :: a1 :: a2 :: a3 :: a4 :: a5 :: a6 :: a7 :: a8 :: a9 :: a10 :: a11 :: a12 :: a13 :: a14 :: a15 :: some (.long x) :: r) st h := by
  subst hp
  exact e_ld (i := 16) rfl (fun b p e R s m args below meth c H locs ls cells slots Q hx hb hl k => lv_lload hx hb hd hl k) kk
theorem e_istore_16 {a0 a1 a2 a3 a4 a5 a6 a7 a8 a9 a10 a11 a12 a13 a14 a15 a16 : Option Value} {r : List (Option Value)} {x : Int32} (hd : decode M.2.1 pc = .ok (.istore 16, 2)) (hn : 16 < M.2.2.1) (hno : sN1 a15 = true) (hp : pc + 2 = p') (kk : sEv l M d B K p' (a0 :: a1 :: a2 :: a3 :: a4 :: a5 :: a6 :: a7 :: a8 :: a9 :: a10 :: a11 :: a12 :: a13 :: a14 :: a15 :: some (.int x) :: r) st h) : sEv l M d B K pc (a0 :: a1 :: a2 :: a3 :: a4 :: a5 :: a6 :: a7 :: a8 :: a9 :: a10 :: a11 :: a12 :: a13 :: a14 :: a15 :: a16 :: r) (.int x :: st) h := by
  subst hp
  exact e_st1 (i := 16) (sN1_ok (j := 15) (o := a15) rfl hno) (fun b p e R s m args below meth c H locs ls cells slots Q hx hb hl k => lv_istore hx hb hd hl hn rfl k) kk
theorem e_lstore_16 {a0 a1 a2 a3 a4 a5 a6 a7 a8 a9 a10 a11 a12 a13 a14 a15 a16 a17 : Option Value} {r : List (Option Value)} {x : Int64} (hd : decode M.2.1 pc = .ok (.lstore 16, 2)) (hn : 17 < M.2.2.1) (hno : sN1 a15 = true) (hp : pc + 2 = p') (kk : sEv l M d B K p' (a0 :: a1 :: a2 :: a3 :: a4 :: a5 :: a6 :: a7 :: a8 :: a9 :: a10 :: a11 :: a12 :: a13 :: a14 :: a15 :: some (.long x) :: none :: r) st h) : sEv l M d B K pc (a0 :: a1 :: a2 :: a3 :: a4 :: a5 :: a6 :: a7 :: a8 :: a9 :: a10 :: a11 :: a12 :: a13 :: a14 :: a15 :: a16 :: a17 :: r) (.long x :: st) h := by
  subst hp
  exact e_st2 (i := 16) (sN1_ok (j := 15) (o := a15) rfl hno) (fun b p e R s m args below meth c H locs ls cells slots Q hx hb hl k => lv_lstore hx hb hd hl hn rfl k) kk
theorem e_iinc_16 {a0 a1 a2 a3 a4 a5 a6 a7 a8 a9 a10 a11 a12 a13 a14 a15 : Option Value} {r : List (Option Value)} {x v : Int32} {n : Int} (hd : decode M.2.1 pc = .ok (.iinc 16 n, 3)) (hn : 16 < M.2.2.1) (hno : sN1 a15 = true) (hv : x + Int32.ofInt n = v) (hp : pc + 3 = p') (kk : sEv l M d B K p' (a0 :: a1 :: a2 :: a3 :: a4 :: a5 :: a6 :: a7 :: a8 :: a9 :: a10 :: a11 :: a12 :: a13 :: a14 :: a15 :: some (.int v) :: r) st h) : sEv l M d B K pc (a0 :: a1 :: a2 :: a3 :: a4 :: a5 :: a6 :: a7 :: a8 :: a9 :: a10 :: a11 :: a12 :: a13 :: a14 :: a15 :: some (.int x) :: r) st h := by
  subst hp
  exact e_inc (i := 16) rfl (sN1_ok (j := 15) (o := a15) rfl hno) (fun b p e R s m args below meth c H locs ls cells slots Q k0 hx hb hl hk k => lv_iinc hx hb hd hl hk hv hn rfl k) kk
theorem e_iincN_16 {a0 a1 a2 a3 a4 a5 a6 a7 a8 a9 a10 a11 a12 a13 a14 a15 : Option Value} {r : List (Option Value)} {a n : Nat} (hd : decode M.2.1 pc = .ok (.iinc 16 (n : Int), 3)) (hn : 16 < M.2.2.1) (hno : sN1 a15 = true) (hp : pc + 3 = p') (kk : sEv l M d B K p' (a0 :: a1 :: a2 :: a3 :: a4 :: a5 :: a6 :: a7 :: a8 :: a9 :: a10 :: a11 :: a12 :: a13 :: a14 :: a15 :: some (.int (nI (a + n))) :: r) st h) : sEv l M d B K pc (a0 :: a1 :: a2 :: a3 :: a4 :: a5 :: a6 :: a7 :: a8 :: a9 :: a10 :: a11 :: a12 :: a13 :: a14 :: a15 :: some (.int (nI a)) :: r) st h := e_iinc_16 hd hn hno (by rw [← nI_add]; rfl) hp kk
theorem e_iload_17 {a0 a1 a2 a3 a4 a5 a6 a7 a8 a9 a10 a11 a12 a13 a14 a15 a16 : Option Value} {r : List (Option Value)} {x : Int32} (hd : decode M.2.1 pc = .ok (.iload 17, 2)) (hp : pc + 2 = p') (kk : sEv l M d B K p' (a0 :: a1 :: a2 :: a3 :: a4 :: a5 :: a6 :: a7 :: a8 :: a9 :: a10 :: a11 :: a12 :: a13 :: a14 :: a15 :: a16 :: some (.int x) :: r) (.int x :: st) h) : sEv l M d B K pc (a0 :: a1 :: a2 :: a3 :: a4 :: a5 :: a6 :: a7 :: a8 :: a9 :: a10 :: a11 :: a12 :: a13 :: a14 :: a15 :: a16 :: some (.int x) :: r) st h := by
  subst hp
  exact e_ld (i := 17) rfl (fun b p e R s m args below meth c H locs ls cells slots Q hx hb hl k => lv_iload hx hb hd hl k) kk
theorem e_lload_17 {a0 a1 a2 a3 a4 a5 a6 a7 a8 a9 a10 a11 a12 a13 a14 a15 a16 : Option Value} {r : List (Option Value)} {x : Int64} (hd : decode M.2.1 pc = .ok (.lload 17, 2)) (hp : pc + 2 = p') (kk : sEv l M d B K p' (a0 :: a1 :: a2 :: a3 :: a4 :: a5 :: a6 :: a7 :: a8 :: a9 :: a10 :: a11 :: a12 :: a13 :: a14 :: a15 :: a16 :: some (.long x) :: r) (.long x :: st) h) : sEv l M d B K pc (a0 :: a1 :: a2 :: a3 :: a4 :: a5 :: a6 :: a7 :: a8 :: a9 :: a10 :: a11 :: a12 :: a13 :: a14 :: a15 :: a16 :: some (.long x) :: r) st h := by
  subst hp
  exact e_ld (i := 17) rfl (fun b p e R s m args below meth c H locs ls cells slots Q hx hb hl k => lv_lload hx hb hd hl k) kk
theorem e_istore_17 {a0 a1 a2 a3 a4 a5 a6 a7 a8 a9 a10 a11 a12 a13 a14 a15 a16 a17 : Option Value} {r : List (Option Value)} {x : Int32} (hd : decode M.2.1 pc = .ok (.istore 17, 2)) (hn : 17 < M.2.2.1) (hno : sN1 a16 = true) (hp : pc + 2 = p') (kk : sEv l M d B K p' (a0 :: a1 :: a2 :: a3 :: a4 :: a5 :: a6 :: a7 :: a8 :: a9 :: a10 :: a11 :: a12 :: a13 :: a14 :: a15 :: a16 :: some (.int x) :: r) st h) : sEv l M d B K pc (a0 :: a1 :: a2 :: a3 :: a4 :: a5 :: a6 :: a7 :: a8 :: a9 :: a10 :: a11 :: a12 :: a13 :: a14 :: a15 :: a16 :: a17 :: r) (.int x :: st) h := by
  subst hp
  exact e_st1 (i := 17) (sN1_ok (j := 16) (o := a16) rfl hno) (fun b p e R s m args below meth c H locs ls cells slots Q hx hb hl k => lv_istore hx hb hd hl hn rfl k) kk
theorem e_lstore_17 {a0 a1 a2 a3 a4 a5 a6 a7 a8 a9 a10 a11 a12 a13 a14 a15 a16 a17 a18 : Option Value} {r : List (Option Value)} {x : Int64} (hd : decode M.2.1 pc = .ok (.lstore 17, 2)) (hn : 18 < M.2.2.1) (hno : sN1 a16 = true) (hp : pc + 2 = p') (kk : sEv l M d B K p' (a0 :: a1 :: a2 :: a3 :: a4 :: a5 :: a6 :: a7 :: a8 :: a9 :: a10 :: a11 :: a12 :: a13 :: a14 :: a15 :: a16 :: some (.long x) :: none :: r) st h) : sEv l M d B K pc (a0 :: a1 :: a2 :: a3 :: a4 :: a5 :: a6 :: a7 :: a8 :: a9 :: a10 :: a11 :: a12 :: a13 :: a14 :: a15 :: a16 :: a17 :: a18 :: r) (.long x :: st) h := by
  subst hp
  exact e_st2 (i := 17) (sN1_ok (j := 16) (o := a16) rfl hno) (fun b p e R s m args below meth c H locs ls cells slots Q hx hb hl k => lv_lstore hx hb hd hl hn rfl k) kk
theorem e_iinc_17 {a0 a1 a2 a3 a4 a5 a6 a7 a8 a9 a10 a11 a12 a13 a14 a15 a16 : Option Value} {r : List (Option Value)} {x v : Int32} {n : Int} (hd : decode M.2.1 pc = .ok (.iinc 17 n, 3)) (hn : 17 < M.2.2.1) (hno : sN1 a16 = true) (hv : x + Int32.ofInt n = v) (hp : pc + 3 = p') (kk : sEv l M d B K p' (a0 :: a1 :: a2 :: a3 :: a4 :: a5 :: a6 :: a7 :: a8 :: a9 :: a10 :: a11 :: a12 :: a13 :: a14 :: a15 :: a16 :: some (.int v) :: r) st h) : sEv l M d B K pc (a0 :: a1 :: a2 :: a3 :: a4 :: a5 :: a6 :: a7 :: a8 :: a9 :: a10 :: a11 :: a12 :: a13 :: a14 :: a15 :: a16 :: some (.int x) :: r) st h := by
  subst hp
  exact e_inc (i := 17) rfl (sN1_ok (j := 16) (o := a16) rfl hno) (fun b p e R s m args below meth c H locs ls cells slots Q k0 hx hb hl hk k => lv_iinc hx hb hd hl hk hv hn rfl k) kk
theorem e_iincN_17 {a0 a1 a2 a3 a4 a5 a6 a7 a8 a9 a10 a11 a12 a13 a14 a15 a16 : Option Value} {r : List (Option Value)} {a n : Nat} (hd : decode M.2.1 pc = .ok (.iinc 17 (n : Int), 3)) (hn : 17 < M.2.2.1) (hno : sN1 a16 = true) (hp : pc + 3 = p') (kk : sEv l M d B K p' (a0 :: a1 :: a2 :: a3 :: a4 :: a5 :: a6 :: a7 :: a8 :: a9 :: a10 :: a11 :: a12 :: a13 :: a14 :: a15 :: a16 :: some (.int (nI (a + n))) :: r) st h) : sEv l M d B K pc (a0 :: a1 :: a2 :: a3 :: a4 :: a5 :: a6 :: a7 :: a8 :: a9 :: a10 :: a11 :: a12 :: a13 :: a14 :: a15 :: a16 :: some (.int (nI a)) :: r) st h := e_iinc_17 hd hn hno (by rw [← nI_add]; rfl) hp kk
theorem e_ldc {idx : Nat} {v : Int32} (hd : decode M.2.1 pc = .ok (.ldc idx, 2)) (F : Cond.constant M.1.cls idx v ∈ lw_good) (hp : pc + 2 = p') (kk : sEv l M d B K p' lv (.int v :: st) h) : sEv l M d B K pc lv st h := by
  subst hp
  intro G p e R s m args below meth c H locs ls C hR hS hL
  exact lv_ldc C.1 C.2.1 C.2.2.2.2.2.1 (C.2.2.2.2.2.2.2.1 _ F) hd (kk G p e R s m args below meth c H locs ls C hR hS hL)
theorem e_ineg {x : Int32} (hd : decode M.2.1 pc = .ok (.ineg, 1)) (hp : pc + 1 = p') (kk : sEv l M d B K p' lv (.int (-x) :: st) h) : sEv l M d B K pc lv (.int x :: st) h := by
  subst hp
  exact e_of (fun b p e R s m args below meth c H locs ls cells slots Q hx hb k => lv_ineg hx hb hd k) kk
theorem e_lsub {x y : Int64} (hd : decode M.2.1 pc = .ok (.lsub, 1)) (hp : pc + 1 = p') (kk : sEv l M d B K p' lv (.long (x - y) :: st) h) : sEv l M d B K pc lv (.long y :: .long x :: st) h := by
  subst hp
  exact e_of (fun b p e R s m args below meth c H locs ls cells slots Q hx hb k => lv_lsub hx hb hd k) kk
theorem e_lshr {x v : Int64} {y : Int32} (hd : decode M.2.1 pc = .ok (.lshr, 1)) (hv : x >>> (y.toInt64 &&& 63) = v) (hp : pc + 1 = p') (kk : sEv l M d B K p' lv (.long v :: st) h) : sEv l M d B K pc lv (.int y :: .long x :: st) h := by
  subst hp
  exact e_of (fun b p e R s m args below meth c H locs ls cells slots Q hx hb k => lv_lshr hx hb hd hv k) kk
-- the script
def sXs (K : sK) (b L : Nat) (xs : Nat → Int32) : Prop := ∀ (G : sG) (s : State) (args : Array Value) (meth : Method), K.1 G s args meth → va_X b L xs s s.heap ∧ b < s.heap.size ∧ b < G.1
theorem e_sld {b L : Nat} {xs : Nat → Int32} (hX : sXs K b L xs) {i : Nat} (hd : decode M.2.1 pc = .ok (.iaload, 1)) (hL : L < 2 ^ 31) (hi : i < L) (hp : pc + 1 = p') (kk : sEv l M d B K p' lv (.int (xs i) :: st) h) : sEv l M d B K pc lv (.int (nI i) :: .retAddr b :: st) h := by
  subst hp
  intro G p e R s m args below meth c H locs ls C hR hS hL2
  have k2 := kk G p e R s m args below meth c H locs ls C hR hS hL2
  obtain ⟨hx, hb, hml, hrt, hlk, hown, hin, hts, hBa, hrm, hG, hK⟩ := C
  obtain ⟨hXX, hbl, hbG⟩ := hX _ _ _ _ hK
  have hcl : (nI i).toNatClampNeg = i := nI_clamp (by omega)
  refine va_sld (A := fun q => G.1 ≤ q) (i := nI i) hx hb hXX hbl (Nat.not_le.mpr hbG) hS ?_ hd ?_
  · show ¬ (nI i < 0 ∨ L ≤ (nI i).toNatClampNeg)
    rw [hcl]
    exact fun z => z.elim (nI_pos (by omega)) (fun z => by omega)
  · rw [hcl]; exact k2
theorem e_slen {b L : Nat} {xs : Nat → Int32} (hX : sXs K b L xs) (hd : decode M.2.1 pc = .ok (.arraylength, 1)) (hp : pc + 1 = p') (kk : sEv l M d B K p' lv (.int (nI L) :: st) h) : sEv l M d B K pc lv (.retAddr b :: st) h := by
  subst hp
  intro G p e R s m args below meth c H locs ls C hR hS hL2
  have k2 := kk G p e R s m args below meth c H locs ls C hR hS hL2
  obtain ⟨hx, hb, hml, hrt, hlk, hown, hin, hts, hBa, hrm, hG, hK⟩ := C
  obtain ⟨hXX, hbl, hbG⟩ := hX _ _ _ _ hK
  exact va_slen (A := fun q => G.1 ≤ q) hx hb hXX hbl (Nat.not_le.mpr hbG) hS hd k2
theorem e_aloadA_0 {r : List (Option Value)} {x : Nat} (hd : decode M.2.1 pc = .ok (.aload_n 0, 1)) (hp : pc + 1 = p') (kk : sEv l M d B K p' (some (.retAddr x) :: r) (.retAddr x :: st) h) : sEv l M d B K pc (some (.retAddr x) :: r) st h := by
  subst hp
  exact e_ld (i := 0) rfl (fun b p e R s m args below meth c H locs ls cells slots Q hx hb hl k => lv_aload_n hx hb hd rfl hl k) kk
theorem e_aloadA_1 {a0 : Option Value} {r : List (Option Value)} {x : Nat} (hd : decode M.2.1 pc = .ok (.aload_n 1, 1)) (hp : pc + 1 = p') (kk : sEv l M d B K p' (a0 :: some (.retAddr x) :: r) (.retAddr x :: st) h) : sEv l M d B K pc (a0 :: some (.retAddr x) :: r) st h := by
  subst hp
  exact e_ld (i := 1) rfl (fun b p e R s m args below meth c H locs ls cells slots Q hx hb hl k => lv_aload_n hx hb hd rfl hl k) kk
def sPcL (G : sG) (as : List Value) (h : sH) (b L : Nat) (xs : Nat → Int32) : Array Value → State → Prop := va_Pc (as.map (sTr G.1)) (fun U => sR G h U.heap ∧ sBase G U ∧ va_X b L xs U U.heap ∧ b < U.heap.size)
def sCallL (l : Launch) (b L : Nat) (xs : Nat → Int32) (M : sM) (d mc ms : Nat) (as : List Value) (h : sH) (Q : Option Value → sH → Prop) : Prop :=
  ∀ G : sG, b < G.1 → Met l M.1 (sWs M) (sRm d mc ms) (sPcL G as h b L xs) (sQ G Q) mc ms (fun q => G.1 ≤ q)
def sKmL (b L : Nat) (xs : Nat → Int32) (mc ms : Nat) (Q : Option Value → sH → Prop) : sK := (fun G s _ _ => va_X b L xs s s.heap ∧ b < s.heap.size ∧ b < G.1, fun G s args below => MQ below (sQ G Q) args s mc ms (fun q => G.1 ≤ q))
theorem sKmL_X {b L : Nat} {xs : Nat → Int32} {mc ms : Nat} {Q : Option Value → sH → Prop} : sXs (sKmL b L xs mc ms Q) b L xs := fun _ _ _ _ h => h
theorem sEv.weakK {b L : Nat} {xs : Nat → Int32} {mc ms : Nat} {Q : Option Value → sH → Prop} (k : sEv l M d B (sKm mc ms Q) pc lv st h) : sEv l M d B (sKmL b L xs mc ms Q) pc lv st h := by
  intro G p e R s m args below meth c H locs ls C hR hS hL
  obtain ⟨hx, hb, hml, hrt, hlk, hown, hin, hts, hBa, hrm, hG, hK⟩ := C
  exact k G p e R s m args below meth c H locs ls ⟨hx, hb, hml, hrt, hlk, hown, hin, hts, hBa, hrm, hG, trivial⟩ hR hS hL
theorem sCallL_of {b L : Nat} {xs : Nat → Int32} {mc ms : Nat} {as : List Value} {Q : Option Value → sH → Prop} (n : Nat) (hpl : plainName M.1.cls = true) (hle : (sArgs as).length ≤ M.2.2.1)
    (k : sEv l M d (0, 0, mc, ms) (sKmL b L xs mc ms Q) 0 (sArgs as ++ List.replicate n none) [] h) : sCallL l b L xs M d mc ms as h Q := by
  intro G hbG
  refine Met.ofW (cc := M.2.1) (maxL := M.2.2.1) (ret := M.2.2.2) hpl rfl ?_
  intro p e s m args below meth c s₁ B hml hv
  obtain ⟨rfl, hR, hB, hX, hbl⟩ := hv
  have hts := atoms_spec (ws := sWs M) B.pre
  have hl := lv_entry (as.map (sTr G.1)) (n := M.2.2.1) (by rw [sLg_len]; exact hle)
  rw [lg_entry_eq]
  refine k G p e (sRm d mc ms) s m _ below meth c s.heap [] _ ⟨B.exec, B.bytes, hml, B.returns, B.notSynchronized, findClass_of_methodNamed B.named, fun hi => ?_, fun w hw => hts w (List.mem_cons_of_mem _ hw), hB, ⟨Nat.le_refl _, Nat.le_refl _, Nat.le_refl _, Nat.le_refl _⟩, ?_, ⟨hX, hbl, hbG⟩⟩ hR va_S.rf ⟨hl.1, hl.2.1, fun q hq => ?_⟩
  · exact (name_of_methodNamed B.named B.method).1.trans hi
  · rw [hR.2.1]; exact Nat.le_add_right _ _
  · obtain ⟨w, h1, h2⟩ := sLv_mem.mp hq
    have h3 := sArgs_mem G.1 as 0 q.1 w (sArgs_pad h1)
    rw [Nat.zero_add, ← h2] at h3
    exact hl.2.2 q h3
theorem sPcL_blind {G : sG} {as : List Value} {b L : Nat} {xs : Nat → Int32} : FrameBlind (sPcL G as h b L xs) := fun a U g mk q => ⟨q.1, q.2.1, q.2.2.1.blind, va_X.moved (u := U) (U := U.calling g mk a) (Vm.Alike.refl U.vm) q.2.2.2.1, q.2.2.2.2⟩
theorem e_runL {rest : List Value} {mc ms : Nat} {st0 : List Value} {Q' : Option Value → sH → Prop}
    (hr : ∀ (G : sG) (p : Program) (e : Env) (R : Room) (s : State) (m : MethodId) (args : Array Value) (below : List Frame) (meth : Method) (c : Code) (H : Heap) (locs : List Loc) (ls : Array Slot), sCtx l M d B K G p R s m args meth c → sR G h H → va_S (fun q => G.1 ≤ q) s.heap H locs → sL G.1 M.2.2.1 lv ls →
      ∃ a, va_Run p l e R s m args below meth c H locs B.1 B.2.1 mc ms (F0 m pc ls (st0.map (sTr G.1))) (rest.map (sTr G.1)) (sQ G Q' a) (fun q => G.1 ≤ q))
    (kk : ∀ r h', Q' r h' → sEv l M d (B.1 + mc, B.2.1 + ms, B.2.2) K (pc + 3) lv (r.toList ++ rest) h') : sEv l M d B K pc lv st0 h := by
  intro G p e R s m args below meth c H locs ls C hR hS hL
  obtain ⟨a, hrun⟩ := hr G p e R s m args below meth c H locs ls C hR hS hL
  intro T hT X
  obtain ⟨v, st₀, t, T', L, h0, X', hL2, e1, e2, ⟨⟨r, h', hv, hq, hR'⟩, hz, hk⟩, stp⟩ := hrun T hT X
  have hv2 : v = r.map (sTr G.1) := by cases hv; rfl
  subst hv2
  rw [h0] at hz hk
  have hS' : va_S (fun q => G.1 ≤ q) s.heap T'.heap (locs ++ L) := by
    refine ⟨Nat.le_trans hS.1 (by rw [e1]; exact hz), fun q h1 h2 => ?_, fun q hq => ?_⟩
    · rw [e1, hk q (Nat.lt_of_lt_of_le h1 hS.1) h2]
      exact hS.2.1 q h1 h2
    · rcases List.mem_append.mp hq with h | h
      · exact hS.2.2 q h
      · exact hL2 q h
  obtain ⟨t2, a1, b1⟩ := kk r h' hq G p e R s m args below meth c T'.heap (locs ++ L) ls C (by rw [e1]; exact hR') hS' hL T' rfl X'
  refine ⟨t2, stp t2 ?_, b1⟩
  have e3 : (r.map (sTr G.1)).toList ++ rest.map (sTr G.1) = (r.toList ++ rest).map (sTr G.1) := by cases r <;> rfl
  show Steps p.tables e below (T'.setTop { F0 m pc ls (st0.map (sTr G.1)) with pc := pc + 3, stack := (r.map (sTr G.1)).toList ++ rest.map (sTr G.1) }) t2
  rw [e3]
  exact a1
theorem e_callSL {M' : sM} {n d' mc ms idx b L : Nat} {xs : Nat → Int32} {As st0 : List Value} {Q' : Option Value → sH → Prop} (hX : sXs K b L xs) (hd : decode M.2.1 pc = .ok (.invokestatic idx, 3)) (F : sSL M.1.cls idx M' n) (hc : sCallL l b L xs M' d' mc ms As h Q') (hn : As.length = n) (hst : st0 = As.reverse ++ st) (hcat : (st.map fun v => v.category).sum ≤ 8) (hdp : d' + 1 ≤ d) (hB : B.1 + mc ≤ B.2.2.1 ∧ B.2.1 + ms ≤ B.2.2.2) (hp : pc + 3 = p')
    (kk : ∀ r h', Q' r h' → sEv l M d (B.1 + mc, B.2.1 + ms, B.2.2) K p' lv (r.toList ++ st) h') : sEv l M d B K pc lv st0 h := by
  subst hp
  subst hst
  refine e_runL (rest := st) (Q' := Q') (mc := mc) (ms := ms) (fun G p e R s m args below meth c H locs ls C hR hS hL => ?_) kk
  obtain ⟨hx, hb, hml, hrt, hlk, hown, hin, hts, hBa, hrm, hG, hK⟩ := C
  obtain ⟨F1, F2, F3⟩ := F
  obtain ⟨hXX, hbl, hbG⟩ := hX _ _ _ _ hK
  have hq : H[b]? = s.heap[b]? := hS.2.1 b hbl (Nat.not_le.mpr hbG)
  refine ⟨_, va_runS (As := As.map (sTr G.1)) (rest := st.map (sTr G.1)) ⟨hx, hb, hml, hown, hts⟩ (hc G hbG) ⟨callB_of n hts (sGoodWs F1) rfl rfl rfl (hts _ F1.2.1) (hts _ F2) ⟨F1.2.2.1.1, F1.2.2.1.2, F1.2.2.2.1⟩ (sRoom hrm.1 hrm.2.1 hdp F1.2.2.2.2), hts _ F3⟩ ⟨sPcL_blind, fun U hU hW => ⟨rfl, by rw [hU]; exact hR, hBa.warm hW, by rw [hU]; exact va_X.moved hW.alike (hXX.kept hq), by rw [hU]; exact Nat.lt_of_lt_of_le hbl hS.1⟩⟩ rfl (by rw [List.length_map]; exact hn) hL.1 ?_ (sRest hcat) hd ⟨Nat.le_trans hB.1 hrm.2.2.1, Nat.le_trans hB.2 hrm.2.2.2⟩⟩
  show (As.reverse ++ st).map (sTr G.1) = _
  rw [List.map_append, List.map_reverse]
end RULES
