section JR
variable {mi : JMI} {mc ms kc ks : Nat} {h : JH} {pc : Nat} {loc : List (Nat × Value)} {stk : List Value} {o o1 o2 : Option (Option Value × JH)}
theorem J_none : J mi mc ms kc ks h pc loc stk none := fun r hr => by cases hr
theorem J_eqo (e : o = o1) (k : J mi mc ms kc ks h pc loc stk o1) : J mi mc ms kc ks h pc loc stk o := e ▸ k
theorem J_ex (k : ∀ r, o = some r → J mi mc ms kc ks h pc loc stk (some r)) : J mi mc ms kc ks h pc loc stk o := fun r hr => k r hr r rfl

theorem J_iadd {x y : Int32} (hd : decode mi.2.1 pc = .ok (.iadd, 1))  (k : J mi mc ms kc ks h (pc + 1) loc (.int (x + y) :: stk) o) : J mi mc ms kc ks h pc loc (.int y :: .int x :: stk) o := by
  intro r hr l p e s m args below meth c D cI cJ cB A α H locs cells slots ls Qc C V hc hs hl E
  exact lv_iadd C.1 C.2.1 hd  (k r hr l p e s m args below meth c D cI cJ cB A α H locs cells slots ls Qc C V hc hs hl E)

theorem J_isub {x y : Int32} (hd : decode mi.2.1 pc = .ok (.isub, 1))  (k : J mi mc ms kc ks h (pc + 1) loc (.int (x - y) :: stk) o) : J mi mc ms kc ks h pc loc (.int y :: .int x :: stk) o := by
  intro r hr l p e s m args below meth c D cI cJ cB A α H locs cells slots ls Qc C V hc hs hl E
  exact lv_isub C.1 C.2.1 hd  (k r hr l p e s m args below meth c D cI cJ cB A α H locs cells slots ls Qc C V hc hs hl E)

theorem J_imul {x y : Int32} (hd : decode mi.2.1 pc = .ok (.imul, 1))  (k : J mi mc ms kc ks h (pc + 1) loc (.int (x * y) :: stk) o) : J mi mc ms kc ks h pc loc (.int y :: .int x :: stk) o := by
  intro r hr l p e s m args below meth c D cI cJ cB A α H locs cells slots ls Qc C V hc hs hl E
  exact lv_imul C.1 C.2.1 hd  (k r hr l p e s m args below meth c D cI cJ cB A α H locs cells slots ls Qc C V hc hs hl E)

theorem J_iand {x y : Int32} (hd : decode mi.2.1 pc = .ok (.iand, 1))  (k : J mi mc ms kc ks h (pc + 1) loc (.int (x &&& y) :: stk) o) : J mi mc ms kc ks h pc loc (.int y :: .int x :: stk) o := by
  intro r hr l p e s m args below meth c D cI cJ cB A α H locs cells slots ls Qc C V hc hs hl E
  exact lv_iand C.1 C.2.1 hd  (k r hr l p e s m args below meth c D cI cJ cB A α H locs cells slots ls Qc C V hc hs hl E)

theorem J_ior {x y : Int32} (hd : decode mi.2.1 pc = .ok (.ior, 1))  (k : J mi mc ms kc ks h (pc + 1) loc (.int (x ||| y) :: stk) o) : J mi mc ms kc ks h pc loc (.int y :: .int x :: stk) o := by
  intro r hr l p e s m args below meth c D cI cJ cB A α H locs cells slots ls Qc C V hc hs hl E
  exact lv_ior C.1 C.2.1 hd  (k r hr l p e s m args below meth c D cI cJ cB A α H locs cells slots ls Qc C V hc hs hl E)

theorem J_ixor {x y : Int32} (hd : decode mi.2.1 pc = .ok (.ixor, 1))  (k : J mi mc ms kc ks h (pc + 1) loc (.int (x ^^^ y) :: stk) o) : J mi mc ms kc ks h pc loc (.int y :: .int x :: stk) o := by
  intro r hr l p e s m args below meth c D cI cJ cB A α H locs cells slots ls Qc C V hc hs hl E
  exact lv_ixor C.1 C.2.1 hd  (k r hr l p e s m args below meth c D cI cJ cB A α H locs cells slots ls Qc C V hc hs hl E)

theorem J_ishl {x y : Int32} (hd : decode mi.2.1 pc = .ok (.ishl, 1))  (k : J mi mc ms kc ks h (pc + 1) loc (.int (x <<< (y &&& 31)) :: stk) o) : J mi mc ms kc ks h pc loc (.int y :: .int x :: stk) o := by
  intro r hr l p e s m args below meth c D cI cJ cB A α H locs cells slots ls Qc C V hc hs hl E
  exact lv_ishl C.1 C.2.1 hd  (k r hr l p e s m args below meth c D cI cJ cB A α H locs cells slots ls Qc C V hc hs hl E)

theorem J_ishr {x y : Int32} (hd : decode mi.2.1 pc = .ok (.ishr, 1))  (k : J mi mc ms kc ks h (pc + 1) loc (.int (x >>> (y &&& 31)) :: stk) o) : J mi mc ms kc ks h pc loc (.int y :: .int x :: stk) o := by
  intro r hr l p e s m args below meth c D cI cJ cB A α H locs cells slots ls Qc C V hc hs hl E
  exact lv_ishr C.1 C.2.1 hd  (k r hr l p e s m args below meth c D cI cJ cB A α H locs cells slots ls Qc C V hc hs hl E)

theorem J_idiv {x y : Int32} (hd : decode mi.2.1 pc = .ok (.idiv, 1)) (hne : ¬ y = 0) (k : J mi mc ms kc ks h (pc + 1) loc (.int (x / y) :: stk) o) : J mi mc ms kc ks h pc loc (.int y :: .int x :: stk) o := by
  intro r hr l p e s m args below meth c D cI cJ cB A α H locs cells slots ls Qc C V hc hs hl E
  exact lv_idiv C.1 C.2.1 hd hne (k r hr l p e s m args below meth c D cI cJ cB A α H locs cells slots ls Qc C V hc hs hl E)

theorem J_irem {x y : Int32} (hd : decode mi.2.1 pc = .ok (.irem, 1)) (hne : ¬ y = 0) (k : J mi mc ms kc ks h (pc + 1) loc (.int (x - x / y * y) :: stk) o) : J mi mc ms kc ks h pc loc (.int y :: .int x :: stk) o := by
  intro r hr l p e s m args below meth c D cI cJ cB A α H locs cells slots ls Qc C V hc hs hl E
  exact lv_irem C.1 C.2.1 hd hne (k r hr l p e s m args below meth c D cI cJ cB A α H locs cells slots ls Qc C V hc hs hl E)

theorem J_ldiv {x y : Int64} (hd : decode mi.2.1 pc = .ok (.ldiv, 1)) (hne : ¬ y = 0) (k : J mi mc ms kc ks h (pc + 1) loc (.long (x / y) :: stk) o) : J mi mc ms kc ks h pc loc (.long y :: .long x :: stk) o := by
  intro r hr l p e s m args below meth c D cI cJ cB A α H locs cells slots ls Qc C V hc hs hl E
  exact lv_ldiv C.1 C.2.1 hd hne (k r hr l p e s m args below meth c D cI cJ cB A α H locs cells slots ls Qc C V hc hs hl E)

theorem J_lrem {x y : Int64} (hd : decode mi.2.1 pc = .ok (.lrem, 1)) (hne : ¬ y = 0) (k : J mi mc ms kc ks h (pc + 1) loc (.long (x - x / y * y) :: stk) o) : J mi mc ms kc ks h pc loc (.long y :: .long x :: stk) o := by
  intro r hr l p e s m args below meth c D cI cJ cB A α H locs cells slots ls Qc C V hc hs hl E
  exact lv_lrem C.1 C.2.1 hd hne (k r hr l p e s m args below meth c D cI cJ cB A α H locs cells slots ls Qc C V hc hs hl E)

theorem J_ladd {x y : Int64} (hd : decode mi.2.1 pc = .ok (.ladd, 1))  (k : J mi mc ms kc ks h (pc + 1) loc (.long (x + y) :: stk) o) : J mi mc ms kc ks h pc loc (.long y :: .long x :: stk) o := by
  intro r hr l p e s m args below meth c D cI cJ cB A α H locs cells slots ls Qc C V hc hs hl E
  exact lv_ladd C.1 C.2.1 hd  (k r hr l p e s m args below meth c D cI cJ cB A α H locs cells slots ls Qc C V hc hs hl E)

theorem J_lsub {x y : Int64} (hd : decode mi.2.1 pc = .ok (.lsub, 1))  (k : J mi mc ms kc ks h (pc + 1) loc (.long (x - y) :: stk) o) : J mi mc ms kc ks h pc loc (.long y :: .long x :: stk) o := by
  intro r hr l p e s m args below meth c D cI cJ cB A α H locs cells slots ls Qc C V hc hs hl E
  exact lv_lsub C.1 C.2.1 hd  (k r hr l p e s m args below meth c D cI cJ cB A α H locs cells slots ls Qc C V hc hs hl E)

theorem J_lmul {x y : Int64} (hd : decode mi.2.1 pc = .ok (.lmul, 1))  (k : J mi mc ms kc ks h (pc + 1) loc (.long (x * y) :: stk) o) : J mi mc ms kc ks h pc loc (.long y :: .long x :: stk) o := by
  intro r hr l p e s m args below meth c D cI cJ cB A α H locs cells slots ls Qc C V hc hs hl E
  exact lv_lmul C.1 C.2.1 hd  (k r hr l p e s m args below meth c D cI cJ cB A α H locs cells slots ls Qc C V hc hs hl E)

theorem J_lor {x y : Int64} (hd : decode mi.2.1 pc = .ok (.lor, 1))  (k : J mi mc ms kc ks h (pc + 1) loc (.long (x ||| y) :: stk) o) : J mi mc ms kc ks h pc loc (.long y :: .long x :: stk) o := by
  intro r hr l p e s m args below meth c D cI cJ cB A α H locs cells slots ls Qc C V hc hs hl E
  exact lv_lor C.1 C.2.1 hd  (k r hr l p e s m args below meth c D cI cJ cB A α H locs cells slots ls Qc C V hc hs hl E)

theorem J_ineg {x : Int32} (hd : decode mi.2.1 pc = .ok (.ineg, 1))  (k : J mi mc ms kc ks h (pc + 1) loc (.int (-x) :: stk) o) : J mi mc ms kc ks h pc loc (.int x :: stk) o := by
  intro r hr l p e s m args below meth c D cI cJ cB A α H locs cells slots ls Qc C V hc hs hl E
  exact lv_ineg C.1 C.2.1 hd  (k r hr l p e s m args below meth c D cI cJ cB A α H locs cells slots ls Qc C V hc hs hl E)

theorem J_i2l {x : Int32} (hd : decode mi.2.1 pc = .ok (.i2l, 1))  (k : J mi mc ms kc ks h (pc + 1) loc (.long (x.toInt64) :: stk) o) : J mi mc ms kc ks h pc loc (.int x :: stk) o := by
  intro r hr l p e s m args below meth c D cI cJ cB A α H locs cells slots ls Qc C V hc hs hl E
  exact lv_i2l C.1 C.2.1 hd rfl (k r hr l p e s m args below meth c D cI cJ cB A α H locs cells slots ls Qc C V hc hs hl E)

theorem J_l2i {x : Int64} (hd : decode mi.2.1 pc = .ok (.l2i, 1))  (k : J mi mc ms kc ks h (pc + 1) loc (.int (x.toInt32) :: stk) o) : J mi mc ms kc ks h pc loc (.long x :: stk) o := by
  intro r hr l p e s m args below meth c D cI cJ cB A α H locs cells slots ls Qc C V hc hs hl E
  exact lv_l2i C.1 C.2.1 hd rfl (k r hr l p e s m args below meth c D cI cJ cB A α H locs cells slots ls Qc C V hc hs hl E)

theorem J_i2b {x : Int32} (hd : decode mi.2.1 pc = .ok (.i2b, 1))  (k : J mi mc ms kc ks h (pc + 1) loc (.int (x.toInt8.toInt32) :: stk) o) : J mi mc ms kc ks h pc loc (.int x :: stk) o := by
  intro r hr l p e s m args below meth c D cI cJ cB A α H locs cells slots ls Qc C V hc hs hl E
  exact lv_i2b C.1 C.2.1 hd rfl (k r hr l p e s m args below meth c D cI cJ cB A α H locs cells slots ls Qc C V hc hs hl E)

theorem J_i2c {x : Int32} (hd : decode mi.2.1 pc = .ok (.i2c, 1))  (k : J mi mc ms kc ks h (pc + 1) loc (.int ((x.toUInt32 % 65536).toInt32) :: stk) o) : J mi mc ms kc ks h pc loc (.int x :: stk) o := by
  intro r hr l p e s m args below meth c D cI cJ cB A α H locs cells slots ls Qc C V hc hs hl E
  exact lv_i2c C.1 C.2.1 hd rfl (k r hr l p e s m args below meth c D cI cJ cB A α H locs cells slots ls Qc C V hc hs hl E)

theorem J_iushr {x y : Int32} (hd : decode mi.2.1 pc = .ok (.iushr, 1))  (k : J mi mc ms kc ks h (pc + 1) loc (.int ((x.toUInt32 >>> (y.toUInt32 &&& Int32.toUInt32 31)).toInt32) :: stk) o) : J mi mc ms kc ks h pc loc (.int y :: .int x :: stk) o := by
  intro r hr l p e s m args below meth c D cI cJ cB A α H locs cells slots ls Qc C V hc hs hl E
  exact lv_iushr C.1 C.2.1 hd rfl (k r hr l p e s m args below meth c D cI cJ cB A α H locs cells slots ls Qc C V hc hs hl E)

theorem J_lshl {x : Int64} {y : Int32} (hd : decode mi.2.1 pc = .ok (.lshl, 1))  (k : J mi mc ms kc ks h (pc + 1) loc (.long (x <<< (y.toInt64 &&& 63)) :: stk) o) : J mi mc ms kc ks h pc loc (.int y :: .long x :: stk) o := by
  intro r hr l p e s m args below meth c D cI cJ cB A α H locs cells slots ls Qc C V hc hs hl E
  exact lv_lshl C.1 C.2.1 hd rfl (k r hr l p e s m args below meth c D cI cJ cB A α H locs cells slots ls Qc C V hc hs hl E)

theorem J_iconst {n : Int} {v : Int32} (hd : decode mi.2.1 pc = .ok (.iconst n, 1)) (hv : Int32.ofInt n = v) (k : J mi mc ms kc ks h (pc + 1) loc (.int v :: stk) o) : J mi mc ms kc ks h pc loc (stk) o := by
  intro r hr l p e s m args below meth c D cI cJ cB A α H locs cells slots ls Qc C V hc hs hl E
  exact lv_iconst C.1 C.2.1 hd hv (k r hr l p e s m args below meth c D cI cJ cB A α H locs cells slots ls Qc C V hc hs hl E)

theorem J_bipush {n : Int} {v : Int32} (hd : decode mi.2.1 pc = .ok (.bipush n, 2)) (hv : (Int8.ofInt n).toInt32 = v) (k : J mi mc ms kc ks h (pc + 2) loc (.int v :: stk) o) : J mi mc ms kc ks h pc loc (stk) o := by
  intro r hr l p e s m args below meth c D cI cJ cB A α H locs cells slots ls Qc C V hc hs hl E
  exact lv_bipush C.1 C.2.1 hd hv (k r hr l p e s m args below meth c D cI cJ cB A α H locs cells slots ls Qc C V hc hs hl E)

theorem J_sipush {n : Int} {v : Int32} (hd : decode mi.2.1 pc = .ok (.sipush n, 3)) (hv : (Int16.ofInt n).toInt32 = v) (k : J mi mc ms kc ks h (pc + 3) loc (.int v :: stk) o) : J mi mc ms kc ks h pc loc (stk) o := by
  intro r hr l p e s m args below meth c D cI cJ cB A α H locs cells slots ls Qc C V hc hs hl E
  exact lv_sipush C.1 C.2.1 hd hv (k r hr l p e s m args below meth c D cI cJ cB A α H locs cells slots ls Qc C V hc hs hl E)

theorem J_lconst {n : Fin 2} {v : Int64} (hd : decode mi.2.1 pc = .ok (.lconst n, 1)) (hv : Int64.ofNat (n : Nat) = v) (k : J mi mc ms kc ks h (pc + 1) loc (.long v :: stk) o) : J mi mc ms kc ks h pc loc (stk) o := by
  intro r hr l p e s m args below meth c D cI cJ cB A α H locs cells slots ls Qc C V hc hs hl E
  exact lv_lconst C.1 C.2.1 hd hv (k r hr l p e s m args below meth c D cI cJ cB A α H locs cells slots ls Qc C V hc hs hl E)

theorem J_lcmp {x y : Int64} (hd : decode mi.2.1 pc = .ok (.lcmp, 1)) (k : J mi mc ms kc ks h (pc + 1) loc (.int (lg_cmp x y) :: stk) o) : J mi mc ms kc ks h pc loc (.long y :: .long x :: stk) o := by
  intro r hr l p e s m args below meth c D cI cJ cB A α H locs cells slots ls Qc C V hc hs hl E
  exact W.lcmp C.1 C.2.1 hd (k r hr l p e s m args below meth c D cI cJ cB A α H locs cells slots ls Qc C V hc hs hl E)

theorem J_dup {v : Value} (hd : decode mi.2.1 pc = .ok (.dup, 1)) (hv : v.category = 1) (k : J mi mc ms kc ks h (pc + 1) loc (v :: v :: stk) o) : J mi mc ms kc ks h pc loc (v :: stk) o := by
  intro r hr l p e s m args below meth c D cI cJ cB A α H locs cells slots ls Qc C V hc hs hl E
  exact lv_dup C.1 C.2.1 hd ((j_tv_cat α v).trans hv) (k r hr l p e s m args below meth c D cI cJ cB A α H locs cells slots ls Qc C V hc hs hl E)

theorem J_dup2 {v w : Value} (hd : decode mi.2.1 pc = .ok (.dup2, 1)) (hv : v.category = 1) (hw : w.category = 1) (k : J mi mc ms kc ks h (pc + 1) loc (v :: w :: v :: w :: stk) o) : J mi mc ms kc ks h pc loc (v :: w :: stk) o := by
  intro r hr l p e s m args below meth c D cI cJ cB A α H locs cells slots ls Qc C V hc hs hl E
  exact lv_dup2_11 C.1 C.2.1 hd ((j_tv_cat α v).trans hv) ((j_tv_cat α w).trans hw) (k r hr l p e s m args below meth c D cI cJ cB A α H locs cells slots ls Qc C V hc hs hl E)

theorem J_pop {v : Value} (hd : decode mi.2.1 pc = .ok (.pop, 1)) (hv : v.category = 1) (k : J mi mc ms kc ks h (pc + 1) loc stk o) : J mi mc ms kc ks h pc loc (v :: stk) o := by
  intro r hr l p e s m args below meth c D cI cJ cB A α H locs cells slots ls Qc C V hc hs hl E
  exact lv_pop C.1 C.2.1 hd ((j_tv_cat α v).trans hv) (k r hr l p e s m args below meth c D cI cJ cB A α H locs cells slots ls Qc C V hc hs hl E)

theorem j_at {α : Nat → Nat} {l : List (Nat × Value)} {q i : Nat} {v : Value} (hq : l[q]? = some (i, v)) : (l.map (j_tq α))[q]? = some (i, j_tv α v) := by
  rw [List.getElem?_map, hq]; rfl
theorem j_filter1 (α : Nat → Nat) (i : Nat) (l : List (Nat × Value)) : (l.map (j_tq α)).filter (fun q => !(q.1 == i) && !(q.1 + 1 == i && q.2.category == 2)) = (l.filter (fun q => !(q.1 == i) && !(q.1 + 1 == i && q.2.category == 2))).map (j_tq α) := by
  rw [List.filter_map]
  congr 1
  apply List.filter_congr
  intro q _
  simp [j_tq, j_tv_cat]
theorem j_filter2 (α : Nat → Nat) (i : Nat) (l : List (Nat × Value)) : (l.map (j_tq α)).filter (fun q => !(q.1 == i) && (!(q.1 == i + 1) && !(q.1 + 1 == i && q.2.category == 2))) = (l.filter (fun q => !(q.1 == i) && (!(q.1 == i + 1) && !(q.1 + 1 == i && q.2.category == 2)))).map (j_tq α) := by
  rw [List.filter_map]
  congr 1
  apply List.filter_congr
  intro q _
  simp [j_tq, j_tv_cat]
theorem j_pick (α : Nat → Nat) (l : List (Nat × Value)) (ks : List Nat) : lv_pick (l.map (j_tq α)) ks = (lv_pick l ks).map (j_tq α) := by
  unfold lv_pick
  rw [List.map_filterMap]
  congr 1
  funext k
  rw [List.getElem?_map]

theorem J_loc {loc' : List (Nat × Value)} (js : List Nat) (e : lv_pick loc js = loc') (k : J mi mc ms kc ks h pc loc' stk o) : J mi mc ms kc ks h pc loc stk o := by
  intro r hr l p e9 s m args below meth c D cI cJ cB A α H locs cells slots ls Qc C V hc hs hl E
  exact k r hr l p e9 s m args below meth c D cI cJ cB A α H locs cells slots ls Qc C V hc hs (lv_sub hl js (by rw [j_pick, e])) E

theorem J_iload_n {n : Fin 4} {i : Nat} {x : Int32} (q : Nat) (hd : decode mi.2.1 pc = .ok (.iload_n n, 1)) (hi : (n : Nat) = i) (hq : loc[q]? = some (i, .int x)) (k : J mi mc ms kc ks h (pc + 1) loc (.int x :: stk) o) : J mi mc ms kc ks h pc loc stk o := by
  intro r hr l p e s m args below meth c D cI cJ cB A α H locs cells slots ls Qc C V hc hs hl E
  exact lv_iload_n C.1 C.2.1 hd hi (lv_at hl q (j_at hq)) (k r hr l p e s m args below meth c D cI cJ cB A α H locs cells slots ls Qc C V hc hs hl E)

theorem J_iload {i : Nat} {x : Int32} (q : Nat) (hd : decode mi.2.1 pc = .ok (.iload i, 2)) (hq : loc[q]? = some (i, .int x)) (k : J mi mc ms kc ks h (pc + 2) loc (.int x :: stk) o) : J mi mc ms kc ks h pc loc stk o := by
  intro r hr l p e s m args below meth c D cI cJ cB A α H locs cells slots ls Qc C V hc hs hl E
  exact lv_iload C.1 C.2.1 hd (lv_at hl q (j_at hq)) (k r hr l p e s m args below meth c D cI cJ cB A α H locs cells slots ls Qc C V hc hs hl E)

theorem J_istore_n {n : Fin 4} {i : Nat} {x : Int32} {loc' : List (Nat × Value)} (hd : decode mi.2.1 pc = .ok (.istore_n n, 1)) (hi : (n : Nat) = i) (hn : i < mi.2.2.1) (e : (i, Value.int x) :: loc.filter (fun q => !(q.1 == i) && !(q.1 + 1 == i && q.2.category == 2)) = loc') (k : J mi mc ms kc ks h (pc + 1) loc' stk o) : J mi mc ms kc ks h pc loc (.int x :: stk) o := by
  intro r hr l p e9 s m args below meth c D cI cJ cB A α H locs cells slots ls Qc C V hc hs hl E
  exact lv_istore_n C.1 C.2.1 hd hi hl hn rfl (fun ls hl => k r hr l p e9 s m args below meth c D cI cJ cB A α H locs cells slots ls Qc C V hc hs (by rw [← e, List.map_cons, ← j_filter1]; exact hl) E)

theorem J_istore {i : Nat} {x : Int32} {loc' : List (Nat × Value)} (hd : decode mi.2.1 pc = .ok (.istore i, 2)) (hn : i < mi.2.2.1) (e : (i, Value.int x) :: loc.filter (fun q => !(q.1 == i) && !(q.1 + 1 == i && q.2.category == 2)) = loc') (k : J mi mc ms kc ks h (pc + 2) loc' stk o) : J mi mc ms kc ks h pc loc (.int x :: stk) o := by
  intro r hr l p e9 s m args below meth c D cI cJ cB A α H locs cells slots ls Qc C V hc hs hl E
  exact lv_istore C.1 C.2.1 hd hl hn rfl (fun ls hl => k r hr l p e9 s m args below meth c D cI cJ cB A α H locs cells slots ls Qc C V hc hs (by rw [← e, List.map_cons, ← j_filter1]; exact hl) E)

theorem J_lload_n {n : Fin 4} {i : Nat} {x : Int64} (q : Nat) (hd : decode mi.2.1 pc = .ok (.lload_n n, 1)) (hi : (n : Nat) = i) (hq : loc[q]? = some (i, .long x)) (k : J mi mc ms kc ks h (pc + 1) loc (.long x :: stk) o) : J mi mc ms kc ks h pc loc stk o := by
  intro r hr l p e s m args below meth c D cI cJ cB A α H locs cells slots ls Qc C V hc hs hl E
  exact lv_lload_n C.1 C.2.1 hd hi (lv_at hl q (j_at hq)) (k r hr l p e s m args below meth c D cI cJ cB A α H locs cells slots ls Qc C V hc hs hl E)

theorem J_lload {i : Nat} {x : Int64} (q : Nat) (hd : decode mi.2.1 pc = .ok (.lload i, 2)) (hq : loc[q]? = some (i, .long x)) (k : J mi mc ms kc ks h (pc + 2) loc (.long x :: stk) o) : J mi mc ms kc ks h pc loc stk o := by
  intro r hr l p e s m args below meth c D cI cJ cB A α H locs cells slots ls Qc C V hc hs hl E
  exact lv_lload C.1 C.2.1 hd (lv_at hl q (j_at hq)) (k r hr l p e s m args below meth c D cI cJ cB A α H locs cells slots ls Qc C V hc hs hl E)

theorem J_lstore_n {n : Fin 4} {i : Nat} {x : Int64} {loc' : List (Nat × Value)} (hd : decode mi.2.1 pc = .ok (.lstore_n n, 1)) (hi : (n : Nat) = i) (hn : i + 1 < mi.2.2.1) (e : (i, Value.long x) :: loc.filter (fun q => !(q.1 == i) && (!(q.1 == i + 1) && !(q.1 + 1 == i && q.2.category == 2))) = loc') (k : J mi mc ms kc ks h (pc + 1) loc' stk o) : J mi mc ms kc ks h pc loc (.long x :: stk) o := by
  intro r hr l p e9 s m args below meth c D cI cJ cB A α H locs cells slots ls Qc C V hc hs hl E
  exact lv_lstore_n C.1 C.2.1 hd hi hl hn rfl (fun ls hl => k r hr l p e9 s m args below meth c D cI cJ cB A α H locs cells slots ls Qc C V hc hs (by rw [← e, List.map_cons, ← j_filter2]; exact hl) E)

theorem J_lstore {i : Nat} {x : Int64} {loc' : List (Nat × Value)} (hd : decode mi.2.1 pc = .ok (.lstore i, 2)) (hn : i + 1 < mi.2.2.1) (e : (i, Value.long x) :: loc.filter (fun q => !(q.1 == i) && (!(q.1 == i + 1) && !(q.1 + 1 == i && q.2.category == 2))) = loc') (k : J mi mc ms kc ks h (pc + 2) loc' stk o) : J mi mc ms kc ks h pc loc (.long x :: stk) o := by
  intro r hr l p e9 s m args below meth c D cI cJ cB A α H locs cells slots ls Qc C V hc hs hl E
  exact lv_lstore C.1 C.2.1 hd hl hn rfl (fun ls hl => k r hr l p e9 s m args below meth c D cI cJ cB A α H locs cells slots ls Qc C V hc hs (by rw [← e, List.map_cons, ← j_filter2]; exact hl) E)

theorem J_aload_n {n : Fin 4} {i : Nat} {x : Nat} (q : Nat) (hd : decode mi.2.1 pc = .ok (.aload_n n, 1)) (hi : (n : Nat) = i) (hq : loc[q]? = some (i, .ref x)) (k : J mi mc ms kc ks h (pc + 1) loc (.ref x :: stk) o) : J mi mc ms kc ks h pc loc stk o := by
  intro r hr l p e s m args below meth c D cI cJ cB A α H locs cells slots ls Qc C V hc hs hl E
  exact lv_aload_n C.1 C.2.1 hd hi (lv_at hl q (j_at hq)) (k r hr l p e s m args below meth c D cI cJ cB A α H locs cells slots ls Qc C V hc hs hl E)

theorem J_aload {i : Nat} {x : Nat} (q : Nat) (hd : decode mi.2.1 pc = .ok (.aload i, 2)) (hq : loc[q]? = some (i, .ref x)) (k : J mi mc ms kc ks h (pc + 2) loc (.ref x :: stk) o) : J mi mc ms kc ks h pc loc stk o := by
  intro r hr l p e s m args below meth c D cI cJ cB A α H locs cells slots ls Qc C V hc hs hl E
  exact lv_aload C.1 C.2.1 hd (lv_at hl q (j_at hq)) (k r hr l p e s m args below meth c D cI cJ cB A α H locs cells slots ls Qc C V hc hs hl E)

theorem J_astore_n {n : Fin 4} {i : Nat} {x : Nat} {loc' : List (Nat × Value)} (hd : decode mi.2.1 pc = .ok (.astore_n n, 1)) (hi : (n : Nat) = i) (hn : i < mi.2.2.1) (e : (i, Value.ref x) :: loc.filter (fun q => !(q.1 == i) && !(q.1 + 1 == i && q.2.category == 2)) = loc') (k : J mi mc ms kc ks h (pc + 1) loc' stk o) : J mi mc ms kc ks h pc loc (.ref x :: stk) o := by
  intro r hr l p e9 s m args below meth c D cI cJ cB A α H locs cells slots ls Qc C V hc hs hl E
  exact lv_astore_n C.1 C.2.1 hd hi hl hn rfl (fun ls hl => k r hr l p e9 s m args below meth c D cI cJ cB A α H locs cells slots ls Qc C V hc hs (by rw [← e, List.map_cons, ← j_filter1]; exact hl) E)

theorem J_astore {i : Nat} {x : Nat} {loc' : List (Nat × Value)} (hd : decode mi.2.1 pc = .ok (.astore i, 2)) (hn : i < mi.2.2.1) (e : (i, Value.ref x) :: loc.filter (fun q => !(q.1 == i) && !(q.1 + 1 == i && q.2.category == 2)) = loc') (k : J mi mc ms kc ks h (pc + 2) loc' stk o) : J mi mc ms kc ks h pc loc (.ref x :: stk) o := by
  intro r hr l p e9 s m args below meth c D cI cJ cB A α H locs cells slots ls Qc C V hc hs hl E
  exact lv_astore C.1 C.2.1 hd hl hn rfl (fun ls hl => k r hr l p e9 s m args below meth c D cI cJ cB A α H locs cells slots ls Qc C V hc hs (by rw [← e, List.map_cons, ← j_filter1]; exact hl) E)

theorem J_iinc {i : Nat} {n : Int} {x v : Int32} {loc' : List (Nat × Value)} (q : Nat) (hd : decode mi.2.1 pc = .ok (.iinc i n, 3)) (hq : loc[q]? = some (i, .int x)) (hv : x + Int32.ofInt n = v) (hn : i < mi.2.2.1) (e : (i, Value.int v) :: loc.filter (fun q => !(q.1 == i) && !(q.1 + 1 == i && q.2.category == 2)) = loc') (k : J mi mc ms kc ks h (pc + 3) loc' stk o) : J mi mc ms kc ks h pc loc stk o := by
  intro r hr l p e9 s m args below meth c D cI cJ cB A α H locs cells slots ls Qc C V hc hs hl E
  exact lv_iinc C.1 C.2.1 hd hl (k := q) (j_at hq) hv hn rfl (fun ls hl => k r hr l p e9 s m args below meth c D cI cJ cB A α H locs cells slots ls Qc C V hc hs (by rw [← e, List.map_cons, ← j_filter1]; exact hl) E)

-- eq: x = 0 | ¬ x = 0
theorem J_if_eq {x : Int32} {off : Int} {tgt : Nat} (hd : decode mi.2.1 pc = .ok (.ifCond .eq off, 3)) (ht : (pc : Int) + off = (tgt : Int)) (k1 : x = 0 → J mi mc ms kc ks h tgt loc stk o1) (k2 : ¬ (x = 0) → J mi mc ms kc ks h (pc + 3) loc stk o2) : J mi mc ms kc ks h pc loc (.int x :: stk) (if x = 0 then o1 else o2) := by
  intro r hr l p e s m args below meth c D cI cJ cB A α H locs cells slots ls Qc C V hc hs hl E
  exact lv_if_eq C.1 C.2.1 hd ht (fun z => k1 z r (by rw [if_pos z] at hr; exact hr) l p e s m args below meth c D cI cJ cB A α H locs cells slots ls Qc C V hc hs hl E) (fun z => k2 z r (by rw [if_neg z] at hr; exact hr) l p e s m args below meth c D cI cJ cB A α H locs cells slots ls Qc C V hc hs hl E)

theorem J_icmp_eq {x y : Int32} {off : Int} {tgt : Nat} (hd : decode mi.2.1 pc = .ok (.if_icmp .eq off, 3)) (ht : (pc : Int) + off = (tgt : Int)) (k1 : x = y → J mi mc ms kc ks h tgt loc stk o1) (k2 : ¬ (x = y) → J mi mc ms kc ks h (pc + 3) loc stk o2) : J mi mc ms kc ks h pc loc (.int y :: .int x :: stk) (if x = y then o1 else o2) := by
  intro r hr l p e s m args below meth c D cI cJ cB A α H locs cells slots ls Qc C V hc hs hl E
  exact lv_icmp_eq C.1 C.2.1 hd ht (fun z => k1 z r (by rw [if_pos z] at hr; exact hr) l p e s m args below meth c D cI cJ cB A α H locs cells slots ls Qc C V hc hs hl E) (fun z => k2 z r (by rw [if_neg z] at hr; exact hr) l p e s m args below meth c D cI cJ cB A α H locs cells slots ls Qc C V hc hs hl E)

-- ne: ¬ x = 0 | x = 0
theorem J_if_ne {x : Int32} {off : Int} {tgt : Nat} (hd : decode mi.2.1 pc = .ok (.ifCond .ne off, 3)) (ht : (pc : Int) + off = (tgt : Int)) (k1 : ¬ (x = 0) → J mi mc ms kc ks h tgt loc stk o1) (k2 : x = 0 → J mi mc ms kc ks h (pc + 3) loc stk o2) : J mi mc ms kc ks h pc loc (.int x :: stk) (if x = 0 then o2 else o1) := by
  intro r hr l p e s m args below meth c D cI cJ cB A α H locs cells slots ls Qc C V hc hs hl E
  exact lv_if_ne C.1 C.2.1 hd ht (fun z => k1 z r (by rw [if_neg z] at hr; exact hr) l p e s m args below meth c D cI cJ cB A α H locs cells slots ls Qc C V hc hs hl E) (fun z => k2 z r (by rw [if_pos z] at hr; exact hr) l p e s m args below meth c D cI cJ cB A α H locs cells slots ls Qc C V hc hs hl E)

theorem J_icmp_ne {x y : Int32} {off : Int} {tgt : Nat} (hd : decode mi.2.1 pc = .ok (.if_icmp .ne off, 3)) (ht : (pc : Int) + off = (tgt : Int)) (k1 : ¬ (x = y) → J mi mc ms kc ks h tgt loc stk o1) (k2 : x = y → J mi mc ms kc ks h (pc + 3) loc stk o2) : J mi mc ms kc ks h pc loc (.int y :: .int x :: stk) (if x = y then o2 else o1) := by
  intro r hr l p e s m args below meth c D cI cJ cB A α H locs cells slots ls Qc C V hc hs hl E
  exact lv_icmp_ne C.1 C.2.1 hd ht (fun z => k1 z r (by rw [if_neg z] at hr; exact hr) l p e s m args below meth c D cI cJ cB A α H locs cells slots ls Qc C V hc hs hl E) (fun z => k2 z r (by rw [if_pos z] at hr; exact hr) l p e s m args below meth c D cI cJ cB A α H locs cells slots ls Qc C V hc hs hl E)

-- lt: x < 0 | ¬ x < 0
theorem J_if_lt {x : Int32} {off : Int} {tgt : Nat} (hd : decode mi.2.1 pc = .ok (.ifCond .lt off, 3)) (ht : (pc : Int) + off = (tgt : Int)) (k1 : x < 0 → J mi mc ms kc ks h tgt loc stk o1) (k2 : ¬ (x < 0) → J mi mc ms kc ks h (pc + 3) loc stk o2) : J mi mc ms kc ks h pc loc (.int x :: stk) (if x < 0 then o1 else o2) := by
  intro r hr l p e s m args below meth c D cI cJ cB A α H locs cells slots ls Qc C V hc hs hl E
  exact lv_if_lt C.1 C.2.1 hd ht (fun z => k1 z r (by rw [if_pos z] at hr; exact hr) l p e s m args below meth c D cI cJ cB A α H locs cells slots ls Qc C V hc hs hl E) (fun z => k2 z r (by rw [if_neg z] at hr; exact hr) l p e s m args below meth c D cI cJ cB A α H locs cells slots ls Qc C V hc hs hl E)

theorem J_icmp_lt {x y : Int32} {off : Int} {tgt : Nat} (hd : decode mi.2.1 pc = .ok (.if_icmp .lt off, 3)) (ht : (pc : Int) + off = (tgt : Int)) (k1 : x < y → J mi mc ms kc ks h tgt loc stk o1) (k2 : ¬ (x < y) → J mi mc ms kc ks h (pc + 3) loc stk o2) : J mi mc ms kc ks h pc loc (.int y :: .int x :: stk) (if x < y then o1 else o2) := by
  intro r hr l p e s m args below meth c D cI cJ cB A α H locs cells slots ls Qc C V hc hs hl E
  exact lv_icmp_lt C.1 C.2.1 hd ht (fun z => k1 z r (by rw [if_pos z] at hr; exact hr) l p e s m args below meth c D cI cJ cB A α H locs cells slots ls Qc C V hc hs hl E) (fun z => k2 z r (by rw [if_neg z] at hr; exact hr) l p e s m args below meth c D cI cJ cB A α H locs cells slots ls Qc C V hc hs hl E)

-- ge: 0 ≤ x | ¬ 0 ≤ x
theorem J_if_ge {x : Int32} {off : Int} {tgt : Nat} (hd : decode mi.2.1 pc = .ok (.ifCond .ge off, 3)) (ht : (pc : Int) + off = (tgt : Int)) (k1 : 0 ≤ x → J mi mc ms kc ks h tgt loc stk o1) (k2 : ¬ (0 ≤ x) → J mi mc ms kc ks h (pc + 3) loc stk o2) : J mi mc ms kc ks h pc loc (.int x :: stk) (if 0 ≤ x then o1 else o2) := by
  intro r hr l p e s m args below meth c D cI cJ cB A α H locs cells slots ls Qc C V hc hs hl E
  exact lv_if_ge C.1 C.2.1 hd ht (fun z => k1 z r (by rw [if_pos z] at hr; exact hr) l p e s m args below meth c D cI cJ cB A α H locs cells slots ls Qc C V hc hs hl E) (fun z => k2 z r (by rw [if_neg z] at hr; exact hr) l p e s m args below meth c D cI cJ cB A α H locs cells slots ls Qc C V hc hs hl E)

theorem J_icmp_ge {x y : Int32} {off : Int} {tgt : Nat} (hd : decode mi.2.1 pc = .ok (.if_icmp .ge off, 3)) (ht : (pc : Int) + off = (tgt : Int)) (k1 : y ≤ x → J mi mc ms kc ks h tgt loc stk o1) (k2 : ¬ (y ≤ x) → J mi mc ms kc ks h (pc + 3) loc stk o2) : J mi mc ms kc ks h pc loc (.int y :: .int x :: stk) (if y ≤ x then o1 else o2) := by
  intro r hr l p e s m args below meth c D cI cJ cB A α H locs cells slots ls Qc C V hc hs hl E
  exact lv_icmp_ge C.1 C.2.1 hd ht (fun z => k1 z r (by rw [if_pos z] at hr; exact hr) l p e s m args below meth c D cI cJ cB A α H locs cells slots ls Qc C V hc hs hl E) (fun z => k2 z r (by rw [if_neg z] at hr; exact hr) l p e s m args below meth c D cI cJ cB A α H locs cells slots ls Qc C V hc hs hl E)

-- gt: 0 < x | ¬ 0 < x
theorem J_if_gt {x : Int32} {off : Int} {tgt : Nat} (hd : decode mi.2.1 pc = .ok (.ifCond .gt off, 3)) (ht : (pc : Int) + off = (tgt : Int)) (k1 : 0 < x → J mi mc ms kc ks h tgt loc stk o1) (k2 : ¬ (0 < x) → J mi mc ms kc ks h (pc + 3) loc stk o2) : J mi mc ms kc ks h pc loc (.int x :: stk) (if 0 < x then o1 else o2) := by
  intro r hr l p e s m args below meth c D cI cJ cB A α H locs cells slots ls Qc C V hc hs hl E
  exact lv_if_gt C.1 C.2.1 hd ht (fun z => k1 z r (by rw [if_pos z] at hr; exact hr) l p e s m args below meth c D cI cJ cB A α H locs cells slots ls Qc C V hc hs hl E) (fun z => k2 z r (by rw [if_neg z] at hr; exact hr) l p e s m args below meth c D cI cJ cB A α H locs cells slots ls Qc C V hc hs hl E)

theorem J_icmp_gt {x y : Int32} {off : Int} {tgt : Nat} (hd : decode mi.2.1 pc = .ok (.if_icmp .gt off, 3)) (ht : (pc : Int) + off = (tgt : Int)) (k1 : y < x → J mi mc ms kc ks h tgt loc stk o1) (k2 : ¬ (y < x) → J mi mc ms kc ks h (pc + 3) loc stk o2) : J mi mc ms kc ks h pc loc (.int y :: .int x :: stk) (if y < x then o1 else o2) := by
  intro r hr l p e s m args below meth c D cI cJ cB A α H locs cells slots ls Qc C V hc hs hl E
  exact lv_icmp_gt C.1 C.2.1 hd ht (fun z => k1 z r (by rw [if_pos z] at hr; exact hr) l p e s m args below meth c D cI cJ cB A α H locs cells slots ls Qc C V hc hs hl E) (fun z => k2 z r (by rw [if_neg z] at hr; exact hr) l p e s m args below meth c D cI cJ cB A α H locs cells slots ls Qc C V hc hs hl E)

-- le: x ≤ 0 | ¬ x ≤ 0
theorem J_if_le {x : Int32} {off : Int} {tgt : Nat} (hd : decode mi.2.1 pc = .ok (.ifCond .le off, 3)) (ht : (pc : Int) + off = (tgt : Int)) (k1 : x ≤ 0 → J mi mc ms kc ks h tgt loc stk o1) (k2 : ¬ (x ≤ 0) → J mi mc ms kc ks h (pc + 3) loc stk o2) : J mi mc ms kc ks h pc loc (.int x :: stk) (if x ≤ 0 then o1 else o2) := by
  intro r hr l p e s m args below meth c D cI cJ cB A α H locs cells slots ls Qc C V hc hs hl E
  exact lv_if_le C.1 C.2.1 hd ht (fun z => k1 z r (by rw [if_pos z] at hr; exact hr) l p e s m args below meth c D cI cJ cB A α H locs cells slots ls Qc C V hc hs hl E) (fun z => k2 z r (by rw [if_neg z] at hr; exact hr) l p e s m args below meth c D cI cJ cB A α H locs cells slots ls Qc C V hc hs hl E)

theorem J_icmp_le {x y : Int32} {off : Int} {tgt : Nat} (hd : decode mi.2.1 pc = .ok (.if_icmp .le off, 3)) (ht : (pc : Int) + off = (tgt : Int)) (k1 : x ≤ y → J mi mc ms kc ks h tgt loc stk o1) (k2 : ¬ (x ≤ y) → J mi mc ms kc ks h (pc + 3) loc stk o2) : J mi mc ms kc ks h pc loc (.int y :: .int x :: stk) (if x ≤ y then o1 else o2) := by
  intro r hr l p e s m args below meth c D cI cJ cB A α H locs cells slots ls Qc C V hc hs hl E
  exact lv_icmp_le C.1 C.2.1 hd ht (fun z => k1 z r (by rw [if_pos z] at hr; exact hr) l p e s m args below meth c D cI cJ cB A α H locs cells slots ls Qc C V hc hs hl E) (fun z => k2 z r (by rw [if_neg z] at hr; exact hr) l p e s m args below meth c D cI cJ cB A α H locs cells slots ls Qc C V hc hs hl E)

theorem J_goto {off : Int} {tgt : Nat} (hd : decode mi.2.1 pc = .ok (.goto off, 3)) (ht : (pc : Int) + off = (tgt : Int)) (k : J mi mc ms kc ks h tgt loc stk o) : J mi mc ms kc ks h pc loc stk o := by
  intro r hr l p e s m args below meth c D cI cJ cB A α H locs cells slots ls Qc C V hc hs hl E
  exact lv_goto C.1 C.2.1 hd ht (k r hr l p e s m args below meth c D cI cJ cB A α H locs cells slots ls Qc C V hc hs hl E)

theorem J_ifnonnull {x : Nat} {off : Int} {tgt : Nat} (hd : decode mi.2.1 pc = .ok (.ifnonnull off, 3)) (ht : (pc : Int) + off = (tgt : Int)) (k : J mi mc ms kc ks h tgt loc stk o) : J mi mc ms kc ks h pc loc (.ref x :: stk) o := by
  intro r hr l p e s m args below meth c D cI cJ cB A α H locs cells slots ls Qc C V hc hs hl E
  exact lv_ifnonnull C.1 C.2.1 hd ht (k r hr l p e s m args below meth c D cI cJ cB A α H locs cells slots ls Qc C V hc hs hl E)

theorem J_ifnonnullN {off : Int} (hd : decode mi.2.1 pc = .ok (.ifnonnull off, 3)) (k : J mi mc ms kc ks h (pc + 3) loc stk o) : J mi mc ms kc ks h pc loc (.null :: stk) o := by
  intro r hr l p e s m args below meth c D cI cJ cB A α H locs cells slots ls Qc C V hc hs hl E
  exact lv_ifnonnullN C.1 C.2.1 hd (k r hr l p e s m args below meth c D cI cJ cB A α H locs cells slots ls Qc C V hc hs hl E)

theorem J_ifnull {x : Nat} {off : Int} (hd : decode mi.2.1 pc = .ok (.ifnull off, 3)) (k : J mi mc ms kc ks h (pc + 3) loc stk o) : J mi mc ms kc ks h pc loc (.ref x :: stk) o := by
  intro r hr l p e s m args below meth c D cI cJ cB A α H locs cells slots ls Qc C V hc hs hl E
  exact lv_ifnull C.1 C.2.1 hd (k r hr l p e s m args below meth c D cI cJ cB A α H locs cells slots ls Qc C V hc hs hl E)

theorem J_ifnullN {off : Int} {tgt : Nat} (hd : decode mi.2.1 pc = .ok (.ifnull off, 3)) (ht : (pc : Int) + off = (tgt : Int)) (k : J mi mc ms kc ks h tgt loc stk o) : J mi mc ms kc ks h pc loc (.null :: stk) o := by
  intro r hr l p e s m args below meth c D cI cJ cB A α H locs cells slots ls Qc C V hc hs hl E
  exact lv_ifnullN C.1 C.2.1 hd ht (k r hr l p e s m args below meth c D cI cJ cB A α H locs cells slots ls Qc C V hc hs hl E)

theorem J_ldc {idx : Nat} {v : Int32} (hd : decode mi.2.1 pc = .ok (.ldc idx, 2)) (hw : Jvm.Cond.constant mi.2.2.2.2.1 idx v ∈ j_gw) (k : J mi mc ms kc ks h (pc + 2) loc (.int v :: stk) o) : J mi mc ms kc ks h pc loc stk o := by
  intro r hr l p e s m args below meth c D cI cJ cB A α H locs cells slots ls Qc C V hc hs hl E
  exact lv_ldc C.1 C.2.1 C.2.2.2.2.1 (C.2.2.2.2.2.1 _ hw) hd (k r hr l p e s m args below meth c D cI cJ cB A α H locs cells slots ls Qc C V hc hs hl E)

theorem J_ldcw {idx : Nat} {v : Int32} (hd : decode mi.2.1 pc = .ok (.ldc_w idx, 3)) (hw : Jvm.Cond.constant mi.2.2.2.2.1 idx v ∈ j_gw) (k : J mi mc ms kc ks h (pc + 3) loc (.int v :: stk) o) : J mi mc ms kc ks h pc loc stk o := by
  intro r hr l p e s m args below meth c D cI cJ cB A α H locs cells slots ls Qc C V hc hs hl E
  exact lv_ldcw C.1 C.2.1 C.2.2.2.2.1 (C.2.2.2.2.2.1 _ hw) hd (k r hr l p e s m args below meth c D cI cJ cB A α H locs cells slots ls Qc C V hc hs hl E)

theorem J_ldc2 {idx : Nat} {v : Int64} (hd : decode mi.2.1 pc = .ok (.ldc2_w idx, 3)) (hw : Jvm.Cond.constantLong mi.2.2.2.2.1 idx v ∈ j_gw) (k : J mi mc ms kc ks h (pc + 3) loc (.long v :: stk) o) : J mi mc ms kc ks h pc loc stk o := by
  intro r hr l p e s m args below meth c D cI cJ cB A α H locs cells slots ls Qc C V hc hs hl E
  exact lv_ldc2 C.1 C.2.1 C.2.2.2.2.1 (C.2.2.2.2.2.1 _ hw) hd (k r hr l p e s m args below meth c D cI cJ cB A α H locs cells slots ls Qc C V hc hs hl E)

theorem J_tsIn {dflt lo hi : Int} {offs : Array Int} {len : Nat} {x : Int32} {off : Int} {tgt : Nat} (hd : decode mi.2.1 pc = .ok (.tableswitch dflt lo hi offs, len)) (h1 : ¬ x.toInt < lo) (h2 : ¬ hi < x.toInt) (ho : offs[(x.toInt - lo).toNat]? = some off) (ht : (pc : Int) + off = (tgt : Int)) (k : J mi mc ms kc ks h tgt loc stk o) : J mi mc ms kc ks h pc loc (.int x :: stk) o := by
  intro r hr l p e s m args below meth c D cI cJ cB A α H locs cells slots ls Qc C V hc hs hl E
  exact lv_tableIn C.1 C.2.1 hd h1 h2 ho ht (k r hr l p e s m args below meth c D cI cJ cB A α H locs cells slots ls Qc C V hc hs hl E)

theorem J_tsOut {dflt lo hi : Int} {offs : Array Int} {len : Nat} {x : Int32} {tgt : Nat} (hd : decode mi.2.1 pc = .ok (.tableswitch dflt lo hi offs, len)) (hx : x.toInt < lo ∨ hi < x.toInt) (ht : (pc : Int) + dflt = (tgt : Int)) (k : J mi mc ms kc ks h tgt loc stk o) : J mi mc ms kc ks h pc loc (.int x :: stk) o := by
  intro r hr l p e s m args below meth c D cI cJ cB A α H locs cells slots ls Qc C V hc hs hl E
  exact lv_tableOut C.1 C.2.1 hd hx ht (k r hr l p e s m args below meth c D cI cJ cB A α H locs cells slots ls Qc C V hc hs hl E)

theorem J_iret {v : Int32} (hd : decode mi.2.1 pc = .ok (.ireturn, 1)) (hret : mi.2.2.2.1 = some .int) : J mi mc ms kc ks h pc loc [.int v] (some (some (.int v), h)) := by
  intro r hr l p e s m args below meth c D cI cJ cB A α H locs cells slots ls Qc C V hc hs hl E
  cases hr
  refine W.widen (k := mc) (n := ms) (by omega) (by omega) ?_
  exact W.iret (v := v) C.1 C.2.1 (C.2.2.2.1.trans hret) (fun t ht hW => E α t (Nat.le_refl _) V.2.2.2.2.2 (fun _ _ => rfl) (by rw [ht]; exact V.1) V.2.1 (V.2.2.1.F ht) hW V.2.2.2.2.1) V.2.2.1.2.2 hd C.2.2.2.2.2.2.1

theorem J_lret {v : Int64} (hd : decode mi.2.1 pc = .ok (.lreturn, 1)) (hret : mi.2.2.2.1 = some .long) : J mi mc ms kc ks h pc loc [.long v] (some (some (.long v), h)) := by
  intro r hr l p e s m args below meth c D cI cJ cB A α H locs cells slots ls Qc C V hc hs hl E
  cases hr
  refine W.widen (k := mc) (n := ms) (by omega) (by omega) ?_
  exact W.lret (v := v) C.1 C.2.1 (C.2.2.2.1.trans hret) (fun t ht hW => E α t (Nat.le_refl _) V.2.2.2.2.2 (fun _ _ => rfl) (by rw [ht]; exact V.1) V.2.1 (V.2.2.1.F ht) hW V.2.2.2.2.1) V.2.2.1.2.2 hd C.2.2.2.2.2.2.1

theorem J_zret {v : Int32} {ty : FieldType} (hd : decode mi.2.1 pc = .ok (.ireturn, 1)) (hret : mi.2.2.2.1 = some ty) (hn : narrow ty (.int v) = .int v) : J mi mc ms kc ks h pc loc [.int v] (some (some (.int v), h)) := by
  intro r hr l p e s m args below meth c D cI cJ cB A α H locs cells slots ls Qc C V hc hs hl E
  cases hr
  refine W.widen (k := mc) (n := ms) (by omega) (by omega) ?_
  exact W.zret (v := v) C.1 C.2.1 (C.2.2.2.1.trans hret) hn (fun t ht hW => E α t (Nat.le_refl _) V.2.2.2.2.2 (fun _ _ => rfl) (by rw [ht]; exact V.1) V.2.1 (V.2.2.1.F ht) hW V.2.2.2.2.1) V.2.2.1.2.2 hd C.2.2.2.2.2.2.1

theorem J_vret (hd : decode mi.2.1 pc = .ok (.return_, 1)) (hret : mi.2.2.2.1 = none) : J mi mc ms kc ks h pc loc [] (some (none, h)) := by
  intro r hr l p e s m args below meth c D cI cJ cB A α H locs cells slots ls Qc C V hc hs hl E
  cases hr
  refine W.widen (k := mc) (n := ms) (by omega) (by omega) ?_
  exact W.vret C.1 C.2.1 (C.2.2.2.1.trans hret) (fun t ht hW => E α t (Nat.le_refl _) V.2.2.2.2.2 (fun _ _ => rfl) (by rw [ht]; exact V.1) V.2.1 (V.2.2.1.F ht) hW V.2.2.2.2.1) V.2.2.1.2.2 hd C.2.2.2.2.2.2.1

theorem J_aret {a : Nat} {n : String} (hd : decode mi.2.1 pc = .ok (.areturn, 1)) (hret : mi.2.2.2.1 = some (.object n)) : J mi mc ms kc ks h pc loc [.ref a] (some (some (.ref a), h)) := by
  intro r hr l p e s m args below meth c D cI cJ cB A α H locs cells slots ls Qc C V hc hs hl E
  cases hr
  refine W.widen (k := mc) (n := ms) (by omega) (by omega) ?_
  exact W.aret (v := .ref (α a)) C.1 C.2.1 (C.2.2.2.1.trans hret) (Or.inl ⟨n, rfl⟩) (Or.inr ⟨_, rfl⟩) (fun t ht hW => E α t (Nat.le_refl _) V.2.2.2.2.2 (fun _ _ => rfl) (by rw [ht]; exact V.1) V.2.1 (V.2.2.1.F ht) hW V.2.2.2.2.1) V.2.2.1.2.2 hd C.2.2.2.2.2.2.1

end JR
theorem j_sl_len (α : Nat → Nat) : ∀ av : List Value, (lg_sl (av.map (j_tv α))).length = (lg_sl av).length
  | [] => rfl
  | v :: av => by
    have ih := j_sl_len α av
    simp only [lg_sl, List.map_cons, List.flatMap_cons, List.length_append] at ih ⊢
    rw [ih, j_tv_cat]
    by_cases hv : v.category = 2
    · rw [if_pos hv, if_pos hv]; rfl
    · rw [if_neg hv, if_neg hv]; rfl
theorem j_args (α : Nat → Nat) : ∀ (av : List Value) (i : Nat), lv_args i (av.map (j_tv α)) = (lv_args i av).map (j_tq α)
  | [], i => rfl
  | v :: av, i => by
    simp only [lv_args, List.map_cons, j_tv_cat]
    rw [j_args α av]
    rfl
theorem JM_of {mi : JMI} {mc ms : Nat} {h : JH} {av : List Value} {o : Option (Option Value × JH)} (hy : plainName mi.1.cls = true) (hown : mi.1.cls = mi.2.2.2.2.1) (hlen : (lg_sl av).length ≤ mi.2.2.1) (k : J mi mc ms mc ms h 0 (lv_args 0 av) [] o) : JM mi mc ms h av o := by
  intro r hr l D cI cJ cB α sz
  refine Met.ofW (cc := mi.2.1) (maxL := mi.2.2.1) (ret := mi.2.2.2.1) hy rfl ?_
  intro p e s m args below meth c s₁ B hml hv
  obtain ⟨rfl, hsz, hP, hK, hD0, hX, hcl, hm⟩ := hv
  have hts := atoms_spec (ws := j_w0 mi) B.pre
  have hown' : s.vm.findClass mi.2.2.2.2.1 = some m.cls := hown ▸ findClass_of_methodNamed B.named
  subst hsz
  have hD := hD0.self (sz := s.heap.size)
  have hl := lv_entry (av.map (j_tv α)) (n := mi.2.2.1) (by rw [j_sl_len]; exact hlen)
  rw [j_args] at hl
  rw [lg_entry_eq]
  exact k r hr l p e s m _ below meth c D cI cJ cB _ α s.heap [] 0 0 _ _ ⟨B.exec, B.bytes, hml, B.returns, hown', fun w hw => hts w (List.mem_cons_of_mem _ hw), B.notSynchronized, (name_of_methodNamed B.named B.method).1, hK, fun q hq => Or.inr hq⟩ ⟨hP, hD, va_S.rf, hX, hcl, hm⟩ (by omega) (by omega) hl
    (fun α' t h1 h2 h3 h4 h5 h6 h7 h8 => ⟨⟨α', h1, h2, h3, rfl, h4, va_K.moved h7.alike hK, h5, h8⟩, h6⟩)
