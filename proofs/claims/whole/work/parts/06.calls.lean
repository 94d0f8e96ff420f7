/-! rules of arrays, of what is made, of calls -/
section JA
variable {mi : JMI} {mc ms kc ks : Nat} {h : JH} {pc : Nat} {loc : List (Nat × Value)} {stk : List Value} {o : Option (Option Value × JH)}
theorem j_arrI {cI cJ cB : ClassId} {α : Nat → Nat} {h : JH} {a n : Nat} (ha : a < h.1.1) (ht : h.1.2.1 a = (1, n)) : (j_ws cI cJ cB α h)[a]? = some (α a, .inl (cI, n, .inl (h.2.1 a))) := by
  rw [j_ws_at ha]; simp [j_cell, ht]
theorem j_arrL {cI cJ cB : ClassId} {α : Nat → Nat} {h : JH} {a n : Nat} (ha : a < h.1.1) (ht : h.1.2.1 a = (2, n)) : (j_ws cI cJ cB α h)[a]? = some (α a, .inl (cJ, n, .inr (.inl (h.2.2 a)))) := by
  rw [j_ws_at ha]; simp [j_cell, ht]
theorem j_arrB {cI cJ cB : ClassId} {α : Nat → Nat} {h : JH} {a n : Nat} (ha : a < h.1.1) (ht : h.1.2.1 a = (3, n)) : (j_ws cI cJ cB α h)[a]? = some (α a, .inl (cB, n, .inl (h.2.1 a))) := by
  rw [j_ws_at ha]; simp [j_cell, ht]
theorem J_iald {a n : Nat} {i : Int32} (hd : decode mi.2.1 pc = .ok (.iaload, 1)) (ha : a < h.1.1) (ht : h.1.2.1 a = (1, n)) (hin : vp_in i n) (kk : J mi mc ms kc ks h (pc + 1) loc (.int (h.2.1 a i.toNatClampNeg) :: stk) o) : J mi mc ms kc ks h pc loc (.int i :: .ref a :: stk) o := by
  intro r hr l p e s m args below meth c D cI cJ cB A α H locs cells slots ls Qc C V hc hs hl E
  exact va_iald C.1 C.2.1 C.2.2.2.2.2.2.2.2.1 V.1 a 0 (j_arrI ha ht) rfl hin hd (kk r hr l p e s m args below meth c D cI cJ cB A α H locs cells slots ls Qc C V hc hs hl E)
theorem J_lald {a n : Nat} {i : Int32} (hd : decode mi.2.1 pc = .ok (.laload, 1)) (ha : a < h.1.1) (ht : h.1.2.1 a = (2, n)) (hin : vp_in i n) (kk : J mi mc ms kc ks h (pc + 1) loc (.long (h.2.2 a i.toNatClampNeg) :: stk) o) : J mi mc ms kc ks h pc loc (.int i :: .ref a :: stk) o := by
  intro r hr l p e s m args below meth c D cI cJ cB A α H locs cells slots ls Qc C V hc hs hl E
  exact va_lald C.1 C.2.1 C.2.2.2.2.2.2.2.2.1 V.1 a 1 (j_arrL ha ht) rfl hin hd (kk r hr l p e s m args below meth c D cI cJ cB A α H locs cells slots ls Qc C V hc hs hl E)
theorem J_bald {a n : Nat} {i : Int32} (hd : decode mi.2.1 pc = .ok (.baload, 1)) (ha : a < h.1.1) (ht : h.1.2.1 a = (3, n)) (hin : vp_in i n) (kk : J mi mc ms kc ks h (pc + 1) loc (.int (h.2.1 a i.toNatClampNeg) :: stk) o) : J mi mc ms kc ks h pc loc (.int i :: .ref a :: stk) o := by
  intro r hr l p e s m args below meth c D cI cJ cB A α H locs cells slots ls Qc C V hc hs hl E
  exact va_bald C.1 C.2.1 C.2.2.2.2.2.2.2.2.1 V.1 a 2 (j_arrB ha ht) rfl hin hd (kk r hr l p e s m args below meth c D cI cJ cB A α H locs cells slots ls Qc C V hc hs hl E)
theorem j_after {h' : JH} {cI cJ cB : ClassId} {D : va_G} {A : Nat → Prop} {α : Nat → Nat} {H H1 : Heap} {s : State} {locs locs1 : List Loc} (V : j_V h s D cI cJ cB A α H locs) (h1 : h'.1 = h.1) (hP : va_P D vwCl (j_ws cI cJ cB α h') H1) (hD : va_D A (j_ws cI cJ cB α h')) (hS : va_S A s.heap H1 locs1) : j_V h' s D cI cJ cB A α H1 locs1 :=
  ⟨hP, hD, hS, by rw [h1]; exact V.2.2.2.1, by have := V.2.2.2.2.1; unfold j_cl at this ⊢; rw [h1]; exact this, by rw [h1]; exact V.2.2.2.2.2⟩
theorem j_E_same {h' : JH} {r : Option Value × JH} {s : State} {args : Array Value} {cI cJ cB : ClassId} {D : va_G} {A : Nat → Prop} {α : Nat → Nat} {Qc : Array Value → State → Outcome → State → Prop} (E : j_E h r s args D cI cJ cB A α Qc) (h1 : h'.1 = h.1) : j_E h' r s args D cI cJ cB A α Qc := by
  unfold j_E at E ⊢
  rw [h1]
  exact E
theorem J_iast {a n : Nat} {i x : Int32} (hd : decode mi.2.1 pc = .ok (.iastore, 1)) (ha : a < h.1.1) (ht : h.1.2.1 a = (1, n)) (hin : vp_in i n) (kk : J mi mc ms kc ks (h.1, j_sI h.2 a i.toNatClampNeg x) (pc + 1) loc stk o) : J mi mc ms kc ks h pc loc (.int x :: .int i :: .ref a :: stk) o := by
  intro r hr l p e s m args below meth c D cI cJ cB A α H locs cells slots ls Qc C V hc hs hl E
  have hset : (j_ws cI cJ cB α h).set a (α a, .inl (cI, n, .inl (upd (h.2.1 a) i.toNatClampNeg x))) = j_ws cI cJ cB α (h.1, j_sI h.2 a i.toNatClampNeg x) := by
    rw [← j_ws_set (cI := cI) (cJ := cJ) (cB := cB) (α := α) (h := h) (h' := (h.1, j_sI h.2 a i.toNatClampNeg x)) (a := a) rfl (fun b hb => j_cell_same rfl (j_sI_o _ _ _ hb) rfl (fun _ => rfl))]
    congr 2
    simp [j_cell, ht, j_sI_a]
  exact va_iast C.1 C.2.1 C.2.2.2.2.2.2.2.2.1 V.1 V.2.1 V.2.2.1 a 0 (j_arrI ha ht) rfl hin hd (fun H1 locs1 hP hD hS => kk r hr l p e s m args below meth c D cI cJ cB A α H1 locs1 cells slots ls Qc C (j_after V rfl (hset ▸ hP) (hset ▸ hD) hS) hc hs hl (j_E_same E rfl))
theorem J_bast {a n : Nat} {i x : Int32} (hd : decode mi.2.1 pc = .ok (.bastore, 1)) (ha : a < h.1.1) (ht : h.1.2.1 a = (3, n)) (hin : vp_in i n) (kk : J mi mc ms kc ks (h.1, j_sI h.2 a i.toNatClampNeg (vp_nar .byte x)) (pc + 1) loc stk o) : J mi mc ms kc ks h pc loc (.int x :: .int i :: .ref a :: stk) o := by
  intro r hr l p e s m args below meth c D cI cJ cB A α H locs cells slots ls Qc C V hc hs hl E
  have hset : (j_ws cI cJ cB α h).set a (α a, .inl (cB, n, .inl (upd (h.2.1 a) i.toNatClampNeg (vp_nar .byte x)))) = j_ws cI cJ cB α (h.1, j_sI h.2 a i.toNatClampNeg (vp_nar .byte x)) := by
    rw [← j_ws_set (cI := cI) (cJ := cJ) (cB := cB) (α := α) (h := h) (h' := (h.1, j_sI h.2 a i.toNatClampNeg (vp_nar .byte x))) (a := a) rfl (fun b hb => j_cell_same rfl (j_sI_o _ _ _ hb) rfl (fun _ => rfl))]
    congr 2
    simp [j_cell, ht, j_sI_a]
  exact va_bast C.1 C.2.1 C.2.2.2.2.2.2.2.2.1 V.1 V.2.1 V.2.2.1 a 2 (j_arrB ha ht) rfl hin hd (fun H1 locs1 hP hD hS => kk r hr l p e s m args below meth c D cI cJ cB A α H1 locs1 cells slots ls Qc C (j_after V rfl (hset ▸ hP) (hset ▸ hD) hS) hc hs hl (j_E_same E rfl))
theorem J_last {a n : Nat} {i : Int32} {x : Int64} (hd : decode mi.2.1 pc = .ok (.lastore, 1)) (ha : a < h.1.1) (ht : h.1.2.1 a = (2, n)) (hin : vp_in i n) (kk : J mi mc ms kc ks (h.1, j_sL h.2 a i.toNatClampNeg x) (pc + 1) loc stk o) : J mi mc ms kc ks h pc loc (.long x :: .int i :: .ref a :: stk) o := by
  intro r hr l p e s m args below meth c D cI cJ cB A α H locs cells slots ls Qc C V hc hs hl E
  have hset : (j_ws cI cJ cB α h).set a (α a, .inl (cJ, n, .inr (.inl (vp_updL (h.2.2 a) i.toNatClampNeg x)))) = j_ws cI cJ cB α (h.1, j_sL h.2 a i.toNatClampNeg x) := by
    rw [← j_ws_set (cI := cI) (cJ := cJ) (cB := cB) (α := α) (h := h) (h' := (h.1, j_sL h.2 a i.toNatClampNeg x)) (a := a) rfl (fun b hb => j_cell_same rfl rfl (j_sL_o _ _ _ hb) (fun _ => rfl))]
    congr 2
    simp [j_cell, ht, j_sL_a]
  exact va_last C.1 C.2.1 C.2.2.2.2.2.2.2.2.1 V.1 V.2.1 V.2.2.1 a 1 (j_arrL ha ht) rfl hin hd (fun H1 locs1 hP hD hS => kk r hr l p e s m args below meth c D cI cJ cB A α H1 locs1 cells slots ls Qc C (j_after V rfl (hset ▸ hP) (hset ▸ hD) hS) hc hs hl (j_E_same E rfl))
theorem J_alenI {a n : Nat} {v : Int32} (hd : decode mi.2.1 pc = .ok (.arraylength, 1)) (ha : a < h.1.1) (ht : h.1.2.1 a = (1, n)) (hv : Int32.ofNat n = v) (kk : J mi mc ms kc ks h (pc + 1) loc (.int v :: stk) o) : J mi mc ms kc ks h pc loc (.ref a :: stk) o := by
  intro r hr l p e s m args below meth c D cI cJ cB A α H locs cells slots ls Qc C V hc hs hl E
  exact va_alen C.1 C.2.1 C.2.2.2.2.2.2.2.2.1 V.1 a 0 (j_arrI ha ht) rfl hv hd (kk r hr l p e s m args below meth c D cI cJ cB A α H locs cells slots ls Qc C V hc hs hl E)
theorem J_alenB {a n : Nat} {v : Int32} (hd : decode mi.2.1 pc = .ok (.arraylength, 1)) (ha : a < h.1.1) (ht : h.1.2.1 a = (3, n)) (hv : Int32.ofNat n = v) (kk : J mi mc ms kc ks h (pc + 1) loc (.int v :: stk) o) : J mi mc ms kc ks h pc loc (.ref a :: stk) o := by
  intro r hr l p e s m args below meth c D cI cJ cB A α H locs cells slots ls Qc C V hc hs hl E
  exact va_alen C.1 C.2.1 C.2.2.2.2.2.2.2.2.1 V.1 a 2 (j_arrB ha ht) rfl hv hd (kk r hr l p e s m args below meth c D cI cJ cB A α H locs cells slots ls Qc C V hc hs hl E)
end JA
/-- values whose references lead to cells, or outside -/
def j_okv (n : Nat) (v : Value) : Prop := match v with
  | .ref a => a < n ∨ 1000000 ≤ a
  | _ => True
def j_okl (n : Nat) : List Value → Prop
  | [] => True
  | v :: l => j_okv n v ∧ j_okl n l
def j_okq (n : Nat) : List (Nat × Value) → Prop
  | [] => True
  | q :: l => j_okv n q.2 ∧ j_okq n l
theorem j_okv_tv {n n' : Nat} {α α' : Nat → Nat} (hx : j_ext n n' α α') (hn : n' ≤ 1000000) {v : Value} (hv : j_okv n v) : j_tv α' v = j_tv α v := by
  cases v with
  | ref a =>
    show Value.ref (α' a) = Value.ref (α a)
    rw [hx a (by rcases hv with h | h; exact Or.inl h; exact Or.inr (Nat.le_trans hn h))]
  | _ => rfl
theorem j_okl_tv {n n' : Nat} {α α' : Nat → Nat} (hx : j_ext n n' α α') (hn : n' ≤ 1000000) : ∀ {l : List Value}, j_okl n l → l.map (j_tv α') = l.map (j_tv α)
  | [], _ => rfl
  | v :: l, h => by rw [List.map_cons, List.map_cons, j_okv_tv hx hn h.1, j_okl_tv hx hn h.2]
theorem j_okq_tq {n n' : Nat} {α α' : Nat → Nat} (hx : j_ext n n' α α') (hn : n' ≤ 1000000) : ∀ {l : List (Nat × Value)}, j_okq n l → l.map (j_tq α') = l.map (j_tq α)
  | [], _ => rfl
  | v :: l, h => by rw [List.map_cons, List.map_cons, j_okq_tq hx hn h.2]; unfold j_tq; rw [j_okv_tv hx hn h.1]
/-- a cell more, all of it 0 -/
def j_new (h : JH) (t : Nat × Nat) : JH := ((h.1.1 + 1, (fun b => if b = h.1.1 then t else h.1.2.1 b), (fun b k => if b = h.1.1 then none else h.1.2.2.1 b k), h.1.2.2.2), ((fun b => if b = h.1.1 then (fun _ => 0) else h.2.1 b), (fun b => if b = h.1.1 then (fun _ => 0) else h.2.2 b)))
def j_up (α : Nat → Nat) (n q : Nat) : Nat → Nat := fun k => if k = n then q else α k
theorem j_up_ext {α : Nat → Nat} {n q : Nat} : j_ext n (n + 1) α (j_up α n q) := by
  intro k hk
  simp only [j_up]
  rw [if_neg (by omega)]
theorem j_ws_push {cI cJ cB : ClassId} {α : Nat → Nat} {h : JH} {t : Nat × Nat} {q : Nat} (hcl : j_cl h) : j_ws cI cJ cB (j_up α h.1.1 q) (j_new h t) = j_ws cI cJ cB α h ++ [(q, j_cell cI cJ cB (j_up α h.1.1 q) (j_new h t) h.1.1)] := by
  show (List.range (h.1.1 + 1)).map _ = _
  rw [List.range_succ, List.map_append]
  congr 1
  · apply List.map_congr_left
    intro b hb
    have hb' : b < h.1.1 := List.mem_range.mp hb
    have hne : b ≠ h.1.1 := by omega
    have e1 : j_up α h.1.1 q b = α b := by simp [j_up, hne]
    rw [e1]
    congr 1
    refine j_cell_same (by simp [j_new, hne]) (by simp [j_new, hne]) (by simp [j_new, hne]) (fun k => ?_)
    simp only [j_new, hne, if_false]
    cases hrk : h.1.2.2.1 b k with
    | none => rfl
    | some x =>
      have := hcl b k x hb' hrk
      simp only [Option.map_some, j_up]
      rw [if_neg (by omega)]
  · simp [j_up]
theorem j_new_cl {h : JH} {t : Nat × Nat} (hcl : j_cl h) : j_cl (j_new h t) := by
  intro a k b ha hr
  simp only [j_new] at ha hr ⊢
  by_cases e : a = h.1.1
  · rw [if_pos e] at hr; cases hr
  · rw [if_neg e] at hr
    have := hcl a k b (by omega) hr
    omega
theorem j_new_V {h : JH} {t : Nat × Nat} {s : State} {D : va_G} {cI cJ cB : ClassId} {A : Nat → Prop} {α : Nat → Nat} {q : Nat} {H H1 : Heap} {locs : List Loc} (V : j_V h s D cI cJ cB A α H locs) (hm : h.1.1 < 1000000) (hP : va_P D vwCl (j_ws cI cJ cB α h ++ [(q, j_cell cI cJ cB (j_up α h.1.1 q) (j_new h t) h.1.1)]) H1) (hD : va_D A (j_ws cI cJ cB α h ++ [(q, j_cell cI cJ cB (j_up α h.1.1 q) (j_new h t) h.1.1)])) (hS : va_S A s.heap H1 locs) : j_V (j_new h t) s D cI cJ cB A (j_up α h.1.1 q) H1 locs :=
  ⟨by rw [j_ws_push V.2.2.2.2.1]; exact hP, by rw [j_ws_push V.2.2.2.2.1]; exact hD, hS, (V.2.2.2.1.other (fun k hk => by simp only [j_up]; rw [if_neg (by omega)])).shape rfl, j_new_cl V.2.2.2.2.1, hm⟩
theorem j_new_E {h : JH} {t : Nat × Nat} {r : Option Value × JH} {s : State} {args : Array Value} {D : va_G} {cI cJ cB : ClassId} {A : Nat → Prop} {α : Nat → Nat} {q : Nat} {Qc : Array Value → State → Outcome → State → Prop} (E : j_E h r s args D cI cJ cB A α Qc) : j_E (j_new h t) r s args D cI cJ cB A (j_up α h.1.1 q) Qc := by
  intro α' t' g1 g2 g3 g4 g5 g6 g7 g8
  have g1' : h.1.1 + 1 ≤ r.2.1.1 := g1
  refine E α' t' (by omega) g2 (fun k hk => ?_) g4 g5 g6 g7 g8
  have hx : (j_new h t).1.1 = h.1.1 + 1 := rfl
  rw [g3 k (by rw [hx]; omega)]
  simp only [j_up]
  rw [if_neg (by omega)]
def j_df (kd : Nat) : Value := match kd with
  | 0 => .int 0
  | 1 => .long 0
  | _ => .null
theorem j_fs_new {α : Nat → Nat} {h : JH} {t : Nat × Nat} : ∀ (l : List Nat) (i : Nat), j_fs α (j_new h t) h.1.1 i l = l.map j_df
  | [], i => rfl
  | kd :: l, i => by
    simp only [j_fs, List.map_cons]
    rw [j_fs_new l (i + 1)]
    congr 1
    unfold j_fv j_df
    simp only [j_new, if_true]
    rfl
theorem j_cls_df : ∀ (ci : Nat) (q : vw_C), vwCl[ci]? = some q → ∃ ty : Nat → FieldType, (∀ k, k < q.2.2 → parseFieldDescriptor (q.2.1 k).2.2.1 = some (ty k)) ∧ ∀ j, j < q.2.2 → defaultValue (ty j) = vp_V ((j_kd ci).map j_df) j := by
  intro ci q hq
  match ci, hq with
  | 0, hq => cases hq; exact ⟨_, tyX0_ok, by decide +kernel⟩
  | 1, hq => cases hq; exact ⟨_, tyX1_ok, by decide +kernel⟩
  | 2, hq => cases hq; exact ⟨_, tyX2_ok, by decide +kernel⟩
  | 3, hq => cases hq; exact ⟨_, tyX3_ok, by decide +kernel⟩
  | 4, hq => cases hq; exact ⟨_, tyX4_ok, by decide +kernel⟩
  | 5, hq => cases hq; exact ⟨_, tyX5_ok, by decide +kernel⟩
  | 6, hq => cases hq; exact ⟨_, tyX6_ok, by decide +kernel⟩
  | 7, hq => cases hq; exact ⟨_, tyX7_ok, by decide +kernel⟩
  | 8, hq => cases hq; exact ⟨_, tyX8_ok, by decide +kernel⟩
  | 9, hq => cases hq; exact ⟨_, tyX9_ok, by decide +kernel⟩
  | 10, hq => cases hq; exact ⟨_, tyX11_ok, by decide +kernel⟩
  | 11, hq => cases hq; exact ⟨_, tyX12_ok, by decide +kernel⟩
  | 12, hq => cases hq; exact ⟨_, tyX13_ok, by decide +kernel⟩
  | n + 13, hq => simp [vwCl] at hq
/-- an entry of a pool that is a class's whose objects are made -/
def j_NL (own : String) (idx ci N : Nat) : Prop := ∃ q : vw_C, vwCl[ci]? = some q ∧ q.2.2 = N ∧ Cond.classLink own idx q.1 ∈ j_gw ∧ Cond.instantiable q.1 N ∈ j_gw ∧ Cond.initialized q.1 ∈ j_gw
section JN
variable {mi : JMI} {mc ms kc ks : Nat} {h : JH} {pc : Nat} {loc : List (Nat × Value)} {stk : List Value} {o : Option (Option Value × JH)}
theorem J_new {idx ci N : Nat} (hd : decode mi.2.1 pc = .ok (.new idx, 3)) (hf : j_NL mi.2.2.2.2.1 idx ci N) (hm : h.1.1 < 1000000) (h1 : j_okq h.1.1 loc) (h2 : j_okl h.1.1 stk) (kk : J mi mc ms kc ks (j_new h (0, ci)) (pc + 3) loc (.ref h.1.1 :: stk) o) : J mi mc ms (kc + 1) (ks + N) h pc loc stk o := by
  intro r hr l p e s m args below meth c D cI cJ cB A α H locs cells slots ls Qc C V hc hs hl E
  obtain ⟨⟨C0, T0, N0⟩, hq, hN, w1, w2, w3⟩ := hf
  obtain ⟨ty, hty, hdf⟩ := j_cls_df ci _ hq
  have hN : N0 = N := hN
  subst hN
  refine va_new (ci := ci) (fs := (j_kd ci).map j_df) C.1 C.2.1 C.2.2.2.2.2.1 (j_cls_in ci _ hq) ty hty C.2.2.2.2.1 (C.2.2.2.2.2.1 _ w1) (C.2.2.2.2.2.1 _ w2) (C.2.2.2.2.2.1 _ w3) C.2.2.2.2.2.2.2.2.1 V.1 V.2.1 V.2.2.1 C.2.2.2.2.2.2.2.2.2 hq hdf (show cells + 1 ≤ mc by omega) (show slots + N0 ≤ ms by omega) hd (fun q H1 hP hD hS => ?_)
  have hce : j_cell cI cJ cB (j_up α h.1.1 q) (j_new h (0, ci)) h.1.1 = .inr (ci, (j_kd ci).map j_df) := by
    rw [← j_fs_new (α := j_up α h.1.1 q) (h := h) (t := (0, ci)) (j_kd ci) 0]
    unfold j_cell
    simp [j_new]
  have K := kk r hr l p e s m args below meth c D cI cJ cB A (j_up α h.1.1 q) H1 locs (cells + 1) (slots + N0) ls Qc C (j_new_V V hm (by rw [hce]; exact hP) (by rw [hce]; exact hD) hS) (by omega) (by omega) (by rw [j_okq_tq j_up_ext (by omega) h1]; exact hl) (j_new_E E)
  rw [List.map_cons, j_okl_tv j_up_ext (by omega) h2] at K
  have : j_tv (j_up α h.1.1 q) (.ref h.1.1) = .ref q := by simp [j_tv, j_up]
  rw [this] at K
  exact K
theorem j_newa {at0 : ArrayType} {ty : FieldType} {kd t0 N : Nat} {n : Int32} {a0 : vp_A} (hd : decode mi.2.1 pc = .ok (.newarray at0, 2)) (hw : Cond.arrayClass (newarray.typeOf at0) ∈ j_gw) (hty : newarray.typeOf at0 = ty) (hn : ¬ n < 0) (hN : n.toNatClampNeg = N) (hbytes : N * componentBytes ty ≤ 536870912) (ha0 : ∀ cA : ClassId, vp_cell cA a0 = arrV cA N (fun _ => defaultValue ty)) (hm : h.1.1 < 1000000) (h1 : j_okq h.1.1 loc) (h2 : j_okl h.1.1 stk)
    (hce : ∀ (cI cJ cB : ClassId) (α : Nat → Nat), ∃ cK : ClassId, (j_tys cI cJ cB)[t0]? = some (cK, ty) ∧ j_cell cI cJ cB α (j_new h (kd, N)) h.1.1 = .inl (cK, a0)) (hra : ∀ (U : State) (c1 c2 : ClassId), va_RA U c1 ty → va_RA U c2 ty → c1 = c2)
    (kk : J mi mc ms kc ks (j_new h (kd, N)) (pc + 2) loc (.ref h.1.1 :: stk) o) : J mi mc ms (kc + 1) (ks + N) h pc loc (.int n :: stk) o := by
  intro r hr l p e s m args below meth c D cI cJ cB A α H locs cells slots ls Qc C V hc hs hl E
  refine va_newa C.1 C.2.1 (C.2.2.2.2.2.1 _ hw) hty C.2.2.2.2.2.2.2.2.1 V.1 V.2.1 V.2.2.1 C.2.2.2.2.2.2.2.2.2 ha0 hn hN hbytes (show cells + 1 ≤ mc by omega) (show slots + N ≤ ms by omega) hd (fun q cA H1 hK hP hD hS => ?_)
  obtain ⟨cK, hcK, hce'⟩ := hce cI cJ cB (j_up α h.1.1 q)
  have hcA : cA = cK := hra s cA cK (hK.2 (j_tys cI cJ cB).length (cA, ty) (by simp)).2 (C.2.2.2.2.2.2.2.2.1.2 t0 (cK, ty) hcK).2
  subst hcA
  have K := kk r hr l p e s m args below meth c D cI cJ cB A (j_up α h.1.1 q) H1 locs (cells + 1) (slots + N) ls Qc C (j_new_V V hm (by rw [hce']; exact hP) (by rw [hce']; exact hD) hS) (by omega) (by omega) (by rw [j_okq_tq j_up_ext (by omega) h1]; exact hl) (j_new_E E)
  rw [List.map_cons, j_okl_tv j_up_ext (by omega) h2] at K
  have : j_tv (j_up α h.1.1 q) (.ref h.1.1) = .ref q := by simp [j_tv, j_up]
  rw [this] at K
  exact K
theorem J_newaI {N : Nat} {n : Int32} (hd : decode mi.2.1 pc = .ok (.newarray .int, 2)) (hn : ¬ n < 0) (hN : n.toNatClampNeg = N) (hbytes : N * 4 ≤ 536870912) (hm : h.1.1 < 1000000) (h1 : j_okq h.1.1 loc) (h2 : j_okl h.1.1 stk) (kk : J mi mc ms kc ks (j_new h (1, N)) (pc + 2) loc (.ref h.1.1 :: stk) o) : J mi mc ms (kc + 1) (ks + N) h pc loc (.int n :: stk) o :=
  j_newa (ty := .int) (kd := 1) (t0 := 0) (a0 := (N, .inl (fun _ => 0))) hd (by decide +kernel) rfl hn hN hbytes (fun _ => rfl) hm h1 h2 (fun cI cJ cB α => ⟨cI, rfl, by simp [j_cell, j_new]⟩) (fun U c1 c2 e1 e2 => Option.some.inj (e1.symm.trans e2)) kk
theorem J_newaL {N : Nat} {n : Int32} (hd : decode mi.2.1 pc = .ok (.newarray .long, 2)) (hn : ¬ n < 0) (hN : n.toNatClampNeg = N) (hbytes : N * 8 ≤ 536870912) (hm : h.1.1 < 1000000) (h1 : j_okq h.1.1 loc) (h2 : j_okl h.1.1 stk) (kk : J mi mc ms kc ks (j_new h (2, N)) (pc + 2) loc (.ref h.1.1 :: stk) o) : J mi mc ms (kc + 1) (ks + N) h pc loc (.int n :: stk) o :=
  j_newa (ty := .long) (kd := 2) (t0 := 1) (a0 := (N, .inr (.inl (fun _ => 0)))) hd (by decide +kernel) rfl hn hN hbytes (fun _ => rfl) hm h1 h2 (fun cI cJ cB α => ⟨cJ, rfl, by simp [j_cell, j_new]⟩) (fun U c1 c2 e1 e2 => Option.some.inj (e1.symm.trans e2)) kk
theorem J_newaB {N : Nat} {n : Int32} (hd : decode mi.2.1 pc = .ok (.newarray .byte, 2)) (hn : ¬ n < 0) (hN : n.toNatClampNeg = N) (hbytes : N * 1 ≤ 536870912) (hm : h.1.1 < 1000000) (h1 : j_okq h.1.1 loc) (h2 : j_okl h.1.1 stk) (kk : J mi mc ms kc ks (j_new h (3, N)) (pc + 2) loc (.ref h.1.1 :: stk) o) : J mi mc ms (kc + 1) (ks + N) h pc loc (.int n :: stk) o :=
  j_newa (ty := .byte) (kd := 3) (t0 := 2) (a0 := (N, .inl (fun _ => 0))) hd (by decide +kernel) rfl hn hN hbytes (fun _ => rfl) hm h1 h2 (fun cI cJ cB α => ⟨cB, rfl, by simp [j_cell, j_new]⟩) (fun U c1 c2 e1 e2 => Option.some.inj (e1.symm.trans e2)) kk
theorem J_objInit {idx a : Nat} (hd : decode mi.2.1 pc = .ok (.invokespecial idx, 3)) (w1 : Cond.methodLink mi.2.2.2.2.1 idx Lib.objectInit ∈ j_gw) (hfr : 1 ≤ mi.2.2.2.2.2.1) (hlo : (stk.map fun v => v.category).sum + 12 ≤ mi.2.2.2.2.2.2) (kk : J mi mc ms kc ks h (pc + 3) loc stk o) : J mi mc ms kc ks h pc loc (.ref a :: stk) o := by
  intro r hr l p e s m args below meth c D cI cJ cB A α H locs cells slots ls Qc C V hc hs hl E
  have hcat : ((stk.map (j_tv α)).map fun v => v.category) = stk.map fun v => v.category := by
    rw [List.map_map]
    apply List.map_congr_left
    intro v _
    exact j_tv_cat α v
  refine W.objInit (g := F0 m pc ls (.ref (α a) :: stk.map (j_tv α))) C.1 C.2.1 C.2.2.2.2.1 (C.2.2.2.2.2.1 _ w1) (C.2.2.2.2.2.1 (.instanceMethod Lib.objectInit) (by decide +kernel)) (C.2.2.2.2.2.1 (.code Lib.objectInit ⟨#[0xb1]⟩ 1 none) (by decide +kernel)) rfl (by rw [C.2.2.1]; exact hl.1) rfl hd hfr ?_ (kk r hr l p e s m args below meth c D cI cJ cB A α H locs cells slots ls Qc C V hc hs hl E)
  rw [hcat]
  show 2 * 0 + _ + 12 ≤ mi.2.2.2.2.2.2
  omega
end JN
