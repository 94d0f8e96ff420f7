/-! rules of cells: fields, arrays, what is made -/
theorem j_cls_in : ∀ (ci : Nat) (q : vw_C), vwCl[ci]? = some q → ∀ w ∈ u_ws q.1 q.2.1 q.2.2, w ∈ j_gw := by
  intro ci q hq
  match ci, hq with
  | 0, hq => cases hq; decide +kernel
  | 1, hq => cases hq; decide +kernel
  | 2, hq => cases hq; decide +kernel
  | 3, hq => cases hq; decide +kernel
  | 4, hq => cases hq; decide +kernel
  | 5, hq => cases hq; decide +kernel
  | 6, hq => cases hq; decide +kernel
  | 7, hq => cases hq; decide +kernel
  | 8, hq => cases hq; decide +kernel
  | 9, hq => cases hq; decide +kernel
  | 10, hq => cases hq; decide +kernel
  | 11, hq => cases hq; decide +kernel
  | 12, hq => cases hq; decide +kernel
  | n + 13, hq => simp [vwCl] at hq
theorem j_cls_nm : ∀ (ci : Nat) (q : vw_C), vwCl[ci]? = some q → ∀ a, a < q.2.2 → ∀ b, b < q.2.2 → a ≠ b → (q.2.1 a).2.1 ≠ (q.2.1 b).2.1 := by
  intro ci q hq
  match ci, hq with
  | 0, hq => cases hq; exact nmX0
  | 1, hq => cases hq; exact nmX1
  | 2, hq => cases hq; exact nmX2
  | 3, hq => cases hq; exact nmX3
  | 4, hq => cases hq; exact nmX4
  | 5, hq => cases hq; exact nmX5
  | 6, hq => cases hq; exact nmX6
  | 7, hq => cases hq; exact nmX7
  | 8, hq => cases hq; exact nmX8
  | 9, hq => cases hq; exact nmX9
  | 10, hq => cases hq; exact nmX11
  | 11, hq => cases hq; exact nmX12
  | 12, hq => cases hq; exact nmX13
  | n + 13, hq => simp [vwCl] at hq
theorem j_cls_ty : ∀ (ci : Nat) (q : vw_C), vwCl[ci]? = some q → ∃ ty : Nat → FieldType, ∀ k, k < q.2.2 → parseFieldDescriptor (q.2.1 k).2.2.1 = some (ty k) := by
  intro ci q hq
  match ci, hq with
  | 0, hq => cases hq; exact ⟨_, tyX0_ok⟩
  | 1, hq => cases hq; exact ⟨_, tyX1_ok⟩
  | 2, hq => cases hq; exact ⟨_, tyX2_ok⟩
  | 3, hq => cases hq; exact ⟨_, tyX3_ok⟩
  | 4, hq => cases hq; exact ⟨_, tyX4_ok⟩
  | 5, hq => cases hq; exact ⟨_, tyX5_ok⟩
  | 6, hq => cases hq; exact ⟨_, tyX6_ok⟩
  | 7, hq => cases hq; exact ⟨_, tyX7_ok⟩
  | 8, hq => cases hq; exact ⟨_, tyX8_ok⟩
  | 9, hq => cases hq; exact ⟨_, tyX9_ok⟩
  | 10, hq => cases hq; exact ⟨_, tyX11_ok⟩
  | 11, hq => cases hq; exact ⟨_, tyX12_ok⟩
  | 12, hq => cases hq; exact ⟨_, tyX13_ok⟩
  | n + 13, hq => simp [vwCl] at hq
/-- an entry of a pool that is a field's -/
def j_FL (own : String) (idx ci k : Nat) : Prop := ∃ q : vw_C, vwCl[ci]? = some q ∧ k < q.2.2 ∧ ((Cond.fieldLink own idx (q.2.1 k).1 (q.2.1 k).2.1 (q.2.1 k).2.2.1 ∈ j_gw) ∨ ∃ host, Cond.fieldLinkNest own idx (q.2.1 k).1 (q.2.1 k).2.1 (q.2.1 k).2.2.1 host ∈ j_nw)
/-- and may be written: its type; final or not -/
def j_FT (ci k : Nat) (ty : FieldType) (fin : Bool) : Prop := ∃ q : vw_C, vwCl[ci]? = some q ∧ parseFieldDescriptor (q.2.1 k).2.2.1 = some ty ∧ (q.2.1 k).2.2.2 = fin ∧ (q.2.1 k).1 = q.1
theorem j_fs_congr {α β : Nat → Nat} {h h' : JH} {a : Nat} (e : ∀ k kd, j_fv β h' a k kd = j_fv α h a k kd) : ∀ (l : List Nat) (i : Nat), j_fs β h' a i l = j_fs α h a i l
  | [], i => rfl
  | kd :: l, i => by simp only [j_fs]; rw [e, j_fs_congr e l (i + 1)]
theorem j_cell_same {cI cJ cB : ClassId} {α β : Nat → Nat} {h h' : JH} {b : Nat} (hty : h'.1.2.1 b = h.1.2.1 b) (hi : h'.2.1 b = h.2.1 b) (hl : h'.2.2 b = h.2.2 b) (hr : ∀ k, (h'.1.2.2.1 b k).map β = (h.1.2.2.1 b k).map α) : j_cell cI cJ cB β h' b = j_cell cI cJ cB α h b := by
  have e : ∀ k kd, j_fv β h' b k kd = j_fv α h b k kd := by
    intro k kd
    unfold j_fv
    rw [hi, hl, hr]
  unfold j_cell
  rw [hty, hi, hl]
  simp only [j_fs_congr e]
theorem j_fs_set {α : Nat → Nat} {h h' : JH} {a k kd : Nat} {l : List Nat} {v : Value} (hk : l[k]? = some kd) (hv : j_fv α h' a k kd = v) (ho : ∀ j kd', j ≠ k → j_fv α h' a j kd' = j_fv α h a j kd') : (j_fs α h a 0 l).set k v = j_fs α h' a 0 l := by
  apply List.ext_getElem?
  intro j
  have hkl : k < l.length := (List.getElem?_eq_some_iff.mp hk).1
  rw [List.getElem?_set, j_fs_len, j_fs_at, j_fs_at]
  by_cases e : k = j
  · subst e
    rw [if_pos rfl, if_pos hkl, hk]
    simp [hv]
  · rw [if_neg e]
    cases hj : l[j]? with
    | none => rfl
    | some kd' => simp only [Option.map_some, Nat.zero_add]; rw [ho j kd' (fun z => e z.symm)]
/-- ints, longs, references written -/
def j_sI (d : JD) (a k : Nat) (v : Int32) : JD := (fun b => if b = a then upd (d.1 b) k v else d.1 b, d.2)
def j_sL (d : JD) (a k : Nat) (v : Int64) : JD := (d.1, fun b => if b = a then vp_updL (d.2 b) k v else d.2 b)
def j_sR (g : JG) (a k : Nat) (v : Option Nat) : JG := (g.1, g.2.1, fun b j => if b = a ∧ j = k then v else g.2.2.1 b j, g.2.2.2)
theorem j_sI_a (d : JD) (a k : Nat) (v : Int32) : (j_sI d a k v).1 a = upd (d.1 a) k v := by simp [j_sI]
theorem j_sI_o (d : JD) {a b : Nat} (k : Nat) (v : Int32) (hb : b ≠ a) : (j_sI d a k v).1 b = d.1 b := by simp [j_sI, hb]
theorem j_sL_a (d : JD) (a k : Nat) (v : Int64) : (j_sL d a k v).2 a = vp_updL (d.2 a) k v := by simp [j_sL]
theorem j_sL_o (d : JD) {a b : Nat} (k : Nat) (v : Int64) (hb : b ≠ a) : (j_sL d a k v).2 b = d.2 b := by simp [j_sL, hb]
theorem j_tv_rf (α : Nat → Nat) (x : Option Nat) : j_tv α (va_rf x) = va_rf (x.map α) := by cases x <;> rfl
section JC
variable {mi : JMI} {mc ms kc ks : Nat} {h : JH} {pc : Nat} {loc : List (Nat × Value)} {stk : List Value} {o : Option (Option Value × JH)}
theorem j_obj {cI cJ cB : ClassId} {α : Nat → Nat} {h : JH} {a ci : Nat} (ha : a < h.1.1) (ht : h.1.2.1 a = (0, ci)) : (j_ws cI cJ cB α h)[a]? = some (α a, .inr (ci, j_fs α h a 0 (j_kd ci))) := by
  rw [j_ws_at ha]; simp [j_cell, ht]
theorem j_get {a k ci idx kd : Nat} (hd : decode mi.2.1 pc = .ok (.getfield idx, 3)) (hf : j_FL mi.2.2.2.2.1 idx ci k) (ha : a < h.1.1) (ht : h.1.2.1 a = (0, ci)) (hk : (j_kd ci)[k]? = some kd) {v : Value} (hv : ∀ α, j_fv α h a k kd = j_tv α v) (kk : J mi mc ms kc ks h (pc + 3) loc (v :: stk) o) : J mi mc ms kc ks h pc loc (.ref a :: stk) o := by
  intro r hr l p e s m args below meth c D cI cJ cB A α H locs cells slots ls Qc C V hc hs hl E
  obtain ⟨⟨C0, T0, N0⟩, hq, hkN, hlink⟩ := hf
  have hfv : (j_fs α h a 0 (j_kd ci))[k]? = some (j_tv α v) := by rw [j_fs_at, hk]; simp [hv]
  rcases hlink with hlink | ⟨host, hlink⟩
  · exact va_get C.1 C.2.1 C.2.2.2.2.2.1 (j_cls_in ci _ hq) C.2.2.2.2.1 C.2.2.2.2.2.2.2.2.1 V.1 a (j_obj ha ht) hq k hkN (C.2.2.2.2.2.1 _ hlink) (fun _ h9 => h9) hfv hd (kk r hr l p e s m args below meth c D cI cJ cB A α H locs cells slots ls Qc C V hc hs hl E)
  · exact va_getN C.1 C.2.1 C.2.2.2.2.2.1 (j_cls_in ci _ hq) C.2.2.2.2.1 C.2.2.2.2.2.2.2.2.1 V.1 a (j_obj ha ht) hq k hkN (va_Nw.use rfl (V.2.2.2.1.2.2.2.2 _ hlink)) (fun _ h9 => h9) hfv hd (kk r hr l p e s m args below meth c D cI cJ cB A α H locs cells slots ls Qc C V hc hs hl E)
theorem J_getI {a k ci idx : Nat} (hd : decode mi.2.1 pc = .ok (.getfield idx, 3)) (hf : j_FL mi.2.2.2.2.1 idx ci k) (ha : a < h.1.1) (ht : h.1.2.1 a = (0, ci)) (hk : (j_kd ci)[k]? = some 0) (kk : J mi mc ms kc ks h (pc + 3) loc (.int (h.2.1 a k) :: stk) o) : J mi mc ms kc ks h pc loc (.ref a :: stk) o :=
  j_get hd hf ha ht hk (fun _ => rfl) kk
theorem J_getL {a k ci idx : Nat} (hd : decode mi.2.1 pc = .ok (.getfield idx, 3)) (hf : j_FL mi.2.2.2.2.1 idx ci k) (ha : a < h.1.1) (ht : h.1.2.1 a = (0, ci)) (hk : (j_kd ci)[k]? = some 1) (kk : J mi mc ms kc ks h (pc + 3) loc (.long (h.2.2 a k) :: stk) o) : J mi mc ms kc ks h pc loc (.ref a :: stk) o :=
  j_get hd hf ha ht hk (fun _ => rfl) kk
theorem J_getR {a k ci idx b : Nat} (hd : decode mi.2.1 pc = .ok (.getfield idx, 3)) (hf : j_FL mi.2.2.2.2.1 idx ci k) (ha : a < h.1.1) (ht : h.1.2.1 a = (0, ci)) (hk : (j_kd ci)[k]? = some 2) (hb : h.1.2.2.1 a k = some b) (kk : J mi mc ms kc ks h (pc + 3) loc (.ref b :: stk) o) : J mi mc ms kc ks h pc loc (.ref a :: stk) o :=
  j_get hd hf ha ht hk (fun α => by simp [j_fv, hb, va_rf, j_tv]) kk
theorem J_getN {a k ci idx : Nat} (hd : decode mi.2.1 pc = .ok (.getfield idx, 3)) (hf : j_FL mi.2.2.2.2.1 idx ci k) (ha : a < h.1.1) (ht : h.1.2.1 a = (0, ci)) (hk : (j_kd ci)[k]? = some 2) (hb : h.1.2.2.1 a k = none) (kk : J mi mc ms kc ks h (pc + 3) loc (.null :: stk) o) : J mi mc ms kc ks h pc loc (.ref a :: stk) o :=
  j_get hd hf ha ht hk (fun α => by simp [j_fv, hb, va_rf, j_tv]) kk
/-- a field is written: what stands in the cell then is h' -/
theorem j_put {a k ci idx kd : Nat} {h' : JH} {ty : FieldType} {v : Value} (hd : decode mi.2.1 pc = .ok (.putfield idx, 3)) (hf : j_FL mi.2.2.2.2.1 idx ci k) (hft : j_FT ci k ty false) (ha : a < h.1.1) (ht : h.1.2.1 a = (0, ci)) (hk : (j_kd ci)[k]? = some kd)
    (hn : ∀ α, narrow ty (j_tv α v) = j_tv α v) (hfit : ∀ α, fits ty (j_tv α v) = true) (hv : ∀ α, j_fv α h' a k kd = j_tv α v) (ho : ∀ α j kd', j ≠ k → j_fv α h' a j kd' = j_fv α h a j kd') (h1 : h'.1.1 = h.1.1) (h2 : h'.1.2.1 = h.1.2.1) (hx : h'.1.2.2.2 = h.1.2.2.2) (hcl : j_cl h → j_cl h') (hb : ∀ b, b ≠ a → h'.2.1 b = h.2.1 b ∧ h'.2.2 b = h.2.2 b ∧ h'.1.2.2.1 b = h.1.2.2.1 b)
    (kk : J mi mc ms kc ks h' (pc + 3) loc stk o) : J mi mc ms kc ks h pc loc (v :: .ref a :: stk) o := by
  intro r hr l p e s m args below meth c D cI cJ cB A α H locs cells slots ls Qc C V hc hs hl E
  obtain ⟨⟨C0, T0, N0⟩, hq, hkN, hlink⟩ := hf
  obtain ⟨q', hq', hp, hfin, -⟩ := hft
  cases hq.symm.trans hq'
  obtain ⟨ty0, hty0⟩ := j_cls_ty ci _ hq
  have hlen : k < (j_fs α h a 0 (j_kd ci)).length := by rw [j_fs_len]; exact (List.getElem?_eq_some_iff.mp hk).1
  have hset : (j_ws cI cJ cB α h).set a (α a, .inr (ci, (j_fs α h a 0 (j_kd ci)).set k (j_tv α v))) = j_ws cI cJ cB α h' := by
    rw [j_fs_set hk (hv α) (ho α)]
    rw [← j_ws_set (cI := cI) (cJ := cJ) (cB := cB) (α := α) h1 (fun b hb' => j_cell_same (by rw [h2]) (hb b hb').1 (hb b hb').2.1 (fun k => by rw [(hb b hb').2.2]))]
    congr 2
    simp [j_cell, h2, ht]
  have E' : j_E h' r s args D cI cJ cB A α Qc := fun α' t g1 g2 g3 g4 g5 g6 g7 g8 => E α' t (by rw [← h1]; exact g1) g2 (by rw [← h1]; exact g3) g4 g5 g6 g7 g8
  rcases hlink with hlink | ⟨host, hlink⟩
  · exact va_put C.1 C.2.1 C.2.2.2.2.2.1 (j_cls_in ci _ hq) ty0 hty0 (j_cls_nm ci _ hq) C.2.2.2.2.1 C.2.2.2.2.2.2.2.2.1 V.1 V.2.1 V.2.2.1 a (j_obj ha ht) hq k hkN (C.2.2.2.2.2.1 _ hlink) (fun _ h9 => h9) hfin hp (hn α) (hfit α) hlen hd
      (fun H1 locs1 hP hD hS => kk r hr l p e s m args below meth c D cI cJ cB A α H1 locs1 cells slots ls Qc C ⟨hset ▸ hP, hset ▸ hD, hS, V.2.2.2.1.shape hx, hcl V.2.2.2.2.1, by rw [h1]; exact V.2.2.2.2.2⟩ hc hs hl E')
  · exact va_putN C.1 C.2.1 C.2.2.2.2.2.1 (j_cls_in ci _ hq) ty0 hty0 (j_cls_nm ci _ hq) C.2.2.2.2.1 C.2.2.2.2.2.2.2.2.1 V.1 V.2.1 V.2.2.1 a (j_obj ha ht) hq k hkN (va_Nw.use rfl (V.2.2.2.1.2.2.2.2 _ hlink)) (fun _ h9 => h9) hfin hp (hn α) (hfit α) hlen hd
      (fun H1 locs1 hP hD hS => kk r hr l p e s m args below meth c D cI cJ cB A α H1 locs1 cells slots ls Qc C ⟨hset ▸ hP, hset ▸ hD, hS, V.2.2.2.1.shape hx, hcl V.2.2.2.2.1, by rw [h1]; exact V.2.2.2.2.2⟩ hc hs hl E')
theorem j_putF {a k ci idx kd : Nat} {h' : JH} {ty : FieldType} {v : Value} (hd : decode mi.2.1 pc = .ok (.putfield idx, 3)) (hf : j_FL mi.2.2.2.2.1 idx ci k) (hft : j_FT ci k ty true) (hin : mi.1.name = "<init>") (hnot : ∀ q, vwCl[ci]? = some q → q.1 = mi.2.2.2.2.1 ∧ Cond.fieldLink mi.2.2.2.2.1 idx (q.2.1 k).1 (q.2.1 k).2.1 (q.2.1 k).2.2.1 ∈ j_gw) (ha : a < h.1.1) (ht : h.1.2.1 a = (0, ci)) (hk : (j_kd ci)[k]? = some kd)
    (hn : ∀ α, narrow ty (j_tv α v) = j_tv α v) (hfit : ∀ α, fits ty (j_tv α v) = true) (hv : ∀ α, j_fv α h' a k kd = j_tv α v) (ho : ∀ α j kd', j ≠ k → j_fv α h' a j kd' = j_fv α h a j kd') (h1 : h'.1.1 = h.1.1) (h2 : h'.1.2.1 = h.1.2.1) (hx : h'.1.2.2.2 = h.1.2.2.2) (hcl : j_cl h → j_cl h') (hb : ∀ b, b ≠ a → h'.2.1 b = h.2.1 b ∧ h'.2.2 b = h.2.2 b ∧ h'.1.2.2.1 b = h.1.2.2.1 b)
    (kk : J mi mc ms kc ks h' (pc + 3) loc stk o) : J mi mc ms kc ks h pc loc (v :: .ref a :: stk) o := by
  intro r hr l p e s m args below meth c D cI cJ cB A α H locs cells slots ls Qc C V hc hs hl E
  obtain ⟨⟨C0, T0, N0⟩, hq, hkN, -⟩ := hf
  obtain ⟨hq1, hlink⟩ := hnot _ hq
  obtain ⟨q', hq', hp, hfin, hdecl⟩ := hft
  cases hq.symm.trans hq'
  obtain ⟨ty0, hty0⟩ := j_cls_ty ci _ hq
  have hlen : k < (j_fs α h a 0 (j_kd ci)).length := by rw [j_fs_len]; exact (List.getElem?_eq_some_iff.mp hk).1
  have hset : (j_ws cI cJ cB α h).set a (α a, .inr (ci, (j_fs α h a 0 (j_kd ci)).set k (j_tv α v))) = j_ws cI cJ cB α h' := by
    rw [j_fs_set hk (hv α) (ho α)]
    rw [← j_ws_set (cI := cI) (cJ := cJ) (cB := cB) (α := α) h1 (fun b hb' => j_cell_same (by rw [h2]) (hb b hb').1 (hb b hb').2.1 (fun k => by rw [(hb b hb').2.2]))]
    congr 2
    simp [j_cell, h2, ht]
  have E' : j_E h' r s args D cI cJ cB A α Qc := fun α' t g1 g2 g3 g4 g5 g6 g7 g8 => E α' t (by rw [← h1]; exact g1) g2 (by rw [← h1]; exact g3) g4 g5 g6 g7 g8
  exact va_putF C.1 C.2.1 C.2.2.2.2.2.1 (j_cls_in ci _ hq) ty0 hty0 (j_cls_nm ci _ hq) C.2.2.2.2.1 C.2.2.2.2.2.2.2.2.1 V.1 V.2.1 V.2.2.1 a (j_obj ha ht) hq k hkN (C.2.2.2.2.2.1 _ hlink) (fun _ h9 => h9) hfin (C.2.2.2.2.2.2.2.1.trans hin) (hdecl.trans hq1) hp (hn α) (hfit α) hlen hd
      (fun H1 locs1 hP hD hS => kk r hr l p e s m args below meth c D cI cJ cB A α H1 locs1 cells slots ls Qc C ⟨hset ▸ hP, hset ▸ hD, hS, V.2.2.2.1.shape hx, hcl V.2.2.2.2.1, by rw [h1]; exact V.2.2.2.2.2⟩ hc hs hl E')
theorem j_sI_fv {α : Nat → Nat} {a k : Nat} {v : Int32} (j kd' : Nat) (hj : j ≠ k) : j_fv α (h.1, j_sI h.2 a k v) a j kd' = j_fv α h a j kd' := by
  unfold j_fv
  simp only [j_sI_a, upd, if_neg hj]
  rfl
theorem j_sL_fv {α : Nat → Nat} {a k : Nat} {v : Int64} (j kd' : Nat) (hj : j ≠ k) : j_fv α (h.1, j_sL h.2 a k v) a j kd' = j_fv α h a j kd' := by
  unfold j_fv
  simp only [j_sL_a, vp_updL, if_neg hj]
  rfl
theorem j_sR_fv {α : Nat → Nat} {a k : Nat} {v : Option Nat} (j kd' : Nat) (hj : j ≠ k) : j_fv α (j_sR h.1 a k v, h.2) a j kd' = j_fv α h a j kd' := by
  unfold j_fv
  simp only [j_sR, hj, and_false, if_false]
theorem J_putI {a k ci idx : Nat} {ty : FieldType} {v : Int32} (hd : decode mi.2.1 pc = .ok (.putfield idx, 3)) (hf : j_FL mi.2.2.2.2.1 idx ci k) (hft : j_FT ci k ty false) (ha : a < h.1.1) (ht : h.1.2.1 a = (0, ci)) (hk : (j_kd ci)[k]? = some 0) (hn : narrow ty (.int v) = .int v) (hfit : fits ty (.int v) = true)
    (kk : J mi mc ms kc ks (h.1, j_sI h.2 a k v) (pc + 3) loc stk o) : J mi mc ms kc ks h pc loc (.int v :: .ref a :: stk) o :=
  j_put (h' := (h.1, j_sI h.2 a k v)) hd hf hft ha ht hk (fun _ => hn) (fun _ => hfit) (fun _ => by simp [j_fv, j_sI_a, upd, j_tv]) (fun _ j kd' hj => j_sI_fv j kd' hj) rfl rfl rfl (fun z => z) (fun b hb => ⟨j_sI_o _ _ _ hb, rfl, rfl⟩) kk
theorem J_putL {a k ci idx : Nat} {ty : FieldType} {v : Int64} (hd : decode mi.2.1 pc = .ok (.putfield idx, 3)) (hf : j_FL mi.2.2.2.2.1 idx ci k) (hft : j_FT ci k ty false) (ha : a < h.1.1) (ht : h.1.2.1 a = (0, ci)) (hk : (j_kd ci)[k]? = some 1) (hn : narrow ty (.long v) = .long v) (hfit : fits ty (.long v) = true)
    (kk : J mi mc ms kc ks (h.1, j_sL h.2 a k v) (pc + 3) loc stk o) : J mi mc ms kc ks h pc loc (.long v :: .ref a :: stk) o :=
  j_put (h' := (h.1, j_sL h.2 a k v)) hd hf hft ha ht hk (fun _ => hn) (fun _ => hfit) (fun _ => by simp [j_fv, j_sL_a, vp_updL, j_tv]) (fun _ j kd' hj => j_sL_fv j kd' hj) rfl rfl rfl (fun z => z) (fun b hb => ⟨rfl, j_sL_o _ _ _ hb, rfl⟩) kk
theorem j_sR_cl {a k b : Nat} (hb : b < h.1.1) (z : j_cl h) : j_cl (j_sR h.1 a k (some b), h.2) := by
  intro a' k' b' ha' hr'
  simp only [j_sR] at hr' ha' ⊢
  by_cases e : a' = a ∧ k' = k
  · rw [if_pos e] at hr'
    cases hr'
    exact hb
  · rw [if_neg e] at hr'
    exact z a' k' b' ha' hr'
theorem j_sR_o {a k b : Nat} {v : Option Nat} (hb : b ≠ a) : (j_sR h.1 a k v).2.2.1 b = h.1.2.2.1 b := by
  funext j
  simp [j_sR, hb]
theorem J_putR {a k ci idx b : Nat} {ty : FieldType} (hd : decode mi.2.1 pc = .ok (.putfield idx, 3)) (hf : j_FL mi.2.2.2.2.1 idx ci k) (hft : j_FT ci k ty false) (ha : a < h.1.1) (ht : h.1.2.1 a = (0, ci)) (hk : (j_kd ci)[k]? = some 2) (hb : b < h.1.1) (hn : ∀ x, narrow ty (.ref x) = .ref x) (hfit : ∀ x, fits ty (.ref x) = true)
    (kk : J mi mc ms kc ks (j_sR h.1 a k (some b), h.2) (pc + 3) loc stk o) : J mi mc ms kc ks h pc loc (.ref b :: .ref a :: stk) o :=
  j_put (h' := (j_sR h.1 a k (some b), h.2)) hd hf hft ha ht hk (fun _ => hn _) (fun _ => hfit _) (fun _ => by simp [j_fv, j_sR, j_tv, va_rf]) (fun _ j kd' hj => j_sR_fv j kd' hj) rfl rfl rfl (j_sR_cl hb) (fun b' hb' => ⟨rfl, rfl, j_sR_o hb'⟩) kk
theorem J_putFR {a k ci idx b : Nat} {ty : FieldType} (hd : decode mi.2.1 pc = .ok (.putfield idx, 3)) (hf : j_FL mi.2.2.2.2.1 idx ci k) (hft : j_FT ci k ty true) (hin : mi.1.name = "<init>") (hnot : ∀ q, vwCl[ci]? = some q → q.1 = mi.2.2.2.2.1 ∧ Cond.fieldLink mi.2.2.2.2.1 idx (q.2.1 k).1 (q.2.1 k).2.1 (q.2.1 k).2.2.1 ∈ j_gw) (ha : a < h.1.1) (ht : h.1.2.1 a = (0, ci)) (hk : (j_kd ci)[k]? = some 2) (hb : b < h.1.1) (hn : ∀ x, narrow ty (.ref x) = .ref x) (hfit : ∀ x, fits ty (.ref x) = true)
    (kk : J mi mc ms kc ks (j_sR h.1 a k (some b), h.2) (pc + 3) loc stk o) : J mi mc ms kc ks h pc loc (.ref b :: .ref a :: stk) o :=
  j_putF (h' := (j_sR h.1 a k (some b), h.2)) hd hf hft hin hnot ha ht hk (fun _ => hn _) (fun _ => hfit _) (fun _ => by simp [j_fv, j_sR, j_tv, va_rf]) (fun _ j kd' hj => j_sR_fv j kd' hj) rfl rfl rfl (j_sR_cl hb) (fun b' hb' => ⟨rfl, rfl, j_sR_o hb'⟩) kk
theorem J_putFI {a k ci idx : Nat} {ty : FieldType} {v : Int32} (hd : decode mi.2.1 pc = .ok (.putfield idx, 3)) (hf : j_FL mi.2.2.2.2.1 idx ci k) (hft : j_FT ci k ty true) (hin : mi.1.name = "<init>") (hnot : ∀ q, vwCl[ci]? = some q → q.1 = mi.2.2.2.2.1 ∧ Cond.fieldLink mi.2.2.2.2.1 idx (q.2.1 k).1 (q.2.1 k).2.1 (q.2.1 k).2.2.1 ∈ j_gw) (ha : a < h.1.1) (ht : h.1.2.1 a = (0, ci)) (hk : (j_kd ci)[k]? = some 0) (hn : narrow ty (.int v) = .int v) (hfit : fits ty (.int v) = true)
    (kk : J mi mc ms kc ks (h.1, j_sI h.2 a k v) (pc + 3) loc stk o) : J mi mc ms kc ks h pc loc (.int v :: .ref a :: stk) o :=
  j_putF (h' := (h.1, j_sI h.2 a k v)) hd hf hft hin hnot ha ht hk (fun _ => hn) (fun _ => hfit) (fun _ => by simp [j_fv, j_sI_a, upd, j_tv]) (fun _ j kd' hj => j_sI_fv j kd' hj) rfl rfl rfl (fun z => z) (fun b hb => ⟨j_sI_o _ _ _ hb, rfl, rfl⟩) kk
end JC
