/-! land of the reference: a new Land -/
/-- what is known of a heap that has grown: below n nothing has changed -/
def j_kp (n : Nat) (h h' : JH) : Prop := (∀ b, b < n → h'.1.2.1 b = h.1.2.1 b) ∧ (∀ b k, b < n → h'.1.2.2.1 b k = h.1.2.2.1 b k) ∧ (∀ b, b < n → h'.2.1 b = h.2.1 b) ∧ ∀ b, b < n → h'.2.2 b = h.2.2 b
theorem j_kp.refl (n : Nat) (h : JH) : j_kp n h h := ⟨fun _ _ => rfl, fun _ _ _ => rfl, fun _ _ => rfl, fun _ _ => rfl⟩
theorem j_kp.trans {n : Nat} {h h1 h2 : JH} (a : j_kp n h h1) (b : j_kp n h1 h2) : j_kp n h h2 := ⟨fun x hx => (b.1 x hx).trans (a.1 x hx), fun x k hx => (b.2.1 x k hx).trans (a.2.1 x k hx), fun x hx => (b.2.2.1 x hx).trans (a.2.2.1 x hx), fun x hx => (b.2.2.2 x hx).trans (a.2.2.2 x hx)⟩
theorem j_kp.new {n : Nat} {h h1 : JH} (a : j_kp n h h1) (hn : n ≤ h1.1.1) (t : Nat × Nat) : j_kp n h (j_new h1 t) := a.trans ⟨fun x hx => if_neg (by omega), fun x k hx => if_neg (by omega), fun x hx => if_neg (by omega), fun x hx => if_neg (by omega)⟩
theorem j_kp.mkA {n : Nat} {h h1 : JH} (a : j_kp n h h1) (hn : n ≤ h1.1.1) {u k : Nat} (hu : n ≤ u) (t : Nat × Nat) : j_kp n h (j_mkA h1 u k t) := a.trans ⟨fun x hx => if_neg (by omega), fun x j hx => by
  show (if x = u ∧ j = k then _ else (if x = h1.1.1 then none else h1.1.2.2.1 x j)) = _
  rw [if_neg (by omega), if_neg (by omega)], fun x hx => if_neg (by omega), fun x hx => if_neg (by omega)⟩
theorem j_kp.setI {n : Nat} {h h1 : JH} (a : j_kp n h h1) {u k : Nat} (hu : n ≤ u) (v : Int32) : j_kp n h (h1.1, j_sI h1.2 u k v) := a.trans ⟨fun x hx => rfl, fun x j hx => rfl, fun x hx => if_neg (by omega), fun x hx => rfl⟩
theorem kp_X12 (h : JH) (u n : Nat) (hn : n ≤ h.1.1) (hu : n ≤ u) : j_kp n h (c_X12_init h u) := by
  have K0 : j_kp n h (c_X12_init_0 h u) := j_kp.refl n h
  have K1 : j_kp n h (c_X12_init_1 h u) := K0.setI hu _
  have K2 : j_kp n h (c_X12_init_2 h u) := K1.mkA hn hu _
  have K3 : j_kp n h (c_X12_init_3 h u) := K2.mkA (Nat.le_trans hn (Nat.le_add_right h.1.1 1)) hu _
  have K4 : j_kp n h (c_X12_init_4 h u) := K3.mkA (Nat.le_trans hn (Nat.le_add_right h.1.1 2)) hu _
  have K5 : j_kp n h (c_X12_init_5 h u) := K4.mkA (Nat.le_trans hn (Nat.le_add_right h.1.1 3)) hu _
  have K6 : j_kp n h (c_X12_init_6 h u) := K5.mkA (Nat.le_trans hn (Nat.le_add_right h.1.1 4)) hu _
  have K7 : j_kp n h (c_X12_init_7 h u) := K6.mkA (Nat.le_trans hn (Nat.le_add_right h.1.1 5)) hu _
  have K8 : j_kp n h (c_X12_init_8 h u) := K7.mkA (Nat.le_trans hn (Nat.le_add_right h.1.1 6)) hu _
  have K9 : j_kp n h (c_X12_init_9 h u) := K8.mkA (Nat.le_trans hn (Nat.le_add_right h.1.1 7)) hu _
  have K10 : j_kp n h (c_X12_init_10 h u) := K9.mkA (Nat.le_trans hn (Nat.le_add_right h.1.1 8)) hu _
  have K11 : j_kp n h (c_X12_init_11 h u) := K10.mkA (Nat.le_trans hn (Nat.le_add_right h.1.1 9)) hu _
  have K12 : j_kp n h (c_X12_init_12 h u) := K11.mkA (Nat.le_trans hn (Nat.le_add_right h.1.1 10)) hu _
  have K13 : j_kp n h (c_X12_init_13 h u) := K12.mkA (Nat.le_trans hn (Nat.le_add_right h.1.1 11)) hu _
  have K14 : j_kp n h (c_X12_init_14 h u) := K13.mkA (Nat.le_trans hn (Nat.le_add_right h.1.1 12)) hu _
  have K15 : j_kp n h (c_X12_init_15 h u) := K14.mkA (Nat.le_trans hn (Nat.le_add_right h.1.1 13)) hu _
  have hb : n ≤ h.1.1 + 10 := Nat.le_trans hn (Nat.le_add_right _ _)
  have K17 : j_kp n h (c_X12_init_17 h u) := K15.setI hb _
  have K18 : j_kp n h (c_X12_init_18 h u) := K17.setI hb _
  have K19 : j_kp n h (c_X12_init_19 h u) := K18.setI hb _
  have K20 : j_kp n h (c_X12_init_20 h u) := K19.setI hb _
  exact K20.setI hb _
def mkG (g : JG) (u k : Nat) (t : Nat × Nat) : JG := j_sR (g.1 + 1, (fun b => if b = g.1 then t else g.2.1 b), (fun b j => if b = g.1 then none else g.2.2.1 b j), g.2.2.2) u k (some g.1)
def mkD (n : Nat) (d : JD) : JD := ((fun b => if b = n then (fun _ => 0) else d.1 b), (fun b => if b = n then (fun _ => 0) else d.2 b))
theorem mkA_eq (g : JG) (d : JD) (u k : Nat) (t : Nat × Nat) : j_mkA (g, d) u k t = (mkG g u k t, mkD g.1 d) := rfl
def gN_0 (g : JG) : JG := (g.1 + 1, (fun b => if b = g.1 then (0, 11) else g.2.1 b), (fun b j => if b = g.1 then none else g.2.2.1 b j), g.2.2.2)
def dN_0 (n : Nat) (d : JD) : JD := mkD n d
theorem cN_0 (g : JG) (d : JD) : c_X12_init_0 (j_new (g, d) (0, 11)) g.1 = (gN_0 g, dN_0 g.1 d) := rfl
def gN_1 (g : JG) : JG := gN_0 g
def dN_1 (n : Nat) (d : JD) : JD := j_sI (dN_0 n d) n 0 (-1)
theorem cN_1 (g : JG) (d : JD) : c_X12_init_1 (j_new (g, d) (0, 11)) g.1 = (gN_1 g, dN_1 g.1 d) := (congrArg (fun h : JH => (h.1, j_sI h.2 g.1 0 (-1))) (cN_0 g d)).trans rfl
def gN_2 (g : JG) : JG := mkG (gN_1 g) g.1 10 (1, 4)
def dN_2 (n : Nat) (d : JD) : JD := mkD (n + 1) (dN_1 n d)
theorem cN_2 (g : JG) (d : JD) : c_X12_init_2 (j_new (g, d) (0, 11)) g.1 = (gN_2 g, dN_2 g.1 d) := (congrArg (fun h => j_mkA h g.1 10 (1, 4)) (cN_1 g d)).trans rfl
def gN_3 (g : JG) : JG := mkG (gN_2 g) g.1 11 (1, 4)
def dN_3 (n : Nat) (d : JD) : JD := mkD (n + 2) (dN_2 n d)
theorem cN_3 (g : JG) (d : JD) : c_X12_init_3 (j_new (g, d) (0, 11)) g.1 = (gN_3 g, dN_3 g.1 d) := (congrArg (fun h => j_mkA h g.1 11 (1, 4)) (cN_2 g d)).trans rfl
def gN_4 (g : JG) : JG := mkG (gN_3 g) g.1 12 (1, 6)
def dN_4 (n : Nat) (d : JD) : JD := mkD (n + 3) (dN_3 n d)
theorem cN_4 (g : JG) (d : JD) : c_X12_init_4 (j_new (g, d) (0, 11)) g.1 = (gN_4 g, dN_4 g.1 d) := (congrArg (fun h => j_mkA h g.1 12 (1, 6)) (cN_3 g d)).trans rfl
def gN_5 (g : JG) : JG := mkG (gN_4 g) g.1 13 (1, 6)
def dN_5 (n : Nat) (d : JD) : JD := mkD (n + 4) (dN_4 n d)
theorem cN_5 (g : JG) (d : JD) : c_X12_init_5 (j_new (g, d) (0, 11)) g.1 = (gN_5 g, dN_5 g.1 d) := (congrArg (fun h => j_mkA h g.1 13 (1, 6)) (cN_4 g d)).trans rfl
def gN_6 (g : JG) : JG := mkG (gN_5 g) g.1 14 (1, 6)
def dN_6 (n : Nat) (d : JD) : JD := mkD (n + 5) (dN_5 n d)
theorem cN_6 (g : JG) (d : JD) : c_X12_init_6 (j_new (g, d) (0, 11)) g.1 = (gN_6 g, dN_6 g.1 d) := (congrArg (fun h => j_mkA h g.1 14 (1, 6)) (cN_5 g d)).trans rfl
def gN_7 (g : JG) : JG := mkG (gN_6 g) g.1 15 (1, 6)
def dN_7 (n : Nat) (d : JD) : JD := mkD (n + 6) (dN_6 n d)
theorem cN_7 (g : JG) (d : JD) : c_X12_init_7 (j_new (g, d) (0, 11)) g.1 = (gN_7 g, dN_7 g.1 d) := (congrArg (fun h => j_mkA h g.1 15 (1, 6)) (cN_6 g d)).trans rfl
def gN_8 (g : JG) : JG := mkG (gN_7 g) g.1 16 (1, 6)
def dN_8 (n : Nat) (d : JD) : JD := mkD (n + 7) (dN_7 n d)
theorem cN_8 (g : JG) (d : JD) : c_X12_init_8 (j_new (g, d) (0, 11)) g.1 = (gN_8 g, dN_8 g.1 d) := (congrArg (fun h => j_mkA h g.1 16 (1, 6)) (cN_7 g d)).trans rfl
def gN_9 (g : JG) : JG := mkG (gN_8 g) g.1 17 (1, 4)
def dN_9 (n : Nat) (d : JD) : JD := mkD (n + 8) (dN_8 n d)
theorem cN_9 (g : JG) (d : JD) : c_X12_init_9 (j_new (g, d) (0, 11)) g.1 = (gN_9 g, dN_9 g.1 d) := (congrArg (fun h => j_mkA h g.1 17 (1, 4)) (cN_8 g d)).trans rfl
def gN_10 (g : JG) : JG := mkG (gN_9 g) g.1 18 (1, 4)
def dN_10 (n : Nat) (d : JD) : JD := mkD (n + 9) (dN_9 n d)
theorem cN_10 (g : JG) (d : JD) : c_X12_init_10 (j_new (g, d) (0, 11)) g.1 = (gN_10 g, dN_10 g.1 d) := (congrArg (fun h => j_mkA h g.1 18 (1, 4)) (cN_9 g d)).trans rfl
def gN_11 (g : JG) : JG := mkG (gN_10 g) g.1 19 (1, 4)
def dN_11 (n : Nat) (d : JD) : JD := mkD (n + 10) (dN_10 n d)
theorem cN_11 (g : JG) (d : JD) : c_X12_init_11 (j_new (g, d) (0, 11)) g.1 = (gN_11 g, dN_11 g.1 d) := (congrArg (fun h => j_mkA h g.1 19 (1, 4)) (cN_10 g d)).trans rfl
def gN_12 (g : JG) : JG := mkG (gN_11 g) g.1 20 (1, 5)
def dN_12 (n : Nat) (d : JD) : JD := mkD (n + 11) (dN_11 n d)
theorem cN_12 (g : JG) (d : JD) : c_X12_init_12 (j_new (g, d) (0, 11)) g.1 = (gN_12 g, dN_12 g.1 d) := (congrArg (fun h => j_mkA h g.1 20 (1, 5)) (cN_11 g d)).trans rfl
def gN_13 (g : JG) : JG := mkG (gN_12 g) g.1 22 (2, 15)
def dN_13 (n : Nat) (d : JD) : JD := mkD (n + 12) (dN_12 n d)
theorem cN_13 (g : JG) (d : JD) : c_X12_init_13 (j_new (g, d) (0, 11)) g.1 = (gN_13 g, dN_13 g.1 d) := (congrArg (fun h => j_mkA h g.1 22 (2, 15)) (cN_12 g d)).trans rfl
def gN_14 (g : JG) : JG := mkG (gN_13 g) g.1 23 (1, 15)
def dN_14 (n : Nat) (d : JD) : JD := mkD (n + 13) (dN_13 n d)
theorem cN_14 (g : JG) (d : JD) : c_X12_init_14 (j_new (g, d) (0, 11)) g.1 = (gN_14 g, dN_14 g.1 d) := (congrArg (fun h => j_mkA h g.1 23 (1, 15)) (cN_13 g d)).trans rfl
def gN_15 (g : JG) : JG := mkG (gN_14 g) g.1 24 (1, 15)
def dN_15 (n : Nat) (d : JD) : JD := mkD (n + 14) (dN_14 n d)
theorem cN_15 (g : JG) (d : JD) : c_X12_init_15 (j_new (g, d) (0, 11)) g.1 = (gN_15 g, dN_15 g.1 d) := (congrArg (fun h => j_mkA h g.1 24 (1, 15)) (cN_14 g d)).trans rfl
def gN_16 (g : JG) : JG := gN_15 g
def dN_16 (n : Nat) (d : JD) : JD := dN_15 n d
theorem cN_16 (g : JG) (d : JD) : c_X12_init_16 (j_new (g, d) (0, 11)) g.1 = (gN_16 g, dN_16 g.1 d) := cN_15 g d
def gN_17 (g : JG) : JG := gN_16 g
def dN_17 (n : Nat) (d : JD) : JD := j_sI (dN_16 n d) (n + 11) 0 (-1)
theorem cN_17 (g : JG) (d : JD) : c_X12_init_17 (j_new (g, d) (0, 11)) g.1 = (gN_17 g, dN_17 g.1 d) := (congrArg (fun h : JH => (h.1, j_sI h.2 (g.1 + 11) 0 (-1))) (cN_16 g d)).trans rfl
def gN_18 (g : JG) : JG := gN_17 g
def dN_18 (n : Nat) (d : JD) : JD := j_sI (dN_17 n d) (n + 11) 1 (-1)
theorem cN_18 (g : JG) (d : JD) : c_X12_init_18 (j_new (g, d) (0, 11)) g.1 = (gN_18 g, dN_18 g.1 d) := (congrArg (fun h : JH => (h.1, j_sI h.2 (g.1 + 11) 1 (-1))) (cN_17 g d)).trans rfl
def gN_19 (g : JG) : JG := gN_18 g
def dN_19 (n : Nat) (d : JD) : JD := j_sI (dN_18 n d) (n + 11) 2 (-1)
theorem cN_19 (g : JG) (d : JD) : c_X12_init_19 (j_new (g, d) (0, 11)) g.1 = (gN_19 g, dN_19 g.1 d) := (congrArg (fun h : JH => (h.1, j_sI h.2 (g.1 + 11) 2 (-1))) (cN_18 g d)).trans rfl
def gN_20 (g : JG) : JG := gN_19 g
def dN_20 (n : Nat) (d : JD) : JD := j_sI (dN_19 n d) (n + 11) 3 (-1)
theorem cN_20 (g : JG) (d : JD) : c_X12_init_20 (j_new (g, d) (0, 11)) g.1 = (gN_20 g, dN_20 g.1 d) := (congrArg (fun h : JH => (h.1, j_sI h.2 (g.1 + 11) 3 (-1))) (cN_19 g d)).trans rfl
def gN_21 (g : JG) : JG := gN_20 g
def dN_21 (n : Nat) (d : JD) : JD := j_sI (dN_20 n d) (n + 11) 4 (-1)
theorem cN_21 (g : JG) (d : JD) : c_X12_init_21 (j_new (g, d) (0, 11)) g.1 = (gN_21 g, dN_21 g.1 d) := (congrArg (fun h : JH => (h.1, j_sI h.2 (g.1 + 11) 4 (-1))) (cN_20 g d)).trans rfl
/-- the cells of a new Land, and its ints and longs -/
def gNew (g : JG) : JG := gN_21 g
def dNew (n : Nat) (d : JD) : JD := dN_21 n d
theorem new12 (g : JG) (d : JD) : c_X12_init (j_new (g, d) (0, 11)) g.1 = (gNew g, dNew g.1 d) := cN_21 g d
theorem mkG_ty {g : JG} {u k b : Nat} {t : Nat × Nat} (hb : b < g.1) : (mkG g u k t).2.1 b = g.2.1 b := if_neg (Nat.ne_of_lt hb)
theorem mkG_ty_new {g : JG} {u k : Nat} {t : Nat × Nat} : (mkG g u k t).2.1 g.1 = t := if_pos rfl
theorem mkG_rf {g : JG} {u k b j : Nat} {t : Nat × Nat} (hb : b < g.1) (hne : j ≠ k) : (mkG g u k t).2.2.1 b j = g.2.2.1 b j := by
  show (if b = u ∧ j = k then _ else (if b = g.1 then none else g.2.2.1 b j)) = _
  rw [if_neg (fun z => hne z.2), if_neg (Nat.ne_of_lt hb)]
theorem mkG_rf_new {g : JG} {u k : Nat} {t : Nat × Nat} : (mkG g u k t).2.2.1 u k = some g.1 := if_pos ⟨rfl, rfl⟩
theorem gNew_ty0 (g : JG) : (gNew g).2.1 (g.1 + 0) = (0, 11) := (mkG_ty (g := gN_14 g) (show g.1 + 0 < g.1 + 14 from Nat.add_lt_add_left (by decide) _)).trans ((mkG_ty (g := gN_13 g) (show g.1 + 0 < g.1 + 13 from Nat.add_lt_add_left (by decide) _)).trans ((mkG_ty (g := gN_12 g) (show g.1 + 0 < g.1 + 12 from Nat.add_lt_add_left (by decide) _)).trans ((mkG_ty (g := gN_11 g) (show g.1 + 0 < g.1 + 11 from Nat.add_lt_add_left (by decide) _)).trans ((mkG_ty (g := gN_10 g) (show g.1 + 0 < g.1 + 10 from Nat.add_lt_add_left (by decide) _)).trans ((mkG_ty (g := gN_9 g) (show g.1 + 0 < g.1 + 9 from Nat.add_lt_add_left (by decide) _)).trans ((mkG_ty (g := gN_8 g) (show g.1 + 0 < g.1 + 8 from Nat.add_lt_add_left (by decide) _)).trans ((mkG_ty (g := gN_7 g) (show g.1 + 0 < g.1 + 7 from Nat.add_lt_add_left (by decide) _)).trans ((mkG_ty (g := gN_6 g) (show g.1 + 0 < g.1 + 6 from Nat.add_lt_add_left (by decide) _)).trans ((mkG_ty (g := gN_5 g) (show g.1 + 0 < g.1 + 5 from Nat.add_lt_add_left (by decide) _)).trans ((mkG_ty (g := gN_4 g) (show g.1 + 0 < g.1 + 4 from Nat.add_lt_add_left (by decide) _)).trans ((mkG_ty (g := gN_3 g) (show g.1 + 0 < g.1 + 3 from Nat.add_lt_add_left (by decide) _)).trans ((mkG_ty (g := gN_2 g) (show g.1 + 0 < g.1 + 2 from Nat.add_lt_add_left (by decide) _)).trans ((mkG_ty (g := gN_1 g) (show g.1 + 0 < g.1 + 1 from Nat.add_lt_add_left (by decide) _)).trans (if_pos rfl))))))))))))))
theorem gNew_ty1 (g : JG) : (gNew g).2.1 (g.1 + 1) = (1, 4) := (mkG_ty (g := gN_14 g) (show g.1 + 1 < g.1 + 14 from Nat.add_lt_add_left (by decide) _)).trans ((mkG_ty (g := gN_13 g) (show g.1 + 1 < g.1 + 13 from Nat.add_lt_add_left (by decide) _)).trans ((mkG_ty (g := gN_12 g) (show g.1 + 1 < g.1 + 12 from Nat.add_lt_add_left (by decide) _)).trans ((mkG_ty (g := gN_11 g) (show g.1 + 1 < g.1 + 11 from Nat.add_lt_add_left (by decide) _)).trans ((mkG_ty (g := gN_10 g) (show g.1 + 1 < g.1 + 10 from Nat.add_lt_add_left (by decide) _)).trans ((mkG_ty (g := gN_9 g) (show g.1 + 1 < g.1 + 9 from Nat.add_lt_add_left (by decide) _)).trans ((mkG_ty (g := gN_8 g) (show g.1 + 1 < g.1 + 8 from Nat.add_lt_add_left (by decide) _)).trans ((mkG_ty (g := gN_7 g) (show g.1 + 1 < g.1 + 7 from Nat.add_lt_add_left (by decide) _)).trans ((mkG_ty (g := gN_6 g) (show g.1 + 1 < g.1 + 6 from Nat.add_lt_add_left (by decide) _)).trans ((mkG_ty (g := gN_5 g) (show g.1 + 1 < g.1 + 5 from Nat.add_lt_add_left (by decide) _)).trans ((mkG_ty (g := gN_4 g) (show g.1 + 1 < g.1 + 4 from Nat.add_lt_add_left (by decide) _)).trans ((mkG_ty (g := gN_3 g) (show g.1 + 1 < g.1 + 3 from Nat.add_lt_add_left (by decide) _)).trans ((mkG_ty (g := gN_2 g) (show g.1 + 1 < g.1 + 2 from Nat.add_lt_add_left (by decide) _)).trans (mkG_ty_new)))))))))))))
theorem gNew_ty2 (g : JG) : (gNew g).2.1 (g.1 + 2) = (1, 4) := (mkG_ty (g := gN_14 g) (show g.1 + 2 < g.1 + 14 from Nat.add_lt_add_left (by decide) _)).trans ((mkG_ty (g := gN_13 g) (show g.1 + 2 < g.1 + 13 from Nat.add_lt_add_left (by decide) _)).trans ((mkG_ty (g := gN_12 g) (show g.1 + 2 < g.1 + 12 from Nat.add_lt_add_left (by decide) _)).trans ((mkG_ty (g := gN_11 g) (show g.1 + 2 < g.1 + 11 from Nat.add_lt_add_left (by decide) _)).trans ((mkG_ty (g := gN_10 g) (show g.1 + 2 < g.1 + 10 from Nat.add_lt_add_left (by decide) _)).trans ((mkG_ty (g := gN_9 g) (show g.1 + 2 < g.1 + 9 from Nat.add_lt_add_left (by decide) _)).trans ((mkG_ty (g := gN_8 g) (show g.1 + 2 < g.1 + 8 from Nat.add_lt_add_left (by decide) _)).trans ((mkG_ty (g := gN_7 g) (show g.1 + 2 < g.1 + 7 from Nat.add_lt_add_left (by decide) _)).trans ((mkG_ty (g := gN_6 g) (show g.1 + 2 < g.1 + 6 from Nat.add_lt_add_left (by decide) _)).trans ((mkG_ty (g := gN_5 g) (show g.1 + 2 < g.1 + 5 from Nat.add_lt_add_left (by decide) _)).trans ((mkG_ty (g := gN_4 g) (show g.1 + 2 < g.1 + 4 from Nat.add_lt_add_left (by decide) _)).trans ((mkG_ty (g := gN_3 g) (show g.1 + 2 < g.1 + 3 from Nat.add_lt_add_left (by decide) _)).trans (mkG_ty_new))))))))))))
theorem gNew_ty3 (g : JG) : (gNew g).2.1 (g.1 + 3) = (1, 6) := (mkG_ty (g := gN_14 g) (show g.1 + 3 < g.1 + 14 from Nat.add_lt_add_left (by decide) _)).trans ((mkG_ty (g := gN_13 g) (show g.1 + 3 < g.1 + 13 from Nat.add_lt_add_left (by decide) _)).trans ((mkG_ty (g := gN_12 g) (show g.1 + 3 < g.1 + 12 from Nat.add_lt_add_left (by decide) _)).trans ((mkG_ty (g := gN_11 g) (show g.1 + 3 < g.1 + 11 from Nat.add_lt_add_left (by decide) _)).trans ((mkG_ty (g := gN_10 g) (show g.1 + 3 < g.1 + 10 from Nat.add_lt_add_left (by decide) _)).trans ((mkG_ty (g := gN_9 g) (show g.1 + 3 < g.1 + 9 from Nat.add_lt_add_left (by decide) _)).trans ((mkG_ty (g := gN_8 g) (show g.1 + 3 < g.1 + 8 from Nat.add_lt_add_left (by decide) _)).trans ((mkG_ty (g := gN_7 g) (show g.1 + 3 < g.1 + 7 from Nat.add_lt_add_left (by decide) _)).trans ((mkG_ty (g := gN_6 g) (show g.1 + 3 < g.1 + 6 from Nat.add_lt_add_left (by decide) _)).trans ((mkG_ty (g := gN_5 g) (show g.1 + 3 < g.1 + 5 from Nat.add_lt_add_left (by decide) _)).trans ((mkG_ty (g := gN_4 g) (show g.1 + 3 < g.1 + 4 from Nat.add_lt_add_left (by decide) _)).trans (mkG_ty_new)))))))))))
theorem gNew_ty4 (g : JG) : (gNew g).2.1 (g.1 + 4) = (1, 6) := (mkG_ty (g := gN_14 g) (show g.1 + 4 < g.1 + 14 from Nat.add_lt_add_left (by decide) _)).trans ((mkG_ty (g := gN_13 g) (show g.1 + 4 < g.1 + 13 from Nat.add_lt_add_left (by decide) _)).trans ((mkG_ty (g := gN_12 g) (show g.1 + 4 < g.1 + 12 from Nat.add_lt_add_left (by decide) _)).trans ((mkG_ty (g := gN_11 g) (show g.1 + 4 < g.1 + 11 from Nat.add_lt_add_left (by decide) _)).trans ((mkG_ty (g := gN_10 g) (show g.1 + 4 < g.1 + 10 from Nat.add_lt_add_left (by decide) _)).trans ((mkG_ty (g := gN_9 g) (show g.1 + 4 < g.1 + 9 from Nat.add_lt_add_left (by decide) _)).trans ((mkG_ty (g := gN_8 g) (show g.1 + 4 < g.1 + 8 from Nat.add_lt_add_left (by decide) _)).trans ((mkG_ty (g := gN_7 g) (show g.1 + 4 < g.1 + 7 from Nat.add_lt_add_left (by decide) _)).trans ((mkG_ty (g := gN_6 g) (show g.1 + 4 < g.1 + 6 from Nat.add_lt_add_left (by decide) _)).trans ((mkG_ty (g := gN_5 g) (show g.1 + 4 < g.1 + 5 from Nat.add_lt_add_left (by decide) _)).trans (mkG_ty_new))))))))))
theorem gNew_ty5 (g : JG) : (gNew g).2.1 (g.1 + 5) = (1, 6) := (mkG_ty (g := gN_14 g) (show g.1 + 5 < g.1 + 14 from Nat.add_lt_add_left (by decide) _)).trans ((mkG_ty (g := gN_13 g) (show g.1 + 5 < g.1 + 13 from Nat.add_lt_add_left (by decide) _)).trans ((mkG_ty (g := gN_12 g) (show g.1 + 5 < g.1 + 12 from Nat.add_lt_add_left (by decide) _)).trans ((mkG_ty (g := gN_11 g) (show g.1 + 5 < g.1 + 11 from Nat.add_lt_add_left (by decide) _)).trans ((mkG_ty (g := gN_10 g) (show g.1 + 5 < g.1 + 10 from Nat.add_lt_add_left (by decide) _)).trans ((mkG_ty (g := gN_9 g) (show g.1 + 5 < g.1 + 9 from Nat.add_lt_add_left (by decide) _)).trans ((mkG_ty (g := gN_8 g) (show g.1 + 5 < g.1 + 8 from Nat.add_lt_add_left (by decide) _)).trans ((mkG_ty (g := gN_7 g) (show g.1 + 5 < g.1 + 7 from Nat.add_lt_add_left (by decide) _)).trans ((mkG_ty (g := gN_6 g) (show g.1 + 5 < g.1 + 6 from Nat.add_lt_add_left (by decide) _)).trans (mkG_ty_new)))))))))
theorem gNew_ty6 (g : JG) : (gNew g).2.1 (g.1 + 6) = (1, 6) := (mkG_ty (g := gN_14 g) (show g.1 + 6 < g.1 + 14 from Nat.add_lt_add_left (by decide) _)).trans ((mkG_ty (g := gN_13 g) (show g.1 + 6 < g.1 + 13 from Nat.add_lt_add_left (by decide) _)).trans ((mkG_ty (g := gN_12 g) (show g.1 + 6 < g.1 + 12 from Nat.add_lt_add_left (by decide) _)).trans ((mkG_ty (g := gN_11 g) (show g.1 + 6 < g.1 + 11 from Nat.add_lt_add_left (by decide) _)).trans ((mkG_ty (g := gN_10 g) (show g.1 + 6 < g.1 + 10 from Nat.add_lt_add_left (by decide) _)).trans ((mkG_ty (g := gN_9 g) (show g.1 + 6 < g.1 + 9 from Nat.add_lt_add_left (by decide) _)).trans ((mkG_ty (g := gN_8 g) (show g.1 + 6 < g.1 + 8 from Nat.add_lt_add_left (by decide) _)).trans ((mkG_ty (g := gN_7 g) (show g.1 + 6 < g.1 + 7 from Nat.add_lt_add_left (by decide) _)).trans (mkG_ty_new))))))))
theorem gNew_ty7 (g : JG) : (gNew g).2.1 (g.1 + 7) = (1, 6) := (mkG_ty (g := gN_14 g) (show g.1 + 7 < g.1 + 14 from Nat.add_lt_add_left (by decide) _)).trans ((mkG_ty (g := gN_13 g) (show g.1 + 7 < g.1 + 13 from Nat.add_lt_add_left (by decide) _)).trans ((mkG_ty (g := gN_12 g) (show g.1 + 7 < g.1 + 12 from Nat.add_lt_add_left (by decide) _)).trans ((mkG_ty (g := gN_11 g) (show g.1 + 7 < g.1 + 11 from Nat.add_lt_add_left (by decide) _)).trans ((mkG_ty (g := gN_10 g) (show g.1 + 7 < g.1 + 10 from Nat.add_lt_add_left (by decide) _)).trans ((mkG_ty (g := gN_9 g) (show g.1 + 7 < g.1 + 9 from Nat.add_lt_add_left (by decide) _)).trans ((mkG_ty (g := gN_8 g) (show g.1 + 7 < g.1 + 8 from Nat.add_lt_add_left (by decide) _)).trans (mkG_ty_new)))))))
theorem gNew_ty8 (g : JG) : (gNew g).2.1 (g.1 + 8) = (1, 4) := (mkG_ty (g := gN_14 g) (show g.1 + 8 < g.1 + 14 from Nat.add_lt_add_left (by decide) _)).trans ((mkG_ty (g := gN_13 g) (show g.1 + 8 < g.1 + 13 from Nat.add_lt_add_left (by decide) _)).trans ((mkG_ty (g := gN_12 g) (show g.1 + 8 < g.1 + 12 from Nat.add_lt_add_left (by decide) _)).trans ((mkG_ty (g := gN_11 g) (show g.1 + 8 < g.1 + 11 from Nat.add_lt_add_left (by decide) _)).trans ((mkG_ty (g := gN_10 g) (show g.1 + 8 < g.1 + 10 from Nat.add_lt_add_left (by decide) _)).trans ((mkG_ty (g := gN_9 g) (show g.1 + 8 < g.1 + 9 from Nat.add_lt_add_left (by decide) _)).trans (mkG_ty_new))))))
theorem gNew_ty9 (g : JG) : (gNew g).2.1 (g.1 + 9) = (1, 4) := (mkG_ty (g := gN_14 g) (show g.1 + 9 < g.1 + 14 from Nat.add_lt_add_left (by decide) _)).trans ((mkG_ty (g := gN_13 g) (show g.1 + 9 < g.1 + 13 from Nat.add_lt_add_left (by decide) _)).trans ((mkG_ty (g := gN_12 g) (show g.1 + 9 < g.1 + 12 from Nat.add_lt_add_left (by decide) _)).trans ((mkG_ty (g := gN_11 g) (show g.1 + 9 < g.1 + 11 from Nat.add_lt_add_left (by decide) _)).trans ((mkG_ty (g := gN_10 g) (show g.1 + 9 < g.1 + 10 from Nat.add_lt_add_left (by decide) _)).trans (mkG_ty_new)))))
theorem gNew_ty10 (g : JG) : (gNew g).2.1 (g.1 + 10) = (1, 4) := (mkG_ty (g := gN_14 g) (show g.1 + 10 < g.1 + 14 from Nat.add_lt_add_left (by decide) _)).trans ((mkG_ty (g := gN_13 g) (show g.1 + 10 < g.1 + 13 from Nat.add_lt_add_left (by decide) _)).trans ((mkG_ty (g := gN_12 g) (show g.1 + 10 < g.1 + 12 from Nat.add_lt_add_left (by decide) _)).trans ((mkG_ty (g := gN_11 g) (show g.1 + 10 < g.1 + 11 from Nat.add_lt_add_left (by decide) _)).trans (mkG_ty_new))))
theorem gNew_ty11 (g : JG) : (gNew g).2.1 (g.1 + 11) = (1, 5) := (mkG_ty (g := gN_14 g) (show g.1 + 11 < g.1 + 14 from Nat.add_lt_add_left (by decide) _)).trans ((mkG_ty (g := gN_13 g) (show g.1 + 11 < g.1 + 13 from Nat.add_lt_add_left (by decide) _)).trans ((mkG_ty (g := gN_12 g) (show g.1 + 11 < g.1 + 12 from Nat.add_lt_add_left (by decide) _)).trans (mkG_ty_new)))
theorem gNew_ty12 (g : JG) : (gNew g).2.1 (g.1 + 12) = (2, 15) := (mkG_ty (g := gN_14 g) (show g.1 + 12 < g.1 + 14 from Nat.add_lt_add_left (by decide) _)).trans ((mkG_ty (g := gN_13 g) (show g.1 + 12 < g.1 + 13 from Nat.add_lt_add_left (by decide) _)).trans (mkG_ty_new))
theorem gNew_ty13 (g : JG) : (gNew g).2.1 (g.1 + 13) = (1, 15) := (mkG_ty (g := gN_14 g) (show g.1 + 13 < g.1 + 14 from Nat.add_lt_add_left (by decide) _)).trans (mkG_ty_new)
theorem gNew_ty14 (g : JG) : (gNew g).2.1 (g.1 + 14) = (1, 15) := mkG_ty_new
theorem gNew_rf1 (g : JG) : (gNew g).2.2.1 g.1 10 = some (g.1 + 1) := (mkG_rf (g := gN_14 g) (show g.1 < g.1 + 14 from Nat.lt_add_of_pos_right (by decide)) (by decide)).trans ((mkG_rf (g := gN_13 g) (show g.1 < g.1 + 13 from Nat.lt_add_of_pos_right (by decide)) (by decide)).trans ((mkG_rf (g := gN_12 g) (show g.1 < g.1 + 12 from Nat.lt_add_of_pos_right (by decide)) (by decide)).trans ((mkG_rf (g := gN_11 g) (show g.1 < g.1 + 11 from Nat.lt_add_of_pos_right (by decide)) (by decide)).trans ((mkG_rf (g := gN_10 g) (show g.1 < g.1 + 10 from Nat.lt_add_of_pos_right (by decide)) (by decide)).trans ((mkG_rf (g := gN_9 g) (show g.1 < g.1 + 9 from Nat.lt_add_of_pos_right (by decide)) (by decide)).trans ((mkG_rf (g := gN_8 g) (show g.1 < g.1 + 8 from Nat.lt_add_of_pos_right (by decide)) (by decide)).trans ((mkG_rf (g := gN_7 g) (show g.1 < g.1 + 7 from Nat.lt_add_of_pos_right (by decide)) (by decide)).trans ((mkG_rf (g := gN_6 g) (show g.1 < g.1 + 6 from Nat.lt_add_of_pos_right (by decide)) (by decide)).trans ((mkG_rf (g := gN_5 g) (show g.1 < g.1 + 5 from Nat.lt_add_of_pos_right (by decide)) (by decide)).trans ((mkG_rf (g := gN_4 g) (show g.1 < g.1 + 4 from Nat.lt_add_of_pos_right (by decide)) (by decide)).trans ((mkG_rf (g := gN_3 g) (show g.1 < g.1 + 3 from Nat.lt_add_of_pos_right (by decide)) (by decide)).trans ((mkG_rf (g := gN_2 g) (show g.1 < g.1 + 2 from Nat.lt_add_of_pos_right (by decide)) (by decide)).trans (mkG_rf_new)))))))))))))
theorem gNew_rf2 (g : JG) : (gNew g).2.2.1 g.1 11 = some (g.1 + 2) := (mkG_rf (g := gN_14 g) (show g.1 < g.1 + 14 from Nat.lt_add_of_pos_right (by decide)) (by decide)).trans ((mkG_rf (g := gN_13 g) (show g.1 < g.1 + 13 from Nat.lt_add_of_pos_right (by decide)) (by decide)).trans ((mkG_rf (g := gN_12 g) (show g.1 < g.1 + 12 from Nat.lt_add_of_pos_right (by decide)) (by decide)).trans ((mkG_rf (g := gN_11 g) (show g.1 < g.1 + 11 from Nat.lt_add_of_pos_right (by decide)) (by decide)).trans ((mkG_rf (g := gN_10 g) (show g.1 < g.1 + 10 from Nat.lt_add_of_pos_right (by decide)) (by decide)).trans ((mkG_rf (g := gN_9 g) (show g.1 < g.1 + 9 from Nat.lt_add_of_pos_right (by decide)) (by decide)).trans ((mkG_rf (g := gN_8 g) (show g.1 < g.1 + 8 from Nat.lt_add_of_pos_right (by decide)) (by decide)).trans ((mkG_rf (g := gN_7 g) (show g.1 < g.1 + 7 from Nat.lt_add_of_pos_right (by decide)) (by decide)).trans ((mkG_rf (g := gN_6 g) (show g.1 < g.1 + 6 from Nat.lt_add_of_pos_right (by decide)) (by decide)).trans ((mkG_rf (g := gN_5 g) (show g.1 < g.1 + 5 from Nat.lt_add_of_pos_right (by decide)) (by decide)).trans ((mkG_rf (g := gN_4 g) (show g.1 < g.1 + 4 from Nat.lt_add_of_pos_right (by decide)) (by decide)).trans ((mkG_rf (g := gN_3 g) (show g.1 < g.1 + 3 from Nat.lt_add_of_pos_right (by decide)) (by decide)).trans (mkG_rf_new))))))))))))
theorem gNew_rf3 (g : JG) : (gNew g).2.2.1 g.1 12 = some (g.1 + 3) := (mkG_rf (g := gN_14 g) (show g.1 < g.1 + 14 from Nat.lt_add_of_pos_right (by decide)) (by decide)).trans ((mkG_rf (g := gN_13 g) (show g.1 < g.1 + 13 from Nat.lt_add_of_pos_right (by decide)) (by decide)).trans ((mkG_rf (g := gN_12 g) (show g.1 < g.1 + 12 from Nat.lt_add_of_pos_right (by decide)) (by decide)).trans ((mkG_rf (g := gN_11 g) (show g.1 < g.1 + 11 from Nat.lt_add_of_pos_right (by decide)) (by decide)).trans ((mkG_rf (g := gN_10 g) (show g.1 < g.1 + 10 from Nat.lt_add_of_pos_right (by decide)) (by decide)).trans ((mkG_rf (g := gN_9 g) (show g.1 < g.1 + 9 from Nat.lt_add_of_pos_right (by decide)) (by decide)).trans ((mkG_rf (g := gN_8 g) (show g.1 < g.1 + 8 from Nat.lt_add_of_pos_right (by decide)) (by decide)).trans ((mkG_rf (g := gN_7 g) (show g.1 < g.1 + 7 from Nat.lt_add_of_pos_right (by decide)) (by decide)).trans ((mkG_rf (g := gN_6 g) (show g.1 < g.1 + 6 from Nat.lt_add_of_pos_right (by decide)) (by decide)).trans ((mkG_rf (g := gN_5 g) (show g.1 < g.1 + 5 from Nat.lt_add_of_pos_right (by decide)) (by decide)).trans ((mkG_rf (g := gN_4 g) (show g.1 < g.1 + 4 from Nat.lt_add_of_pos_right (by decide)) (by decide)).trans (mkG_rf_new)))))))))))
theorem gNew_rf4 (g : JG) : (gNew g).2.2.1 g.1 13 = some (g.1 + 4) := (mkG_rf (g := gN_14 g) (show g.1 < g.1 + 14 from Nat.lt_add_of_pos_right (by decide)) (by decide)).trans ((mkG_rf (g := gN_13 g) (show g.1 < g.1 + 13 from Nat.lt_add_of_pos_right (by decide)) (by decide)).trans ((mkG_rf (g := gN_12 g) (show g.1 < g.1 + 12 from Nat.lt_add_of_pos_right (by decide)) (by decide)).trans ((mkG_rf (g := gN_11 g) (show g.1 < g.1 + 11 from Nat.lt_add_of_pos_right (by decide)) (by decide)).trans ((mkG_rf (g := gN_10 g) (show g.1 < g.1 + 10 from Nat.lt_add_of_pos_right (by decide)) (by decide)).trans ((mkG_rf (g := gN_9 g) (show g.1 < g.1 + 9 from Nat.lt_add_of_pos_right (by decide)) (by decide)).trans ((mkG_rf (g := gN_8 g) (show g.1 < g.1 + 8 from Nat.lt_add_of_pos_right (by decide)) (by decide)).trans ((mkG_rf (g := gN_7 g) (show g.1 < g.1 + 7 from Nat.lt_add_of_pos_right (by decide)) (by decide)).trans ((mkG_rf (g := gN_6 g) (show g.1 < g.1 + 6 from Nat.lt_add_of_pos_right (by decide)) (by decide)).trans ((mkG_rf (g := gN_5 g) (show g.1 < g.1 + 5 from Nat.lt_add_of_pos_right (by decide)) (by decide)).trans (mkG_rf_new))))))))))
theorem gNew_rf5 (g : JG) : (gNew g).2.2.1 g.1 14 = some (g.1 + 5) := (mkG_rf (g := gN_14 g) (show g.1 < g.1 + 14 from Nat.lt_add_of_pos_right (by decide)) (by decide)).trans ((mkG_rf (g := gN_13 g) (show g.1 < g.1 + 13 from Nat.lt_add_of_pos_right (by decide)) (by decide)).trans ((mkG_rf (g := gN_12 g) (show g.1 < g.1 + 12 from Nat.lt_add_of_pos_right (by decide)) (by decide)).trans ((mkG_rf (g := gN_11 g) (show g.1 < g.1 + 11 from Nat.lt_add_of_pos_right (by decide)) (by decide)).trans ((mkG_rf (g := gN_10 g) (show g.1 < g.1 + 10 from Nat.lt_add_of_pos_right (by decide)) (by decide)).trans ((mkG_rf (g := gN_9 g) (show g.1 < g.1 + 9 from Nat.lt_add_of_pos_right (by decide)) (by decide)).trans ((mkG_rf (g := gN_8 g) (show g.1 < g.1 + 8 from Nat.lt_add_of_pos_right (by decide)) (by decide)).trans ((mkG_rf (g := gN_7 g) (show g.1 < g.1 + 7 from Nat.lt_add_of_pos_right (by decide)) (by decide)).trans ((mkG_rf (g := gN_6 g) (show g.1 < g.1 + 6 from Nat.lt_add_of_pos_right (by decide)) (by decide)).trans (mkG_rf_new)))))))))
theorem gNew_rf6 (g : JG) : (gNew g).2.2.1 g.1 15 = some (g.1 + 6) := (mkG_rf (g := gN_14 g) (show g.1 < g.1 + 14 from Nat.lt_add_of_pos_right (by decide)) (by decide)).trans ((mkG_rf (g := gN_13 g) (show g.1 < g.1 + 13 from Nat.lt_add_of_pos_right (by decide)) (by decide)).trans ((mkG_rf (g := gN_12 g) (show g.1 < g.1 + 12 from Nat.lt_add_of_pos_right (by decide)) (by decide)).trans ((mkG_rf (g := gN_11 g) (show g.1 < g.1 + 11 from Nat.lt_add_of_pos_right (by decide)) (by decide)).trans ((mkG_rf (g := gN_10 g) (show g.1 < g.1 + 10 from Nat.lt_add_of_pos_right (by decide)) (by decide)).trans ((mkG_rf (g := gN_9 g) (show g.1 < g.1 + 9 from Nat.lt_add_of_pos_right (by decide)) (by decide)).trans ((mkG_rf (g := gN_8 g) (show g.1 < g.1 + 8 from Nat.lt_add_of_pos_right (by decide)) (by decide)).trans ((mkG_rf (g := gN_7 g) (show g.1 < g.1 + 7 from Nat.lt_add_of_pos_right (by decide)) (by decide)).trans (mkG_rf_new))))))))
theorem gNew_rf7 (g : JG) : (gNew g).2.2.1 g.1 16 = some (g.1 + 7) := (mkG_rf (g := gN_14 g) (show g.1 < g.1 + 14 from Nat.lt_add_of_pos_right (by decide)) (by decide)).trans ((mkG_rf (g := gN_13 g) (show g.1 < g.1 + 13 from Nat.lt_add_of_pos_right (by decide)) (by decide)).trans ((mkG_rf (g := gN_12 g) (show g.1 < g.1 + 12 from Nat.lt_add_of_pos_right (by decide)) (by decide)).trans ((mkG_rf (g := gN_11 g) (show g.1 < g.1 + 11 from Nat.lt_add_of_pos_right (by decide)) (by decide)).trans ((mkG_rf (g := gN_10 g) (show g.1 < g.1 + 10 from Nat.lt_add_of_pos_right (by decide)) (by decide)).trans ((mkG_rf (g := gN_9 g) (show g.1 < g.1 + 9 from Nat.lt_add_of_pos_right (by decide)) (by decide)).trans ((mkG_rf (g := gN_8 g) (show g.1 < g.1 + 8 from Nat.lt_add_of_pos_right (by decide)) (by decide)).trans (mkG_rf_new)))))))
theorem gNew_rf8 (g : JG) : (gNew g).2.2.1 g.1 17 = some (g.1 + 8) := (mkG_rf (g := gN_14 g) (show g.1 < g.1 + 14 from Nat.lt_add_of_pos_right (by decide)) (by decide)).trans ((mkG_rf (g := gN_13 g) (show g.1 < g.1 + 13 from Nat.lt_add_of_pos_right (by decide)) (by decide)).trans ((mkG_rf (g := gN_12 g) (show g.1 < g.1 + 12 from Nat.lt_add_of_pos_right (by decide)) (by decide)).trans ((mkG_rf (g := gN_11 g) (show g.1 < g.1 + 11 from Nat.lt_add_of_pos_right (by decide)) (by decide)).trans ((mkG_rf (g := gN_10 g) (show g.1 < g.1 + 10 from Nat.lt_add_of_pos_right (by decide)) (by decide)).trans ((mkG_rf (g := gN_9 g) (show g.1 < g.1 + 9 from Nat.lt_add_of_pos_right (by decide)) (by decide)).trans (mkG_rf_new))))))
theorem gNew_rf9 (g : JG) : (gNew g).2.2.1 g.1 18 = some (g.1 + 9) := (mkG_rf (g := gN_14 g) (show g.1 < g.1 + 14 from Nat.lt_add_of_pos_right (by decide)) (by decide)).trans ((mkG_rf (g := gN_13 g) (show g.1 < g.1 + 13 from Nat.lt_add_of_pos_right (by decide)) (by decide)).trans ((mkG_rf (g := gN_12 g) (show g.1 < g.1 + 12 from Nat.lt_add_of_pos_right (by decide)) (by decide)).trans ((mkG_rf (g := gN_11 g) (show g.1 < g.1 + 11 from Nat.lt_add_of_pos_right (by decide)) (by decide)).trans ((mkG_rf (g := gN_10 g) (show g.1 < g.1 + 10 from Nat.lt_add_of_pos_right (by decide)) (by decide)).trans (mkG_rf_new)))))
theorem gNew_rf10 (g : JG) : (gNew g).2.2.1 g.1 19 = some (g.1 + 10) := (mkG_rf (g := gN_14 g) (show g.1 < g.1 + 14 from Nat.lt_add_of_pos_right (by decide)) (by decide)).trans ((mkG_rf (g := gN_13 g) (show g.1 < g.1 + 13 from Nat.lt_add_of_pos_right (by decide)) (by decide)).trans ((mkG_rf (g := gN_12 g) (show g.1 < g.1 + 12 from Nat.lt_add_of_pos_right (by decide)) (by decide)).trans ((mkG_rf (g := gN_11 g) (show g.1 < g.1 + 11 from Nat.lt_add_of_pos_right (by decide)) (by decide)).trans (mkG_rf_new))))
theorem gNew_rf11 (g : JG) : (gNew g).2.2.1 g.1 20 = some (g.1 + 11) := (mkG_rf (g := gN_14 g) (show g.1 < g.1 + 14 from Nat.lt_add_of_pos_right (by decide)) (by decide)).trans ((mkG_rf (g := gN_13 g) (show g.1 < g.1 + 13 from Nat.lt_add_of_pos_right (by decide)) (by decide)).trans ((mkG_rf (g := gN_12 g) (show g.1 < g.1 + 12 from Nat.lt_add_of_pos_right (by decide)) (by decide)).trans (mkG_rf_new)))
theorem gNew_rf12 (g : JG) : (gNew g).2.2.1 g.1 22 = some (g.1 + 12) := (mkG_rf (g := gN_14 g) (show g.1 < g.1 + 14 from Nat.lt_add_of_pos_right (by decide)) (by decide)).trans ((mkG_rf (g := gN_13 g) (show g.1 < g.1 + 13 from Nat.lt_add_of_pos_right (by decide)) (by decide)).trans (mkG_rf_new))
theorem gNew_rf13 (g : JG) : (gNew g).2.2.1 g.1 23 = some (g.1 + 13) := (mkG_rf (g := gN_14 g) (show g.1 < g.1 + 14 from Nat.lt_add_of_pos_right (by decide)) (by decide)).trans (mkG_rf_new)
theorem gNew_rf14 (g : JG) : (gNew g).2.2.1 g.1 24 = some (g.1 + 14) := mkG_rf_new
theorem gNew_sh (g : JG) : j_sh (gNew g) g.1 TS_ML RS_ML := by
  refine ⟨Nat.le_refl _, fun j t hj => ?_, fun i q hq => ?_⟩
  · match j, hj with
    | 0, hj => cases hj; exact gNew_ty0 g
    | 1, hj => cases hj; exact gNew_ty1 g
    | 2, hj => cases hj; exact gNew_ty2 g
    | 3, hj => cases hj; exact gNew_ty3 g
    | 4, hj => cases hj; exact gNew_ty4 g
    | 5, hj => cases hj; exact gNew_ty5 g
    | 6, hj => cases hj; exact gNew_ty6 g
    | 7, hj => cases hj; exact gNew_ty7 g
    | 8, hj => cases hj; exact gNew_ty8 g
    | 9, hj => cases hj; exact gNew_ty9 g
    | 10, hj => cases hj; exact gNew_ty10 g
    | 11, hj => cases hj; exact gNew_ty11 g
    | 12, hj => cases hj; exact gNew_ty12 g
    | 13, hj => cases hj; exact gNew_ty13 g
    | 14, hj => cases hj; exact gNew_ty14 g
    | n + 15, hj => cases hj
  · match i, hq with
    | 0, hq => cases hq; exact gNew_rf1 g
    | 1, hq => cases hq; exact gNew_rf2 g
    | 2, hq => cases hq; exact gNew_rf3 g
    | 3, hq => cases hq; exact gNew_rf4 g
    | 4, hq => cases hq; exact gNew_rf5 g
    | 5, hq => cases hq; exact gNew_rf6 g
    | 6, hq => cases hq; exact gNew_rf7 g
    | 7, hq => cases hq; exact gNew_rf8 g
    | 8, hq => cases hq; exact gNew_rf9 g
    | 9, hq => cases hq; exact gNew_rf10 g
    | 10, hq => cases hq; exact gNew_rf11 g
    | 11, hq => cases hq; exact gNew_rf12 g
    | 12, hq => cases hq; exact gNew_rf13 g
    | 13, hq => cases hq; exact gNew_rf14 g
    | n + 14, hq => cases hq
theorem kpNew (g : JG) (d : JD) : j_kp g.1 (g, d) (gNew g, dNew g.1 d) := new12 g d ▸ ((j_kp.refl g.1 (g, d)).new (Nat.le_refl _) (0, 11)).trans (kp_X12 _ _ _ (Nat.le_succ _) (Nat.le_refl _))
theorem gNew_n (g : JG) : (gNew g).1 = g.1 + 15 := rfl
theorem gNew_s (g : JG) : (gNew g).2.2.2 = g.2.2.2 := rfl
theorem j_sh.keep {g g' : JG} {a : Nat} {ts : List (Nat × Nat)} {rs : List (Nat × Nat × Nat)} (h : j_sh g a ts rs) (hr : ∀ q ∈ rs, q.1 < ts.length) (hn : g.1 ≤ g'.1) (h1 : ∀ b, b < g.1 → g'.2.1 b = g.2.1 b) (h2 : ∀ b k, b < g.1 → g'.2.2.1 b k = g.2.2.1 b k) : j_sh g' a ts rs := by
  refine ⟨Nat.le_trans h.1 hn, fun j t hj => ?_, fun i q hq => ?_⟩
  · rw [h1 _ (h.lt j (List.getElem?_eq_some_iff.mp hj).1)]
    exact h.2.1 j t hj
  · rw [h2 _ _ (h.lt q.1 (hr q (List.mem_of_getElem? hq)))]
    exact h.2.2 i q hq
theorem gNew_keep {g : JG} {a : Nat} {ts : List (Nat × Nat)} {rs : List (Nat × Nat × Nat)} (h : j_sh g a ts rs) (hr : ∀ q ∈ rs, q.1 < ts.length) : j_sh (gNew g) a ts rs :=
  h.keep hr (by rw [gNew_n]; omega) (kpNew g ((fun _ _ => 0), (fun _ _ => 0))).1 (kpNew g ((fun _ _ => 0), (fun _ _ => 0))).2.1
