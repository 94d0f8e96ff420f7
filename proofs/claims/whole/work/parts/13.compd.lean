def f_X5_setHolding_b8 (c1_8 : Int32) (c2_8 : Int32) (d : JD) (i8 : Int32) (s8 : Int64 × Int64) : Int64 × Int64 := (s8.1 * (((100 : Int32) - (c1_8)).toInt64), s8.2 * 100)
def f_X5_setHolding (d : JD) (pq0 : Int32) (pq1 : Int32) : Option (JD) := (j_let (j_for pq1 (f_X5_setHolding_b8 pq0 pq1 d ) (j_mu pq1 0) 0 (1, 1)) (fun (s8 : Int64 × Int64) => ((f_X5_set d s8.1 s8.2).bind (fun q40 => some q40))))
set_option maxRecDepth 100000 in
set_option maxHeartbeats 4000000 in
theorem s_X5_setHolding (g : JG) (d : JD) (pq0 : Int32) (pq1 : Int32) (h0 : j_sh g 0 TS_W RS_W) : JM mi_X5_setHolding 0 0 (g, d) [.ref 41, .int pq0, .int pq1] ((f_X5_setHolding d pq0 pq1).bind (fun r9 => some (none, (g, r9)))) := by
  refine JM_of (by decide) rfl (Nat.le_of_ble_eq_true rfl) ?_
  refine J_loc (loc' := [(0, .ref 41), (1, .int pq0), (2, .int pq1)]) [0, 1, 2] rfl ?_
  obtain ⟨k, hk, hk2⟩ : ∃ k : JD → Option (Option Value × JH), (∀ r9, k r9 = some (none, (g, r9))) ∧ (fun r9 : JD => (some (none, (g, r9)) : Option (Option Value × JH))) = k := ⟨_, fun _ => rfl, rfl⟩
  rw [hk2]
  unfold f_X5_setHolding
  refine J_lconst (pc := 0) (v := 1) dX5_setHolding_0 (by decide) ?_
  refine J_lstore_n (pc := 1) (loc' := [(3, .long 1), (0, .ref 41), (1, .int pq0), (2, .int pq1)]) dX5_setHolding_1 rfl (by decide) rfl ?_
  refine J_lconst (pc := 2) (v := 1) dX5_setHolding_2 (by decide) ?_
  refine J_lstore (pc := 3) (loc' := [(5, .long 1), (3, .long 1), (0, .ref 41), (1, .int pq0), (2, .int pq1)]) dX5_setHolding_3 (by decide) rfl ?_
  refine J_iconst (pc := 5) (v := 0) dX5_setHolding_5 (by decide) ?_
  refine J_istore (pc := 6) (loc' := [(7, .int 0), (5, .long 1), (3, .long 1), (0, .ref 41), (1, .int pq0), (2, .int pq1)]) dX5_setHolding_6 (by decide) rfl ?_
  refine J_loc (loc' := [(0, .ref 41), (1, .int pq0), (2, .int pq1), (3, .long 1), (5, .long 1), (7, .int 0)]) [3, 4, 5, 2, 1, 0] rfl ?_
  refine J_forL (K := (fun x => Option.bind x k)) (b := pq1) (G := f_X5_setHolding_b8 pq0 pq1 d ) (hp := fun (s8 : Int64 × Int64) => (g, d)) (lc := fun (i8 : Int32) (s8 : Int64 × Int64) => [(0, .ref 41), (1, .int (pq0)), (2, .int (pq1)), (3, .long s8.1), (5, .long s8.2), (7, .int i8)]) (XJ := fun (i8 : Int32) (s8 : Int64 × Int64) o9 => J mi_X5_setHolding 0 0 0 0 (g, d) 36 [(0, .ref 41), (3, .long s8.1), (5, .long s8.2)] [] o9) (fun i8 s8 o8 Kb8 hX8 hB8 => ?_) (fun i8 s8 => ?_) _ _ (1, 1) (Nat.le_refl _)
  · show J mi_X5_setHolding 0 0 0 0 (g, d) 8 [(0, .ref 41), (1, .int (pq0)), (2, .int (pq1)), (3, .long s8.1), (5, .long s8.2), (7, .int i8)] [] (if pq1 ≤ i8 then o8 else Kb8 (f_X5_setHolding_b8 pq0 pq1 d i8 s8))
    refine J_iload (pc := 8) 5 dX5_setHolding_8 rfl ?_
    refine J_iload_n (pc := 10) 2 dX5_setHolding_10 rfl rfl ?_
    refine J_icmp_ge (pc := 11) (tgt := 36) dX5_setHolding_11 (by decide) (fun z8 => ?_) (fun z8 => ?_)
    · refine J_loc (loc' := [(0, .ref 41), (3, .long s8.1), (5, .long s8.2)]) [0, 3, 4] rfl ?_
      exact hX8 z8
    · unfold f_X5_setHolding_b8
      refine J_lload_n (pc := 14) 3 dX5_setHolding_14 rfl rfl ?_
      refine J_bipush (pc := 15) (v := 100) dX5_setHolding_15 (by decide) ?_
      refine J_iload_n (pc := 17) 1 dX5_setHolding_17 rfl rfl ?_
      refine J_isub (pc := 18) dX5_setHolding_18 ?_
      refine J_i2l (pc := 19) dX5_setHolding_19 ?_
      refine J_lmul (pc := 20) dX5_setHolding_20 ?_
      refine J_lstore_n (pc := 21) (loc' := [(3, .long (s8.1 * (((100 : Int32) - (pq0)).toInt64))), (0, .ref 41), (1, .int (pq0)), (2, .int (pq1)), (5, .long s8.2), (7, .int i8)]) dX5_setHolding_21 rfl (by decide) rfl ?_
      refine J_lload (pc := 22) 4 dX5_setHolding_22 rfl ?_
      refine J_ldc2 (pc := 24) (v := 100) dX5_setHolding_24 cn_X5_39 ?_
      refine J_lmul (pc := 27) dX5_setHolding_27 ?_
      refine J_lstore (pc := 28) (loc' := [(5, .long (s8.2 * 100)), (3, .long (s8.1 * (((100 : Int32) - (pq0)).toInt64))), (0, .ref 41), (1, .int (pq0)), (2, .int (pq1)), (7, .int i8)]) dX5_setHolding_28 (by decide) rfl ?_
      refine J_iinc (pc := 30) (v := i8 + 1) (loc' := [(7, .int (i8 + 1)), (5, .long (s8.2 * 100)), (3, .long (s8.1 * (((100 : Int32) - (pq0)).toInt64))), (0, .ref 41), (1, .int (pq0)), (2, .int (pq1))]) 5 dX5_setHolding_30 rfl rfl (by decide) rfl ?_
      refine J_goto (pc := 33) (tgt := 8) dX5_setHolding_33 (by decide) ?_
      refine J_loc (loc' := [(0, .ref 41), (1, .int (pq0)), (2, .int (pq1)), (3, .long (s8.1 * (((100 : Int32) - (pq0)).toInt64))), (5, .long (s8.2 * 100)), (7, .int (i8 + 1))]) [3, 4, 5, 2, 1, 0] rfl ?_
      exact hB8 z8 (s8.1 * (((100 : Int32) - (pq0)).toInt64), s8.2 * 100)
  · show J mi_X5_setHolding 0 0 0 0 (g, d) 36 [(0, .ref 41), (3, .long s8.1), (5, .long s8.2)] [] (_)
    refine J_aload_n (pc := 36) 0 dX5_setHolding_36 rfl rfl ?_
    refine J_lload_n (pc := 37) 1 dX5_setHolding_37 rfl rfl ?_
    refine J_lload (pc := 38) 2 dX5_setHolding_38 rfl ?_
    refine JC_pe_v (J_callV (mi := mi_X5_setHolding) (mj := mi_X5_set) (pc := 40) dX5_setHolding_40 ml_X5_35 ok_X5_set ov_X5_set ⟨Nat.le_of_ble_eq_true rfl, Nat.le_of_ble_eq_true rfl⟩ rfl (h0.lt 41 (by decide)) (h0.ty 41 rfl) rfl (s_X5_set g d s8.1 s8.2 h0) rfl (Nat.le_of_ble_eq_true rfl)) (fun q40 => ?_)
    exact J_eqo (hk q40) (J_vret (pc := 43) dX5_setHolding_43 rfl)
def f_X5_setMean_b6 (a : Nat) (c2_6 : Int32) (c3_6 : Int32) (d : JD) (i6 : Int32) (s6 : Int64) : Int64 := (j_let (f_X3_fallingIn ((d).1 a) ((d).1 (a + 3)) (c2_6) i6) (fun v7_22_6 => (s6 + ((((100 : Int32) - v7_22_6) * (f_X3_shareIn ((d).1 (a + 7)) ((d).1 (a + 8)) (c2_6) i6 (c3_6))).toInt64)) + ((v7_22_6 * (f_X3_shareIn ((d).1 (a + 7)) ((d).1 (a + 8)) (f_X10_with (c2_6) i6 0) i6 (c3_6))).toInt64)))
def f_X5_setMean (a : Nat) (d : JD) (pq1 : Int32) (pq2 : Int32) : Option (JD) := (j_let (j_for ((d.1 a) 4) (f_X5_setMean_b6 a pq1 pq2 d ) (j_mu ((d.1 a) 4) 0) 0 0) (fun (s6 : Int64) => ((f_X5_set d s6 100).bind (fun q83 => some q83))))
set_option maxRecDepth 100000 in
set_option maxHeartbeats 4000000 in
theorem s_X5_setMean (g : JG) (d : JD) (a : Nat) (pq1 : Int32) (pq2 : Int32) (h0 : j_sh g 0 TS_W RS_W) (ha : j_sh g a TS_CL RS_CL) : JM mi_X5_setMean 0 0 (g, d) [.ref 41, .ref a, .int pq1, .int pq2] ((f_X5_setMean a d pq1 pq2).bind (fun r9 => some (none, (g, r9)))) := by
  refine JM_of (by decide) rfl (Nat.le_of_ble_eq_true rfl) ?_
  refine J_loc (loc' := [(0, .ref 41), (1, .ref a), (2, .int pq1), (3, .int pq2)]) [0, 1, 2, 3] rfl ?_
  obtain ⟨k, hk, hk2⟩ : ∃ k : JD → Option (Option Value × JH), (∀ r9, k r9 = some (none, (g, r9))) ∧ (fun r9 : JD => (some (none, (g, r9)) : Option (Option Value × JH))) = k := ⟨_, fun _ => rfl, rfl⟩
  rw [hk2]
  unfold f_X5_setMean
  refine J_lconst (pc := 0) (v := 0) dX5_setMean_0 (by decide) ?_
  refine J_lstore (pc := 1) (loc' := [(4, .long 0), (0, .ref 41), (1, .ref a), (2, .int pq1), (3, .int pq2)]) dX5_setMean_1 (by decide) rfl ?_
  refine J_iconst (pc := 3) (v := 0) dX5_setMean_3 (by decide) ?_
  refine J_istore (pc := 4) (loc' := [(6, .int 0), (4, .long 0), (0, .ref 41), (1, .ref a), (2, .int pq1), (3, .int pq2)]) dX5_setMean_4 (by decide) rfl ?_
  refine J_loc (loc' := [(0, .ref 41), (1, .ref a), (2, .int pq1), (3, .int pq2), (4, .long 0), (6, .int 0)]) [2, 3, 4, 5, 1, 0] rfl ?_
  refine J_forL (K := (fun x => Option.bind x k)) (b := (d.1 a) 4) (G := f_X5_setMean_b6 a pq1 pq2 d ) (hp := fun (s6 : Int64) => (g, d)) (lc := fun (i6 : Int32) (s6 : Int64) => [(0, .ref 41), (1, .ref a), (2, .int (pq1)), (3, .int (pq2)), (4, .long s6), (6, .int i6)]) (XJ := fun (i6 : Int32) (s6 : Int64) o9 => J mi_X5_setMean 0 0 0 0 (g, d) 77 [(0, .ref 41), (4, .long s6)] [] o9) (fun i6 s6 o6 Kb6 hX6 hB6 => ?_) (fun i6 s6 => ?_) _ _ 0 (Nat.le_refl _)
  · show J mi_X5_setMean 0 0 0 0 (g, d) 6 [(0, .ref 41), (1, .ref a), (2, .int (pq1)), (3, .int (pq2)), (4, .long s6), (6, .int i6)] [] (if ((d.1 a) 4) ≤ i6 then o6 else Kb6 (f_X5_setMean_b6 a pq1 pq2 d i6 s6))
    refine J_iload (pc := 6) 5 dX5_setMean_6 rfl ?_
    refine J_aload_n (pc := 8) 1 dX5_setMean_8 rfl rfl ?_
    refine J_getI (pc := 9) dX5_setMean_9 fl_X5_41 (ha.lt 0 (by decide)) (ha.ty 0 rfl) rfl ?_
    refine J_icmp_ge (pc := 12) (tgt := 77) dX5_setMean_12 (by decide) (fun z6 => ?_) (fun z6 => ?_)
    · refine J_loc (loc' := [(0, .ref 41), (4, .long s6)]) [0, 4] rfl ?_
      exact hX6 z6
    · unfold f_X5_setMean_b6
      refine J_aload_n (pc := 15) 1 dX5_setMean_15 rfl rfl ?_
      refine J_iload_n (pc := 16) 2 dX5_setMean_16 rfl rfl ?_
      refine J_iload (pc := 17) 5 dX5_setMean_17 rfl ?_
      refine JC_pt_i (J_callV (mi := mi_X5_setMean) (mj := mi_X3_fallingIn) (pc := 19) dX5_setMean_19 ml_X5_45 ok_X3_fallingIn ov_X3_fallingIn ⟨Nat.le_of_ble_eq_true rfl, Nat.le_of_ble_eq_true rfl⟩ rfl (ha.lt 0 (by decide)) (ha.ty 0 rfl) rfl (s_X3_fallingIn g d a pq1 i6 ha) rfl (Nat.le_of_ble_eq_true rfl)) ?_
      refine J_let (K := Kb6) (fun v7_22_6 ev7_22_6 => ?_)
      refine J_val ev7_22_6.symm ?_
      refine J_istore (pc := 22) (loc' := [(7, .int v7_22_6), (0, .ref 41), (1, .ref a), (2, .int (pq1)), (3, .int (pq2)), (4, .long s6), (6, .int i6)]) dX5_setMean_22 (by decide) rfl ?_
      refine J_iload_n (pc := 24) 3 dX5_setMean_24 rfl rfl ?_
      refine J_iload (pc := 25) 6 dX5_setMean_25 rfl ?_
      refine J_iconst (pc := 27) (v := 0) dX5_setMean_27 (by decide) ?_
      refine JC_pt_i (J_callS (mi := mi_X5_setMean) (mj := mi_X10_with) (pc := 28) dX5_setMean_28 ml_X5_48 ok_X10_with os_X10_with ⟨Nat.le_of_ble_eq_true rfl, Nat.le_of_ble_eq_true rfl⟩ rfl (s_X10_with g d pq1 i6 0) rfl (Nat.le_of_ble_eq_true rfl)) ?_
      refine J_istore (pc := 31) (loc' := [(8, .int (f_X10_with (pq1) i6 0)), (7, .int v7_22_6), (0, .ref 41), (1, .ref a), (2, .int (pq1)), (3, .int (pq2)), (4, .long s6), (6, .int i6)]) dX5_setMean_31 (by decide) rfl ?_
      refine J_lload (pc := 33) 6 dX5_setMean_33 rfl ?_
      refine J_bipush (pc := 35) (v := 100) dX5_setMean_35 (by decide) ?_
      refine J_iload (pc := 37) 1 dX5_setMean_37 rfl ?_
      refine J_isub (pc := 39) dX5_setMean_39 ?_
      refine J_aload_n (pc := 40) 3 dX5_setMean_40 rfl rfl ?_
      refine J_iload_n (pc := 41) 4 dX5_setMean_41 rfl rfl ?_
      refine J_iload (pc := 42) 7 dX5_setMean_42 rfl ?_
      refine J_iload_n (pc := 44) 5 dX5_setMean_44 rfl rfl ?_
      refine JC_pt_i (J_callV (mi := mi_X5_setMean) (mj := mi_X3_shareIn) (pc := 45) dX5_setMean_45 ml_X5_54 ok_X3_shareIn ov_X3_shareIn ⟨Nat.le_of_ble_eq_true rfl, Nat.le_of_ble_eq_true rfl⟩ rfl (ha.lt 0 (by decide)) (ha.ty 0 rfl) rfl (s_X3_shareIn g d a pq1 i6 pq2 ha) rfl (Nat.le_of_ble_eq_true rfl)) ?_
      refine J_imul (pc := 48) dX5_setMean_48 ?_
      refine J_i2l (pc := 49) dX5_setMean_49 ?_
      refine J_ladd (pc := 50) dX5_setMean_50 ?_
      refine J_lstore (pc := 51) (loc' := [(4, .long (s6 + ((((100 : Int32) - v7_22_6) * (f_X3_shareIn ((d).1 (a + 7)) ((d).1 (a + 8)) (pq1) i6 (pq2))).toInt64))), (8, .int (f_X10_with (pq1) i6 0)), (7, .int v7_22_6), (0, .ref 41), (1, .ref a), (2, .int (pq1)), (3, .int (pq2)), (6, .int i6)]) dX5_setMean_51 (by decide) rfl ?_
      refine J_lload (pc := 53) 0 dX5_setMean_53 rfl ?_
      refine J_iload (pc := 55) 2 dX5_setMean_55 rfl ?_
      refine J_aload_n (pc := 57) 4 dX5_setMean_57 rfl rfl ?_
      refine J_iload (pc := 58) 1 dX5_setMean_58 rfl ?_
      refine J_iload (pc := 60) 7 dX5_setMean_60 rfl ?_
      refine J_iload_n (pc := 62) 6 dX5_setMean_62 rfl rfl ?_
      refine JC_pt_i (J_callV (mi := mi_X5_setMean) (mj := mi_X3_shareIn) (pc := 63) dX5_setMean_63 ml_X5_54 ok_X3_shareIn ov_X3_shareIn ⟨Nat.le_of_ble_eq_true rfl, Nat.le_of_ble_eq_true rfl⟩ rfl (ha.lt 0 (by decide)) (ha.ty 0 rfl) rfl (s_X3_shareIn g d a (f_X10_with (pq1) i6 0) i6 pq2 ha) rfl (Nat.le_of_ble_eq_true rfl)) ?_
      refine J_imul (pc := 66) dX5_setMean_66 ?_
      refine J_i2l (pc := 67) dX5_setMean_67 ?_
      refine J_ladd (pc := 68) dX5_setMean_68 ?_
      refine J_lstore (pc := 69) (loc' := [(4, .long ((s6 + ((((100 : Int32) - v7_22_6) * (f_X3_shareIn ((d).1 (a + 7)) ((d).1 (a + 8)) (pq1) i6 (pq2))).toInt64)) + ((v7_22_6 * (f_X3_shareIn ((d).1 (a + 7)) ((d).1 (a + 8)) (f_X10_with (pq1) i6 0) i6 (pq2))).toInt64))), (8, .int (f_X10_with (pq1) i6 0)), (7, .int v7_22_6), (0, .ref 41), (1, .ref a), (2, .int (pq1)), (3, .int (pq2)), (6, .int i6)]) dX5_setMean_69 (by decide) rfl ?_
      refine J_iinc (pc := 71) (v := i6 + 1) (loc' := [(6, .int (i6 + 1)), (4, .long ((s6 + ((((100 : Int32) - v7_22_6) * (f_X3_shareIn ((d).1 (a + 7)) ((d).1 (a + 8)) (pq1) i6 (pq2))).toInt64)) + ((v7_22_6 * (f_X3_shareIn ((d).1 (a + 7)) ((d).1 (a + 8)) (f_X10_with (pq1) i6 0) i6 (pq2))).toInt64))), (8, .int (f_X10_with (pq1) i6 0)), (7, .int v7_22_6), (0, .ref 41), (1, .ref a), (2, .int (pq1)), (3, .int (pq2))]) 7 dX5_setMean_71 rfl rfl (by decide) rfl ?_
      refine J_goto (pc := 74) (tgt := 6) dX5_setMean_74 (by decide) ?_
      refine J_loc (loc' := [(0, .ref 41), (1, .ref a), (2, .int (pq1)), (3, .int (pq2)), (4, .long ((s6 + ((((100 : Int32) - v7_22_6) * (f_X3_shareIn ((d).1 (a + 7)) ((d).1 (a + 8)) (pq1) i6 (pq2))).toInt64)) + ((v7_22_6 * (f_X3_shareIn ((d).1 (a + 7)) ((d).1 (a + 8)) (f_X10_with (pq1) i6 0) i6 (pq2))).toInt64))), (6, .int (i6 + 1))]) [4, 5, 6, 7, 1, 0] rfl ?_
      exact hB6 z6 ((s6 + ((((100 : Int32) - v7_22_6) * (f_X3_shareIn ((d).1 (a + 7)) ((d).1 (a + 8)) (pq1) i6 (pq2))).toInt64)) + ((v7_22_6 * (f_X3_shareIn ((d).1 (a + 7)) ((d).1 (a + 8)) (f_X10_with (pq1) i6 0) i6 (pq2))).toInt64))
  · show J mi_X5_setMean 0 0 0 0 (g, d) 77 [(0, .ref 41), (4, .long s6)] [] (_)
    refine J_aload_n (pc := 77) 0 dX5_setMean_77 rfl rfl ?_
    refine J_lload (pc := 78) 1 dX5_setMean_78 rfl ?_
    refine J_ldc2 (pc := 80) (v := 100) dX5_setMean_80 cn_X5_39 ?_
    refine JC_pe_v (J_callV (mi := mi_X5_setMean) (mj := mi_X5_set) (pc := 83) dX5_setMean_83 ml_X5_35 ok_X5_set ov_X5_set ⟨Nat.le_of_ble_eq_true rfl, Nat.le_of_ble_eq_true rfl⟩ rfl (h0.lt 41 (by decide)) (h0.ty 41 rfl) rfl (s_X5_set g d s6 100 h0) rfl (Nat.le_of_ble_eq_true rfl)) (fun q83 => ?_)
    exact J_eqo (hk q83) (J_vret (pc := 86) dX5_setMean_86 rfl)
def f_X5_wayWithout_j25_4 (c1_4 : Int32) (i4 : Int32) (x2_25_4 : Int32) : Int32 := (x2_25_4)
def f_X5_wayWithout_b4 (c1_4 : Int32) (i4 : Int32) (s4 : Int32) : Int32 := (if (f_X11_hasBit (c1_4) i4) = true then (f_X5_wayWithout_j25_4 (c1_4) i4 (f_X10_with s4 i4 0)) else f_X5_wayWithout_j25_4 (c1_4) i4 s4)
def f_X5_wayWithout (pq0 : Int32) (pq1 : Int32) : Int32 := (j_let (j_for 6 (f_X5_wayWithout_b4 pq1 ) (j_mu 6 0) 0 pq0) (fun (s4 : Int32) => (s4)))
set_option maxRecDepth 100000 in
set_option maxHeartbeats 4000000 in
theorem s_X5_wayWithout (g : JG) (d : JD) (pq0 : Int32) (pq1 : Int32) : JM mi_X5_wayWithout 0 0 (g, d) [.int pq0, .int pq1] (some (some (.int (f_X5_wayWithout pq0 pq1)), (g, d))) := by
  refine JM_of (by decide) rfl (Nat.le_of_ble_eq_true rfl) ?_
  refine J_loc (loc' := [(0, .int pq0), (1, .int pq1)]) [0, 1] rfl ?_
  obtain ⟨k, hk⟩ : ∃ k : Int32 → Option (Option Value × JH), ∀ r9, k r9 = some (some (.int r9), (g, d)) := ⟨_, fun _ => rfl⟩
  refine J_eqo (hk (f_X5_wayWithout pq0 pq1)).symm ?_
  unfold f_X5_wayWithout
  refine J_iload_n (pc := 0) 0 dX5_wayWithout_0 rfl rfl ?_
  refine J_istore_n (pc := 1) (loc' := [(2, .int pq0), (0, .int pq0), (1, .int pq1)]) dX5_wayWithout_1 rfl (by decide) rfl ?_
  refine J_iconst (pc := 2) (v := 0) dX5_wayWithout_2 (by decide) ?_
  refine J_istore_n (pc := 3) (loc' := [(3, .int 0), (2, .int pq0), (0, .int pq0), (1, .int pq1)]) dX5_wayWithout_3 rfl (by decide) rfl ?_
  refine J_loc (loc' := [(1, .int pq1), (2, .int pq0), (3, .int 0)]) [3, 1, 0] rfl ?_
  refine J_forL (K := k) (b := 6) (G := f_X5_wayWithout_b4 pq1 ) (hp := fun (s4 : Int32) => (g, d)) (lc := fun (i4 : Int32) (s4 : Int32) => [(1, .int (pq1)), (2, .int s4), (3, .int i4)]) (XJ := fun (i4 : Int32) (s4 : Int32) o9 => J mi_X5_wayWithout 0 0 0 0 (g, d) 31 [(2, .int s4)] [] o9) (fun i4 s4 o4 Kb4 hX4 hB4 => ?_) (fun i4 s4 => ?_) _ _ pq0 (Nat.le_refl _)
  · show J mi_X5_wayWithout 0 0 0 0 (g, d) 4 [(1, .int (pq1)), (2, .int s4), (3, .int i4)] [] (if 6 ≤ i4 then o4 else Kb4 (f_X5_wayWithout_b4 pq1 i4 s4))
    refine J_iload_n (pc := 4) 2 dX5_wayWithout_4 rfl rfl ?_
    refine J_bipush (pc := 5) (v := 6) dX5_wayWithout_5 (by decide) ?_
    refine J_icmp_ge (pc := 7) (tgt := 31) dX5_wayWithout_7 (by decide) (fun z4 => ?_) (fun z4 => ?_)
    · refine J_loc (loc' := [(2, .int s4)]) [1] rfl ?_
      exact hX4 z4
    · unfold f_X5_wayWithout_b4
      have hX5_wayWithout_j25_4 : ∀ (x2_25_4 : Int32), J mi_X5_wayWithout 0 0 0 0 (g, d) 25 [(1, .int (pq1)), (2, .int x2_25_4), (3, .int i4)] [] (Kb4 (f_X5_wayWithout_j25_4 pq1 i4 x2_25_4)) := by
        intro x2_25_4
        unfold f_X5_wayWithout_j25_4
        refine J_iinc (pc := 25) (v := i4 + 1) (loc' := [(3, .int (i4 + 1)), (1, .int (pq1)), (2, .int x2_25_4)]) 2 dX5_wayWithout_25 rfl rfl (by decide) rfl ?_
        refine J_goto (pc := 28) (tgt := 4) dX5_wayWithout_28 (by decide) ?_
        refine J_loc (loc' := [(1, .int (pq1)), (2, .int x2_25_4), (3, .int (i4 + 1))]) [1, 2, 0] rfl ?_
        exact hB4 z4 x2_25_4
      refine J_iload_n (pc := 10) 0 dX5_wayWithout_10 rfl rfl ?_
      refine J_iload_n (pc := 11) 2 dX5_wayWithout_11 rfl rfl ?_
      refine JC_pt_i (J_callS (mi := mi_X5_wayWithout) (mj := mi_X11_hasBit) (pc := 12) dX5_wayWithout_12 ml_X5_64 ok_X11_hasBit os_X11_hasBit ⟨Nat.le_of_ble_eq_true rfl, Nat.le_of_ble_eq_true rfl⟩ rfl (s_X11_hasBit g d pq1 i4) rfl (Nat.le_of_ble_eq_true rfl)) ?_
      refine K_ifeq_b (K := Kb4) (pc := 15) (tgt := 25) dX5_wayWithout_15 (by decide) (fun z15 => ?_) (fun z15 => ?_)
      · exact hX5_wayWithout_j25_4 s4
      · refine J_iload_n (pc := 18) 1 dX5_wayWithout_18 rfl rfl ?_
        refine J_iload_n (pc := 19) 2 dX5_wayWithout_19 rfl rfl ?_
        refine J_iconst (pc := 20) (v := 0) dX5_wayWithout_20 (by decide) ?_
        refine JC_pt_i (J_callS (mi := mi_X5_wayWithout) (mj := mi_X10_with) (pc := 21) dX5_wayWithout_21 ml_X5_48 ok_X10_with os_X10_with ⟨Nat.le_of_ble_eq_true rfl, Nat.le_of_ble_eq_true rfl⟩ rfl (s_X10_with g d s4 i4 0) rfl (Nat.le_of_ble_eq_true rfl)) ?_
        refine J_istore_n (pc := 24) (loc' := [(2, .int (f_X10_with s4 i4 0)), (1, .int (pq1)), (3, .int i4)]) dX5_wayWithout_24 rfl (by decide) rfl ?_
        refine J_loc (loc' := [(1, .int (pq1)), (2, .int (f_X10_with s4 i4 0)), (3, .int i4)]) [1, 0, 2] rfl ?_
        exact hX5_wayWithout_j25_4 (f_X10_with s4 i4 0)
  · show J mi_X5_wayWithout 0 0 0 0 (g, d) 31 [(2, .int s4)] [] (_)
    refine J_iload_n (pc := 31) 0 dX5_wayWithout_31 rfl rfl ?_
    exact J_eqo (hk s4) (J_iret (pc := 32) dX5_wayWithout_32 rfl)
def f_X5_likelihood_j45_5 (r_a0 : Nat → Int32) (r_a3 : Nat → Int32) (c1_5 : Int32) (c2_5 : Int32) (i5 : Int32) (y0_45_5 : Int64) (y1_45_5 : Int64) : Int64 := (y1_45_5 * y0_45_5)
def f_X5_likelihood_b5 (r_a0 : Nat → Int32) (r_a3 : Nat → Int32) (c1_5 : Int32) (c2_5 : Int32) (i5 : Int32) (s5 : Int64) : Int64 := (j_let (f_X3_fallingIn r_a0 r_a3 (c1_5) i5) (fun v6_21_5 => if (f_X11_hasBit (c2_5) i5) = true then (f_X5_likelihood_j45_5 r_a0 r_a3 (c1_5) (c2_5) i5 v6_21_5.toInt64 s5) else (f_X5_likelihood_j45_5 r_a0 r_a3 (c1_5) (c2_5) i5 (((100 : Int32) - v6_21_5).toInt64) s5)))
def f_X5_likelihood (r_a0 : Nat → Int32) (r_a3 : Nat → Int32) (pq1 : Int32) (pq2 : Int32) : Int64 := (j_let (j_for (r_a0 4) (f_X5_likelihood_b5 r_a0 r_a3 pq1 pq2 ) (j_mu (r_a0 4) 0) 0 1) (fun (s5 : Int64) => (s5)))
set_option maxRecDepth 100000 in
set_option maxHeartbeats 4000000 in
theorem s_X5_likelihood (g : JG) (d : JD) (a : Nat) (pq1 : Int32) (pq2 : Int32) (ha : j_sh g a TS_CL RS_CL) : JM mi_X5_likelihood 0 0 (g, d) [.ref a, .int pq1, .int pq2] (some (some (.long (f_X5_likelihood (d.1 a) (d.1 (a + 3)) pq1 pq2)), (g, d))) := by
  refine JM_of (by decide) rfl (Nat.le_of_ble_eq_true rfl) ?_
  refine J_loc (loc' := [(0, .ref a), (1, .int pq1), (2, .int pq2)]) [0, 1, 2] rfl ?_
  obtain ⟨k, hk⟩ : ∃ k : Int64 → Option (Option Value × JH), ∀ r9, k r9 = some (some (.long r9), (g, d)) := ⟨_, fun _ => rfl⟩
  refine J_eqo (hk (f_X5_likelihood (d.1 a) (d.1 (a + 3)) pq1 pq2)).symm ?_
  unfold f_X5_likelihood
  refine J_lconst (pc := 0) (v := 1) dX5_likelihood_0 (by decide) ?_
  refine J_lstore_n (pc := 1) (loc' := [(3, .long 1), (0, .ref a), (1, .int pq1), (2, .int pq2)]) dX5_likelihood_1 rfl (by decide) rfl ?_
  refine J_iconst (pc := 2) (v := 0) dX5_likelihood_2 (by decide) ?_
  refine J_istore (pc := 3) (loc' := [(5, .int 0), (3, .long 1), (0, .ref a), (1, .int pq1), (2, .int pq2)]) dX5_likelihood_3 (by decide) rfl ?_
  refine J_loc (loc' := [(0, .ref a), (1, .int pq1), (2, .int pq2), (3, .long 1), (5, .int 0)]) [2, 3, 4, 1, 0] rfl ?_
  refine J_forL (K := k) (b := (d.1 a) 4) (G := f_X5_likelihood_b5 (d.1 a) (d.1 (a + 3)) pq1 pq2 ) (hp := fun (s5 : Int64) => (g, d)) (lc := fun (i5 : Int32) (s5 : Int64) => [(0, .ref a), (1, .int (pq1)), (2, .int (pq2)), (3, .long s5), (5, .int i5)]) (XJ := fun (i5 : Int32) (s5 : Int64) o9 => J mi_X5_likelihood 0 0 0 0 (g, d) 53 [(3, .long s5)] [] o9) (fun i5 s5 o5 Kb5 hX5 hB5 => ?_) (fun i5 s5 => ?_) _ _ 1 (Nat.le_refl _)
  · show J mi_X5_likelihood 0 0 0 0 (g, d) 5 [(0, .ref a), (1, .int (pq1)), (2, .int (pq2)), (3, .long s5), (5, .int i5)] [] (if ((d.1 a) 4) ≤ i5 then o5 else Kb5 (f_X5_likelihood_b5 (d.1 a) (d.1 (a + 3)) pq1 pq2 i5 s5))
    refine J_iload (pc := 5) 4 dX5_likelihood_5 rfl ?_
    refine J_aload_n (pc := 7) 0 dX5_likelihood_7 rfl rfl ?_
    refine J_getI (pc := 8) dX5_likelihood_8 fl_X5_41 (ha.lt 0 (by decide)) (ha.ty 0 rfl) rfl ?_
    refine J_icmp_ge (pc := 11) (tgt := 53) dX5_likelihood_11 (by decide) (fun z5 => ?_) (fun z5 => ?_)
    · refine J_loc (loc' := [(3, .long s5)]) [3] rfl ?_
      exact hX5 z5
    · unfold f_X5_likelihood_b5
      have hX5_likelihood_j45_5 : ∀ (y0_45_5 : Int64) (y1_45_5 : Int64), J mi_X5_likelihood 0 0 0 0 (g, d) 45 [(0, .ref a), (1, .int (pq1)), (2, .int (pq2)), (5, .int i5)] [.long y0_45_5, .long y1_45_5] (Kb5 (f_X5_likelihood_j45_5 (d.1 a) (d.1 (a + 3)) pq1 pq2 i5 y0_45_5 y1_45_5)) := by
        intro y0_45_5 y1_45_5
        unfold f_X5_likelihood_j45_5
        refine J_lmul (pc := 45) dX5_likelihood_45 ?_
        refine J_lstore_n (pc := 46) (loc' := [(3, .long (y1_45_5 * y0_45_5)), (0, .ref a), (1, .int (pq1)), (2, .int (pq2)), (5, .int i5)]) dX5_likelihood_46 rfl (by decide) rfl ?_
        refine J_iinc (pc := 47) (v := i5 + 1) (loc' := [(5, .int (i5 + 1)), (3, .long (y1_45_5 * y0_45_5)), (0, .ref a), (1, .int (pq1)), (2, .int (pq2))]) 4 dX5_likelihood_47 rfl rfl (by decide) rfl ?_
        refine J_goto (pc := 50) (tgt := 5) dX5_likelihood_50 (by decide) ?_
        refine J_loc (loc' := [(0, .ref a), (1, .int (pq1)), (2, .int (pq2)), (3, .long (y1_45_5 * y0_45_5)), (5, .int (i5 + 1))]) [2, 3, 4, 1, 0] rfl ?_
        exact hB5 z5 (y1_45_5 * y0_45_5)
      refine J_aload_n (pc := 14) 0 dX5_likelihood_14 rfl rfl ?_
      refine J_iload_n (pc := 15) 1 dX5_likelihood_15 rfl rfl ?_
      refine J_iload (pc := 16) 4 dX5_likelihood_16 rfl ?_
      refine JC_pt_i (J_callV (mi := mi_X5_likelihood) (mj := mi_X3_fallingIn) (pc := 18) dX5_likelihood_18 ml_X5_45 ok_X3_fallingIn ov_X3_fallingIn ⟨Nat.le_of_ble_eq_true rfl, Nat.le_of_ble_eq_true rfl⟩ rfl (ha.lt 0 (by decide)) (ha.ty 0 rfl) rfl (s_X3_fallingIn g d a pq1 i5 ha) rfl (Nat.le_of_ble_eq_true rfl)) ?_
      refine J_let (K := Kb5) (fun v6_21_5 ev6_21_5 => ?_)
      refine J_val ev6_21_5.symm ?_
      refine J_istore (pc := 21) (loc' := [(6, .int v6_21_5), (0, .ref a), (1, .int (pq1)), (2, .int (pq2)), (3, .long s5), (5, .int i5)]) dX5_likelihood_21 (by decide) rfl ?_
      refine J_lload_n (pc := 23) 4 dX5_likelihood_23 rfl rfl ?_
      refine J_iload_n (pc := 24) 3 dX5_likelihood_24 rfl rfl ?_
      refine J_iload (pc := 25) 5 dX5_likelihood_25 rfl ?_
      refine JC_pt_i (J_callS (mi := mi_X5_likelihood) (mj := mi_X11_hasBit) (pc := 27) dX5_likelihood_27 ml_X5_64 ok_X11_hasBit os_X11_hasBit ⟨Nat.le_of_ble_eq_true rfl, Nat.le_of_ble_eq_true rfl⟩ rfl (s_X11_hasBit g d pq2 i5) rfl (Nat.le_of_ble_eq_true rfl)) ?_
      refine K_ifeq_b (K := Kb5) (pc := 30) (tgt := 39) dX5_likelihood_30 (by decide) (fun z30 => ?_) (fun z30 => ?_)
      · refine J_bipush (pc := 39) (v := 100) dX5_likelihood_39 (by decide) ?_
        refine J_iload (pc := 41) 0 dX5_likelihood_41 rfl ?_
        refine J_isub (pc := 43) dX5_likelihood_43 ?_
        refine J_i2l (pc := 44) dX5_likelihood_44 ?_
        refine J_loc (loc' := [(0, .ref a), (1, .int (pq1)), (2, .int (pq2)), (5, .int i5)]) [1, 2, 3, 5] rfl ?_
        exact hX5_likelihood_j45_5 (((100 : Int32) - v6_21_5).toInt64) s5
      · refine J_iload (pc := 33) 0 dX5_likelihood_33 rfl ?_
        refine J_i2l (pc := 35) dX5_likelihood_35 ?_
        refine J_goto (pc := 36) (tgt := 45) dX5_likelihood_36 (by decide) ?_
        refine J_loc (loc' := [(0, .ref a), (1, .int (pq1)), (2, .int (pq2)), (5, .int i5)]) [1, 2, 3, 5] rfl ?_
        exact hX5_likelihood_j45_5 v6_21_5.toInt64 s5
  · show J mi_X5_likelihood 0 0 0 0 (g, d) 53 [(3, .long s5)] [] (_)
    refine J_lload_n (pc := 53) 0 dX5_likelihood_53 rfl rfl ?_
    exact J_eqo (hk s5) (J_lret (pc := 54) dX5_likelihood_54 rfl)
def f_X5_setKeeping_b9 (a : Nat) (c2_9 : Int32) (c3_9 : Int32) (c4_9 : Int32) (d : JD) (i9 : Int32) (s9 : Int64) : Int64 := (s9 * 100)
def f_X5_setKeeping_j74_35 (a : Nat) (c2_35 : Int32) (c3_35 : Int32) (c4_35 : Int32) (c7_35 : Int64) (i35 : Int32) (d : JD) (x5_74_35 : Int64) : Int64 := (x5_74_35)
def f_X5_setKeeping_b35 (a : Nat) (c2_35 : Int32) (c3_35 : Int32) (c4_35 : Int32) (c7_35 : Int64) (d : JD) (i35 : Int32) (s35 : Int64) : Int64 := (if (f_X3_wealth ((d).1 a) ((d).1 (a + 7)) ((d).1 (a + 8)) (c3_35) (f_X5_wayWithout (c2_35) i35)) < (c4_35) then f_X5_setKeeping_j74_35 a (c2_35) (c3_35) (c4_35) (c7_35) i35 (d) s35 else (f_X5_setKeeping_j74_35 a (c2_35) (c3_35) (c4_35) (c7_35) i35 (d) (s35 + (f_X5_likelihood ((d).1 a) ((d).1 (a + 3)) (c2_35) i35))))
def f_X5_setKeeping (a : Nat) (d : JD) (pq1 : Int32) (pq2 : Int32) (pq3 : Int32) : Option (JD) := (j_let (j_for ((d.1 a) 4) (f_X5_setKeeping_b9 a pq1 pq2 pq3 d ) (j_mu ((d.1 a) 4) 0) 0 1) (fun (s9 : Int64) => (j_let (j_for ((1 : Int32) <<< (((d.1 a) 4) &&& 31)) (f_X5_setKeeping_b35 a pq1 pq2 pq3 s9 d ) (j_mu ((1 : Int32) <<< (((d.1 a) 4) &&& 31)) 0) 0 0) (fun (s35 : Int64) => ((f_X5_set d s35 s9).bind (fun q85 => some q85))))))
set_option maxRecDepth 100000 in
set_option maxHeartbeats 4000000 in
theorem s_X5_setKeeping (g : JG) (d : JD) (a : Nat) (pq1 : Int32) (pq2 : Int32) (pq3 : Int32) (h0 : j_sh g 0 TS_W RS_W) (ha : j_sh g a TS_CL RS_CL) : JM mi_X5_setKeeping 0 0 (g, d) [.ref 41, .ref a, .int pq1, .int pq2, .int pq3] ((f_X5_setKeeping a d pq1 pq2 pq3).bind (fun r9 => some (none, (g, r9)))) := by
  refine JM_of (by decide) rfl (Nat.le_of_ble_eq_true rfl) ?_
  refine J_loc (loc' := [(0, .ref 41), (1, .ref a), (2, .int pq1), (3, .int pq2), (4, .int pq3)]) [0, 1, 2, 3, 4] rfl ?_
  obtain ⟨k, hk, hk2⟩ : ∃ k : JD → Option (Option Value × JH), (∀ r9, k r9 = some (none, (g, r9))) ∧ (fun r9 : JD => (some (none, (g, r9)) : Option (Option Value × JH))) = k := ⟨_, fun _ => rfl, rfl⟩
  rw [hk2]
  unfold f_X5_setKeeping
  refine J_lconst (pc := 0) (v := 0) dX5_setKeeping_0 (by decide) ?_
  refine J_lstore (pc := 1) (loc' := [(5, .long 0), (0, .ref 41), (1, .ref a), (2, .int pq1), (3, .int pq2), (4, .int pq3)]) dX5_setKeeping_1 (by decide) rfl ?_
  refine J_lconst (pc := 3) (v := 1) dX5_setKeeping_3 (by decide) ?_
  refine J_lstore (pc := 4) (loc' := [(7, .long 1), (5, .long 0), (0, .ref 41), (1, .ref a), (2, .int pq1), (3, .int pq2), (4, .int pq3)]) dX5_setKeeping_4 (by decide) rfl ?_
  refine J_iconst (pc := 6) (v := 0) dX5_setKeeping_6 (by decide) ?_
  refine J_istore (pc := 7) (loc' := [(9, .int 0), (7, .long 1), (5, .long 0), (0, .ref 41), (1, .ref a), (2, .int pq1), (3, .int pq2), (4, .int pq3)]) dX5_setKeeping_7 (by decide) rfl ?_
  refine J_loc (loc' := [(0, .ref 41), (1, .ref a), (2, .int pq1), (3, .int pq2), (4, .int pq3), (5, .long 0), (7, .long 1), (9, .int 0)]) [3, 4, 5, 6, 7, 2, 1, 0] rfl ?_
  refine J_forL (K := (fun x => Option.bind x k)) (b := (d.1 a) 4) (G := f_X5_setKeeping_b9 a pq1 pq2 pq3 d ) (hp := fun (s9 : Int64) => (g, d)) (lc := fun (i9 : Int32) (s9 : Int64) => [(0, .ref 41), (1, .ref a), (2, .int (pq1)), (3, .int (pq2)), (4, .int (pq3)), (5, .long 0), (7, .long s9), (9, .int i9)]) (XJ := fun (i9 : Int32) (s9 : Int64) o9 => J mi_X5_setKeeping 0 0 0 0 (g, d) 32 [(0, .ref 41), (1, .ref a), (2, .int (pq1)), (3, .int (pq2)), (4, .int (pq3)), (5, .long 0), (7, .long s9)] [] o9) (fun i9 s9 o9 Kb9 hX9 hB9 => ?_) (fun i9 s9 => ?_) _ _ 1 (Nat.le_refl _)
  · show J mi_X5_setKeeping 0 0 0 0 (g, d) 9 [(0, .ref 41), (1, .ref a), (2, .int (pq1)), (3, .int (pq2)), (4, .int (pq3)), (5, .long 0), (7, .long s9), (9, .int i9)] [] (if ((d.1 a) 4) ≤ i9 then o9 else Kb9 (f_X5_setKeeping_b9 a pq1 pq2 pq3 d i9 s9))
    refine J_iload (pc := 9) 7 dX5_setKeeping_9 rfl ?_
    refine J_aload_n (pc := 11) 1 dX5_setKeeping_11 rfl rfl ?_
    refine J_getI (pc := 12) dX5_setKeeping_12 fl_X5_41 (ha.lt 0 (by decide)) (ha.ty 0 rfl) rfl ?_
    refine J_icmp_ge (pc := 15) (tgt := 32) dX5_setKeeping_15 (by decide) (fun z9 => ?_) (fun z9 => ?_)
    · refine J_loc (loc' := [(0, .ref 41), (1, .ref a), (2, .int (pq1)), (3, .int (pq2)), (4, .int (pq3)), (5, .long 0), (7, .long s9)]) [0, 1, 2, 3, 4, 5, 6] rfl ?_
      exact hX9 z9
    · unfold f_X5_setKeeping_b9
      refine J_lload (pc := 18) 6 dX5_setKeeping_18 rfl ?_
      refine J_ldc2 (pc := 20) (v := 100) dX5_setKeeping_20 cn_X5_39 ?_
      refine J_lmul (pc := 23) dX5_setKeeping_23 ?_
      refine J_lstore (pc := 24) (loc' := [(7, .long (s9 * 100)), (0, .ref 41), (1, .ref a), (2, .int (pq1)), (3, .int (pq2)), (4, .int (pq3)), (5, .long 0), (9, .int i9)]) dX5_setKeeping_24 (by decide) rfl ?_
      refine J_iinc (pc := 26) (v := i9 + 1) (loc' := [(9, .int (i9 + 1)), (7, .long (s9 * 100)), (0, .ref 41), (1, .ref a), (2, .int (pq1)), (3, .int (pq2)), (4, .int (pq3)), (5, .long 0)]) 7 dX5_setKeeping_26 rfl rfl (by decide) rfl ?_
      refine J_goto (pc := 29) (tgt := 9) dX5_setKeeping_29 (by decide) ?_
      refine J_loc (loc' := [(0, .ref 41), (1, .ref a), (2, .int (pq1)), (3, .int (pq2)), (4, .int (pq3)), (5, .long 0), (7, .long (s9 * 100)), (9, .int (i9 + 1))]) [2, 3, 4, 5, 6, 7, 1, 0] rfl ?_
      exact hB9 z9 (s9 * 100)
  · show J mi_X5_setKeeping 0 0 0 0 (g, d) 32 [(0, .ref 41), (1, .ref a), (2, .int (pq1)), (3, .int (pq2)), (4, .int (pq3)), (5, .long 0), (7, .long s9)] [] (_)
    refine J_iconst (pc := 32) (v := 0) dX5_setKeeping_32 (by decide) ?_
    refine J_istore (pc := 33) (loc' := [(9, .int 0), (0, .ref 41), (1, .ref a), (2, .int pq1), (3, .int pq2), (4, .int pq3), (5, .long 0), (7, .long s9)]) dX5_setKeeping_33 (by decide) rfl ?_
    refine J_loc (loc' := [(0, .ref 41), (1, .ref a), (2, .int pq1), (3, .int pq2), (4, .int pq3), (5, .long 0), (7, .long s9), (9, .int 0)]) [1, 2, 3, 4, 5, 6, 7, 0] rfl ?_
    refine J_forL (K := (fun x => Option.bind x k)) (b := (1 : Int32) <<< (((d.1 a) 4) &&& 31)) (G := f_X5_setKeeping_b35 a pq1 pq2 pq3 s9 d ) (hp := fun (s35 : Int64) => (g, d)) (lc := fun (i35 : Int32) (s35 : Int64) => [(0, .ref 41), (1, .ref a), (2, .int (pq1)), (3, .int (pq2)), (4, .int (pq3)), (5, .long s35), (7, .long (s9)), (9, .int i35)]) (XJ := fun (i35 : Int32) (s35 : Int64) o9 => J mi_X5_setKeeping 0 0 0 0 (g, d) 80 [(0, .ref 41), (5, .long s35), (7, .long (s9))] [] o9) (fun i35 s35 o35 Kb35 hX35 hB35 => ?_) (fun i35 s35 => ?_) _ _ 0 (Nat.le_refl _)
    · show J mi_X5_setKeeping 0 0 0 0 (g, d) 35 [(0, .ref 41), (1, .ref a), (2, .int (pq1)), (3, .int (pq2)), (4, .int (pq3)), (5, .long s35), (7, .long (s9)), (9, .int i35)] [] (if ((1 : Int32) <<< (((d.1 a) 4) &&& 31)) ≤ i35 then o35 else Kb35 (f_X5_setKeeping_b35 a pq1 pq2 pq3 s9 d i35 s35))
      refine J_iload (pc := 35) 7 dX5_setKeeping_35 rfl ?_
      refine J_iconst (pc := 37) (v := 1) dX5_setKeeping_37 (by decide) ?_
      refine J_aload_n (pc := 38) 1 dX5_setKeeping_38 rfl rfl ?_
      refine J_getI (pc := 39) dX5_setKeeping_39 fl_X5_41 (ha.lt 0 (by decide)) (ha.ty 0 rfl) rfl ?_
      refine J_ishl (pc := 42) dX5_setKeeping_42 ?_
      refine J_icmp_ge (pc := 43) (tgt := 80) dX5_setKeeping_43 (by decide) (fun z35 => ?_) (fun z35 => ?_)
      · refine J_loc (loc' := [(0, .ref 41), (5, .long s35), (7, .long (s9))]) [0, 5, 6] rfl ?_
        exact hX35 z35
      · unfold f_X5_setKeeping_b35
        have hX5_setKeeping_j74_35 : ∀ (x5_74_35 : Int64), J mi_X5_setKeeping 0 0 0 0 (g, d) 74 [(0, .ref 41), (1, .ref a), (2, .int (pq1)), (3, .int (pq2)), (4, .int (pq3)), (5, .long x5_74_35), (7, .long (s9)), (9, .int i35)] [] (Kb35 (f_X5_setKeeping_j74_35 a pq1 pq2 pq3 s9 i35 d x5_74_35)) := by
          intro x5_74_35
          unfold f_X5_setKeeping_j74_35
          refine J_iinc (pc := 74) (v := i35 + 1) (loc' := [(9, .int (i35 + 1)), (0, .ref 41), (1, .ref a), (2, .int (pq1)), (3, .int (pq2)), (4, .int (pq3)), (5, .long x5_74_35), (7, .long (s9))]) 7 dX5_setKeeping_74 rfl rfl (by decide) rfl ?_
          refine J_goto (pc := 77) (tgt := 35) dX5_setKeeping_77 (by decide) ?_
          refine J_loc (loc' := [(0, .ref 41), (1, .ref a), (2, .int (pq1)), (3, .int (pq2)), (4, .int (pq3)), (5, .long x5_74_35), (7, .long (s9)), (9, .int (i35 + 1))]) [1, 2, 3, 4, 5, 6, 7, 0] rfl ?_
          exact hB35 z35 x5_74_35
        refine J_aload_n (pc := 46) 1 dX5_setKeeping_46 rfl rfl ?_
        refine J_iload_n (pc := 47) 3 dX5_setKeeping_47 rfl rfl ?_
        refine J_iload_n (pc := 48) 2 dX5_setKeeping_48 rfl rfl ?_
        refine J_iload (pc := 49) 7 dX5_setKeeping_49 rfl ?_
        refine JC_pt_i (J_callS (mi := mi_X5_setKeeping) (mj := mi_X5_wayWithout) (pc := 51) dX5_setKeeping_51 ml_X5_57 ok_X5_wayWithout os_X5_wayWithout ⟨Nat.le_of_ble_eq_true rfl, Nat.le_of_ble_eq_true rfl⟩ rfl (s_X5_wayWithout g d pq1 i35) rfl (Nat.le_of_ble_eq_true rfl)) ?_
        refine JC_pt_i (J_callV (mi := mi_X5_setKeeping) (mj := mi_X3_wealth) (pc := 54) dX5_setKeeping_54 ml_X5_22 ok_X3_wealth ov_X3_wealth ⟨Nat.le_of_ble_eq_true rfl, Nat.le_of_ble_eq_true rfl⟩ rfl (ha.lt 0 (by decide)) (ha.ty 0 rfl) rfl (s_X3_wealth g d a pq2 (f_X5_wayWithout (pq1) i35) ha) rfl (Nat.le_of_ble_eq_true rfl)) ?_
        refine J_iload (pc := 57) 4 dX5_setKeeping_57 rfl ?_
        refine K_icmp_lt (K := Kb35) (pc := 59) (tgt := 74) dX5_setKeeping_59 (by decide) (fun z59 => ?_) (fun z59 => ?_)
        · exact hX5_setKeeping_j74_35 s35
        · refine J_lload (pc := 62) 5 dX5_setKeeping_62 rfl ?_
          refine J_aload_n (pc := 64) 1 dX5_setKeeping_64 rfl rfl ?_
          refine J_iload_n (pc := 65) 2 dX5_setKeeping_65 rfl rfl ?_
          refine J_iload (pc := 66) 7 dX5_setKeeping_66 rfl ?_
          refine JC_pt_l (J_callS (mi := mi_X5_setKeeping) (mj := mi_X5_likelihood) (pc := 68) dX5_setKeeping_68 ml_X5_60 ok_X5_likelihood os_X5_likelihood ⟨Nat.le_of_ble_eq_true rfl, Nat.le_of_ble_eq_true rfl⟩ rfl (s_X5_likelihood g d a pq1 i35 ha) rfl (Nat.le_of_ble_eq_true rfl)) ?_
          refine J_ladd (pc := 71) dX5_setKeeping_71 ?_
          refine J_lstore (pc := 72) (loc' := [(5, .long (s35 + (f_X5_likelihood ((d).1 a) ((d).1 (a + 3)) (pq1) i35))), (0, .ref 41), (1, .ref a), (2, .int (pq1)), (3, .int (pq2)), (4, .int (pq3)), (7, .long (s9)), (9, .int i35)]) dX5_setKeeping_72 (by decide) rfl ?_
          refine J_loc (loc' := [(0, .ref 41), (1, .ref a), (2, .int (pq1)), (3, .int (pq2)), (4, .int (pq3)), (5, .long (s35 + (f_X5_likelihood ((d).1 a) ((d).1 (a + 3)) (pq1) i35))), (7, .long (s9)), (9, .int i35)]) [1, 2, 3, 4, 5, 0, 6, 7] rfl ?_
          exact hX5_setKeeping_j74_35 (s35 + (f_X5_likelihood ((d).1 a) ((d).1 (a + 3)) (pq1) i35))
    · show J mi_X5_setKeeping 0 0 0 0 (g, d) 80 [(0, .ref 41), (5, .long s35), (7, .long (s9))] [] (_)
      refine J_aload_n (pc := 80) 0 dX5_setKeeping_80 rfl rfl ?_
      refine J_lload (pc := 81) 1 dX5_setKeeping_81 rfl ?_
      refine J_lload (pc := 83) 2 dX5_setKeeping_83 rfl ?_
      refine JC_pe_v (J_callV (mi := mi_X5_setKeeping) (mj := mi_X5_set) (pc := 85) dX5_setKeeping_85 ml_X5_35 ok_X5_set ov_X5_set ⟨Nat.le_of_ble_eq_true rfl, Nat.le_of_ble_eq_true rfl⟩ rfl (h0.lt 41 (by decide)) (h0.ty 41 rfl) rfl (s_X5_set g d s35 s9 h0) rfl (Nat.le_of_ble_eq_true rfl)) (fun q85 => ?_)
      exact J_eqo (hk q85) (J_vret (pc := 88) dX5_setKeeping_88 rfl)
def f_X9_byteAt (r_2 : Nat → Int32) (pq0 : Int32) : Int32 := (if pq0 < 0 then (0) else (if 900 ≤ pq0 then (0) else (r_2 pq0.toNatClampNeg)))
set_option maxRecDepth 100000 in
set_option maxHeartbeats 4000000 in
theorem s_X9_byteAt (g : JG) (d : JD) (pq0 : Int32) (h0 : j_sh g 0 TS_W RS_W) : JM mi_X9_byteAt 0 0 (g, d) [.ref 1, .int pq0] (some (some (.int (f_X9_byteAt (d.1 2) pq0)), (g, d))) := by
  refine JM_of (by decide) rfl (Nat.le_of_ble_eq_true rfl) ?_
  refine J_loc (loc' := [(0, .ref 1), (1, .int pq0)]) [0, 1] rfl ?_
  obtain ⟨k, hk⟩ : ∃ k : Int32 → Option (Option Value × JH), ∀ r9, k r9 = some (some (.int r9), (g, d)) := ⟨_, fun _ => rfl⟩
  refine J_eqo (hk (f_X9_byteAt (d.1 2) pq0)).symm ?_
  unfold f_X9_byteAt
  refine J_iload_n (pc := 0) 1 dX9_byteAt_0 rfl rfl ?_
  refine K_if_lt (K := k) (pc := 1) (tgt := 22) dX9_byteAt_1 (by decide) (fun z1 => ?_) (fun z1 => ?_)
  · refine J_iconst (pc := 22) (v := 0) dX9_byteAt_22 (by decide) ?_
    exact J_eqo (hk 0) (J_iret (pc := 23) dX9_byteAt_23 rfl)
  · refine J_iload_n (pc := 4) 1 dX9_byteAt_4 rfl rfl ?_
    refine J_aload_n (pc := 5) 0 dX9_byteAt_5 rfl rfl ?_
    refine J_getR (pc := 6) dX9_byteAt_6 fl_X9_9 (h0.lt 1 (by decide)) (h0.ty 1 rfl) rfl (h0.rf 10 rfl) ?_
    refine J_alenB (pc := 9) (v := 900) dX9_byteAt_9 (h0.lt 2 (by decide)) (h0.ty 2 rfl) rfl ?_
    refine K_icmp_ge (K := k) (pc := 10) (tgt := 22) dX9_byteAt_10 (by decide) (fun z10 => ?_) (fun z10 => ?_)
    · refine J_iconst (pc := 22) (v := 0) dX9_byteAt_22 (by decide) ?_
      exact J_eqo (hk 0) (J_iret (pc := 23) dX9_byteAt_23 rfl)
    · refine J_aload_n (pc := 13) 0 dX9_byteAt_13 rfl rfl ?_
      refine J_getR (pc := 14) dX9_byteAt_14 fl_X9_9 (h0.lt 1 (by decide)) (h0.ty 1 rfl) rfl (h0.rf 10 rfl) ?_
      refine J_iload_n (pc := 17) 1 dX9_byteAt_17 rfl rfl ?_
      refine J_bald (pc := 18) dX9_byteAt_18 (h0.lt 2 (by decide)) (h0.ty 2 rfl) (j_inb (by decide) z1 z10) ?_
      refine J_goto (pc := 19) (tgt := 23) dX9_byteAt_19 (by decide) ?_
      exact J_eqo (hk ((d.1 2) pq0.toNatClampNeg)) (J_iret (pc := 23) dX9_byteAt_23 rfl)
def f_X9_isLetter (pq0 : Int32) : Bool := (if pq0 < 97 then (false) else (if 122 < pq0 then (false) else (true)))
set_option maxRecDepth 100000 in
set_option maxHeartbeats 4000000 in
theorem s_X9_isLetter (g : JG) (d : JD) (pq0 : Int32) : JM mi_X9_isLetter 0 0 (g, d) [.int pq0] (some (some (.int (j_b (f_X9_isLetter pq0))), (g, d))) := by
  refine JM_of (by decide) rfl (Nat.le_of_ble_eq_true rfl) ?_
  refine J_loc (loc' := [(0, .int pq0)]) [0] rfl ?_
  obtain ⟨k, hk⟩ : ∃ k : Bool → Option (Option Value × JH), ∀ r9, k r9 = some (some (.int (j_b r9)), (g, d)) := ⟨_, fun _ => rfl⟩
  refine J_eqo (hk (f_X9_isLetter pq0)).symm ?_
  unfold f_X9_isLetter
  refine J_iload_n (pc := 0) 0 dX9_isLetter_0 rfl rfl ?_
  refine J_bipush (pc := 1) (v := 97) dX9_isLetter_1 (by decide) ?_
  refine K_icmp_lt (K := k) (pc := 3) (tgt := 16) dX9_isLetter_3 (by decide) (fun z3 => ?_) (fun z3 => ?_)
  · refine J_iconst (pc := 16) (v := 0) dX9_isLetter_16 (by decide) ?_
    exact J_eqo (hk false) (J_zretB (pc := 17) dX9_isLetter_17 rfl)
  · refine J_iload_n (pc := 6) 0 dX9_isLetter_6 rfl rfl ?_
    refine J_bipush (pc := 7) (v := 122) dX9_isLetter_7 (by decide) ?_
    refine K_icmp_gt (K := k) (pc := 9) (tgt := 16) dX9_isLetter_9 (by decide) (fun z9 => ?_) (fun z9 => ?_)
    · refine J_iconst (pc := 16) (v := 0) dX9_isLetter_16 (by decide) ?_
      exact J_eqo (hk false) (J_zretB (pc := 17) dX9_isLetter_17 rfl)
    · refine J_iconst (pc := 12) (v := 1) dX9_isLetter_12 (by decide) ?_
      refine J_goto (pc := 13) (tgt := 17) dX9_isLetter_13 (by decide) ?_
      exact J_eqo (hk true) (J_zretB (pc := 17) dX9_isLetter_17 rfl)
def f_X9_scanWord_w5 (s5 : JD) : Option ((JD) ⊕ (JD)) := (if ((s5.1 1) 2) ≤ ((s5.1 1) 3) then some (.inr s5) else (if (f_X9_isLetter (f_X9_byteAt (s5.1 2) ((s5.1 1) 3))) = true then (some (.inl (j_sI (j_sL s5 1 6 ((((s5.2 1) 6) <<< ((5 : Int32).toInt64 &&& 63)) ||| ((((f_X9_byteAt (s5.1 2) ((s5.1 1) 3)) - 97) + 1).toInt64))) 1 3 (((s5.1 1) 3) + 1)))) else some (.inr s5)))
def f_X9_scanWord_j88 (d88 : JD) (y0_88 : Int32) : Option (JD) := (some (j_sI d88 1 4 y0_88))
def f_X9_scanWord (d : JD) : Option (JD) := ((j_wh (f_X9_scanWord_w5 ) j_fuel (j_sL d 1 6 0)).bind (fun (e5 : JD) => (if 8 < (((e5.1 1) 3) - ((e5.1 1) 5)) then (f_X9_scanWord_j88 e5 5) else (f_X9_scanWord_j88 e5 1))))
set_option maxRecDepth 100000 in
set_option maxHeartbeats 4000000 in
theorem s_X9_scanWord (g : JG) (d : JD) (h0 : j_sh g 0 TS_W RS_W) : JM mi_X9_scanWord 0 0 (g, d) [.ref 1] ((f_X9_scanWord d ).bind (fun r9 => some (none, (g, r9)))) := by
  refine JM_of (by decide) rfl (Nat.le_of_ble_eq_true rfl) ?_
  refine J_loc (loc' := [(0, .ref 1)]) [0] rfl ?_
  obtain ⟨k, hk, hk2⟩ : ∃ k : JD → Option (Option Value × JH), (∀ r9, k r9 = some (none, (g, r9))) ∧ (fun r9 : JD => (some (none, (g, r9)) : Option (Option Value × JH))) = k := ⟨_, fun _ => rfl, rfl⟩
  rw [hk2]
  unfold f_X9_scanWord
  have hX9_scanWord_j88 : ∀ (d88 : JD) (y0_88 : Int32), J mi_X9_scanWord 0 0 0 0 (g, d88) 88 [] [.int y0_88, .ref 1] ((f_X9_scanWord_j88 d88 y0_88).bind k) := by
    intro d88 y0_88
    unfold f_X9_scanWord_j88
    refine J_putI (pc := 88) dX9_scanWord_88 fl_X9_35 ft_9_4 (h0.lt 1 (by decide)) (h0.ty 1 rfl) rfl rfl rfl ?_
    exact J_eqo (hk (j_sI d88 1 4 y0_88)) (J_vret (pc := 91) dX9_scanWord_91 rfl)
  refine J_aload_n (pc := 0) 0 dX9_scanWord_0 rfl rfl ?_
  refine J_lconst (pc := 1) (v := 0) dX9_scanWord_1 (by decide) ?_
  refine J_putL (pc := 2) dX9_scanWord_2 fl_X9_51 ft_9_6 (h0.lt 1 (by decide)) (h0.ty 1 rfl) rfl rfl rfl ?_
  refine J_whL (F := f_X9_scanWord_w5 ) (hp := fun (s5 : JD) => (g, s5)) (lc := fun (s5 : JD) => [(0, .ref 1)]) (XJ := fun (e5 : JD) o9 => J mi_X9_scanWord 0 0 0 0 (g, e5) 68 [(0, .ref 1)] [] o9) (fun s5 k5 hB5 hX5 => ?_) (fun e5 => ?_) _ (j_sL d 1 6 0)
  · show J mi_X9_scanWord 0 0 0 0 (g, s5) 5 [(0, .ref 1)] [] ((f_X9_scanWord_w5 s5).bind k5)
    unfold f_X9_scanWord_w5
    refine J_aload_n (pc := 5) 0 dX9_scanWord_5 rfl rfl ?_
    refine J_getI (pc := 6) dX9_scanWord_6 fl_X9_22 (h0.lt 1 (by decide)) (h0.ty 1 rfl) rfl ?_
    refine J_aload_n (pc := 9) 0 dX9_scanWord_9 rfl rfl ?_
    refine J_getI (pc := 10) dX9_scanWord_10 fl_X9_19 (h0.lt 1 (by decide)) (h0.ty 1 rfl) rfl ?_
    refine K_icmp_ge (K := (fun x => Option.bind x k5)) (pc := 13) (tgt := 68) dX9_scanWord_13 (by decide) (fun z13 => ?_) (fun z13 => ?_)
    · exact hX5 s5
    · refine J_aload_n (pc := 16) 0 dX9_scanWord_16 rfl rfl ?_
      refine J_aload_n (pc := 17) 0 dX9_scanWord_17 rfl rfl ?_
      refine J_getI (pc := 18) dX9_scanWord_18 fl_X9_22 (h0.lt 1 (by decide)) (h0.ty 1 rfl) rfl ?_
      refine JC_pt_i (J_callV (mi := mi_X9_scanWord) (mj := mi_X9_byteAt) (pc := 21) dX9_scanWord_21 ml_X9_28 ok_X9_byteAt ov_X9_byteAt ⟨Nat.le_of_ble_eq_true rfl, Nat.le_of_ble_eq_true rfl⟩ rfl (h0.lt 1 (by decide)) (h0.ty 1 rfl) rfl (s_X9_byteAt g s5 ((s5.1 1) 3) h0) rfl (Nat.le_of_ble_eq_true rfl)) ?_
      refine JC_pt_i (J_callS (mi := mi_X9_scanWord) (mj := mi_X9_isLetter) (pc := 24) dX9_scanWord_24 ml_X9_38 ok_X9_isLetter os_X9_isLetter ⟨Nat.le_of_ble_eq_true rfl, Nat.le_of_ble_eq_true rfl⟩ rfl (s_X9_isLetter g s5 (f_X9_byteAt (s5.1 2) ((s5.1 1) 3))) rfl (Nat.le_of_ble_eq_true rfl)) ?_
      refine K_ifeq_b (K := (fun x => Option.bind x k5)) (pc := 27) (tgt := 68) dX9_scanWord_27 (by decide) (fun z27 => ?_) (fun z27 => ?_)
      · exact hX5 s5
      · refine J_aload_n (pc := 30) 0 dX9_scanWord_30 rfl rfl ?_
        refine J_aload_n (pc := 31) 0 dX9_scanWord_31 rfl rfl ?_
        refine J_getL (pc := 32) dX9_scanWord_32 fl_X9_51 (h0.lt 1 (by decide)) (h0.ty 1 rfl) rfl ?_
        refine J_iconst (pc := 35) (v := 5) dX9_scanWord_35 (by decide) ?_
        refine J_lshl (pc := 36) dX9_scanWord_36 ?_
        refine J_aload_n (pc := 37) 0 dX9_scanWord_37 rfl rfl ?_
        refine J_aload_n (pc := 38) 0 dX9_scanWord_38 rfl rfl ?_
        refine J_getI (pc := 39) dX9_scanWord_39 fl_X9_22 (h0.lt 1 (by decide)) (h0.ty 1 rfl) rfl ?_
        refine JC_pt_i (J_callV (mi := mi_X9_scanWord) (mj := mi_X9_byteAt) (pc := 42) dX9_scanWord_42 ml_X9_28 ok_X9_byteAt ov_X9_byteAt ⟨Nat.le_of_ble_eq_true rfl, Nat.le_of_ble_eq_true rfl⟩ rfl (h0.lt 1 (by decide)) (h0.ty 1 rfl) rfl (s_X9_byteAt g s5 ((s5.1 1) 3) h0) rfl (Nat.le_of_ble_eq_true rfl)) ?_
        refine J_bipush (pc := 45) (v := 97) dX9_scanWord_45 (by decide) ?_
        refine J_isub (pc := 47) dX9_scanWord_47 ?_
        refine J_iconst (pc := 48) (v := 1) dX9_scanWord_48 (by decide) ?_
        refine J_iadd (pc := 49) dX9_scanWord_49 ?_
        refine J_i2l (pc := 50) dX9_scanWord_50 ?_
        refine J_lor (pc := 51) dX9_scanWord_51 ?_
        refine J_putL (pc := 52) dX9_scanWord_52 fl_X9_51 ft_9_6 (h0.lt 1 (by decide)) (h0.ty 1 rfl) rfl rfl rfl ?_
        refine J_aload_n (pc := 55) 0 dX9_scanWord_55 rfl rfl ?_
        refine J_dup (pc := 56) dX9_scanWord_56 rfl ?_
        refine J_getI (pc := 57) dX9_scanWord_57 fl_X9_22 (h0.lt 1 (by decide)) (h0.ty 1 rfl) rfl ?_
        refine J_val (y := (s5.1 1) 3) rfl ?_
        refine J_iconst (pc := 60) (v := 1) dX9_scanWord_60 (by decide) ?_
        refine J_iadd (pc := 61) dX9_scanWord_61 ?_
        refine J_putI (pc := 62) dX9_scanWord_62 fl_X9_22 ft_9_3 (h0.lt 1 (by decide)) (h0.ty 1 rfl) rfl rfl rfl ?_
        refine J_goto (pc := 65) (tgt := 5) dX9_scanWord_65 (by decide) ?_
        exact hB5 (j_sI (j_sL s5 1 6 ((((s5.2 1) 6) <<< ((5 : Int32).toInt64 &&& 63)) ||| ((((f_X9_byteAt (s5.1 2) ((s5.1 1) 3)) - 97) + 1).toInt64))) 1 3 (((s5.1 1) 3) + 1))
  · show J mi_X9_scanWord 0 0 0 0 (g, e5) 68 [(0, .ref 1)] [] (_)
    refine J_aload_n (pc := 68) 0 dX9_scanWord_68 rfl rfl ?_
    refine J_aload_n (pc := 69) 0 dX9_scanWord_69 rfl rfl ?_
    refine J_getI (pc := 70) dX9_scanWord_70 fl_X9_22 (h0.lt 1 (by decide)) (h0.ty 1 rfl) rfl ?_
    refine J_aload_n (pc := 73) 0 dX9_scanWord_73 rfl rfl ?_
    refine J_getI (pc := 74) dX9_scanWord_74 fl_X9_32 (h0.lt 1 (by decide)) (h0.ty 1 rfl) rfl ?_
    refine J_isub (pc := 77) dX9_scanWord_77 ?_
    refine J_bipush (pc := 78) (v := 8) dX9_scanWord_78 (by decide) ?_
    refine K_icmp_gt (K := (fun x => Option.bind x k)) (pc := 80) (tgt := 87) dX9_scanWord_80 (by decide) (fun z80 => ?_) (fun z80 => ?_)
    · refine J_iconst (pc := 87) (v := 5) dX9_scanWord_87 (by decide) ?_
      refine J_loc (loc' := []) [] rfl ?_
      exact hX9_scanWord_j88 e5 5
    · refine J_iconst (pc := 83) (v := 1) dX9_scanWord_83 (by decide) ?_
      refine J_goto (pc := 84) (tgt := 88) dX9_scanWord_84 (by decide) ?_
      refine J_loc (loc' := []) [] rfl ?_
      exact hX9_scanWord_j88 e5 1
def f_X9_isDigit (pq0 : Int32) : Bool := (if pq0 < 48 then (false) else (if 57 < pq0 then (false) else (true)))
set_option maxRecDepth 100000 in
set_option maxHeartbeats 4000000 in
theorem s_X9_isDigit (g : JG) (d : JD) (pq0 : Int32) : JM mi_X9_isDigit 0 0 (g, d) [.int pq0] (some (some (.int (j_b (f_X9_isDigit pq0))), (g, d))) := by
  refine JM_of (by decide) rfl (Nat.le_of_ble_eq_true rfl) ?_
  refine J_loc (loc' := [(0, .int pq0)]) [0] rfl ?_
  obtain ⟨k, hk⟩ : ∃ k : Bool → Option (Option Value × JH), ∀ r9, k r9 = some (some (.int (j_b r9)), (g, d)) := ⟨_, fun _ => rfl⟩
  refine J_eqo (hk (f_X9_isDigit pq0)).symm ?_
  unfold f_X9_isDigit
  refine J_iload_n (pc := 0) 0 dX9_isDigit_0 rfl rfl ?_
  refine J_bipush (pc := 1) (v := 48) dX9_isDigit_1 (by decide) ?_
  refine K_icmp_lt (K := k) (pc := 3) (tgt := 16) dX9_isDigit_3 (by decide) (fun z3 => ?_) (fun z3 => ?_)
  · refine J_iconst (pc := 16) (v := 0) dX9_isDigit_16 (by decide) ?_
    exact J_eqo (hk false) (J_zretB (pc := 17) dX9_isDigit_17 rfl)
  · refine J_iload_n (pc := 6) 0 dX9_isDigit_6 rfl rfl ?_
    refine J_bipush (pc := 7) (v := 57) dX9_isDigit_7 (by decide) ?_
    refine K_icmp_gt (K := k) (pc := 9) (tgt := 16) dX9_isDigit_9 (by decide) (fun z9 => ?_) (fun z9 => ?_)
    · refine J_iconst (pc := 16) (v := 0) dX9_isDigit_16 (by decide) ?_
      exact J_eqo (hk false) (J_zretB (pc := 17) dX9_isDigit_17 rfl)
    · refine J_iconst (pc := 12) (v := 1) dX9_isDigit_12 (by decide) ?_
      refine J_goto (pc := 13) (tgt := 17) dX9_isDigit_13 (by decide) ?_
      exact J_eqo (hk true) (J_zretB (pc := 17) dX9_isDigit_17 rfl)
def f_X9_scanWhole_w5 (s5 : JD) : Option ((JD) ⊕ (JD)) := (if ((s5.1 1) 2) ≤ ((s5.1 1) 3) then some (.inr s5) else (if (f_X9_isDigit (f_X9_byteAt (s5.1 2) ((s5.1 1) 3))) = true then (some (.inl (j_sI (j_sI s5 1 7 ((((10 : Int32) * ((s5.1 1) 7)) + (f_X9_byteAt (s5.1 2) ((s5.1 1) 3))) - 48)) 1 3 (((s5.1 1) 3) + 1)))) else some (.inr s5)))
def f_X9_scanWhole_j85 (d85 : JD) (y0_85 : Int32) : Option (JD) := (some (j_sI d85 1 4 y0_85))
def f_X9_scanWhole (d : JD) : Option (JD) := ((j_wh (f_X9_scanWhole_w5 ) j_fuel (j_sI d 1 7 0)).bind (fun (e5 : JD) => (if 3 < (((e5.1 1) 3) - ((e5.1 1) 5)) then (f_X9_scanWhole_j85 e5 5) else (f_X9_scanWhole_j85 e5 2))))
set_option maxRecDepth 100000 in
set_option maxHeartbeats 4000000 in
theorem s_X9_scanWhole (g : JG) (d : JD) (h0 : j_sh g 0 TS_W RS_W) : JM mi_X9_scanWhole 0 0 (g, d) [.ref 1] ((f_X9_scanWhole d ).bind (fun r9 => some (none, (g, r9)))) := by
  refine JM_of (by decide) rfl (Nat.le_of_ble_eq_true rfl) ?_
  refine J_loc (loc' := [(0, .ref 1)]) [0] rfl ?_
  obtain ⟨k, hk, hk2⟩ : ∃ k : JD → Option (Option Value × JH), (∀ r9, k r9 = some (none, (g, r9))) ∧ (fun r9 : JD => (some (none, (g, r9)) : Option (Option Value × JH))) = k := ⟨_, fun _ => rfl, rfl⟩
  rw [hk2]
  unfold f_X9_scanWhole
  have hX9_scanWhole_j85 : ∀ (d85 : JD) (y0_85 : Int32), J mi_X9_scanWhole 0 0 0 0 (g, d85) 85 [] [.int y0_85, .ref 1] ((f_X9_scanWhole_j85 d85 y0_85).bind k) := by
    intro d85 y0_85
    unfold f_X9_scanWhole_j85
    refine J_putI (pc := 85) dX9_scanWhole_85 fl_X9_35 ft_9_4 (h0.lt 1 (by decide)) (h0.ty 1 rfl) rfl rfl rfl ?_
    exact J_eqo (hk (j_sI d85 1 4 y0_85)) (J_vret (pc := 88) dX9_scanWhole_88 rfl)
  refine J_aload_n (pc := 0) 0 dX9_scanWhole_0 rfl rfl ?_
  refine J_iconst (pc := 1) (v := 0) dX9_scanWhole_1 (by decide) ?_
  refine J_putI (pc := 2) dX9_scanWhole_2 fl_X9_55 ft_9_7 (h0.lt 1 (by decide)) (h0.ty 1 rfl) rfl rfl rfl ?_
  refine J_whL (F := f_X9_scanWhole_w5 ) (hp := fun (s5 : JD) => (g, s5)) (lc := fun (s5 : JD) => [(0, .ref 1)]) (XJ := fun (e5 : JD) o9 => J mi_X9_scanWhole 0 0 0 0 (g, e5) 66 [(0, .ref 1)] [] o9) (fun s5 k5 hB5 hX5 => ?_) (fun e5 => ?_) _ (j_sI d 1 7 0)
  · show J mi_X9_scanWhole 0 0 0 0 (g, s5) 5 [(0, .ref 1)] [] ((f_X9_scanWhole_w5 s5).bind k5)
    unfold f_X9_scanWhole_w5
    refine J_aload_n (pc := 5) 0 dX9_scanWhole_5 rfl rfl ?_
    refine J_getI (pc := 6) dX9_scanWhole_6 fl_X9_22 (h0.lt 1 (by decide)) (h0.ty 1 rfl) rfl ?_
    refine J_aload_n (pc := 9) 0 dX9_scanWhole_9 rfl rfl ?_
    refine J_getI (pc := 10) dX9_scanWhole_10 fl_X9_19 (h0.lt 1 (by decide)) (h0.ty 1 rfl) rfl ?_
    refine K_icmp_ge (K := (fun x => Option.bind x k5)) (pc := 13) (tgt := 66) dX9_scanWhole_13 (by decide) (fun z13 => ?_) (fun z13 => ?_)
    · exact hX5 s5
    · refine J_aload_n (pc := 16) 0 dX9_scanWhole_16 rfl rfl ?_
      refine J_aload_n (pc := 17) 0 dX9_scanWhole_17 rfl rfl ?_
      refine J_getI (pc := 18) dX9_scanWhole_18 fl_X9_22 (h0.lt 1 (by decide)) (h0.ty 1 rfl) rfl ?_
      refine JC_pt_i (J_callV (mi := mi_X9_scanWhole) (mj := mi_X9_byteAt) (pc := 21) dX9_scanWhole_21 ml_X9_28 ok_X9_byteAt ov_X9_byteAt ⟨Nat.le_of_ble_eq_true rfl, Nat.le_of_ble_eq_true rfl⟩ rfl (h0.lt 1 (by decide)) (h0.ty 1 rfl) rfl (s_X9_byteAt g s5 ((s5.1 1) 3) h0) rfl (Nat.le_of_ble_eq_true rfl)) ?_
      refine JC_pt_i (J_callS (mi := mi_X9_scanWhole) (mj := mi_X9_isDigit) (pc := 24) dX9_scanWhole_24 ml_X9_45 ok_X9_isDigit os_X9_isDigit ⟨Nat.le_of_ble_eq_true rfl, Nat.le_of_ble_eq_true rfl⟩ rfl (s_X9_isDigit g s5 (f_X9_byteAt (s5.1 2) ((s5.1 1) 3))) rfl (Nat.le_of_ble_eq_true rfl)) ?_
      refine K_ifeq_b (K := (fun x => Option.bind x k5)) (pc := 27) (tgt := 66) dX9_scanWhole_27 (by decide) (fun z27 => ?_) (fun z27 => ?_)
      · exact hX5 s5
      · refine J_aload_n (pc := 30) 0 dX9_scanWhole_30 rfl rfl ?_
        refine J_bipush (pc := 31) (v := 10) dX9_scanWhole_31 (by decide) ?_
        refine J_aload_n (pc := 33) 0 dX9_scanWhole_33 rfl rfl ?_
        refine J_getI (pc := 34) dX9_scanWhole_34 fl_X9_55 (h0.lt 1 (by decide)) (h0.ty 1 rfl) rfl ?_
        refine J_imul (pc := 37) dX9_scanWhole_37 ?_
        refine J_aload_n (pc := 38) 0 dX9_scanWhole_38 rfl rfl ?_
        refine J_aload_n (pc := 39) 0 dX9_scanWhole_39 rfl rfl ?_
        refine J_getI (pc := 40) dX9_scanWhole_40 fl_X9_22 (h0.lt 1 (by decide)) (h0.ty 1 rfl) rfl ?_
        refine JC_pt_i (J_callV (mi := mi_X9_scanWhole) (mj := mi_X9_byteAt) (pc := 43) dX9_scanWhole_43 ml_X9_28 ok_X9_byteAt ov_X9_byteAt ⟨Nat.le_of_ble_eq_true rfl, Nat.le_of_ble_eq_true rfl⟩ rfl (h0.lt 1 (by decide)) (h0.ty 1 rfl) rfl (s_X9_byteAt g s5 ((s5.1 1) 3) h0) rfl (Nat.le_of_ble_eq_true rfl)) ?_
        refine J_iadd (pc := 46) dX9_scanWhole_46 ?_
        refine J_bipush (pc := 47) (v := 48) dX9_scanWhole_47 (by decide) ?_
        refine J_isub (pc := 49) dX9_scanWhole_49 ?_
        refine J_putI (pc := 50) dX9_scanWhole_50 fl_X9_55 ft_9_7 (h0.lt 1 (by decide)) (h0.ty 1 rfl) rfl rfl rfl ?_
        refine J_aload_n (pc := 53) 0 dX9_scanWhole_53 rfl rfl ?_
        refine J_dup (pc := 54) dX9_scanWhole_54 rfl ?_
        refine J_getI (pc := 55) dX9_scanWhole_55 fl_X9_22 (h0.lt 1 (by decide)) (h0.ty 1 rfl) rfl ?_
        refine J_val (y := (s5.1 1) 3) rfl ?_
        refine J_iconst (pc := 58) (v := 1) dX9_scanWhole_58 (by decide) ?_
        refine J_iadd (pc := 59) dX9_scanWhole_59 ?_
        refine J_putI (pc := 60) dX9_scanWhole_60 fl_X9_22 ft_9_3 (h0.lt 1 (by decide)) (h0.ty 1 rfl) rfl rfl rfl ?_
        refine J_goto (pc := 63) (tgt := 5) dX9_scanWhole_63 (by decide) ?_
        exact hB5 (j_sI (j_sI s5 1 7 ((((10 : Int32) * ((s5.1 1) 7)) + (f_X9_byteAt (s5.1 2) ((s5.1 1) 3))) - 48)) 1 3 (((s5.1 1) 3) + 1))
  · show J mi_X9_scanWhole 0 0 0 0 (g, e5) 66 [(0, .ref 1)] [] (_)
    refine J_aload_n (pc := 66) 0 dX9_scanWhole_66 rfl rfl ?_
    refine J_aload_n (pc := 67) 0 dX9_scanWhole_67 rfl rfl ?_
    refine J_getI (pc := 68) dX9_scanWhole_68 fl_X9_22 (h0.lt 1 (by decide)) (h0.ty 1 rfl) rfl ?_
    refine J_aload_n (pc := 71) 0 dX9_scanWhole_71 rfl rfl ?_
    refine J_getI (pc := 72) dX9_scanWhole_72 fl_X9_32 (h0.lt 1 (by decide)) (h0.ty 1 rfl) rfl ?_
    refine J_isub (pc := 75) dX9_scanWhole_75 ?_
    refine J_iconst (pc := 76) (v := 3) dX9_scanWhole_76 (by decide) ?_
    refine K_icmp_gt (K := (fun x => Option.bind x k)) (pc := 77) (tgt := 84) dX9_scanWhole_77 (by decide) (fun z77 => ?_) (fun z77 => ?_)
    · refine J_iconst (pc := 84) (v := 5) dX9_scanWhole_84 (by decide) ?_
      refine J_loc (loc' := []) [] rfl ?_
      exact hX9_scanWhole_j85 e5 5
    · refine J_iconst (pc := 80) (v := 2) dX9_scanWhole_80 (by decide) ?_
      refine J_goto (pc := 81) (tgt := 85) dX9_scanWhole_81 (by decide) ?_
      refine J_loc (loc' := []) [] rfl ?_
      exact hX9_scanWhole_j85 e5 2
def f_X9_advance_w0 (s0 : JD) : Option ((JD) ⊕ (JD)) := (if ((s0.1 1) 2) ≤ ((s0.1 1) 3) then some (.inr s0) else (if (f_X9_byteAt (s0.1 2) ((s0.1 1) 3)) = 32 then (some (.inl (j_sI s0 1 3 (((s0.1 1) 3) + 1)))) else some (.inr s0)))
def f_X9_advance_j123 (d123 : JD) (y0_123 : Int32) : Option (JD) := (some (j_sI (j_sI d123 1 4 y0_123) 1 3 (((d123.1 1) 3) + 1)))
def f_X9_advance (d : JD) : Option (JD) := (j_wh (f_X9_advance_w0 ) j_fuel d).bind (fun (e0 : JD) => (j_let (f_X9_byteAt (e0.1 2) ((e0.1 1) 3)) (fun v1_53 => if ((e0.1 1) 3) < ((e0.1 1) 2) then (if (f_X9_isLetter v1_53) = true then ((f_X9_scanWord (j_sI e0 1 5 ((e0.1 1) 3))).bind (fun q81 => some q81)) else (if (f_X9_isDigit v1_53) = true then ((f_X9_scanWhole (j_sI e0 1 5 ((e0.1 1) 3))).bind (fun q95 => some q95)) else (if v1_53 = 59 then (f_X9_advance_j123 (j_sI e0 1 5 ((e0.1 1) 3)) 3) else (if v1_53 = 44 then (f_X9_advance_j123 (j_sI e0 1 5 ((e0.1 1) 3)) 4) else (f_X9_advance_j123 (j_sI e0 1 5 ((e0.1 1) 3)) 5))))) else (some (j_sI (j_sI e0 1 5 ((e0.1 1) 3)) 1 4 0)))))
set_option maxRecDepth 100000 in
set_option maxHeartbeats 4000000 in
theorem s_X9_advance (g : JG) (d : JD) (h0 : j_sh g 0 TS_W RS_W) : JM mi_X9_advance 0 0 (g, d) [.ref 1] ((f_X9_advance d ).bind (fun r9 => some (none, (g, r9)))) := by
  refine JM_of (by decide) rfl (Nat.le_of_ble_eq_true rfl) ?_
  refine J_loc (loc' := [(0, .ref 1)]) [0] rfl ?_
  obtain ⟨k, hk, hk2⟩ : ∃ k : JD → Option (Option Value × JH), (∀ r9, k r9 = some (none, (g, r9))) ∧ (fun r9 : JD => (some (none, (g, r9)) : Option (Option Value × JH))) = k := ⟨_, fun _ => rfl, rfl⟩
  rw [hk2]
  unfold f_X9_advance
  have hX9_advance_j123 : ∀ (d123 : JD) (y0_123 : Int32), J mi_X9_advance 0 0 0 0 (g, d123) 123 [(0, .ref 1)] [.int y0_123, .ref 1] ((f_X9_advance_j123 d123 y0_123).bind k) := by
    intro d123 y0_123
    unfold f_X9_advance_j123
    refine J_putI (pc := 123) dX9_advance_123 fl_X9_35 ft_9_4 (h0.lt 1 (by decide)) (h0.ty 1 rfl) rfl rfl rfl ?_
    refine J_aload_n (pc := 126) 0 dX9_advance_126 rfl rfl ?_
    refine J_dup (pc := 127) dX9_advance_127 rfl ?_
    refine J_getI (pc := 128) dX9_advance_128 fl_X9_22 (h0.lt 1 (by decide)) (h0.ty 1 rfl) rfl ?_
    refine J_val (y := (d123.1 1) 3) rfl ?_
    refine J_iconst (pc := 131) (v := 1) dX9_advance_131 (by decide) ?_
    refine J_iadd (pc := 132) dX9_advance_132 ?_
    refine J_putI (pc := 133) dX9_advance_133 fl_X9_22 ft_9_3 (h0.lt 1 (by decide)) (h0.ty 1 rfl) rfl rfl rfl ?_
    exact J_eqo (hk (j_sI (j_sI d123 1 4 y0_123) 1 3 (((d123.1 1) 3) + 1))) (J_vret (pc := 136) dX9_advance_136 rfl)
  refine J_whL (F := f_X9_advance_w0 ) (hp := fun (s0 : JD) => (g, s0)) (lc := fun (s0 : JD) => [(0, .ref 1)]) (XJ := fun (e0 : JD) o9 => J mi_X9_advance 0 0 0 0 (g, e0) 37 [(0, .ref 1)] [] o9) (fun s0 k0 hB0 hX0 => ?_) (fun e0 => ?_) _ d
  · show J mi_X9_advance 0 0 0 0 (g, s0) 0 [(0, .ref 1)] [] ((f_X9_advance_w0 s0).bind k0)
    unfold f_X9_advance_w0
    refine J_aload_n (pc := 0) 0 dX9_advance_0 rfl rfl ?_
    refine J_getI (pc := 1) dX9_advance_1 fl_X9_22 (h0.lt 1 (by decide)) (h0.ty 1 rfl) rfl ?_
    refine J_aload_n (pc := 4) 0 dX9_advance_4 rfl rfl ?_
    refine J_getI (pc := 5) dX9_advance_5 fl_X9_19 (h0.lt 1 (by decide)) (h0.ty 1 rfl) rfl ?_
    refine K_icmp_ge (K := (fun x => Option.bind x k0)) (pc := 8) (tgt := 37) dX9_advance_8 (by decide) (fun z8 => ?_) (fun z8 => ?_)
    · exact hX0 s0
    · refine J_aload_n (pc := 11) 0 dX9_advance_11 rfl rfl ?_
      refine J_aload_n (pc := 12) 0 dX9_advance_12 rfl rfl ?_
      refine J_getI (pc := 13) dX9_advance_13 fl_X9_22 (h0.lt 1 (by decide)) (h0.ty 1 rfl) rfl ?_
      refine JC_pt_i (J_callV (mi := mi_X9_advance) (mj := mi_X9_byteAt) (pc := 16) dX9_advance_16 ml_X9_28 ok_X9_byteAt ov_X9_byteAt ⟨Nat.le_of_ble_eq_true rfl, Nat.le_of_ble_eq_true rfl⟩ rfl (h0.lt 1 (by decide)) (h0.ty 1 rfl) rfl (s_X9_byteAt g s0 ((s0.1 1) 3) h0) rfl (Nat.le_of_ble_eq_true rfl)) ?_
      refine J_bipush (pc := 19) (v := 32) dX9_advance_19 (by decide) ?_
      refine K_icmp_ne (K := (fun x => Option.bind x k0)) (pc := 21) (tgt := 37) dX9_advance_21 (by decide) (fun z21 => ?_) (fun z21 => ?_)
      · exact hX0 s0
      · refine J_aload_n (pc := 24) 0 dX9_advance_24 rfl rfl ?_
        refine J_dup (pc := 25) dX9_advance_25 rfl ?_
        refine J_getI (pc := 26) dX9_advance_26 fl_X9_22 (h0.lt 1 (by decide)) (h0.ty 1 rfl) rfl ?_
        refine J_iconst (pc := 29) (v := 1) dX9_advance_29 (by decide) ?_
        refine J_iadd (pc := 30) dX9_advance_30 ?_
        refine J_putI (pc := 31) dX9_advance_31 fl_X9_22 ft_9_3 (h0.lt 1 (by decide)) (h0.ty 1 rfl) rfl rfl rfl ?_
        refine J_goto (pc := 34) (tgt := 0) dX9_advance_34 (by decide) ?_
        exact hB0 (j_sI s0 1 3 (((s0.1 1) 3) + 1))
  · show J mi_X9_advance 0 0 0 0 (g, e0) 37 [(0, .ref 1)] [] (_)
    refine J_aload_n (pc := 37) 0 dX9_advance_37 rfl rfl ?_
    refine J_aload_n (pc := 38) 0 dX9_advance_38 rfl rfl ?_
    refine J_getI (pc := 39) dX9_advance_39 fl_X9_22 (h0.lt 1 (by decide)) (h0.ty 1 rfl) rfl ?_
    refine J_putI (pc := 42) dX9_advance_42 fl_X9_32 ft_9_5 (h0.lt 1 (by decide)) (h0.ty 1 rfl) rfl rfl rfl ?_
    refine J_aload_n (pc := 45) 0 dX9_advance_45 rfl rfl ?_
    refine J_aload_n (pc := 46) 0 dX9_advance_46 rfl rfl ?_
    refine J_getI (pc := 47) dX9_advance_47 fl_X9_32 (h0.lt 1 (by decide)) (h0.ty 1 rfl) rfl ?_
    refine J_val (y := (e0.1 1) 3) rfl ?_
    refine JC_pt_i (J_callV (mi := mi_X9_advance) (mj := mi_X9_byteAt) (pc := 50) dX9_advance_50 ml_X9_28 ok_X9_byteAt ov_X9_byteAt ⟨Nat.le_of_ble_eq_true rfl, Nat.le_of_ble_eq_true rfl⟩ rfl (h0.lt 1 (by decide)) (h0.ty 1 rfl) rfl (s_X9_byteAt g (j_sI e0 1 5 ((e0.1 1) 3)) ((e0.1 1) 3) h0) rfl (Nat.le_of_ble_eq_true rfl)) ?_
    refine J_val (y := f_X9_byteAt (e0.1 2) ((e0.1 1) 3)) rfl ?_
    refine J_let (K := (fun x => Option.bind x k)) (fun v1_53 ev1_53 => ?_)
    refine J_val ev1_53.symm ?_
    refine J_istore_n (pc := 53) (loc' := [(1, .int v1_53), (0, .ref 1)]) dX9_advance_53 rfl (by decide) rfl ?_
    refine J_aload_n (pc := 54) 1 dX9_advance_54 rfl rfl ?_
    refine J_getI (pc := 55) dX9_advance_55 fl_X9_32 (h0.lt 1 (by decide)) (h0.ty 1 rfl) rfl ?_
    refine J_val (y := (e0.1 1) 3) rfl ?_
    refine J_aload_n (pc := 58) 1 dX9_advance_58 rfl rfl ?_
    refine J_getI (pc := 59) dX9_advance_59 fl_X9_19 (h0.lt 1 (by decide)) (h0.ty 1 rfl) rfl ?_
    refine J_val (y := (e0.1 1) 2) rfl ?_
    refine K_icmp_lt (K := (fun x => Option.bind x k)) (pc := 62) (tgt := 73) dX9_advance_62 (by decide) (fun z62 => ?_) (fun z62 => ?_)
    · refine J_iload_n (pc := 73) 0 dX9_advance_73 rfl rfl ?_
      refine JC_pt_i (J_callS (mi := mi_X9_advance) (mj := mi_X9_isLetter) (pc := 74) dX9_advance_74 ml_X9_38 ok_X9_isLetter os_X9_isLetter ⟨Nat.le_of_ble_eq_true rfl, Nat.le_of_ble_eq_true rfl⟩ rfl (s_X9_isLetter g (j_sI e0 1 5 ((e0.1 1) 3)) v1_53) rfl (Nat.le_of_ble_eq_true rfl)) ?_
      refine K_ifeq_b (K := (fun x => Option.bind x k)) (pc := 77) (tgt := 87) dX9_advance_77 (by decide) (fun z77 => ?_) (fun z77 => ?_)
      · refine J_iload_n (pc := 87) 0 dX9_advance_87 rfl rfl ?_
        refine JC_pt_i (J_callS (mi := mi_X9_advance) (mj := mi_X9_isDigit) (pc := 88) dX9_advance_88 ml_X9_45 ok_X9_isDigit os_X9_isDigit ⟨Nat.le_of_ble_eq_true rfl, Nat.le_of_ble_eq_true rfl⟩ rfl (s_X9_isDigit g (j_sI e0 1 5 ((e0.1 1) 3)) v1_53) rfl (Nat.le_of_ble_eq_true rfl)) ?_
        refine K_ifeq_b (K := (fun x => Option.bind x k)) (pc := 91) (tgt := 101) dX9_advance_91 (by decide) (fun z91 => ?_) (fun z91 => ?_)
        · refine J_aload_n (pc := 101) 1 dX9_advance_101 rfl rfl ?_
          refine J_iload_n (pc := 102) 0 dX9_advance_102 rfl rfl ?_
          refine J_bipush (pc := 103) (v := 59) dX9_advance_103 (by decide) ?_
          refine K_icmp_ne (K := (fun x => Option.bind x k)) (pc := 105) (tgt := 112) dX9_advance_105 (by decide) (fun z105 => ?_) (fun z105 => ?_)
          · refine J_iload_n (pc := 112) 0 dX9_advance_112 rfl rfl ?_
            refine J_bipush (pc := 113) (v := 44) dX9_advance_113 (by decide) ?_
            refine K_icmp_ne (K := (fun x => Option.bind x k)) (pc := 115) (tgt := 122) dX9_advance_115 (by decide) (fun z115 => ?_) (fun z115 => ?_)
            · refine J_iconst (pc := 122) (v := 5) dX9_advance_122 (by decide) ?_
              refine J_loc (loc' := [(0, .ref 1)]) [1] rfl ?_
              exact hX9_advance_j123 (j_sI e0 1 5 ((e0.1 1) 3)) 5
            · refine J_iconst (pc := 118) (v := 4) dX9_advance_118 (by decide) ?_
              refine J_goto (pc := 119) (tgt := 123) dX9_advance_119 (by decide) ?_
              refine J_loc (loc' := [(0, .ref 1)]) [1] rfl ?_
              exact hX9_advance_j123 (j_sI e0 1 5 ((e0.1 1) 3)) 4
          · refine J_iconst (pc := 108) (v := 3) dX9_advance_108 (by decide) ?_
            refine J_goto (pc := 109) (tgt := 123) dX9_advance_109 (by decide) ?_
            refine J_loc (loc' := [(0, .ref 1)]) [1] rfl ?_
            exact hX9_advance_j123 (j_sI e0 1 5 ((e0.1 1) 3)) 3
        · refine J_aload_n (pc := 94) 1 dX9_advance_94 rfl rfl ?_
          refine JC_pe_v (J_callV (mi := mi_X9_advance) (mj := mi_X9_scanWhole) (pc := 95) dX9_advance_95 ml_X9_48 ok_X9_scanWhole ov_X9_scanWhole ⟨Nat.le_of_ble_eq_true rfl, Nat.le_of_ble_eq_true rfl⟩ rfl (h0.lt 1 (by decide)) (h0.ty 1 rfl) rfl (s_X9_scanWhole g (j_sI e0 1 5 ((e0.1 1) 3)) h0) rfl (Nat.le_of_ble_eq_true rfl)) (fun q95 => ?_)
          refine J_goto (pc := 98) (tgt := 136) dX9_advance_98 (by decide) ?_
          exact J_eqo (hk q95) (J_vret (pc := 136) dX9_advance_136 rfl)
      · refine J_aload_n (pc := 80) 1 dX9_advance_80 rfl rfl ?_
        refine JC_pe_v (J_callV (mi := mi_X9_advance) (mj := mi_X9_scanWord) (pc := 81) dX9_advance_81 ml_X9_42 ok_X9_scanWord ov_X9_scanWord ⟨Nat.le_of_ble_eq_true rfl, Nat.le_of_ble_eq_true rfl⟩ rfl (h0.lt 1 (by decide)) (h0.ty 1 rfl) rfl (s_X9_scanWord g (j_sI e0 1 5 ((e0.1 1) 3)) h0) rfl (Nat.le_of_ble_eq_true rfl)) (fun q81 => ?_)
        refine J_goto (pc := 84) (tgt := 136) dX9_advance_84 (by decide) ?_
        exact J_eqo (hk q81) (J_vret (pc := 136) dX9_advance_136 rfl)
    · refine J_aload_n (pc := 65) 1 dX9_advance_65 rfl rfl ?_
      refine J_iconst (pc := 66) (v := 0) dX9_advance_66 (by decide) ?_
      refine J_putI (pc := 67) dX9_advance_67 fl_X9_35 ft_9_4 (h0.lt 1 (by decide)) (h0.ty 1 rfl) rfl rfl rfl ?_
      refine J_goto (pc := 70) (tgt := 136) dX9_advance_70 (by decide) ?_
      exact J_eqo (hk (j_sI (j_sI e0 1 5 ((e0.1 1) 3)) 1 4 0)) (J_vret (pc := 136) dX9_advance_136 rfl)
def f_X9_startReading (d : JD) (pq0 : Int32) : Option (JD) := ((f_X9_advance (j_sI (j_sI d 1 2 pq0) 1 3 0)).bind (fun q11 => some q11))
set_option maxRecDepth 100000 in
set_option maxHeartbeats 4000000 in
theorem s_X9_startReading (g : JG) (d : JD) (pq0 : Int32) (h0 : j_sh g 0 TS_W RS_W) : JM mi_X9_startReading 0 0 (g, d) [.ref 1, .int pq0] ((f_X9_startReading d pq0).bind (fun r9 => some (none, (g, r9)))) := by
  refine JM_of (by decide) rfl (Nat.le_of_ble_eq_true rfl) ?_
  refine J_loc (loc' := [(0, .ref 1), (1, .int pq0)]) [0, 1] rfl ?_
  obtain ⟨k, hk, hk2⟩ : ∃ k : JD → Option (Option Value × JH), (∀ r9, k r9 = some (none, (g, r9))) ∧ (fun r9 : JD => (some (none, (g, r9)) : Option (Option Value × JH))) = k := ⟨_, fun _ => rfl, rfl⟩
  rw [hk2]
  unfold f_X9_startReading
  refine J_aload_n (pc := 0) 0 dX9_startReading_0 rfl rfl ?_
  refine J_iload_n (pc := 1) 1 dX9_startReading_1 rfl rfl ?_
  refine J_putI (pc := 2) dX9_startReading_2 fl_X9_19 ft_9_2 (h0.lt 1 (by decide)) (h0.ty 1 rfl) rfl rfl rfl ?_
  refine J_aload_n (pc := 5) 0 dX9_startReading_5 rfl rfl ?_
  refine J_iconst (pc := 6) (v := 0) dX9_startReading_6 (by decide) ?_
  refine J_putI (pc := 7) dX9_startReading_7 fl_X9_22 ft_9_3 (h0.lt 1 (by decide)) (h0.ty 1 rfl) rfl rfl rfl ?_
  refine J_aload_n (pc := 10) 0 dX9_startReading_10 rfl rfl ?_
  refine JC_pe_v (J_callV (mi := mi_X9_startReading) (mj := mi_X9_advance) (pc := 11) dX9_startReading_11 ml_X9_25 ok_X9_advance ov_X9_advance ⟨Nat.le_of_ble_eq_true rfl, Nat.le_of_ble_eq_true rfl⟩ rfl (h0.lt 1 (by decide)) (h0.ty 1 rfl) rfl (s_X9_advance g (j_sI (j_sI d 1 2 pq0) 1 3 0) h0) rfl (Nat.le_of_ble_eq_true rfl)) (fun q11 => ?_)
  exact J_eqo (hk q11) (J_vret (pc := 14) dX9_startReading_14 rfl)
def f_X9_spells_w28 (r_1 : Nat → Int32) (r_2 : Nat → Int32) (c1_28 : Nat) (s28 : Int32) : Option ((Int32) ⊕ (Bool ⊕ (Unit))) := (if (f_J0_length_8abf5 (c1_28)) ≤ s28 then some (.inr (.inr ())) else ((f_J0_charAt_5068e (c1_28) s28).bind (fun q48_28 => if (f_X9_byteAt r_2 ((r_1 5) + s28)) = q48_28 then (some (.inl (s28 + 1))) else (some (Sum.inr (Sum.inl false))))))
def f_X9_spells (r_1 : Nat → Int32) (r_2 : Nat → Int32) (pq0 : Nat) : Option (Bool) := (if (r_1 4) = 1 then (if ((r_1 3) - (r_1 5)) = (f_J0_length_8abf5 pq0) then ((j_wh (f_X9_spells_w28 r_1 r_2 pq0 ) j_fuel 0).bind (Sum.elim (fun r9 => some r9) (fun (e28 : Unit) => (some true)))) else (some false)) else (some false))
set_option maxRecDepth 100000 in
set_option maxHeartbeats 4000000 in
theorem s_X9_spells (g : JG) (d : JD) (pq0 : Nat) (h0 : j_sh g 0 TS_W RS_W) (hstr_pq0 : pq0 < 38) : JM mi_X9_spells 0 0 (g, d) [.ref 1, .ref (1000000 + pq0)] ((f_X9_spells (d.1 1) (d.1 2) pq0).bind (fun r9 => some (some (.int (j_b r9)), (g, d)))) := by
  refine JM_of (by decide) rfl (Nat.le_of_ble_eq_true rfl) ?_
  refine J_loc (loc' := [(0, .ref 1), (1, .ref (1000000 + pq0))]) [0, 1] rfl ?_
  obtain ⟨k, hk, hk2⟩ : ∃ k : Bool → Option (Option Value × JH), (∀ r9, k r9 = some (some (.int (j_b r9)), (g, d))) ∧ (fun r9 : Bool => (some (some (.int (j_b r9)), (g, d)) : Option (Option Value × JH))) = k := ⟨_, fun _ => rfl, rfl⟩
  rw [hk2]
  unfold f_X9_spells
  refine J_aload_n (pc := 0) 0 dX9_spells_0 rfl rfl ?_
  refine J_getI (pc := 1) dX9_spells_1 fl_X9_35 (h0.lt 1 (by decide)) (h0.ty 1 rfl) rfl ?_
  refine J_iconst (pc := 4) (v := 1) dX9_spells_4 (by decide) ?_
  refine K_icmp_ne (K := (fun x => Option.bind x k)) (pc := 5) (tgt := 24) dX9_spells_5 (by decide) (fun z5 => ?_) (fun z5 => ?_)
  · refine J_iconst (pc := 24) (v := 0) dX9_spells_24 (by decide) ?_
    exact J_eqo (hk false) (J_zretB (pc := 25) dX9_spells_25 rfl)
  · refine J_aload_n (pc := 8) 0 dX9_spells_8 rfl rfl ?_
    refine J_getI (pc := 9) dX9_spells_9 fl_X9_22 (h0.lt 1 (by decide)) (h0.ty 1 rfl) rfl ?_
    refine J_aload_n (pc := 12) 0 dX9_spells_12 rfl rfl ?_
    refine J_getI (pc := 13) dX9_spells_13 fl_X9_32 (h0.lt 1 (by decide)) (h0.ty 1 rfl) rfl ?_
    refine J_isub (pc := 16) dX9_spells_16 ?_
    refine J_aload_n (pc := 17) 1 dX9_spells_17 rfl rfl ?_
    refine JC_pt_i (J_callStr (mi := mi_X9_spells) (mj := mi_J0_length_8abf5) (pc := 18) dX9_spells_18 ml_X9_58 ok_J0_length_8abf5 ov_J0_length_8abf5 ⟨Nat.le_of_ble_eq_true rfl, Nat.le_of_ble_eq_true rfl⟩ rfl (s_J0_length_8abf5 g d pq0 hstr_pq0) rfl (Nat.le_of_ble_eq_true rfl) hstr_pq0 rfl) ?_
    refine K_icmp_eq (K := (fun x => Option.bind x k)) (pc := 21) (tgt := 26) dX9_spells_21 (by decide) (fun z21 => ?_) (fun z21 => ?_)
    · refine J_iconst (pc := 26) (v := 0) dX9_spells_26 (by decide) ?_
      refine J_istore_n (pc := 27) (loc' := [(2, .int 0), (0, .ref 1), (1, .ref (1000000 + pq0))]) dX9_spells_27 rfl (by decide) rfl ?_
      refine J_loc (loc' := [(0, .ref 1), (1, .ref (1000000 + pq0)), (2, .int 0)]) [1, 2, 0] rfl ?_
      refine J_whR (F := f_X9_spells_w28 (d.1 1) (d.1 2) pq0 ) (fr := fun r9 => some r9) (k := k) (hp := fun (s28 : Int32) => (g, d)) (lc := fun (s28 : Int32) => [(0, .ref 1), (1, .ref (1000000 + pq0)), (2, .int s28)]) (XJ := fun (e28 : Unit) o9 => J mi_X9_spells 0 0 0 0 (g, d) 62 [] [] o9) (RJ := fun r9 o9 => o9 = some (some (.int (j_b r9)), (g, d))) (fun s28 k28 hB28 hR28 hX28 => ?_) (fun e28 => ?_) (fun r9 => hk r9) _ 0
      · show J mi_X9_spells 0 0 0 0 (g, d) 28 [(0, .ref 1), (1, .ref (1000000 + pq0)), (2, .int s28)] [] ((f_X9_spells_w28 (d.1 1) (d.1 2) pq0 s28).bind k28)
        unfold f_X9_spells_w28
        refine J_iload_n (pc := 28) 2 dX9_spells_28 rfl rfl ?_
        refine J_aload_n (pc := 29) 1 dX9_spells_29 rfl rfl ?_
        refine JC_pt_i (J_callStr (mi := mi_X9_spells) (mj := mi_J0_length_8abf5) (pc := 30) dX9_spells_30 ml_X9_58 ok_J0_length_8abf5 ov_J0_length_8abf5 ⟨Nat.le_of_ble_eq_true rfl, Nat.le_of_ble_eq_true rfl⟩ rfl (s_J0_length_8abf5 g d pq0 hstr_pq0) rfl (Nat.le_of_ble_eq_true rfl) hstr_pq0 rfl) ?_
        refine K_icmp_ge (K := (fun x => Option.bind x k28)) (pc := 33) (tgt := 62) dX9_spells_33 (by decide) (fun z33 => ?_) (fun z33 => ?_)
        · refine J_loc (loc' := []) [] rfl ?_
          exact hX28 ()
        · refine J_aload_n (pc := 36) 0 dX9_spells_36 rfl rfl ?_
          refine J_aload_n (pc := 37) 0 dX9_spells_37 rfl rfl ?_
          refine J_getI (pc := 38) dX9_spells_38 fl_X9_32 (h0.lt 1 (by decide)) (h0.ty 1 rfl) rfl ?_
          refine J_iload_n (pc := 41) 2 dX9_spells_41 rfl rfl ?_
          refine J_iadd (pc := 42) dX9_spells_42 ?_
          refine JC_pt_i (J_callV (mi := mi_X9_spells) (mj := mi_X9_byteAt) (pc := 43) dX9_spells_43 ml_X9_28 ok_X9_byteAt ov_X9_byteAt ⟨Nat.le_of_ble_eq_true rfl, Nat.le_of_ble_eq_true rfl⟩ rfl (h0.lt 1 (by decide)) (h0.ty 1 rfl) rfl (s_X9_byteAt g d (((d.1 1) 5) + s28) h0) rfl (Nat.le_of_ble_eq_true rfl)) ?_
          refine J_aload_n (pc := 46) 1 dX9_spells_46 rfl rfl ?_
          refine J_iload_n (pc := 47) 2 dX9_spells_47 rfl rfl ?_
          refine JC_pp_i (J_callStr (mi := mi_X9_spells) (mj := mi_J0_charAt_5068e) (pc := 48) dX9_spells_48 ml_X9_63 ok_J0_charAt_5068e ov_J0_charAt_5068e ⟨Nat.le_of_ble_eq_true rfl, Nat.le_of_ble_eq_true rfl⟩ rfl (s_J0_charAt_5068e g d pq0 s28 hstr_pq0) rfl (Nat.le_of_ble_eq_true rfl) hstr_pq0 rfl) (fun q48_28 => ?_)
          refine K_icmp_eq (K := (fun x => Option.bind x k28)) (pc := 51) (tgt := 56) dX9_spells_51 (by decide) (fun z51 => ?_) (fun z51 => ?_)
          · refine J_iinc (pc := 56) (v := s28 + 1) (loc' := [(2, .int (s28 + 1)), (0, .ref 1), (1, .ref (1000000 + pq0))]) 2 dX9_spells_56 rfl rfl (by decide) rfl ?_
            refine J_goto (pc := 59) (tgt := 28) dX9_spells_59 (by decide) ?_
            refine J_loc (loc' := [(0, .ref 1), (1, .ref (1000000 + pq0)), (2, .int (s28 + 1))]) [1, 2, 0] rfl ?_
            exact hB28 (s28 + 1)
          · refine J_iconst (pc := 54) (v := 0) dX9_spells_54 (by decide) ?_
            exact J_eqo (hR28 false) (J_zretB (pc := 55) dX9_spells_55 rfl)
      · show J mi_X9_spells 0 0 0 0 (g, d) 62 [] [] (_)
        refine J_iconst (pc := 62) (v := 1) dX9_spells_62 (by decide) ?_
        exact J_eqo (hk true) (J_zretB (pc := 63) dX9_spells_63 rfl)
    · refine J_iconst (pc := 24) (v := 0) dX9_spells_24 (by decide) ?_
      exact J_eqo (hk false) (J_zretB (pc := 25) dX9_spells_25 rfl)
def f_X6_lineOf (r_1 : Nat → Int32) (r_2 : Nat → Int32) : Option (Int32) := ((f_X9_spells r_1 r_2 0).bind (fun q6 => if q6 = true then (some 0) else ((f_X9_spells r_1 r_2 1).bind (fun q20 => if q20 = true then (some 1) else ((f_X9_spells r_1 r_2 2).bind (fun q34 => if q34 = true then (some 2) else ((f_X9_spells r_1 r_2 3).bind (fun q48 => if q48 = true then (some 3) else ((f_X9_spells r_1 r_2 4).bind (fun q62 => if q62 = true then (some 4) else ((f_X9_spells r_1 r_2 5).bind (fun q76 => if q76 = true then (some 5) else ((f_X9_spells r_1 r_2 6).bind (fun q90 => if q90 = true then (some 6) else ((f_X9_spells r_1 r_2 7).bind (fun q105 => if q105 = true then (some 7) else ((f_X9_spells r_1 r_2 8).bind (fun q120 => if q120 = true then (some 8) else (some (-1))))))))))))))))))))
set_option maxRecDepth 100000 in
set_option maxHeartbeats 4000000 in
theorem s_X6_lineOf (g : JG) (d : JD) (h0 : j_sh g 0 TS_W RS_W) : JM mi_X6_lineOf 0 0 (g, d) [.ref 3] ((f_X6_lineOf (d.1 1) (d.1 2) ).bind (fun r9 => some (some (.int r9), (g, d)))) := by
  refine JM_of (by decide) rfl (Nat.le_of_ble_eq_true rfl) ?_
  refine J_loc (loc' := [(0, .ref 3)]) [0] rfl ?_
  obtain ⟨k, hk, hk2⟩ : ∃ k : Int32 → Option (Option Value × JH), (∀ r9, k r9 = some (some (.int r9), (g, d))) ∧ (fun r9 : Int32 => (some (some (.int r9), (g, d)) : Option (Option Value × JH))) = k := ⟨_, fun _ => rfl, rfl⟩
  rw [hk2]
  unfold f_X6_lineOf
  refine J_aload_n (pc := 0) 0 dX6_lineOf_0 rfl rfl ?_
  refine J_getR (pc := 1) dX6_lineOf_1 fl_X6_29 (h0.lt 3 (by decide)) (h0.ty 3 rfl) rfl (h0.rf 11 rfl) ?_
  refine J_ldcS (pc := 4) (k := 0) dX6_lineOf_4 (by decide) ⟨rfl, rfl⟩ ?_
  refine JC_pp_b (J_callV (mi := mi_X6_lineOf) (mj := mi_X9_spells) (pc := 6) dX6_lineOf_6 ml_X6_106 ok_X9_spells ov_X9_spells ⟨Nat.le_of_ble_eq_true rfl, Nat.le_of_ble_eq_true rfl⟩ rfl (h0.lt 1 (by decide)) (h0.ty 1 rfl) rfl (s_X9_spells g d 0 h0 (by decide)) rfl (Nat.le_of_ble_eq_true rfl)) (fun q6 => ?_)
  refine K_ifeq_b (K := (fun x => Option.bind x k)) (pc := 9) (tgt := 14) dX6_lineOf_9 (by decide) (fun z9 => ?_) (fun z9 => ?_)
  · refine J_aload_n (pc := 14) 0 dX6_lineOf_14 rfl rfl ?_
    refine J_getR (pc := 15) dX6_lineOf_15 fl_X6_29 (h0.lt 3 (by decide)) (h0.ty 3 rfl) rfl (h0.rf 11 rfl) ?_
    refine J_ldcS (pc := 18) (k := 1) dX6_lineOf_18 (by decide) ⟨rfl, rfl⟩ ?_
    refine JC_pp_b (J_callV (mi := mi_X6_lineOf) (mj := mi_X9_spells) (pc := 20) dX6_lineOf_20 ml_X6_106 ok_X9_spells ov_X9_spells ⟨Nat.le_of_ble_eq_true rfl, Nat.le_of_ble_eq_true rfl⟩ rfl (h0.lt 1 (by decide)) (h0.ty 1 rfl) rfl (s_X9_spells g d 1 h0 (by decide)) rfl (Nat.le_of_ble_eq_true rfl)) (fun q20 => ?_)
    refine K_ifeq_b (K := (fun x => Option.bind x k)) (pc := 23) (tgt := 28) dX6_lineOf_23 (by decide) (fun z23 => ?_) (fun z23 => ?_)
    · refine J_aload_n (pc := 28) 0 dX6_lineOf_28 rfl rfl ?_
      refine J_getR (pc := 29) dX6_lineOf_29 fl_X6_29 (h0.lt 3 (by decide)) (h0.ty 3 rfl) rfl (h0.rf 11 rfl) ?_
      refine J_ldcS (pc := 32) (k := 2) dX6_lineOf_32 (by decide) ⟨rfl, rfl⟩ ?_
      refine JC_pp_b (J_callV (mi := mi_X6_lineOf) (mj := mi_X9_spells) (pc := 34) dX6_lineOf_34 ml_X6_106 ok_X9_spells ov_X9_spells ⟨Nat.le_of_ble_eq_true rfl, Nat.le_of_ble_eq_true rfl⟩ rfl (h0.lt 1 (by decide)) (h0.ty 1 rfl) rfl (s_X9_spells g d 2 h0 (by decide)) rfl (Nat.le_of_ble_eq_true rfl)) (fun q34 => ?_)
      refine K_ifeq_b (K := (fun x => Option.bind x k)) (pc := 37) (tgt := 42) dX6_lineOf_37 (by decide) (fun z37 => ?_) (fun z37 => ?_)
      · refine J_aload_n (pc := 42) 0 dX6_lineOf_42 rfl rfl ?_
        refine J_getR (pc := 43) dX6_lineOf_43 fl_X6_29 (h0.lt 3 (by decide)) (h0.ty 3 rfl) rfl (h0.rf 11 rfl) ?_
        refine J_ldcS (pc := 46) (k := 3) dX6_lineOf_46 (by decide) ⟨rfl, rfl⟩ ?_
        refine JC_pp_b (J_callV (mi := mi_X6_lineOf) (mj := mi_X9_spells) (pc := 48) dX6_lineOf_48 ml_X6_106 ok_X9_spells ov_X9_spells ⟨Nat.le_of_ble_eq_true rfl, Nat.le_of_ble_eq_true rfl⟩ rfl (h0.lt 1 (by decide)) (h0.ty 1 rfl) rfl (s_X9_spells g d 3 h0 (by decide)) rfl (Nat.le_of_ble_eq_true rfl)) (fun q48 => ?_)
        refine K_ifeq_b (K := (fun x => Option.bind x k)) (pc := 51) (tgt := 56) dX6_lineOf_51 (by decide) (fun z51 => ?_) (fun z51 => ?_)
        · refine J_aload_n (pc := 56) 0 dX6_lineOf_56 rfl rfl ?_
          refine J_getR (pc := 57) dX6_lineOf_57 fl_X6_29 (h0.lt 3 (by decide)) (h0.ty 3 rfl) rfl (h0.rf 11 rfl) ?_
          refine J_ldcS (pc := 60) (k := 4) dX6_lineOf_60 (by decide) ⟨rfl, rfl⟩ ?_
          refine JC_pp_b (J_callV (mi := mi_X6_lineOf) (mj := mi_X9_spells) (pc := 62) dX6_lineOf_62 ml_X6_106 ok_X9_spells ov_X9_spells ⟨Nat.le_of_ble_eq_true rfl, Nat.le_of_ble_eq_true rfl⟩ rfl (h0.lt 1 (by decide)) (h0.ty 1 rfl) rfl (s_X9_spells g d 4 h0 (by decide)) rfl (Nat.le_of_ble_eq_true rfl)) (fun q62 => ?_)
          refine K_ifeq_b (K := (fun x => Option.bind x k)) (pc := 65) (tgt := 70) dX6_lineOf_65 (by decide) (fun z65 => ?_) (fun z65 => ?_)
          · refine J_aload_n (pc := 70) 0 dX6_lineOf_70 rfl rfl ?_
            refine J_getR (pc := 71) dX6_lineOf_71 fl_X6_29 (h0.lt 3 (by decide)) (h0.ty 3 rfl) rfl (h0.rf 11 rfl) ?_
            refine J_ldcS (pc := 74) (k := 5) dX6_lineOf_74 (by decide) ⟨rfl, rfl⟩ ?_
            refine JC_pp_b (J_callV (mi := mi_X6_lineOf) (mj := mi_X9_spells) (pc := 76) dX6_lineOf_76 ml_X6_106 ok_X9_spells ov_X9_spells ⟨Nat.le_of_ble_eq_true rfl, Nat.le_of_ble_eq_true rfl⟩ rfl (h0.lt 1 (by decide)) (h0.ty 1 rfl) rfl (s_X9_spells g d 5 h0 (by decide)) rfl (Nat.le_of_ble_eq_true rfl)) (fun q76 => ?_)
            refine K_ifeq_b (K := (fun x => Option.bind x k)) (pc := 79) (tgt := 84) dX6_lineOf_79 (by decide) (fun z79 => ?_) (fun z79 => ?_)
            · refine J_aload_n (pc := 84) 0 dX6_lineOf_84 rfl rfl ?_
              refine J_getR (pc := 85) dX6_lineOf_85 fl_X6_29 (h0.lt 3 (by decide)) (h0.ty 3 rfl) rfl (h0.rf 11 rfl) ?_
              refine J_ldcS (pc := 88) (k := 6) dX6_lineOf_88 (by decide) ⟨rfl, rfl⟩ ?_
              refine JC_pp_b (J_callV (mi := mi_X6_lineOf) (mj := mi_X9_spells) (pc := 90) dX6_lineOf_90 ml_X6_106 ok_X9_spells ov_X9_spells ⟨Nat.le_of_ble_eq_true rfl, Nat.le_of_ble_eq_true rfl⟩ rfl (h0.lt 1 (by decide)) (h0.ty 1 rfl) rfl (s_X9_spells g d 6 h0 (by decide)) rfl (Nat.le_of_ble_eq_true rfl)) (fun q90 => ?_)
              refine K_ifeq_b (K := (fun x => Option.bind x k)) (pc := 93) (tgt := 99) dX6_lineOf_93 (by decide) (fun z93 => ?_) (fun z93 => ?_)
              · refine J_aload_n (pc := 99) 0 dX6_lineOf_99 rfl rfl ?_
                refine J_getR (pc := 100) dX6_lineOf_100 fl_X6_29 (h0.lt 3 (by decide)) (h0.ty 3 rfl) rfl (h0.rf 11 rfl) ?_
                refine J_ldcS (pc := 103) (k := 7) dX6_lineOf_103 (by decide) ⟨rfl, rfl⟩ ?_
                refine JC_pp_b (J_callV (mi := mi_X6_lineOf) (mj := mi_X9_spells) (pc := 105) dX6_lineOf_105 ml_X6_106 ok_X9_spells ov_X9_spells ⟨Nat.le_of_ble_eq_true rfl, Nat.le_of_ble_eq_true rfl⟩ rfl (h0.lt 1 (by decide)) (h0.ty 1 rfl) rfl (s_X9_spells g d 7 h0 (by decide)) rfl (Nat.le_of_ble_eq_true rfl)) (fun q105 => ?_)
                refine K_ifeq_b (K := (fun x => Option.bind x k)) (pc := 108) (tgt := 114) dX6_lineOf_108 (by decide) (fun z108 => ?_) (fun z108 => ?_)
                · refine J_aload_n (pc := 114) 0 dX6_lineOf_114 rfl rfl ?_
                  refine J_getR (pc := 115) dX6_lineOf_115 fl_X6_29 (h0.lt 3 (by decide)) (h0.ty 3 rfl) rfl (h0.rf 11 rfl) ?_
                  refine J_ldcS (pc := 118) (k := 8) dX6_lineOf_118 (by decide) ⟨rfl, rfl⟩ ?_
                  refine JC_pp_b (J_callV (mi := mi_X6_lineOf) (mj := mi_X9_spells) (pc := 120) dX6_lineOf_120 ml_X6_106 ok_X9_spells ov_X9_spells ⟨Nat.le_of_ble_eq_true rfl, Nat.le_of_ble_eq_true rfl⟩ rfl (h0.lt 1 (by decide)) (h0.ty 1 rfl) rfl (s_X9_spells g d 8 h0 (by decide)) rfl (Nat.le_of_ble_eq_true rfl)) (fun q120 => ?_)
                  refine K_ifeq_b (K := (fun x => Option.bind x k)) (pc := 123) (tgt := 131) dX6_lineOf_123 (by decide) (fun z123 => ?_) (fun z123 => ?_)
                  · refine J_iconst (pc := 131) (v := (-1)) dX6_lineOf_131 (by decide) ?_
                    exact J_eqo (hk (-1)) (J_iret (pc := 132) dX6_lineOf_132 rfl)
                  · refine J_bipush (pc := 126) (v := 8) dX6_lineOf_126 (by decide) ?_
                    refine J_goto (pc := 128) (tgt := 132) dX6_lineOf_128 (by decide) ?_
                    exact J_eqo (hk 8) (J_iret (pc := 132) dX6_lineOf_132 rfl)
                · refine J_bipush (pc := 111) (v := 7) dX6_lineOf_111 (by decide) ?_
                  exact J_eqo (hk 7) (J_iret (pc := 113) dX6_lineOf_113 rfl)
              · refine J_bipush (pc := 96) (v := 6) dX6_lineOf_96 (by decide) ?_
                exact J_eqo (hk 6) (J_iret (pc := 98) dX6_lineOf_98 rfl)
            · refine J_iconst (pc := 82) (v := 5) dX6_lineOf_82 (by decide) ?_
              exact J_eqo (hk 5) (J_iret (pc := 83) dX6_lineOf_83 rfl)
          · refine J_iconst (pc := 68) (v := 4) dX6_lineOf_68 (by decide) ?_
            exact J_eqo (hk 4) (J_iret (pc := 69) dX6_lineOf_69 rfl)
        · refine J_iconst (pc := 54) (v := 3) dX6_lineOf_54 (by decide) ?_
          exact J_eqo (hk 3) (J_iret (pc := 55) dX6_lineOf_55 rfl)
      · refine J_iconst (pc := 40) (v := 2) dX6_lineOf_40 (by decide) ?_
        exact J_eqo (hk 2) (J_iret (pc := 41) dX6_lineOf_41 rfl)
    · refine J_iconst (pc := 26) (v := 1) dX6_lineOf_26 (by decide) ?_
      exact J_eqo (hk 1) (J_iret (pc := 27) dX6_lineOf_27 rfl)
  · refine J_iconst (pc := 12) (v := 0) dX6_lineOf_12 (by decide) ?_
    exact J_eqo (hk 0) (J_iret (pc := 13) dX6_lineOf_13 rfl)
def f_X6_fail (d : JD) (pq0 : Int32) : Bool × JD := (false, j_sI (j_sI d 3 7 pq0) 3 8 ((d.1 1) 5))
set_option maxRecDepth 100000 in
set_option maxHeartbeats 4000000 in
theorem s_X6_fail (g : JG) (d : JD) (pq0 : Int32) (h0 : j_sh g 0 TS_W RS_W) : JM mi_X6_fail 0 0 (g, d) [.ref 3, .int pq0] (some (some (.int (j_b (f_X6_fail d pq0).1)), (g, (f_X6_fail d pq0).2))) := by
  refine JM_of (by decide) rfl (Nat.le_of_ble_eq_true rfl) ?_
  refine J_loc (loc' := [(0, .ref 3), (1, .int pq0)]) [0, 1] rfl ?_
  obtain ⟨k, hk⟩ : ∃ k : Bool × JD → Option (Option Value × JH), ∀ r9, k r9 = some (some (.int (j_b r9.1)), (g, r9.2)) := ⟨_, fun _ => rfl⟩
  refine J_eqo (hk (f_X6_fail d pq0)).symm ?_
  unfold f_X6_fail
  refine J_aload_n (pc := 0) 0 dX6_fail_0 rfl rfl ?_
  refine J_iload_n (pc := 1) 1 dX6_fail_1 rfl rfl ?_
  refine J_putI (pc := 2) dX6_fail_2 fl_X6_44 ft_6_7 (h0.lt 3 (by decide)) (h0.ty 3 rfl) rfl rfl rfl ?_
  refine J_aload_n (pc := 5) 0 dX6_fail_5 rfl rfl ?_
  refine J_aload_n (pc := 6) 0 dX6_fail_6 rfl rfl ?_
  refine J_getR (pc := 7) dX6_fail_7 fl_X6_29 (h0.lt 3 (by decide)) (h0.ty 3 rfl) rfl (h0.rf 11 rfl) ?_
  refine J_getI (pc := 10) dX6_fail_10 fl_X6_243 (h0.lt 1 (by decide)) (h0.ty 1 rfl) rfl ?_
  refine J_val (y := (d.1 1) 5) rfl ?_
  refine J_putI (pc := 13) dX6_fail_13 fl_X6_47 ft_6_8 (h0.lt 3 (by decide)) (h0.ty 3 rfl) rfl rfl rfl ?_
  refine J_iconst (pc := 16) (v := 0) dX6_fail_16 (by decide) ?_
  exact J_eqo (hk (false, j_sI (j_sI d 3 7 pq0) 3 8 ((d.1 1) 5))) (J_zretB (pc := 17) dX6_fail_17 rfl)
def f_X6_readWord (d : JD) (pq0 : Nat) : Option (Bool × JD) := ((f_X9_spells (d.1 1) (d.1 2) pq0).bind (fun q5 => if q5 = true then ((f_X9_advance d).bind (fun q21 => some (true, q21))) else (j_let (f_X6_fail d 1) (fun q13 => some (q13.1, q13.2)))))
set_option maxRecDepth 100000 in
set_option maxHeartbeats 4000000 in
theorem s_X6_readWord (g : JG) (d : JD) (pq0 : Nat) (h0 : j_sh g 0 TS_W RS_W) (hstr_pq0 : pq0 < 38) : JM mi_X6_readWord 0 0 (g, d) [.ref 3, .ref (1000000 + pq0)] ((f_X6_readWord d pq0).bind (fun r9 => some (some (.int (j_b r9.1)), (g, r9.2)))) := by
  refine JM_of (by decide) rfl (Nat.le_of_ble_eq_true rfl) ?_
  refine J_loc (loc' := [(0, .ref 3), (1, .ref (1000000 + pq0))]) [0, 1] rfl ?_
  obtain ⟨k, hk, hk2⟩ : ∃ k : Bool × JD → Option (Option Value × JH), (∀ r9, k r9 = some (some (.int (j_b r9.1)), (g, r9.2))) ∧ (fun r9 : Bool × JD => (some (some (.int (j_b r9.1)), (g, r9.2)) : Option (Option Value × JH))) = k := ⟨_, fun _ => rfl, rfl⟩
  rw [hk2]
  unfold f_X6_readWord
  refine J_aload_n (pc := 0) 0 dX6_readWord_0 rfl rfl ?_
  refine J_getR (pc := 1) dX6_readWord_1 fl_X6_29 (h0.lt 3 (by decide)) (h0.ty 3 rfl) rfl (h0.rf 11 rfl) ?_
  refine J_aload_n (pc := 4) 1 dX6_readWord_4 rfl rfl ?_
  refine JC_pp_b (J_callV (mi := mi_X6_readWord) (mj := mi_X9_spells) (pc := 5) dX6_readWord_5 ml_X6_106 ok_X9_spells ov_X9_spells ⟨Nat.le_of_ble_eq_true rfl, Nat.le_of_ble_eq_true rfl⟩ rfl (h0.lt 1 (by decide)) (h0.ty 1 rfl) rfl (s_X9_spells g d pq0 h0 hstr_pq0) rfl (Nat.le_of_ble_eq_true rfl)) (fun q5 => ?_)
  refine K_ifne_b (K := (fun x => Option.bind x k)) (pc := 8) (tgt := 17) dX6_readWord_8 (by decide) (fun z8 => ?_) (fun z8 => ?_)
  · refine J_aload_n (pc := 17) 0 dX6_readWord_17 rfl rfl ?_
    refine J_getR (pc := 18) dX6_readWord_18 fl_X6_29 (h0.lt 3 (by decide)) (h0.ty 3 rfl) rfl (h0.rf 11 rfl) ?_
    refine JC_pe_v (J_callV (mi := mi_X6_readWord) (mj := mi_X9_advance) (pc := 21) dX6_readWord_21 ml_X6_70 ok_X9_advance ov_X9_advance ⟨Nat.le_of_ble_eq_true rfl, Nat.le_of_ble_eq_true rfl⟩ rfl (h0.lt 1 (by decide)) (h0.ty 1 rfl) rfl (s_X9_advance g d h0) rfl (Nat.le_of_ble_eq_true rfl)) (fun q21 => ?_)
    refine J_iconst (pc := 24) (v := 1) dX6_readWord_24 (by decide) ?_
    exact J_eqo (hk (true, q21)) (J_zretB (pc := 25) dX6_readWord_25 rfl)
  · refine J_aload_n (pc := 11) 0 dX6_readWord_11 rfl rfl ?_
    refine J_iconst (pc := 12) (v := 1) dX6_readWord_12 (by decide) ?_
    refine JC_lt_b (K := (fun x => Option.bind x k)) (J_callV (mi := mi_X6_readWord) (mj := mi_X6_fail) (pc := 13) dX6_readWord_13 ml_X6_66 ok_X6_fail ov_X6_fail ⟨Nat.le_of_ble_eq_true rfl, Nat.le_of_ble_eq_true rfl⟩ rfl (h0.lt 3 (by decide)) (h0.ty 3 rfl) rfl (s_X6_fail g d 1 h0) rfl (Nat.le_of_ble_eq_true rfl)) (fun q13 eq13 => ?_)
    exact J_eqo (hk (q13.1, q13.2)) (J_zretB (pc := 16) dX6_readWord_16 rfl)
def f_X6_isWholeUpTo (d : JD) (pq0 : Int32) : Bool × JD := (if ((d.1 1) 4) = 2 then (if ((d.1 1) 7) ≤ pq0 then (true, d) else (j_let (f_X6_fail d 4) (fun q30 => if q30.1 = true then (true, q30.2) else (false, q30.2)))) else (j_let (f_X6_fail d 1) (fun q13 => (q13.1, q13.2))))
set_option maxRecDepth 100000 in
set_option maxHeartbeats 4000000 in
theorem s_X6_isWholeUpTo (g : JG) (d : JD) (pq0 : Int32) (h0 : j_sh g 0 TS_W RS_W) : JM mi_X6_isWholeUpTo 0 0 (g, d) [.ref 3, .int pq0] (some (some (.int (j_b (f_X6_isWholeUpTo d pq0).1)), (g, (f_X6_isWholeUpTo d pq0).2))) := by
  refine JM_of (by decide) rfl (Nat.le_of_ble_eq_true rfl) ?_
  refine J_loc (loc' := [(0, .ref 3), (1, .int pq0)]) [0, 1] rfl ?_
  obtain ⟨k, hk⟩ : ∃ k : Bool × JD → Option (Option Value × JH), ∀ r9, k r9 = some (some (.int (j_b r9.1)), (g, r9.2)) := ⟨_, fun _ => rfl⟩
  refine J_eqo (hk (f_X6_isWholeUpTo d pq0)).symm ?_
  unfold f_X6_isWholeUpTo
  refine J_aload_n (pc := 0) 0 dX6_isWholeUpTo_0 rfl rfl ?_
  refine J_getR (pc := 1) dX6_isWholeUpTo_1 fl_X6_29 (h0.lt 3 (by decide)) (h0.ty 3 rfl) rfl (h0.rf 11 rfl) ?_
  refine J_getI (pc := 4) dX6_isWholeUpTo_4 fl_X6_60 (h0.lt 1 (by decide)) (h0.ty 1 rfl) rfl ?_
  refine J_iconst (pc := 7) (v := 2) dX6_isWholeUpTo_7 (by decide) ?_
  refine K_icmp_eq (K := k) (pc := 8) (tgt := 17) dX6_isWholeUpTo_8 (by decide) (fun z8 => ?_) (fun z8 => ?_)
  · refine J_aload_n (pc := 17) 0 dX6_isWholeUpTo_17 rfl rfl ?_
    refine J_getR (pc := 18) dX6_isWholeUpTo_18 fl_X6_29 (h0.lt 3 (by decide)) (h0.ty 3 rfl) rfl (h0.rf 11 rfl) ?_
    refine J_getI (pc := 21) dX6_isWholeUpTo_21 fl_X6_153 (h0.lt 1 (by decide)) (h0.ty 1 rfl) rfl ?_
    refine J_iload_n (pc := 24) 1 dX6_isWholeUpTo_24 rfl rfl ?_
    refine K_icmp_le (K := k) (pc := 25) (tgt := 36) dX6_isWholeUpTo_25 (by decide) (fun z25 => ?_) (fun z25 => ?_)
    · refine J_iconst (pc := 36) (v := 1) dX6_isWholeUpTo_36 (by decide) ?_
      refine J_goto (pc := 37) (tgt := 41) dX6_isWholeUpTo_37 (by decide) ?_
      exact J_eqo (hk (true, d)) (J_zretB (pc := 41) dX6_isWholeUpTo_41 rfl)
    · refine J_aload_n (pc := 28) 0 dX6_isWholeUpTo_28 rfl rfl ?_
      refine J_iconst (pc := 29) (v := 4) dX6_isWholeUpTo_29 (by decide) ?_
      refine JC_lt_b (K := k) (J_callV (mi := mi_X6_isWholeUpTo) (mj := mi_X6_fail) (pc := 30) dX6_isWholeUpTo_30 ml_X6_66 ok_X6_fail ov_X6_fail ⟨Nat.le_of_ble_eq_true rfl, Nat.le_of_ble_eq_true rfl⟩ rfl (h0.lt 3 (by decide)) (h0.ty 3 rfl) rfl (s_X6_fail g d 4 h0) rfl (Nat.le_of_ble_eq_true rfl)) (fun q30 eq30 => ?_)
      refine K_ifeq_b (K := k) (pc := 33) (tgt := 40) dX6_isWholeUpTo_33 (by decide) (fun z33 => ?_) (fun z33 => ?_)
      · refine J_iconst (pc := 40) (v := 0) dX6_isWholeUpTo_40 (by decide) ?_
        exact J_eqo (hk (false, q30.2)) (J_zretB (pc := 41) dX6_isWholeUpTo_41 rfl)
      · refine J_iconst (pc := 36) (v := 1) dX6_isWholeUpTo_36 (by decide) ?_
        refine J_goto (pc := 37) (tgt := 41) dX6_isWholeUpTo_37 (by decide) ?_
        exact J_eqo (hk (true, q30.2)) (J_zretB (pc := 41) dX6_isWholeUpTo_41 rfl)
  · refine J_aload_n (pc := 11) 0 dX6_isWholeUpTo_11 rfl rfl ?_
    refine J_iconst (pc := 12) (v := 1) dX6_isWholeUpTo_12 (by decide) ?_
    refine JC_lt_b (K := k) (J_callV (mi := mi_X6_isWholeUpTo) (mj := mi_X6_fail) (pc := 13) dX6_isWholeUpTo_13 ml_X6_66 ok_X6_fail ov_X6_fail ⟨Nat.le_of_ble_eq_true rfl, Nat.le_of_ble_eq_true rfl⟩ rfl (h0.lt 3 (by decide)) (h0.ty 3 rfl) rfl (s_X6_fail g d 1 h0) rfl (Nat.le_of_ble_eq_true rfl)) (fun q13 eq13 => ?_)
    exact J_eqo (hk (q13.1, q13.2)) (J_zretB (pc := 16) dX6_isWholeUpTo_16 rfl)
def f_X6_readLandLine (b : Nat) (d : JD) : Option (Bool × JD) := ((f_X9_advance (j_sI d 3 2 1)).bind (fun q9 => (f_X6_readWord q9 9).bind (fun q15 => if q15.1 = true then (j_let (f_X6_isWholeUpTo q15.2 6) (fun q24 => if q24.1 = true then ((f_X9_advance (j_sI q24.2 b 0 ((q24.2.1 1) 7))).bind (fun q50 => (f_X6_readWord q50 10).bind (fun q56 => if q56.1 = true then (j_let (f_X6_isWholeUpTo q56.2 100) (fun q65 => if q65.1 = true then ((f_X9_advance (j_sI q65.2 b 1 ((q65.2.1 1) 7))).bind (fun q91 => some (true, q91))) else (some (false, q65.2)))) else (some (false, q56.2))))) else (some (false, q24.2)))) else (some (false, q15.2)))))
set_option maxRecDepth 100000 in
set_option maxHeartbeats 4000000 in
theorem s_X6_readLandLine (g : JG) (d : JD) (b : Nat) (h0 : j_sh g 0 TS_W RS_W) (hb : j_sh g b TS_CL RS_CL) (hin : g.2.2.1 3 1 = some b) : JM mi_X6_readLandLine 0 0 (g, d) [.ref 3] ((f_X6_readLandLine b d ).bind (fun r9 => some (some (.int (j_b r9.1)), (g, r9.2)))) := by
  refine JM_of (by decide) rfl (Nat.le_of_ble_eq_true rfl) ?_
  refine J_loc (loc' := [(0, .ref 3)]) [0] rfl ?_
  obtain ⟨k, hk, hk2⟩ : ∃ k : Bool × JD → Option (Option Value × JH), (∀ r9, k r9 = some (some (.int (j_b r9.1)), (g, r9.2))) ∧ (fun r9 : Bool × JD => (some (some (.int (j_b r9.1)), (g, r9.2)) : Option (Option Value × JH))) = k := ⟨_, fun _ => rfl, rfl⟩
  rw [hk2]
  unfold f_X6_readLandLine
  refine J_aload_n (pc := 0) 0 dX6_readLandLine_0 rfl rfl ?_
  refine J_iconst (pc := 1) (v := 1) dX6_readLandLine_1 (by decide) ?_
  refine J_putI (pc := 2) dX6_readLandLine_2 fl_X6_36 ft_6_2 (h0.lt 3 (by decide)) (h0.ty 3 rfl) rfl rfl rfl ?_
  refine J_aload_n (pc := 5) 0 dX6_readLandLine_5 rfl rfl ?_
  refine J_getR (pc := 6) dX6_readLandLine_6 fl_X6_29 (h0.lt 3 (by decide)) (h0.ty 3 rfl) rfl (h0.rf 11 rfl) ?_
  refine JC_pe_v (J_callV (mi := mi_X6_readLandLine) (mj := mi_X9_advance) (pc := 9) dX6_readLandLine_9 ml_X6_70 ok_X9_advance ov_X9_advance ⟨Nat.le_of_ble_eq_true rfl, Nat.le_of_ble_eq_true rfl⟩ rfl (h0.lt 1 (by decide)) (h0.ty 1 rfl) rfl (s_X9_advance g (j_sI d 3 2 1) h0) rfl (Nat.le_of_ble_eq_true rfl)) (fun q9 => ?_)
  refine J_aload_n (pc := 12) 0 dX6_readLandLine_12 rfl rfl ?_
  refine J_ldcS (pc := 13) (k := 9) dX6_readLandLine_13 (by decide) ⟨rfl, rfl⟩ ?_
  refine JC_pe_b (J_callV (mi := mi_X6_readLandLine) (mj := mi_X6_readWord) (pc := 15) dX6_readLandLine_15 ml_X6_147 ok_X6_readWord ov_X6_readWord ⟨Nat.le_of_ble_eq_true rfl, Nat.le_of_ble_eq_true rfl⟩ rfl (h0.lt 3 (by decide)) (h0.ty 3 rfl) rfl (s_X6_readWord g q9 9 h0 (by decide)) rfl (Nat.le_of_ble_eq_true rfl)) (fun q15 => ?_)
  refine K_ifeq_b (K := (fun x => Option.bind x k)) (pc := 18) (tgt := 30) dX6_readLandLine_18 (by decide) (fun z18 => ?_) (fun z18 => ?_)
  · refine J_iconst (pc := 30) (v := 0) dX6_readLandLine_30 (by decide) ?_
    exact J_eqo (hk (false, q15.2)) (J_zretB (pc := 31) dX6_readLandLine_31 rfl)
  · refine J_aload_n (pc := 21) 0 dX6_readLandLine_21 rfl rfl ?_
    refine J_bipush (pc := 22) (v := 6) dX6_readLandLine_22 (by decide) ?_
    refine JC_lt_b (K := (fun x => Option.bind x k)) (J_callV (mi := mi_X6_readLandLine) (mj := mi_X6_isWholeUpTo) (pc := 24) dX6_readLandLine_24 ml_X6_150 ok_X6_isWholeUpTo ov_X6_isWholeUpTo ⟨Nat.le_of_ble_eq_true rfl, Nat.le_of_ble_eq_true rfl⟩ rfl (h0.lt 3 (by decide)) (h0.ty 3 rfl) rfl (s_X6_isWholeUpTo g q15.2 6 h0) rfl (Nat.le_of_ble_eq_true rfl)) (fun q24 eq24 => ?_)
    refine K_ifne_b (K := (fun x => Option.bind x k)) (pc := 27) (tgt := 32) dX6_readLandLine_27 (by decide) (fun z27 => ?_) (fun z27 => ?_)
    · refine J_aload_n (pc := 32) 0 dX6_readLandLine_32 rfl rfl ?_
      refine J_getR (pc := 33) dX6_readLandLine_33 fl_X6_12 (h0.lt 3 (by decide)) (h0.ty 3 rfl) rfl hin ?_
      refine J_aload_n (pc := 36) 0 dX6_readLandLine_36 rfl rfl ?_
      refine J_getR (pc := 37) dX6_readLandLine_37 fl_X6_29 (h0.lt 3 (by decide)) (h0.ty 3 rfl) rfl (h0.rf 11 rfl) ?_
      refine J_getI (pc := 40) dX6_readLandLine_40 fl_X6_153 (h0.lt 1 (by decide)) (h0.ty 1 rfl) rfl ?_
      refine J_putI (pc := 43) dX6_readLandLine_43 fl_X6_156 ft_3_0 (hb.lt 0 (by decide)) (hb.ty 0 rfl) rfl rfl rfl ?_
      refine J_aload_n (pc := 46) 0 dX6_readLandLine_46 rfl rfl ?_
      refine J_getR (pc := 47) dX6_readLandLine_47 fl_X6_29 (h0.lt 3 (by decide)) (h0.ty 3 rfl) rfl (h0.rf 11 rfl) ?_
      refine JC_pe_v (J_callV (mi := mi_X6_readLandLine) (mj := mi_X9_advance) (pc := 50) dX6_readLandLine_50 ml_X6_70 ok_X9_advance ov_X9_advance ⟨Nat.le_of_ble_eq_true rfl, Nat.le_of_ble_eq_true rfl⟩ rfl (h0.lt 1 (by decide)) (h0.ty 1 rfl) rfl (s_X9_advance g (j_sI q24.2 b 0 ((q24.2.1 1) 7)) h0) rfl (Nat.le_of_ble_eq_true rfl)) (fun q50 => ?_)
      refine J_aload_n (pc := 53) 0 dX6_readLandLine_53 rfl rfl ?_
      refine J_ldcS (pc := 54) (k := 10) dX6_readLandLine_54 (by decide) ⟨rfl, rfl⟩ ?_
      refine JC_pe_b (J_callV (mi := mi_X6_readLandLine) (mj := mi_X6_readWord) (pc := 56) dX6_readLandLine_56 ml_X6_147 ok_X6_readWord ov_X6_readWord ⟨Nat.le_of_ble_eq_true rfl, Nat.le_of_ble_eq_true rfl⟩ rfl (h0.lt 3 (by decide)) (h0.ty 3 rfl) rfl (s_X6_readWord g q50 10 h0 (by decide)) rfl (Nat.le_of_ble_eq_true rfl)) (fun q56 => ?_)
      refine K_ifeq_b (K := (fun x => Option.bind x k)) (pc := 59) (tgt := 71) dX6_readLandLine_59 (by decide) (fun z59 => ?_) (fun z59 => ?_)
      · refine J_iconst (pc := 71) (v := 0) dX6_readLandLine_71 (by decide) ?_
        exact J_eqo (hk (false, q56.2)) (J_zretB (pc := 72) dX6_readLandLine_72 rfl)
      · refine J_aload_n (pc := 62) 0 dX6_readLandLine_62 rfl rfl ?_
        refine J_bipush (pc := 63) (v := 100) dX6_readLandLine_63 (by decide) ?_
        refine JC_lt_b (K := (fun x => Option.bind x k)) (J_callV (mi := mi_X6_readLandLine) (mj := mi_X6_isWholeUpTo) (pc := 65) dX6_readLandLine_65 ml_X6_150 ok_X6_isWholeUpTo ov_X6_isWholeUpTo ⟨Nat.le_of_ble_eq_true rfl, Nat.le_of_ble_eq_true rfl⟩ rfl (h0.lt 3 (by decide)) (h0.ty 3 rfl) rfl (s_X6_isWholeUpTo g q56.2 100 h0) rfl (Nat.le_of_ble_eq_true rfl)) (fun q65 eq65 => ?_)
        refine K_ifne_b (K := (fun x => Option.bind x k)) (pc := 68) (tgt := 73) dX6_readLandLine_68 (by decide) (fun z68 => ?_) (fun z68 => ?_)
        · refine J_aload_n (pc := 73) 0 dX6_readLandLine_73 rfl rfl ?_
          refine J_getR (pc := 74) dX6_readLandLine_74 fl_X6_12 (h0.lt 3 (by decide)) (h0.ty 3 rfl) rfl hin ?_
          refine J_aload_n (pc := 77) 0 dX6_readLandLine_77 rfl rfl ?_
          refine J_getR (pc := 78) dX6_readLandLine_78 fl_X6_29 (h0.lt 3 (by decide)) (h0.ty 3 rfl) rfl (h0.rf 11 rfl) ?_
          refine J_getI (pc := 81) dX6_readLandLine_81 fl_X6_153 (h0.lt 1 (by decide)) (h0.ty 1 rfl) rfl ?_
          refine J_putI (pc := 84) dX6_readLandLine_84 fl_X6_160 ft_3_1 (hb.lt 0 (by decide)) (hb.ty 0 rfl) rfl rfl rfl ?_
          refine J_aload_n (pc := 87) 0 dX6_readLandLine_87 rfl rfl ?_
          refine J_getR (pc := 88) dX6_readLandLine_88 fl_X6_29 (h0.lt 3 (by decide)) (h0.ty 3 rfl) rfl (h0.rf 11 rfl) ?_
          refine JC_pe_v (J_callV (mi := mi_X6_readLandLine) (mj := mi_X9_advance) (pc := 91) dX6_readLandLine_91 ml_X6_70 ok_X9_advance ov_X9_advance ⟨Nat.le_of_ble_eq_true rfl, Nat.le_of_ble_eq_true rfl⟩ rfl (h0.lt 1 (by decide)) (h0.ty 1 rfl) rfl (s_X9_advance g (j_sI q65.2 b 1 ((q65.2.1 1) 7)) h0) rfl (Nat.le_of_ble_eq_true rfl)) (fun q91 => ?_)
          refine J_iconst (pc := 94) (v := 1) dX6_readLandLine_94 (by decide) ?_
          exact J_eqo (hk (true, q91)) (J_zretB (pc := 95) dX6_readLandLine_95 rfl)
        · refine J_iconst (pc := 71) (v := 0) dX6_readLandLine_71 (by decide) ?_
          exact J_eqo (hk (false, q65.2)) (J_zretB (pc := 72) dX6_readLandLine_72 rfl)
    · refine J_iconst (pc := 30) (v := 0) dX6_readLandLine_30 (by decide) ?_
      exact J_eqo (hk (false, q24.2)) (J_zretB (pc := 31) dX6_readLandLine_31 rfl)
def f_X6_isFull_j114 (r_b0 : Nat → Int32) (r_b9 : Nat → Int32) : Bool := (if (r_b9 0) < 4 then (false) else (true))
def f_X6_isFull (r_b0 : Nat → Int32) (r_b9 : Nat → Int32) (pq0 : Int32) : Bool := (if pq0 = 1 then (if (r_b0 2) < 5 then (false) else (true)) else if pq0 = 2 then (if (r_b0 3) < 4 then (false) else (true)) else if pq0 = 3 then (if (r_b0 4) < 6 then (false) else (true)) else if pq0 = 4 then (if (r_b0 5) < 8 then (false) else (true)) else if pq0 = 5 then (f_X6_isFull_j114 r_b0 r_b9 ) else if pq0 = 6 then (f_X6_isFull_j114 r_b0 r_b9 ) else if pq0 = 7 then (if (r_b9 4) < 4 then (false) else (true)) else (false))
set_option maxRecDepth 100000 in
set_option maxHeartbeats 4000000 in
theorem s_X6_isFull (g : JG) (d : JD) (b : Nat) (pq0 : Int32) (h0 : j_sh g 0 TS_W RS_W) (hb : j_sh g b TS_CL RS_CL) (hin : g.2.2.1 3 1 = some b) : JM mi_X6_isFull 0 0 (g, d) [.ref 3, .int pq0] (some (some (.int (j_b (f_X6_isFull (d.1 b) (d.1 (b + 9)) pq0))), (g, d))) := by
  refine JM_of (by decide) rfl (Nat.le_of_ble_eq_true rfl) ?_
  refine J_loc (loc' := [(0, .ref 3), (1, .int pq0)]) [0, 1] rfl ?_
  obtain ⟨k, hk⟩ : ∃ k : Bool → Option (Option Value × JH), ∀ r9, k r9 = some (some (.int (j_b r9)), (g, d)) := ⟨_, fun _ => rfl⟩
  refine J_eqo (hk (f_X6_isFull (d.1 b) (d.1 (b + 9)) pq0)).symm ?_
  unfold f_X6_isFull
  have hX6_isFull_j114 : J mi_X6_isFull 0 0 0 0 (g, d) 114 [(0, .ref 3)] [] (k (f_X6_isFull_j114 (d.1 b) (d.1 (b + 9)) )) := by
    unfold f_X6_isFull_j114
    refine J_aload_n (pc := 114) 0 dX6_isFull_114 rfl rfl ?_
    refine J_getR (pc := 115) dX6_isFull_115 fl_X6_12 (h0.lt 3 (by decide)) (h0.ty 3 rfl) rfl hin ?_
    refine J_getR (pc := 118) dX6_isFull_118 fl_X6_135 (hb.lt 0 (by decide)) (hb.ty 0 rfl) rfl (hb.rf 8 rfl) ?_
    refine J_getI (pc := 121) dX6_isFull_121 fl_X6_139 (hb.lt 9 (by decide)) (hb.ty 9 rfl) rfl ?_
    refine J_iconst (pc := 124) (v := 4) dX6_isFull_124 (by decide) ?_
    refine K_icmp_lt (K := k) (pc := 125) (tgt := 132) dX6_isFull_125 (by decide) (fun z125 => ?_) (fun z125 => ?_)
    · refine J_iconst (pc := 132) (v := 0) dX6_isFull_132 (by decide) ?_
      exact J_eqo (hk false) (J_zretB (pc := 133) dX6_isFull_133 rfl)
    · refine J_iconst (pc := 128) (v := 1) dX6_isFull_128 (by decide) ?_
      refine J_goto (pc := 129) (tgt := 133) dX6_isFull_129 (by decide) ?_
      exact J_eqo (hk true) (J_zretB (pc := 133) dX6_isFull_133 rfl)
  refine J_iload_n (pc := 0) 1 dX6_isFull_0 rfl rfl ?_
  refine J_split (K := k) (c := pq0 = 1) (fun z1_0 => ?_) (fun z1_0 => ?_)
  · refine J_val z1_0 ?_
    refine J_tsIn (pc := 1) (tgt := 44) dX6_isFull_1 (by decide) (by decide) rfl (by decide) ?_
    refine J_aload_n (pc := 44) 0 dX6_isFull_44 rfl rfl ?_
    refine J_getR (pc := 45) dX6_isFull_45 fl_X6_12 (h0.lt 3 (by decide)) (h0.ty 3 rfl) rfl hin ?_
    refine J_getI (pc := 48) dX6_isFull_48 fl_X6_126 (hb.lt 0 (by decide)) (hb.ty 0 rfl) rfl ?_
    refine J_iconst (pc := 51) (v := 5) dX6_isFull_51 (by decide) ?_
    refine K_icmp_lt (K := k) (pc := 52) (tgt := 59) dX6_isFull_52 (by decide) (fun z52 => ?_) (fun z52 => ?_)
    · refine J_iconst (pc := 59) (v := 0) dX6_isFull_59 (by decide) ?_
      exact J_eqo (hk false) (J_zretB (pc := 60) dX6_isFull_60 rfl)
    · refine J_iconst (pc := 55) (v := 1) dX6_isFull_55 (by decide) ?_
      refine J_goto (pc := 56) (tgt := 60) dX6_isFull_56 (by decide) ?_
      exact J_eqo (hk true) (J_zretB (pc := 60) dX6_isFull_60 rfl)
  refine J_split (K := k) (c := pq0 = 2) (fun z1_1 => ?_) (fun z1_1 => ?_)
  · refine J_val z1_1 ?_
    refine J_tsIn (pc := 1) (tgt := 61) dX6_isFull_1 (by decide) (by decide) rfl (by decide) ?_
    refine J_aload_n (pc := 61) 0 dX6_isFull_61 rfl rfl ?_
    refine J_getR (pc := 62) dX6_isFull_62 fl_X6_12 (h0.lt 3 (by decide)) (h0.ty 3 rfl) rfl hin ?_
    refine J_getI (pc := 65) dX6_isFull_65 fl_X6_129 (hb.lt 0 (by decide)) (hb.ty 0 rfl) rfl ?_
    refine J_iconst (pc := 68) (v := 4) dX6_isFull_68 (by decide) ?_
    refine K_icmp_lt (K := k) (pc := 69) (tgt := 76) dX6_isFull_69 (by decide) (fun z69 => ?_) (fun z69 => ?_)
    · refine J_iconst (pc := 76) (v := 0) dX6_isFull_76 (by decide) ?_
      exact J_eqo (hk false) (J_zretB (pc := 77) dX6_isFull_77 rfl)
    · refine J_iconst (pc := 72) (v := 1) dX6_isFull_72 (by decide) ?_
      refine J_goto (pc := 73) (tgt := 77) dX6_isFull_73 (by decide) ?_
      exact J_eqo (hk true) (J_zretB (pc := 77) dX6_isFull_77 rfl)
  refine J_split (K := k) (c := pq0 = 3) (fun z1_2 => ?_) (fun z1_2 => ?_)
  · refine J_val z1_2 ?_
    refine J_tsIn (pc := 1) (tgt := 78) dX6_isFull_1 (by decide) (by decide) rfl (by decide) ?_
    refine J_aload_n (pc := 78) 0 dX6_isFull_78 rfl rfl ?_
    refine J_getR (pc := 79) dX6_isFull_79 fl_X6_12 (h0.lt 3 (by decide)) (h0.ty 3 rfl) rfl hin ?_
    refine J_getI (pc := 82) dX6_isFull_82 fl_X6_63 (hb.lt 0 (by decide)) (hb.ty 0 rfl) rfl ?_
    refine J_bipush (pc := 85) (v := 6) dX6_isFull_85 (by decide) ?_
    refine K_icmp_lt (K := k) (pc := 87) (tgt := 94) dX6_isFull_87 (by decide) (fun z87 => ?_) (fun z87 => ?_)
    · refine J_iconst (pc := 94) (v := 0) dX6_isFull_94 (by decide) ?_
      exact J_eqo (hk false) (J_zretB (pc := 95) dX6_isFull_95 rfl)
    · refine J_iconst (pc := 90) (v := 1) dX6_isFull_90 (by decide) ?_
      refine J_goto (pc := 91) (tgt := 95) dX6_isFull_91 (by decide) ?_
      exact J_eqo (hk true) (J_zretB (pc := 95) dX6_isFull_95 rfl)
  refine J_split (K := k) (c := pq0 = 4) (fun z1_3 => ?_) (fun z1_3 => ?_)
  · refine J_val z1_3 ?_
    refine J_tsIn (pc := 1) (tgt := 96) dX6_isFull_1 (by decide) (by decide) rfl (by decide) ?_
    refine J_aload_n (pc := 96) 0 dX6_isFull_96 rfl rfl ?_
    refine J_getR (pc := 97) dX6_isFull_97 fl_X6_12 (h0.lt 3 (by decide)) (h0.ty 3 rfl) rfl hin ?_
    refine J_getI (pc := 100) dX6_isFull_100 fl_X6_132 (hb.lt 0 (by decide)) (hb.ty 0 rfl) rfl ?_
    refine J_bipush (pc := 103) (v := 8) dX6_isFull_103 (by decide) ?_
    refine K_icmp_lt (K := k) (pc := 105) (tgt := 112) dX6_isFull_105 (by decide) (fun z105 => ?_) (fun z105 => ?_)
    · refine J_iconst (pc := 112) (v := 0) dX6_isFull_112 (by decide) ?_
      exact J_eqo (hk false) (J_zretB (pc := 113) dX6_isFull_113 rfl)
    · refine J_iconst (pc := 108) (v := 1) dX6_isFull_108 (by decide) ?_
      refine J_goto (pc := 109) (tgt := 113) dX6_isFull_109 (by decide) ?_
      exact J_eqo (hk true) (J_zretB (pc := 113) dX6_isFull_113 rfl)
  refine J_split (K := k) (c := pq0 = 5) (fun z1_4 => ?_) (fun z1_4 => ?_)
  · refine J_val z1_4 ?_
    refine J_tsIn (pc := 1) (tgt := 114) dX6_isFull_1 (by decide) (by decide) rfl (by decide) ?_
    refine J_loc (loc' := [(0, .ref 3)]) [0] rfl ?_
    exact hX6_isFull_j114 
  refine J_split (K := k) (c := pq0 = 6) (fun z1_5 => ?_) (fun z1_5 => ?_)
  · refine J_val z1_5 ?_
    refine J_tsIn (pc := 1) (tgt := 114) dX6_isFull_1 (by decide) (by decide) rfl (by decide) ?_
    refine J_loc (loc' := [(0, .ref 3)]) [0] rfl ?_
    exact hX6_isFull_j114 
  refine J_split (K := k) (c := pq0 = 7) (fun z1_6 => ?_) (fun z1_6 => ?_)
  · refine J_val z1_6 ?_
    refine J_tsIn (pc := 1) (tgt := 134) dX6_isFull_1 (by decide) (by decide) rfl (by decide) ?_
    refine J_aload_n (pc := 134) 0 dX6_isFull_134 rfl rfl ?_
    refine J_getR (pc := 135) dX6_isFull_135 fl_X6_12 (h0.lt 3 (by decide)) (h0.ty 3 rfl) rfl hin ?_
    refine J_getR (pc := 138) dX6_isFull_138 fl_X6_135 (hb.lt 0 (by decide)) (hb.ty 0 rfl) rfl (hb.rf 8 rfl) ?_
    refine J_getI (pc := 141) dX6_isFull_141 fl_X6_143 (hb.lt 9 (by decide)) (hb.ty 9 rfl) rfl ?_
    refine J_iconst (pc := 144) (v := 4) dX6_isFull_144 (by decide) ?_
    refine K_icmp_lt (K := k) (pc := 145) (tgt := 152) dX6_isFull_145 (by decide) (fun z145 => ?_) (fun z145 => ?_)
    · refine J_iconst (pc := 152) (v := 0) dX6_isFull_152 (by decide) ?_
      exact J_eqo (hk false) (J_zretB (pc := 153) dX6_isFull_153 rfl)
    · refine J_iconst (pc := 148) (v := 1) dX6_isFull_148 (by decide) ?_
      refine J_goto (pc := 149) (tgt := 153) dX6_isFull_149 (by decide) ?_
      exact J_eqo (hk true) (J_zretB (pc := 153) dX6_isFull_153 rfl)
  · have zz1 : (pq0 : Int32).toInt < 1 ∨ 7 < (pq0 : Int32).toInt := by
      have q0 := j_ne_toInt (n := 1) (by decide) z1_0
      have q1 := j_ne_toInt (n := 2) (by decide) z1_1
      have q2 := j_ne_toInt (n := 3) (by decide) z1_2
      have q3 := j_ne_toInt (n := 4) (by decide) z1_3
      have q4 := j_ne_toInt (n := 5) (by decide) z1_4
      have q5 := j_ne_toInt (n := 6) (by decide) z1_5
      have q6 := j_ne_toInt (n := 7) (by decide) z1_6
      omega
    refine J_tsOut (pc := 1) (tgt := 154) dX6_isFull_1 zz1 (by decide) ?_
    refine J_iconst (pc := 154) (v := 0) dX6_isFull_154 (by decide) ?_
    exact J_eqo (hk false) (J_zretB (pc := 155) dX6_isFull_155 rfl)
def f_X6_nameIndex_w2 (r_3 : Nat → Int32) (q_1 : Nat → Int64) (q_19 : Nat → Int64) (s2 : Int32) : Option ((Int32) ⊕ (Int32 ⊕ (Unit))) := (if (r_3 6) ≤ s2 then some (.inr (.inr ())) else (if 15 ≤ s2 then some (.inr (.inr ())) else (if j_out s2 15 then none else if (lg_cmp (q_19 s2.toNatClampNeg) (q_1 6)) = 0 then (some (Sum.inr (Sum.inl s2))) else (some (.inl (s2 + 1))))))
def f_X6_nameIndex (r_3 : Nat → Int32) (q_1 : Nat → Int64) (q_19 : Nat → Int64) : Option (Int32) := ((j_wh (f_X6_nameIndex_w2 r_3 q_1 q_19 ) j_fuel 0).bind (Sum.elim (fun r9 => some r9) (fun (e2 : Unit) => (some (-1)))))
set_option maxRecDepth 100000 in
set_option maxHeartbeats 4000000 in
theorem s_X6_nameIndex (g : JG) (d : JD) (h0 : j_sh g 0 TS_W RS_W) : JM mi_X6_nameIndex 0 0 (g, d) [.ref 3] ((f_X6_nameIndex (d.1 3) (d.2 1) (d.2 19) ).bind (fun r9 => some (some (.int r9), (g, d)))) := by
  refine JM_of (by decide) rfl (Nat.le_of_ble_eq_true rfl) ?_
  refine J_loc (loc' := [(0, .ref 3)]) [0] rfl ?_
  obtain ⟨k, hk, hk2⟩ : ∃ k : Int32 → Option (Option Value × JH), (∀ r9, k r9 = some (some (.int r9), (g, d))) ∧ (fun r9 : Int32 => (some (some (.int r9), (g, d)) : Option (Option Value × JH))) = k := ⟨_, fun _ => rfl, rfl⟩
  rw [hk2]
  unfold f_X6_nameIndex
  refine J_iconst (pc := 0) (v := 0) dX6_nameIndex_0 (by decide) ?_
  refine J_istore_n (pc := 1) (loc' := [(1, .int 0), (0, .ref 3)]) dX6_nameIndex_1 rfl (by decide) rfl ?_
  refine J_loc (loc' := [(0, .ref 3), (1, .int 0)]) [1, 0] rfl ?_
  refine J_whR (F := f_X6_nameIndex_w2 (d.1 3) (d.2 1) (d.2 19) ) (fr := fun r9 => some r9) (k := k) (hp := fun (s2 : Int32) => (g, d)) (lc := fun (s2 : Int32) => [(0, .ref 3), (1, .int s2)]) (XJ := fun (e2 : Unit) o9 => J mi_X6_nameIndex 0 0 0 0 (g, d) 41 [] [] o9) (RJ := fun r9 o9 => o9 = some (some (.int r9), (g, d))) (fun s2 k2 hB2 hR2 hX2 => ?_) (fun e2 => ?_) (fun r9 => hk r9) _ 0
  · show J mi_X6_nameIndex 0 0 0 0 (g, d) 2 [(0, .ref 3), (1, .int s2)] [] ((f_X6_nameIndex_w2 (d.1 3) (d.2 1) (d.2 19) s2).bind k2)
    unfold f_X6_nameIndex_w2
    refine J_iload_n (pc := 2) 1 dX6_nameIndex_2 rfl rfl ?_
    refine J_aload_n (pc := 3) 0 dX6_nameIndex_3 rfl rfl ?_
    refine J_getI (pc := 4) dX6_nameIndex_4 fl_X6_40 (h0.lt 3 (by decide)) (h0.ty 3 rfl) rfl ?_
    refine K_icmp_ge (K := (fun x => Option.bind x k2)) (pc := 7) (tgt := 41) dX6_nameIndex_7 (by decide) (fun z7 => ?_) (fun z7 => ?_)
    · refine J_loc (loc' := []) [] rfl ?_
      exact hX2 ()
    · refine J_iload_n (pc := 10) 1 dX6_nameIndex_10 rfl rfl ?_
      refine J_bipush (pc := 11) (v := 15) dX6_nameIndex_11 (by decide) ?_
      refine K_icmp_ge (K := (fun x => Option.bind x k2)) (pc := 13) (tgt := 41) dX6_nameIndex_13 (by decide) (fun z13 => ?_) (fun z13 => ?_)
      · refine J_loc (loc' := []) [] rfl ?_
        exact hX2 ()
      · refine J_aload_n (pc := 16) 0 dX6_nameIndex_16 rfl rfl ?_
        refine J_getR (pc := 17) dX6_nameIndex_17 fl_X6_18 (h0.lt 3 (by decide)) (h0.ty 3 rfl) rfl (h0.rf 12 rfl) ?_
        refine J_iload_n (pc := 20) 1 dX6_nameIndex_20 rfl rfl ?_
        refine J_guard (fun z21 => ?_)
        refine J_lald (pc := 21) dX6_nameIndex_21 (h0.lt 19 (by decide)) (h0.ty 19 rfl) z21 ?_
        refine J_aload_n (pc := 22) 0 dX6_nameIndex_22 rfl rfl ?_
        refine J_getR (pc := 23) dX6_nameIndex_23 fl_X6_29 (h0.lt 3 (by decide)) (h0.ty 3 rfl) rfl (h0.rf 11 rfl) ?_
        refine J_getL (pc := 26) dX6_nameIndex_26 fl_X6_239 (h0.lt 1 (by decide)) (h0.ty 1 rfl) rfl ?_
        refine J_lcmp (pc := 29) dX6_nameIndex_29 ?_
        refine K_if_ne (K := (fun x => Option.bind x k2)) (pc := 30) (tgt := 35) dX6_nameIndex_30 (by decide) (fun z30 => ?_) (fun z30 => ?_)
        · refine J_iinc (pc := 35) (v := s2 + 1) (loc' := [(1, .int (s2 + 1)), (0, .ref 3)]) 1 dX6_nameIndex_35 rfl rfl (by decide) rfl ?_
          refine J_goto (pc := 38) (tgt := 2) dX6_nameIndex_38 (by decide) ?_
          refine J_loc (loc' := [(0, .ref 3), (1, .int (s2 + 1))]) [1, 0] rfl ?_
          exact hB2 (s2 + 1)
        · refine J_iload_n (pc := 33) 1 dX6_nameIndex_33 rfl rfl ?_
          exact J_eqo (hR2 s2) (J_iret (pc := 34) dX6_nameIndex_34 rfl)
  · show J mi_X6_nameIndex 0 0 0 0 (g, d) 41 [] [] (_)
    refine J_iconst (pc := 41) (v := (-1)) dX6_nameIndex_41 (by decide) ?_
    exact J_eqo (hk (-1)) (J_iret (pc := 42) dX6_nameIndex_42 rfl)
