def f_X8_lookAt_j55 (a : Nat) (d55 : JD) (x2_55 : Int32) : JD := (if (f_X3_isStillWay (d55.1 a) (d55.1 (a + 7)) (d55.1 (a + 8)) x2_55) = true then (j_sI d55 38 2 (((d55.1 38) 2) + 1)) else (d55))
def f_X8_lookAt_j37 (a : Nat) (d37 : JD) (x2_37 : Int32) (x3_37 : Int32) : JD := (if x3_37 ≤ ((d37.1 38) 4) then f_X8_lookAt_j55 a d37 x2_37 else (f_X8_lookAt_j55 a (j_sI (j_sI d37 38 4 x3_37) 38 3 x2_37) x2_37))
def f_X8_lookAt_j32 (a : Nat) (d32 : JD) (x2_32 : Int32) (x3_32 : Int32) : JD := (f_X8_lookAt_j37 a (j_sI d32 38 1 x2_32) x2_32 x3_32)
def f_X8_lookAt (a : Nat) (d : JD) (pq1 : Int32) : JD := (j_let (f_X3_leastWealth (d.1 a) (d.1 (a + 7)) (d.1 (a + 8)) pq1) (fun v3_5 => if v3_5 ≤ 0 then f_X8_lookAt_j37 a d pq1 v3_5 else (if ((d.1 38) 1) = (-1) then f_X8_lookAt_j32 a d pq1 v3_5 else (if (f_X10_hooksIn ((d.1 38) 1)) ≤ (f_X10_hooksIn pq1) then f_X8_lookAt_j37 a d pq1 v3_5 else f_X8_lookAt_j32 a d pq1 v3_5))))
set_option maxRecDepth 100000 in
set_option maxHeartbeats 4000000 in
theorem s_X8_lookAt (g : JG) (d : JD) (a : Nat) (pq1 : Int32) (h0 : j_sh g 0 TS_W RS_W) (ha : j_sh g a TS_CL RS_CL) : JM mi_X8_lookAt 0 0 (g, d) [.ref 38, .ref a, .int pq1] (some (none, (g, (f_X8_lookAt a d pq1)))) := by
  refine JM_of (by decide) rfl (Nat.le_of_ble_eq_true rfl) ?_
  refine J_loc (loc' := [(0, .ref 38), (1, .ref a), (2, .int pq1)]) [0, 1, 2] rfl ?_
  obtain ⟨k, hk⟩ : ∃ k : JD → Option (Option Value × JH), ∀ r9, k r9 = some (none, (g, r9)) := ⟨_, fun _ => rfl⟩
  refine J_eqo (hk (f_X8_lookAt a d pq1)).symm ?_
  unfold f_X8_lookAt
  have hX8_lookAt_j55 : ∀ (d55 : JD) (x2_55 : Int32), J mi_X8_lookAt 0 0 0 0 (g, d55) 55 [(0, .ref 38), (1, .ref a), (2, .int x2_55)] [] (k (f_X8_lookAt_j55 a d55 x2_55)) := by
    intro d55 x2_55
    unfold f_X8_lookAt_j55
    refine J_aload_n (pc := 55) 1 dX8_lookAt_55 rfl rfl ?_
    refine J_iload_n (pc := 56) 2 dX8_lookAt_56 rfl rfl ?_
    refine JC_pt_i (J_callV (mi := mi_X8_lookAt) (mj := mi_X3_isStillWay) (pc := 57) dX8_lookAt_57 ml_X8_60 ok_X3_isStillWay ov_X3_isStillWay ⟨Nat.le_of_ble_eq_true rfl, Nat.le_of_ble_eq_true rfl⟩ rfl (ha.lt 0 (by decide)) (ha.ty 0 rfl) rfl (s_X3_isStillWay g d55 a x2_55 ha) rfl (Nat.le_of_ble_eq_true rfl)) ?_
    refine K_ifeq_b (K := k) (pc := 60) (tgt := 73) dX8_lookAt_60 (by decide) (fun z60 => ?_) (fun z60 => ?_)
    · exact J_eqo (hk d55) (J_vret (pc := 73) dX8_lookAt_73 rfl)
    · refine J_aload_n (pc := 63) 0 dX8_lookAt_63 rfl rfl ?_
      refine J_dup (pc := 64) dX8_lookAt_64 rfl ?_
      refine J_getI (pc := 65) dX8_lookAt_65 fl_X8_19 (h0.lt 38 (by decide)) (h0.ty 38 rfl) rfl ?_
      refine J_iconst (pc := 68) (v := 1) dX8_lookAt_68 (by decide) ?_
      refine J_iadd (pc := 69) dX8_lookAt_69 ?_
      refine J_putI (pc := 70) dX8_lookAt_70 fl_X8_19 ft_8_2 (h0.lt 38 (by decide)) (h0.ty 38 rfl) rfl rfl rfl ?_
      exact J_eqo (hk (j_sI d55 38 2 (((d55.1 38) 2) + 1))) (J_vret (pc := 73) dX8_lookAt_73 rfl)
  have hX8_lookAt_j37 : ∀ (d37 : JD) (x2_37 : Int32) (x3_37 : Int32), J mi_X8_lookAt 0 0 0 0 (g, d37) 37 [(0, .ref 38), (1, .ref a), (2, .int x2_37), (3, .int x3_37)] [] (k (f_X8_lookAt_j37 a d37 x2_37 x3_37)) := by
    intro d37 x2_37 x3_37
    unfold f_X8_lookAt_j37
    refine J_iload_n (pc := 37) 3 dX8_lookAt_37 rfl rfl ?_
    refine J_aload_n (pc := 38) 0 dX8_lookAt_38 rfl rfl ?_
    refine J_getI (pc := 39) dX8_lookAt_39 fl_X8_30 (h0.lt 38 (by decide)) (h0.ty 38 rfl) rfl ?_
    refine K_icmp_le (K := k) (pc := 42) (tgt := 55) dX8_lookAt_42 (by decide) (fun z42 => ?_) (fun z42 => ?_)
    · refine J_loc (loc' := [(0, .ref 38), (1, .ref a), (2, .int x2_37)]) [0, 1, 2] rfl ?_
      exact hX8_lookAt_j55 d37 x2_37
    · refine J_aload_n (pc := 45) 0 dX8_lookAt_45 rfl rfl ?_
      refine J_iload_n (pc := 46) 3 dX8_lookAt_46 rfl rfl ?_
      refine J_putI (pc := 47) dX8_lookAt_47 fl_X8_30 ft_8_4 (h0.lt 38 (by decide)) (h0.ty 38 rfl) rfl rfl rfl ?_
      refine J_aload_n (pc := 50) 0 dX8_lookAt_50 rfl rfl ?_
      refine J_iload_n (pc := 51) 2 dX8_lookAt_51 rfl rfl ?_
      refine J_putI (pc := 52) dX8_lookAt_52 fl_X8_27 ft_8_3 (h0.lt 38 (by decide)) (h0.ty 38 rfl) rfl rfl rfl ?_
      refine J_loc (loc' := [(0, .ref 38), (1, .ref a), (2, .int x2_37)]) [0, 1, 2] rfl ?_
      exact hX8_lookAt_j55 (j_sI (j_sI d37 38 4 x3_37) 38 3 x2_37) x2_37
  have hX8_lookAt_j32 : ∀ (d32 : JD) (x2_32 : Int32) (x3_32 : Int32), J mi_X8_lookAt 0 0 0 0 (g, d32) 32 [(0, .ref 38), (1, .ref a), (2, .int x2_32), (3, .int x3_32)] [] (k (f_X8_lookAt_j32 a d32 x2_32 x3_32)) := by
    intro d32 x2_32 x3_32
    unfold f_X8_lookAt_j32
    refine J_aload_n (pc := 32) 0 dX8_lookAt_32 rfl rfl ?_
    refine J_iload_n (pc := 33) 2 dX8_lookAt_33 rfl rfl ?_
    refine J_putI (pc := 34) dX8_lookAt_34 fl_X8_15 ft_8_1 (h0.lt 38 (by decide)) (h0.ty 38 rfl) rfl rfl rfl ?_
    exact hX8_lookAt_j37 (j_sI d32 38 1 x2_32) x2_32 x3_32
  refine J_aload_n (pc := 0) 1 dX8_lookAt_0 rfl rfl ?_
  refine J_iload_n (pc := 1) 2 dX8_lookAt_1 rfl rfl ?_
  refine JC_pt_i (J_callV (mi := mi_X8_lookAt) (mj := mi_X3_leastWealth) (pc := 2) dX8_lookAt_2 ml_X8_54 ok_X3_leastWealth ov_X3_leastWealth ⟨Nat.le_of_ble_eq_true rfl, Nat.le_of_ble_eq_true rfl⟩ rfl (ha.lt 0 (by decide)) (ha.ty 0 rfl) rfl (s_X3_leastWealth g d a pq1 ha) rfl (Nat.le_of_ble_eq_true rfl)) ?_
  refine J_let (K := k) (fun v3_5 ev3_5 => ?_)
  refine J_val ev3_5.symm ?_
  refine J_istore_n (pc := 5) (loc' := [(3, .int v3_5), (0, .ref 38), (1, .ref a), (2, .int pq1)]) dX8_lookAt_5 rfl (by decide) rfl ?_
  refine J_iload_n (pc := 6) 0 dX8_lookAt_6 rfl rfl ?_
  refine K_if_le (K := k) (pc := 7) (tgt := 37) dX8_lookAt_7 (by decide) (fun z7 => ?_) (fun z7 => ?_)
  · refine J_loc (loc' := [(0, .ref 38), (1, .ref a), (2, .int pq1), (3, .int v3_5)]) [1, 2, 3, 0] rfl ?_
    exact hX8_lookAt_j37 d pq1 v3_5
  · refine J_aload_n (pc := 10) 1 dX8_lookAt_10 rfl rfl ?_
    refine J_getI (pc := 11) dX8_lookAt_11 fl_X8_15 (h0.lt 38 (by decide)) (h0.ty 38 rfl) rfl ?_
    refine J_iconst (pc := 14) (v := (-1)) dX8_lookAt_14 (by decide) ?_
    refine K_icmp_eq (K := k) (pc := 15) (tgt := 32) dX8_lookAt_15 (by decide) (fun z15 => ?_) (fun z15 => ?_)
    · refine J_loc (loc' := [(0, .ref 38), (1, .ref a), (2, .int pq1), (3, .int v3_5)]) [1, 2, 3, 0] rfl ?_
      exact hX8_lookAt_j32 d pq1 v3_5
    · refine J_iload_n (pc := 18) 3 dX8_lookAt_18 rfl rfl ?_
      refine JC_pt_i (J_callS (mi := mi_X8_lookAt) (mj := mi_X10_hooksIn) (pc := 19) dX8_lookAt_19 ml_X8_57 ok_X10_hooksIn os_X10_hooksIn ⟨Nat.le_of_ble_eq_true rfl, Nat.le_of_ble_eq_true rfl⟩ rfl (s_X10_hooksIn g d pq1) rfl (Nat.le_of_ble_eq_true rfl)) ?_
      refine J_aload_n (pc := 22) 1 dX8_lookAt_22 rfl rfl ?_
      refine J_getI (pc := 23) dX8_lookAt_23 fl_X8_15 (h0.lt 38 (by decide)) (h0.ty 38 rfl) rfl ?_
      refine JC_pt_i (J_callS (mi := mi_X8_lookAt) (mj := mi_X10_hooksIn) (pc := 26) dX8_lookAt_26 ml_X8_57 ok_X10_hooksIn os_X10_hooksIn ⟨Nat.le_of_ble_eq_true rfl, Nat.le_of_ble_eq_true rfl⟩ rfl (s_X10_hooksIn g d ((d.1 38) 1)) rfl (Nat.le_of_ble_eq_true rfl)) ?_
      refine K_icmp_ge (K := k) (pc := 29) (tgt := 37) dX8_lookAt_29 (by decide) (fun z29 => ?_) (fun z29 => ?_)
      · refine J_loc (loc' := [(0, .ref 38), (1, .ref a), (2, .int pq1), (3, .int v3_5)]) [1, 2, 3, 0] rfl ?_
        exact hX8_lookAt_j37 d pq1 v3_5
      · refine J_loc (loc' := [(0, .ref 38), (1, .ref a), (2, .int pq1), (3, .int v3_5)]) [1, 2, 3, 0] rfl ?_
        exact hX8_lookAt_j32 d pq1 v3_5
def f_X8_make_j72_38 (a : Nat) (d72_38 : JD) (x2_72_38 : Int32) : Option ((Int32 × JD) ⊕ (JD)) := (some (.inl (x2_72_38 + 1, d72_38)))
def f_X8_make_w38 (a : Nat) (s38 : Int32 × JD) : Option ((Int32 × JD) ⊕ (JD)) := (if (f_X10_codesOf ((s38.2.1 a) 4)) ≤ s38.1 then some (.inr s38.2) else (j_let (f_X10_fromCode s38.1 ((s38.2.1 a) 4)) (fun v3_57_38 => if (f_X3_mayHangSo (s38.2.1 a) v3_57_38) = true then (j_let (f_X8_lookAt a s38.2 v3_57_38) (fun q69_38 => f_X8_make_j72_38 a q69_38 s38.1)) else f_X8_make_j72_38 a s38.2 s38.1)))
def f_X8_make (a : Nat) (d : JD) : Option (JD) := (if ((d.1 38) 0) = 0 then ((j_wh (f_X8_make_w38 a ) j_fuel (0, j_sI (j_sI (j_sI (j_sI (j_sI d 38 0 1) 38 1 (-1)) 38 2 0) 38 3 (((j_sI (j_sI (j_sI d 38 0 1) 38 1 (-1)) 38 2 0).1 a) 6)) 38 4 (-1))).bind (fun (e38 : JD) => (some e38))) else (some d))
set_option maxRecDepth 100000 in
set_option maxHeartbeats 4000000 in
theorem s_X8_make (g : JG) (d : JD) (a : Nat) (h0 : j_sh g 0 TS_W RS_W) (ha : j_sh g a TS_CL RS_CL) : JM mi_X8_make 0 0 (g, d) [.ref 38, .ref a] ((f_X8_make a d ).bind (fun r9 => some (none, (g, r9)))) := by
  refine JM_of (by decide) rfl (Nat.le_of_ble_eq_true rfl) ?_
  refine J_loc (loc' := [(0, .ref 38), (1, .ref a)]) [0, 1] rfl ?_
  obtain ⟨k, hk, hk2⟩ : ∃ k : JD → Option (Option Value × JH), (∀ r9, k r9 = some (none, (g, r9))) ∧ (fun r9 : JD => (some (none, (g, r9)) : Option (Option Value × JH))) = k := ⟨_, fun _ => rfl, rfl⟩
  rw [hk2]
  unfold f_X8_make
  refine J_aload_n (pc := 0) 0 dX8_make_0 rfl rfl ?_
  refine J_getI (pc := 1) dX8_make_1 fl_X8_9 (h0.lt 38 (by decide)) (h0.ty 38 rfl) rfl ?_
  refine K_if_eq (K := (fun x => Option.bind x k)) (pc := 4) (tgt := 8) dX8_make_4 (by decide) (fun z4 => ?_) (fun z4 => ?_)
  · refine J_aload_n (pc := 8) 0 dX8_make_8 rfl rfl ?_
    refine J_iconst (pc := 9) (v := 1) dX8_make_9 (by decide) ?_
    refine J_putI (pc := 10) dX8_make_10 fl_X8_9 ft_8_0 (h0.lt 38 (by decide)) (h0.ty 38 rfl) rfl rfl rfl ?_
    refine J_aload_n (pc := 13) 0 dX8_make_13 rfl rfl ?_
    refine J_iconst (pc := 14) (v := (-1)) dX8_make_14 (by decide) ?_
    refine J_putI (pc := 15) dX8_make_15 fl_X8_15 ft_8_1 (h0.lt 38 (by decide)) (h0.ty 38 rfl) rfl rfl rfl ?_
    refine J_aload_n (pc := 18) 0 dX8_make_18 rfl rfl ?_
    refine J_iconst (pc := 19) (v := 0) dX8_make_19 (by decide) ?_
    refine J_putI (pc := 20) dX8_make_20 fl_X8_19 ft_8_2 (h0.lt 38 (by decide)) (h0.ty 38 rfl) rfl rfl rfl ?_
    refine J_aload_n (pc := 23) 0 dX8_make_23 rfl rfl ?_
    refine J_aload_n (pc := 24) 1 dX8_make_24 rfl rfl ?_
    refine J_getI (pc := 25) dX8_make_25 fl_X8_22 (ha.lt 0 (by decide)) (ha.ty 0 rfl) rfl ?_
    refine J_putI (pc := 28) dX8_make_28 fl_X8_27 ft_8_3 (h0.lt 38 (by decide)) (h0.ty 38 rfl) rfl rfl rfl ?_
    refine J_aload_n (pc := 31) 0 dX8_make_31 rfl rfl ?_
    refine J_iconst (pc := 32) (v := (-1)) dX8_make_32 (by decide) ?_
    refine J_putI (pc := 33) dX8_make_33 fl_X8_30 ft_8_4 (h0.lt 38 (by decide)) (h0.ty 38 rfl) rfl rfl rfl ?_
    refine J_iconst (pc := 36) (v := 0) dX8_make_36 (by decide) ?_
    refine J_istore_n (pc := 37) (loc' := [(2, .int 0), (0, .ref 38), (1, .ref a)]) dX8_make_37 rfl (by decide) rfl ?_
    refine J_loc (loc' := [(0, .ref 38), (1, .ref a), (2, .int 0)]) [1, 2, 0] rfl ?_
    refine J_whL (F := f_X8_make_w38 a ) (hp := fun (s38 : Int32 × JD) => (g, s38.2)) (lc := fun (s38 : Int32 × JD) => [(0, .ref 38), (1, .ref a), (2, .int s38.1)]) (XJ := fun (e38 : JD) o9 => J mi_X8_make 0 0 0 0 (g, e38) 78 [] [] o9) (fun s38 k38 hB38 hX38 => ?_) (fun e38 => ?_) _ (0, j_sI (j_sI (j_sI (j_sI (j_sI d 38 0 1) 38 1 (-1)) 38 2 0) 38 3 (((j_sI (j_sI (j_sI d 38 0 1) 38 1 (-1)) 38 2 0).1 a) 6)) 38 4 (-1))
    · show J mi_X8_make 0 0 0 0 (g, s38.2) 38 [(0, .ref 38), (1, .ref a), (2, .int s38.1)] [] ((f_X8_make_w38 a s38).bind k38)
      unfold f_X8_make_w38
      have hX8_make_j72_38 : ∀ (d72_38 : JD) (x2_72_38 : Int32), J mi_X8_make 0 0 0 0 (g, d72_38) 72 [(0, .ref 38), (1, .ref a), (2, .int x2_72_38)] [] ((f_X8_make_j72_38 a d72_38 x2_72_38).bind k38) := by
        intro d72_38 x2_72_38
        unfold f_X8_make_j72_38
        refine J_iinc (pc := 72) (v := x2_72_38 + 1) (loc' := [(2, .int (x2_72_38 + 1)), (0, .ref 38), (1, .ref a)]) 2 dX8_make_72 rfl rfl (by decide) rfl ?_
        refine J_goto (pc := 75) (tgt := 38) dX8_make_75 (by decide) ?_
        refine J_loc (loc' := [(0, .ref 38), (1, .ref a), (2, .int (x2_72_38 + 1))]) [1, 2, 0] rfl ?_
        exact hB38 (x2_72_38 + 1, d72_38)
      refine J_iload_n (pc := 38) 2 dX8_make_38 rfl rfl ?_
      refine J_aload_n (pc := 39) 1 dX8_make_39 rfl rfl ?_
      refine J_getI (pc := 40) dX8_make_40 fl_X8_33 (ha.lt 0 (by decide)) (ha.ty 0 rfl) rfl ?_
      refine JC_pt_i (J_callS (mi := mi_X8_make) (mj := mi_X10_codesOf) (pc := 43) dX8_make_43 ml_X8_36 ok_X10_codesOf os_X10_codesOf ⟨Nat.le_of_ble_eq_true rfl, Nat.le_of_ble_eq_true rfl⟩ rfl (s_X10_codesOf g s38.2 ((s38.2.1 a) 4)) rfl (Nat.le_of_ble_eq_true rfl)) ?_
      refine K_icmp_ge (K := (fun x => Option.bind x k38)) (pc := 46) (tgt := 78) dX8_make_46 (by decide) (fun z46 => ?_) (fun z46 => ?_)
      · refine J_loc (loc' := []) [] rfl ?_
        exact hX38 s38.2
      · refine J_iload_n (pc := 49) 2 dX8_make_49 rfl rfl ?_
        refine J_aload_n (pc := 50) 1 dX8_make_50 rfl rfl ?_
        refine J_getI (pc := 51) dX8_make_51 fl_X8_33 (ha.lt 0 (by decide)) (ha.ty 0 rfl) rfl ?_
        refine JC_pt_i (J_callS (mi := mi_X8_make) (mj := mi_X10_fromCode) (pc := 54) dX8_make_54 ml_X8_42 ok_X10_fromCode os_X10_fromCode ⟨Nat.le_of_ble_eq_true rfl, Nat.le_of_ble_eq_true rfl⟩ rfl (s_X10_fromCode g s38.2 s38.1 ((s38.2.1 a) 4)) rfl (Nat.le_of_ble_eq_true rfl)) ?_
        refine J_let (K := (fun x => Option.bind x k38)) (fun v3_57_38 ev3_57_38 => ?_)
        refine J_val ev3_57_38.symm ?_
        refine J_istore_n (pc := 57) (loc' := [(3, .int v3_57_38), (0, .ref 38), (1, .ref a), (2, .int s38.1)]) dX8_make_57 rfl (by decide) rfl ?_
        refine J_aload_n (pc := 58) 2 dX8_make_58 rfl rfl ?_
        refine J_iload_n (pc := 59) 0 dX8_make_59 rfl rfl ?_
        refine JC_pt_i (J_callV (mi := mi_X8_make) (mj := mi_X3_mayHangSo) (pc := 60) dX8_make_60 ml_X8_46 ok_X3_mayHangSo ov_X3_mayHangSo ⟨Nat.le_of_ble_eq_true rfl, Nat.le_of_ble_eq_true rfl⟩ rfl (ha.lt 0 (by decide)) (ha.ty 0 rfl) rfl (s_X3_mayHangSo g s38.2 a v3_57_38 ha) rfl (Nat.le_of_ble_eq_true rfl)) ?_
        refine K_ifeq_b (K := (fun x => Option.bind x k38)) (pc := 63) (tgt := 72) dX8_make_63 (by decide) (fun z63 => ?_) (fun z63 => ?_)
        · refine J_loc (loc' := [(0, .ref 38), (1, .ref a), (2, .int s38.1)]) [1, 2, 3] rfl ?_
          exact hX8_make_j72_38 s38.2 s38.1
        · refine J_aload_n (pc := 66) 1 dX8_make_66 rfl rfl ?_
          refine J_aload_n (pc := 67) 2 dX8_make_67 rfl rfl ?_
          refine J_iload_n (pc := 68) 0 dX8_make_68 rfl rfl ?_
          refine JC_lt_v (K := (fun x => Option.bind x k38)) (J_callV (mi := mi_X8_make) (mj := mi_X8_lookAt) (pc := 69) dX8_make_69 ml_X8_50 ok_X8_lookAt ov_X8_lookAt ⟨Nat.le_of_ble_eq_true rfl, Nat.le_of_ble_eq_true rfl⟩ rfl (h0.lt 38 (by decide)) (h0.ty 38 rfl) rfl (s_X8_lookAt g s38.2 a v3_57_38 h0 ha) rfl (Nat.le_of_ble_eq_true rfl)) (fun q69_38 eq69_38 => ?_)
          refine J_loc (loc' := [(0, .ref 38), (1, .ref a), (2, .int s38.1)]) [1, 2, 3] rfl ?_
          exact hX8_make_j72_38 q69_38 s38.1
    · show J mi_X8_make 0 0 0 0 (g, e38) 78 [] [] (_)
      exact J_eqo (hk e38) (J_vret (pc := 78) dX8_make_78 rfl)
  · exact J_eqo (hk d) (J_vret (pc := 7) dX8_make_7 rfl)
def f_X9_hasRoomForFive (r_1 : Nat → Int32) : Bool := (if 900 < ((r_1 1) + 20) then (false) else (true))
set_option maxRecDepth 100000 in
set_option maxHeartbeats 4000000 in
theorem s_X9_hasRoomForFive (g : JG) (d : JD) (h0 : j_sh g 0 TS_W RS_W) : JM mi_X9_hasRoomForFive 0 0 (g, d) [.ref 1] (some (some (.int (j_b (f_X9_hasRoomForFive (d.1 1) ))), (g, d))) := by
  refine JM_of (by decide) rfl (Nat.le_of_ble_eq_true rfl) ?_
  refine J_loc (loc' := [(0, .ref 1)]) [0] rfl ?_
  obtain ⟨k, hk⟩ : ∃ k : Bool → Option (Option Value × JH), ∀ r9, k r9 = some (some (.int (j_b r9)), (g, d)) := ⟨_, fun _ => rfl⟩
  refine J_eqo (hk (f_X9_hasRoomForFive (d.1 1) )).symm ?_
  unfold f_X9_hasRoomForFive
  refine J_aload_n (pc := 0) 0 dX9_hasRoomForFive_0 rfl rfl ?_
  refine J_getI (pc := 1) dX9_hasRoomForFive_1 fl_X9_15 (h0.lt 1 (by decide)) (h0.ty 1 rfl) rfl ?_
  refine J_bipush (pc := 4) (v := 20) dX9_hasRoomForFive_4 (by decide) ?_
  refine J_iadd (pc := 6) dX9_hasRoomForFive_6 ?_
  refine J_sipush (pc := 7) (v := 900) dX9_hasRoomForFive_7 (by decide) ?_
  refine K_icmp_gt (K := k) (pc := 10) (tgt := 17) dX9_hasRoomForFive_10 (by decide) (fun z10 => ?_) (fun z10 => ?_)
  · refine J_iconst (pc := 17) (v := 0) dX9_hasRoomForFive_17 (by decide) ?_
    exact J_eqo (hk false) (J_zretB (pc := 18) dX9_hasRoomForFive_18 rfl)
  · refine J_iconst (pc := 13) (v := 1) dX9_hasRoomForFive_13 (by decide) ?_
    refine J_goto (pc := 14) (tgt := 18) dX9_hasRoomForFive_14 (by decide) ?_
    exact J_eqo (hk true) (J_zretB (pc := 18) dX9_hasRoomForFive_18 rfl)
def f_X9_addNumber_j49_3 (c1_3 : Int32) (d49_3 : JD) (x2_49_3 : Int32) : Option ((Int32 × JD) ⊕ (JD)) := (some (.inl (x2_49_3 + (-8), d49_3)))
def f_X9_addNumber_w3 (c1_3 : Int32) (s3 : Int32 × JD) : Option ((Int32 × JD) ⊕ (JD)) := (if s3.1 < 0 then some (.inr s3.2) else (if ((s3.2.1 1) 1) < 0 then f_X9_addNumber_j49_3 (c1_3) s3.2 s3.1 else (if 900 ≤ ((s3.2.1 1) 1) then f_X9_addNumber_j49_3 (c1_3) s3.2 s3.1 else (f_X9_addNumber_j49_3 (c1_3) (j_sI (j_sI s3.2 2 (((s3.2.1 1) 1).toNatClampNeg) (vp_nar .byte (((c1_3) >>> (s3.1 &&& 31)).toInt8.toInt32))) 1 1 (((s3.2.1 1) 1) + 1)) s3.1))))
def f_X9_addNumber (d : JD) (pq0 : Int32) : Option (JD) := ((j_wh (f_X9_addNumber_w3 pq0 ) j_fuel (24, d)).bind (fun (e3 : JD) => (some e3)))
set_option maxRecDepth 100000 in
set_option maxHeartbeats 4000000 in
theorem s_X9_addNumber (g : JG) (d : JD) (pq0 : Int32) (h0 : j_sh g 0 TS_W RS_W) : JM mi_X9_addNumber 0 0 (g, d) [.ref 1, .int pq0] ((f_X9_addNumber d pq0).bind (fun r9 => some (none, (g, r9)))) := by
  refine JM_of (by decide) rfl (Nat.le_of_ble_eq_true rfl) ?_
  refine J_loc (loc' := [(0, .ref 1), (1, .int pq0)]) [0, 1] rfl ?_
  obtain ⟨k, hk, hk2⟩ : ∃ k : JD → Option (Option Value × JH), (∀ r9, k r9 = some (none, (g, r9))) ∧ (fun r9 : JD => (some (none, (g, r9)) : Option (Option Value × JH))) = k := ⟨_, fun _ => rfl, rfl⟩
  rw [hk2]
  unfold f_X9_addNumber
  refine J_bipush (pc := 0) (v := 24) dX9_addNumber_0 (by decide) ?_
  refine J_istore_n (pc := 2) (loc' := [(2, .int 24), (0, .ref 1), (1, .int pq0)]) dX9_addNumber_2 rfl (by decide) rfl ?_
  refine J_loc (loc' := [(0, .ref 1), (1, .int pq0), (2, .int 24)]) [1, 2, 0] rfl ?_
  refine J_whL (F := f_X9_addNumber_w3 pq0 ) (hp := fun (s3 : Int32 × JD) => (g, s3.2)) (lc := fun (s3 : Int32 × JD) => [(0, .ref 1), (1, .int (pq0)), (2, .int s3.1)]) (XJ := fun (e3 : JD) o9 => J mi_X9_addNumber 0 0 0 0 (g, e3) 55 [] [] o9) (fun s3 k3 hB3 hX3 => ?_) (fun e3 => ?_) _ (24, d)
  · show J mi_X9_addNumber 0 0 0 0 (g, s3.2) 3 [(0, .ref 1), (1, .int (pq0)), (2, .int s3.1)] [] ((f_X9_addNumber_w3 pq0 s3).bind k3)
    unfold f_X9_addNumber_w3
    have hX9_addNumber_j49_3 : ∀ (d49_3 : JD) (x2_49_3 : Int32), J mi_X9_addNumber 0 0 0 0 (g, d49_3) 49 [(0, .ref 1), (1, .int (pq0)), (2, .int x2_49_3)] [] ((f_X9_addNumber_j49_3 pq0 d49_3 x2_49_3).bind k3) := by
      intro d49_3 x2_49_3
      unfold f_X9_addNumber_j49_3
      refine J_iinc (pc := 49) (v := x2_49_3 + (-8)) (loc' := [(2, .int (x2_49_3 + (-8))), (0, .ref 1), (1, .int (pq0))]) 2 dX9_addNumber_49 rfl rfl (by decide) rfl ?_
      refine J_goto (pc := 52) (tgt := 3) dX9_addNumber_52 (by decide) ?_
      refine J_loc (loc' := [(0, .ref 1), (1, .int (pq0)), (2, .int (x2_49_3 + (-8)))]) [1, 2, 0] rfl ?_
      exact hB3 (x2_49_3 + (-8), d49_3)
    refine J_iload_n (pc := 3) 2 dX9_addNumber_3 rfl rfl ?_
    refine K_if_lt (K := (fun x => Option.bind x k3)) (pc := 4) (tgt := 55) dX9_addNumber_4 (by decide) (fun z4 => ?_) (fun z4 => ?_)
    · refine J_loc (loc' := []) [] rfl ?_
      exact hX3 s3.2
    · refine J_aload_n (pc := 7) 0 dX9_addNumber_7 rfl rfl ?_
      refine J_getI (pc := 8) dX9_addNumber_8 fl_X9_15 (h0.lt 1 (by decide)) (h0.ty 1 rfl) rfl ?_
      refine K_if_lt (K := (fun x => Option.bind x k3)) (pc := 11) (tgt := 49) dX9_addNumber_11 (by decide) (fun z11 => ?_) (fun z11 => ?_)
      · exact hX9_addNumber_j49_3 s3.2 s3.1
      · refine J_aload_n (pc := 14) 0 dX9_addNumber_14 rfl rfl ?_
        refine J_getI (pc := 15) dX9_addNumber_15 fl_X9_15 (h0.lt 1 (by decide)) (h0.ty 1 rfl) rfl ?_
        refine J_aload_n (pc := 18) 0 dX9_addNumber_18 rfl rfl ?_
        refine J_getR (pc := 19) dX9_addNumber_19 fl_X9_9 (h0.lt 1 (by decide)) (h0.ty 1 rfl) rfl (h0.rf 10 rfl) ?_
        refine J_alenB (pc := 22) (v := 900) dX9_addNumber_22 (h0.lt 2 (by decide)) (h0.ty 2 rfl) rfl ?_
        refine K_icmp_ge (K := (fun x => Option.bind x k3)) (pc := 23) (tgt := 49) dX9_addNumber_23 (by decide) (fun z23 => ?_) (fun z23 => ?_)
        · exact hX9_addNumber_j49_3 s3.2 s3.1
        · refine J_aload_n (pc := 26) 0 dX9_addNumber_26 rfl rfl ?_
          refine J_getR (pc := 27) dX9_addNumber_27 fl_X9_9 (h0.lt 1 (by decide)) (h0.ty 1 rfl) rfl (h0.rf 10 rfl) ?_
          refine J_aload_n (pc := 30) 0 dX9_addNumber_30 rfl rfl ?_
          refine J_getI (pc := 31) dX9_addNumber_31 fl_X9_15 (h0.lt 1 (by decide)) (h0.ty 1 rfl) rfl ?_
          refine J_iload_n (pc := 34) 1 dX9_addNumber_34 rfl rfl ?_
          refine J_iload_n (pc := 35) 2 dX9_addNumber_35 rfl rfl ?_
          refine J_ishr (pc := 36) dX9_addNumber_36 ?_
          refine J_i2b (pc := 37) dX9_addNumber_37 ?_
          refine J_bast (pc := 38) dX9_addNumber_38 (h0.lt 2 (by decide)) (h0.ty 2 rfl) (j_inb (by decide) z11 z23) ?_
          refine J_aload_n (pc := 39) 0 dX9_addNumber_39 rfl rfl ?_
          refine J_dup (pc := 40) dX9_addNumber_40 rfl ?_
          refine J_getI (pc := 41) dX9_addNumber_41 fl_X9_15 (h0.lt 1 (by decide)) (h0.ty 1 rfl) rfl ?_
          refine J_val (y := (s3.2.1 1) 1) rfl ?_
          refine J_iconst (pc := 44) (v := 1) dX9_addNumber_44 (by decide) ?_
          refine J_iadd (pc := 45) dX9_addNumber_45 ?_
          refine J_putI (pc := 46) dX9_addNumber_46 fl_X9_15 ft_9_1 (h0.lt 1 (by decide)) (h0.ty 1 rfl) rfl rfl rfl ?_
          exact hX9_addNumber_j49_3 (j_sI (j_sI s3.2 2 (((s3.2.1 1) 1).toNatClampNeg) (vp_nar .byte (((pq0) >>> (s3.1 &&& 31)).toInt8.toInt32))) 1 1 (((s3.2.1 1) 1) + 1)) s3.1
  · show J mi_X9_addNumber 0 0 0 0 (g, e3) 55 [] [] (_)
    exact J_eqo (hk e3) (J_vret (pc := 55) dX9_addNumber_55 rfl)
def f_X11_feed (d : JD) (pq0 : Int32) (pq1 : Int32) (pq2 : Int32) (pq3 : Int32) (pq4 : Int32) : Option (Int32 × JD) := (if (f_X9_hasRoomForFive (d.1 1)) = true then ((f_X9_addNumber d pq0).bind (fun q17 => (f_X9_addNumber q17 pq1).bind (fun q25 => (f_X9_addNumber q25 pq2).bind (fun q33 => (f_X9_addNumber q33 pq3).bind (fun q42 => (f_X9_addNumber q42 pq4).bind (fun q51 => some ((q51.1 1) 1, q51))))))) else (some ((-1), d)))
set_option maxRecDepth 100000 in
set_option maxHeartbeats 4000000 in
theorem s_X11_feed (g : JG) (d : JD) (pq0 : Int32) (pq1 : Int32) (pq2 : Int32) (pq3 : Int32) (pq4 : Int32) (h0 : j_sh g 0 TS_W RS_W) : JM mi_X11_feed 0 0 (g, d) [.ref 0, .int pq0, .int pq1, .int pq2, .int pq3, .int pq4] ((f_X11_feed d pq0 pq1 pq2 pq3 pq4).bind (fun r9 => some (some (.int r9.1), (g, r9.2)))) := by
  refine JM_of (by decide) rfl (Nat.le_of_ble_eq_true rfl) ?_
  refine J_loc (loc' := [(0, .ref 0), (1, .int pq0), (2, .int pq1), (3, .int pq2), (4, .int pq3), (5, .int pq4)]) [0, 1, 2, 3, 4, 5] rfl ?_
  obtain ⟨k, hk, hk2⟩ : ∃ k : Int32 × JD → Option (Option Value × JH), (∀ r9, k r9 = some (some (.int r9.1), (g, r9.2))) ∧ (fun r9 : Int32 × JD => (some (some (.int r9.1), (g, r9.2)) : Option (Option Value × JH))) = k := ⟨_, fun _ => rfl, rfl⟩
  rw [hk2]
  unfold f_X11_feed
  refine J_aload_n (pc := 0) 0 dX11_feed_0 rfl rfl ?_
  refine J_getR (pc := 1) dX11_feed_1 fl_X11_10 (h0.lt 0 (by decide)) (h0.ty 0 rfl) rfl (h0.rf 0 rfl) ?_
  refine JC_pt_i (J_callV (mi := mi_X11_feed) (mj := mi_X9_hasRoomForFive) (pc := 4) dX11_feed_4 ml_X11_92 ok_X9_hasRoomForFive ov_X9_hasRoomForFive ⟨Nat.le_of_ble_eq_true rfl, Nat.le_of_ble_eq_true rfl⟩ rfl (h0.lt 1 (by decide)) (h0.ty 1 rfl) rfl (s_X9_hasRoomForFive g d h0) rfl (Nat.le_of_ble_eq_true rfl)) ?_
  refine K_ifne_b (K := (fun x => Option.bind x k)) (pc := 7) (tgt := 12) dX11_feed_7 (by decide) (fun z7 => ?_) (fun z7 => ?_)
  · refine J_aload_n (pc := 12) 0 dX11_feed_12 rfl rfl ?_
    refine J_getR (pc := 13) dX11_feed_13 fl_X11_10 (h0.lt 0 (by decide)) (h0.ty 0 rfl) rfl (h0.rf 0 rfl) ?_
    refine J_iload_n (pc := 16) 1 dX11_feed_16 rfl rfl ?_
    refine JC_pe_v (J_callV (mi := mi_X11_feed) (mj := mi_X9_addNumber) (pc := 17) dX11_feed_17 ml_X11_96 ok_X9_addNumber ov_X9_addNumber ⟨Nat.le_of_ble_eq_true rfl, Nat.le_of_ble_eq_true rfl⟩ rfl (h0.lt 1 (by decide)) (h0.ty 1 rfl) rfl (s_X9_addNumber g d pq0 h0) rfl (Nat.le_of_ble_eq_true rfl)) (fun q17 => ?_)
    refine J_aload_n (pc := 20) 0 dX11_feed_20 rfl rfl ?_
    refine J_getR (pc := 21) dX11_feed_21 fl_X11_10 (h0.lt 0 (by decide)) (h0.ty 0 rfl) rfl (h0.rf 0 rfl) ?_
    refine J_iload_n (pc := 24) 2 dX11_feed_24 rfl rfl ?_
    refine JC_pe_v (J_callV (mi := mi_X11_feed) (mj := mi_X9_addNumber) (pc := 25) dX11_feed_25 ml_X11_96 ok_X9_addNumber ov_X9_addNumber ⟨Nat.le_of_ble_eq_true rfl, Nat.le_of_ble_eq_true rfl⟩ rfl (h0.lt 1 (by decide)) (h0.ty 1 rfl) rfl (s_X9_addNumber g q17 pq1 h0) rfl (Nat.le_of_ble_eq_true rfl)) (fun q25 => ?_)
    refine J_aload_n (pc := 28) 0 dX11_feed_28 rfl rfl ?_
    refine J_getR (pc := 29) dX11_feed_29 fl_X11_10 (h0.lt 0 (by decide)) (h0.ty 0 rfl) rfl (h0.rf 0 rfl) ?_
    refine J_iload_n (pc := 32) 3 dX11_feed_32 rfl rfl ?_
    refine JC_pe_v (J_callV (mi := mi_X11_feed) (mj := mi_X9_addNumber) (pc := 33) dX11_feed_33 ml_X11_96 ok_X9_addNumber ov_X9_addNumber ⟨Nat.le_of_ble_eq_true rfl, Nat.le_of_ble_eq_true rfl⟩ rfl (h0.lt 1 (by decide)) (h0.ty 1 rfl) rfl (s_X9_addNumber g q25 pq2 h0) rfl (Nat.le_of_ble_eq_true rfl)) (fun q33 => ?_)
    refine J_aload_n (pc := 36) 0 dX11_feed_36 rfl rfl ?_
    refine J_getR (pc := 37) dX11_feed_37 fl_X11_10 (h0.lt 0 (by decide)) (h0.ty 0 rfl) rfl (h0.rf 0 rfl) ?_
    refine J_iload (pc := 40) 4 dX11_feed_40 rfl ?_
    refine JC_pe_v (J_callV (mi := mi_X11_feed) (mj := mi_X9_addNumber) (pc := 42) dX11_feed_42 ml_X11_96 ok_X9_addNumber ov_X9_addNumber ⟨Nat.le_of_ble_eq_true rfl, Nat.le_of_ble_eq_true rfl⟩ rfl (h0.lt 1 (by decide)) (h0.ty 1 rfl) rfl (s_X9_addNumber g q33 pq3 h0) rfl (Nat.le_of_ble_eq_true rfl)) (fun q42 => ?_)
    refine J_aload_n (pc := 45) 0 dX11_feed_45 rfl rfl ?_
    refine J_getR (pc := 46) dX11_feed_46 fl_X11_10 (h0.lt 0 (by decide)) (h0.ty 0 rfl) rfl (h0.rf 0 rfl) ?_
    refine J_iload (pc := 49) 5 dX11_feed_49 rfl ?_
    refine JC_pe_v (J_callV (mi := mi_X11_feed) (mj := mi_X9_addNumber) (pc := 51) dX11_feed_51 ml_X11_96 ok_X9_addNumber ov_X9_addNumber ⟨Nat.le_of_ble_eq_true rfl, Nat.le_of_ble_eq_true rfl⟩ rfl (h0.lt 1 (by decide)) (h0.ty 1 rfl) rfl (s_X9_addNumber g q42 pq4 h0) rfl (Nat.le_of_ble_eq_true rfl)) (fun q51 => ?_)
    refine J_aload_n (pc := 54) 0 dX11_feed_54 rfl rfl ?_
    refine J_getR (pc := 55) dX11_feed_55 fl_X11_10 (h0.lt 0 (by decide)) (h0.ty 0 rfl) rfl (h0.rf 0 rfl) ?_
    refine J_getI (pc := 58) dX11_feed_58 fl_X11_99 (h0.lt 1 (by decide)) (h0.ty 1 rfl) rfl ?_
    exact J_eqo (hk ((q51.1 1) 1, q51)) (J_iret (pc := 61) dX11_feed_61 rfl)
  · refine J_iconst (pc := 10) (v := (-1)) dX11_feed_10 (by decide) ?_
    exact J_eqo (hk ((-1), d)) (J_iret (pc := 11) dX11_feed_11 rfl)
def f_X11_refused (d : JD) (pq0 : Int32) : Int32 × JD := ((-1), j_sI d 0 11 pq0)
set_option maxRecDepth 100000 in
set_option maxHeartbeats 4000000 in
theorem s_X11_refused (g : JG) (d : JD) (pq0 : Int32) (h0 : j_sh g 0 TS_W RS_W) : JM mi_X11_refused 0 0 (g, d) [.ref 0, .int pq0] (some (some (.int (f_X11_refused d pq0).1), (g, (f_X11_refused d pq0).2))) := by
  refine JM_of (by decide) rfl (Nat.le_of_ble_eq_true rfl) ?_
  refine J_loc (loc' := [(0, .ref 0), (1, .int pq0)]) [0, 1] rfl ?_
  obtain ⟨k, hk⟩ : ∃ k : Int32 × JD → Option (Option Value × JH), ∀ r9, k r9 = some (some (.int r9.1), (g, r9.2)) := ⟨_, fun _ => rfl⟩
  refine J_eqo (hk (f_X11_refused d pq0)).symm ?_
  unfold f_X11_refused
  refine J_aload_n (pc := 0) 0 dX11_refused_0 rfl rfl ?_
  refine J_iload_n (pc := 1) 1 dX11_refused_1 rfl rfl ?_
  refine J_putI (pc := 2) dX11_refused_2 fl_X11_82 ft_10_11 (h0.lt 0 (by decide)) (h0.ty 0 rfl) rfl rfl rfl ?_
  refine J_iconst (pc := 5) (v := (-1)) dX11_refused_5 (by decide) ?_
  exact J_eqo (hk ((-1), j_sI d 0 11 pq0)) (J_iret (pc := 6) dX11_refused_6 rfl)
def f_X11_answered (d : JD) (pq0 : Int32) : Int32 × JD := (pq0, j_sI d 0 11 0)
set_option maxRecDepth 100000 in
set_option maxHeartbeats 4000000 in
theorem s_X11_answered (g : JG) (d : JD) (pq0 : Int32) (h0 : j_sh g 0 TS_W RS_W) : JM mi_X11_answered 0 0 (g, d) [.ref 0, .int pq0] (some (some (.int (f_X11_answered d pq0).1), (g, (f_X11_answered d pq0).2))) := by
  refine JM_of (by decide) rfl (Nat.le_of_ble_eq_true rfl) ?_
  refine J_loc (loc' := [(0, .ref 0), (1, .int pq0)]) [0, 1] rfl ?_
  obtain ⟨k, hk⟩ : ∃ k : Int32 × JD → Option (Option Value × JH), ∀ r9, k r9 = some (some (.int r9.1), (g, r9.2)) := ⟨_, fun _ => rfl⟩
  refine J_eqo (hk (f_X11_answered d pq0)).symm ?_
  unfold f_X11_answered
  refine J_aload_n (pc := 0) 0 dX11_answered_0 rfl rfl ?_
  refine J_iconst (pc := 1) (v := 0) dX11_answered_1 (by decide) ?_
  refine J_putI (pc := 2) dX11_answered_2 fl_X11_82 ft_10_11 (h0.lt 0 (by decide)) (h0.ty 0 rfl) rfl rfl rfl ?_
  refine J_iload_n (pc := 5) 1 dX11_answered_5 rfl rfl ?_
  exact J_eqo (hk (pq0, j_sI d 0 11 0)) (J_iret (pc := 6) dX11_answered_6 rfl)
def f_X11_fault (r_0 : Nat → Int32) : Int32 := (r_0 12)
set_option maxRecDepth 100000 in
set_option maxHeartbeats 4000000 in
theorem s_X11_fault (g : JG) (d : JD) (h0 : j_sh g 0 TS_W RS_W) : JM mi_X11_fault 0 0 (g, d) [.ref 0] (some (some (.int (f_X11_fault (d.1 0) )), (g, d))) := by
  refine JM_of (by decide) rfl (Nat.le_of_ble_eq_true rfl) ?_
  refine J_loc (loc' := [(0, .ref 0)]) [0] rfl ?_
  obtain ⟨k, hk⟩ : ∃ k : Int32 → Option (Option Value × JH), ∀ r9, k r9 = some (some (.int r9), (g, d)) := ⟨_, fun _ => rfl⟩
  refine J_eqo (hk (f_X11_fault (d.1 0) )).symm ?_
  unfold f_X11_fault
  refine J_aload_n (pc := 0) 0 dX11_fault_0 rfl rfl ?_
  refine J_getI (pc := 1) dX11_fault_1 fl_X11_86 (h0.lt 0 (by decide)) (h0.ty 0 rfl) rfl ?_
  exact J_eqo (hk ((d.1 0) 12)) (J_iret (pc := 4) dX11_fault_4 rfl)
def f_X11_where (r_0 : Nat → Int32) : Int32 := (if (r_0 11) = 4 then (r_0 13) else (-1))
set_option maxRecDepth 100000 in
set_option maxHeartbeats 4000000 in
theorem s_X11_where (g : JG) (d : JD) (h0 : j_sh g 0 TS_W RS_W) : JM mi_X11_where 0 0 (g, d) [.ref 0] (some (some (.int (f_X11_where (d.1 0) )), (g, d))) := by
  refine JM_of (by decide) rfl (Nat.le_of_ble_eq_true rfl) ?_
  refine J_loc (loc' := [(0, .ref 0)]) [0] rfl ?_
  obtain ⟨k, hk⟩ : ∃ k : Int32 → Option (Option Value × JH), ∀ r9, k r9 = some (some (.int r9), (g, d)) := ⟨_, fun _ => rfl⟩
  refine J_eqo (hk (f_X11_where (d.1 0) )).symm ?_
  unfold f_X11_where
  refine J_aload_n (pc := 0) 0 dX11_where_0 rfl rfl ?_
  refine J_getI (pc := 1) dX11_where_1 fl_X11_82 (h0.lt 0 (by decide)) (h0.ty 0 rfl) rfl ?_
  refine J_iconst (pc := 4) (v := 4) dX11_where_4 (by decide) ?_
  refine K_icmp_ne (K := k) (pc := 5) (tgt := 15) dX11_where_5 (by decide) (fun z5 => ?_) (fun z5 => ?_)
  · refine J_iconst (pc := 15) (v := (-1)) dX11_where_15 (by decide) ?_
    exact J_eqo (hk (-1)) (J_iret (pc := 16) dX11_where_16 rfl)
  · refine J_aload_n (pc := 8) 0 dX11_where_8 rfl rfl ?_
    refine J_getI (pc := 9) dX11_where_9 fl_X11_89 (h0.lt 0 (by decide)) (h0.ty 0 rfl) rfl ?_
    refine J_goto (pc := 12) (tgt := 16) dX11_where_12 (by decide) ?_
    exact J_eqo (hk ((d.1 0) 13)) (J_iret (pc := 16) dX11_where_16 rfl)
def f_X11_isGate (r_a0 : Nat → Int32) (pq0 : Int32) : Bool := (if pq0 < 0 then (false) else (if (r_a0 4) ≤ pq0 then (false) else (true)))
set_option maxRecDepth 100000 in
set_option maxHeartbeats 4000000 in
theorem s_X11_isGate (g : JG) (d : JD) (a : Nat) (pq0 : Int32) (h0 : j_sh g 0 TS_W RS_W) (ha : j_sh g a TS_CL RS_CL) (hco : g.2.2.1 0 10 = some a) : JM mi_X11_isGate 0 0 (g, d) [.ref 0, .int pq0] (some (some (.int (j_b (f_X11_isGate (d.1 a) pq0))), (g, d))) := by
  refine JM_of (by decide) rfl (Nat.le_of_ble_eq_true rfl) ?_
  refine J_loc (loc' := [(0, .ref 0), (1, .int pq0)]) [0, 1] rfl ?_
  obtain ⟨k, hk⟩ : ∃ k : Bool → Option (Option Value × JH), ∀ r9, k r9 = some (some (.int (j_b r9)), (g, d)) := ⟨_, fun _ => rfl⟩
  refine J_eqo (hk (f_X11_isGate (d.1 a) pq0)).symm ?_
  unfold f_X11_isGate
  refine J_iload_n (pc := 0) 1 dX11_isGate_0 rfl rfl ?_
  refine K_if_lt (K := k) (pc := 1) (tgt := 19) dX11_isGate_1 (by decide) (fun z1 => ?_) (fun z1 => ?_)
  · refine J_iconst (pc := 19) (v := 0) dX11_isGate_19 (by decide) ?_
    exact J_eqo (hk false) (J_zretB (pc := 20) dX11_isGate_20 rfl)
  · refine J_iload_n (pc := 4) 1 dX11_isGate_4 rfl rfl ?_
    refine J_aload_n (pc := 5) 0 dX11_isGate_5 rfl rfl ?_
    refine J_getR (pc := 6) dX11_isGate_6 fl_X11_78 (h0.lt 0 (by decide)) (h0.ty 0 rfl) rfl hco ?_
    refine J_getI (pc := 9) dX11_isGate_9 fl_X11_117 (ha.lt 0 (by decide)) (ha.ty 0 rfl) rfl ?_
    refine K_icmp_ge (K := k) (pc := 12) (tgt := 19) dX11_isGate_12 (by decide) (fun z12 => ?_) (fun z12 => ?_)
    · refine J_iconst (pc := 19) (v := 0) dX11_isGate_19 (by decide) ?_
      exact J_eqo (hk false) (J_zretB (pc := 20) dX11_isGate_20 rfl)
    · refine J_iconst (pc := 15) (v := 1) dX11_isGate_15 (by decide) ?_
      refine J_goto (pc := 16) (tgt := 20) dX11_isGate_16 (by decide) ?_
      exact J_eqo (hk true) (J_zretB (pc := 20) dX11_isGate_20 rfl)
def f_X11_gate (a : Nat) (d : JD) (pq0 : Int32) (pq1 : Int32) : Int32 × JD := (if (f_X11_isGate (d.1 a) pq0) = true then (if pq1 = 0 then (j_let (f_X11_answered d (f_X11_at (d.1 (a + 3)) 6 pq0)) (fun q64 => (q64.1, q64.2))) else if pq1 = 1 then (j_let (f_X11_answered d (f_X11_at (d.1 (a + 4)) 6 pq0)) (fun q80 => (q80.1, q80.2))) else if pq1 = 2 then (j_let (f_X11_answered d (f_X11_at (d.1 (a + 5)) 6 pq0)) (fun q96 => (q96.1, q96.2))) else if pq1 = 3 then (j_let (f_X11_answered d (f_X10_hungAt ((d.1 22) 0) pq0)) (fun q112 => (q112.1, q112.2))) else if pq1 = 4 then (j_let (f_X11_answered d (f_X3_ownersIn (d.1 (a + 7)) ((d.1 22) 0) pq0)) (fun q132 => (q132.1, q132.2))) else if pq1 = 5 then (j_let (f_X11_answered d (f_X11_at (d.1 (a + 6)) 6 pq0)) (fun q148 => (q148.1, q148.2))) else (j_let (f_X11_refused d 1) (fun q154 => (q154.1, q154.2)))) else (j_let (f_X11_refused d 1) (fun q10 => (q10.1, q10.2))))
set_option maxRecDepth 100000 in
set_option maxHeartbeats 4000000 in
theorem s_X11_gate (g : JG) (d : JD) (a : Nat) (pq0 : Int32) (pq1 : Int32) (h0 : j_sh g 0 TS_W RS_W) (ha : j_sh g a TS_CL RS_CL) (hco : g.2.2.1 0 10 = some a) : JM mi_X11_gate 0 0 (g, d) [.ref 0, .int pq0, .int pq1] (some (some (.int (f_X11_gate a d pq0 pq1).1), (g, (f_X11_gate a d pq0 pq1).2))) := by
  refine JM_of (by decide) rfl (Nat.le_of_ble_eq_true rfl) ?_
  refine J_loc (loc' := [(0, .ref 0), (1, .int pq0), (2, .int pq1)]) [0, 1, 2] rfl ?_
  obtain ⟨k, hk⟩ : ∃ k : Int32 × JD → Option (Option Value × JH), ∀ r9, k r9 = some (some (.int r9.1), (g, r9.2)) := ⟨_, fun _ => rfl⟩
  refine J_eqo (hk (f_X11_gate a d pq0 pq1)).symm ?_
  unfold f_X11_gate
  refine J_aload_n (pc := 0) 0 dX11_gate_0 rfl rfl ?_
  refine J_iload_n (pc := 1) 1 dX11_gate_1 rfl rfl ?_
  refine JC_pt_i (J_callV (mi := mi_X11_gate) (mj := mi_X11_isGate) (pc := 2) dX11_gate_2 ml_X11_142 ok_X11_isGate ov_X11_isGate ⟨Nat.le_of_ble_eq_true rfl, Nat.le_of_ble_eq_true rfl⟩ rfl (h0.lt 0 (by decide)) (h0.ty 0 rfl) rfl (s_X11_isGate g d a pq0 h0 ha hco) rfl (Nat.le_of_ble_eq_true rfl)) ?_
  refine K_ifne_b (K := k) (pc := 5) (tgt := 14) dX11_gate_5 (by decide) (fun z5 => ?_) (fun z5 => ?_)
  · refine J_iload_n (pc := 14) 2 dX11_gate_14 rfl rfl ?_
    refine J_split (K := k) (c := pq1 = 0) (fun z15_0 => ?_) (fun z15_0 => ?_)
    · refine J_val z15_0 ?_
      refine J_tsIn (pc := 15) (tgt := 52) dX11_gate_15 (by decide) (by decide) rfl (by decide) ?_
      refine J_aload_n (pc := 52) 0 dX11_gate_52 rfl rfl ?_
      refine J_aload_n (pc := 53) 0 dX11_gate_53 rfl rfl ?_
      refine J_getR (pc := 54) dX11_gate_54 fl_X11_78 (h0.lt 0 (by decide)) (h0.ty 0 rfl) rfl hco ?_
      refine J_getR (pc := 57) dX11_gate_57 fl_X11_145 (ha.lt 0 (by decide)) (ha.ty 0 rfl) rfl (ha.rf 2 rfl) ?_
      refine J_iload_n (pc := 60) 1 dX11_gate_60 rfl rfl ?_
      refine JC_pt_i (J_callS (mi := mi_X11_gate) (mj := mi_X11_at) (pc := 61) dX11_gate_61 ml_X11_149 ok_X11_at os_X11_at ⟨Nat.le_of_ble_eq_true rfl, Nat.le_of_ble_eq_true rfl⟩ rfl (s_X11_at g d (a + 3) 6 pq0 (⟨(ha.lt 3 (by decide)), (ha.ty 3 rfl), by decide⟩)) rfl (Nat.le_of_ble_eq_true rfl)) ?_
      refine JC_lt_i (K := k) (J_callV (mi := mi_X11_gate) (mj := mi_X11_answered) (pc := 64) dX11_gate_64 ml_X11_120 ok_X11_answered ov_X11_answered ⟨Nat.le_of_ble_eq_true rfl, Nat.le_of_ble_eq_true rfl⟩ rfl (h0.lt 0 (by decide)) (h0.ty 0 rfl) rfl (s_X11_answered g d (f_X11_at (d.1 (a + 3)) 6 pq0) h0) rfl (Nat.le_of_ble_eq_true rfl)) (fun q64 eq64 => ?_)
      exact J_eqo (hk (q64.1, q64.2)) (J_iret (pc := 67) dX11_gate_67 rfl)
    refine J_split (K := k) (c := pq1 = 1) (fun z15_1 => ?_) (fun z15_1 => ?_)
    · refine J_val z15_1 ?_
      refine J_tsIn (pc := 15) (tgt := 68) dX11_gate_15 (by decide) (by decide) rfl (by decide) ?_
      refine J_aload_n (pc := 68) 0 dX11_gate_68 rfl rfl ?_
      refine J_aload_n (pc := 69) 0 dX11_gate_69 rfl rfl ?_
      refine J_getR (pc := 70) dX11_gate_70 fl_X11_78 (h0.lt 0 (by decide)) (h0.ty 0 rfl) rfl hco ?_
      refine J_getR (pc := 73) dX11_gate_73 fl_X11_153 (ha.lt 0 (by decide)) (ha.ty 0 rfl) rfl (ha.rf 3 rfl) ?_
      refine J_iload_n (pc := 76) 1 dX11_gate_76 rfl rfl ?_
      refine JC_pt_i (J_callS (mi := mi_X11_gate) (mj := mi_X11_at) (pc := 77) dX11_gate_77 ml_X11_149 ok_X11_at os_X11_at ⟨Nat.le_of_ble_eq_true rfl, Nat.le_of_ble_eq_true rfl⟩ rfl (s_X11_at g d (a + 4) 6 pq0 (⟨(ha.lt 4 (by decide)), (ha.ty 4 rfl), by decide⟩)) rfl (Nat.le_of_ble_eq_true rfl)) ?_
      refine JC_lt_i (K := k) (J_callV (mi := mi_X11_gate) (mj := mi_X11_answered) (pc := 80) dX11_gate_80 ml_X11_120 ok_X11_answered ov_X11_answered ⟨Nat.le_of_ble_eq_true rfl, Nat.le_of_ble_eq_true rfl⟩ rfl (h0.lt 0 (by decide)) (h0.ty 0 rfl) rfl (s_X11_answered g d (f_X11_at (d.1 (a + 4)) 6 pq0) h0) rfl (Nat.le_of_ble_eq_true rfl)) (fun q80 eq80 => ?_)
      exact J_eqo (hk (q80.1, q80.2)) (J_iret (pc := 83) dX11_gate_83 rfl)
    refine J_split (K := k) (c := pq1 = 2) (fun z15_2 => ?_) (fun z15_2 => ?_)
    · refine J_val z15_2 ?_
      refine J_tsIn (pc := 15) (tgt := 84) dX11_gate_15 (by decide) (by decide) rfl (by decide) ?_
      refine J_aload_n (pc := 84) 0 dX11_gate_84 rfl rfl ?_
      refine J_aload_n (pc := 85) 0 dX11_gate_85 rfl rfl ?_
      refine J_getR (pc := 86) dX11_gate_86 fl_X11_78 (h0.lt 0 (by decide)) (h0.ty 0 rfl) rfl hco ?_
      refine J_getR (pc := 89) dX11_gate_89 fl_X11_156 (ha.lt 0 (by decide)) (ha.ty 0 rfl) rfl (ha.rf 4 rfl) ?_
      refine J_iload_n (pc := 92) 1 dX11_gate_92 rfl rfl ?_
      refine JC_pt_i (J_callS (mi := mi_X11_gate) (mj := mi_X11_at) (pc := 93) dX11_gate_93 ml_X11_149 ok_X11_at os_X11_at ⟨Nat.le_of_ble_eq_true rfl, Nat.le_of_ble_eq_true rfl⟩ rfl (s_X11_at g d (a + 5) 6 pq0 (⟨(ha.lt 5 (by decide)), (ha.ty 5 rfl), by decide⟩)) rfl (Nat.le_of_ble_eq_true rfl)) ?_
      refine JC_lt_i (K := k) (J_callV (mi := mi_X11_gate) (mj := mi_X11_answered) (pc := 96) dX11_gate_96 ml_X11_120 ok_X11_answered ov_X11_answered ⟨Nat.le_of_ble_eq_true rfl, Nat.le_of_ble_eq_true rfl⟩ rfl (h0.lt 0 (by decide)) (h0.ty 0 rfl) rfl (s_X11_answered g d (f_X11_at (d.1 (a + 5)) 6 pq0) h0) rfl (Nat.le_of_ble_eq_true rfl)) (fun q96 eq96 => ?_)
      exact J_eqo (hk (q96.1, q96.2)) (J_iret (pc := 99) dX11_gate_99 rfl)
    refine J_split (K := k) (c := pq1 = 3) (fun z15_3 => ?_) (fun z15_3 => ?_)
    · refine J_val z15_3 ?_
      refine J_tsIn (pc := 15) (tgt := 100) dX11_gate_15 (by decide) (by decide) rfl (by decide) ?_
      refine J_aload_n (pc := 100) 0 dX11_gate_100 rfl rfl ?_
      refine J_aload_n (pc := 101) 0 dX11_gate_101 rfl rfl ?_
      refine J_getR (pc := 102) dX11_gate_102 fl_X11_28 (h0.lt 0 (by decide)) (h0.ty 0 rfl) rfl (h0.rf 2 rfl) ?_
      refine J_getI (pc := 105) dX11_gate_105 fl_X11_159 (h0.lt 22 (by decide)) (h0.ty 22 rfl) rfl ?_
      refine J_iload_n (pc := 108) 1 dX11_gate_108 rfl rfl ?_
      refine JC_pt_i (J_callS (mi := mi_X11_gate) (mj := mi_X10_hungAt) (pc := 109) dX11_gate_109 ml_X11_162 ok_X10_hungAt os_X10_hungAt ⟨Nat.le_of_ble_eq_true rfl, Nat.le_of_ble_eq_true rfl⟩ rfl (s_X10_hungAt g d ((d.1 22) 0) pq0) rfl (Nat.le_of_ble_eq_true rfl)) ?_
      refine JC_lt_i (K := k) (J_callV (mi := mi_X11_gate) (mj := mi_X11_answered) (pc := 112) dX11_gate_112 ml_X11_120 ok_X11_answered ov_X11_answered ⟨Nat.le_of_ble_eq_true rfl, Nat.le_of_ble_eq_true rfl⟩ rfl (h0.lt 0 (by decide)) (h0.ty 0 rfl) rfl (s_X11_answered g d (f_X10_hungAt ((d.1 22) 0) pq0) h0) rfl (Nat.le_of_ble_eq_true rfl)) (fun q112 eq112 => ?_)
      exact J_eqo (hk (q112.1, q112.2)) (J_iret (pc := 115) dX11_gate_115 rfl)
    refine J_split (K := k) (c := pq1 = 4) (fun z15_4 => ?_) (fun z15_4 => ?_)
    · refine J_val z15_4 ?_
      refine J_tsIn (pc := 15) (tgt := 116) dX11_gate_15 (by decide) (by decide) rfl (by decide) ?_
      refine J_aload_n (pc := 116) 0 dX11_gate_116 rfl rfl ?_
      refine J_aload_n (pc := 117) 0 dX11_gate_117 rfl rfl ?_
      refine J_getR (pc := 118) dX11_gate_118 fl_X11_78 (h0.lt 0 (by decide)) (h0.ty 0 rfl) rfl hco ?_
      refine J_aload_n (pc := 121) 0 dX11_gate_121 rfl rfl ?_
      refine J_getR (pc := 122) dX11_gate_122 fl_X11_28 (h0.lt 0 (by decide)) (h0.ty 0 rfl) rfl (h0.rf 2 rfl) ?_
      refine J_getI (pc := 125) dX11_gate_125 fl_X11_159 (h0.lt 22 (by decide)) (h0.ty 22 rfl) rfl ?_
      refine J_iload_n (pc := 128) 1 dX11_gate_128 rfl rfl ?_
      refine JC_pt_i (J_callV (mi := mi_X11_gate) (mj := mi_X3_ownersIn) (pc := 129) dX11_gate_129 ml_X11_168 ok_X3_ownersIn ov_X3_ownersIn ⟨Nat.le_of_ble_eq_true rfl, Nat.le_of_ble_eq_true rfl⟩ rfl (ha.lt 0 (by decide)) (ha.ty 0 rfl) rfl (s_X3_ownersIn g d a ((d.1 22) 0) pq0 ha) rfl (Nat.le_of_ble_eq_true rfl)) ?_
      refine JC_lt_i (K := k) (J_callV (mi := mi_X11_gate) (mj := mi_X11_answered) (pc := 132) dX11_gate_132 ml_X11_120 ok_X11_answered ov_X11_answered ⟨Nat.le_of_ble_eq_true rfl, Nat.le_of_ble_eq_true rfl⟩ rfl (h0.lt 0 (by decide)) (h0.ty 0 rfl) rfl (s_X11_answered g d (f_X3_ownersIn (d.1 (a + 7)) ((d.1 22) 0) pq0) h0) rfl (Nat.le_of_ble_eq_true rfl)) (fun q132 eq132 => ?_)
      exact J_eqo (hk (q132.1, q132.2)) (J_iret (pc := 135) dX11_gate_135 rfl)
    refine J_split (K := k) (c := pq1 = 5) (fun z15_5 => ?_) (fun z15_5 => ?_)
    · refine J_val z15_5 ?_
      refine J_tsIn (pc := 15) (tgt := 136) dX11_gate_15 (by decide) (by decide) rfl (by decide) ?_
      refine J_aload_n (pc := 136) 0 dX11_gate_136 rfl rfl ?_
      refine J_aload_n (pc := 137) 0 dX11_gate_137 rfl rfl ?_
      refine J_getR (pc := 138) dX11_gate_138 fl_X11_78 (h0.lt 0 (by decide)) (h0.ty 0 rfl) rfl hco ?_
      refine J_getR (pc := 141) dX11_gate_141 fl_X11_171 (ha.lt 0 (by decide)) (ha.ty 0 rfl) rfl (ha.rf 5 rfl) ?_
      refine J_iload_n (pc := 144) 1 dX11_gate_144 rfl rfl ?_
      refine JC_pt_i (J_callS (mi := mi_X11_gate) (mj := mi_X11_at) (pc := 145) dX11_gate_145 ml_X11_149 ok_X11_at os_X11_at ⟨Nat.le_of_ble_eq_true rfl, Nat.le_of_ble_eq_true rfl⟩ rfl (s_X11_at g d (a + 6) 6 pq0 (⟨(ha.lt 6 (by decide)), (ha.ty 6 rfl), by decide⟩)) rfl (Nat.le_of_ble_eq_true rfl)) ?_
      refine JC_lt_i (K := k) (J_callV (mi := mi_X11_gate) (mj := mi_X11_answered) (pc := 148) dX11_gate_148 ml_X11_120 ok_X11_answered ov_X11_answered ⟨Nat.le_of_ble_eq_true rfl, Nat.le_of_ble_eq_true rfl⟩ rfl (h0.lt 0 (by decide)) (h0.ty 0 rfl) rfl (s_X11_answered g d (f_X11_at (d.1 (a + 6)) 6 pq0) h0) rfl (Nat.le_of_ble_eq_true rfl)) (fun q148 eq148 => ?_)
      exact J_eqo (hk (q148.1, q148.2)) (J_iret (pc := 151) dX11_gate_151 rfl)
    · have zz15 : (pq1 : Int32).toInt < 0 ∨ 5 < (pq1 : Int32).toInt := by
        have q0 := j_ne_toInt (n := 0) (by decide) z15_0
        have q1 := j_ne_toInt (n := 1) (by decide) z15_1
        have q2 := j_ne_toInt (n := 2) (by decide) z15_2
        have q3 := j_ne_toInt (n := 3) (by decide) z15_3
        have q4 := j_ne_toInt (n := 4) (by decide) z15_4
        have q5 := j_ne_toInt (n := 5) (by decide) z15_5
        omega
      refine J_tsOut (pc := 15) (tgt := 152) dX11_gate_15 zz15 (by decide) ?_
      refine J_aload_n (pc := 152) 0 dX11_gate_152 rfl rfl ?_
      refine J_iconst (pc := 153) (v := 1) dX11_gate_153 (by decide) ?_
      refine JC_lt_i (K := k) (J_callV (mi := mi_X11_gate) (mj := mi_X11_refused) (pc := 154) dX11_gate_154 ml_X11_102 ok_X11_refused ov_X11_refused ⟨Nat.le_of_ble_eq_true rfl, Nat.le_of_ble_eq_true rfl⟩ rfl (h0.lt 0 (by decide)) (h0.ty 0 rfl) rfl (s_X11_refused g d 1 h0) rfl (Nat.le_of_ble_eq_true rfl)) (fun q154 eq154 => ?_)
      exact J_eqo (hk (q154.1, q154.2)) (J_iret (pc := 157) dX11_gate_157 rfl)
  · refine J_aload_n (pc := 8) 0 dX11_gate_8 rfl rfl ?_
    refine J_iconst (pc := 9) (v := 1) dX11_gate_9 (by decide) ?_
    refine JC_lt_i (K := k) (J_callV (mi := mi_X11_gate) (mj := mi_X11_refused) (pc := 10) dX11_gate_10 ml_X11_102 ok_X11_refused ov_X11_refused ⟨Nat.le_of_ble_eq_true rfl, Nat.le_of_ble_eq_true rfl⟩ rfl (h0.lt 0 (by decide)) (h0.ty 0 rfl) rfl (s_X11_refused g d 1 h0) rfl (Nat.le_of_ble_eq_true rfl)) (fun q10 eq10 => ?_)
    exact J_eqo (hk (q10.1, q10.2)) (J_iret (pc := 13) dX11_gate_13 rfl)
def f_X11_isPerson (r_a0 : Nat → Int32) (pq0 : Int32) : Bool := (if pq0 < 0 then (false) else (if (r_a0 2) ≤ pq0 then (false) else (true)))
set_option maxRecDepth 100000 in
set_option maxHeartbeats 4000000 in
theorem s_X11_isPerson (g : JG) (d : JD) (a : Nat) (pq0 : Int32) (h0 : j_sh g 0 TS_W RS_W) (ha : j_sh g a TS_CL RS_CL) (hco : g.2.2.1 0 10 = some a) : JM mi_X11_isPerson 0 0 (g, d) [.ref 0, .int pq0] (some (some (.int (j_b (f_X11_isPerson (d.1 a) pq0))), (g, d))) := by
  refine JM_of (by decide) rfl (Nat.le_of_ble_eq_true rfl) ?_
  refine J_loc (loc' := [(0, .ref 0), (1, .int pq0)]) [0, 1] rfl ?_
  obtain ⟨k, hk⟩ : ∃ k : Bool → Option (Option Value × JH), ∀ r9, k r9 = some (some (.int (j_b r9)), (g, d)) := ⟨_, fun _ => rfl⟩
  refine J_eqo (hk (f_X11_isPerson (d.1 a) pq0)).symm ?_
  unfold f_X11_isPerson
  refine J_iload_n (pc := 0) 1 dX11_isPerson_0 rfl rfl ?_
  refine K_if_lt (K := k) (pc := 1) (tgt := 19) dX11_isPerson_1 (by decide) (fun z1 => ?_) (fun z1 => ?_)
  · refine J_iconst (pc := 19) (v := 0) dX11_isPerson_19 (by decide) ?_
    exact J_eqo (hk false) (J_zretB (pc := 20) dX11_isPerson_20 rfl)
  · refine J_iload_n (pc := 4) 1 dX11_isPerson_4 rfl rfl ?_
    refine J_aload_n (pc := 5) 0 dX11_isPerson_5 rfl rfl ?_
    refine J_getR (pc := 6) dX11_isPerson_6 fl_X11_78 (h0.lt 0 (by decide)) (h0.ty 0 rfl) rfl hco ?_
    refine J_getI (pc := 9) dX11_isPerson_9 fl_X11_410 (ha.lt 0 (by decide)) (ha.ty 0 rfl) rfl ?_
    refine K_icmp_ge (K := k) (pc := 12) (tgt := 19) dX11_isPerson_12 (by decide) (fun z12 => ?_) (fun z12 => ?_)
    · refine J_iconst (pc := 19) (v := 0) dX11_isPerson_19 (by decide) ?_
      exact J_eqo (hk false) (J_zretB (pc := 20) dX11_isPerson_20 rfl)
    · refine J_iconst (pc := 15) (v := 1) dX11_isPerson_15 (by decide) ?_
      refine J_goto (pc := 16) (tgt := 20) dX11_isPerson_16 (by decide) ?_
      exact J_eqo (hk true) (J_zretB (pc := 20) dX11_isPerson_20 rfl)
def f_X11_person (a : Nat) (d : JD) (pq0 : Int32) (pq1 : Int32) : Int32 × JD := (if (f_X11_isPerson (d.1 a) pq0) = true then (if pq1 = 0 then (j_let (f_X11_answered d (f_X3_wealth (d.1 a) (d.1 (a + 7)) (d.1 (a + 8)) pq0 ((d.1 22) 0))) (fun q60 => (q60.1, q60.2))) else if pq1 = 1 then (j_let (f_X11_answered d (f_X3_gatesOwned (d.1 a) (d.1 (a + 7)) pq0 ((d.1 22) 0))) (fun q80 => (q80.1, q80.2))) else if pq1 = 2 then (j_let (f_X11_answered d (f_X3_gatesOwnedAlone (d.1 a) (d.1 (a + 7)) pq0 ((d.1 22) 0))) (fun q100 => (q100.1, q100.2))) else if pq1 = 3 then (j_let (f_X11_answered d (f_X3_firmsWith (d.1 a) (d.1 (a + 2)) pq0)) (fun q113 => (q113.1, q113.2))) else (j_let (f_X11_refused d 1) (fun q119 => (q119.1, q119.2)))) else (j_let (f_X11_refused d 1) (fun q10 => (q10.1, q10.2))))
set_option maxRecDepth 100000 in
set_option maxHeartbeats 4000000 in
theorem s_X11_person (g : JG) (d : JD) (a : Nat) (pq0 : Int32) (pq1 : Int32) (h0 : j_sh g 0 TS_W RS_W) (ha : j_sh g a TS_CL RS_CL) (hco : g.2.2.1 0 10 = some a) : JM mi_X11_person 0 0 (g, d) [.ref 0, .int pq0, .int pq1] (some (some (.int (f_X11_person a d pq0 pq1).1), (g, (f_X11_person a d pq0 pq1).2))) := by
  refine JM_of (by decide) rfl (Nat.le_of_ble_eq_true rfl) ?_
  refine J_loc (loc' := [(0, .ref 0), (1, .int pq0), (2, .int pq1)]) [0, 1, 2] rfl ?_
  obtain ⟨k, hk⟩ : ∃ k : Int32 × JD → Option (Option Value × JH), ∀ r9, k r9 = some (some (.int r9.1), (g, r9.2)) := ⟨_, fun _ => rfl⟩
  refine J_eqo (hk (f_X11_person a d pq0 pq1)).symm ?_
  unfold f_X11_person
  refine J_aload_n (pc := 0) 0 dX11_person_0 rfl rfl ?_
  refine J_iload_n (pc := 1) 1 dX11_person_1 rfl rfl ?_
  refine JC_pt_i (J_callV (mi := mi_X11_person) (mj := mi_X11_isPerson) (pc := 2) dX11_person_2 ml_X11_174 ok_X11_isPerson ov_X11_isPerson ⟨Nat.le_of_ble_eq_true rfl, Nat.le_of_ble_eq_true rfl⟩ rfl (h0.lt 0 (by decide)) (h0.ty 0 rfl) rfl (s_X11_isPerson g d a pq0 h0 ha hco) rfl (Nat.le_of_ble_eq_true rfl)) ?_
  refine K_ifne_b (K := k) (pc := 5) (tgt := 14) dX11_person_5 (by decide) (fun z5 => ?_) (fun z5 => ?_)
  · refine J_iload_n (pc := 14) 2 dX11_person_14 rfl rfl ?_
    refine J_split (K := k) (c := pq1 = 0) (fun z15_0 => ?_) (fun z15_0 => ?_)
    · refine J_val z15_0 ?_
      refine J_tsIn (pc := 15) (tgt := 44) dX11_person_15 (by decide) (by decide) rfl (by decide) ?_
      refine J_aload_n (pc := 44) 0 dX11_person_44 rfl rfl ?_
      refine J_aload_n (pc := 45) 0 dX11_person_45 rfl rfl ?_
      refine J_getR (pc := 46) dX11_person_46 fl_X11_78 (h0.lt 0 (by decide)) (h0.ty 0 rfl) rfl hco ?_
      refine J_iload_n (pc := 49) 1 dX11_person_49 rfl rfl ?_
      refine J_aload_n (pc := 50) 0 dX11_person_50 rfl rfl ?_
      refine J_getR (pc := 51) dX11_person_51 fl_X11_28 (h0.lt 0 (by decide)) (h0.ty 0 rfl) rfl (h0.rf 2 rfl) ?_
      refine J_getI (pc := 54) dX11_person_54 fl_X11_159 (h0.lt 22 (by decide)) (h0.ty 22 rfl) rfl ?_
      refine JC_pt_i (J_callV (mi := mi_X11_person) (mj := mi_X3_wealth) (pc := 57) dX11_person_57 ml_X11_177 ok_X3_wealth ov_X3_wealth ⟨Nat.le_of_ble_eq_true rfl, Nat.le_of_ble_eq_true rfl⟩ rfl (ha.lt 0 (by decide)) (ha.ty 0 rfl) rfl (s_X3_wealth g d a pq0 ((d.1 22) 0) ha) rfl (Nat.le_of_ble_eq_true rfl)) ?_
      refine JC_lt_i (K := k) (J_callV (mi := mi_X11_person) (mj := mi_X11_answered) (pc := 60) dX11_person_60 ml_X11_120 ok_X11_answered ov_X11_answered ⟨Nat.le_of_ble_eq_true rfl, Nat.le_of_ble_eq_true rfl⟩ rfl (h0.lt 0 (by decide)) (h0.ty 0 rfl) rfl (s_X11_answered g d (f_X3_wealth (d.1 a) (d.1 (a + 7)) (d.1 (a + 8)) pq0 ((d.1 22) 0)) h0) rfl (Nat.le_of_ble_eq_true rfl)) (fun q60 eq60 => ?_)
      exact J_eqo (hk (q60.1, q60.2)) (J_iret (pc := 63) dX11_person_63 rfl)
    refine J_split (K := k) (c := pq1 = 1) (fun z15_1 => ?_) (fun z15_1 => ?_)
    · refine J_val z15_1 ?_
      refine J_tsIn (pc := 15) (tgt := 64) dX11_person_15 (by decide) (by decide) rfl (by decide) ?_
      refine J_aload_n (pc := 64) 0 dX11_person_64 rfl rfl ?_
      refine J_aload_n (pc := 65) 0 dX11_person_65 rfl rfl ?_
      refine J_getR (pc := 66) dX11_person_66 fl_X11_78 (h0.lt 0 (by decide)) (h0.ty 0 rfl) rfl hco ?_
      refine J_iload_n (pc := 69) 1 dX11_person_69 rfl rfl ?_
      refine J_aload_n (pc := 70) 0 dX11_person_70 rfl rfl ?_
      refine J_getR (pc := 71) dX11_person_71 fl_X11_28 (h0.lt 0 (by decide)) (h0.ty 0 rfl) rfl (h0.rf 2 rfl) ?_
      refine J_getI (pc := 74) dX11_person_74 fl_X11_159 (h0.lt 22 (by decide)) (h0.ty 22 rfl) rfl ?_
      refine JC_pt_i (J_callV (mi := mi_X11_person) (mj := mi_X3_gatesOwned) (pc := 77) dX11_person_77 ml_X11_180 ok_X3_gatesOwned ov_X3_gatesOwned ⟨Nat.le_of_ble_eq_true rfl, Nat.le_of_ble_eq_true rfl⟩ rfl (ha.lt 0 (by decide)) (ha.ty 0 rfl) rfl (s_X3_gatesOwned g d a pq0 ((d.1 22) 0) ha) rfl (Nat.le_of_ble_eq_true rfl)) ?_
      refine JC_lt_i (K := k) (J_callV (mi := mi_X11_person) (mj := mi_X11_answered) (pc := 80) dX11_person_80 ml_X11_120 ok_X11_answered ov_X11_answered ⟨Nat.le_of_ble_eq_true rfl, Nat.le_of_ble_eq_true rfl⟩ rfl (h0.lt 0 (by decide)) (h0.ty 0 rfl) rfl (s_X11_answered g d (f_X3_gatesOwned (d.1 a) (d.1 (a + 7)) pq0 ((d.1 22) 0)) h0) rfl (Nat.le_of_ble_eq_true rfl)) (fun q80 eq80 => ?_)
      exact J_eqo (hk (q80.1, q80.2)) (J_iret (pc := 83) dX11_person_83 rfl)
    refine J_split (K := k) (c := pq1 = 2) (fun z15_2 => ?_) (fun z15_2 => ?_)
    · refine J_val z15_2 ?_
      refine J_tsIn (pc := 15) (tgt := 84) dX11_person_15 (by decide) (by decide) rfl (by decide) ?_
      refine J_aload_n (pc := 84) 0 dX11_person_84 rfl rfl ?_
      refine J_aload_n (pc := 85) 0 dX11_person_85 rfl rfl ?_
      refine J_getR (pc := 86) dX11_person_86 fl_X11_78 (h0.lt 0 (by decide)) (h0.ty 0 rfl) rfl hco ?_
      refine J_iload_n (pc := 89) 1 dX11_person_89 rfl rfl ?_
      refine J_aload_n (pc := 90) 0 dX11_person_90 rfl rfl ?_
      refine J_getR (pc := 91) dX11_person_91 fl_X11_28 (h0.lt 0 (by decide)) (h0.ty 0 rfl) rfl (h0.rf 2 rfl) ?_
      refine J_getI (pc := 94) dX11_person_94 fl_X11_159 (h0.lt 22 (by decide)) (h0.ty 22 rfl) rfl ?_
      refine JC_pt_i (J_callV (mi := mi_X11_person) (mj := mi_X3_gatesOwnedAlone) (pc := 97) dX11_person_97 ml_X11_183 ok_X3_gatesOwnedAlone ov_X3_gatesOwnedAlone ⟨Nat.le_of_ble_eq_true rfl, Nat.le_of_ble_eq_true rfl⟩ rfl (ha.lt 0 (by decide)) (ha.ty 0 rfl) rfl (s_X3_gatesOwnedAlone g d a pq0 ((d.1 22) 0) ha) rfl (Nat.le_of_ble_eq_true rfl)) ?_
      refine JC_lt_i (K := k) (J_callV (mi := mi_X11_person) (mj := mi_X11_answered) (pc := 100) dX11_person_100 ml_X11_120 ok_X11_answered ov_X11_answered ⟨Nat.le_of_ble_eq_true rfl, Nat.le_of_ble_eq_true rfl⟩ rfl (h0.lt 0 (by decide)) (h0.ty 0 rfl) rfl (s_X11_answered g d (f_X3_gatesOwnedAlone (d.1 a) (d.1 (a + 7)) pq0 ((d.1 22) 0)) h0) rfl (Nat.le_of_ble_eq_true rfl)) (fun q100 eq100 => ?_)
      exact J_eqo (hk (q100.1, q100.2)) (J_iret (pc := 103) dX11_person_103 rfl)
    refine J_split (K := k) (c := pq1 = 3) (fun z15_3 => ?_) (fun z15_3 => ?_)
    · refine J_val z15_3 ?_
      refine J_tsIn (pc := 15) (tgt := 104) dX11_person_15 (by decide) (by decide) rfl (by decide) ?_
      refine J_aload_n (pc := 104) 0 dX11_person_104 rfl rfl ?_
      refine J_aload_n (pc := 105) 0 dX11_person_105 rfl rfl ?_
      refine J_getR (pc := 106) dX11_person_106 fl_X11_78 (h0.lt 0 (by decide)) (h0.ty 0 rfl) rfl hco ?_
      refine J_iload_n (pc := 109) 1 dX11_person_109 rfl rfl ?_
      refine JC_pt_i (J_callV (mi := mi_X11_person) (mj := mi_X3_firmsWith) (pc := 110) dX11_person_110 ml_X11_186 ok_X3_firmsWith ov_X3_firmsWith ⟨Nat.le_of_ble_eq_true rfl, Nat.le_of_ble_eq_true rfl⟩ rfl (ha.lt 0 (by decide)) (ha.ty 0 rfl) rfl (s_X3_firmsWith g d a pq0 ha) rfl (Nat.le_of_ble_eq_true rfl)) ?_
      refine JC_lt_i (K := k) (J_callV (mi := mi_X11_person) (mj := mi_X11_answered) (pc := 113) dX11_person_113 ml_X11_120 ok_X11_answered ov_X11_answered ⟨Nat.le_of_ble_eq_true rfl, Nat.le_of_ble_eq_true rfl⟩ rfl (h0.lt 0 (by decide)) (h0.ty 0 rfl) rfl (s_X11_answered g d (f_X3_firmsWith (d.1 a) (d.1 (a + 2)) pq0) h0) rfl (Nat.le_of_ble_eq_true rfl)) (fun q113 eq113 => ?_)
      exact J_eqo (hk (q113.1, q113.2)) (J_iret (pc := 116) dX11_person_116 rfl)
    · have zz15 : (pq1 : Int32).toInt < 0 ∨ 3 < (pq1 : Int32).toInt := by
        have q0 := j_ne_toInt (n := 0) (by decide) z15_0
        have q1 := j_ne_toInt (n := 1) (by decide) z15_1
        have q2 := j_ne_toInt (n := 2) (by decide) z15_2
        have q3 := j_ne_toInt (n := 3) (by decide) z15_3
        omega
      refine J_tsOut (pc := 15) (tgt := 117) dX11_person_15 zz15 (by decide) ?_
      refine J_aload_n (pc := 117) 0 dX11_person_117 rfl rfl ?_
      refine J_iconst (pc := 118) (v := 1) dX11_person_118 (by decide) ?_
      refine JC_lt_i (K := k) (J_callV (mi := mi_X11_person) (mj := mi_X11_refused) (pc := 119) dX11_person_119 ml_X11_102 ok_X11_refused ov_X11_refused ⟨Nat.le_of_ble_eq_true rfl, Nat.le_of_ble_eq_true rfl⟩ rfl (h0.lt 0 (by decide)) (h0.ty 0 rfl) rfl (s_X11_refused g d 1 h0) rfl (Nat.le_of_ble_eq_true rfl)) (fun q119 eq119 => ?_)
      exact J_eqo (hk (q119.1, q119.2)) (J_iret (pc := 122) dX11_person_122 rfl)
  · refine J_aload_n (pc := 8) 0 dX11_person_8 rfl rfl ?_
    refine J_iconst (pc := 9) (v := 1) dX11_person_9 (by decide) ?_
    refine JC_lt_i (K := k) (J_callV (mi := mi_X11_person) (mj := mi_X11_refused) (pc := 10) dX11_person_10 ml_X11_102 ok_X11_refused ov_X11_refused ⟨Nat.le_of_ble_eq_true rfl, Nat.le_of_ble_eq_true rfl⟩ rfl (h0.lt 0 (by decide)) (h0.ty 0 rfl) rfl (s_X11_refused g d 1 h0) rfl (Nat.le_of_ble_eq_true rfl)) (fun q10 eq10 => ?_)
    exact J_eqo (hk (q10.1, q10.2)) (J_iret (pc := 13) dX11_person_13 rfl)
def f_X11_firm_j15 (a : Nat) (d15 : JD) : Int32 × JD := (j_let (f_X11_refused d15 1) (fun q17 => (q17.1, q17.2)))
def f_X11_firm (a : Nat) (d : JD) (pq0 : Int32) (pq1 : Int32) : Int32 × JD := (if pq0 < 0 then f_X11_firm_j15 a d else (if pq0 < ((d.1 a) 3) then (if pq1 = 0 then (j_let (f_X11_answered d (f_X11_at (d.1 (a + 1)) 4 pq0)) (fun q60 => (q60.1, q60.2))) else if pq1 = 1 then (j_let (f_X11_answered d (f_X11_at (d.1 (a + 2)) 4 pq0)) (fun q76 => (q76.1, q76.2))) else if pq1 = 2 then (j_let (f_X11_answered d (f_X3_wealthOfFirm (d.1 a) (d.1 (a + 4)) (d.1 (a + 7)) (d.1 (a + 8)) pq0 ((d.1 22) 0))) (fun q96 => (q96.1, q96.2))) else (j_let (f_X11_refused d 1) (fun q102 => (q102.1, q102.2)))) else f_X11_firm_j15 a d ))
set_option maxRecDepth 100000 in
set_option maxHeartbeats 4000000 in
theorem s_X11_firm (g : JG) (d : JD) (a : Nat) (pq0 : Int32) (pq1 : Int32) (h0 : j_sh g 0 TS_W RS_W) (ha : j_sh g a TS_CL RS_CL) (hco : g.2.2.1 0 10 = some a) : JM mi_X11_firm 0 0 (g, d) [.ref 0, .int pq0, .int pq1] (some (some (.int (f_X11_firm a d pq0 pq1).1), (g, (f_X11_firm a d pq0 pq1).2))) := by
  refine JM_of (by decide) rfl (Nat.le_of_ble_eq_true rfl) ?_
  refine J_loc (loc' := [(0, .ref 0), (1, .int pq0), (2, .int pq1)]) [0, 1, 2] rfl ?_
  obtain ⟨k, hk⟩ : ∃ k : Int32 × JD → Option (Option Value × JH), ∀ r9, k r9 = some (some (.int r9.1), (g, r9.2)) := ⟨_, fun _ => rfl⟩
  refine J_eqo (hk (f_X11_firm a d pq0 pq1)).symm ?_
  unfold f_X11_firm
  have hX11_firm_j15 : ∀ (d15 : JD) , J mi_X11_firm 0 0 0 0 (g, d15) 15 [(0, .ref 0)] [] (k (f_X11_firm_j15 a d15 )) := by
    intro d15 
    unfold f_X11_firm_j15
    refine J_aload_n (pc := 15) 0 dX11_firm_15 rfl rfl ?_
    refine J_iconst (pc := 16) (v := 1) dX11_firm_16 (by decide) ?_
    refine JC_lt_i (K := k) (J_callV (mi := mi_X11_firm) (mj := mi_X11_refused) (pc := 17) dX11_firm_17 ml_X11_102 ok_X11_refused ov_X11_refused ⟨Nat.le_of_ble_eq_true rfl, Nat.le_of_ble_eq_true rfl⟩ rfl (h0.lt 0 (by decide)) (h0.ty 0 rfl) rfl (s_X11_refused g d15 1 h0) rfl (Nat.le_of_ble_eq_true rfl)) (fun q17 eq17 => ?_)
    exact J_eqo (hk (q17.1, q17.2)) (J_iret (pc := 20) dX11_firm_20 rfl)
  refine J_iload_n (pc := 0) 1 dX11_firm_0 rfl rfl ?_
  refine K_if_lt (K := k) (pc := 1) (tgt := 15) dX11_firm_1 (by decide) (fun z1 => ?_) (fun z1 => ?_)
  · refine J_loc (loc' := [(0, .ref 0)]) [0] rfl ?_
    exact hX11_firm_j15 d 
  · refine J_iload_n (pc := 4) 1 dX11_firm_4 rfl rfl ?_
    refine J_aload_n (pc := 5) 0 dX11_firm_5 rfl rfl ?_
    refine J_getR (pc := 6) dX11_firm_6 fl_X11_78 (h0.lt 0 (by decide)) (h0.ty 0 rfl) rfl hco ?_
    refine J_getI (pc := 9) dX11_firm_9 fl_X11_189 (ha.lt 0 (by decide)) (ha.ty 0 rfl) rfl ?_
    refine K_icmp_lt (K := k) (pc := 12) (tgt := 21) dX11_firm_12 (by decide) (fun z12 => ?_) (fun z12 => ?_)
    · refine J_iload_n (pc := 21) 2 dX11_firm_21 rfl rfl ?_
      refine J_split (K := k) (c := pq1 = 0) (fun z22_0 => ?_) (fun z22_0 => ?_)
      · refine J_val z22_0 ?_
        refine J_tsIn (pc := 22) (tgt := 48) dX11_firm_22 (by decide) (by decide) rfl (by decide) ?_
        refine J_aload_n (pc := 48) 0 dX11_firm_48 rfl rfl ?_
        refine J_aload_n (pc := 49) 0 dX11_firm_49 rfl rfl ?_
        refine J_getR (pc := 50) dX11_firm_50 fl_X11_78 (h0.lt 0 (by decide)) (h0.ty 0 rfl) rfl hco ?_
        refine J_getR (pc := 53) dX11_firm_53 fl_X11_192 (ha.lt 0 (by decide)) (ha.ty 0 rfl) rfl (ha.rf 0 rfl) ?_
        refine J_iload_n (pc := 56) 1 dX11_firm_56 rfl rfl ?_
        refine JC_pt_i (J_callS (mi := mi_X11_firm) (mj := mi_X11_at) (pc := 57) dX11_firm_57 ml_X11_149 ok_X11_at os_X11_at ⟨Nat.le_of_ble_eq_true rfl, Nat.le_of_ble_eq_true rfl⟩ rfl (s_X11_at g d (a + 1) 4 pq0 (⟨(ha.lt 1 (by decide)), (ha.ty 1 rfl), by decide⟩)) rfl (Nat.le_of_ble_eq_true rfl)) ?_
        refine JC_lt_i (K := k) (J_callV (mi := mi_X11_firm) (mj := mi_X11_answered) (pc := 60) dX11_firm_60 ml_X11_120 ok_X11_answered ov_X11_answered ⟨Nat.le_of_ble_eq_true rfl, Nat.le_of_ble_eq_true rfl⟩ rfl (h0.lt 0 (by decide)) (h0.ty 0 rfl) rfl (s_X11_answered g d (f_X11_at (d.1 (a + 1)) 4 pq0) h0) rfl (Nat.le_of_ble_eq_true rfl)) (fun q60 eq60 => ?_)
        exact J_eqo (hk (q60.1, q60.2)) (J_iret (pc := 63) dX11_firm_63 rfl)
      refine J_split (K := k) (c := pq1 = 1) (fun z22_1 => ?_) (fun z22_1 => ?_)
      · refine J_val z22_1 ?_
        refine J_tsIn (pc := 22) (tgt := 64) dX11_firm_22 (by decide) (by decide) rfl (by decide) ?_
        refine J_aload_n (pc := 64) 0 dX11_firm_64 rfl rfl ?_
        refine J_aload_n (pc := 65) 0 dX11_firm_65 rfl rfl ?_
        refine J_getR (pc := 66) dX11_firm_66 fl_X11_78 (h0.lt 0 (by decide)) (h0.ty 0 rfl) rfl hco ?_
        refine J_getR (pc := 69) dX11_firm_69 fl_X11_195 (ha.lt 0 (by decide)) (ha.ty 0 rfl) rfl (ha.rf 1 rfl) ?_
        refine J_iload_n (pc := 72) 1 dX11_firm_72 rfl rfl ?_
        refine JC_pt_i (J_callS (mi := mi_X11_firm) (mj := mi_X11_at) (pc := 73) dX11_firm_73 ml_X11_149 ok_X11_at os_X11_at ⟨Nat.le_of_ble_eq_true rfl, Nat.le_of_ble_eq_true rfl⟩ rfl (s_X11_at g d (a + 2) 4 pq0 (⟨(ha.lt 2 (by decide)), (ha.ty 2 rfl), by decide⟩)) rfl (Nat.le_of_ble_eq_true rfl)) ?_
        refine JC_lt_i (K := k) (J_callV (mi := mi_X11_firm) (mj := mi_X11_answered) (pc := 76) dX11_firm_76 ml_X11_120 ok_X11_answered ov_X11_answered ⟨Nat.le_of_ble_eq_true rfl, Nat.le_of_ble_eq_true rfl⟩ rfl (h0.lt 0 (by decide)) (h0.ty 0 rfl) rfl (s_X11_answered g d (f_X11_at (d.1 (a + 2)) 4 pq0) h0) rfl (Nat.le_of_ble_eq_true rfl)) (fun q76 eq76 => ?_)
        exact J_eqo (hk (q76.1, q76.2)) (J_iret (pc := 79) dX11_firm_79 rfl)
      refine J_split (K := k) (c := pq1 = 2) (fun z22_2 => ?_) (fun z22_2 => ?_)
      · refine J_val z22_2 ?_
        refine J_tsIn (pc := 22) (tgt := 80) dX11_firm_22 (by decide) (by decide) rfl (by decide) ?_
        refine J_aload_n (pc := 80) 0 dX11_firm_80 rfl rfl ?_
        refine J_aload_n (pc := 81) 0 dX11_firm_81 rfl rfl ?_
        refine J_getR (pc := 82) dX11_firm_82 fl_X11_78 (h0.lt 0 (by decide)) (h0.ty 0 rfl) rfl hco ?_
        refine J_iload_n (pc := 85) 1 dX11_firm_85 rfl rfl ?_
        refine J_aload_n (pc := 86) 0 dX11_firm_86 rfl rfl ?_
        refine J_getR (pc := 87) dX11_firm_87 fl_X11_28 (h0.lt 0 (by decide)) (h0.ty 0 rfl) rfl (h0.rf 2 rfl) ?_
        refine J_getI (pc := 90) dX11_firm_90 fl_X11_159 (h0.lt 22 (by decide)) (h0.ty 22 rfl) rfl ?_
        refine JC_pt_i (J_callV (mi := mi_X11_firm) (mj := mi_X3_wealthOfFirm) (pc := 93) dX11_firm_93 ml_X11_198 ok_X3_wealthOfFirm ov_X3_wealthOfFirm ⟨Nat.le_of_ble_eq_true rfl, Nat.le_of_ble_eq_true rfl⟩ rfl (ha.lt 0 (by decide)) (ha.ty 0 rfl) rfl (s_X3_wealthOfFirm g d a pq0 ((d.1 22) 0) ha) rfl (Nat.le_of_ble_eq_true rfl)) ?_
        refine JC_lt_i (K := k) (J_callV (mi := mi_X11_firm) (mj := mi_X11_answered) (pc := 96) dX11_firm_96 ml_X11_120 ok_X11_answered ov_X11_answered ⟨Nat.le_of_ble_eq_true rfl, Nat.le_of_ble_eq_true rfl⟩ rfl (h0.lt 0 (by decide)) (h0.ty 0 rfl) rfl (s_X11_answered g d (f_X3_wealthOfFirm (d.1 a) (d.1 (a + 4)) (d.1 (a + 7)) (d.1 (a + 8)) pq0 ((d.1 22) 0)) h0) rfl (Nat.le_of_ble_eq_true rfl)) (fun q96 eq96 => ?_)
        exact J_eqo (hk (q96.1, q96.2)) (J_iret (pc := 99) dX11_firm_99 rfl)
      · have zz22 : (pq1 : Int32).toInt < 0 ∨ 2 < (pq1 : Int32).toInt := by
          have q0 := j_ne_toInt (n := 0) (by decide) z22_0
          have q1 := j_ne_toInt (n := 1) (by decide) z22_1
          have q2 := j_ne_toInt (n := 2) (by decide) z22_2
          omega
        refine J_tsOut (pc := 22) (tgt := 100) dX11_firm_22 zz22 (by decide) ?_
        refine J_aload_n (pc := 100) 0 dX11_firm_100 rfl rfl ?_
        refine J_iconst (pc := 101) (v := 1) dX11_firm_101 (by decide) ?_
        refine JC_lt_i (K := k) (J_callV (mi := mi_X11_firm) (mj := mi_X11_refused) (pc := 102) dX11_firm_102 ml_X11_102 ok_X11_refused ov_X11_refused ⟨Nat.le_of_ble_eq_true rfl, Nat.le_of_ble_eq_true rfl⟩ rfl (h0.lt 0 (by decide)) (h0.ty 0 rfl) rfl (s_X11_refused g d 1 h0) rfl (Nat.le_of_ble_eq_true rfl)) (fun q102 eq102 => ?_)
        exact J_eqo (hk (q102.1, q102.2)) (J_iret (pc := 105) dX11_firm_105 rfl)
    · refine J_loc (loc' := [(0, .ref 0)]) [0] rfl ?_
      exact hX11_firm_j15 d 
def f_X11_hasLand (r_a0 : Nat → Int32) : Bool := (if (r_a0 4) ≤ 0 then (false) else (true))
set_option maxRecDepth 100000 in
set_option maxHeartbeats 4000000 in
theorem s_X11_hasLand (g : JG) (d : JD) (a : Nat) (h0 : j_sh g 0 TS_W RS_W) (ha : j_sh g a TS_CL RS_CL) (hco : g.2.2.1 0 10 = some a) : JM mi_X11_hasLand 0 0 (g, d) [.ref 0] (some (some (.int (j_b (f_X11_hasLand (d.1 a) ))), (g, d))) := by
  refine JM_of (by decide) rfl (Nat.le_of_ble_eq_true rfl) ?_
  refine J_loc (loc' := [(0, .ref 0)]) [0] rfl ?_
  obtain ⟨k, hk⟩ : ∃ k : Bool → Option (Option Value × JH), ∀ r9, k r9 = some (some (.int (j_b r9)), (g, d)) := ⟨_, fun _ => rfl⟩
  refine J_eqo (hk (f_X11_hasLand (d.1 a) )).symm ?_
  unfold f_X11_hasLand
  refine J_aload_n (pc := 0) 0 dX11_hasLand_0 rfl rfl ?_
  refine J_getR (pc := 1) dX11_hasLand_1 fl_X11_78 (h0.lt 0 (by decide)) (h0.ty 0 rfl) rfl hco ?_
  refine J_getI (pc := 4) dX11_hasLand_4 fl_X11_117 (ha.lt 0 (by decide)) (ha.ty 0 rfl) rfl ?_
  refine K_if_le (K := k) (pc := 7) (tgt := 14) dX11_hasLand_7 (by decide) (fun z7 => ?_) (fun z7 => ?_)
  · refine J_iconst (pc := 14) (v := 0) dX11_hasLand_14 (by decide) ?_
    exact J_eqo (hk false) (J_zretB (pc := 15) dX11_hasLand_15 rfl)
  · refine J_iconst (pc := 10) (v := 1) dX11_hasLand_10 (by decide) ?_
    refine J_goto (pc := 11) (tgt := 15) dX11_hasLand_11 (by decide) ?_
    exact J_eqo (hk true) (J_zretB (pc := 15) dX11_hasLand_15 rfl)
def f_X11_commons (a : Nat) (d : JD) : Int32 × JD := (if (f_X11_hasLand (d.1 a)) = true then (j_let (f_X11_answered d (f_X3_gatesUnowned (d.1 a) (d.1 (a + 7)) ((d.1 22) 0))) (fun q22 => (q22.1, q22.2))) else (j_let (f_X11_refused d 1) (fun q30 => (q30.1, q30.2))))
set_option maxRecDepth 100000 in
set_option maxHeartbeats 4000000 in
theorem s_X11_commons (g : JG) (d : JD) (a : Nat) (h0 : j_sh g 0 TS_W RS_W) (ha : j_sh g a TS_CL RS_CL) (hco : g.2.2.1 0 10 = some a) : JM mi_X11_commons 0 0 (g, d) [.ref 0] (some (some (.int (f_X11_commons a d ).1), (g, (f_X11_commons a d ).2))) := by
  refine JM_of (by decide) rfl (Nat.le_of_ble_eq_true rfl) ?_
  refine J_loc (loc' := [(0, .ref 0)]) [0] rfl ?_
  obtain ⟨k, hk⟩ : ∃ k : Int32 × JD → Option (Option Value × JH), ∀ r9, k r9 = some (some (.int r9.1), (g, r9.2)) := ⟨_, fun _ => rfl⟩
  refine J_eqo (hk (f_X11_commons a d )).symm ?_
  unfold f_X11_commons
  refine J_aload_n (pc := 0) 0 dX11_commons_0 rfl rfl ?_
  refine JC_pt_i (J_callV (mi := mi_X11_commons) (mj := mi_X11_hasLand) (pc := 1) dX11_commons_1 ml_X11_201 ok_X11_hasLand ov_X11_hasLand ⟨Nat.le_of_ble_eq_true rfl, Nat.le_of_ble_eq_true rfl⟩ rfl (h0.lt 0 (by decide)) (h0.ty 0 rfl) rfl (s_X11_hasLand g d a h0 ha hco) rfl (Nat.le_of_ble_eq_true rfl)) ?_
  refine K_ifeq_b (K := k) (pc := 4) (tgt := 28) dX11_commons_4 (by decide) (fun z4 => ?_) (fun z4 => ?_)
  · refine J_aload_n (pc := 28) 0 dX11_commons_28 rfl rfl ?_
    refine J_iconst (pc := 29) (v := 1) dX11_commons_29 (by decide) ?_
    refine JC_lt_i (K := k) (J_callV (mi := mi_X11_commons) (mj := mi_X11_refused) (pc := 30) dX11_commons_30 ml_X11_102 ok_X11_refused ov_X11_refused ⟨Nat.le_of_ble_eq_true rfl, Nat.le_of_ble_eq_true rfl⟩ rfl (h0.lt 0 (by decide)) (h0.ty 0 rfl) rfl (s_X11_refused g d 1 h0) rfl (Nat.le_of_ble_eq_true rfl)) (fun q30 eq30 => ?_)
    exact J_eqo (hk (q30.1, q30.2)) (J_iret (pc := 33) dX11_commons_33 rfl)
  · refine J_aload_n (pc := 7) 0 dX11_commons_7 rfl rfl ?_
    refine J_aload_n (pc := 8) 0 dX11_commons_8 rfl rfl ?_
    refine J_getR (pc := 9) dX11_commons_9 fl_X11_78 (h0.lt 0 (by decide)) (h0.ty 0 rfl) rfl hco ?_
    refine J_aload_n (pc := 12) 0 dX11_commons_12 rfl rfl ?_
    refine J_getR (pc := 13) dX11_commons_13 fl_X11_28 (h0.lt 0 (by decide)) (h0.ty 0 rfl) rfl (h0.rf 2 rfl) ?_
    refine J_getI (pc := 16) dX11_commons_16 fl_X11_159 (h0.lt 22 (by decide)) (h0.ty 22 rfl) rfl ?_
    refine JC_pt_i (J_callV (mi := mi_X11_commons) (mj := mi_X3_gatesUnowned) (pc := 19) dX11_commons_19 ml_X11_204 ok_X3_gatesUnowned ov_X3_gatesUnowned ⟨Nat.le_of_ble_eq_true rfl, Nat.le_of_ble_eq_true rfl⟩ rfl (ha.lt 0 (by decide)) (ha.ty 0 rfl) rfl (s_X3_gatesUnowned g d a ((d.1 22) 0) ha) rfl (Nat.le_of_ble_eq_true rfl)) ?_
    refine JC_lt_i (K := k) (J_callV (mi := mi_X11_commons) (mj := mi_X11_answered) (pc := 22) dX11_commons_22 ml_X11_120 ok_X11_answered ov_X11_answered ⟨Nat.le_of_ble_eq_true rfl, Nat.le_of_ble_eq_true rfl⟩ rfl (h0.lt 0 (by decide)) (h0.ty 0 rfl) rfl (s_X11_answered g d (f_X3_gatesUnowned (d.1 a) (d.1 (a + 7)) ((d.1 22) 0)) h0) rfl (Nat.le_of_ble_eq_true rfl)) (fun q22 eq22 => ?_)
    refine J_goto (pc := 25) (tgt := 33) dX11_commons_25 (by decide) ?_
    exact J_eqo (hk (q22.1, q22.2)) (J_iret (pc := 33) dX11_commons_33 rfl)
def f_X11_richest (a : Nat) (d : JD) : Int32 × JD := (if (f_X11_hasLand (d.1 a)) = true then (j_let (f_X11_answered d (f_X3_wealthiest (d.1 a) (d.1 (a + 7)) (d.1 (a + 8)) ((d.1 22) 0))) (fun q22 => (q22.1, q22.2))) else (j_let (f_X11_refused d 1) (fun q30 => (q30.1, q30.2))))
set_option maxRecDepth 100000 in
set_option maxHeartbeats 4000000 in
theorem s_X11_richest (g : JG) (d : JD) (a : Nat) (h0 : j_sh g 0 TS_W RS_W) (ha : j_sh g a TS_CL RS_CL) (hco : g.2.2.1 0 10 = some a) : JM mi_X11_richest 0 0 (g, d) [.ref 0] (some (some (.int (f_X11_richest a d ).1), (g, (f_X11_richest a d ).2))) := by
  refine JM_of (by decide) rfl (Nat.le_of_ble_eq_true rfl) ?_
  refine J_loc (loc' := [(0, .ref 0)]) [0] rfl ?_
  obtain ⟨k, hk⟩ : ∃ k : Int32 × JD → Option (Option Value × JH), ∀ r9, k r9 = some (some (.int r9.1), (g, r9.2)) := ⟨_, fun _ => rfl⟩
  refine J_eqo (hk (f_X11_richest a d )).symm ?_
  unfold f_X11_richest
  refine J_aload_n (pc := 0) 0 dX11_richest_0 rfl rfl ?_
  refine JC_pt_i (J_callV (mi := mi_X11_richest) (mj := mi_X11_hasLand) (pc := 1) dX11_richest_1 ml_X11_201 ok_X11_hasLand ov_X11_hasLand ⟨Nat.le_of_ble_eq_true rfl, Nat.le_of_ble_eq_true rfl⟩ rfl (h0.lt 0 (by decide)) (h0.ty 0 rfl) rfl (s_X11_hasLand g d a h0 ha hco) rfl (Nat.le_of_ble_eq_true rfl)) ?_
  refine K_ifeq_b (K := k) (pc := 4) (tgt := 28) dX11_richest_4 (by decide) (fun z4 => ?_) (fun z4 => ?_)
  · refine J_aload_n (pc := 28) 0 dX11_richest_28 rfl rfl ?_
    refine J_iconst (pc := 29) (v := 1) dX11_richest_29 (by decide) ?_
    refine JC_lt_i (K := k) (J_callV (mi := mi_X11_richest) (mj := mi_X11_refused) (pc := 30) dX11_richest_30 ml_X11_102 ok_X11_refused ov_X11_refused ⟨Nat.le_of_ble_eq_true rfl, Nat.le_of_ble_eq_true rfl⟩ rfl (h0.lt 0 (by decide)) (h0.ty 0 rfl) rfl (s_X11_refused g d 1 h0) rfl (Nat.le_of_ble_eq_true rfl)) (fun q30 eq30 => ?_)
    exact J_eqo (hk (q30.1, q30.2)) (J_iret (pc := 33) dX11_richest_33 rfl)
  · refine J_aload_n (pc := 7) 0 dX11_richest_7 rfl rfl ?_
    refine J_aload_n (pc := 8) 0 dX11_richest_8 rfl rfl ?_
    refine J_getR (pc := 9) dX11_richest_9 fl_X11_78 (h0.lt 0 (by decide)) (h0.ty 0 rfl) rfl hco ?_
    refine J_aload_n (pc := 12) 0 dX11_richest_12 rfl rfl ?_
    refine J_getR (pc := 13) dX11_richest_13 fl_X11_28 (h0.lt 0 (by decide)) (h0.ty 0 rfl) rfl (h0.rf 2 rfl) ?_
    refine J_getI (pc := 16) dX11_richest_16 fl_X11_159 (h0.lt 22 (by decide)) (h0.ty 22 rfl) rfl ?_
    refine JC_pt_i (J_callV (mi := mi_X11_richest) (mj := mi_X3_wealthiest) (pc := 19) dX11_richest_19 ml_X11_207 ok_X3_wealthiest ov_X3_wealthiest ⟨Nat.le_of_ble_eq_true rfl, Nat.le_of_ble_eq_true rfl⟩ rfl (ha.lt 0 (by decide)) (ha.ty 0 rfl) rfl (s_X3_wealthiest g d a ((d.1 22) 0) ha) rfl (Nat.le_of_ble_eq_true rfl)) ?_
    refine JC_lt_i (K := k) (J_callV (mi := mi_X11_richest) (mj := mi_X11_answered) (pc := 22) dX11_richest_22 ml_X11_120 ok_X11_answered ov_X11_answered ⟨Nat.le_of_ble_eq_true rfl, Nat.le_of_ble_eq_true rfl⟩ rfl (h0.lt 0 (by decide)) (h0.ty 0 rfl) rfl (s_X11_answered g d (f_X3_wealthiest (d.1 a) (d.1 (a + 7)) (d.1 (a + 8)) ((d.1 22) 0)) h0) rfl (Nat.le_of_ble_eq_true rfl)) (fun q22 eq22 => ?_)
    refine J_goto (pc := 25) (tgt := 33) dX11_richest_25 (by decide) ?_
    exact J_eqo (hk (q22.1, q22.2)) (J_iret (pc := 33) dX11_richest_33 rfl)
def f_X11_ground (a : Nat) (d : JD) : Int32 × JD := (if (f_X11_hasLand (d.1 a)) = true then (j_let (f_X11_answered d (f_X3_hooksLying (d.1 a) ((d.1 22) 0))) (fun q22 => (q22.1, q22.2))) else (j_let (f_X11_refused d 1) (fun q30 => (q30.1, q30.2))))
set_option maxRecDepth 100000 in
set_option maxHeartbeats 4000000 in
theorem s_X11_ground (g : JG) (d : JD) (a : Nat) (h0 : j_sh g 0 TS_W RS_W) (ha : j_sh g a TS_CL RS_CL) (hco : g.2.2.1 0 10 = some a) : JM mi_X11_ground 0 0 (g, d) [.ref 0] (some (some (.int (f_X11_ground a d ).1), (g, (f_X11_ground a d ).2))) := by
  refine JM_of (by decide) rfl (Nat.le_of_ble_eq_true rfl) ?_
  refine J_loc (loc' := [(0, .ref 0)]) [0] rfl ?_
  obtain ⟨k, hk⟩ : ∃ k : Int32 × JD → Option (Option Value × JH), ∀ r9, k r9 = some (some (.int r9.1), (g, r9.2)) := ⟨_, fun _ => rfl⟩
  refine J_eqo (hk (f_X11_ground a d )).symm ?_
  unfold f_X11_ground
  refine J_aload_n (pc := 0) 0 dX11_ground_0 rfl rfl ?_
  refine JC_pt_i (J_callV (mi := mi_X11_ground) (mj := mi_X11_hasLand) (pc := 1) dX11_ground_1 ml_X11_201 ok_X11_hasLand ov_X11_hasLand ⟨Nat.le_of_ble_eq_true rfl, Nat.le_of_ble_eq_true rfl⟩ rfl (h0.lt 0 (by decide)) (h0.ty 0 rfl) rfl (s_X11_hasLand g d a h0 ha hco) rfl (Nat.le_of_ble_eq_true rfl)) ?_
  refine K_ifeq_b (K := k) (pc := 4) (tgt := 28) dX11_ground_4 (by decide) (fun z4 => ?_) (fun z4 => ?_)
  · refine J_aload_n (pc := 28) 0 dX11_ground_28 rfl rfl ?_
    refine J_iconst (pc := 29) (v := 1) dX11_ground_29 (by decide) ?_
    refine JC_lt_i (K := k) (J_callV (mi := mi_X11_ground) (mj := mi_X11_refused) (pc := 30) dX11_ground_30 ml_X11_102 ok_X11_refused ov_X11_refused ⟨Nat.le_of_ble_eq_true rfl, Nat.le_of_ble_eq_true rfl⟩ rfl (h0.lt 0 (by decide)) (h0.ty 0 rfl) rfl (s_X11_refused g d 1 h0) rfl (Nat.le_of_ble_eq_true rfl)) (fun q30 eq30 => ?_)
    exact J_eqo (hk (q30.1, q30.2)) (J_iret (pc := 33) dX11_ground_33 rfl)
  · refine J_aload_n (pc := 7) 0 dX11_ground_7 rfl rfl ?_
    refine J_aload_n (pc := 8) 0 dX11_ground_8 rfl rfl ?_
    refine J_getR (pc := 9) dX11_ground_9 fl_X11_78 (h0.lt 0 (by decide)) (h0.ty 0 rfl) rfl hco ?_
    refine J_aload_n (pc := 12) 0 dX11_ground_12 rfl rfl ?_
    refine J_getR (pc := 13) dX11_ground_13 fl_X11_28 (h0.lt 0 (by decide)) (h0.ty 0 rfl) rfl (h0.rf 2 rfl) ?_
    refine J_getI (pc := 16) dX11_ground_16 fl_X11_159 (h0.lt 22 (by decide)) (h0.ty 22 rfl) rfl ?_
    refine JC_pt_i (J_callV (mi := mi_X11_ground) (mj := mi_X3_hooksLying) (pc := 19) dX11_ground_19 ml_X11_210 ok_X3_hooksLying ov_X3_hooksLying ⟨Nat.le_of_ble_eq_true rfl, Nat.le_of_ble_eq_true rfl⟩ rfl (ha.lt 0 (by decide)) (ha.ty 0 rfl) rfl (s_X3_hooksLying g d a ((d.1 22) 0) ha) rfl (Nat.le_of_ble_eq_true rfl)) ?_
    refine JC_lt_i (K := k) (J_callV (mi := mi_X11_ground) (mj := mi_X11_answered) (pc := 22) dX11_ground_22 ml_X11_120 ok_X11_answered ov_X11_answered ⟨Nat.le_of_ble_eq_true rfl, Nat.le_of_ble_eq_true rfl⟩ rfl (h0.lt 0 (by decide)) (h0.ty 0 rfl) rfl (s_X11_answered g d (f_X3_hooksLying (d.1 a) ((d.1 22) 0)) h0) rfl (Nat.le_of_ble_eq_true rfl)) (fun q22 eq22 => ?_)
    refine J_goto (pc := 25) (tgt := 33) dX11_ground_25 (by decide) ?_
    exact J_eqo (hk (q22.1, q22.2)) (J_iret (pc := 33) dX11_ground_33 rfl)
def f_X11_isHung (pq0 : Int32) : Bool := (if pq0 < 0 then (false) else (if 2 < pq0 then (false) else (true)))
set_option maxRecDepth 100000 in
set_option maxHeartbeats 4000000 in
theorem s_X11_isHung (g : JG) (d : JD) (pq0 : Int32) : JM mi_X11_isHung 0 0 (g, d) [.int pq0] (some (some (.int (j_b (f_X11_isHung pq0))), (g, d))) := by
  refine JM_of (by decide) rfl (Nat.le_of_ble_eq_true rfl) ?_
  refine J_loc (loc' := [(0, .int pq0)]) [0] rfl ?_
  obtain ⟨k, hk⟩ : ∃ k : Bool → Option (Option Value × JH), ∀ r9, k r9 = some (some (.int (j_b r9)), (g, d)) := ⟨_, fun _ => rfl⟩
  refine J_eqo (hk (f_X11_isHung pq0)).symm ?_
  unfold f_X11_isHung
  refine J_iload_n (pc := 0) 0 dX11_isHung_0 rfl rfl ?_
  refine K_if_lt (K := k) (pc := 1) (tgt := 13) dX11_isHung_1 (by decide) (fun z1 => ?_) (fun z1 => ?_)
  · refine J_iconst (pc := 13) (v := 0) dX11_isHung_13 (by decide) ?_
    exact J_eqo (hk false) (J_zretB (pc := 14) dX11_isHung_14 rfl)
  · refine J_iload_n (pc := 4) 0 dX11_isHung_4 rfl rfl ?_
    refine J_iconst (pc := 5) (v := 2) dX11_isHung_5 (by decide) ?_
    refine K_icmp_gt (K := k) (pc := 6) (tgt := 13) dX11_isHung_6 (by decide) (fun z6 => ?_) (fun z6 => ?_)
    · refine J_iconst (pc := 13) (v := 0) dX11_isHung_13 (by decide) ?_
      exact J_eqo (hk false) (J_zretB (pc := 14) dX11_isHung_14 rfl)
    · refine J_iconst (pc := 9) (v := 1) dX11_isHung_9 (by decide) ?_
      refine J_goto (pc := 10) (tgt := 14) dX11_isHung_10 (by decide) ?_
      exact J_eqo (hk true) (J_zretB (pc := 14) dX11_isHung_14 rfl)
def f_X11_hasIf_j16 (a : Nat) (d16 : JD) : Int32 × JD := (j_let (f_X11_refused d16 1) (fun q18 => (q18.1, q18.2)))
def f_X11_hasIf (a : Nat) (d : JD) (pq0 : Int32) (pq1 : Int32) (pq2 : Int32) : Int32 × JD := (if (f_X11_isPerson (d.1 a) pq0) = true then (if (f_X11_isGate (d.1 a) pq1) = true then (if (f_X11_isHung pq2) = true then (j_let (f_X11_answered d (f_X3_wealth (d.1 a) (d.1 (a + 7)) (d.1 (a + 8)) pq0 (f_X10_with ((d.1 22) 0) pq1 pq2))) (fun q56 => (q56.1, q56.2))) else (j_let (f_X11_refused d 2) (fun q31 => (q31.1, q31.2)))) else f_X11_hasIf_j16 a d ) else f_X11_hasIf_j16 a d )
set_option maxRecDepth 100000 in
set_option maxHeartbeats 4000000 in
theorem s_X11_hasIf (g : JG) (d : JD) (a : Nat) (pq0 : Int32) (pq1 : Int32) (pq2 : Int32) (h0 : j_sh g 0 TS_W RS_W) (ha : j_sh g a TS_CL RS_CL) (hco : g.2.2.1 0 10 = some a) : JM mi_X11_hasIf 0 0 (g, d) [.ref 0, .int pq0, .int pq1, .int pq2] (some (some (.int (f_X11_hasIf a d pq0 pq1 pq2).1), (g, (f_X11_hasIf a d pq0 pq1 pq2).2))) := by
  refine JM_of (by decide) rfl (Nat.le_of_ble_eq_true rfl) ?_
  refine J_loc (loc' := [(0, .ref 0), (1, .int pq0), (2, .int pq1), (3, .int pq2)]) [0, 1, 2, 3] rfl ?_
  obtain ⟨k, hk⟩ : ∃ k : Int32 × JD → Option (Option Value × JH), ∀ r9, k r9 = some (some (.int r9.1), (g, r9.2)) := ⟨_, fun _ => rfl⟩
  refine J_eqo (hk (f_X11_hasIf a d pq0 pq1 pq2)).symm ?_
  unfold f_X11_hasIf
  have hX11_hasIf_j16 : ∀ (d16 : JD) , J mi_X11_hasIf 0 0 0 0 (g, d16) 16 [(0, .ref 0)] [] (k (f_X11_hasIf_j16 a d16 )) := by
    intro d16 
    unfold f_X11_hasIf_j16
    refine J_aload_n (pc := 16) 0 dX11_hasIf_16 rfl rfl ?_
    refine J_iconst (pc := 17) (v := 1) dX11_hasIf_17 (by decide) ?_
    refine JC_lt_i (K := k) (J_callV (mi := mi_X11_hasIf) (mj := mi_X11_refused) (pc := 18) dX11_hasIf_18 ml_X11_102 ok_X11_refused ov_X11_refused ⟨Nat.le_of_ble_eq_true rfl, Nat.le_of_ble_eq_true rfl⟩ rfl (h0.lt 0 (by decide)) (h0.ty 0 rfl) rfl (s_X11_refused g d16 1 h0) rfl (Nat.le_of_ble_eq_true rfl)) (fun q18 eq18 => ?_)
    exact J_eqo (hk (q18.1, q18.2)) (J_iret (pc := 21) dX11_hasIf_21 rfl)
  refine J_aload_n (pc := 0) 0 dX11_hasIf_0 rfl rfl ?_
  refine J_iload_n (pc := 1) 1 dX11_hasIf_1 rfl rfl ?_
  refine JC_pt_i (J_callV (mi := mi_X11_hasIf) (mj := mi_X11_isPerson) (pc := 2) dX11_hasIf_2 ml_X11_174 ok_X11_isPerson ov_X11_isPerson ⟨Nat.le_of_ble_eq_true rfl, Nat.le_of_ble_eq_true rfl⟩ rfl (h0.lt 0 (by decide)) (h0.ty 0 rfl) rfl (s_X11_isPerson g d a pq0 h0 ha hco) rfl (Nat.le_of_ble_eq_true rfl)) ?_
  refine K_ifeq_b (K := k) (pc := 5) (tgt := 16) dX11_hasIf_5 (by decide) (fun z5 => ?_) (fun z5 => ?_)
  · refine J_loc (loc' := [(0, .ref 0)]) [0] rfl ?_
    exact hX11_hasIf_j16 d 
  · refine J_aload_n (pc := 8) 0 dX11_hasIf_8 rfl rfl ?_
    refine J_iload_n (pc := 9) 2 dX11_hasIf_9 rfl rfl ?_
    refine JC_pt_i (J_callV (mi := mi_X11_hasIf) (mj := mi_X11_isGate) (pc := 10) dX11_hasIf_10 ml_X11_142 ok_X11_isGate ov_X11_isGate ⟨Nat.le_of_ble_eq_true rfl, Nat.le_of_ble_eq_true rfl⟩ rfl (h0.lt 0 (by decide)) (h0.ty 0 rfl) rfl (s_X11_isGate g d a pq1 h0 ha hco) rfl (Nat.le_of_ble_eq_true rfl)) ?_
    refine K_ifne_b (K := k) (pc := 13) (tgt := 22) dX11_hasIf_13 (by decide) (fun z13 => ?_) (fun z13 => ?_)
    · refine J_iload_n (pc := 22) 3 dX11_hasIf_22 rfl rfl ?_
      refine JC_pt_i (J_callS (mi := mi_X11_hasIf) (mj := mi_X11_isHung) (pc := 23) dX11_hasIf_23 ml_X11_213 ok_X11_isHung os_X11_isHung ⟨Nat.le_of_ble_eq_true rfl, Nat.le_of_ble_eq_true rfl⟩ rfl (s_X11_isHung g d pq2) rfl (Nat.le_of_ble_eq_true rfl)) ?_
      refine K_ifne_b (K := k) (pc := 26) (tgt := 35) dX11_hasIf_26 (by decide) (fun z26 => ?_) (fun z26 => ?_)
      · refine J_aload_n (pc := 35) 0 dX11_hasIf_35 rfl rfl ?_
        refine J_aload_n (pc := 36) 0 dX11_hasIf_36 rfl rfl ?_
        refine J_getR (pc := 37) dX11_hasIf_37 fl_X11_78 (h0.lt 0 (by decide)) (h0.ty 0 rfl) rfl hco ?_
        refine J_iload_n (pc := 40) 1 dX11_hasIf_40 rfl rfl ?_
        refine J_aload_n (pc := 41) 0 dX11_hasIf_41 rfl rfl ?_
        refine J_getR (pc := 42) dX11_hasIf_42 fl_X11_28 (h0.lt 0 (by decide)) (h0.ty 0 rfl) rfl (h0.rf 2 rfl) ?_
        refine J_getI (pc := 45) dX11_hasIf_45 fl_X11_159 (h0.lt 22 (by decide)) (h0.ty 22 rfl) rfl ?_
        refine J_iload_n (pc := 48) 2 dX11_hasIf_48 rfl rfl ?_
        refine J_iload_n (pc := 49) 3 dX11_hasIf_49 rfl rfl ?_
        refine JC_pt_i (J_callS (mi := mi_X11_hasIf) (mj := mi_X10_with) (pc := 50) dX11_hasIf_50 ml_X11_216 ok_X10_with os_X10_with ⟨Nat.le_of_ble_eq_true rfl, Nat.le_of_ble_eq_true rfl⟩ rfl (s_X10_with g d ((d.1 22) 0) pq1 pq2) rfl (Nat.le_of_ble_eq_true rfl)) ?_
        refine JC_pt_i (J_callV (mi := mi_X11_hasIf) (mj := mi_X3_wealth) (pc := 53) dX11_hasIf_53 ml_X11_177 ok_X3_wealth ov_X3_wealth ⟨Nat.le_of_ble_eq_true rfl, Nat.le_of_ble_eq_true rfl⟩ rfl (ha.lt 0 (by decide)) (ha.ty 0 rfl) rfl (s_X3_wealth g d a pq0 (f_X10_with ((d.1 22) 0) pq1 pq2) ha) rfl (Nat.le_of_ble_eq_true rfl)) ?_
        refine JC_lt_i (K := k) (J_callV (mi := mi_X11_hasIf) (mj := mi_X11_answered) (pc := 56) dX11_hasIf_56 ml_X11_120 ok_X11_answered ov_X11_answered ⟨Nat.le_of_ble_eq_true rfl, Nat.le_of_ble_eq_true rfl⟩ rfl (h0.lt 0 (by decide)) (h0.ty 0 rfl) rfl (s_X11_answered g d (f_X3_wealth (d.1 a) (d.1 (a + 7)) (d.1 (a + 8)) pq0 (f_X10_with ((d.1 22) 0) pq1 pq2)) h0) rfl (Nat.le_of_ble_eq_true rfl)) (fun q56 eq56 => ?_)
        exact J_eqo (hk (q56.1, q56.2)) (J_iret (pc := 59) dX11_hasIf_59 rfl)
      · refine J_aload_n (pc := 29) 0 dX11_hasIf_29 rfl rfl ?_
        refine J_iconst (pc := 30) (v := 2) dX11_hasIf_30 (by decide) ?_
        refine JC_lt_i (K := k) (J_callV (mi := mi_X11_hasIf) (mj := mi_X11_refused) (pc := 31) dX11_hasIf_31 ml_X11_102 ok_X11_refused ov_X11_refused ⟨Nat.le_of_ble_eq_true rfl, Nat.le_of_ble_eq_true rfl⟩ rfl (h0.lt 0 (by decide)) (h0.ty 0 rfl) rfl (s_X11_refused g d 2 h0) rfl (Nat.le_of_ble_eq_true rfl)) (fun q31 eq31 => ?_)
        exact J_eqo (hk (q31.1, q31.2)) (J_iret (pc := 34) dX11_hasIf_34 rfl)
    · refine J_loc (loc' := [(0, .ref 0)]) [0] rfl ?_
      exact hX11_hasIf_j16 d 
def f_X11_can_j17 (a : Nat) (d17 : JD) : Option (Int32 × JD) := (j_let (f_X11_refused d17 1) (fun q19 => some (q19.1, q19.2)))
def f_X11_can_w27 (a : Nat) (d : JD) (s27 : Int32 × Int32) : Option ((Int32 × Int32) ⊕ (Int32 × Int32)) := (if 3 ≤ s27.1 then some (.inr (s27.1, s27.2)) else (if s27.2 < (((d).1 a) 4) then some (.inr (s27.1, s27.2)) else (some (.inl (s27.1 + 1, s27.2 - (((d).1 a) 4))))))
def f_X11_can_j85 (a : Nat) (d85 : JD) (y0_85 : Int32) : Option (Int32 × JD) := (j_let (f_X11_answered d85 y0_85) (fun q85 => some (q85.1, q85.2)))
def f_X11_can (a : Nat) (d : JD) (pq0 : Int32) : Option (Int32 × JD) := (if pq0 < 0 then f_X11_can_j17 a d else (if pq0 < ((4 : Int32) * ((d.1 a) 4)) then ((j_wh (f_X11_can_w27 a d ) j_fuel (0, pq0)).bind (fun (e27 : Int32 × Int32) => (if (f_X3_wayAfter (d.1 a) ((d.1 22) 0) e27.1 e27.2) = (-1) then (f_X11_can_j85 a d 0) else (f_X11_can_j85 a d 1)))) else f_X11_can_j17 a d ))
set_option maxRecDepth 100000 in
set_option maxHeartbeats 4000000 in
theorem s_X11_can (g : JG) (d : JD) (a : Nat) (pq0 : Int32) (h0 : j_sh g 0 TS_W RS_W) (ha : j_sh g a TS_CL RS_CL) (hco : g.2.2.1 0 10 = some a) : JM mi_X11_can 0 0 (g, d) [.ref 0, .int pq0] ((f_X11_can a d pq0).bind (fun r9 => some (some (.int r9.1), (g, r9.2)))) := by
  refine JM_of (by decide) rfl (Nat.le_of_ble_eq_true rfl) ?_
  refine J_loc (loc' := [(0, .ref 0), (1, .int pq0)]) [0, 1] rfl ?_
  obtain ⟨k, hk, hk2⟩ : ∃ k : Int32 × JD → Option (Option Value × JH), (∀ r9, k r9 = some (some (.int r9.1), (g, r9.2))) ∧ (fun r9 : Int32 × JD => (some (some (.int r9.1), (g, r9.2)) : Option (Option Value × JH))) = k := ⟨_, fun _ => rfl, rfl⟩
  rw [hk2]
  unfold f_X11_can
  have hX11_can_j17 : ∀ (d17 : JD) , J mi_X11_can 0 0 0 0 (g, d17) 17 [(0, .ref 0)] [] ((f_X11_can_j17 a d17 ).bind k) := by
    intro d17 
    unfold f_X11_can_j17
    refine J_aload_n (pc := 17) 0 dX11_can_17 rfl rfl ?_
    refine J_iconst (pc := 18) (v := 1) dX11_can_18 (by decide) ?_
    refine JC_lt_i (K := (fun x => Option.bind x k)) (J_callV (mi := mi_X11_can) (mj := mi_X11_refused) (pc := 19) dX11_can_19 ml_X11_102 ok_X11_refused ov_X11_refused ⟨Nat.le_of_ble_eq_true rfl, Nat.le_of_ble_eq_true rfl⟩ rfl (h0.lt 0 (by decide)) (h0.ty 0 rfl) rfl (s_X11_refused g d17 1 h0) rfl (Nat.le_of_ble_eq_true rfl)) (fun q19 eq19 => ?_)
    exact J_eqo (hk (q19.1, q19.2)) (J_iret (pc := 22) dX11_can_22 rfl)
  have hX11_can_j85 : ∀ (d85 : JD) (y0_85 : Int32), J mi_X11_can 0 0 0 0 (g, d85) 85 [] [.int y0_85, .ref 0] ((f_X11_can_j85 a d85 y0_85).bind k) := by
    intro d85 y0_85
    unfold f_X11_can_j85
    refine JC_lt_i (K := (fun x => Option.bind x k)) (J_callV (mi := mi_X11_can) (mj := mi_X11_answered) (pc := 85) dX11_can_85 ml_X11_120 ok_X11_answered ov_X11_answered ⟨Nat.le_of_ble_eq_true rfl, Nat.le_of_ble_eq_true rfl⟩ rfl (h0.lt 0 (by decide)) (h0.ty 0 rfl) rfl (s_X11_answered g d85 y0_85 h0) rfl (Nat.le_of_ble_eq_true rfl)) (fun q85 eq85 => ?_)
    exact J_eqo (hk (q85.1, q85.2)) (J_iret (pc := 88) dX11_can_88 rfl)
  refine J_iload_n (pc := 0) 1 dX11_can_0 rfl rfl ?_
  refine K_if_lt (K := (fun x => Option.bind x k)) (pc := 1) (tgt := 17) dX11_can_1 (by decide) (fun z1 => ?_) (fun z1 => ?_)
  · refine J_loc (loc' := [(0, .ref 0)]) [0] rfl ?_
    exact hX11_can_j17 d 
  · refine J_iload_n (pc := 4) 1 dX11_can_4 rfl rfl ?_
    refine J_iconst (pc := 5) (v := 4) dX11_can_5 (by decide) ?_
    refine J_aload_n (pc := 6) 0 dX11_can_6 rfl rfl ?_
    refine J_getR (pc := 7) dX11_can_7 fl_X11_78 (h0.lt 0 (by decide)) (h0.ty 0 rfl) rfl hco ?_
    refine J_getI (pc := 10) dX11_can_10 fl_X11_117 (ha.lt 0 (by decide)) (ha.ty 0 rfl) rfl ?_
    refine J_imul (pc := 13) dX11_can_13 ?_
    refine K_icmp_lt (K := (fun x => Option.bind x k)) (pc := 14) (tgt := 23) dX11_can_14 (by decide) (fun z14 => ?_) (fun z14 => ?_)
    · refine J_iconst (pc := 23) (v := 0) dX11_can_23 (by decide) ?_
      refine J_istore_n (pc := 24) (loc' := [(2, .int 0), (0, .ref 0), (1, .int pq0)]) dX11_can_24 rfl (by decide) rfl ?_
      refine J_iload_n (pc := 25) 2 dX11_can_25 rfl rfl ?_
      refine J_istore_n (pc := 26) (loc' := [(3, .int pq0), (2, .int 0), (0, .ref 0), (1, .int pq0)]) dX11_can_26 rfl (by decide) rfl ?_
      refine J_loc (loc' := [(0, .ref 0), (2, .int 0), (3, .int pq0)]) [2, 1, 0] rfl ?_
      refine J_whL (F := f_X11_can_w27 a d ) (hp := fun (s27 : Int32 × Int32) => (g, d)) (lc := fun (s27 : Int32 × Int32) => [(0, .ref 0), (2, .int s27.1), (3, .int s27.2)]) (XJ := fun (e27 : Int32 × Int32) o9 => J mi_X11_can 0 0 0 0 (g, d) 59 [(0, .ref 0), (2, .int e27.1), (3, .int e27.2)] [] o9) (fun s27 k27 hB27 hX27 => ?_) (fun e27 => ?_) _ (0, pq0)
      · show J mi_X11_can 0 0 0 0 (g, d) 27 [(0, .ref 0), (2, .int s27.1), (3, .int s27.2)] [] ((f_X11_can_w27 a d s27).bind k27)
        unfold f_X11_can_w27
        refine J_iload_n (pc := 27) 1 dX11_can_27 rfl rfl ?_
        refine J_iconst (pc := 28) (v := 3) dX11_can_28 (by decide) ?_
        refine K_icmp_ge (K := (fun x => Option.bind x k27)) (pc := 29) (tgt := 59) dX11_can_29 (by decide) (fun z29 => ?_) (fun z29 => ?_)
        · exact hX27 (s27.1, s27.2)
        · refine J_iload_n (pc := 32) 2 dX11_can_32 rfl rfl ?_
          refine J_aload_n (pc := 33) 0 dX11_can_33 rfl rfl ?_
          refine J_getR (pc := 34) dX11_can_34 fl_X11_78 (h0.lt 0 (by decide)) (h0.ty 0 rfl) rfl hco ?_
          refine J_getI (pc := 37) dX11_can_37 fl_X11_117 (ha.lt 0 (by decide)) (ha.ty 0 rfl) rfl ?_
          refine K_icmp_lt (K := (fun x => Option.bind x k27)) (pc := 40) (tgt := 59) dX11_can_40 (by decide) (fun z40 => ?_) (fun z40 => ?_)
          · exact hX27 (s27.1, s27.2)
          · refine J_iload_n (pc := 43) 2 dX11_can_43 rfl rfl ?_
            refine J_aload_n (pc := 44) 0 dX11_can_44 rfl rfl ?_
            refine J_getR (pc := 45) dX11_can_45 fl_X11_78 (h0.lt 0 (by decide)) (h0.ty 0 rfl) rfl hco ?_
            refine J_getI (pc := 48) dX11_can_48 fl_X11_117 (ha.lt 0 (by decide)) (ha.ty 0 rfl) rfl ?_
            refine J_isub (pc := 51) dX11_can_51 ?_
            refine J_istore_n (pc := 52) (loc' := [(3, .int (s27.2 - (((d).1 a) 4))), (0, .ref 0), (2, .int s27.1)]) dX11_can_52 rfl (by decide) rfl ?_
            refine J_iinc (pc := 53) (v := s27.1 + 1) (loc' := [(2, .int (s27.1 + 1)), (3, .int (s27.2 - (((d).1 a) 4))), (0, .ref 0)]) 2 dX11_can_53 rfl rfl (by decide) rfl ?_
            refine J_goto (pc := 56) (tgt := 27) dX11_can_56 (by decide) ?_
            refine J_loc (loc' := [(0, .ref 0), (2, .int (s27.1 + 1)), (3, .int (s27.2 - (((d).1 a) 4)))]) [2, 0, 1] rfl ?_
            exact hB27 (s27.1 + 1, s27.2 - (((d).1 a) 4))
      · show J mi_X11_can 0 0 0 0 (g, d) 59 [(0, .ref 0), (2, .int e27.1), (3, .int e27.2)] [] (_)
        refine J_aload_n (pc := 59) 0 dX11_can_59 rfl rfl ?_
        refine J_aload_n (pc := 60) 0 dX11_can_60 rfl rfl ?_
        refine J_getR (pc := 61) dX11_can_61 fl_X11_78 (h0.lt 0 (by decide)) (h0.ty 0 rfl) rfl hco ?_
        refine J_aload_n (pc := 64) 0 dX11_can_64 rfl rfl ?_
        refine J_getR (pc := 65) dX11_can_65 fl_X11_28 (h0.lt 0 (by decide)) (h0.ty 0 rfl) rfl (h0.rf 2 rfl) ?_
        refine J_getI (pc := 68) dX11_can_68 fl_X11_159 (h0.lt 22 (by decide)) (h0.ty 22 rfl) rfl ?_
        refine J_iload_n (pc := 71) 1 dX11_can_71 rfl rfl ?_
        refine J_iload_n (pc := 72) 2 dX11_can_72 rfl rfl ?_
        refine JC_pt_i (J_callV (mi := mi_X11_can) (mj := mi_X3_wayAfter) (pc := 73) dX11_can_73 ml_X11_220 ok_X3_wayAfter ov_X3_wayAfter ⟨Nat.le_of_ble_eq_true rfl, Nat.le_of_ble_eq_true rfl⟩ rfl (ha.lt 0 (by decide)) (ha.ty 0 rfl) rfl (s_X3_wayAfter g d a ((d.1 22) 0) e27.1 e27.2 ha) rfl (Nat.le_of_ble_eq_true rfl)) ?_
        refine J_iconst (pc := 76) (v := (-1)) dX11_can_76 (by decide) ?_
        refine K_icmp_ne (K := (fun x => Option.bind x k)) (pc := 77) (tgt := 84) dX11_can_77 (by decide) (fun z77 => ?_) (fun z77 => ?_)
        · refine J_iconst (pc := 84) (v := 1) dX11_can_84 (by decide) ?_
          refine J_loc (loc' := []) [] rfl ?_
          exact hX11_can_j85 d 1
        · refine J_iconst (pc := 80) (v := 0) dX11_can_80 (by decide) ?_
          refine J_goto (pc := 81) (tgt := 85) dX11_can_81 (by decide) ?_
          refine J_loc (loc' := []) [] rfl ?_
          exact hX11_can_j85 d 0
    · refine J_loc (loc' := [(0, .ref 0)]) [0] rfl ?_
      exact hX11_can_j17 d 
def f_X11_errand_j62 (a : Nat) (d62 : JD) (y0_62 : Int32) : Option (Int32 × JD) := (j_let (f_X11_answered d62 y0_62) (fun q62 => some (q62.1, q62.2)))
def f_X11_errand (a : Nat) (d : JD) : Option (Int32 × JD) := (if (f_X11_hasLand (d.1 a)) = true then ((f_X1_explore a d ((d.1 22) 0)).bind (fun q28 => j_let (f_X1_firstMeetingWants (q28.1 32) (q28.1 33) (q28.1 (a + 7)) (q28.1 (a + 9)) (q28.1 (a + 10)) (q28.1 (a + 11)) (q28.1 (a + 12))) (fun v1_42 => if v1_42 = (-1) then (f_X11_errand_j62 a q28 (-2)) else (f_X11_errand_j62 a q28 (f_X1_movesTo (q28.1 36) v1_42))))) else (j_let (f_X11_refused d 1) (fun q9 => some (q9.1, q9.2))))
set_option maxRecDepth 100000 in
set_option maxHeartbeats 4000000 in
theorem s_X11_errand (g : JG) (d : JD) (a : Nat) (h0 : j_sh g 0 TS_W RS_W) (ha : j_sh g a TS_CL RS_CL) (hco : g.2.2.1 0 10 = some a) : JM mi_X11_errand 0 0 (g, d) [.ref 0] ((f_X11_errand a d ).bind (fun r9 => some (some (.int r9.1), (g, r9.2)))) := by
  refine JM_of (by decide) rfl (Nat.le_of_ble_eq_true rfl) ?_
  refine J_loc (loc' := [(0, .ref 0)]) [0] rfl ?_
  obtain ⟨k, hk, hk2⟩ : ∃ k : Int32 × JD → Option (Option Value × JH), (∀ r9, k r9 = some (some (.int r9.1), (g, r9.2))) ∧ (fun r9 : Int32 × JD => (some (some (.int r9.1), (g, r9.2)) : Option (Option Value × JH))) = k := ⟨_, fun _ => rfl, rfl⟩
  rw [hk2]
  unfold f_X11_errand
  have hX11_errand_j62 : ∀ (d62 : JD) (y0_62 : Int32), J mi_X11_errand 0 0 0 0 (g, d62) 62 [] [.int y0_62, .ref 0] ((f_X11_errand_j62 a d62 y0_62).bind k) := by
    intro d62 y0_62
    unfold f_X11_errand_j62
    refine JC_lt_i (K := (fun x => Option.bind x k)) (J_callV (mi := mi_X11_errand) (mj := mi_X11_answered) (pc := 62) dX11_errand_62 ml_X11_120 ok_X11_answered ov_X11_answered ⟨Nat.le_of_ble_eq_true rfl, Nat.le_of_ble_eq_true rfl⟩ rfl (h0.lt 0 (by decide)) (h0.ty 0 rfl) rfl (s_X11_answered g d62 y0_62 h0) rfl (Nat.le_of_ble_eq_true rfl)) (fun q62 eq62 => ?_)
    exact J_eqo (hk (q62.1, q62.2)) (J_iret (pc := 65) dX11_errand_65 rfl)
  refine J_aload_n (pc := 0) 0 dX11_errand_0 rfl rfl ?_
  refine JC_pt_i (J_callV (mi := mi_X11_errand) (mj := mi_X11_hasLand) (pc := 1) dX11_errand_1 ml_X11_201 ok_X11_hasLand ov_X11_hasLand ⟨Nat.le_of_ble_eq_true rfl, Nat.le_of_ble_eq_true rfl⟩ rfl (h0.lt 0 (by decide)) (h0.ty 0 rfl) rfl (s_X11_hasLand g d a h0 ha hco) rfl (Nat.le_of_ble_eq_true rfl)) ?_
  refine K_ifne_b (K := (fun x => Option.bind x k)) (pc := 4) (tgt := 13) dX11_errand_4 (by decide) (fun z4 => ?_) (fun z4 => ?_)
  · refine J_aload_n (pc := 13) 0 dX11_errand_13 rfl rfl ?_
    refine J_getR (pc := 14) dX11_errand_14 fl_X11_50 (h0.lt 0 (by decide)) (h0.ty 0 rfl) rfl (h0.rf 6 rfl) ?_
    refine J_aload_n (pc := 17) 0 dX11_errand_17 rfl rfl ?_
    refine J_getR (pc := 18) dX11_errand_18 fl_X11_78 (h0.lt 0 (by decide)) (h0.ty 0 rfl) rfl hco ?_
    refine J_aload_n (pc := 21) 0 dX11_errand_21 rfl rfl ?_
    refine J_getR (pc := 22) dX11_errand_22 fl_X11_28 (h0.lt 0 (by decide)) (h0.ty 0 rfl) rfl (h0.rf 2 rfl) ?_
    refine J_getI (pc := 25) dX11_errand_25 fl_X11_159 (h0.lt 22 (by decide)) (h0.ty 22 rfl) rfl ?_
    refine JC_pe_v (J_callV (mi := mi_X11_errand) (mj := mi_X1_explore) (pc := 28) dX11_errand_28 ml_X11_223 ok_X1_explore ov_X1_explore ⟨Nat.le_of_ble_eq_true rfl, Nat.le_of_ble_eq_true rfl⟩ rfl (h0.lt 32 (by decide)) (h0.ty 32 rfl) rfl (s_X1_explore g d a ((d.1 22) 0) h0 ha) rfl (Nat.le_of_ble_eq_true rfl)) (fun q28 => ?_)
    refine J_aload_n (pc := 31) 0 dX11_errand_31 rfl rfl ?_
    refine J_getR (pc := 32) dX11_errand_32 fl_X11_50 (h0.lt 0 (by decide)) (h0.ty 0 rfl) rfl (h0.rf 6 rfl) ?_
    refine J_aload_n (pc := 35) 0 dX11_errand_35 rfl rfl ?_
    refine J_getR (pc := 36) dX11_errand_36 fl_X11_78 (h0.lt 0 (by decide)) (h0.ty 0 rfl) rfl hco ?_
    refine JC_pt_i (J_callV (mi := mi_X11_errand) (mj := mi_X1_firstMeetingWants) (pc := 39) dX11_errand_39 ml_X11_227 ok_X1_firstMeetingWants ov_X1_firstMeetingWants ⟨Nat.le_of_ble_eq_true rfl, Nat.le_of_ble_eq_true rfl⟩ rfl (h0.lt 32 (by decide)) (h0.ty 32 rfl) rfl (s_X1_firstMeetingWants g q28 a h0 ha) rfl (Nat.le_of_ble_eq_true rfl)) ?_
    refine J_let (K := (fun x => Option.bind x k)) (fun v1_42 ev1_42 => ?_)
    refine J_val ev1_42.symm ?_
    refine J_istore_n (pc := 42) (loc' := [(1, .int v1_42), (0, .ref 0)]) dX11_errand_42 rfl (by decide) rfl ?_
    refine J_aload_n (pc := 43) 1 dX11_errand_43 rfl rfl ?_
    refine J_iload_n (pc := 44) 0 dX11_errand_44 rfl rfl ?_
    refine J_iconst (pc := 45) (v := (-1)) dX11_errand_45 (by decide) ?_
    refine K_icmp_ne (K := (fun x => Option.bind x k)) (pc := 46) (tgt := 54) dX11_errand_46 (by decide) (fun z46 => ?_) (fun z46 => ?_)
    · refine J_aload_n (pc := 54) 1 dX11_errand_54 rfl rfl ?_
      refine J_getR (pc := 55) dX11_errand_55 fl_X11_50 (h0.lt 0 (by decide)) (h0.ty 0 rfl) rfl (h0.rf 6 rfl) ?_
      refine J_iload_n (pc := 58) 0 dX11_errand_58 rfl rfl ?_
      refine JC_pt_i (J_callV (mi := mi_X11_errand) (mj := mi_X1_movesTo) (pc := 59) dX11_errand_59 ml_X11_231 ok_X1_movesTo ov_X1_movesTo ⟨Nat.le_of_ble_eq_true rfl, Nat.le_of_ble_eq_true rfl⟩ rfl (h0.lt 32 (by decide)) (h0.ty 32 rfl) rfl (s_X1_movesTo g q28 v1_42 h0) rfl (Nat.le_of_ble_eq_true rfl)) ?_
      refine J_loc (loc' := []) [] rfl ?_
      exact hX11_errand_j62 q28 (f_X1_movesTo (q28.1 36) v1_42)
    · refine J_bipush (pc := 49) (v := (-2)) dX11_errand_49 (by decide) ?_
      refine J_goto (pc := 51) (tgt := 62) dX11_errand_51 (by decide) ?_
      refine J_loc (loc' := []) [] rfl ?_
      exact hX11_errand_j62 q28 (-2)
  · refine J_aload_n (pc := 7) 0 dX11_errand_7 rfl rfl ?_
    refine J_iconst (pc := 8) (v := 1) dX11_errand_8 (by decide) ?_
    refine JC_lt_i (K := (fun x => Option.bind x k)) (J_callV (mi := mi_X11_errand) (mj := mi_X11_refused) (pc := 9) dX11_errand_9 ml_X11_102 ok_X11_refused ov_X11_refused ⟨Nat.le_of_ble_eq_true rfl, Nat.le_of_ble_eq_true rfl⟩ rfl (h0.lt 0 (by decide)) (h0.ty 0 rfl) rfl (s_X11_refused g d 1 h0) rfl (Nat.le_of_ble_eq_true rfl)) (fun q9 eq9 => ?_)
    exact J_eqo (hk (q9.1, q9.2)) (J_iret (pc := 12) dX11_errand_12 rfl)
def f_X11_errandAt_j64 (a : Nat) (d64 : JD) : Option (Int32 × JD) := (j_let (f_X11_refused d64 1) (fun q66 => some (q66.1, q66.2)))
def f_X11_errandAt (a : Nat) (d : JD) (pq0 : Int32) : Option (Int32 × JD) := (if (f_X11_hasLand (d.1 a)) = true then ((f_X1_explore a d ((d.1 22) 0)).bind (fun q28 => j_let (f_X1_firstMeetingWants (q28.1 32) (q28.1 33) (q28.1 (a + 7)) (q28.1 (a + 9)) (q28.1 (a + 10)) (q28.1 (a + 11)) (q28.1 (a + 12))) (fun v2_42 => if v2_42 = (-1) then f_X11_errandAt_j64 a q28 else (if pq0 < 0 then f_X11_errandAt_j64 a q28 else (if pq0 < (f_X1_movesTo (q28.1 36) v2_42) then ((f_X1_moveTowards (q28.1 34) (q28.1 35) (q28.1 36) v2_42 pq0).bind (fun q77 => j_let (f_X11_answered q28 q77) (fun q80 => some (q80.1, q80.2)))) else f_X11_errandAt_j64 a q28 ))))) else (j_let (f_X11_refused d 1) (fun q9 => some (q9.1, q9.2))))
set_option maxRecDepth 100000 in
set_option maxHeartbeats 4000000 in
theorem s_X11_errandAt (g : JG) (d : JD) (a : Nat) (pq0 : Int32) (h0 : j_sh g 0 TS_W RS_W) (ha : j_sh g a TS_CL RS_CL) (hco : g.2.2.1 0 10 = some a) : JM mi_X11_errandAt 0 0 (g, d) [.ref 0, .int pq0] ((f_X11_errandAt a d pq0).bind (fun r9 => some (some (.int r9.1), (g, r9.2)))) := by
  refine JM_of (by decide) rfl (Nat.le_of_ble_eq_true rfl) ?_
  refine J_loc (loc' := [(0, .ref 0), (1, .int pq0)]) [0, 1] rfl ?_
  obtain ⟨k, hk, hk2⟩ : ∃ k : Int32 × JD → Option (Option Value × JH), (∀ r9, k r9 = some (some (.int r9.1), (g, r9.2))) ∧ (fun r9 : Int32 × JD => (some (some (.int r9.1), (g, r9.2)) : Option (Option Value × JH))) = k := ⟨_, fun _ => rfl, rfl⟩
  rw [hk2]
  unfold f_X11_errandAt
  have hX11_errandAt_j64 : ∀ (d64 : JD) , J mi_X11_errandAt 0 0 0 0 (g, d64) 64 [(0, .ref 0)] [] ((f_X11_errandAt_j64 a d64 ).bind k) := by
    intro d64 
    unfold f_X11_errandAt_j64
    refine J_aload_n (pc := 64) 0 dX11_errandAt_64 rfl rfl ?_
    refine J_iconst (pc := 65) (v := 1) dX11_errandAt_65 (by decide) ?_
    refine JC_lt_i (K := (fun x => Option.bind x k)) (J_callV (mi := mi_X11_errandAt) (mj := mi_X11_refused) (pc := 66) dX11_errandAt_66 ml_X11_102 ok_X11_refused ov_X11_refused ⟨Nat.le_of_ble_eq_true rfl, Nat.le_of_ble_eq_true rfl⟩ rfl (h0.lt 0 (by decide)) (h0.ty 0 rfl) rfl (s_X11_refused g d64 1 h0) rfl (Nat.le_of_ble_eq_true rfl)) (fun q66 eq66 => ?_)
    exact J_eqo (hk (q66.1, q66.2)) (J_iret (pc := 69) dX11_errandAt_69 rfl)
  refine J_aload_n (pc := 0) 0 dX11_errandAt_0 rfl rfl ?_
  refine JC_pt_i (J_callV (mi := mi_X11_errandAt) (mj := mi_X11_hasLand) (pc := 1) dX11_errandAt_1 ml_X11_201 ok_X11_hasLand ov_X11_hasLand ⟨Nat.le_of_ble_eq_true rfl, Nat.le_of_ble_eq_true rfl⟩ rfl (h0.lt 0 (by decide)) (h0.ty 0 rfl) rfl (s_X11_hasLand g d a h0 ha hco) rfl (Nat.le_of_ble_eq_true rfl)) ?_
  refine K_ifne_b (K := (fun x => Option.bind x k)) (pc := 4) (tgt := 13) dX11_errandAt_4 (by decide) (fun z4 => ?_) (fun z4 => ?_)
  · refine J_aload_n (pc := 13) 0 dX11_errandAt_13 rfl rfl ?_
    refine J_getR (pc := 14) dX11_errandAt_14 fl_X11_50 (h0.lt 0 (by decide)) (h0.ty 0 rfl) rfl (h0.rf 6 rfl) ?_
    refine J_aload_n (pc := 17) 0 dX11_errandAt_17 rfl rfl ?_
    refine J_getR (pc := 18) dX11_errandAt_18 fl_X11_78 (h0.lt 0 (by decide)) (h0.ty 0 rfl) rfl hco ?_
    refine J_aload_n (pc := 21) 0 dX11_errandAt_21 rfl rfl ?_
    refine J_getR (pc := 22) dX11_errandAt_22 fl_X11_28 (h0.lt 0 (by decide)) (h0.ty 0 rfl) rfl (h0.rf 2 rfl) ?_
    refine J_getI (pc := 25) dX11_errandAt_25 fl_X11_159 (h0.lt 22 (by decide)) (h0.ty 22 rfl) rfl ?_
    refine JC_pe_v (J_callV (mi := mi_X11_errandAt) (mj := mi_X1_explore) (pc := 28) dX11_errandAt_28 ml_X11_223 ok_X1_explore ov_X1_explore ⟨Nat.le_of_ble_eq_true rfl, Nat.le_of_ble_eq_true rfl⟩ rfl (h0.lt 32 (by decide)) (h0.ty 32 rfl) rfl (s_X1_explore g d a ((d.1 22) 0) h0 ha) rfl (Nat.le_of_ble_eq_true rfl)) (fun q28 => ?_)
    refine J_aload_n (pc := 31) 0 dX11_errandAt_31 rfl rfl ?_
    refine J_getR (pc := 32) dX11_errandAt_32 fl_X11_50 (h0.lt 0 (by decide)) (h0.ty 0 rfl) rfl (h0.rf 6 rfl) ?_
    refine J_aload_n (pc := 35) 0 dX11_errandAt_35 rfl rfl ?_
    refine J_getR (pc := 36) dX11_errandAt_36 fl_X11_78 (h0.lt 0 (by decide)) (h0.ty 0 rfl) rfl hco ?_
    refine JC_pt_i (J_callV (mi := mi_X11_errandAt) (mj := mi_X1_firstMeetingWants) (pc := 39) dX11_errandAt_39 ml_X11_227 ok_X1_firstMeetingWants ov_X1_firstMeetingWants ⟨Nat.le_of_ble_eq_true rfl, Nat.le_of_ble_eq_true rfl⟩ rfl (h0.lt 32 (by decide)) (h0.ty 32 rfl) rfl (s_X1_firstMeetingWants g q28 a h0 ha) rfl (Nat.le_of_ble_eq_true rfl)) ?_
    refine J_let (K := (fun x => Option.bind x k)) (fun v2_42 ev2_42 => ?_)
    refine J_val ev2_42.symm ?_
    refine J_istore_n (pc := 42) (loc' := [(2, .int v2_42), (0, .ref 0), (1, .int pq0)]) dX11_errandAt_42 rfl (by decide) rfl ?_
    refine J_iload_n (pc := 43) 0 dX11_errandAt_43 rfl rfl ?_
    refine J_iconst (pc := 44) (v := (-1)) dX11_errandAt_44 (by decide) ?_
    refine K_icmp_eq (K := (fun x => Option.bind x k)) (pc := 45) (tgt := 64) dX11_errandAt_45 (by decide) (fun z45 => ?_) (fun z45 => ?_)
    · refine J_loc (loc' := [(0, .ref 0)]) [1] rfl ?_
      exact hX11_errandAt_j64 q28 
    · refine J_iload_n (pc := 48) 2 dX11_errandAt_48 rfl rfl ?_
      refine K_if_lt (K := (fun x => Option.bind x k)) (pc := 49) (tgt := 64) dX11_errandAt_49 (by decide) (fun z49 => ?_) (fun z49 => ?_)
      · refine J_loc (loc' := [(0, .ref 0)]) [1] rfl ?_
        exact hX11_errandAt_j64 q28 
      · refine J_iload_n (pc := 52) 2 dX11_errandAt_52 rfl rfl ?_
        refine J_aload_n (pc := 53) 1 dX11_errandAt_53 rfl rfl ?_
        refine J_getR (pc := 54) dX11_errandAt_54 fl_X11_50 (h0.lt 0 (by decide)) (h0.ty 0 rfl) rfl (h0.rf 6 rfl) ?_
        refine J_iload_n (pc := 57) 0 dX11_errandAt_57 rfl rfl ?_
        refine JC_pt_i (J_callV (mi := mi_X11_errandAt) (mj := mi_X1_movesTo) (pc := 58) dX11_errandAt_58 ml_X11_231 ok_X1_movesTo ov_X1_movesTo ⟨Nat.le_of_ble_eq_true rfl, Nat.le_of_ble_eq_true rfl⟩ rfl (h0.lt 32 (by decide)) (h0.ty 32 rfl) rfl (s_X1_movesTo g q28 v2_42 h0) rfl (Nat.le_of_ble_eq_true rfl)) ?_
        refine K_icmp_lt (K := (fun x => Option.bind x k)) (pc := 61) (tgt := 70) dX11_errandAt_61 (by decide) (fun z61 => ?_) (fun z61 => ?_)
        · refine J_aload_n (pc := 70) 1 dX11_errandAt_70 rfl rfl ?_
          refine J_aload_n (pc := 71) 1 dX11_errandAt_71 rfl rfl ?_
          refine J_getR (pc := 72) dX11_errandAt_72 fl_X11_50 (h0.lt 0 (by decide)) (h0.ty 0 rfl) rfl (h0.rf 6 rfl) ?_
          refine J_iload_n (pc := 75) 0 dX11_errandAt_75 rfl rfl ?_
          refine J_iload_n (pc := 76) 2 dX11_errandAt_76 rfl rfl ?_
          refine JC_pp_i (J_callV (mi := mi_X11_errandAt) (mj := mi_X1_moveTowards) (pc := 77) dX11_errandAt_77 ml_X11_234 ok_X1_moveTowards ov_X1_moveTowards ⟨Nat.le_of_ble_eq_true rfl, Nat.le_of_ble_eq_true rfl⟩ rfl (h0.lt 32 (by decide)) (h0.ty 32 rfl) rfl (s_X1_moveTowards g q28 v2_42 pq0 h0) rfl (Nat.le_of_ble_eq_true rfl)) (fun q77 => ?_)
          refine JC_lt_i (K := (fun x => Option.bind x k)) (J_callV (mi := mi_X11_errandAt) (mj := mi_X11_answered) (pc := 80) dX11_errandAt_80 ml_X11_120 ok_X11_answered ov_X11_answered ⟨Nat.le_of_ble_eq_true rfl, Nat.le_of_ble_eq_true rfl⟩ rfl (h0.lt 0 (by decide)) (h0.ty 0 rfl) rfl (s_X11_answered g q28 q77 h0) rfl (Nat.le_of_ble_eq_true rfl)) (fun q80 eq80 => ?_)
          exact J_eqo (hk (q80.1, q80.2)) (J_iret (pc := 83) dX11_errandAt_83 rfl)
        · refine J_loc (loc' := [(0, .ref 0)]) [1] rfl ?_
          exact hX11_errandAt_j64 q28 
  · refine J_aload_n (pc := 7) 0 dX11_errandAt_7 rfl rfl ?_
    refine J_iconst (pc := 8) (v := 1) dX11_errandAt_8 (by decide) ?_
    refine JC_lt_i (K := (fun x => Option.bind x k)) (J_callV (mi := mi_X11_errandAt) (mj := mi_X11_refused) (pc := 9) dX11_errandAt_9 ml_X11_102 ok_X11_refused ov_X11_refused ⟨Nat.le_of_ble_eq_true rfl, Nat.le_of_ble_eq_true rfl⟩ rfl (h0.lt 0 (by decide)) (h0.ty 0 rfl) rfl (s_X11_refused g d 1 h0) rfl (Nat.le_of_ble_eq_true rfl)) (fun q9 eq9 => ?_)
    exact J_eqo (hk (q9.1, q9.2)) (J_iret (pc := 12) dX11_errandAt_12 rfl)
def f_X11_met (a : Nat) (d : JD) : Int32 × JD := (if (f_X11_hasLand (d.1 a)) = true then (j_let (f_X11_answered d (f_X0_wantsMet (d.1 (a + 7)) (d.1 (a + 9)) (d.1 (a + 10)) (d.1 (a + 11)) (d.1 (a + 12)) ((d.1 22) 0))) (fun q29 => (q29.1, q29.2))) else (j_let (f_X11_refused d 1) (fun q37 => (q37.1, q37.2))))
set_option maxRecDepth 100000 in
set_option maxHeartbeats 4000000 in
theorem s_X11_met (g : JG) (d : JD) (a : Nat) (h0 : j_sh g 0 TS_W RS_W) (ha : j_sh g a TS_CL RS_CL) (hco : g.2.2.1 0 10 = some a) : JM mi_X11_met 0 0 (g, d) [.ref 0] (some (some (.int (f_X11_met a d ).1), (g, (f_X11_met a d ).2))) := by
  refine JM_of (by decide) rfl (Nat.le_of_ble_eq_true rfl) ?_
  refine J_loc (loc' := [(0, .ref 0)]) [0] rfl ?_
  obtain ⟨k, hk⟩ : ∃ k : Int32 × JD → Option (Option Value × JH), ∀ r9, k r9 = some (some (.int r9.1), (g, r9.2)) := ⟨_, fun _ => rfl⟩
  refine J_eqo (hk (f_X11_met a d )).symm ?_
  unfold f_X11_met
  refine J_aload_n (pc := 0) 0 dX11_met_0 rfl rfl ?_
  refine JC_pt_i (J_callV (mi := mi_X11_met) (mj := mi_X11_hasLand) (pc := 1) dX11_met_1 ml_X11_201 ok_X11_hasLand ov_X11_hasLand ⟨Nat.le_of_ble_eq_true rfl, Nat.le_of_ble_eq_true rfl⟩ rfl (h0.lt 0 (by decide)) (h0.ty 0 rfl) rfl (s_X11_hasLand g d a h0 ha hco) rfl (Nat.le_of_ble_eq_true rfl)) ?_
  refine K_ifeq_b (K := k) (pc := 4) (tgt := 35) dX11_met_4 (by decide) (fun z4 => ?_) (fun z4 => ?_)
  · refine J_aload_n (pc := 35) 0 dX11_met_35 rfl rfl ?_
    refine J_iconst (pc := 36) (v := 1) dX11_met_36 (by decide) ?_
    refine JC_lt_i (K := k) (J_callV (mi := mi_X11_met) (mj := mi_X11_refused) (pc := 37) dX11_met_37 ml_X11_102 ok_X11_refused ov_X11_refused ⟨Nat.le_of_ble_eq_true rfl, Nat.le_of_ble_eq_true rfl⟩ rfl (h0.lt 0 (by decide)) (h0.ty 0 rfl) rfl (s_X11_refused g d 1 h0) rfl (Nat.le_of_ble_eq_true rfl)) (fun q37 eq37 => ?_)
    exact J_eqo (hk (q37.1, q37.2)) (J_iret (pc := 40) dX11_met_40 rfl)
  · refine J_aload_n (pc := 7) 0 dX11_met_7 rfl rfl ?_
    refine J_aload_n (pc := 8) 0 dX11_met_8 rfl rfl ?_
    refine J_getR (pc := 9) dX11_met_9 fl_X11_78 (h0.lt 0 (by decide)) (h0.ty 0 rfl) rfl hco ?_
    refine J_getR (pc := 12) dX11_met_12 fl_X11_237 (ha.lt 0 (by decide)) (ha.ty 0 rfl) rfl (ha.rf 8 rfl) ?_
    refine J_aload_n (pc := 15) 0 dX11_met_15 rfl rfl ?_
    refine J_getR (pc := 16) dX11_met_16 fl_X11_78 (h0.lt 0 (by decide)) (h0.ty 0 rfl) rfl hco ?_
    refine J_aload_n (pc := 19) 0 dX11_met_19 rfl rfl ?_
    refine J_getR (pc := 20) dX11_met_20 fl_X11_28 (h0.lt 0 (by decide)) (h0.ty 0 rfl) rfl (h0.rf 2 rfl) ?_
    refine J_getI (pc := 23) dX11_met_23 fl_X11_159 (h0.lt 22 (by decide)) (h0.ty 22 rfl) rfl ?_
    refine JC_pt_i (J_callV (mi := mi_X11_met) (mj := mi_X0_wantsMet) (pc := 26) dX11_met_26 ml_X11_241 ok_X0_wantsMet ov_X0_wantsMet ⟨Nat.le_of_ble_eq_true rfl, Nat.le_of_ble_eq_true rfl⟩ rfl (ha.lt 9 (by decide)) (ha.ty 9 rfl) rfl (s_X0_wantsMet g d a (a + 9) ((d.1 22) 0) ha (sh_CC_CL9 ha)) rfl (Nat.le_of_ble_eq_true rfl)) ?_
    refine JC_lt_i (K := k) (J_callV (mi := mi_X11_met) (mj := mi_X11_answered) (pc := 29) dX11_met_29 ml_X11_120 ok_X11_answered ov_X11_answered ⟨Nat.le_of_ble_eq_true rfl, Nat.le_of_ble_eq_true rfl⟩ rfl (h0.lt 0 (by decide)) (h0.ty 0 rfl) rfl (s_X11_answered g d (f_X0_wantsMet (d.1 (a + 7)) (d.1 (a + 9)) (d.1 (a + 10)) (d.1 (a + 11)) (d.1 (a + 12)) ((d.1 22) 0)) h0) rfl (Nat.le_of_ble_eq_true rfl)) (fun q29 eq29 => ?_)
    refine J_goto (pc := 32) (tgt := 40) dX11_met_32 (by decide) ?_
    exact J_eqo (hk (q29.1, q29.2)) (J_iret (pc := 40) dX11_met_40 rfl)
def f_X11_isMuch (pq0 : Int32) : Bool := (if pq0 < 0 then (false) else (if 599 < pq0 then (false) else (true)))
set_option maxRecDepth 100000 in
set_option maxHeartbeats 4000000 in
theorem s_X11_isMuch (g : JG) (d : JD) (pq0 : Int32) : JM mi_X11_isMuch 0 0 (g, d) [.int pq0] (some (some (.int (j_b (f_X11_isMuch pq0))), (g, d))) := by
  refine JM_of (by decide) rfl (Nat.le_of_ble_eq_true rfl) ?_
  refine J_loc (loc' := [(0, .int pq0)]) [0] rfl ?_
  obtain ⟨k, hk⟩ : ∃ k : Bool → Option (Option Value × JH), ∀ r9, k r9 = some (some (.int (j_b r9)), (g, d)) := ⟨_, fun _ => rfl⟩
  refine J_eqo (hk (f_X11_isMuch pq0)).symm ?_
  unfold f_X11_isMuch
  refine J_iload_n (pc := 0) 0 dX11_isMuch_0 rfl rfl ?_
  refine K_if_lt (K := k) (pc := 1) (tgt := 15) dX11_isMuch_1 (by decide) (fun z1 => ?_) (fun z1 => ?_)
  · refine J_iconst (pc := 15) (v := 0) dX11_isMuch_15 (by decide) ?_
    exact J_eqo (hk false) (J_zretB (pc := 16) dX11_isMuch_16 rfl)
  · refine J_iload_n (pc := 4) 0 dX11_isMuch_4 rfl rfl ?_
    refine J_sipush (pc := 5) (v := 599) dX11_isMuch_5 (by decide) ?_
    refine K_icmp_gt (K := k) (pc := 8) (tgt := 15) dX11_isMuch_8 (by decide) (fun z8 => ?_) (fun z8 => ?_)
    · refine J_iconst (pc := 15) (v := 0) dX11_isMuch_15 (by decide) ?_
      exact J_eqo (hk false) (J_zretB (pc := 16) dX11_isMuch_16 rfl)
    · refine J_iconst (pc := 11) (v := 1) dX11_isMuch_11 (by decide) ?_
      refine J_goto (pc := 12) (tgt := 16) dX11_isMuch_12 (by decide) ?_
      exact J_eqo (hk true) (J_zretB (pc := 16) dX11_isMuch_16 rfl)
def f_X11_movesFor_j78 (a : Nat) (d78 : JD) (y0_78 : Int32) : Option (Int32 × JD) := (j_let (f_X11_answered d78 y0_78) (fun q78 => some (q78.1, q78.2)))
def f_X11_movesFor (a : Nat) (d : JD) (pq0 : Int32) (pq1 : Int32) : Option (Int32 × JD) := (if (f_X11_isPerson (d.1 a) pq0) = true then (if (f_X11_isMuch pq1) = true then ((f_X1_explore a d ((d.1 22) 0)).bind (fun q42 => j_let (f_X1_firstWithWealth (q42.1 32) (q42.1 33) (q42.1 a) (q42.1 (a + 7)) (q42.1 (a + 8)) pq0 pq1) (fun v3_58 => if v3_58 = (-1) then (f_X11_movesFor_j78 a q42 (-2)) else (f_X11_movesFor_j78 a q42 (f_X1_movesTo (q42.1 36) v3_58))))) else (j_let (f_X11_refused d 2) (fun q23 => some (q23.1, q23.2)))) else (j_let (f_X11_refused d 1) (fun q10 => some (q10.1, q10.2))))
set_option maxRecDepth 100000 in
set_option maxHeartbeats 4000000 in
theorem s_X11_movesFor (g : JG) (d : JD) (a : Nat) (pq0 : Int32) (pq1 : Int32) (h0 : j_sh g 0 TS_W RS_W) (ha : j_sh g a TS_CL RS_CL) (hco : g.2.2.1 0 10 = some a) : JM mi_X11_movesFor 0 0 (g, d) [.ref 0, .int pq0, .int pq1] ((f_X11_movesFor a d pq0 pq1).bind (fun r9 => some (some (.int r9.1), (g, r9.2)))) := by
  refine JM_of (by decide) rfl (Nat.le_of_ble_eq_true rfl) ?_
  refine J_loc (loc' := [(0, .ref 0), (1, .int pq0), (2, .int pq1)]) [0, 1, 2] rfl ?_
  obtain ⟨k, hk, hk2⟩ : ∃ k : Int32 × JD → Option (Option Value × JH), (∀ r9, k r9 = some (some (.int r9.1), (g, r9.2))) ∧ (fun r9 : Int32 × JD => (some (some (.int r9.1), (g, r9.2)) : Option (Option Value × JH))) = k := ⟨_, fun _ => rfl, rfl⟩
  rw [hk2]
  unfold f_X11_movesFor
  have hX11_movesFor_j78 : ∀ (d78 : JD) (y0_78 : Int32), J mi_X11_movesFor 0 0 0 0 (g, d78) 78 [] [.int y0_78, .ref 0] ((f_X11_movesFor_j78 a d78 y0_78).bind k) := by
    intro d78 y0_78
    unfold f_X11_movesFor_j78
    refine JC_lt_i (K := (fun x => Option.bind x k)) (J_callV (mi := mi_X11_movesFor) (mj := mi_X11_answered) (pc := 78) dX11_movesFor_78 ml_X11_120 ok_X11_answered ov_X11_answered ⟨Nat.le_of_ble_eq_true rfl, Nat.le_of_ble_eq_true rfl⟩ rfl (h0.lt 0 (by decide)) (h0.ty 0 rfl) rfl (s_X11_answered g d78 y0_78 h0) rfl (Nat.le_of_ble_eq_true rfl)) (fun q78 eq78 => ?_)
    exact J_eqo (hk (q78.1, q78.2)) (J_iret (pc := 81) dX11_movesFor_81 rfl)
  refine J_aload_n (pc := 0) 0 dX11_movesFor_0 rfl rfl ?_
  refine J_iload_n (pc := 1) 1 dX11_movesFor_1 rfl rfl ?_
  refine JC_pt_i (J_callV (mi := mi_X11_movesFor) (mj := mi_X11_isPerson) (pc := 2) dX11_movesFor_2 ml_X11_174 ok_X11_isPerson ov_X11_isPerson ⟨Nat.le_of_ble_eq_true rfl, Nat.le_of_ble_eq_true rfl⟩ rfl (h0.lt 0 (by decide)) (h0.ty 0 rfl) rfl (s_X11_isPerson g d a pq0 h0 ha hco) rfl (Nat.le_of_ble_eq_true rfl)) ?_
  refine K_ifne_b (K := (fun x => Option.bind x k)) (pc := 5) (tgt := 14) dX11_movesFor_5 (by decide) (fun z5 => ?_) (fun z5 => ?_)
  · refine J_iload_n (pc := 14) 2 dX11_movesFor_14 rfl rfl ?_
    refine JC_pt_i (J_callS (mi := mi_X11_movesFor) (mj := mi_X11_isMuch) (pc := 15) dX11_movesFor_15 ml_X11_247 ok_X11_isMuch os_X11_isMuch ⟨Nat.le_of_ble_eq_true rfl, Nat.le_of_ble_eq_true rfl⟩ rfl (s_X11_isMuch g d pq1) rfl (Nat.le_of_ble_eq_true rfl)) ?_
    refine K_ifne_b (K := (fun x => Option.bind x k)) (pc := 18) (tgt := 27) dX11_movesFor_18 (by decide) (fun z18 => ?_) (fun z18 => ?_)
    · refine J_aload_n (pc := 27) 0 dX11_movesFor_27 rfl rfl ?_
      refine J_getR (pc := 28) dX11_movesFor_28 fl_X11_50 (h0.lt 0 (by decide)) (h0.ty 0 rfl) rfl (h0.rf 6 rfl) ?_
      refine J_aload_n (pc := 31) 0 dX11_movesFor_31 rfl rfl ?_
      refine J_getR (pc := 32) dX11_movesFor_32 fl_X11_78 (h0.lt 0 (by decide)) (h0.ty 0 rfl) rfl hco ?_
      refine J_aload_n (pc := 35) 0 dX11_movesFor_35 rfl rfl ?_
      refine J_getR (pc := 36) dX11_movesFor_36 fl_X11_28 (h0.lt 0 (by decide)) (h0.ty 0 rfl) rfl (h0.rf 2 rfl) ?_
      refine J_getI (pc := 39) dX11_movesFor_39 fl_X11_159 (h0.lt 22 (by decide)) (h0.ty 22 rfl) rfl ?_
      refine JC_pe_v (J_callV (mi := mi_X11_movesFor) (mj := mi_X1_explore) (pc := 42) dX11_movesFor_42 ml_X11_223 ok_X1_explore ov_X1_explore ⟨Nat.le_of_ble_eq_true rfl, Nat.le_of_ble_eq_true rfl⟩ rfl (h0.lt 32 (by decide)) (h0.ty 32 rfl) rfl (s_X1_explore g d a ((d.1 22) 0) h0 ha) rfl (Nat.le_of_ble_eq_true rfl)) (fun q42 => ?_)
      refine J_aload_n (pc := 45) 0 dX11_movesFor_45 rfl rfl ?_
      refine J_getR (pc := 46) dX11_movesFor_46 fl_X11_50 (h0.lt 0 (by decide)) (h0.ty 0 rfl) rfl (h0.rf 6 rfl) ?_
      refine J_aload_n (pc := 49) 0 dX11_movesFor_49 rfl rfl ?_
      refine J_getR (pc := 50) dX11_movesFor_50 fl_X11_78 (h0.lt 0 (by decide)) (h0.ty 0 rfl) rfl hco ?_
      refine J_iload_n (pc := 53) 1 dX11_movesFor_53 rfl rfl ?_
      refine J_iload_n (pc := 54) 2 dX11_movesFor_54 rfl rfl ?_
      refine JC_pt_i (J_callV (mi := mi_X11_movesFor) (mj := mi_X1_firstWithWealth) (pc := 55) dX11_movesFor_55 ml_X11_250 ok_X1_firstWithWealth ov_X1_firstWithWealth ⟨Nat.le_of_ble_eq_true rfl, Nat.le_of_ble_eq_true rfl⟩ rfl (h0.lt 32 (by decide)) (h0.ty 32 rfl) rfl (s_X1_firstWithWealth g q42 a pq0 pq1 h0 ha) rfl (Nat.le_of_ble_eq_true rfl)) ?_
      refine J_let (K := (fun x => Option.bind x k)) (fun v3_58 ev3_58 => ?_)
      refine J_val ev3_58.symm ?_
      refine J_istore_n (pc := 58) (loc' := [(3, .int v3_58), (0, .ref 0), (1, .int pq0), (2, .int pq1)]) dX11_movesFor_58 rfl (by decide) rfl ?_
      refine J_aload_n (pc := 59) 1 dX11_movesFor_59 rfl rfl ?_
      refine J_iload_n (pc := 60) 0 dX11_movesFor_60 rfl rfl ?_
      refine J_iconst (pc := 61) (v := (-1)) dX11_movesFor_61 (by decide) ?_
      refine K_icmp_ne (K := (fun x => Option.bind x k)) (pc := 62) (tgt := 70) dX11_movesFor_62 (by decide) (fun z62 => ?_) (fun z62 => ?_)
      · refine J_aload_n (pc := 70) 1 dX11_movesFor_70 rfl rfl ?_
        refine J_getR (pc := 71) dX11_movesFor_71 fl_X11_50 (h0.lt 0 (by decide)) (h0.ty 0 rfl) rfl (h0.rf 6 rfl) ?_
        refine J_iload_n (pc := 74) 0 dX11_movesFor_74 rfl rfl ?_
        refine JC_pt_i (J_callV (mi := mi_X11_movesFor) (mj := mi_X1_movesTo) (pc := 75) dX11_movesFor_75 ml_X11_231 ok_X1_movesTo ov_X1_movesTo ⟨Nat.le_of_ble_eq_true rfl, Nat.le_of_ble_eq_true rfl⟩ rfl (h0.lt 32 (by decide)) (h0.ty 32 rfl) rfl (s_X1_movesTo g q42 v3_58 h0) rfl (Nat.le_of_ble_eq_true rfl)) ?_
        refine J_loc (loc' := []) [] rfl ?_
        exact hX11_movesFor_j78 q42 (f_X1_movesTo (q42.1 36) v3_58)
      · refine J_bipush (pc := 65) (v := (-2)) dX11_movesFor_65 (by decide) ?_
        refine J_goto (pc := 67) (tgt := 78) dX11_movesFor_67 (by decide) ?_
        refine J_loc (loc' := []) [] rfl ?_
        exact hX11_movesFor_j78 q42 (-2)
    · refine J_aload_n (pc := 21) 0 dX11_movesFor_21 rfl rfl ?_
      refine J_iconst (pc := 22) (v := 2) dX11_movesFor_22 (by decide) ?_
      refine JC_lt_i (K := (fun x => Option.bind x k)) (J_callV (mi := mi_X11_movesFor) (mj := mi_X11_refused) (pc := 23) dX11_movesFor_23 ml_X11_102 ok_X11_refused ov_X11_refused ⟨Nat.le_of_ble_eq_true rfl, Nat.le_of_ble_eq_true rfl⟩ rfl (h0.lt 0 (by decide)) (h0.ty 0 rfl) rfl (s_X11_refused g d 2 h0) rfl (Nat.le_of_ble_eq_true rfl)) (fun q23 eq23 => ?_)
      exact J_eqo (hk (q23.1, q23.2)) (J_iret (pc := 26) dX11_movesFor_26 rfl)
  · refine J_aload_n (pc := 8) 0 dX11_movesFor_8 rfl rfl ?_
    refine J_iconst (pc := 9) (v := 1) dX11_movesFor_9 (by decide) ?_
    refine JC_lt_i (K := (fun x => Option.bind x k)) (J_callV (mi := mi_X11_movesFor) (mj := mi_X11_refused) (pc := 10) dX11_movesFor_10 ml_X11_102 ok_X11_refused ov_X11_refused ⟨Nat.le_of_ble_eq_true rfl, Nat.le_of_ble_eq_true rfl⟩ rfl (h0.lt 0 (by decide)) (h0.ty 0 rfl) rfl (s_X11_refused g d 1 h0) rfl (Nat.le_of_ble_eq_true rfl)) (fun q10 eq10 => ?_)
    exact J_eqo (hk (q10.1, q10.2)) (J_iret (pc := 13) dX11_movesFor_13 rfl)
