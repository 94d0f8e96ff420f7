def f_X1_moveTowards_w11 (r_34 : Nat → Int32) (r_35 : Nat → Int32) (r_36 : Nat → Int32) (c2_11 : Int32) (s11 : Int32 × Int32) : Option ((Int32 × Int32) ⊕ (Int32)) := (if s11.2 ≤ (c2_11) then some (.inr s11.1) else (some (.inl (f_X11_at r_34 729 s11.1, s11.2 + (-1)))))
def f_X1_moveTowards (r_34 : Nat → Int32) (r_35 : Nat → Int32) (r_36 : Nat → Int32) (pq0 : Int32) (pq1 : Int32) : Option (Int32) := (j_let ((f_X1_movesTo r_36 pq0) - 1) (fun v4_9 => (j_wh (f_X1_moveTowards_w11 r_34 r_35 r_36 pq1 ) j_fuel (pq0, v4_9)).bind (fun (e11 : Int32) => (some (f_X11_at r_35 729 e11)))))
set_option maxRecDepth 100000 in
set_option maxHeartbeats 4000000 in
theorem s_X1_moveTowards (g : JG) (d : JD) (pq0 : Int32) (pq1 : Int32) (h0 : j_sh g 0 TS_W RS_W) : JM mi_X1_moveTowards 0 0 (g, d) [.ref 32, .int pq0, .int pq1] ((f_X1_moveTowards (d.1 34) (d.1 35) (d.1 36) pq0 pq1).bind (fun r9 => some (some (.int r9), (g, d)))) := by
  refine JM_of (by decide) rfl (Nat.le_of_ble_eq_true rfl) ?_
  refine J_loc (loc' := [(0, .ref 32), (1, .int pq0), (2, .int pq1)]) [0, 1, 2] rfl ?_
  obtain ⟨k, hk, hk2⟩ : ∃ k : Int32 → Option (Option Value × JH), (∀ r9, k r9 = some (some (.int r9), (g, d))) ∧ (fun r9 : Int32 => (some (some (.int r9), (g, d)) : Option (Option Value × JH))) = k := ⟨_, fun _ => rfl, rfl⟩
  rw [hk2]
  unfold f_X1_moveTowards
  refine J_iload_n (pc := 0) 1 dX1_moveTowards_0 rfl rfl ?_
  refine J_istore_n (pc := 1) (loc' := [(3, .int pq0), (0, .ref 32), (1, .int pq0), (2, .int pq1)]) dX1_moveTowards_1 rfl (by decide) rfl ?_
  refine J_aload_n (pc := 2) 1 dX1_moveTowards_2 rfl rfl ?_
  refine J_iload_n (pc := 3) 2 dX1_moveTowards_3 rfl rfl ?_
  refine JC_pt_i (J_callV (mi := mi_X1_moveTowards) (mj := mi_X1_movesTo) (pc := 4) dX1_moveTowards_4 ml_X1_65 ok_X1_movesTo ov_X1_movesTo ⟨Nat.le_of_ble_eq_true rfl, Nat.le_of_ble_eq_true rfl⟩ rfl (h0.lt 32 (by decide)) (h0.ty 32 rfl) rfl (s_X1_movesTo g d pq0 h0) rfl (Nat.le_of_ble_eq_true rfl)) ?_
  refine J_iconst (pc := 7) (v := 1) dX1_moveTowards_7 (by decide) ?_
  refine J_isub (pc := 8) dX1_moveTowards_8 ?_
  refine J_let (K := (fun x => Option.bind x k)) (fun v4_9 ev4_9 => ?_)
  refine J_val ev4_9.symm ?_
  refine J_istore (pc := 9) (loc' := [(4, .int v4_9), (3, .int pq0), (0, .ref 32), (1, .int pq0), (2, .int pq1)]) dX1_moveTowards_9 (by decide) rfl ?_
  refine J_loc (loc' := [(0, .ref 32), (2, .int pq1), (3, .int pq0), (4, .int v4_9)]) [2, 4, 1, 0] rfl ?_
  refine J_whL (F := f_X1_moveTowards_w11 (d.1 34) (d.1 35) (d.1 36) pq1 ) (hp := fun (s11 : Int32 × Int32) => (g, d)) (lc := fun (s11 : Int32 × Int32) => [(0, .ref 32), (2, .int (pq1)), (3, .int s11.1), (4, .int s11.2)]) (XJ := fun (e11 : Int32) o9 => J mi_X1_moveTowards 0 0 0 0 (g, d) 32 [(0, .ref 32), (3, .int e11)] [] o9) (fun s11 k11 hB11 hX11 => ?_) (fun e11 => ?_) _ (pq0, v4_9)
  · show J mi_X1_moveTowards 0 0 0 0 (g, d) 11 [(0, .ref 32), (2, .int (pq1)), (3, .int s11.1), (4, .int s11.2)] [] ((f_X1_moveTowards_w11 (d.1 34) (d.1 35) (d.1 36) pq1 s11).bind k11)
    unfold f_X1_moveTowards_w11
    refine J_iload (pc := 11) 3 dX1_moveTowards_11 rfl ?_
    refine J_iload_n (pc := 13) 1 dX1_moveTowards_13 rfl rfl ?_
    refine K_icmp_le (K := (fun x => Option.bind x k11)) (pc := 14) (tgt := 32) dX1_moveTowards_14 (by decide) (fun z14 => ?_) (fun z14 => ?_)
    · refine J_loc (loc' := [(0, .ref 32), (3, .int s11.1)]) [0, 2] rfl ?_
      exact hX11 s11.1
    · refine J_aload_n (pc := 17) 0 dX1_moveTowards_17 rfl rfl ?_
      refine J_getR (pc := 18) dX1_moveTowards_18 fl_X1_15 (h0.lt 32 (by decide)) (h0.ty 32 rfl) rfl (h0.rf 36 rfl) ?_
      refine J_iload_n (pc := 21) 2 dX1_moveTowards_21 rfl rfl ?_
      refine JC_pt_i (J_callS (mi := mi_X1_moveTowards) (mj := mi_X11_at) (pc := 22) dX1_moveTowards_22 ml_X1_49 ok_X11_at os_X11_at ⟨Nat.le_of_ble_eq_true rfl, Nat.le_of_ble_eq_true rfl⟩ rfl (s_X11_at g d 34 729 s11.1 (⟨(h0.lt 34 (by decide)), (h0.ty 34 rfl), by decide⟩)) rfl (Nat.le_of_ble_eq_true rfl)) ?_
      refine J_istore_n (pc := 25) (loc' := [(3, .int (f_X11_at (d.1 34) 729 s11.1)), (0, .ref 32), (2, .int (pq1)), (4, .int s11.2)]) dX1_moveTowards_25 rfl (by decide) rfl ?_
      refine J_iinc (pc := 26) (v := s11.2 + (-1)) (loc' := [(4, .int (s11.2 + (-1))), (3, .int (f_X11_at (d.1 34) 729 s11.1)), (0, .ref 32), (2, .int (pq1))]) 3 dX1_moveTowards_26 rfl rfl (by decide) rfl ?_
      refine J_goto (pc := 29) (tgt := 11) dX1_moveTowards_29 (by decide) ?_
      refine J_loc (loc' := [(0, .ref 32), (2, .int (pq1)), (3, .int (f_X11_at (d.1 34) 729 s11.1)), (4, .int (s11.2 + (-1)))]) [2, 3, 1, 0] rfl ?_
      exact hB11 (f_X11_at (d.1 34) 729 s11.1, s11.2 + (-1))
  · show J mi_X1_moveTowards 0 0 0 0 (g, d) 32 [(0, .ref 32), (3, .int e11)] [] (_)
    refine J_aload_n (pc := 32) 0 dX1_moveTowards_32 rfl rfl ?_
    refine J_getR (pc := 33) dX1_moveTowards_33 fl_X1_18 (h0.lt 32 (by decide)) (h0.ty 32 rfl) rfl (h0.rf 37 rfl) ?_
    refine J_iload_n (pc := 36) 1 dX1_moveTowards_36 rfl rfl ?_
    refine JC_pt_i (J_callS (mi := mi_X1_moveTowards) (mj := mi_X11_at) (pc := 37) dX1_moveTowards_37 ml_X1_49 ok_X11_at os_X11_at ⟨Nat.le_of_ble_eq_true rfl, Nat.le_of_ble_eq_true rfl⟩ rfl (s_X11_at g d 35 729 e11 (⟨(h0.lt 35 (by decide)), (h0.ty 35 rfl), by decide⟩)) rfl (Nat.le_of_ble_eq_true rfl)) ?_
    exact J_eqo (hk (f_X11_at (d.1 35) 729 e11)) (J_iret (pc := 40) dX1_moveTowards_40 rfl)
def f_X2_forget (d : JD) : JD := (j_sI d 39 0 0)
set_option maxRecDepth 100000 in
set_option maxHeartbeats 4000000 in
theorem s_X2_forget (g : JG) (d : JD) (h0 : j_sh g 0 TS_W RS_W) : JM mi_X2_forget 0 0 (g, d) [.ref 39] (some (none, (g, (f_X2_forget d )))) := by
  refine JM_of (by decide) rfl (Nat.le_of_ble_eq_true rfl) ?_
  refine J_loc (loc' := [(0, .ref 39)]) [0] rfl ?_
  obtain ⟨k, hk⟩ : ∃ k : JD → Option (Option Value × JH), ∀ r9, k r9 = some (none, (g, r9)) := ⟨_, fun _ => rfl⟩
  refine J_eqo (hk (f_X2_forget d )).symm ?_
  unfold f_X2_forget
  refine J_aload_n (pc := 0) 0 dX2_forget_0 rfl rfl ?_
  refine J_iconst (pc := 1) (v := 0) dX2_forget_1 (by decide) ?_
  refine J_putI (pc := 2) dX2_forget_2 fl_X2_15 ft_2_0 (h0.lt 39 (by decide)) (h0.ty 39 rfl) rfl rfl rfl ?_
  exact J_eqo (hk (j_sI d 39 0 0)) (J_vret (pc := 5) dX2_forget_5 rfl)
def f_X10_codesOf (pq0 : Int32) : Int32 := ((1 : Int32) <<< (((2 : Int32) * pq0) &&& 31))
set_option maxRecDepth 100000 in
set_option maxHeartbeats 4000000 in
theorem s_X10_codesOf (g : JG) (d : JD) (pq0 : Int32) : JM mi_X10_codesOf 0 0 (g, d) [.int pq0] (some (some (.int (f_X10_codesOf pq0)), (g, d))) := by
  refine JM_of (by decide) rfl (Nat.le_of_ble_eq_true rfl) ?_
  refine J_loc (loc' := [(0, .int pq0)]) [0] rfl ?_
  obtain ⟨k, hk⟩ : ∃ k : Int32 → Option (Option Value × JH), ∀ r9, k r9 = some (some (.int r9), (g, d)) := ⟨_, fun _ => rfl⟩
  refine J_eqo (hk (f_X10_codesOf pq0)).symm ?_
  unfold f_X10_codesOf
  refine J_iconst (pc := 0) (v := 1) dX10_codesOf_0 (by decide) ?_
  refine J_iconst (pc := 1) (v := 2) dX10_codesOf_1 (by decide) ?_
  refine J_iload_n (pc := 2) 0 dX10_codesOf_2 rfl rfl ?_
  refine J_imul (pc := 3) dX10_codesOf_3 ?_
  refine J_ishl (pc := 4) dX10_codesOf_4 ?_
  exact J_eqo (hk ((1 : Int32) <<< (((2 : Int32) * pq0) &&& 31))) (J_iret (pc := 5) dX10_codesOf_5 rfl)
def f_X10_fromCode (pq0 : Int32) (pq1 : Int32) : Int32 := (pq0 <<< (((2 : Int32) * ((6 : Int32) - pq1)) &&& 31))
set_option maxRecDepth 100000 in
set_option maxHeartbeats 4000000 in
theorem s_X10_fromCode (g : JG) (d : JD) (pq0 : Int32) (pq1 : Int32) : JM mi_X10_fromCode 0 0 (g, d) [.int pq0, .int pq1] (some (some (.int (f_X10_fromCode pq0 pq1)), (g, d))) := by
  refine JM_of (by decide) rfl (Nat.le_of_ble_eq_true rfl) ?_
  refine J_loc (loc' := [(0, .int pq0), (1, .int pq1)]) [0, 1] rfl ?_
  obtain ⟨k, hk⟩ : ∃ k : Int32 → Option (Option Value × JH), ∀ r9, k r9 = some (some (.int r9), (g, d)) := ⟨_, fun _ => rfl⟩
  refine J_eqo (hk (f_X10_fromCode pq0 pq1)).symm ?_
  unfold f_X10_fromCode
  refine J_iload_n (pc := 0) 0 dX10_fromCode_0 rfl rfl ?_
  refine J_iconst (pc := 1) (v := 2) dX10_fromCode_1 (by decide) ?_
  refine J_bipush (pc := 2) (v := 6) dX10_fromCode_2 (by decide) ?_
  refine J_iload_n (pc := 4) 1 dX10_fromCode_4 rfl rfl ?_
  refine J_isub (pc := 5) dX10_fromCode_5 ?_
  refine J_imul (pc := 6) dX10_fromCode_6 ?_
  refine J_ishl (pc := 7) dX10_fromCode_7 ?_
  exact J_eqo (hk (pq0 <<< (((2 : Int32) * ((6 : Int32) - pq1)) &&& 31))) (J_iret (pc := 8) dX10_fromCode_8 rfl)
def f_X10_isWay (pq0 : Int32) : Bool := (if ((pq0 &&& (pq0 >>> (1 &&& 31))) &&& 1365) = 0 then (true) else (false))
set_option maxRecDepth 100000 in
set_option maxHeartbeats 4000000 in
theorem s_X10_isWay (g : JG) (d : JD) (pq0 : Int32) : JM mi_X10_isWay 0 0 (g, d) [.int pq0] (some (some (.int (j_b (f_X10_isWay pq0))), (g, d))) := by
  refine JM_of (by decide) rfl (Nat.le_of_ble_eq_true rfl) ?_
  refine J_loc (loc' := [(0, .int pq0)]) [0] rfl ?_
  obtain ⟨k, hk⟩ : ∃ k : Bool → Option (Option Value × JH), ∀ r9, k r9 = some (some (.int (j_b r9)), (g, d)) := ⟨_, fun _ => rfl⟩
  refine J_eqo (hk (f_X10_isWay pq0)).symm ?_
  unfold f_X10_isWay
  refine J_iload_n (pc := 0) 0 dX10_isWay_0 rfl rfl ?_
  refine J_iload_n (pc := 1) 0 dX10_isWay_1 rfl rfl ?_
  refine J_iconst (pc := 2) (v := 1) dX10_isWay_2 (by decide) ?_
  refine J_ishr (pc := 3) dX10_isWay_3 ?_
  refine J_iand (pc := 4) dX10_isWay_4 ?_
  refine J_sipush (pc := 5) (v := 1365) dX10_isWay_5 (by decide) ?_
  refine J_iand (pc := 8) dX10_isWay_8 ?_
  refine K_if_ne (K := k) (pc := 9) (tgt := 16) dX10_isWay_9 (by decide) (fun z9 => ?_) (fun z9 => ?_)
  · refine J_iconst (pc := 16) (v := 0) dX10_isWay_16 (by decide) ?_
    exact J_eqo (hk false) (J_zretB (pc := 17) dX10_isWay_17 rfl)
  · refine J_iconst (pc := 12) (v := 1) dX10_isWay_12 (by decide) ?_
    refine J_goto (pc := 13) (tgt := 17) dX10_isWay_13 (by decide) ?_
    exact J_eqo (hk true) (J_zretB (pc := 17) dX10_isWay_17 rfl)
def f_X2_isFit_b7 (r_a0 : Nat → Int32) (r_a7 : Nat → Int32) (r_a8 : Nat → Int32) (r_a9 : Nat → Int32) (r_a13 : Nat → Int32) (r_a14 : Nat → Int32) (c1_7 : Int32) (i7 : Int32) (s7 : Int32) : Int32 := (f_X10_with s7 (f_X11_at r_a13 4 i7) (f_X10_hungAt (c1_7) i7))
def f_X2_isFit (r_a0 : Nat → Int32) (r_a7 : Nat → Int32) (r_a8 : Nat → Int32) (r_a9 : Nat → Int32) (r_a13 : Nat → Int32) (r_a14 : Nat → Int32) (pq1 : Int32) : Bool := (j_let (j_for (r_a9 4) (f_X2_isFit_b7 r_a0 r_a7 r_a8 r_a9 r_a13 r_a14 pq1 ) (j_mu (r_a9 4) 0) 0 (r_a0 6)) (fun (s7 : Int32) => (if (f_X0_firstBelied r_a0 r_a7 r_a8 r_a14 s7) = (-2) then (true) else (false))))
set_option maxRecDepth 100000 in
set_option maxHeartbeats 4000000 in
theorem s_X2_isFit (g : JG) (d : JD) (a : Nat) (pq1 : Int32) (ha : j_sh g a TS_CL RS_CL) : JM mi_X2_isFit 0 0 (g, d) [.ref a, .int pq1] (some (some (.int (j_b (f_X2_isFit (d.1 a) (d.1 (a + 7)) (d.1 (a + 8)) (d.1 (a + 9)) (d.1 (a + 13)) (d.1 (a + 14)) pq1))), (g, d))) := by
  refine JM_of (by decide) rfl (Nat.le_of_ble_eq_true rfl) ?_
  refine J_loc (loc' := [(0, .ref a), (1, .int pq1)]) [0, 1] rfl ?_
  obtain ⟨k, hk⟩ : ∃ k : Bool → Option (Option Value × JH), ∀ r9, k r9 = some (some (.int (j_b r9)), (g, d)) := ⟨_, fun _ => rfl⟩
  refine J_eqo (hk (f_X2_isFit (d.1 a) (d.1 (a + 7)) (d.1 (a + 8)) (d.1 (a + 9)) (d.1 (a + 13)) (d.1 (a + 14)) pq1)).symm ?_
  unfold f_X2_isFit
  refine J_aload_n (pc := 0) 0 dX2_isFit_0 rfl rfl ?_
  refine J_getI (pc := 1) dX2_isFit_1 fl_X2_56 (ha.lt 0 (by decide)) (ha.ty 0 rfl) rfl ?_
  refine J_istore_n (pc := 4) (loc' := [(2, .int ((d.1 a) 6)), (0, .ref a), (1, .int pq1)]) dX2_isFit_4 rfl (by decide) rfl ?_
  refine J_iconst (pc := 5) (v := 0) dX2_isFit_5 (by decide) ?_
  refine J_istore_n (pc := 6) (loc' := [(3, .int 0), (2, .int ((d.1 a) 6)), (0, .ref a), (1, .int pq1)]) dX2_isFit_6 rfl (by decide) rfl ?_
  refine J_loc (loc' := [(0, .ref a), (1, .int pq1), (2, .int ((d.1 a) 6)), (3, .int 0)]) [2, 3, 1, 0] rfl ?_
  refine J_forL (K := k) (b := (d.1 (a + 9)) 4) (G := f_X2_isFit_b7 (d.1 a) (d.1 (a + 7)) (d.1 (a + 8)) (d.1 (a + 9)) (d.1 (a + 13)) (d.1 (a + 14)) pq1 ) (hp := fun (s7 : Int32) => (g, d)) (lc := fun (i7 : Int32) (s7 : Int32) => [(0, .ref a), (1, .int (pq1)), (2, .int s7), (3, .int i7)]) (XJ := fun (i7 : Int32) (s7 : Int32) o9 => J mi_X2_isFit 0 0 0 0 (g, d) 45 [(0, .ref a), (2, .int s7)] [] o9) (fun i7 s7 o7 Kb7 hX7 hB7 => ?_) (fun i7 s7 => ?_) _ _ ((d.1 a) 6) (Nat.le_refl _)
  · show J mi_X2_isFit 0 0 0 0 (g, d) 7 [(0, .ref a), (1, .int (pq1)), (2, .int s7), (3, .int i7)] [] (if ((d.1 (a + 9)) 4) ≤ i7 then o7 else Kb7 (f_X2_isFit_b7 (d.1 a) (d.1 (a + 7)) (d.1 (a + 8)) (d.1 (a + 9)) (d.1 (a + 13)) (d.1 (a + 14)) pq1 i7 s7))
    refine J_iload_n (pc := 7) 3 dX2_isFit_7 rfl rfl ?_
    refine J_aload_n (pc := 8) 0 dX2_isFit_8 rfl rfl ?_
    refine J_getR (pc := 9) dX2_isFit_9 fl_X2_23 (ha.lt 0 (by decide)) (ha.ty 0 rfl) rfl (ha.rf 8 rfl) ?_
    refine J_getI (pc := 12) dX2_isFit_12 fl_X2_29 (ha.lt 9 (by decide)) (ha.ty 9 rfl) rfl ?_
    refine J_icmp_ge (pc := 15) (tgt := 45) dX2_isFit_15 (by decide) (fun z7 => ?_) (fun z7 => ?_)
    · refine J_loc (loc' := [(0, .ref a), (2, .int s7)]) [0, 2] rfl ?_
      exact hX7 z7
    · unfold f_X2_isFit_b7
      refine J_iload_n (pc := 18) 2 dX2_isFit_18 rfl rfl ?_
      refine J_aload_n (pc := 19) 0 dX2_isFit_19 rfl rfl ?_
      refine J_getR (pc := 20) dX2_isFit_20 fl_X2_23 (ha.lt 0 (by decide)) (ha.ty 0 rfl) rfl (ha.rf 8 rfl) ?_
      refine J_getR (pc := 23) dX2_isFit_23 fl_X2_59 (ha.lt 9 (by decide)) (ha.ty 9 rfl) rfl (ha.rf 12 rfl) ?_
      refine J_iload_n (pc := 26) 3 dX2_isFit_26 rfl rfl ?_
      refine JC_pt_i (J_callS (mi := mi_X2_isFit) (mj := mi_X11_at) (pc := 27) dX2_isFit_27 ml_X2_62 ok_X11_at os_X11_at ⟨Nat.le_of_ble_eq_true rfl, Nat.le_of_ble_eq_true rfl⟩ rfl (s_X11_at g d (a + 13) 4 i7 (⟨(ha.lt 13 (by decide)), (ha.ty 13 rfl), by decide⟩)) rfl (Nat.le_of_ble_eq_true rfl)) ?_
      refine J_iload_n (pc := 30) 1 dX2_isFit_30 rfl rfl ?_
      refine J_iload_n (pc := 31) 3 dX2_isFit_31 rfl rfl ?_
      refine JC_pt_i (J_callS (mi := mi_X2_isFit) (mj := mi_X10_hungAt) (pc := 32) dX2_isFit_32 ml_X2_66 ok_X10_hungAt os_X10_hungAt ⟨Nat.le_of_ble_eq_true rfl, Nat.le_of_ble_eq_true rfl⟩ rfl (s_X10_hungAt g d pq1 i7) rfl (Nat.le_of_ble_eq_true rfl)) ?_
      refine JC_pt_i (J_callS (mi := mi_X2_isFit) (mj := mi_X10_with) (pc := 35) dX2_isFit_35 ml_X2_69 ok_X10_with os_X10_with ⟨Nat.le_of_ble_eq_true rfl, Nat.le_of_ble_eq_true rfl⟩ rfl (s_X10_with g d s7 (f_X11_at (d.1 (a + 13)) 4 i7) (f_X10_hungAt (pq1) i7)) rfl (Nat.le_of_ble_eq_true rfl)) ?_
      refine J_istore_n (pc := 38) (loc' := [(2, .int (f_X10_with s7 (f_X11_at (d.1 (a + 13)) 4 i7) (f_X10_hungAt (pq1) i7))), (0, .ref a), (1, .int (pq1)), (3, .int i7)]) dX2_isFit_38 rfl (by decide) rfl ?_
      refine J_iinc (pc := 39) (v := i7 + 1) (loc' := [(3, .int (i7 + 1)), (2, .int (f_X10_with s7 (f_X11_at (d.1 (a + 13)) 4 i7) (f_X10_hungAt (pq1) i7))), (0, .ref a), (1, .int (pq1))]) 3 dX2_isFit_39 rfl rfl (by decide) rfl ?_
      refine J_goto (pc := 42) (tgt := 7) dX2_isFit_42 (by decide) ?_
      refine J_loc (loc' := [(0, .ref a), (1, .int (pq1)), (2, .int (f_X10_with s7 (f_X11_at (d.1 (a + 13)) 4 i7) (f_X10_hungAt (pq1) i7))), (3, .int (i7 + 1))]) [2, 3, 1, 0] rfl ?_
      exact hB7 z7 (f_X10_with s7 (f_X11_at (d.1 (a + 13)) 4 i7) (f_X10_hungAt (pq1) i7))
  · show J mi_X2_isFit 0 0 0 0 (g, d) 45 [(0, .ref a), (2, .int s7)] [] (_)
    refine J_aload_n (pc := 45) 0 dX2_isFit_45 rfl rfl ?_
    refine J_getR (pc := 46) dX2_isFit_46 fl_X2_23 (ha.lt 0 (by decide)) (ha.ty 0 rfl) rfl (ha.rf 8 rfl) ?_
    refine J_aload_n (pc := 49) 0 dX2_isFit_49 rfl rfl ?_
    refine J_iload_n (pc := 50) 1 dX2_isFit_50 rfl rfl ?_
    refine JC_pt_i (J_callV (mi := mi_X2_isFit) (mj := mi_X0_firstBelied) (pc := 51) dX2_isFit_51 ml_X2_73 ok_X0_firstBelied ov_X0_firstBelied ⟨Nat.le_of_ble_eq_true rfl, Nat.le_of_ble_eq_true rfl⟩ rfl (ha.lt 9 (by decide)) (ha.ty 9 rfl) rfl (s_X0_firstBelied g d a (a + 9) s7 ha (sh_CC_CL9 ha)) rfl (Nat.le_of_ble_eq_true rfl)) ?_
    refine J_bipush (pc := 54) (v := (-2)) dX2_isFit_54 (by decide) ?_
    refine K_icmp_ne (K := k) (pc := 56) (tgt := 63) dX2_isFit_56 (by decide) (fun z56 => ?_) (fun z56 => ?_)
    · refine J_iconst (pc := 63) (v := 0) dX2_isFit_63 (by decide) ?_
      exact J_eqo (hk false) (J_zretB (pc := 64) dX2_isFit_64 rfl)
    · refine J_iconst (pc := 59) (v := 1) dX2_isFit_59 (by decide) ?_
      refine J_goto (pc := 60) (tgt := 64) dX2_isFit_60 (by decide) ?_
      exact J_eqo (hk true) (J_zretB (pc := 64) dX2_isFit_64 rfl)
def f_X2_find_j83_28 (a : Nat) (c2_28 : Int32) (i28 : Int32) (d83_28 : JD) : JD := (d83_28)
def f_X2_find_b28 (a : Nat) (c2_28 : Int32) (i28 : Int32) (s28 : JD) : JD := (if (f_X10_isWay (f_X10_fromCode i28 (c2_28))) = true then (if (f_X2_isFit (s28.1 a) (s28.1 (a + 7)) (s28.1 (a + 8)) (s28.1 (a + 9)) (s28.1 (a + 13)) (s28.1 (a + 14)) (f_X10_fromCode i28 (c2_28))) = true then (j_let (f_X11_put 40 81 s28 ((s28.1 39) 2) (f_X10_fromCode i28 (c2_28))) (fun q70_28 => f_X2_find_j83_28 a (c2_28) i28 (j_sI q70_28 39 2 (((q70_28.1 39) 2) + 1)) )) else f_X2_find_j83_28 a (c2_28) i28 s28 ) else f_X2_find_j83_28 a (c2_28) i28 s28 )
def f_X2_find (a : Nat) (d : JD) : JD := (if ((d.1 39) 0) = 0 then (j_let (((j_sI (j_sI d 39 0 1) 39 2 0).1 (a + 9)) 4) (fun v2_25 => j_let (j_for (f_X10_codesOf v2_25) (f_X2_find_b28 a v2_25 ) (j_mu (f_X10_codesOf v2_25) 0) 0 (j_sI (j_sI d 39 0 1) 39 2 0)) (fun (s28 : JD) => (s28)))) else (d))
set_option maxRecDepth 100000 in
set_option maxHeartbeats 4000000 in
theorem s_X2_find (g : JG) (d : JD) (a : Nat) (h0 : j_sh g 0 TS_W RS_W) (ha : j_sh g a TS_CL RS_CL) : JM mi_X2_find 0 0 (g, d) [.ref 39, .ref a] (some (none, (g, (f_X2_find a d )))) := by
  refine JM_of (by decide) rfl (Nat.le_of_ble_eq_true rfl) ?_
  refine J_loc (loc' := [(0, .ref 39), (1, .ref a)]) [0, 1] rfl ?_
  obtain ⟨k, hk⟩ : ∃ k : JD → Option (Option Value × JH), ∀ r9, k r9 = some (none, (g, r9)) := ⟨_, fun _ => rfl⟩
  refine J_eqo (hk (f_X2_find a d )).symm ?_
  unfold f_X2_find
  refine J_aload_n (pc := 0) 0 dX2_find_0 rfl rfl ?_
  refine J_getI (pc := 1) dX2_find_1 fl_X2_15 (h0.lt 39 (by decide)) (h0.ty 39 rfl) rfl ?_
  refine K_if_eq (K := k) (pc := 4) (tgt := 8) dX2_find_4 (by decide) (fun z4 => ?_) (fun z4 => ?_)
  · refine J_aload_n (pc := 8) 0 dX2_find_8 rfl rfl ?_
    refine J_iconst (pc := 9) (v := 1) dX2_find_9 (by decide) ?_
    refine J_putI (pc := 10) dX2_find_10 fl_X2_15 ft_2_0 (h0.lt 39 (by decide)) (h0.ty 39 rfl) rfl rfl rfl ?_
    refine J_aload_n (pc := 13) 0 dX2_find_13 rfl rfl ?_
    refine J_iconst (pc := 14) (v := 0) dX2_find_14 (by decide) ?_
    refine J_putI (pc := 15) dX2_find_15 fl_X2_19 ft_2_2 (h0.lt 39 (by decide)) (h0.ty 39 rfl) rfl rfl rfl ?_
    refine J_aload_n (pc := 18) 1 dX2_find_18 rfl rfl ?_
    refine J_getR (pc := 19) dX2_find_19 fl_X2_23 (ha.lt 0 (by decide)) (ha.ty 0 rfl) rfl (ha.rf 8 rfl) ?_
    refine J_getI (pc := 22) dX2_find_22 fl_X2_29 (ha.lt 9 (by decide)) (ha.ty 9 rfl) rfl ?_
    refine J_let (K := k) (fun v2_25 ev2_25 => ?_)
    refine J_val ev2_25.symm ?_
    refine J_istore_n (pc := 25) (loc' := [(2, .int v2_25), (0, .ref 39), (1, .ref a)]) dX2_find_25 rfl (by decide) rfl ?_
    refine J_iconst (pc := 26) (v := 0) dX2_find_26 (by decide) ?_
    refine J_istore_n (pc := 27) (loc' := [(3, .int 0), (2, .int v2_25), (0, .ref 39), (1, .ref a)]) dX2_find_27 rfl (by decide) rfl ?_
    refine J_loc (loc' := [(0, .ref 39), (1, .ref a), (2, .int v2_25), (3, .int 0)]) [2, 3, 1, 0] rfl ?_
    refine J_forL (K := k) (b := f_X10_codesOf v2_25) (G := f_X2_find_b28 a v2_25 ) (hp := fun (s28 : JD) => (g, s28)) (lc := fun (i28 : Int32) (s28 : JD) => [(0, .ref 39), (1, .ref a), (2, .int (v2_25)), (3, .int i28)]) (XJ := fun (i28 : Int32) (s28 : JD) o9 => J mi_X2_find 0 0 0 0 (g, s28) 89 [] [] o9) (fun i28 s28 o28 Kb28 hX28 hB28 => ?_) (fun i28 s28 => ?_) _ _ (j_sI (j_sI d 39 0 1) 39 2 0) (Nat.le_refl _)
    · show J mi_X2_find 0 0 0 0 (g, s28) 28 [(0, .ref 39), (1, .ref a), (2, .int (v2_25)), (3, .int i28)] [] (if (f_X10_codesOf v2_25) ≤ i28 then o28 else Kb28 (f_X2_find_b28 a v2_25 i28 s28))
      refine J_iload_n (pc := 28) 3 dX2_find_28 rfl rfl ?_
      refine J_iload_n (pc := 29) 2 dX2_find_29 rfl rfl ?_
      refine JC_pt_i (J_callS (mi := mi_X2_find) (mj := mi_X10_codesOf) (pc := 30) dX2_find_30 ml_X2_34 ok_X10_codesOf os_X10_codesOf ⟨Nat.le_of_ble_eq_true rfl, Nat.le_of_ble_eq_true rfl⟩ rfl (s_X10_codesOf g s28 v2_25) rfl (Nat.le_of_ble_eq_true rfl)) ?_
      refine J_icmp_ge (pc := 33) (tgt := 89) dX2_find_33 (by decide) (fun z28 => ?_) (fun z28 => ?_)
      · refine J_loc (loc' := []) [] rfl ?_
        exact hX28 z28
      · unfold f_X2_find_b28
        have hX2_find_j83_28 : ∀ (d83_28 : JD) , J mi_X2_find 0 0 0 0 (g, d83_28) 83 [(0, .ref 39), (1, .ref a), (2, .int (v2_25)), (3, .int i28)] [] (Kb28 (f_X2_find_j83_28 a v2_25 i28 d83_28 )) := by
          intro d83_28 
          unfold f_X2_find_j83_28
          refine J_iinc (pc := 83) (v := i28 + 1) (loc' := [(3, .int (i28 + 1)), (0, .ref 39), (1, .ref a), (2, .int (v2_25))]) 3 dX2_find_83 rfl rfl (by decide) rfl ?_
          refine J_goto (pc := 86) (tgt := 28) dX2_find_86 (by decide) ?_
          refine J_loc (loc' := [(0, .ref 39), (1, .ref a), (2, .int (v2_25)), (3, .int (i28 + 1))]) [1, 2, 3, 0] rfl ?_
          exact hB28 z28 d83_28
        refine J_iload_n (pc := 36) 3 dX2_find_36 rfl rfl ?_
        refine J_iload_n (pc := 37) 2 dX2_find_37 rfl rfl ?_
        refine JC_pt_i (J_callS (mi := mi_X2_find) (mj := mi_X10_fromCode) (pc := 38) dX2_find_38 ml_X2_40 ok_X10_fromCode os_X10_fromCode ⟨Nat.le_of_ble_eq_true rfl, Nat.le_of_ble_eq_true rfl⟩ rfl (s_X10_fromCode g s28 i28 v2_25) rfl (Nat.le_of_ble_eq_true rfl)) ?_
        refine J_istore (pc := 41) (loc' := [(4, .int (f_X10_fromCode i28 (v2_25))), (0, .ref 39), (1, .ref a), (2, .int (v2_25)), (3, .int i28)]) dX2_find_41 (by decide) rfl ?_
        refine J_iload (pc := 43) 0 dX2_find_43 rfl ?_
        refine JC_pt_i (J_callS (mi := mi_X2_find) (mj := mi_X10_isWay) (pc := 45) dX2_find_45 ml_X2_44 ok_X10_isWay os_X10_isWay ⟨Nat.le_of_ble_eq_true rfl, Nat.le_of_ble_eq_true rfl⟩ rfl (s_X10_isWay g s28 (f_X10_fromCode i28 (v2_25))) rfl (Nat.le_of_ble_eq_true rfl)) ?_
        refine K_ifeq_b (K := Kb28) (pc := 48) (tgt := 83) dX2_find_48 (by decide) (fun z48 => ?_) (fun z48 => ?_)
        · refine J_loc (loc' := [(0, .ref 39), (1, .ref a), (2, .int (v2_25)), (3, .int i28)]) [1, 2, 3, 4] rfl ?_
          exact hX2_find_j83_28 s28 
        · refine J_aload_n (pc := 51) 2 dX2_find_51 rfl rfl ?_
          refine J_iload (pc := 52) 0 dX2_find_52 rfl ?_
          refine JC_pt_i (J_callS (mi := mi_X2_find) (mj := mi_X2_isFit) (pc := 54) dX2_find_54 ml_X2_48 ok_X2_isFit os_X2_isFit ⟨Nat.le_of_ble_eq_true rfl, Nat.le_of_ble_eq_true rfl⟩ rfl (s_X2_isFit g s28 a (f_X10_fromCode i28 (v2_25)) ha) rfl (Nat.le_of_ble_eq_true rfl)) ?_
          refine K_ifeq_b (K := Kb28) (pc := 57) (tgt := 83) dX2_find_57 (by decide) (fun z57 => ?_) (fun z57 => ?_)
          · refine J_loc (loc' := [(0, .ref 39), (1, .ref a), (2, .int (v2_25)), (3, .int i28)]) [1, 2, 3, 4] rfl ?_
            exact hX2_find_j83_28 s28 
          · refine J_aload_n (pc := 60) 1 dX2_find_60 rfl rfl ?_
            refine J_getR (pc := 61) dX2_find_61 fl_X2_11 (h0.lt 39 (by decide)) (h0.ty 39 rfl) rfl (h0.rf 40 rfl) ?_
            refine J_aload_n (pc := 64) 1 dX2_find_64 rfl rfl ?_
            refine J_getI (pc := 65) dX2_find_65 fl_X2_19 (h0.lt 39 (by decide)) (h0.ty 39 rfl) rfl ?_
            refine J_iload (pc := 68) 0 dX2_find_68 rfl ?_
            refine JC_lt_v (K := Kb28) (J_callS (mi := mi_X2_find) (mj := mi_X11_put) (pc := 70) dX2_find_70 ml_X2_52 ok_X11_put os_X11_put ⟨Nat.le_of_ble_eq_true rfl, Nat.le_of_ble_eq_true rfl⟩ rfl (s_X11_put g s28 40 81 ((s28.1 39) 2) (f_X10_fromCode i28 (v2_25)) (⟨(h0.lt 40 (by decide)), (h0.ty 40 rfl), by decide⟩)) rfl (Nat.le_of_ble_eq_true rfl)) (fun q70_28 eq70_28 => ?_)
            refine J_aload_n (pc := 73) 1 dX2_find_73 rfl rfl ?_
            refine J_dup (pc := 74) dX2_find_74 rfl ?_
            refine J_getI (pc := 75) dX2_find_75 fl_X2_19 (h0.lt 39 (by decide)) (h0.ty 39 rfl) rfl ?_
            refine J_iconst (pc := 78) (v := 1) dX2_find_78 (by decide) ?_
            refine J_iadd (pc := 79) dX2_find_79 ?_
            refine J_putI (pc := 80) dX2_find_80 fl_X2_19 ft_2_2 (h0.lt 39 (by decide)) (h0.ty 39 rfl) rfl rfl rfl ?_
            refine J_loc (loc' := [(0, .ref 39), (1, .ref a), (2, .int (v2_25)), (3, .int i28)]) [1, 2, 3, 4] rfl ?_
            exact hX2_find_j83_28 (j_sI q70_28 39 2 (((q70_28.1 39) 2) + 1)) 
    · show J mi_X2_find 0 0 0 0 (g, s28) 89 [] [] (_)
      exact J_eqo (hk s28) (J_vret (pc := 89) dX2_find_89 rfl)
  · exact J_eqo (hk d) (J_vret (pc := 7) dX2_find_7 rfl)
def f_X2_countHung_j34_5 (r_39 : Nat → Int32) (r_40 : Nat → Int32) (c1_5 : Int32) (c2_5 : Int32) (i5 : Int32) (x3_34_5 : Int32) : Int32 := (x3_34_5)
def f_X2_countHung_b5 (r_39 : Nat → Int32) (r_40 : Nat → Int32) (c1_5 : Int32) (c2_5 : Int32) (i5 : Int32) (s5 : Int32) : Int32 := (if (f_X10_hungAt (f_X11_at r_40 81 i5) (c1_5)) = (c2_5) then (f_X2_countHung_j34_5 r_39 r_40 (c1_5) (c2_5) i5 (s5 + 1)) else f_X2_countHung_j34_5 r_39 r_40 (c1_5) (c2_5) i5 s5)
def f_X2_countHung (r_39 : Nat → Int32) (r_40 : Nat → Int32) (pq0 : Int32) (pq1 : Int32) : Int32 := (j_let (j_for (r_39 2) (f_X2_countHung_b5 r_39 r_40 pq0 pq1 ) (j_mu (r_39 2) 0) 0 0) (fun (s5 : Int32) => (s5)))
set_option maxRecDepth 100000 in
set_option maxHeartbeats 4000000 in
theorem s_X2_countHung (g : JG) (d : JD) (pq0 : Int32) (pq1 : Int32) (h0 : j_sh g 0 TS_W RS_W) : JM mi_X2_countHung 0 0 (g, d) [.ref 39, .int pq0, .int pq1] (some (some (.int (f_X2_countHung (d.1 39) (d.1 40) pq0 pq1)), (g, d))) := by
  refine JM_of (by decide) rfl (Nat.le_of_ble_eq_true rfl) ?_
  refine J_loc (loc' := [(0, .ref 39), (1, .int pq0), (2, .int pq1)]) [0, 1, 2] rfl ?_
  obtain ⟨k, hk⟩ : ∃ k : Int32 → Option (Option Value × JH), ∀ r9, k r9 = some (some (.int r9), (g, d)) := ⟨_, fun _ => rfl⟩
  refine J_eqo (hk (f_X2_countHung (d.1 39) (d.1 40) pq0 pq1)).symm ?_
  unfold f_X2_countHung
  refine J_iconst (pc := 0) (v := 0) dX2_countHung_0 (by decide) ?_
  refine J_istore_n (pc := 1) (loc' := [(3, .int 0), (0, .ref 39), (1, .int pq0), (2, .int pq1)]) dX2_countHung_1 rfl (by decide) rfl ?_
  refine J_iconst (pc := 2) (v := 0) dX2_countHung_2 (by decide) ?_
  refine J_istore (pc := 3) (loc' := [(4, .int 0), (3, .int 0), (0, .ref 39), (1, .int pq0), (2, .int pq1)]) dX2_countHung_3 (by decide) rfl ?_
  refine J_loc (loc' := [(0, .ref 39), (1, .int pq0), (2, .int pq1), (3, .int 0), (4, .int 0)]) [2, 3, 4, 1, 0] rfl ?_
  refine J_forL (K := k) (b := (d.1 39) 2) (G := f_X2_countHung_b5 (d.1 39) (d.1 40) pq0 pq1 ) (hp := fun (s5 : Int32) => (g, d)) (lc := fun (i5 : Int32) (s5 : Int32) => [(0, .ref 39), (1, .int (pq0)), (2, .int (pq1)), (3, .int s5), (4, .int i5)]) (XJ := fun (i5 : Int32) (s5 : Int32) o9 => J mi_X2_countHung 0 0 0 0 (g, d) 40 [(3, .int s5)] [] o9) (fun i5 s5 o5 Kb5 hX5 hB5 => ?_) (fun i5 s5 => ?_) _ _ 0 (Nat.le_refl _)
  · show J mi_X2_countHung 0 0 0 0 (g, d) 5 [(0, .ref 39), (1, .int (pq0)), (2, .int (pq1)), (3, .int s5), (4, .int i5)] [] (if ((d.1 39) 2) ≤ i5 then o5 else Kb5 (f_X2_countHung_b5 (d.1 39) (d.1 40) pq0 pq1 i5 s5))
    refine J_iload (pc := 5) 4 dX2_countHung_5 rfl ?_
    refine J_aload_n (pc := 7) 0 dX2_countHung_7 rfl rfl ?_
    refine J_getI (pc := 8) dX2_countHung_8 fl_X2_19 (h0.lt 39 (by decide)) (h0.ty 39 rfl) rfl ?_
    refine J_icmp_ge (pc := 11) (tgt := 40) dX2_countHung_11 (by decide) (fun z5 => ?_) (fun z5 => ?_)
    · refine J_loc (loc' := [(3, .int s5)]) [3] rfl ?_
      exact hX5 z5
    · unfold f_X2_countHung_b5
      have hX2_countHung_j34_5 : ∀ (x3_34_5 : Int32), J mi_X2_countHung 0 0 0 0 (g, d) 34 [(0, .ref 39), (1, .int (pq0)), (2, .int (pq1)), (3, .int x3_34_5), (4, .int i5)] [] (Kb5 (f_X2_countHung_j34_5 (d.1 39) (d.1 40) pq0 pq1 i5 x3_34_5)) := by
        intro x3_34_5
        unfold f_X2_countHung_j34_5
        refine J_iinc (pc := 34) (v := i5 + 1) (loc' := [(4, .int (i5 + 1)), (0, .ref 39), (1, .int (pq0)), (2, .int (pq1)), (3, .int x3_34_5)]) 4 dX2_countHung_34 rfl rfl (by decide) rfl ?_
        refine J_goto (pc := 37) (tgt := 5) dX2_countHung_37 (by decide) ?_
        refine J_loc (loc' := [(0, .ref 39), (1, .int (pq0)), (2, .int (pq1)), (3, .int x3_34_5), (4, .int (i5 + 1))]) [1, 2, 3, 4, 0] rfl ?_
        exact hB5 z5 x3_34_5
      refine J_aload_n (pc := 14) 0 dX2_countHung_14 rfl rfl ?_
      refine J_getR (pc := 15) dX2_countHung_15 fl_X2_11 (h0.lt 39 (by decide)) (h0.ty 39 rfl) rfl (h0.rf 40 rfl) ?_
      refine J_iload (pc := 18) 4 dX2_countHung_18 rfl ?_
      refine JC_pt_i (J_callS (mi := mi_X2_countHung) (mj := mi_X11_at) (pc := 20) dX2_countHung_20 ml_X2_62 ok_X11_at os_X11_at ⟨Nat.le_of_ble_eq_true rfl, Nat.le_of_ble_eq_true rfl⟩ rfl (s_X11_at g d 40 81 i5 (⟨(h0.lt 40 (by decide)), (h0.ty 40 rfl), by decide⟩)) rfl (Nat.le_of_ble_eq_true rfl)) ?_
      refine J_iload_n (pc := 23) 1 dX2_countHung_23 rfl rfl ?_
      refine JC_pt_i (J_callS (mi := mi_X2_countHung) (mj := mi_X10_hungAt) (pc := 24) dX2_countHung_24 ml_X2_66 ok_X10_hungAt os_X10_hungAt ⟨Nat.le_of_ble_eq_true rfl, Nat.le_of_ble_eq_true rfl⟩ rfl (s_X10_hungAt g d (f_X11_at (d.1 40) 81 i5) pq0) rfl (Nat.le_of_ble_eq_true rfl)) ?_
      refine J_iload_n (pc := 27) 2 dX2_countHung_27 rfl rfl ?_
      refine K_icmp_ne (K := Kb5) (pc := 28) (tgt := 34) dX2_countHung_28 (by decide) (fun z28 => ?_) (fun z28 => ?_)
      · exact hX2_countHung_j34_5 s5
      · refine J_iinc (pc := 31) (v := s5 + 1) (loc' := [(3, .int (s5 + 1)), (0, .ref 39), (1, .int (pq0)), (2, .int (pq1)), (4, .int i5)]) 3 dX2_countHung_31 rfl rfl (by decide) rfl ?_
        refine J_loc (loc' := [(0, .ref 39), (1, .int (pq0)), (2, .int (pq1)), (3, .int (s5 + 1)), (4, .int i5)]) [1, 2, 3, 0, 4] rfl ?_
        exact hX2_countHung_j34_5 (s5 + 1)
  · show J mi_X2_countHung 0 0 0 0 (g, d) 40 [(3, .int s5)] [] (_)
    refine J_iload_n (pc := 40) 0 dX2_countHung_40 rfl rfl ?_
    exact J_eqo (hk s5) (J_iret (pc := 41) dX2_countHung_41 rfl)
def f_X2_mostLeft_w4 (r_39 : Nat → Int32) (r_40 : Nat → Int32) (c1_4 : Int32) (s4 : Int32 × Int32) : Option ((Int32 × Int32) ⊕ (Int32)) := (if 2 < s4.2 then some (.inr s4.1) else (some (.inl (if s4.1 < (f_X2_countHung r_39 r_40 (c1_4) s4.2) then f_X2_countHung r_39 r_40 (c1_4) s4.2 else s4.1, s4.2 + 1))))
def f_X2_mostLeft (r_39 : Nat → Int32) (r_40 : Nat → Int32) (pq0 : Int32) : Option (Int32) := ((j_wh (f_X2_mostLeft_w4 r_39 r_40 pq0 ) j_fuel (0, 0)).bind (fun (e4 : Int32) => (some e4)))
set_option maxRecDepth 100000 in
set_option maxHeartbeats 4000000 in
theorem s_X2_mostLeft (g : JG) (d : JD) (pq0 : Int32) (h0 : j_sh g 0 TS_W RS_W) : JM mi_X2_mostLeft 0 0 (g, d) [.ref 39, .int pq0] ((f_X2_mostLeft (d.1 39) (d.1 40) pq0).bind (fun r9 => some (some (.int r9), (g, d)))) := by
  refine JM_of (by decide) rfl (Nat.le_of_ble_eq_true rfl) ?_
  refine J_loc (loc' := [(0, .ref 39), (1, .int pq0)]) [0, 1] rfl ?_
  obtain ⟨k, hk, hk2⟩ : ∃ k : Int32 → Option (Option Value × JH), (∀ r9, k r9 = some (some (.int r9), (g, d))) ∧ (fun r9 : Int32 => (some (some (.int r9), (g, d)) : Option (Option Value × JH))) = k := ⟨_, fun _ => rfl, rfl⟩
  rw [hk2]
  unfold f_X2_mostLeft
  refine J_iconst (pc := 0) (v := 0) dX2_mostLeft_0 (by decide) ?_
  refine J_istore_n (pc := 1) (loc' := [(2, .int 0), (0, .ref 39), (1, .int pq0)]) dX2_mostLeft_1 rfl (by decide) rfl ?_
  refine J_iconst (pc := 2) (v := 0) dX2_mostLeft_2 (by decide) ?_
  refine J_istore_n (pc := 3) (loc' := [(3, .int 0), (2, .int 0), (0, .ref 39), (1, .int pq0)]) dX2_mostLeft_3 rfl (by decide) rfl ?_
  refine J_loc (loc' := [(0, .ref 39), (1, .int pq0), (2, .int 0), (3, .int 0)]) [2, 3, 1, 0] rfl ?_
  refine J_whL (F := f_X2_mostLeft_w4 (d.1 39) (d.1 40) pq0 ) (hp := fun (s4 : Int32 × Int32) => (g, d)) (lc := fun (s4 : Int32 × Int32) => [(0, .ref 39), (1, .int (pq0)), (2, .int s4.1), (3, .int s4.2)]) (XJ := fun (e4 : Int32) o9 => J mi_X2_mostLeft 0 0 0 0 (g, d) 26 [(2, .int e4)] [] o9) (fun s4 k4 hB4 hX4 => ?_) (fun e4 => ?_) _ (0, 0)
  · show J mi_X2_mostLeft 0 0 0 0 (g, d) 4 [(0, .ref 39), (1, .int (pq0)), (2, .int s4.1), (3, .int s4.2)] [] ((f_X2_mostLeft_w4 (d.1 39) (d.1 40) pq0 s4).bind k4)
    unfold f_X2_mostLeft_w4
    refine J_iload_n (pc := 4) 3 dX2_mostLeft_4 rfl rfl ?_
    refine J_iconst (pc := 5) (v := 2) dX2_mostLeft_5 (by decide) ?_
    refine K_icmp_gt (K := (fun x => Option.bind x k4)) (pc := 6) (tgt := 26) dX2_mostLeft_6 (by decide) (fun z6 => ?_) (fun z6 => ?_)
    · refine J_loc (loc' := [(2, .int s4.1)]) [2] rfl ?_
      exact hX4 s4.1
    · refine J_iload_n (pc := 9) 2 dX2_mostLeft_9 rfl rfl ?_
      refine J_aload_n (pc := 10) 0 dX2_mostLeft_10 rfl rfl ?_
      refine J_iload_n (pc := 11) 1 dX2_mostLeft_11 rfl rfl ?_
      refine J_iload_n (pc := 12) 3 dX2_mostLeft_12 rfl rfl ?_
      refine JC_pt_i (J_callV (mi := mi_X2_mostLeft) (mj := mi_X2_countHung) (pc := 13) dX2_mostLeft_13 ml_X2_77 ok_X2_countHung ov_X2_countHung ⟨Nat.le_of_ble_eq_true rfl, Nat.le_of_ble_eq_true rfl⟩ rfl (h0.lt 39 (by decide)) (h0.ty 39 rfl) rfl (s_X2_countHung g d pq0 s4.2 h0) rfl (Nat.le_of_ble_eq_true rfl)) ?_
      refine J_mmax (pc := 16) dX2_mostLeft_16 mm_X2_80 (Nat.le_of_ble_eq_true rfl) (Nat.le_of_ble_eq_true rfl) ?_
      refine J_istore_n (pc := 19) (loc' := [(2, .int (if s4.1 < (f_X2_countHung (d.1 39) (d.1 40) (pq0) s4.2) then f_X2_countHung (d.1 39) (d.1 40) (pq0) s4.2 else s4.1)), (0, .ref 39), (1, .int (pq0)), (3, .int s4.2)]) dX2_mostLeft_19 rfl (by decide) rfl ?_
      refine J_iinc (pc := 20) (v := s4.2 + 1) (loc' := [(3, .int (s4.2 + 1)), (2, .int (if s4.1 < (f_X2_countHung (d.1 39) (d.1 40) (pq0) s4.2) then f_X2_countHung (d.1 39) (d.1 40) (pq0) s4.2 else s4.1)), (0, .ref 39), (1, .int (pq0))]) 3 dX2_mostLeft_20 rfl rfl (by decide) rfl ?_
      refine J_goto (pc := 23) (tgt := 4) dX2_mostLeft_23 (by decide) ?_
      refine J_loc (loc' := [(0, .ref 39), (1, .int (pq0)), (2, .int (if s4.1 < (f_X2_countHung (d.1 39) (d.1 40) (pq0) s4.2) then f_X2_countHung (d.1 39) (d.1 40) (pq0) s4.2 else s4.1)), (3, .int (s4.2 + 1))]) [2, 3, 1, 0] rfl ?_
      exact hB4 (if s4.1 < (f_X2_countHung (d.1 39) (d.1 40) (pq0) s4.2) then f_X2_countHung (d.1 39) (d.1 40) (pq0) s4.2 else s4.1, s4.2 + 1)
  · show J mi_X2_mostLeft 0 0 0 0 (g, d) 26 [(2, .int e4)] [] (_)
    refine J_iload_n (pc := 26) 0 dX2_mostLeft_26 rfl rfl ?_
    exact J_eqo (hk e4) (J_iret (pc := 27) dX2_mostLeft_27 rfl)
def f_X2_bestToLookAt_j49_23 (r_39 : Nat → Int32) (r_40 : Nat → Int32) (c1_23 : Int32) (x2_49_23 : Int32) (x3_49_23 : Int32) (x4_49_23 : Int32) : Option ((Int32 × Int32 × Int32) ⊕ (Int32)) := (some (.inl (x2_49_23, x3_49_23, x4_49_23 + 1)))
def f_X2_bestToLookAt_w23 (r_39 : Nat → Int32) (r_40 : Nat → Int32) (c1_23 : Int32) (s23 : Int32 × Int32 × Int32) : Option ((Int32 × Int32 × Int32) ⊕ (Int32)) := (if (c1_23) ≤ s23.2.2 then some (.inr s23.1) else ((f_X2_mostLeft r_39 r_40 s23.2.2).bind (fun q32_23 => if s23.2.1 ≤ q32_23 then f_X2_bestToLookAt_j49_23 r_39 r_40 (c1_23) s23.1 s23.2.1 s23.2.2 else (f_X2_bestToLookAt_j49_23 r_39 r_40 (c1_23) s23.2.2 q32_23 s23.2.2))))
def f_X2_bestToLookAt (r_39 : Nat → Int32) (r_40 : Nat → Int32) (pq0 : Int32) : Option (Int32) := (if (r_39 2) = 0 then (some (-2)) else ((j_wh (f_X2_bestToLookAt_w23 r_39 r_40 pq0 ) j_fuel ((-2), (r_39 2) + 1, 0)).bind (fun (e23 : Int32) => (some e23))))
set_option maxRecDepth 100000 in
set_option maxHeartbeats 4000000 in
theorem s_X2_bestToLookAt (g : JG) (d : JD) (pq0 : Int32) (h0 : j_sh g 0 TS_W RS_W) : JM mi_X2_bestToLookAt 0 0 (g, d) [.ref 39, .int pq0] ((f_X2_bestToLookAt (d.1 39) (d.1 40) pq0).bind (fun r9 => some (some (.int r9), (g, d)))) := by
  refine JM_of (by decide) rfl (Nat.le_of_ble_eq_true rfl) ?_
  refine J_loc (loc' := [(0, .ref 39), (1, .int pq0)]) [0, 1] rfl ?_
  obtain ⟨k, hk, hk2⟩ : ∃ k : Int32 → Option (Option Value × JH), (∀ r9, k r9 = some (some (.int r9), (g, d))) ∧ (fun r9 : Int32 => (some (some (.int r9), (g, d)) : Option (Option Value × JH))) = k := ⟨_, fun _ => rfl, rfl⟩
  rw [hk2]
  unfold f_X2_bestToLookAt
  refine J_aload_n (pc := 0) 0 dX2_bestToLookAt_0 rfl rfl ?_
  refine J_getI (pc := 1) dX2_bestToLookAt_1 fl_X2_19 (h0.lt 39 (by decide)) (h0.ty 39 rfl) rfl ?_
  refine K_if_ne (K := (fun x => Option.bind x k)) (pc := 4) (tgt := 10) dX2_bestToLookAt_4 (by decide) (fun z4 => ?_) (fun z4 => ?_)
  · refine J_bipush (pc := 10) (v := (-2)) dX2_bestToLookAt_10 (by decide) ?_
    refine J_istore_n (pc := 12) (loc' := [(2, .int (-2)), (0, .ref 39), (1, .int pq0)]) dX2_bestToLookAt_12 rfl (by decide) rfl ?_
    refine J_aload_n (pc := 13) 1 dX2_bestToLookAt_13 rfl rfl ?_
    refine J_getI (pc := 14) dX2_bestToLookAt_14 fl_X2_19 (h0.lt 39 (by decide)) (h0.ty 39 rfl) rfl ?_
    refine J_iconst (pc := 17) (v := 1) dX2_bestToLookAt_17 (by decide) ?_
    refine J_iadd (pc := 18) dX2_bestToLookAt_18 ?_
    refine J_istore_n (pc := 19) (loc' := [(3, .int (((d.1 39) 2) + 1)), (2, .int (-2)), (0, .ref 39), (1, .int pq0)]) dX2_bestToLookAt_19 rfl (by decide) rfl ?_
    refine J_iconst (pc := 20) (v := 0) dX2_bestToLookAt_20 (by decide) ?_
    refine J_istore (pc := 21) (loc' := [(4, .int 0), (3, .int (((d.1 39) 2) + 1)), (2, .int (-2)), (0, .ref 39), (1, .int pq0)]) dX2_bestToLookAt_21 (by decide) rfl ?_
    refine J_loc (loc' := [(0, .ref 39), (1, .int pq0), (2, .int (-2)), (3, .int (((d.1 39) 2) + 1)), (4, .int 0)]) [3, 4, 2, 1, 0] rfl ?_
    refine J_whL (F := f_X2_bestToLookAt_w23 (d.1 39) (d.1 40) pq0 ) (hp := fun (s23 : Int32 × Int32 × Int32) => (g, d)) (lc := fun (s23 : Int32 × Int32 × Int32) => [(0, .ref 39), (1, .int (pq0)), (2, .int s23.1), (3, .int s23.2.1), (4, .int s23.2.2)]) (XJ := fun (e23 : Int32) o9 => J mi_X2_bestToLookAt 0 0 0 0 (g, d) 55 [(2, .int e23)] [] o9) (fun s23 k23 hB23 hX23 => ?_) (fun e23 => ?_) _ ((-2), ((d.1 39) 2) + 1, 0)
    · show J mi_X2_bestToLookAt 0 0 0 0 (g, d) 23 [(0, .ref 39), (1, .int (pq0)), (2, .int s23.1), (3, .int s23.2.1), (4, .int s23.2.2)] [] ((f_X2_bestToLookAt_w23 (d.1 39) (d.1 40) pq0 s23).bind k23)
      unfold f_X2_bestToLookAt_w23
      have hX2_bestToLookAt_j49_23 : ∀ (x2_49_23 : Int32) (x3_49_23 : Int32) (x4_49_23 : Int32), J mi_X2_bestToLookAt 0 0 0 0 (g, d) 49 [(0, .ref 39), (1, .int (pq0)), (2, .int x2_49_23), (3, .int x3_49_23), (4, .int x4_49_23)] [] ((f_X2_bestToLookAt_j49_23 (d.1 39) (d.1 40) pq0 x2_49_23 x3_49_23 x4_49_23).bind k23) := by
        intro x2_49_23 x3_49_23 x4_49_23
        unfold f_X2_bestToLookAt_j49_23
        refine J_iinc (pc := 49) (v := x4_49_23 + 1) (loc' := [(4, .int (x4_49_23 + 1)), (0, .ref 39), (1, .int (pq0)), (2, .int x2_49_23), (3, .int x3_49_23)]) 4 dX2_bestToLookAt_49 rfl rfl (by decide) rfl ?_
        refine J_goto (pc := 52) (tgt := 23) dX2_bestToLookAt_52 (by decide) ?_
        refine J_loc (loc' := [(0, .ref 39), (1, .int (pq0)), (2, .int x2_49_23), (3, .int x3_49_23), (4, .int (x4_49_23 + 1))]) [1, 2, 3, 4, 0] rfl ?_
        exact hB23 (x2_49_23, x3_49_23, x4_49_23 + 1)
      refine J_iload (pc := 23) 4 dX2_bestToLookAt_23 rfl ?_
      refine J_iload_n (pc := 25) 1 dX2_bestToLookAt_25 rfl rfl ?_
      refine K_icmp_ge (K := (fun x => Option.bind x k23)) (pc := 26) (tgt := 55) dX2_bestToLookAt_26 (by decide) (fun z26 => ?_) (fun z26 => ?_)
      · refine J_loc (loc' := [(2, .int s23.1)]) [2] rfl ?_
        exact hX23 s23.1
      · refine J_aload_n (pc := 29) 0 dX2_bestToLookAt_29 rfl rfl ?_
        refine J_iload (pc := 30) 4 dX2_bestToLookAt_30 rfl ?_
        refine JC_pp_i (J_callV (mi := mi_X2_bestToLookAt) (mj := mi_X2_mostLeft) (pc := 32) dX2_bestToLookAt_32 ml_X2_85 ok_X2_mostLeft ov_X2_mostLeft ⟨Nat.le_of_ble_eq_true rfl, Nat.le_of_ble_eq_true rfl⟩ rfl (h0.lt 39 (by decide)) (h0.ty 39 rfl) rfl (s_X2_mostLeft g d s23.2.2 h0) rfl (Nat.le_of_ble_eq_true rfl)) (fun q32_23 => ?_)
        refine J_istore (pc := 35) (loc' := [(5, .int q32_23), (0, .ref 39), (1, .int (pq0)), (2, .int s23.1), (3, .int s23.2.1), (4, .int s23.2.2)]) dX2_bestToLookAt_35 (by decide) rfl ?_
        refine J_iload (pc := 37) 0 dX2_bestToLookAt_37 rfl ?_
        refine J_iload_n (pc := 39) 4 dX2_bestToLookAt_39 rfl rfl ?_
        refine K_icmp_ge (K := (fun x => Option.bind x k23)) (pc := 40) (tgt := 49) dX2_bestToLookAt_40 (by decide) (fun z40 => ?_) (fun z40 => ?_)
        · refine J_loc (loc' := [(0, .ref 39), (1, .int (pq0)), (2, .int s23.1), (3, .int s23.2.1), (4, .int s23.2.2)]) [1, 2, 3, 4, 5] rfl ?_
          exact hX2_bestToLookAt_j49_23 s23.1 s23.2.1 s23.2.2
        · refine J_iload (pc := 43) 0 dX2_bestToLookAt_43 rfl ?_
          refine J_istore_n (pc := 45) (loc' := [(3, .int q32_23), (5, .int q32_23), (0, .ref 39), (1, .int (pq0)), (2, .int s23.1), (4, .int s23.2.2)]) dX2_bestToLookAt_45 rfl (by decide) rfl ?_
          refine J_iload (pc := 46) 5 dX2_bestToLookAt_46 rfl ?_
          refine J_istore_n (pc := 48) (loc' := [(2, .int s23.2.2), (3, .int q32_23), (5, .int q32_23), (0, .ref 39), (1, .int (pq0)), (4, .int s23.2.2)]) dX2_bestToLookAt_48 rfl (by decide) rfl ?_
          refine J_loc (loc' := [(0, .ref 39), (1, .int (pq0)), (2, .int s23.2.2), (3, .int q32_23), (4, .int s23.2.2)]) [3, 4, 0, 1, 5] rfl ?_
          exact hX2_bestToLookAt_j49_23 s23.2.2 q32_23 s23.2.2
    · show J mi_X2_bestToLookAt 0 0 0 0 (g, d) 55 [(2, .int e23)] [] (_)
      refine J_iload_n (pc := 55) 0 dX2_bestToLookAt_55 rfl rfl ?_
      exact J_eqo (hk e23) (J_iret (pc := 56) dX2_bestToLookAt_56 rfl)
  · refine J_bipush (pc := 7) (v := (-2)) dX2_bestToLookAt_7 (by decide) ?_
    exact J_eqo (hk (-2)) (J_iret (pc := 9) dX2_bestToLookAt_9 rfl)
def f_X3_clear_w42 (a : Nat) (s42 : Int32 × JD) : Option ((Int32 × JD) ⊕ (JD)) := (if 6 ≤ s42.1 then some (.inr s42.2) else (if j_out s42.1 6 then none else some (.inl (s42.1 + 1, j_sI s42.2 (a + 6) s42.1.toNatClampNeg 0))))
def f_X3_clear (a : Nat) (d : JD) : Option (JD) := ((j_wh (f_X3_clear_w42 a ) j_fuel (0, j_sI (j_sI (j_sI (j_sI (j_sI (j_sI (j_sI (j_sI d a 0 0) a 1 0) a 2 0) a 3 0) a 4 0) a 5 0) a 6 0) a 7 0)).bind (fun (e42 : JD) => ((f_X0_clear (a + 9) e42).bind (fun q65 => some q65))))
set_option maxRecDepth 100000 in
set_option maxHeartbeats 4000000 in
theorem s_X3_clear (g : JG) (d : JD) (a : Nat) (ha : j_sh g a TS_CL RS_CL) : JM mi_X3_clear 0 0 (g, d) [.ref a] ((f_X3_clear a d ).bind (fun r9 => some (none, (g, r9)))) := by
  refine JM_of (by decide) rfl (Nat.le_of_ble_eq_true rfl) ?_
  refine J_loc (loc' := [(0, .ref a)]) [0] rfl ?_
  obtain ⟨k, hk, hk2⟩ : ∃ k : JD → Option (Option Value × JH), (∀ r9, k r9 = some (none, (g, r9))) ∧ (fun r9 : JD => (some (none, (g, r9)) : Option (Option Value × JH))) = k := ⟨_, fun _ => rfl, rfl⟩
  rw [hk2]
  unfold f_X3_clear
  refine J_aload_n (pc := 0) 0 dX3_clear_0 rfl rfl ?_
  refine J_iconst (pc := 1) (v := 0) dX3_clear_1 (by decide) ?_
  refine J_putI (pc := 2) dX3_clear_2 fl_X3_43 ft_3_0 (ha.lt 0 (by decide)) (ha.ty 0 rfl) rfl rfl rfl ?_
  refine J_aload_n (pc := 5) 0 dX3_clear_5 rfl rfl ?_
  refine J_iconst (pc := 6) (v := 0) dX3_clear_6 (by decide) ?_
  refine J_putI (pc := 7) dX3_clear_7 fl_X3_47 ft_3_1 (ha.lt 0 (by decide)) (ha.ty 0 rfl) rfl rfl rfl ?_
  refine J_aload_n (pc := 10) 0 dX3_clear_10 rfl rfl ?_
  refine J_iconst (pc := 11) (v := 0) dX3_clear_11 (by decide) ?_
  refine J_putI (pc := 12) dX3_clear_12 fl_X3_50 ft_3_2 (ha.lt 0 (by decide)) (ha.ty 0 rfl) rfl rfl rfl ?_
  refine J_aload_n (pc := 15) 0 dX3_clear_15 rfl rfl ?_
  refine J_iconst (pc := 16) (v := 0) dX3_clear_16 (by decide) ?_
  refine J_putI (pc := 17) dX3_clear_17 fl_X3_53 ft_3_3 (ha.lt 0 (by decide)) (ha.ty 0 rfl) rfl rfl rfl ?_
  refine J_aload_n (pc := 20) 0 dX3_clear_20 rfl rfl ?_
  refine J_iconst (pc := 21) (v := 0) dX3_clear_21 (by decide) ?_
  refine J_putI (pc := 22) dX3_clear_22 fl_X3_56 ft_3_4 (ha.lt 0 (by decide)) (ha.ty 0 rfl) rfl rfl rfl ?_
  refine J_aload_n (pc := 25) 0 dX3_clear_25 rfl rfl ?_
  refine J_iconst (pc := 26) (v := 0) dX3_clear_26 (by decide) ?_
  refine J_putI (pc := 27) dX3_clear_27 fl_X3_59 ft_3_5 (ha.lt 0 (by decide)) (ha.ty 0 rfl) rfl rfl rfl ?_
  refine J_aload_n (pc := 30) 0 dX3_clear_30 rfl rfl ?_
  refine J_iconst (pc := 31) (v := 0) dX3_clear_31 (by decide) ?_
  refine J_putI (pc := 32) dX3_clear_32 fl_X3_62 ft_3_6 (ha.lt 0 (by decide)) (ha.ty 0 rfl) rfl rfl rfl ?_
  refine J_aload_n (pc := 35) 0 dX3_clear_35 rfl rfl ?_
  refine J_iconst (pc := 36) (v := 0) dX3_clear_36 (by decide) ?_
  refine J_putI (pc := 37) dX3_clear_37 fl_X3_65 ft_3_7 (ha.lt 0 (by decide)) (ha.ty 0 rfl) rfl rfl rfl ?_
  refine J_iconst (pc := 40) (v := 0) dX3_clear_40 (by decide) ?_
  refine J_istore_n (pc := 41) (loc' := [(1, .int 0), (0, .ref a)]) dX3_clear_41 rfl (by decide) rfl ?_
  refine J_loc (loc' := [(0, .ref a), (1, .int 0)]) [1, 0] rfl ?_
  refine J_whL (F := f_X3_clear_w42 a ) (hp := fun (s42 : Int32 × JD) => (g, s42.2)) (lc := fun (s42 : Int32 × JD) => [(0, .ref a), (1, .int s42.1)]) (XJ := fun (e42 : JD) o9 => J mi_X3_clear 0 0 0 0 (g, e42) 61 [(0, .ref a)] [] o9) (fun s42 k42 hB42 hX42 => ?_) (fun e42 => ?_) _ (0, j_sI (j_sI (j_sI (j_sI (j_sI (j_sI (j_sI (j_sI d a 0 0) a 1 0) a 2 0) a 3 0) a 4 0) a 5 0) a 6 0) a 7 0)
  · show J mi_X3_clear 0 0 0 0 (g, s42.2) 42 [(0, .ref a), (1, .int s42.1)] [] ((f_X3_clear_w42 a s42).bind k42)
    unfold f_X3_clear_w42
    refine J_iload_n (pc := 42) 1 dX3_clear_42 rfl rfl ?_
    refine J_bipush (pc := 43) (v := 6) dX3_clear_43 (by decide) ?_
    refine K_icmp_ge (K := (fun x => Option.bind x k42)) (pc := 45) (tgt := 61) dX3_clear_45 (by decide) (fun z45 => ?_) (fun z45 => ?_)
    · refine J_loc (loc' := [(0, .ref a)]) [0] rfl ?_
      exact hX42 s42.2
    · refine J_aload_n (pc := 48) 0 dX3_clear_48 rfl rfl ?_
      refine J_getR (pc := 49) dX3_clear_49 fl_X3_27 (ha.lt 0 (by decide)) (ha.ty 0 rfl) rfl (ha.rf 5 rfl) ?_
      refine J_iload_n (pc := 52) 1 dX3_clear_52 rfl rfl ?_
      refine J_iconst (pc := 53) (v := 0) dX3_clear_53 (by decide) ?_
      refine J_guard (fun z54 => ?_)
      refine J_iast (pc := 54) dX3_clear_54 (ha.lt 6 (by decide)) (ha.ty 6 rfl) z54 ?_
      refine J_iinc (pc := 55) (v := s42.1 + 1) (loc' := [(1, .int (s42.1 + 1)), (0, .ref a)]) 1 dX3_clear_55 rfl rfl (by decide) rfl ?_
      refine J_goto (pc := 58) (tgt := 42) dX3_clear_58 (by decide) ?_
      refine J_loc (loc' := [(0, .ref a), (1, .int (s42.1 + 1))]) [1, 0] rfl ?_
      exact hB42 (s42.1 + 1, j_sI s42.2 (a + 6) s42.1.toNatClampNeg 0)
  · show J mi_X3_clear 0 0 0 0 (g, e42) 61 [(0, .ref a)] [] (_)
    refine J_aload_n (pc := 61) 0 dX3_clear_61 rfl rfl ?_
    refine J_getR (pc := 62) dX3_clear_62 fl_X3_39 (ha.lt 0 (by decide)) (ha.ty 0 rfl) rfl (ha.rf 8 rfl) ?_
    refine JC_pe_v (J_callV (mi := mi_X3_clear) (mj := mi_X0_clear) (pc := 65) dX3_clear_65 ml_X3_68 ok_X0_clear ov_X0_clear ⟨Nat.le_of_ble_eq_true rfl, Nat.le_of_ble_eq_true rfl⟩ rfl (ha.lt 9 (by decide)) (ha.ty 9 rfl) rfl (s_X0_clear g e42 (a + 9) (sh_CC_CL9 ha)) rfl (Nat.le_of_ble_eq_true rfl)) (fun q65 => ?_)
    exact J_eqo (hk q65) (J_vret (pc := 68) dX3_clear_68 rfl)
def f_X3_reckonOwners_j122 (a : Nat) (d122 : JD) (y0_122 : Int32) (y1_122 : Int32) : Option (JD) := (j_let (f_X11_put (a + 8) 24 d122 y1_122 y0_122) (fun q122 => some q122))
def f_X3_reckonOwners_j72 (a : Nat) (d72 : JD) (x1_72 : Int32) (x2_72 : Int32) (x5_72 : Int32) : Option (JD) := (j_let (f_X11_put (a + 7) 24 d72 (((4 : Int32) * x1_72) + x2_72) x5_72) (fun q90 => if (f_J6_bitCount_0f7a4 x5_72) ≤ 0 then (f_X3_reckonOwners_j122 a q90 0 (((4 : Int32) * x1_72) + x2_72)) else (if (f_J6_bitCount_0f7a4 x5_72) = 0 then none else f_X3_reckonOwners_j122 a q90 ((f_X11_at (q90.1 (a + 5)) 6 x1_72) / (f_J6_bitCount_0f7a4 x5_72)) (((4 : Int32) * x1_72) + x2_72))))
def f_X3_reckonOwners_j30 (a : Nat) (d30 : JD) (x1_30 : Int32) (x2_30 : Int32) (x3_30 : Int32) (y0_30 : Int32) : Option (JD) := (if y0_30 = 1 then (j_let ((1 : Int32) <<< ((f_X11_at (d30.1 (a + 1)) 4 x3_30) &&& 31)) (fun v5_51 => f_X3_reckonOwners_j72 a d30 x1_30 x2_30 v5_51)) else (if y0_30 = 2 then (j_let (f_X11_at (d30.1 (a + 2)) 4 x3_30) (fun v5_70 => f_X3_reckonOwners_j72 a d30 x1_30 x2_30 v5_70)) else f_X3_reckonOwners_j72 a d30 x1_30 x2_30 0))
def f_X3_reckonOwners (a : Nat) (d : JD) (pq0 : Int32) (pq1 : Int32) : Option (JD) := (if (f_X11_at (d.1 (a + 3)) 6 pq0) = 1 then (f_X3_reckonOwners_j30 a d pq0 pq1 (f_X11_at (d.1 (a + 4)) 6 pq0) ((pq1 + 1) - (pq1 + 1) / 3 * 3)) else (f_X3_reckonOwners_j30 a d pq0 pq1 (f_X11_at (d.1 (a + 4)) 6 pq0) pq1))
set_option maxRecDepth 100000 in
set_option maxHeartbeats 4000000 in
theorem s_X3_reckonOwners (g : JG) (d : JD) (a : Nat) (pq0 : Int32) (pq1 : Int32) (ha : j_sh g a TS_CL RS_CL) : JM mi_X3_reckonOwners 0 0 (g, d) [.ref a, .int pq0, .int pq1] ((f_X3_reckonOwners a d pq0 pq1).bind (fun r9 => some (none, (g, r9)))) := by
  refine JM_of (by decide) rfl (Nat.le_of_ble_eq_true rfl) ?_
  refine J_loc (loc' := [(0, .ref a), (1, .int pq0), (2, .int pq1)]) [0, 1, 2] rfl ?_
  obtain ⟨k, hk, hk2⟩ : ∃ k : JD → Option (Option Value × JH), (∀ r9, k r9 = some (none, (g, r9))) ∧ (fun r9 : JD => (some (none, (g, r9)) : Option (Option Value × JH))) = k := ⟨_, fun _ => rfl, rfl⟩
  rw [hk2]
  unfold f_X3_reckonOwners
  have hX3_reckonOwners_j122 : ∀ (d122 : JD) (y0_122 : Int32) (y1_122 : Int32), J mi_X3_reckonOwners 0 0 0 0 (g, d122) 122 [] [.int y0_122, .int y1_122, .ref (a + 8)] ((f_X3_reckonOwners_j122 a d122 y0_122 y1_122).bind k) := by
    intro d122 y0_122 y1_122
    unfold f_X3_reckonOwners_j122
    refine JC_lt_v (K := (fun x => Option.bind x k)) (J_callS (mi := mi_X3_reckonOwners) (mj := mi_X11_put) (pc := 122) dX3_reckonOwners_122 ml_X3_71 ok_X11_put os_X11_put ⟨Nat.le_of_ble_eq_true rfl, Nat.le_of_ble_eq_true rfl⟩ rfl (s_X11_put g d122 (a + 8) 24 y1_122 y0_122 (⟨(ha.lt 8 (by decide)), (ha.ty 8 rfl), by decide⟩)) rfl (Nat.le_of_ble_eq_true rfl)) (fun q122 eq122 => ?_)
    exact J_eqo (hk q122) (J_vret (pc := 125) dX3_reckonOwners_125 rfl)
  have hX3_reckonOwners_j72 : ∀ (d72 : JD) (x1_72 : Int32) (x2_72 : Int32) (x5_72 : Int32), J mi_X3_reckonOwners 0 0 0 0 (g, d72) 72 [(0, .ref a), (1, .int x1_72), (2, .int x2_72), (5, .int x5_72)] [] ((f_X3_reckonOwners_j72 a d72 x1_72 x2_72 x5_72).bind k) := by
    intro d72 x1_72 x2_72 x5_72
    unfold f_X3_reckonOwners_j72
    refine J_iload (pc := 72) 3 dX3_reckonOwners_72 rfl ?_
    refine JC_pt_i (J_callS (mi := mi_X3_reckonOwners) (mj := mi_J6_bitCount_0f7a4) (pc := 74) dX3_reckonOwners_74 ml_X3_93 ok_J6_bitCount_0f7a4 os_J6_bitCount_0f7a4 ⟨Nat.le_of_ble_eq_true rfl, Nat.le_of_ble_eq_true rfl⟩ rfl (s_J6_bitCount_0f7a4 g d72 x5_72) rfl (Nat.le_of_ble_eq_true rfl)) ?_
    refine J_istore (pc := 77) (loc' := [(6, .int (f_J6_bitCount_0f7a4 x5_72)), (0, .ref a), (1, .int x1_72), (2, .int x2_72), (5, .int x5_72)]) dX3_reckonOwners_77 (by decide) rfl ?_
    refine J_aload_n (pc := 79) 1 dX3_reckonOwners_79 rfl rfl ?_
    refine J_getR (pc := 80) dX3_reckonOwners_80 fl_X3_30 (ha.lt 0 (by decide)) (ha.ty 0 rfl) rfl (ha.rf 6 rfl) ?_
    refine J_iconst (pc := 83) (v := 4) dX3_reckonOwners_83 (by decide) ?_
    refine J_iload_n (pc := 84) 2 dX3_reckonOwners_84 rfl rfl ?_
    refine J_imul (pc := 85) dX3_reckonOwners_85 ?_
    refine J_iload_n (pc := 86) 3 dX3_reckonOwners_86 rfl rfl ?_
    refine J_iadd (pc := 87) dX3_reckonOwners_87 ?_
    refine J_iload (pc := 88) 4 dX3_reckonOwners_88 rfl ?_
    refine JC_lt_v (K := (fun x => Option.bind x k)) (J_callS (mi := mi_X3_reckonOwners) (mj := mi_X11_put) (pc := 90) dX3_reckonOwners_90 ml_X3_71 ok_X11_put os_X11_put ⟨Nat.le_of_ble_eq_true rfl, Nat.le_of_ble_eq_true rfl⟩ rfl (s_X11_put g d72 (a + 7) 24 (((4 : Int32) * x1_72) + x2_72) x5_72 (⟨(ha.lt 7 (by decide)), (ha.ty 7 rfl), by decide⟩)) rfl (Nat.le_of_ble_eq_true rfl)) (fun q90 eq90 => ?_)
    refine J_aload_n (pc := 93) 1 dX3_reckonOwners_93 rfl rfl ?_
    refine J_getR (pc := 94) dX3_reckonOwners_94 fl_X3_33 (ha.lt 0 (by decide)) (ha.ty 0 rfl) rfl (ha.rf 7 rfl) ?_
    refine J_iconst (pc := 97) (v := 4) dX3_reckonOwners_97 (by decide) ?_
    refine J_iload_n (pc := 98) 2 dX3_reckonOwners_98 rfl rfl ?_
    refine J_imul (pc := 99) dX3_reckonOwners_99 ?_
    refine J_iload_n (pc := 100) 3 dX3_reckonOwners_100 rfl rfl ?_
    refine J_iadd (pc := 101) dX3_reckonOwners_101 ?_
    refine J_iload (pc := 102) 0 dX3_reckonOwners_102 rfl ?_
    refine K_if_le (K := (fun x => Option.bind x k)) (pc := 104) (tgt := 121) dX3_reckonOwners_104 (by decide) (fun z104 => ?_) (fun z104 => ?_)
    · refine J_iconst (pc := 121) (v := 0) dX3_reckonOwners_121 (by decide) ?_
      refine J_loc (loc' := []) [] rfl ?_
      exact hX3_reckonOwners_j122 q90 0 (((4 : Int32) * x1_72) + x2_72)
    · refine J_aload_n (pc := 107) 1 dX3_reckonOwners_107 rfl rfl ?_
      refine J_getR (pc := 108) dX3_reckonOwners_108 fl_X3_24 (ha.lt 0 (by decide)) (ha.ty 0 rfl) rfl (ha.rf 4 rfl) ?_
      refine J_iload_n (pc := 111) 2 dX3_reckonOwners_111 rfl rfl ?_
      refine JC_pt_i (J_callS (mi := mi_X3_reckonOwners) (mj := mi_X11_at) (pc := 112) dX3_reckonOwners_112 ml_X3_89 ok_X11_at os_X11_at ⟨Nat.le_of_ble_eq_true rfl, Nat.le_of_ble_eq_true rfl⟩ rfl (s_X11_at g q90 (a + 5) 6 x1_72 (⟨(ha.lt 5 (by decide)), (ha.ty 5 rfl), by decide⟩)) rfl (Nat.le_of_ble_eq_true rfl)) ?_
      refine J_iload (pc := 115) 0 dX3_reckonOwners_115 rfl ?_
      refine J_nz (z0 := 0) (fun z117 => ?_)
      refine J_idiv (pc := 117) dX3_reckonOwners_117 z117 ?_
      refine J_goto (pc := 118) (tgt := 122) dX3_reckonOwners_118 (by decide) ?_
      refine J_loc (loc' := []) [] rfl ?_
      exact hX3_reckonOwners_j122 q90 ((f_X11_at (q90.1 (a + 5)) 6 x1_72) / (f_J6_bitCount_0f7a4 x5_72)) (((4 : Int32) * x1_72) + x2_72)
  have hX3_reckonOwners_j30 : ∀ (d30 : JD) (x1_30 : Int32) (x2_30 : Int32) (x3_30 : Int32) (y0_30 : Int32), J mi_X3_reckonOwners 0 0 0 0 (g, d30) 30 [(0, .ref a), (1, .int x1_30), (2, .int x2_30), (3, .int x3_30)] [.int y0_30] ((f_X3_reckonOwners_j30 a d30 x1_30 x2_30 x3_30 y0_30).bind k) := by
    intro d30 x1_30 x2_30 x3_30 y0_30
    unfold f_X3_reckonOwners_j30
    refine J_istore (pc := 30) (loc' := [(4, .int y0_30), (0, .ref a), (1, .int x1_30), (2, .int x2_30), (3, .int x3_30)]) dX3_reckonOwners_30 (by decide) rfl ?_
    refine J_iconst (pc := 32) (v := 0) dX3_reckonOwners_32 (by decide) ?_
    refine J_istore (pc := 33) (loc' := [(5, .int 0), (4, .int y0_30), (0, .ref a), (1, .int x1_30), (2, .int x2_30), (3, .int x3_30)]) dX3_reckonOwners_33 (by decide) rfl ?_
    refine J_iload (pc := 35) 1 dX3_reckonOwners_35 rfl ?_
    refine J_iconst (pc := 37) (v := 1) dX3_reckonOwners_37 (by decide) ?_
    refine K_icmp_ne (K := (fun x => Option.bind x k)) (pc := 38) (tgt := 56) dX3_reckonOwners_38 (by decide) (fun z38 => ?_) (fun z38 => ?_)
    · refine J_iload (pc := 56) 1 dX3_reckonOwners_56 rfl ?_
      refine J_iconst (pc := 58) (v := 2) dX3_reckonOwners_58 (by decide) ?_
      refine K_icmp_ne (K := (fun x => Option.bind x k)) (pc := 59) (tgt := 72) dX3_reckonOwners_59 (by decide) (fun z59 => ?_) (fun z59 => ?_)
      · refine J_loc (loc' := [(0, .ref a), (1, .int x1_30), (2, .int x2_30), (5, .int 0)]) [2, 3, 4, 0] rfl ?_
        exact hX3_reckonOwners_j72 d30 x1_30 x2_30 0
      · refine J_aload_n (pc := 62) 2 dX3_reckonOwners_62 rfl rfl ?_
        refine J_getR (pc := 63) dX3_reckonOwners_63 fl_X3_15 (ha.lt 0 (by decide)) (ha.ty 0 rfl) rfl (ha.rf 1 rfl) ?_
        refine J_iload_n (pc := 66) 5 dX3_reckonOwners_66 rfl rfl ?_
        refine JC_pt_i (J_callS (mi := mi_X3_reckonOwners) (mj := mi_X11_at) (pc := 67) dX3_reckonOwners_67 ml_X3_89 ok_X11_at os_X11_at ⟨Nat.le_of_ble_eq_true rfl, Nat.le_of_ble_eq_true rfl⟩ rfl (s_X11_at g d30 (a + 2) 4 x3_30 (⟨(ha.lt 2 (by decide)), (ha.ty 2 rfl), by decide⟩)) rfl (Nat.le_of_ble_eq_true rfl)) ?_
        refine J_let (K := (fun x => Option.bind x k)) (fun v5_70 ev5_70 => ?_)
        refine J_val ev5_70.symm ?_
        refine J_istore (pc := 70) (loc' := [(5, .int v5_70), (4, .int y0_30), (0, .ref a), (1, .int x1_30), (2, .int x2_30), (3, .int x3_30)]) dX3_reckonOwners_70 (by decide) rfl ?_
        refine J_loc (loc' := [(0, .ref a), (1, .int x1_30), (2, .int x2_30), (5, .int v5_70)]) [2, 3, 4, 0] rfl ?_
        exact hX3_reckonOwners_j72 d30 x1_30 x2_30 v5_70
    · refine J_iconst (pc := 41) (v := 1) dX3_reckonOwners_41 (by decide) ?_
      refine J_aload_n (pc := 42) 2 dX3_reckonOwners_42 rfl rfl ?_
      refine J_getR (pc := 43) dX3_reckonOwners_43 fl_X3_9 (ha.lt 0 (by decide)) (ha.ty 0 rfl) rfl (ha.rf 0 rfl) ?_
      refine J_iload_n (pc := 46) 5 dX3_reckonOwners_46 rfl rfl ?_
      refine JC_pt_i (J_callS (mi := mi_X3_reckonOwners) (mj := mi_X11_at) (pc := 47) dX3_reckonOwners_47 ml_X3_89 ok_X11_at os_X11_at ⟨Nat.le_of_ble_eq_true rfl, Nat.le_of_ble_eq_true rfl⟩ rfl (s_X11_at g d30 (a + 1) 4 x3_30 (⟨(ha.lt 1 (by decide)), (ha.ty 1 rfl), by decide⟩)) rfl (Nat.le_of_ble_eq_true rfl)) ?_
      refine J_ishl (pc := 50) dX3_reckonOwners_50 ?_
      refine J_let (K := (fun x => Option.bind x k)) (fun v5_51 ev5_51 => ?_)
      refine J_val ev5_51.symm ?_
      refine J_istore (pc := 51) (loc' := [(5, .int v5_51), (4, .int y0_30), (0, .ref a), (1, .int x1_30), (2, .int x2_30), (3, .int x3_30)]) dX3_reckonOwners_51 (by decide) rfl ?_
      refine J_goto (pc := 53) (tgt := 72) dX3_reckonOwners_53 (by decide) ?_
      refine J_loc (loc' := [(0, .ref a), (1, .int x1_30), (2, .int x2_30), (5, .int v5_51)]) [2, 3, 4, 0] rfl ?_
      exact hX3_reckonOwners_j72 d30 x1_30 x2_30 v5_51
  refine J_aload_n (pc := 0) 0 dX3_reckonOwners_0 rfl rfl ?_
  refine J_getR (pc := 1) dX3_reckonOwners_1 fl_X3_21 (ha.lt 0 (by decide)) (ha.ty 0 rfl) rfl (ha.rf 3 rfl) ?_
  refine J_iload_n (pc := 4) 1 dX3_reckonOwners_4 rfl rfl ?_
  refine JC_pt_i (J_callS (mi := mi_X3_reckonOwners) (mj := mi_X11_at) (pc := 5) dX3_reckonOwners_5 ml_X3_89 ok_X11_at os_X11_at ⟨Nat.le_of_ble_eq_true rfl, Nat.le_of_ble_eq_true rfl⟩ rfl (s_X11_at g d (a + 4) 6 pq0 (⟨(ha.lt 4 (by decide)), (ha.ty 4 rfl), by decide⟩)) rfl (Nat.le_of_ble_eq_true rfl)) ?_
  refine J_istore_n (pc := 8) (loc' := [(3, .int (f_X11_at (d.1 (a + 4)) 6 pq0)), (0, .ref a), (1, .int pq0), (2, .int pq1)]) dX3_reckonOwners_8 rfl (by decide) rfl ?_
  refine J_aload_n (pc := 9) 1 dX3_reckonOwners_9 rfl rfl ?_
  refine J_getR (pc := 10) dX3_reckonOwners_10 fl_X3_18 (ha.lt 0 (by decide)) (ha.ty 0 rfl) rfl (ha.rf 2 rfl) ?_
  refine J_iload_n (pc := 13) 2 dX3_reckonOwners_13 rfl rfl ?_
  refine JC_pt_i (J_callS (mi := mi_X3_reckonOwners) (mj := mi_X11_at) (pc := 14) dX3_reckonOwners_14 ml_X3_89 ok_X11_at os_X11_at ⟨Nat.le_of_ble_eq_true rfl, Nat.le_of_ble_eq_true rfl⟩ rfl (s_X11_at g d (a + 3) 6 pq0 (⟨(ha.lt 3 (by decide)), (ha.ty 3 rfl), by decide⟩)) rfl (Nat.le_of_ble_eq_true rfl)) ?_
  refine J_iconst (pc := 17) (v := 1) dX3_reckonOwners_17 (by decide) ?_
  refine K_icmp_ne (K := (fun x => Option.bind x k)) (pc := 18) (tgt := 29) dX3_reckonOwners_18 (by decide) (fun z18 => ?_) (fun z18 => ?_)
  · refine J_iload_n (pc := 29) 3 dX3_reckonOwners_29 rfl rfl ?_
    refine J_loc (loc' := [(0, .ref a), (1, .int pq0), (2, .int pq1), (3, .int (f_X11_at (d.1 (a + 4)) 6 pq0))]) [1, 2, 3, 0] rfl ?_
    exact hX3_reckonOwners_j30 d pq0 pq1 (f_X11_at (d.1 (a + 4)) 6 pq0) pq1
  · refine J_iload_n (pc := 21) 3 dX3_reckonOwners_21 rfl rfl ?_
    refine J_iconst (pc := 22) (v := 1) dX3_reckonOwners_22 (by decide) ?_
    refine J_iadd (pc := 23) dX3_reckonOwners_23 ?_
    refine J_iconst (pc := 24) (v := 3) dX3_reckonOwners_24 (by decide) ?_
    refine J_irem (pc := 25) dX3_reckonOwners_25 (by decide) ?_
    refine J_goto (pc := 26) (tgt := 30) dX3_reckonOwners_26 (by decide) ?_
    refine J_loc (loc' := [(0, .ref a), (1, .int pq0), (2, .int pq1), (3, .int (f_X11_at (d.1 (a + 4)) 6 pq0))]) [1, 2, 3, 0] rfl ?_
    exact hX3_reckonOwners_j30 d pq0 pq1 (f_X11_at (d.1 (a + 4)) 6 pq0) ((pq1 + 1) - (pq1 + 1) / 3 * 3)
def f_X3_addGate_w73 (a : Nat) (c5_73 : Int32) (s73 : Int32 × JD) : Option ((Int32 × JD) ⊕ (JD)) := (if 2 < s73.1 then some (.inr s73.2) else ((f_X3_reckonOwners a s73.2 (c5_73) s73.1).bind (fun q84_73 => some (.inl (s73.1 + 1, q84_73)))))
def f_X3_addGate_j70 (a : Nat) (d70 : JD) (x5_70 : Int32) : Option (JD) := ((j_wh (f_X3_addGate_w73 a x5_70 ) j_fuel (0, d70)).bind (fun (e73 : JD) => (some (j_sI e73 a 4 (((e73.1 a) 4) + 1)))))
def f_X3_addGate (a : Nat) (d : JD) (pq0 : Int32) (pq1 : Int32) (pq2 : Int32) (pq3 : Int32) : Option (JD) := (j_let (f_X11_put (a + 3) 6 d ((d.1 a) 4) pq0) (fun q13 => j_let (f_X11_put (a + 4) 6 q13 ((d.1 a) 4) pq1) (fun q23 => j_let (f_X11_put (a + 5) 6 q23 ((d.1 a) 4) pq2) (fun q33 => if pq0 = 2 then (f_X3_addGate_j70 a (j_sI (j_sI q33 a 6 (f_X10_with ((q33.1 a) 6) ((d.1 a) 4) pq3)) a 7 (((q33.1 a) 7) ||| (f_X10_bitsOf ((d.1 a) 4)))) ((d.1 a) 4)) else f_X3_addGate_j70 a (j_sI q33 a 6 (f_X10_with ((q33.1 a) 6) ((d.1 a) 4) pq3)) ((d.1 a) 4)))))
set_option maxRecDepth 100000 in
set_option maxHeartbeats 4000000 in
theorem s_X3_addGate (g : JG) (d : JD) (a : Nat) (pq0 : Int32) (pq1 : Int32) (pq2 : Int32) (pq3 : Int32) (ha : j_sh g a TS_CL RS_CL) : JM mi_X3_addGate 0 0 (g, d) [.ref a, .int pq0, .int pq1, .int pq2, .int pq3] ((f_X3_addGate a d pq0 pq1 pq2 pq3).bind (fun r9 => some (none, (g, r9)))) := by
  refine JM_of (by decide) rfl (Nat.le_of_ble_eq_true rfl) ?_
  refine J_loc (loc' := [(0, .ref a), (1, .int pq0), (2, .int pq1), (3, .int pq2), (4, .int pq3)]) [0, 1, 2, 3, 4] rfl ?_
  obtain ⟨k, hk, hk2⟩ : ∃ k : JD → Option (Option Value × JH), (∀ r9, k r9 = some (none, (g, r9))) ∧ (fun r9 : JD => (some (none, (g, r9)) : Option (Option Value × JH))) = k := ⟨_, fun _ => rfl, rfl⟩
  rw [hk2]
  unfold f_X3_addGate
  have hX3_addGate_j70 : ∀ (d70 : JD) (x5_70 : Int32), J mi_X3_addGate 0 0 0 0 (g, d70) 70 [(0, .ref a), (5, .int x5_70)] [] ((f_X3_addGate_j70 a d70 x5_70).bind k) := by
    intro d70 x5_70
    unfold f_X3_addGate_j70
    refine J_iconst (pc := 70) (v := 0) dX3_addGate_70 (by decide) ?_
    refine J_istore (pc := 71) (loc' := [(6, .int 0), (0, .ref a), (5, .int x5_70)]) dX3_addGate_71 (by decide) rfl ?_
    refine J_loc (loc' := [(0, .ref a), (5, .int x5_70), (6, .int 0)]) [1, 2, 0] rfl ?_
    refine J_whL (F := f_X3_addGate_w73 a x5_70 ) (hp := fun (s73 : Int32 × JD) => (g, s73.2)) (lc := fun (s73 : Int32 × JD) => [(0, .ref a), (5, .int (x5_70)), (6, .int s73.1)]) (XJ := fun (e73 : JD) o9 => J mi_X3_addGate 0 0 0 0 (g, e73) 93 [(0, .ref a)] [] o9) (fun s73 k73 hB73 hX73 => ?_) (fun e73 => ?_) _ (0, d70)
    · show J mi_X3_addGate 0 0 0 0 (g, s73.2) 73 [(0, .ref a), (5, .int (x5_70)), (6, .int s73.1)] [] ((f_X3_addGate_w73 a x5_70 s73).bind k73)
      unfold f_X3_addGate_w73
      refine J_iload (pc := 73) 2 dX3_addGate_73 rfl ?_
      refine J_iconst (pc := 75) (v := 2) dX3_addGate_75 (by decide) ?_
      refine K_icmp_gt (K := (fun x => Option.bind x k73)) (pc := 76) (tgt := 93) dX3_addGate_76 (by decide) (fun z76 => ?_) (fun z76 => ?_)
      · refine J_loc (loc' := [(0, .ref a)]) [0] rfl ?_
        exact hX73 s73.2
      · refine J_aload_n (pc := 79) 0 dX3_addGate_79 rfl rfl ?_
        refine J_iload (pc := 80) 1 dX3_addGate_80 rfl ?_
        refine J_iload (pc := 82) 2 dX3_addGate_82 rfl ?_
        refine JC_pe_v (J_callV (mi := mi_X3_addGate) (mj := mi_X3_reckonOwners) (pc := 84) dX3_addGate_84 ml_X3_85 ok_X3_reckonOwners ov_X3_reckonOwners ⟨Nat.le_of_ble_eq_true rfl, Nat.le_of_ble_eq_true rfl⟩ rfl (ha.lt 0 (by decide)) (ha.ty 0 rfl) rfl (s_X3_reckonOwners g s73.2 a x5_70 s73.1 ha) rfl (Nat.le_of_ble_eq_true rfl)) (fun q84_73 => ?_)
        refine J_iinc (pc := 87) (v := s73.1 + 1) (loc' := [(6, .int (s73.1 + 1)), (0, .ref a), (5, .int (x5_70))]) 2 dX3_addGate_87 rfl rfl (by decide) rfl ?_
        refine J_goto (pc := 90) (tgt := 73) dX3_addGate_90 (by decide) ?_
        refine J_loc (loc' := [(0, .ref a), (5, .int (x5_70)), (6, .int (s73.1 + 1))]) [1, 2, 0] rfl ?_
        exact hB73 (s73.1 + 1, q84_73)
    · show J mi_X3_addGate 0 0 0 0 (g, e73) 93 [(0, .ref a)] [] (_)
      refine J_aload_n (pc := 93) 0 dX3_addGate_93 rfl rfl ?_
      refine J_dup (pc := 94) dX3_addGate_94 rfl ?_
      refine J_getI (pc := 95) dX3_addGate_95 fl_X3_56 (ha.lt 0 (by decide)) (ha.ty 0 rfl) rfl ?_
      refine J_iconst (pc := 98) (v := 1) dX3_addGate_98 (by decide) ?_
      refine J_iadd (pc := 99) dX3_addGate_99 ?_
      refine J_putI (pc := 100) dX3_addGate_100 fl_X3_56 ft_3_4 (ha.lt 0 (by decide)) (ha.ty 0 rfl) rfl rfl rfl ?_
      exact J_eqo (hk (j_sI e73 a 4 (((e73.1 a) 4) + 1))) (J_vret (pc := 103) dX3_addGate_103 rfl)
  refine J_aload_n (pc := 0) 0 dX3_addGate_0 rfl rfl ?_
  refine J_getI (pc := 1) dX3_addGate_1 fl_X3_56 (ha.lt 0 (by decide)) (ha.ty 0 rfl) rfl ?_
  refine J_istore (pc := 4) (loc' := [(5, .int ((d.1 a) 4)), (0, .ref a), (1, .int pq0), (2, .int pq1), (3, .int pq2), (4, .int pq3)]) dX3_addGate_4 (by decide) rfl ?_
  refine J_aload_n (pc := 6) 1 dX3_addGate_6 rfl rfl ?_
  refine J_getR (pc := 7) dX3_addGate_7 fl_X3_18 (ha.lt 0 (by decide)) (ha.ty 0 rfl) rfl (ha.rf 2 rfl) ?_
  refine J_iload (pc := 10) 0 dX3_addGate_10 rfl ?_
  refine J_iload_n (pc := 12) 2 dX3_addGate_12 rfl rfl ?_
  refine JC_lt_v (K := (fun x => Option.bind x k)) (J_callS (mi := mi_X3_addGate) (mj := mi_X11_put) (pc := 13) dX3_addGate_13 ml_X3_71 ok_X11_put os_X11_put ⟨Nat.le_of_ble_eq_true rfl, Nat.le_of_ble_eq_true rfl⟩ rfl (s_X11_put g d (a + 3) 6 ((d.1 a) 4) pq0 (⟨(ha.lt 3 (by decide)), (ha.ty 3 rfl), by decide⟩)) rfl (Nat.le_of_ble_eq_true rfl)) (fun q13 eq13 => ?_)
  refine J_aload_n (pc := 16) 1 dX3_addGate_16 rfl rfl ?_
  refine J_getR (pc := 17) dX3_addGate_17 fl_X3_21 (ha.lt 0 (by decide)) (ha.ty 0 rfl) rfl (ha.rf 3 rfl) ?_
  refine J_iload (pc := 20) 0 dX3_addGate_20 rfl ?_
  refine J_iload_n (pc := 22) 3 dX3_addGate_22 rfl rfl ?_
  refine JC_lt_v (K := (fun x => Option.bind x k)) (J_callS (mi := mi_X3_addGate) (mj := mi_X11_put) (pc := 23) dX3_addGate_23 ml_X3_71 ok_X11_put os_X11_put ⟨Nat.le_of_ble_eq_true rfl, Nat.le_of_ble_eq_true rfl⟩ rfl (s_X11_put g q13 (a + 4) 6 ((d.1 a) 4) pq1 (⟨(ha.lt 4 (by decide)), (ha.ty 4 rfl), by decide⟩)) rfl (Nat.le_of_ble_eq_true rfl)) (fun q23 eq23 => ?_)
  refine J_aload_n (pc := 26) 1 dX3_addGate_26 rfl rfl ?_
  refine J_getR (pc := 27) dX3_addGate_27 fl_X3_24 (ha.lt 0 (by decide)) (ha.ty 0 rfl) rfl (ha.rf 4 rfl) ?_
  refine J_iload (pc := 30) 0 dX3_addGate_30 rfl ?_
  refine J_iload_n (pc := 32) 4 dX3_addGate_32 rfl rfl ?_
  refine JC_lt_v (K := (fun x => Option.bind x k)) (J_callS (mi := mi_X3_addGate) (mj := mi_X11_put) (pc := 33) dX3_addGate_33 ml_X3_71 ok_X11_put os_X11_put ⟨Nat.le_of_ble_eq_true rfl, Nat.le_of_ble_eq_true rfl⟩ rfl (s_X11_put g q23 (a + 5) 6 ((d.1 a) 4) pq2 (⟨(ha.lt 5 (by decide)), (ha.ty 5 rfl), by decide⟩)) rfl (Nat.le_of_ble_eq_true rfl)) (fun q33 eq33 => ?_)
  refine J_aload_n (pc := 36) 1 dX3_addGate_36 rfl rfl ?_
  refine J_aload_n (pc := 37) 1 dX3_addGate_37 rfl rfl ?_
  refine J_getI (pc := 38) dX3_addGate_38 fl_X3_62 (ha.lt 0 (by decide)) (ha.ty 0 rfl) rfl ?_
  refine J_iload (pc := 41) 0 dX3_addGate_41 rfl ?_
  refine J_iload (pc := 43) 5 dX3_addGate_43 rfl ?_
  refine JC_pt_i (J_callS (mi := mi_X3_addGate) (mj := mi_X10_with) (pc := 45) dX3_addGate_45 ml_X3_75 ok_X10_with os_X10_with ⟨Nat.le_of_ble_eq_true rfl, Nat.le_of_ble_eq_true rfl⟩ rfl (s_X10_with g q33 ((q33.1 a) 6) ((d.1 a) 4) pq3) rfl (Nat.le_of_ble_eq_true rfl)) ?_
  refine J_putI (pc := 48) dX3_addGate_48 fl_X3_62 ft_3_6 (ha.lt 0 (by decide)) (ha.ty 0 rfl) rfl rfl rfl ?_
  refine J_iload_n (pc := 51) 2 dX3_addGate_51 rfl rfl ?_
  refine J_iconst (pc := 52) (v := 2) dX3_addGate_52 (by decide) ?_
  refine K_icmp_ne (K := (fun x => Option.bind x k)) (pc := 53) (tgt := 70) dX3_addGate_53 (by decide) (fun z53 => ?_) (fun z53 => ?_)
  · refine J_loc (loc' := [(0, .ref a), (5, .int ((d.1 a) 4))]) [1, 0] rfl ?_
    exact hX3_addGate_j70 (j_sI q33 a 6 (f_X10_with ((q33.1 a) 6) ((d.1 a) 4) pq3)) ((d.1 a) 4)
  · refine J_aload_n (pc := 56) 1 dX3_addGate_56 rfl rfl ?_
    refine J_dup (pc := 57) dX3_addGate_57 rfl ?_
    refine J_getI (pc := 58) dX3_addGate_58 fl_X3_65 (ha.lt 0 (by decide)) (ha.ty 0 rfl) rfl ?_
    refine J_val (y := (q33.1 a) 7) (by simp [j_sI, j_sL, upd, vp_updL]) ?_
    refine J_iload (pc := 61) 0 dX3_addGate_61 rfl ?_
    refine JC_pt_i (J_callS (mi := mi_X3_addGate) (mj := mi_X10_bitsOf) (pc := 63) dX3_addGate_63 ml_X3_81 ok_X10_bitsOf os_X10_bitsOf ⟨Nat.le_of_ble_eq_true rfl, Nat.le_of_ble_eq_true rfl⟩ rfl (s_X10_bitsOf g (j_sI q33 a 6 (f_X10_with ((q33.1 a) 6) ((d.1 a) 4) pq3)) ((d.1 a) 4)) rfl (Nat.le_of_ble_eq_true rfl)) ?_
    refine J_ior (pc := 66) dX3_addGate_66 ?_
    refine J_putI (pc := 67) dX3_addGate_67 fl_X3_65 ft_3_7 (ha.lt 0 (by decide)) (ha.ty 0 rfl) rfl rfl rfl ?_
    refine J_loc (loc' := [(0, .ref a), (5, .int ((d.1 a) 4))]) [1, 0] rfl ?_
    exact hX3_addGate_j70 (j_sI (j_sI q33 a 6 (f_X10_with ((q33.1 a) 6) ((d.1 a) 4) pq3)) a 7 (((q33.1 a) 7) ||| (f_X10_bitsOf ((d.1 a) 4)))) ((d.1 a) 4)
def f_X3_addPath (a : Nat) (d : JD) (pq0 : Int32) (pq1 : Int32) : JD := (j_let (f_X11_put (a + 6) 6 d pq0 ((f_X11_at (d.1 (a + 6)) 6 pq0) ||| ((1 : Int32) <<< (pq1 &&& 31)))) (fun q17 => j_let (f_X11_put (a + 6) 6 q17 pq1 ((f_X11_at (q17.1 (a + 6)) 6 pq1) ||| ((1 : Int32) <<< (pq0 &&& 31)))) (fun q37 => j_sI q37 a 5 (((q37.1 a) 5) + 1))))
set_option maxRecDepth 100000 in
set_option maxHeartbeats 4000000 in
theorem s_X3_addPath (g : JG) (d : JD) (a : Nat) (pq0 : Int32) (pq1 : Int32) (ha : j_sh g a TS_CL RS_CL) : JM mi_X3_addPath 0 0 (g, d) [.ref a, .int pq0, .int pq1] (some (none, (g, (f_X3_addPath a d pq0 pq1)))) := by
  refine JM_of (by decide) rfl (Nat.le_of_ble_eq_true rfl) ?_
  refine J_loc (loc' := [(0, .ref a), (1, .int pq0), (2, .int pq1)]) [0, 1, 2] rfl ?_
  obtain ⟨k, hk⟩ : ∃ k : JD → Option (Option Value × JH), ∀ r9, k r9 = some (none, (g, r9)) := ⟨_, fun _ => rfl⟩
  refine J_eqo (hk (f_X3_addPath a d pq0 pq1)).symm ?_
  unfold f_X3_addPath
  refine J_aload_n (pc := 0) 0 dX3_addPath_0 rfl rfl ?_
  refine J_getR (pc := 1) dX3_addPath_1 fl_X3_27 (ha.lt 0 (by decide)) (ha.ty 0 rfl) rfl (ha.rf 5 rfl) ?_
  refine J_iload_n (pc := 4) 1 dX3_addPath_4 rfl rfl ?_
  refine J_aload_n (pc := 5) 0 dX3_addPath_5 rfl rfl ?_
  refine J_getR (pc := 6) dX3_addPath_6 fl_X3_27 (ha.lt 0 (by decide)) (ha.ty 0 rfl) rfl (ha.rf 5 rfl) ?_
  refine J_iload_n (pc := 9) 1 dX3_addPath_9 rfl rfl ?_
  refine JC_pt_i (J_callS (mi := mi_X3_addPath) (mj := mi_X11_at) (pc := 10) dX3_addPath_10 ml_X3_89 ok_X11_at os_X11_at ⟨Nat.le_of_ble_eq_true rfl, Nat.le_of_ble_eq_true rfl⟩ rfl (s_X11_at g d (a + 6) 6 pq0 (⟨(ha.lt 6 (by decide)), (ha.ty 6 rfl), by decide⟩)) rfl (Nat.le_of_ble_eq_true rfl)) ?_
  refine J_iconst (pc := 13) (v := 1) dX3_addPath_13 (by decide) ?_
  refine J_iload_n (pc := 14) 2 dX3_addPath_14 rfl rfl ?_
  refine J_ishl (pc := 15) dX3_addPath_15 ?_
  refine J_ior (pc := 16) dX3_addPath_16 ?_
  refine JC_lt_v (K := k) (J_callS (mi := mi_X3_addPath) (mj := mi_X11_put) (pc := 17) dX3_addPath_17 ml_X3_71 ok_X11_put os_X11_put ⟨Nat.le_of_ble_eq_true rfl, Nat.le_of_ble_eq_true rfl⟩ rfl (s_X11_put g d (a + 6) 6 pq0 ((f_X11_at (d.1 (a + 6)) 6 pq0) ||| ((1 : Int32) <<< (pq1 &&& 31))) (⟨(ha.lt 6 (by decide)), (ha.ty 6 rfl), by decide⟩)) rfl (Nat.le_of_ble_eq_true rfl)) (fun q17 eq17 => ?_)
  refine J_aload_n (pc := 20) 0 dX3_addPath_20 rfl rfl ?_
  refine J_getR (pc := 21) dX3_addPath_21 fl_X3_27 (ha.lt 0 (by decide)) (ha.ty 0 rfl) rfl (ha.rf 5 rfl) ?_
  refine J_iload_n (pc := 24) 2 dX3_addPath_24 rfl rfl ?_
  refine J_aload_n (pc := 25) 0 dX3_addPath_25 rfl rfl ?_
  refine J_getR (pc := 26) dX3_addPath_26 fl_X3_27 (ha.lt 0 (by decide)) (ha.ty 0 rfl) rfl (ha.rf 5 rfl) ?_
  refine J_iload_n (pc := 29) 2 dX3_addPath_29 rfl rfl ?_
  refine JC_pt_i (J_callS (mi := mi_X3_addPath) (mj := mi_X11_at) (pc := 30) dX3_addPath_30 ml_X3_89 ok_X11_at os_X11_at ⟨Nat.le_of_ble_eq_true rfl, Nat.le_of_ble_eq_true rfl⟩ rfl (s_X11_at g q17 (a + 6) 6 pq1 (⟨(ha.lt 6 (by decide)), (ha.ty 6 rfl), by decide⟩)) rfl (Nat.le_of_ble_eq_true rfl)) ?_
  refine J_iconst (pc := 33) (v := 1) dX3_addPath_33 (by decide) ?_
  refine J_iload_n (pc := 34) 1 dX3_addPath_34 rfl rfl ?_
  refine J_ishl (pc := 35) dX3_addPath_35 ?_
  refine J_ior (pc := 36) dX3_addPath_36 ?_
  refine JC_lt_v (K := k) (J_callS (mi := mi_X3_addPath) (mj := mi_X11_put) (pc := 37) dX3_addPath_37 ml_X3_71 ok_X11_put os_X11_put ⟨Nat.le_of_ble_eq_true rfl, Nat.le_of_ble_eq_true rfl⟩ rfl (s_X11_put g q17 (a + 6) 6 pq1 ((f_X11_at (q17.1 (a + 6)) 6 pq1) ||| ((1 : Int32) <<< (pq0 &&& 31))) (⟨(ha.lt 6 (by decide)), (ha.ty 6 rfl), by decide⟩)) rfl (Nat.le_of_ble_eq_true rfl)) (fun q37 eq37 => ?_)
  refine J_aload_n (pc := 40) 0 dX3_addPath_40 rfl rfl ?_
  refine J_dup (pc := 41) dX3_addPath_41 rfl ?_
  refine J_getI (pc := 42) dX3_addPath_42 fl_X3_59 (ha.lt 0 (by decide)) (ha.ty 0 rfl) rfl ?_
  refine J_iconst (pc := 45) (v := 1) dX3_addPath_45 (by decide) ?_
  refine J_iadd (pc := 46) dX3_addPath_46 ?_
  refine J_putI (pc := 47) dX3_addPath_47 fl_X3_59 ft_3_5 (ha.lt 0 (by decide)) (ha.ty 0 rfl) rfl rfl rfl ?_
  exact J_eqo (hk (j_sI q37 a 5 (((q37.1 a) 5) + 1))) (J_vret (pc := 50) dX3_addPath_50 rfl)
def f_X3_portionIn (r_a8 : Nat → Int32) (pq0 : Int32) (pq1 : Int32) : Int32 := (f_X11_at r_a8 24 (((4 : Int32) * pq1) + (f_X10_hungAt pq0 pq1)))
set_option maxRecDepth 100000 in
set_option maxHeartbeats 4000000 in
theorem s_X3_portionIn (g : JG) (d : JD) (a : Nat) (pq0 : Int32) (pq1 : Int32) (ha : j_sh g a TS_CL RS_CL) : JM mi_X3_portionIn 0 0 (g, d) [.ref a, .int pq0, .int pq1] (some (some (.int (f_X3_portionIn (d.1 (a + 8)) pq0 pq1)), (g, d))) := by
  refine JM_of (by decide) rfl (Nat.le_of_ble_eq_true rfl) ?_
  refine J_loc (loc' := [(0, .ref a), (1, .int pq0), (2, .int pq1)]) [0, 1, 2] rfl ?_
  obtain ⟨k, hk⟩ : ∃ k : Int32 → Option (Option Value × JH), ∀ r9, k r9 = some (some (.int r9), (g, d)) := ⟨_, fun _ => rfl⟩
  refine J_eqo (hk (f_X3_portionIn (d.1 (a + 8)) pq0 pq1)).symm ?_
  unfold f_X3_portionIn
  refine J_aload_n (pc := 0) 0 dX3_portionIn_0 rfl rfl ?_
  refine J_getR (pc := 1) dX3_portionIn_1 fl_X3_33 (ha.lt 0 (by decide)) (ha.ty 0 rfl) rfl (ha.rf 7 rfl) ?_
  refine J_iconst (pc := 4) (v := 4) dX3_portionIn_4 (by decide) ?_
  refine J_iload_n (pc := 5) 2 dX3_portionIn_5 rfl rfl ?_
  refine J_imul (pc := 6) dX3_portionIn_6 ?_
  refine J_iload_n (pc := 7) 1 dX3_portionIn_7 rfl rfl ?_
  refine J_iload_n (pc := 8) 2 dX3_portionIn_8 rfl rfl ?_
  refine JC_pt_i (J_callS (mi := mi_X3_portionIn) (mj := mi_X10_hungAt) (pc := 9) dX3_portionIn_9 ml_X3_98 ok_X10_hungAt os_X10_hungAt ⟨Nat.le_of_ble_eq_true rfl, Nat.le_of_ble_eq_true rfl⟩ rfl (s_X10_hungAt g d pq0 pq1) rfl (Nat.le_of_ble_eq_true rfl)) ?_
  refine J_iadd (pc := 12) dX3_portionIn_12 ?_
  refine JC_pt_i (J_callS (mi := mi_X3_portionIn) (mj := mi_X11_at) (pc := 13) dX3_portionIn_13 ml_X3_89 ok_X11_at os_X11_at ⟨Nat.le_of_ble_eq_true rfl, Nat.le_of_ble_eq_true rfl⟩ rfl (s_X11_at g d (a + 8) 24 (((4 : Int32) * pq1) + (f_X10_hungAt pq0 pq1)) (⟨(ha.lt 8 (by decide)), (ha.ty 8 rfl), by decide⟩)) rfl (Nat.le_of_ble_eq_true rfl)) ?_
  exact J_eqo (hk (f_X11_at (d.1 (a + 8)) 24 (((4 : Int32) * pq1) + (f_X10_hungAt pq0 pq1)))) (J_iret (pc := 16) dX3_portionIn_16 rfl)
def f_X3_wealthOfSet_j33_5 (r_a0 : Nat → Int32) (r_a7 : Nat → Int32) (r_a8 : Nat → Int32) (c1_5 : Int32) (c2_5 : Int32) (i5 : Int32) (x3_33_5 : Int32) : Int32 := (x3_33_5)
def f_X3_wealthOfSet_b5 (r_a0 : Nat → Int32) (r_a7 : Nat → Int32) (r_a8 : Nat → Int32) (c1_5 : Int32) (c2_5 : Int32) (i5 : Int32) (s5 : Int32) : Int32 := (if (f_X11_hasBit (c1_5) i5) = true then (f_X3_wealthOfSet_j33_5 r_a0 r_a7 r_a8 (c1_5) (c2_5) i5 (s5 + (f_X3_wealth r_a0 r_a7 r_a8 i5 (c2_5)))) else f_X3_wealthOfSet_j33_5 r_a0 r_a7 r_a8 (c1_5) (c2_5) i5 s5)
def f_X3_wealthOfSet (r_a0 : Nat → Int32) (r_a7 : Nat → Int32) (r_a8 : Nat → Int32) (pq0 : Int32) (pq1 : Int32) : Int32 := (j_let (j_for (r_a0 2) (f_X3_wealthOfSet_b5 r_a0 r_a7 r_a8 pq0 pq1 ) (j_mu (r_a0 2) 0) 0 0) (fun (s5 : Int32) => (s5)))
set_option maxRecDepth 100000 in
set_option maxHeartbeats 4000000 in
theorem s_X3_wealthOfSet (g : JG) (d : JD) (a : Nat) (pq0 : Int32) (pq1 : Int32) (ha : j_sh g a TS_CL RS_CL) : JM mi_X3_wealthOfSet 0 0 (g, d) [.ref a, .int pq0, .int pq1] (some (some (.int (f_X3_wealthOfSet (d.1 a) (d.1 (a + 7)) (d.1 (a + 8)) pq0 pq1)), (g, d))) := by
  refine JM_of (by decide) rfl (Nat.le_of_ble_eq_true rfl) ?_
  refine J_loc (loc' := [(0, .ref a), (1, .int pq0), (2, .int pq1)]) [0, 1, 2] rfl ?_
  obtain ⟨k, hk⟩ : ∃ k : Int32 → Option (Option Value × JH), ∀ r9, k r9 = some (some (.int r9), (g, d)) := ⟨_, fun _ => rfl⟩
  refine J_eqo (hk (f_X3_wealthOfSet (d.1 a) (d.1 (a + 7)) (d.1 (a + 8)) pq0 pq1)).symm ?_
  unfold f_X3_wealthOfSet
  refine J_iconst (pc := 0) (v := 0) dX3_wealthOfSet_0 (by decide) ?_
  refine J_istore_n (pc := 1) (loc' := [(3, .int 0), (0, .ref a), (1, .int pq0), (2, .int pq1)]) dX3_wealthOfSet_1 rfl (by decide) rfl ?_
  refine J_iconst (pc := 2) (v := 0) dX3_wealthOfSet_2 (by decide) ?_
  refine J_istore (pc := 3) (loc' := [(4, .int 0), (3, .int 0), (0, .ref a), (1, .int pq0), (2, .int pq1)]) dX3_wealthOfSet_3 (by decide) rfl ?_
  refine J_loc (loc' := [(0, .ref a), (1, .int pq0), (2, .int pq1), (3, .int 0), (4, .int 0)]) [2, 3, 4, 1, 0] rfl ?_
  refine J_forL (K := k) (b := (d.1 a) 2) (G := f_X3_wealthOfSet_b5 (d.1 a) (d.1 (a + 7)) (d.1 (a + 8)) pq0 pq1 ) (hp := fun (s5 : Int32) => (g, d)) (lc := fun (i5 : Int32) (s5 : Int32) => [(0, .ref a), (1, .int (pq0)), (2, .int (pq1)), (3, .int s5), (4, .int i5)]) (XJ := fun (i5 : Int32) (s5 : Int32) o9 => J mi_X3_wealthOfSet 0 0 0 0 (g, d) 39 [(3, .int s5)] [] o9) (fun i5 s5 o5 Kb5 hX5 hB5 => ?_) (fun i5 s5 => ?_) _ _ 0 (Nat.le_refl _)
  · show J mi_X3_wealthOfSet 0 0 0 0 (g, d) 5 [(0, .ref a), (1, .int (pq0)), (2, .int (pq1)), (3, .int s5), (4, .int i5)] [] (if ((d.1 a) 2) ≤ i5 then o5 else Kb5 (f_X3_wealthOfSet_b5 (d.1 a) (d.1 (a + 7)) (d.1 (a + 8)) pq0 pq1 i5 s5))
    refine J_iload (pc := 5) 4 dX3_wealthOfSet_5 rfl ?_
    refine J_aload_n (pc := 7) 0 dX3_wealthOfSet_7 rfl rfl ?_
    refine J_getI (pc := 8) dX3_wealthOfSet_8 fl_X3_50 (ha.lt 0 (by decide)) (ha.ty 0 rfl) rfl ?_
    refine J_icmp_ge (pc := 11) (tgt := 39) dX3_wealthOfSet_11 (by decide) (fun z5 => ?_) (fun z5 => ?_)
    · refine J_loc (loc' := [(3, .int s5)]) [3] rfl ?_
      exact hX5 z5
    · unfold f_X3_wealthOfSet_b5
      have hX3_wealthOfSet_j33_5 : ∀ (x3_33_5 : Int32), J mi_X3_wealthOfSet 0 0 0 0 (g, d) 33 [(0, .ref a), (1, .int (pq0)), (2, .int (pq1)), (3, .int x3_33_5), (4, .int i5)] [] (Kb5 (f_X3_wealthOfSet_j33_5 (d.1 a) (d.1 (a + 7)) (d.1 (a + 8)) pq0 pq1 i5 x3_33_5)) := by
        intro x3_33_5
        unfold f_X3_wealthOfSet_j33_5
        refine J_iinc (pc := 33) (v := i5 + 1) (loc' := [(4, .int (i5 + 1)), (0, .ref a), (1, .int (pq0)), (2, .int (pq1)), (3, .int x3_33_5)]) 4 dX3_wealthOfSet_33 rfl rfl (by decide) rfl ?_
        refine J_goto (pc := 36) (tgt := 5) dX3_wealthOfSet_36 (by decide) ?_
        refine J_loc (loc' := [(0, .ref a), (1, .int (pq0)), (2, .int (pq1)), (3, .int x3_33_5), (4, .int (i5 + 1))]) [1, 2, 3, 4, 0] rfl ?_
        exact hB5 z5 x3_33_5
      refine J_iload_n (pc := 14) 1 dX3_wealthOfSet_14 rfl rfl ?_
      refine J_iload (pc := 15) 4 dX3_wealthOfSet_15 rfl ?_
      refine JC_pt_i (J_callS (mi := mi_X3_wealthOfSet) (mj := mi_X11_hasBit) (pc := 17) dX3_wealthOfSet_17 ml_X3_102 ok_X11_hasBit os_X11_hasBit ⟨Nat.le_of_ble_eq_true rfl, Nat.le_of_ble_eq_true rfl⟩ rfl (s_X11_hasBit g d pq0 i5) rfl (Nat.le_of_ble_eq_true rfl)) ?_
      refine K_ifeq_b (K := Kb5) (pc := 20) (tgt := 33) dX3_wealthOfSet_20 (by decide) (fun z20 => ?_) (fun z20 => ?_)
      · exact hX3_wealthOfSet_j33_5 s5
      · refine J_iload_n (pc := 23) 3 dX3_wealthOfSet_23 rfl rfl ?_
        refine J_aload_n (pc := 24) 0 dX3_wealthOfSet_24 rfl rfl ?_
        refine J_iload (pc := 25) 4 dX3_wealthOfSet_25 rfl ?_
        refine J_iload_n (pc := 27) 2 dX3_wealthOfSet_27 rfl rfl ?_
        refine JC_pt_i (J_callV (mi := mi_X3_wealthOfSet) (mj := mi_X3_wealth) (pc := 28) dX3_wealthOfSet_28 ml_X3_109 ok_X3_wealth ov_X3_wealth ⟨Nat.le_of_ble_eq_true rfl, Nat.le_of_ble_eq_true rfl⟩ rfl (ha.lt 0 (by decide)) (ha.ty 0 rfl) rfl (s_X3_wealth g d a i5 pq1 ha) rfl (Nat.le_of_ble_eq_true rfl)) ?_
        refine J_iadd (pc := 31) dX3_wealthOfSet_31 ?_
        refine J_istore_n (pc := 32) (loc' := [(3, .int (s5 + (f_X3_wealth (d.1 a) (d.1 (a + 7)) (d.1 (a + 8)) i5 (pq1)))), (0, .ref a), (1, .int (pq0)), (2, .int (pq1)), (4, .int i5)]) dX3_wealthOfSet_32 rfl (by decide) rfl ?_
        refine J_loc (loc' := [(0, .ref a), (1, .int (pq0)), (2, .int (pq1)), (3, .int (s5 + (f_X3_wealth (d.1 a) (d.1 (a + 7)) (d.1 (a + 8)) i5 (pq1)))), (4, .int i5)]) [1, 2, 3, 0, 4] rfl ?_
        exact hX3_wealthOfSet_j33_5 (s5 + (f_X3_wealth (d.1 a) (d.1 (a + 7)) (d.1 (a + 8)) i5 (pq1)))
  · show J mi_X3_wealthOfSet 0 0 0 0 (g, d) 39 [(3, .int s5)] [] (_)
    refine J_iload_n (pc := 39) 0 dX3_wealthOfSet_39 rfl rfl ?_
    exact J_eqo (hk s5) (J_iret (pc := 40) dX3_wealthOfSet_40 rfl)
def f_X3_wealthAt_j37_6 (r_a0 : Nat → Int32) (r_a7 : Nat → Int32) (r_a8 : Nat → Int32) (c1_6 : Int32) (c2_6 : Int32) (c3_6 : Int32) (i6 : Int32) (x4_37_6 : Int32) : Int32 := (x4_37_6)
def f_X3_wealthAt_b6 (r_a0 : Nat → Int32) (r_a7 : Nat → Int32) (r_a8 : Nat → Int32) (c1_6 : Int32) (c2_6 : Int32) (c3_6 : Int32) (i6 : Int32) (s6 : Int32) : Int32 := (if (f_X11_hasBit (c3_6) i6) = true then (f_X3_wealthAt_j37_6 r_a0 r_a7 r_a8 (c1_6) (c2_6) (c3_6) i6 (s6 + (f_X3_shareIn r_a7 r_a8 (c2_6) i6 (c1_6)))) else f_X3_wealthAt_j37_6 r_a0 r_a7 r_a8 (c1_6) (c2_6) (c3_6) i6 s6)
def f_X3_wealthAt (r_a0 : Nat → Int32) (r_a7 : Nat → Int32) (r_a8 : Nat → Int32) (pq0 : Int32) (pq1 : Int32) (pq2 : Int32) : Int32 := (j_let (j_for (r_a0 4) (f_X3_wealthAt_b6 r_a0 r_a7 r_a8 pq0 pq1 pq2 ) (j_mu (r_a0 4) 0) 0 0) (fun (s6 : Int32) => (s6)))
set_option maxRecDepth 100000 in
set_option maxHeartbeats 4000000 in
theorem s_X3_wealthAt (g : JG) (d : JD) (a : Nat) (pq0 : Int32) (pq1 : Int32) (pq2 : Int32) (ha : j_sh g a TS_CL RS_CL) : JM mi_X3_wealthAt 0 0 (g, d) [.ref a, .int pq0, .int pq1, .int pq2] (some (some (.int (f_X3_wealthAt (d.1 a) (d.1 (a + 7)) (d.1 (a + 8)) pq0 pq1 pq2)), (g, d))) := by
  refine JM_of (by decide) rfl (Nat.le_of_ble_eq_true rfl) ?_
  refine J_loc (loc' := [(0, .ref a), (1, .int pq0), (2, .int pq1), (3, .int pq2)]) [0, 1, 2, 3] rfl ?_
  obtain ⟨k, hk⟩ : ∃ k : Int32 → Option (Option Value × JH), ∀ r9, k r9 = some (some (.int r9), (g, d)) := ⟨_, fun _ => rfl⟩
  refine J_eqo (hk (f_X3_wealthAt (d.1 a) (d.1 (a + 7)) (d.1 (a + 8)) pq0 pq1 pq2)).symm ?_
  unfold f_X3_wealthAt
  refine J_iconst (pc := 0) (v := 0) dX3_wealthAt_0 (by decide) ?_
  refine J_istore (pc := 1) (loc' := [(4, .int 0), (0, .ref a), (1, .int pq0), (2, .int pq1), (3, .int pq2)]) dX3_wealthAt_1 (by decide) rfl ?_
  refine J_iconst (pc := 3) (v := 0) dX3_wealthAt_3 (by decide) ?_
  refine J_istore (pc := 4) (loc' := [(5, .int 0), (4, .int 0), (0, .ref a), (1, .int pq0), (2, .int pq1), (3, .int pq2)]) dX3_wealthAt_4 (by decide) rfl ?_
  refine J_loc (loc' := [(0, .ref a), (1, .int pq0), (2, .int pq1), (3, .int pq2), (4, .int 0), (5, .int 0)]) [2, 3, 4, 5, 1, 0] rfl ?_
  refine J_forL (K := k) (b := (d.1 a) 4) (G := f_X3_wealthAt_b6 (d.1 a) (d.1 (a + 7)) (d.1 (a + 8)) pq0 pq1 pq2 ) (hp := fun (s6 : Int32) => (g, d)) (lc := fun (i6 : Int32) (s6 : Int32) => [(0, .ref a), (1, .int (pq0)), (2, .int (pq1)), (3, .int (pq2)), (4, .int s6), (5, .int i6)]) (XJ := fun (i6 : Int32) (s6 : Int32) o9 => J mi_X3_wealthAt 0 0 0 0 (g, d) 43 [(4, .int s6)] [] o9) (fun i6 s6 o6 Kb6 hX6 hB6 => ?_) (fun i6 s6 => ?_) _ _ 0 (Nat.le_refl _)
  · show J mi_X3_wealthAt 0 0 0 0 (g, d) 6 [(0, .ref a), (1, .int (pq0)), (2, .int (pq1)), (3, .int (pq2)), (4, .int s6), (5, .int i6)] [] (if ((d.1 a) 4) ≤ i6 then o6 else Kb6 (f_X3_wealthAt_b6 (d.1 a) (d.1 (a + 7)) (d.1 (a + 8)) pq0 pq1 pq2 i6 s6))
    refine J_iload (pc := 6) 5 dX3_wealthAt_6 rfl ?_
    refine J_aload_n (pc := 8) 0 dX3_wealthAt_8 rfl rfl ?_
    refine J_getI (pc := 9) dX3_wealthAt_9 fl_X3_56 (ha.lt 0 (by decide)) (ha.ty 0 rfl) rfl ?_
    refine J_icmp_ge (pc := 12) (tgt := 43) dX3_wealthAt_12 (by decide) (fun z6 => ?_) (fun z6 => ?_)
    · refine J_loc (loc' := [(4, .int s6)]) [4] rfl ?_
      exact hX6 z6
    · unfold f_X3_wealthAt_b6
      have hX3_wealthAt_j37_6 : ∀ (x4_37_6 : Int32), J mi_X3_wealthAt 0 0 0 0 (g, d) 37 [(0, .ref a), (1, .int (pq0)), (2, .int (pq1)), (3, .int (pq2)), (4, .int x4_37_6), (5, .int i6)] [] (Kb6 (f_X3_wealthAt_j37_6 (d.1 a) (d.1 (a + 7)) (d.1 (a + 8)) pq0 pq1 pq2 i6 x4_37_6)) := by
        intro x4_37_6
        unfold f_X3_wealthAt_j37_6
        refine J_iinc (pc := 37) (v := i6 + 1) (loc' := [(5, .int (i6 + 1)), (0, .ref a), (1, .int (pq0)), (2, .int (pq1)), (3, .int (pq2)), (4, .int x4_37_6)]) 5 dX3_wealthAt_37 rfl rfl (by decide) rfl ?_
        refine J_goto (pc := 40) (tgt := 6) dX3_wealthAt_40 (by decide) ?_
        refine J_loc (loc' := [(0, .ref a), (1, .int (pq0)), (2, .int (pq1)), (3, .int (pq2)), (4, .int x4_37_6), (5, .int (i6 + 1))]) [1, 2, 3, 4, 5, 0] rfl ?_
        exact hB6 z6 x4_37_6
      refine J_iload_n (pc := 15) 3 dX3_wealthAt_15 rfl rfl ?_
      refine J_iload (pc := 16) 5 dX3_wealthAt_16 rfl ?_
      refine JC_pt_i (J_callS (mi := mi_X3_wealthAt) (mj := mi_X11_hasBit) (pc := 18) dX3_wealthAt_18 ml_X3_102 ok_X11_hasBit os_X11_hasBit ⟨Nat.le_of_ble_eq_true rfl, Nat.le_of_ble_eq_true rfl⟩ rfl (s_X11_hasBit g d pq2 i6) rfl (Nat.le_of_ble_eq_true rfl)) ?_
      refine K_ifeq_b (K := Kb6) (pc := 21) (tgt := 37) dX3_wealthAt_21 (by decide) (fun z21 => ?_) (fun z21 => ?_)
      · exact hX3_wealthAt_j37_6 s6
      · refine J_iload (pc := 24) 4 dX3_wealthAt_24 rfl ?_
        refine J_aload_n (pc := 26) 0 dX3_wealthAt_26 rfl rfl ?_
        refine J_iload_n (pc := 27) 2 dX3_wealthAt_27 rfl rfl ?_
        refine J_iload (pc := 28) 5 dX3_wealthAt_28 rfl ?_
        refine J_iload_n (pc := 30) 1 dX3_wealthAt_30 rfl rfl ?_
        refine JC_pt_i (J_callV (mi := mi_X3_wealthAt) (mj := mi_X3_shareIn) (pc := 31) dX3_wealthAt_31 ml_X3_106 ok_X3_shareIn ov_X3_shareIn ⟨Nat.le_of_ble_eq_true rfl, Nat.le_of_ble_eq_true rfl⟩ rfl (ha.lt 0 (by decide)) (ha.ty 0 rfl) rfl (s_X3_shareIn g d a pq1 i6 pq0 ha) rfl (Nat.le_of_ble_eq_true rfl)) ?_
        refine J_iadd (pc := 34) dX3_wealthAt_34 ?_
        refine J_istore (pc := 35) (loc' := [(4, .int (s6 + (f_X3_shareIn (d.1 (a + 7)) (d.1 (a + 8)) (pq1) i6 (pq0)))), (0, .ref a), (1, .int (pq0)), (2, .int (pq1)), (3, .int (pq2)), (5, .int i6)]) dX3_wealthAt_35 (by decide) rfl ?_
        refine J_loc (loc' := [(0, .ref a), (1, .int (pq0)), (2, .int (pq1)), (3, .int (pq2)), (4, .int (s6 + (f_X3_shareIn (d.1 (a + 7)) (d.1 (a + 8)) (pq1) i6 (pq0)))), (5, .int i6)]) [1, 2, 3, 4, 0, 5] rfl ?_
        exact hX3_wealthAt_j37_6 (s6 + (f_X3_shareIn (d.1 (a + 7)) (d.1 (a + 8)) (pq1) i6 (pq0)))
  · show J mi_X3_wealthAt 0 0 0 0 (g, d) 43 [(4, .int s6)] [] (_)
    refine J_iload (pc := 43) 0 dX3_wealthAt_43 rfl ?_
    exact J_eqo (hk s6) (J_iret (pc := 45) dX3_wealthAt_45 rfl)
def f_X3_wealthOfFirm_j48_5 (r_a0 : Nat → Int32) (r_a4 : Nat → Int32) (r_a7 : Nat → Int32) (r_a8 : Nat → Int32) (c1_5 : Int32) (c2_5 : Int32) (i5 : Int32) (x3_48_5 : Int32) : Int32 := (x3_48_5)
def f_X3_wealthOfFirm_b5 (r_a0 : Nat → Int32) (r_a4 : Nat → Int32) (r_a7 : Nat → Int32) (r_a8 : Nat → Int32) (c1_5 : Int32) (c2_5 : Int32) (i5 : Int32) (s5 : Int32) : Int32 := (if (f_X11_at r_a4 6 i5) = (c1_5) then (f_X3_wealthOfFirm_j48_5 r_a0 r_a4 r_a7 r_a8 (c1_5) (c2_5) i5 (s5 + ((f_J6_bitCount_0f7a4 (f_X3_ownersIn r_a7 (c2_5) i5)) * (f_X3_portionIn r_a8 (c2_5) i5)))) else f_X3_wealthOfFirm_j48_5 r_a0 r_a4 r_a7 r_a8 (c1_5) (c2_5) i5 s5)
def f_X3_wealthOfFirm (r_a0 : Nat → Int32) (r_a4 : Nat → Int32) (r_a7 : Nat → Int32) (r_a8 : Nat → Int32) (pq0 : Int32) (pq1 : Int32) : Int32 := (j_let (j_for (r_a0 4) (f_X3_wealthOfFirm_b5 r_a0 r_a4 r_a7 r_a8 pq0 pq1 ) (j_mu (r_a0 4) 0) 0 0) (fun (s5 : Int32) => (s5)))
set_option maxRecDepth 100000 in
set_option maxHeartbeats 4000000 in
theorem s_X3_wealthOfFirm (g : JG) (d : JD) (a : Nat) (pq0 : Int32) (pq1 : Int32) (ha : j_sh g a TS_CL RS_CL) : JM mi_X3_wealthOfFirm 0 0 (g, d) [.ref a, .int pq0, .int pq1] (some (some (.int (f_X3_wealthOfFirm (d.1 a) (d.1 (a + 4)) (d.1 (a + 7)) (d.1 (a + 8)) pq0 pq1)), (g, d))) := by
  refine JM_of (by decide) rfl (Nat.le_of_ble_eq_true rfl) ?_
  refine J_loc (loc' := [(0, .ref a), (1, .int pq0), (2, .int pq1)]) [0, 1, 2] rfl ?_
  obtain ⟨k, hk⟩ : ∃ k : Int32 → Option (Option Value × JH), ∀ r9, k r9 = some (some (.int r9), (g, d)) := ⟨_, fun _ => rfl⟩
  refine J_eqo (hk (f_X3_wealthOfFirm (d.1 a) (d.1 (a + 4)) (d.1 (a + 7)) (d.1 (a + 8)) pq0 pq1)).symm ?_
  unfold f_X3_wealthOfFirm
  refine J_iconst (pc := 0) (v := 0) dX3_wealthOfFirm_0 (by decide) ?_
  refine J_istore_n (pc := 1) (loc' := [(3, .int 0), (0, .ref a), (1, .int pq0), (2, .int pq1)]) dX3_wealthOfFirm_1 rfl (by decide) rfl ?_
  refine J_iconst (pc := 2) (v := 0) dX3_wealthOfFirm_2 (by decide) ?_
  refine J_istore (pc := 3) (loc' := [(4, .int 0), (3, .int 0), (0, .ref a), (1, .int pq0), (2, .int pq1)]) dX3_wealthOfFirm_3 (by decide) rfl ?_
  refine J_loc (loc' := [(0, .ref a), (1, .int pq0), (2, .int pq1), (3, .int 0), (4, .int 0)]) [2, 3, 4, 1, 0] rfl ?_
  refine J_forL (K := k) (b := (d.1 a) 4) (G := f_X3_wealthOfFirm_b5 (d.1 a) (d.1 (a + 4)) (d.1 (a + 7)) (d.1 (a + 8)) pq0 pq1 ) (hp := fun (s5 : Int32) => (g, d)) (lc := fun (i5 : Int32) (s5 : Int32) => [(0, .ref a), (1, .int (pq0)), (2, .int (pq1)), (3, .int s5), (4, .int i5)]) (XJ := fun (i5 : Int32) (s5 : Int32) o9 => J mi_X3_wealthOfFirm 0 0 0 0 (g, d) 54 [(3, .int s5)] [] o9) (fun i5 s5 o5 Kb5 hX5 hB5 => ?_) (fun i5 s5 => ?_) _ _ 0 (Nat.le_refl _)
  · show J mi_X3_wealthOfFirm 0 0 0 0 (g, d) 5 [(0, .ref a), (1, .int (pq0)), (2, .int (pq1)), (3, .int s5), (4, .int i5)] [] (if ((d.1 a) 4) ≤ i5 then o5 else Kb5 (f_X3_wealthOfFirm_b5 (d.1 a) (d.1 (a + 4)) (d.1 (a + 7)) (d.1 (a + 8)) pq0 pq1 i5 s5))
    refine J_iload (pc := 5) 4 dX3_wealthOfFirm_5 rfl ?_
    refine J_aload_n (pc := 7) 0 dX3_wealthOfFirm_7 rfl rfl ?_
    refine J_getI (pc := 8) dX3_wealthOfFirm_8 fl_X3_56 (ha.lt 0 (by decide)) (ha.ty 0 rfl) rfl ?_
    refine J_icmp_ge (pc := 11) (tgt := 54) dX3_wealthOfFirm_11 (by decide) (fun z5 => ?_) (fun z5 => ?_)
    · refine J_loc (loc' := [(3, .int s5)]) [3] rfl ?_
      exact hX5 z5
    · unfold f_X3_wealthOfFirm_b5
      have hX3_wealthOfFirm_j48_5 : ∀ (x3_48_5 : Int32), J mi_X3_wealthOfFirm 0 0 0 0 (g, d) 48 [(0, .ref a), (1, .int (pq0)), (2, .int (pq1)), (3, .int x3_48_5), (4, .int i5)] [] (Kb5 (f_X3_wealthOfFirm_j48_5 (d.1 a) (d.1 (a + 4)) (d.1 (a + 7)) (d.1 (a + 8)) pq0 pq1 i5 x3_48_5)) := by
        intro x3_48_5
        unfold f_X3_wealthOfFirm_j48_5
        refine J_iinc (pc := 48) (v := i5 + 1) (loc' := [(4, .int (i5 + 1)), (0, .ref a), (1, .int (pq0)), (2, .int (pq1)), (3, .int x3_48_5)]) 4 dX3_wealthOfFirm_48 rfl rfl (by decide) rfl ?_
        refine J_goto (pc := 51) (tgt := 5) dX3_wealthOfFirm_51 (by decide) ?_
        refine J_loc (loc' := [(0, .ref a), (1, .int (pq0)), (2, .int (pq1)), (3, .int x3_48_5), (4, .int (i5 + 1))]) [1, 2, 3, 4, 0] rfl ?_
        exact hB5 z5 x3_48_5
      refine J_aload_n (pc := 14) 0 dX3_wealthOfFirm_14 rfl rfl ?_
      refine J_getR (pc := 15) dX3_wealthOfFirm_15 fl_X3_21 (ha.lt 0 (by decide)) (ha.ty 0 rfl) rfl (ha.rf 3 rfl) ?_
      refine J_iload (pc := 18) 4 dX3_wealthOfFirm_18 rfl ?_
      refine JC_pt_i (J_callS (mi := mi_X3_wealthOfFirm) (mj := mi_X11_at) (pc := 20) dX3_wealthOfFirm_20 ml_X3_89 ok_X11_at os_X11_at ⟨Nat.le_of_ble_eq_true rfl, Nat.le_of_ble_eq_true rfl⟩ rfl (s_X11_at g d (a + 4) 6 i5 (⟨(ha.lt 4 (by decide)), (ha.ty 4 rfl), by decide⟩)) rfl (Nat.le_of_ble_eq_true rfl)) ?_
      refine J_iload_n (pc := 23) 1 dX3_wealthOfFirm_23 rfl rfl ?_
      refine K_icmp_ne (K := Kb5) (pc := 24) (tgt := 48) dX3_wealthOfFirm_24 (by decide) (fun z24 => ?_) (fun z24 => ?_)
      · exact hX3_wealthOfFirm_j48_5 s5
      · refine J_iload_n (pc := 27) 3 dX3_wealthOfFirm_27 rfl rfl ?_
        refine J_aload_n (pc := 28) 0 dX3_wealthOfFirm_28 rfl rfl ?_
        refine J_iload_n (pc := 29) 2 dX3_wealthOfFirm_29 rfl rfl ?_
        refine J_iload (pc := 30) 4 dX3_wealthOfFirm_30 rfl ?_
        refine JC_pt_i (J_callV (mi := mi_X3_wealthOfFirm) (mj := mi_X3_ownersIn) (pc := 32) dX3_wealthOfFirm_32 ml_X3_112 ok_X3_ownersIn ov_X3_ownersIn ⟨Nat.le_of_ble_eq_true rfl, Nat.le_of_ble_eq_true rfl⟩ rfl (ha.lt 0 (by decide)) (ha.ty 0 rfl) rfl (s_X3_ownersIn g d a pq1 i5 ha) rfl (Nat.le_of_ble_eq_true rfl)) ?_
        refine JC_pt_i (J_callS (mi := mi_X3_wealthOfFirm) (mj := mi_J6_bitCount_0f7a4) (pc := 35) dX3_wealthOfFirm_35 ml_X3_93 ok_J6_bitCount_0f7a4 os_J6_bitCount_0f7a4 ⟨Nat.le_of_ble_eq_true rfl, Nat.le_of_ble_eq_true rfl⟩ rfl (s_J6_bitCount_0f7a4 g d (f_X3_ownersIn (d.1 (a + 7)) (pq1) i5)) rfl (Nat.le_of_ble_eq_true rfl)) ?_
        refine J_aload_n (pc := 38) 0 dX3_wealthOfFirm_38 rfl rfl ?_
        refine J_iload_n (pc := 39) 2 dX3_wealthOfFirm_39 rfl rfl ?_
        refine J_iload (pc := 40) 4 dX3_wealthOfFirm_40 rfl ?_
        refine JC_pt_i (J_callV (mi := mi_X3_wealthOfFirm) (mj := mi_X3_portionIn) (pc := 42) dX3_wealthOfFirm_42 ml_X3_115 ok_X3_portionIn ov_X3_portionIn ⟨Nat.le_of_ble_eq_true rfl, Nat.le_of_ble_eq_true rfl⟩ rfl (ha.lt 0 (by decide)) (ha.ty 0 rfl) rfl (s_X3_portionIn g d a pq1 i5 ha) rfl (Nat.le_of_ble_eq_true rfl)) ?_
        refine J_imul (pc := 45) dX3_wealthOfFirm_45 ?_
        refine J_iadd (pc := 46) dX3_wealthOfFirm_46 ?_
        refine J_istore_n (pc := 47) (loc' := [(3, .int (s5 + ((f_J6_bitCount_0f7a4 (f_X3_ownersIn (d.1 (a + 7)) (pq1) i5)) * (f_X3_portionIn (d.1 (a + 8)) (pq1) i5)))), (0, .ref a), (1, .int (pq0)), (2, .int (pq1)), (4, .int i5)]) dX3_wealthOfFirm_47 rfl (by decide) rfl ?_
        refine J_loc (loc' := [(0, .ref a), (1, .int (pq0)), (2, .int (pq1)), (3, .int (s5 + ((f_J6_bitCount_0f7a4 (f_X3_ownersIn (d.1 (a + 7)) (pq1) i5)) * (f_X3_portionIn (d.1 (a + 8)) (pq1) i5)))), (4, .int i5)]) [1, 2, 3, 0, 4] rfl ?_
        exact hX3_wealthOfFirm_j48_5 (s5 + ((f_J6_bitCount_0f7a4 (f_X3_ownersIn (d.1 (a + 7)) (pq1) i5)) * (f_X3_portionIn (d.1 (a + 8)) (pq1) i5)))
  · show J mi_X3_wealthOfFirm 0 0 0 0 (g, d) 54 [(3, .int s5)] [] (_)
    refine J_iload_n (pc := 54) 0 dX3_wealthOfFirm_54 rfl rfl ?_
    exact J_eqo (hk s5) (J_iret (pc := 55) dX3_wealthOfFirm_55 rfl)
def f_X3_gatesOwned_j35_5 (r_a0 : Nat → Int32) (r_a7 : Nat → Int32) (c1_5 : Int32) (c2_5 : Int32) (i5 : Int32) (x3_35_5 : Int32) : Int32 := (x3_35_5)
def f_X3_gatesOwned_b5 (r_a0 : Nat → Int32) (r_a7 : Nat → Int32) (c1_5 : Int32) (c2_5 : Int32) (i5 : Int32) (s5 : Int32) : Int32 := (if (f_X11_hasBit (f_X3_ownersIn r_a7 (c2_5) i5) (c1_5)) = true then (f_X3_gatesOwned_j35_5 r_a0 r_a7 (c1_5) (c2_5) i5 (s5 ||| ((1 : Int32) <<< (i5 &&& 31)))) else f_X3_gatesOwned_j35_5 r_a0 r_a7 (c1_5) (c2_5) i5 s5)
def f_X3_gatesOwned (r_a0 : Nat → Int32) (r_a7 : Nat → Int32) (pq0 : Int32) (pq1 : Int32) : Int32 := (j_let (j_for (r_a0 4) (f_X3_gatesOwned_b5 r_a0 r_a7 pq0 pq1 ) (j_mu (r_a0 4) 0) 0 0) (fun (s5 : Int32) => (s5)))
set_option maxRecDepth 100000 in
set_option maxHeartbeats 4000000 in
theorem s_X3_gatesOwned (g : JG) (d : JD) (a : Nat) (pq0 : Int32) (pq1 : Int32) (ha : j_sh g a TS_CL RS_CL) : JM mi_X3_gatesOwned 0 0 (g, d) [.ref a, .int pq0, .int pq1] (some (some (.int (f_X3_gatesOwned (d.1 a) (d.1 (a + 7)) pq0 pq1)), (g, d))) := by
  refine JM_of (by decide) rfl (Nat.le_of_ble_eq_true rfl) ?_
  refine J_loc (loc' := [(0, .ref a), (1, .int pq0), (2, .int pq1)]) [0, 1, 2] rfl ?_
  obtain ⟨k, hk⟩ : ∃ k : Int32 → Option (Option Value × JH), ∀ r9, k r9 = some (some (.int r9), (g, d)) := ⟨_, fun _ => rfl⟩
  refine J_eqo (hk (f_X3_gatesOwned (d.1 a) (d.1 (a + 7)) pq0 pq1)).symm ?_
  unfold f_X3_gatesOwned
  refine J_iconst (pc := 0) (v := 0) dX3_gatesOwned_0 (by decide) ?_
  refine J_istore_n (pc := 1) (loc' := [(3, .int 0), (0, .ref a), (1, .int pq0), (2, .int pq1)]) dX3_gatesOwned_1 rfl (by decide) rfl ?_
  refine J_iconst (pc := 2) (v := 0) dX3_gatesOwned_2 (by decide) ?_
  refine J_istore (pc := 3) (loc' := [(4, .int 0), (3, .int 0), (0, .ref a), (1, .int pq0), (2, .int pq1)]) dX3_gatesOwned_3 (by decide) rfl ?_
  refine J_loc (loc' := [(0, .ref a), (1, .int pq0), (2, .int pq1), (3, .int 0), (4, .int 0)]) [2, 3, 4, 1, 0] rfl ?_
  refine J_forL (K := k) (b := (d.1 a) 4) (G := f_X3_gatesOwned_b5 (d.1 a) (d.1 (a + 7)) pq0 pq1 ) (hp := fun (s5 : Int32) => (g, d)) (lc := fun (i5 : Int32) (s5 : Int32) => [(0, .ref a), (1, .int (pq0)), (2, .int (pq1)), (3, .int s5), (4, .int i5)]) (XJ := fun (i5 : Int32) (s5 : Int32) o9 => J mi_X3_gatesOwned 0 0 0 0 (g, d) 41 [(3, .int s5)] [] o9) (fun i5 s5 o5 Kb5 hX5 hB5 => ?_) (fun i5 s5 => ?_) _ _ 0 (Nat.le_refl _)
  · show J mi_X3_gatesOwned 0 0 0 0 (g, d) 5 [(0, .ref a), (1, .int (pq0)), (2, .int (pq1)), (3, .int s5), (4, .int i5)] [] (if ((d.1 a) 4) ≤ i5 then o5 else Kb5 (f_X3_gatesOwned_b5 (d.1 a) (d.1 (a + 7)) pq0 pq1 i5 s5))
    refine J_iload (pc := 5) 4 dX3_gatesOwned_5 rfl ?_
    refine J_aload_n (pc := 7) 0 dX3_gatesOwned_7 rfl rfl ?_
    refine J_getI (pc := 8) dX3_gatesOwned_8 fl_X3_56 (ha.lt 0 (by decide)) (ha.ty 0 rfl) rfl ?_
    refine J_icmp_ge (pc := 11) (tgt := 41) dX3_gatesOwned_11 (by decide) (fun z5 => ?_) (fun z5 => ?_)
    · refine J_loc (loc' := [(3, .int s5)]) [3] rfl ?_
      exact hX5 z5
    · unfold f_X3_gatesOwned_b5
      have hX3_gatesOwned_j35_5 : ∀ (x3_35_5 : Int32), J mi_X3_gatesOwned 0 0 0 0 (g, d) 35 [(0, .ref a), (1, .int (pq0)), (2, .int (pq1)), (3, .int x3_35_5), (4, .int i5)] [] (Kb5 (f_X3_gatesOwned_j35_5 (d.1 a) (d.1 (a + 7)) pq0 pq1 i5 x3_35_5)) := by
        intro x3_35_5
        unfold f_X3_gatesOwned_j35_5
        refine J_iinc (pc := 35) (v := i5 + 1) (loc' := [(4, .int (i5 + 1)), (0, .ref a), (1, .int (pq0)), (2, .int (pq1)), (3, .int x3_35_5)]) 4 dX3_gatesOwned_35 rfl rfl (by decide) rfl ?_
        refine J_goto (pc := 38) (tgt := 5) dX3_gatesOwned_38 (by decide) ?_
        refine J_loc (loc' := [(0, .ref a), (1, .int (pq0)), (2, .int (pq1)), (3, .int x3_35_5), (4, .int (i5 + 1))]) [1, 2, 3, 4, 0] rfl ?_
        exact hB5 z5 x3_35_5
      refine J_aload_n (pc := 14) 0 dX3_gatesOwned_14 rfl rfl ?_
      refine J_iload_n (pc := 15) 2 dX3_gatesOwned_15 rfl rfl ?_
      refine J_iload (pc := 16) 4 dX3_gatesOwned_16 rfl ?_
      refine JC_pt_i (J_callV (mi := mi_X3_gatesOwned) (mj := mi_X3_ownersIn) (pc := 18) dX3_gatesOwned_18 ml_X3_112 ok_X3_ownersIn ov_X3_ownersIn ⟨Nat.le_of_ble_eq_true rfl, Nat.le_of_ble_eq_true rfl⟩ rfl (ha.lt 0 (by decide)) (ha.ty 0 rfl) rfl (s_X3_ownersIn g d a pq1 i5 ha) rfl (Nat.le_of_ble_eq_true rfl)) ?_
      refine J_iload_n (pc := 21) 1 dX3_gatesOwned_21 rfl rfl ?_
      refine JC_pt_i (J_callS (mi := mi_X3_gatesOwned) (mj := mi_X11_hasBit) (pc := 22) dX3_gatesOwned_22 ml_X3_102 ok_X11_hasBit os_X11_hasBit ⟨Nat.le_of_ble_eq_true rfl, Nat.le_of_ble_eq_true rfl⟩ rfl (s_X11_hasBit g d (f_X3_ownersIn (d.1 (a + 7)) (pq1) i5) pq0) rfl (Nat.le_of_ble_eq_true rfl)) ?_
      refine K_ifeq_b (K := Kb5) (pc := 25) (tgt := 35) dX3_gatesOwned_25 (by decide) (fun z25 => ?_) (fun z25 => ?_)
      · exact hX3_gatesOwned_j35_5 s5
      · refine J_iload_n (pc := 28) 3 dX3_gatesOwned_28 rfl rfl ?_
        refine J_iconst (pc := 29) (v := 1) dX3_gatesOwned_29 (by decide) ?_
        refine J_iload (pc := 30) 4 dX3_gatesOwned_30 rfl ?_
        refine J_ishl (pc := 32) dX3_gatesOwned_32 ?_
        refine J_ior (pc := 33) dX3_gatesOwned_33 ?_
        refine J_istore_n (pc := 34) (loc' := [(3, .int (s5 ||| ((1 : Int32) <<< (i5 &&& 31)))), (0, .ref a), (1, .int (pq0)), (2, .int (pq1)), (4, .int i5)]) dX3_gatesOwned_34 rfl (by decide) rfl ?_
        refine J_loc (loc' := [(0, .ref a), (1, .int (pq0)), (2, .int (pq1)), (3, .int (s5 ||| ((1 : Int32) <<< (i5 &&& 31)))), (4, .int i5)]) [1, 2, 3, 0, 4] rfl ?_
        exact hX3_gatesOwned_j35_5 (s5 ||| ((1 : Int32) <<< (i5 &&& 31)))
  · show J mi_X3_gatesOwned 0 0 0 0 (g, d) 41 [(3, .int s5)] [] (_)
    refine J_iload_n (pc := 41) 0 dX3_gatesOwned_41 rfl rfl ?_
    exact J_eqo (hk s5) (J_iret (pc := 42) dX3_gatesOwned_42 rfl)
def f_X3_gatesOwnedJustBy_j32_5 (r_a0 : Nat → Int32) (r_a7 : Nat → Int32) (c1_5 : Int32) (c2_5 : Int32) (i5 : Int32) (x3_32_5 : Int32) : Int32 := (x3_32_5)
def f_X3_gatesOwnedJustBy_b5 (r_a0 : Nat → Int32) (r_a7 : Nat → Int32) (c1_5 : Int32) (c2_5 : Int32) (i5 : Int32) (s5 : Int32) : Int32 := (if (f_X3_ownersIn r_a7 (c2_5) i5) = (c1_5) then (f_X3_gatesOwnedJustBy_j32_5 r_a0 r_a7 (c1_5) (c2_5) i5 (s5 ||| ((1 : Int32) <<< (i5 &&& 31)))) else f_X3_gatesOwnedJustBy_j32_5 r_a0 r_a7 (c1_5) (c2_5) i5 s5)
def f_X3_gatesOwnedJustBy (r_a0 : Nat → Int32) (r_a7 : Nat → Int32) (pq0 : Int32) (pq1 : Int32) : Int32 := (j_let (j_for (r_a0 4) (f_X3_gatesOwnedJustBy_b5 r_a0 r_a7 pq0 pq1 ) (j_mu (r_a0 4) 0) 0 0) (fun (s5 : Int32) => (s5)))
set_option maxRecDepth 100000 in
set_option maxHeartbeats 4000000 in
theorem s_X3_gatesOwnedJustBy (g : JG) (d : JD) (a : Nat) (pq0 : Int32) (pq1 : Int32) (ha : j_sh g a TS_CL RS_CL) : JM mi_X3_gatesOwnedJustBy 0 0 (g, d) [.ref a, .int pq0, .int pq1] (some (some (.int (f_X3_gatesOwnedJustBy (d.1 a) (d.1 (a + 7)) pq0 pq1)), (g, d))) := by
  refine JM_of (by decide) rfl (Nat.le_of_ble_eq_true rfl) ?_
  refine J_loc (loc' := [(0, .ref a), (1, .int pq0), (2, .int pq1)]) [0, 1, 2] rfl ?_
  obtain ⟨k, hk⟩ : ∃ k : Int32 → Option (Option Value × JH), ∀ r9, k r9 = some (some (.int r9), (g, d)) := ⟨_, fun _ => rfl⟩
  refine J_eqo (hk (f_X3_gatesOwnedJustBy (d.1 a) (d.1 (a + 7)) pq0 pq1)).symm ?_
  unfold f_X3_gatesOwnedJustBy
  refine J_iconst (pc := 0) (v := 0) dX3_gatesOwnedJustBy_0 (by decide) ?_
  refine J_istore_n (pc := 1) (loc' := [(3, .int 0), (0, .ref a), (1, .int pq0), (2, .int pq1)]) dX3_gatesOwnedJustBy_1 rfl (by decide) rfl ?_
  refine J_iconst (pc := 2) (v := 0) dX3_gatesOwnedJustBy_2 (by decide) ?_
  refine J_istore (pc := 3) (loc' := [(4, .int 0), (3, .int 0), (0, .ref a), (1, .int pq0), (2, .int pq1)]) dX3_gatesOwnedJustBy_3 (by decide) rfl ?_
  refine J_loc (loc' := [(0, .ref a), (1, .int pq0), (2, .int pq1), (3, .int 0), (4, .int 0)]) [2, 3, 4, 1, 0] rfl ?_
  refine J_forL (K := k) (b := (d.1 a) 4) (G := f_X3_gatesOwnedJustBy_b5 (d.1 a) (d.1 (a + 7)) pq0 pq1 ) (hp := fun (s5 : Int32) => (g, d)) (lc := fun (i5 : Int32) (s5 : Int32) => [(0, .ref a), (1, .int (pq0)), (2, .int (pq1)), (3, .int s5), (4, .int i5)]) (XJ := fun (i5 : Int32) (s5 : Int32) o9 => J mi_X3_gatesOwnedJustBy 0 0 0 0 (g, d) 38 [(3, .int s5)] [] o9) (fun i5 s5 o5 Kb5 hX5 hB5 => ?_) (fun i5 s5 => ?_) _ _ 0 (Nat.le_refl _)
  · show J mi_X3_gatesOwnedJustBy 0 0 0 0 (g, d) 5 [(0, .ref a), (1, .int (pq0)), (2, .int (pq1)), (3, .int s5), (4, .int i5)] [] (if ((d.1 a) 4) ≤ i5 then o5 else Kb5 (f_X3_gatesOwnedJustBy_b5 (d.1 a) (d.1 (a + 7)) pq0 pq1 i5 s5))
    refine J_iload (pc := 5) 4 dX3_gatesOwnedJustBy_5 rfl ?_
    refine J_aload_n (pc := 7) 0 dX3_gatesOwnedJustBy_7 rfl rfl ?_
    refine J_getI (pc := 8) dX3_gatesOwnedJustBy_8 fl_X3_56 (ha.lt 0 (by decide)) (ha.ty 0 rfl) rfl ?_
    refine J_icmp_ge (pc := 11) (tgt := 38) dX3_gatesOwnedJustBy_11 (by decide) (fun z5 => ?_) (fun z5 => ?_)
    · refine J_loc (loc' := [(3, .int s5)]) [3] rfl ?_
      exact hX5 z5
    · unfold f_X3_gatesOwnedJustBy_b5
      have hX3_gatesOwnedJustBy_j32_5 : ∀ (x3_32_5 : Int32), J mi_X3_gatesOwnedJustBy 0 0 0 0 (g, d) 32 [(0, .ref a), (1, .int (pq0)), (2, .int (pq1)), (3, .int x3_32_5), (4, .int i5)] [] (Kb5 (f_X3_gatesOwnedJustBy_j32_5 (d.1 a) (d.1 (a + 7)) pq0 pq1 i5 x3_32_5)) := by
        intro x3_32_5
        unfold f_X3_gatesOwnedJustBy_j32_5
        refine J_iinc (pc := 32) (v := i5 + 1) (loc' := [(4, .int (i5 + 1)), (0, .ref a), (1, .int (pq0)), (2, .int (pq1)), (3, .int x3_32_5)]) 4 dX3_gatesOwnedJustBy_32 rfl rfl (by decide) rfl ?_
        refine J_goto (pc := 35) (tgt := 5) dX3_gatesOwnedJustBy_35 (by decide) ?_
        refine J_loc (loc' := [(0, .ref a), (1, .int (pq0)), (2, .int (pq1)), (3, .int x3_32_5), (4, .int (i5 + 1))]) [1, 2, 3, 4, 0] rfl ?_
        exact hB5 z5 x3_32_5
      refine J_aload_n (pc := 14) 0 dX3_gatesOwnedJustBy_14 rfl rfl ?_
      refine J_iload_n (pc := 15) 2 dX3_gatesOwnedJustBy_15 rfl rfl ?_
      refine J_iload (pc := 16) 4 dX3_gatesOwnedJustBy_16 rfl ?_
      refine JC_pt_i (J_callV (mi := mi_X3_gatesOwnedJustBy) (mj := mi_X3_ownersIn) (pc := 18) dX3_gatesOwnedJustBy_18 ml_X3_112 ok_X3_ownersIn ov_X3_ownersIn ⟨Nat.le_of_ble_eq_true rfl, Nat.le_of_ble_eq_true rfl⟩ rfl (ha.lt 0 (by decide)) (ha.ty 0 rfl) rfl (s_X3_ownersIn g d a pq1 i5 ha) rfl (Nat.le_of_ble_eq_true rfl)) ?_
      refine J_iload_n (pc := 21) 1 dX3_gatesOwnedJustBy_21 rfl rfl ?_
      refine K_icmp_ne (K := Kb5) (pc := 22) (tgt := 32) dX3_gatesOwnedJustBy_22 (by decide) (fun z22 => ?_) (fun z22 => ?_)
      · exact hX3_gatesOwnedJustBy_j32_5 s5
      · refine J_iload_n (pc := 25) 3 dX3_gatesOwnedJustBy_25 rfl rfl ?_
        refine J_iconst (pc := 26) (v := 1) dX3_gatesOwnedJustBy_26 (by decide) ?_
        refine J_iload (pc := 27) 4 dX3_gatesOwnedJustBy_27 rfl ?_
        refine J_ishl (pc := 29) dX3_gatesOwnedJustBy_29 ?_
        refine J_ior (pc := 30) dX3_gatesOwnedJustBy_30 ?_
        refine J_istore_n (pc := 31) (loc' := [(3, .int (s5 ||| ((1 : Int32) <<< (i5 &&& 31)))), (0, .ref a), (1, .int (pq0)), (2, .int (pq1)), (4, .int i5)]) dX3_gatesOwnedJustBy_31 rfl (by decide) rfl ?_
        refine J_loc (loc' := [(0, .ref a), (1, .int (pq0)), (2, .int (pq1)), (3, .int (s5 ||| ((1 : Int32) <<< (i5 &&& 31)))), (4, .int i5)]) [1, 2, 3, 0, 4] rfl ?_
        exact hX3_gatesOwnedJustBy_j32_5 (s5 ||| ((1 : Int32) <<< (i5 &&& 31)))
  · show J mi_X3_gatesOwnedJustBy 0 0 0 0 (g, d) 38 [(3, .int s5)] [] (_)
    refine J_iload_n (pc := 38) 0 dX3_gatesOwnedJustBy_38 rfl rfl ?_
    exact J_eqo (hk s5) (J_iret (pc := 39) dX3_gatesOwnedJustBy_39 rfl)
def f_X3_gatesOwnedAlone (r_a0 : Nat → Int32) (r_a7 : Nat → Int32) (pq0 : Int32) (pq1 : Int32) : Int32 := (f_X3_gatesOwnedJustBy r_a0 r_a7 ((1 : Int32) <<< (pq0 &&& 31)) pq1)
set_option maxRecDepth 100000 in
set_option maxHeartbeats 4000000 in
theorem s_X3_gatesOwnedAlone (g : JG) (d : JD) (a : Nat) (pq0 : Int32) (pq1 : Int32) (ha : j_sh g a TS_CL RS_CL) : JM mi_X3_gatesOwnedAlone 0 0 (g, d) [.ref a, .int pq0, .int pq1] (some (some (.int (f_X3_gatesOwnedAlone (d.1 a) (d.1 (a + 7)) pq0 pq1)), (g, d))) := by
  refine JM_of (by decide) rfl (Nat.le_of_ble_eq_true rfl) ?_
  refine J_loc (loc' := [(0, .ref a), (1, .int pq0), (2, .int pq1)]) [0, 1, 2] rfl ?_
  obtain ⟨k, hk⟩ : ∃ k : Int32 → Option (Option Value × JH), ∀ r9, k r9 = some (some (.int r9), (g, d)) := ⟨_, fun _ => rfl⟩
  refine J_eqo (hk (f_X3_gatesOwnedAlone (d.1 a) (d.1 (a + 7)) pq0 pq1)).symm ?_
  unfold f_X3_gatesOwnedAlone
  refine J_aload_n (pc := 0) 0 dX3_gatesOwnedAlone_0 rfl rfl ?_
  refine J_iconst (pc := 1) (v := 1) dX3_gatesOwnedAlone_1 (by decide) ?_
  refine J_iload_n (pc := 2) 1 dX3_gatesOwnedAlone_2 rfl rfl ?_
  refine J_ishl (pc := 3) dX3_gatesOwnedAlone_3 ?_
  refine J_iload_n (pc := 4) 2 dX3_gatesOwnedAlone_4 rfl rfl ?_
  refine JC_pt_i (J_callV (mi := mi_X3_gatesOwnedAlone) (mj := mi_X3_gatesOwnedJustBy) (pc := 5) dX3_gatesOwnedAlone_5 ml_X3_118 ok_X3_gatesOwnedJustBy ov_X3_gatesOwnedJustBy ⟨Nat.le_of_ble_eq_true rfl, Nat.le_of_ble_eq_true rfl⟩ rfl (ha.lt 0 (by decide)) (ha.ty 0 rfl) rfl (s_X3_gatesOwnedJustBy g d a ((1 : Int32) <<< (pq0 &&& 31)) pq1 ha) rfl (Nat.le_of_ble_eq_true rfl)) ?_
  exact J_eqo (hk (f_X3_gatesOwnedJustBy (d.1 a) (d.1 (a + 7)) ((1 : Int32) <<< (pq0 &&& 31)) pq1)) (J_iret (pc := 8) dX3_gatesOwnedAlone_8 rfl)
def f_X3_gatesUnowned (r_a0 : Nat → Int32) (r_a7 : Nat → Int32) (pq0 : Int32) : Int32 := (f_X3_gatesOwnedJustBy r_a0 r_a7 0 pq0)
set_option maxRecDepth 100000 in
set_option maxHeartbeats 4000000 in
theorem s_X3_gatesUnowned (g : JG) (d : JD) (a : Nat) (pq0 : Int32) (ha : j_sh g a TS_CL RS_CL) : JM mi_X3_gatesUnowned 0 0 (g, d) [.ref a, .int pq0] (some (some (.int (f_X3_gatesUnowned (d.1 a) (d.1 (a + 7)) pq0)), (g, d))) := by
  refine JM_of (by decide) rfl (Nat.le_of_ble_eq_true rfl) ?_
  refine J_loc (loc' := [(0, .ref a), (1, .int pq0)]) [0, 1] rfl ?_
  obtain ⟨k, hk⟩ : ∃ k : Int32 → Option (Option Value × JH), ∀ r9, k r9 = some (some (.int r9), (g, d)) := ⟨_, fun _ => rfl⟩
  refine J_eqo (hk (f_X3_gatesUnowned (d.1 a) (d.1 (a + 7)) pq0)).symm ?_
  unfold f_X3_gatesUnowned
  refine J_aload_n (pc := 0) 0 dX3_gatesUnowned_0 rfl rfl ?_
  refine J_iconst (pc := 1) (v := 0) dX3_gatesUnowned_1 (by decide) ?_
  refine J_iload_n (pc := 2) 1 dX3_gatesUnowned_2 rfl rfl ?_
  refine JC_pt_i (J_callV (mi := mi_X3_gatesUnowned) (mj := mi_X3_gatesOwnedJustBy) (pc := 3) dX3_gatesUnowned_3 ml_X3_118 ok_X3_gatesOwnedJustBy ov_X3_gatesOwnedJustBy ⟨Nat.le_of_ble_eq_true rfl, Nat.le_of_ble_eq_true rfl⟩ rfl (ha.lt 0 (by decide)) (ha.ty 0 rfl) rfl (s_X3_gatesOwnedJustBy g d a 0 pq0 ha) rfl (Nat.le_of_ble_eq_true rfl)) ?_
  exact J_eqo (hk (f_X3_gatesOwnedJustBy (d.1 a) (d.1 (a + 7)) 0 pq0)) (J_iret (pc := 6) dX3_gatesUnowned_6 rfl)
def f_X3_firmsWith_j33_4 (r_a0 : Nat → Int32) (r_a2 : Nat → Int32) (c1_4 : Int32) (i4 : Int32) (x2_33_4 : Int32) : Int32 := (x2_33_4)
def f_X3_firmsWith_b4 (r_a0 : Nat → Int32) (r_a2 : Nat → Int32) (c1_4 : Int32) (i4 : Int32) (s4 : Int32) : Int32 := (if (f_X11_hasBit (f_X11_at r_a2 4 i4) (c1_4)) = true then (f_X3_firmsWith_j33_4 r_a0 r_a2 (c1_4) i4 (s4 ||| ((1 : Int32) <<< (i4 &&& 31)))) else f_X3_firmsWith_j33_4 r_a0 r_a2 (c1_4) i4 s4)
def f_X3_firmsWith (r_a0 : Nat → Int32) (r_a2 : Nat → Int32) (pq0 : Int32) : Int32 := (j_let (j_for (r_a0 3) (f_X3_firmsWith_b4 r_a0 r_a2 pq0 ) (j_mu (r_a0 3) 0) 0 0) (fun (s4 : Int32) => (s4)))
set_option maxRecDepth 100000 in
set_option maxHeartbeats 4000000 in
theorem s_X3_firmsWith (g : JG) (d : JD) (a : Nat) (pq0 : Int32) (ha : j_sh g a TS_CL RS_CL) : JM mi_X3_firmsWith 0 0 (g, d) [.ref a, .int pq0] (some (some (.int (f_X3_firmsWith (d.1 a) (d.1 (a + 2)) pq0)), (g, d))) := by
  refine JM_of (by decide) rfl (Nat.le_of_ble_eq_true rfl) ?_
  refine J_loc (loc' := [(0, .ref a), (1, .int pq0)]) [0, 1] rfl ?_
  obtain ⟨k, hk⟩ : ∃ k : Int32 → Option (Option Value × JH), ∀ r9, k r9 = some (some (.int r9), (g, d)) := ⟨_, fun _ => rfl⟩
  refine J_eqo (hk (f_X3_firmsWith (d.1 a) (d.1 (a + 2)) pq0)).symm ?_
  unfold f_X3_firmsWith
  refine J_iconst (pc := 0) (v := 0) dX3_firmsWith_0 (by decide) ?_
  refine J_istore_n (pc := 1) (loc' := [(2, .int 0), (0, .ref a), (1, .int pq0)]) dX3_firmsWith_1 rfl (by decide) rfl ?_
  refine J_iconst (pc := 2) (v := 0) dX3_firmsWith_2 (by decide) ?_
  refine J_istore_n (pc := 3) (loc' := [(3, .int 0), (2, .int 0), (0, .ref a), (1, .int pq0)]) dX3_firmsWith_3 rfl (by decide) rfl ?_
  refine J_loc (loc' := [(0, .ref a), (1, .int pq0), (2, .int 0), (3, .int 0)]) [2, 3, 1, 0] rfl ?_
  refine J_forL (K := k) (b := (d.1 a) 3) (G := f_X3_firmsWith_b4 (d.1 a) (d.1 (a + 2)) pq0 ) (hp := fun (s4 : Int32) => (g, d)) (lc := fun (i4 : Int32) (s4 : Int32) => [(0, .ref a), (1, .int (pq0)), (2, .int s4), (3, .int i4)]) (XJ := fun (i4 : Int32) (s4 : Int32) o9 => J mi_X3_firmsWith 0 0 0 0 (g, d) 39 [(2, .int s4)] [] o9) (fun i4 s4 o4 Kb4 hX4 hB4 => ?_) (fun i4 s4 => ?_) _ _ 0 (Nat.le_refl _)
  · show J mi_X3_firmsWith 0 0 0 0 (g, d) 4 [(0, .ref a), (1, .int (pq0)), (2, .int s4), (3, .int i4)] [] (if ((d.1 a) 3) ≤ i4 then o4 else Kb4 (f_X3_firmsWith_b4 (d.1 a) (d.1 (a + 2)) pq0 i4 s4))
    refine J_iload_n (pc := 4) 3 dX3_firmsWith_4 rfl rfl ?_
    refine J_aload_n (pc := 5) 0 dX3_firmsWith_5 rfl rfl ?_
    refine J_getI (pc := 6) dX3_firmsWith_6 fl_X3_53 (ha.lt 0 (by decide)) (ha.ty 0 rfl) rfl ?_
    refine J_icmp_ge (pc := 9) (tgt := 39) dX3_firmsWith_9 (by decide) (fun z4 => ?_) (fun z4 => ?_)
    · refine J_loc (loc' := [(2, .int s4)]) [2] rfl ?_
      exact hX4 z4
    · unfold f_X3_firmsWith_b4
      have hX3_firmsWith_j33_4 : ∀ (x2_33_4 : Int32), J mi_X3_firmsWith 0 0 0 0 (g, d) 33 [(0, .ref a), (1, .int (pq0)), (2, .int x2_33_4), (3, .int i4)] [] (Kb4 (f_X3_firmsWith_j33_4 (d.1 a) (d.1 (a + 2)) pq0 i4 x2_33_4)) := by
        intro x2_33_4
        unfold f_X3_firmsWith_j33_4
        refine J_iinc (pc := 33) (v := i4 + 1) (loc' := [(3, .int (i4 + 1)), (0, .ref a), (1, .int (pq0)), (2, .int x2_33_4)]) 3 dX3_firmsWith_33 rfl rfl (by decide) rfl ?_
        refine J_goto (pc := 36) (tgt := 4) dX3_firmsWith_36 (by decide) ?_
        refine J_loc (loc' := [(0, .ref a), (1, .int (pq0)), (2, .int x2_33_4), (3, .int (i4 + 1))]) [1, 2, 3, 0] rfl ?_
        exact hB4 z4 x2_33_4
      refine J_aload_n (pc := 12) 0 dX3_firmsWith_12 rfl rfl ?_
      refine J_getR (pc := 13) dX3_firmsWith_13 fl_X3_15 (ha.lt 0 (by decide)) (ha.ty 0 rfl) rfl (ha.rf 1 rfl) ?_
      refine J_iload_n (pc := 16) 3 dX3_firmsWith_16 rfl rfl ?_
      refine JC_pt_i (J_callS (mi := mi_X3_firmsWith) (mj := mi_X11_at) (pc := 17) dX3_firmsWith_17 ml_X3_89 ok_X11_at os_X11_at ⟨Nat.le_of_ble_eq_true rfl, Nat.le_of_ble_eq_true rfl⟩ rfl (s_X11_at g d (a + 2) 4 i4 (⟨(ha.lt 2 (by decide)), (ha.ty 2 rfl), by decide⟩)) rfl (Nat.le_of_ble_eq_true rfl)) ?_
      refine J_iload_n (pc := 20) 1 dX3_firmsWith_20 rfl rfl ?_
      refine JC_pt_i (J_callS (mi := mi_X3_firmsWith) (mj := mi_X11_hasBit) (pc := 21) dX3_firmsWith_21 ml_X3_102 ok_X11_hasBit os_X11_hasBit ⟨Nat.le_of_ble_eq_true rfl, Nat.le_of_ble_eq_true rfl⟩ rfl (s_X11_hasBit g d (f_X11_at (d.1 (a + 2)) 4 i4) pq0) rfl (Nat.le_of_ble_eq_true rfl)) ?_
      refine K_ifeq_b (K := Kb4) (pc := 24) (tgt := 33) dX3_firmsWith_24 (by decide) (fun z24 => ?_) (fun z24 => ?_)
      · exact hX3_firmsWith_j33_4 s4
      · refine J_iload_n (pc := 27) 2 dX3_firmsWith_27 rfl rfl ?_
        refine J_iconst (pc := 28) (v := 1) dX3_firmsWith_28 (by decide) ?_
        refine J_iload_n (pc := 29) 3 dX3_firmsWith_29 rfl rfl ?_
        refine J_ishl (pc := 30) dX3_firmsWith_30 ?_
        refine J_ior (pc := 31) dX3_firmsWith_31 ?_
        refine J_istore_n (pc := 32) (loc' := [(2, .int (s4 ||| ((1 : Int32) <<< (i4 &&& 31)))), (0, .ref a), (1, .int (pq0)), (3, .int i4)]) dX3_firmsWith_32 rfl (by decide) rfl ?_
        refine J_loc (loc' := [(0, .ref a), (1, .int (pq0)), (2, .int (s4 ||| ((1 : Int32) <<< (i4 &&& 31)))), (3, .int i4)]) [1, 2, 0, 3] rfl ?_
        exact hX3_firmsWith_j33_4 (s4 ||| ((1 : Int32) <<< (i4 &&& 31)))
  · show J mi_X3_firmsWith 0 0 0 0 (g, d) 39 [(2, .int s4)] [] (_)
    refine J_iload_n (pc := 39) 0 dX3_firmsWith_39 rfl rfl ?_
    exact J_eqo (hk s4) (J_iret (pc := 40) dX3_firmsWith_40 rfl)
