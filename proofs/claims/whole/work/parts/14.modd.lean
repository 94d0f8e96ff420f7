def f_X13_can_j29 (t : Nat) (d29 : JD) : Option (Int32 × JD) := (j_let (f_X13_refused d29 1) (fun q31 => some (q31.1, q31.2)))
def f_X13_can_j53 (t : Nat) (d53 : JD) (y0_53 : Int32) : Option (Int32 × JD) := (j_let (f_X13_good d53 y0_53) (fun q53 => some (q53.1, q53.2)))
def f_X13_can (t : Nat) (d : JD) (pq0 : Int32) : Option (Int32 × JD) := (if pq0 < 0 then f_X13_can_j29 t (j_sI d 57 0 0) else (if pq0 < ((4 : Int32) * (((j_sI d 57 0 0).1 t) 4)) then ((f_X13_works (j_sI d 57 0 0)).bind (fun q36 => (f_X13_canMove (q36.1 59) (q36.1 60) (q36.1 t) (q36.1 (t + 3)) pq0).bind (fun q42 => if q42 = true then (f_X13_can_j53 t q36 1) else (f_X13_can_j53 t q36 0)))) else f_X13_can_j29 t (j_sI d 57 0 0) ))
set_option maxRecDepth 100000 in
set_option maxHeartbeats 4000000 in
theorem s_X13_can (g : JG) (d : JD) (t : Nat) (pq0 : Int32) (h0 : j_sh g 0 TS_W RS_W) (ht : j_sh g t TS_ML RS_ML) (hla : g.2.2.1 57 3 = some t) : JM mi_X13_can 0 0 (g, d) [.ref 57, .int pq0] ((f_X13_can t d pq0).bind (fun r9 => some (some (.int r9.1), (g, r9.2)))) := by
  refine JM_of (by decide) rfl (Nat.le_of_ble_eq_true rfl) ?_
  refine J_loc (loc' := [(0, .ref 57), (1, .int pq0)]) [0, 1] rfl ?_
  obtain ⟨k, hk, hk2⟩ : ∃ k : Int32 × JD → Option (Option Value × JH), (∀ r9, k r9 = some (some (.int r9.1), (g, r9.2))) ∧ (fun r9 : Int32 × JD => (some (some (.int r9.1), (g, r9.2)) : Option (Option Value × JH))) = k := ⟨_, fun _ => rfl, rfl⟩
  rw [hk2]
  unfold f_X13_can
  have hX13_can_j29 : ∀ (d29 : JD) , J mi_X13_can 0 0 0 0 (g, d29) 29 [(0, .ref 57)] [] ((f_X13_can_j29 t d29 ).bind k) := by
    intro d29 
    unfold f_X13_can_j29
    refine J_aload_n (pc := 29) 0 dX13_can_29 rfl rfl ?_
    refine J_iconst (pc := 30) (v := 1) dX13_can_30 (by decide) ?_
    refine JC_lt_i (K := (fun x => Option.bind x k)) (J_callV (mi := mi_X13_can) (mj := mi_X13_refused) (pc := 31) dX13_can_31 ml_X13_48 ok_X13_refused ov_X13_refused ⟨Nat.le_of_ble_eq_true rfl, Nat.le_of_ble_eq_true rfl⟩ rfl (h0.lt 57 (by decide)) (h0.ty 57 rfl) rfl (s_X13_refused g d29 1 h0) rfl (Nat.le_of_ble_eq_true rfl)) (fun q31 eq31 => ?_)
    exact J_eqo (hk (q31.1, q31.2)) (J_iret (pc := 34) dX13_can_34 rfl)
  have hX13_can_j53 : ∀ (d53 : JD) (y0_53 : Int32), J mi_X13_can 0 0 0 0 (g, d53) 53 [] [.int y0_53, .ref 57] ((f_X13_can_j53 t d53 y0_53).bind k) := by
    intro d53 y0_53
    unfold f_X13_can_j53
    refine JC_lt_i (K := (fun x => Option.bind x k)) (J_callV (mi := mi_X13_can) (mj := mi_X13_good) (pc := 53) dX13_can_53 ml_X13_52 ok_X13_good ov_X13_good ⟨Nat.le_of_ble_eq_true rfl, Nat.le_of_ble_eq_true rfl⟩ rfl (h0.lt 57 (by decide)) (h0.ty 57 rfl) rfl (s_X13_good g d53 y0_53 h0) rfl (Nat.le_of_ble_eq_true rfl)) (fun q53 eq53 => ?_)
    exact J_eqo (hk (q53.1, q53.2)) (J_iret (pc := 56) dX13_can_56 rfl)
  refine J_aload_n (pc := 0) 0 dX13_can_0 rfl rfl ?_
  refine J_iconst (pc := 1) (v := 0) dX13_can_1 (by decide) ?_
  refine J_putI (pc := 2) dX13_can_2 fl_X13_42 ft_12_0 (h0.lt 57 (by decide)) (h0.ty 57 rfl) rfl rfl rfl ?_
  refine J_aload_n (pc := 5) 0 dX13_can_5 rfl rfl ?_
  refine J_getR (pc := 6) dX13_can_6 fl_X13_321 (h0.lt 57 (by decide)) (h0.ty 57 rfl) rfl hla ?_
  refine J_ifnull (pc := 9) dX13_can_9 ?_
  refine J_iload_n (pc := 12) 1 dX13_can_12 rfl rfl ?_
  refine K_if_lt (K := (fun x => Option.bind x k)) (pc := 13) (tgt := 29) dX13_can_13 (by decide) (fun z13 => ?_) (fun z13 => ?_)
  · refine J_loc (loc' := [(0, .ref 57)]) [0] rfl ?_
    exact hX13_can_j29 (j_sI d 57 0 0) 
  · refine J_iload_n (pc := 16) 1 dX13_can_16 rfl rfl ?_
    refine J_iconst (pc := 17) (v := 4) dX13_can_17 (by decide) ?_
    refine J_aload_n (pc := 18) 0 dX13_can_18 rfl rfl ?_
    refine J_getR (pc := 19) dX13_can_19 fl_X13_321 (h0.lt 57 (by decide)) (h0.ty 57 rfl) rfl hla ?_
    refine J_getI (pc := 22) dX13_can_22 fl_X13_191 (ht.lt 0 (by decide)) (ht.ty 0 rfl) rfl ?_
    refine J_imul (pc := 25) dX13_can_25 ?_
    refine K_icmp_lt (K := (fun x => Option.bind x k)) (pc := 26) (tgt := 35) dX13_can_26 (by decide) (fun z26 => ?_) (fun z26 => ?_)
    · refine J_aload_n (pc := 35) 0 dX13_can_35 rfl rfl ?_
      refine JC_pe_v (J_callV (mi := mi_X13_can) (mj := mi_X13_works) (pc := 36) dX13_can_36 ml_X13_348 ok_X13_works ov_X13_works ⟨Nat.le_of_ble_eq_true rfl, Nat.le_of_ble_eq_true rfl⟩ rfl (h0.lt 57 (by decide)) (h0.ty 57 rfl) rfl (s_X13_works g (j_sI d 57 0 0) h0) rfl (Nat.le_of_ble_eq_true rfl)) (fun q36 => ?_)
      refine J_aload_n (pc := 39) 0 dX13_can_39 rfl rfl ?_
      refine J_aload_n (pc := 40) 0 dX13_can_40 rfl rfl ?_
      refine J_iload_n (pc := 41) 1 dX13_can_41 rfl rfl ?_
      refine JC_pp_b (J_callV (mi := mi_X13_can) (mj := mi_X13_canMove) (pc := 42) dX13_can_42 ml_X13_374 ok_X13_canMove ov_X13_canMove ⟨Nat.le_of_ble_eq_true rfl, Nat.le_of_ble_eq_true rfl⟩ rfl (h0.lt 57 (by decide)) (h0.ty 57 rfl) rfl (s_X13_canMove g q36 t pq0 h0 ht hla) rfl (Nat.le_of_ble_eq_true rfl)) (fun q42 => ?_)
      refine K_ifeq_b (K := (fun x => Option.bind x k)) (pc := 45) (tgt := 52) dX13_can_45 (by decide) (fun z45 => ?_) (fun z45 => ?_)
      · refine J_iconst (pc := 52) (v := 0) dX13_can_52 (by decide) ?_
        refine J_loc (loc' := []) [] rfl ?_
        exact hX13_can_j53 q36 0
      · refine J_iconst (pc := 48) (v := 1) dX13_can_48 (by decide) ?_
        refine J_goto (pc := 49) (tgt := 53) dX13_can_49 (by decide) ?_
        refine J_loc (loc' := []) [] rfl ?_
        exact hX13_can_j53 q36 1
    · refine J_loc (loc' := [(0, .ref 57)]) [0] rfl ?_
      exact hX13_can_j29 (j_sI d 57 0 0) 
def f_X13_ways_b4 (r_t0 : Nat → Int32) (i4 : Int32) (s4 : Int32) : Int32 := (s4 * 3)
def f_X13_ways (r_t0 : Nat → Int32) : Int32 := (j_let (j_for (r_t0 4) (f_X13_ways_b4 r_t0 ) (j_mu (r_t0 4) 0) 0 1) (fun (s4 : Int32) => (s4)))
set_option maxRecDepth 100000 in
set_option maxHeartbeats 4000000 in
theorem s_X13_ways (g : JG) (d : JD) (t : Nat) (h0 : j_sh g 0 TS_W RS_W) (ht : j_sh g t TS_ML RS_ML) (hla : g.2.2.1 57 3 = some t) : JM mi_X13_ways 0 0 (g, d) [.ref 57] (some (some (.int (f_X13_ways (d.1 t) )), (g, d))) := by
  refine JM_of (by decide) rfl (Nat.le_of_ble_eq_true rfl) ?_
  refine J_loc (loc' := [(0, .ref 57)]) [0] rfl ?_
  obtain ⟨k, hk⟩ : ∃ k : Int32 → Option (Option Value × JH), ∀ r9, k r9 = some (some (.int r9), (g, d)) := ⟨_, fun _ => rfl⟩
  refine J_eqo (hk (f_X13_ways (d.1 t) )).symm ?_
  unfold f_X13_ways
  refine J_iconst (pc := 0) (v := 1) dX13_ways_0 (by decide) ?_
  refine J_istore_n (pc := 1) (loc' := [(1, .int 1), (0, .ref 57)]) dX13_ways_1 rfl (by decide) rfl ?_
  refine J_iconst (pc := 2) (v := 0) dX13_ways_2 (by decide) ?_
  refine J_istore_n (pc := 3) (loc' := [(2, .int 0), (1, .int 1), (0, .ref 57)]) dX13_ways_3 rfl (by decide) rfl ?_
  refine J_loc (loc' := [(0, .ref 57), (1, .int 1), (2, .int 0)]) [2, 1, 0] rfl ?_
  refine J_forL (K := k) (b := (d.1 t) 4) (G := f_X13_ways_b4 (d.1 t) ) (hp := fun (s4 : Int32) => (g, d)) (lc := fun (i4 : Int32) (s4 : Int32) => [(0, .ref 57), (1, .int s4), (2, .int i4)]) (XJ := fun (i4 : Int32) (s4 : Int32) o9 => J mi_X13_ways 0 0 0 0 (g, d) 25 [(1, .int s4)] [] o9) (fun i4 s4 o4 Kb4 hX4 hB4 => ?_) (fun i4 s4 => ?_) _ _ 1 (Nat.le_refl _)
  · show J mi_X13_ways 0 0 0 0 (g, d) 4 [(0, .ref 57), (1, .int s4), (2, .int i4)] [] (if ((d.1 t) 4) ≤ i4 then o4 else Kb4 (f_X13_ways_b4 (d.1 t) i4 s4))
    refine J_iload_n (pc := 4) 2 dX13_ways_4 rfl rfl ?_
    refine J_aload_n (pc := 5) 0 dX13_ways_5 rfl rfl ?_
    refine J_getR (pc := 6) dX13_ways_6 fl_X13_321 (h0.lt 57 (by decide)) (h0.ty 57 rfl) rfl hla ?_
    refine J_getI (pc := 9) dX13_ways_9 fl_X13_191 (ht.lt 0 (by decide)) (ht.ty 0 rfl) rfl ?_
    refine J_icmp_ge (pc := 12) (tgt := 25) dX13_ways_12 (by decide) (fun z4 => ?_) (fun z4 => ?_)
    · refine J_loc (loc' := [(1, .int s4)]) [1] rfl ?_
      exact hX4 z4
    · unfold f_X13_ways_b4
      refine J_iload_n (pc := 15) 1 dX13_ways_15 rfl rfl ?_
      refine J_iconst (pc := 16) (v := 3) dX13_ways_16 (by decide) ?_
      refine J_imul (pc := 17) dX13_ways_17 ?_
      refine J_istore_n (pc := 18) (loc' := [(1, .int (s4 * 3)), (0, .ref 57), (2, .int i4)]) dX13_ways_18 rfl (by decide) rfl ?_
      refine J_iinc (pc := 19) (v := i4 + 1) (loc' := [(2, .int (i4 + 1)), (1, .int (s4 * 3)), (0, .ref 57)]) 2 dX13_ways_19 rfl rfl (by decide) rfl ?_
      refine J_goto (pc := 22) (tgt := 4) dX13_ways_22 (by decide) ?_
      refine J_loc (loc' := [(0, .ref 57), (1, .int (s4 * 3)), (2, .int (i4 + 1))]) [2, 1, 0] rfl ?_
      exact hB4 z4 (s4 * 3)
  · show J mi_X13_ways 0 0 0 0 (g, d) 25 [(1, .int s4)] [] (_)
    refine J_iload_n (pc := 25) 0 dX13_ways_25 rfl rfl ?_
    exact J_eqo (hk s4) (J_iret (pc := 26) dX13_ways_26 rfl)
def f_X13_numbered_w4 (r_60 : Nat → Int32) (r_t0 : Nat → Int32) (s4 : Int32 × Int32) : Option ((Int32 × Int32) ⊕ (Int32)) := (if (r_t0 4) ≤ s4.2 then some (.inr s4.1) else (if j_out s4.2 6 then none else some (.inl (((3 : Int32) * s4.1) + (r_60 s4.2.toNatClampNeg), s4.2 + 1))))
def f_X13_numbered (r_60 : Nat → Int32) (r_t0 : Nat → Int32) : Option (Int32) := ((j_wh (f_X13_numbered_w4 r_60 r_t0 ) j_fuel (0, 0)).bind (fun (e4 : Int32) => (some e4)))
set_option maxRecDepth 100000 in
set_option maxHeartbeats 4000000 in
theorem s_X13_numbered (g : JG) (d : JD) (t : Nat) (h0 : j_sh g 0 TS_W RS_W) (ht : j_sh g t TS_ML RS_ML) (hla : g.2.2.1 57 3 = some t) : JM mi_X13_numbered 0 0 (g, d) [.ref 57] ((f_X13_numbered (d.1 60) (d.1 t) ).bind (fun r9 => some (some (.int r9), (g, d)))) := by
  refine JM_of (by decide) rfl (Nat.le_of_ble_eq_true rfl) ?_
  refine J_loc (loc' := [(0, .ref 57)]) [0] rfl ?_
  obtain ⟨k, hk, hk2⟩ : ∃ k : Int32 → Option (Option Value × JH), (∀ r9, k r9 = some (some (.int r9), (g, d))) ∧ (fun r9 : Int32 => (some (some (.int r9), (g, d)) : Option (Option Value × JH))) = k := ⟨_, fun _ => rfl, rfl⟩
  rw [hk2]
  unfold f_X13_numbered
  refine J_iconst (pc := 0) (v := 0) dX13_numbered_0 (by decide) ?_
  refine J_istore_n (pc := 1) (loc' := [(1, .int 0), (0, .ref 57)]) dX13_numbered_1 rfl (by decide) rfl ?_
  refine J_iconst (pc := 2) (v := 0) dX13_numbered_2 (by decide) ?_
  refine J_istore_n (pc := 3) (loc' := [(2, .int 0), (1, .int 0), (0, .ref 57)]) dX13_numbered_3 rfl (by decide) rfl ?_
  refine J_loc (loc' := [(0, .ref 57), (1, .int 0), (2, .int 0)]) [2, 1, 0] rfl ?_
  refine J_whL (F := f_X13_numbered_w4 (d.1 60) (d.1 t) ) (hp := fun (s4 : Int32 × Int32) => (g, d)) (lc := fun (s4 : Int32 × Int32) => [(0, .ref 57), (1, .int s4.1), (2, .int s4.2)]) (XJ := fun (e4 : Int32) o9 => J mi_X13_numbered 0 0 0 0 (g, d) 32 [(1, .int e4)] [] o9) (fun s4 k4 hB4 hX4 => ?_) (fun e4 => ?_) _ (0, 0)
  · show J mi_X13_numbered 0 0 0 0 (g, d) 4 [(0, .ref 57), (1, .int s4.1), (2, .int s4.2)] [] ((f_X13_numbered_w4 (d.1 60) (d.1 t) s4).bind k4)
    unfold f_X13_numbered_w4
    refine J_iload_n (pc := 4) 2 dX13_numbered_4 rfl rfl ?_
    refine J_aload_n (pc := 5) 0 dX13_numbered_5 rfl rfl ?_
    refine J_getR (pc := 6) dX13_numbered_6 fl_X13_321 (h0.lt 57 (by decide)) (h0.ty 57 rfl) rfl hla ?_
    refine J_getI (pc := 9) dX13_numbered_9 fl_X13_191 (ht.lt 0 (by decide)) (ht.ty 0 rfl) rfl ?_
    refine K_icmp_ge (K := (fun x => Option.bind x k4)) (pc := 12) (tgt := 32) dX13_numbered_12 (by decide) (fun z12 => ?_) (fun z12 => ?_)
    · refine J_loc (loc' := [(1, .int s4.1)]) [1] rfl ?_
      exact hX4 s4.1
    · refine J_iconst (pc := 15) (v := 3) dX13_numbered_15 (by decide) ?_
      refine J_iload_n (pc := 16) 1 dX13_numbered_16 rfl rfl ?_
      refine J_imul (pc := 17) dX13_numbered_17 ?_
      refine J_aload_n (pc := 18) 0 dX13_numbered_18 rfl rfl ?_
      refine J_getR (pc := 19) dX13_numbered_19 fl_X13_21 (h0.lt 57 (by decide)) (h0.ty 57 rfl) rfl (h0.rf 57 rfl) ?_
      refine J_iload_n (pc := 22) 2 dX13_numbered_22 rfl rfl ?_
      refine J_guard (fun z23 => ?_)
      refine J_iald (pc := 23) dX13_numbered_23 (h0.lt 60 (by decide)) (h0.ty 60 rfl) z23 ?_
      refine J_iadd (pc := 24) dX13_numbered_24 ?_
      refine J_istore_n (pc := 25) (loc' := [(1, .int (((3 : Int32) * s4.1) + ((d.1 60) s4.2.toNatClampNeg))), (0, .ref 57), (2, .int s4.2)]) dX13_numbered_25 rfl (by decide) rfl ?_
      refine J_iinc (pc := 26) (v := s4.2 + 1) (loc' := [(2, .int (s4.2 + 1)), (1, .int (((3 : Int32) * s4.1) + ((d.1 60) s4.2.toNatClampNeg))), (0, .ref 57)]) 2 dX13_numbered_26 rfl rfl (by decide) rfl ?_
      refine J_goto (pc := 29) (tgt := 4) dX13_numbered_29 (by decide) ?_
      refine J_loc (loc' := [(0, .ref 57), (1, .int (((3 : Int32) * s4.1) + ((d.1 60) s4.2.toNatClampNeg))), (2, .int (s4.2 + 1))]) [2, 1, 0] rfl ?_
      exact hB4 (((3 : Int32) * s4.1) + ((d.1 60) s4.2.toNatClampNeg), s4.2 + 1)
  · show J mi_X13_numbered 0 0 0 0 (g, d) 32 [(1, .int e4)] [] (_)
    refine J_iload_n (pc := 32) 0 dX13_numbered_32 rfl rfl ?_
    exact J_eqo (hk e4) (J_iret (pc := 33) dX13_numbered_33 rfl)
def f_X13_lays_w12 (t : Nat) (s12 : Int32 × Int32 × JD) : Option ((Int32 × Int32 × JD) ⊕ (JD)) := (if s12.2.1 < 0 then some (.inr s12.2.2) else (if j_out s12.2.1 6 then none else some (.inl (s12.1 / 3, s12.2.1 + (-1), j_sI s12.2.2 60 s12.2.1.toNatClampNeg (s12.1 - s12.1 / 3 * 3)))))
def f_X13_lays (t : Nat) (d : JD) (pq0 : Int32) : Option (JD) := ((j_wh (f_X13_lays_w12 t ) j_fuel (pq0, ((d.1 t) 4) - 1, d)).bind (fun (e12 : JD) => (some e12)))
set_option maxRecDepth 100000 in
set_option maxHeartbeats 4000000 in
theorem s_X13_lays (g : JG) (d : JD) (t : Nat) (pq0 : Int32) (h0 : j_sh g 0 TS_W RS_W) (ht : j_sh g t TS_ML RS_ML) (hla : g.2.2.1 57 3 = some t) : JM mi_X13_lays 0 0 (g, d) [.ref 57, .int pq0] ((f_X13_lays t d pq0).bind (fun r9 => some (none, (g, r9)))) := by
  refine JM_of (by decide) rfl (Nat.le_of_ble_eq_true rfl) ?_
  refine J_loc (loc' := [(0, .ref 57), (1, .int pq0)]) [0, 1] rfl ?_
  obtain ⟨k, hk, hk2⟩ : ∃ k : JD → Option (Option Value × JH), (∀ r9, k r9 = some (none, (g, r9))) ∧ (fun r9 : JD => (some (none, (g, r9)) : Option (Option Value × JH))) = k := ⟨_, fun _ => rfl, rfl⟩
  rw [hk2]
  unfold f_X13_lays
  refine J_iload_n (pc := 0) 1 dX13_lays_0 rfl rfl ?_
  refine J_istore_n (pc := 1) (loc' := [(2, .int pq0), (0, .ref 57), (1, .int pq0)]) dX13_lays_1 rfl (by decide) rfl ?_
  refine J_aload_n (pc := 2) 1 dX13_lays_2 rfl rfl ?_
  refine J_getR (pc := 3) dX13_lays_3 fl_X13_321 (h0.lt 57 (by decide)) (h0.ty 57 rfl) rfl hla ?_
  refine J_getI (pc := 6) dX13_lays_6 fl_X13_191 (ht.lt 0 (by decide)) (ht.ty 0 rfl) rfl ?_
  refine J_iconst (pc := 9) (v := 1) dX13_lays_9 (by decide) ?_
  refine J_isub (pc := 10) dX13_lays_10 ?_
  refine J_istore_n (pc := 11) (loc' := [(3, .int (((d.1 t) 4) - 1)), (2, .int pq0), (0, .ref 57), (1, .int pq0)]) dX13_lays_11 rfl (by decide) rfl ?_
  refine J_loc (loc' := [(0, .ref 57), (2, .int pq0), (3, .int (((d.1 t) 4) - 1))]) [2, 1, 0] rfl ?_
  refine J_whL (F := f_X13_lays_w12 t ) (hp := fun (s12 : Int32 × Int32 × JD) => (g, s12.2.2)) (lc := fun (s12 : Int32 × Int32 × JD) => [(0, .ref 57), (2, .int s12.1), (3, .int s12.2.1)]) (XJ := fun (e12 : JD) o9 => J mi_X13_lays 0 0 0 0 (g, e12) 35 [] [] o9) (fun s12 k12 hB12 hX12 => ?_) (fun e12 => ?_) _ (pq0, ((d.1 t) 4) - 1, d)
  · show J mi_X13_lays 0 0 0 0 (g, s12.2.2) 12 [(0, .ref 57), (2, .int s12.1), (3, .int s12.2.1)] [] ((f_X13_lays_w12 t s12).bind k12)
    unfold f_X13_lays_w12
    refine J_iload_n (pc := 12) 2 dX13_lays_12 rfl rfl ?_
    refine K_if_lt (K := (fun x => Option.bind x k12)) (pc := 13) (tgt := 35) dX13_lays_13 (by decide) (fun z13 => ?_) (fun z13 => ?_)
    · refine J_loc (loc' := []) [] rfl ?_
      exact hX12 s12.2.2
    · refine J_aload_n (pc := 16) 0 dX13_lays_16 rfl rfl ?_
      refine J_getR (pc := 17) dX13_lays_17 fl_X13_21 (h0.lt 57 (by decide)) (h0.ty 57 rfl) rfl (h0.rf 57 rfl) ?_
      refine J_iload_n (pc := 20) 2 dX13_lays_20 rfl rfl ?_
      refine J_iload_n (pc := 21) 1 dX13_lays_21 rfl rfl ?_
      refine J_iconst (pc := 22) (v := 3) dX13_lays_22 (by decide) ?_
      refine J_irem (pc := 23) dX13_lays_23 (by decide) ?_
      refine J_guard (fun z24 => ?_)
      refine J_iast (pc := 24) dX13_lays_24 (h0.lt 60 (by decide)) (h0.ty 60 rfl) z24 ?_
      refine J_iload_n (pc := 25) 1 dX13_lays_25 rfl rfl ?_
      refine J_iconst (pc := 26) (v := 3) dX13_lays_26 (by decide) ?_
      refine J_idiv (pc := 27) dX13_lays_27 (by decide) ?_
      refine J_istore_n (pc := 28) (loc' := [(2, .int (s12.1 / 3)), (0, .ref 57), (3, .int s12.2.1)]) dX13_lays_28 rfl (by decide) rfl ?_
      refine J_iinc (pc := 29) (v := s12.2.1 + (-1)) (loc' := [(3, .int (s12.2.1 + (-1))), (2, .int (s12.1 / 3)), (0, .ref 57)]) 2 dX13_lays_29 rfl rfl (by decide) rfl ?_
      refine J_goto (pc := 32) (tgt := 12) dX13_lays_32 (by decide) ?_
      refine J_loc (loc' := [(0, .ref 57), (2, .int (s12.1 / 3)), (3, .int (s12.2.1 + (-1)))]) [2, 1, 0] rfl ?_
      exact hB12 (s12.1 / 3, s12.2.1 + (-1), j_sI s12.2.2 60 s12.2.1.toNatClampNeg (s12.1 - s12.1 / 3 * 3))
  · show J mi_X13_lays 0 0 0 0 (g, e12) 35 [] [] (_)
    exact J_eqo (hk e12) (J_vret (pc := 35) dX13_lays_35 rfl)
def f_X13_reaches_w2 (t : Nat) (s2 : Int32 × JD) : Option ((Int32 × JD) ⊕ (JD)) := (if 729 ≤ s2.1 then some (.inr s2.2) else (if j_out s2.1 729 then none else some (.inl (s2.1 + 1, j_sI s2.2 63 s2.1.toNatClampNeg 9999))))
def f_X13_reaches_j182_57_67 (t : Nat) (c1_67_57 : Int32) (d182_57_67 : JD) (x2_182_57_67 : Int32) : Option ((Int32 × JD) ⊕ (JD)) := (some (.inl (x2_182_57_67 + 1, d182_57_67)))
def f_X13_reaches_w67_57 (t : Nat) (c1_67_57 : Int32) (s67_57 : Int32 × JD) : Option ((Int32 × JD) ⊕ (JD)) := (if ((4 : Int32) * ((s67_57.2.1 t) 4)) ≤ s67_57.1 then some (.inr s67_57.2) else (if j_out (c1_67_57) 729 then none else (f_X13_lays t s67_57.2 ((s67_57.2.1 65) ((c1_67_57).toNatClampNeg))).bind (fun q87_57_67 => (f_X13_canMove (q87_57_67.1 59) (q87_57_67.1 60) (q87_57_67.1 t) (q87_57_67.1 (t + 3)) s67_57.1).bind (fun q92_57_67 => if q92_57_67 = true then ((f_X13_moves t q87_57_67 s67_57.1).bind (fun q103_57_67 => (f_X13_numbered (q103_57_67.1 60) (q103_57_67.1 t)).bind (fun q107_57_67 => if j_out q107_57_67 729 then none else if ((q103_57_67.1 63) q107_57_67.toNatClampNeg) = 9999 then (if j_out (c1_67_57) 729 then none else if j_out ((q103_57_67.1 65) ((c1_67_57).toNatClampNeg)) 729 then none else if j_out q107_57_67 729 then none else if j_out (c1_67_57) 729 then none else if j_out q107_57_67 729 then none else if j_out ((q103_57_67.1 57) 24) 729 then none else f_X13_reaches_j182_57_67 t (c1_67_57) (j_sI (j_sI (j_sI (j_sI q103_57_67 63 q107_57_67.toNatClampNeg (((q103_57_67.1 63) (((q103_57_67.1 65) ((c1_67_57).toNatClampNeg)).toNatClampNeg)) + 1)) 64 q107_57_67.toNatClampNeg (((24 : Int32) * ((q103_57_67.1 65) ((c1_67_57).toNatClampNeg))) + s67_57.1)) 65 (((q103_57_67.1 57) 24).toNatClampNeg) q107_57_67) 57 24 (((q103_57_67.1 57) 24) + 1)) s67_57.1) else (f_X13_reaches_j182_57_67 t (c1_67_57) q103_57_67 s67_57.1)))) else (f_X13_reaches_j182_57_67 t (c1_67_57) q87_57_67 s67_57.1)))))
def f_X13_reaches_w57 (t : Nat) (s57 : Int32 × JD) : Option ((Int32 × JD) ⊕ (JD)) := (if ((s57.2.1 57) 24) ≤ s57.1 then some (.inr s57.2) else ((j_wh (f_X13_reaches_w67_57 t s57.1 ) j_fuel (0, s57.2)).bind (fun (e67_57 : JD) => (some (.inl (s57.1 + 1, e67_57))))))
def f_X13_reaches (t : Nat) (d : JD) : Option (JD) := ((j_wh (f_X13_reaches_w2 t ) j_fuel (0, d)).bind (fun (e2 : JD) => ((f_X13_works e2).bind (fun q25 => (f_X13_numbered (q25.1 60) (q25.1 t)).bind (fun q34 => if j_out q34 729 then none else (j_wh (f_X13_reaches_w57 t ) j_fuel (0, j_sI (j_sI (j_sI q25 65 0 q34) 63 q34.toNatClampNeg 0) 57 24 1)).bind (fun (e57 : JD) => (some e57)))))))
set_option maxRecDepth 100000 in
set_option maxHeartbeats 4000000 in
theorem s_X13_reaches (g : JG) (d : JD) (t : Nat) (h0 : j_sh g 0 TS_W RS_W) (ht : j_sh g t TS_ML RS_ML) (hla : g.2.2.1 57 3 = some t) : JM mi_X13_reaches 0 0 (g, d) [.ref 57] ((f_X13_reaches t d ).bind (fun r9 => some (none, (g, r9)))) := by
  refine JM_of (by decide) rfl (Nat.le_of_ble_eq_true rfl) ?_
  refine J_loc (loc' := [(0, .ref 57)]) [0] rfl ?_
  obtain ⟨k, hk, hk2⟩ : ∃ k : JD → Option (Option Value × JH), (∀ r9, k r9 = some (none, (g, r9))) ∧ (fun r9 : JD => (some (none, (g, r9)) : Option (Option Value × JH))) = k := ⟨_, fun _ => rfl, rfl⟩
  rw [hk2]
  unfold f_X13_reaches
  refine J_iconst (pc := 0) (v := 0) dX13_reaches_0 (by decide) ?_
  refine J_istore_n (pc := 1) (loc' := [(1, .int 0), (0, .ref 57)]) dX13_reaches_1 rfl (by decide) rfl ?_
  refine J_loc (loc' := [(0, .ref 57), (1, .int 0)]) [1, 0] rfl ?_
  refine J_whL (F := f_X13_reaches_w2 t ) (hp := fun (s2 : Int32 × JD) => (g, s2.2)) (lc := fun (s2 : Int32 × JD) => [(0, .ref 57), (1, .int s2.1)]) (XJ := fun (e2 : JD) o9 => J mi_X13_reaches 0 0 0 0 (g, e2) 24 [(0, .ref 57)] [] o9) (fun s2 k2 hB2 hX2 => ?_) (fun e2 => ?_) _ (0, d)
  · show J mi_X13_reaches 0 0 0 0 (g, s2.2) 2 [(0, .ref 57), (1, .int s2.1)] [] ((f_X13_reaches_w2 t s2).bind k2)
    unfold f_X13_reaches_w2
    refine J_iload_n (pc := 2) 1 dX13_reaches_2 rfl rfl ?_
    refine J_sipush (pc := 3) (v := 729) dX13_reaches_3 (by decide) ?_
    refine K_icmp_ge (K := (fun x => Option.bind x k2)) (pc := 6) (tgt := 24) dX13_reaches_6 (by decide) (fun z6 => ?_) (fun z6 => ?_)
    · refine J_loc (loc' := [(0, .ref 57)]) [0] rfl ?_
      exact hX2 s2.2
    · refine J_aload_n (pc := 9) 0 dX13_reaches_9 rfl rfl ?_
      refine J_getR (pc := 10) dX13_reaches_10 fl_X13_30 (h0.lt 57 (by decide)) (h0.ty 57 rfl) rfl (h0.rf 60 rfl) ?_
      refine J_iload_n (pc := 13) 1 dX13_reaches_13 rfl rfl ?_
      refine J_sipush (pc := 14) (v := 9999) dX13_reaches_14 (by decide) ?_
      refine J_guard (fun z17 => ?_)
      refine J_iast (pc := 17) dX13_reaches_17 (h0.lt 63 (by decide)) (h0.ty 63 rfl) z17 ?_
      refine J_iinc (pc := 18) (v := s2.1 + 1) (loc' := [(1, .int (s2.1 + 1)), (0, .ref 57)]) 1 dX13_reaches_18 rfl rfl (by decide) rfl ?_
      refine J_goto (pc := 21) (tgt := 2) dX13_reaches_21 (by decide) ?_
      refine J_loc (loc' := [(0, .ref 57), (1, .int (s2.1 + 1))]) [1, 0] rfl ?_
      exact hB2 (s2.1 + 1, j_sI s2.2 63 s2.1.toNatClampNeg 9999)
  · show J mi_X13_reaches 0 0 0 0 (g, e2) 24 [(0, .ref 57)] [] (_)
    refine J_aload_n (pc := 24) 0 dX13_reaches_24 rfl rfl ?_
    refine JC_pe_v (J_callV (mi := mi_X13_reaches) (mj := mi_X13_works) (pc := 25) dX13_reaches_25 ml_X13_348 ok_X13_works ov_X13_works ⟨Nat.le_of_ble_eq_true rfl, Nat.le_of_ble_eq_true rfl⟩ rfl (h0.lt 57 (by decide)) (h0.ty 57 rfl) rfl (s_X13_works g e2 h0) rfl (Nat.le_of_ble_eq_true rfl)) (fun q25 => ?_)
    refine J_aload_n (pc := 28) 0 dX13_reaches_28 rfl rfl ?_
    refine J_getR (pc := 29) dX13_reaches_29 fl_X13_36 (h0.lt 57 (by decide)) (h0.ty 57 rfl) rfl (h0.rf 62 rfl) ?_
    refine J_iconst (pc := 32) (v := 0) dX13_reaches_32 (by decide) ?_
    refine J_aload_n (pc := 33) 0 dX13_reaches_33 rfl rfl ?_
    refine JC_pp_i (J_callV (mi := mi_X13_reaches) (mj := mi_X13_numbered) (pc := 34) dX13_reaches_34 ml_X13_377 ok_X13_numbered ov_X13_numbered ⟨Nat.le_of_ble_eq_true rfl, Nat.le_of_ble_eq_true rfl⟩ rfl (h0.lt 57 (by decide)) (h0.ty 57 rfl) rfl (s_X13_numbered g q25 t h0 ht hla) rfl (Nat.le_of_ble_eq_true rfl)) (fun q34 => ?_)
    refine J_iast (pc := 37) dX13_reaches_37 (h0.lt 65 (by decide)) (h0.ty 65 rfl) (show vp_in _ _ from by unfold vp_in; decide) ?_
    refine J_heap (h1 := (g, j_sI q25 65 0 q34)) rfl ?_
    refine J_aload_n (pc := 38) 0 dX13_reaches_38 rfl rfl ?_
    refine J_getR (pc := 39) dX13_reaches_39 fl_X13_30 (h0.lt 57 (by decide)) (h0.ty 57 rfl) rfl (h0.rf 60 rfl) ?_
    refine J_aload_n (pc := 42) 0 dX13_reaches_42 rfl rfl ?_
    refine J_getR (pc := 43) dX13_reaches_43 fl_X13_36 (h0.lt 57 (by decide)) (h0.ty 57 rfl) rfl (h0.rf 62 rfl) ?_
    refine J_iconst (pc := 46) (v := 0) dX13_reaches_46 (by decide) ?_
    refine J_iald (pc := 47) dX13_reaches_47 (h0.lt 65 (by decide)) (h0.ty 65 rfl) (show vp_in _ _ from by unfold vp_in; decide) ?_
    refine J_val (y := q34) rfl ?_
    refine J_iconst (pc := 48) (v := 0) dX13_reaches_48 (by decide) ?_
    refine J_guard (fun z49 => ?_)
    refine J_iast (pc := 49) dX13_reaches_49 (h0.lt 63 (by decide)) (h0.ty 63 rfl) z49 ?_
    refine J_aload_n (pc := 50) 0 dX13_reaches_50 rfl rfl ?_
    refine J_iconst (pc := 51) (v := 1) dX13_reaches_51 (by decide) ?_
    refine J_putI (pc := 52) dX13_reaches_52 fl_X13_380 ft_12_24 (h0.lt 57 (by decide)) (h0.ty 57 rfl) rfl rfl rfl ?_
    refine J_iconst (pc := 55) (v := 0) dX13_reaches_55 (by decide) ?_
    refine J_istore_n (pc := 56) (loc' := [(1, .int 0), (0, .ref 57)]) dX13_reaches_56 rfl (by decide) rfl ?_
    refine J_loc (loc' := [(0, .ref 57), (1, .int 0)]) [1, 0] rfl ?_
    refine J_whL (F := f_X13_reaches_w57 t ) (hp := fun (s57 : Int32 × JD) => (g, s57.2)) (lc := fun (s57 : Int32 × JD) => [(0, .ref 57), (1, .int s57.1)]) (XJ := fun (e57 : JD) o9 => J mi_X13_reaches 0 0 0 0 (g, e57) 194 [] [] o9) (fun s57 k57 hB57 hX57 => ?_) (fun e57 => ?_) _ (0, j_sI (j_sI (j_sI q25 65 0 q34) 63 q34.toNatClampNeg 0) 57 24 1)
    · show J mi_X13_reaches 0 0 0 0 (g, s57.2) 57 [(0, .ref 57), (1, .int s57.1)] [] ((f_X13_reaches_w57 t s57).bind k57)
      unfold f_X13_reaches_w57
      refine J_iload_n (pc := 57) 1 dX13_reaches_57 rfl rfl ?_
      refine J_aload_n (pc := 58) 0 dX13_reaches_58 rfl rfl ?_
      refine J_getI (pc := 59) dX13_reaches_59 fl_X13_380 (h0.lt 57 (by decide)) (h0.ty 57 rfl) rfl ?_
      refine K_icmp_ge (K := (fun x => Option.bind x k57)) (pc := 62) (tgt := 194) dX13_reaches_62 (by decide) (fun z62 => ?_) (fun z62 => ?_)
      · refine J_loc (loc' := []) [] rfl ?_
        exact hX57 s57.2
      · refine J_iconst (pc := 65) (v := 0) dX13_reaches_65 (by decide) ?_
        refine J_istore_n (pc := 66) (loc' := [(2, .int 0), (0, .ref 57), (1, .int s57.1)]) dX13_reaches_66 rfl (by decide) rfl ?_
        refine J_loc (loc' := [(0, .ref 57), (1, .int s57.1), (2, .int 0)]) [1, 2, 0] rfl ?_
        refine J_whL (F := f_X13_reaches_w67_57 t s57.1 ) (hp := fun (s67_57 : Int32 × JD) => (g, s67_57.2)) (lc := fun (s67_57 : Int32 × JD) => [(0, .ref 57), (1, .int (s57.1)), (2, .int s67_57.1)]) (XJ := fun (e67_57 : JD) o9 => J mi_X13_reaches 0 0 0 0 (g, e67_57) 188 [(0, .ref 57), (1, .int s57.1)] [] o9) (fun s67_57 k67_57 hB67_57 hX67_57 => ?_) (fun e67_57 => ?_) _ (0, s57.2)
        · show J mi_X13_reaches 0 0 0 0 (g, s67_57.2) 67 [(0, .ref 57), (1, .int (s57.1)), (2, .int s67_57.1)] [] ((f_X13_reaches_w67_57 t s57.1 s67_57).bind k67_57)
          unfold f_X13_reaches_w67_57
          have hX13_reaches_j182_57_67 : ∀ (d182_57_67 : JD) (x2_182_57_67 : Int32), J mi_X13_reaches 0 0 0 0 (g, d182_57_67) 182 [(0, .ref 57), (1, .int (s57.1)), (2, .int x2_182_57_67)] [] ((f_X13_reaches_j182_57_67 t s57.1 d182_57_67 x2_182_57_67).bind k67_57) := by
            intro d182_57_67 x2_182_57_67
            unfold f_X13_reaches_j182_57_67
            refine J_iinc (pc := 182) (v := x2_182_57_67 + 1) (loc' := [(2, .int (x2_182_57_67 + 1)), (0, .ref 57), (1, .int (s57.1))]) 2 dX13_reaches_182 rfl rfl (by decide) rfl ?_
            refine J_goto (pc := 185) (tgt := 67) dX13_reaches_185 (by decide) ?_
            refine J_loc (loc' := [(0, .ref 57), (1, .int (s57.1)), (2, .int (x2_182_57_67 + 1))]) [1, 2, 0] rfl ?_
            exact hB67_57 (x2_182_57_67 + 1, d182_57_67)
          refine J_iload_n (pc := 67) 2 dX13_reaches_67 rfl rfl ?_
          refine J_iconst (pc := 68) (v := 4) dX13_reaches_68 (by decide) ?_
          refine J_aload_n (pc := 69) 0 dX13_reaches_69 rfl rfl ?_
          refine J_getR (pc := 70) dX13_reaches_70 fl_X13_321 (h0.lt 57 (by decide)) (h0.ty 57 rfl) rfl hla ?_
          refine J_getI (pc := 73) dX13_reaches_73 fl_X13_191 (ht.lt 0 (by decide)) (ht.ty 0 rfl) rfl ?_
          refine J_imul (pc := 76) dX13_reaches_76 ?_
          refine K_icmp_ge (K := (fun x => Option.bind x k67_57)) (pc := 77) (tgt := 188) dX13_reaches_77 (by decide) (fun z77 => ?_) (fun z77 => ?_)
          · refine J_loc (loc' := [(0, .ref 57), (1, .int (s57.1))]) [0, 1] rfl ?_
            exact hX67_57 s67_57.2
          · refine J_aload_n (pc := 80) 0 dX13_reaches_80 rfl rfl ?_
            refine J_aload_n (pc := 81) 0 dX13_reaches_81 rfl rfl ?_
            refine J_getR (pc := 82) dX13_reaches_82 fl_X13_36 (h0.lt 57 (by decide)) (h0.ty 57 rfl) rfl (h0.rf 62 rfl) ?_
            refine J_iload_n (pc := 85) 1 dX13_reaches_85 rfl rfl ?_
            refine J_guard (fun z86 => ?_)
            refine J_iald (pc := 86) dX13_reaches_86 (h0.lt 65 (by decide)) (h0.ty 65 rfl) z86 ?_
            refine JC_pe_v (J_callV (mi := mi_X13_reaches) (mj := mi_X13_lays) (pc := 87) dX13_reaches_87 ml_X13_383 ok_X13_lays ov_X13_lays ⟨Nat.le_of_ble_eq_true rfl, Nat.le_of_ble_eq_true rfl⟩ rfl (h0.lt 57 (by decide)) (h0.ty 57 rfl) rfl (s_X13_lays g s67_57.2 t ((s67_57.2.1 65) ((s57.1).toNatClampNeg)) h0 ht hla) rfl (Nat.le_of_ble_eq_true rfl)) (fun q87_57_67 => ?_)
            refine J_aload_n (pc := 90) 0 dX13_reaches_90 rfl rfl ?_
            refine J_iload_n (pc := 91) 2 dX13_reaches_91 rfl rfl ?_
            refine JC_pp_b (J_callV (mi := mi_X13_reaches) (mj := mi_X13_canMove) (pc := 92) dX13_reaches_92 ml_X13_374 ok_X13_canMove ov_X13_canMove ⟨Nat.le_of_ble_eq_true rfl, Nat.le_of_ble_eq_true rfl⟩ rfl (h0.lt 57 (by decide)) (h0.ty 57 rfl) rfl (s_X13_canMove g q87_57_67 t s67_57.1 h0 ht hla) rfl (Nat.le_of_ble_eq_true rfl)) (fun q92_57_67 => ?_)
            refine K_ifne_b (K := (fun x => Option.bind x k67_57)) (pc := 95) (tgt := 101) dX13_reaches_95 (by decide) (fun z95 => ?_) (fun z95 => ?_)
            · refine J_aload_n (pc := 101) 0 dX13_reaches_101 rfl rfl ?_
              refine J_iload_n (pc := 102) 2 dX13_reaches_102 rfl rfl ?_
              refine JC_pe_v (J_callV (mi := mi_X13_reaches) (mj := mi_X13_moves) (pc := 103) dX13_reaches_103 ml_X13_386 ok_X13_moves ov_X13_moves ⟨Nat.le_of_ble_eq_true rfl, Nat.le_of_ble_eq_true rfl⟩ rfl (h0.lt 57 (by decide)) (h0.ty 57 rfl) rfl (s_X13_moves g q87_57_67 t s67_57.1 h0 ht hla) rfl (Nat.le_of_ble_eq_true rfl)) (fun q103_57_67 => ?_)
              refine J_aload_n (pc := 106) 0 dX13_reaches_106 rfl rfl ?_
              refine JC_pp_i (J_callV (mi := mi_X13_reaches) (mj := mi_X13_numbered) (pc := 107) dX13_reaches_107 ml_X13_377 ok_X13_numbered ov_X13_numbered ⟨Nat.le_of_ble_eq_true rfl, Nat.le_of_ble_eq_true rfl⟩ rfl (h0.lt 57 (by decide)) (h0.ty 57 rfl) rfl (s_X13_numbered g q103_57_67 t h0 ht hla) rfl (Nat.le_of_ble_eq_true rfl)) (fun q107_57_67 => ?_)
              refine J_istore_n (pc := 110) (loc' := [(3, .int q107_57_67), (0, .ref 57), (1, .int (s57.1)), (2, .int s67_57.1)]) dX13_reaches_110 rfl (by decide) rfl ?_
              refine J_aload_n (pc := 111) 1 dX13_reaches_111 rfl rfl ?_
              refine J_getR (pc := 112) dX13_reaches_112 fl_X13_30 (h0.lt 57 (by decide)) (h0.ty 57 rfl) rfl (h0.rf 60 rfl) ?_
              refine J_iload_n (pc := 115) 0 dX13_reaches_115 rfl rfl ?_
              refine J_guard (fun z116 => ?_)
              refine J_iald (pc := 116) dX13_reaches_116 (h0.lt 63 (by decide)) (h0.ty 63 rfl) z116 ?_
              refine J_sipush (pc := 117) (v := 9999) dX13_reaches_117 (by decide) ?_
              refine K_icmp_eq (K := (fun x => Option.bind x k67_57)) (pc := 120) (tgt := 126) dX13_reaches_120 (by decide) (fun z120 => ?_) (fun z120 => ?_)
              · refine J_aload_n (pc := 126) 1 dX13_reaches_126 rfl rfl ?_
                refine J_getR (pc := 127) dX13_reaches_127 fl_X13_30 (h0.lt 57 (by decide)) (h0.ty 57 rfl) rfl (h0.rf 60 rfl) ?_
                refine J_iload_n (pc := 130) 0 dX13_reaches_130 rfl rfl ?_
                refine J_aload_n (pc := 131) 1 dX13_reaches_131 rfl rfl ?_
                refine J_getR (pc := 132) dX13_reaches_132 fl_X13_30 (h0.lt 57 (by decide)) (h0.ty 57 rfl) rfl (h0.rf 60 rfl) ?_
                refine J_aload_n (pc := 135) 1 dX13_reaches_135 rfl rfl ?_
                refine J_getR (pc := 136) dX13_reaches_136 fl_X13_36 (h0.lt 57 (by decide)) (h0.ty 57 rfl) rfl (h0.rf 62 rfl) ?_
                refine J_iload_n (pc := 139) 2 dX13_reaches_139 rfl rfl ?_
                refine J_guard (fun z140 => ?_)
                refine J_iald (pc := 140) dX13_reaches_140 (h0.lt 65 (by decide)) (h0.ty 65 rfl) z140 ?_
                refine J_guard (fun z141 => ?_)
                refine J_iald (pc := 141) dX13_reaches_141 (h0.lt 63 (by decide)) (h0.ty 63 rfl) z141 ?_
                refine J_iconst (pc := 142) (v := 1) dX13_reaches_142 (by decide) ?_
                refine J_iadd (pc := 143) dX13_reaches_143 ?_
                refine J_guard (fun z144 => ?_)
                refine J_iast (pc := 144) dX13_reaches_144 (h0.lt 63 (by decide)) (h0.ty 63 rfl) z144 ?_
                refine J_aload_n (pc := 145) 1 dX13_reaches_145 rfl rfl ?_
                refine J_getR (pc := 146) dX13_reaches_146 fl_X13_33 (h0.lt 57 (by decide)) (h0.ty 57 rfl) rfl (h0.rf 61 rfl) ?_
                refine J_iload_n (pc := 149) 0 dX13_reaches_149 rfl rfl ?_
                refine J_bipush (pc := 150) (v := 24) dX13_reaches_150 (by decide) ?_
                refine J_aload_n (pc := 152) 1 dX13_reaches_152 rfl rfl ?_
                refine J_getR (pc := 153) dX13_reaches_153 fl_X13_36 (h0.lt 57 (by decide)) (h0.ty 57 rfl) rfl (h0.rf 62 rfl) ?_
                refine J_iload_n (pc := 156) 2 dX13_reaches_156 rfl rfl ?_
                refine J_guard (fun z157 => ?_)
                refine J_iald (pc := 157) dX13_reaches_157 (h0.lt 65 (by decide)) (h0.ty 65 rfl) z157 ?_
                refine J_val (y := (q103_57_67.1 65) ((s57.1).toNatClampNeg)) rfl ?_
                refine J_imul (pc := 158) dX13_reaches_158 ?_
                refine J_iload_n (pc := 159) 3 dX13_reaches_159 rfl rfl ?_
                refine J_iadd (pc := 160) dX13_reaches_160 ?_
                refine J_guard (fun z161 => ?_)
                refine J_iast (pc := 161) dX13_reaches_161 (h0.lt 64 (by decide)) (h0.ty 64 rfl) z161 ?_
                refine J_aload_n (pc := 162) 1 dX13_reaches_162 rfl rfl ?_
                refine J_getR (pc := 163) dX13_reaches_163 fl_X13_36 (h0.lt 57 (by decide)) (h0.ty 57 rfl) rfl (h0.rf 62 rfl) ?_
                refine J_aload_n (pc := 166) 1 dX13_reaches_166 rfl rfl ?_
                refine J_getI (pc := 167) dX13_reaches_167 fl_X13_380 (h0.lt 57 (by decide)) (h0.ty 57 rfl) rfl ?_
                refine J_val (y := (q103_57_67.1 57) 24) rfl ?_
                refine J_iload_n (pc := 170) 0 dX13_reaches_170 rfl rfl ?_
                refine J_guard (fun z171 => ?_)
                refine J_iast (pc := 171) dX13_reaches_171 (h0.lt 65 (by decide)) (h0.ty 65 rfl) z171 ?_
                refine J_aload_n (pc := 172) 1 dX13_reaches_172 rfl rfl ?_
                refine J_dup (pc := 173) dX13_reaches_173 rfl ?_
                refine J_getI (pc := 174) dX13_reaches_174 fl_X13_380 (h0.lt 57 (by decide)) (h0.ty 57 rfl) rfl ?_
                refine J_val (y := (q103_57_67.1 57) 24) rfl ?_
                refine J_iconst (pc := 177) (v := 1) dX13_reaches_177 (by decide) ?_
                refine J_iadd (pc := 178) dX13_reaches_178 ?_
                refine J_putI (pc := 179) dX13_reaches_179 fl_X13_380 ft_12_24 (h0.lt 57 (by decide)) (h0.ty 57 rfl) rfl rfl rfl ?_
                refine J_loc (loc' := [(0, .ref 57), (1, .int (s57.1)), (2, .int s67_57.1)]) [1, 2, 3] rfl ?_
                exact hX13_reaches_j182_57_67 (j_sI (j_sI (j_sI (j_sI q103_57_67 63 q107_57_67.toNatClampNeg (((q103_57_67.1 63) (((q103_57_67.1 65) ((s57.1).toNatClampNeg)).toNatClampNeg)) + 1)) 64 q107_57_67.toNatClampNeg (((24 : Int32) * ((q103_57_67.1 65) ((s57.1).toNatClampNeg))) + s67_57.1)) 65 (((q103_57_67.1 57) 24).toNatClampNeg) q107_57_67) 57 24 (((q103_57_67.1 57) 24) + 1)) s67_57.1
              · refine J_goto (pc := 123) (tgt := 182) dX13_reaches_123 (by decide) ?_
                refine J_loc (loc' := [(0, .ref 57), (1, .int (s57.1)), (2, .int s67_57.1)]) [1, 2, 3] rfl ?_
                exact hX13_reaches_j182_57_67 q103_57_67 s67_57.1
            · refine J_goto (pc := 98) (tgt := 182) dX13_reaches_98 (by decide) ?_
              exact hX13_reaches_j182_57_67 q87_57_67 s67_57.1
        · show J mi_X13_reaches 0 0 0 0 (g, e67_57) 188 [(0, .ref 57), (1, .int s57.1)] [] (_)
          refine J_iinc (pc := 188) (v := s57.1 + 1) (loc' := [(1, .int (s57.1 + 1)), (0, .ref 57)]) 1 dX13_reaches_188 rfl rfl (by decide) rfl ?_
          refine J_goto (pc := 191) (tgt := 57) dX13_reaches_191 (by decide) ?_
          refine J_loc (loc' := [(0, .ref 57), (1, .int (s57.1 + 1))]) [1, 0] rfl ?_
          exact hB57 (s57.1 + 1, e67_57)
    · show J mi_X13_reaches 0 0 0 0 (g, e57) 194 [] [] (_)
      exact J_eqo (hk e57) (J_vret (pc := 194) dX13_reaches_194 rfl)
def f_X13_isMet (r_60 : Nat → Int32) (r_t0 : Nat → Int32) (r_t1 : Nat → Int32) (r_t2 : Nat → Int32) (r_t3 : Nat → Int32) (r_t4 : Nat → Int32) (r_t8 : Nat → Int32) (r_t9 : Nat → Int32) (pq0 : Int32) : Option (Bool) := (if j_out pq0 4 then none else (f_X13_owners r_60 r_t1 r_t2 r_t3 r_t4 (r_t9 pq0.toNatClampNeg)).bind (fun q10 => if (f_X13_bit (r_t0 21) pq0) = true then (if j_out pq0 4 then none else if q10 = ((1 : Int32) <<< ((r_t8 pq0.toNatClampNeg) &&& 31)) then (some true) else (some false)) else (if j_out pq0 4 then none else some (f_X13_bit q10 (r_t8 pq0.toNatClampNeg)))))
set_option maxRecDepth 100000 in
set_option maxHeartbeats 4000000 in
theorem s_X13_isMet (g : JG) (d : JD) (t : Nat) (pq0 : Int32) (h0 : j_sh g 0 TS_W RS_W) (ht : j_sh g t TS_ML RS_ML) (hla : g.2.2.1 57 3 = some t) : JM mi_X13_isMet 0 0 (g, d) [.ref 57, .int pq0] ((f_X13_isMet (d.1 60) (d.1 t) (d.1 (t + 1)) (d.1 (t + 2)) (d.1 (t + 3)) (d.1 (t + 4)) (d.1 (t + 8)) (d.1 (t + 9)) pq0).bind (fun r9 => some (some (.int (j_b r9)), (g, d)))) := by
  refine JM_of (by decide) rfl (Nat.le_of_ble_eq_true rfl) ?_
  refine J_loc (loc' := [(0, .ref 57), (1, .int pq0)]) [0, 1] rfl ?_
  obtain ⟨k, hk, hk2⟩ : ∃ k : Bool → Option (Option Value × JH), (∀ r9, k r9 = some (some (.int (j_b r9)), (g, d))) ∧ (fun r9 : Bool => (some (some (.int (j_b r9)), (g, d)) : Option (Option Value × JH))) = k := ⟨_, fun _ => rfl, rfl⟩
  rw [hk2]
  unfold f_X13_isMet
  refine J_aload_n (pc := 0) 0 dX13_isMet_0 rfl rfl ?_
  refine J_aload_n (pc := 1) 0 dX13_isMet_1 rfl rfl ?_
  refine J_getR (pc := 2) dX13_isMet_2 fl_X13_321 (h0.lt 57 (by decide)) (h0.ty 57 rfl) rfl hla ?_
  refine J_getR (pc := 5) dX13_isMet_5 fl_X13_296 (ht.lt 0 (by decide)) (ht.ty 0 rfl) rfl (ht.rf 8 rfl) ?_
  refine J_iload_n (pc := 8) 1 dX13_isMet_8 rfl rfl ?_
  refine J_guard (fun z9 => ?_)
  refine J_iald (pc := 9) dX13_isMet_9 (ht.lt 9 (by decide)) (ht.ty 9 rfl) z9 ?_
  refine JC_pp_i (J_callV (mi := mi_X13_isMet) (mj := mi_X13_owners) (pc := 10) dX13_isMet_10 ml_X13_342 ok_X13_owners ov_X13_owners ⟨Nat.le_of_ble_eq_true rfl, Nat.le_of_ble_eq_true rfl⟩ rfl (h0.lt 57 (by decide)) (h0.ty 57 rfl) rfl (s_X13_owners g d t ((d.1 (t + 9)) pq0.toNatClampNeg) h0 ht hla) rfl (Nat.le_of_ble_eq_true rfl)) (fun q10 => ?_)
  refine J_istore_n (pc := 13) (loc' := [(2, .int q10), (0, .ref 57), (1, .int pq0)]) dX13_isMet_13 rfl (by decide) rfl ?_
  refine J_aload_n (pc := 14) 1 dX13_isMet_14 rfl rfl ?_
  refine J_getR (pc := 15) dX13_isMet_15 fl_X13_321 (h0.lt 57 (by decide)) (h0.ty 57 rfl) rfl hla ?_
  refine J_getI (pc := 18) dX13_isMet_18 fl_X13_299 (ht.lt 0 (by decide)) (ht.ty 0 rfl) rfl ?_
  refine J_iload_n (pc := 21) 2 dX13_isMet_21 rfl rfl ?_
  refine JC_pt_i (J_callS (mi := mi_X13_isMet) (mj := mi_X13_bit) (pc := 22) dX13_isMet_22 ml_X13_249 ok_X13_bit os_X13_bit ⟨Nat.le_of_ble_eq_true rfl, Nat.le_of_ble_eq_true rfl⟩ rfl (s_X13_bit g d ((d.1 t) 21) pq0) rfl (Nat.le_of_ble_eq_true rfl)) ?_
  refine K_ifeq_b (K := (fun x => Option.bind x k)) (pc := 25) (tgt := 51) dX13_isMet_25 (by decide) (fun z25 => ?_) (fun z25 => ?_)
  · refine J_iload_n (pc := 51) 0 dX13_isMet_51 rfl rfl ?_
    refine J_aload_n (pc := 52) 1 dX13_isMet_52 rfl rfl ?_
    refine J_getR (pc := 53) dX13_isMet_53 fl_X13_321 (h0.lt 57 (by decide)) (h0.ty 57 rfl) rfl hla ?_
    refine J_getR (pc := 56) dX13_isMet_56 fl_X13_293 (ht.lt 0 (by decide)) (ht.ty 0 rfl) rfl (ht.rf 7 rfl) ?_
    refine J_iload_n (pc := 59) 2 dX13_isMet_59 rfl rfl ?_
    refine J_guard (fun z60 => ?_)
    refine J_iald (pc := 60) dX13_isMet_60 (ht.lt 8 (by decide)) (ht.ty 8 rfl) z60 ?_
    refine JC_pt_i (J_callS (mi := mi_X13_isMet) (mj := mi_X13_bit) (pc := 61) dX13_isMet_61 ml_X13_249 ok_X13_bit os_X13_bit ⟨Nat.le_of_ble_eq_true rfl, Nat.le_of_ble_eq_true rfl⟩ rfl (s_X13_bit g d q10 ((d.1 (t + 8)) pq0.toNatClampNeg)) rfl (Nat.le_of_ble_eq_true rfl)) ?_
    exact J_eqo (hk (f_X13_bit q10 ((d.1 (t + 8)) pq0.toNatClampNeg))) (J_zretB (pc := 64) dX13_isMet_64 rfl)
  · refine J_iload_n (pc := 28) 0 dX13_isMet_28 rfl rfl ?_
    refine J_iconst (pc := 29) (v := 1) dX13_isMet_29 (by decide) ?_
    refine J_aload_n (pc := 30) 1 dX13_isMet_30 rfl rfl ?_
    refine J_getR (pc := 31) dX13_isMet_31 fl_X13_321 (h0.lt 57 (by decide)) (h0.ty 57 rfl) rfl hla ?_
    refine J_getR (pc := 34) dX13_isMet_34 fl_X13_293 (ht.lt 0 (by decide)) (ht.ty 0 rfl) rfl (ht.rf 7 rfl) ?_
    refine J_iload_n (pc := 37) 2 dX13_isMet_37 rfl rfl ?_
    refine J_guard (fun z38 => ?_)
    refine J_iald (pc := 38) dX13_isMet_38 (ht.lt 8 (by decide)) (ht.ty 8 rfl) z38 ?_
    refine J_ishl (pc := 39) dX13_isMet_39 ?_
    refine K_icmp_ne (K := (fun x => Option.bind x k)) (pc := 40) (tgt := 47) dX13_isMet_40 (by decide) (fun z40 => ?_) (fun z40 => ?_)
    · refine J_iconst (pc := 47) (v := 0) dX13_isMet_47 (by decide) ?_
      refine J_goto (pc := 48) (tgt := 64) dX13_isMet_48 (by decide) ?_
      exact J_eqo (hk false) (J_zretB (pc := 64) dX13_isMet_64 rfl)
    · refine J_iconst (pc := 43) (v := 1) dX13_isMet_43 (by decide) ?_
      refine J_goto (pc := 44) (tgt := 64) dX13_isMet_44 (by decide) ?_
      exact J_eqo (hk true) (J_zretB (pc := 64) dX13_isMet_64 rfl)
def f_X13_metNow_j31_4 (r_60 : Nat → Int32) (r_t0 : Nat → Int32) (r_t1 : Nat → Int32) (r_t2 : Nat → Int32) (r_t3 : Nat → Int32) (r_t4 : Nat → Int32) (r_t8 : Nat → Int32) (r_t9 : Nat → Int32) (x2_31_4 : Int32) (y0_31_4 : Int32) (y1_31_4 : Int32) : Option ((Int32 × Int32) ⊕ (Int32)) := (some (.inl (y1_31_4 ||| y0_31_4, x2_31_4 + 1)))
def f_X13_metNow_w4 (r_60 : Nat → Int32) (r_t0 : Nat → Int32) (r_t1 : Nat → Int32) (r_t2 : Nat → Int32) (r_t3 : Nat → Int32) (r_t4 : Nat → Int32) (r_t8 : Nat → Int32) (r_t9 : Nat → Int32) (s4 : Int32 × Int32) : Option ((Int32 × Int32) ⊕ (Int32)) := (if (r_t0 6) ≤ s4.2 then some (.inr s4.1) else ((f_X13_isMet r_60 r_t0 r_t1 r_t2 r_t3 r_t4 r_t8 r_t9 s4.2).bind (fun q18_4 => if q18_4 = true then (f_X13_metNow_j31_4 r_60 r_t0 r_t1 r_t2 r_t3 r_t4 r_t8 r_t9 s4.2 ((1 : Int32) <<< (s4.2 &&& 31)) s4.1) else (f_X13_metNow_j31_4 r_60 r_t0 r_t1 r_t2 r_t3 r_t4 r_t8 r_t9 s4.2 0 s4.1))))
def f_X13_metNow (r_60 : Nat → Int32) (r_t0 : Nat → Int32) (r_t1 : Nat → Int32) (r_t2 : Nat → Int32) (r_t3 : Nat → Int32) (r_t4 : Nat → Int32) (r_t8 : Nat → Int32) (r_t9 : Nat → Int32) : Option (Int32) := ((j_wh (f_X13_metNow_w4 r_60 r_t0 r_t1 r_t2 r_t3 r_t4 r_t8 r_t9 ) j_fuel (0, 0)).bind (fun (e4 : Int32) => (some e4)))
set_option maxRecDepth 100000 in
set_option maxHeartbeats 4000000 in
theorem s_X13_metNow (g : JG) (d : JD) (t : Nat) (h0 : j_sh g 0 TS_W RS_W) (ht : j_sh g t TS_ML RS_ML) (hla : g.2.2.1 57 3 = some t) : JM mi_X13_metNow 0 0 (g, d) [.ref 57] ((f_X13_metNow (d.1 60) (d.1 t) (d.1 (t + 1)) (d.1 (t + 2)) (d.1 (t + 3)) (d.1 (t + 4)) (d.1 (t + 8)) (d.1 (t + 9)) ).bind (fun r9 => some (some (.int r9), (g, d)))) := by
  refine JM_of (by decide) rfl (Nat.le_of_ble_eq_true rfl) ?_
  refine J_loc (loc' := [(0, .ref 57)]) [0] rfl ?_
  obtain ⟨k, hk, hk2⟩ : ∃ k : Int32 → Option (Option Value × JH), (∀ r9, k r9 = some (some (.int r9), (g, d))) ∧ (fun r9 : Int32 => (some (some (.int r9), (g, d)) : Option (Option Value × JH))) = k := ⟨_, fun _ => rfl, rfl⟩
  rw [hk2]
  unfold f_X13_metNow
  refine J_iconst (pc := 0) (v := 0) dX13_metNow_0 (by decide) ?_
  refine J_istore_n (pc := 1) (loc' := [(1, .int 0), (0, .ref 57)]) dX13_metNow_1 rfl (by decide) rfl ?_
  refine J_iconst (pc := 2) (v := 0) dX13_metNow_2 (by decide) ?_
  refine J_istore_n (pc := 3) (loc' := [(2, .int 0), (1, .int 0), (0, .ref 57)]) dX13_metNow_3 rfl (by decide) rfl ?_
  refine J_loc (loc' := [(0, .ref 57), (1, .int 0), (2, .int 0)]) [2, 1, 0] rfl ?_
  refine J_whL (F := f_X13_metNow_w4 (d.1 60) (d.1 t) (d.1 (t + 1)) (d.1 (t + 2)) (d.1 (t + 3)) (d.1 (t + 4)) (d.1 (t + 8)) (d.1 (t + 9)) ) (hp := fun (s4 : Int32 × Int32) => (g, d)) (lc := fun (s4 : Int32 × Int32) => [(0, .ref 57), (1, .int s4.1), (2, .int s4.2)]) (XJ := fun (e4 : Int32) o9 => J mi_X13_metNow 0 0 0 0 (g, d) 39 [(1, .int e4)] [] o9) (fun s4 k4 hB4 hX4 => ?_) (fun e4 => ?_) _ (0, 0)
  · show J mi_X13_metNow 0 0 0 0 (g, d) 4 [(0, .ref 57), (1, .int s4.1), (2, .int s4.2)] [] ((f_X13_metNow_w4 (d.1 60) (d.1 t) (d.1 (t + 1)) (d.1 (t + 2)) (d.1 (t + 3)) (d.1 (t + 4)) (d.1 (t + 8)) (d.1 (t + 9)) s4).bind k4)
    unfold f_X13_metNow_w4
    have hX13_metNow_j31_4 : ∀ (x2_31_4 : Int32) (y0_31_4 : Int32) (y1_31_4 : Int32), J mi_X13_metNow 0 0 0 0 (g, d) 31 [(0, .ref 57), (2, .int x2_31_4)] [.int y0_31_4, .int y1_31_4] ((f_X13_metNow_j31_4 (d.1 60) (d.1 t) (d.1 (t + 1)) (d.1 (t + 2)) (d.1 (t + 3)) (d.1 (t + 4)) (d.1 (t + 8)) (d.1 (t + 9)) x2_31_4 y0_31_4 y1_31_4).bind k4) := by
      intro x2_31_4 y0_31_4 y1_31_4
      unfold f_X13_metNow_j31_4
      refine J_ior (pc := 31) dX13_metNow_31 ?_
      refine J_istore_n (pc := 32) (loc' := [(1, .int (y1_31_4 ||| y0_31_4)), (0, .ref 57), (2, .int x2_31_4)]) dX13_metNow_32 rfl (by decide) rfl ?_
      refine J_iinc (pc := 33) (v := x2_31_4 + 1) (loc' := [(2, .int (x2_31_4 + 1)), (1, .int (y1_31_4 ||| y0_31_4)), (0, .ref 57)]) 2 dX13_metNow_33 rfl rfl (by decide) rfl ?_
      refine J_goto (pc := 36) (tgt := 4) dX13_metNow_36 (by decide) ?_
      refine J_loc (loc' := [(0, .ref 57), (1, .int (y1_31_4 ||| y0_31_4)), (2, .int (x2_31_4 + 1))]) [2, 1, 0] rfl ?_
      exact hB4 (y1_31_4 ||| y0_31_4, x2_31_4 + 1)
    refine J_iload_n (pc := 4) 2 dX13_metNow_4 rfl rfl ?_
    refine J_aload_n (pc := 5) 0 dX13_metNow_5 rfl rfl ?_
    refine J_getR (pc := 6) dX13_metNow_6 fl_X13_321 (h0.lt 57 (by decide)) (h0.ty 57 rfl) rfl hla ?_
    refine J_getI (pc := 9) dX13_metNow_9 fl_X13_291 (ht.lt 0 (by decide)) (ht.ty 0 rfl) rfl ?_
    refine K_icmp_ge (K := (fun x => Option.bind x k4)) (pc := 12) (tgt := 39) dX13_metNow_12 (by decide) (fun z12 => ?_) (fun z12 => ?_)
    · refine J_loc (loc' := [(1, .int s4.1)]) [1] rfl ?_
      exact hX4 s4.1
    · refine J_iload_n (pc := 15) 1 dX13_metNow_15 rfl rfl ?_
      refine J_aload_n (pc := 16) 0 dX13_metNow_16 rfl rfl ?_
      refine J_iload_n (pc := 17) 2 dX13_metNow_17 rfl rfl ?_
      refine JC_pp_b (J_callV (mi := mi_X13_metNow) (mj := mi_X13_isMet) (pc := 18) dX13_metNow_18 ml_X13_389 ok_X13_isMet ov_X13_isMet ⟨Nat.le_of_ble_eq_true rfl, Nat.le_of_ble_eq_true rfl⟩ rfl (h0.lt 57 (by decide)) (h0.ty 57 rfl) rfl (s_X13_isMet g d t s4.2 h0 ht hla) rfl (Nat.le_of_ble_eq_true rfl)) (fun q18_4 => ?_)
      refine K_ifeq_b (K := (fun x => Option.bind x k4)) (pc := 21) (tgt := 30) dX13_metNow_21 (by decide) (fun z21 => ?_) (fun z21 => ?_)
      · refine J_iconst (pc := 30) (v := 0) dX13_metNow_30 (by decide) ?_
        refine J_loc (loc' := [(0, .ref 57), (2, .int s4.2)]) [0, 2] rfl ?_
        exact hX13_metNow_j31_4 s4.2 0 s4.1
      · refine J_iconst (pc := 24) (v := 1) dX13_metNow_24 (by decide) ?_
        refine J_iload_n (pc := 25) 2 dX13_metNow_25 rfl rfl ?_
        refine J_ishl (pc := 26) dX13_metNow_26 ?_
        refine J_goto (pc := 27) (tgt := 31) dX13_metNow_27 (by decide) ?_
        refine J_loc (loc' := [(0, .ref 57), (2, .int s4.2)]) [0, 2] rfl ?_
        exact hX13_metNow_j31_4 s4.2 ((1 : Int32) <<< (s4.2 &&& 31)) s4.1
  · show J mi_X13_metNow 0 0 0 0 (g, d) 39 [(1, .int e4)] [] (_)
    refine J_iload_n (pc := 39) 0 dX13_metNow_39 rfl rfl ?_
    exact J_eqo (hk e4) (J_iret (pc := 40) dX13_metNow_40 rfl)
def f_X13_errandEnd_w6 (t : Nat) (s6 : Int32 × JD) : Option ((Int32 × JD) ⊕ ((Int32 × JD) ⊕ (JD))) := (if ((s6.2.1 57) 24) ≤ s6.1 then some (.inr (.inr s6.2)) else (if j_out s6.1 729 then none else (f_X13_lays t s6.2 ((s6.2.1 65) s6.1.toNatClampNeg)).bind (fun q21_6 => (f_X13_metNow (q21_6.1 60) (q21_6.1 t) (q21_6.1 (t + 1)) (q21_6.1 (t + 2)) (q21_6.1 (t + 3)) (q21_6.1 (t + 4)) (q21_6.1 (t + 8)) (q21_6.1 (t + 9))).bind (fun q25_6 => (f_X13_bits q25_6).bind (fun q28_6 => if q28_6 = ((q21_6.1 t) 6) then (if j_out s6.1 729 then none else some (Sum.inr (Sum.inl ((q21_6.1 65) s6.1.toNatClampNeg, q21_6)))) else (some (.inl (s6.1 + 1, q21_6))))))))
def f_X13_errandEnd (t : Nat) (d : JD) : Option (Int32 × JD) := ((f_X13_reaches t d).bind (fun q1 => (j_wh (f_X13_errandEnd_w6 t ) j_fuel (0, q1)).bind (Sum.elim (fun r9 => some r9) (fun (e6 : JD) => (some ((-1), e6))))))
set_option maxRecDepth 100000 in
set_option maxHeartbeats 4000000 in
theorem s_X13_errandEnd (g : JG) (d : JD) (t : Nat) (h0 : j_sh g 0 TS_W RS_W) (ht : j_sh g t TS_ML RS_ML) (hla : g.2.2.1 57 3 = some t) : JM mi_X13_errandEnd 0 0 (g, d) [.ref 57] ((f_X13_errandEnd t d ).bind (fun r9 => some (some (.int r9.1), (g, r9.2)))) := by
  refine JM_of (by decide) rfl (Nat.le_of_ble_eq_true rfl) ?_
  refine J_loc (loc' := [(0, .ref 57)]) [0] rfl ?_
  obtain ⟨k, hk, hk2⟩ : ∃ k : Int32 × JD → Option (Option Value × JH), (∀ r9, k r9 = some (some (.int r9.1), (g, r9.2))) ∧ (fun r9 : Int32 × JD => (some (some (.int r9.1), (g, r9.2)) : Option (Option Value × JH))) = k := ⟨_, fun _ => rfl, rfl⟩
  rw [hk2]
  unfold f_X13_errandEnd
  refine J_aload_n (pc := 0) 0 dX13_errandEnd_0 rfl rfl ?_
  refine JC_pe_v (J_callV (mi := mi_X13_errandEnd) (mj := mi_X13_reaches) (pc := 1) dX13_errandEnd_1 ml_X13_392 ok_X13_reaches ov_X13_reaches ⟨Nat.le_of_ble_eq_true rfl, Nat.le_of_ble_eq_true rfl⟩ rfl (h0.lt 57 (by decide)) (h0.ty 57 rfl) rfl (s_X13_reaches g d t h0 ht hla) rfl (Nat.le_of_ble_eq_true rfl)) (fun q1 => ?_)
  refine J_iconst (pc := 4) (v := 0) dX13_errandEnd_4 (by decide) ?_
  refine J_istore_n (pc := 5) (loc' := [(1, .int 0), (0, .ref 57)]) dX13_errandEnd_5 rfl (by decide) rfl ?_
  refine J_loc (loc' := [(0, .ref 57), (1, .int 0)]) [1, 0] rfl ?_
  refine J_whR (F := f_X13_errandEnd_w6 t ) (fr := fun r9 => some r9) (k := k) (hp := fun (s6 : Int32 × JD) => (g, s6.2)) (lc := fun (s6 : Int32 × JD) => [(0, .ref 57), (1, .int s6.1)]) (XJ := fun (e6 : JD) o9 => J mi_X13_errandEnd 0 0 0 0 (g, e6) 54 [] [] o9) (RJ := fun r9 o9 => o9 = some (some (.int r9.1), (g, r9.2))) (fun s6 k6 hB6 hR6 hX6 => ?_) (fun e6 => ?_) (fun r9 => hk r9) _ (0, q1)
  · show J mi_X13_errandEnd 0 0 0 0 (g, s6.2) 6 [(0, .ref 57), (1, .int s6.1)] [] ((f_X13_errandEnd_w6 t s6).bind k6)
    unfold f_X13_errandEnd_w6
    refine J_iload_n (pc := 6) 1 dX13_errandEnd_6 rfl rfl ?_
    refine J_aload_n (pc := 7) 0 dX13_errandEnd_7 rfl rfl ?_
    refine J_getI (pc := 8) dX13_errandEnd_8 fl_X13_380 (h0.lt 57 (by decide)) (h0.ty 57 rfl) rfl ?_
    refine K_icmp_ge (K := (fun x => Option.bind x k6)) (pc := 11) (tgt := 54) dX13_errandEnd_11 (by decide) (fun z11 => ?_) (fun z11 => ?_)
    · refine J_loc (loc' := []) [] rfl ?_
      exact hX6 s6.2
    · refine J_aload_n (pc := 14) 0 dX13_errandEnd_14 rfl rfl ?_
      refine J_aload_n (pc := 15) 0 dX13_errandEnd_15 rfl rfl ?_
      refine J_getR (pc := 16) dX13_errandEnd_16 fl_X13_36 (h0.lt 57 (by decide)) (h0.ty 57 rfl) rfl (h0.rf 62 rfl) ?_
      refine J_iload_n (pc := 19) 1 dX13_errandEnd_19 rfl rfl ?_
      refine J_guard (fun z20 => ?_)
      refine J_iald (pc := 20) dX13_errandEnd_20 (h0.lt 65 (by decide)) (h0.ty 65 rfl) z20 ?_
      refine JC_pe_v (J_callV (mi := mi_X13_errandEnd) (mj := mi_X13_lays) (pc := 21) dX13_errandEnd_21 ml_X13_383 ok_X13_lays ov_X13_lays ⟨Nat.le_of_ble_eq_true rfl, Nat.le_of_ble_eq_true rfl⟩ rfl (h0.lt 57 (by decide)) (h0.ty 57 rfl) rfl (s_X13_lays g s6.2 t ((s6.2.1 65) s6.1.toNatClampNeg) h0 ht hla) rfl (Nat.le_of_ble_eq_true rfl)) (fun q21_6 => ?_)
      refine J_aload_n (pc := 24) 0 dX13_errandEnd_24 rfl rfl ?_
      refine JC_pp_i (J_callV (mi := mi_X13_errandEnd) (mj := mi_X13_metNow) (pc := 25) dX13_errandEnd_25 ml_X13_395 ok_X13_metNow ov_X13_metNow ⟨Nat.le_of_ble_eq_true rfl, Nat.le_of_ble_eq_true rfl⟩ rfl (h0.lt 57 (by decide)) (h0.ty 57 rfl) rfl (s_X13_metNow g q21_6 t h0 ht hla) rfl (Nat.le_of_ble_eq_true rfl)) (fun q25_6 => ?_)
      refine JC_pp_i (J_callS (mi := mi_X13_errandEnd) (mj := mi_X13_bits) (pc := 28) dX13_errandEnd_28 ml_X13_335 ok_X13_bits os_X13_bits ⟨Nat.le_of_ble_eq_true rfl, Nat.le_of_ble_eq_true rfl⟩ rfl (s_X13_bits g q21_6 q25_6) rfl (Nat.le_of_ble_eq_true rfl)) (fun q28_6 => ?_)
      refine J_aload_n (pc := 31) 0 dX13_errandEnd_31 rfl rfl ?_
      refine J_getR (pc := 32) dX13_errandEnd_32 fl_X13_321 (h0.lt 57 (by decide)) (h0.ty 57 rfl) rfl hla ?_
      refine J_getI (pc := 35) dX13_errandEnd_35 fl_X13_291 (ht.lt 0 (by decide)) (ht.ty 0 rfl) rfl ?_
      refine K_icmp_ne (K := (fun x => Option.bind x k6)) (pc := 38) (tgt := 48) dX13_errandEnd_38 (by decide) (fun z38 => ?_) (fun z38 => ?_)
      · refine J_iinc (pc := 48) (v := s6.1 + 1) (loc' := [(1, .int (s6.1 + 1)), (0, .ref 57)]) 1 dX13_errandEnd_48 rfl rfl (by decide) rfl ?_
        refine J_goto (pc := 51) (tgt := 6) dX13_errandEnd_51 (by decide) ?_
        refine J_loc (loc' := [(0, .ref 57), (1, .int (s6.1 + 1))]) [1, 0] rfl ?_
        exact hB6 (s6.1 + 1, q21_6)
      · refine J_aload_n (pc := 41) 0 dX13_errandEnd_41 rfl rfl ?_
        refine J_getR (pc := 42) dX13_errandEnd_42 fl_X13_36 (h0.lt 57 (by decide)) (h0.ty 57 rfl) rfl (h0.rf 62 rfl) ?_
        refine J_iload_n (pc := 45) 1 dX13_errandEnd_45 rfl rfl ?_
        refine J_guard (fun z46 => ?_)
        refine J_iald (pc := 46) dX13_errandEnd_46 (h0.lt 65 (by decide)) (h0.ty 65 rfl) z46 ?_
        exact J_eqo (hR6 ((q21_6.1 65) s6.1.toNatClampNeg, q21_6)) (J_iret (pc := 47) dX13_errandEnd_47 rfl)
  · show J mi_X13_errandEnd 0 0 0 0 (g, e6) 54 [] [] (_)
    refine J_iconst (pc := 54) (v := (-1)) dX13_errandEnd_54 (by decide) ?_
    exact J_eqo (hk ((-1), e6)) (J_iret (pc := 55) dX13_errandEnd_55 rfl)
def f_X13_errand_j40 (t : Nat) (d40 : JD) (y0_40 : Int32) : Option (Int32 × JD) := (j_let (f_X13_good d40 y0_40) (fun q40 => some (q40.1, q40.2)))
def f_X13_errand (t : Nat) (d : JD) : Option (Int32 × JD) := ((f_X13_errandEnd t (j_sI d 57 0 0)).bind (fun q19 => if q19.1 = (-1) then (f_X13_errand_j40 t q19.2 (-2)) else (if j_out q19.1 729 then none else f_X13_errand_j40 t q19.2 ((q19.2.1 63) q19.1.toNatClampNeg))))
set_option maxRecDepth 100000 in
set_option maxHeartbeats 4000000 in
theorem s_X13_errand (g : JG) (d : JD) (t : Nat) (h0 : j_sh g 0 TS_W RS_W) (ht : j_sh g t TS_ML RS_ML) (hla : g.2.2.1 57 3 = some t) : JM mi_X13_errand 0 0 (g, d) [.ref 57] ((f_X13_errand t d ).bind (fun r9 => some (some (.int r9.1), (g, r9.2)))) := by
  refine JM_of (by decide) rfl (Nat.le_of_ble_eq_true rfl) ?_
  refine J_loc (loc' := [(0, .ref 57)]) [0] rfl ?_
  obtain ⟨k, hk, hk2⟩ : ∃ k : Int32 × JD → Option (Option Value × JH), (∀ r9, k r9 = some (some (.int r9.1), (g, r9.2))) ∧ (fun r9 : Int32 × JD => (some (some (.int r9.1), (g, r9.2)) : Option (Option Value × JH))) = k := ⟨_, fun _ => rfl, rfl⟩
  rw [hk2]
  unfold f_X13_errand
  have hX13_errand_j40 : ∀ (d40 : JD) (y0_40 : Int32), J mi_X13_errand 0 0 0 0 (g, d40) 40 [] [.int y0_40, .ref 57] ((f_X13_errand_j40 t d40 y0_40).bind k) := by
    intro d40 y0_40
    unfold f_X13_errand_j40
    refine JC_lt_i (K := (fun x => Option.bind x k)) (J_callV (mi := mi_X13_errand) (mj := mi_X13_good) (pc := 40) dX13_errand_40 ml_X13_52 ok_X13_good ov_X13_good ⟨Nat.le_of_ble_eq_true rfl, Nat.le_of_ble_eq_true rfl⟩ rfl (h0.lt 57 (by decide)) (h0.ty 57 rfl) rfl (s_X13_good g d40 y0_40 h0) rfl (Nat.le_of_ble_eq_true rfl)) (fun q40 eq40 => ?_)
    exact J_eqo (hk (q40.1, q40.2)) (J_iret (pc := 43) dX13_errand_43 rfl)
  refine J_aload_n (pc := 0) 0 dX13_errand_0 rfl rfl ?_
  refine J_iconst (pc := 1) (v := 0) dX13_errand_1 (by decide) ?_
  refine J_putI (pc := 2) dX13_errand_2 fl_X13_42 ft_12_0 (h0.lt 57 (by decide)) (h0.ty 57 rfl) rfl rfl rfl ?_
  refine J_aload_n (pc := 5) 0 dX13_errand_5 rfl rfl ?_
  refine J_getR (pc := 6) dX13_errand_6 fl_X13_321 (h0.lt 57 (by decide)) (h0.ty 57 rfl) rfl hla ?_
  refine J_ifnonnull (pc := 9) (tgt := 18) dX13_errand_9 (by decide) ?_
  refine J_aload_n (pc := 18) 0 dX13_errand_18 rfl rfl ?_
  refine JC_pe_i (J_callV (mi := mi_X13_errand) (mj := mi_X13_errandEnd) (pc := 19) dX13_errand_19 ml_X13_398 ok_X13_errandEnd ov_X13_errandEnd ⟨Nat.le_of_ble_eq_true rfl, Nat.le_of_ble_eq_true rfl⟩ rfl (h0.lt 57 (by decide)) (h0.ty 57 rfl) rfl (s_X13_errandEnd g (j_sI d 57 0 0) t h0 ht hla) rfl (Nat.le_of_ble_eq_true rfl)) (fun q19 => ?_)
  refine J_istore_n (pc := 22) (loc' := [(1, .int q19.1), (0, .ref 57)]) dX13_errand_22 rfl (by decide) rfl ?_
  refine J_aload_n (pc := 23) 1 dX13_errand_23 rfl rfl ?_
  refine J_iload_n (pc := 24) 0 dX13_errand_24 rfl rfl ?_
  refine J_iconst (pc := 25) (v := (-1)) dX13_errand_25 (by decide) ?_
  refine K_icmp_ne (K := (fun x => Option.bind x k)) (pc := 26) (tgt := 34) dX13_errand_26 (by decide) (fun z26 => ?_) (fun z26 => ?_)
  · refine J_aload_n (pc := 34) 1 dX13_errand_34 rfl rfl ?_
    refine J_getR (pc := 35) dX13_errand_35 fl_X13_30 (h0.lt 57 (by decide)) (h0.ty 57 rfl) rfl (h0.rf 60 rfl) ?_
    refine J_iload_n (pc := 38) 0 dX13_errand_38 rfl rfl ?_
    refine J_guard (fun z39 => ?_)
    refine J_iald (pc := 39) dX13_errand_39 (h0.lt 63 (by decide)) (h0.ty 63 rfl) z39 ?_
    refine J_loc (loc' := []) [] rfl ?_
    exact hX13_errand_j40 q19.2 ((q19.2.1 63) q19.1.toNatClampNeg)
  · refine J_bipush (pc := 29) (v := (-2)) dX13_errand_29 (by decide) ?_
    refine J_goto (pc := 31) (tgt := 40) dX13_errand_31 (by decide) ?_
    refine J_loc (loc' := []) [] rfl ?_
    exact hX13_errand_j40 q19.2 (-2)
def f_X13_errandAt_j42 (t : Nat) (d42 : JD) : Option (Int32 × JD) := (j_let (f_X13_refused d42 1) (fun q44 => some (q44.1, q44.2)))
def f_X13_errandAt_w48 (t : Nat) (c1_48 : Int32) (d : JD) (s48 : Int32) : Option ((Int32) ⊕ (Int32)) := (if j_out s48 729 then none else if (((d).1 63) s48.toNatClampNeg) ≤ ((c1_48) + 1) then some (.inr s48) else (if j_out s48 729 then none else some (.inl ((((d).1 64) s48.toNatClampNeg) / 24))))
def f_X13_errandAt (t : Nat) (d : JD) (pq0 : Int32) : Option (Int32 × JD) := ((f_X13_errandEnd t (j_sI d 57 0 0)).bind (fun q19 => if q19.1 = (-1) then f_X13_errandAt_j42 t q19.2 else (if pq0 < 0 then f_X13_errandAt_j42 t q19.2 else (if j_out q19.1 729 then none else if pq0 < ((q19.2.1 63) q19.1.toNatClampNeg) then (j_wh (f_X13_errandAt_w48 t pq0 q19.2 ) j_fuel q19.1).bind (fun (e48 : Int32) => (if j_out e48 729 then none else j_let (f_X13_good q19.2 (((q19.2.1 64) e48.toNatClampNeg) - ((q19.2.1 64) e48.toNatClampNeg) / 24 * 24)) (fun q83 => some (q83.1, q83.2)))) else f_X13_errandAt_j42 t q19.2 ))))
set_option maxRecDepth 100000 in
set_option maxHeartbeats 4000000 in
theorem s_X13_errandAt (g : JG) (d : JD) (t : Nat) (pq0 : Int32) (h0 : j_sh g 0 TS_W RS_W) (ht : j_sh g t TS_ML RS_ML) (hla : g.2.2.1 57 3 = some t) : JM mi_X13_errandAt 0 0 (g, d) [.ref 57, .int pq0] ((f_X13_errandAt t d pq0).bind (fun r9 => some (some (.int r9.1), (g, r9.2)))) := by
  refine JM_of (by decide) rfl (Nat.le_of_ble_eq_true rfl) ?_
  refine J_loc (loc' := [(0, .ref 57), (1, .int pq0)]) [0, 1] rfl ?_
  obtain ⟨k, hk, hk2⟩ : ∃ k : Int32 × JD → Option (Option Value × JH), (∀ r9, k r9 = some (some (.int r9.1), (g, r9.2))) ∧ (fun r9 : Int32 × JD => (some (some (.int r9.1), (g, r9.2)) : Option (Option Value × JH))) = k := ⟨_, fun _ => rfl, rfl⟩
  rw [hk2]
  unfold f_X13_errandAt
  have hX13_errandAt_j42 : ∀ (d42 : JD) , J mi_X13_errandAt 0 0 0 0 (g, d42) 42 [(0, .ref 57)] [] ((f_X13_errandAt_j42 t d42 ).bind k) := by
    intro d42 
    unfold f_X13_errandAt_j42
    refine J_aload_n (pc := 42) 0 dX13_errandAt_42 rfl rfl ?_
    refine J_iconst (pc := 43) (v := 1) dX13_errandAt_43 (by decide) ?_
    refine JC_lt_i (K := (fun x => Option.bind x k)) (J_callV (mi := mi_X13_errandAt) (mj := mi_X13_refused) (pc := 44) dX13_errandAt_44 ml_X13_48 ok_X13_refused ov_X13_refused ⟨Nat.le_of_ble_eq_true rfl, Nat.le_of_ble_eq_true rfl⟩ rfl (h0.lt 57 (by decide)) (h0.ty 57 rfl) rfl (s_X13_refused g d42 1 h0) rfl (Nat.le_of_ble_eq_true rfl)) (fun q44 eq44 => ?_)
    exact J_eqo (hk (q44.1, q44.2)) (J_iret (pc := 47) dX13_errandAt_47 rfl)
  refine J_aload_n (pc := 0) 0 dX13_errandAt_0 rfl rfl ?_
  refine J_iconst (pc := 1) (v := 0) dX13_errandAt_1 (by decide) ?_
  refine J_putI (pc := 2) dX13_errandAt_2 fl_X13_42 ft_12_0 (h0.lt 57 (by decide)) (h0.ty 57 rfl) rfl rfl rfl ?_
  refine J_aload_n (pc := 5) 0 dX13_errandAt_5 rfl rfl ?_
  refine J_getR (pc := 6) dX13_errandAt_6 fl_X13_321 (h0.lt 57 (by decide)) (h0.ty 57 rfl) rfl hla ?_
  refine J_ifnonnull (pc := 9) (tgt := 18) dX13_errandAt_9 (by decide) ?_
  refine J_aload_n (pc := 18) 0 dX13_errandAt_18 rfl rfl ?_
  refine JC_pe_i (J_callV (mi := mi_X13_errandAt) (mj := mi_X13_errandEnd) (pc := 19) dX13_errandAt_19 ml_X13_398 ok_X13_errandEnd ov_X13_errandEnd ⟨Nat.le_of_ble_eq_true rfl, Nat.le_of_ble_eq_true rfl⟩ rfl (h0.lt 57 (by decide)) (h0.ty 57 rfl) rfl (s_X13_errandEnd g (j_sI d 57 0 0) t h0 ht hla) rfl (Nat.le_of_ble_eq_true rfl)) (fun q19 => ?_)
  refine J_istore_n (pc := 22) (loc' := [(2, .int q19.1), (0, .ref 57), (1, .int pq0)]) dX13_errandAt_22 rfl (by decide) rfl ?_
  refine J_iload_n (pc := 23) 0 dX13_errandAt_23 rfl rfl ?_
  refine J_iconst (pc := 24) (v := (-1)) dX13_errandAt_24 (by decide) ?_
  refine K_icmp_eq (K := (fun x => Option.bind x k)) (pc := 25) (tgt := 42) dX13_errandAt_25 (by decide) (fun z25 => ?_) (fun z25 => ?_)
  · refine J_loc (loc' := [(0, .ref 57)]) [1] rfl ?_
    exact hX13_errandAt_j42 q19.2 
  · refine J_iload_n (pc := 28) 2 dX13_errandAt_28 rfl rfl ?_
    refine K_if_lt (K := (fun x => Option.bind x k)) (pc := 29) (tgt := 42) dX13_errandAt_29 (by decide) (fun z29 => ?_) (fun z29 => ?_)
    · refine J_loc (loc' := [(0, .ref 57)]) [1] rfl ?_
      exact hX13_errandAt_j42 q19.2 
    · refine J_iload_n (pc := 32) 2 dX13_errandAt_32 rfl rfl ?_
      refine J_aload_n (pc := 33) 1 dX13_errandAt_33 rfl rfl ?_
      refine J_getR (pc := 34) dX13_errandAt_34 fl_X13_30 (h0.lt 57 (by decide)) (h0.ty 57 rfl) rfl (h0.rf 60 rfl) ?_
      refine J_iload_n (pc := 37) 0 dX13_errandAt_37 rfl rfl ?_
      refine J_guard (fun z38 => ?_)
      refine J_iald (pc := 38) dX13_errandAt_38 (h0.lt 63 (by decide)) (h0.ty 63 rfl) z38 ?_
      refine K_icmp_lt (K := (fun x => Option.bind x k)) (pc := 39) (tgt := 48) dX13_errandAt_39 (by decide) (fun z39 => ?_) (fun z39 => ?_)
      · refine J_loc (loc' := [(0, .ref 57), (1, .int pq0), (2, .int q19.1)]) [1, 2, 0] rfl ?_
        refine J_whL (F := f_X13_errandAt_w48 t pq0 q19.2 ) (hp := fun (s48 : Int32) => (g, q19.2)) (lc := fun (s48 : Int32) => [(0, .ref 57), (1, .int (pq0)), (2, .int s48)]) (XJ := fun (e48 : Int32) o9 => J mi_X13_errandAt 0 0 0 0 (g, q19.2) 73 [(0, .ref 57), (2, .int e48)] [] o9) (fun s48 k48 hB48 hX48 => ?_) (fun e48 => ?_) _ q19.1
        · show J mi_X13_errandAt 0 0 0 0 (g, q19.2) 48 [(0, .ref 57), (1, .int (pq0)), (2, .int s48)] [] ((f_X13_errandAt_w48 t pq0 q19.2 s48).bind k48)
          unfold f_X13_errandAt_w48
          refine J_aload_n (pc := 48) 0 dX13_errandAt_48 rfl rfl ?_
          refine J_getR (pc := 49) dX13_errandAt_49 fl_X13_30 (h0.lt 57 (by decide)) (h0.ty 57 rfl) rfl (h0.rf 60 rfl) ?_
          refine J_iload_n (pc := 52) 2 dX13_errandAt_52 rfl rfl ?_
          refine J_guard (fun z53 => ?_)
          refine J_iald (pc := 53) dX13_errandAt_53 (h0.lt 63 (by decide)) (h0.ty 63 rfl) z53 ?_
          refine J_iload_n (pc := 54) 1 dX13_errandAt_54 rfl rfl ?_
          refine J_iconst (pc := 55) (v := 1) dX13_errandAt_55 (by decide) ?_
          refine J_iadd (pc := 56) dX13_errandAt_56 ?_
          refine K_icmp_le (K := (fun x => Option.bind x k48)) (pc := 57) (tgt := 73) dX13_errandAt_57 (by decide) (fun z57 => ?_) (fun z57 => ?_)
          · refine J_loc (loc' := [(0, .ref 57), (2, .int s48)]) [0, 2] rfl ?_
            exact hX48 s48
          · refine J_aload_n (pc := 60) 0 dX13_errandAt_60 rfl rfl ?_
            refine J_getR (pc := 61) dX13_errandAt_61 fl_X13_33 (h0.lt 57 (by decide)) (h0.ty 57 rfl) rfl (h0.rf 61 rfl) ?_
            refine J_iload_n (pc := 64) 2 dX13_errandAt_64 rfl rfl ?_
            refine J_guard (fun z65 => ?_)
            refine J_iald (pc := 65) dX13_errandAt_65 (h0.lt 64 (by decide)) (h0.ty 64 rfl) z65 ?_
            refine J_bipush (pc := 66) (v := 24) dX13_errandAt_66 (by decide) ?_
            refine J_idiv (pc := 68) dX13_errandAt_68 (by decide) ?_
            refine J_istore_n (pc := 69) (loc' := [(2, .int ((((q19.2).1 64) s48.toNatClampNeg) / 24)), (0, .ref 57), (1, .int (pq0))]) dX13_errandAt_69 rfl (by decide) rfl ?_
            refine J_goto (pc := 70) (tgt := 48) dX13_errandAt_70 (by decide) ?_
            refine J_loc (loc' := [(0, .ref 57), (1, .int (pq0)), (2, .int ((((q19.2).1 64) s48.toNatClampNeg) / 24))]) [1, 2, 0] rfl ?_
            exact hB48 ((((q19.2).1 64) s48.toNatClampNeg) / 24)
        · show J mi_X13_errandAt 0 0 0 0 (g, q19.2) 73 [(0, .ref 57), (2, .int e48)] [] (_)
          refine J_aload_n (pc := 73) 0 dX13_errandAt_73 rfl rfl ?_
          refine J_aload_n (pc := 74) 0 dX13_errandAt_74 rfl rfl ?_
          refine J_getR (pc := 75) dX13_errandAt_75 fl_X13_33 (h0.lt 57 (by decide)) (h0.ty 57 rfl) rfl (h0.rf 61 rfl) ?_
          refine J_iload_n (pc := 78) 1 dX13_errandAt_78 rfl rfl ?_
          refine J_guard (fun z79 => ?_)
          refine J_iald (pc := 79) dX13_errandAt_79 (h0.lt 64 (by decide)) (h0.ty 64 rfl) z79 ?_
          refine J_bipush (pc := 80) (v := 24) dX13_errandAt_80 (by decide) ?_
          refine J_irem (pc := 82) dX13_errandAt_82 (by decide) ?_
          refine JC_lt_i (K := (fun x => Option.bind x k)) (J_callV (mi := mi_X13_errandAt) (mj := mi_X13_good) (pc := 83) dX13_errandAt_83 ml_X13_52 ok_X13_good ov_X13_good ⟨Nat.le_of_ble_eq_true rfl, Nat.le_of_ble_eq_true rfl⟩ rfl (h0.lt 57 (by decide)) (h0.ty 57 rfl) rfl (s_X13_good g q19.2 (((q19.2.1 64) e48.toNatClampNeg) - ((q19.2.1 64) e48.toNatClampNeg) / 24 * 24) h0) rfl (Nat.le_of_ble_eq_true rfl)) (fun q83 eq83 => ?_)
          exact J_eqo (hk (q83.1, q83.2)) (J_iret (pc := 86) dX13_errandAt_86 rfl)
      · refine J_loc (loc' := [(0, .ref 57)]) [1] rfl ?_
        exact hX13_errandAt_j42 q19.2 
def f_X13_met (t : Nat) (d : JD) : Option (Int32 × JD) := ((f_X13_works (j_sI d 57 0 0)).bind (fun q19 => (f_X13_metNow (q19.1 60) (q19.1 t) (q19.1 (t + 1)) (q19.1 (t + 2)) (q19.1 (t + 3)) (q19.1 (t + 4)) (q19.1 (t + 8)) (q19.1 (t + 9))).bind (fun q24 => j_let (f_X13_good q19 q24) (fun q27 => some (q27.1, q27.2)))))
set_option maxRecDepth 100000 in
set_option maxHeartbeats 4000000 in
theorem s_X13_met (g : JG) (d : JD) (t : Nat) (h0 : j_sh g 0 TS_W RS_W) (ht : j_sh g t TS_ML RS_ML) (hla : g.2.2.1 57 3 = some t) : JM mi_X13_met 0 0 (g, d) [.ref 57] ((f_X13_met t d ).bind (fun r9 => some (some (.int r9.1), (g, r9.2)))) := by
  refine JM_of (by decide) rfl (Nat.le_of_ble_eq_true rfl) ?_
  refine J_loc (loc' := [(0, .ref 57)]) [0] rfl ?_
  obtain ⟨k, hk, hk2⟩ : ∃ k : Int32 × JD → Option (Option Value × JH), (∀ r9, k r9 = some (some (.int r9.1), (g, r9.2))) ∧ (fun r9 : Int32 × JD => (some (some (.int r9.1), (g, r9.2)) : Option (Option Value × JH))) = k := ⟨_, fun _ => rfl, rfl⟩
  rw [hk2]
  unfold f_X13_met
  refine J_aload_n (pc := 0) 0 dX13_met_0 rfl rfl ?_
  refine J_iconst (pc := 1) (v := 0) dX13_met_1 (by decide) ?_
  refine J_putI (pc := 2) dX13_met_2 fl_X13_42 ft_12_0 (h0.lt 57 (by decide)) (h0.ty 57 rfl) rfl rfl rfl ?_
  refine J_aload_n (pc := 5) 0 dX13_met_5 rfl rfl ?_
  refine J_getR (pc := 6) dX13_met_6 fl_X13_321 (h0.lt 57 (by decide)) (h0.ty 57 rfl) rfl hla ?_
  refine J_ifnonnull (pc := 9) (tgt := 18) dX13_met_9 (by decide) ?_
  refine J_aload_n (pc := 18) 0 dX13_met_18 rfl rfl ?_
  refine JC_pe_v (J_callV (mi := mi_X13_met) (mj := mi_X13_works) (pc := 19) dX13_met_19 ml_X13_348 ok_X13_works ov_X13_works ⟨Nat.le_of_ble_eq_true rfl, Nat.le_of_ble_eq_true rfl⟩ rfl (h0.lt 57 (by decide)) (h0.ty 57 rfl) rfl (s_X13_works g (j_sI d 57 0 0) h0) rfl (Nat.le_of_ble_eq_true rfl)) (fun q19 => ?_)
  refine J_aload_n (pc := 22) 0 dX13_met_22 rfl rfl ?_
  refine J_aload_n (pc := 23) 0 dX13_met_23 rfl rfl ?_
  refine JC_pp_i (J_callV (mi := mi_X13_met) (mj := mi_X13_metNow) (pc := 24) dX13_met_24 ml_X13_395 ok_X13_metNow ov_X13_metNow ⟨Nat.le_of_ble_eq_true rfl, Nat.le_of_ble_eq_true rfl⟩ rfl (h0.lt 57 (by decide)) (h0.ty 57 rfl) rfl (s_X13_metNow g q19 t h0 ht hla) rfl (Nat.le_of_ble_eq_true rfl)) (fun q24 => ?_)
  refine JC_lt_i (K := (fun x => Option.bind x k)) (J_callV (mi := mi_X13_met) (mj := mi_X13_good) (pc := 27) dX13_met_27 ml_X13_52 ok_X13_good ov_X13_good ⟨Nat.le_of_ble_eq_true rfl, Nat.le_of_ble_eq_true rfl⟩ rfl (h0.lt 57 (by decide)) (h0.ty 57 rfl) rfl (s_X13_good g q19 q24 h0) rfl (Nat.le_of_ble_eq_true rfl)) (fun q27 eq27 => ?_)
  exact J_eqo (hk (q27.1, q27.2)) (J_iret (pc := 30) dX13_met_30 rfl)
def f_X13_refusesMuch (pq0 : Int32) (pq1 : Int32) : Int32 := (if pq0 = 0 then (1) else (if (f_X13_in pq1 0 599) = true then (0) else (2)))
set_option maxRecDepth 100000 in
set_option maxHeartbeats 4000000 in
theorem s_X13_refusesMuch (g : JG) (d : JD) (pq0 : Int32) (pq1 : Int32) (h0 : j_sh g 0 TS_W RS_W) : JM mi_X13_refusesMuch 0 0 (g, d) [.ref 57, .int pq0, .int pq1] (some (some (.int (f_X13_refusesMuch pq0 pq1)), (g, d))) := by
  refine JM_of (by decide) rfl (Nat.le_of_ble_eq_true rfl) ?_
  refine J_loc (loc' := [(0, .ref 57), (1, .int pq0), (2, .int pq1)]) [0, 1, 2] rfl ?_
  obtain ⟨k, hk⟩ : ∃ k : Int32 → Option (Option Value × JH), ∀ r9, k r9 = some (some (.int r9), (g, d)) := ⟨_, fun _ => rfl⟩
  refine J_eqo (hk (f_X13_refusesMuch pq0 pq1)).symm ?_
  unfold f_X13_refusesMuch
  refine J_iload_n (pc := 0) 1 dX13_refusesMuch_0 rfl rfl ?_
  refine K_if_ne (K := k) (pc := 1) (tgt := 8) dX13_refusesMuch_1 (by decide) (fun z1 => ?_) (fun z1 => ?_)
  · refine J_iload_n (pc := 8) 2 dX13_refusesMuch_8 rfl rfl ?_
    refine J_iconst (pc := 9) (v := 0) dX13_refusesMuch_9 (by decide) ?_
    refine J_sipush (pc := 10) (v := 599) dX13_refusesMuch_10 (by decide) ?_
    refine JC_pt_i (J_callS (mi := mi_X13_refusesMuch) (mj := mi_X13_in) (pc := 13) dX13_refusesMuch_13 ml_X13_121 ok_X13_in os_X13_in ⟨Nat.le_of_ble_eq_true rfl, Nat.le_of_ble_eq_true rfl⟩ rfl (s_X13_in g d pq1 0 599) rfl (Nat.le_of_ble_eq_true rfl)) ?_
    refine K_ifeq_b (K := k) (pc := 16) (tgt := 23) dX13_refusesMuch_16 (by decide) (fun z16 => ?_) (fun z16 => ?_)
    · refine J_iconst (pc := 23) (v := 2) dX13_refusesMuch_23 (by decide) ?_
      exact J_eqo (hk 2) (J_iret (pc := 24) dX13_refusesMuch_24 rfl)
    · refine J_iconst (pc := 19) (v := 0) dX13_refusesMuch_19 (by decide) ?_
      refine J_goto (pc := 20) (tgt := 24) dX13_refusesMuch_20 (by decide) ?_
      exact J_eqo (hk 0) (J_iret (pc := 24) dX13_refusesMuch_24 rfl)
  · refine J_iconst (pc := 4) (v := 1) dX13_refusesMuch_4 (by decide) ?_
    refine J_goto (pc := 5) (tgt := 24) dX13_refusesMuch_5 (by decide) ?_
    exact J_eqo (hk 1) (J_iret (pc := 24) dX13_refusesMuch_24 rfl)
def f_X13_movesFor_w33 (t : Nat) (c1_33 : Int32) (c2_33 : Int32) (s33 : Int32 × JD) : Option ((Int32 × JD) ⊕ ((Int32 × JD) ⊕ (JD))) := (if ((s33.2.1 57) 24) ≤ s33.1 then some (.inr (.inr s33.2)) else (if j_out s33.1 729 then none else (f_X13_lays t s33.2 ((s33.2.1 65) s33.1.toNatClampNeg)).bind (fun q50_33 => (f_X13_has (q50_33.1 60) (q50_33.1 t) (q50_33.1 (t + 1)) (q50_33.1 (t + 2)) (q50_33.1 (t + 3)) (q50_33.1 (t + 4)) (q50_33.1 (t + 5)) (c1_33)).bind (fun q55_33 => if q55_33 < (c2_33) then (some (.inl (s33.1 + 1, q50_33))) else (if j_out s33.1 729 then none else if j_out ((q50_33.1 65) s33.1.toNatClampNeg) 729 then none else j_let (f_X13_good q50_33 ((q50_33.1 63) (((q50_33.1 65) s33.1.toNatClampNeg).toNatClampNeg))) (fun q75_33 => some (Sum.inr (Sum.inl (q75_33.1, q75_33.2)))))))))
def f_X13_movesFor (t : Nat) (d : JD) (pq0 : Int32) (pq1 : Int32) : Option (Int32 × JD) := (j_let (f_X13_refusesMuch (j_b (f_X13_isPerson ((j_sI d 57 0 0).1 t) pq0)) pq1) (fun v3_15 => if v3_15 ≤ 0 then ((f_X13_reaches t (j_sI d 57 0 0)).bind (fun q27 => (j_wh (f_X13_movesFor_w33 t pq0 pq1 ) j_fuel (0, q27)).bind (Sum.elim (fun r9 => some r9) (fun (e33 : JD) => (j_let (f_X13_good e33 (-2)) (fun q88 => some (q88.1, q88.2))))))) else (j_let (f_X13_refused (j_sI d 57 0 0) v3_15) (fun q22 => some (q22.1, q22.2)))))
set_option maxRecDepth 100000 in
set_option maxHeartbeats 4000000 in
theorem s_X13_movesFor (g : JG) (d : JD) (t : Nat) (pq0 : Int32) (pq1 : Int32) (h0 : j_sh g 0 TS_W RS_W) (ht : j_sh g t TS_ML RS_ML) (hla : g.2.2.1 57 3 = some t) : JM mi_X13_movesFor 0 0 (g, d) [.ref 57, .int pq0, .int pq1] ((f_X13_movesFor t d pq0 pq1).bind (fun r9 => some (some (.int r9.1), (g, r9.2)))) := by
  refine JM_of (by decide) rfl (Nat.le_of_ble_eq_true rfl) ?_
  refine J_loc (loc' := [(0, .ref 57), (1, .int pq0), (2, .int pq1)]) [0, 1, 2] rfl ?_
  obtain ⟨k, hk, hk2⟩ : ∃ k : Int32 × JD → Option (Option Value × JH), (∀ r9, k r9 = some (some (.int r9.1), (g, r9.2))) ∧ (fun r9 : Int32 × JD => (some (some (.int r9.1), (g, r9.2)) : Option (Option Value × JH))) = k := ⟨_, fun _ => rfl, rfl⟩
  rw [hk2]
  unfold f_X13_movesFor
  refine J_aload_n (pc := 0) 0 dX13_movesFor_0 rfl rfl ?_
  refine J_iconst (pc := 1) (v := 0) dX13_movesFor_1 (by decide) ?_
  refine J_putI (pc := 2) dX13_movesFor_2 fl_X13_42 ft_12_0 (h0.lt 57 (by decide)) (h0.ty 57 rfl) rfl rfl rfl ?_
  refine J_aload_n (pc := 5) 0 dX13_movesFor_5 rfl rfl ?_
  refine J_aload_n (pc := 6) 0 dX13_movesFor_6 rfl rfl ?_
  refine J_iload_n (pc := 7) 1 dX13_movesFor_7 rfl rfl ?_
  refine JC_pt_i (J_callV (mi := mi_X13_movesFor) (mj := mi_X13_isPerson) (pc := 8) dX13_movesFor_8 ml_X13_351 ok_X13_isPerson ov_X13_isPerson ⟨Nat.le_of_ble_eq_true rfl, Nat.le_of_ble_eq_true rfl⟩ rfl (h0.lt 57 (by decide)) (h0.ty 57 rfl) rfl (s_X13_isPerson g (j_sI d 57 0 0) t pq0 h0 ht hla) rfl (Nat.le_of_ble_eq_true rfl)) ?_
  refine J_iload_n (pc := 11) 2 dX13_movesFor_11 rfl rfl ?_
  refine JC_pt_i (J_callV (mi := mi_X13_movesFor) (mj := mi_X13_refusesMuch) (pc := 12) dX13_movesFor_12 ml_X13_401 ok_X13_refusesMuch ov_X13_refusesMuch ⟨Nat.le_of_ble_eq_true rfl, Nat.le_of_ble_eq_true rfl⟩ rfl (h0.lt 57 (by decide)) (h0.ty 57 rfl) rfl (s_X13_refusesMuch g (j_sI d 57 0 0) (j_b (f_X13_isPerson ((j_sI d 57 0 0).1 t) pq0)) pq1 h0) rfl (Nat.le_of_ble_eq_true rfl)) ?_
  refine J_let (K := (fun x => Option.bind x k)) (fun v3_15 ev3_15 => ?_)
  refine J_val ev3_15.symm ?_
  refine J_istore_n (pc := 15) (loc' := [(3, .int v3_15), (0, .ref 57), (1, .int pq0), (2, .int pq1)]) dX13_movesFor_15 rfl (by decide) rfl ?_
  refine J_iload_n (pc := 16) 0 dX13_movesFor_16 rfl rfl ?_
  refine K_if_le (K := (fun x => Option.bind x k)) (pc := 17) (tgt := 26) dX13_movesFor_17 (by decide) (fun z17 => ?_) (fun z17 => ?_)
  · refine J_aload_n (pc := 26) 1 dX13_movesFor_26 rfl rfl ?_
    refine JC_pe_v (J_callV (mi := mi_X13_movesFor) (mj := mi_X13_reaches) (pc := 27) dX13_movesFor_27 ml_X13_392 ok_X13_reaches ov_X13_reaches ⟨Nat.le_of_ble_eq_true rfl, Nat.le_of_ble_eq_true rfl⟩ rfl (h0.lt 57 (by decide)) (h0.ty 57 rfl) rfl (s_X13_reaches g (j_sI d 57 0 0) t h0 ht hla) rfl (Nat.le_of_ble_eq_true rfl)) (fun q27 => ?_)
    refine J_iconst (pc := 30) (v := 0) dX13_movesFor_30 (by decide) ?_
    refine J_istore (pc := 31) (loc' := [(4, .int 0), (3, .int v3_15), (0, .ref 57), (1, .int pq0), (2, .int pq1)]) dX13_movesFor_31 (by decide) rfl ?_
    refine J_loc (loc' := [(0, .ref 57), (1, .int pq0), (2, .int pq1), (4, .int 0)]) [2, 3, 4, 0] rfl ?_
    refine J_whR (F := f_X13_movesFor_w33 t pq0 pq1 ) (fr := fun r9 => some r9) (k := k) (hp := fun (s33 : Int32 × JD) => (g, s33.2)) (lc := fun (s33 : Int32 × JD) => [(0, .ref 57), (1, .int (pq0)), (2, .int (pq1)), (4, .int s33.1)]) (XJ := fun (e33 : JD) o9 => J mi_X13_movesFor 0 0 0 0 (g, e33) 85 [(0, .ref 57)] [] o9) (RJ := fun r9 o9 => o9 = some (some (.int r9.1), (g, r9.2))) (fun s33 k33 hB33 hR33 hX33 => ?_) (fun e33 => ?_) (fun r9 => hk r9) _ (0, q27)
    · show J mi_X13_movesFor 0 0 0 0 (g, s33.2) 33 [(0, .ref 57), (1, .int (pq0)), (2, .int (pq1)), (4, .int s33.1)] [] ((f_X13_movesFor_w33 t pq0 pq1 s33).bind k33)
      unfold f_X13_movesFor_w33
      refine J_iload (pc := 33) 3 dX13_movesFor_33 rfl ?_
      refine J_aload_n (pc := 35) 0 dX13_movesFor_35 rfl rfl ?_
      refine J_getI (pc := 36) dX13_movesFor_36 fl_X13_380 (h0.lt 57 (by decide)) (h0.ty 57 rfl) rfl ?_
      refine K_icmp_ge (K := (fun x => Option.bind x k33)) (pc := 39) (tgt := 85) dX13_movesFor_39 (by decide) (fun z39 => ?_) (fun z39 => ?_)
      · refine J_loc (loc' := [(0, .ref 57)]) [0] rfl ?_
        exact hX33 s33.2
      · refine J_aload_n (pc := 42) 0 dX13_movesFor_42 rfl rfl ?_
        refine J_aload_n (pc := 43) 0 dX13_movesFor_43 rfl rfl ?_
        refine J_getR (pc := 44) dX13_movesFor_44 fl_X13_36 (h0.lt 57 (by decide)) (h0.ty 57 rfl) rfl (h0.rf 62 rfl) ?_
        refine J_iload (pc := 47) 3 dX13_movesFor_47 rfl ?_
        refine J_guard (fun z49 => ?_)
        refine J_iald (pc := 49) dX13_movesFor_49 (h0.lt 65 (by decide)) (h0.ty 65 rfl) z49 ?_
        refine JC_pe_v (J_callV (mi := mi_X13_movesFor) (mj := mi_X13_lays) (pc := 50) dX13_movesFor_50 ml_X13_383 ok_X13_lays ov_X13_lays ⟨Nat.le_of_ble_eq_true rfl, Nat.le_of_ble_eq_true rfl⟩ rfl (h0.lt 57 (by decide)) (h0.ty 57 rfl) rfl (s_X13_lays g s33.2 t ((s33.2.1 65) s33.1.toNatClampNeg) h0 ht hla) rfl (Nat.le_of_ble_eq_true rfl)) (fun q50_33 => ?_)
        refine J_aload_n (pc := 53) 0 dX13_movesFor_53 rfl rfl ?_
        refine J_iload_n (pc := 54) 1 dX13_movesFor_54 rfl rfl ?_
        refine JC_pp_i (J_callV (mi := mi_X13_movesFor) (mj := mi_X13_has) (pc := 55) dX13_movesFor_55 ml_X13_354 ok_X13_has ov_X13_has ⟨Nat.le_of_ble_eq_true rfl, Nat.le_of_ble_eq_true rfl⟩ rfl (h0.lt 57 (by decide)) (h0.ty 57 rfl) rfl (s_X13_has g q50_33 t pq0 h0 ht hla) rfl (Nat.le_of_ble_eq_true rfl)) (fun q55_33 => ?_)
        refine J_iload_n (pc := 58) 2 dX13_movesFor_58 rfl rfl ?_
        refine K_icmp_lt (K := (fun x => Option.bind x k33)) (pc := 59) (tgt := 79) dX13_movesFor_59 (by decide) (fun z59 => ?_) (fun z59 => ?_)
        · refine J_iinc (pc := 79) (v := s33.1 + 1) (loc' := [(4, .int (s33.1 + 1)), (0, .ref 57), (1, .int (pq0)), (2, .int (pq1))]) 3 dX13_movesFor_79 rfl rfl (by decide) rfl ?_
          refine J_goto (pc := 82) (tgt := 33) dX13_movesFor_82 (by decide) ?_
          refine J_loc (loc' := [(0, .ref 57), (1, .int (pq0)), (2, .int (pq1)), (4, .int (s33.1 + 1))]) [1, 2, 3, 0] rfl ?_
          exact hB33 (s33.1 + 1, q50_33)
        · refine J_aload_n (pc := 62) 0 dX13_movesFor_62 rfl rfl ?_
          refine J_aload_n (pc := 63) 0 dX13_movesFor_63 rfl rfl ?_
          refine J_getR (pc := 64) dX13_movesFor_64 fl_X13_30 (h0.lt 57 (by decide)) (h0.ty 57 rfl) rfl (h0.rf 60 rfl) ?_
          refine J_aload_n (pc := 67) 0 dX13_movesFor_67 rfl rfl ?_
          refine J_getR (pc := 68) dX13_movesFor_68 fl_X13_36 (h0.lt 57 (by decide)) (h0.ty 57 rfl) rfl (h0.rf 62 rfl) ?_
          refine J_iload (pc := 71) 3 dX13_movesFor_71 rfl ?_
          refine J_guard (fun z73 => ?_)
          refine J_iald (pc := 73) dX13_movesFor_73 (h0.lt 65 (by decide)) (h0.ty 65 rfl) z73 ?_
          refine J_guard (fun z74 => ?_)
          refine J_iald (pc := 74) dX13_movesFor_74 (h0.lt 63 (by decide)) (h0.ty 63 rfl) z74 ?_
          refine JC_lt_i (K := (fun x => Option.bind x k33)) (J_callV (mi := mi_X13_movesFor) (mj := mi_X13_good) (pc := 75) dX13_movesFor_75 ml_X13_52 ok_X13_good ov_X13_good ⟨Nat.le_of_ble_eq_true rfl, Nat.le_of_ble_eq_true rfl⟩ rfl (h0.lt 57 (by decide)) (h0.ty 57 rfl) rfl (s_X13_good g q50_33 ((q50_33.1 63) (((q50_33.1 65) s33.1.toNatClampNeg).toNatClampNeg)) h0) rfl (Nat.le_of_ble_eq_true rfl)) (fun q75_33 eq75_33 => ?_)
          exact J_eqo (hR33 (q75_33.1, q75_33.2)) (J_iret (pc := 78) dX13_movesFor_78 rfl)
    · show J mi_X13_movesFor 0 0 0 0 (g, e33) 85 [(0, .ref 57)] [] (_)
      refine J_aload_n (pc := 85) 0 dX13_movesFor_85 rfl rfl ?_
      refine J_bipush (pc := 86) (v := (-2)) dX13_movesFor_86 (by decide) ?_
      refine JC_lt_i (K := (fun x => Option.bind x k)) (J_callV (mi := mi_X13_movesFor) (mj := mi_X13_good) (pc := 88) dX13_movesFor_88 ml_X13_52 ok_X13_good ov_X13_good ⟨Nat.le_of_ble_eq_true rfl, Nat.le_of_ble_eq_true rfl⟩ rfl (h0.lt 57 (by decide)) (h0.ty 57 rfl) rfl (s_X13_good g e33 (-2) h0) rfl (Nat.le_of_ble_eq_true rfl)) (fun q88 eq88 => ?_)
      exact J_eqo (hk (q88.1, q88.2)) (J_iret (pc := 91) dX13_movesFor_91 rfl)
  · refine J_aload_n (pc := 20) 1 dX13_movesFor_20 rfl rfl ?_
    refine J_iload_n (pc := 21) 0 dX13_movesFor_21 rfl rfl ?_
    refine JC_lt_i (K := (fun x => Option.bind x k)) (J_callV (mi := mi_X13_movesFor) (mj := mi_X13_refused) (pc := 22) dX13_movesFor_22 ml_X13_48 ok_X13_refused ov_X13_refused ⟨Nat.le_of_ble_eq_true rfl, Nat.le_of_ble_eq_true rfl⟩ rfl (h0.lt 57 (by decide)) (h0.ty 57 rfl) rfl (s_X13_refused g (j_sI d 57 0 0) v3_15 h0) rfl (Nat.le_of_ble_eq_true rfl)) (fun q22 eq22 => ?_)
    exact J_eqo (hk (q22.1, q22.2)) (J_iret (pc := 25) dX13_movesFor_25 rfl)
def f_X13_mostBy_j98_44 (t : Nat) (c1_44 : Int32) (c2_44 : Int32) (d98_44 : JD) (x3_98_44 : Int32) (x4_98_44 : Int32) : Option ((Int32 × Int32 × JD) ⊕ (Int32 × JD)) := (some (.inl (x3_98_44, x4_98_44 + 1, d98_44)))
def f_X13_mostBy_w44 (t : Nat) (c1_44 : Int32) (c2_44 : Int32) (s44 : Int32 × Int32 × JD) : Option ((Int32 × Int32 × JD) ⊕ (Int32 × JD)) := (if ((s44.2.2.1 57) 24) ≤ s44.2.1 then some (.inr (s44.1, s44.2.2)) else (if j_out s44.2.1 729 then none else if j_out ((s44.2.2.1 65) s44.2.1.toNatClampNeg) 729 then none else if ((s44.2.2.1 63) (((s44.2.2.1 65) s44.2.1.toNatClampNeg).toNatClampNeg)) ≤ (c2_44) then (if j_out s44.2.1 729 then none else (f_X13_lays t s44.2.2 ((s44.2.2.1 65) s44.2.1.toNatClampNeg)).bind (fun q80_44 => (f_X13_has (q80_44.1 60) (q80_44.1 t) (q80_44.1 (t + 1)) (q80_44.1 (t + 2)) (q80_44.1 (t + 3)) (q80_44.1 (t + 4)) (q80_44.1 (t + 5)) (c1_44)).bind (fun q85_44 => if q85_44 ≤ s44.1 then f_X13_mostBy_j98_44 t (c1_44) (c2_44) q80_44 s44.1 s44.2.1 else ((f_X13_has (q80_44.1 60) (q80_44.1 t) (q80_44.1 (t + 1)) (q80_44.1 (t + 2)) (q80_44.1 (t + 3)) (q80_44.1 (t + 4)) (q80_44.1 (t + 5)) (c1_44)).bind (fun q94_44 => f_X13_mostBy_j98_44 t (c1_44) (c2_44) q80_44 q94_44 s44.2.1))))) else (some (.inr (s44.1, s44.2.2)))))
def f_X13_mostBy (t : Nat) (d : JD) (pq0 : Int32) (pq1 : Int32) : Option (Int32 × JD) := (if (f_X13_isPerson ((j_sI d 57 0 0).1 t) pq0) = true then (if (f_X13_in pq1 0 20) = true then ((f_X13_reaches t (j_sI d 57 0 0)).bind (fun q36 => (j_wh (f_X13_mostBy_w44 t pq0 pq1 ) j_fuel (0, 0, q36)).bind (fun (e44 : Int32 × JD) => (j_let (f_X13_good e44.2 e44.1) (fun q106 => some (q106.1, q106.2)))))) else (j_let (f_X13_refused (j_sI d 57 0 0) 2) (fun q31 => some (q31.1, q31.2)))) else (j_let (f_X13_refused (j_sI d 57 0 0) 1) (fun q15 => some (q15.1, q15.2))))
set_option maxRecDepth 100000 in
set_option maxHeartbeats 4000000 in
theorem s_X13_mostBy (g : JG) (d : JD) (t : Nat) (pq0 : Int32) (pq1 : Int32) (h0 : j_sh g 0 TS_W RS_W) (ht : j_sh g t TS_ML RS_ML) (hla : g.2.2.1 57 3 = some t) : JM mi_X13_mostBy 0 0 (g, d) [.ref 57, .int pq0, .int pq1] ((f_X13_mostBy t d pq0 pq1).bind (fun r9 => some (some (.int r9.1), (g, r9.2)))) := by
  refine JM_of (by decide) rfl (Nat.le_of_ble_eq_true rfl) ?_
  refine J_loc (loc' := [(0, .ref 57), (1, .int pq0), (2, .int pq1)]) [0, 1, 2] rfl ?_
  obtain ⟨k, hk, hk2⟩ : ∃ k : Int32 × JD → Option (Option Value × JH), (∀ r9, k r9 = some (some (.int r9.1), (g, r9.2))) ∧ (fun r9 : Int32 × JD => (some (some (.int r9.1), (g, r9.2)) : Option (Option Value × JH))) = k := ⟨_, fun _ => rfl, rfl⟩
  rw [hk2]
  unfold f_X13_mostBy
  refine J_aload_n (pc := 0) 0 dX13_mostBy_0 rfl rfl ?_
  refine J_iconst (pc := 1) (v := 0) dX13_mostBy_1 (by decide) ?_
  refine J_putI (pc := 2) dX13_mostBy_2 fl_X13_42 ft_12_0 (h0.lt 57 (by decide)) (h0.ty 57 rfl) rfl rfl rfl ?_
  refine J_aload_n (pc := 5) 0 dX13_mostBy_5 rfl rfl ?_
  refine J_iload_n (pc := 6) 1 dX13_mostBy_6 rfl rfl ?_
  refine JC_pt_i (J_callV (mi := mi_X13_mostBy) (mj := mi_X13_isPerson) (pc := 7) dX13_mostBy_7 ml_X13_351 ok_X13_isPerson ov_X13_isPerson ⟨Nat.le_of_ble_eq_true rfl, Nat.le_of_ble_eq_true rfl⟩ rfl (h0.lt 57 (by decide)) (h0.ty 57 rfl) rfl (s_X13_isPerson g (j_sI d 57 0 0) t pq0 h0 ht hla) rfl (Nat.le_of_ble_eq_true rfl)) ?_
  refine K_ifne_b (K := (fun x => Option.bind x k)) (pc := 10) (tgt := 19) dX13_mostBy_10 (by decide) (fun z10 => ?_) (fun z10 => ?_)
  · refine J_iload_n (pc := 19) 2 dX13_mostBy_19 rfl rfl ?_
    refine J_iconst (pc := 20) (v := 0) dX13_mostBy_20 (by decide) ?_
    refine J_bipush (pc := 21) (v := 20) dX13_mostBy_21 (by decide) ?_
    refine JC_pt_i (J_callS (mi := mi_X13_mostBy) (mj := mi_X13_in) (pc := 23) dX13_mostBy_23 ml_X13_121 ok_X13_in os_X13_in ⟨Nat.le_of_ble_eq_true rfl, Nat.le_of_ble_eq_true rfl⟩ rfl (s_X13_in g (j_sI d 57 0 0) pq1 0 20) rfl (Nat.le_of_ble_eq_true rfl)) ?_
    refine K_ifne_b (K := (fun x => Option.bind x k)) (pc := 26) (tgt := 35) dX13_mostBy_26 (by decide) (fun z26 => ?_) (fun z26 => ?_)
    · refine J_aload_n (pc := 35) 0 dX13_mostBy_35 rfl rfl ?_
      refine JC_pe_v (J_callV (mi := mi_X13_mostBy) (mj := mi_X13_reaches) (pc := 36) dX13_mostBy_36 ml_X13_392 ok_X13_reaches ov_X13_reaches ⟨Nat.le_of_ble_eq_true rfl, Nat.le_of_ble_eq_true rfl⟩ rfl (h0.lt 57 (by decide)) (h0.ty 57 rfl) rfl (s_X13_reaches g (j_sI d 57 0 0) t h0 ht hla) rfl (Nat.le_of_ble_eq_true rfl)) (fun q36 => ?_)
      refine J_iconst (pc := 39) (v := 0) dX13_mostBy_39 (by decide) ?_
      refine J_istore_n (pc := 40) (loc' := [(3, .int 0), (0, .ref 57), (1, .int pq0), (2, .int pq1)]) dX13_mostBy_40 rfl (by decide) rfl ?_
      refine J_iconst (pc := 41) (v := 0) dX13_mostBy_41 (by decide) ?_
      refine J_istore (pc := 42) (loc' := [(4, .int 0), (3, .int 0), (0, .ref 57), (1, .int pq0), (2, .int pq1)]) dX13_mostBy_42 (by decide) rfl ?_
      refine J_loc (loc' := [(0, .ref 57), (1, .int pq0), (2, .int pq1), (3, .int 0), (4, .int 0)]) [2, 3, 4, 1, 0] rfl ?_
      refine J_whL (F := f_X13_mostBy_w44 t pq0 pq1 ) (hp := fun (s44 : Int32 × Int32 × JD) => (g, s44.2.2)) (lc := fun (s44 : Int32 × Int32 × JD) => [(0, .ref 57), (1, .int (pq0)), (2, .int (pq1)), (3, .int s44.1), (4, .int s44.2.1)]) (XJ := fun (e44 : Int32 × JD) o9 => J mi_X13_mostBy 0 0 0 0 (g, e44.2) 104 [(0, .ref 57), (3, .int e44.1)] [] o9) (fun s44 k44 hB44 hX44 => ?_) (fun e44 => ?_) _ (0, 0, q36)
      · show J mi_X13_mostBy 0 0 0 0 (g, s44.2.2) 44 [(0, .ref 57), (1, .int (pq0)), (2, .int (pq1)), (3, .int s44.1), (4, .int s44.2.1)] [] ((f_X13_mostBy_w44 t pq0 pq1 s44).bind k44)
        unfold f_X13_mostBy_w44
        have hX13_mostBy_j98_44 : ∀ (d98_44 : JD) (x3_98_44 : Int32) (x4_98_44 : Int32), J mi_X13_mostBy 0 0 0 0 (g, d98_44) 98 [(0, .ref 57), (1, .int (pq0)), (2, .int (pq1)), (3, .int x3_98_44), (4, .int x4_98_44)] [] ((f_X13_mostBy_j98_44 t pq0 pq1 d98_44 x3_98_44 x4_98_44).bind k44) := by
          intro d98_44 x3_98_44 x4_98_44
          unfold f_X13_mostBy_j98_44
          refine J_iinc (pc := 98) (v := x4_98_44 + 1) (loc' := [(4, .int (x4_98_44 + 1)), (0, .ref 57), (1, .int (pq0)), (2, .int (pq1)), (3, .int x3_98_44)]) 4 dX13_mostBy_98 rfl rfl (by decide) rfl ?_
          refine J_goto (pc := 101) (tgt := 44) dX13_mostBy_101 (by decide) ?_
          refine J_loc (loc' := [(0, .ref 57), (1, .int (pq0)), (2, .int (pq1)), (3, .int x3_98_44), (4, .int (x4_98_44 + 1))]) [1, 2, 3, 4, 0] rfl ?_
          exact hB44 (x3_98_44, x4_98_44 + 1, d98_44)
        refine J_iload (pc := 44) 4 dX13_mostBy_44 rfl ?_
        refine J_aload_n (pc := 46) 0 dX13_mostBy_46 rfl rfl ?_
        refine J_getI (pc := 47) dX13_mostBy_47 fl_X13_380 (h0.lt 57 (by decide)) (h0.ty 57 rfl) rfl ?_
        refine K_icmp_ge (K := (fun x => Option.bind x k44)) (pc := 50) (tgt := 104) dX13_mostBy_50 (by decide) (fun z50 => ?_) (fun z50 => ?_)
        · refine J_loc (loc' := [(0, .ref 57), (3, .int s44.1)]) [0, 3] rfl ?_
          exact hX44 (s44.1, s44.2.2)
        · refine J_aload_n (pc := 53) 0 dX13_mostBy_53 rfl rfl ?_
          refine J_getR (pc := 54) dX13_mostBy_54 fl_X13_30 (h0.lt 57 (by decide)) (h0.ty 57 rfl) rfl (h0.rf 60 rfl) ?_
          refine J_aload_n (pc := 57) 0 dX13_mostBy_57 rfl rfl ?_
          refine J_getR (pc := 58) dX13_mostBy_58 fl_X13_36 (h0.lt 57 (by decide)) (h0.ty 57 rfl) rfl (h0.rf 62 rfl) ?_
          refine J_iload (pc := 61) 4 dX13_mostBy_61 rfl ?_
          refine J_guard (fun z63 => ?_)
          refine J_iald (pc := 63) dX13_mostBy_63 (h0.lt 65 (by decide)) (h0.ty 65 rfl) z63 ?_
          refine J_guard (fun z64 => ?_)
          refine J_iald (pc := 64) dX13_mostBy_64 (h0.lt 63 (by decide)) (h0.ty 63 rfl) z64 ?_
          refine J_iload_n (pc := 65) 2 dX13_mostBy_65 rfl rfl ?_
          refine K_icmp_le (K := (fun x => Option.bind x k44)) (pc := 66) (tgt := 72) dX13_mostBy_66 (by decide) (fun z66 => ?_) (fun z66 => ?_)
          · refine J_aload_n (pc := 72) 0 dX13_mostBy_72 rfl rfl ?_
            refine J_aload_n (pc := 73) 0 dX13_mostBy_73 rfl rfl ?_
            refine J_getR (pc := 74) dX13_mostBy_74 fl_X13_36 (h0.lt 57 (by decide)) (h0.ty 57 rfl) rfl (h0.rf 62 rfl) ?_
            refine J_iload (pc := 77) 4 dX13_mostBy_77 rfl ?_
            refine J_guard (fun z79 => ?_)
            refine J_iald (pc := 79) dX13_mostBy_79 (h0.lt 65 (by decide)) (h0.ty 65 rfl) z79 ?_
            refine JC_pe_v (J_callV (mi := mi_X13_mostBy) (mj := mi_X13_lays) (pc := 80) dX13_mostBy_80 ml_X13_383 ok_X13_lays ov_X13_lays ⟨Nat.le_of_ble_eq_true rfl, Nat.le_of_ble_eq_true rfl⟩ rfl (h0.lt 57 (by decide)) (h0.ty 57 rfl) rfl (s_X13_lays g s44.2.2 t ((s44.2.2.1 65) s44.2.1.toNatClampNeg) h0 ht hla) rfl (Nat.le_of_ble_eq_true rfl)) (fun q80_44 => ?_)
            refine J_aload_n (pc := 83) 0 dX13_mostBy_83 rfl rfl ?_
            refine J_iload_n (pc := 84) 1 dX13_mostBy_84 rfl rfl ?_
            refine JC_pp_i (J_callV (mi := mi_X13_mostBy) (mj := mi_X13_has) (pc := 85) dX13_mostBy_85 ml_X13_354 ok_X13_has ov_X13_has ⟨Nat.le_of_ble_eq_true rfl, Nat.le_of_ble_eq_true rfl⟩ rfl (h0.lt 57 (by decide)) (h0.ty 57 rfl) rfl (s_X13_has g q80_44 t pq0 h0 ht hla) rfl (Nat.le_of_ble_eq_true rfl)) (fun q85_44 => ?_)
            refine J_iload_n (pc := 88) 3 dX13_mostBy_88 rfl rfl ?_
            refine K_icmp_le (K := (fun x => Option.bind x k44)) (pc := 89) (tgt := 98) dX13_mostBy_89 (by decide) (fun z89 => ?_) (fun z89 => ?_)
            · exact hX13_mostBy_j98_44 q80_44 s44.1 s44.2.1
            · refine J_aload_n (pc := 92) 0 dX13_mostBy_92 rfl rfl ?_
              refine J_iload_n (pc := 93) 1 dX13_mostBy_93 rfl rfl ?_
              refine JC_pp_i (J_callV (mi := mi_X13_mostBy) (mj := mi_X13_has) (pc := 94) dX13_mostBy_94 ml_X13_354 ok_X13_has ov_X13_has ⟨Nat.le_of_ble_eq_true rfl, Nat.le_of_ble_eq_true rfl⟩ rfl (h0.lt 57 (by decide)) (h0.ty 57 rfl) rfl (s_X13_has g q80_44 t pq0 h0 ht hla) rfl (Nat.le_of_ble_eq_true rfl)) (fun q94_44 => ?_)
              refine J_istore_n (pc := 97) (loc' := [(3, .int q94_44), (0, .ref 57), (1, .int (pq0)), (2, .int (pq1)), (4, .int s44.2.1)]) dX13_mostBy_97 rfl (by decide) rfl ?_
              refine J_loc (loc' := [(0, .ref 57), (1, .int (pq0)), (2, .int (pq1)), (3, .int q94_44), (4, .int s44.2.1)]) [1, 2, 3, 0, 4] rfl ?_
              exact hX13_mostBy_j98_44 q80_44 q94_44 s44.2.1
          · refine J_goto (pc := 69) (tgt := 104) dX13_mostBy_69 (by decide) ?_
            refine J_loc (loc' := [(0, .ref 57), (3, .int s44.1)]) [0, 3] rfl ?_
            exact hX44 (s44.1, s44.2.2)
      · show J mi_X13_mostBy 0 0 0 0 (g, e44.2) 104 [(0, .ref 57), (3, .int e44.1)] [] (_)
        refine J_aload_n (pc := 104) 0 dX13_mostBy_104 rfl rfl ?_
        refine J_iload_n (pc := 105) 1 dX13_mostBy_105 rfl rfl ?_
        refine JC_lt_i (K := (fun x => Option.bind x k)) (J_callV (mi := mi_X13_mostBy) (mj := mi_X13_good) (pc := 106) dX13_mostBy_106 ml_X13_52 ok_X13_good ov_X13_good ⟨Nat.le_of_ble_eq_true rfl, Nat.le_of_ble_eq_true rfl⟩ rfl (h0.lt 57 (by decide)) (h0.ty 57 rfl) rfl (s_X13_good g e44.2 e44.1 h0) rfl (Nat.le_of_ble_eq_true rfl)) (fun q106 eq106 => ?_)
        exact J_eqo (hk (q106.1, q106.2)) (J_iret (pc := 109) dX13_mostBy_109 rfl)
    · refine J_aload_n (pc := 29) 0 dX13_mostBy_29 rfl rfl ?_
      refine J_iconst (pc := 30) (v := 2) dX13_mostBy_30 (by decide) ?_
      refine JC_lt_i (K := (fun x => Option.bind x k)) (J_callV (mi := mi_X13_mostBy) (mj := mi_X13_refused) (pc := 31) dX13_mostBy_31 ml_X13_48 ok_X13_refused ov_X13_refused ⟨Nat.le_of_ble_eq_true rfl, Nat.le_of_ble_eq_true rfl⟩ rfl (h0.lt 57 (by decide)) (h0.ty 57 rfl) rfl (s_X13_refused g (j_sI d 57 0 0) 2 h0) rfl (Nat.le_of_ble_eq_true rfl)) (fun q31 eq31 => ?_)
      exact J_eqo (hk (q31.1, q31.2)) (J_iret (pc := 34) dX13_mostBy_34 rfl)
  · refine J_aload_n (pc := 13) 0 dX13_mostBy_13 rfl rfl ?_
    refine J_iconst (pc := 14) (v := 1) dX13_mostBy_14 (by decide) ?_
    refine JC_lt_i (K := (fun x => Option.bind x k)) (J_callV (mi := mi_X13_mostBy) (mj := mi_X13_refused) (pc := 15) dX13_mostBy_15 ml_X13_48 ok_X13_refused ov_X13_refused ⟨Nat.le_of_ble_eq_true rfl, Nat.le_of_ble_eq_true rfl⟩ rfl (h0.lt 57 (by decide)) (h0.ty 57 rfl) rfl (s_X13_refused g (j_sI d 57 0 0) 1 h0) rfl (Nat.le_of_ble_eq_true rfl)) (fun q15 eq15 => ?_)
    exact J_eqo (hk (q15.1, q15.2)) (J_iret (pc := 18) dX13_mostBy_18 rfl)
def f_X13_reach (t : Nat) (d : JD) : Option (Int32 × JD) := ((f_X13_reaches t (j_sI d 57 0 0)).bind (fun q19 => j_let (f_X13_good q19 ((q19.1 57) 24)) (fun q27 => some (q27.1, q27.2))))
set_option maxRecDepth 100000 in
set_option maxHeartbeats 4000000 in
theorem s_X13_reach (g : JG) (d : JD) (t : Nat) (h0 : j_sh g 0 TS_W RS_W) (ht : j_sh g t TS_ML RS_ML) (hla : g.2.2.1 57 3 = some t) : JM mi_X13_reach 0 0 (g, d) [.ref 57] ((f_X13_reach t d ).bind (fun r9 => some (some (.int r9.1), (g, r9.2)))) := by
  refine JM_of (by decide) rfl (Nat.le_of_ble_eq_true rfl) ?_
  refine J_loc (loc' := [(0, .ref 57)]) [0] rfl ?_
  obtain ⟨k, hk, hk2⟩ : ∃ k : Int32 × JD → Option (Option Value × JH), (∀ r9, k r9 = some (some (.int r9.1), (g, r9.2))) ∧ (fun r9 : Int32 × JD => (some (some (.int r9.1), (g, r9.2)) : Option (Option Value × JH))) = k := ⟨_, fun _ => rfl, rfl⟩
  rw [hk2]
  unfold f_X13_reach
  refine J_aload_n (pc := 0) 0 dX13_reach_0 rfl rfl ?_
  refine J_iconst (pc := 1) (v := 0) dX13_reach_1 (by decide) ?_
  refine J_putI (pc := 2) dX13_reach_2 fl_X13_42 ft_12_0 (h0.lt 57 (by decide)) (h0.ty 57 rfl) rfl rfl rfl ?_
  refine J_aload_n (pc := 5) 0 dX13_reach_5 rfl rfl ?_
  refine J_getR (pc := 6) dX13_reach_6 fl_X13_321 (h0.lt 57 (by decide)) (h0.ty 57 rfl) rfl hla ?_
  refine J_ifnonnull (pc := 9) (tgt := 18) dX13_reach_9 (by decide) ?_
  refine J_aload_n (pc := 18) 0 dX13_reach_18 rfl rfl ?_
  refine JC_pe_v (J_callV (mi := mi_X13_reach) (mj := mi_X13_reaches) (pc := 19) dX13_reach_19 ml_X13_392 ok_X13_reaches ov_X13_reaches ⟨Nat.le_of_ble_eq_true rfl, Nat.le_of_ble_eq_true rfl⟩ rfl (h0.lt 57 (by decide)) (h0.ty 57 rfl) rfl (s_X13_reaches g (j_sI d 57 0 0) t h0 ht hla) rfl (Nat.le_of_ble_eq_true rfl)) (fun q19 => ?_)
  refine J_aload_n (pc := 22) 0 dX13_reach_22 rfl rfl ?_
  refine J_aload_n (pc := 23) 0 dX13_reach_23 rfl rfl ?_
  refine J_getI (pc := 24) dX13_reach_24 fl_X13_380 (h0.lt 57 (by decide)) (h0.ty 57 rfl) rfl ?_
  refine JC_lt_i (K := (fun x => Option.bind x k)) (J_callV (mi := mi_X13_reach) (mj := mi_X13_good) (pc := 27) dX13_reach_27 ml_X13_52 ok_X13_good ov_X13_good ⟨Nat.le_of_ble_eq_true rfl, Nat.le_of_ble_eq_true rfl⟩ rfl (h0.lt 57 (by decide)) (h0.ty 57 rfl) rfl (s_X13_good g q19 ((q19.1 57) 24) h0) rfl (Nat.le_of_ble_eq_true rfl)) (fun q27 eq27 => ?_)
  exact J_eqo (hk (q27.1, q27.2)) (J_iret (pc := 30) dX13_reach_30 rfl)
def f_X13_may_j48_7 (t : Nat) (d : JD) (x2_48_7 : Int32) : Option ((Int32) ⊕ ((Bool × JD) ⊕ (Unit))) := (some (.inl (x2_48_7 + 1)))
def f_X13_may_w7 (t : Nat) (d : JD) (s7 : Int32) : Option ((Int32) ⊕ ((Bool × JD) ⊕ (Unit))) := (if (((d).1 t) 4) ≤ s7 then some (.inr (.inr ())) else (if j_out s7 6 then none else if (((d).1 (t + 3)) s7.toNatClampNeg) = 2 then (if j_out s7 6 then none else if j_out s7 9 then none else if (((d).1 60) s7.toNatClampNeg) = (((d).1 59) s7.toNatClampNeg) then f_X13_may_j48_7 t (d) s7 else (some (Sum.inr (Sum.inl (false, d))))) else f_X13_may_j48_7 t (d) s7))
def f_X13_may (t : Nat) (d : JD) (pq0 : Int32) : Option (Bool × JD) := ((f_X13_lays t d pq0).bind (fun q2 => (j_wh (f_X13_may_w7 t q2 ) j_fuel 0).bind (Sum.elim (fun r9 => some r9) (fun (e7 : Unit) => ((f_X13_hung (q2.1 60) (q2.1 t)).bind (fun q55 => (f_X13_hooks (q2.1 59) (q2.1 t)).bind (fun q59 => if q59 < q55 then (some (false, q2)) else (some (true, q2)))))))))
set_option maxRecDepth 100000 in
set_option maxHeartbeats 4000000 in
theorem s_X13_may (g : JG) (d : JD) (t : Nat) (pq0 : Int32) (h0 : j_sh g 0 TS_W RS_W) (ht : j_sh g t TS_ML RS_ML) (hla : g.2.2.1 57 3 = some t) : JM mi_X13_may 0 0 (g, d) [.ref 57, .int pq0] ((f_X13_may t d pq0).bind (fun r9 => some (some (.int (j_b r9.1)), (g, r9.2)))) := by
  refine JM_of (by decide) rfl (Nat.le_of_ble_eq_true rfl) ?_
  refine J_loc (loc' := [(0, .ref 57), (1, .int pq0)]) [0, 1] rfl ?_
  obtain ⟨k, hk, hk2⟩ : ∃ k : Bool × JD → Option (Option Value × JH), (∀ r9, k r9 = some (some (.int (j_b r9.1)), (g, r9.2))) ∧ (fun r9 : Bool × JD => (some (some (.int (j_b r9.1)), (g, r9.2)) : Option (Option Value × JH))) = k := ⟨_, fun _ => rfl, rfl⟩
  rw [hk2]
  unfold f_X13_may
  refine J_aload_n (pc := 0) 0 dX13_may_0 rfl rfl ?_
  refine J_iload_n (pc := 1) 1 dX13_may_1 rfl rfl ?_
  refine JC_pe_v (J_callV (mi := mi_X13_may) (mj := mi_X13_lays) (pc := 2) dX13_may_2 ml_X13_383 ok_X13_lays ov_X13_lays ⟨Nat.le_of_ble_eq_true rfl, Nat.le_of_ble_eq_true rfl⟩ rfl (h0.lt 57 (by decide)) (h0.ty 57 rfl) rfl (s_X13_lays g d t pq0 h0 ht hla) rfl (Nat.le_of_ble_eq_true rfl)) (fun q2 => ?_)
  refine J_iconst (pc := 5) (v := 0) dX13_may_5 (by decide) ?_
  refine J_istore_n (pc := 6) (loc' := [(2, .int 0), (0, .ref 57), (1, .int pq0)]) dX13_may_6 rfl (by decide) rfl ?_
  refine J_loc (loc' := [(0, .ref 57), (2, .int 0)]) [1, 0] rfl ?_
  refine J_whR (F := f_X13_may_w7 t q2 ) (fr := fun r9 => some r9) (k := k) (hp := fun (s7 : Int32) => (g, q2)) (lc := fun (s7 : Int32) => [(0, .ref 57), (2, .int s7)]) (XJ := fun (e7 : Unit) o9 => J mi_X13_may 0 0 0 0 (g, q2) 54 [(0, .ref 57)] [] o9) (RJ := fun r9 o9 => o9 = some (some (.int (j_b r9.1)), (g, r9.2))) (fun s7 k7 hB7 hR7 hX7 => ?_) (fun e7 => ?_) (fun r9 => hk r9) _ 0
  · show J mi_X13_may 0 0 0 0 (g, q2) 7 [(0, .ref 57), (2, .int s7)] [] ((f_X13_may_w7 t q2 s7).bind k7)
    unfold f_X13_may_w7
    have hX13_may_j48_7 : ∀ (x2_48_7 : Int32), J mi_X13_may 0 0 0 0 (g, q2) 48 [(0, .ref 57), (2, .int x2_48_7)] [] ((f_X13_may_j48_7 t q2 x2_48_7).bind k7) := by
      intro x2_48_7
      unfold f_X13_may_j48_7
      refine J_iinc (pc := 48) (v := x2_48_7 + 1) (loc' := [(2, .int (x2_48_7 + 1)), (0, .ref 57)]) 1 dX13_may_48 rfl rfl (by decide) rfl ?_
      refine J_goto (pc := 51) (tgt := 7) dX13_may_51 (by decide) ?_
      refine J_loc (loc' := [(0, .ref 57), (2, .int (x2_48_7 + 1))]) [1, 0] rfl ?_
      exact hB7 (x2_48_7 + 1)
    refine J_iload_n (pc := 7) 1 dX13_may_7 rfl rfl ?_
    refine J_aload_n (pc := 8) 0 dX13_may_8 rfl rfl ?_
    refine J_getR (pc := 9) dX13_may_9 fl_X13_321 (h0.lt 57 (by decide)) (h0.ty 57 rfl) rfl hla ?_
    refine J_getI (pc := 12) dX13_may_12 fl_X13_191 (ht.lt 0 (by decide)) (ht.ty 0 rfl) rfl ?_
    refine K_icmp_ge (K := (fun x => Option.bind x k7)) (pc := 15) (tgt := 54) dX13_may_15 (by decide) (fun z15 => ?_) (fun z15 => ?_)
    · refine J_loc (loc' := [(0, .ref 57)]) [0] rfl ?_
      exact hX7 ()
    · refine J_aload_n (pc := 18) 0 dX13_may_18 rfl rfl ?_
      refine J_getR (pc := 19) dX13_may_19 fl_X13_321 (h0.lt 57 (by decide)) (h0.ty 57 rfl) rfl hla ?_
      refine J_getR (pc := 22) dX13_may_22 fl_X13_275 (ht.lt 0 (by decide)) (ht.ty 0 rfl) rfl (ht.rf 2 rfl) ?_
      refine J_iload_n (pc := 25) 1 dX13_may_25 rfl rfl ?_
      refine J_guard (fun z26 => ?_)
      refine J_iald (pc := 26) dX13_may_26 (ht.lt 3 (by decide)) (ht.ty 3 rfl) z26 ?_
      refine J_iconst (pc := 27) (v := 2) dX13_may_27 (by decide) ?_
      refine K_icmp_ne (K := (fun x => Option.bind x k7)) (pc := 28) (tgt := 48) dX13_may_28 (by decide) (fun z28 => ?_) (fun z28 => ?_)
      · exact hX13_may_j48_7 s7
      · refine J_aload_n (pc := 31) 0 dX13_may_31 rfl rfl ?_
        refine J_getR (pc := 32) dX13_may_32 fl_X13_21 (h0.lt 57 (by decide)) (h0.ty 57 rfl) rfl (h0.rf 57 rfl) ?_
        refine J_iload_n (pc := 35) 1 dX13_may_35 rfl rfl ?_
        refine J_guard (fun z36 => ?_)
        refine J_iald (pc := 36) dX13_may_36 (h0.lt 60 (by decide)) (h0.ty 60 rfl) z36 ?_
        refine J_aload_n (pc := 37) 0 dX13_may_37 rfl rfl ?_
        refine J_getR (pc := 38) dX13_may_38 fl_X13_17 (h0.lt 57 (by decide)) (h0.ty 57 rfl) rfl (h0.rf 56 rfl) ?_
        refine J_iload_n (pc := 41) 1 dX13_may_41 rfl rfl ?_
        refine J_guard (fun z42 => ?_)
        refine J_iald (pc := 42) dX13_may_42 (h0.lt 59 (by decide)) (h0.ty 59 rfl) z42 ?_
        refine K_icmp_eq (K := (fun x => Option.bind x k7)) (pc := 43) (tgt := 48) dX13_may_43 (by decide) (fun z43 => ?_) (fun z43 => ?_)
        · exact hX13_may_j48_7 s7
        · refine J_iconst (pc := 46) (v := 0) dX13_may_46 (by decide) ?_
          exact J_eqo (hR7 (false, q2)) (J_zretB (pc := 47) dX13_may_47 rfl)
  · show J mi_X13_may 0 0 0 0 (g, q2) 54 [(0, .ref 57)] [] (_)
    refine J_aload_n (pc := 54) 0 dX13_may_54 rfl rfl ?_
    refine JC_pp_i (J_callV (mi := mi_X13_may) (mj := mi_X13_hung) (pc := 55) dX13_may_55 ml_X13_369 ok_X13_hung ov_X13_hung ⟨Nat.le_of_ble_eq_true rfl, Nat.le_of_ble_eq_true rfl⟩ rfl (h0.lt 57 (by decide)) (h0.ty 57 rfl) rfl (s_X13_hung g q2 t h0 ht hla) rfl (Nat.le_of_ble_eq_true rfl)) (fun q55 => ?_)
    refine J_aload_n (pc := 58) 0 dX13_may_58 rfl rfl ?_
    refine JC_pp_i (J_callV (mi := mi_X13_may) (mj := mi_X13_hooks) (pc := 59) dX13_may_59 ml_X13_372 ok_X13_hooks ov_X13_hooks ⟨Nat.le_of_ble_eq_true rfl, Nat.le_of_ble_eq_true rfl⟩ rfl (h0.lt 57 (by decide)) (h0.ty 57 rfl) rfl (s_X13_hooks g q2 t h0 ht hla) rfl (Nat.le_of_ble_eq_true rfl)) (fun q59 => ?_)
    refine K_icmp_gt (K := (fun x => Option.bind x k)) (pc := 62) (tgt := 69) dX13_may_62 (by decide) (fun z62 => ?_) (fun z62 => ?_)
    · refine J_iconst (pc := 69) (v := 0) dX13_may_69 (by decide) ?_
      exact J_eqo (hk (false, q2)) (J_zretB (pc := 70) dX13_may_70 rfl)
    · refine J_iconst (pc := 65) (v := 1) dX13_may_65 (by decide) ?_
      refine J_goto (pc := 66) (tgt := 70) dX13_may_66 (by decide) ?_
      exact J_eqo (hk (true, q2)) (J_zretB (pc := 70) dX13_may_70 rfl)
def f_X13_least_j32_6 (r_60 : Nat → Int32) (r_t0 : Nat → Int32) (r_t1 : Nat → Int32) (r_t2 : Nat → Int32) (r_t3 : Nat → Int32) (r_t4 : Nat → Int32) (r_t5 : Nat → Int32) (x1_32_6 : Int32) (x2_32_6 : Int32) : Option ((Int32 × Int32) ⊕ (Int32)) := (some (.inl (x1_32_6, x2_32_6 + 1)))
def f_X13_least_w6 (r_60 : Nat → Int32) (r_t0 : Nat → Int32) (r_t1 : Nat → Int32) (r_t2 : Nat → Int32) (r_t3 : Nat → Int32) (r_t4 : Nat → Int32) (r_t5 : Nat → Int32) (s6 : Int32 × Int32) : Option ((Int32 × Int32) ⊕ (Int32)) := (if (r_t0 2) ≤ s6.2 then some (.inr s6.1) else ((f_X13_has r_60 r_t0 r_t1 r_t2 r_t3 r_t4 r_t5 s6.2).bind (fun q19_6 => if s6.1 ≤ q19_6 then f_X13_least_j32_6 r_60 r_t0 r_t1 r_t2 r_t3 r_t4 r_t5 s6.1 s6.2 else ((f_X13_has r_60 r_t0 r_t1 r_t2 r_t3 r_t4 r_t5 s6.2).bind (fun q28_6 => f_X13_least_j32_6 r_60 r_t0 r_t1 r_t2 r_t3 r_t4 r_t5 q28_6 s6.2)))))
def f_X13_least (r_60 : Nat → Int32) (r_t0 : Nat → Int32) (r_t1 : Nat → Int32) (r_t2 : Nat → Int32) (r_t3 : Nat → Int32) (r_t4 : Nat → Int32) (r_t5 : Nat → Int32) : Option (Int32) := ((j_wh (f_X13_least_w6 r_60 r_t0 r_t1 r_t2 r_t3 r_t4 r_t5 ) j_fuel (9999, 0)).bind (fun (e6 : Int32) => (if (r_t0 2) = 0 then (some 0) else (some e6))))
set_option maxRecDepth 100000 in
set_option maxHeartbeats 4000000 in
theorem s_X13_least (g : JG) (d : JD) (t : Nat) (h0 : j_sh g 0 TS_W RS_W) (ht : j_sh g t TS_ML RS_ML) (hla : g.2.2.1 57 3 = some t) : JM mi_X13_least 0 0 (g, d) [.ref 57] ((f_X13_least (d.1 60) (d.1 t) (d.1 (t + 1)) (d.1 (t + 2)) (d.1 (t + 3)) (d.1 (t + 4)) (d.1 (t + 5)) ).bind (fun r9 => some (some (.int r9), (g, d)))) := by
  refine JM_of (by decide) rfl (Nat.le_of_ble_eq_true rfl) ?_
  refine J_loc (loc' := [(0, .ref 57)]) [0] rfl ?_
  obtain ⟨k, hk, hk2⟩ : ∃ k : Int32 → Option (Option Value × JH), (∀ r9, k r9 = some (some (.int r9), (g, d))) ∧ (fun r9 : Int32 => (some (some (.int r9), (g, d)) : Option (Option Value × JH))) = k := ⟨_, fun _ => rfl, rfl⟩
  rw [hk2]
  unfold f_X13_least
  refine J_sipush (pc := 0) (v := 9999) dX13_least_0 (by decide) ?_
  refine J_istore_n (pc := 3) (loc' := [(1, .int 9999), (0, .ref 57)]) dX13_least_3 rfl (by decide) rfl ?_
  refine J_iconst (pc := 4) (v := 0) dX13_least_4 (by decide) ?_
  refine J_istore_n (pc := 5) (loc' := [(2, .int 0), (1, .int 9999), (0, .ref 57)]) dX13_least_5 rfl (by decide) rfl ?_
  refine J_loc (loc' := [(0, .ref 57), (1, .int 9999), (2, .int 0)]) [2, 1, 0] rfl ?_
  refine J_whL (F := f_X13_least_w6 (d.1 60) (d.1 t) (d.1 (t + 1)) (d.1 (t + 2)) (d.1 (t + 3)) (d.1 (t + 4)) (d.1 (t + 5)) ) (hp := fun (s6 : Int32 × Int32) => (g, d)) (lc := fun (s6 : Int32 × Int32) => [(0, .ref 57), (1, .int s6.1), (2, .int s6.2)]) (XJ := fun (e6 : Int32) o9 => J mi_X13_least 0 0 0 0 (g, d) 38 [(0, .ref 57), (1, .int e6)] [] o9) (fun s6 k6 hB6 hX6 => ?_) (fun e6 => ?_) _ (9999, 0)
  · show J mi_X13_least 0 0 0 0 (g, d) 6 [(0, .ref 57), (1, .int s6.1), (2, .int s6.2)] [] ((f_X13_least_w6 (d.1 60) (d.1 t) (d.1 (t + 1)) (d.1 (t + 2)) (d.1 (t + 3)) (d.1 (t + 4)) (d.1 (t + 5)) s6).bind k6)
    unfold f_X13_least_w6
    have hX13_least_j32_6 : ∀ (x1_32_6 : Int32) (x2_32_6 : Int32), J mi_X13_least 0 0 0 0 (g, d) 32 [(0, .ref 57), (1, .int x1_32_6), (2, .int x2_32_6)] [] ((f_X13_least_j32_6 (d.1 60) (d.1 t) (d.1 (t + 1)) (d.1 (t + 2)) (d.1 (t + 3)) (d.1 (t + 4)) (d.1 (t + 5)) x1_32_6 x2_32_6).bind k6) := by
      intro x1_32_6 x2_32_6
      unfold f_X13_least_j32_6
      refine J_iinc (pc := 32) (v := x2_32_6 + 1) (loc' := [(2, .int (x2_32_6 + 1)), (0, .ref 57), (1, .int x1_32_6)]) 2 dX13_least_32 rfl rfl (by decide) rfl ?_
      refine J_goto (pc := 35) (tgt := 6) dX13_least_35 (by decide) ?_
      refine J_loc (loc' := [(0, .ref 57), (1, .int x1_32_6), (2, .int (x2_32_6 + 1))]) [1, 2, 0] rfl ?_
      exact hB6 (x1_32_6, x2_32_6 + 1)
    refine J_iload_n (pc := 6) 2 dX13_least_6 rfl rfl ?_
    refine J_aload_n (pc := 7) 0 dX13_least_7 rfl rfl ?_
    refine J_getR (pc := 8) dX13_least_8 fl_X13_321 (h0.lt 57 (by decide)) (h0.ty 57 rfl) rfl hla ?_
    refine J_getI (pc := 11) dX13_least_11 fl_X13_229 (ht.lt 0 (by decide)) (ht.ty 0 rfl) rfl ?_
    refine K_icmp_ge (K := (fun x => Option.bind x k6)) (pc := 14) (tgt := 38) dX13_least_14 (by decide) (fun z14 => ?_) (fun z14 => ?_)
    · refine J_loc (loc' := [(0, .ref 57), (1, .int s6.1)]) [0, 1] rfl ?_
      exact hX6 s6.1
    · refine J_aload_n (pc := 17) 0 dX13_least_17 rfl rfl ?_
      refine J_iload_n (pc := 18) 2 dX13_least_18 rfl rfl ?_
      refine JC_pp_i (J_callV (mi := mi_X13_least) (mj := mi_X13_has) (pc := 19) dX13_least_19 ml_X13_354 ok_X13_has ov_X13_has ⟨Nat.le_of_ble_eq_true rfl, Nat.le_of_ble_eq_true rfl⟩ rfl (h0.lt 57 (by decide)) (h0.ty 57 rfl) rfl (s_X13_has g d t s6.2 h0 ht hla) rfl (Nat.le_of_ble_eq_true rfl)) (fun q19_6 => ?_)
      refine J_iload_n (pc := 22) 1 dX13_least_22 rfl rfl ?_
      refine K_icmp_ge (K := (fun x => Option.bind x k6)) (pc := 23) (tgt := 32) dX13_least_23 (by decide) (fun z23 => ?_) (fun z23 => ?_)
      · exact hX13_least_j32_6 s6.1 s6.2
      · refine J_aload_n (pc := 26) 0 dX13_least_26 rfl rfl ?_
        refine J_iload_n (pc := 27) 2 dX13_least_27 rfl rfl ?_
        refine JC_pp_i (J_callV (mi := mi_X13_least) (mj := mi_X13_has) (pc := 28) dX13_least_28 ml_X13_354 ok_X13_has ov_X13_has ⟨Nat.le_of_ble_eq_true rfl, Nat.le_of_ble_eq_true rfl⟩ rfl (h0.lt 57 (by decide)) (h0.ty 57 rfl) rfl (s_X13_has g d t s6.2 h0 ht hla) rfl (Nat.le_of_ble_eq_true rfl)) (fun q28_6 => ?_)
        refine J_istore_n (pc := 31) (loc' := [(1, .int q28_6), (0, .ref 57), (2, .int s6.2)]) dX13_least_31 rfl (by decide) rfl ?_
        refine J_loc (loc' := [(0, .ref 57), (1, .int q28_6), (2, .int s6.2)]) [1, 0, 2] rfl ?_
        exact hX13_least_j32_6 q28_6 s6.2
  · show J mi_X13_least 0 0 0 0 (g, d) 38 [(0, .ref 57), (1, .int e6)] [] (_)
    refine J_aload_n (pc := 38) 0 dX13_least_38 rfl rfl ?_
    refine J_getR (pc := 39) dX13_least_39 fl_X13_321 (h0.lt 57 (by decide)) (h0.ty 57 rfl) rfl hla ?_
    refine J_getI (pc := 42) dX13_least_42 fl_X13_229 (ht.lt 0 (by decide)) (ht.ty 0 rfl) rfl ?_
    refine K_if_ne (K := (fun x => Option.bind x k)) (pc := 45) (tgt := 52) dX13_least_45 (by decide) (fun z45 => ?_) (fun z45 => ?_)
    · refine J_iload_n (pc := 52) 1 dX13_least_52 rfl rfl ?_
      exact J_eqo (hk e6) (J_iret (pc := 53) dX13_least_53 rfl)
    · refine J_iconst (pc := 48) (v := 0) dX13_least_48 (by decide) ?_
      refine J_goto (pc := 49) (tgt := 53) dX13_least_49 (by decide) ?_
      exact J_eqo (hk 0) (J_iret (pc := 53) dX13_least_53 rfl)
def f_X13_coverWay_j58_7 (t : Nat) (d58_7 : JD) (x1_58_7 : Int32) (x2_58_7 : Int32) (x3_58_7 : Int32) : Option ((Int32 × Int32 × Int32 × JD) ⊕ (Int32 × JD)) := (some (.inl (x1_58_7, x2_58_7, x3_58_7 + 1, d58_7)))
def f_X13_coverWay_j51_7 (t : Nat) (d51_7 : JD) (x3_51_7 : Int32) : Option ((Int32 × Int32 × Int32 × JD) ⊕ (Int32 × JD)) := ((f_X13_hung (d51_7.1 60) (d51_7.1 t)).bind (fun q52_7 => f_X13_coverWay_j58_7 t d51_7 x3_51_7 q52_7 x3_51_7))
def f_X13_coverWay_w7 (t : Nat) (s7 : Int32 × Int32 × Int32 × JD) : Option ((Int32 × Int32 × Int32 × JD) ⊕ (Int32 × JD)) := (if (f_X13_ways (s7.2.2.2.1 t)) ≤ s7.2.2.1 then some (.inr (s7.1, s7.2.2.2)) else ((f_X13_may t s7.2.2.2 s7.2.2.1).bind (fun q17_7 => if q17_7.1 = true then ((f_X13_hung (q17_7.2.1 60) (q17_7.2.1 t)).bind (fun q24_7 => if s7.2.1 ≤ q24_7 then f_X13_coverWay_j58_7 t q17_7.2 s7.1 s7.2.1 s7.2.2.1 else (if ((q17_7.2.1 t) 2) ≤ 0 then f_X13_coverWay_j51_7 t q17_7.2 s7.2.2.1 else ((f_X13_least (q17_7.2.1 60) (q17_7.2.1 t) (q17_7.2.1 (t + 1)) (q17_7.2.1 (t + 2)) (q17_7.2.1 (t + 3)) (q17_7.2.1 (t + 4)) (q17_7.2.1 (t + 5))).bind (fun q42_7 => if q42_7 = 0 then (f_X13_coverWay_j58_7 t q17_7.2 s7.1 s7.2.1 s7.2.2.1) else f_X13_coverWay_j51_7 t q17_7.2 s7.2.2.1))))) else f_X13_coverWay_j58_7 t q17_7.2 s7.1 s7.2.1 s7.2.2.1)))
def f_X13_coverWay (t : Nat) (d : JD) : Option (Int32 × JD) := ((j_wh (f_X13_coverWay_w7 t ) j_fuel ((-1), 7, 0, d)).bind (fun (e7 : Int32 × JD) => (some (e7.1, e7.2))))
set_option maxRecDepth 100000 in
set_option maxHeartbeats 4000000 in
theorem s_X13_coverWay (g : JG) (d : JD) (t : Nat) (h0 : j_sh g 0 TS_W RS_W) (ht : j_sh g t TS_ML RS_ML) (hla : g.2.2.1 57 3 = some t) : JM mi_X13_coverWay 0 0 (g, d) [.ref 57] ((f_X13_coverWay t d ).bind (fun r9 => some (some (.int r9.1), (g, r9.2)))) := by
  refine JM_of (by decide) rfl (Nat.le_of_ble_eq_true rfl) ?_
  refine J_loc (loc' := [(0, .ref 57)]) [0] rfl ?_
  obtain ⟨k, hk, hk2⟩ : ∃ k : Int32 × JD → Option (Option Value × JH), (∀ r9, k r9 = some (some (.int r9.1), (g, r9.2))) ∧ (fun r9 : Int32 × JD => (some (some (.int r9.1), (g, r9.2)) : Option (Option Value × JH))) = k := ⟨_, fun _ => rfl, rfl⟩
  rw [hk2]
  unfold f_X13_coverWay
  refine J_iconst (pc := 0) (v := (-1)) dX13_coverWay_0 (by decide) ?_
  refine J_istore_n (pc := 1) (loc' := [(1, .int (-1)), (0, .ref 57)]) dX13_coverWay_1 rfl (by decide) rfl ?_
  refine J_bipush (pc := 2) (v := 7) dX13_coverWay_2 (by decide) ?_
  refine J_istore_n (pc := 4) (loc' := [(2, .int 7), (1, .int (-1)), (0, .ref 57)]) dX13_coverWay_4 rfl (by decide) rfl ?_
  refine J_iconst (pc := 5) (v := 0) dX13_coverWay_5 (by decide) ?_
  refine J_istore_n (pc := 6) (loc' := [(3, .int 0), (2, .int 7), (1, .int (-1)), (0, .ref 57)]) dX13_coverWay_6 rfl (by decide) rfl ?_
  refine J_loc (loc' := [(0, .ref 57), (1, .int (-1)), (2, .int 7), (3, .int 0)]) [3, 2, 1, 0] rfl ?_
  refine J_whL (F := f_X13_coverWay_w7 t ) (hp := fun (s7 : Int32 × Int32 × Int32 × JD) => (g, s7.2.2.2)) (lc := fun (s7 : Int32 × Int32 × Int32 × JD) => [(0, .ref 57), (1, .int s7.1), (2, .int s7.2.1), (3, .int s7.2.2.1)]) (XJ := fun (e7 : Int32 × JD) o9 => J mi_X13_coverWay 0 0 0 0 (g, e7.2) 64 [(1, .int e7.1)] [] o9) (fun s7 k7 hB7 hX7 => ?_) (fun e7 => ?_) _ ((-1), 7, 0, d)
  · show J mi_X13_coverWay 0 0 0 0 (g, s7.2.2.2) 7 [(0, .ref 57), (1, .int s7.1), (2, .int s7.2.1), (3, .int s7.2.2.1)] [] ((f_X13_coverWay_w7 t s7).bind k7)
    unfold f_X13_coverWay_w7
    have hX13_coverWay_j58_7 : ∀ (d58_7 : JD) (x1_58_7 : Int32) (x2_58_7 : Int32) (x3_58_7 : Int32), J mi_X13_coverWay 0 0 0 0 (g, d58_7) 58 [(0, .ref 57), (1, .int x1_58_7), (2, .int x2_58_7), (3, .int x3_58_7)] [] ((f_X13_coverWay_j58_7 t d58_7 x1_58_7 x2_58_7 x3_58_7).bind k7) := by
      intro d58_7 x1_58_7 x2_58_7 x3_58_7
      unfold f_X13_coverWay_j58_7
      refine J_iinc (pc := 58) (v := x3_58_7 + 1) (loc' := [(3, .int (x3_58_7 + 1)), (0, .ref 57), (1, .int x1_58_7), (2, .int x2_58_7)]) 3 dX13_coverWay_58 rfl rfl (by decide) rfl ?_
      refine J_goto (pc := 61) (tgt := 7) dX13_coverWay_61 (by decide) ?_
      refine J_loc (loc' := [(0, .ref 57), (1, .int x1_58_7), (2, .int x2_58_7), (3, .int (x3_58_7 + 1))]) [1, 2, 3, 0] rfl ?_
      exact hB7 (x1_58_7, x2_58_7, x3_58_7 + 1, d58_7)
    have hX13_coverWay_j51_7 : ∀ (d51_7 : JD) (x3_51_7 : Int32), J mi_X13_coverWay 0 0 0 0 (g, d51_7) 51 [(0, .ref 57), (3, .int x3_51_7)] [] ((f_X13_coverWay_j51_7 t d51_7 x3_51_7).bind k7) := by
      intro d51_7 x3_51_7
      unfold f_X13_coverWay_j51_7
      refine J_aload_n (pc := 51) 0 dX13_coverWay_51 rfl rfl ?_
      refine JC_pp_i (J_callV (mi := mi_X13_coverWay) (mj := mi_X13_hung) (pc := 52) dX13_coverWay_52 ml_X13_369 ok_X13_hung ov_X13_hung ⟨Nat.le_of_ble_eq_true rfl, Nat.le_of_ble_eq_true rfl⟩ rfl (h0.lt 57 (by decide)) (h0.ty 57 rfl) rfl (s_X13_hung g d51_7 t h0 ht hla) rfl (Nat.le_of_ble_eq_true rfl)) (fun q52_7 => ?_)
      refine J_istore_n (pc := 55) (loc' := [(2, .int q52_7), (0, .ref 57), (3, .int x3_51_7)]) dX13_coverWay_55 rfl (by decide) rfl ?_
      refine J_iload_n (pc := 56) 2 dX13_coverWay_56 rfl rfl ?_
      refine J_istore_n (pc := 57) (loc' := [(1, .int x3_51_7), (2, .int q52_7), (0, .ref 57), (3, .int x3_51_7)]) dX13_coverWay_57 rfl (by decide) rfl ?_
      refine J_loc (loc' := [(0, .ref 57), (1, .int x3_51_7), (2, .int q52_7), (3, .int x3_51_7)]) [2, 0, 1, 3] rfl ?_
      exact hX13_coverWay_j58_7 d51_7 x3_51_7 q52_7 x3_51_7
    refine J_iload_n (pc := 7) 3 dX13_coverWay_7 rfl rfl ?_
    refine J_aload_n (pc := 8) 0 dX13_coverWay_8 rfl rfl ?_
    refine JC_pt_i (J_callV (mi := mi_X13_coverWay) (mj := mi_X13_ways) (pc := 9) dX13_coverWay_9 ml_X13_405 ok_X13_ways ov_X13_ways ⟨Nat.le_of_ble_eq_true rfl, Nat.le_of_ble_eq_true rfl⟩ rfl (h0.lt 57 (by decide)) (h0.ty 57 rfl) rfl (s_X13_ways g s7.2.2.2 t h0 ht hla) rfl (Nat.le_of_ble_eq_true rfl)) ?_
    refine K_icmp_ge (K := (fun x => Option.bind x k7)) (pc := 12) (tgt := 64) dX13_coverWay_12 (by decide) (fun z12 => ?_) (fun z12 => ?_)
    · refine J_loc (loc' := [(1, .int s7.1)]) [1] rfl ?_
      exact hX7 (s7.1, s7.2.2.2)
    · refine J_aload_n (pc := 15) 0 dX13_coverWay_15 rfl rfl ?_
      refine J_iload_n (pc := 16) 3 dX13_coverWay_16 rfl rfl ?_
      refine JC_pe_b (J_callV (mi := mi_X13_coverWay) (mj := mi_X13_may) (pc := 17) dX13_coverWay_17 ml_X13_408 ok_X13_may ov_X13_may ⟨Nat.le_of_ble_eq_true rfl, Nat.le_of_ble_eq_true rfl⟩ rfl (h0.lt 57 (by decide)) (h0.ty 57 rfl) rfl (s_X13_may g s7.2.2.2 t s7.2.2.1 h0 ht hla) rfl (Nat.le_of_ble_eq_true rfl)) (fun q17_7 => ?_)
      refine K_ifeq_b (K := (fun x => Option.bind x k7)) (pc := 20) (tgt := 58) dX13_coverWay_20 (by decide) (fun z20 => ?_) (fun z20 => ?_)
      · exact hX13_coverWay_j58_7 q17_7.2 s7.1 s7.2.1 s7.2.2.1
      · refine J_aload_n (pc := 23) 0 dX13_coverWay_23 rfl rfl ?_
        refine JC_pp_i (J_callV (mi := mi_X13_coverWay) (mj := mi_X13_hung) (pc := 24) dX13_coverWay_24 ml_X13_369 ok_X13_hung ov_X13_hung ⟨Nat.le_of_ble_eq_true rfl, Nat.le_of_ble_eq_true rfl⟩ rfl (h0.lt 57 (by decide)) (h0.ty 57 rfl) rfl (s_X13_hung g q17_7.2 t h0 ht hla) rfl (Nat.le_of_ble_eq_true rfl)) (fun q24_7 => ?_)
        refine J_iload_n (pc := 27) 2 dX13_coverWay_27 rfl rfl ?_
        refine K_icmp_ge (K := (fun x => Option.bind x k7)) (pc := 28) (tgt := 58) dX13_coverWay_28 (by decide) (fun z28 => ?_) (fun z28 => ?_)
        · exact hX13_coverWay_j58_7 q17_7.2 s7.1 s7.2.1 s7.2.2.1
        · refine J_aload_n (pc := 31) 0 dX13_coverWay_31 rfl rfl ?_
          refine J_getR (pc := 32) dX13_coverWay_32 fl_X13_321 (h0.lt 57 (by decide)) (h0.ty 57 rfl) rfl hla ?_
          refine J_getI (pc := 35) dX13_coverWay_35 fl_X13_229 (ht.lt 0 (by decide)) (ht.ty 0 rfl) rfl ?_
          refine K_if_le (K := (fun x => Option.bind x k7)) (pc := 38) (tgt := 51) dX13_coverWay_38 (by decide) (fun z38 => ?_) (fun z38 => ?_)
          · refine J_loc (loc' := [(0, .ref 57), (3, .int s7.2.2.1)]) [0, 3] rfl ?_
            exact hX13_coverWay_j51_7 q17_7.2 s7.2.2.1
          · refine J_aload_n (pc := 41) 0 dX13_coverWay_41 rfl rfl ?_
            refine JC_pp_i (J_callV (mi := mi_X13_coverWay) (mj := mi_X13_least) (pc := 42) dX13_coverWay_42 ml_X13_411 ok_X13_least ov_X13_least ⟨Nat.le_of_ble_eq_true rfl, Nat.le_of_ble_eq_true rfl⟩ rfl (h0.lt 57 (by decide)) (h0.ty 57 rfl) rfl (s_X13_least g q17_7.2 t h0 ht hla) rfl (Nat.le_of_ble_eq_true rfl)) (fun q42_7 => ?_)
            refine K_if_ne (K := (fun x => Option.bind x k7)) (pc := 45) (tgt := 51) dX13_coverWay_45 (by decide) (fun z45 => ?_) (fun z45 => ?_)
            · refine J_loc (loc' := [(0, .ref 57), (3, .int s7.2.2.1)]) [0, 3] rfl ?_
              exact hX13_coverWay_j51_7 q17_7.2 s7.2.2.1
            · refine J_goto (pc := 48) (tgt := 58) dX13_coverWay_48 (by decide) ?_
              exact hX13_coverWay_j58_7 q17_7.2 s7.1 s7.2.1 s7.2.2.1
  · show J mi_X13_coverWay 0 0 0 0 (g, e7.2) 64 [(1, .int e7.1)] [] (_)
    refine J_iload_n (pc := 64) 0 dX13_coverWay_64 rfl rfl ?_
    exact J_eqo (hk (e7.1, e7.2)) (J_iret (pc := 65) dX13_coverWay_65 rfl)
