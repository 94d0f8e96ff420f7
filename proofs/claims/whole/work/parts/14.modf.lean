def f_X13_around_j37_4 (r_t0 : Nat → Int32) (r_t7 : Nat → Int32) (c1_4 : Int32) (x3_37_4 : Int32) (y0_37_4 : Int32) (y1_37_4 : Int32) : Option ((Int32 × Int32) ⊕ (Int32)) := (some (.inl (y1_37_4 ||| y0_37_4, x3_37_4 + 1)))
def f_X13_around_w4 (r_t0 : Nat → Int32) (r_t7 : Nat → Int32) (c1_4 : Int32) (s4 : Int32 × Int32) : Option ((Int32 × Int32) ⊕ (Int32)) := (if (r_t0 4) ≤ s4.2 then some (.inr s4.1) else (if (f_X13_bit (c1_4) s4.2) = true then (if j_out s4.2 6 then none else f_X13_around_j37_4 r_t0 r_t7 (c1_4) s4.2 (r_t7 s4.2.toNatClampNeg) s4.1) else (f_X13_around_j37_4 r_t0 r_t7 (c1_4) s4.2 0 s4.1)))
def f_X13_around (r_t0 : Nat → Int32) (r_t7 : Nat → Int32) (pq0 : Int32) : Option (Int32) := ((j_wh (f_X13_around_w4 r_t0 r_t7 pq0 ) j_fuel (pq0, 0)).bind (fun (e4 : Int32) => (some e4)))
set_option maxRecDepth 100000 in
set_option maxHeartbeats 4000000 in
theorem s_X13_around (g : JG) (d : JD) (t : Nat) (pq0 : Int32) (h0 : j_sh g 0 TS_W RS_W) (ht : j_sh g t TS_ML RS_ML) (hla : g.2.2.1 57 3 = some t) : JM mi_X13_around 0 0 (g, d) [.ref 57, .int pq0] ((f_X13_around (d.1 t) (d.1 (t + 7)) pq0).bind (fun r9 => some (some (.int r9), (g, d)))) := by
  refine JM_of (by decide) rfl (Nat.le_of_ble_eq_true rfl) ?_
  refine J_loc (loc' := [(0, .ref 57), (1, .int pq0)]) [0, 1] rfl ?_
  obtain ⟨k, hk, hk2⟩ : ∃ k : Int32 → Option (Option Value × JH), (∀ r9, k r9 = some (some (.int r9), (g, d))) ∧ (fun r9 : Int32 => (some (some (.int r9), (g, d)) : Option (Option Value × JH))) = k := ⟨_, fun _ => rfl, rfl⟩
  rw [hk2]
  unfold f_X13_around
  refine J_iload_n (pc := 0) 1 dX13_around_0 rfl rfl ?_
  refine J_istore_n (pc := 1) (loc' := [(2, .int pq0), (0, .ref 57), (1, .int pq0)]) dX13_around_1 rfl (by decide) rfl ?_
  refine J_iconst (pc := 2) (v := 0) dX13_around_2 (by decide) ?_
  refine J_istore_n (pc := 3) (loc' := [(3, .int 0), (2, .int pq0), (0, .ref 57), (1, .int pq0)]) dX13_around_3 rfl (by decide) rfl ?_
  refine J_loc (loc' := [(0, .ref 57), (1, .int pq0), (2, .int pq0), (3, .int 0)]) [2, 3, 1, 0] rfl ?_
  refine J_whL (F := f_X13_around_w4 (d.1 t) (d.1 (t + 7)) pq0 ) (hp := fun (s4 : Int32 × Int32) => (g, d)) (lc := fun (s4 : Int32 × Int32) => [(0, .ref 57), (1, .int (pq0)), (2, .int s4.1), (3, .int s4.2)]) (XJ := fun (e4 : Int32) o9 => J mi_X13_around 0 0 0 0 (g, d) 45 [(2, .int e4)] [] o9) (fun s4 k4 hB4 hX4 => ?_) (fun e4 => ?_) _ (pq0, 0)
  · show J mi_X13_around 0 0 0 0 (g, d) 4 [(0, .ref 57), (1, .int (pq0)), (2, .int s4.1), (3, .int s4.2)] [] ((f_X13_around_w4 (d.1 t) (d.1 (t + 7)) pq0 s4).bind k4)
    unfold f_X13_around_w4
    have hX13_around_j37_4 : ∀ (x3_37_4 : Int32) (y0_37_4 : Int32) (y1_37_4 : Int32), J mi_X13_around 0 0 0 0 (g, d) 37 [(0, .ref 57), (1, .int (pq0)), (3, .int x3_37_4)] [.int y0_37_4, .int y1_37_4] ((f_X13_around_j37_4 (d.1 t) (d.1 (t + 7)) pq0 x3_37_4 y0_37_4 y1_37_4).bind k4) := by
      intro x3_37_4 y0_37_4 y1_37_4
      unfold f_X13_around_j37_4
      refine J_ior (pc := 37) dX13_around_37 ?_
      refine J_istore_n (pc := 38) (loc' := [(2, .int (y1_37_4 ||| y0_37_4)), (0, .ref 57), (1, .int (pq0)), (3, .int x3_37_4)]) dX13_around_38 rfl (by decide) rfl ?_
      refine J_iinc (pc := 39) (v := x3_37_4 + 1) (loc' := [(3, .int (x3_37_4 + 1)), (2, .int (y1_37_4 ||| y0_37_4)), (0, .ref 57), (1, .int (pq0))]) 3 dX13_around_39 rfl rfl (by decide) rfl ?_
      refine J_goto (pc := 42) (tgt := 4) dX13_around_42 (by decide) ?_
      refine J_loc (loc' := [(0, .ref 57), (1, .int (pq0)), (2, .int (y1_37_4 ||| y0_37_4)), (3, .int (x3_37_4 + 1))]) [2, 3, 1, 0] rfl ?_
      exact hB4 (y1_37_4 ||| y0_37_4, x3_37_4 + 1)
    refine J_iload_n (pc := 4) 3 dX13_around_4 rfl rfl ?_
    refine J_aload_n (pc := 5) 0 dX13_around_5 rfl rfl ?_
    refine J_getR (pc := 6) dX13_around_6 fl_X13_321 (h0.lt 57 (by decide)) (h0.ty 57 rfl) rfl hla ?_
    refine J_getI (pc := 9) dX13_around_9 fl_X13_191 (ht.lt 0 (by decide)) (ht.ty 0 rfl) rfl ?_
    refine K_icmp_ge (K := (fun x => Option.bind x k4)) (pc := 12) (tgt := 45) dX13_around_12 (by decide) (fun z12 => ?_) (fun z12 => ?_)
    · refine J_loc (loc' := [(2, .int s4.1)]) [2] rfl ?_
      exact hX4 s4.1
    · refine J_iload_n (pc := 15) 2 dX13_around_15 rfl rfl ?_
      refine J_iload_n (pc := 16) 1 dX13_around_16 rfl rfl ?_
      refine J_iload_n (pc := 17) 3 dX13_around_17 rfl rfl ?_
      refine JC_pt_i (J_callS (mi := mi_X13_around) (mj := mi_X13_bit) (pc := 18) dX13_around_18 ml_X13_249 ok_X13_bit os_X13_bit ⟨Nat.le_of_ble_eq_true rfl, Nat.le_of_ble_eq_true rfl⟩ rfl (s_X13_bit g d pq0 s4.2) rfl (Nat.le_of_ble_eq_true rfl)) ?_
      refine K_ifeq_b (K := (fun x => Option.bind x k4)) (pc := 21) (tgt := 36) dX13_around_21 (by decide) (fun z21 => ?_) (fun z21 => ?_)
      · refine J_iconst (pc := 36) (v := 0) dX13_around_36 (by decide) ?_
        refine J_loc (loc' := [(0, .ref 57), (1, .int (pq0)), (3, .int s4.2)]) [0, 1, 3] rfl ?_
        exact hX13_around_j37_4 s4.2 0 s4.1
      · refine J_aload_n (pc := 24) 0 dX13_around_24 rfl rfl ?_
        refine J_getR (pc := 25) dX13_around_25 fl_X13_321 (h0.lt 57 (by decide)) (h0.ty 57 rfl) rfl hla ?_
        refine J_getR (pc := 28) dX13_around_28 fl_X13_288 (ht.lt 0 (by decide)) (ht.ty 0 rfl) rfl (ht.rf 6 rfl) ?_
        refine J_iload_n (pc := 31) 3 dX13_around_31 rfl rfl ?_
        refine J_guard (fun z32 => ?_)
        refine J_iald (pc := 32) dX13_around_32 (ht.lt 7 (by decide)) (ht.ty 7 rfl) z32 ?_
        refine J_goto (pc := 33) (tgt := 37) dX13_around_33 (by decide) ?_
        refine J_loc (loc' := [(0, .ref 57), (1, .int (pq0)), (3, .int s4.2)]) [0, 1, 3] rfl ?_
        exact hX13_around_j37_4 s4.2 ((d.1 (t + 7)) s4.2.toNatClampNeg) s4.1
  · show J mi_X13_around 0 0 0 0 (g, d) 45 [(2, .int e4)] [] (_)
    refine J_iload_n (pc := 45) 0 dX13_around_45 rfl rfl ?_
    exact J_eqo (hk e4) (J_iret (pc := 46) dX13_around_46 rfl)
def f_X13_steps_w7 (r_t0 : Nat → Int32) (r_t7 : Nat → Int32) (c2_7 : Int32) (s7 : Int32 × Int32) : Option ((Int32 × Int32) ⊕ (Int32 ⊕ (Unit))) := (if (r_t0 4) ≤ s7.2 then some (.inr (.inr ())) else (if (f_X13_bit s7.1 (c2_7)) = true then (some (Sum.inr (Sum.inl s7.2))) else ((f_X13_around r_t0 r_t7 s7.1).bind (fun q32_7 => some (.inl (q32_7, s7.2 + 1))))))
def f_X13_steps (r_t0 : Nat → Int32) (r_t7 : Nat → Int32) (pq0 : Int32) (pq1 : Int32) : Option (Int32) := ((j_wh (f_X13_steps_w7 r_t0 r_t7 pq1 ) j_fuel ((1 : Int32) <<< (pq0 &&& 31), 0)).bind (Sum.elim (fun r9 => some r9) (fun (e7 : Unit) => (some (-2)))))
set_option maxRecDepth 100000 in
set_option maxHeartbeats 4000000 in
theorem s_X13_steps (g : JG) (d : JD) (t : Nat) (pq0 : Int32) (pq1 : Int32) (h0 : j_sh g 0 TS_W RS_W) (ht : j_sh g t TS_ML RS_ML) (hla : g.2.2.1 57 3 = some t) : JM mi_X13_steps 0 0 (g, d) [.ref 57, .int pq0, .int pq1] ((f_X13_steps (d.1 t) (d.1 (t + 7)) pq0 pq1).bind (fun r9 => some (some (.int r9), (g, d)))) := by
  refine JM_of (by decide) rfl (Nat.le_of_ble_eq_true rfl) ?_
  refine J_loc (loc' := [(0, .ref 57), (1, .int pq0), (2, .int pq1)]) [0, 1, 2] rfl ?_
  obtain ⟨k, hk, hk2⟩ : ∃ k : Int32 → Option (Option Value × JH), (∀ r9, k r9 = some (some (.int r9), (g, d))) ∧ (fun r9 : Int32 => (some (some (.int r9), (g, d)) : Option (Option Value × JH))) = k := ⟨_, fun _ => rfl, rfl⟩
  rw [hk2]
  unfold f_X13_steps
  refine J_iconst (pc := 0) (v := 1) dX13_steps_0 (by decide) ?_
  refine J_iload_n (pc := 1) 1 dX13_steps_1 rfl rfl ?_
  refine J_ishl (pc := 2) dX13_steps_2 ?_
  refine J_istore_n (pc := 3) (loc' := [(3, .int ((1 : Int32) <<< (pq0 &&& 31))), (0, .ref 57), (1, .int pq0), (2, .int pq1)]) dX13_steps_3 rfl (by decide) rfl ?_
  refine J_iconst (pc := 4) (v := 0) dX13_steps_4 (by decide) ?_
  refine J_istore (pc := 5) (loc' := [(4, .int 0), (3, .int ((1 : Int32) <<< (pq0 &&& 31))), (0, .ref 57), (1, .int pq0), (2, .int pq1)]) dX13_steps_5 (by decide) rfl ?_
  refine J_loc (loc' := [(0, .ref 57), (2, .int pq1), (3, .int ((1 : Int32) <<< (pq0 &&& 31))), (4, .int 0)]) [2, 4, 1, 0] rfl ?_
  refine J_whR (F := f_X13_steps_w7 (d.1 t) (d.1 (t + 7)) pq1 ) (fr := fun r9 => some r9) (k := k) (hp := fun (s7 : Int32 × Int32) => (g, d)) (lc := fun (s7 : Int32 × Int32) => [(0, .ref 57), (2, .int (pq1)), (3, .int s7.1), (4, .int s7.2)]) (XJ := fun (e7 : Unit) o9 => J mi_X13_steps 0 0 0 0 (g, d) 42 [] [] o9) (RJ := fun r9 o9 => o9 = some (some (.int r9), (g, d))) (fun s7 k7 hB7 hR7 hX7 => ?_) (fun e7 => ?_) (fun r9 => hk r9) _ ((1 : Int32) <<< (pq0 &&& 31), 0)
  · show J mi_X13_steps 0 0 0 0 (g, d) 7 [(0, .ref 57), (2, .int (pq1)), (3, .int s7.1), (4, .int s7.2)] [] ((f_X13_steps_w7 (d.1 t) (d.1 (t + 7)) pq1 s7).bind k7)
    unfold f_X13_steps_w7
    refine J_iload (pc := 7) 3 dX13_steps_7 rfl ?_
    refine J_aload_n (pc := 9) 0 dX13_steps_9 rfl rfl ?_
    refine J_getR (pc := 10) dX13_steps_10 fl_X13_321 (h0.lt 57 (by decide)) (h0.ty 57 rfl) rfl hla ?_
    refine J_getI (pc := 13) dX13_steps_13 fl_X13_191 (ht.lt 0 (by decide)) (ht.ty 0 rfl) rfl ?_
    refine K_icmp_ge (K := (fun x => Option.bind x k7)) (pc := 16) (tgt := 42) dX13_steps_16 (by decide) (fun z16 => ?_) (fun z16 => ?_)
    · refine J_loc (loc' := []) [] rfl ?_
      exact hX7 ()
    · refine J_iload_n (pc := 19) 2 dX13_steps_19 rfl rfl ?_
      refine J_iload_n (pc := 20) 1 dX13_steps_20 rfl rfl ?_
      refine JC_pt_i (J_callS (mi := mi_X13_steps) (mj := mi_X13_bit) (pc := 21) dX13_steps_21 ml_X13_249 ok_X13_bit os_X13_bit ⟨Nat.le_of_ble_eq_true rfl, Nat.le_of_ble_eq_true rfl⟩ rfl (s_X13_bit g d s7.1 pq1) rfl (Nat.le_of_ble_eq_true rfl)) ?_
      refine K_ifeq_b (K := (fun x => Option.bind x k7)) (pc := 24) (tgt := 30) dX13_steps_24 (by decide) (fun z24 => ?_) (fun z24 => ?_)
      · refine J_aload_n (pc := 30) 0 dX13_steps_30 rfl rfl ?_
        refine J_iload_n (pc := 31) 2 dX13_steps_31 rfl rfl ?_
        refine JC_pp_i (J_callV (mi := mi_X13_steps) (mj := mi_X13_around) (pc := 32) dX13_steps_32 ml_X13_450 ok_X13_around ov_X13_around ⟨Nat.le_of_ble_eq_true rfl, Nat.le_of_ble_eq_true rfl⟩ rfl (h0.lt 57 (by decide)) (h0.ty 57 rfl) rfl (s_X13_around g d t s7.1 h0 ht hla) rfl (Nat.le_of_ble_eq_true rfl)) (fun q32_7 => ?_)
        refine J_istore_n (pc := 35) (loc' := [(3, .int q32_7), (0, .ref 57), (2, .int (pq1)), (4, .int s7.2)]) dX13_steps_35 rfl (by decide) rfl ?_
        refine J_iinc (pc := 36) (v := s7.2 + 1) (loc' := [(4, .int (s7.2 + 1)), (3, .int q32_7), (0, .ref 57), (2, .int (pq1))]) 3 dX13_steps_36 rfl rfl (by decide) rfl ?_
        refine J_goto (pc := 39) (tgt := 7) dX13_steps_39 (by decide) ?_
        refine J_loc (loc' := [(0, .ref 57), (2, .int (pq1)), (3, .int q32_7), (4, .int (s7.2 + 1))]) [2, 3, 1, 0] rfl ?_
        exact hB7 (q32_7, s7.2 + 1)
      · refine J_iload (pc := 27) 3 dX13_steps_27 rfl ?_
        exact J_eqo (hR7 s7.2) (J_iret (pc := 29) dX13_steps_29 rfl)
  · show J mi_X13_steps 0 0 0 0 (g, d) 42 [] [] (_)
    refine J_bipush (pc := 42) (v := (-2)) dX13_steps_42 (by decide) ?_
    exact J_eqo (hk (-2)) (J_iret (pc := 44) dX13_steps_44 rfl)
def f_X13_apart_j34 (t : Nat) (d34 : JD) : Option (Int32 × JD) := (j_let (f_X13_refused d34 1) (fun q36 => some (q36.1, q36.2)))
def f_X13_apart (t : Nat) (d : JD) (pq0 : Int32) (pq1 : Int32) : Option (Int32 × JD) := (if (f_X13_isGate ((j_sI d 57 0 0).1 t) pq0) = true then (if (f_X13_isGate ((j_sI d 57 0 0).1 t) pq1) = true then ((f_X13_steps ((j_sI d 57 0 0).1 t) ((j_sI d 57 0 0).1 (t + 7)) pq0 pq1).bind (fun q25 => j_let (f_X13_good (j_sI d 57 0 0) q25) (fun q28 => some (q28.1, q28.2)))) else f_X13_apart_j34 t (j_sI d 57 0 0) ) else f_X13_apart_j34 t (j_sI d 57 0 0) )
set_option maxRecDepth 100000 in
set_option maxHeartbeats 4000000 in
theorem s_X13_apart (g : JG) (d : JD) (t : Nat) (pq0 : Int32) (pq1 : Int32) (h0 : j_sh g 0 TS_W RS_W) (ht : j_sh g t TS_ML RS_ML) (hla : g.2.2.1 57 3 = some t) : JM mi_X13_apart 0 0 (g, d) [.ref 57, .int pq0, .int pq1] ((f_X13_apart t d pq0 pq1).bind (fun r9 => some (some (.int r9.1), (g, r9.2)))) := by
  refine JM_of (by decide) rfl (Nat.le_of_ble_eq_true rfl) ?_
  refine J_loc (loc' := [(0, .ref 57), (1, .int pq0), (2, .int pq1)]) [0, 1, 2] rfl ?_
  obtain ⟨k, hk, hk2⟩ : ∃ k : Int32 × JD → Option (Option Value × JH), (∀ r9, k r9 = some (some (.int r9.1), (g, r9.2))) ∧ (fun r9 : Int32 × JD => (some (some (.int r9.1), (g, r9.2)) : Option (Option Value × JH))) = k := ⟨_, fun _ => rfl, rfl⟩
  rw [hk2]
  unfold f_X13_apart
  have hX13_apart_j34 : ∀ (d34 : JD) , J mi_X13_apart 0 0 0 0 (g, d34) 34 [(0, .ref 57)] [] ((f_X13_apart_j34 t d34 ).bind k) := by
    intro d34 
    unfold f_X13_apart_j34
    refine J_aload_n (pc := 34) 0 dX13_apart_34 rfl rfl ?_
    refine J_iconst (pc := 35) (v := 1) dX13_apart_35 (by decide) ?_
    refine JC_lt_i (K := (fun x => Option.bind x k)) (J_callV (mi := mi_X13_apart) (mj := mi_X13_refused) (pc := 36) dX13_apart_36 ml_X13_48 ok_X13_refused ov_X13_refused ⟨Nat.le_of_ble_eq_true rfl, Nat.le_of_ble_eq_true rfl⟩ rfl (h0.lt 57 (by decide)) (h0.ty 57 rfl) rfl (s_X13_refused g d34 1 h0) rfl (Nat.le_of_ble_eq_true rfl)) (fun q36 eq36 => ?_)
    exact J_eqo (hk (q36.1, q36.2)) (J_iret (pc := 39) dX13_apart_39 rfl)
  refine J_aload_n (pc := 0) 0 dX13_apart_0 rfl rfl ?_
  refine J_iconst (pc := 1) (v := 0) dX13_apart_1 (by decide) ?_
  refine J_putI (pc := 2) dX13_apart_2 fl_X13_42 ft_12_0 (h0.lt 57 (by decide)) (h0.ty 57 rfl) rfl rfl rfl ?_
  refine J_aload_n (pc := 5) 0 dX13_apart_5 rfl rfl ?_
  refine J_iload_n (pc := 6) 1 dX13_apart_6 rfl rfl ?_
  refine JC_pt_i (J_callV (mi := mi_X13_apart) (mj := mi_X13_isGate) (pc := 7) dX13_apart_7 ml_X13_345 ok_X13_isGate ov_X13_isGate ⟨Nat.le_of_ble_eq_true rfl, Nat.le_of_ble_eq_true rfl⟩ rfl (h0.lt 57 (by decide)) (h0.ty 57 rfl) rfl (s_X13_isGate g (j_sI d 57 0 0) t pq0 h0 ht hla) rfl (Nat.le_of_ble_eq_true rfl)) ?_
  refine K_ifeq_b (K := (fun x => Option.bind x k)) (pc := 10) (tgt := 34) dX13_apart_10 (by decide) (fun z10 => ?_) (fun z10 => ?_)
  · refine J_loc (loc' := [(0, .ref 57)]) [0] rfl ?_
    exact hX13_apart_j34 (j_sI d 57 0 0) 
  · refine J_aload_n (pc := 13) 0 dX13_apart_13 rfl rfl ?_
    refine J_iload_n (pc := 14) 2 dX13_apart_14 rfl rfl ?_
    refine JC_pt_i (J_callV (mi := mi_X13_apart) (mj := mi_X13_isGate) (pc := 15) dX13_apart_15 ml_X13_345 ok_X13_isGate ov_X13_isGate ⟨Nat.le_of_ble_eq_true rfl, Nat.le_of_ble_eq_true rfl⟩ rfl (h0.lt 57 (by decide)) (h0.ty 57 rfl) rfl (s_X13_isGate g (j_sI d 57 0 0) t pq1 h0 ht hla) rfl (Nat.le_of_ble_eq_true rfl)) ?_
    refine K_ifeq_b (K := (fun x => Option.bind x k)) (pc := 18) (tgt := 34) dX13_apart_18 (by decide) (fun z18 => ?_) (fun z18 => ?_)
    · refine J_loc (loc' := [(0, .ref 57)]) [0] rfl ?_
      exact hX13_apart_j34 (j_sI d 57 0 0) 
    · refine J_aload_n (pc := 21) 0 dX13_apart_21 rfl rfl ?_
      refine J_aload_n (pc := 22) 0 dX13_apart_22 rfl rfl ?_
      refine J_iload_n (pc := 23) 1 dX13_apart_23 rfl rfl ?_
      refine J_iload_n (pc := 24) 2 dX13_apart_24 rfl rfl ?_
      refine JC_pp_i (J_callV (mi := mi_X13_apart) (mj := mi_X13_steps) (pc := 25) dX13_apart_25 ml_X13_453 ok_X13_steps ov_X13_steps ⟨Nat.le_of_ble_eq_true rfl, Nat.le_of_ble_eq_true rfl⟩ rfl (h0.lt 57 (by decide)) (h0.ty 57 rfl) rfl (s_X13_steps g (j_sI d 57 0 0) t pq0 pq1 h0 ht hla) rfl (Nat.le_of_ble_eq_true rfl)) (fun q25 => ?_)
      refine JC_lt_i (K := (fun x => Option.bind x k)) (J_callV (mi := mi_X13_apart) (mj := mi_X13_good) (pc := 28) dX13_apart_28 ml_X13_52 ok_X13_good ov_X13_good ⟨Nat.le_of_ble_eq_true rfl, Nat.le_of_ble_eq_true rfl⟩ rfl (h0.lt 57 (by decide)) (h0.ty 57 rfl) rfl (s_X13_good g (j_sI d 57 0 0) q25 h0) rfl (Nat.le_of_ble_eq_true rfl)) (fun q28 eq28 => ?_)
      refine J_goto (pc := 31) (tgt := 39) dX13_apart_31 (by decide) ?_
      exact J_eqo (hk (q28.1, q28.2)) (J_iret (pc := 39) dX13_apart_39 rfl)
def f_X13_sentries_j61_34 (t : Nat) (c1_34 : Int32) (d : JD) (x2_61_34 : Int32) (x3_61_34 : Int32) : Option ((Int32 × Int32) ⊕ (Int32)) := (some (.inl (x2_61_34, x3_61_34 + 1)))
def f_X13_sentries_w34 (t : Nat) (c1_34 : Int32) (d : JD) (s34 : Int32 × Int32) : Option ((Int32 × Int32) ⊕ (Int32)) := (if (c1_34) < s34.2 then some (.inr s34.1) else ((f_X13_bits s34.2).bind (fun q40_34 => (f_X13_bits s34.1).bind (fun q44_34 => if q44_34 ≤ q40_34 then f_X13_sentries_j61_34 t (c1_34) (d) s34.1 s34.2 else ((f_X13_around ((d).1 t) ((d).1 (t + 7)) s34.2).bind (fun q52_34 => if q52_34 = (c1_34) then (f_X13_sentries_j61_34 t (c1_34) (d) s34.2 s34.2) else f_X13_sentries_j61_34 t (c1_34) (d) s34.1 s34.2))))))
def f_X13_sentries (t : Nat) (d : JD) : Option (Int32 × JD) := (j_let (((1 : Int32) <<< ((((j_sI d 57 0 0).1 t) 4) &&& 31)) - 1) (fun v1_29 => (j_wh (f_X13_sentries_w34 t v1_29 (j_sI d 57 0 0) ) j_fuel (v1_29, 0)).bind (fun (e34 : Int32) => (j_let (f_X13_good (j_sI d 57 0 0) e34) (fun q69 => some (q69.1, q69.2))))))
set_option maxRecDepth 100000 in
set_option maxHeartbeats 4000000 in
theorem s_X13_sentries (g : JG) (d : JD) (t : Nat) (h0 : j_sh g 0 TS_W RS_W) (ht : j_sh g t TS_ML RS_ML) (hla : g.2.2.1 57 3 = some t) : JM mi_X13_sentries 0 0 (g, d) [.ref 57] ((f_X13_sentries t d ).bind (fun r9 => some (some (.int r9.1), (g, r9.2)))) := by
  refine JM_of (by decide) rfl (Nat.le_of_ble_eq_true rfl) ?_
  refine J_loc (loc' := [(0, .ref 57)]) [0] rfl ?_
  obtain ⟨k, hk, hk2⟩ : ∃ k : Int32 × JD → Option (Option Value × JH), (∀ r9, k r9 = some (some (.int r9.1), (g, r9.2))) ∧ (fun r9 : Int32 × JD => (some (some (.int r9.1), (g, r9.2)) : Option (Option Value × JH))) = k := ⟨_, fun _ => rfl, rfl⟩
  rw [hk2]
  unfold f_X13_sentries
  refine J_aload_n (pc := 0) 0 dX13_sentries_0 rfl rfl ?_
  refine J_iconst (pc := 1) (v := 0) dX13_sentries_1 (by decide) ?_
  refine J_putI (pc := 2) dX13_sentries_2 fl_X13_42 ft_12_0 (h0.lt 57 (by decide)) (h0.ty 57 rfl) rfl rfl rfl ?_
  refine J_aload_n (pc := 5) 0 dX13_sentries_5 rfl rfl ?_
  refine J_getR (pc := 6) dX13_sentries_6 fl_X13_321 (h0.lt 57 (by decide)) (h0.ty 57 rfl) rfl hla ?_
  refine J_ifnonnull (pc := 9) (tgt := 18) dX13_sentries_9 (by decide) ?_
  refine J_iconst (pc := 18) (v := 1) dX13_sentries_18 (by decide) ?_
  refine J_aload_n (pc := 19) 0 dX13_sentries_19 rfl rfl ?_
  refine J_getR (pc := 20) dX13_sentries_20 fl_X13_321 (h0.lt 57 (by decide)) (h0.ty 57 rfl) rfl hla ?_
  refine J_getI (pc := 23) dX13_sentries_23 fl_X13_191 (ht.lt 0 (by decide)) (ht.ty 0 rfl) rfl ?_
  refine J_ishl (pc := 26) dX13_sentries_26 ?_
  refine J_iconst (pc := 27) (v := 1) dX13_sentries_27 (by decide) ?_
  refine J_isub (pc := 28) dX13_sentries_28 ?_
  refine J_let (K := (fun x => Option.bind x k)) (fun v1_29 ev1_29 => ?_)
  refine J_val ev1_29.symm ?_
  refine J_istore_n (pc := 29) (loc' := [(1, .int v1_29), (0, .ref 57)]) dX13_sentries_29 rfl (by decide) rfl ?_
  refine J_iload_n (pc := 30) 0 dX13_sentries_30 rfl rfl ?_
  refine J_istore_n (pc := 31) (loc' := [(2, .int v1_29), (1, .int v1_29), (0, .ref 57)]) dX13_sentries_31 rfl (by decide) rfl ?_
  refine J_iconst (pc := 32) (v := 0) dX13_sentries_32 (by decide) ?_
  refine J_istore_n (pc := 33) (loc' := [(3, .int 0), (2, .int v1_29), (1, .int v1_29), (0, .ref 57)]) dX13_sentries_33 rfl (by decide) rfl ?_
  refine J_loc (loc' := [(0, .ref 57), (1, .int v1_29), (2, .int v1_29), (3, .int 0)]) [3, 2, 1, 0] rfl ?_
  refine J_whL (F := f_X13_sentries_w34 t v1_29 (j_sI d 57 0 0) ) (hp := fun (s34 : Int32 × Int32) => (g, (j_sI d 57 0 0))) (lc := fun (s34 : Int32 × Int32) => [(0, .ref 57), (1, .int (v1_29)), (2, .int s34.1), (3, .int s34.2)]) (XJ := fun (e34 : Int32) o9 => J mi_X13_sentries 0 0 0 0 (g, j_sI d 57 0 0) 67 [(0, .ref 57), (2, .int e34)] [] o9) (fun s34 k34 hB34 hX34 => ?_) (fun e34 => ?_) _ (v1_29, 0)
  · show J mi_X13_sentries 0 0 0 0 (g, (j_sI d 57 0 0)) 34 [(0, .ref 57), (1, .int (v1_29)), (2, .int s34.1), (3, .int s34.2)] [] ((f_X13_sentries_w34 t v1_29 (j_sI d 57 0 0) s34).bind k34)
    unfold f_X13_sentries_w34
    have hX13_sentries_j61_34 : ∀ (x2_61_34 : Int32) (x3_61_34 : Int32), J mi_X13_sentries 0 0 0 0 (g, (j_sI d 57 0 0)) 61 [(0, .ref 57), (1, .int (v1_29)), (2, .int x2_61_34), (3, .int x3_61_34)] [] ((f_X13_sentries_j61_34 t v1_29 (j_sI d 57 0 0) x2_61_34 x3_61_34).bind k34) := by
      intro x2_61_34 x3_61_34
      unfold f_X13_sentries_j61_34
      refine J_iinc (pc := 61) (v := x3_61_34 + 1) (loc' := [(3, .int (x3_61_34 + 1)), (0, .ref 57), (1, .int (v1_29)), (2, .int x2_61_34)]) 3 dX13_sentries_61 rfl rfl (by decide) rfl ?_
      refine J_goto (pc := 64) (tgt := 34) dX13_sentries_64 (by decide) ?_
      refine J_loc (loc' := [(0, .ref 57), (1, .int (v1_29)), (2, .int x2_61_34), (3, .int (x3_61_34 + 1))]) [1, 2, 3, 0] rfl ?_
      exact hB34 (x2_61_34, x3_61_34 + 1)
    refine J_iload_n (pc := 34) 3 dX13_sentries_34 rfl rfl ?_
    refine J_iload_n (pc := 35) 1 dX13_sentries_35 rfl rfl ?_
    refine K_icmp_gt (K := (fun x => Option.bind x k34)) (pc := 36) (tgt := 67) dX13_sentries_36 (by decide) (fun z36 => ?_) (fun z36 => ?_)
    · refine J_loc (loc' := [(0, .ref 57), (2, .int s34.1)]) [0, 2] rfl ?_
      exact hX34 s34.1
    · refine J_iload_n (pc := 39) 3 dX13_sentries_39 rfl rfl ?_
      refine JC_pp_i (J_callS (mi := mi_X13_sentries) (mj := mi_X13_bits) (pc := 40) dX13_sentries_40 ml_X13_335 ok_X13_bits os_X13_bits ⟨Nat.le_of_ble_eq_true rfl, Nat.le_of_ble_eq_true rfl⟩ rfl (s_X13_bits g (j_sI d 57 0 0) s34.2) rfl (Nat.le_of_ble_eq_true rfl)) (fun q40_34 => ?_)
      refine J_iload_n (pc := 43) 2 dX13_sentries_43 rfl rfl ?_
      refine JC_pp_i (J_callS (mi := mi_X13_sentries) (mj := mi_X13_bits) (pc := 44) dX13_sentries_44 ml_X13_335 ok_X13_bits os_X13_bits ⟨Nat.le_of_ble_eq_true rfl, Nat.le_of_ble_eq_true rfl⟩ rfl (s_X13_bits g (j_sI d 57 0 0) s34.1) rfl (Nat.le_of_ble_eq_true rfl)) (fun q44_34 => ?_)
      refine K_icmp_ge (K := (fun x => Option.bind x k34)) (pc := 47) (tgt := 61) dX13_sentries_47 (by decide) (fun z47 => ?_) (fun z47 => ?_)
      · exact hX13_sentries_j61_34 s34.1 s34.2
      · refine J_aload_n (pc := 50) 0 dX13_sentries_50 rfl rfl ?_
        refine J_iload_n (pc := 51) 3 dX13_sentries_51 rfl rfl ?_
        refine JC_pp_i (J_callV (mi := mi_X13_sentries) (mj := mi_X13_around) (pc := 52) dX13_sentries_52 ml_X13_450 ok_X13_around ov_X13_around ⟨Nat.le_of_ble_eq_true rfl, Nat.le_of_ble_eq_true rfl⟩ rfl (h0.lt 57 (by decide)) (h0.ty 57 rfl) rfl (s_X13_around g (j_sI d 57 0 0) t s34.2 h0 ht hla) rfl (Nat.le_of_ble_eq_true rfl)) (fun q52_34 => ?_)
        refine J_iload_n (pc := 55) 1 dX13_sentries_55 rfl rfl ?_
        refine K_icmp_ne (K := (fun x => Option.bind x k34)) (pc := 56) (tgt := 61) dX13_sentries_56 (by decide) (fun z56 => ?_) (fun z56 => ?_)
        · exact hX13_sentries_j61_34 s34.1 s34.2
        · refine J_iload_n (pc := 59) 3 dX13_sentries_59 rfl rfl ?_
          refine J_istore_n (pc := 60) (loc' := [(2, .int s34.2), (0, .ref 57), (1, .int (v1_29)), (3, .int s34.2)]) dX13_sentries_60 rfl (by decide) rfl ?_
          refine J_loc (loc' := [(0, .ref 57), (1, .int (v1_29)), (2, .int s34.2), (3, .int s34.2)]) [1, 2, 0, 3] rfl ?_
          exact hX13_sentries_j61_34 s34.2 s34.2
  · show J mi_X13_sentries 0 0 0 0 (g, j_sI d 57 0 0) 67 [(0, .ref 57), (2, .int e34)] [] (_)
    refine J_aload_n (pc := 67) 0 dX13_sentries_67 rfl rfl ?_
    refine J_iload_n (pc := 68) 1 dX13_sentries_68 rfl rfl ?_
    refine JC_lt_i (K := (fun x => Option.bind x k)) (J_callV (mi := mi_X13_sentries) (mj := mi_X13_good) (pc := 69) dX13_sentries_69 ml_X13_52 ok_X13_good ov_X13_good ⟨Nat.le_of_ble_eq_true rfl, Nat.le_of_ble_eq_true rfl⟩ rfl (h0.lt 57 (by decide)) (h0.ty 57 rfl) rfl (s_X13_good g (j_sI d 57 0 0) e34 h0) rfl (Nat.le_of_ble_eq_true rfl)) (fun q69 eq69 => ?_)
    exact J_eqo (hk (q69.1, q69.2)) (J_iret (pc := 72) dX13_sentries_72 rfl)
def f_X13_parts_j58_22_38 (t : Nat) (c1_38_22 : Int32) (c2_38_22 : Int32) (d : JD) (x3_58_22_38 : Int32) (x4_58_22_38 : Int32) : Option ((Int32 × Int32) ⊕ (Int32)) := (some (.inl (x3_58_22_38, x4_58_22_38 + 1)))
def f_X13_parts_w38_22 (t : Nat) (c1_38_22 : Int32) (c2_38_22 : Int32) (d : JD) (s38_22 : Int32 × Int32) : Option ((Int32 × Int32) ⊕ (Int32)) := (if (c2_38_22) ≤ s38_22.2 then some (.inr s38_22.1) else ((f_X13_steps ((d).1 t) ((d).1 (t + 7)) s38_22.2 (c2_38_22)).bind (fun q48_22_38 => if q48_22_38 = (-2) then f_X13_parts_j58_22_38 t (c1_38_22) (c2_38_22) (d) s38_22.1 s38_22.2 else (f_X13_parts_j58_22_38 t (c1_38_22) (c2_38_22) (d) 0 s38_22.2))))
def f_X13_parts_j74_22 (t : Nat) (d : JD) (x2_74_22 : Int32) (y0_74_22 : Int32) (y1_74_22 : Int32) : Option ((Int32 × Int32) ⊕ (Int32)) := (some (.inl (y1_74_22 + y0_74_22, x2_74_22 + 1)))
def f_X13_parts_w22 (t : Nat) (d : JD) (s22 : Int32 × Int32) : Option ((Int32 × Int32) ⊕ (Int32)) := (if (((d).1 t) 4) ≤ s22.2 then some (.inr s22.1) else ((j_wh (f_X13_parts_w38_22 t s22.1 s22.2 (d) ) j_fuel (1, 0)).bind (fun (e38_22 : Int32) => (if e38_22 = 0 then (f_X13_parts_j74_22 t (d) s22.2 0 s22.1) else (f_X13_parts_j74_22 t (d) s22.2 1 s22.1)))))
def f_X13_parts (t : Nat) (d : JD) : Option (Int32 × JD) := ((j_wh (f_X13_parts_w22 t (j_sI d 57 0 0) ) j_fuel (0, 0)).bind (fun (e22 : Int32) => (j_let (f_X13_good (j_sI d 57 0 0) e22) (fun q84 => some (q84.1, q84.2)))))
set_option maxRecDepth 100000 in
set_option maxHeartbeats 4000000 in
theorem s_X13_parts (g : JG) (d : JD) (t : Nat) (h0 : j_sh g 0 TS_W RS_W) (ht : j_sh g t TS_ML RS_ML) (hla : g.2.2.1 57 3 = some t) : JM mi_X13_parts 0 0 (g, d) [.ref 57] ((f_X13_parts t d ).bind (fun r9 => some (some (.int r9.1), (g, r9.2)))) := by
  refine JM_of (by decide) rfl (Nat.le_of_ble_eq_true rfl) ?_
  refine J_loc (loc' := [(0, .ref 57)]) [0] rfl ?_
  obtain ⟨k, hk, hk2⟩ : ∃ k : Int32 × JD → Option (Option Value × JH), (∀ r9, k r9 = some (some (.int r9.1), (g, r9.2))) ∧ (fun r9 : Int32 × JD => (some (some (.int r9.1), (g, r9.2)) : Option (Option Value × JH))) = k := ⟨_, fun _ => rfl, rfl⟩
  rw [hk2]
  unfold f_X13_parts
  refine J_aload_n (pc := 0) 0 dX13_parts_0 rfl rfl ?_
  refine J_iconst (pc := 1) (v := 0) dX13_parts_1 (by decide) ?_
  refine J_putI (pc := 2) dX13_parts_2 fl_X13_42 ft_12_0 (h0.lt 57 (by decide)) (h0.ty 57 rfl) rfl rfl rfl ?_
  refine J_aload_n (pc := 5) 0 dX13_parts_5 rfl rfl ?_
  refine J_getR (pc := 6) dX13_parts_6 fl_X13_321 (h0.lt 57 (by decide)) (h0.ty 57 rfl) rfl hla ?_
  refine J_ifnonnull (pc := 9) (tgt := 18) dX13_parts_9 (by decide) ?_
  refine J_iconst (pc := 18) (v := 0) dX13_parts_18 (by decide) ?_
  refine J_istore_n (pc := 19) (loc' := [(1, .int 0), (0, .ref 57)]) dX13_parts_19 rfl (by decide) rfl ?_
  refine J_iconst (pc := 20) (v := 0) dX13_parts_20 (by decide) ?_
  refine J_istore_n (pc := 21) (loc' := [(2, .int 0), (1, .int 0), (0, .ref 57)]) dX13_parts_21 rfl (by decide) rfl ?_
  refine J_loc (loc' := [(0, .ref 57), (1, .int 0), (2, .int 0)]) [2, 1, 0] rfl ?_
  refine J_whL (F := f_X13_parts_w22 t (j_sI d 57 0 0) ) (hp := fun (s22 : Int32 × Int32) => (g, (j_sI d 57 0 0))) (lc := fun (s22 : Int32 × Int32) => [(0, .ref 57), (1, .int s22.1), (2, .int s22.2)]) (XJ := fun (e22 : Int32) o9 => J mi_X13_parts 0 0 0 0 (g, j_sI d 57 0 0) 82 [(0, .ref 57), (1, .int e22)] [] o9) (fun s22 k22 hB22 hX22 => ?_) (fun e22 => ?_) _ (0, 0)
  · show J mi_X13_parts 0 0 0 0 (g, (j_sI d 57 0 0)) 22 [(0, .ref 57), (1, .int s22.1), (2, .int s22.2)] [] ((f_X13_parts_w22 t (j_sI d 57 0 0) s22).bind k22)
    unfold f_X13_parts_w22
    have hX13_parts_j74_22 : ∀ (x2_74_22 : Int32) (y0_74_22 : Int32) (y1_74_22 : Int32), J mi_X13_parts 0 0 0 0 (g, (j_sI d 57 0 0)) 74 [(0, .ref 57), (2, .int x2_74_22)] [.int y0_74_22, .int y1_74_22] ((f_X13_parts_j74_22 t (j_sI d 57 0 0) x2_74_22 y0_74_22 y1_74_22).bind k22) := by
      intro x2_74_22 y0_74_22 y1_74_22
      unfold f_X13_parts_j74_22
      refine J_iadd (pc := 74) dX13_parts_74 ?_
      refine J_istore_n (pc := 75) (loc' := [(1, .int (y1_74_22 + y0_74_22)), (0, .ref 57), (2, .int x2_74_22)]) dX13_parts_75 rfl (by decide) rfl ?_
      refine J_iinc (pc := 76) (v := x2_74_22 + 1) (loc' := [(2, .int (x2_74_22 + 1)), (1, .int (y1_74_22 + y0_74_22)), (0, .ref 57)]) 2 dX13_parts_76 rfl rfl (by decide) rfl ?_
      refine J_goto (pc := 79) (tgt := 22) dX13_parts_79 (by decide) ?_
      refine J_loc (loc' := [(0, .ref 57), (1, .int (y1_74_22 + y0_74_22)), (2, .int (x2_74_22 + 1))]) [2, 1, 0] rfl ?_
      exact hB22 (y1_74_22 + y0_74_22, x2_74_22 + 1)
    refine J_iload_n (pc := 22) 2 dX13_parts_22 rfl rfl ?_
    refine J_aload_n (pc := 23) 0 dX13_parts_23 rfl rfl ?_
    refine J_getR (pc := 24) dX13_parts_24 fl_X13_321 (h0.lt 57 (by decide)) (h0.ty 57 rfl) rfl hla ?_
    refine J_getI (pc := 27) dX13_parts_27 fl_X13_191 (ht.lt 0 (by decide)) (ht.ty 0 rfl) rfl ?_
    refine K_icmp_ge (K := (fun x => Option.bind x k22)) (pc := 30) (tgt := 82) dX13_parts_30 (by decide) (fun z30 => ?_) (fun z30 => ?_)
    · refine J_loc (loc' := [(0, .ref 57), (1, .int s22.1)]) [0, 1] rfl ?_
      exact hX22 s22.1
    · refine J_iconst (pc := 33) (v := 1) dX13_parts_33 (by decide) ?_
      refine J_istore_n (pc := 34) (loc' := [(3, .int 1), (0, .ref 57), (1, .int s22.1), (2, .int s22.2)]) dX13_parts_34 rfl (by decide) rfl ?_
      refine J_iconst (pc := 35) (v := 0) dX13_parts_35 (by decide) ?_
      refine J_istore (pc := 36) (loc' := [(4, .int 0), (3, .int 1), (0, .ref 57), (1, .int s22.1), (2, .int s22.2)]) dX13_parts_36 (by decide) rfl ?_
      refine J_loc (loc' := [(0, .ref 57), (1, .int s22.1), (2, .int s22.2), (3, .int 1), (4, .int 0)]) [2, 3, 4, 1, 0] rfl ?_
      refine J_whL (F := f_X13_parts_w38_22 t s22.1 s22.2 ((j_sI d 57 0 0)) ) (hp := fun (s38_22 : Int32 × Int32) => (g, ((j_sI d 57 0 0)))) (lc := fun (s38_22 : Int32 × Int32) => [(0, .ref 57), (1, .int (s22.1)), (2, .int (s22.2)), (3, .int s38_22.1), (4, .int s38_22.2)]) (XJ := fun (e38_22 : Int32) o9 => J mi_X13_parts 0 0 0 0 (g, (j_sI d 57 0 0)) 64 [(0, .ref 57), (1, .int s22.1), (2, .int s22.2), (3, .int e38_22)] [] o9) (fun s38_22 k38_22 hB38_22 hX38_22 => ?_) (fun e38_22 => ?_) _ (1, 0)
      · show J mi_X13_parts 0 0 0 0 (g, ((j_sI d 57 0 0))) 38 [(0, .ref 57), (1, .int (s22.1)), (2, .int (s22.2)), (3, .int s38_22.1), (4, .int s38_22.2)] [] ((f_X13_parts_w38_22 t s22.1 s22.2 ((j_sI d 57 0 0)) s38_22).bind k38_22)
        unfold f_X13_parts_w38_22
        have hX13_parts_j58_22_38 : ∀ (x3_58_22_38 : Int32) (x4_58_22_38 : Int32), J mi_X13_parts 0 0 0 0 (g, ((j_sI d 57 0 0))) 58 [(0, .ref 57), (1, .int (s22.1)), (2, .int (s22.2)), (3, .int x3_58_22_38), (4, .int x4_58_22_38)] [] ((f_X13_parts_j58_22_38 t s22.1 s22.2 ((j_sI d 57 0 0)) x3_58_22_38 x4_58_22_38).bind k38_22) := by
          intro x3_58_22_38 x4_58_22_38
          unfold f_X13_parts_j58_22_38
          refine J_iinc (pc := 58) (v := x4_58_22_38 + 1) (loc' := [(4, .int (x4_58_22_38 + 1)), (0, .ref 57), (1, .int (s22.1)), (2, .int (s22.2)), (3, .int x3_58_22_38)]) 4 dX13_parts_58 rfl rfl (by decide) rfl ?_
          refine J_goto (pc := 61) (tgt := 38) dX13_parts_61 (by decide) ?_
          refine J_loc (loc' := [(0, .ref 57), (1, .int (s22.1)), (2, .int (s22.2)), (3, .int x3_58_22_38), (4, .int (x4_58_22_38 + 1))]) [1, 2, 3, 4, 0] rfl ?_
          exact hB38_22 (x3_58_22_38, x4_58_22_38 + 1)
        refine J_iload (pc := 38) 4 dX13_parts_38 rfl ?_
        refine J_iload_n (pc := 40) 2 dX13_parts_40 rfl rfl ?_
        refine K_icmp_ge (K := (fun x => Option.bind x k38_22)) (pc := 41) (tgt := 64) dX13_parts_41 (by decide) (fun z41 => ?_) (fun z41 => ?_)
        · refine J_loc (loc' := [(0, .ref 57), (1, .int (s22.1)), (2, .int (s22.2)), (3, .int s38_22.1)]) [0, 1, 2, 3] rfl ?_
          exact hX38_22 s38_22.1
        · refine J_aload_n (pc := 44) 0 dX13_parts_44 rfl rfl ?_
          refine J_iload (pc := 45) 4 dX13_parts_45 rfl ?_
          refine J_iload_n (pc := 47) 2 dX13_parts_47 rfl rfl ?_
          refine JC_pp_i (J_callV (mi := mi_X13_parts) (mj := mi_X13_steps) (pc := 48) dX13_parts_48 ml_X13_453 ok_X13_steps ov_X13_steps ⟨Nat.le_of_ble_eq_true rfl, Nat.le_of_ble_eq_true rfl⟩ rfl (h0.lt 57 (by decide)) (h0.ty 57 rfl) rfl (s_X13_steps g ((j_sI d 57 0 0)) t s38_22.2 s22.2 h0 ht hla) rfl (Nat.le_of_ble_eq_true rfl)) (fun q48_22_38 => ?_)
          refine J_bipush (pc := 51) (v := (-2)) dX13_parts_51 (by decide) ?_
          refine K_icmp_eq (K := (fun x => Option.bind x k38_22)) (pc := 53) (tgt := 58) dX13_parts_53 (by decide) (fun z53 => ?_) (fun z53 => ?_)
          · exact hX13_parts_j58_22_38 s38_22.1 s38_22.2
          · refine J_iconst (pc := 56) (v := 0) dX13_parts_56 (by decide) ?_
            refine J_istore_n (pc := 57) (loc' := [(3, .int 0), (0, .ref 57), (1, .int (s22.1)), (2, .int (s22.2)), (4, .int s38_22.2)]) dX13_parts_57 rfl (by decide) rfl ?_
            refine J_loc (loc' := [(0, .ref 57), (1, .int (s22.1)), (2, .int (s22.2)), (3, .int 0), (4, .int s38_22.2)]) [1, 2, 3, 0, 4] rfl ?_
            exact hX13_parts_j58_22_38 0 s38_22.2
      · show J mi_X13_parts 0 0 0 0 (g, (j_sI d 57 0 0)) 64 [(0, .ref 57), (1, .int s22.1), (2, .int s22.2), (3, .int e38_22)] [] (_)
        refine J_iload_n (pc := 64) 1 dX13_parts_64 rfl rfl ?_
        refine J_iload_n (pc := 65) 3 dX13_parts_65 rfl rfl ?_
        refine K_if_eq (K := (fun x => Option.bind x k22)) (pc := 66) (tgt := 73) dX13_parts_66 (by decide) (fun z66 => ?_) (fun z66 => ?_)
        · refine J_iconst (pc := 73) (v := 0) dX13_parts_73 (by decide) ?_
          refine J_loc (loc' := [(0, .ref 57), (2, .int s22.2)]) [0, 2] rfl ?_
          exact hX13_parts_j74_22 s22.2 0 s22.1
        · refine J_iconst (pc := 69) (v := 1) dX13_parts_69 (by decide) ?_
          refine J_goto (pc := 70) (tgt := 74) dX13_parts_70 (by decide) ?_
          refine J_loc (loc' := [(0, .ref 57), (2, .int s22.2)]) [0, 2] rfl ?_
          exact hX13_parts_j74_22 s22.2 1 s22.1
  · show J mi_X13_parts 0 0 0 0 (g, j_sI d 57 0 0) 82 [(0, .ref 57), (1, .int e22)] [] (_)
    refine J_aload_n (pc := 82) 0 dX13_parts_82 rfl rfl ?_
    refine J_iload_n (pc := 83) 1 dX13_parts_83 rfl rfl ?_
    refine JC_lt_i (K := (fun x => Option.bind x k)) (J_callV (mi := mi_X13_parts) (mj := mi_X13_good) (pc := 84) dX13_parts_84 ml_X13_52 ok_X13_good ov_X13_good ⟨Nat.le_of_ble_eq_true rfl, Nat.le_of_ble_eq_true rfl⟩ rfl (h0.lt 57 (by decide)) (h0.ty 57 rfl) rfl (s_X13_good g (j_sI d 57 0 0) e22 h0) rfl (Nat.le_of_ble_eq_true rfl)) (fun q84 eq84 => ?_)
    exact J_eqo (hk (q84.1, q84.2)) (J_iret (pc := 87) dX13_parts_87 rfl)
def f_X13_estate_j21 (t : Nat) (d21 : JD) : Option (Int32 × JD) := (j_let (f_X13_refused d21 1) (fun q23 => some (q23.1, q23.2)))
def f_X13_estate_w47 (t : Nat) (c1_47 : Int32) (c3_47 : Int32) (d : JD) (s47 : Int32 × Int32) : Option ((Int32 × Int32) ⊕ (Int32)) := (if (((d).1 t) 4) ≤ s47.2 then some (.inr s47.1) else ((f_X13_around ((d).1 t) ((d).1 (t + 7)) s47.1).bind (fun q62_47 => some (.inl (q62_47 &&& (c3_47), s47.2 + 1)))))
def f_X13_estate_j123_81 (t : Nat) (c1_81 : Int32) (c4_81 : Int32) (d : JD) (x6_123_81 : Int32) (y0_123_81 : Int32) (y1_123_81 : Int32) : Option ((Int32 × Int32) ⊕ (Int32)) := (some (.inl (y1_123_81 + y0_123_81, x6_123_81 + 1)))
def f_X13_estate_w81 (t : Nat) (c1_81 : Int32) (c4_81 : Int32) (d : JD) (s81 : Int32 × Int32) : Option ((Int32 × Int32) ⊕ (Int32)) := (if (((d).1 t) 4) ≤ s81.2 then some (.inr s81.1) else (if (f_X13_bit (c4_81) s81.2) = true then (if j_out s81.2 6 then none else (f_X13_shareIf ((d).1 (t + 1)) ((d).1 (t + 2)) ((d).1 (t + 3)) ((d).1 (t + 4)) ((d).1 (t + 5)) (c1_81) s81.2 (((d).1 60) s81.2.toNatClampNeg)).bind (fun q116_81 => f_X13_estate_j123_81 t (c1_81) (c4_81) (d) s81.2 q116_81 s81.1)) else (f_X13_estate_j123_81 t (c1_81) (c4_81) (d) s81.2 0 s81.1)))
def f_X13_estate (t : Nat) (d : JD) (pq0 : Int32) (pq1 : Int32) : Option (Int32 × JD) := (if (f_X13_isPerson ((j_sI d 57 0 0).1 t) pq0) = true then (if (f_X13_isGate ((j_sI d 57 0 0).1 t) pq1) = true then ((f_X13_works (j_sI d 57 0 0)).bind (fun q28 => (f_X13_owned (q28.1 60) (q28.1 t) (q28.1 (t + 1)) (q28.1 (t + 2)) (q28.1 (t + 3)) (q28.1 (t + 4)) pq0).bind (fun q33 => j_let (q33 &&& ((1 : Int32) <<< (pq1 &&& 31))) (fun v4_42 => (j_wh (f_X13_estate_w47 t pq0 q33 q28 ) j_fuel (v4_42, 0)).bind (fun (e47 : Int32) => ((j_wh (f_X13_estate_w81 t pq0 e47 q28 ) j_fuel (0, 0)).bind (fun (e81 : Int32) => (j_let (f_X13_good q28 e81) (fun q135 => some (q135.1, q135.2)))))))))) else f_X13_estate_j21 t (j_sI d 57 0 0) ) else f_X13_estate_j21 t (j_sI d 57 0 0) )
set_option maxRecDepth 100000 in
set_option maxHeartbeats 4000000 in
theorem s_X13_estate (g : JG) (d : JD) (t : Nat) (pq0 : Int32) (pq1 : Int32) (h0 : j_sh g 0 TS_W RS_W) (ht : j_sh g t TS_ML RS_ML) (hla : g.2.2.1 57 3 = some t) : JM mi_X13_estate 0 0 (g, d) [.ref 57, .int pq0, .int pq1] ((f_X13_estate t d pq0 pq1).bind (fun r9 => some (some (.int r9.1), (g, r9.2)))) := by
  refine JM_of (by decide) rfl (Nat.le_of_ble_eq_true rfl) ?_
  refine J_loc (loc' := [(0, .ref 57), (1, .int pq0), (2, .int pq1)]) [0, 1, 2] rfl ?_
  obtain ⟨k, hk, hk2⟩ : ∃ k : Int32 × JD → Option (Option Value × JH), (∀ r9, k r9 = some (some (.int r9.1), (g, r9.2))) ∧ (fun r9 : Int32 × JD => (some (some (.int r9.1), (g, r9.2)) : Option (Option Value × JH))) = k := ⟨_, fun _ => rfl, rfl⟩
  rw [hk2]
  unfold f_X13_estate
  have hX13_estate_j21 : ∀ (d21 : JD) , J mi_X13_estate 0 0 0 0 (g, d21) 21 [(0, .ref 57)] [] ((f_X13_estate_j21 t d21 ).bind k) := by
    intro d21 
    unfold f_X13_estate_j21
    refine J_aload_n (pc := 21) 0 dX13_estate_21 rfl rfl ?_
    refine J_iconst (pc := 22) (v := 1) dX13_estate_22 (by decide) ?_
    refine JC_lt_i (K := (fun x => Option.bind x k)) (J_callV (mi := mi_X13_estate) (mj := mi_X13_refused) (pc := 23) dX13_estate_23 ml_X13_48 ok_X13_refused ov_X13_refused ⟨Nat.le_of_ble_eq_true rfl, Nat.le_of_ble_eq_true rfl⟩ rfl (h0.lt 57 (by decide)) (h0.ty 57 rfl) rfl (s_X13_refused g d21 1 h0) rfl (Nat.le_of_ble_eq_true rfl)) (fun q23 eq23 => ?_)
    exact J_eqo (hk (q23.1, q23.2)) (J_iret (pc := 26) dX13_estate_26 rfl)
  refine J_aload_n (pc := 0) 0 dX13_estate_0 rfl rfl ?_
  refine J_iconst (pc := 1) (v := 0) dX13_estate_1 (by decide) ?_
  refine J_putI (pc := 2) dX13_estate_2 fl_X13_42 ft_12_0 (h0.lt 57 (by decide)) (h0.ty 57 rfl) rfl rfl rfl ?_
  refine J_aload_n (pc := 5) 0 dX13_estate_5 rfl rfl ?_
  refine J_iload_n (pc := 6) 1 dX13_estate_6 rfl rfl ?_
  refine JC_pt_i (J_callV (mi := mi_X13_estate) (mj := mi_X13_isPerson) (pc := 7) dX13_estate_7 ml_X13_351 ok_X13_isPerson ov_X13_isPerson ⟨Nat.le_of_ble_eq_true rfl, Nat.le_of_ble_eq_true rfl⟩ rfl (h0.lt 57 (by decide)) (h0.ty 57 rfl) rfl (s_X13_isPerson g (j_sI d 57 0 0) t pq0 h0 ht hla) rfl (Nat.le_of_ble_eq_true rfl)) ?_
  refine K_ifeq_b (K := (fun x => Option.bind x k)) (pc := 10) (tgt := 21) dX13_estate_10 (by decide) (fun z10 => ?_) (fun z10 => ?_)
  · refine J_loc (loc' := [(0, .ref 57)]) [0] rfl ?_
    exact hX13_estate_j21 (j_sI d 57 0 0) 
  · refine J_aload_n (pc := 13) 0 dX13_estate_13 rfl rfl ?_
    refine J_iload_n (pc := 14) 2 dX13_estate_14 rfl rfl ?_
    refine JC_pt_i (J_callV (mi := mi_X13_estate) (mj := mi_X13_isGate) (pc := 15) dX13_estate_15 ml_X13_345 ok_X13_isGate ov_X13_isGate ⟨Nat.le_of_ble_eq_true rfl, Nat.le_of_ble_eq_true rfl⟩ rfl (h0.lt 57 (by decide)) (h0.ty 57 rfl) rfl (s_X13_isGate g (j_sI d 57 0 0) t pq1 h0 ht hla) rfl (Nat.le_of_ble_eq_true rfl)) ?_
    refine K_ifne_b (K := (fun x => Option.bind x k)) (pc := 18) (tgt := 27) dX13_estate_18 (by decide) (fun z18 => ?_) (fun z18 => ?_)
    · refine J_aload_n (pc := 27) 0 dX13_estate_27 rfl rfl ?_
      refine JC_pe_v (J_callV (mi := mi_X13_estate) (mj := mi_X13_works) (pc := 28) dX13_estate_28 ml_X13_348 ok_X13_works ov_X13_works ⟨Nat.le_of_ble_eq_true rfl, Nat.le_of_ble_eq_true rfl⟩ rfl (h0.lt 57 (by decide)) (h0.ty 57 rfl) rfl (s_X13_works g (j_sI d 57 0 0) h0) rfl (Nat.le_of_ble_eq_true rfl)) (fun q28 => ?_)
      refine J_aload_n (pc := 31) 0 dX13_estate_31 rfl rfl ?_
      refine J_iload_n (pc := 32) 1 dX13_estate_32 rfl rfl ?_
      refine JC_pp_i (J_callV (mi := mi_X13_estate) (mj := mi_X13_owned) (pc := 33) dX13_estate_33 ml_X13_357 ok_X13_owned ov_X13_owned ⟨Nat.le_of_ble_eq_true rfl, Nat.le_of_ble_eq_true rfl⟩ rfl (h0.lt 57 (by decide)) (h0.ty 57 rfl) rfl (s_X13_owned g q28 t pq0 h0 ht hla) rfl (Nat.le_of_ble_eq_true rfl)) (fun q33 => ?_)
      refine J_istore_n (pc := 36) (loc' := [(3, .int q33), (0, .ref 57), (1, .int pq0), (2, .int pq1)]) dX13_estate_36 rfl (by decide) rfl ?_
      refine J_iload_n (pc := 37) 0 dX13_estate_37 rfl rfl ?_
      refine J_iconst (pc := 38) (v := 1) dX13_estate_38 (by decide) ?_
      refine J_iload_n (pc := 39) 3 dX13_estate_39 rfl rfl ?_
      refine J_ishl (pc := 40) dX13_estate_40 ?_
      refine J_iand (pc := 41) dX13_estate_41 ?_
      refine J_let (K := (fun x => Option.bind x k)) (fun v4_42 ev4_42 => ?_)
      refine J_val ev4_42.symm ?_
      refine J_istore (pc := 42) (loc' := [(4, .int v4_42), (3, .int q33), (0, .ref 57), (1, .int pq0), (2, .int pq1)]) dX13_estate_42 (by decide) rfl ?_
      refine J_iconst (pc := 44) (v := 0) dX13_estate_44 (by decide) ?_
      refine J_istore (pc := 45) (loc' := [(5, .int 0), (4, .int v4_42), (3, .int q33), (0, .ref 57), (1, .int pq0), (2, .int pq1)]) dX13_estate_45 (by decide) rfl ?_
      refine J_loc (loc' := [(0, .ref 57), (1, .int pq0), (3, .int q33), (4, .int v4_42), (5, .int 0)]) [3, 4, 2, 1, 0] rfl ?_
      refine J_whL (F := f_X13_estate_w47 t pq0 q33 q28 ) (hp := fun (s47 : Int32 × Int32) => (g, q28)) (lc := fun (s47 : Int32 × Int32) => [(0, .ref 57), (1, .int (pq0)), (3, .int (q33)), (4, .int s47.1), (5, .int s47.2)]) (XJ := fun (e47 : Int32) o9 => J mi_X13_estate 0 0 0 0 (g, q28) 75 [(0, .ref 57), (1, .int pq0), (4, .int e47)] [] o9) (fun s47 k47 hB47 hX47 => ?_) (fun e47 => ?_) _ (v4_42, 0)
      · show J mi_X13_estate 0 0 0 0 (g, q28) 47 [(0, .ref 57), (1, .int (pq0)), (3, .int (q33)), (4, .int s47.1), (5, .int s47.2)] [] ((f_X13_estate_w47 t pq0 q33 q28 s47).bind k47)
        unfold f_X13_estate_w47
        refine J_iload (pc := 47) 4 dX13_estate_47 rfl ?_
        refine J_aload_n (pc := 49) 0 dX13_estate_49 rfl rfl ?_
        refine J_getR (pc := 50) dX13_estate_50 fl_X13_321 (h0.lt 57 (by decide)) (h0.ty 57 rfl) rfl hla ?_
        refine J_getI (pc := 53) dX13_estate_53 fl_X13_191 (ht.lt 0 (by decide)) (ht.ty 0 rfl) rfl ?_
        refine K_icmp_ge (K := (fun x => Option.bind x k47)) (pc := 56) (tgt := 75) dX13_estate_56 (by decide) (fun z56 => ?_) (fun z56 => ?_)
        · refine J_loc (loc' := [(0, .ref 57), (1, .int (pq0)), (4, .int s47.1)]) [0, 1, 3] rfl ?_
          exact hX47 s47.1
        · refine J_aload_n (pc := 59) 0 dX13_estate_59 rfl rfl ?_
          refine J_iload (pc := 60) 3 dX13_estate_60 rfl ?_
          refine JC_pp_i (J_callV (mi := mi_X13_estate) (mj := mi_X13_around) (pc := 62) dX13_estate_62 ml_X13_450 ok_X13_around ov_X13_around ⟨Nat.le_of_ble_eq_true rfl, Nat.le_of_ble_eq_true rfl⟩ rfl (h0.lt 57 (by decide)) (h0.ty 57 rfl) rfl (s_X13_around g q28 t s47.1 h0 ht hla) rfl (Nat.le_of_ble_eq_true rfl)) (fun q62_47 => ?_)
          refine J_iload_n (pc := 65) 2 dX13_estate_65 rfl rfl ?_
          refine J_iand (pc := 66) dX13_estate_66 ?_
          refine J_istore (pc := 67) (loc' := [(4, .int (q62_47 &&& (q33))), (0, .ref 57), (1, .int (pq0)), (3, .int (q33)), (5, .int s47.2)]) dX13_estate_67 (by decide) rfl ?_
          refine J_iinc (pc := 69) (v := s47.2 + 1) (loc' := [(5, .int (s47.2 + 1)), (4, .int (q62_47 &&& (q33))), (0, .ref 57), (1, .int (pq0)), (3, .int (q33))]) 4 dX13_estate_69 rfl rfl (by decide) rfl ?_
          refine J_goto (pc := 72) (tgt := 47) dX13_estate_72 (by decide) ?_
          refine J_loc (loc' := [(0, .ref 57), (1, .int (pq0)), (3, .int (q33)), (4, .int (q62_47 &&& (q33))), (5, .int (s47.2 + 1))]) [2, 3, 4, 1, 0] rfl ?_
          exact hB47 (q62_47 &&& (q33), s47.2 + 1)
      · show J mi_X13_estate 0 0 0 0 (g, q28) 75 [(0, .ref 57), (1, .int pq0), (4, .int e47)] [] (_)
        refine J_iconst (pc := 75) (v := 0) dX13_estate_75 (by decide) ?_
        refine J_istore (pc := 76) (loc' := [(5, .int 0), (0, .ref 57), (1, .int pq0), (4, .int e47)]) dX13_estate_76 (by decide) rfl ?_
        refine J_iconst (pc := 78) (v := 0) dX13_estate_78 (by decide) ?_
        refine J_istore (pc := 79) (loc' := [(6, .int 0), (5, .int 0), (0, .ref 57), (1, .int pq0), (4, .int e47)]) dX13_estate_79 (by decide) rfl ?_
        refine J_loc (loc' := [(0, .ref 57), (1, .int pq0), (4, .int e47), (5, .int 0), (6, .int 0)]) [2, 3, 4, 1, 0] rfl ?_
        refine J_whL (F := f_X13_estate_w81 t pq0 e47 q28 ) (hp := fun (s81 : Int32 × Int32) => (g, q28)) (lc := fun (s81 : Int32 × Int32) => [(0, .ref 57), (1, .int (pq0)), (4, .int (e47)), (5, .int s81.1), (6, .int s81.2)]) (XJ := fun (e81 : Int32) o9 => J mi_X13_estate 0 0 0 0 (g, q28) 132 [(0, .ref 57), (5, .int e81)] [] o9) (fun s81 k81 hB81 hX81 => ?_) (fun e81 => ?_) _ (0, 0)
        · show J mi_X13_estate 0 0 0 0 (g, q28) 81 [(0, .ref 57), (1, .int (pq0)), (4, .int (e47)), (5, .int s81.1), (6, .int s81.2)] [] ((f_X13_estate_w81 t pq0 e47 q28 s81).bind k81)
          unfold f_X13_estate_w81
          have hX13_estate_j123_81 : ∀ (x6_123_81 : Int32) (y0_123_81 : Int32) (y1_123_81 : Int32), J mi_X13_estate 0 0 0 0 (g, q28) 123 [(0, .ref 57), (1, .int (pq0)), (4, .int (e47)), (6, .int x6_123_81)] [.int y0_123_81, .int y1_123_81] ((f_X13_estate_j123_81 t pq0 e47 q28 x6_123_81 y0_123_81 y1_123_81).bind k81) := by
            intro x6_123_81 y0_123_81 y1_123_81
            unfold f_X13_estate_j123_81
            refine J_iadd (pc := 123) dX13_estate_123 ?_
            refine J_istore (pc := 124) (loc' := [(5, .int (y1_123_81 + y0_123_81)), (0, .ref 57), (1, .int (pq0)), (4, .int (e47)), (6, .int x6_123_81)]) dX13_estate_124 (by decide) rfl ?_
            refine J_iinc (pc := 126) (v := x6_123_81 + 1) (loc' := [(6, .int (x6_123_81 + 1)), (5, .int (y1_123_81 + y0_123_81)), (0, .ref 57), (1, .int (pq0)), (4, .int (e47))]) 4 dX13_estate_126 rfl rfl (by decide) rfl ?_
            refine J_goto (pc := 129) (tgt := 81) dX13_estate_129 (by decide) ?_
            refine J_loc (loc' := [(0, .ref 57), (1, .int (pq0)), (4, .int (e47)), (5, .int (y1_123_81 + y0_123_81)), (6, .int (x6_123_81 + 1))]) [2, 3, 4, 1, 0] rfl ?_
            exact hB81 (y1_123_81 + y0_123_81, x6_123_81 + 1)
          refine J_iload (pc := 81) 4 dX13_estate_81 rfl ?_
          refine J_aload_n (pc := 83) 0 dX13_estate_83 rfl rfl ?_
          refine J_getR (pc := 84) dX13_estate_84 fl_X13_321 (h0.lt 57 (by decide)) (h0.ty 57 rfl) rfl hla ?_
          refine J_getI (pc := 87) dX13_estate_87 fl_X13_191 (ht.lt 0 (by decide)) (ht.ty 0 rfl) rfl ?_
          refine K_icmp_ge (K := (fun x => Option.bind x k81)) (pc := 90) (tgt := 132) dX13_estate_90 (by decide) (fun z90 => ?_) (fun z90 => ?_)
          · refine J_loc (loc' := [(0, .ref 57), (5, .int s81.1)]) [0, 3] rfl ?_
            exact hX81 s81.1
          · refine J_iload (pc := 93) 3 dX13_estate_93 rfl ?_
            refine J_iload (pc := 95) 2 dX13_estate_95 rfl ?_
            refine J_iload (pc := 97) 4 dX13_estate_97 rfl ?_
            refine JC_pt_i (J_callS (mi := mi_X13_estate) (mj := mi_X13_bit) (pc := 99) dX13_estate_99 ml_X13_249 ok_X13_bit os_X13_bit ⟨Nat.le_of_ble_eq_true rfl, Nat.le_of_ble_eq_true rfl⟩ rfl (s_X13_bit g q28 e47 s81.2) rfl (Nat.le_of_ble_eq_true rfl)) ?_
            refine K_ifeq_b (K := (fun x => Option.bind x k81)) (pc := 102) (tgt := 122) dX13_estate_102 (by decide) (fun z102 => ?_) (fun z102 => ?_)
            · refine J_iconst (pc := 122) (v := 0) dX13_estate_122 (by decide) ?_
              refine J_loc (loc' := [(0, .ref 57), (1, .int (pq0)), (4, .int (e47)), (6, .int s81.2)]) [0, 1, 2, 4] rfl ?_
              exact hX13_estate_j123_81 s81.2 0 s81.1
            · refine J_aload_n (pc := 105) 0 dX13_estate_105 rfl rfl ?_
              refine J_iload_n (pc := 106) 1 dX13_estate_106 rfl rfl ?_
              refine J_iload (pc := 107) 4 dX13_estate_107 rfl ?_
              refine J_aload_n (pc := 109) 0 dX13_estate_109 rfl rfl ?_
              refine J_getR (pc := 110) dX13_estate_110 fl_X13_21 (h0.lt 57 (by decide)) (h0.ty 57 rfl) rfl (h0.rf 57 rfl) ?_
              refine J_iload (pc := 113) 4 dX13_estate_113 rfl ?_
              refine J_guard (fun z115 => ?_)
              refine J_iald (pc := 115) dX13_estate_115 (h0.lt 60 (by decide)) (h0.ty 60 rfl) z115 ?_
              refine JC_pp_i (J_callV (mi := mi_X13_estate) (mj := mi_X13_shareIf) (pc := 116) dX13_estate_116 ml_X13_338 ok_X13_shareIf ov_X13_shareIf ⟨Nat.le_of_ble_eq_true rfl, Nat.le_of_ble_eq_true rfl⟩ rfl (h0.lt 57 (by decide)) (h0.ty 57 rfl) rfl (s_X13_shareIf g q28 t pq0 s81.2 (((q28).1 60) s81.2.toNatClampNeg) h0 ht hla) rfl (Nat.le_of_ble_eq_true rfl)) (fun q116_81 => ?_)
              refine J_goto (pc := 119) (tgt := 123) dX13_estate_119 (by decide) ?_
              refine J_loc (loc' := [(0, .ref 57), (1, .int (pq0)), (4, .int (e47)), (6, .int s81.2)]) [0, 1, 2, 4] rfl ?_
              exact hX13_estate_j123_81 s81.2 q116_81 s81.1
        · show J mi_X13_estate 0 0 0 0 (g, q28) 132 [(0, .ref 57), (5, .int e81)] [] (_)
          refine J_aload_n (pc := 132) 0 dX13_estate_132 rfl rfl ?_
          refine J_iload (pc := 133) 1 dX13_estate_133 rfl ?_
          refine JC_lt_i (K := (fun x => Option.bind x k)) (J_callV (mi := mi_X13_estate) (mj := mi_X13_good) (pc := 135) dX13_estate_135 ml_X13_52 ok_X13_good ov_X13_good ⟨Nat.le_of_ble_eq_true rfl, Nat.le_of_ble_eq_true rfl⟩ rfl (h0.lt 57 (by decide)) (h0.ty 57 rfl) rfl (s_X13_good g q28 e81 h0) rfl (Nat.le_of_ble_eq_true rfl)) (fun q135 eq135 => ?_)
          exact J_eqo (hk (q135.1, q135.2)) (J_iret (pc := 138) dX13_estate_138 rfl)
    · refine J_loc (loc' := [(0, .ref 57)]) [0] rfl ?_
      exact hX13_estate_j21 (j_sI d 57 0 0) 
def f_X13_votes_j33_4 (r_60 : Nat → Int32) (r_t0 : Nat → Int32) (r_t1 : Nat → Int32) (r_t2 : Nat → Int32) (r_t3 : Nat → Int32) (r_t4 : Nat → Int32) (r_t5 : Nat → Int32) (c1_4 : Int32) (x3_33_4 : Int32) (y0_33_4 : Int32) (y1_33_4 : Int32) : Option ((Int32 × Int32) ⊕ (Int32)) := (some (.inl (y1_33_4 + y0_33_4, x3_33_4 + 1)))
def f_X13_votes_w4 (r_60 : Nat → Int32) (r_t0 : Nat → Int32) (r_t1 : Nat → Int32) (r_t2 : Nat → Int32) (r_t3 : Nat → Int32) (r_t4 : Nat → Int32) (r_t5 : Nat → Int32) (c1_4 : Int32) (s4 : Int32 × Int32) : Option ((Int32 × Int32) ⊕ (Int32)) := (if (r_t0 2) ≤ s4.2 then some (.inr s4.1) else (if (f_X13_bit (c1_4) s4.2) = true then ((f_X13_has r_60 r_t0 r_t1 r_t2 r_t3 r_t4 r_t5 s4.2).bind (fun q26_4 => f_X13_votes_j33_4 r_60 r_t0 r_t1 r_t2 r_t3 r_t4 r_t5 (c1_4) s4.2 q26_4 s4.1)) else (f_X13_votes_j33_4 r_60 r_t0 r_t1 r_t2 r_t3 r_t4 r_t5 (c1_4) s4.2 0 s4.1)))
def f_X13_votes (r_60 : Nat → Int32) (r_t0 : Nat → Int32) (r_t1 : Nat → Int32) (r_t2 : Nat → Int32) (r_t3 : Nat → Int32) (r_t4 : Nat → Int32) (r_t5 : Nat → Int32) (pq0 : Int32) : Option (Int32) := ((j_wh (f_X13_votes_w4 r_60 r_t0 r_t1 r_t2 r_t3 r_t4 r_t5 pq0 ) j_fuel (0, 0)).bind (fun (e4 : Int32) => (some e4)))
set_option maxRecDepth 100000 in
set_option maxHeartbeats 4000000 in
theorem s_X13_votes (g : JG) (d : JD) (t : Nat) (pq0 : Int32) (h0 : j_sh g 0 TS_W RS_W) (ht : j_sh g t TS_ML RS_ML) (hla : g.2.2.1 57 3 = some t) : JM mi_X13_votes 0 0 (g, d) [.ref 57, .int pq0] ((f_X13_votes (d.1 60) (d.1 t) (d.1 (t + 1)) (d.1 (t + 2)) (d.1 (t + 3)) (d.1 (t + 4)) (d.1 (t + 5)) pq0).bind (fun r9 => some (some (.int r9), (g, d)))) := by
  refine JM_of (by decide) rfl (Nat.le_of_ble_eq_true rfl) ?_
  refine J_loc (loc' := [(0, .ref 57), (1, .int pq0)]) [0, 1] rfl ?_
  obtain ⟨k, hk, hk2⟩ : ∃ k : Int32 → Option (Option Value × JH), (∀ r9, k r9 = some (some (.int r9), (g, d))) ∧ (fun r9 : Int32 => (some (some (.int r9), (g, d)) : Option (Option Value × JH))) = k := ⟨_, fun _ => rfl, rfl⟩
  rw [hk2]
  unfold f_X13_votes
  refine J_iconst (pc := 0) (v := 0) dX13_votes_0 (by decide) ?_
  refine J_istore_n (pc := 1) (loc' := [(2, .int 0), (0, .ref 57), (1, .int pq0)]) dX13_votes_1 rfl (by decide) rfl ?_
  refine J_iconst (pc := 2) (v := 0) dX13_votes_2 (by decide) ?_
  refine J_istore_n (pc := 3) (loc' := [(3, .int 0), (2, .int 0), (0, .ref 57), (1, .int pq0)]) dX13_votes_3 rfl (by decide) rfl ?_
  refine J_loc (loc' := [(0, .ref 57), (1, .int pq0), (2, .int 0), (3, .int 0)]) [2, 3, 1, 0] rfl ?_
  refine J_whL (F := f_X13_votes_w4 (d.1 60) (d.1 t) (d.1 (t + 1)) (d.1 (t + 2)) (d.1 (t + 3)) (d.1 (t + 4)) (d.1 (t + 5)) pq0 ) (hp := fun (s4 : Int32 × Int32) => (g, d)) (lc := fun (s4 : Int32 × Int32) => [(0, .ref 57), (1, .int (pq0)), (2, .int s4.1), (3, .int s4.2)]) (XJ := fun (e4 : Int32) o9 => J mi_X13_votes 0 0 0 0 (g, d) 41 [(2, .int e4)] [] o9) (fun s4 k4 hB4 hX4 => ?_) (fun e4 => ?_) _ (0, 0)
  · show J mi_X13_votes 0 0 0 0 (g, d) 4 [(0, .ref 57), (1, .int (pq0)), (2, .int s4.1), (3, .int s4.2)] [] ((f_X13_votes_w4 (d.1 60) (d.1 t) (d.1 (t + 1)) (d.1 (t + 2)) (d.1 (t + 3)) (d.1 (t + 4)) (d.1 (t + 5)) pq0 s4).bind k4)
    unfold f_X13_votes_w4
    have hX13_votes_j33_4 : ∀ (x3_33_4 : Int32) (y0_33_4 : Int32) (y1_33_4 : Int32), J mi_X13_votes 0 0 0 0 (g, d) 33 [(0, .ref 57), (1, .int (pq0)), (3, .int x3_33_4)] [.int y0_33_4, .int y1_33_4] ((f_X13_votes_j33_4 (d.1 60) (d.1 t) (d.1 (t + 1)) (d.1 (t + 2)) (d.1 (t + 3)) (d.1 (t + 4)) (d.1 (t + 5)) pq0 x3_33_4 y0_33_4 y1_33_4).bind k4) := by
      intro x3_33_4 y0_33_4 y1_33_4
      unfold f_X13_votes_j33_4
      refine J_iadd (pc := 33) dX13_votes_33 ?_
      refine J_istore_n (pc := 34) (loc' := [(2, .int (y1_33_4 + y0_33_4)), (0, .ref 57), (1, .int (pq0)), (3, .int x3_33_4)]) dX13_votes_34 rfl (by decide) rfl ?_
      refine J_iinc (pc := 35) (v := x3_33_4 + 1) (loc' := [(3, .int (x3_33_4 + 1)), (2, .int (y1_33_4 + y0_33_4)), (0, .ref 57), (1, .int (pq0))]) 3 dX13_votes_35 rfl rfl (by decide) rfl ?_
      refine J_goto (pc := 38) (tgt := 4) dX13_votes_38 (by decide) ?_
      refine J_loc (loc' := [(0, .ref 57), (1, .int (pq0)), (2, .int (y1_33_4 + y0_33_4)), (3, .int (x3_33_4 + 1))]) [2, 3, 1, 0] rfl ?_
      exact hB4 (y1_33_4 + y0_33_4, x3_33_4 + 1)
    refine J_iload_n (pc := 4) 3 dX13_votes_4 rfl rfl ?_
    refine J_aload_n (pc := 5) 0 dX13_votes_5 rfl rfl ?_
    refine J_getR (pc := 6) dX13_votes_6 fl_X13_321 (h0.lt 57 (by decide)) (h0.ty 57 rfl) rfl hla ?_
    refine J_getI (pc := 9) dX13_votes_9 fl_X13_229 (ht.lt 0 (by decide)) (ht.ty 0 rfl) rfl ?_
    refine K_icmp_ge (K := (fun x => Option.bind x k4)) (pc := 12) (tgt := 41) dX13_votes_12 (by decide) (fun z12 => ?_) (fun z12 => ?_)
    · refine J_loc (loc' := [(2, .int s4.1)]) [2] rfl ?_
      exact hX4 s4.1
    · refine J_iload_n (pc := 15) 2 dX13_votes_15 rfl rfl ?_
      refine J_iload_n (pc := 16) 1 dX13_votes_16 rfl rfl ?_
      refine J_iload_n (pc := 17) 3 dX13_votes_17 rfl rfl ?_
      refine JC_pt_i (J_callS (mi := mi_X13_votes) (mj := mi_X13_bit) (pc := 18) dX13_votes_18 ml_X13_249 ok_X13_bit os_X13_bit ⟨Nat.le_of_ble_eq_true rfl, Nat.le_of_ble_eq_true rfl⟩ rfl (s_X13_bit g d pq0 s4.2) rfl (Nat.le_of_ble_eq_true rfl)) ?_
      refine K_ifeq_b (K := (fun x => Option.bind x k4)) (pc := 21) (tgt := 32) dX13_votes_21 (by decide) (fun z21 => ?_) (fun z21 => ?_)
      · refine J_iconst (pc := 32) (v := 0) dX13_votes_32 (by decide) ?_
        refine J_loc (loc' := [(0, .ref 57), (1, .int (pq0)), (3, .int s4.2)]) [0, 1, 3] rfl ?_
        exact hX13_votes_j33_4 s4.2 0 s4.1
      · refine J_aload_n (pc := 24) 0 dX13_votes_24 rfl rfl ?_
        refine J_iload_n (pc := 25) 3 dX13_votes_25 rfl rfl ?_
        refine JC_pp_i (J_callV (mi := mi_X13_votes) (mj := mi_X13_has) (pc := 26) dX13_votes_26 ml_X13_354 ok_X13_has ov_X13_has ⟨Nat.le_of_ble_eq_true rfl, Nat.le_of_ble_eq_true rfl⟩ rfl (h0.lt 57 (by decide)) (h0.ty 57 rfl) rfl (s_X13_has g d t s4.2 h0 ht hla) rfl (Nat.le_of_ble_eq_true rfl)) (fun q26_4 => ?_)
        refine J_goto (pc := 29) (tgt := 33) dX13_votes_29 (by decide) ?_
        refine J_loc (loc' := [(0, .ref 57), (1, .int (pq0)), (3, .int s4.2)]) [0, 1, 3] rfl ?_
        exact hX13_votes_j33_4 s4.2 q26_4 s4.1
  · show J mi_X13_votes 0 0 0 0 (g, d) 41 [(2, .int e4)] [] (_)
    refine J_iload_n (pc := 41) 0 dX13_votes_41 rfl rfl ?_
    exact J_eqo (hk e4) (J_iret (pc := 42) dX13_votes_42 rfl)
def f_X13_everybody (r_t0 : Nat → Int32) : Int32 := (((1 : Int32) <<< ((r_t0 2) &&& 31)) - 1)
set_option maxRecDepth 100000 in
set_option maxHeartbeats 4000000 in
theorem s_X13_everybody (g : JG) (d : JD) (t : Nat) (h0 : j_sh g 0 TS_W RS_W) (ht : j_sh g t TS_ML RS_ML) (hla : g.2.2.1 57 3 = some t) : JM mi_X13_everybody 0 0 (g, d) [.ref 57] (some (some (.int (f_X13_everybody (d.1 t) )), (g, d))) := by
  refine JM_of (by decide) rfl (Nat.le_of_ble_eq_true rfl) ?_
  refine J_loc (loc' := [(0, .ref 57)]) [0] rfl ?_
  obtain ⟨k, hk⟩ : ∃ k : Int32 → Option (Option Value × JH), ∀ r9, k r9 = some (some (.int r9), (g, d)) := ⟨_, fun _ => rfl⟩
  refine J_eqo (hk (f_X13_everybody (d.1 t) )).symm ?_
  unfold f_X13_everybody
  refine J_iconst (pc := 0) (v := 1) dX13_everybody_0 (by decide) ?_
  refine J_aload_n (pc := 1) 0 dX13_everybody_1 rfl rfl ?_
  refine J_getR (pc := 2) dX13_everybody_2 fl_X13_321 (h0.lt 57 (by decide)) (h0.ty 57 rfl) rfl hla ?_
  refine J_getI (pc := 5) dX13_everybody_5 fl_X13_229 (ht.lt 0 (by decide)) (ht.ty 0 rfl) rfl ?_
  refine J_ishl (pc := 8) dX13_everybody_8 ?_
  refine J_iconst (pc := 9) (v := 1) dX13_everybody_9 (by decide) ?_
  refine J_isub (pc := 10) dX13_everybody_10 ?_
  exact J_eqo (hk (((1 : Int32) <<< (((d.1 t) 2) &&& 31)) - 1)) (J_iret (pc := 11) dX13_everybody_11 rfl)
def f_X13_voters_j31_4 (r_60 : Nat → Int32) (r_t0 : Nat → Int32) (r_t1 : Nat → Int32) (r_t2 : Nat → Int32) (r_t3 : Nat → Int32) (r_t4 : Nat → Int32) (r_t5 : Nat → Int32) (x2_31_4 : Int32) (y0_31_4 : Int32) (y1_31_4 : Int32) : Option ((Int32 × Int32) ⊕ (Int32)) := (some (.inl (y1_31_4 ||| y0_31_4, x2_31_4 + 1)))
def f_X13_voters_w4 (r_60 : Nat → Int32) (r_t0 : Nat → Int32) (r_t1 : Nat → Int32) (r_t2 : Nat → Int32) (r_t3 : Nat → Int32) (r_t4 : Nat → Int32) (r_t5 : Nat → Int32) (s4 : Int32 × Int32) : Option ((Int32 × Int32) ⊕ (Int32)) := (if (r_t0 2) ≤ s4.2 then some (.inr s4.1) else ((f_X13_has r_60 r_t0 r_t1 r_t2 r_t3 r_t4 r_t5 s4.2).bind (fun q18_4 => if q18_4 ≤ 0 then (f_X13_voters_j31_4 r_60 r_t0 r_t1 r_t2 r_t3 r_t4 r_t5 s4.2 0 s4.1) else (f_X13_voters_j31_4 r_60 r_t0 r_t1 r_t2 r_t3 r_t4 r_t5 s4.2 ((1 : Int32) <<< (s4.2 &&& 31)) s4.1))))
def f_X13_voters (r_60 : Nat → Int32) (r_t0 : Nat → Int32) (r_t1 : Nat → Int32) (r_t2 : Nat → Int32) (r_t3 : Nat → Int32) (r_t4 : Nat → Int32) (r_t5 : Nat → Int32) : Option (Int32) := ((j_wh (f_X13_voters_w4 r_60 r_t0 r_t1 r_t2 r_t3 r_t4 r_t5 ) j_fuel (0, 0)).bind (fun (e4 : Int32) => (some e4)))
set_option maxRecDepth 100000 in
set_option maxHeartbeats 4000000 in
theorem s_X13_voters (g : JG) (d : JD) (t : Nat) (h0 : j_sh g 0 TS_W RS_W) (ht : j_sh g t TS_ML RS_ML) (hla : g.2.2.1 57 3 = some t) : JM mi_X13_voters 0 0 (g, d) [.ref 57] ((f_X13_voters (d.1 60) (d.1 t) (d.1 (t + 1)) (d.1 (t + 2)) (d.1 (t + 3)) (d.1 (t + 4)) (d.1 (t + 5)) ).bind (fun r9 => some (some (.int r9), (g, d)))) := by
  refine JM_of (by decide) rfl (Nat.le_of_ble_eq_true rfl) ?_
  refine J_loc (loc' := [(0, .ref 57)]) [0] rfl ?_
  obtain ⟨k, hk, hk2⟩ : ∃ k : Int32 → Option (Option Value × JH), (∀ r9, k r9 = some (some (.int r9), (g, d))) ∧ (fun r9 : Int32 => (some (some (.int r9), (g, d)) : Option (Option Value × JH))) = k := ⟨_, fun _ => rfl, rfl⟩
  rw [hk2]
  unfold f_X13_voters
  refine J_iconst (pc := 0) (v := 0) dX13_voters_0 (by decide) ?_
  refine J_istore_n (pc := 1) (loc' := [(1, .int 0), (0, .ref 57)]) dX13_voters_1 rfl (by decide) rfl ?_
  refine J_iconst (pc := 2) (v := 0) dX13_voters_2 (by decide) ?_
  refine J_istore_n (pc := 3) (loc' := [(2, .int 0), (1, .int 0), (0, .ref 57)]) dX13_voters_3 rfl (by decide) rfl ?_
  refine J_loc (loc' := [(0, .ref 57), (1, .int 0), (2, .int 0)]) [2, 1, 0] rfl ?_
  refine J_whL (F := f_X13_voters_w4 (d.1 60) (d.1 t) (d.1 (t + 1)) (d.1 (t + 2)) (d.1 (t + 3)) (d.1 (t + 4)) (d.1 (t + 5)) ) (hp := fun (s4 : Int32 × Int32) => (g, d)) (lc := fun (s4 : Int32 × Int32) => [(0, .ref 57), (1, .int s4.1), (2, .int s4.2)]) (XJ := fun (e4 : Int32) o9 => J mi_X13_voters 0 0 0 0 (g, d) 39 [(1, .int e4)] [] o9) (fun s4 k4 hB4 hX4 => ?_) (fun e4 => ?_) _ (0, 0)
  · show J mi_X13_voters 0 0 0 0 (g, d) 4 [(0, .ref 57), (1, .int s4.1), (2, .int s4.2)] [] ((f_X13_voters_w4 (d.1 60) (d.1 t) (d.1 (t + 1)) (d.1 (t + 2)) (d.1 (t + 3)) (d.1 (t + 4)) (d.1 (t + 5)) s4).bind k4)
    unfold f_X13_voters_w4
    have hX13_voters_j31_4 : ∀ (x2_31_4 : Int32) (y0_31_4 : Int32) (y1_31_4 : Int32), J mi_X13_voters 0 0 0 0 (g, d) 31 [(0, .ref 57), (2, .int x2_31_4)] [.int y0_31_4, .int y1_31_4] ((f_X13_voters_j31_4 (d.1 60) (d.1 t) (d.1 (t + 1)) (d.1 (t + 2)) (d.1 (t + 3)) (d.1 (t + 4)) (d.1 (t + 5)) x2_31_4 y0_31_4 y1_31_4).bind k4) := by
      intro x2_31_4 y0_31_4 y1_31_4
      unfold f_X13_voters_j31_4
      refine J_ior (pc := 31) dX13_voters_31 ?_
      refine J_istore_n (pc := 32) (loc' := [(1, .int (y1_31_4 ||| y0_31_4)), (0, .ref 57), (2, .int x2_31_4)]) dX13_voters_32 rfl (by decide) rfl ?_
      refine J_iinc (pc := 33) (v := x2_31_4 + 1) (loc' := [(2, .int (x2_31_4 + 1)), (1, .int (y1_31_4 ||| y0_31_4)), (0, .ref 57)]) 2 dX13_voters_33 rfl rfl (by decide) rfl ?_
      refine J_goto (pc := 36) (tgt := 4) dX13_voters_36 (by decide) ?_
      refine J_loc (loc' := [(0, .ref 57), (1, .int (y1_31_4 ||| y0_31_4)), (2, .int (x2_31_4 + 1))]) [2, 1, 0] rfl ?_
      exact hB4 (y1_31_4 ||| y0_31_4, x2_31_4 + 1)
    refine J_iload_n (pc := 4) 2 dX13_voters_4 rfl rfl ?_
    refine J_aload_n (pc := 5) 0 dX13_voters_5 rfl rfl ?_
    refine J_getR (pc := 6) dX13_voters_6 fl_X13_321 (h0.lt 57 (by decide)) (h0.ty 57 rfl) rfl hla ?_
    refine J_getI (pc := 9) dX13_voters_9 fl_X13_229 (ht.lt 0 (by decide)) (ht.ty 0 rfl) rfl ?_
    refine K_icmp_ge (K := (fun x => Option.bind x k4)) (pc := 12) (tgt := 39) dX13_voters_12 (by decide) (fun z12 => ?_) (fun z12 => ?_)
    · refine J_loc (loc' := [(1, .int s4.1)]) [1] rfl ?_
      exact hX4 s4.1
    · refine J_iload_n (pc := 15) 1 dX13_voters_15 rfl rfl ?_
      refine J_aload_n (pc := 16) 0 dX13_voters_16 rfl rfl ?_
      refine J_iload_n (pc := 17) 2 dX13_voters_17 rfl rfl ?_
      refine JC_pp_i (J_callV (mi := mi_X13_voters) (mj := mi_X13_has) (pc := 18) dX13_voters_18 ml_X13_354 ok_X13_has ov_X13_has ⟨Nat.le_of_ble_eq_true rfl, Nat.le_of_ble_eq_true rfl⟩ rfl (h0.lt 57 (by decide)) (h0.ty 57 rfl) rfl (s_X13_has g d t s4.2 h0 ht hla) rfl (Nat.le_of_ble_eq_true rfl)) (fun q18_4 => ?_)
      refine K_if_le (K := (fun x => Option.bind x k4)) (pc := 21) (tgt := 30) dX13_voters_21 (by decide) (fun z21 => ?_) (fun z21 => ?_)
      · refine J_iconst (pc := 30) (v := 0) dX13_voters_30 (by decide) ?_
        refine J_loc (loc' := [(0, .ref 57), (2, .int s4.2)]) [0, 2] rfl ?_
        exact hX13_voters_j31_4 s4.2 0 s4.1
      · refine J_iconst (pc := 24) (v := 1) dX13_voters_24 (by decide) ?_
        refine J_iload_n (pc := 25) 2 dX13_voters_25 rfl rfl ?_
        refine J_ishl (pc := 26) dX13_voters_26 ?_
        refine J_goto (pc := 27) (tgt := 31) dX13_voters_27 (by decide) ?_
        refine J_loc (loc' := [(0, .ref 57), (2, .int s4.2)]) [0, 2] rfl ?_
        exact hX13_voters_j31_4 s4.2 ((1 : Int32) <<< (s4.2 &&& 31)) s4.1
  · show J mi_X13_voters 0 0 0 0 (g, d) 39 [(1, .int e4)] [] (_)
    refine J_iload_n (pc := 39) 0 dX13_voters_39 rfl rfl ?_
    exact J_eqo (hk e4) (J_iret (pc := 40) dX13_voters_40 rfl)
def f_X13_isMore (r_60 : Nat → Int32) (r_t0 : Nat → Int32) (r_t1 : Nat → Int32) (r_t2 : Nat → Int32) (r_t3 : Nat → Int32) (r_t4 : Nat → Int32) (r_t5 : Nat → Int32) (pq0 : Int32) : Option (Bool) := ((f_X13_votes r_60 r_t0 r_t1 r_t2 r_t3 r_t4 r_t5 pq0).bind (fun q3 => (f_X13_votes r_60 r_t0 r_t1 r_t2 r_t3 r_t4 r_t5 (f_X13_everybody r_t0)).bind (fun q12 => if ((2 : Int32) * q3) ≤ q12 then (some false) else (some true))))
set_option maxRecDepth 100000 in
set_option maxHeartbeats 4000000 in
theorem s_X13_isMore (g : JG) (d : JD) (t : Nat) (pq0 : Int32) (h0 : j_sh g 0 TS_W RS_W) (ht : j_sh g t TS_ML RS_ML) (hla : g.2.2.1 57 3 = some t) : JM mi_X13_isMore 0 0 (g, d) [.ref 57, .int pq0] ((f_X13_isMore (d.1 60) (d.1 t) (d.1 (t + 1)) (d.1 (t + 2)) (d.1 (t + 3)) (d.1 (t + 4)) (d.1 (t + 5)) pq0).bind (fun r9 => some (some (.int (j_b r9)), (g, d)))) := by
  refine JM_of (by decide) rfl (Nat.le_of_ble_eq_true rfl) ?_
  refine J_loc (loc' := [(0, .ref 57), (1, .int pq0)]) [0, 1] rfl ?_
  obtain ⟨k, hk, hk2⟩ : ∃ k : Bool → Option (Option Value × JH), (∀ r9, k r9 = some (some (.int (j_b r9)), (g, d))) ∧ (fun r9 : Bool => (some (some (.int (j_b r9)), (g, d)) : Option (Option Value × JH))) = k := ⟨_, fun _ => rfl, rfl⟩
  rw [hk2]
  unfold f_X13_isMore
  refine J_iconst (pc := 0) (v := 2) dX13_isMore_0 (by decide) ?_
  refine J_aload_n (pc := 1) 0 dX13_isMore_1 rfl rfl ?_
  refine J_iload_n (pc := 2) 1 dX13_isMore_2 rfl rfl ?_
  refine JC_pp_i (J_callV (mi := mi_X13_isMore) (mj := mi_X13_votes) (pc := 3) dX13_isMore_3 ml_X13_456 ok_X13_votes ov_X13_votes ⟨Nat.le_of_ble_eq_true rfl, Nat.le_of_ble_eq_true rfl⟩ rfl (h0.lt 57 (by decide)) (h0.ty 57 rfl) rfl (s_X13_votes g d t pq0 h0 ht hla) rfl (Nat.le_of_ble_eq_true rfl)) (fun q3 => ?_)
  refine J_imul (pc := 6) dX13_isMore_6 ?_
  refine J_aload_n (pc := 7) 0 dX13_isMore_7 rfl rfl ?_
  refine J_aload_n (pc := 8) 0 dX13_isMore_8 rfl rfl ?_
  refine JC_pt_i (J_callV (mi := mi_X13_isMore) (mj := mi_X13_everybody) (pc := 9) dX13_isMore_9 ml_X13_459 ok_X13_everybody ov_X13_everybody ⟨Nat.le_of_ble_eq_true rfl, Nat.le_of_ble_eq_true rfl⟩ rfl (h0.lt 57 (by decide)) (h0.ty 57 rfl) rfl (s_X13_everybody g d t h0 ht hla) rfl (Nat.le_of_ble_eq_true rfl)) ?_
  refine JC_pp_i (J_callV (mi := mi_X13_isMore) (mj := mi_X13_votes) (pc := 12) dX13_isMore_12 ml_X13_456 ok_X13_votes ov_X13_votes ⟨Nat.le_of_ble_eq_true rfl, Nat.le_of_ble_eq_true rfl⟩ rfl (h0.lt 57 (by decide)) (h0.ty 57 rfl) rfl (s_X13_votes g d t (f_X13_everybody (d.1 t)) h0 ht hla) rfl (Nat.le_of_ble_eq_true rfl)) (fun q12 => ?_)
  refine K_icmp_le (K := (fun x => Option.bind x k)) (pc := 15) (tgt := 22) dX13_isMore_15 (by decide) (fun z15 => ?_) (fun z15 => ?_)
  · refine J_iconst (pc := 22) (v := 0) dX13_isMore_22 (by decide) ?_
    exact J_eqo (hk false) (J_zretB (pc := 23) dX13_isMore_23 rfl)
  · refine J_iconst (pc := 18) (v := 1) dX13_isMore_18 (by decide) ?_
    refine J_goto (pc := 19) (tgt := 23) dX13_isMore_19 (by decide) ?_
    exact J_eqo (hk true) (J_zretB (pc := 23) dX13_isMore_23 rfl)
def f_X13_power_j97_57 (t : Nat) (c1_57 : Int32) (c2_57 : Int32) (c3_57 : Int32) (d : JD) (x4_97_57 : Int32) (x5_97_57 : Int32) : Option ((Int32 × Int32) ⊕ (Int32)) := (some (.inl (x4_97_57, x5_97_57 + 1)))
def f_X13_power_w57 (t : Nat) (c1_57 : Int32) (c2_57 : Int32) (c3_57 : Int32) (d : JD) (s57 : Int32 × Int32) : Option ((Int32 × Int32) ⊕ (Int32)) := (if (c3_57) < s57.2 then some (.inr s57.1) else (if (s57.2 &&& ((c3_57) ^^^ (-1))) = 0 then ((f_X13_isMore ((d).1 60) ((d).1 t) ((d).1 (t + 1)) ((d).1 (t + 2)) ((d).1 (t + 3)) ((d).1 (t + 4)) ((d).1 (t + 5)) s57.2).bind (fun q75_57 => if q75_57 = true then f_X13_power_j97_57 t (c1_57) (c2_57) (c3_57) (d) s57.1 s57.2 else ((f_X13_isMore ((d).1 60) ((d).1 t) ((d).1 (t + 1)) ((d).1 (t + 2)) ((d).1 (t + 3)) ((d).1 (t + 4)) ((d).1 (t + 5)) (s57.2 ||| ((1 : Int32) <<< ((c1_57) &&& 31)))).bind (fun q88_57 => if q88_57 = true then (f_X13_power_j97_57 t (c1_57) (c2_57) (c3_57) (d) (s57.1 + 1) s57.2) else f_X13_power_j97_57 t (c1_57) (c2_57) (c3_57) (d) s57.1 s57.2)))) else f_X13_power_j97_57 t (c1_57) (c2_57) (c3_57) (d) s57.1 s57.2))
def f_X13_power (t : Nat) (d : JD) (pq0 : Int32) (pq1 : Int32) : Option (Int64 × JD) := (if (f_X13_isPerson ((j_sI d 57 0 0).1 t) pq0) = true then ((f_X13_works (j_sI d 57 0 0)).bind (fun q21 => (f_X13_has (q21.1 60) (q21.1 t) (q21.1 (t + 1)) (q21.1 (t + 2)) (q21.1 (t + 3)) (q21.1 (t + 4)) (q21.1 (t + 5)) pq0).bind (fun q26 => if q26 = 0 then ((f_X13_fraction q21 0 1 pq1).bind (fun q36 => some (q36.1, q36.2))) else ((f_X13_voters (q21.1 60) (q21.1 t) (q21.1 (t + 1)) (q21.1 (t + 2)) (q21.1 (t + 3)) (q21.1 (t + 4)) (q21.1 (t + 5))).bind (fun q41 => j_let (q41 &&& (((1 : Int32) <<< (pq0 &&& 31)) ^^^ (-1))) (fun v3_50 => (j_wh (f_X13_power_w57 t pq0 pq1 v3_50 q21 ) j_fuel (0, 0)).bind (fun (e57 : Int32) => ((f_X13_bits v3_50).bind (fun q109 => (f_X13_fraction q21 e57.toInt64 ((1 : Int64) <<< (q109.toInt64 &&& 63)) pq1).bind (fun q114 => some (q114.1, q114.2))))))))))) else (j_let (f_X13_refused (j_sI d 57 0 0) 1) (fun q15 => some (q15.1.toInt64, q15.2))))
set_option maxRecDepth 100000 in
set_option maxHeartbeats 4000000 in
theorem s_X13_power (g : JG) (d : JD) (t : Nat) (pq0 : Int32) (pq1 : Int32) (h0 : j_sh g 0 TS_W RS_W) (ht : j_sh g t TS_ML RS_ML) (hla : g.2.2.1 57 3 = some t) : JM mi_X13_power 0 0 (g, d) [.ref 57, .int pq0, .int pq1] ((f_X13_power t d pq0 pq1).bind (fun r9 => some (some (.long r9.1), (g, r9.2)))) := by
  refine JM_of (by decide) rfl (Nat.le_of_ble_eq_true rfl) ?_
  refine J_loc (loc' := [(0, .ref 57), (1, .int pq0), (2, .int pq1)]) [0, 1, 2] rfl ?_
  obtain ⟨k, hk, hk2⟩ : ∃ k : Int64 × JD → Option (Option Value × JH), (∀ r9, k r9 = some (some (.long r9.1), (g, r9.2))) ∧ (fun r9 : Int64 × JD => (some (some (.long r9.1), (g, r9.2)) : Option (Option Value × JH))) = k := ⟨_, fun _ => rfl, rfl⟩
  rw [hk2]
  unfold f_X13_power
  refine J_aload_n (pc := 0) 0 dX13_power_0 rfl rfl ?_
  refine J_iconst (pc := 1) (v := 0) dX13_power_1 (by decide) ?_
  refine J_putI (pc := 2) dX13_power_2 fl_X13_42 ft_12_0 (h0.lt 57 (by decide)) (h0.ty 57 rfl) rfl rfl rfl ?_
  refine J_aload_n (pc := 5) 0 dX13_power_5 rfl rfl ?_
  refine J_iload_n (pc := 6) 1 dX13_power_6 rfl rfl ?_
  refine JC_pt_i (J_callV (mi := mi_X13_power) (mj := mi_X13_isPerson) (pc := 7) dX13_power_7 ml_X13_351 ok_X13_isPerson ov_X13_isPerson ⟨Nat.le_of_ble_eq_true rfl, Nat.le_of_ble_eq_true rfl⟩ rfl (h0.lt 57 (by decide)) (h0.ty 57 rfl) rfl (s_X13_isPerson g (j_sI d 57 0 0) t pq0 h0 ht hla) rfl (Nat.le_of_ble_eq_true rfl)) ?_
  refine K_ifne_b (K := (fun x => Option.bind x k)) (pc := 10) (tgt := 20) dX13_power_10 (by decide) (fun z10 => ?_) (fun z10 => ?_)
  · refine J_aload_n (pc := 20) 0 dX13_power_20 rfl rfl ?_
    refine JC_pe_v (J_callV (mi := mi_X13_power) (mj := mi_X13_works) (pc := 21) dX13_power_21 ml_X13_348 ok_X13_works ov_X13_works ⟨Nat.le_of_ble_eq_true rfl, Nat.le_of_ble_eq_true rfl⟩ rfl (h0.lt 57 (by decide)) (h0.ty 57 rfl) rfl (s_X13_works g (j_sI d 57 0 0) h0) rfl (Nat.le_of_ble_eq_true rfl)) (fun q21 => ?_)
    refine J_aload_n (pc := 24) 0 dX13_power_24 rfl rfl ?_
    refine J_iload_n (pc := 25) 1 dX13_power_25 rfl rfl ?_
    refine JC_pp_i (J_callV (mi := mi_X13_power) (mj := mi_X13_has) (pc := 26) dX13_power_26 ml_X13_354 ok_X13_has ov_X13_has ⟨Nat.le_of_ble_eq_true rfl, Nat.le_of_ble_eq_true rfl⟩ rfl (h0.lt 57 (by decide)) (h0.ty 57 rfl) rfl (s_X13_has g q21 t pq0 h0 ht hla) rfl (Nat.le_of_ble_eq_true rfl)) (fun q26 => ?_)
    refine K_if_ne (K := (fun x => Option.bind x k)) (pc := 29) (tgt := 40) dX13_power_29 (by decide) (fun z29 => ?_) (fun z29 => ?_)
    · refine J_aload_n (pc := 40) 0 dX13_power_40 rfl rfl ?_
      refine JC_pp_i (J_callV (mi := mi_X13_power) (mj := mi_X13_voters) (pc := 41) dX13_power_41 ml_X13_466 ok_X13_voters ov_X13_voters ⟨Nat.le_of_ble_eq_true rfl, Nat.le_of_ble_eq_true rfl⟩ rfl (h0.lt 57 (by decide)) (h0.ty 57 rfl) rfl (s_X13_voters g q21 t h0 ht hla) rfl (Nat.le_of_ble_eq_true rfl)) (fun q41 => ?_)
      refine J_iconst (pc := 44) (v := 1) dX13_power_44 (by decide) ?_
      refine J_iload_n (pc := 45) 1 dX13_power_45 rfl rfl ?_
      refine J_ishl (pc := 46) dX13_power_46 ?_
      refine J_iconst (pc := 47) (v := (-1)) dX13_power_47 (by decide) ?_
      refine J_ixor (pc := 48) dX13_power_48 ?_
      refine J_iand (pc := 49) dX13_power_49 ?_
      refine J_let (K := (fun x => Option.bind x k)) (fun v3_50 ev3_50 => ?_)
      refine J_val ev3_50.symm ?_
      refine J_istore_n (pc := 50) (loc' := [(3, .int v3_50), (0, .ref 57), (1, .int pq0), (2, .int pq1)]) dX13_power_50 rfl (by decide) rfl ?_
      refine J_iconst (pc := 51) (v := 0) dX13_power_51 (by decide) ?_
      refine J_istore (pc := 52) (loc' := [(4, .int 0), (3, .int v3_50), (0, .ref 57), (1, .int pq0), (2, .int pq1)]) dX13_power_52 (by decide) rfl ?_
      refine J_iconst (pc := 54) (v := 0) dX13_power_54 (by decide) ?_
      refine J_istore (pc := 55) (loc' := [(5, .int 0), (4, .int 0), (3, .int v3_50), (0, .ref 57), (1, .int pq0), (2, .int pq1)]) dX13_power_55 (by decide) rfl ?_
      refine J_loc (loc' := [(0, .ref 57), (1, .int pq0), (2, .int pq1), (3, .int v3_50), (4, .int 0), (5, .int 0)]) [3, 4, 5, 2, 1, 0] rfl ?_
      refine J_whL (F := f_X13_power_w57 t pq0 pq1 v3_50 q21 ) (hp := fun (s57 : Int32 × Int32) => (g, q21)) (lc := fun (s57 : Int32 × Int32) => [(0, .ref 57), (1, .int (pq0)), (2, .int (pq1)), (3, .int (v3_50)), (4, .int s57.1), (5, .int s57.2)]) (XJ := fun (e57 : Int32) o9 => J mi_X13_power 0 0 0 0 (g, q21) 103 [(0, .ref 57), (2, .int pq1), (3, .int v3_50), (4, .int e57)] [] o9) (fun s57 k57 hB57 hX57 => ?_) (fun e57 => ?_) _ (0, 0)
      · show J mi_X13_power 0 0 0 0 (g, q21) 57 [(0, .ref 57), (1, .int (pq0)), (2, .int (pq1)), (3, .int (v3_50)), (4, .int s57.1), (5, .int s57.2)] [] ((f_X13_power_w57 t pq0 pq1 v3_50 q21 s57).bind k57)
        unfold f_X13_power_w57
        have hX13_power_j97_57 : ∀ (x4_97_57 : Int32) (x5_97_57 : Int32), J mi_X13_power 0 0 0 0 (g, q21) 97 [(0, .ref 57), (1, .int (pq0)), (2, .int (pq1)), (3, .int (v3_50)), (4, .int x4_97_57), (5, .int x5_97_57)] [] ((f_X13_power_j97_57 t pq0 pq1 v3_50 q21 x4_97_57 x5_97_57).bind k57) := by
          intro x4_97_57 x5_97_57
          unfold f_X13_power_j97_57
          refine J_iinc (pc := 97) (v := x5_97_57 + 1) (loc' := [(5, .int (x5_97_57 + 1)), (0, .ref 57), (1, .int (pq0)), (2, .int (pq1)), (3, .int (v3_50)), (4, .int x4_97_57)]) 5 dX13_power_97 rfl rfl (by decide) rfl ?_
          refine J_goto (pc := 100) (tgt := 57) dX13_power_100 (by decide) ?_
          refine J_loc (loc' := [(0, .ref 57), (1, .int (pq0)), (2, .int (pq1)), (3, .int (v3_50)), (4, .int x4_97_57), (5, .int (x5_97_57 + 1))]) [1, 2, 3, 4, 5, 0] rfl ?_
          exact hB57 (x4_97_57, x5_97_57 + 1)
        refine J_iload (pc := 57) 5 dX13_power_57 rfl ?_
        refine J_iload_n (pc := 59) 3 dX13_power_59 rfl rfl ?_
        refine K_icmp_gt (K := (fun x => Option.bind x k57)) (pc := 60) (tgt := 103) dX13_power_60 (by decide) (fun z60 => ?_) (fun z60 => ?_)
        · refine J_loc (loc' := [(0, .ref 57), (2, .int (pq1)), (3, .int (v3_50)), (4, .int s57.1)]) [0, 2, 3, 4] rfl ?_
          exact hX57 s57.1
        · refine J_iload (pc := 63) 5 dX13_power_63 rfl ?_
          refine J_iload_n (pc := 65) 3 dX13_power_65 rfl rfl ?_
          refine J_iconst (pc := 66) (v := (-1)) dX13_power_66 (by decide) ?_
          refine J_ixor (pc := 67) dX13_power_67 ?_
          refine J_iand (pc := 68) dX13_power_68 ?_
          refine K_if_ne (K := (fun x => Option.bind x k57)) (pc := 69) (tgt := 97) dX13_power_69 (by decide) (fun z69 => ?_) (fun z69 => ?_)
          · exact hX13_power_j97_57 s57.1 s57.2
          · refine J_aload_n (pc := 72) 0 dX13_power_72 rfl rfl ?_
            refine J_iload (pc := 73) 5 dX13_power_73 rfl ?_
            refine JC_pp_b (J_callV (mi := mi_X13_power) (mj := mi_X13_isMore) (pc := 75) dX13_power_75 ml_X13_469 ok_X13_isMore ov_X13_isMore ⟨Nat.le_of_ble_eq_true rfl, Nat.le_of_ble_eq_true rfl⟩ rfl (h0.lt 57 (by decide)) (h0.ty 57 rfl) rfl (s_X13_isMore g q21 t s57.2 h0 ht hla) rfl (Nat.le_of_ble_eq_true rfl)) (fun q75_57 => ?_)
            refine K_ifne_b (K := (fun x => Option.bind x k57)) (pc := 78) (tgt := 97) dX13_power_78 (by decide) (fun z78 => ?_) (fun z78 => ?_)
            · exact hX13_power_j97_57 s57.1 s57.2
            · refine J_aload_n (pc := 81) 0 dX13_power_81 rfl rfl ?_
              refine J_iload (pc := 82) 5 dX13_power_82 rfl ?_
              refine J_iconst (pc := 84) (v := 1) dX13_power_84 (by decide) ?_
              refine J_iload_n (pc := 85) 1 dX13_power_85 rfl rfl ?_
              refine J_ishl (pc := 86) dX13_power_86 ?_
              refine J_ior (pc := 87) dX13_power_87 ?_
              refine JC_pp_b (J_callV (mi := mi_X13_power) (mj := mi_X13_isMore) (pc := 88) dX13_power_88 ml_X13_469 ok_X13_isMore ov_X13_isMore ⟨Nat.le_of_ble_eq_true rfl, Nat.le_of_ble_eq_true rfl⟩ rfl (h0.lt 57 (by decide)) (h0.ty 57 rfl) rfl (s_X13_isMore g q21 t (s57.2 ||| ((1 : Int32) <<< ((pq0) &&& 31))) h0 ht hla) rfl (Nat.le_of_ble_eq_true rfl)) (fun q88_57 => ?_)
              refine K_ifeq_b (K := (fun x => Option.bind x k57)) (pc := 91) (tgt := 97) dX13_power_91 (by decide) (fun z91 => ?_) (fun z91 => ?_)
              · exact hX13_power_j97_57 s57.1 s57.2
              · refine J_iinc (pc := 94) (v := s57.1 + 1) (loc' := [(4, .int (s57.1 + 1)), (0, .ref 57), (1, .int (pq0)), (2, .int (pq1)), (3, .int (v3_50)), (5, .int s57.2)]) 4 dX13_power_94 rfl rfl (by decide) rfl ?_
                refine J_loc (loc' := [(0, .ref 57), (1, .int (pq0)), (2, .int (pq1)), (3, .int (v3_50)), (4, .int (s57.1 + 1)), (5, .int s57.2)]) [1, 2, 3, 4, 0, 5] rfl ?_
                exact hX13_power_j97_57 (s57.1 + 1) s57.2
      · show J mi_X13_power 0 0 0 0 (g, q21) 103 [(0, .ref 57), (2, .int pq1), (3, .int v3_50), (4, .int e57)] [] (_)
        refine J_aload_n (pc := 103) 0 dX13_power_103 rfl rfl ?_
        refine J_iload (pc := 104) 3 dX13_power_104 rfl ?_
        refine J_i2l (pc := 106) dX13_power_106 ?_
        refine J_lconst (pc := 107) (v := 1) dX13_power_107 (by decide) ?_
        refine J_iload_n (pc := 108) 2 dX13_power_108 rfl rfl ?_
        refine JC_pp_i (J_callS (mi := mi_X13_power) (mj := mi_X13_bits) (pc := 109) dX13_power_109 ml_X13_335 ok_X13_bits os_X13_bits ⟨Nat.le_of_ble_eq_true rfl, Nat.le_of_ble_eq_true rfl⟩ rfl (s_X13_bits g q21 v3_50) rfl (Nat.le_of_ble_eq_true rfl)) (fun q109 => ?_)
        refine J_lshl (pc := 112) dX13_power_112 ?_
        refine J_iload_n (pc := 113) 1 dX13_power_113 rfl rfl ?_
        refine JC_pe_l (J_callV (mi := mi_X13_power) (mj := mi_X13_fraction) (pc := 114) dX13_power_114 ml_X13_462 ok_X13_fraction ov_X13_fraction ⟨Nat.le_of_ble_eq_true rfl, Nat.le_of_ble_eq_true rfl⟩ rfl (h0.lt 57 (by decide)) (h0.ty 57 rfl) rfl (s_X13_fraction g q21 e57.toInt64 ((1 : Int64) <<< (q109.toInt64 &&& 63)) pq1 h0) rfl (Nat.le_of_ble_eq_true rfl)) (fun q114 => ?_)
        exact J_eqo (hk (q114.1, q114.2)) (J_lret (pc := 117) dX13_power_117 rfl)
    · refine J_aload_n (pc := 32) 0 dX13_power_32 rfl rfl ?_
      refine J_lconst (pc := 33) (v := 0) dX13_power_33 (by decide) ?_
      refine J_lconst (pc := 34) (v := 1) dX13_power_34 (by decide) ?_
      refine J_iload_n (pc := 35) 2 dX13_power_35 rfl rfl ?_
      refine JC_pe_l (J_callV (mi := mi_X13_power) (mj := mi_X13_fraction) (pc := 36) dX13_power_36 ml_X13_462 ok_X13_fraction ov_X13_fraction ⟨Nat.le_of_ble_eq_true rfl, Nat.le_of_ble_eq_true rfl⟩ rfl (h0.lt 57 (by decide)) (h0.ty 57 rfl) rfl (s_X13_fraction g q21 0 1 pq1 h0) rfl (Nat.le_of_ble_eq_true rfl)) (fun q36 => ?_)
      exact J_eqo (hk (q36.1, q36.2)) (J_lret (pc := 39) dX13_power_39 rfl)
  · refine J_aload_n (pc := 13) 0 dX13_power_13 rfl rfl ?_
    refine J_iconst (pc := 14) (v := 1) dX13_power_14 (by decide) ?_
    refine JC_lt_i (K := (fun x => Option.bind x k)) (J_callV (mi := mi_X13_power) (mj := mi_X13_refused) (pc := 15) dX13_power_15 ml_X13_48 ok_X13_refused ov_X13_refused ⟨Nat.le_of_ble_eq_true rfl, Nat.le_of_ble_eq_true rfl⟩ rfl (h0.lt 57 (by decide)) (h0.ty 57 rfl) rfl (s_X13_refused g (j_sI d 57 0 0) 1 h0) rfl (Nat.le_of_ble_eq_true rfl)) (fun q15 eq15 => ?_)
    refine J_i2l (pc := 18) dX13_power_18 ?_
    exact J_eqo (hk (q15.1.toInt64, q15.2)) (J_lret (pc := 19) dX13_power_19 rfl)
def f_X13_rule_j62_27 (t : Nat) (d : JD) (x1_62_27 : Int32) (x2_62_27 : Int32) : Option ((Int32 × Int32) ⊕ (Int32)) := (some (.inl (x1_62_27, x2_62_27 + 1)))
def f_X13_rule_j52_27 (t : Nat) (d : JD) (x1_52_27 : Int32) (x2_52_27 : Int32) : Option ((Int32 × Int32) ⊕ (Int32)) := ((f_X13_isMore ((d).1 60) ((d).1 t) ((d).1 (t + 1)) ((d).1 (t + 2)) ((d).1 (t + 3)) ((d).1 (t + 4)) ((d).1 (t + 5)) x2_52_27).bind (fun q54_27 => if q54_27 = true then (f_X13_rule_j62_27 t (d) x2_52_27 x2_52_27) else f_X13_rule_j62_27 t (d) x1_52_27 x2_52_27))
def f_X13_rule_w27 (t : Nat) (d : JD) (s27 : Int32 × Int32) : Option ((Int32 × Int32) ⊕ (Int32)) := (if (f_X13_everybody ((d).1 t)) < s27.2 then some (.inr s27.1) else (if s27.1 = (-2) then f_X13_rule_j52_27 t (d) s27.1 s27.2 else ((f_X13_bits s27.2).bind (fun q42_27 => (f_X13_bits s27.1).bind (fun q46_27 => if q46_27 ≤ q42_27 then f_X13_rule_j62_27 t (d) s27.1 s27.2 else f_X13_rule_j52_27 t (d) s27.1 s27.2)))))
def f_X13_rule (t : Nat) (d : JD) : Option (Int32 × JD) := ((f_X13_works (j_sI d 57 0 0)).bind (fun q19 => (j_wh (f_X13_rule_w27 t q19 ) j_fuel ((-2), 0)).bind (fun (e27 : Int32) => (j_let (f_X13_good q19 e27) (fun q70 => some (q70.1, q70.2))))))
set_option maxRecDepth 100000 in
set_option maxHeartbeats 4000000 in
theorem s_X13_rule (g : JG) (d : JD) (t : Nat) (h0 : j_sh g 0 TS_W RS_W) (ht : j_sh g t TS_ML RS_ML) (hla : g.2.2.1 57 3 = some t) : JM mi_X13_rule 0 0 (g, d) [.ref 57] ((f_X13_rule t d ).bind (fun r9 => some (some (.int r9.1), (g, r9.2)))) := by
  refine JM_of (by decide) rfl (Nat.le_of_ble_eq_true rfl) ?_
  refine J_loc (loc' := [(0, .ref 57)]) [0] rfl ?_
  obtain ⟨k, hk, hk2⟩ : ∃ k : Int32 × JD → Option (Option Value × JH), (∀ r9, k r9 = some (some (.int r9.1), (g, r9.2))) ∧ (fun r9 : Int32 × JD => (some (some (.int r9.1), (g, r9.2)) : Option (Option Value × JH))) = k := ⟨_, fun _ => rfl, rfl⟩
  rw [hk2]
  unfold f_X13_rule
  refine J_aload_n (pc := 0) 0 dX13_rule_0 rfl rfl ?_
  refine J_iconst (pc := 1) (v := 0) dX13_rule_1 (by decide) ?_
  refine J_putI (pc := 2) dX13_rule_2 fl_X13_42 ft_12_0 (h0.lt 57 (by decide)) (h0.ty 57 rfl) rfl rfl rfl ?_
  refine J_aload_n (pc := 5) 0 dX13_rule_5 rfl rfl ?_
  refine J_getR (pc := 6) dX13_rule_6 fl_X13_321 (h0.lt 57 (by decide)) (h0.ty 57 rfl) rfl hla ?_
  refine J_ifnonnull (pc := 9) (tgt := 18) dX13_rule_9 (by decide) ?_
  refine J_aload_n (pc := 18) 0 dX13_rule_18 rfl rfl ?_
  refine JC_pe_v (J_callV (mi := mi_X13_rule) (mj := mi_X13_works) (pc := 19) dX13_rule_19 ml_X13_348 ok_X13_works ov_X13_works ⟨Nat.le_of_ble_eq_true rfl, Nat.le_of_ble_eq_true rfl⟩ rfl (h0.lt 57 (by decide)) (h0.ty 57 rfl) rfl (s_X13_works g (j_sI d 57 0 0) h0) rfl (Nat.le_of_ble_eq_true rfl)) (fun q19 => ?_)
  refine J_bipush (pc := 22) (v := (-2)) dX13_rule_22 (by decide) ?_
  refine J_istore_n (pc := 24) (loc' := [(1, .int (-2)), (0, .ref 57)]) dX13_rule_24 rfl (by decide) rfl ?_
  refine J_iconst (pc := 25) (v := 0) dX13_rule_25 (by decide) ?_
  refine J_istore_n (pc := 26) (loc' := [(2, .int 0), (1, .int (-2)), (0, .ref 57)]) dX13_rule_26 rfl (by decide) rfl ?_
  refine J_loc (loc' := [(0, .ref 57), (1, .int (-2)), (2, .int 0)]) [2, 1, 0] rfl ?_
  refine J_whL (F := f_X13_rule_w27 t q19 ) (hp := fun (s27 : Int32 × Int32) => (g, q19)) (lc := fun (s27 : Int32 × Int32) => [(0, .ref 57), (1, .int s27.1), (2, .int s27.2)]) (XJ := fun (e27 : Int32) o9 => J mi_X13_rule 0 0 0 0 (g, q19) 68 [(0, .ref 57), (1, .int e27)] [] o9) (fun s27 k27 hB27 hX27 => ?_) (fun e27 => ?_) _ ((-2), 0)
  · show J mi_X13_rule 0 0 0 0 (g, q19) 27 [(0, .ref 57), (1, .int s27.1), (2, .int s27.2)] [] ((f_X13_rule_w27 t q19 s27).bind k27)
    unfold f_X13_rule_w27
    have hX13_rule_j62_27 : ∀ (x1_62_27 : Int32) (x2_62_27 : Int32), J mi_X13_rule 0 0 0 0 (g, q19) 62 [(0, .ref 57), (1, .int x1_62_27), (2, .int x2_62_27)] [] ((f_X13_rule_j62_27 t q19 x1_62_27 x2_62_27).bind k27) := by
      intro x1_62_27 x2_62_27
      unfold f_X13_rule_j62_27
      refine J_iinc (pc := 62) (v := x2_62_27 + 1) (loc' := [(2, .int (x2_62_27 + 1)), (0, .ref 57), (1, .int x1_62_27)]) 2 dX13_rule_62 rfl rfl (by decide) rfl ?_
      refine J_goto (pc := 65) (tgt := 27) dX13_rule_65 (by decide) ?_
      refine J_loc (loc' := [(0, .ref 57), (1, .int x1_62_27), (2, .int (x2_62_27 + 1))]) [1, 2, 0] rfl ?_
      exact hB27 (x1_62_27, x2_62_27 + 1)
    have hX13_rule_j52_27 : ∀ (x1_52_27 : Int32) (x2_52_27 : Int32), J mi_X13_rule 0 0 0 0 (g, q19) 52 [(0, .ref 57), (1, .int x1_52_27), (2, .int x2_52_27)] [] ((f_X13_rule_j52_27 t q19 x1_52_27 x2_52_27).bind k27) := by
      intro x1_52_27 x2_52_27
      unfold f_X13_rule_j52_27
      refine J_aload_n (pc := 52) 0 dX13_rule_52 rfl rfl ?_
      refine J_iload_n (pc := 53) 2 dX13_rule_53 rfl rfl ?_
      refine JC_pp_b (J_callV (mi := mi_X13_rule) (mj := mi_X13_isMore) (pc := 54) dX13_rule_54 ml_X13_469 ok_X13_isMore ov_X13_isMore ⟨Nat.le_of_ble_eq_true rfl, Nat.le_of_ble_eq_true rfl⟩ rfl (h0.lt 57 (by decide)) (h0.ty 57 rfl) rfl (s_X13_isMore g q19 t x2_52_27 h0 ht hla) rfl (Nat.le_of_ble_eq_true rfl)) (fun q54_27 => ?_)
      refine K_ifeq_b (K := (fun x => Option.bind x k27)) (pc := 57) (tgt := 62) dX13_rule_57 (by decide) (fun z57 => ?_) (fun z57 => ?_)
      · exact hX13_rule_j62_27 x1_52_27 x2_52_27
      · refine J_iload_n (pc := 60) 2 dX13_rule_60 rfl rfl ?_
        refine J_istore_n (pc := 61) (loc' := [(1, .int x2_52_27), (0, .ref 57), (2, .int x2_52_27)]) dX13_rule_61 rfl (by decide) rfl ?_
        refine J_loc (loc' := [(0, .ref 57), (1, .int x2_52_27), (2, .int x2_52_27)]) [1, 0, 2] rfl ?_
        exact hX13_rule_j62_27 x2_52_27 x2_52_27
    refine J_iload_n (pc := 27) 2 dX13_rule_27 rfl rfl ?_
    refine J_aload_n (pc := 28) 0 dX13_rule_28 rfl rfl ?_
    refine JC_pt_i (J_callV (mi := mi_X13_rule) (mj := mi_X13_everybody) (pc := 29) dX13_rule_29 ml_X13_459 ok_X13_everybody ov_X13_everybody ⟨Nat.le_of_ble_eq_true rfl, Nat.le_of_ble_eq_true rfl⟩ rfl (h0.lt 57 (by decide)) (h0.ty 57 rfl) rfl (s_X13_everybody g q19 t h0 ht hla) rfl (Nat.le_of_ble_eq_true rfl)) ?_
    refine K_icmp_gt (K := (fun x => Option.bind x k27)) (pc := 32) (tgt := 68) dX13_rule_32 (by decide) (fun z32 => ?_) (fun z32 => ?_)
    · refine J_loc (loc' := [(0, .ref 57), (1, .int s27.1)]) [0, 1] rfl ?_
      exact hX27 s27.1
    · refine J_iload_n (pc := 35) 1 dX13_rule_35 rfl rfl ?_
      refine J_bipush (pc := 36) (v := (-2)) dX13_rule_36 (by decide) ?_
      refine K_icmp_eq (K := (fun x => Option.bind x k27)) (pc := 38) (tgt := 52) dX13_rule_38 (by decide) (fun z38 => ?_) (fun z38 => ?_)
      · exact hX13_rule_j52_27 s27.1 s27.2
      · refine J_iload_n (pc := 41) 2 dX13_rule_41 rfl rfl ?_
        refine JC_pp_i (J_callS (mi := mi_X13_rule) (mj := mi_X13_bits) (pc := 42) dX13_rule_42 ml_X13_335 ok_X13_bits os_X13_bits ⟨Nat.le_of_ble_eq_true rfl, Nat.le_of_ble_eq_true rfl⟩ rfl (s_X13_bits g q19 s27.2) rfl (Nat.le_of_ble_eq_true rfl)) (fun q42_27 => ?_)
        refine J_iload_n (pc := 45) 1 dX13_rule_45 rfl rfl ?_
        refine JC_pp_i (J_callS (mi := mi_X13_rule) (mj := mi_X13_bits) (pc := 46) dX13_rule_46 ml_X13_335 ok_X13_bits os_X13_bits ⟨Nat.le_of_ble_eq_true rfl, Nat.le_of_ble_eq_true rfl⟩ rfl (s_X13_bits g q19 s27.1) rfl (Nat.le_of_ble_eq_true rfl)) (fun q46_27 => ?_)
        refine K_icmp_ge (K := (fun x => Option.bind x k27)) (pc := 49) (tgt := 62) dX13_rule_49 (by decide) (fun z49 => ?_) (fun z49 => ?_)
        · exact hX13_rule_j62_27 s27.1 s27.2
        · exact hX13_rule_j52_27 s27.1 s27.2
  · show J mi_X13_rule 0 0 0 0 (g, q19) 68 [(0, .ref 57), (1, .int e27)] [] (_)
    refine J_aload_n (pc := 68) 0 dX13_rule_68 rfl rfl ?_
    refine J_iload_n (pc := 69) 1 dX13_rule_69 rfl rfl ?_
    refine JC_lt_i (K := (fun x => Option.bind x k)) (J_callV (mi := mi_X13_rule) (mj := mi_X13_good) (pc := 70) dX13_rule_70 ml_X13_52 ok_X13_good ov_X13_good ⟨Nat.le_of_ble_eq_true rfl, Nat.le_of_ble_eq_true rfl⟩ rfl (h0.lt 57 (by decide)) (h0.ty 57 rfl) rfl (s_X13_good g q19 e27 h0) rfl (Nat.le_of_ble_eq_true rfl)) (fun q70 eq70 => ?_)
    exact J_eqo (hk (q70.1, q70.2)) (J_iret (pc := 73) dX13_rule_73 rfl)
def f_X13_thiefs (pq0 : Int32) (pq1 : Int32) (pq2 : Int32) : Int32 := (if pq1 = 0 then (0) else (if pq2 = 0 then (pq0) else (-3)))
set_option maxRecDepth 100000 in
set_option maxHeartbeats 4000000 in
theorem s_X13_thiefs (g : JG) (d : JD) (pq0 : Int32) (pq1 : Int32) (pq2 : Int32) : JM mi_X13_thiefs 0 0 (g, d) [.int pq0, .int pq1, .int pq2] (some (some (.int (f_X13_thiefs pq0 pq1 pq2)), (g, d))) := by
  refine JM_of (by decide) rfl (Nat.le_of_ble_eq_true rfl) ?_
  refine J_loc (loc' := [(0, .int pq0), (1, .int pq1), (2, .int pq2)]) [0, 1, 2] rfl ?_
  obtain ⟨k, hk⟩ : ∃ k : Int32 → Option (Option Value × JH), ∀ r9, k r9 = some (some (.int r9), (g, d)) := ⟨_, fun _ => rfl⟩
  refine J_eqo (hk (f_X13_thiefs pq0 pq1 pq2)).symm ?_
  unfold f_X13_thiefs
  refine J_iload_n (pc := 0) 1 dX13_thiefs_0 rfl rfl ?_
  refine K_if_eq (K := k) (pc := 1) (tgt := 17) dX13_thiefs_1 (by decide) (fun z1 => ?_) (fun z1 => ?_)
  · refine J_iconst (pc := 17) (v := 0) dX13_thiefs_17 (by decide) ?_
    exact J_eqo (hk 0) (J_iret (pc := 18) dX13_thiefs_18 rfl)
  · refine J_iload_n (pc := 4) 2 dX13_thiefs_4 rfl rfl ?_
    refine K_if_eq (K := k) (pc := 5) (tgt := 13) dX13_thiefs_5 (by decide) (fun z5 => ?_) (fun z5 => ?_)
    · refine J_iload_n (pc := 13) 0 dX13_thiefs_13 rfl rfl ?_
      refine J_goto (pc := 14) (tgt := 18) dX13_thiefs_14 (by decide) ?_
      exact J_eqo (hk pq0) (J_iret (pc := 18) dX13_thiefs_18 rfl)
    · refine J_bipush (pc := 8) (v := (-3)) dX13_thiefs_8 (by decide) ?_
      refine J_goto (pc := 10) (tgt := 18) dX13_thiefs_10 (by decide) ?_
      exact J_eqo (hk (-3)) (J_iret (pc := 18) dX13_thiefs_18 rfl)
def f_X13_sentrys (pq0 : Int32) (pq1 : Int32) (pq2 : Int32) : Int32 := (if pq1 = 0 then (if pq2 = 0 then (0) else (-1)) else (if pq2 = 0 then (-pq0) else (2)))
set_option maxRecDepth 100000 in
set_option maxHeartbeats 4000000 in
theorem s_X13_sentrys (g : JG) (d : JD) (pq0 : Int32) (pq1 : Int32) (pq2 : Int32) : JM mi_X13_sentrys 0 0 (g, d) [.int pq0, .int pq1, .int pq2] (some (some (.int (f_X13_sentrys pq0 pq1 pq2)), (g, d))) := by
  refine JM_of (by decide) rfl (Nat.le_of_ble_eq_true rfl) ?_
  refine J_loc (loc' := [(0, .int pq0), (1, .int pq1), (2, .int pq2)]) [0, 1, 2] rfl ?_
  obtain ⟨k, hk⟩ : ∃ k : Int32 → Option (Option Value × JH), ∀ r9, k r9 = some (some (.int r9), (g, d)) := ⟨_, fun _ => rfl⟩
  refine J_eqo (hk (f_X13_sentrys pq0 pq1 pq2)).symm ?_
  unfold f_X13_sentrys
  refine J_iload_n (pc := 0) 1 dX13_sentrys_0 rfl rfl ?_
  refine K_if_eq (K := k) (pc := 1) (tgt := 17) dX13_sentrys_1 (by decide) (fun z1 => ?_) (fun z1 => ?_)
  · refine J_iload_n (pc := 17) 2 dX13_sentrys_17 rfl rfl ?_
    refine K_if_eq (K := k) (pc := 18) (tgt := 25) dX13_sentrys_18 (by decide) (fun z18 => ?_) (fun z18 => ?_)
    · refine J_iconst (pc := 25) (v := 0) dX13_sentrys_25 (by decide) ?_
      exact J_eqo (hk 0) (J_iret (pc := 26) dX13_sentrys_26 rfl)
    · refine J_iconst (pc := 21) (v := (-1)) dX13_sentrys_21 (by decide) ?_
      refine J_goto (pc := 22) (tgt := 26) dX13_sentrys_22 (by decide) ?_
      exact J_eqo (hk (-1)) (J_iret (pc := 26) dX13_sentrys_26 rfl)
  · refine J_iload_n (pc := 4) 2 dX13_sentrys_4 rfl rfl ?_
    refine K_if_eq (K := k) (pc := 5) (tgt := 12) dX13_sentrys_5 (by decide) (fun z5 => ?_) (fun z5 => ?_)
    · refine J_iload_n (pc := 12) 0 dX13_sentrys_12 rfl rfl ?_
      refine J_ineg (pc := 13) dX13_sentrys_13 ?_
      refine J_goto (pc := 14) (tgt := 26) dX13_sentrys_14 (by decide) ?_
      exact J_eqo (hk (-pq0)) (J_iret (pc := 26) dX13_sentrys_26 rfl)
    · refine J_iconst (pc := 8) (v := 2) dX13_sentrys_8 (by decide) ?_
      refine J_goto (pc := 9) (tgt := 26) dX13_sentrys_9 (by decide) ?_
      exact J_eqo (hk 2) (J_iret (pc := 26) dX13_sentrys_26 rfl)
def f_X13_refusesWorth (pq0 : Int32) : Int32 := (if (f_X13_in pq0 0 20) = true then (0) else (2))
set_option maxRecDepth 100000 in
set_option maxHeartbeats 4000000 in
theorem s_X13_refusesWorth (g : JG) (d : JD) (t : Nat) (pq0 : Int32) (h0 : j_sh g 0 TS_W RS_W) (ht : j_sh g t TS_ML RS_ML) (hla : g.2.2.1 57 3 = some t) : JM mi_X13_refusesWorth 0 0 (g, d) [.ref 57, .int pq0] (some (some (.int (f_X13_refusesWorth pq0)), (g, d))) := by
  refine JM_of (by decide) rfl (Nat.le_of_ble_eq_true rfl) ?_
  refine J_loc (loc' := [(0, .ref 57), (1, .int pq0)]) [0, 1] rfl ?_
  obtain ⟨k, hk⟩ : ∃ k : Int32 → Option (Option Value × JH), ∀ r9, k r9 = some (some (.int r9), (g, d)) := ⟨_, fun _ => rfl⟩
  refine J_eqo (hk (f_X13_refusesWorth pq0)).symm ?_
  unfold f_X13_refusesWorth
  refine J_aload_n (pc := 0) 0 dX13_refusesWorth_0 rfl rfl ?_
  refine J_getR (pc := 1) dX13_refusesWorth_1 fl_X13_321 (h0.lt 57 (by decide)) (h0.ty 57 rfl) rfl hla ?_
  refine J_ifnonnull (pc := 4) (tgt := 11) dX13_refusesWorth_4 (by decide) ?_
  refine J_iload_n (pc := 11) 1 dX13_refusesWorth_11 rfl rfl ?_
  refine J_iconst (pc := 12) (v := 0) dX13_refusesWorth_12 (by decide) ?_
  refine J_bipush (pc := 13) (v := 20) dX13_refusesWorth_13 (by decide) ?_
  refine JC_pt_i (J_callS (mi := mi_X13_refusesWorth) (mj := mi_X13_in) (pc := 15) dX13_refusesWorth_15 ml_X13_121 ok_X13_in os_X13_in ⟨Nat.le_of_ble_eq_true rfl, Nat.le_of_ble_eq_true rfl⟩ rfl (s_X13_in g d pq0 0 20) rfl (Nat.le_of_ble_eq_true rfl)) ?_
  refine K_ifeq_b (K := k) (pc := 18) (tgt := 25) dX13_refusesWorth_18 (by decide) (fun z18 => ?_) (fun z18 => ?_)
  · refine J_iconst (pc := 25) (v := 2) dX13_refusesWorth_25 (by decide) ?_
    exact J_eqo (hk 2) (J_iret (pc := 26) dX13_refusesWorth_26 rfl)
  · refine J_iconst (pc := 21) (v := 0) dX13_refusesWorth_21 (by decide) ?_
    refine J_goto (pc := 22) (tgt := 26) dX13_refusesWorth_22 (by decide) ?_
    exact J_eqo (hk 0) (J_iret (pc := 26) dX13_refusesWorth_26 rfl)
def f_X13_steal_j47 (t : Nat) (d47 : JD) (y0_47 : Int32) : Int32 × JD := (j_let (f_X13_good d47 y0_47) (fun q47 => (q47.1, q47.2)))
def f_X13_steal (t : Nat) (d : JD) (pq0 : Int32) (pq1 : Int32) (pq2 : Int32) (pq3 : Int32) : Int32 × JD := (if (f_X13_refusesWorth pq0) ≤ 0 then (if pq3 = 0 then (f_X13_steal_j47 t (j_sI d 57 0 0) (f_X13_thiefs pq0 pq1 pq2)) else (f_X13_steal_j47 t (j_sI d 57 0 0) (f_X13_sentrys pq0 pq1 pq2))) else (j_let (f_X13_lost (j_sI d 57 0 0) (f_X13_refusesWorth pq0)) (fun q20 => (q20.1, q20.2))))
set_option maxRecDepth 100000 in
set_option maxHeartbeats 4000000 in
theorem s_X13_steal (g : JG) (d : JD) (t : Nat) (pq0 : Int32) (pq1 : Int32) (pq2 : Int32) (pq3 : Int32) (h0 : j_sh g 0 TS_W RS_W) (ht : j_sh g t TS_ML RS_ML) (hla : g.2.2.1 57 3 = some t) : JM mi_X13_steal 0 0 (g, d) [.ref 57, .int pq0, .int pq1, .int pq2, .int pq3] (some (some (.int (f_X13_steal t d pq0 pq1 pq2 pq3).1), (g, (f_X13_steal t d pq0 pq1 pq2 pq3).2))) := by
  refine JM_of (by decide) rfl (Nat.le_of_ble_eq_true rfl) ?_
  refine J_loc (loc' := [(0, .ref 57), (1, .int pq0), (2, .int pq1), (3, .int pq2), (4, .int pq3)]) [0, 1, 2, 3, 4] rfl ?_
  obtain ⟨k, hk⟩ : ∃ k : Int32 × JD → Option (Option Value × JH), ∀ r9, k r9 = some (some (.int r9.1), (g, r9.2)) := ⟨_, fun _ => rfl⟩
  refine J_eqo (hk (f_X13_steal t d pq0 pq1 pq2 pq3)).symm ?_
  unfold f_X13_steal
  have hX13_steal_j47 : ∀ (d47 : JD) (y0_47 : Int32), J mi_X13_steal 0 0 0 0 (g, d47) 47 [] [.int y0_47, .ref 57] (k (f_X13_steal_j47 t d47 y0_47)) := by
    intro d47 y0_47
    unfold f_X13_steal_j47
    refine JC_lt_i (K := k) (J_callV (mi := mi_X13_steal) (mj := mi_X13_good) (pc := 47) dX13_steal_47 ml_X13_52 ok_X13_good ov_X13_good ⟨Nat.le_of_ble_eq_true rfl, Nat.le_of_ble_eq_true rfl⟩ rfl (h0.lt 57 (by decide)) (h0.ty 57 rfl) rfl (s_X13_good g d47 y0_47 h0) rfl (Nat.le_of_ble_eq_true rfl)) (fun q47 eq47 => ?_)
    exact J_eqo (hk (q47.1, q47.2)) (J_iret (pc := 50) dX13_steal_50 rfl)
  refine J_aload_n (pc := 0) 0 dX13_steal_0 rfl rfl ?_
  refine J_iconst (pc := 1) (v := 0) dX13_steal_1 (by decide) ?_
  refine J_putI (pc := 2) dX13_steal_2 fl_X13_42 ft_12_0 (h0.lt 57 (by decide)) (h0.ty 57 rfl) rfl rfl rfl ?_
  refine J_aload_n (pc := 5) 0 dX13_steal_5 rfl rfl ?_
  refine J_iload_n (pc := 6) 1 dX13_steal_6 rfl rfl ?_
  refine JC_pt_i (J_callV (mi := mi_X13_steal) (mj := mi_X13_refusesWorth) (pc := 7) dX13_steal_7 ml_X13_472 ok_X13_refusesWorth ov_X13_refusesWorth ⟨Nat.le_of_ble_eq_true rfl, Nat.le_of_ble_eq_true rfl⟩ rfl (h0.lt 57 (by decide)) (h0.ty 57 rfl) rfl (s_X13_refusesWorth g (j_sI d 57 0 0) t pq0 h0 ht hla) rfl (Nat.le_of_ble_eq_true rfl)) ?_
  refine J_istore (pc := 10) (loc' := [(5, .int (f_X13_refusesWorth pq0)), (0, .ref 57), (1, .int pq0), (2, .int pq1), (3, .int pq2), (4, .int pq3)]) dX13_steal_10 (by decide) rfl ?_
  refine J_iload (pc := 12) 0 dX13_steal_12 rfl ?_
  refine K_if_le (K := k) (pc := 14) (tgt := 26) dX13_steal_14 (by decide) (fun z14 => ?_) (fun z14 => ?_)
  · refine J_aload_n (pc := 26) 1 dX13_steal_26 rfl rfl ?_
    refine J_iload (pc := 27) 5 dX13_steal_27 rfl ?_
    refine K_if_eq (K := k) (pc := 29) (tgt := 41) dX13_steal_29 (by decide) (fun z29 => ?_) (fun z29 => ?_)
    · refine J_iload_n (pc := 41) 2 dX13_steal_41 rfl rfl ?_
      refine J_iload_n (pc := 42) 3 dX13_steal_42 rfl rfl ?_
      refine J_iload_n (pc := 43) 4 dX13_steal_43 rfl rfl ?_
      refine JC_pt_i (J_callS (mi := mi_X13_steal) (mj := mi_X13_thiefs) (pc := 44) dX13_steal_44 ml_X13_481 ok_X13_thiefs os_X13_thiefs ⟨Nat.le_of_ble_eq_true rfl, Nat.le_of_ble_eq_true rfl⟩ rfl (s_X13_thiefs g (j_sI d 57 0 0) pq0 pq1 pq2) rfl (Nat.le_of_ble_eq_true rfl)) ?_
      refine J_loc (loc' := []) [] rfl ?_
      exact hX13_steal_j47 (j_sI d 57 0 0) (f_X13_thiefs pq0 pq1 pq2)
    · refine J_iload_n (pc := 32) 2 dX13_steal_32 rfl rfl ?_
      refine J_iload_n (pc := 33) 3 dX13_steal_33 rfl rfl ?_
      refine J_iload_n (pc := 34) 4 dX13_steal_34 rfl rfl ?_
      refine JC_pt_i (J_callS (mi := mi_X13_steal) (mj := mi_X13_sentrys) (pc := 35) dX13_steal_35 ml_X13_477 ok_X13_sentrys os_X13_sentrys ⟨Nat.le_of_ble_eq_true rfl, Nat.le_of_ble_eq_true rfl⟩ rfl (s_X13_sentrys g (j_sI d 57 0 0) pq0 pq1 pq2) rfl (Nat.le_of_ble_eq_true rfl)) ?_
      refine J_goto (pc := 38) (tgt := 47) dX13_steal_38 (by decide) ?_
      refine J_loc (loc' := []) [] rfl ?_
      exact hX13_steal_j47 (j_sI d 57 0 0) (f_X13_sentrys pq0 pq1 pq2)
  · refine J_aload_n (pc := 17) 1 dX13_steal_17 rfl rfl ?_
    refine J_iload (pc := 18) 0 dX13_steal_18 rfl ?_
    refine JC_lt_i (K := k) (J_callV (mi := mi_X13_steal) (mj := mi_X13_lost) (pc := 20) dX13_steal_20 ml_X13_475 ok_X13_lost ov_X13_lost ⟨Nat.le_of_ble_eq_true rfl, Nat.le_of_ble_eq_true rfl⟩ rfl (h0.lt 57 (by decide)) (h0.ty 57 rfl) rfl (s_X13_lost g (j_sI d 57 0 0) (f_X13_refusesWorth pq0) h0) rfl (Nat.le_of_ble_eq_true rfl)) (fun q20 eq20 => ?_)
    refine J_goto (pc := 23) (tgt := 50) dX13_steal_23 (by decide) ?_
    exact J_eqo (hk (q20.1, q20.2)) (J_iret (pc := 50) dX13_steal_50 rfl)
def f_X13_isRest_j58 (x0_58 : Int32) (x2_58 : Int32) (x3_58 : Int32) (y0_58 : Int32) (y1_58 : Int32) (y2_58 : Int32) : Bool := (if (f_X13_sentrys x0_58 x2_58 x3_58) < (f_X13_sentrys y2_58 y1_58 y0_58) then (false) else (true))
def f_X13_isRest_j34 (x0_34 : Int32) (x2_34 : Int32) (x3_34 : Int32) (y0_34 : Int32) (y1_34 : Int32) : Bool := (if (f_X13_thiefs x0_34 x2_34 x3_34) < (f_X13_thiefs y1_34 y0_34 x3_34) then (false) else (if x3_34 = 0 then (f_X13_isRest_j58 x0_34 x2_34 x3_34 1 x2_34 x0_34) else (f_X13_isRest_j58 x0_34 x2_34 x3_34 0 x2_34 x0_34)))
def f_X13_isRest_j23 (x0_23 : Int32) (x2_23 : Int32) (y0_23 : Int32) : Bool := (if x2_23 = 0 then (f_X13_isRest_j34 x0_23 x2_23 y0_23 1 x0_23) else (f_X13_isRest_j34 x0_23 x2_23 y0_23 0 x0_23))
def f_X13_isRest_j10 (x0_10 : Int32) (x1_10 : Int32) (y0_10 : Int32) : Bool := (if (x1_10 - x1_10 / 2 * 2) = 1 then (f_X13_isRest_j23 x0_10 y0_10 1) else (f_X13_isRest_j23 x0_10 y0_10 0))
def f_X13_isRest (pq0 : Int32) (pq1 : Int32) : Bool := (if pq1 ≤ 1 then (f_X13_isRest_j10 pq0 pq1 0) else (f_X13_isRest_j10 pq0 pq1 1))
set_option maxRecDepth 100000 in
set_option maxHeartbeats 4000000 in
theorem s_X13_isRest (g : JG) (d : JD) (pq0 : Int32) (pq1 : Int32) : JM mi_X13_isRest 0 0 (g, d) [.int pq0, .int pq1] (some (some (.int (j_b (f_X13_isRest pq0 pq1))), (g, d))) := by
  refine JM_of (by decide) rfl (Nat.le_of_ble_eq_true rfl) ?_
  refine J_loc (loc' := [(0, .int pq0), (1, .int pq1)]) [0, 1] rfl ?_
  obtain ⟨k, hk⟩ : ∃ k : Bool → Option (Option Value × JH), ∀ r9, k r9 = some (some (.int (j_b r9)), (g, d)) := ⟨_, fun _ => rfl⟩
  refine J_eqo (hk (f_X13_isRest pq0 pq1)).symm ?_
  unfold f_X13_isRest
  have hX13_isRest_j58 : ∀ (x0_58 : Int32) (x2_58 : Int32) (x3_58 : Int32) (y0_58 : Int32) (y1_58 : Int32) (y2_58 : Int32), J mi_X13_isRest 0 0 0 0 (g, d) 58 [(0, .int x0_58), (2, .int x2_58), (3, .int x3_58)] [.int y0_58, .int y1_58, .int y2_58] (k (f_X13_isRest_j58 x0_58 x2_58 x3_58 y0_58 y1_58 y2_58)) := by
    intro x0_58 x2_58 x3_58 y0_58 y1_58 y2_58
    unfold f_X13_isRest_j58
    refine JC_pt_i (J_callS (mi := mi_X13_isRest) (mj := mi_X13_sentrys) (pc := 58) dX13_isRest_58 ml_X13_477 ok_X13_sentrys os_X13_sentrys ⟨Nat.le_of_ble_eq_true rfl, Nat.le_of_ble_eq_true rfl⟩ rfl (s_X13_sentrys g d y2_58 y1_58 y0_58) rfl (Nat.le_of_ble_eq_true rfl)) ?_
    refine J_iload_n (pc := 61) 0 dX13_isRest_61 rfl rfl ?_
    refine J_iload_n (pc := 62) 1 dX13_isRest_62 rfl rfl ?_
    refine J_iload_n (pc := 63) 2 dX13_isRest_63 rfl rfl ?_
    refine JC_pt_i (J_callS (mi := mi_X13_isRest) (mj := mi_X13_sentrys) (pc := 64) dX13_isRest_64 ml_X13_477 ok_X13_sentrys os_X13_sentrys ⟨Nat.le_of_ble_eq_true rfl, Nat.le_of_ble_eq_true rfl⟩ rfl (s_X13_sentrys g d x0_58 x2_58 x3_58) rfl (Nat.le_of_ble_eq_true rfl)) ?_
    refine K_icmp_gt (K := k) (pc := 67) (tgt := 74) dX13_isRest_67 (by decide) (fun z67 => ?_) (fun z67 => ?_)
    · refine J_iconst (pc := 74) (v := 0) dX13_isRest_74 (by decide) ?_
      exact J_eqo (hk false) (J_zretB (pc := 75) dX13_isRest_75 rfl)
    · refine J_iconst (pc := 70) (v := 1) dX13_isRest_70 (by decide) ?_
      refine J_goto (pc := 71) (tgt := 75) dX13_isRest_71 (by decide) ?_
      exact J_eqo (hk true) (J_zretB (pc := 75) dX13_isRest_75 rfl)
  have hX13_isRest_j34 : ∀ (x0_34 : Int32) (x2_34 : Int32) (x3_34 : Int32) (y0_34 : Int32) (y1_34 : Int32), J mi_X13_isRest 0 0 0 0 (g, d) 34 [(0, .int x0_34), (2, .int x2_34), (3, .int x3_34)] [.int y0_34, .int y1_34] (k (f_X13_isRest_j34 x0_34 x2_34 x3_34 y0_34 y1_34)) := by
    intro x0_34 x2_34 x3_34 y0_34 y1_34
    unfold f_X13_isRest_j34
    refine J_iload_n (pc := 34) 2 dX13_isRest_34 rfl rfl ?_
    refine JC_pt_i (J_callS (mi := mi_X13_isRest) (mj := mi_X13_thiefs) (pc := 35) dX13_isRest_35 ml_X13_481 ok_X13_thiefs os_X13_thiefs ⟨Nat.le_of_ble_eq_true rfl, Nat.le_of_ble_eq_true rfl⟩ rfl (s_X13_thiefs g d y1_34 y0_34 x3_34) rfl (Nat.le_of_ble_eq_true rfl)) ?_
    refine J_iload_n (pc := 38) 0 dX13_isRest_38 rfl rfl ?_
    refine J_iload_n (pc := 39) 1 dX13_isRest_39 rfl rfl ?_
    refine J_iload_n (pc := 40) 2 dX13_isRest_40 rfl rfl ?_
    refine JC_pt_i (J_callS (mi := mi_X13_isRest) (mj := mi_X13_thiefs) (pc := 41) dX13_isRest_41 ml_X13_481 ok_X13_thiefs os_X13_thiefs ⟨Nat.le_of_ble_eq_true rfl, Nat.le_of_ble_eq_true rfl⟩ rfl (s_X13_thiefs g d x0_34 x2_34 x3_34) rfl (Nat.le_of_ble_eq_true rfl)) ?_
    refine K_icmp_gt (K := k) (pc := 44) (tgt := 74) dX13_isRest_44 (by decide) (fun z44 => ?_) (fun z44 => ?_)
    · refine J_iconst (pc := 74) (v := 0) dX13_isRest_74 (by decide) ?_
      exact J_eqo (hk false) (J_zretB (pc := 75) dX13_isRest_75 rfl)
    · refine J_iload_n (pc := 47) 0 dX13_isRest_47 rfl rfl ?_
      refine J_iload_n (pc := 48) 1 dX13_isRest_48 rfl rfl ?_
      refine J_iload_n (pc := 49) 2 dX13_isRest_49 rfl rfl ?_
      refine K_if_ne (K := k) (pc := 50) (tgt := 57) dX13_isRest_50 (by decide) (fun z50 => ?_) (fun z50 => ?_)
      · refine J_iconst (pc := 57) (v := 0) dX13_isRest_57 (by decide) ?_
        exact hX13_isRest_j58 x0_34 x2_34 x3_34 0 x2_34 x0_34
      · refine J_iconst (pc := 53) (v := 1) dX13_isRest_53 (by decide) ?_
        refine J_goto (pc := 54) (tgt := 58) dX13_isRest_54 (by decide) ?_
        exact hX13_isRest_j58 x0_34 x2_34 x3_34 1 x2_34 x0_34
  have hX13_isRest_j23 : ∀ (x0_23 : Int32) (x2_23 : Int32) (y0_23 : Int32), J mi_X13_isRest 0 0 0 0 (g, d) 23 [(0, .int x0_23), (2, .int x2_23)] [.int y0_23] (k (f_X13_isRest_j23 x0_23 x2_23 y0_23)) := by
    intro x0_23 x2_23 y0_23
    unfold f_X13_isRest_j23
    refine J_istore_n (pc := 23) (loc' := [(3, .int y0_23), (0, .int x0_23), (2, .int x2_23)]) dX13_isRest_23 rfl (by decide) rfl ?_
    refine J_iload_n (pc := 24) 1 dX13_isRest_24 rfl rfl ?_
    refine J_iload_n (pc := 25) 2 dX13_isRest_25 rfl rfl ?_
    refine K_if_ne (K := k) (pc := 26) (tgt := 33) dX13_isRest_26 (by decide) (fun z26 => ?_) (fun z26 => ?_)
    · refine J_iconst (pc := 33) (v := 0) dX13_isRest_33 (by decide) ?_
      refine J_loc (loc' := [(0, .int x0_23), (2, .int x2_23), (3, .int y0_23)]) [1, 2, 0] rfl ?_
      exact hX13_isRest_j34 x0_23 x2_23 y0_23 0 x0_23
    · refine J_iconst (pc := 29) (v := 1) dX13_isRest_29 (by decide) ?_
      refine J_goto (pc := 30) (tgt := 34) dX13_isRest_30 (by decide) ?_
      refine J_loc (loc' := [(0, .int x0_23), (2, .int x2_23), (3, .int y0_23)]) [1, 2, 0] rfl ?_
      exact hX13_isRest_j34 x0_23 x2_23 y0_23 1 x0_23
  have hX13_isRest_j10 : ∀ (x0_10 : Int32) (x1_10 : Int32) (y0_10 : Int32), J mi_X13_isRest 0 0 0 0 (g, d) 10 [(0, .int x0_10), (1, .int x1_10)] [.int y0_10] (k (f_X13_isRest_j10 x0_10 x1_10 y0_10)) := by
    intro x0_10 x1_10 y0_10
    unfold f_X13_isRest_j10
    refine J_istore_n (pc := 10) (loc' := [(2, .int y0_10), (0, .int x0_10), (1, .int x1_10)]) dX13_isRest_10 rfl (by decide) rfl ?_
    refine J_iload_n (pc := 11) 2 dX13_isRest_11 rfl rfl ?_
    refine J_iconst (pc := 12) (v := 2) dX13_isRest_12 (by decide) ?_
    refine J_irem (pc := 13) dX13_isRest_13 (by decide) ?_
    refine J_iconst (pc := 14) (v := 1) dX13_isRest_14 (by decide) ?_
    refine K_icmp_ne (K := k) (pc := 15) (tgt := 22) dX13_isRest_15 (by decide) (fun z15 => ?_) (fun z15 => ?_)
    · refine J_iconst (pc := 22) (v := 0) dX13_isRest_22 (by decide) ?_
      refine J_loc (loc' := [(0, .int x0_10), (2, .int y0_10)]) [1, 0] rfl ?_
      exact hX13_isRest_j23 x0_10 y0_10 0
    · refine J_iconst (pc := 18) (v := 1) dX13_isRest_18 (by decide) ?_
      refine J_goto (pc := 19) (tgt := 23) dX13_isRest_19 (by decide) ?_
      refine J_loc (loc' := [(0, .int x0_10), (2, .int y0_10)]) [1, 0] rfl ?_
      exact hX13_isRest_j23 x0_10 y0_10 1
  refine J_iload_n (pc := 0) 1 dX13_isRest_0 rfl rfl ?_
  refine J_iconst (pc := 1) (v := 1) dX13_isRest_1 (by decide) ?_
  refine K_icmp_le (K := k) (pc := 2) (tgt := 9) dX13_isRest_2 (by decide) (fun z2 => ?_) (fun z2 => ?_)
  · refine J_iconst (pc := 9) (v := 0) dX13_isRest_9 (by decide) ?_
    exact hX13_isRest_j10 pq0 pq1 0
  · refine J_iconst (pc := 5) (v := 1) dX13_isRest_5 (by decide) ?_
    refine J_goto (pc := 6) (tgt := 10) dX13_isRest_6 (by decide) ?_
    exact hX13_isRest_j10 pq0 pq1 1
def f_X13_rests_j47_26 (t : Nat) (c1_26 : Int32) (i26 : Int32) (d : JD) (y0_47_26 : Int32) (y1_47_26 : Int32) : Int32 := (y1_47_26 + y0_47_26)
def f_X13_rests_b26 (t : Nat) (c1_26 : Int32) (d : JD) (i26 : Int32) (s26 : Int32) : Int32 := (if (f_X13_isRest (c1_26) i26) = true then (f_X13_rests_j47_26 t (c1_26) i26 (d) 1 s26) else (f_X13_rests_j47_26 t (c1_26) i26 (d) 0 s26))
def f_X13_rests (t : Nat) (d : JD) (pq0 : Int32) : Int32 × JD := (if (f_X13_refusesWorth pq0) ≤ 0 then (j_let (j_for 4 (f_X13_rests_b26 t pq0 (j_sI d 57 0 0) ) (j_mu 4 0) 0 0) (fun (s26 : Int32) => (j_let (f_X13_good (j_sI d 57 0 0) s26) (fun q57 => (q57.1, q57.2))))) else (j_let (f_X13_refused (j_sI d 57 0 0) (f_X13_refusesWorth pq0)) (fun q17 => (q17.1, q17.2))))
set_option maxRecDepth 100000 in
set_option maxHeartbeats 4000000 in
theorem s_X13_rests (g : JG) (d : JD) (t : Nat) (pq0 : Int32) (h0 : j_sh g 0 TS_W RS_W) (ht : j_sh g t TS_ML RS_ML) (hla : g.2.2.1 57 3 = some t) : JM mi_X13_rests 0 0 (g, d) [.ref 57, .int pq0] (some (some (.int (f_X13_rests t d pq0).1), (g, (f_X13_rests t d pq0).2))) := by
  refine JM_of (by decide) rfl (Nat.le_of_ble_eq_true rfl) ?_
  refine J_loc (loc' := [(0, .ref 57), (1, .int pq0)]) [0, 1] rfl ?_
  obtain ⟨k, hk⟩ : ∃ k : Int32 × JD → Option (Option Value × JH), ∀ r9, k r9 = some (some (.int r9.1), (g, r9.2)) := ⟨_, fun _ => rfl⟩
  refine J_eqo (hk (f_X13_rests t d pq0)).symm ?_
  unfold f_X13_rests
  refine J_aload_n (pc := 0) 0 dX13_rests_0 rfl rfl ?_
  refine J_iconst (pc := 1) (v := 0) dX13_rests_1 (by decide) ?_
  refine J_putI (pc := 2) dX13_rests_2 fl_X13_42 ft_12_0 (h0.lt 57 (by decide)) (h0.ty 57 rfl) rfl rfl rfl ?_
  refine J_aload_n (pc := 5) 0 dX13_rests_5 rfl rfl ?_
  refine J_iload_n (pc := 6) 1 dX13_rests_6 rfl rfl ?_
  refine JC_pt_i (J_callV (mi := mi_X13_rests) (mj := mi_X13_refusesWorth) (pc := 7) dX13_rests_7 ml_X13_472 ok_X13_refusesWorth ov_X13_refusesWorth ⟨Nat.le_of_ble_eq_true rfl, Nat.le_of_ble_eq_true rfl⟩ rfl (h0.lt 57 (by decide)) (h0.ty 57 rfl) rfl (s_X13_refusesWorth g (j_sI d 57 0 0) t pq0 h0 ht hla) rfl (Nat.le_of_ble_eq_true rfl)) ?_
  refine J_istore_n (pc := 10) (loc' := [(2, .int (f_X13_refusesWorth pq0)), (0, .ref 57), (1, .int pq0)]) dX13_rests_10 rfl (by decide) rfl ?_
  refine J_iload_n (pc := 11) 0 dX13_rests_11 rfl rfl ?_
  refine K_if_le (K := k) (pc := 12) (tgt := 21) dX13_rests_12 (by decide) (fun z12 => ?_) (fun z12 => ?_)
  · refine J_iconst (pc := 21) (v := 0) dX13_rests_21 (by decide) ?_
    refine J_istore_n (pc := 22) (loc' := [(3, .int 0), (2, .int (f_X13_refusesWorth pq0)), (0, .ref 57), (1, .int pq0)]) dX13_rests_22 rfl (by decide) rfl ?_
    refine J_iconst (pc := 23) (v := 0) dX13_rests_23 (by decide) ?_
    refine J_istore (pc := 24) (loc' := [(4, .int 0), (3, .int 0), (2, .int (f_X13_refusesWorth pq0)), (0, .ref 57), (1, .int pq0)]) dX13_rests_24 (by decide) rfl ?_
    refine J_loc (loc' := [(0, .ref 57), (1, .int pq0), (3, .int 0), (4, .int 0)]) [3, 4, 1, 0] rfl ?_
    refine J_forL (K := k) (b := 4) (G := f_X13_rests_b26 t pq0 (j_sI d 57 0 0) ) (hp := fun (s26 : Int32) => (g, (j_sI d 57 0 0))) (lc := fun (i26 : Int32) (s26 : Int32) => [(0, .ref 57), (1, .int (pq0)), (3, .int s26), (4, .int i26)]) (XJ := fun (i26 : Int32) (s26 : Int32) o9 => J mi_X13_rests 0 0 0 0 (g, (j_sI d 57 0 0)) 55 [(0, .ref 57), (3, .int s26)] [] o9) (fun i26 s26 o26 Kb26 hX26 hB26 => ?_) (fun i26 s26 => ?_) _ _ 0 (Nat.le_refl _)
    · show J mi_X13_rests 0 0 0 0 (g, (j_sI d 57 0 0)) 26 [(0, .ref 57), (1, .int (pq0)), (3, .int s26), (4, .int i26)] [] (if 4 ≤ i26 then o26 else Kb26 (f_X13_rests_b26 t pq0 (j_sI d 57 0 0) i26 s26))
      refine J_iload (pc := 26) 3 dX13_rests_26 rfl ?_
      refine J_iconst (pc := 28) (v := 4) dX13_rests_28 (by decide) ?_
      refine J_icmp_ge (pc := 29) (tgt := 55) dX13_rests_29 (by decide) (fun z26 => ?_) (fun z26 => ?_)
      · refine J_loc (loc' := [(0, .ref 57), (3, .int s26)]) [0, 2] rfl ?_
        exact hX26 z26
      · unfold f_X13_rests_b26
        have hX13_rests_j47_26 : ∀ (y0_47_26 : Int32) (y1_47_26 : Int32), J mi_X13_rests 0 0 0 0 (g, (j_sI d 57 0 0)) 47 [(0, .ref 57), (1, .int (pq0)), (4, .int i26)] [.int y0_47_26, .int y1_47_26] (Kb26 (f_X13_rests_j47_26 t pq0 i26 (j_sI d 57 0 0) y0_47_26 y1_47_26)) := by
          intro y0_47_26 y1_47_26
          unfold f_X13_rests_j47_26
          refine J_iadd (pc := 47) dX13_rests_47 ?_
          refine J_istore_n (pc := 48) (loc' := [(3, .int (y1_47_26 + y0_47_26)), (0, .ref 57), (1, .int (pq0)), (4, .int i26)]) dX13_rests_48 rfl (by decide) rfl ?_
          refine J_iinc (pc := 49) (v := i26 + 1) (loc' := [(4, .int (i26 + 1)), (3, .int (y1_47_26 + y0_47_26)), (0, .ref 57), (1, .int (pq0))]) 3 dX13_rests_49 rfl rfl (by decide) rfl ?_
          refine J_goto (pc := 52) (tgt := 26) dX13_rests_52 (by decide) ?_
          refine J_loc (loc' := [(0, .ref 57), (1, .int (pq0)), (3, .int (y1_47_26 + y0_47_26)), (4, .int (i26 + 1))]) [2, 3, 1, 0] rfl ?_
          exact hB26 z26 (y1_47_26 + y0_47_26)
        refine J_iload_n (pc := 32) 2 dX13_rests_32 rfl rfl ?_
        refine J_iload_n (pc := 33) 1 dX13_rests_33 rfl rfl ?_
        refine J_iload (pc := 34) 3 dX13_rests_34 rfl ?_
        refine JC_pt_i (J_callS (mi := mi_X13_rests) (mj := mi_X13_isRest) (pc := 36) dX13_rests_36 ml_X13_484 ok_X13_isRest os_X13_isRest ⟨Nat.le_of_ble_eq_true rfl, Nat.le_of_ble_eq_true rfl⟩ rfl (s_X13_isRest g (j_sI d 57 0 0) pq0 i26) rfl (Nat.le_of_ble_eq_true rfl)) ?_
        refine K_ifeq_b (K := Kb26) (pc := 39) (tgt := 46) dX13_rests_39 (by decide) (fun z39 => ?_) (fun z39 => ?_)
        · refine J_iconst (pc := 46) (v := 0) dX13_rests_46 (by decide) ?_
          refine J_loc (loc' := [(0, .ref 57), (1, .int (pq0)), (4, .int i26)]) [0, 1, 3] rfl ?_
          exact hX13_rests_j47_26 0 s26
        · refine J_iconst (pc := 42) (v := 1) dX13_rests_42 (by decide) ?_
          refine J_goto (pc := 43) (tgt := 47) dX13_rests_43 (by decide) ?_
          refine J_loc (loc' := [(0, .ref 57), (1, .int (pq0)), (4, .int i26)]) [0, 1, 3] rfl ?_
          exact hX13_rests_j47_26 1 s26
    · show J mi_X13_rests 0 0 0 0 (g, (j_sI d 57 0 0)) 55 [(0, .ref 57), (3, .int s26)] [] (_)
      refine J_aload_n (pc := 55) 0 dX13_rests_55 rfl rfl ?_
      refine J_iload_n (pc := 56) 1 dX13_rests_56 rfl rfl ?_
      refine JC_lt_i (K := k) (J_callV (mi := mi_X13_rests) (mj := mi_X13_good) (pc := 57) dX13_rests_57 ml_X13_52 ok_X13_good ov_X13_good ⟨Nat.le_of_ble_eq_true rfl, Nat.le_of_ble_eq_true rfl⟩ rfl (h0.lt 57 (by decide)) (h0.ty 57 rfl) rfl (s_X13_good g (j_sI d 57 0 0) s26 h0) rfl (Nat.le_of_ble_eq_true rfl)) (fun q57 eq57 => ?_)
      exact J_eqo (hk (q57.1, q57.2)) (J_iret (pc := 60) dX13_rests_60 rfl)
  · refine J_aload_n (pc := 15) 1 dX13_rests_15 rfl rfl ?_
    refine J_iload_n (pc := 16) 0 dX13_rests_16 rfl rfl ?_
    refine JC_lt_i (K := k) (J_callV (mi := mi_X13_rests) (mj := mi_X13_refused) (pc := 17) dX13_rests_17 ml_X13_48 ok_X13_refused ov_X13_refused ⟨Nat.le_of_ble_eq_true rfl, Nat.le_of_ble_eq_true rfl⟩ rfl (h0.lt 57 (by decide)) (h0.ty 57 rfl) rfl (s_X13_refused g (j_sI d 57 0 0) (f_X13_refusesWorth pq0) h0) rfl (Nat.le_of_ble_eq_true rfl)) (fun q17 eq17 => ?_)
    exact J_eqo (hk (q17.1, q17.2)) (J_iret (pc := 20) dX13_rests_20 rfl)
