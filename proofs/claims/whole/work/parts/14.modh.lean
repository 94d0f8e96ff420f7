def f_X13_refusesHung (r_59 : Nat → Int32) (r_t0 : Nat → Int32) (r_t3 : Nat → Int32) (pq0 : Int32) : Option (Int32) := (if (f_X13_isGate r_t0 pq0) = true then (if j_out pq0 9 then none else if (r_59 pq0.toNatClampNeg) = 0 then (some 5) else (if j_out pq0 6 then none else if (r_t3 pq0.toNatClampNeg) = 2 then (some 6) else (some 0))) else (some 1))
set_option maxRecDepth 100000 in
set_option maxHeartbeats 4000000 in
theorem s_X13_refusesHung (g : JG) (d : JD) (t : Nat) (pq0 : Int32) (h0 : j_sh g 0 TS_W RS_W) (ht : j_sh g t TS_ML RS_ML) (hla : g.2.2.1 57 3 = some t) : JM mi_X13_refusesHung 0 0 (g, d) [.ref 57, .int pq0] ((f_X13_refusesHung (d.1 59) (d.1 t) (d.1 (t + 3)) pq0).bind (fun r9 => some (some (.int r9), (g, d)))) := by
  refine JM_of (by decide) rfl (Nat.le_of_ble_eq_true rfl) ?_
  refine J_loc (loc' := [(0, .ref 57), (1, .int pq0)]) [0, 1] rfl ?_
  obtain ⟨k, hk, hk2⟩ : ∃ k : Int32 → Option (Option Value × JH), (∀ r9, k r9 = some (some (.int r9), (g, d))) ∧ (fun r9 : Int32 => (some (some (.int r9), (g, d)) : Option (Option Value × JH))) = k := ⟨_, fun _ => rfl, rfl⟩
  rw [hk2]
  unfold f_X13_refusesHung
  refine J_aload_n (pc := 0) 0 dX13_refusesHung_0 rfl rfl ?_
  refine J_iload_n (pc := 1) 1 dX13_refusesHung_1 rfl rfl ?_
  refine JC_pt_i (J_callV (mi := mi_X13_refusesHung) (mj := mi_X13_isGate) (pc := 2) dX13_refusesHung_2 ml_X13_345 ok_X13_isGate ov_X13_isGate ⟨Nat.le_of_ble_eq_true rfl, Nat.le_of_ble_eq_true rfl⟩ rfl (h0.lt 57 (by decide)) (h0.ty 57 rfl) rfl (s_X13_isGate g d t pq0 h0 ht hla) rfl (Nat.le_of_ble_eq_true rfl)) ?_
  refine K_ifne_b (K := (fun x => Option.bind x k)) (pc := 5) (tgt := 12) dX13_refusesHung_5 (by decide) (fun z5 => ?_) (fun z5 => ?_)
  · refine J_aload_n (pc := 12) 0 dX13_refusesHung_12 rfl rfl ?_
    refine J_getR (pc := 13) dX13_refusesHung_13 fl_X13_17 (h0.lt 57 (by decide)) (h0.ty 57 rfl) rfl (h0.rf 56 rfl) ?_
    refine J_iload_n (pc := 16) 1 dX13_refusesHung_16 rfl rfl ?_
    refine J_guard (fun z17 => ?_)
    refine J_iald (pc := 17) dX13_refusesHung_17 (h0.lt 59 (by decide)) (h0.ty 59 rfl) z17 ?_
    refine K_if_ne (K := (fun x => Option.bind x k)) (pc := 18) (tgt := 25) dX13_refusesHung_18 (by decide) (fun z18 => ?_) (fun z18 => ?_)
    · refine J_aload_n (pc := 25) 0 dX13_refusesHung_25 rfl rfl ?_
      refine J_getR (pc := 26) dX13_refusesHung_26 fl_X13_321 (h0.lt 57 (by decide)) (h0.ty 57 rfl) rfl hla ?_
      refine J_getR (pc := 29) dX13_refusesHung_29 fl_X13_275 (ht.lt 0 (by decide)) (ht.ty 0 rfl) rfl (ht.rf 2 rfl) ?_
      refine J_iload_n (pc := 32) 1 dX13_refusesHung_32 rfl rfl ?_
      refine J_guard (fun z33 => ?_)
      refine J_iald (pc := 33) dX13_refusesHung_33 (ht.lt 3 (by decide)) (ht.ty 3 rfl) z33 ?_
      refine J_iconst (pc := 34) (v := 2) dX13_refusesHung_34 (by decide) ?_
      refine K_icmp_ne (K := (fun x => Option.bind x k)) (pc := 35) (tgt := 43) dX13_refusesHung_35 (by decide) (fun z35 => ?_) (fun z35 => ?_)
      · refine J_iconst (pc := 43) (v := 0) dX13_refusesHung_43 (by decide) ?_
        exact J_eqo (hk 0) (J_iret (pc := 44) dX13_refusesHung_44 rfl)
      · refine J_bipush (pc := 38) (v := 6) dX13_refusesHung_38 (by decide) ?_
        refine J_goto (pc := 40) (tgt := 44) dX13_refusesHung_40 (by decide) ?_
        exact J_eqo (hk 6) (J_iret (pc := 44) dX13_refusesHung_44 rfl)
    · refine J_iconst (pc := 21) (v := 5) dX13_refusesHung_21 (by decide) ?_
      refine J_goto (pc := 22) (tgt := 44) dX13_refusesHung_22 (by decide) ?_
      exact J_eqo (hk 5) (J_iret (pc := 44) dX13_refusesHung_44 rfl)
  · refine J_iconst (pc := 8) (v := 1) dX13_refusesHung_8 (by decide) ?_
    refine J_goto (pc := 9) (tgt := 44) dX13_refusesHung_9 (by decide) ?_
    exact J_eqo (hk 1) (J_iret (pc := 44) dX13_refusesHung_44 rfl)
def f_X13_take (t : Nat) (d : JD) (pq0 : Int32) : Option (Bool × JD) := ((f_X13_refusesHung (d.1 59) ((j_sI d 57 0 0).1 t) ((j_sI d 57 0 0).1 (t + 3)) pq0).bind (fun q7 => if q7 ≤ 0 then ((f_X13_remembers (j_sI d 57 0 0)).bind (fun q22 => if j_out pq0 9 then none else j_let (f_X13_granted (j_sI (j_sI q22 59 pq0.toNatClampNeg 0) 59 6 ((((j_sI q22 59 pq0.toNatClampNeg 0).1 59) 6) + 1))) (fun q44 => some (q44.1, q44.2)))) else (j_let (f_X13_denied (j_sI d 57 0 0) q7) (fun q17 => some (q17.1, q17.2)))))
set_option maxRecDepth 100000 in
set_option maxHeartbeats 4000000 in
theorem s_X13_take (g : JG) (d : JD) (t : Nat) (pq0 : Int32) (h0 : j_sh g 0 TS_W RS_W) (ht : j_sh g t TS_ML RS_ML) (hla : g.2.2.1 57 3 = some t) : JM mi_X13_take 0 0 (g, d) [.ref 57, .int pq0] ((f_X13_take t d pq0).bind (fun r9 => some (some (.int (j_b r9.1)), (g, r9.2)))) := by
  refine JM_of (by decide) rfl (Nat.le_of_ble_eq_true rfl) ?_
  refine J_loc (loc' := [(0, .ref 57), (1, .int pq0)]) [0, 1] rfl ?_
  obtain ⟨k, hk, hk2⟩ : ∃ k : Bool × JD → Option (Option Value × JH), (∀ r9, k r9 = some (some (.int (j_b r9.1)), (g, r9.2))) ∧ (fun r9 : Bool × JD => (some (some (.int (j_b r9.1)), (g, r9.2)) : Option (Option Value × JH))) = k := ⟨_, fun _ => rfl, rfl⟩
  rw [hk2]
  unfold f_X13_take
  refine J_aload_n (pc := 0) 0 dX13_take_0 rfl rfl ?_
  refine J_iconst (pc := 1) (v := 0) dX13_take_1 (by decide) ?_
  refine J_putI (pc := 2) dX13_take_2 fl_X13_42 ft_12_0 (h0.lt 57 (by decide)) (h0.ty 57 rfl) rfl rfl rfl ?_
  refine J_aload_n (pc := 5) 0 dX13_take_5 rfl rfl ?_
  refine J_iload_n (pc := 6) 1 dX13_take_6 rfl rfl ?_
  refine JC_pp_i (J_callV (mi := mi_X13_take) (mj := mi_X13_refusesHung) (pc := 7) dX13_take_7 ml_X13_521 ok_X13_refusesHung ov_X13_refusesHung ⟨Nat.le_of_ble_eq_true rfl, Nat.le_of_ble_eq_true rfl⟩ rfl (h0.lt 57 (by decide)) (h0.ty 57 rfl) rfl (s_X13_refusesHung g (j_sI d 57 0 0) t pq0 h0 ht hla) rfl (Nat.le_of_ble_eq_true rfl)) (fun q7 => ?_)
  refine J_istore_n (pc := 10) (loc' := [(2, .int q7), (0, .ref 57), (1, .int pq0)]) dX13_take_10 rfl (by decide) rfl ?_
  refine J_iload_n (pc := 11) 0 dX13_take_11 rfl rfl ?_
  refine K_if_le (K := (fun x => Option.bind x k)) (pc := 12) (tgt := 21) dX13_take_12 (by decide) (fun z12 => ?_) (fun z12 => ?_)
  · refine J_aload_n (pc := 21) 1 dX13_take_21 rfl rfl ?_
    refine JC_pe_v (J_callV (mi := mi_X13_take) (mj := mi_X13_remembers) (pc := 22) dX13_take_22 ml_X13_515 ok_X13_remembers ov_X13_remembers ⟨Nat.le_of_ble_eq_true rfl, Nat.le_of_ble_eq_true rfl⟩ rfl (h0.lt 57 (by decide)) (h0.ty 57 rfl) rfl (s_X13_remembers g (j_sI d 57 0 0) h0) rfl (Nat.le_of_ble_eq_true rfl)) (fun q22 => ?_)
    refine J_aload_n (pc := 25) 1 dX13_take_25 rfl rfl ?_
    refine J_getR (pc := 26) dX13_take_26 fl_X13_17 (h0.lt 57 (by decide)) (h0.ty 57 rfl) rfl (h0.rf 56 rfl) ?_
    refine J_iload_n (pc := 29) 2 dX13_take_29 rfl rfl ?_
    refine J_iconst (pc := 30) (v := 0) dX13_take_30 (by decide) ?_
    refine J_guard (fun z31 => ?_)
    refine J_iast (pc := 31) dX13_take_31 (h0.lt 59 (by decide)) (h0.ty 59 rfl) z31 ?_
    refine J_aload_n (pc := 32) 1 dX13_take_32 rfl rfl ?_
    refine J_getR (pc := 33) dX13_take_33 fl_X13_17 (h0.lt 57 (by decide)) (h0.ty 57 rfl) rfl (h0.rf 56 rfl) ?_
    refine J_bipush (pc := 36) (v := 6) dX13_take_36 (by decide) ?_
    refine J_dup2 (pc := 38) dX13_take_38 rfl rfl ?_
    refine J_iald (pc := 39) dX13_take_39 (h0.lt 59 (by decide)) (h0.ty 59 rfl) (show vp_in _ _ from by unfold vp_in; decide) ?_
    refine J_val (y := ((j_sI q22 59 pq0.toNatClampNeg 0).1 59) 6) rfl ?_
    refine J_iconst (pc := 40) (v := 1) dX13_take_40 (by decide) ?_
    refine J_iadd (pc := 41) dX13_take_41 ?_
    refine J_iast (pc := 42) dX13_take_42 (h0.lt 59 (by decide)) (h0.ty 59 rfl) (show vp_in _ _ from by unfold vp_in; decide) ?_
    refine J_heap (h1 := (g, j_sI (j_sI q22 59 pq0.toNatClampNeg 0) 59 6 ((((j_sI q22 59 pq0.toNatClampNeg 0).1 59) 6) + 1))) rfl ?_
    refine J_aload_n (pc := 43) 1 dX13_take_43 rfl rfl ?_
    refine JC_lt_b (K := (fun x => Option.bind x k)) (J_callV (mi := mi_X13_take) (mj := mi_X13_granted) (pc := 44) dX13_take_44 ml_X13_518 ok_X13_granted ov_X13_granted ⟨Nat.le_of_ble_eq_true rfl, Nat.le_of_ble_eq_true rfl⟩ rfl (h0.lt 57 (by decide)) (h0.ty 57 rfl) rfl (s_X13_granted g (j_sI (j_sI q22 59 pq0.toNatClampNeg 0) 59 6 ((((j_sI q22 59 pq0.toNatClampNeg 0).1 59) 6) + 1)) h0) rfl (Nat.le_of_ble_eq_true rfl)) (fun q44 eq44 => ?_)
    exact J_eqo (hk (q44.1, q44.2)) (J_zretB (pc := 47) dX13_take_47 rfl)
  · refine J_aload_n (pc := 15) 1 dX13_take_15 rfl rfl ?_
    refine J_iload_n (pc := 16) 0 dX13_take_16 rfl rfl ?_
    refine JC_lt_b (K := (fun x => Option.bind x k)) (J_callV (mi := mi_X13_take) (mj := mi_X13_denied) (pc := 17) dX13_take_17 ml_X13_512 ok_X13_denied ov_X13_denied ⟨Nat.le_of_ble_eq_true rfl, Nat.le_of_ble_eq_true rfl⟩ rfl (h0.lt 57 (by decide)) (h0.ty 57 rfl) rfl (s_X13_denied g (j_sI d 57 0 0) q7 h0) rfl (Nat.le_of_ble_eq_true rfl)) (fun q17 eq17 => ?_)
    exact J_eqo (hk (q17.1, q17.2)) (J_zretB (pc := 20) dX13_take_20 rfl)
def f_X13_turnOver (t : Nat) (d : JD) (pq0 : Int32) : Option (Int32 × JD) := ((f_X13_refusesHung (d.1 59) ((j_sI d 57 0 0).1 t) ((j_sI d 57 0 0).1 (t + 3)) pq0).bind (fun q7 => if q7 ≤ 0 then ((f_X13_remembers (j_sI d 57 0 0)).bind (fun q22 => if j_out pq0 9 then none else if j_out pq0 9 then none else if j_out pq0 9 then none else j_let (f_X13_good (j_sI q22 59 pq0.toNatClampNeg ((3 : Int32) - ((q22.1 59) pq0.toNatClampNeg))) (((j_sI q22 59 pq0.toNatClampNeg ((3 : Int32) - ((q22.1 59) pq0.toNatClampNeg))).1 59) pq0.toNatClampNeg)) (fun q46 => some (q46.1, q46.2)))) else (j_let (f_X13_refused (j_sI d 57 0 0) q7) (fun q17 => some (q17.1, q17.2)))))
set_option maxRecDepth 100000 in
set_option maxHeartbeats 4000000 in
theorem s_X13_turnOver (g : JG) (d : JD) (t : Nat) (pq0 : Int32) (h0 : j_sh g 0 TS_W RS_W) (ht : j_sh g t TS_ML RS_ML) (hla : g.2.2.1 57 3 = some t) : JM mi_X13_turnOver 0 0 (g, d) [.ref 57, .int pq0] ((f_X13_turnOver t d pq0).bind (fun r9 => some (some (.int r9.1), (g, r9.2)))) := by
  refine JM_of (by decide) rfl (Nat.le_of_ble_eq_true rfl) ?_
  refine J_loc (loc' := [(0, .ref 57), (1, .int pq0)]) [0, 1] rfl ?_
  obtain ⟨k, hk, hk2⟩ : ∃ k : Int32 × JD → Option (Option Value × JH), (∀ r9, k r9 = some (some (.int r9.1), (g, r9.2))) ∧ (fun r9 : Int32 × JD => (some (some (.int r9.1), (g, r9.2)) : Option (Option Value × JH))) = k := ⟨_, fun _ => rfl, rfl⟩
  rw [hk2]
  unfold f_X13_turnOver
  refine J_aload_n (pc := 0) 0 dX13_turnOver_0 rfl rfl ?_
  refine J_iconst (pc := 1) (v := 0) dX13_turnOver_1 (by decide) ?_
  refine J_putI (pc := 2) dX13_turnOver_2 fl_X13_42 ft_12_0 (h0.lt 57 (by decide)) (h0.ty 57 rfl) rfl rfl rfl ?_
  refine J_aload_n (pc := 5) 0 dX13_turnOver_5 rfl rfl ?_
  refine J_iload_n (pc := 6) 1 dX13_turnOver_6 rfl rfl ?_
  refine JC_pp_i (J_callV (mi := mi_X13_turnOver) (mj := mi_X13_refusesHung) (pc := 7) dX13_turnOver_7 ml_X13_521 ok_X13_refusesHung ov_X13_refusesHung ⟨Nat.le_of_ble_eq_true rfl, Nat.le_of_ble_eq_true rfl⟩ rfl (h0.lt 57 (by decide)) (h0.ty 57 rfl) rfl (s_X13_refusesHung g (j_sI d 57 0 0) t pq0 h0 ht hla) rfl (Nat.le_of_ble_eq_true rfl)) (fun q7 => ?_)
  refine J_istore_n (pc := 10) (loc' := [(2, .int q7), (0, .ref 57), (1, .int pq0)]) dX13_turnOver_10 rfl (by decide) rfl ?_
  refine J_iload_n (pc := 11) 0 dX13_turnOver_11 rfl rfl ?_
  refine K_if_le (K := (fun x => Option.bind x k)) (pc := 12) (tgt := 21) dX13_turnOver_12 (by decide) (fun z12 => ?_) (fun z12 => ?_)
  · refine J_aload_n (pc := 21) 1 dX13_turnOver_21 rfl rfl ?_
    refine JC_pe_v (J_callV (mi := mi_X13_turnOver) (mj := mi_X13_remembers) (pc := 22) dX13_turnOver_22 ml_X13_515 ok_X13_remembers ov_X13_remembers ⟨Nat.le_of_ble_eq_true rfl, Nat.le_of_ble_eq_true rfl⟩ rfl (h0.lt 57 (by decide)) (h0.ty 57 rfl) rfl (s_X13_remembers g (j_sI d 57 0 0) h0) rfl (Nat.le_of_ble_eq_true rfl)) (fun q22 => ?_)
    refine J_aload_n (pc := 25) 1 dX13_turnOver_25 rfl rfl ?_
    refine J_getR (pc := 26) dX13_turnOver_26 fl_X13_17 (h0.lt 57 (by decide)) (h0.ty 57 rfl) rfl (h0.rf 56 rfl) ?_
    refine J_iload_n (pc := 29) 2 dX13_turnOver_29 rfl rfl ?_
    refine J_iconst (pc := 30) (v := 3) dX13_turnOver_30 (by decide) ?_
    refine J_aload_n (pc := 31) 1 dX13_turnOver_31 rfl rfl ?_
    refine J_getR (pc := 32) dX13_turnOver_32 fl_X13_17 (h0.lt 57 (by decide)) (h0.ty 57 rfl) rfl (h0.rf 56 rfl) ?_
    refine J_iload_n (pc := 35) 2 dX13_turnOver_35 rfl rfl ?_
    refine J_guard (fun z36 => ?_)
    refine J_iald (pc := 36) dX13_turnOver_36 (h0.lt 59 (by decide)) (h0.ty 59 rfl) z36 ?_
    refine J_isub (pc := 37) dX13_turnOver_37 ?_
    refine J_guard (fun z38 => ?_)
    refine J_iast (pc := 38) dX13_turnOver_38 (h0.lt 59 (by decide)) (h0.ty 59 rfl) z38 ?_
    refine J_aload_n (pc := 39) 1 dX13_turnOver_39 rfl rfl ?_
    refine J_aload_n (pc := 40) 1 dX13_turnOver_40 rfl rfl ?_
    refine J_getR (pc := 41) dX13_turnOver_41 fl_X13_17 (h0.lt 57 (by decide)) (h0.ty 57 rfl) rfl (h0.rf 56 rfl) ?_
    refine J_iload_n (pc := 44) 2 dX13_turnOver_44 rfl rfl ?_
    refine J_guard (fun z45 => ?_)
    refine J_iald (pc := 45) dX13_turnOver_45 (h0.lt 59 (by decide)) (h0.ty 59 rfl) z45 ?_
    refine JC_lt_i (K := (fun x => Option.bind x k)) (J_callV (mi := mi_X13_turnOver) (mj := mi_X13_good) (pc := 46) dX13_turnOver_46 ml_X13_52 ok_X13_good ov_X13_good ⟨Nat.le_of_ble_eq_true rfl, Nat.le_of_ble_eq_true rfl⟩ rfl (h0.lt 57 (by decide)) (h0.ty 57 rfl) rfl (s_X13_good g (j_sI q22 59 pq0.toNatClampNeg ((3 : Int32) - ((q22.1 59) pq0.toNatClampNeg))) (((j_sI q22 59 pq0.toNatClampNeg ((3 : Int32) - ((q22.1 59) pq0.toNatClampNeg))).1 59) pq0.toNatClampNeg) h0) rfl (Nat.le_of_ble_eq_true rfl)) (fun q46 eq46 => ?_)
    exact J_eqo (hk (q46.1, q46.2)) (J_iret (pc := 49) dX13_turnOver_49 rfl)
  · refine J_aload_n (pc := 15) 1 dX13_turnOver_15 rfl rfl ?_
    refine J_iload_n (pc := 16) 0 dX13_turnOver_16 rfl rfl ?_
    refine JC_lt_i (K := (fun x => Option.bind x k)) (J_callV (mi := mi_X13_turnOver) (mj := mi_X13_refused) (pc := 17) dX13_turnOver_17 ml_X13_48 ok_X13_refused ov_X13_refused ⟨Nat.le_of_ble_eq_true rfl, Nat.le_of_ble_eq_true rfl⟩ rfl (h0.lt 57 (by decide)) (h0.ty 57 rfl) rfl (s_X13_refused g (j_sI d 57 0 0) q7 h0) rfl (Nat.le_of_ble_eq_true rfl)) (fun q17 eq17 => ?_)
    exact J_eqo (hk (q17.1, q17.2)) (J_iret (pc := 20) dX13_turnOver_20 rfl)
def f_X13_gust_w63 (t : Nat) (c1_63 : Int32) (s63 : Int32 × JD) : Option ((Int32 × JD) ⊕ (JD)) := (if ((s63.2.1 t) 4) ≤ s63.1 then some (.inr s63.2) else (if j_out s63.1 6 then none else if j_out s63.1 9 then none else some (.inl (s63.1 + 1, j_sI s63.2 59 s63.1.toNatClampNeg ((s63.2.1 60) s63.1.toNatClampNeg)))))
def f_X13_gust (t : Nat) (d : JD) : Option (Int32 × JD) := (if ((d.1 59) 7) = 999 then (j_let (f_X13_refused (j_sI d 57 0 0) 3) (fun q33 => some (q33.1, q33.2))) else ((f_X13_remembers (j_sI d 57 0 0)).bind (fun q38 => (f_X13_works q38).bind (fun q42 => (f_X13_aYear t (j_sI q42 57 29 ((q42.1 59) 8))).bind (fun q57 => (j_wh (f_X13_gust_w63 t q57.1 ) j_fuel (0, q57.2)).bind (fun (e63 : JD) => (j_let (f_X13_good (j_sI (j_sI (j_sI e63 59 6 (((e63.1 59) 6) + q57.1)) 59 7 (((e63.1 59) 7) + 1)) 59 8 ((e63.1 57) 29)) q57.1) (fun q127 => some (q127.1, q127.2)))))))))
set_option maxRecDepth 100000 in
set_option maxHeartbeats 4000000 in
theorem s_X13_gust (g : JG) (d : JD) (t : Nat) (h0 : j_sh g 0 TS_W RS_W) (ht : j_sh g t TS_ML RS_ML) (hla : g.2.2.1 57 3 = some t) : JM mi_X13_gust 0 0 (g, d) [.ref 57] ((f_X13_gust t d ).bind (fun r9 => some (some (.int r9.1), (g, r9.2)))) := by
  refine JM_of (by decide) rfl (Nat.le_of_ble_eq_true rfl) ?_
  refine J_loc (loc' := [(0, .ref 57)]) [0] rfl ?_
  obtain ⟨k, hk, hk2⟩ : ∃ k : Int32 × JD → Option (Option Value × JH), (∀ r9, k r9 = some (some (.int r9.1), (g, r9.2))) ∧ (fun r9 : Int32 × JD => (some (some (.int r9.1), (g, r9.2)) : Option (Option Value × JH))) = k := ⟨_, fun _ => rfl, rfl⟩
  rw [hk2]
  unfold f_X13_gust
  refine J_aload_n (pc := 0) 0 dX13_gust_0 rfl rfl ?_
  refine J_iconst (pc := 1) (v := 0) dX13_gust_1 (by decide) ?_
  refine J_putI (pc := 2) dX13_gust_2 fl_X13_42 ft_12_0 (h0.lt 57 (by decide)) (h0.ty 57 rfl) rfl rfl rfl ?_
  refine J_aload_n (pc := 5) 0 dX13_gust_5 rfl rfl ?_
  refine J_getR (pc := 6) dX13_gust_6 fl_X13_321 (h0.lt 57 (by decide)) (h0.ty 57 rfl) rfl hla ?_
  refine J_ifnonnull (pc := 9) (tgt := 18) dX13_gust_9 (by decide) ?_
  refine J_aload_n (pc := 18) 0 dX13_gust_18 rfl rfl ?_
  refine J_getR (pc := 19) dX13_gust_19 fl_X13_17 (h0.lt 57 (by decide)) (h0.ty 57 rfl) rfl (h0.rf 56 rfl) ?_
  refine J_bipush (pc := 22) (v := 7) dX13_gust_22 (by decide) ?_
  refine J_iald (pc := 24) dX13_gust_24 (h0.lt 59 (by decide)) (h0.ty 59 rfl) (show vp_in _ _ from by unfold vp_in; decide) ?_
  refine J_val (y := (d.1 59) 7) rfl ?_
  refine J_sipush (pc := 25) (v := 999) dX13_gust_25 (by decide) ?_
  refine K_icmp_ne (K := (fun x => Option.bind x k)) (pc := 28) (tgt := 37) dX13_gust_28 (by decide) (fun z28 => ?_) (fun z28 => ?_)
  · refine J_aload_n (pc := 37) 0 dX13_gust_37 rfl rfl ?_
    refine JC_pe_v (J_callV (mi := mi_X13_gust) (mj := mi_X13_remembers) (pc := 38) dX13_gust_38 ml_X13_515 ok_X13_remembers ov_X13_remembers ⟨Nat.le_of_ble_eq_true rfl, Nat.le_of_ble_eq_true rfl⟩ rfl (h0.lt 57 (by decide)) (h0.ty 57 rfl) rfl (s_X13_remembers g (j_sI d 57 0 0) h0) rfl (Nat.le_of_ble_eq_true rfl)) (fun q38 => ?_)
    refine J_aload_n (pc := 41) 0 dX13_gust_41 rfl rfl ?_
    refine JC_pe_v (J_callV (mi := mi_X13_gust) (mj := mi_X13_works) (pc := 42) dX13_gust_42 ml_X13_348 ok_X13_works ov_X13_works ⟨Nat.le_of_ble_eq_true rfl, Nat.le_of_ble_eq_true rfl⟩ rfl (h0.lt 57 (by decide)) (h0.ty 57 rfl) rfl (s_X13_works g q38 h0) rfl (Nat.le_of_ble_eq_true rfl)) (fun q42 => ?_)
    refine J_aload_n (pc := 45) 0 dX13_gust_45 rfl rfl ?_
    refine J_aload_n (pc := 46) 0 dX13_gust_46 rfl rfl ?_
    refine J_getR (pc := 47) dX13_gust_47 fl_X13_17 (h0.lt 57 (by decide)) (h0.ty 57 rfl) rfl (h0.rf 56 rfl) ?_
    refine J_bipush (pc := 50) (v := 8) dX13_gust_50 (by decide) ?_
    refine J_iald (pc := 52) dX13_gust_52 (h0.lt 59 (by decide)) (h0.ty 59 rfl) (show vp_in _ _ from by unfold vp_in; decide) ?_
    refine J_val (y := (q42.1 59) 8) rfl ?_
    refine J_putI (pc := 53) dX13_gust_53 fl_X13_494 ft_12_29 (h0.lt 57 (by decide)) (h0.ty 57 rfl) rfl rfl rfl ?_
    refine J_aload_n (pc := 56) 0 dX13_gust_56 rfl rfl ?_
    refine JC_pe_i (J_callV (mi := mi_X13_gust) (mj := mi_X13_aYear) (pc := 57) dX13_gust_57 ml_X13_506 ok_X13_aYear ov_X13_aYear ⟨Nat.le_of_ble_eq_true rfl, Nat.le_of_ble_eq_true rfl⟩ rfl (h0.lt 57 (by decide)) (h0.ty 57 rfl) rfl (s_X13_aYear g (j_sI q42 57 29 ((q42.1 59) 8)) t h0 ht hla) rfl (Nat.le_of_ble_eq_true rfl)) (fun q57 => ?_)
    refine J_istore_n (pc := 60) (loc' := [(1, .int q57.1), (0, .ref 57)]) dX13_gust_60 rfl (by decide) rfl ?_
    refine J_iconst (pc := 61) (v := 0) dX13_gust_61 (by decide) ?_
    refine J_istore_n (pc := 62) (loc' := [(2, .int 0), (1, .int q57.1), (0, .ref 57)]) dX13_gust_62 rfl (by decide) rfl ?_
    refine J_loc (loc' := [(0, .ref 57), (1, .int q57.1), (2, .int 0)]) [2, 1, 0] rfl ?_
    refine J_whL (F := f_X13_gust_w63 t q57.1 ) (hp := fun (s63 : Int32 × JD) => (g, s63.2)) (lc := fun (s63 : Int32 × JD) => [(0, .ref 57), (1, .int (q57.1)), (2, .int s63.1)]) (XJ := fun (e63 : JD) o9 => J mi_X13_gust 0 0 0 0 (g, e63) 92 [(0, .ref 57), (1, .int q57.1)] [] o9) (fun s63 k63 hB63 hX63 => ?_) (fun e63 => ?_) _ (0, q57.2)
    · show J mi_X13_gust 0 0 0 0 (g, s63.2) 63 [(0, .ref 57), (1, .int (q57.1)), (2, .int s63.1)] [] ((f_X13_gust_w63 t q57.1 s63).bind k63)
      unfold f_X13_gust_w63
      refine J_iload_n (pc := 63) 2 dX13_gust_63 rfl rfl ?_
      refine J_aload_n (pc := 64) 0 dX13_gust_64 rfl rfl ?_
      refine J_getR (pc := 65) dX13_gust_65 fl_X13_321 (h0.lt 57 (by decide)) (h0.ty 57 rfl) rfl hla ?_
      refine J_getI (pc := 68) dX13_gust_68 fl_X13_191 (ht.lt 0 (by decide)) (ht.ty 0 rfl) rfl ?_
      refine K_icmp_ge (K := (fun x => Option.bind x k63)) (pc := 71) (tgt := 92) dX13_gust_71 (by decide) (fun z71 => ?_) (fun z71 => ?_)
      · refine J_loc (loc' := [(0, .ref 57), (1, .int (q57.1))]) [0, 1] rfl ?_
        exact hX63 s63.2
      · refine J_aload_n (pc := 74) 0 dX13_gust_74 rfl rfl ?_
        refine J_getR (pc := 75) dX13_gust_75 fl_X13_17 (h0.lt 57 (by decide)) (h0.ty 57 rfl) rfl (h0.rf 56 rfl) ?_
        refine J_iload_n (pc := 78) 2 dX13_gust_78 rfl rfl ?_
        refine J_aload_n (pc := 79) 0 dX13_gust_79 rfl rfl ?_
        refine J_getR (pc := 80) dX13_gust_80 fl_X13_21 (h0.lt 57 (by decide)) (h0.ty 57 rfl) rfl (h0.rf 57 rfl) ?_
        refine J_iload_n (pc := 83) 2 dX13_gust_83 rfl rfl ?_
        refine J_guard (fun z84 => ?_)
        refine J_iald (pc := 84) dX13_gust_84 (h0.lt 60 (by decide)) (h0.ty 60 rfl) z84 ?_
        refine J_guard (fun z85 => ?_)
        refine J_iast (pc := 85) dX13_gust_85 (h0.lt 59 (by decide)) (h0.ty 59 rfl) z85 ?_
        refine J_iinc (pc := 86) (v := s63.1 + 1) (loc' := [(2, .int (s63.1 + 1)), (0, .ref 57), (1, .int (q57.1))]) 2 dX13_gust_86 rfl rfl (by decide) rfl ?_
        refine J_goto (pc := 89) (tgt := 63) dX13_gust_89 (by decide) ?_
        refine J_loc (loc' := [(0, .ref 57), (1, .int (q57.1)), (2, .int (s63.1 + 1))]) [1, 2, 0] rfl ?_
        exact hB63 (s63.1 + 1, j_sI s63.2 59 s63.1.toNatClampNeg ((s63.2.1 60) s63.1.toNatClampNeg))
    · show J mi_X13_gust 0 0 0 0 (g, e63) 92 [(0, .ref 57), (1, .int q57.1)] [] (_)
      refine J_aload_n (pc := 92) 0 dX13_gust_92 rfl rfl ?_
      refine J_getR (pc := 93) dX13_gust_93 fl_X13_17 (h0.lt 57 (by decide)) (h0.ty 57 rfl) rfl (h0.rf 56 rfl) ?_
      refine J_bipush (pc := 96) (v := 6) dX13_gust_96 (by decide) ?_
      refine J_dup2 (pc := 98) dX13_gust_98 rfl rfl ?_
      refine J_iald (pc := 99) dX13_gust_99 (h0.lt 59 (by decide)) (h0.ty 59 rfl) (show vp_in _ _ from by unfold vp_in; decide) ?_
      refine J_val (y := (e63.1 59) 6) rfl ?_
      refine J_iload_n (pc := 100) 1 dX13_gust_100 rfl rfl ?_
      refine J_iadd (pc := 101) dX13_gust_101 ?_
      refine J_iast (pc := 102) dX13_gust_102 (h0.lt 59 (by decide)) (h0.ty 59 rfl) (show vp_in _ _ from by unfold vp_in; decide) ?_
      refine J_heap (h1 := (g, j_sI e63 59 6 (((e63.1 59) 6) + q57.1))) rfl ?_
      refine J_aload_n (pc := 103) 0 dX13_gust_103 rfl rfl ?_
      refine J_getR (pc := 104) dX13_gust_104 fl_X13_17 (h0.lt 57 (by decide)) (h0.ty 57 rfl) rfl (h0.rf 56 rfl) ?_
      refine J_bipush (pc := 107) (v := 7) dX13_gust_107 (by decide) ?_
      refine J_dup2 (pc := 109) dX13_gust_109 rfl rfl ?_
      refine J_iald (pc := 110) dX13_gust_110 (h0.lt 59 (by decide)) (h0.ty 59 rfl) (show vp_in _ _ from by unfold vp_in; decide) ?_
      refine J_val (y := (e63.1 59) 7) rfl ?_
      refine J_iconst (pc := 111) (v := 1) dX13_gust_111 (by decide) ?_
      refine J_iadd (pc := 112) dX13_gust_112 ?_
      refine J_iast (pc := 113) dX13_gust_113 (h0.lt 59 (by decide)) (h0.ty 59 rfl) (show vp_in _ _ from by unfold vp_in; decide) ?_
      refine J_heap (h1 := (g, j_sI (j_sI e63 59 6 (((e63.1 59) 6) + q57.1)) 59 7 (((e63.1 59) 7) + 1))) rfl ?_
      refine J_aload_n (pc := 114) 0 dX13_gust_114 rfl rfl ?_
      refine J_getR (pc := 115) dX13_gust_115 fl_X13_17 (h0.lt 57 (by decide)) (h0.ty 57 rfl) rfl (h0.rf 56 rfl) ?_
      refine J_bipush (pc := 118) (v := 8) dX13_gust_118 (by decide) ?_
      refine J_aload_n (pc := 120) 0 dX13_gust_120 rfl rfl ?_
      refine J_getI (pc := 121) dX13_gust_121 fl_X13_494 (h0.lt 57 (by decide)) (h0.ty 57 rfl) rfl ?_
      refine J_val (y := (e63.1 57) 29) rfl ?_
      refine J_iast (pc := 124) dX13_gust_124 (h0.lt 59 (by decide)) (h0.ty 59 rfl) (show vp_in _ _ from by unfold vp_in; decide) ?_
      refine J_heap (h1 := (g, j_sI (j_sI (j_sI e63 59 6 (((e63.1 59) 6) + q57.1)) 59 7 (((e63.1 59) 7) + 1)) 59 8 ((e63.1 57) 29))) rfl ?_
      refine J_aload_n (pc := 125) 0 dX13_gust_125 rfl rfl ?_
      refine J_iload_n (pc := 126) 1 dX13_gust_126 rfl rfl ?_
      refine JC_lt_i (K := (fun x => Option.bind x k)) (J_callV (mi := mi_X13_gust) (mj := mi_X13_good) (pc := 127) dX13_gust_127 ml_X13_52 ok_X13_good ov_X13_good ⟨Nat.le_of_ble_eq_true rfl, Nat.le_of_ble_eq_true rfl⟩ rfl (h0.lt 57 (by decide)) (h0.ty 57 rfl) rfl (s_X13_good g (j_sI (j_sI (j_sI e63 59 6 (((e63.1 59) 6) + q57.1)) 59 7 (((e63.1 59) 7) + 1)) 59 8 ((e63.1 57) 29)) q57.1 h0) rfl (Nat.le_of_ble_eq_true rfl)) (fun q127 eq127 => ?_)
      exact J_eqo (hk (q127.1, q127.2)) (J_iret (pc := 130) dX13_gust_130 rfl)
  · refine J_aload_n (pc := 31) 0 dX13_gust_31 rfl rfl ?_
    refine J_iconst (pc := 32) (v := 3) dX13_gust_32 (by decide) ?_
    refine JC_lt_i (K := (fun x => Option.bind x k)) (J_callV (mi := mi_X13_gust) (mj := mi_X13_refused) (pc := 33) dX13_gust_33 ml_X13_48 ok_X13_refused ov_X13_refused ⟨Nat.le_of_ble_eq_true rfl, Nat.le_of_ble_eq_true rfl⟩ rfl (h0.lt 57 (by decide)) (h0.ty 57 rfl) rfl (s_X13_refused g (j_sI d 57 0 0) 3 h0) rfl (Nat.le_of_ble_eq_true rfl)) (fun q33 eq33 => ?_)
    exact J_eqo (hk (q33.1, q33.2)) (J_iret (pc := 36) dX13_gust_36 rfl)
def f_X13_seed (t : Nat) (d : JD) (pq0 : Int32) : Bool × JD := (if (f_X13_in pq0 0 65536) = true then (j_let (f_X13_granted (j_sI (j_sI d 57 0 0) 59 8 pq0)) (fun q44 => (q44.1, q44.2))) else (j_let (f_X13_denied (j_sI d 57 0 0) 2) (fun q31 => (q31.1, q31.2))))
set_option maxRecDepth 100000 in
set_option maxHeartbeats 4000000 in
theorem s_X13_seed (g : JG) (d : JD) (t : Nat) (pq0 : Int32) (h0 : j_sh g 0 TS_W RS_W) (ht : j_sh g t TS_ML RS_ML) (hla : g.2.2.1 57 3 = some t) : JM mi_X13_seed 0 0 (g, d) [.ref 57, .int pq0] (some (some (.int (j_b (f_X13_seed t d pq0).1)), (g, (f_X13_seed t d pq0).2))) := by
  refine JM_of (by decide) rfl (Nat.le_of_ble_eq_true rfl) ?_
  refine J_loc (loc' := [(0, .ref 57), (1, .int pq0)]) [0, 1] rfl ?_
  obtain ⟨k, hk⟩ : ∃ k : Bool × JD → Option (Option Value × JH), ∀ r9, k r9 = some (some (.int (j_b r9.1)), (g, r9.2)) := ⟨_, fun _ => rfl⟩
  refine J_eqo (hk (f_X13_seed t d pq0)).symm ?_
  unfold f_X13_seed
  refine J_aload_n (pc := 0) 0 dX13_seed_0 rfl rfl ?_
  refine J_iconst (pc := 1) (v := 0) dX13_seed_1 (by decide) ?_
  refine J_putI (pc := 2) dX13_seed_2 fl_X13_42 ft_12_0 (h0.lt 57 (by decide)) (h0.ty 57 rfl) rfl rfl rfl ?_
  refine J_aload_n (pc := 5) 0 dX13_seed_5 rfl rfl ?_
  refine J_getR (pc := 6) dX13_seed_6 fl_X13_321 (h0.lt 57 (by decide)) (h0.ty 57 rfl) rfl hla ?_
  refine J_ifnonnull (pc := 9) (tgt := 18) dX13_seed_9 (by decide) ?_
  refine J_iload_n (pc := 18) 1 dX13_seed_18 rfl rfl ?_
  refine J_iconst (pc := 19) (v := 0) dX13_seed_19 (by decide) ?_
  refine J_ldcw (pc := 20) (v := 65536) dX13_seed_20 cn_X13_501 ?_
  refine JC_pt_i (J_callS (mi := mi_X13_seed) (mj := mi_X13_in) (pc := 23) dX13_seed_23 ml_X13_121 ok_X13_in os_X13_in ⟨Nat.le_of_ble_eq_true rfl, Nat.le_of_ble_eq_true rfl⟩ rfl (s_X13_in g (j_sI d 57 0 0) pq0 0 65536) rfl (Nat.le_of_ble_eq_true rfl)) ?_
  refine K_ifne_b (K := k) (pc := 26) (tgt := 35) dX13_seed_26 (by decide) (fun z26 => ?_) (fun z26 => ?_)
  · refine J_aload_n (pc := 35) 0 dX13_seed_35 rfl rfl ?_
    refine J_getR (pc := 36) dX13_seed_36 fl_X13_17 (h0.lt 57 (by decide)) (h0.ty 57 rfl) rfl (h0.rf 56 rfl) ?_
    refine J_bipush (pc := 39) (v := 8) dX13_seed_39 (by decide) ?_
    refine J_iload_n (pc := 41) 1 dX13_seed_41 rfl rfl ?_
    refine J_iast (pc := 42) dX13_seed_42 (h0.lt 59 (by decide)) (h0.ty 59 rfl) (show vp_in _ _ from by unfold vp_in; decide) ?_
    refine J_heap (h1 := (g, j_sI (j_sI d 57 0 0) 59 8 pq0)) rfl ?_
    refine J_aload_n (pc := 43) 0 dX13_seed_43 rfl rfl ?_
    refine JC_lt_b (K := k) (J_callV (mi := mi_X13_seed) (mj := mi_X13_granted) (pc := 44) dX13_seed_44 ml_X13_518 ok_X13_granted ov_X13_granted ⟨Nat.le_of_ble_eq_true rfl, Nat.le_of_ble_eq_true rfl⟩ rfl (h0.lt 57 (by decide)) (h0.ty 57 rfl) rfl (s_X13_granted g (j_sI (j_sI d 57 0 0) 59 8 pq0) h0) rfl (Nat.le_of_ble_eq_true rfl)) (fun q44 eq44 => ?_)
    exact J_eqo (hk (q44.1, q44.2)) (J_zretB (pc := 47) dX13_seed_47 rfl)
  · refine J_aload_n (pc := 29) 0 dX13_seed_29 rfl rfl ?_
    refine J_iconst (pc := 30) (v := 2) dX13_seed_30 (by decide) ?_
    refine JC_lt_b (K := k) (J_callV (mi := mi_X13_seed) (mj := mi_X13_denied) (pc := 31) dX13_seed_31 ml_X13_512 ok_X13_denied ov_X13_denied ⟨Nat.le_of_ble_eq_true rfl, Nat.le_of_ble_eq_true rfl⟩ rfl (h0.lt 57 (by decide)) (h0.ty 57 rfl) rfl (s_X13_denied g (j_sI d 57 0 0) 2 h0) rfl (Nat.le_of_ble_eq_true rfl)) (fun q31 eq31 => ?_)
    exact J_eqo (hk (q31.1, q31.2)) (J_zretB (pc := 34) dX13_seed_34 rfl)
def f_X13_undo_w38 (t : Nat) (s38 : Int32 × JD) : Option ((Int32 × JD) ⊕ (JD)) := (if 9 ≤ s38.1 then some (.inr s38.2) else (if j_out (((9 : Int32) * ((s38.2.1 57) 19)) + s38.1) 144 then none else if j_out s38.1 9 then none else some (.inl (s38.1 + 1, j_sI s38.2 59 s38.1.toNatClampNeg ((s38.2.1 61) ((((9 : Int32) * ((s38.2.1 57) 19)) + s38.1).toNatClampNeg))))))
def f_X13_undo_j19 (t : Nat) (d19 : JD) : Option (Bool × JD) := (j_let (f_X13_denied d19 6) (fun q22 => some (q22.1, q22.2)))
def f_X13_undo (t : Nat) (d : JD) : Option (Bool × JD) := (if ((d.1 57) 19) = 0 then f_X13_undo_j19 t (j_sI d 57 0 0) else ((j_wh (f_X13_undo_w38 t ) j_fuel (0, j_sI (j_sI d 57 0 0) 57 19 (((d.1 57) 19) - 1))).bind (fun (e38 : JD) => (j_let (f_X13_granted e38) (fun q71 => some (q71.1, q71.2))))))
set_option maxRecDepth 100000 in
set_option maxHeartbeats 4000000 in
theorem s_X13_undo (g : JG) (d : JD) (t : Nat) (h0 : j_sh g 0 TS_W RS_W) (ht : j_sh g t TS_ML RS_ML) (hla : g.2.2.1 57 3 = some t) : JM mi_X13_undo 0 0 (g, d) [.ref 57] ((f_X13_undo t d ).bind (fun r9 => some (some (.int (j_b r9.1)), (g, r9.2)))) := by
  refine JM_of (by decide) rfl (Nat.le_of_ble_eq_true rfl) ?_
  refine J_loc (loc' := [(0, .ref 57)]) [0] rfl ?_
  obtain ⟨k, hk, hk2⟩ : ∃ k : Bool × JD → Option (Option Value × JH), (∀ r9, k r9 = some (some (.int (j_b r9.1)), (g, r9.2))) ∧ (fun r9 : Bool × JD => (some (some (.int (j_b r9.1)), (g, r9.2)) : Option (Option Value × JH))) = k := ⟨_, fun _ => rfl, rfl⟩
  rw [hk2]
  unfold f_X13_undo
  have hX13_undo_j19 : ∀ (d19 : JD) , J mi_X13_undo 0 0 0 0 (g, d19) 19 [(0, .ref 57)] [] ((f_X13_undo_j19 t d19 ).bind k) := by
    intro d19 
    unfold f_X13_undo_j19
    refine J_aload_n (pc := 19) 0 dX13_undo_19 rfl rfl ?_
    refine J_bipush (pc := 20) (v := 6) dX13_undo_20 (by decide) ?_
    refine JC_lt_b (K := (fun x => Option.bind x k)) (J_callV (mi := mi_X13_undo) (mj := mi_X13_denied) (pc := 22) dX13_undo_22 ml_X13_512 ok_X13_denied ov_X13_denied ⟨Nat.le_of_ble_eq_true rfl, Nat.le_of_ble_eq_true rfl⟩ rfl (h0.lt 57 (by decide)) (h0.ty 57 rfl) rfl (s_X13_denied g d19 6 h0) rfl (Nat.le_of_ble_eq_true rfl)) (fun q22 eq22 => ?_)
    exact J_eqo (hk (q22.1, q22.2)) (J_zretB (pc := 25) dX13_undo_25 rfl)
  refine J_aload_n (pc := 0) 0 dX13_undo_0 rfl rfl ?_
  refine J_iconst (pc := 1) (v := 0) dX13_undo_1 (by decide) ?_
  refine J_putI (pc := 2) dX13_undo_2 fl_X13_42 ft_12_0 (h0.lt 57 (by decide)) (h0.ty 57 rfl) rfl rfl rfl ?_
  refine J_aload_n (pc := 5) 0 dX13_undo_5 rfl rfl ?_
  refine J_getR (pc := 6) dX13_undo_6 fl_X13_321 (h0.lt 57 (by decide)) (h0.ty 57 rfl) rfl hla ?_
  refine J_ifnull (pc := 9) dX13_undo_9 ?_
  refine J_aload_n (pc := 12) 0 dX13_undo_12 rfl rfl ?_
  refine J_getI (pc := 13) dX13_undo_13 fl_X13_326 (h0.lt 57 (by decide)) (h0.ty 57 rfl) rfl ?_
  refine J_val (y := (d.1 57) 19) rfl ?_
  refine K_if_ne (K := (fun x => Option.bind x k)) (pc := 16) (tgt := 26) dX13_undo_16 (by decide) (fun z16 => ?_) (fun z16 => ?_)
  · refine J_aload_n (pc := 26) 0 dX13_undo_26 rfl rfl ?_
    refine J_dup (pc := 27) dX13_undo_27 rfl ?_
    refine J_getI (pc := 28) dX13_undo_28 fl_X13_326 (h0.lt 57 (by decide)) (h0.ty 57 rfl) rfl ?_
    refine J_val (y := (d.1 57) 19) rfl ?_
    refine J_iconst (pc := 31) (v := 1) dX13_undo_31 (by decide) ?_
    refine J_isub (pc := 32) dX13_undo_32 ?_
    refine J_putI (pc := 33) dX13_undo_33 fl_X13_326 ft_12_19 (h0.lt 57 (by decide)) (h0.ty 57 rfl) rfl rfl rfl ?_
    refine J_iconst (pc := 36) (v := 0) dX13_undo_36 (by decide) ?_
    refine J_istore_n (pc := 37) (loc' := [(1, .int 0), (0, .ref 57)]) dX13_undo_37 rfl (by decide) rfl ?_
    refine J_loc (loc' := [(0, .ref 57), (1, .int 0)]) [1, 0] rfl ?_
    refine J_whL (F := f_X13_undo_w38 t ) (hp := fun (s38 : Int32 × JD) => (g, s38.2)) (lc := fun (s38 : Int32 × JD) => [(0, .ref 57), (1, .int s38.1)]) (XJ := fun (e38 : JD) o9 => J mi_X13_undo 0 0 0 0 (g, e38) 70 [(0, .ref 57)] [] o9) (fun s38 k38 hB38 hX38 => ?_) (fun e38 => ?_) _ (0, j_sI (j_sI d 57 0 0) 57 19 (((d.1 57) 19) - 1))
    · show J mi_X13_undo 0 0 0 0 (g, s38.2) 38 [(0, .ref 57), (1, .int s38.1)] [] ((f_X13_undo_w38 t s38).bind k38)
      unfold f_X13_undo_w38
      refine J_iload_n (pc := 38) 1 dX13_undo_38 rfl rfl ?_
      refine J_bipush (pc := 39) (v := 9) dX13_undo_39 (by decide) ?_
      refine K_icmp_ge (K := (fun x => Option.bind x k38)) (pc := 41) (tgt := 70) dX13_undo_41 (by decide) (fun z41 => ?_) (fun z41 => ?_)
      · refine J_loc (loc' := [(0, .ref 57)]) [0] rfl ?_
        exact hX38 s38.2
      · refine J_aload_n (pc := 44) 0 dX13_undo_44 rfl rfl ?_
        refine J_getR (pc := 45) dX13_undo_45 fl_X13_17 (h0.lt 57 (by decide)) (h0.ty 57 rfl) rfl (h0.rf 56 rfl) ?_
        refine J_iload_n (pc := 48) 1 dX13_undo_48 rfl rfl ?_
        refine J_aload_n (pc := 49) 0 dX13_undo_49 rfl rfl ?_
        refine J_getR (pc := 50) dX13_undo_50 fl_X13_24 (h0.lt 57 (by decide)) (h0.ty 57 rfl) rfl (h0.rf 58 rfl) ?_
        refine J_bipush (pc := 53) (v := 9) dX13_undo_53 (by decide) ?_
        refine J_aload_n (pc := 55) 0 dX13_undo_55 rfl rfl ?_
        refine J_getI (pc := 56) dX13_undo_56 fl_X13_326 (h0.lt 57 (by decide)) (h0.ty 57 rfl) rfl ?_
        refine J_imul (pc := 59) dX13_undo_59 ?_
        refine J_iload_n (pc := 60) 1 dX13_undo_60 rfl rfl ?_
        refine J_iadd (pc := 61) dX13_undo_61 ?_
        refine J_guard (fun z62 => ?_)
        refine J_iald (pc := 62) dX13_undo_62 (h0.lt 61 (by decide)) (h0.ty 61 rfl) z62 ?_
        refine J_guard (fun z63 => ?_)
        refine J_iast (pc := 63) dX13_undo_63 (h0.lt 59 (by decide)) (h0.ty 59 rfl) z63 ?_
        refine J_iinc (pc := 64) (v := s38.1 + 1) (loc' := [(1, .int (s38.1 + 1)), (0, .ref 57)]) 1 dX13_undo_64 rfl rfl (by decide) rfl ?_
        refine J_goto (pc := 67) (tgt := 38) dX13_undo_67 (by decide) ?_
        refine J_loc (loc' := [(0, .ref 57), (1, .int (s38.1 + 1))]) [1, 0] rfl ?_
        exact hB38 (s38.1 + 1, j_sI s38.2 59 s38.1.toNatClampNeg ((s38.2.1 61) ((((9 : Int32) * ((s38.2.1 57) 19)) + s38.1).toNatClampNeg)))
    · show J mi_X13_undo 0 0 0 0 (g, e38) 70 [(0, .ref 57)] [] (_)
      refine J_aload_n (pc := 70) 0 dX13_undo_70 rfl rfl ?_
      refine JC_lt_b (K := (fun x => Option.bind x k)) (J_callV (mi := mi_X13_undo) (mj := mi_X13_granted) (pc := 71) dX13_undo_71 ml_X13_518 ok_X13_granted ov_X13_granted ⟨Nat.le_of_ble_eq_true rfl, Nat.le_of_ble_eq_true rfl⟩ rfl (h0.lt 57 (by decide)) (h0.ty 57 rfl) rfl (s_X13_granted g e38 h0) rfl (Nat.le_of_ble_eq_true rfl)) (fun q71 eq71 => ?_)
      exact J_eqo (hk (q71.1, q71.2)) (J_zretB (pc := 74) dX13_undo_74 rfl)
  · exact hX13_undo_j19 (j_sI d 57 0 0) 
def f_X13_image_w34 (t : Nat) (s34 : Int32 × JD) : Option ((Int32 × JD) ⊕ (JD)) := (if 9 ≤ s34.1 then some (.inr s34.2) else (if j_out s34.1 9 then none else if j_out (((9 : Int32) * ((s34.2.1 57) 20)) + s34.1) 27 then none else some (.inl (s34.1 + 1, j_sI s34.2 62 ((((9 : Int32) * ((s34.2.1 57) 20)) + s34.1).toNatClampNeg) ((s34.2.1 59) s34.1.toNatClampNeg)))))
def f_X13_image (t : Nat) (d : JD) : Option (Int32 × JD) := (if ((d.1 57) 20) = 3 then (j_let (f_X13_refused (j_sI d 57 0 0) 3) (fun q28 => some (q28.1, q28.2))) else ((j_wh (f_X13_image_w34 t ) j_fuel (0, j_sI d 57 0 0)).bind (fun (e34 : JD) => (j_let (f_X13_good (j_sI e34 57 20 (((e34.1 57) 20) + 1)) ((((e34.1 57) 20) + 1) - 1)) (fun q83 => some (q83.1, q83.2))))))
set_option maxRecDepth 100000 in
set_option maxHeartbeats 4000000 in
theorem s_X13_image (g : JG) (d : JD) (t : Nat) (h0 : j_sh g 0 TS_W RS_W) (ht : j_sh g t TS_ML RS_ML) (hla : g.2.2.1 57 3 = some t) : JM mi_X13_image 0 0 (g, d) [.ref 57] ((f_X13_image t d ).bind (fun r9 => some (some (.int r9.1), (g, r9.2)))) := by
  refine JM_of (by decide) rfl (Nat.le_of_ble_eq_true rfl) ?_
  refine J_loc (loc' := [(0, .ref 57)]) [0] rfl ?_
  obtain ⟨k, hk, hk2⟩ : ∃ k : Int32 × JD → Option (Option Value × JH), (∀ r9, k r9 = some (some (.int r9.1), (g, r9.2))) ∧ (fun r9 : Int32 × JD => (some (some (.int r9.1), (g, r9.2)) : Option (Option Value × JH))) = k := ⟨_, fun _ => rfl, rfl⟩
  rw [hk2]
  unfold f_X13_image
  refine J_aload_n (pc := 0) 0 dX13_image_0 rfl rfl ?_
  refine J_iconst (pc := 1) (v := 0) dX13_image_1 (by decide) ?_
  refine J_putI (pc := 2) dX13_image_2 fl_X13_42 ft_12_0 (h0.lt 57 (by decide)) (h0.ty 57 rfl) rfl rfl rfl ?_
  refine J_aload_n (pc := 5) 0 dX13_image_5 rfl rfl ?_
  refine J_getR (pc := 6) dX13_image_6 fl_X13_321 (h0.lt 57 (by decide)) (h0.ty 57 rfl) rfl hla ?_
  refine J_ifnonnull (pc := 9) (tgt := 18) dX13_image_9 (by decide) ?_
  refine J_aload_n (pc := 18) 0 dX13_image_18 rfl rfl ?_
  refine J_getI (pc := 19) dX13_image_19 fl_X13_329 (h0.lt 57 (by decide)) (h0.ty 57 rfl) rfl ?_
  refine J_val (y := (d.1 57) 20) rfl ?_
  refine J_iconst (pc := 22) (v := 3) dX13_image_22 (by decide) ?_
  refine K_icmp_ne (K := (fun x => Option.bind x k)) (pc := 23) (tgt := 32) dX13_image_23 (by decide) (fun z23 => ?_) (fun z23 => ?_)
  · refine J_iconst (pc := 32) (v := 0) dX13_image_32 (by decide) ?_
    refine J_istore_n (pc := 33) (loc' := [(1, .int 0), (0, .ref 57)]) dX13_image_33 rfl (by decide) rfl ?_
    refine J_loc (loc' := [(0, .ref 57), (1, .int 0)]) [1, 0] rfl ?_
    refine J_whL (F := f_X13_image_w34 t ) (hp := fun (s34 : Int32 × JD) => (g, s34.2)) (lc := fun (s34 : Int32 × JD) => [(0, .ref 57), (1, .int s34.1)]) (XJ := fun (e34 : JD) o9 => J mi_X13_image 0 0 0 0 (g, e34) 66 [(0, .ref 57)] [] o9) (fun s34 k34 hB34 hX34 => ?_) (fun e34 => ?_) _ (0, j_sI d 57 0 0)
    · show J mi_X13_image 0 0 0 0 (g, s34.2) 34 [(0, .ref 57), (1, .int s34.1)] [] ((f_X13_image_w34 t s34).bind k34)
      unfold f_X13_image_w34
      refine J_iload_n (pc := 34) 1 dX13_image_34 rfl rfl ?_
      refine J_bipush (pc := 35) (v := 9) dX13_image_35 (by decide) ?_
      refine K_icmp_ge (K := (fun x => Option.bind x k34)) (pc := 37) (tgt := 66) dX13_image_37 (by decide) (fun z37 => ?_) (fun z37 => ?_)
      · refine J_loc (loc' := [(0, .ref 57)]) [0] rfl ?_
        exact hX34 s34.2
      · refine J_aload_n (pc := 40) 0 dX13_image_40 rfl rfl ?_
        refine J_getR (pc := 41) dX13_image_41 fl_X13_27 (h0.lt 57 (by decide)) (h0.ty 57 rfl) rfl (h0.rf 59 rfl) ?_
        refine J_bipush (pc := 44) (v := 9) dX13_image_44 (by decide) ?_
        refine J_aload_n (pc := 46) 0 dX13_image_46 rfl rfl ?_
        refine J_getI (pc := 47) dX13_image_47 fl_X13_329 (h0.lt 57 (by decide)) (h0.ty 57 rfl) rfl ?_
        refine J_imul (pc := 50) dX13_image_50 ?_
        refine J_iload_n (pc := 51) 1 dX13_image_51 rfl rfl ?_
        refine J_iadd (pc := 52) dX13_image_52 ?_
        refine J_aload_n (pc := 53) 0 dX13_image_53 rfl rfl ?_
        refine J_getR (pc := 54) dX13_image_54 fl_X13_17 (h0.lt 57 (by decide)) (h0.ty 57 rfl) rfl (h0.rf 56 rfl) ?_
        refine J_iload_n (pc := 57) 1 dX13_image_57 rfl rfl ?_
        refine J_guard (fun z58 => ?_)
        refine J_iald (pc := 58) dX13_image_58 (h0.lt 59 (by decide)) (h0.ty 59 rfl) z58 ?_
        refine J_guard (fun z59 => ?_)
        refine J_iast (pc := 59) dX13_image_59 (h0.lt 62 (by decide)) (h0.ty 62 rfl) z59 ?_
        refine J_iinc (pc := 60) (v := s34.1 + 1) (loc' := [(1, .int (s34.1 + 1)), (0, .ref 57)]) 1 dX13_image_60 rfl rfl (by decide) rfl ?_
        refine J_goto (pc := 63) (tgt := 34) dX13_image_63 (by decide) ?_
        refine J_loc (loc' := [(0, .ref 57), (1, .int (s34.1 + 1))]) [1, 0] rfl ?_
        exact hB34 (s34.1 + 1, j_sI s34.2 62 ((((9 : Int32) * ((s34.2.1 57) 20)) + s34.1).toNatClampNeg) ((s34.2.1 59) s34.1.toNatClampNeg))
    · show J mi_X13_image 0 0 0 0 (g, e34) 66 [(0, .ref 57)] [] (_)
      refine J_aload_n (pc := 66) 0 dX13_image_66 rfl rfl ?_
      refine J_dup (pc := 67) dX13_image_67 rfl ?_
      refine J_getI (pc := 68) dX13_image_68 fl_X13_329 (h0.lt 57 (by decide)) (h0.ty 57 rfl) rfl ?_
      refine J_iconst (pc := 71) (v := 1) dX13_image_71 (by decide) ?_
      refine J_iadd (pc := 72) dX13_image_72 ?_
      refine J_putI (pc := 73) dX13_image_73 fl_X13_329 ft_12_20 (h0.lt 57 (by decide)) (h0.ty 57 rfl) rfl rfl rfl ?_
      refine J_aload_n (pc := 76) 0 dX13_image_76 rfl rfl ?_
      refine J_aload_n (pc := 77) 0 dX13_image_77 rfl rfl ?_
      refine J_getI (pc := 78) dX13_image_78 fl_X13_329 (h0.lt 57 (by decide)) (h0.ty 57 rfl) rfl ?_
      refine J_val (y := ((e34.1 57) 20) + 1) rfl ?_
      refine J_iconst (pc := 81) (v := 1) dX13_image_81 (by decide) ?_
      refine J_isub (pc := 82) dX13_image_82 ?_
      refine JC_lt_i (K := (fun x => Option.bind x k)) (J_callV (mi := mi_X13_image) (mj := mi_X13_good) (pc := 83) dX13_image_83 ml_X13_52 ok_X13_good ov_X13_good ⟨Nat.le_of_ble_eq_true rfl, Nat.le_of_ble_eq_true rfl⟩ rfl (h0.lt 57 (by decide)) (h0.ty 57 rfl) rfl (s_X13_good g (j_sI e34 57 20 (((e34.1 57) 20) + 1)) ((((e34.1 57) 20) + 1) - 1) h0) rfl (Nat.le_of_ble_eq_true rfl)) (fun q83 eq83 => ?_)
      exact J_eqo (hk (q83.1, q83.2)) (J_iret (pc := 86) dX13_image_86 rfl)
  · refine J_aload_n (pc := 26) 0 dX13_image_26 rfl rfl ?_
    refine J_iconst (pc := 27) (v := 3) dX13_image_27 (by decide) ?_
    refine JC_lt_i (K := (fun x => Option.bind x k)) (J_callV (mi := mi_X13_image) (mj := mi_X13_refused) (pc := 28) dX13_image_28 ml_X13_48 ok_X13_refused ov_X13_refused ⟨Nat.le_of_ble_eq_true rfl, Nat.le_of_ble_eq_true rfl⟩ rfl (h0.lt 57 (by decide)) (h0.ty 57 rfl) rfl (s_X13_refused g (j_sI d 57 0 0) 3 h0) rfl (Nat.le_of_ble_eq_true rfl)) (fun q28 eq28 => ?_)
    exact J_eqo (hk (q28.1, q28.2)) (J_iret (pc := 31) dX13_image_31 rfl)
def f_X13_back_j24 (t : Nat) (d24 : JD) : Option (Bool × JD) := (j_let (f_X13_denied d24 1) (fun q26 => some (q26.1, q26.2)))
def f_X13_back_w32 (t : Nat) (c1_32 : Int32) (s32 : Int32 × JD) : Option ((Int32 × JD) ⊕ (JD)) := (if 9 ≤ s32.1 then some (.inr s32.2) else (if j_out (((9 : Int32) * (c1_32)) + s32.1) 27 then none else if j_out s32.1 9 then none else some (.inl (s32.1 + 1, j_sI s32.2 59 s32.1.toNatClampNeg ((s32.2.1 62) ((((9 : Int32) * (c1_32)) + s32.1).toNatClampNeg))))))
def f_X13_back (t : Nat) (d : JD) (pq0 : Int32) : Option (Bool × JD) := (if pq0 < 0 then f_X13_back_j24 t (j_sI d 57 0 0) else (if pq0 < ((d.1 57) 20) then ((j_wh (f_X13_back_w32 t pq0 ) j_fuel (0, j_sI d 57 0 0)).bind (fun (e32 : JD) => (j_let (f_X13_granted (j_sI e32 57 19 0)) (fun q67 => some (q67.1, q67.2))))) else f_X13_back_j24 t (j_sI d 57 0 0) ))
set_option maxRecDepth 100000 in
set_option maxHeartbeats 4000000 in
theorem s_X13_back (g : JG) (d : JD) (t : Nat) (pq0 : Int32) (h0 : j_sh g 0 TS_W RS_W) (ht : j_sh g t TS_ML RS_ML) (hla : g.2.2.1 57 3 = some t) : JM mi_X13_back 0 0 (g, d) [.ref 57, .int pq0] ((f_X13_back t d pq0).bind (fun r9 => some (some (.int (j_b r9.1)), (g, r9.2)))) := by
  refine JM_of (by decide) rfl (Nat.le_of_ble_eq_true rfl) ?_
  refine J_loc (loc' := [(0, .ref 57), (1, .int pq0)]) [0, 1] rfl ?_
  obtain ⟨k, hk, hk2⟩ : ∃ k : Bool × JD → Option (Option Value × JH), (∀ r9, k r9 = some (some (.int (j_b r9.1)), (g, r9.2))) ∧ (fun r9 : Bool × JD => (some (some (.int (j_b r9.1)), (g, r9.2)) : Option (Option Value × JH))) = k := ⟨_, fun _ => rfl, rfl⟩
  rw [hk2]
  unfold f_X13_back
  have hX13_back_j24 : ∀ (d24 : JD) , J mi_X13_back 0 0 0 0 (g, d24) 24 [(0, .ref 57)] [] ((f_X13_back_j24 t d24 ).bind k) := by
    intro d24 
    unfold f_X13_back_j24
    refine J_aload_n (pc := 24) 0 dX13_back_24 rfl rfl ?_
    refine J_iconst (pc := 25) (v := 1) dX13_back_25 (by decide) ?_
    refine JC_lt_b (K := (fun x => Option.bind x k)) (J_callV (mi := mi_X13_back) (mj := mi_X13_denied) (pc := 26) dX13_back_26 ml_X13_512 ok_X13_denied ov_X13_denied ⟨Nat.le_of_ble_eq_true rfl, Nat.le_of_ble_eq_true rfl⟩ rfl (h0.lt 57 (by decide)) (h0.ty 57 rfl) rfl (s_X13_denied g d24 1 h0) rfl (Nat.le_of_ble_eq_true rfl)) (fun q26 eq26 => ?_)
    exact J_eqo (hk (q26.1, q26.2)) (J_zretB (pc := 29) dX13_back_29 rfl)
  refine J_aload_n (pc := 0) 0 dX13_back_0 rfl rfl ?_
  refine J_iconst (pc := 1) (v := 0) dX13_back_1 (by decide) ?_
  refine J_putI (pc := 2) dX13_back_2 fl_X13_42 ft_12_0 (h0.lt 57 (by decide)) (h0.ty 57 rfl) rfl rfl rfl ?_
  refine J_aload_n (pc := 5) 0 dX13_back_5 rfl rfl ?_
  refine J_getR (pc := 6) dX13_back_6 fl_X13_321 (h0.lt 57 (by decide)) (h0.ty 57 rfl) rfl hla ?_
  refine J_ifnull (pc := 9) dX13_back_9 ?_
  refine J_iload_n (pc := 12) 1 dX13_back_12 rfl rfl ?_
  refine K_if_lt (K := (fun x => Option.bind x k)) (pc := 13) (tgt := 24) dX13_back_13 (by decide) (fun z13 => ?_) (fun z13 => ?_)
  · refine J_loc (loc' := [(0, .ref 57)]) [0] rfl ?_
    exact hX13_back_j24 (j_sI d 57 0 0) 
  · refine J_iload_n (pc := 16) 1 dX13_back_16 rfl rfl ?_
    refine J_aload_n (pc := 17) 0 dX13_back_17 rfl rfl ?_
    refine J_getI (pc := 18) dX13_back_18 fl_X13_329 (h0.lt 57 (by decide)) (h0.ty 57 rfl) rfl ?_
    refine J_val (y := (d.1 57) 20) rfl ?_
    refine K_icmp_lt (K := (fun x => Option.bind x k)) (pc := 21) (tgt := 30) dX13_back_21 (by decide) (fun z21 => ?_) (fun z21 => ?_)
    · refine J_iconst (pc := 30) (v := 0) dX13_back_30 (by decide) ?_
      refine J_istore_n (pc := 31) (loc' := [(2, .int 0), (0, .ref 57), (1, .int pq0)]) dX13_back_31 rfl (by decide) rfl ?_
      refine J_loc (loc' := [(0, .ref 57), (1, .int pq0), (2, .int 0)]) [1, 2, 0] rfl ?_
      refine J_whL (F := f_X13_back_w32 t pq0 ) (hp := fun (s32 : Int32 × JD) => (g, s32.2)) (lc := fun (s32 : Int32 × JD) => [(0, .ref 57), (1, .int (pq0)), (2, .int s32.1)]) (XJ := fun (e32 : JD) o9 => J mi_X13_back 0 0 0 0 (g, e32) 61 [(0, .ref 57)] [] o9) (fun s32 k32 hB32 hX32 => ?_) (fun e32 => ?_) _ (0, j_sI d 57 0 0)
      · show J mi_X13_back 0 0 0 0 (g, s32.2) 32 [(0, .ref 57), (1, .int (pq0)), (2, .int s32.1)] [] ((f_X13_back_w32 t pq0 s32).bind k32)
        unfold f_X13_back_w32
        refine J_iload_n (pc := 32) 2 dX13_back_32 rfl rfl ?_
        refine J_bipush (pc := 33) (v := 9) dX13_back_33 (by decide) ?_
        refine K_icmp_ge (K := (fun x => Option.bind x k32)) (pc := 35) (tgt := 61) dX13_back_35 (by decide) (fun z35 => ?_) (fun z35 => ?_)
        · refine J_loc (loc' := [(0, .ref 57)]) [0] rfl ?_
          exact hX32 s32.2
        · refine J_aload_n (pc := 38) 0 dX13_back_38 rfl rfl ?_
          refine J_getR (pc := 39) dX13_back_39 fl_X13_17 (h0.lt 57 (by decide)) (h0.ty 57 rfl) rfl (h0.rf 56 rfl) ?_
          refine J_iload_n (pc := 42) 2 dX13_back_42 rfl rfl ?_
          refine J_aload_n (pc := 43) 0 dX13_back_43 rfl rfl ?_
          refine J_getR (pc := 44) dX13_back_44 fl_X13_27 (h0.lt 57 (by decide)) (h0.ty 57 rfl) rfl (h0.rf 59 rfl) ?_
          refine J_bipush (pc := 47) (v := 9) dX13_back_47 (by decide) ?_
          refine J_iload_n (pc := 49) 1 dX13_back_49 rfl rfl ?_
          refine J_imul (pc := 50) dX13_back_50 ?_
          refine J_iload_n (pc := 51) 2 dX13_back_51 rfl rfl ?_
          refine J_iadd (pc := 52) dX13_back_52 ?_
          refine J_guard (fun z53 => ?_)
          refine J_iald (pc := 53) dX13_back_53 (h0.lt 62 (by decide)) (h0.ty 62 rfl) z53 ?_
          refine J_guard (fun z54 => ?_)
          refine J_iast (pc := 54) dX13_back_54 (h0.lt 59 (by decide)) (h0.ty 59 rfl) z54 ?_
          refine J_iinc (pc := 55) (v := s32.1 + 1) (loc' := [(2, .int (s32.1 + 1)), (0, .ref 57), (1, .int (pq0))]) 2 dX13_back_55 rfl rfl (by decide) rfl ?_
          refine J_goto (pc := 58) (tgt := 32) dX13_back_58 (by decide) ?_
          refine J_loc (loc' := [(0, .ref 57), (1, .int (pq0)), (2, .int (s32.1 + 1))]) [1, 2, 0] rfl ?_
          exact hB32 (s32.1 + 1, j_sI s32.2 59 s32.1.toNatClampNeg ((s32.2.1 62) ((((9 : Int32) * (pq0)) + s32.1).toNatClampNeg)))
      · show J mi_X13_back 0 0 0 0 (g, e32) 61 [(0, .ref 57)] [] (_)
        refine J_aload_n (pc := 61) 0 dX13_back_61 rfl rfl ?_
        refine J_iconst (pc := 62) (v := 0) dX13_back_62 (by decide) ?_
        refine J_putI (pc := 63) dX13_back_63 fl_X13_326 ft_12_19 (h0.lt 57 (by decide)) (h0.ty 57 rfl) rfl rfl rfl ?_
        refine J_aload_n (pc := 66) 0 dX13_back_66 rfl rfl ?_
        refine JC_lt_b (K := (fun x => Option.bind x k)) (J_callV (mi := mi_X13_back) (mj := mi_X13_granted) (pc := 67) dX13_back_67 ml_X13_518 ok_X13_granted ov_X13_granted ⟨Nat.le_of_ble_eq_true rfl, Nat.le_of_ble_eq_true rfl⟩ rfl (h0.lt 57 (by decide)) (h0.ty 57 rfl) rfl (s_X13_granted g (j_sI e32 57 19 0) h0) rfl (Nat.le_of_ble_eq_true rfl)) (fun q67 eq67 => ?_)
        exact J_eqo (hk (q67.1, q67.2)) (J_zretB (pc := 70) dX13_back_70 rfl)
    · refine J_loc (loc' := [(0, .ref 57)]) [0] rfl ?_
      exact hX13_back_j24 (j_sI d 57 0 0) 
def f_X13_led_j59_20 (t : Nat) (c1_20 : Int32) (d : JD) (x2_59_20 : Int32) (x3_59_20 : Int32) : Option ((Int32 × Int32) ⊕ ((Int32 × JD) ⊕ (Unit))) := (some (.inl (x2_59_20, x3_59_20 + 1)))
def f_X13_led_w20 (t : Nat) (c1_20 : Int32) (d : JD) (s20 : Int32 × Int32) : Option ((Int32 × Int32) ⊕ ((Int32 × JD) ⊕ (Unit))) := (if (((d).1 t) 2) ≤ s20.2 then some (.inr (.inr ())) else ((f_X13_has ((d).1 60) ((d).1 t) ((d).1 (t + 1)) ((d).1 (t + 2)) ((d).1 (t + 3)) ((d).1 (t + 4)) ((d).1 (t + 5)) s20.2).bind (fun q40_20 => if q40_20 ≤ 0 then (if s20.1 = (c1_20) then (some (Sum.inr (Sum.inl (s20.2, d)))) else (f_X13_led_j59_20 t (c1_20) (d) (s20.1 + 1) s20.2)) else (f_X13_led_j59_20 t (c1_20) (d) s20.1 s20.2))))
def f_X13_led_j18 (t : Nat) (d18 : JD) (x1_18 : Int32) (x2_18 : Int32) : Option (Int32 × JD) := ((j_wh (f_X13_led_w20 t x1_18 d18 ) j_fuel (x2_18, 0)).bind (Sum.elim (fun r9 => some r9) (fun (e20 : Unit) => (some (0, j_sI d18 57 0 1)))))
def f_X13_led (t : Nat) (d : JD) (pq0 : Int32) : Option (Int32 × JD) := ((f_X13_works (j_sI d 57 0 0)).bind (fun q15 => f_X13_led_j18 t q15 pq0 0))
set_option maxRecDepth 100000 in
set_option maxHeartbeats 4000000 in
theorem s_X13_led (g : JG) (d : JD) (t : Nat) (pq0 : Int32) (h0 : j_sh g 0 TS_W RS_W) (ht : j_sh g t TS_ML RS_ML) (hla : g.2.2.1 57 3 = some t) : JM mi_X13_led 0 0 (g, d) [.ref 57, .int pq0] ((f_X13_led t d pq0).bind (fun r9 => some (some (.int r9.1), (g, r9.2)))) := by
  refine JM_of (by decide) rfl (Nat.le_of_ble_eq_true rfl) ?_
  refine J_loc (loc' := [(0, .ref 57), (1, .int pq0)]) [0, 1] rfl ?_
  obtain ⟨k, hk, hk2⟩ : ∃ k : Int32 × JD → Option (Option Value × JH), (∀ r9, k r9 = some (some (.int r9.1), (g, r9.2))) ∧ (fun r9 : Int32 × JD => (some (some (.int r9.1), (g, r9.2)) : Option (Option Value × JH))) = k := ⟨_, fun _ => rfl, rfl⟩
  rw [hk2]
  unfold f_X13_led
  have hX13_led_j18 : ∀ (d18 : JD) (x1_18 : Int32) (x2_18 : Int32), J mi_X13_led 0 0 0 0 (g, d18) 18 [(0, .ref 57), (1, .int x1_18), (2, .int x2_18)] [] ((f_X13_led_j18 t d18 x1_18 x2_18).bind k) := by
    intro d18 x1_18 x2_18
    unfold f_X13_led_j18
    refine J_iconst (pc := 18) (v := 0) dX13_led_18 (by decide) ?_
    refine J_istore_n (pc := 19) (loc' := [(3, .int 0), (0, .ref 57), (1, .int x1_18), (2, .int x2_18)]) dX13_led_19 rfl (by decide) rfl ?_
    refine J_loc (loc' := [(0, .ref 57), (1, .int x1_18), (2, .int x2_18), (3, .int 0)]) [1, 2, 3, 0] rfl ?_
    refine J_whR (F := f_X13_led_w20 t x1_18 d18 ) (fr := fun r9 => some r9) (k := k) (hp := fun (s20 : Int32 × Int32) => (g, d18)) (lc := fun (s20 : Int32 × Int32) => [(0, .ref 57), (1, .int (x1_18)), (2, .int s20.1), (3, .int s20.2)]) (XJ := fun (e20 : Unit) o9 => J mi_X13_led 0 0 0 0 (g, d18) 65 [(0, .ref 57)] [] o9) (RJ := fun r9 o9 => o9 = some (some (.int r9.1), (g, r9.2))) (fun s20 k20 hB20 hR20 hX20 => ?_) (fun e20 => ?_) (fun r9 => hk r9) _ (x2_18, 0)
    · show J mi_X13_led 0 0 0 0 (g, d18) 20 [(0, .ref 57), (1, .int (x1_18)), (2, .int s20.1), (3, .int s20.2)] [] ((f_X13_led_w20 t x1_18 d18 s20).bind k20)
      unfold f_X13_led_w20
      have hX13_led_j59_20 : ∀ (x2_59_20 : Int32) (x3_59_20 : Int32), J mi_X13_led 0 0 0 0 (g, d18) 59 [(0, .ref 57), (1, .int (x1_18)), (2, .int x2_59_20), (3, .int x3_59_20)] [] ((f_X13_led_j59_20 t x1_18 d18 x2_59_20 x3_59_20).bind k20) := by
        intro x2_59_20 x3_59_20
        unfold f_X13_led_j59_20
        refine J_iinc (pc := 59) (v := x3_59_20 + 1) (loc' := [(3, .int (x3_59_20 + 1)), (0, .ref 57), (1, .int (x1_18)), (2, .int x2_59_20)]) 3 dX13_led_59 rfl rfl (by decide) rfl ?_
        refine J_goto (pc := 62) (tgt := 20) dX13_led_62 (by decide) ?_
        refine J_loc (loc' := [(0, .ref 57), (1, .int (x1_18)), (2, .int x2_59_20), (3, .int (x3_59_20 + 1))]) [1, 2, 3, 0] rfl ?_
        exact hB20 (x2_59_20, x3_59_20 + 1)
      refine J_aload_n (pc := 20) 0 dX13_led_20 rfl rfl ?_
      refine J_getR (pc := 21) dX13_led_21 fl_X13_321 (h0.lt 57 (by decide)) (h0.ty 57 rfl) rfl hla ?_
      refine J_ifnull (pc := 24) dX13_led_24 ?_
      refine J_iload_n (pc := 27) 3 dX13_led_27 rfl rfl ?_
      refine J_aload_n (pc := 28) 0 dX13_led_28 rfl rfl ?_
      refine J_getR (pc := 29) dX13_led_29 fl_X13_321 (h0.lt 57 (by decide)) (h0.ty 57 rfl) rfl hla ?_
      refine J_getI (pc := 32) dX13_led_32 fl_X13_229 (ht.lt 0 (by decide)) (ht.ty 0 rfl) rfl ?_
      refine K_icmp_ge (K := (fun x => Option.bind x k20)) (pc := 35) (tgt := 65) dX13_led_35 (by decide) (fun z35 => ?_) (fun z35 => ?_)
      · refine J_loc (loc' := [(0, .ref 57)]) [0] rfl ?_
        exact hX20 ()
      · refine J_aload_n (pc := 38) 0 dX13_led_38 rfl rfl ?_
        refine J_iload_n (pc := 39) 3 dX13_led_39 rfl rfl ?_
        refine JC_pp_i (J_callV (mi := mi_X13_led) (mj := mi_X13_has) (pc := 40) dX13_led_40 ml_X13_354 ok_X13_has ov_X13_has ⟨Nat.le_of_ble_eq_true rfl, Nat.le_of_ble_eq_true rfl⟩ rfl (h0.lt 57 (by decide)) (h0.ty 57 rfl) rfl (s_X13_has g d18 t s20.2 h0 ht hla) rfl (Nat.le_of_ble_eq_true rfl)) (fun q40_20 => ?_)
        refine K_if_le (K := (fun x => Option.bind x k20)) (pc := 43) (tgt := 49) dX13_led_43 (by decide) (fun z43 => ?_) (fun z43 => ?_)
        · refine J_iload_n (pc := 49) 2 dX13_led_49 rfl rfl ?_
          refine J_iload_n (pc := 50) 1 dX13_led_50 rfl rfl ?_
          refine K_icmp_ne (K := (fun x => Option.bind x k20)) (pc := 51) (tgt := 56) dX13_led_51 (by decide) (fun z51 => ?_) (fun z51 => ?_)
          · refine J_iinc (pc := 56) (v := s20.1 + 1) (loc' := [(2, .int (s20.1 + 1)), (0, .ref 57), (1, .int (x1_18)), (3, .int s20.2)]) 2 dX13_led_56 rfl rfl (by decide) rfl ?_
            refine J_loc (loc' := [(0, .ref 57), (1, .int (x1_18)), (2, .int (s20.1 + 1)), (3, .int s20.2)]) [1, 2, 0, 3] rfl ?_
            exact hX13_led_j59_20 (s20.1 + 1) s20.2
          · refine J_iload_n (pc := 54) 3 dX13_led_54 rfl rfl ?_
            exact J_eqo (hR20 (s20.2, d18)) (J_iret (pc := 55) dX13_led_55 rfl)
        · refine J_goto (pc := 46) (tgt := 59) dX13_led_46 (by decide) ?_
          exact hX13_led_j59_20 s20.1 s20.2
    · show J mi_X13_led 0 0 0 0 (g, d18) 65 [(0, .ref 57)] [] (_)
      refine J_aload_n (pc := 65) 0 dX13_led_65 rfl rfl ?_
      refine J_iconst (pc := 66) (v := 1) dX13_led_66 (by decide) ?_
      refine J_putI (pc := 67) dX13_led_67 fl_X13_42 ft_12_0 (h0.lt 57 (by decide)) (h0.ty 57 rfl) rfl rfl rfl ?_
      refine J_iconst (pc := 70) (v := 0) dX13_led_70 (by decide) ?_
      exact J_eqo (hk (0, j_sI d18 57 0 1)) (J_iret (pc := 71) dX13_led_71 rfl)
  refine J_aload_n (pc := 0) 0 dX13_led_0 rfl rfl ?_
  refine J_iconst (pc := 1) (v := 0) dX13_led_1 (by decide) ?_
  refine J_putI (pc := 2) dX13_led_2 fl_X13_42 ft_12_0 (h0.lt 57 (by decide)) (h0.ty 57 rfl) rfl rfl rfl ?_
  refine J_iconst (pc := 5) (v := 0) dX13_led_5 (by decide) ?_
  refine J_istore_n (pc := 6) (loc' := [(2, .int 0), (0, .ref 57), (1, .int pq0)]) dX13_led_6 rfl (by decide) rfl ?_
  refine J_aload_n (pc := 7) 1 dX13_led_7 rfl rfl ?_
  refine J_getR (pc := 8) dX13_led_8 fl_X13_321 (h0.lt 57 (by decide)) (h0.ty 57 rfl) rfl hla ?_
  refine J_ifnull (pc := 11) dX13_led_11 ?_
  refine J_aload_n (pc := 14) 1 dX13_led_14 rfl rfl ?_
  refine JC_pe_v (J_callV (mi := mi_X13_led) (mj := mi_X13_works) (pc := 15) dX13_led_15 ml_X13_348 ok_X13_works ov_X13_works ⟨Nat.le_of_ble_eq_true rfl, Nat.le_of_ble_eq_true rfl⟩ rfl (h0.lt 57 (by decide)) (h0.ty 57 rfl) rfl (s_X13_works g (j_sI d 57 0 0) h0) rfl (Nat.le_of_ble_eq_true rfl)) (fun q15 => ?_)
  refine J_loc (loc' := [(0, .ref 57), (1, .int pq0), (2, .int 0)]) [1, 2, 0] rfl ?_
  exact hX13_led_j18 q15 pq0 0
def f_X13_size (t : Nat) (d : JD) (pq0 : Int32) : Int32 × JD := (if pq0 = 13 then ((d.1 57) 6, j_sI d 57 0 0) else (if (f_X13_in pq0 0 12) = true then (if pq0 = 0 then (((j_sI d 57 0 0).1 t) 0, j_sI d 57 0 0) else if pq0 = 1 then (((j_sI d 57 0 0).1 t) 1, j_sI d 57 0 0) else if pq0 = 2 then (((j_sI d 57 0 0).1 t) 2, j_sI d 57 0 0) else if pq0 = 3 then (((j_sI d 57 0 0).1 t) 3, j_sI d 57 0 0) else if pq0 = 4 then (((j_sI d 57 0 0).1 t) 4, j_sI d 57 0 0) else if pq0 = 5 then (((j_sI d 57 0 0).1 t) 5, j_sI d 57 0 0) else if pq0 = 6 then (((j_sI d 57 0 0).1 t) 6, j_sI d 57 0 0) else if pq0 = 7 then (((j_sI d 57 0 0).1 t) 7, j_sI d 57 0 0) else if pq0 = 8 then (((j_sI d 57 0 0).1 t) 8, j_sI d 57 0 0) else if pq0 = 9 then ((d.1 59) 7, j_sI d 57 0 0) else if pq0 = 10 then ((d.1 59) 8, j_sI d 57 0 0) else if pq0 = 11 then ((d.1 57) 19, j_sI d 57 0 0) else ((d.1 57) 20, j_sI d 57 0 0)) else ((-1), j_sI d 57 0 0)))
set_option maxRecDepth 100000 in
set_option maxHeartbeats 4000000 in
theorem s_X13_size (g : JG) (d : JD) (t : Nat) (pq0 : Int32) (h0 : j_sh g 0 TS_W RS_W) (ht : j_sh g t TS_ML RS_ML) (hla : g.2.2.1 57 3 = some t) : JM mi_X13_size 0 0 (g, d) [.ref 57, .int pq0] (some (some (.int (f_X13_size t d pq0).1), (g, (f_X13_size t d pq0).2))) := by
  refine JM_of (by decide) rfl (Nat.le_of_ble_eq_true rfl) ?_
  refine J_loc (loc' := [(0, .ref 57), (1, .int pq0)]) [0, 1] rfl ?_
  obtain ⟨k, hk⟩ : ∃ k : Int32 × JD → Option (Option Value × JH), ∀ r9, k r9 = some (some (.int r9.1), (g, r9.2)) := ⟨_, fun _ => rfl⟩
  refine J_eqo (hk (f_X13_size t d pq0)).symm ?_
  unfold f_X13_size
  refine J_aload_n (pc := 0) 0 dX13_size_0 rfl rfl ?_
  refine J_iconst (pc := 1) (v := 0) dX13_size_1 (by decide) ?_
  refine J_putI (pc := 2) dX13_size_2 fl_X13_42 ft_12_0 (h0.lt 57 (by decide)) (h0.ty 57 rfl) rfl rfl rfl ?_
  refine J_iload_n (pc := 5) 1 dX13_size_5 rfl rfl ?_
  refine J_bipush (pc := 6) (v := 13) dX13_size_6 (by decide) ?_
  refine K_icmp_ne (K := k) (pc := 8) (tgt := 16) dX13_size_8 (by decide) (fun z8 => ?_) (fun z8 => ?_)
  · refine J_iload_n (pc := 16) 1 dX13_size_16 rfl rfl ?_
    refine J_iconst (pc := 17) (v := 0) dX13_size_17 (by decide) ?_
    refine J_bipush (pc := 18) (v := 12) dX13_size_18 (by decide) ?_
    refine JC_pt_i (J_callS (mi := mi_X13_size) (mj := mi_X13_in) (pc := 20) dX13_size_20 ml_X13_121 ok_X13_in os_X13_in ⟨Nat.le_of_ble_eq_true rfl, Nat.le_of_ble_eq_true rfl⟩ rfl (s_X13_in g (j_sI d 57 0 0) pq0 0 12) rfl (Nat.le_of_ble_eq_true rfl)) ?_
    refine K_ifne_b (K := k) (pc := 23) (tgt := 28) dX13_size_23 (by decide) (fun z23 => ?_) (fun z23 => ?_)
    · refine J_aload_n (pc := 28) 0 dX13_size_28 rfl rfl ?_
      refine J_getR (pc := 29) dX13_size_29 fl_X13_321 (h0.lt 57 (by decide)) (h0.ty 57 rfl) rfl hla ?_
      refine J_ifnonnull (pc := 32) (tgt := 37) dX13_size_32 (by decide) ?_
      refine J_iload_n (pc := 37) 1 dX13_size_37 rfl rfl ?_
      refine J_split (K := k) (c := pq0 = 0) (fun z38_0 => ?_) (fun z38_0 => ?_)
      · refine J_val z38_0 ?_
        refine J_tsIn (pc := 38) (tgt := 100) dX13_size_38 (by decide) (by decide) rfl (by decide) ?_
        refine J_aload_n (pc := 100) 0 dX13_size_100 rfl rfl ?_
        refine J_getR (pc := 101) dX13_size_101 fl_X13_321 (h0.lt 57 (by decide)) (h0.ty 57 rfl) rfl hla ?_
        refine J_getI (pc := 104) dX13_size_104 fl_X13_155 (ht.lt 0 (by decide)) (ht.ty 0 rfl) rfl ?_
        exact J_eqo (hk (((j_sI d 57 0 0).1 t) 0, j_sI d 57 0 0)) (J_iret (pc := 107) dX13_size_107 rfl)
      refine J_split (K := k) (c := pq0 = 1) (fun z38_1 => ?_) (fun z38_1 => ?_)
      · refine J_val z38_1 ?_
        refine J_tsIn (pc := 38) (tgt := 108) dX13_size_38 (by decide) (by decide) rfl (by decide) ?_
        refine J_aload_n (pc := 108) 0 dX13_size_108 rfl rfl ?_
        refine J_getR (pc := 109) dX13_size_109 fl_X13_321 (h0.lt 57 (by decide)) (h0.ty 57 rfl) rfl hla ?_
        refine J_getI (pc := 112) dX13_size_112 fl_X13_227 (ht.lt 0 (by decide)) (ht.ty 0 rfl) rfl ?_
        exact J_eqo (hk (((j_sI d 57 0 0).1 t) 1, j_sI d 57 0 0)) (J_iret (pc := 115) dX13_size_115 rfl)
      refine J_split (K := k) (c := pq0 = 2) (fun z38_2 => ?_) (fun z38_2 => ?_)
      · refine J_val z38_2 ?_
        refine J_tsIn (pc := 38) (tgt := 116) dX13_size_38 (by decide) (by decide) rfl (by decide) ?_
        refine J_aload_n (pc := 116) 0 dX13_size_116 rfl rfl ?_
        refine J_getR (pc := 117) dX13_size_117 fl_X13_321 (h0.lt 57 (by decide)) (h0.ty 57 rfl) rfl hla ?_
        refine J_getI (pc := 120) dX13_size_120 fl_X13_229 (ht.lt 0 (by decide)) (ht.ty 0 rfl) rfl ?_
        exact J_eqo (hk (((j_sI d 57 0 0).1 t) 2, j_sI d 57 0 0)) (J_iret (pc := 123) dX13_size_123 rfl)
      refine J_split (K := k) (c := pq0 = 3) (fun z38_3 => ?_) (fun z38_3 => ?_)
      · refine J_val z38_3 ?_
        refine J_tsIn (pc := 38) (tgt := 124) dX13_size_38 (by decide) (by decide) rfl (by decide) ?_
        refine J_aload_n (pc := 124) 0 dX13_size_124 rfl rfl ?_
        refine J_getR (pc := 125) dX13_size_125 fl_X13_321 (h0.lt 57 (by decide)) (h0.ty 57 rfl) rfl hla ?_
        refine J_getI (pc := 128) dX13_size_128 fl_X13_243 (ht.lt 0 (by decide)) (ht.ty 0 rfl) rfl ?_
        exact J_eqo (hk (((j_sI d 57 0 0).1 t) 3, j_sI d 57 0 0)) (J_iret (pc := 131) dX13_size_131 rfl)
      refine J_split (K := k) (c := pq0 = 4) (fun z38_4 => ?_) (fun z38_4 => ?_)
      · refine J_val z38_4 ?_
        refine J_tsIn (pc := 38) (tgt := 132) dX13_size_38 (by decide) (by decide) rfl (by decide) ?_
        refine J_aload_n (pc := 132) 0 dX13_size_132 rfl rfl ?_
        refine J_getR (pc := 133) dX13_size_133 fl_X13_321 (h0.lt 57 (by decide)) (h0.ty 57 rfl) rfl hla ?_
        refine J_getI (pc := 136) dX13_size_136 fl_X13_191 (ht.lt 0 (by decide)) (ht.ty 0 rfl) rfl ?_
        exact J_eqo (hk (((j_sI d 57 0 0).1 t) 4, j_sI d 57 0 0)) (J_iret (pc := 139) dX13_size_139 rfl)
      refine J_split (K := k) (c := pq0 = 5) (fun z38_5 => ?_) (fun z38_5 => ?_)
      · refine J_val z38_5 ?_
        refine J_tsIn (pc := 38) (tgt := 140) dX13_size_38 (by decide) (by decide) rfl (by decide) ?_
        refine J_aload_n (pc := 140) 0 dX13_size_140 rfl rfl ?_
        refine J_getR (pc := 141) dX13_size_141 fl_X13_321 (h0.lt 57 (by decide)) (h0.ty 57 rfl) rfl hla ?_
        refine J_getI (pc := 144) dX13_size_144 fl_X13_285 (ht.lt 0 (by decide)) (ht.ty 0 rfl) rfl ?_
        exact J_eqo (hk (((j_sI d 57 0 0).1 t) 5, j_sI d 57 0 0)) (J_iret (pc := 147) dX13_size_147 rfl)
      refine J_split (K := k) (c := pq0 = 6) (fun z38_6 => ?_) (fun z38_6 => ?_)
      · refine J_val z38_6 ?_
        refine J_tsIn (pc := 38) (tgt := 148) dX13_size_38 (by decide) (by decide) rfl (by decide) ?_
        refine J_aload_n (pc := 148) 0 dX13_size_148 rfl rfl ?_
        refine J_getR (pc := 149) dX13_size_149 fl_X13_321 (h0.lt 57 (by decide)) (h0.ty 57 rfl) rfl hla ?_
        refine J_getI (pc := 152) dX13_size_152 fl_X13_291 (ht.lt 0 (by decide)) (ht.ty 0 rfl) rfl ?_
        exact J_eqo (hk (((j_sI d 57 0 0).1 t) 6, j_sI d 57 0 0)) (J_iret (pc := 155) dX13_size_155 rfl)
      refine J_split (K := k) (c := pq0 = 7) (fun z38_7 => ?_) (fun z38_7 => ?_)
      · refine J_val z38_7 ?_
        refine J_tsIn (pc := 38) (tgt := 156) dX13_size_38 (by decide) (by decide) rfl (by decide) ?_
        refine J_aload_n (pc := 156) 0 dX13_size_156 rfl rfl ?_
        refine J_getR (pc := 157) dX13_size_157 fl_X13_321 (h0.lt 57 (by decide)) (h0.ty 57 rfl) rfl hla ?_
        refine J_getI (pc := 160) dX13_size_160 fl_X13_301 (ht.lt 0 (by decide)) (ht.ty 0 rfl) rfl ?_
        exact J_eqo (hk (((j_sI d 57 0 0).1 t) 7, j_sI d 57 0 0)) (J_iret (pc := 163) dX13_size_163 rfl)
      refine J_split (K := k) (c := pq0 = 8) (fun z38_8 => ?_) (fun z38_8 => ?_)
      · refine J_val z38_8 ?_
        refine J_tsIn (pc := 38) (tgt := 164) dX13_size_38 (by decide) (by decide) rfl (by decide) ?_
        refine J_aload_n (pc := 164) 0 dX13_size_164 rfl rfl ?_
        refine J_getR (pc := 165) dX13_size_165 fl_X13_321 (h0.lt 57 (by decide)) (h0.ty 57 rfl) rfl hla ?_
        refine J_getI (pc := 168) dX13_size_168 fl_X13_311 (ht.lt 0 (by decide)) (ht.ty 0 rfl) rfl ?_
        exact J_eqo (hk (((j_sI d 57 0 0).1 t) 8, j_sI d 57 0 0)) (J_iret (pc := 171) dX13_size_171 rfl)
      refine J_split (K := k) (c := pq0 = 9) (fun z38_9 => ?_) (fun z38_9 => ?_)
      · refine J_val z38_9 ?_
        refine J_tsIn (pc := 38) (tgt := 172) dX13_size_38 (by decide) (by decide) rfl (by decide) ?_
        refine J_aload_n (pc := 172) 0 dX13_size_172 rfl rfl ?_
        refine J_getR (pc := 173) dX13_size_173 fl_X13_17 (h0.lt 57 (by decide)) (h0.ty 57 rfl) rfl (h0.rf 56 rfl) ?_
        refine J_bipush (pc := 176) (v := 7) dX13_size_176 (by decide) ?_
        refine J_iald (pc := 178) dX13_size_178 (h0.lt 59 (by decide)) (h0.ty 59 rfl) (show vp_in _ _ from by unfold vp_in; decide) ?_
        refine J_val (y := (d.1 59) 7) rfl ?_
        exact J_eqo (hk ((d.1 59) 7, j_sI d 57 0 0)) (J_iret (pc := 179) dX13_size_179 rfl)
      refine J_split (K := k) (c := pq0 = 10) (fun z38_10 => ?_) (fun z38_10 => ?_)
      · refine J_val z38_10 ?_
        refine J_tsIn (pc := 38) (tgt := 180) dX13_size_38 (by decide) (by decide) rfl (by decide) ?_
        refine J_aload_n (pc := 180) 0 dX13_size_180 rfl rfl ?_
        refine J_getR (pc := 181) dX13_size_181 fl_X13_17 (h0.lt 57 (by decide)) (h0.ty 57 rfl) rfl (h0.rf 56 rfl) ?_
        refine J_bipush (pc := 184) (v := 8) dX13_size_184 (by decide) ?_
        refine J_iald (pc := 186) dX13_size_186 (h0.lt 59 (by decide)) (h0.ty 59 rfl) (show vp_in _ _ from by unfold vp_in; decide) ?_
        refine J_val (y := (d.1 59) 8) rfl ?_
        exact J_eqo (hk ((d.1 59) 8, j_sI d 57 0 0)) (J_iret (pc := 187) dX13_size_187 rfl)
      refine J_split (K := k) (c := pq0 = 11) (fun z38_11 => ?_) (fun z38_11 => ?_)
      · refine J_val z38_11 ?_
        refine J_tsIn (pc := 38) (tgt := 188) dX13_size_38 (by decide) (by decide) rfl (by decide) ?_
        refine J_aload_n (pc := 188) 0 dX13_size_188 rfl rfl ?_
        refine J_getI (pc := 189) dX13_size_189 fl_X13_326 (h0.lt 57 (by decide)) (h0.ty 57 rfl) rfl ?_
        refine J_val (y := (d.1 57) 19) rfl ?_
        exact J_eqo (hk ((d.1 57) 19, j_sI d 57 0 0)) (J_iret (pc := 192) dX13_size_192 rfl)
      · have zz38 : (pq0 : Int32).toInt < 0 ∨ 11 < (pq0 : Int32).toInt := by
          have q0 := j_ne_toInt (n := 0) (by decide) z38_0
          have q1 := j_ne_toInt (n := 1) (by decide) z38_1
          have q2 := j_ne_toInt (n := 2) (by decide) z38_2
          have q3 := j_ne_toInt (n := 3) (by decide) z38_3
          have q4 := j_ne_toInt (n := 4) (by decide) z38_4
          have q5 := j_ne_toInt (n := 5) (by decide) z38_5
          have q6 := j_ne_toInt (n := 6) (by decide) z38_6
          have q7 := j_ne_toInt (n := 7) (by decide) z38_7
          have q8 := j_ne_toInt (n := 8) (by decide) z38_8
          have q9 := j_ne_toInt (n := 9) (by decide) z38_9
          have q10 := j_ne_toInt (n := 10) (by decide) z38_10
          have q11 := j_ne_toInt (n := 11) (by decide) z38_11
          omega
        refine J_tsOut (pc := 38) (tgt := 193) dX13_size_38 zz38 (by decide) ?_
        refine J_aload_n (pc := 193) 0 dX13_size_193 rfl rfl ?_
        refine J_getI (pc := 194) dX13_size_194 fl_X13_329 (h0.lt 57 (by decide)) (h0.ty 57 rfl) rfl ?_
        refine J_val (y := (d.1 57) 20) rfl ?_
        exact J_eqo (hk ((d.1 57) 20, j_sI d 57 0 0)) (J_iret (pc := 197) dX13_size_197 rfl)
    · refine J_iconst (pc := 26) (v := (-1)) dX13_size_26 (by decide) ?_
      exact J_eqo (hk ((-1), j_sI d 57 0 0)) (J_iret (pc := 27) dX13_size_27 rfl)
  · refine J_aload_n (pc := 11) 0 dX13_size_11 rfl rfl ?_
    refine J_getI (pc := 12) dX13_size_12 fl_X13_314 (h0.lt 57 (by decide)) (h0.ty 57 rfl) rfl ?_
    refine J_val (y := (d.1 57) 6) rfl ?_
    exact J_eqo (hk ((d.1 57) 6, j_sI d 57 0 0)) (J_iret (pc := 15) dX13_size_15 rfl)
def f_X13_trouble (d : JD) : Int32 × JD := ((d.1 57) 1, j_sI d 57 0 0)
set_option maxRecDepth 100000 in
set_option maxHeartbeats 4000000 in
theorem s_X13_trouble (g : JG) (d : JD) (h0 : j_sh g 0 TS_W RS_W) : JM mi_X13_trouble 0 0 (g, d) [.ref 57] (some (some (.int (f_X13_trouble d ).1), (g, (f_X13_trouble d ).2))) := by
  refine JM_of (by decide) rfl (Nat.le_of_ble_eq_true rfl) ?_
  refine J_loc (loc' := [(0, .ref 57)]) [0] rfl ?_
  obtain ⟨k, hk⟩ : ∃ k : Int32 × JD → Option (Option Value × JH), ∀ r9, k r9 = some (some (.int r9.1), (g, r9.2)) := ⟨_, fun _ => rfl⟩
  refine J_eqo (hk (f_X13_trouble d )).symm ?_
  unfold f_X13_trouble
  refine J_aload_n (pc := 0) 0 dX13_trouble_0 rfl rfl ?_
  refine J_iconst (pc := 1) (v := 0) dX13_trouble_1 (by decide) ?_
  refine J_putI (pc := 2) dX13_trouble_2 fl_X13_42 ft_12_0 (h0.lt 57 (by decide)) (h0.ty 57 rfl) rfl rfl rfl ?_
  refine J_aload_n (pc := 5) 0 dX13_trouble_5 rfl rfl ?_
  refine J_getI (pc := 6) dX13_trouble_6 fl_X13_45 (h0.lt 57 (by decide)) (h0.ty 57 rfl) rfl ?_
  refine J_val (y := (d.1 57) 1) rfl ?_
  exact J_eqo (hk ((d.1 57) 1, j_sI d 57 0 0)) (J_iret (pc := 9) dX13_trouble_9 rfl)
