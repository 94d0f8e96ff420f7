def f_X13_isGaten (pq0 : Int32) : Bool := (false)
set_option maxRecDepth 100000 in
set_option maxHeartbeats 4000000 in
theorem s_X13_isGaten (g : JG) (d : JD) (pq0 : Int32) (h0 : j_sh g 0 TS_W RS_W) (hla : g.2.2.1 57 3 = none) : JM mi_X13_isGate 0 0 (g, d) [.ref 57, .int pq0] (some (some (.int (j_b (f_X13_isGaten pq0))), (g, d))) := by
  refine JM_of (by decide) rfl (Nat.le_of_ble_eq_true rfl) ?_
  refine J_loc (loc' := [(0, .ref 57), (1, .int pq0)]) [0, 1] rfl ?_
  obtain ⟨k, hk⟩ : ∃ k : Bool → Option (Option Value × JH), ∀ r9, k r9 = some (some (.int (j_b r9)), (g, d)) := ⟨_, fun _ => rfl⟩
  refine J_eqo (hk (f_X13_isGaten pq0)).symm ?_
  unfold f_X13_isGaten
  refine J_aload_n (pc := 0) 0 dX13_isGate_0 rfl rfl ?_
  refine J_getN (pc := 1) dX13_isGate_1 fl_X13_321 (h0.lt 57 (by decide)) (h0.ty 57 rfl) rfl hla ?_
  refine J_ifnullN (pc := 4) (tgt := 26) dX13_isGate_4 (by decide) ?_
  refine J_iconst (pc := 26) (v := 0) dX13_isGate_26 (by decide) ?_
  exact J_eqo (hk false) (J_zretB (pc := 27) dX13_isGate_27 rfl)
def f_X13_isPersonn (pq0 : Int32) : Bool := (false)
set_option maxRecDepth 100000 in
set_option maxHeartbeats 4000000 in
theorem s_X13_isPersonn (g : JG) (d : JD) (pq0 : Int32) (h0 : j_sh g 0 TS_W RS_W) (hla : g.2.2.1 57 3 = none) : JM mi_X13_isPerson 0 0 (g, d) [.ref 57, .int pq0] (some (some (.int (j_b (f_X13_isPersonn pq0))), (g, d))) := by
  refine JM_of (by decide) rfl (Nat.le_of_ble_eq_true rfl) ?_
  refine J_loc (loc' := [(0, .ref 57), (1, .int pq0)]) [0, 1] rfl ?_
  obtain ⟨k, hk⟩ : ∃ k : Bool → Option (Option Value × JH), ∀ r9, k r9 = some (some (.int (j_b r9)), (g, d)) := ⟨_, fun _ => rfl⟩
  refine J_eqo (hk (f_X13_isPersonn pq0)).symm ?_
  unfold f_X13_isPersonn
  refine J_aload_n (pc := 0) 0 dX13_isPerson_0 rfl rfl ?_
  refine J_getN (pc := 1) dX13_isPerson_1 fl_X13_321 (h0.lt 57 (by decide)) (h0.ty 57 rfl) rfl hla ?_
  refine J_ifnullN (pc := 4) (tgt := 26) dX13_isPerson_4 (by decide) ?_
  refine J_iconst (pc := 26) (v := 0) dX13_isPerson_26 (by decide) ?_
  exact J_eqo (hk false) (J_zretB (pc := 27) dX13_isPerson_27 rfl)
def f_X13_isFirmn (pq0 : Int32) : Bool := (false)
set_option maxRecDepth 100000 in
set_option maxHeartbeats 4000000 in
theorem s_X13_isFirmn (g : JG) (d : JD) (pq0 : Int32) (h0 : j_sh g 0 TS_W RS_W) (hla : g.2.2.1 57 3 = none) : JM mi_X13_isFirm 0 0 (g, d) [.ref 57, .int pq0] (some (some (.int (j_b (f_X13_isFirmn pq0))), (g, d))) := by
  refine JM_of (by decide) rfl (Nat.le_of_ble_eq_true rfl) ?_
  refine J_loc (loc' := [(0, .ref 57), (1, .int pq0)]) [0, 1] rfl ?_
  obtain ⟨k, hk⟩ : ∃ k : Bool → Option (Option Value × JH), ∀ r9, k r9 = some (some (.int (j_b r9)), (g, d)) := ⟨_, fun _ => rfl⟩
  refine J_eqo (hk (f_X13_isFirmn pq0)).symm ?_
  unfold f_X13_isFirmn
  refine J_aload_n (pc := 0) 0 dX13_isFirm_0 rfl rfl ?_
  refine J_getN (pc := 1) dX13_isFirm_1 fl_X13_321 (h0.lt 57 (by decide)) (h0.ty 57 rfl) rfl hla ?_
  refine J_ifnullN (pc := 4) (tgt := 26) dX13_isFirm_4 (by decide) ?_
  refine J_iconst (pc := 26) (v := 0) dX13_isFirm_26 (by decide) ?_
  exact J_eqo (hk false) (J_zretB (pc := 27) dX13_isFirm_27 rfl)
def f_X13_gaten (d : JD) (pq0 : Int32) (pq1 : Int32) : Int32 × JD := (j_let (f_X13_refused (j_sI d 57 0 0) 1) (fun q24 => (q24.1, q24.2)))
set_option maxRecDepth 100000 in
set_option maxHeartbeats 4000000 in
theorem s_X13_gaten (g : JG) (d : JD) (pq0 : Int32) (pq1 : Int32) (h0 : j_sh g 0 TS_W RS_W) (hla : g.2.2.1 57 3 = none) : JM mi_X13_gate 0 0 (g, d) [.ref 57, .int pq0, .int pq1] (some (some (.int (f_X13_gaten d pq0 pq1).1), (g, (f_X13_gaten d pq0 pq1).2))) := by
  refine JM_of (by decide) rfl (Nat.le_of_ble_eq_true rfl) ?_
  refine J_loc (loc' := [(0, .ref 57), (1, .int pq0), (2, .int pq1)]) [0, 1, 2] rfl ?_
  obtain ⟨k, hk⟩ : ∃ k : Int32 × JD → Option (Option Value × JH), ∀ r9, k r9 = some (some (.int r9.1), (g, r9.2)) := ⟨_, fun _ => rfl⟩
  refine J_eqo (hk (f_X13_gaten d pq0 pq1)).symm ?_
  unfold f_X13_gaten
  refine J_aload_n (pc := 0) 0 dX13_gate_0 rfl rfl ?_
  refine J_iconst (pc := 1) (v := 0) dX13_gate_1 (by decide) ?_
  refine J_putI (pc := 2) dX13_gate_2 fl_X13_42 ft_12_0 (h0.lt 57 (by decide)) (h0.ty 57 rfl) rfl rfl rfl ?_
  refine J_aload_n (pc := 5) 0 dX13_gate_5 rfl rfl ?_
  refine J_iload_n (pc := 6) 1 dX13_gate_6 rfl rfl ?_
  refine JC_pt_i (J_callV (mi := mi_X13_gate) (mj := mi_X13_isGate) (pc := 7) dX13_gate_7 ml_X13_345 ok_X13_isGate ov_X13_isGate ⟨Nat.le_of_ble_eq_true rfl, Nat.le_of_ble_eq_true rfl⟩ rfl (h0.lt 57 (by decide)) (h0.ty 57 rfl) rfl (s_X13_isGaten g (j_sI d 57 0 0) pq0 h0 hla) rfl (Nat.le_of_ble_eq_true rfl)) ?_
  refine J_val (y := j_b false) rfl ?_
  refine J_eqo (o1 := if (j_b false) = 0 then _ else none) (if_pos (by decide)).symm ?_
  refine J_if_eq (pc := 10) (tgt := 22) dX13_gate_10 (by decide) (fun _ => ?_) (fun z9 => absurd z9 (by decide))
  refine J_aload_n (pc := 22) 0 dX13_gate_22 rfl rfl ?_
  refine J_iconst (pc := 23) (v := 1) dX13_gate_23 (by decide) ?_
  refine JC_lt_i (K := k) (J_callV (mi := mi_X13_gate) (mj := mi_X13_refused) (pc := 24) dX13_gate_24 ml_X13_48 ok_X13_refused ov_X13_refused ⟨Nat.le_of_ble_eq_true rfl, Nat.le_of_ble_eq_true rfl⟩ rfl (h0.lt 57 (by decide)) (h0.ty 57 rfl) rfl (s_X13_refused g (j_sI d 57 0 0) 1 h0) rfl (Nat.le_of_ble_eq_true rfl)) (fun q24 eq24 => ?_)
  exact J_eqo (hk (q24.1, q24.2)) (J_iret (pc := 27) dX13_gate_27 rfl)
def f_X13_personn (d : JD) (pq0 : Int32) (pq1 : Int32) : Int32 × JD := (j_let (f_X13_refused (j_sI d 57 0 0) 1) (fun q24 => (q24.1, q24.2)))
set_option maxRecDepth 100000 in
set_option maxHeartbeats 4000000 in
theorem s_X13_personn (g : JG) (d : JD) (pq0 : Int32) (pq1 : Int32) (h0 : j_sh g 0 TS_W RS_W) (hla : g.2.2.1 57 3 = none) : JM mi_X13_person 0 0 (g, d) [.ref 57, .int pq0, .int pq1] (some (some (.int (f_X13_personn d pq0 pq1).1), (g, (f_X13_personn d pq0 pq1).2))) := by
  refine JM_of (by decide) rfl (Nat.le_of_ble_eq_true rfl) ?_
  refine J_loc (loc' := [(0, .ref 57), (1, .int pq0), (2, .int pq1)]) [0, 1, 2] rfl ?_
  obtain ⟨k, hk⟩ : ∃ k : Int32 × JD → Option (Option Value × JH), ∀ r9, k r9 = some (some (.int r9.1), (g, r9.2)) := ⟨_, fun _ => rfl⟩
  refine J_eqo (hk (f_X13_personn d pq0 pq1)).symm ?_
  unfold f_X13_personn
  refine J_aload_n (pc := 0) 0 dX13_person_0 rfl rfl ?_
  refine J_iconst (pc := 1) (v := 0) dX13_person_1 (by decide) ?_
  refine J_putI (pc := 2) dX13_person_2 fl_X13_42 ft_12_0 (h0.lt 57 (by decide)) (h0.ty 57 rfl) rfl rfl rfl ?_
  refine J_aload_n (pc := 5) 0 dX13_person_5 rfl rfl ?_
  refine J_iload_n (pc := 6) 1 dX13_person_6 rfl rfl ?_
  refine JC_pt_i (J_callV (mi := mi_X13_person) (mj := mi_X13_isPerson) (pc := 7) dX13_person_7 ml_X13_351 ok_X13_isPerson ov_X13_isPerson ⟨Nat.le_of_ble_eq_true rfl, Nat.le_of_ble_eq_true rfl⟩ rfl (h0.lt 57 (by decide)) (h0.ty 57 rfl) rfl (s_X13_isPersonn g (j_sI d 57 0 0) pq0 h0 hla) rfl (Nat.le_of_ble_eq_true rfl)) ?_
  refine J_val (y := j_b false) rfl ?_
  refine J_eqo (o1 := if (j_b false) = 0 then _ else none) (if_pos (by decide)).symm ?_
  refine J_if_eq (pc := 10) (tgt := 22) dX13_person_10 (by decide) (fun _ => ?_) (fun z9 => absurd z9 (by decide))
  refine J_aload_n (pc := 22) 0 dX13_person_22 rfl rfl ?_
  refine J_iconst (pc := 23) (v := 1) dX13_person_23 (by decide) ?_
  refine JC_lt_i (K := k) (J_callV (mi := mi_X13_person) (mj := mi_X13_refused) (pc := 24) dX13_person_24 ml_X13_48 ok_X13_refused ov_X13_refused ⟨Nat.le_of_ble_eq_true rfl, Nat.le_of_ble_eq_true rfl⟩ rfl (h0.lt 57 (by decide)) (h0.ty 57 rfl) rfl (s_X13_refused g (j_sI d 57 0 0) 1 h0) rfl (Nat.le_of_ble_eq_true rfl)) (fun q24 eq24 => ?_)
  exact J_eqo (hk (q24.1, q24.2)) (J_iret (pc := 27) dX13_person_27 rfl)
def f_X13_firmn (d : JD) (pq0 : Int32) (pq1 : Int32) : Int32 × JD := (j_let (f_X13_refused (j_sI d 57 0 0) 1) (fun q24 => (q24.1, q24.2)))
set_option maxRecDepth 100000 in
set_option maxHeartbeats 4000000 in
theorem s_X13_firmn (g : JG) (d : JD) (pq0 : Int32) (pq1 : Int32) (h0 : j_sh g 0 TS_W RS_W) (hla : g.2.2.1 57 3 = none) : JM mi_X13_firm 0 0 (g, d) [.ref 57, .int pq0, .int pq1] (some (some (.int (f_X13_firmn d pq0 pq1).1), (g, (f_X13_firmn d pq0 pq1).2))) := by
  refine JM_of (by decide) rfl (Nat.le_of_ble_eq_true rfl) ?_
  refine J_loc (loc' := [(0, .ref 57), (1, .int pq0), (2, .int pq1)]) [0, 1, 2] rfl ?_
  obtain ⟨k, hk⟩ : ∃ k : Int32 × JD → Option (Option Value × JH), ∀ r9, k r9 = some (some (.int r9.1), (g, r9.2)) := ⟨_, fun _ => rfl⟩
  refine J_eqo (hk (f_X13_firmn d pq0 pq1)).symm ?_
  unfold f_X13_firmn
  refine J_aload_n (pc := 0) 0 dX13_firm_0 rfl rfl ?_
  refine J_iconst (pc := 1) (v := 0) dX13_firm_1 (by decide) ?_
  refine J_putI (pc := 2) dX13_firm_2 fl_X13_42 ft_12_0 (h0.lt 57 (by decide)) (h0.ty 57 rfl) rfl rfl rfl ?_
  refine J_aload_n (pc := 5) 0 dX13_firm_5 rfl rfl ?_
  refine J_iload_n (pc := 6) 1 dX13_firm_6 rfl rfl ?_
  refine JC_pt_i (J_callV (mi := mi_X13_firm) (mj := mi_X13_isFirm) (pc := 7) dX13_firm_7 ml_X13_366 ok_X13_isFirm ov_X13_isFirm ⟨Nat.le_of_ble_eq_true rfl, Nat.le_of_ble_eq_true rfl⟩ rfl (h0.lt 57 (by decide)) (h0.ty 57 rfl) rfl (s_X13_isFirmn g (j_sI d 57 0 0) pq0 h0 hla) rfl (Nat.le_of_ble_eq_true rfl)) ?_
  refine J_val (y := j_b false) rfl ?_
  refine J_eqo (o1 := if (j_b false) = 0 then _ else none) (if_pos (by decide)).symm ?_
  refine J_if_eq (pc := 10) (tgt := 22) dX13_firm_10 (by decide) (fun _ => ?_) (fun z9 => absurd z9 (by decide))
  refine J_aload_n (pc := 22) 0 dX13_firm_22 rfl rfl ?_
  refine J_iconst (pc := 23) (v := 1) dX13_firm_23 (by decide) ?_
  refine JC_lt_i (K := k) (J_callV (mi := mi_X13_firm) (mj := mi_X13_refused) (pc := 24) dX13_firm_24 ml_X13_48 ok_X13_refused ov_X13_refused ⟨Nat.le_of_ble_eq_true rfl, Nat.le_of_ble_eq_true rfl⟩ rfl (h0.lt 57 (by decide)) (h0.ty 57 rfl) rfl (s_X13_refused g (j_sI d 57 0 0) 1 h0) rfl (Nat.le_of_ble_eq_true rfl)) (fun q24 eq24 => ?_)
  exact J_eqo (hk (q24.1, q24.2)) (J_iret (pc := 27) dX13_firm_27 rfl)
def f_X13_commonsn (d : JD) : Int32 × JD := (j_let (f_X13_refused (j_sI d 57 0 0) 1) (fun q14 => (q14.1, q14.2)))
set_option maxRecDepth 100000 in
set_option maxHeartbeats 4000000 in
theorem s_X13_commonsn (g : JG) (d : JD) (h0 : j_sh g 0 TS_W RS_W) (hla : g.2.2.1 57 3 = none) : JM mi_X13_commons 0 0 (g, d) [.ref 57] (some (some (.int (f_X13_commonsn d ).1), (g, (f_X13_commonsn d ).2))) := by
  refine JM_of (by decide) rfl (Nat.le_of_ble_eq_true rfl) ?_
  refine J_loc (loc' := [(0, .ref 57)]) [0] rfl ?_
  obtain ⟨k, hk⟩ : ∃ k : Int32 × JD → Option (Option Value × JH), ∀ r9, k r9 = some (some (.int r9.1), (g, r9.2)) := ⟨_, fun _ => rfl⟩
  refine J_eqo (hk (f_X13_commonsn d )).symm ?_
  unfold f_X13_commonsn
  refine J_aload_n (pc := 0) 0 dX13_commons_0 rfl rfl ?_
  refine J_iconst (pc := 1) (v := 0) dX13_commons_1 (by decide) ?_
  refine J_putI (pc := 2) dX13_commons_2 fl_X13_42 ft_12_0 (h0.lt 57 (by decide)) (h0.ty 57 rfl) rfl rfl rfl ?_
  refine J_aload_n (pc := 5) 0 dX13_commons_5 rfl rfl ?_
  refine J_getN (pc := 6) dX13_commons_6 fl_X13_321 (h0.lt 57 (by decide)) (h0.ty 57 rfl) rfl hla ?_
  refine J_ifnonnullN (pc := 9) dX13_commons_9 ?_
  refine J_aload_n (pc := 12) 0 dX13_commons_12 rfl rfl ?_
  refine J_iconst (pc := 13) (v := 1) dX13_commons_13 (by decide) ?_
  refine JC_lt_i (K := k) (J_callV (mi := mi_X13_commons) (mj := mi_X13_refused) (pc := 14) dX13_commons_14 ml_X13_48 ok_X13_refused ov_X13_refused ⟨Nat.le_of_ble_eq_true rfl, Nat.le_of_ble_eq_true rfl⟩ rfl (h0.lt 57 (by decide)) (h0.ty 57 rfl) rfl (s_X13_refused g (j_sI d 57 0 0) 1 h0) rfl (Nat.le_of_ble_eq_true rfl)) (fun q14 eq14 => ?_)
  exact J_eqo (hk (q14.1, q14.2)) (J_iret (pc := 17) dX13_commons_17 rfl)
def f_X13_richestn (d : JD) : Int32 × JD := (j_let (f_X13_refused (j_sI d 57 0 0) 1) (fun q14 => (q14.1, q14.2)))
set_option maxRecDepth 100000 in
set_option maxHeartbeats 4000000 in
theorem s_X13_richestn (g : JG) (d : JD) (h0 : j_sh g 0 TS_W RS_W) (hla : g.2.2.1 57 3 = none) : JM mi_X13_richest 0 0 (g, d) [.ref 57] (some (some (.int (f_X13_richestn d ).1), (g, (f_X13_richestn d ).2))) := by
  refine JM_of (by decide) rfl (Nat.le_of_ble_eq_true rfl) ?_
  refine J_loc (loc' := [(0, .ref 57)]) [0] rfl ?_
  obtain ⟨k, hk⟩ : ∃ k : Int32 × JD → Option (Option Value × JH), ∀ r9, k r9 = some (some (.int r9.1), (g, r9.2)) := ⟨_, fun _ => rfl⟩
  refine J_eqo (hk (f_X13_richestn d )).symm ?_
  unfold f_X13_richestn
  refine J_aload_n (pc := 0) 0 dX13_richest_0 rfl rfl ?_
  refine J_iconst (pc := 1) (v := 0) dX13_richest_1 (by decide) ?_
  refine J_putI (pc := 2) dX13_richest_2 fl_X13_42 ft_12_0 (h0.lt 57 (by decide)) (h0.ty 57 rfl) rfl rfl rfl ?_
  refine J_aload_n (pc := 5) 0 dX13_richest_5 rfl rfl ?_
  refine J_getN (pc := 6) dX13_richest_6 fl_X13_321 (h0.lt 57 (by decide)) (h0.ty 57 rfl) rfl hla ?_
  refine J_ifnonnullN (pc := 9) dX13_richest_9 ?_
  refine J_aload_n (pc := 12) 0 dX13_richest_12 rfl rfl ?_
  refine J_iconst (pc := 13) (v := 1) dX13_richest_13 (by decide) ?_
  refine JC_lt_i (K := k) (J_callV (mi := mi_X13_richest) (mj := mi_X13_refused) (pc := 14) dX13_richest_14 ml_X13_48 ok_X13_refused ov_X13_refused ⟨Nat.le_of_ble_eq_true rfl, Nat.le_of_ble_eq_true rfl⟩ rfl (h0.lt 57 (by decide)) (h0.ty 57 rfl) rfl (s_X13_refused g (j_sI d 57 0 0) 1 h0) rfl (Nat.le_of_ble_eq_true rfl)) (fun q14 eq14 => ?_)
  exact J_eqo (hk (q14.1, q14.2)) (J_iret (pc := 17) dX13_richest_17 rfl)
def f_X13_groundn (d : JD) : Int32 × JD := (j_let (f_X13_refused (j_sI d 57 0 0) 1) (fun q14 => (q14.1, q14.2)))
set_option maxRecDepth 100000 in
set_option maxHeartbeats 4000000 in
theorem s_X13_groundn (g : JG) (d : JD) (h0 : j_sh g 0 TS_W RS_W) (hla : g.2.2.1 57 3 = none) : JM mi_X13_ground 0 0 (g, d) [.ref 57] (some (some (.int (f_X13_groundn d ).1), (g, (f_X13_groundn d ).2))) := by
  refine JM_of (by decide) rfl (Nat.le_of_ble_eq_true rfl) ?_
  refine J_loc (loc' := [(0, .ref 57)]) [0] rfl ?_
  obtain ⟨k, hk⟩ : ∃ k : Int32 × JD → Option (Option Value × JH), ∀ r9, k r9 = some (some (.int r9.1), (g, r9.2)) := ⟨_, fun _ => rfl⟩
  refine J_eqo (hk (f_X13_groundn d )).symm ?_
  unfold f_X13_groundn
  refine J_aload_n (pc := 0) 0 dX13_ground_0 rfl rfl ?_
  refine J_iconst (pc := 1) (v := 0) dX13_ground_1 (by decide) ?_
  refine J_putI (pc := 2) dX13_ground_2 fl_X13_42 ft_12_0 (h0.lt 57 (by decide)) (h0.ty 57 rfl) rfl rfl rfl ?_
  refine J_aload_n (pc := 5) 0 dX13_ground_5 rfl rfl ?_
  refine J_getN (pc := 6) dX13_ground_6 fl_X13_321 (h0.lt 57 (by decide)) (h0.ty 57 rfl) rfl hla ?_
  refine J_ifnonnullN (pc := 9) dX13_ground_9 ?_
  refine J_aload_n (pc := 12) 0 dX13_ground_12 rfl rfl ?_
  refine J_iconst (pc := 13) (v := 1) dX13_ground_13 (by decide) ?_
  refine JC_lt_i (K := k) (J_callV (mi := mi_X13_ground) (mj := mi_X13_refused) (pc := 14) dX13_ground_14 ml_X13_48 ok_X13_refused ov_X13_refused ⟨Nat.le_of_ble_eq_true rfl, Nat.le_of_ble_eq_true rfl⟩ rfl (h0.lt 57 (by decide)) (h0.ty 57 rfl) rfl (s_X13_refused g (j_sI d 57 0 0) 1 h0) rfl (Nat.le_of_ble_eq_true rfl)) (fun q14 eq14 => ?_)
  refine J_goto (pc := 17) (tgt := 31) dX13_ground_17 (by decide) ?_
  exact J_eqo (hk (q14.1, q14.2)) (J_iret (pc := 31) dX13_ground_31 rfl)
def f_X13_hasIfn (d : JD) (pq0 : Int32) (pq1 : Int32) (pq2 : Int32) : Int32 × JD := (j_let (f_X13_refused (j_sI d 57 0 0) 1) (fun q23 => (q23.1, q23.2)))
set_option maxRecDepth 100000 in
set_option maxHeartbeats 4000000 in
theorem s_X13_hasIfn (g : JG) (d : JD) (pq0 : Int32) (pq1 : Int32) (pq2 : Int32) (h0 : j_sh g 0 TS_W RS_W) (hla : g.2.2.1 57 3 = none) : JM mi_X13_hasIf 0 0 (g, d) [.ref 57, .int pq0, .int pq1, .int pq2] (some (some (.int (f_X13_hasIfn d pq0 pq1 pq2).1), (g, (f_X13_hasIfn d pq0 pq1 pq2).2))) := by
  refine JM_of (by decide) rfl (Nat.le_of_ble_eq_true rfl) ?_
  refine J_loc (loc' := [(0, .ref 57), (1, .int pq0), (2, .int pq1), (3, .int pq2)]) [0, 1, 2, 3] rfl ?_
  obtain ⟨k, hk⟩ : ∃ k : Int32 × JD → Option (Option Value × JH), ∀ r9, k r9 = some (some (.int r9.1), (g, r9.2)) := ⟨_, fun _ => rfl⟩
  refine J_eqo (hk (f_X13_hasIfn d pq0 pq1 pq2)).symm ?_
  unfold f_X13_hasIfn
  refine J_aload_n (pc := 0) 0 dX13_hasIf_0 rfl rfl ?_
  refine J_iconst (pc := 1) (v := 0) dX13_hasIf_1 (by decide) ?_
  refine J_putI (pc := 2) dX13_hasIf_2 fl_X13_42 ft_12_0 (h0.lt 57 (by decide)) (h0.ty 57 rfl) rfl rfl rfl ?_
  refine J_aload_n (pc := 5) 0 dX13_hasIf_5 rfl rfl ?_
  refine J_iload_n (pc := 6) 1 dX13_hasIf_6 rfl rfl ?_
  refine JC_pt_i (J_callV (mi := mi_X13_hasIf) (mj := mi_X13_isPerson) (pc := 7) dX13_hasIf_7 ml_X13_351 ok_X13_isPerson ov_X13_isPerson ⟨Nat.le_of_ble_eq_true rfl, Nat.le_of_ble_eq_true rfl⟩ rfl (h0.lt 57 (by decide)) (h0.ty 57 rfl) rfl (s_X13_isPersonn g (j_sI d 57 0 0) pq0 h0 hla) rfl (Nat.le_of_ble_eq_true rfl)) ?_
  refine J_val (y := j_b false) rfl ?_
  refine J_eqo (o1 := if (j_b false) = 0 then _ else none) (if_pos (by decide)).symm ?_
  refine J_if_eq (pc := 10) (tgt := 21) dX13_hasIf_10 (by decide) (fun _ => ?_) (fun z9 => absurd z9 (by decide))
  refine J_aload_n (pc := 21) 0 dX13_hasIf_21 rfl rfl ?_
  refine J_iconst (pc := 22) (v := 1) dX13_hasIf_22 (by decide) ?_
  refine JC_lt_i (K := k) (J_callV (mi := mi_X13_hasIf) (mj := mi_X13_refused) (pc := 23) dX13_hasIf_23 ml_X13_48 ok_X13_refused ov_X13_refused ⟨Nat.le_of_ble_eq_true rfl, Nat.le_of_ble_eq_true rfl⟩ rfl (h0.lt 57 (by decide)) (h0.ty 57 rfl) rfl (s_X13_refused g (j_sI d 57 0 0) 1 h0) rfl (Nat.le_of_ble_eq_true rfl)) (fun q23 eq23 => ?_)
  exact J_eqo (hk (q23.1, q23.2)) (J_iret (pc := 26) dX13_hasIf_26 rfl)
def f_X13_cann (d : JD) (pq0 : Int32) : Int32 × JD := (j_let (f_X13_refused (j_sI d 57 0 0) 1) (fun q31 => (q31.1, q31.2)))
set_option maxRecDepth 100000 in
set_option maxHeartbeats 4000000 in
theorem s_X13_cann (g : JG) (d : JD) (pq0 : Int32) (h0 : j_sh g 0 TS_W RS_W) (hla : g.2.2.1 57 3 = none) : JM mi_X13_can 0 0 (g, d) [.ref 57, .int pq0] (some (some (.int (f_X13_cann d pq0).1), (g, (f_X13_cann d pq0).2))) := by
  refine JM_of (by decide) rfl (Nat.le_of_ble_eq_true rfl) ?_
  refine J_loc (loc' := [(0, .ref 57), (1, .int pq0)]) [0, 1] rfl ?_
  obtain ⟨k, hk⟩ : ∃ k : Int32 × JD → Option (Option Value × JH), ∀ r9, k r9 = some (some (.int r9.1), (g, r9.2)) := ⟨_, fun _ => rfl⟩
  refine J_eqo (hk (f_X13_cann d pq0)).symm ?_
  unfold f_X13_cann
  refine J_aload_n (pc := 0) 0 dX13_can_0 rfl rfl ?_
  refine J_iconst (pc := 1) (v := 0) dX13_can_1 (by decide) ?_
  refine J_putI (pc := 2) dX13_can_2 fl_X13_42 ft_12_0 (h0.lt 57 (by decide)) (h0.ty 57 rfl) rfl rfl rfl ?_
  refine J_aload_n (pc := 5) 0 dX13_can_5 rfl rfl ?_
  refine J_getN (pc := 6) dX13_can_6 fl_X13_321 (h0.lt 57 (by decide)) (h0.ty 57 rfl) rfl hla ?_
  refine J_ifnullN (pc := 9) (tgt := 29) dX13_can_9 (by decide) ?_
  refine J_aload_n (pc := 29) 0 dX13_can_29 rfl rfl ?_
  refine J_iconst (pc := 30) (v := 1) dX13_can_30 (by decide) ?_
  refine JC_lt_i (K := k) (J_callV (mi := mi_X13_can) (mj := mi_X13_refused) (pc := 31) dX13_can_31 ml_X13_48 ok_X13_refused ov_X13_refused ⟨Nat.le_of_ble_eq_true rfl, Nat.le_of_ble_eq_true rfl⟩ rfl (h0.lt 57 (by decide)) (h0.ty 57 rfl) rfl (s_X13_refused g (j_sI d 57 0 0) 1 h0) rfl (Nat.le_of_ble_eq_true rfl)) (fun q31 eq31 => ?_)
  exact J_eqo (hk (q31.1, q31.2)) (J_iret (pc := 34) dX13_can_34 rfl)
def f_X13_errandn (d : JD) : Int32 × JD := (j_let (f_X13_refused (j_sI d 57 0 0) 1) (fun q14 => (q14.1, q14.2)))
set_option maxRecDepth 100000 in
set_option maxHeartbeats 4000000 in
theorem s_X13_errandn (g : JG) (d : JD) (h0 : j_sh g 0 TS_W RS_W) (hla : g.2.2.1 57 3 = none) : JM mi_X13_errand 0 0 (g, d) [.ref 57] (some (some (.int (f_X13_errandn d ).1), (g, (f_X13_errandn d ).2))) := by
  refine JM_of (by decide) rfl (Nat.le_of_ble_eq_true rfl) ?_
  refine J_loc (loc' := [(0, .ref 57)]) [0] rfl ?_
  obtain ⟨k, hk⟩ : ∃ k : Int32 × JD → Option (Option Value × JH), ∀ r9, k r9 = some (some (.int r9.1), (g, r9.2)) := ⟨_, fun _ => rfl⟩
  refine J_eqo (hk (f_X13_errandn d )).symm ?_
  unfold f_X13_errandn
  refine J_aload_n (pc := 0) 0 dX13_errand_0 rfl rfl ?_
  refine J_iconst (pc := 1) (v := 0) dX13_errand_1 (by decide) ?_
  refine J_putI (pc := 2) dX13_errand_2 fl_X13_42 ft_12_0 (h0.lt 57 (by decide)) (h0.ty 57 rfl) rfl rfl rfl ?_
  refine J_aload_n (pc := 5) 0 dX13_errand_5 rfl rfl ?_
  refine J_getN (pc := 6) dX13_errand_6 fl_X13_321 (h0.lt 57 (by decide)) (h0.ty 57 rfl) rfl hla ?_
  refine J_ifnonnullN (pc := 9) dX13_errand_9 ?_
  refine J_aload_n (pc := 12) 0 dX13_errand_12 rfl rfl ?_
  refine J_iconst (pc := 13) (v := 1) dX13_errand_13 (by decide) ?_
  refine JC_lt_i (K := k) (J_callV (mi := mi_X13_errand) (mj := mi_X13_refused) (pc := 14) dX13_errand_14 ml_X13_48 ok_X13_refused ov_X13_refused ⟨Nat.le_of_ble_eq_true rfl, Nat.le_of_ble_eq_true rfl⟩ rfl (h0.lt 57 (by decide)) (h0.ty 57 rfl) rfl (s_X13_refused g (j_sI d 57 0 0) 1 h0) rfl (Nat.le_of_ble_eq_true rfl)) (fun q14 eq14 => ?_)
  exact J_eqo (hk (q14.1, q14.2)) (J_iret (pc := 17) dX13_errand_17 rfl)
def f_X13_errandAtn (d : JD) (pq0 : Int32) : Int32 × JD := (j_let (f_X13_refused (j_sI d 57 0 0) 1) (fun q14 => (q14.1, q14.2)))
set_option maxRecDepth 100000 in
set_option maxHeartbeats 4000000 in
theorem s_X13_errandAtn (g : JG) (d : JD) (pq0 : Int32) (h0 : j_sh g 0 TS_W RS_W) (hla : g.2.2.1 57 3 = none) : JM mi_X13_errandAt 0 0 (g, d) [.ref 57, .int pq0] (some (some (.int (f_X13_errandAtn d pq0).1), (g, (f_X13_errandAtn d pq0).2))) := by
  refine JM_of (by decide) rfl (Nat.le_of_ble_eq_true rfl) ?_
  refine J_loc (loc' := [(0, .ref 57), (1, .int pq0)]) [0, 1] rfl ?_
  obtain ⟨k, hk⟩ : ∃ k : Int32 × JD → Option (Option Value × JH), ∀ r9, k r9 = some (some (.int r9.1), (g, r9.2)) := ⟨_, fun _ => rfl⟩
  refine J_eqo (hk (f_X13_errandAtn d pq0)).symm ?_
  unfold f_X13_errandAtn
  refine J_aload_n (pc := 0) 0 dX13_errandAt_0 rfl rfl ?_
  refine J_iconst (pc := 1) (v := 0) dX13_errandAt_1 (by decide) ?_
  refine J_putI (pc := 2) dX13_errandAt_2 fl_X13_42 ft_12_0 (h0.lt 57 (by decide)) (h0.ty 57 rfl) rfl rfl rfl ?_
  refine J_aload_n (pc := 5) 0 dX13_errandAt_5 rfl rfl ?_
  refine J_getN (pc := 6) dX13_errandAt_6 fl_X13_321 (h0.lt 57 (by decide)) (h0.ty 57 rfl) rfl hla ?_
  refine J_ifnonnullN (pc := 9) dX13_errandAt_9 ?_
  refine J_aload_n (pc := 12) 0 dX13_errandAt_12 rfl rfl ?_
  refine J_iconst (pc := 13) (v := 1) dX13_errandAt_13 (by decide) ?_
  refine JC_lt_i (K := k) (J_callV (mi := mi_X13_errandAt) (mj := mi_X13_refused) (pc := 14) dX13_errandAt_14 ml_X13_48 ok_X13_refused ov_X13_refused ⟨Nat.le_of_ble_eq_true rfl, Nat.le_of_ble_eq_true rfl⟩ rfl (h0.lt 57 (by decide)) (h0.ty 57 rfl) rfl (s_X13_refused g (j_sI d 57 0 0) 1 h0) rfl (Nat.le_of_ble_eq_true rfl)) (fun q14 eq14 => ?_)
  exact J_eqo (hk (q14.1, q14.2)) (J_iret (pc := 17) dX13_errandAt_17 rfl)
def f_X13_metn (d : JD) : Int32 × JD := (j_let (f_X13_refused (j_sI d 57 0 0) 1) (fun q14 => (q14.1, q14.2)))
set_option maxRecDepth 100000 in
set_option maxHeartbeats 4000000 in
theorem s_X13_metn (g : JG) (d : JD) (h0 : j_sh g 0 TS_W RS_W) (hla : g.2.2.1 57 3 = none) : JM mi_X13_met 0 0 (g, d) [.ref 57] (some (some (.int (f_X13_metn d ).1), (g, (f_X13_metn d ).2))) := by
  refine JM_of (by decide) rfl (Nat.le_of_ble_eq_true rfl) ?_
  refine J_loc (loc' := [(0, .ref 57)]) [0] rfl ?_
  obtain ⟨k, hk⟩ : ∃ k : Int32 × JD → Option (Option Value × JH), ∀ r9, k r9 = some (some (.int r9.1), (g, r9.2)) := ⟨_, fun _ => rfl⟩
  refine J_eqo (hk (f_X13_metn d )).symm ?_
  unfold f_X13_metn
  refine J_aload_n (pc := 0) 0 dX13_met_0 rfl rfl ?_
  refine J_iconst (pc := 1) (v := 0) dX13_met_1 (by decide) ?_
  refine J_putI (pc := 2) dX13_met_2 fl_X13_42 ft_12_0 (h0.lt 57 (by decide)) (h0.ty 57 rfl) rfl rfl rfl ?_
  refine J_aload_n (pc := 5) 0 dX13_met_5 rfl rfl ?_
  refine J_getN (pc := 6) dX13_met_6 fl_X13_321 (h0.lt 57 (by decide)) (h0.ty 57 rfl) rfl hla ?_
  refine J_ifnonnullN (pc := 9) dX13_met_9 ?_
  refine J_aload_n (pc := 12) 0 dX13_met_12 rfl rfl ?_
  refine J_iconst (pc := 13) (v := 1) dX13_met_13 (by decide) ?_
  refine JC_lt_i (K := k) (J_callV (mi := mi_X13_met) (mj := mi_X13_refused) (pc := 14) dX13_met_14 ml_X13_48 ok_X13_refused ov_X13_refused ⟨Nat.le_of_ble_eq_true rfl, Nat.le_of_ble_eq_true rfl⟩ rfl (h0.lt 57 (by decide)) (h0.ty 57 rfl) rfl (s_X13_refused g (j_sI d 57 0 0) 1 h0) rfl (Nat.le_of_ble_eq_true rfl)) (fun q14 eq14 => ?_)
  exact J_eqo (hk (q14.1, q14.2)) (J_iret (pc := 17) dX13_met_17 rfl)
def f_X13_movesForn (d : JD) (pq0 : Int32) (pq1 : Int32) : Int32 × JD := (j_let (f_X13_refused (j_sI d 57 0 0) 1) (fun q22 => (q22.1, q22.2)))
set_option maxRecDepth 100000 in
set_option maxHeartbeats 4000000 in
theorem s_X13_movesForn (g : JG) (d : JD) (pq0 : Int32) (pq1 : Int32) (h0 : j_sh g 0 TS_W RS_W) (hla : g.2.2.1 57 3 = none) : JM mi_X13_movesFor 0 0 (g, d) [.ref 57, .int pq0, .int pq1] (some (some (.int (f_X13_movesForn d pq0 pq1).1), (g, (f_X13_movesForn d pq0 pq1).2))) := by
  refine JM_of (by decide) rfl (Nat.le_of_ble_eq_true rfl) ?_
  refine J_loc (loc' := [(0, .ref 57), (1, .int pq0), (2, .int pq1)]) [0, 1, 2] rfl ?_
  obtain ⟨k, hk⟩ : ∃ k : Int32 × JD → Option (Option Value × JH), ∀ r9, k r9 = some (some (.int r9.1), (g, r9.2)) := ⟨_, fun _ => rfl⟩
  refine J_eqo (hk (f_X13_movesForn d pq0 pq1)).symm ?_
  unfold f_X13_movesForn
  refine J_aload_n (pc := 0) 0 dX13_movesFor_0 rfl rfl ?_
  refine J_iconst (pc := 1) (v := 0) dX13_movesFor_1 (by decide) ?_
  refine J_putI (pc := 2) dX13_movesFor_2 fl_X13_42 ft_12_0 (h0.lt 57 (by decide)) (h0.ty 57 rfl) rfl rfl rfl ?_
  refine J_aload_n (pc := 5) 0 dX13_movesFor_5 rfl rfl ?_
  refine J_aload_n (pc := 6) 0 dX13_movesFor_6 rfl rfl ?_
  refine J_iload_n (pc := 7) 1 dX13_movesFor_7 rfl rfl ?_
  refine JC_pt_i (J_callV (mi := mi_X13_movesFor) (mj := mi_X13_isPerson) (pc := 8) dX13_movesFor_8 ml_X13_351 ok_X13_isPerson ov_X13_isPerson ⟨Nat.le_of_ble_eq_true rfl, Nat.le_of_ble_eq_true rfl⟩ rfl (h0.lt 57 (by decide)) (h0.ty 57 rfl) rfl (s_X13_isPersonn g (j_sI d 57 0 0) pq0 h0 hla) rfl (Nat.le_of_ble_eq_true rfl)) ?_
  refine J_val (y := j_b false) rfl ?_
  refine J_iload_n (pc := 11) 2 dX13_movesFor_11 rfl rfl ?_
  refine JC_pt_i (J_callV (mi := mi_X13_movesFor) (mj := mi_X13_refusesMuch) (pc := 12) dX13_movesFor_12 ml_X13_401 ok_X13_refusesMuch ov_X13_refusesMuch ⟨Nat.le_of_ble_eq_true rfl, Nat.le_of_ble_eq_true rfl⟩ rfl (h0.lt 57 (by decide)) (h0.ty 57 rfl) rfl (s_X13_refusesMuch g (j_sI d 57 0 0) (j_b false) pq1 h0) rfl (Nat.le_of_ble_eq_true rfl)) ?_
  refine J_val (y := 1) rfl ?_
  refine J_istore_n (pc := 15) (loc' := [(3, .int 1), (0, .ref 57), (1, .int pq0), (2, .int pq1)]) dX13_movesFor_15 rfl (by decide) rfl ?_
  refine J_iload_n (pc := 16) 0 dX13_movesFor_16 rfl rfl ?_
  refine J_eqo (o1 := if (1 : Int32) ≤ 0 then none else _) (if_neg (by decide)).symm ?_
  refine J_if_le (pc := 17) (tgt := 26) dX13_movesFor_17 (by decide) (fun z9 => absurd z9 (by decide)) (fun _ => ?_)
  refine J_aload_n (pc := 20) 1 dX13_movesFor_20 rfl rfl ?_
  refine J_iload_n (pc := 21) 0 dX13_movesFor_21 rfl rfl ?_
  refine JC_lt_i (K := k) (J_callV (mi := mi_X13_movesFor) (mj := mi_X13_refused) (pc := 22) dX13_movesFor_22 ml_X13_48 ok_X13_refused ov_X13_refused ⟨Nat.le_of_ble_eq_true rfl, Nat.le_of_ble_eq_true rfl⟩ rfl (h0.lt 57 (by decide)) (h0.ty 57 rfl) rfl (s_X13_refused g (j_sI d 57 0 0) 1 h0) rfl (Nat.le_of_ble_eq_true rfl)) (fun q22 eq22 => ?_)
  exact J_eqo (hk (q22.1, q22.2)) (J_iret (pc := 25) dX13_movesFor_25 rfl)
def f_X13_mostByn (d : JD) (pq0 : Int32) (pq1 : Int32) : Int32 × JD := (j_let (f_X13_refused (j_sI d 57 0 0) 1) (fun q15 => (q15.1, q15.2)))
set_option maxRecDepth 100000 in
set_option maxHeartbeats 4000000 in
theorem s_X13_mostByn (g : JG) (d : JD) (pq0 : Int32) (pq1 : Int32) (h0 : j_sh g 0 TS_W RS_W) (hla : g.2.2.1 57 3 = none) : JM mi_X13_mostBy 0 0 (g, d) [.ref 57, .int pq0, .int pq1] (some (some (.int (f_X13_mostByn d pq0 pq1).1), (g, (f_X13_mostByn d pq0 pq1).2))) := by
  refine JM_of (by decide) rfl (Nat.le_of_ble_eq_true rfl) ?_
  refine J_loc (loc' := [(0, .ref 57), (1, .int pq0), (2, .int pq1)]) [0, 1, 2] rfl ?_
  obtain ⟨k, hk⟩ : ∃ k : Int32 × JD → Option (Option Value × JH), ∀ r9, k r9 = some (some (.int r9.1), (g, r9.2)) := ⟨_, fun _ => rfl⟩
  refine J_eqo (hk (f_X13_mostByn d pq0 pq1)).symm ?_
  unfold f_X13_mostByn
  refine J_aload_n (pc := 0) 0 dX13_mostBy_0 rfl rfl ?_
  refine J_iconst (pc := 1) (v := 0) dX13_mostBy_1 (by decide) ?_
  refine J_putI (pc := 2) dX13_mostBy_2 fl_X13_42 ft_12_0 (h0.lt 57 (by decide)) (h0.ty 57 rfl) rfl rfl rfl ?_
  refine J_aload_n (pc := 5) 0 dX13_mostBy_5 rfl rfl ?_
  refine J_iload_n (pc := 6) 1 dX13_mostBy_6 rfl rfl ?_
  refine JC_pt_i (J_callV (mi := mi_X13_mostBy) (mj := mi_X13_isPerson) (pc := 7) dX13_mostBy_7 ml_X13_351 ok_X13_isPerson ov_X13_isPerson ⟨Nat.le_of_ble_eq_true rfl, Nat.le_of_ble_eq_true rfl⟩ rfl (h0.lt 57 (by decide)) (h0.ty 57 rfl) rfl (s_X13_isPersonn g (j_sI d 57 0 0) pq0 h0 hla) rfl (Nat.le_of_ble_eq_true rfl)) ?_
  refine J_val (y := j_b false) rfl ?_
  refine J_eqo (o1 := if (j_b false) = 0 then _ else none) (if_pos (by decide)).symm ?_
  refine J_if_ne (pc := 10) (tgt := 19) dX13_mostBy_10 (by decide) (fun z9 => absurd z9 (by decide)) (fun _ => ?_)
  refine J_aload_n (pc := 13) 0 dX13_mostBy_13 rfl rfl ?_
  refine J_iconst (pc := 14) (v := 1) dX13_mostBy_14 (by decide) ?_
  refine JC_lt_i (K := k) (J_callV (mi := mi_X13_mostBy) (mj := mi_X13_refused) (pc := 15) dX13_mostBy_15 ml_X13_48 ok_X13_refused ov_X13_refused ⟨Nat.le_of_ble_eq_true rfl, Nat.le_of_ble_eq_true rfl⟩ rfl (h0.lt 57 (by decide)) (h0.ty 57 rfl) rfl (s_X13_refused g (j_sI d 57 0 0) 1 h0) rfl (Nat.le_of_ble_eq_true rfl)) (fun q15 eq15 => ?_)
  exact J_eqo (hk (q15.1, q15.2)) (J_iret (pc := 18) dX13_mostBy_18 rfl)
def f_X13_reachn (d : JD) : Int32 × JD := (j_let (f_X13_refused (j_sI d 57 0 0) 1) (fun q14 => (q14.1, q14.2)))
set_option maxRecDepth 100000 in
set_option maxHeartbeats 4000000 in
theorem s_X13_reachn (g : JG) (d : JD) (h0 : j_sh g 0 TS_W RS_W) (hla : g.2.2.1 57 3 = none) : JM mi_X13_reach 0 0 (g, d) [.ref 57] (some (some (.int (f_X13_reachn d ).1), (g, (f_X13_reachn d ).2))) := by
  refine JM_of (by decide) rfl (Nat.le_of_ble_eq_true rfl) ?_
  refine J_loc (loc' := [(0, .ref 57)]) [0] rfl ?_
  obtain ⟨k, hk⟩ : ∃ k : Int32 × JD → Option (Option Value × JH), ∀ r9, k r9 = some (some (.int r9.1), (g, r9.2)) := ⟨_, fun _ => rfl⟩
  refine J_eqo (hk (f_X13_reachn d )).symm ?_
  unfold f_X13_reachn
  refine J_aload_n (pc := 0) 0 dX13_reach_0 rfl rfl ?_
  refine J_iconst (pc := 1) (v := 0) dX13_reach_1 (by decide) ?_
  refine J_putI (pc := 2) dX13_reach_2 fl_X13_42 ft_12_0 (h0.lt 57 (by decide)) (h0.ty 57 rfl) rfl rfl rfl ?_
  refine J_aload_n (pc := 5) 0 dX13_reach_5 rfl rfl ?_
  refine J_getN (pc := 6) dX13_reach_6 fl_X13_321 (h0.lt 57 (by decide)) (h0.ty 57 rfl) rfl hla ?_
  refine J_ifnonnullN (pc := 9) dX13_reach_9 ?_
  refine J_aload_n (pc := 12) 0 dX13_reach_12 rfl rfl ?_
  refine J_iconst (pc := 13) (v := 1) dX13_reach_13 (by decide) ?_
  refine JC_lt_i (K := k) (J_callV (mi := mi_X13_reach) (mj := mi_X13_refused) (pc := 14) dX13_reach_14 ml_X13_48 ok_X13_refused ov_X13_refused ⟨Nat.le_of_ble_eq_true rfl, Nat.le_of_ble_eq_true rfl⟩ rfl (h0.lt 57 (by decide)) (h0.ty 57 rfl) rfl (s_X13_refused g (j_sI d 57 0 0) 1 h0) rfl (Nat.le_of_ble_eq_true rfl)) (fun q14 eq14 => ?_)
  exact J_eqo (hk (q14.1, q14.2)) (J_iret (pc := 17) dX13_reach_17 rfl)
def f_X13_covern (d : JD) : Int32 × JD := (j_let (f_X13_refused (j_sI d 57 0 0) 1) (fun q14 => (q14.1, q14.2)))
set_option maxRecDepth 100000 in
set_option maxHeartbeats 4000000 in
theorem s_X13_covern (g : JG) (d : JD) (h0 : j_sh g 0 TS_W RS_W) (hla : g.2.2.1 57 3 = none) : JM mi_X13_cover 0 0 (g, d) [.ref 57] (some (some (.int (f_X13_covern d ).1), (g, (f_X13_covern d ).2))) := by
  refine JM_of (by decide) rfl (Nat.le_of_ble_eq_true rfl) ?_
  refine J_loc (loc' := [(0, .ref 57)]) [0] rfl ?_
  obtain ⟨k, hk⟩ : ∃ k : Int32 × JD → Option (Option Value × JH), ∀ r9, k r9 = some (some (.int r9.1), (g, r9.2)) := ⟨_, fun _ => rfl⟩
  refine J_eqo (hk (f_X13_covern d )).symm ?_
  unfold f_X13_covern
  refine J_aload_n (pc := 0) 0 dX13_cover_0 rfl rfl ?_
  refine J_iconst (pc := 1) (v := 0) dX13_cover_1 (by decide) ?_
  refine J_putI (pc := 2) dX13_cover_2 fl_X13_42 ft_12_0 (h0.lt 57 (by decide)) (h0.ty 57 rfl) rfl rfl rfl ?_
  refine J_aload_n (pc := 5) 0 dX13_cover_5 rfl rfl ?_
  refine J_getN (pc := 6) dX13_cover_6 fl_X13_321 (h0.lt 57 (by decide)) (h0.ty 57 rfl) rfl hla ?_
  refine J_ifnonnullN (pc := 9) dX13_cover_9 ?_
  refine J_aload_n (pc := 12) 0 dX13_cover_12 rfl rfl ?_
  refine J_iconst (pc := 13) (v := 1) dX13_cover_13 (by decide) ?_
  refine JC_lt_i (K := k) (J_callV (mi := mi_X13_cover) (mj := mi_X13_refused) (pc := 14) dX13_cover_14 ml_X13_48 ok_X13_refused ov_X13_refused ⟨Nat.le_of_ble_eq_true rfl, Nat.le_of_ble_eq_true rfl⟩ rfl (h0.lt 57 (by decide)) (h0.ty 57 rfl) rfl (s_X13_refused g (j_sI d 57 0 0) 1 h0) rfl (Nat.le_of_ble_eq_true rfl)) (fun q14 eq14 => ?_)
  exact J_eqo (hk (q14.1, q14.2)) (J_iret (pc := 17) dX13_cover_17 rfl)
def f_X13_coverAtn (d : JD) (pq0 : Int32) : Int32 × JD := (j_let (f_X13_refused (j_sI d 57 0 0) 1) (fun q15 => (q15.1, q15.2)))
set_option maxRecDepth 100000 in
set_option maxHeartbeats 4000000 in
theorem s_X13_coverAtn (g : JG) (d : JD) (pq0 : Int32) (h0 : j_sh g 0 TS_W RS_W) (hla : g.2.2.1 57 3 = none) : JM mi_X13_coverAt 0 0 (g, d) [.ref 57, .int pq0] (some (some (.int (f_X13_coverAtn d pq0).1), (g, (f_X13_coverAtn d pq0).2))) := by
  refine JM_of (by decide) rfl (Nat.le_of_ble_eq_true rfl) ?_
  refine J_loc (loc' := [(0, .ref 57), (1, .int pq0)]) [0, 1] rfl ?_
  obtain ⟨k, hk⟩ : ∃ k : Int32 × JD → Option (Option Value × JH), ∀ r9, k r9 = some (some (.int r9.1), (g, r9.2)) := ⟨_, fun _ => rfl⟩
  refine J_eqo (hk (f_X13_coverAtn d pq0)).symm ?_
  unfold f_X13_coverAtn
  refine J_aload_n (pc := 0) 0 dX13_coverAt_0 rfl rfl ?_
  refine J_iconst (pc := 1) (v := 0) dX13_coverAt_1 (by decide) ?_
  refine J_putI (pc := 2) dX13_coverAt_2 fl_X13_42 ft_12_0 (h0.lt 57 (by decide)) (h0.ty 57 rfl) rfl rfl rfl ?_
  refine J_aload_n (pc := 5) 0 dX13_coverAt_5 rfl rfl ?_
  refine J_iload_n (pc := 6) 1 dX13_coverAt_6 rfl rfl ?_
  refine JC_pt_i (J_callV (mi := mi_X13_coverAt) (mj := mi_X13_isGate) (pc := 7) dX13_coverAt_7 ml_X13_345 ok_X13_isGate ov_X13_isGate ⟨Nat.le_of_ble_eq_true rfl, Nat.le_of_ble_eq_true rfl⟩ rfl (h0.lt 57 (by decide)) (h0.ty 57 rfl) rfl (s_X13_isGaten g (j_sI d 57 0 0) pq0 h0 hla) rfl (Nat.le_of_ble_eq_true rfl)) ?_
  refine J_val (y := j_b false) rfl ?_
  refine J_eqo (o1 := if (j_b false) = 0 then _ else none) (if_pos (by decide)).symm ?_
  refine J_if_ne (pc := 10) (tgt := 19) dX13_coverAt_10 (by decide) (fun z9 => absurd z9 (by decide)) (fun _ => ?_)
  refine J_aload_n (pc := 13) 0 dX13_coverAt_13 rfl rfl ?_
  refine J_iconst (pc := 14) (v := 1) dX13_coverAt_14 (by decide) ?_
  refine JC_lt_i (K := k) (J_callV (mi := mi_X13_coverAt) (mj := mi_X13_refused) (pc := 15) dX13_coverAt_15 ml_X13_48 ok_X13_refused ov_X13_refused ⟨Nat.le_of_ble_eq_true rfl, Nat.le_of_ble_eq_true rfl⟩ rfl (h0.lt 57 (by decide)) (h0.ty 57 rfl) rfl (s_X13_refused g (j_sI d 57 0 0) 1 h0) rfl (Nat.le_of_ble_eq_true rfl)) (fun q15 eq15 => ?_)
  exact J_eqo (hk (q15.1, q15.2)) (J_iret (pc := 18) dX13_coverAt_18 rfl)
def f_X13_stillsn (d : JD) : Int32 × JD := (j_let (f_X13_refused (j_sI d 57 0 0) 1) (fun q14 => (q14.1, q14.2)))
set_option maxRecDepth 100000 in
set_option maxHeartbeats 4000000 in
theorem s_X13_stillsn (g : JG) (d : JD) (h0 : j_sh g 0 TS_W RS_W) (hla : g.2.2.1 57 3 = none) : JM mi_X13_stills 0 0 (g, d) [.ref 57] (some (some (.int (f_X13_stillsn d ).1), (g, (f_X13_stillsn d ).2))) := by
  refine JM_of (by decide) rfl (Nat.le_of_ble_eq_true rfl) ?_
  refine J_loc (loc' := [(0, .ref 57)]) [0] rfl ?_
  obtain ⟨k, hk⟩ : ∃ k : Int32 × JD → Option (Option Value × JH), ∀ r9, k r9 = some (some (.int r9.1), (g, r9.2)) := ⟨_, fun _ => rfl⟩
  refine J_eqo (hk (f_X13_stillsn d )).symm ?_
  unfold f_X13_stillsn
  refine J_aload_n (pc := 0) 0 dX13_stills_0 rfl rfl ?_
  refine J_iconst (pc := 1) (v := 0) dX13_stills_1 (by decide) ?_
  refine J_putI (pc := 2) dX13_stills_2 fl_X13_42 ft_12_0 (h0.lt 57 (by decide)) (h0.ty 57 rfl) rfl rfl rfl ?_
  refine J_aload_n (pc := 5) 0 dX13_stills_5 rfl rfl ?_
  refine J_getN (pc := 6) dX13_stills_6 fl_X13_321 (h0.lt 57 (by decide)) (h0.ty 57 rfl) rfl hla ?_
  refine J_ifnonnullN (pc := 9) dX13_stills_9 ?_
  refine J_aload_n (pc := 12) 0 dX13_stills_12 rfl rfl ?_
  refine J_iconst (pc := 13) (v := 1) dX13_stills_13 (by decide) ?_
  refine JC_lt_i (K := k) (J_callV (mi := mi_X13_stills) (mj := mi_X13_refused) (pc := 14) dX13_stills_14 ml_X13_48 ok_X13_refused ov_X13_refused ⟨Nat.le_of_ble_eq_true rfl, Nat.le_of_ble_eq_true rfl⟩ rfl (h0.lt 57 (by decide)) (h0.ty 57 rfl) rfl (s_X13_refused g (j_sI d 57 0 0) 1 h0) rfl (Nat.le_of_ble_eq_true rfl)) (fun q14 eq14 => ?_)
  exact J_eqo (hk (q14.1, q14.2)) (J_iret (pc := 17) dX13_stills_17 rfl)
def f_X13_isStilln (d : JD) : Int32 × JD := (j_let (f_X13_refused (j_sI d 57 0 0) 1) (fun q14 => (q14.1, q14.2)))
set_option maxRecDepth 100000 in
set_option maxHeartbeats 4000000 in
theorem s_X13_isStilln (g : JG) (d : JD) (h0 : j_sh g 0 TS_W RS_W) (hla : g.2.2.1 57 3 = none) : JM mi_X13_isStill 0 0 (g, d) [.ref 57] (some (some (.int (f_X13_isStilln d ).1), (g, (f_X13_isStilln d ).2))) := by
  refine JM_of (by decide) rfl (Nat.le_of_ble_eq_true rfl) ?_
  refine J_loc (loc' := [(0, .ref 57)]) [0] rfl ?_
  obtain ⟨k, hk⟩ : ∃ k : Int32 × JD → Option (Option Value × JH), ∀ r9, k r9 = some (some (.int r9.1), (g, r9.2)) := ⟨_, fun _ => rfl⟩
  refine J_eqo (hk (f_X13_isStilln d )).symm ?_
  unfold f_X13_isStilln
  refine J_aload_n (pc := 0) 0 dX13_isStill_0 rfl rfl ?_
  refine J_iconst (pc := 1) (v := 0) dX13_isStill_1 (by decide) ?_
  refine J_putI (pc := 2) dX13_isStill_2 fl_X13_42 ft_12_0 (h0.lt 57 (by decide)) (h0.ty 57 rfl) rfl rfl rfl ?_
  refine J_aload_n (pc := 5) 0 dX13_isStill_5 rfl rfl ?_
  refine J_getN (pc := 6) dX13_isStill_6 fl_X13_321 (h0.lt 57 (by decide)) (h0.ty 57 rfl) rfl hla ?_
  refine J_ifnonnullN (pc := 9) dX13_isStill_9 ?_
  refine J_aload_n (pc := 12) 0 dX13_isStill_12 rfl rfl ?_
  refine J_iconst (pc := 13) (v := 1) dX13_isStill_13 (by decide) ?_
  refine JC_lt_i (K := k) (J_callV (mi := mi_X13_isStill) (mj := mi_X13_refused) (pc := 14) dX13_isStill_14 ml_X13_48 ok_X13_refused ov_X13_refused ⟨Nat.le_of_ble_eq_true rfl, Nat.le_of_ble_eq_true rfl⟩ rfl (h0.lt 57 (by decide)) (h0.ty 57 rfl) rfl (s_X13_refused g (j_sI d 57 0 0) 1 h0) rfl (Nat.le_of_ble_eq_true rfl)) (fun q14 eq14 => ?_)
  exact J_eqo (hk (q14.1, q14.2)) (J_iret (pc := 17) dX13_isStill_17 rfl)
def f_X13_fairestn (d : JD) : Int32 × JD := (j_let (f_X13_refused (j_sI d 57 0 0) 1) (fun q14 => (q14.1, q14.2)))
set_option maxRecDepth 100000 in
set_option maxHeartbeats 4000000 in
theorem s_X13_fairestn (g : JG) (d : JD) (h0 : j_sh g 0 TS_W RS_W) (hla : g.2.2.1 57 3 = none) : JM mi_X13_fairest 0 0 (g, d) [.ref 57] (some (some (.int (f_X13_fairestn d ).1), (g, (f_X13_fairestn d ).2))) := by
  refine JM_of (by decide) rfl (Nat.le_of_ble_eq_true rfl) ?_
  refine J_loc (loc' := [(0, .ref 57)]) [0] rfl ?_
  obtain ⟨k, hk⟩ : ∃ k : Int32 × JD → Option (Option Value × JH), ∀ r9, k r9 = some (some (.int r9.1), (g, r9.2)) := ⟨_, fun _ => rfl⟩
  refine J_eqo (hk (f_X13_fairestn d )).symm ?_
  unfold f_X13_fairestn
  refine J_aload_n (pc := 0) 0 dX13_fairest_0 rfl rfl ?_
  refine J_iconst (pc := 1) (v := 0) dX13_fairest_1 (by decide) ?_
  refine J_putI (pc := 2) dX13_fairest_2 fl_X13_42 ft_12_0 (h0.lt 57 (by decide)) (h0.ty 57 rfl) rfl rfl rfl ?_
  refine J_aload_n (pc := 5) 0 dX13_fairest_5 rfl rfl ?_
  refine J_getN (pc := 6) dX13_fairest_6 fl_X13_321 (h0.lt 57 (by decide)) (h0.ty 57 rfl) rfl hla ?_
  refine J_ifnonnullN (pc := 9) dX13_fairest_9 ?_
  refine J_aload_n (pc := 12) 0 dX13_fairest_12 rfl rfl ?_
  refine J_iconst (pc := 13) (v := 1) dX13_fairest_13 (by decide) ?_
  refine JC_lt_i (K := k) (J_callV (mi := mi_X13_fairest) (mj := mi_X13_refused) (pc := 14) dX13_fairest_14 ml_X13_48 ok_X13_refused ov_X13_refused ⟨Nat.le_of_ble_eq_true rfl, Nat.le_of_ble_eq_true rfl⟩ rfl (h0.lt 57 (by decide)) (h0.ty 57 rfl) rfl (s_X13_refused g (j_sI d 57 0 0) 1 h0) rfl (Nat.le_of_ble_eq_true rfl)) (fun q14 eq14 => ?_)
  exact J_eqo (hk (q14.1, q14.2)) (J_iret (pc := 17) dX13_fairest_17 rfl)
def f_X13_fairAtn (d : JD) (pq0 : Int32) : Int32 × JD := (j_let (f_X13_refused (j_sI d 57 0 0) 1) (fun q15 => (q15.1, q15.2)))
set_option maxRecDepth 100000 in
set_option maxHeartbeats 4000000 in
theorem s_X13_fairAtn (g : JG) (d : JD) (pq0 : Int32) (h0 : j_sh g 0 TS_W RS_W) (hla : g.2.2.1 57 3 = none) : JM mi_X13_fairAt 0 0 (g, d) [.ref 57, .int pq0] (some (some (.int (f_X13_fairAtn d pq0).1), (g, (f_X13_fairAtn d pq0).2))) := by
  refine JM_of (by decide) rfl (Nat.le_of_ble_eq_true rfl) ?_
  refine J_loc (loc' := [(0, .ref 57), (1, .int pq0)]) [0, 1] rfl ?_
  obtain ⟨k, hk⟩ : ∃ k : Int32 × JD → Option (Option Value × JH), ∀ r9, k r9 = some (some (.int r9.1), (g, r9.2)) := ⟨_, fun _ => rfl⟩
  refine J_eqo (hk (f_X13_fairAtn d pq0)).symm ?_
  unfold f_X13_fairAtn
  refine J_aload_n (pc := 0) 0 dX13_fairAt_0 rfl rfl ?_
  refine J_iconst (pc := 1) (v := 0) dX13_fairAt_1 (by decide) ?_
  refine J_putI (pc := 2) dX13_fairAt_2 fl_X13_42 ft_12_0 (h0.lt 57 (by decide)) (h0.ty 57 rfl) rfl rfl rfl ?_
  refine J_aload_n (pc := 5) 0 dX13_fairAt_5 rfl rfl ?_
  refine J_iload_n (pc := 6) 1 dX13_fairAt_6 rfl rfl ?_
  refine JC_pt_i (J_callV (mi := mi_X13_fairAt) (mj := mi_X13_isGate) (pc := 7) dX13_fairAt_7 ml_X13_345 ok_X13_isGate ov_X13_isGate ⟨Nat.le_of_ble_eq_true rfl, Nat.le_of_ble_eq_true rfl⟩ rfl (h0.lt 57 (by decide)) (h0.ty 57 rfl) rfl (s_X13_isGaten g (j_sI d 57 0 0) pq0 h0 hla) rfl (Nat.le_of_ble_eq_true rfl)) ?_
  refine J_val (y := j_b false) rfl ?_
  refine J_eqo (o1 := if (j_b false) = 0 then _ else none) (if_pos (by decide)).symm ?_
  refine J_if_ne (pc := 10) (tgt := 19) dX13_fairAt_10 (by decide) (fun z9 => absurd z9 (by decide)) (fun _ => ?_)
  refine J_aload_n (pc := 13) 0 dX13_fairAt_13 rfl rfl ?_
  refine J_iconst (pc := 14) (v := 1) dX13_fairAt_14 (by decide) ?_
  refine JC_lt_i (K := k) (J_callV (mi := mi_X13_fairAt) (mj := mi_X13_refused) (pc := 15) dX13_fairAt_15 ml_X13_48 ok_X13_refused ov_X13_refused ⟨Nat.le_of_ble_eq_true rfl, Nat.le_of_ble_eq_true rfl⟩ rfl (h0.lt 57 (by decide)) (h0.ty 57 rfl) rfl (s_X13_refused g (j_sI d 57 0 0) 1 h0) rfl (Nat.le_of_ble_eq_true rfl)) (fun q15 eq15 => ?_)
  exact J_eqo (hk (q15.1, q15.2)) (J_iret (pc := 18) dX13_fairAt_18 rfl)
def f_X13_fitsn (d : JD) : Int32 × JD := (j_let (f_X13_refused (j_sI d 57 0 0) 1) (fun q14 => (q14.1, q14.2)))
set_option maxRecDepth 100000 in
set_option maxHeartbeats 4000000 in
theorem s_X13_fitsn (g : JG) (d : JD) (h0 : j_sh g 0 TS_W RS_W) (hla : g.2.2.1 57 3 = none) : JM mi_X13_fits 0 0 (g, d) [.ref 57] (some (some (.int (f_X13_fitsn d ).1), (g, (f_X13_fitsn d ).2))) := by
  refine JM_of (by decide) rfl (Nat.le_of_ble_eq_true rfl) ?_
  refine J_loc (loc' := [(0, .ref 57)]) [0] rfl ?_
  obtain ⟨k, hk⟩ : ∃ k : Int32 × JD → Option (Option Value × JH), ∀ r9, k r9 = some (some (.int r9.1), (g, r9.2)) := ⟨_, fun _ => rfl⟩
  refine J_eqo (hk (f_X13_fitsn d )).symm ?_
  unfold f_X13_fitsn
  refine J_aload_n (pc := 0) 0 dX13_fits_0 rfl rfl ?_
  refine J_iconst (pc := 1) (v := 0) dX13_fits_1 (by decide) ?_
  refine J_putI (pc := 2) dX13_fits_2 fl_X13_42 ft_12_0 (h0.lt 57 (by decide)) (h0.ty 57 rfl) rfl rfl rfl ?_
  refine J_aload_n (pc := 5) 0 dX13_fits_5 rfl rfl ?_
  refine J_getN (pc := 6) dX13_fits_6 fl_X13_321 (h0.lt 57 (by decide)) (h0.ty 57 rfl) rfl hla ?_
  refine J_ifnonnullN (pc := 9) dX13_fits_9 ?_
  refine J_aload_n (pc := 12) 0 dX13_fits_12 rfl rfl ?_
  refine J_iconst (pc := 13) (v := 1) dX13_fits_13 (by decide) ?_
  refine JC_lt_i (K := k) (J_callV (mi := mi_X13_fits) (mj := mi_X13_refused) (pc := 14) dX13_fits_14 ml_X13_48 ok_X13_refused ov_X13_refused ⟨Nat.le_of_ble_eq_true rfl, Nat.le_of_ble_eq_true rfl⟩ rfl (h0.lt 57 (by decide)) (h0.ty 57 rfl) rfl (s_X13_refused g (j_sI d 57 0 0) 1 h0) rfl (Nat.le_of_ble_eq_true rfl)) (fun q14 eq14 => ?_)
  exact J_eqo (hk (q14.1, q14.2)) (J_iret (pc := 17) dX13_fits_17 rfl)
def f_X13_isLostOnen (pq0 : Int32) : Bool := (false)
set_option maxRecDepth 100000 in
set_option maxHeartbeats 4000000 in
theorem s_X13_isLostOnen (g : JG) (d : JD) (pq0 : Int32) (h0 : j_sh g 0 TS_W RS_W) (hla : g.2.2.1 57 3 = none) : JM mi_X13_isLostOne 0 0 (g, d) [.ref 57, .int pq0] (some (some (.int (j_b (f_X13_isLostOnen pq0))), (g, d))) := by
  refine JM_of (by decide) rfl (Nat.le_of_ble_eq_true rfl) ?_
  refine J_loc (loc' := [(0, .ref 57), (1, .int pq0)]) [0, 1] rfl ?_
  obtain ⟨k, hk⟩ : ∃ k : Bool → Option (Option Value × JH), ∀ r9, k r9 = some (some (.int (j_b r9)), (g, d)) := ⟨_, fun _ => rfl⟩
  refine J_eqo (hk (f_X13_isLostOnen pq0)).symm ?_
  unfold f_X13_isLostOnen
  refine J_aload_n (pc := 0) 0 dX13_isLostOne_0 rfl rfl ?_
  refine J_getN (pc := 1) dX13_isLostOne_1 fl_X13_321 (h0.lt 57 (by decide)) (h0.ty 57 rfl) rfl hla ?_
  refine J_ifnullN (pc := 4) (tgt := 26) dX13_isLostOne_4 (by decide) ?_
  refine J_iconst (pc := 26) (v := 0) dX13_isLostOne_26 (by decide) ?_
  exact J_eqo (hk false) (J_zretB (pc := 27) dX13_isLostOne_27 rfl)
def f_X13_fitAtn (d : JD) (pq0 : Int32) (pq1 : Int32) : Int32 × JD := (j_let (f_X13_refused (j_sI d 57 0 0) 1) (fun q19 => (q19.1, q19.2)))
set_option maxRecDepth 100000 in
set_option maxHeartbeats 4000000 in
theorem s_X13_fitAtn (g : JG) (d : JD) (pq0 : Int32) (pq1 : Int32) (h0 : j_sh g 0 TS_W RS_W) (hla : g.2.2.1 57 3 = none) : JM mi_X13_fitAt 0 0 (g, d) [.ref 57, .int pq0, .int pq1] (some (some (.int (f_X13_fitAtn d pq0 pq1).1), (g, (f_X13_fitAtn d pq0 pq1).2))) := by
  refine JM_of (by decide) rfl (Nat.le_of_ble_eq_true rfl) ?_
  refine J_loc (loc' := [(0, .ref 57), (1, .int pq0), (2, .int pq1)]) [0, 1, 2] rfl ?_
  obtain ⟨k, hk⟩ : ∃ k : Int32 × JD → Option (Option Value × JH), ∀ r9, k r9 = some (some (.int r9.1), (g, r9.2)) := ⟨_, fun _ => rfl⟩
  refine J_eqo (hk (f_X13_fitAtn d pq0 pq1)).symm ?_
  unfold f_X13_fitAtn
  refine J_aload_n (pc := 0) 0 dX13_fitAt_0 rfl rfl ?_
  refine J_iconst (pc := 1) (v := 0) dX13_fitAt_1 (by decide) ?_
  refine J_putI (pc := 2) dX13_fitAt_2 fl_X13_42 ft_12_0 (h0.lt 57 (by decide)) (h0.ty 57 rfl) rfl rfl rfl ?_
  refine J_aload_n (pc := 5) 0 dX13_fitAt_5 rfl rfl ?_
  refine J_iload_n (pc := 6) 2 dX13_fitAt_6 rfl rfl ?_
  refine JC_pt_i (J_callV (mi := mi_X13_fitAt) (mj := mi_X13_isLostOne) (pc := 7) dX13_fitAt_7 ml_X13_441 ok_X13_isLostOne ov_X13_isLostOne ⟨Nat.le_of_ble_eq_true rfl, Nat.le_of_ble_eq_true rfl⟩ rfl (h0.lt 57 (by decide)) (h0.ty 57 rfl) rfl (s_X13_isLostOnen g (j_sI d 57 0 0) pq1 h0 hla) rfl (Nat.le_of_ble_eq_true rfl)) ?_
  refine J_val (y := j_b false) rfl ?_
  refine J_eqo (o1 := if (j_b false) = 0 then _ else none) (if_pos (by decide)).symm ?_
  refine J_if_eq (pc := 10) (tgt := 17) dX13_fitAt_10 (by decide) (fun _ => ?_) (fun z9 => absurd z9 (by decide))
  refine J_aload_n (pc := 17) 0 dX13_fitAt_17 rfl rfl ?_
  refine J_iconst (pc := 18) (v := 1) dX13_fitAt_18 (by decide) ?_
  refine JC_lt_i (K := k) (J_callV (mi := mi_X13_fitAt) (mj := mi_X13_refused) (pc := 19) dX13_fitAt_19 ml_X13_48 ok_X13_refused ov_X13_refused ⟨Nat.le_of_ble_eq_true rfl, Nat.le_of_ble_eq_true rfl⟩ rfl (h0.lt 57 (by decide)) (h0.ty 57 rfl) rfl (s_X13_refused g (j_sI d 57 0 0) 1 h0) rfl (Nat.le_of_ble_eq_true rfl)) (fun q19 eq19 => ?_)
  exact J_eqo (hk (q19.1, q19.2)) (J_iret (pc := 22) dX13_fitAt_22 rfl)
def f_X13_hungByn (d : JD) (pq0 : Int32) (pq1 : Int32) : Int32 × JD := (j_let (f_X13_refused (j_sI d 57 0 0) 1) (fun q15 => (q15.1, q15.2)))
set_option maxRecDepth 100000 in
set_option maxHeartbeats 4000000 in
theorem s_X13_hungByn (g : JG) (d : JD) (pq0 : Int32) (pq1 : Int32) (h0 : j_sh g 0 TS_W RS_W) (hla : g.2.2.1 57 3 = none) : JM mi_X13_hungBy 0 0 (g, d) [.ref 57, .int pq0, .int pq1] (some (some (.int (f_X13_hungByn d pq0 pq1).1), (g, (f_X13_hungByn d pq0 pq1).2))) := by
  refine JM_of (by decide) rfl (Nat.le_of_ble_eq_true rfl) ?_
  refine J_loc (loc' := [(0, .ref 57), (1, .int pq0), (2, .int pq1)]) [0, 1, 2] rfl ?_
  obtain ⟨k, hk⟩ : ∃ k : Int32 × JD → Option (Option Value × JH), ∀ r9, k r9 = some (some (.int r9.1), (g, r9.2)) := ⟨_, fun _ => rfl⟩
  refine J_eqo (hk (f_X13_hungByn d pq0 pq1)).symm ?_
  unfold f_X13_hungByn
  refine J_aload_n (pc := 0) 0 dX13_hungBy_0 rfl rfl ?_
  refine J_iconst (pc := 1) (v := 0) dX13_hungBy_1 (by decide) ?_
  refine J_putI (pc := 2) dX13_hungBy_2 fl_X13_42 ft_12_0 (h0.lt 57 (by decide)) (h0.ty 57 rfl) rfl rfl rfl ?_
  refine J_aload_n (pc := 5) 0 dX13_hungBy_5 rfl rfl ?_
  refine J_iload_n (pc := 6) 1 dX13_hungBy_6 rfl rfl ?_
  refine JC_pt_i (J_callV (mi := mi_X13_hungBy) (mj := mi_X13_isLostOne) (pc := 7) dX13_hungBy_7 ml_X13_441 ok_X13_isLostOne ov_X13_isLostOne ⟨Nat.le_of_ble_eq_true rfl, Nat.le_of_ble_eq_true rfl⟩ rfl (h0.lt 57 (by decide)) (h0.ty 57 rfl) rfl (s_X13_isLostOnen g (j_sI d 57 0 0) pq0 h0 hla) rfl (Nat.le_of_ble_eq_true rfl)) ?_
  refine J_val (y := j_b false) rfl ?_
  refine J_eqo (o1 := if (j_b false) = 0 then _ else none) (if_pos (by decide)).symm ?_
  refine J_if_ne (pc := 10) (tgt := 19) dX13_hungBy_10 (by decide) (fun z9 => absurd z9 (by decide)) (fun _ => ?_)
  refine J_aload_n (pc := 13) 0 dX13_hungBy_13 rfl rfl ?_
  refine J_iconst (pc := 14) (v := 1) dX13_hungBy_14 (by decide) ?_
  refine JC_lt_i (K := k) (J_callV (mi := mi_X13_hungBy) (mj := mi_X13_refused) (pc := 15) dX13_hungBy_15 ml_X13_48 ok_X13_refused ov_X13_refused ⟨Nat.le_of_ble_eq_true rfl, Nat.le_of_ble_eq_true rfl⟩ rfl (h0.lt 57 (by decide)) (h0.ty 57 rfl) rfl (s_X13_refused g (j_sI d 57 0 0) 1 h0) rfl (Nat.le_of_ble_eq_true rfl)) (fun q15 eq15 => ?_)
  exact J_eqo (hk (q15.1, q15.2)) (J_iret (pc := 18) dX13_hungBy_18 rfl)
def f_X13_lookn (d : JD) : Int32 × JD := (j_let (f_X13_refused (j_sI d 57 0 0) 1) (fun q14 => (q14.1, q14.2)))
set_option maxRecDepth 100000 in
set_option maxHeartbeats 4000000 in
theorem s_X13_lookn (g : JG) (d : JD) (h0 : j_sh g 0 TS_W RS_W) (hla : g.2.2.1 57 3 = none) : JM mi_X13_look 0 0 (g, d) [.ref 57] (some (some (.int (f_X13_lookn d ).1), (g, (f_X13_lookn d ).2))) := by
  refine JM_of (by decide) rfl (Nat.le_of_ble_eq_true rfl) ?_
  refine J_loc (loc' := [(0, .ref 57)]) [0] rfl ?_
  obtain ⟨k, hk⟩ : ∃ k : Int32 × JD → Option (Option Value × JH), ∀ r9, k r9 = some (some (.int r9.1), (g, r9.2)) := ⟨_, fun _ => rfl⟩
  refine J_eqo (hk (f_X13_lookn d )).symm ?_
  unfold f_X13_lookn
  refine J_aload_n (pc := 0) 0 dX13_look_0 rfl rfl ?_
  refine J_iconst (pc := 1) (v := 0) dX13_look_1 (by decide) ?_
  refine J_putI (pc := 2) dX13_look_2 fl_X13_42 ft_12_0 (h0.lt 57 (by decide)) (h0.ty 57 rfl) rfl rfl rfl ?_
  refine J_aload_n (pc := 5) 0 dX13_look_5 rfl rfl ?_
  refine J_getN (pc := 6) dX13_look_6 fl_X13_321 (h0.lt 57 (by decide)) (h0.ty 57 rfl) rfl hla ?_
  refine J_ifnonnullN (pc := 9) dX13_look_9 ?_
  refine J_aload_n (pc := 12) 0 dX13_look_12 rfl rfl ?_
  refine J_iconst (pc := 13) (v := 1) dX13_look_13 (by decide) ?_
  refine JC_lt_i (K := k) (J_callV (mi := mi_X13_look) (mj := mi_X13_refused) (pc := 14) dX13_look_14 ml_X13_48 ok_X13_refused ov_X13_refused ⟨Nat.le_of_ble_eq_true rfl, Nat.le_of_ble_eq_true rfl⟩ rfl (h0.lt 57 (by decide)) (h0.ty 57 rfl) rfl (s_X13_refused g (j_sI d 57 0 0) 1 h0) rfl (Nat.le_of_ble_eq_true rfl)) (fun q14 eq14 => ?_)
  refine J_goto (pc := 17) (tgt := 28) dX13_look_17 (by decide) ?_
  exact J_eqo (hk (q14.1, q14.2)) (J_iret (pc := 28) dX13_look_28 rfl)
def f_X13_lookLeavesn (d : JD) : Int32 × JD := (j_let (f_X13_refused (j_sI d 57 0 0) 1) (fun q14 => (q14.1, q14.2)))
set_option maxRecDepth 100000 in
set_option maxHeartbeats 4000000 in
theorem s_X13_lookLeavesn (g : JG) (d : JD) (h0 : j_sh g 0 TS_W RS_W) (hla : g.2.2.1 57 3 = none) : JM mi_X13_lookLeaves 0 0 (g, d) [.ref 57] (some (some (.int (f_X13_lookLeavesn d ).1), (g, (f_X13_lookLeavesn d ).2))) := by
  refine JM_of (by decide) rfl (Nat.le_of_ble_eq_true rfl) ?_
  refine J_loc (loc' := [(0, .ref 57)]) [0] rfl ?_
  obtain ⟨k, hk⟩ : ∃ k : Int32 × JD → Option (Option Value × JH), ∀ r9, k r9 = some (some (.int r9.1), (g, r9.2)) := ⟨_, fun _ => rfl⟩
  refine J_eqo (hk (f_X13_lookLeavesn d )).symm ?_
  unfold f_X13_lookLeavesn
  refine J_aload_n (pc := 0) 0 dX13_lookLeaves_0 rfl rfl ?_
  refine J_iconst (pc := 1) (v := 0) dX13_lookLeaves_1 (by decide) ?_
  refine J_putI (pc := 2) dX13_lookLeaves_2 fl_X13_42 ft_12_0 (h0.lt 57 (by decide)) (h0.ty 57 rfl) rfl rfl rfl ?_
  refine J_aload_n (pc := 5) 0 dX13_lookLeaves_5 rfl rfl ?_
  refine J_getN (pc := 6) dX13_lookLeaves_6 fl_X13_321 (h0.lt 57 (by decide)) (h0.ty 57 rfl) rfl hla ?_
  refine J_ifnonnullN (pc := 9) dX13_lookLeaves_9 ?_
  refine J_aload_n (pc := 12) 0 dX13_lookLeaves_12 rfl rfl ?_
  refine J_iconst (pc := 13) (v := 1) dX13_lookLeaves_13 (by decide) ?_
  refine JC_lt_i (K := k) (J_callV (mi := mi_X13_lookLeaves) (mj := mi_X13_refused) (pc := 14) dX13_lookLeaves_14 ml_X13_48 ok_X13_refused ov_X13_refused ⟨Nat.le_of_ble_eq_true rfl, Nat.le_of_ble_eq_true rfl⟩ rfl (h0.lt 57 (by decide)) (h0.ty 57 rfl) rfl (s_X13_refused g (j_sI d 57 0 0) 1 h0) rfl (Nat.le_of_ble_eq_true rfl)) (fun q14 eq14 => ?_)
  exact J_eqo (hk (q14.1, q14.2)) (J_iret (pc := 17) dX13_lookLeaves_17 rfl)
def f_X13_judgen (d : JD) : Int32 × JD := (j_let (f_X13_refused (j_sI d 57 0 0) 1) (fun q14 => (q14.1, q14.2)))
set_option maxRecDepth 100000 in
set_option maxHeartbeats 4000000 in
theorem s_X13_judgen (g : JG) (d : JD) (h0 : j_sh g 0 TS_W RS_W) (hla : g.2.2.1 57 3 = none) : JM mi_X13_judge 0 0 (g, d) [.ref 57] (some (some (.int (f_X13_judgen d ).1), (g, (f_X13_judgen d ).2))) := by
  refine JM_of (by decide) rfl (Nat.le_of_ble_eq_true rfl) ?_
  refine J_loc (loc' := [(0, .ref 57)]) [0] rfl ?_
  obtain ⟨k, hk⟩ : ∃ k : Int32 × JD → Option (Option Value × JH), ∀ r9, k r9 = some (some (.int r9.1), (g, r9.2)) := ⟨_, fun _ => rfl⟩
  refine J_eqo (hk (f_X13_judgen d )).symm ?_
  unfold f_X13_judgen
  refine J_aload_n (pc := 0) 0 dX13_judge_0 rfl rfl ?_
  refine J_iconst (pc := 1) (v := 0) dX13_judge_1 (by decide) ?_
  refine J_putI (pc := 2) dX13_judge_2 fl_X13_42 ft_12_0 (h0.lt 57 (by decide)) (h0.ty 57 rfl) rfl rfl rfl ?_
  refine J_aload_n (pc := 5) 0 dX13_judge_5 rfl rfl ?_
  refine J_getN (pc := 6) dX13_judge_6 fl_X13_321 (h0.lt 57 (by decide)) (h0.ty 57 rfl) rfl hla ?_
  refine J_ifnonnullN (pc := 9) dX13_judge_9 ?_
  refine J_aload_n (pc := 12) 0 dX13_judge_12 rfl rfl ?_
  refine J_iconst (pc := 13) (v := 1) dX13_judge_13 (by decide) ?_
  refine JC_lt_i (K := k) (J_callV (mi := mi_X13_judge) (mj := mi_X13_refused) (pc := 14) dX13_judge_14 ml_X13_48 ok_X13_refused ov_X13_refused ⟨Nat.le_of_ble_eq_true rfl, Nat.le_of_ble_eq_true rfl⟩ rfl (h0.lt 57 (by decide)) (h0.ty 57 rfl) rfl (s_X13_refused g (j_sI d 57 0 0) 1 h0) rfl (Nat.le_of_ble_eq_true rfl)) (fun q14 eq14 => ?_)
  exact J_eqo (hk (q14.1, q14.2)) (J_iret (pc := 17) dX13_judge_17 rfl)
def f_X13_apartn (d : JD) (pq0 : Int32) (pq1 : Int32) : Int32 × JD := (j_let (f_X13_refused (j_sI d 57 0 0) 1) (fun q36 => (q36.1, q36.2)))
set_option maxRecDepth 100000 in
set_option maxHeartbeats 4000000 in
theorem s_X13_apartn (g : JG) (d : JD) (pq0 : Int32) (pq1 : Int32) (h0 : j_sh g 0 TS_W RS_W) (hla : g.2.2.1 57 3 = none) : JM mi_X13_apart 0 0 (g, d) [.ref 57, .int pq0, .int pq1] (some (some (.int (f_X13_apartn d pq0 pq1).1), (g, (f_X13_apartn d pq0 pq1).2))) := by
  refine JM_of (by decide) rfl (Nat.le_of_ble_eq_true rfl) ?_
  refine J_loc (loc' := [(0, .ref 57), (1, .int pq0), (2, .int pq1)]) [0, 1, 2] rfl ?_
  obtain ⟨k, hk⟩ : ∃ k : Int32 × JD → Option (Option Value × JH), ∀ r9, k r9 = some (some (.int r9.1), (g, r9.2)) := ⟨_, fun _ => rfl⟩
  refine J_eqo (hk (f_X13_apartn d pq0 pq1)).symm ?_
  unfold f_X13_apartn
  refine J_aload_n (pc := 0) 0 dX13_apart_0 rfl rfl ?_
  refine J_iconst (pc := 1) (v := 0) dX13_apart_1 (by decide) ?_
  refine J_putI (pc := 2) dX13_apart_2 fl_X13_42 ft_12_0 (h0.lt 57 (by decide)) (h0.ty 57 rfl) rfl rfl rfl ?_
  refine J_aload_n (pc := 5) 0 dX13_apart_5 rfl rfl ?_
  refine J_iload_n (pc := 6) 1 dX13_apart_6 rfl rfl ?_
  refine JC_pt_i (J_callV (mi := mi_X13_apart) (mj := mi_X13_isGate) (pc := 7) dX13_apart_7 ml_X13_345 ok_X13_isGate ov_X13_isGate ⟨Nat.le_of_ble_eq_true rfl, Nat.le_of_ble_eq_true rfl⟩ rfl (h0.lt 57 (by decide)) (h0.ty 57 rfl) rfl (s_X13_isGaten g (j_sI d 57 0 0) pq0 h0 hla) rfl (Nat.le_of_ble_eq_true rfl)) ?_
  refine J_val (y := j_b false) rfl ?_
  refine J_eqo (o1 := if (j_b false) = 0 then _ else none) (if_pos (by decide)).symm ?_
  refine J_if_eq (pc := 10) (tgt := 34) dX13_apart_10 (by decide) (fun _ => ?_) (fun z9 => absurd z9 (by decide))
  refine J_aload_n (pc := 34) 0 dX13_apart_34 rfl rfl ?_
  refine J_iconst (pc := 35) (v := 1) dX13_apart_35 (by decide) ?_
  refine JC_lt_i (K := k) (J_callV (mi := mi_X13_apart) (mj := mi_X13_refused) (pc := 36) dX13_apart_36 ml_X13_48 ok_X13_refused ov_X13_refused ⟨Nat.le_of_ble_eq_true rfl, Nat.le_of_ble_eq_true rfl⟩ rfl (h0.lt 57 (by decide)) (h0.ty 57 rfl) rfl (s_X13_refused g (j_sI d 57 0 0) 1 h0) rfl (Nat.le_of_ble_eq_true rfl)) (fun q36 eq36 => ?_)
  exact J_eqo (hk (q36.1, q36.2)) (J_iret (pc := 39) dX13_apart_39 rfl)
def f_X13_sentriesn (d : JD) : Int32 × JD := (j_let (f_X13_refused (j_sI d 57 0 0) 1) (fun q14 => (q14.1, q14.2)))
set_option maxRecDepth 100000 in
set_option maxHeartbeats 4000000 in
theorem s_X13_sentriesn (g : JG) (d : JD) (h0 : j_sh g 0 TS_W RS_W) (hla : g.2.2.1 57 3 = none) : JM mi_X13_sentries 0 0 (g, d) [.ref 57] (some (some (.int (f_X13_sentriesn d ).1), (g, (f_X13_sentriesn d ).2))) := by
  refine JM_of (by decide) rfl (Nat.le_of_ble_eq_true rfl) ?_
  refine J_loc (loc' := [(0, .ref 57)]) [0] rfl ?_
  obtain ⟨k, hk⟩ : ∃ k : Int32 × JD → Option (Option Value × JH), ∀ r9, k r9 = some (some (.int r9.1), (g, r9.2)) := ⟨_, fun _ => rfl⟩
  refine J_eqo (hk (f_X13_sentriesn d )).symm ?_
  unfold f_X13_sentriesn
  refine J_aload_n (pc := 0) 0 dX13_sentries_0 rfl rfl ?_
  refine J_iconst (pc := 1) (v := 0) dX13_sentries_1 (by decide) ?_
  refine J_putI (pc := 2) dX13_sentries_2 fl_X13_42 ft_12_0 (h0.lt 57 (by decide)) (h0.ty 57 rfl) rfl rfl rfl ?_
  refine J_aload_n (pc := 5) 0 dX13_sentries_5 rfl rfl ?_
  refine J_getN (pc := 6) dX13_sentries_6 fl_X13_321 (h0.lt 57 (by decide)) (h0.ty 57 rfl) rfl hla ?_
  refine J_ifnonnullN (pc := 9) dX13_sentries_9 ?_
  refine J_aload_n (pc := 12) 0 dX13_sentries_12 rfl rfl ?_
  refine J_iconst (pc := 13) (v := 1) dX13_sentries_13 (by decide) ?_
  refine JC_lt_i (K := k) (J_callV (mi := mi_X13_sentries) (mj := mi_X13_refused) (pc := 14) dX13_sentries_14 ml_X13_48 ok_X13_refused ov_X13_refused ⟨Nat.le_of_ble_eq_true rfl, Nat.le_of_ble_eq_true rfl⟩ rfl (h0.lt 57 (by decide)) (h0.ty 57 rfl) rfl (s_X13_refused g (j_sI d 57 0 0) 1 h0) rfl (Nat.le_of_ble_eq_true rfl)) (fun q14 eq14 => ?_)
  exact J_eqo (hk (q14.1, q14.2)) (J_iret (pc := 17) dX13_sentries_17 rfl)
def f_X13_partsn (d : JD) : Int32 × JD := (j_let (f_X13_refused (j_sI d 57 0 0) 1) (fun q14 => (q14.1, q14.2)))
set_option maxRecDepth 100000 in
set_option maxHeartbeats 4000000 in
theorem s_X13_partsn (g : JG) (d : JD) (h0 : j_sh g 0 TS_W RS_W) (hla : g.2.2.1 57 3 = none) : JM mi_X13_parts 0 0 (g, d) [.ref 57] (some (some (.int (f_X13_partsn d ).1), (g, (f_X13_partsn d ).2))) := by
  refine JM_of (by decide) rfl (Nat.le_of_ble_eq_true rfl) ?_
  refine J_loc (loc' := [(0, .ref 57)]) [0] rfl ?_
  obtain ⟨k, hk⟩ : ∃ k : Int32 × JD → Option (Option Value × JH), ∀ r9, k r9 = some (some (.int r9.1), (g, r9.2)) := ⟨_, fun _ => rfl⟩
  refine J_eqo (hk (f_X13_partsn d )).symm ?_
  unfold f_X13_partsn
  refine J_aload_n (pc := 0) 0 dX13_parts_0 rfl rfl ?_
  refine J_iconst (pc := 1) (v := 0) dX13_parts_1 (by decide) ?_
  refine J_putI (pc := 2) dX13_parts_2 fl_X13_42 ft_12_0 (h0.lt 57 (by decide)) (h0.ty 57 rfl) rfl rfl rfl ?_
  refine J_aload_n (pc := 5) 0 dX13_parts_5 rfl rfl ?_
  refine J_getN (pc := 6) dX13_parts_6 fl_X13_321 (h0.lt 57 (by decide)) (h0.ty 57 rfl) rfl hla ?_
  refine J_ifnonnullN (pc := 9) dX13_parts_9 ?_
  refine J_aload_n (pc := 12) 0 dX13_parts_12 rfl rfl ?_
  refine J_iconst (pc := 13) (v := 1) dX13_parts_13 (by decide) ?_
  refine JC_lt_i (K := k) (J_callV (mi := mi_X13_parts) (mj := mi_X13_refused) (pc := 14) dX13_parts_14 ml_X13_48 ok_X13_refused ov_X13_refused ⟨Nat.le_of_ble_eq_true rfl, Nat.le_of_ble_eq_true rfl⟩ rfl (h0.lt 57 (by decide)) (h0.ty 57 rfl) rfl (s_X13_refused g (j_sI d 57 0 0) 1 h0) rfl (Nat.le_of_ble_eq_true rfl)) (fun q14 eq14 => ?_)
  exact J_eqo (hk (q14.1, q14.2)) (J_iret (pc := 17) dX13_parts_17 rfl)
def f_X13_estaten (d : JD) (pq0 : Int32) (pq1 : Int32) : Int32 × JD := (j_let (f_X13_refused (j_sI d 57 0 0) 1) (fun q23 => (q23.1, q23.2)))
set_option maxRecDepth 100000 in
set_option maxHeartbeats 4000000 in
theorem s_X13_estaten (g : JG) (d : JD) (pq0 : Int32) (pq1 : Int32) (h0 : j_sh g 0 TS_W RS_W) (hla : g.2.2.1 57 3 = none) : JM mi_X13_estate 0 0 (g, d) [.ref 57, .int pq0, .int pq1] (some (some (.int (f_X13_estaten d pq0 pq1).1), (g, (f_X13_estaten d pq0 pq1).2))) := by
  refine JM_of (by decide) rfl (Nat.le_of_ble_eq_true rfl) ?_
  refine J_loc (loc' := [(0, .ref 57), (1, .int pq0), (2, .int pq1)]) [0, 1, 2] rfl ?_
  obtain ⟨k, hk⟩ : ∃ k : Int32 × JD → Option (Option Value × JH), ∀ r9, k r9 = some (some (.int r9.1), (g, r9.2)) := ⟨_, fun _ => rfl⟩
  refine J_eqo (hk (f_X13_estaten d pq0 pq1)).symm ?_
  unfold f_X13_estaten
  refine J_aload_n (pc := 0) 0 dX13_estate_0 rfl rfl ?_
  refine J_iconst (pc := 1) (v := 0) dX13_estate_1 (by decide) ?_
  refine J_putI (pc := 2) dX13_estate_2 fl_X13_42 ft_12_0 (h0.lt 57 (by decide)) (h0.ty 57 rfl) rfl rfl rfl ?_
  refine J_aload_n (pc := 5) 0 dX13_estate_5 rfl rfl ?_
  refine J_iload_n (pc := 6) 1 dX13_estate_6 rfl rfl ?_
  refine JC_pt_i (J_callV (mi := mi_X13_estate) (mj := mi_X13_isPerson) (pc := 7) dX13_estate_7 ml_X13_351 ok_X13_isPerson ov_X13_isPerson ⟨Nat.le_of_ble_eq_true rfl, Nat.le_of_ble_eq_true rfl⟩ rfl (h0.lt 57 (by decide)) (h0.ty 57 rfl) rfl (s_X13_isPersonn g (j_sI d 57 0 0) pq0 h0 hla) rfl (Nat.le_of_ble_eq_true rfl)) ?_
  refine J_val (y := j_b false) rfl ?_
  refine J_eqo (o1 := if (j_b false) = 0 then _ else none) (if_pos (by decide)).symm ?_
  refine J_if_eq (pc := 10) (tgt := 21) dX13_estate_10 (by decide) (fun _ => ?_) (fun z9 => absurd z9 (by decide))
  refine J_aload_n (pc := 21) 0 dX13_estate_21 rfl rfl ?_
  refine J_iconst (pc := 22) (v := 1) dX13_estate_22 (by decide) ?_
  refine JC_lt_i (K := k) (J_callV (mi := mi_X13_estate) (mj := mi_X13_refused) (pc := 23) dX13_estate_23 ml_X13_48 ok_X13_refused ov_X13_refused ⟨Nat.le_of_ble_eq_true rfl, Nat.le_of_ble_eq_true rfl⟩ rfl (h0.lt 57 (by decide)) (h0.ty 57 rfl) rfl (s_X13_refused g (j_sI d 57 0 0) 1 h0) rfl (Nat.le_of_ble_eq_true rfl)) (fun q23 eq23 => ?_)
  exact J_eqo (hk (q23.1, q23.2)) (J_iret (pc := 26) dX13_estate_26 rfl)
def f_X13_powern (d : JD) (pq0 : Int32) (pq1 : Int32) : Int64 × JD := (j_let (f_X13_refused (j_sI d 57 0 0) 1) (fun q15 => (q15.1.toInt64, q15.2)))
set_option maxRecDepth 100000 in
set_option maxHeartbeats 4000000 in
theorem s_X13_powern (g : JG) (d : JD) (pq0 : Int32) (pq1 : Int32) (h0 : j_sh g 0 TS_W RS_W) (hla : g.2.2.1 57 3 = none) : JM mi_X13_power 0 0 (g, d) [.ref 57, .int pq0, .int pq1] (some (some (.long (f_X13_powern d pq0 pq1).1), (g, (f_X13_powern d pq0 pq1).2))) := by
  refine JM_of (by decide) rfl (Nat.le_of_ble_eq_true rfl) ?_
  refine J_loc (loc' := [(0, .ref 57), (1, .int pq0), (2, .int pq1)]) [0, 1, 2] rfl ?_
  obtain ⟨k, hk⟩ : ∃ k : Int64 × JD → Option (Option Value × JH), ∀ r9, k r9 = some (some (.long r9.1), (g, r9.2)) := ⟨_, fun _ => rfl⟩
  refine J_eqo (hk (f_X13_powern d pq0 pq1)).symm ?_
  unfold f_X13_powern
  refine J_aload_n (pc := 0) 0 dX13_power_0 rfl rfl ?_
  refine J_iconst (pc := 1) (v := 0) dX13_power_1 (by decide) ?_
  refine J_putI (pc := 2) dX13_power_2 fl_X13_42 ft_12_0 (h0.lt 57 (by decide)) (h0.ty 57 rfl) rfl rfl rfl ?_
  refine J_aload_n (pc := 5) 0 dX13_power_5 rfl rfl ?_
  refine J_iload_n (pc := 6) 1 dX13_power_6 rfl rfl ?_
  refine JC_pt_i (J_callV (mi := mi_X13_power) (mj := mi_X13_isPerson) (pc := 7) dX13_power_7 ml_X13_351 ok_X13_isPerson ov_X13_isPerson ⟨Nat.le_of_ble_eq_true rfl, Nat.le_of_ble_eq_true rfl⟩ rfl (h0.lt 57 (by decide)) (h0.ty 57 rfl) rfl (s_X13_isPersonn g (j_sI d 57 0 0) pq0 h0 hla) rfl (Nat.le_of_ble_eq_true rfl)) ?_
  refine J_val (y := j_b false) rfl ?_
  refine J_eqo (o1 := if (j_b false) = 0 then _ else none) (if_pos (by decide)).symm ?_
  refine J_if_ne (pc := 10) (tgt := 20) dX13_power_10 (by decide) (fun z9 => absurd z9 (by decide)) (fun _ => ?_)
  refine J_aload_n (pc := 13) 0 dX13_power_13 rfl rfl ?_
  refine J_iconst (pc := 14) (v := 1) dX13_power_14 (by decide) ?_
  refine JC_lt_i (K := k) (J_callV (mi := mi_X13_power) (mj := mi_X13_refused) (pc := 15) dX13_power_15 ml_X13_48 ok_X13_refused ov_X13_refused ⟨Nat.le_of_ble_eq_true rfl, Nat.le_of_ble_eq_true rfl⟩ rfl (h0.lt 57 (by decide)) (h0.ty 57 rfl) rfl (s_X13_refused g (j_sI d 57 0 0) 1 h0) rfl (Nat.le_of_ble_eq_true rfl)) (fun q15 eq15 => ?_)
  refine J_i2l (pc := 18) dX13_power_18 ?_
  exact J_eqo (hk (q15.1.toInt64, q15.2)) (J_lret (pc := 19) dX13_power_19 rfl)
def f_X13_rulen (d : JD) : Int32 × JD := (j_let (f_X13_refused (j_sI d 57 0 0) 1) (fun q14 => (q14.1, q14.2)))
set_option maxRecDepth 100000 in
set_option maxHeartbeats 4000000 in
theorem s_X13_rulen (g : JG) (d : JD) (h0 : j_sh g 0 TS_W RS_W) (hla : g.2.2.1 57 3 = none) : JM mi_X13_rule 0 0 (g, d) [.ref 57] (some (some (.int (f_X13_rulen d ).1), (g, (f_X13_rulen d ).2))) := by
  refine JM_of (by decide) rfl (Nat.le_of_ble_eq_true rfl) ?_
  refine J_loc (loc' := [(0, .ref 57)]) [0] rfl ?_
  obtain ⟨k, hk⟩ : ∃ k : Int32 × JD → Option (Option Value × JH), ∀ r9, k r9 = some (some (.int r9.1), (g, r9.2)) := ⟨_, fun _ => rfl⟩
  refine J_eqo (hk (f_X13_rulen d )).symm ?_
  unfold f_X13_rulen
  refine J_aload_n (pc := 0) 0 dX13_rule_0 rfl rfl ?_
  refine J_iconst (pc := 1) (v := 0) dX13_rule_1 (by decide) ?_
  refine J_putI (pc := 2) dX13_rule_2 fl_X13_42 ft_12_0 (h0.lt 57 (by decide)) (h0.ty 57 rfl) rfl rfl rfl ?_
  refine J_aload_n (pc := 5) 0 dX13_rule_5 rfl rfl ?_
  refine J_getN (pc := 6) dX13_rule_6 fl_X13_321 (h0.lt 57 (by decide)) (h0.ty 57 rfl) rfl hla ?_
  refine J_ifnonnullN (pc := 9) dX13_rule_9 ?_
  refine J_aload_n (pc := 12) 0 dX13_rule_12 rfl rfl ?_
  refine J_iconst (pc := 13) (v := 1) dX13_rule_13 (by decide) ?_
  refine JC_lt_i (K := k) (J_callV (mi := mi_X13_rule) (mj := mi_X13_refused) (pc := 14) dX13_rule_14 ml_X13_48 ok_X13_refused ov_X13_refused ⟨Nat.le_of_ble_eq_true rfl, Nat.le_of_ble_eq_true rfl⟩ rfl (h0.lt 57 (by decide)) (h0.ty 57 rfl) rfl (s_X13_refused g (j_sI d 57 0 0) 1 h0) rfl (Nat.le_of_ble_eq_true rfl)) (fun q14 eq14 => ?_)
  exact J_eqo (hk (q14.1, q14.2)) (J_iret (pc := 17) dX13_rule_17 rfl)
def f_X13_refusesWorthn (pq0 : Int32) : Int32 := (1)
set_option maxRecDepth 100000 in
set_option maxHeartbeats 4000000 in
theorem s_X13_refusesWorthn (g : JG) (d : JD) (pq0 : Int32) (h0 : j_sh g 0 TS_W RS_W) (hla : g.2.2.1 57 3 = none) : JM mi_X13_refusesWorth 0 0 (g, d) [.ref 57, .int pq0] (some (some (.int (f_X13_refusesWorthn pq0)), (g, d))) := by
  refine JM_of (by decide) rfl (Nat.le_of_ble_eq_true rfl) ?_
  refine J_loc (loc' := [(0, .ref 57), (1, .int pq0)]) [0, 1] rfl ?_
  obtain ⟨k, hk⟩ : ∃ k : Int32 → Option (Option Value × JH), ∀ r9, k r9 = some (some (.int r9), (g, d)) := ⟨_, fun _ => rfl⟩
  refine J_eqo (hk (f_X13_refusesWorthn pq0)).symm ?_
  unfold f_X13_refusesWorthn
  refine J_aload_n (pc := 0) 0 dX13_refusesWorth_0 rfl rfl ?_
  refine J_getN (pc := 1) dX13_refusesWorth_1 fl_X13_321 (h0.lt 57 (by decide)) (h0.ty 57 rfl) rfl hla ?_
  refine J_ifnonnullN (pc := 4) dX13_refusesWorth_4 ?_
  refine J_iconst (pc := 7) (v := 1) dX13_refusesWorth_7 (by decide) ?_
  refine J_goto (pc := 8) (tgt := 26) dX13_refusesWorth_8 (by decide) ?_
  exact J_eqo (hk 1) (J_iret (pc := 26) dX13_refusesWorth_26 rfl)
def f_X13_stealn (d : JD) (pq0 : Int32) (pq1 : Int32) (pq2 : Int32) (pq3 : Int32) : Int32 × JD := (j_let (f_X13_lost (j_sI d 57 0 0) 1) (fun q20 => (q20.1, q20.2)))
set_option maxRecDepth 100000 in
set_option maxHeartbeats 4000000 in
theorem s_X13_stealn (g : JG) (d : JD) (pq0 : Int32) (pq1 : Int32) (pq2 : Int32) (pq3 : Int32) (h0 : j_sh g 0 TS_W RS_W) (hla : g.2.2.1 57 3 = none) : JM mi_X13_steal 0 0 (g, d) [.ref 57, .int pq0, .int pq1, .int pq2, .int pq3] (some (some (.int (f_X13_stealn d pq0 pq1 pq2 pq3).1), (g, (f_X13_stealn d pq0 pq1 pq2 pq3).2))) := by
  refine JM_of (by decide) rfl (Nat.le_of_ble_eq_true rfl) ?_
  refine J_loc (loc' := [(0, .ref 57), (1, .int pq0), (2, .int pq1), (3, .int pq2), (4, .int pq3)]) [0, 1, 2, 3, 4] rfl ?_
  obtain ⟨k, hk⟩ : ∃ k : Int32 × JD → Option (Option Value × JH), ∀ r9, k r9 = some (some (.int r9.1), (g, r9.2)) := ⟨_, fun _ => rfl⟩
  refine J_eqo (hk (f_X13_stealn d pq0 pq1 pq2 pq3)).symm ?_
  unfold f_X13_stealn
  refine J_aload_n (pc := 0) 0 dX13_steal_0 rfl rfl ?_
  refine J_iconst (pc := 1) (v := 0) dX13_steal_1 (by decide) ?_
  refine J_putI (pc := 2) dX13_steal_2 fl_X13_42 ft_12_0 (h0.lt 57 (by decide)) (h0.ty 57 rfl) rfl rfl rfl ?_
  refine J_aload_n (pc := 5) 0 dX13_steal_5 rfl rfl ?_
  refine J_iload_n (pc := 6) 1 dX13_steal_6 rfl rfl ?_
  refine JC_pt_i (J_callV (mi := mi_X13_steal) (mj := mi_X13_refusesWorth) (pc := 7) dX13_steal_7 ml_X13_472 ok_X13_refusesWorth ov_X13_refusesWorth ⟨Nat.le_of_ble_eq_true rfl, Nat.le_of_ble_eq_true rfl⟩ rfl (h0.lt 57 (by decide)) (h0.ty 57 rfl) rfl (s_X13_refusesWorthn g (j_sI d 57 0 0) pq0 h0 hla) rfl (Nat.le_of_ble_eq_true rfl)) ?_
  refine J_val (y := 1) rfl ?_
  refine J_istore (pc := 10) (loc' := [(5, .int 1), (0, .ref 57), (1, .int pq0), (2, .int pq1), (3, .int pq2), (4, .int pq3)]) dX13_steal_10 (by decide) rfl ?_
  refine J_iload (pc := 12) 0 dX13_steal_12 rfl ?_
  refine J_eqo (o1 := if (1 : Int32) ≤ 0 then none else _) (if_neg (by decide)).symm ?_
  refine J_if_le (pc := 14) (tgt := 26) dX13_steal_14 (by decide) (fun z9 => absurd z9 (by decide)) (fun _ => ?_)
  refine J_aload_n (pc := 17) 1 dX13_steal_17 rfl rfl ?_
  refine J_iload (pc := 18) 0 dX13_steal_18 rfl ?_
  refine JC_lt_i (K := k) (J_callV (mi := mi_X13_steal) (mj := mi_X13_lost) (pc := 20) dX13_steal_20 ml_X13_475 ok_X13_lost ov_X13_lost ⟨Nat.le_of_ble_eq_true rfl, Nat.le_of_ble_eq_true rfl⟩ rfl (h0.lt 57 (by decide)) (h0.ty 57 rfl) rfl (s_X13_lost g (j_sI d 57 0 0) 1 h0) rfl (Nat.le_of_ble_eq_true rfl)) (fun q20 eq20 => ?_)
  refine J_goto (pc := 23) (tgt := 50) dX13_steal_23 (by decide) ?_
  exact J_eqo (hk (q20.1, q20.2)) (J_iret (pc := 50) dX13_steal_50 rfl)
def f_X13_restsn (d : JD) (pq0 : Int32) : Int32 × JD := (j_let (f_X13_refused (j_sI d 57 0 0) 1) (fun q17 => (q17.1, q17.2)))
set_option maxRecDepth 100000 in
set_option maxHeartbeats 4000000 in
theorem s_X13_restsn (g : JG) (d : JD) (pq0 : Int32) (h0 : j_sh g 0 TS_W RS_W) (hla : g.2.2.1 57 3 = none) : JM mi_X13_rests 0 0 (g, d) [.ref 57, .int pq0] (some (some (.int (f_X13_restsn d pq0).1), (g, (f_X13_restsn d pq0).2))) := by
  refine JM_of (by decide) rfl (Nat.le_of_ble_eq_true rfl) ?_
  refine J_loc (loc' := [(0, .ref 57), (1, .int pq0)]) [0, 1] rfl ?_
  obtain ⟨k, hk⟩ : ∃ k : Int32 × JD → Option (Option Value × JH), ∀ r9, k r9 = some (some (.int r9.1), (g, r9.2)) := ⟨_, fun _ => rfl⟩
  refine J_eqo (hk (f_X13_restsn d pq0)).symm ?_
  unfold f_X13_restsn
  refine J_aload_n (pc := 0) 0 dX13_rests_0 rfl rfl ?_
  refine J_iconst (pc := 1) (v := 0) dX13_rests_1 (by decide) ?_
  refine J_putI (pc := 2) dX13_rests_2 fl_X13_42 ft_12_0 (h0.lt 57 (by decide)) (h0.ty 57 rfl) rfl rfl rfl ?_
  refine J_aload_n (pc := 5) 0 dX13_rests_5 rfl rfl ?_
  refine J_iload_n (pc := 6) 1 dX13_rests_6 rfl rfl ?_
  refine JC_pt_i (J_callV (mi := mi_X13_rests) (mj := mi_X13_refusesWorth) (pc := 7) dX13_rests_7 ml_X13_472 ok_X13_refusesWorth ov_X13_refusesWorth ⟨Nat.le_of_ble_eq_true rfl, Nat.le_of_ble_eq_true rfl⟩ rfl (h0.lt 57 (by decide)) (h0.ty 57 rfl) rfl (s_X13_refusesWorthn g (j_sI d 57 0 0) pq0 h0 hla) rfl (Nat.le_of_ble_eq_true rfl)) ?_
  refine J_val (y := 1) rfl ?_
  refine J_istore_n (pc := 10) (loc' := [(2, .int 1), (0, .ref 57), (1, .int pq0)]) dX13_rests_10 rfl (by decide) rfl ?_
  refine J_iload_n (pc := 11) 0 dX13_rests_11 rfl rfl ?_
  refine J_eqo (o1 := if (1 : Int32) ≤ 0 then none else _) (if_neg (by decide)).symm ?_
  refine J_if_le (pc := 12) (tgt := 21) dX13_rests_12 (by decide) (fun z9 => absurd z9 (by decide)) (fun _ => ?_)
  refine J_aload_n (pc := 15) 1 dX13_rests_15 rfl rfl ?_
  refine J_iload_n (pc := 16) 0 dX13_rests_16 rfl rfl ?_
  refine JC_lt_i (K := k) (J_callV (mi := mi_X13_rests) (mj := mi_X13_refused) (pc := 17) dX13_rests_17 ml_X13_48 ok_X13_refused ov_X13_refused ⟨Nat.le_of_ble_eq_true rfl, Nat.le_of_ble_eq_true rfl⟩ rfl (h0.lt 57 (by decide)) (h0.ty 57 rfl) rfl (s_X13_refused g (j_sI d 57 0 0) 1 h0) rfl (Nat.le_of_ble_eq_true rfl)) (fun q17 eq17 => ?_)
  exact J_eqo (hk (q17.1, q17.2)) (J_iret (pc := 20) dX13_rests_20 rfl)
def f_X13_restn (d : JD) (pq0 : Int32) : Int32 × JD := (j_let (f_X13_refused (j_sI d 57 0 0) 1) (fun q17 => (q17.1, q17.2)))
set_option maxRecDepth 100000 in
set_option maxHeartbeats 4000000 in
theorem s_X13_restn (g : JG) (d : JD) (pq0 : Int32) (h0 : j_sh g 0 TS_W RS_W) (hla : g.2.2.1 57 3 = none) : JM mi_X13_rest 0 0 (g, d) [.ref 57, .int pq0] (some (some (.int (f_X13_restn d pq0).1), (g, (f_X13_restn d pq0).2))) := by
  refine JM_of (by decide) rfl (Nat.le_of_ble_eq_true rfl) ?_
  refine J_loc (loc' := [(0, .ref 57), (1, .int pq0)]) [0, 1] rfl ?_
  obtain ⟨k, hk⟩ : ∃ k : Int32 × JD → Option (Option Value × JH), ∀ r9, k r9 = some (some (.int r9.1), (g, r9.2)) := ⟨_, fun _ => rfl⟩
  refine J_eqo (hk (f_X13_restn d pq0)).symm ?_
  unfold f_X13_restn
  refine J_aload_n (pc := 0) 0 dX13_rest_0 rfl rfl ?_
  refine J_iconst (pc := 1) (v := 0) dX13_rest_1 (by decide) ?_
  refine J_putI (pc := 2) dX13_rest_2 fl_X13_42 ft_12_0 (h0.lt 57 (by decide)) (h0.ty 57 rfl) rfl rfl rfl ?_
  refine J_aload_n (pc := 5) 0 dX13_rest_5 rfl rfl ?_
  refine J_iload_n (pc := 6) 1 dX13_rest_6 rfl rfl ?_
  refine JC_pt_i (J_callV (mi := mi_X13_rest) (mj := mi_X13_refusesWorth) (pc := 7) dX13_rest_7 ml_X13_472 ok_X13_refusesWorth ov_X13_refusesWorth ⟨Nat.le_of_ble_eq_true rfl, Nat.le_of_ble_eq_true rfl⟩ rfl (h0.lt 57 (by decide)) (h0.ty 57 rfl) rfl (s_X13_refusesWorthn g (j_sI d 57 0 0) pq0 h0 hla) rfl (Nat.le_of_ble_eq_true rfl)) ?_
  refine J_val (y := 1) rfl ?_
  refine J_istore_n (pc := 10) (loc' := [(2, .int 1), (0, .ref 57), (1, .int pq0)]) dX13_rest_10 rfl (by decide) rfl ?_
  refine J_iload_n (pc := 11) 0 dX13_rest_11 rfl rfl ?_
  refine J_eqo (o1 := if (1 : Int32) ≤ 0 then none else _) (if_neg (by decide)).symm ?_
  refine J_if_le (pc := 12) (tgt := 21) dX13_rest_12 (by decide) (fun z9 => absurd z9 (by decide)) (fun _ => ?_)
  refine J_aload_n (pc := 15) 1 dX13_rest_15 rfl rfl ?_
  refine J_iload_n (pc := 16) 0 dX13_rest_16 rfl rfl ?_
  refine JC_lt_i (K := k) (J_callV (mi := mi_X13_rest) (mj := mi_X13_refused) (pc := 17) dX13_rest_17 ml_X13_48 ok_X13_refused ov_X13_refused ⟨Nat.le_of_ble_eq_true rfl, Nat.le_of_ble_eq_true rfl⟩ rfl (h0.lt 57 (by decide)) (h0.ty 57 rfl) rfl (s_X13_refused g (j_sI d 57 0 0) 1 h0) rfl (Nat.le_of_ble_eq_true rfl)) (fun q17 eq17 => ?_)
  exact J_eqo (hk (q17.1, q17.2)) (J_iret (pc := 20) dX13_rest_20 rfl)
def f_X13_holdsn (d : JD) (pq0 : Int32) (pq1 : Int32) (pq2 : Int32) : Int64 × JD := (j_let (f_X13_refused (j_sI d 57 0 0) 1) (fun q15 => (q15.1.toInt64, q15.2)))
set_option maxRecDepth 100000 in
set_option maxHeartbeats 4000000 in
theorem s_X13_holdsn (g : JG) (d : JD) (pq0 : Int32) (pq1 : Int32) (pq2 : Int32) (h0 : j_sh g 0 TS_W RS_W) (hla : g.2.2.1 57 3 = none) : JM mi_X13_holds 0 0 (g, d) [.ref 57, .int pq0, .int pq1, .int pq2] (some (some (.long (f_X13_holdsn d pq0 pq1 pq2).1), (g, (f_X13_holdsn d pq0 pq1 pq2).2))) := by
  refine JM_of (by decide) rfl (Nat.le_of_ble_eq_true rfl) ?_
  refine J_loc (loc' := [(0, .ref 57), (1, .int pq0), (2, .int pq1), (3, .int pq2)]) [0, 1, 2, 3] rfl ?_
  obtain ⟨k, hk⟩ : ∃ k : Int64 × JD → Option (Option Value × JH), ∀ r9, k r9 = some (some (.long r9.1), (g, r9.2)) := ⟨_, fun _ => rfl⟩
  refine J_eqo (hk (f_X13_holdsn d pq0 pq1 pq2)).symm ?_
  unfold f_X13_holdsn
  refine J_aload_n (pc := 0) 0 dX13_holds_0 rfl rfl ?_
  refine J_iconst (pc := 1) (v := 0) dX13_holds_1 (by decide) ?_
  refine J_putI (pc := 2) dX13_holds_2 fl_X13_42 ft_12_0 (h0.lt 57 (by decide)) (h0.ty 57 rfl) rfl rfl rfl ?_
  refine J_aload_n (pc := 5) 0 dX13_holds_5 rfl rfl ?_
  refine J_iload_n (pc := 6) 1 dX13_holds_6 rfl rfl ?_
  refine JC_pt_i (J_callV (mi := mi_X13_holds) (mj := mi_X13_isGate) (pc := 7) dX13_holds_7 ml_X13_345 ok_X13_isGate ov_X13_isGate ⟨Nat.le_of_ble_eq_true rfl, Nat.le_of_ble_eq_true rfl⟩ rfl (h0.lt 57 (by decide)) (h0.ty 57 rfl) rfl (s_X13_isGaten g (j_sI d 57 0 0) pq0 h0 hla) rfl (Nat.le_of_ble_eq_true rfl)) ?_
  refine J_val (y := j_b false) rfl ?_
  refine J_eqo (o1 := if (j_b false) = 0 then _ else none) (if_pos (by decide)).symm ?_
  refine J_if_ne (pc := 10) (tgt := 20) dX13_holds_10 (by decide) (fun z9 => absurd z9 (by decide)) (fun _ => ?_)
  refine J_aload_n (pc := 13) 0 dX13_holds_13 rfl rfl ?_
  refine J_iconst (pc := 14) (v := 1) dX13_holds_14 (by decide) ?_
  refine JC_lt_i (K := k) (J_callV (mi := mi_X13_holds) (mj := mi_X13_refused) (pc := 15) dX13_holds_15 ml_X13_48 ok_X13_refused ov_X13_refused ⟨Nat.le_of_ble_eq_true rfl, Nat.le_of_ble_eq_true rfl⟩ rfl (h0.lt 57 (by decide)) (h0.ty 57 rfl) rfl (s_X13_refused g (j_sI d 57 0 0) 1 h0) rfl (Nat.le_of_ble_eq_true rfl)) (fun q15 eq15 => ?_)
  refine J_i2l (pc := 18) dX13_holds_18 ?_
  exact J_eqo (hk (q15.1.toInt64, q15.2)) (J_lret (pc := 19) dX13_holds_19 rfl)
def f_X13_meann (d : JD) (pq0 : Int32) (pq1 : Int32) : Int64 × JD := (j_let (f_X13_refused (j_sI d 57 0 0) 1) (fun q15 => (q15.1.toInt64, q15.2)))
set_option maxRecDepth 100000 in
set_option maxHeartbeats 4000000 in
theorem s_X13_meann (g : JG) (d : JD) (pq0 : Int32) (pq1 : Int32) (h0 : j_sh g 0 TS_W RS_W) (hla : g.2.2.1 57 3 = none) : JM mi_X13_mean 0 0 (g, d) [.ref 57, .int pq0, .int pq1] (some (some (.long (f_X13_meann d pq0 pq1).1), (g, (f_X13_meann d pq0 pq1).2))) := by
  refine JM_of (by decide) rfl (Nat.le_of_ble_eq_true rfl) ?_
  refine J_loc (loc' := [(0, .ref 57), (1, .int pq0), (2, .int pq1)]) [0, 1, 2] rfl ?_
  obtain ⟨k, hk⟩ : ∃ k : Int64 × JD → Option (Option Value × JH), ∀ r9, k r9 = some (some (.long r9.1), (g, r9.2)) := ⟨_, fun _ => rfl⟩
  refine J_eqo (hk (f_X13_meann d pq0 pq1)).symm ?_
  unfold f_X13_meann
  refine J_aload_n (pc := 0) 0 dX13_mean_0 rfl rfl ?_
  refine J_iconst (pc := 1) (v := 0) dX13_mean_1 (by decide) ?_
  refine J_putI (pc := 2) dX13_mean_2 fl_X13_42 ft_12_0 (h0.lt 57 (by decide)) (h0.ty 57 rfl) rfl rfl rfl ?_
  refine J_aload_n (pc := 5) 0 dX13_mean_5 rfl rfl ?_
  refine J_iload_n (pc := 6) 1 dX13_mean_6 rfl rfl ?_
  refine JC_pt_i (J_callV (mi := mi_X13_mean) (mj := mi_X13_isPerson) (pc := 7) dX13_mean_7 ml_X13_351 ok_X13_isPerson ov_X13_isPerson ⟨Nat.le_of_ble_eq_true rfl, Nat.le_of_ble_eq_true rfl⟩ rfl (h0.lt 57 (by decide)) (h0.ty 57 rfl) rfl (s_X13_isPersonn g (j_sI d 57 0 0) pq0 h0 hla) rfl (Nat.le_of_ble_eq_true rfl)) ?_
  refine J_val (y := j_b false) rfl ?_
  refine J_eqo (o1 := if (j_b false) = 0 then _ else none) (if_pos (by decide)).symm ?_
  refine J_if_ne (pc := 10) (tgt := 20) dX13_mean_10 (by decide) (fun z9 => absurd z9 (by decide)) (fun _ => ?_)
  refine J_aload_n (pc := 13) 0 dX13_mean_13 rfl rfl ?_
  refine J_iconst (pc := 14) (v := 1) dX13_mean_14 (by decide) ?_
  refine JC_lt_i (K := k) (J_callV (mi := mi_X13_mean) (mj := mi_X13_refused) (pc := 15) dX13_mean_15 ml_X13_48 ok_X13_refused ov_X13_refused ⟨Nat.le_of_ble_eq_true rfl, Nat.le_of_ble_eq_true rfl⟩ rfl (h0.lt 57 (by decide)) (h0.ty 57 rfl) rfl (s_X13_refused g (j_sI d 57 0 0) 1 h0) rfl (Nat.le_of_ble_eq_true rfl)) (fun q15 eq15 => ?_)
  refine J_i2l (pc := 18) dX13_mean_18 ?_
  exact J_eqo (hk (q15.1.toInt64, q15.2)) (J_lret (pc := 19) dX13_mean_19 rfl)
def f_X13_keepsn (d : JD) (pq0 : Int32) (pq1 : Int32) (pq2 : Int32) : Int64 × JD := (j_let (f_X13_refused (j_sI d 57 0 0) 1) (fun q25 => (q25.1.toInt64, q25.2)))
set_option maxRecDepth 100000 in
set_option maxHeartbeats 4000000 in
theorem s_X13_keepsn (g : JG) (d : JD) (pq0 : Int32) (pq1 : Int32) (pq2 : Int32) (h0 : j_sh g 0 TS_W RS_W) (hla : g.2.2.1 57 3 = none) : JM mi_X13_keeps 0 0 (g, d) [.ref 57, .int pq0, .int pq1, .int pq2] (some (some (.long (f_X13_keepsn d pq0 pq1 pq2).1), (g, (f_X13_keepsn d pq0 pq1 pq2).2))) := by
  refine JM_of (by decide) rfl (Nat.le_of_ble_eq_true rfl) ?_
  refine J_loc (loc' := [(0, .ref 57), (1, .int pq0), (2, .int pq1), (3, .int pq2)]) [0, 1, 2, 3] rfl ?_
  obtain ⟨k, hk⟩ : ∃ k : Int64 × JD → Option (Option Value × JH), ∀ r9, k r9 = some (some (.long r9.1), (g, r9.2)) := ⟨_, fun _ => rfl⟩
  refine J_eqo (hk (f_X13_keepsn d pq0 pq1 pq2)).symm ?_
  unfold f_X13_keepsn
  refine J_aload_n (pc := 0) 0 dX13_keeps_0 rfl rfl ?_
  refine J_iconst (pc := 1) (v := 0) dX13_keeps_1 (by decide) ?_
  refine J_putI (pc := 2) dX13_keeps_2 fl_X13_42 ft_12_0 (h0.lt 57 (by decide)) (h0.ty 57 rfl) rfl rfl rfl ?_
  refine J_aload_n (pc := 5) 0 dX13_keeps_5 rfl rfl ?_
  refine J_aload_n (pc := 6) 0 dX13_keeps_6 rfl rfl ?_
  refine J_iload_n (pc := 7) 1 dX13_keeps_7 rfl rfl ?_
  refine JC_pt_i (J_callV (mi := mi_X13_keeps) (mj := mi_X13_isPerson) (pc := 8) dX13_keeps_8 ml_X13_351 ok_X13_isPerson ov_X13_isPerson ⟨Nat.le_of_ble_eq_true rfl, Nat.le_of_ble_eq_true rfl⟩ rfl (h0.lt 57 (by decide)) (h0.ty 57 rfl) rfl (s_X13_isPersonn g (j_sI d 57 0 0) pq0 h0 hla) rfl (Nat.le_of_ble_eq_true rfl)) ?_
  refine J_val (y := j_b false) rfl ?_
  refine J_iload_n (pc := 11) 2 dX13_keeps_11 rfl rfl ?_
  refine JC_pt_i (J_callV (mi := mi_X13_keeps) (mj := mi_X13_refusesMuch) (pc := 12) dX13_keeps_12 ml_X13_401 ok_X13_refusesMuch ov_X13_refusesMuch ⟨Nat.le_of_ble_eq_true rfl, Nat.le_of_ble_eq_true rfl⟩ rfl (h0.lt 57 (by decide)) (h0.ty 57 rfl) rfl (s_X13_refusesMuch g (j_sI d 57 0 0) (j_b false) pq1 h0) rfl (Nat.le_of_ble_eq_true rfl)) ?_
  refine J_val (y := 1) rfl ?_
  refine J_istore (pc := 15) (loc' := [(4, .int 1), (0, .ref 57), (1, .int pq0), (2, .int pq1), (3, .int pq2)]) dX13_keeps_15 (by decide) rfl ?_
  refine J_iload (pc := 17) 0 dX13_keeps_17 rfl ?_
  refine J_eqo (o1 := if (1 : Int32) ≤ 0 then none else _) (if_neg (by decide)).symm ?_
  refine J_if_le (pc := 19) (tgt := 30) dX13_keeps_19 (by decide) (fun z9 => absurd z9 (by decide)) (fun _ => ?_)
  refine J_aload_n (pc := 22) 1 dX13_keeps_22 rfl rfl ?_
  refine J_iload (pc := 23) 0 dX13_keeps_23 rfl ?_
  refine JC_lt_i (K := k) (J_callV (mi := mi_X13_keeps) (mj := mi_X13_refused) (pc := 25) dX13_keeps_25 ml_X13_48 ok_X13_refused ov_X13_refused ⟨Nat.le_of_ble_eq_true rfl, Nat.le_of_ble_eq_true rfl⟩ rfl (h0.lt 57 (by decide)) (h0.ty 57 rfl) rfl (s_X13_refused g (j_sI d 57 0 0) 1 h0) rfl (Nat.le_of_ble_eq_true rfl)) (fun q25 eq25 => ?_)
  refine J_i2l (pc := 28) dX13_keeps_28 ?_
  exact J_eqo (hk (q25.1.toInt64, q25.2)) (J_lret (pc := 29) dX13_keeps_29 rfl)
def f_X13_centuryn (d : JD) (pq0 : Int32) (pq1 : Int32) (pq2 : Int32) : Int32 × JD := (j_let (f_X13_refused (j_sI d 57 0 0) 1) (fun q26 => (q26.1, q26.2)))
set_option maxRecDepth 100000 in
set_option maxHeartbeats 4000000 in
theorem s_X13_centuryn (g : JG) (d : JD) (pq0 : Int32) (pq1 : Int32) (pq2 : Int32) (h0 : j_sh g 0 TS_W RS_W) (hla : g.2.2.1 57 3 = none) : JM mi_X13_century 0 0 (g, d) [.ref 57, .int pq0, .int pq1, .int pq2] (some (some (.int (f_X13_centuryn d pq0 pq1 pq2).1), (g, (f_X13_centuryn d pq0 pq1 pq2).2))) := by
  refine JM_of (by decide) rfl (Nat.le_of_ble_eq_true rfl) ?_
  refine J_loc (loc' := [(0, .ref 57), (1, .int pq0), (2, .int pq1), (3, .int pq2)]) [0, 1, 2, 3] rfl ?_
  obtain ⟨k, hk⟩ : ∃ k : Int32 × JD → Option (Option Value × JH), ∀ r9, k r9 = some (some (.int r9.1), (g, r9.2)) := ⟨_, fun _ => rfl⟩
  refine J_eqo (hk (f_X13_centuryn d pq0 pq1 pq2)).symm ?_
  unfold f_X13_centuryn
  refine J_aload_n (pc := 0) 0 dX13_century_0 rfl rfl ?_
  refine J_iconst (pc := 1) (v := 0) dX13_century_1 (by decide) ?_
  refine J_putI (pc := 2) dX13_century_2 fl_X13_42 ft_12_0 (h0.lt 57 (by decide)) (h0.ty 57 rfl) rfl rfl rfl ?_
  refine J_aload_n (pc := 5) 0 dX13_century_5 rfl rfl ?_
  refine J_aload_n (pc := 6) 0 dX13_century_6 rfl rfl ?_
  refine J_iload_n (pc := 7) 1 dX13_century_7 rfl rfl ?_
  refine JC_pt_i (J_callV (mi := mi_X13_century) (mj := mi_X13_isPerson) (pc := 8) dX13_century_8 ml_X13_351 ok_X13_isPerson ov_X13_isPerson ⟨Nat.le_of_ble_eq_true rfl, Nat.le_of_ble_eq_true rfl⟩ rfl (h0.lt 57 (by decide)) (h0.ty 57 rfl) rfl (s_X13_isPersonn g (j_sI d 57 0 0) pq0 h0 hla) rfl (Nat.le_of_ble_eq_true rfl)) ?_
  refine J_val (y := j_b false) rfl ?_
  refine J_iload_n (pc := 11) 2 dX13_century_11 rfl rfl ?_
  refine J_iload_n (pc := 12) 3 dX13_century_12 rfl rfl ?_
  refine JC_pt_i (J_callV (mi := mi_X13_century) (mj := mi_X13_refusesSeed) (pc := 13) dX13_century_13 ml_X13_502 ok_X13_refusesSeed ov_X13_refusesSeed ⟨Nat.le_of_ble_eq_true rfl, Nat.le_of_ble_eq_true rfl⟩ rfl (h0.lt 57 (by decide)) (h0.ty 57 rfl) rfl (s_X13_refusesSeed g (j_sI d 57 0 0) (j_b false) pq1 pq2 h0) rfl (Nat.le_of_ble_eq_true rfl)) ?_
  refine J_val (y := 1) rfl ?_
  refine J_istore (pc := 16) (loc' := [(4, .int 1), (0, .ref 57), (1, .int pq0), (2, .int pq1), (3, .int pq2)]) dX13_century_16 (by decide) rfl ?_
  refine J_iload (pc := 18) 0 dX13_century_18 rfl ?_
  refine J_eqo (o1 := if (1 : Int32) ≤ 0 then none else _) (if_neg (by decide)).symm ?_
  refine J_if_le (pc := 20) (tgt := 30) dX13_century_20 (by decide) (fun z9 => absurd z9 (by decide)) (fun _ => ?_)
  refine J_aload_n (pc := 23) 1 dX13_century_23 rfl rfl ?_
  refine J_iload (pc := 24) 0 dX13_century_24 rfl ?_
  refine JC_lt_i (K := k) (J_callV (mi := mi_X13_century) (mj := mi_X13_refused) (pc := 26) dX13_century_26 ml_X13_48 ok_X13_refused ov_X13_refused ⟨Nat.le_of_ble_eq_true rfl, Nat.le_of_ble_eq_true rfl⟩ rfl (h0.lt 57 (by decide)) (h0.ty 57 rfl) rfl (s_X13_refused g (j_sI d 57 0 0) 1 h0) rfl (Nat.le_of_ble_eq_true rfl)) (fun q26 eq26 => ?_)
  exact J_eqo (hk (q26.1, q26.2)) (J_iret (pc := 29) dX13_century_29 rfl)
def f_X13_baren (d : JD) (pq0 : Int32) (pq1 : Int32) : Int32 × JD := (j_let (f_X13_refused (j_sI d 57 0 0) 1) (fun q30 => (q30.1, q30.2)))
set_option maxRecDepth 100000 in
set_option maxHeartbeats 4000000 in
theorem s_X13_baren (g : JG) (d : JD) (pq0 : Int32) (pq1 : Int32) (h0 : j_sh g 0 TS_W RS_W) (hla : g.2.2.1 57 3 = none) : JM mi_X13_bare 0 0 (g, d) [.ref 57, .int pq0, .int pq1] (some (some (.int (f_X13_baren d pq0 pq1).1), (g, (f_X13_baren d pq0 pq1).2))) := by
  refine JM_of (by decide) rfl (Nat.le_of_ble_eq_true rfl) ?_
  refine J_loc (loc' := [(0, .ref 57), (1, .int pq0), (2, .int pq1)]) [0, 1, 2] rfl ?_
  obtain ⟨k, hk⟩ : ∃ k : Int32 × JD → Option (Option Value × JH), ∀ r9, k r9 = some (some (.int r9.1), (g, r9.2)) := ⟨_, fun _ => rfl⟩
  refine J_eqo (hk (f_X13_baren d pq0 pq1)).symm ?_
  unfold f_X13_baren
  refine J_aload_n (pc := 0) 0 dX13_bare_0 rfl rfl ?_
  refine J_iconst (pc := 1) (v := 0) dX13_bare_1 (by decide) ?_
  refine J_putI (pc := 2) dX13_bare_2 fl_X13_42 ft_12_0 (h0.lt 57 (by decide)) (h0.ty 57 rfl) rfl rfl rfl ?_
  refine J_aload_n (pc := 5) 0 dX13_bare_5 rfl rfl ?_
  refine J_aload_n (pc := 6) 0 dX13_bare_6 rfl rfl ?_
  refine J_getN (pc := 7) dX13_bare_7 fl_X13_321 (h0.lt 57 (by decide)) (h0.ty 57 rfl) rfl hla ?_
  refine J_ifnullN (pc := 10) (tgt := 17) dX13_bare_10 (by decide) ?_
  refine J_iconst (pc := 17) (v := 0) dX13_bare_17 (by decide) ?_
  refine J_iload_n (pc := 18) 1 dX13_bare_18 rfl rfl ?_
  refine J_iload_n (pc := 19) 2 dX13_bare_19 rfl rfl ?_
  refine JC_pt_i (J_callV (mi := mi_X13_bare) (mj := mi_X13_refusesSeed) (pc := 20) dX13_bare_20 ml_X13_502 ok_X13_refusesSeed ov_X13_refusesSeed ⟨Nat.le_of_ble_eq_true rfl, Nat.le_of_ble_eq_true rfl⟩ rfl (h0.lt 57 (by decide)) (h0.ty 57 rfl) rfl (s_X13_refusesSeed g (j_sI d 57 0 0) 0 pq0 pq1 h0) rfl (Nat.le_of_ble_eq_true rfl)) ?_
  refine J_val (y := 1) rfl ?_
  refine J_istore_n (pc := 23) (loc' := [(3, .int 1), (0, .ref 57), (1, .int pq0), (2, .int pq1)]) dX13_bare_23 rfl (by decide) rfl ?_
  refine J_iload_n (pc := 24) 0 dX13_bare_24 rfl rfl ?_
  refine J_eqo (o1 := if (1 : Int32) ≤ 0 then none else _) (if_neg (by decide)).symm ?_
  refine J_if_le (pc := 25) (tgt := 34) dX13_bare_25 (by decide) (fun z9 => absurd z9 (by decide)) (fun _ => ?_)
  refine J_aload_n (pc := 28) 1 dX13_bare_28 rfl rfl ?_
  refine J_iload_n (pc := 29) 0 dX13_bare_29 rfl rfl ?_
  refine JC_lt_i (K := k) (J_callV (mi := mi_X13_bare) (mj := mi_X13_refused) (pc := 30) dX13_bare_30 ml_X13_48 ok_X13_refused ov_X13_refused ⟨Nat.le_of_ble_eq_true rfl, Nat.le_of_ble_eq_true rfl⟩ rfl (h0.lt 57 (by decide)) (h0.ty 57 rfl) rfl (s_X13_refused g (j_sI d 57 0 0) 1 h0) rfl (Nat.le_of_ble_eq_true rfl)) (fun q30 eq30 => ?_)
  exact J_eqo (hk (q30.1, q30.2)) (J_iret (pc := 33) dX13_bare_33 rfl)
def f_X13_hangn (d : JD) (pq0 : Int32) (pq1 : Int32) : Bool × JD := (j_let (f_X13_denied (j_sI d 57 0 0) 1) (fun q15 => (q15.1, q15.2)))
set_option maxRecDepth 100000 in
set_option maxHeartbeats 4000000 in
theorem s_X13_hangn (g : JG) (d : JD) (pq0 : Int32) (pq1 : Int32) (h0 : j_sh g 0 TS_W RS_W) (hla : g.2.2.1 57 3 = none) : JM mi_X13_hang 0 0 (g, d) [.ref 57, .int pq0, .int pq1] (some (some (.int (j_b (f_X13_hangn d pq0 pq1).1)), (g, (f_X13_hangn d pq0 pq1).2))) := by
  refine JM_of (by decide) rfl (Nat.le_of_ble_eq_true rfl) ?_
  refine J_loc (loc' := [(0, .ref 57), (1, .int pq0), (2, .int pq1)]) [0, 1, 2] rfl ?_
  obtain ⟨k, hk⟩ : ∃ k : Bool × JD → Option (Option Value × JH), ∀ r9, k r9 = some (some (.int (j_b r9.1)), (g, r9.2)) := ⟨_, fun _ => rfl⟩
  refine J_eqo (hk (f_X13_hangn d pq0 pq1)).symm ?_
  unfold f_X13_hangn
  refine J_aload_n (pc := 0) 0 dX13_hang_0 rfl rfl ?_
  refine J_iconst (pc := 1) (v := 0) dX13_hang_1 (by decide) ?_
  refine J_putI (pc := 2) dX13_hang_2 fl_X13_42 ft_12_0 (h0.lt 57 (by decide)) (h0.ty 57 rfl) rfl rfl rfl ?_
  refine J_aload_n (pc := 5) 0 dX13_hang_5 rfl rfl ?_
  refine J_iload_n (pc := 6) 1 dX13_hang_6 rfl rfl ?_
  refine JC_pt_i (J_callV (mi := mi_X13_hang) (mj := mi_X13_isGate) (pc := 7) dX13_hang_7 ml_X13_345 ok_X13_isGate ov_X13_isGate ⟨Nat.le_of_ble_eq_true rfl, Nat.le_of_ble_eq_true rfl⟩ rfl (h0.lt 57 (by decide)) (h0.ty 57 rfl) rfl (s_X13_isGaten g (j_sI d 57 0 0) pq0 h0 hla) rfl (Nat.le_of_ble_eq_true rfl)) ?_
  refine J_val (y := j_b false) rfl ?_
  refine J_eqo (o1 := if (j_b false) = 0 then _ else none) (if_pos (by decide)).symm ?_
  refine J_if_ne (pc := 10) (tgt := 19) dX13_hang_10 (by decide) (fun z9 => absurd z9 (by decide)) (fun _ => ?_)
  refine J_aload_n (pc := 13) 0 dX13_hang_13 rfl rfl ?_
  refine J_iconst (pc := 14) (v := 1) dX13_hang_14 (by decide) ?_
  refine JC_lt_b (K := k) (J_callV (mi := mi_X13_hang) (mj := mi_X13_denied) (pc := 15) dX13_hang_15 ml_X13_512 ok_X13_denied ov_X13_denied ⟨Nat.le_of_ble_eq_true rfl, Nat.le_of_ble_eq_true rfl⟩ rfl (h0.lt 57 (by decide)) (h0.ty 57 rfl) rfl (s_X13_denied g (j_sI d 57 0 0) 1 h0) rfl (Nat.le_of_ble_eq_true rfl)) (fun q15 eq15 => ?_)
  exact J_eqo (hk (q15.1, q15.2)) (J_zretB (pc := 18) dX13_hang_18 rfl)
def f_X13_refusesHungn (pq0 : Int32) : Int32 := (1)
set_option maxRecDepth 100000 in
set_option maxHeartbeats 4000000 in
theorem s_X13_refusesHungn (g : JG) (d : JD) (pq0 : Int32) (h0 : j_sh g 0 TS_W RS_W) (hla : g.2.2.1 57 3 = none) : JM mi_X13_refusesHung 0 0 (g, d) [.ref 57, .int pq0] (some (some (.int (f_X13_refusesHungn pq0)), (g, d))) := by
  refine JM_of (by decide) rfl (Nat.le_of_ble_eq_true rfl) ?_
  refine J_loc (loc' := [(0, .ref 57), (1, .int pq0)]) [0, 1] rfl ?_
  obtain ⟨k, hk⟩ : ∃ k : Int32 → Option (Option Value × JH), ∀ r9, k r9 = some (some (.int r9), (g, d)) := ⟨_, fun _ => rfl⟩
  refine J_eqo (hk (f_X13_refusesHungn pq0)).symm ?_
  unfold f_X13_refusesHungn
  refine J_aload_n (pc := 0) 0 dX13_refusesHung_0 rfl rfl ?_
  refine J_iload_n (pc := 1) 1 dX13_refusesHung_1 rfl rfl ?_
  refine JC_pt_i (J_callV (mi := mi_X13_refusesHung) (mj := mi_X13_isGate) (pc := 2) dX13_refusesHung_2 ml_X13_345 ok_X13_isGate ov_X13_isGate ⟨Nat.le_of_ble_eq_true rfl, Nat.le_of_ble_eq_true rfl⟩ rfl (h0.lt 57 (by decide)) (h0.ty 57 rfl) rfl (s_X13_isGaten g d pq0 h0 hla) rfl (Nat.le_of_ble_eq_true rfl)) ?_
  refine J_val (y := j_b false) rfl ?_
  refine J_eqo (o1 := if (j_b false) = 0 then _ else none) (if_pos (by decide)).symm ?_
  refine J_if_ne (pc := 5) (tgt := 12) dX13_refusesHung_5 (by decide) (fun z9 => absurd z9 (by decide)) (fun _ => ?_)
  refine J_iconst (pc := 8) (v := 1) dX13_refusesHung_8 (by decide) ?_
  refine J_goto (pc := 9) (tgt := 44) dX13_refusesHung_9 (by decide) ?_
  exact J_eqo (hk 1) (J_iret (pc := 44) dX13_refusesHung_44 rfl)
def f_X13_taken (d : JD) (pq0 : Int32) : Bool × JD := (j_let (f_X13_denied (j_sI d 57 0 0) 1) (fun q17 => (q17.1, q17.2)))
set_option maxRecDepth 100000 in
set_option maxHeartbeats 4000000 in
theorem s_X13_taken (g : JG) (d : JD) (pq0 : Int32) (h0 : j_sh g 0 TS_W RS_W) (hla : g.2.2.1 57 3 = none) : JM mi_X13_take 0 0 (g, d) [.ref 57, .int pq0] (some (some (.int (j_b (f_X13_taken d pq0).1)), (g, (f_X13_taken d pq0).2))) := by
  refine JM_of (by decide) rfl (Nat.le_of_ble_eq_true rfl) ?_
  refine J_loc (loc' := [(0, .ref 57), (1, .int pq0)]) [0, 1] rfl ?_
  obtain ⟨k, hk⟩ : ∃ k : Bool × JD → Option (Option Value × JH), ∀ r9, k r9 = some (some (.int (j_b r9.1)), (g, r9.2)) := ⟨_, fun _ => rfl⟩
  refine J_eqo (hk (f_X13_taken d pq0)).symm ?_
  unfold f_X13_taken
  refine J_aload_n (pc := 0) 0 dX13_take_0 rfl rfl ?_
  refine J_iconst (pc := 1) (v := 0) dX13_take_1 (by decide) ?_
  refine J_putI (pc := 2) dX13_take_2 fl_X13_42 ft_12_0 (h0.lt 57 (by decide)) (h0.ty 57 rfl) rfl rfl rfl ?_
  refine J_aload_n (pc := 5) 0 dX13_take_5 rfl rfl ?_
  refine J_iload_n (pc := 6) 1 dX13_take_6 rfl rfl ?_
  refine JC_pt_i (J_callV (mi := mi_X13_take) (mj := mi_X13_refusesHung) (pc := 7) dX13_take_7 ml_X13_521 ok_X13_refusesHung ov_X13_refusesHung ⟨Nat.le_of_ble_eq_true rfl, Nat.le_of_ble_eq_true rfl⟩ rfl (h0.lt 57 (by decide)) (h0.ty 57 rfl) rfl (s_X13_refusesHungn g (j_sI d 57 0 0) pq0 h0 hla) rfl (Nat.le_of_ble_eq_true rfl)) ?_
  refine J_val (y := 1) rfl ?_
  refine J_istore_n (pc := 10) (loc' := [(2, .int 1), (0, .ref 57), (1, .int pq0)]) dX13_take_10 rfl (by decide) rfl ?_
  refine J_iload_n (pc := 11) 0 dX13_take_11 rfl rfl ?_
  refine J_eqo (o1 := if (1 : Int32) ≤ 0 then none else _) (if_neg (by decide)).symm ?_
  refine J_if_le (pc := 12) (tgt := 21) dX13_take_12 (by decide) (fun z9 => absurd z9 (by decide)) (fun _ => ?_)
  refine J_aload_n (pc := 15) 1 dX13_take_15 rfl rfl ?_
  refine J_iload_n (pc := 16) 0 dX13_take_16 rfl rfl ?_
  refine JC_lt_b (K := k) (J_callV (mi := mi_X13_take) (mj := mi_X13_denied) (pc := 17) dX13_take_17 ml_X13_512 ok_X13_denied ov_X13_denied ⟨Nat.le_of_ble_eq_true rfl, Nat.le_of_ble_eq_true rfl⟩ rfl (h0.lt 57 (by decide)) (h0.ty 57 rfl) rfl (s_X13_denied g (j_sI d 57 0 0) 1 h0) rfl (Nat.le_of_ble_eq_true rfl)) (fun q17 eq17 => ?_)
  exact J_eqo (hk (q17.1, q17.2)) (J_zretB (pc := 20) dX13_take_20 rfl)
def f_X13_turnOvern (d : JD) (pq0 : Int32) : Int32 × JD := (j_let (f_X13_refused (j_sI d 57 0 0) 1) (fun q17 => (q17.1, q17.2)))
set_option maxRecDepth 100000 in
set_option maxHeartbeats 4000000 in
theorem s_X13_turnOvern (g : JG) (d : JD) (pq0 : Int32) (h0 : j_sh g 0 TS_W RS_W) (hla : g.2.2.1 57 3 = none) : JM mi_X13_turnOver 0 0 (g, d) [.ref 57, .int pq0] (some (some (.int (f_X13_turnOvern d pq0).1), (g, (f_X13_turnOvern d pq0).2))) := by
  refine JM_of (by decide) rfl (Nat.le_of_ble_eq_true rfl) ?_
  refine J_loc (loc' := [(0, .ref 57), (1, .int pq0)]) [0, 1] rfl ?_
  obtain ⟨k, hk⟩ : ∃ k : Int32 × JD → Option (Option Value × JH), ∀ r9, k r9 = some (some (.int r9.1), (g, r9.2)) := ⟨_, fun _ => rfl⟩
  refine J_eqo (hk (f_X13_turnOvern d pq0)).symm ?_
  unfold f_X13_turnOvern
  refine J_aload_n (pc := 0) 0 dX13_turnOver_0 rfl rfl ?_
  refine J_iconst (pc := 1) (v := 0) dX13_turnOver_1 (by decide) ?_
  refine J_putI (pc := 2) dX13_turnOver_2 fl_X13_42 ft_12_0 (h0.lt 57 (by decide)) (h0.ty 57 rfl) rfl rfl rfl ?_
  refine J_aload_n (pc := 5) 0 dX13_turnOver_5 rfl rfl ?_
  refine J_iload_n (pc := 6) 1 dX13_turnOver_6 rfl rfl ?_
  refine JC_pt_i (J_callV (mi := mi_X13_turnOver) (mj := mi_X13_refusesHung) (pc := 7) dX13_turnOver_7 ml_X13_521 ok_X13_refusesHung ov_X13_refusesHung ⟨Nat.le_of_ble_eq_true rfl, Nat.le_of_ble_eq_true rfl⟩ rfl (h0.lt 57 (by decide)) (h0.ty 57 rfl) rfl (s_X13_refusesHungn g (j_sI d 57 0 0) pq0 h0 hla) rfl (Nat.le_of_ble_eq_true rfl)) ?_
  refine J_val (y := 1) rfl ?_
  refine J_istore_n (pc := 10) (loc' := [(2, .int 1), (0, .ref 57), (1, .int pq0)]) dX13_turnOver_10 rfl (by decide) rfl ?_
  refine J_iload_n (pc := 11) 0 dX13_turnOver_11 rfl rfl ?_
  refine J_eqo (o1 := if (1 : Int32) ≤ 0 then none else _) (if_neg (by decide)).symm ?_
  refine J_if_le (pc := 12) (tgt := 21) dX13_turnOver_12 (by decide) (fun z9 => absurd z9 (by decide)) (fun _ => ?_)
  refine J_aload_n (pc := 15) 1 dX13_turnOver_15 rfl rfl ?_
  refine J_iload_n (pc := 16) 0 dX13_turnOver_16 rfl rfl ?_
  refine JC_lt_i (K := k) (J_callV (mi := mi_X13_turnOver) (mj := mi_X13_refused) (pc := 17) dX13_turnOver_17 ml_X13_48 ok_X13_refused ov_X13_refused ⟨Nat.le_of_ble_eq_true rfl, Nat.le_of_ble_eq_true rfl⟩ rfl (h0.lt 57 (by decide)) (h0.ty 57 rfl) rfl (s_X13_refused g (j_sI d 57 0 0) 1 h0) rfl (Nat.le_of_ble_eq_true rfl)) (fun q17 eq17 => ?_)
  exact J_eqo (hk (q17.1, q17.2)) (J_iret (pc := 20) dX13_turnOver_20 rfl)
def f_X13_gustn (d : JD) : Int32 × JD := (j_let (f_X13_refused (j_sI d 57 0 0) 1) (fun q14 => (q14.1, q14.2)))
set_option maxRecDepth 100000 in
set_option maxHeartbeats 4000000 in
theorem s_X13_gustn (g : JG) (d : JD) (h0 : j_sh g 0 TS_W RS_W) (hla : g.2.2.1 57 3 = none) : JM mi_X13_gust 0 0 (g, d) [.ref 57] (some (some (.int (f_X13_gustn d ).1), (g, (f_X13_gustn d ).2))) := by
  refine JM_of (by decide) rfl (Nat.le_of_ble_eq_true rfl) ?_
  refine J_loc (loc' := [(0, .ref 57)]) [0] rfl ?_
  obtain ⟨k, hk⟩ : ∃ k : Int32 × JD → Option (Option Value × JH), ∀ r9, k r9 = some (some (.int r9.1), (g, r9.2)) := ⟨_, fun _ => rfl⟩
  refine J_eqo (hk (f_X13_gustn d )).symm ?_
  unfold f_X13_gustn
  refine J_aload_n (pc := 0) 0 dX13_gust_0 rfl rfl ?_
  refine J_iconst (pc := 1) (v := 0) dX13_gust_1 (by decide) ?_
  refine J_putI (pc := 2) dX13_gust_2 fl_X13_42 ft_12_0 (h0.lt 57 (by decide)) (h0.ty 57 rfl) rfl rfl rfl ?_
  refine J_aload_n (pc := 5) 0 dX13_gust_5 rfl rfl ?_
  refine J_getN (pc := 6) dX13_gust_6 fl_X13_321 (h0.lt 57 (by decide)) (h0.ty 57 rfl) rfl hla ?_
  refine J_ifnonnullN (pc := 9) dX13_gust_9 ?_
  refine J_aload_n (pc := 12) 0 dX13_gust_12 rfl rfl ?_
  refine J_iconst (pc := 13) (v := 1) dX13_gust_13 (by decide) ?_
  refine JC_lt_i (K := k) (J_callV (mi := mi_X13_gust) (mj := mi_X13_refused) (pc := 14) dX13_gust_14 ml_X13_48 ok_X13_refused ov_X13_refused ⟨Nat.le_of_ble_eq_true rfl, Nat.le_of_ble_eq_true rfl⟩ rfl (h0.lt 57 (by decide)) (h0.ty 57 rfl) rfl (s_X13_refused g (j_sI d 57 0 0) 1 h0) rfl (Nat.le_of_ble_eq_true rfl)) (fun q14 eq14 => ?_)
  exact J_eqo (hk (q14.1, q14.2)) (J_iret (pc := 17) dX13_gust_17 rfl)
def f_X13_seedn (d : JD) (pq0 : Int32) : Bool × JD := (j_let (f_X13_denied (j_sI d 57 0 0) 1) (fun q14 => (q14.1, q14.2)))
set_option maxRecDepth 100000 in
set_option maxHeartbeats 4000000 in
theorem s_X13_seedn (g : JG) (d : JD) (pq0 : Int32) (h0 : j_sh g 0 TS_W RS_W) (hla : g.2.2.1 57 3 = none) : JM mi_X13_seed 0 0 (g, d) [.ref 57, .int pq0] (some (some (.int (j_b (f_X13_seedn d pq0).1)), (g, (f_X13_seedn d pq0).2))) := by
  refine JM_of (by decide) rfl (Nat.le_of_ble_eq_true rfl) ?_
  refine J_loc (loc' := [(0, .ref 57), (1, .int pq0)]) [0, 1] rfl ?_
  obtain ⟨k, hk⟩ : ∃ k : Bool × JD → Option (Option Value × JH), ∀ r9, k r9 = some (some (.int (j_b r9.1)), (g, r9.2)) := ⟨_, fun _ => rfl⟩
  refine J_eqo (hk (f_X13_seedn d pq0)).symm ?_
  unfold f_X13_seedn
  refine J_aload_n (pc := 0) 0 dX13_seed_0 rfl rfl ?_
  refine J_iconst (pc := 1) (v := 0) dX13_seed_1 (by decide) ?_
  refine J_putI (pc := 2) dX13_seed_2 fl_X13_42 ft_12_0 (h0.lt 57 (by decide)) (h0.ty 57 rfl) rfl rfl rfl ?_
  refine J_aload_n (pc := 5) 0 dX13_seed_5 rfl rfl ?_
  refine J_getN (pc := 6) dX13_seed_6 fl_X13_321 (h0.lt 57 (by decide)) (h0.ty 57 rfl) rfl hla ?_
  refine J_ifnonnullN (pc := 9) dX13_seed_9 ?_
  refine J_aload_n (pc := 12) 0 dX13_seed_12 rfl rfl ?_
  refine J_iconst (pc := 13) (v := 1) dX13_seed_13 (by decide) ?_
  refine JC_lt_b (K := k) (J_callV (mi := mi_X13_seed) (mj := mi_X13_denied) (pc := 14) dX13_seed_14 ml_X13_512 ok_X13_denied ov_X13_denied ⟨Nat.le_of_ble_eq_true rfl, Nat.le_of_ble_eq_true rfl⟩ rfl (h0.lt 57 (by decide)) (h0.ty 57 rfl) rfl (s_X13_denied g (j_sI d 57 0 0) 1 h0) rfl (Nat.le_of_ble_eq_true rfl)) (fun q14 eq14 => ?_)
  exact J_eqo (hk (q14.1, q14.2)) (J_zretB (pc := 17) dX13_seed_17 rfl)
def f_X13_undon (d : JD) : Bool × JD := (j_let (f_X13_denied (j_sI d 57 0 0) 6) (fun q22 => (q22.1, q22.2)))
set_option maxRecDepth 100000 in
set_option maxHeartbeats 4000000 in
theorem s_X13_undon (g : JG) (d : JD) (h0 : j_sh g 0 TS_W RS_W) (hla : g.2.2.1 57 3 = none) : JM mi_X13_undo 0 0 (g, d) [.ref 57] (some (some (.int (j_b (f_X13_undon d ).1)), (g, (f_X13_undon d ).2))) := by
  refine JM_of (by decide) rfl (Nat.le_of_ble_eq_true rfl) ?_
  refine J_loc (loc' := [(0, .ref 57)]) [0] rfl ?_
  obtain ⟨k, hk⟩ : ∃ k : Bool × JD → Option (Option Value × JH), ∀ r9, k r9 = some (some (.int (j_b r9.1)), (g, r9.2)) := ⟨_, fun _ => rfl⟩
  refine J_eqo (hk (f_X13_undon d )).symm ?_
  unfold f_X13_undon
  refine J_aload_n (pc := 0) 0 dX13_undo_0 rfl rfl ?_
  refine J_iconst (pc := 1) (v := 0) dX13_undo_1 (by decide) ?_
  refine J_putI (pc := 2) dX13_undo_2 fl_X13_42 ft_12_0 (h0.lt 57 (by decide)) (h0.ty 57 rfl) rfl rfl rfl ?_
  refine J_aload_n (pc := 5) 0 dX13_undo_5 rfl rfl ?_
  refine J_getN (pc := 6) dX13_undo_6 fl_X13_321 (h0.lt 57 (by decide)) (h0.ty 57 rfl) rfl hla ?_
  refine J_ifnullN (pc := 9) (tgt := 19) dX13_undo_9 (by decide) ?_
  refine J_aload_n (pc := 19) 0 dX13_undo_19 rfl rfl ?_
  refine J_bipush (pc := 20) (v := 6) dX13_undo_20 (by decide) ?_
  refine JC_lt_b (K := k) (J_callV (mi := mi_X13_undo) (mj := mi_X13_denied) (pc := 22) dX13_undo_22 ml_X13_512 ok_X13_denied ov_X13_denied ⟨Nat.le_of_ble_eq_true rfl, Nat.le_of_ble_eq_true rfl⟩ rfl (h0.lt 57 (by decide)) (h0.ty 57 rfl) rfl (s_X13_denied g (j_sI d 57 0 0) 6 h0) rfl (Nat.le_of_ble_eq_true rfl)) (fun q22 eq22 => ?_)
  exact J_eqo (hk (q22.1, q22.2)) (J_zretB (pc := 25) dX13_undo_25 rfl)
def f_X13_imagen (d : JD) : Int32 × JD := (j_let (f_X13_refused (j_sI d 57 0 0) 1) (fun q14 => (q14.1, q14.2)))
set_option maxRecDepth 100000 in
set_option maxHeartbeats 4000000 in
theorem s_X13_imagen (g : JG) (d : JD) (h0 : j_sh g 0 TS_W RS_W) (hla : g.2.2.1 57 3 = none) : JM mi_X13_image 0 0 (g, d) [.ref 57] (some (some (.int (f_X13_imagen d ).1), (g, (f_X13_imagen d ).2))) := by
  refine JM_of (by decide) rfl (Nat.le_of_ble_eq_true rfl) ?_
  refine J_loc (loc' := [(0, .ref 57)]) [0] rfl ?_
  obtain ⟨k, hk⟩ : ∃ k : Int32 × JD → Option (Option Value × JH), ∀ r9, k r9 = some (some (.int r9.1), (g, r9.2)) := ⟨_, fun _ => rfl⟩
  refine J_eqo (hk (f_X13_imagen d )).symm ?_
  unfold f_X13_imagen
  refine J_aload_n (pc := 0) 0 dX13_image_0 rfl rfl ?_
  refine J_iconst (pc := 1) (v := 0) dX13_image_1 (by decide) ?_
  refine J_putI (pc := 2) dX13_image_2 fl_X13_42 ft_12_0 (h0.lt 57 (by decide)) (h0.ty 57 rfl) rfl rfl rfl ?_
  refine J_aload_n (pc := 5) 0 dX13_image_5 rfl rfl ?_
  refine J_getN (pc := 6) dX13_image_6 fl_X13_321 (h0.lt 57 (by decide)) (h0.ty 57 rfl) rfl hla ?_
  refine J_ifnonnullN (pc := 9) dX13_image_9 ?_
  refine J_aload_n (pc := 12) 0 dX13_image_12 rfl rfl ?_
  refine J_iconst (pc := 13) (v := 1) dX13_image_13 (by decide) ?_
  refine JC_lt_i (K := k) (J_callV (mi := mi_X13_image) (mj := mi_X13_refused) (pc := 14) dX13_image_14 ml_X13_48 ok_X13_refused ov_X13_refused ⟨Nat.le_of_ble_eq_true rfl, Nat.le_of_ble_eq_true rfl⟩ rfl (h0.lt 57 (by decide)) (h0.ty 57 rfl) rfl (s_X13_refused g (j_sI d 57 0 0) 1 h0) rfl (Nat.le_of_ble_eq_true rfl)) (fun q14 eq14 => ?_)
  exact J_eqo (hk (q14.1, q14.2)) (J_iret (pc := 17) dX13_image_17 rfl)
def f_X13_backn (d : JD) (pq0 : Int32) : Bool × JD := (j_let (f_X13_denied (j_sI d 57 0 0) 1) (fun q26 => (q26.1, q26.2)))
set_option maxRecDepth 100000 in
set_option maxHeartbeats 4000000 in
theorem s_X13_backn (g : JG) (d : JD) (pq0 : Int32) (h0 : j_sh g 0 TS_W RS_W) (hla : g.2.2.1 57 3 = none) : JM mi_X13_back 0 0 (g, d) [.ref 57, .int pq0] (some (some (.int (j_b (f_X13_backn d pq0).1)), (g, (f_X13_backn d pq0).2))) := by
  refine JM_of (by decide) rfl (Nat.le_of_ble_eq_true rfl) ?_
  refine J_loc (loc' := [(0, .ref 57), (1, .int pq0)]) [0, 1] rfl ?_
  obtain ⟨k, hk⟩ : ∃ k : Bool × JD → Option (Option Value × JH), ∀ r9, k r9 = some (some (.int (j_b r9.1)), (g, r9.2)) := ⟨_, fun _ => rfl⟩
  refine J_eqo (hk (f_X13_backn d pq0)).symm ?_
  unfold f_X13_backn
  refine J_aload_n (pc := 0) 0 dX13_back_0 rfl rfl ?_
  refine J_iconst (pc := 1) (v := 0) dX13_back_1 (by decide) ?_
  refine J_putI (pc := 2) dX13_back_2 fl_X13_42 ft_12_0 (h0.lt 57 (by decide)) (h0.ty 57 rfl) rfl rfl rfl ?_
  refine J_aload_n (pc := 5) 0 dX13_back_5 rfl rfl ?_
  refine J_getN (pc := 6) dX13_back_6 fl_X13_321 (h0.lt 57 (by decide)) (h0.ty 57 rfl) rfl hla ?_
  refine J_ifnullN (pc := 9) (tgt := 24) dX13_back_9 (by decide) ?_
  refine J_aload_n (pc := 24) 0 dX13_back_24 rfl rfl ?_
  refine J_iconst (pc := 25) (v := 1) dX13_back_25 (by decide) ?_
  refine JC_lt_b (K := k) (J_callV (mi := mi_X13_back) (mj := mi_X13_denied) (pc := 26) dX13_back_26 ml_X13_512 ok_X13_denied ov_X13_denied ⟨Nat.le_of_ble_eq_true rfl, Nat.le_of_ble_eq_true rfl⟩ rfl (h0.lt 57 (by decide)) (h0.ty 57 rfl) rfl (s_X13_denied g (j_sI d 57 0 0) 1 h0) rfl (Nat.le_of_ble_eq_true rfl)) (fun q26 eq26 => ?_)
  exact J_eqo (hk (q26.1, q26.2)) (J_zretB (pc := 29) dX13_back_29 rfl)
def f_X13_ledn_w20 (c1_20 : Int32) (d : JD) (s20 : Int32 × Int32) : Option ((Int32 × Int32) ⊕ ((Int32 × JD) ⊕ (Unit))) := (some (.inr (.inr ())))
def f_X13_ledn (d : JD) (pq0 : Int32) : Option (Int32 × JD) := ((j_wh (f_X13_ledn_w20 pq0 (j_sI d 57 0 0) ) j_fuel (0, 0)).bind (Sum.elim (fun r9 => some r9) (fun (e20 : Unit) => (some (0, j_sI (j_sI d 57 0 0) 57 0 1)))))
set_option maxRecDepth 100000 in
set_option maxHeartbeats 4000000 in
theorem s_X13_ledn (g : JG) (d : JD) (pq0 : Int32) (h0 : j_sh g 0 TS_W RS_W) (hla : g.2.2.1 57 3 = none) : JM mi_X13_led 0 0 (g, d) [.ref 57, .int pq0] ((f_X13_ledn d pq0).bind (fun r9 => some (some (.int r9.1), (g, r9.2)))) := by
  refine JM_of (by decide) rfl (Nat.le_of_ble_eq_true rfl) ?_
  refine J_loc (loc' := [(0, .ref 57), (1, .int pq0)]) [0, 1] rfl ?_
  obtain ⟨k, hk, hk2⟩ : ∃ k : Int32 × JD → Option (Option Value × JH), (∀ r9, k r9 = some (some (.int r9.1), (g, r9.2))) ∧ (fun r9 : Int32 × JD => (some (some (.int r9.1), (g, r9.2)) : Option (Option Value × JH))) = k := ⟨_, fun _ => rfl, rfl⟩
  rw [hk2]
  unfold f_X13_ledn
  refine J_aload_n (pc := 0) 0 dX13_led_0 rfl rfl ?_
  refine J_iconst (pc := 1) (v := 0) dX13_led_1 (by decide) ?_
  refine J_putI (pc := 2) dX13_led_2 fl_X13_42 ft_12_0 (h0.lt 57 (by decide)) (h0.ty 57 rfl) rfl rfl rfl ?_
  refine J_iconst (pc := 5) (v := 0) dX13_led_5 (by decide) ?_
  refine J_istore_n (pc := 6) (loc' := [(2, .int 0), (0, .ref 57), (1, .int pq0)]) dX13_led_6 rfl (by decide) rfl ?_
  refine J_aload_n (pc := 7) 1 dX13_led_7 rfl rfl ?_
  refine J_getN (pc := 8) dX13_led_8 fl_X13_321 (h0.lt 57 (by decide)) (h0.ty 57 rfl) rfl hla ?_
  refine J_ifnullN (pc := 11) (tgt := 18) dX13_led_11 (by decide) ?_
  refine J_iconst (pc := 18) (v := 0) dX13_led_18 (by decide) ?_
  refine J_istore_n (pc := 19) (loc' := [(3, .int 0), (2, .int 0), (0, .ref 57), (1, .int pq0)]) dX13_led_19 rfl (by decide) rfl ?_
  refine J_loc (loc' := [(0, .ref 57), (1, .int pq0), (2, .int 0), (3, .int 0)]) [2, 3, 1, 0] rfl ?_
  refine J_whR (F := f_X13_ledn_w20 pq0 (j_sI d 57 0 0) ) (fr := fun r9 => some r9) (k := k) (hp := fun (s20 : Int32 × Int32) => (g, (j_sI d 57 0 0))) (lc := fun (s20 : Int32 × Int32) => [(0, .ref 57), (1, .int (pq0)), (2, .int s20.1), (3, .int s20.2)]) (XJ := fun (e20 : Unit) o9 => J mi_X13_led 0 0 0 0 (g, j_sI d 57 0 0) 65 [(0, .ref 57)] [] o9) (RJ := fun r9 o9 => o9 = some (some (.int r9.1), (g, r9.2))) (fun s20 k20 hB20 hR20 hX20 => ?_) (fun e20 => ?_) (fun r9 => hk r9) _ (0, 0)
  · show J mi_X13_led 0 0 0 0 (g, (j_sI d 57 0 0)) 20 [(0, .ref 57), (1, .int (pq0)), (2, .int s20.1), (3, .int s20.2)] [] ((f_X13_ledn_w20 pq0 (j_sI d 57 0 0) s20).bind k20)
    unfold f_X13_ledn_w20
    refine J_aload_n (pc := 20) 0 dX13_led_20 rfl rfl ?_
    refine J_getN (pc := 21) dX13_led_21 fl_X13_321 (h0.lt 57 (by decide)) (h0.ty 57 rfl) rfl hla ?_
    refine J_ifnullN (pc := 24) (tgt := 65) dX13_led_24 (by decide) ?_
    refine J_loc (loc' := [(0, .ref 57)]) [0] rfl ?_
    exact hX20 ()
  · show J mi_X13_led 0 0 0 0 (g, j_sI d 57 0 0) 65 [(0, .ref 57)] [] (_)
    refine J_aload_n (pc := 65) 0 dX13_led_65 rfl rfl ?_
    refine J_iconst (pc := 66) (v := 1) dX13_led_66 (by decide) ?_
    refine J_putI (pc := 67) dX13_led_67 fl_X13_42 ft_12_0 (h0.lt 57 (by decide)) (h0.ty 57 rfl) rfl rfl rfl ?_
    refine J_iconst (pc := 70) (v := 0) dX13_led_70 (by decide) ?_
    exact J_eqo (hk (0, j_sI (j_sI d 57 0 0) 57 0 1)) (J_iret (pc := 71) dX13_led_71 rfl)
def f_X13_sizen (d : JD) (pq0 : Int32) : Int32 × JD := (if pq0 = 13 then ((d.1 57) 6, j_sI d 57 0 0) else (if (f_X13_in pq0 0 12) = true then (0, j_sI d 57 0 0) else ((-1), j_sI d 57 0 0)))
set_option maxRecDepth 100000 in
set_option maxHeartbeats 4000000 in
theorem s_X13_sizen (g : JG) (d : JD) (pq0 : Int32) (h0 : j_sh g 0 TS_W RS_W) (hla : g.2.2.1 57 3 = none) : JM mi_X13_size 0 0 (g, d) [.ref 57, .int pq0] (some (some (.int (f_X13_sizen d pq0).1), (g, (f_X13_sizen d pq0).2))) := by
  refine JM_of (by decide) rfl (Nat.le_of_ble_eq_true rfl) ?_
  refine J_loc (loc' := [(0, .ref 57), (1, .int pq0)]) [0, 1] rfl ?_
  obtain ⟨k, hk⟩ : ∃ k : Int32 × JD → Option (Option Value × JH), ∀ r9, k r9 = some (some (.int r9.1), (g, r9.2)) := ⟨_, fun _ => rfl⟩
  refine J_eqo (hk (f_X13_sizen d pq0)).symm ?_
  unfold f_X13_sizen
  refine J_aload_n (pc := 0) 0 dX13_size_0 rfl rfl ?_
  refine J_iconst (pc := 1) (v := 0) dX13_size_1 (by decide) ?_
  refine J_putI (pc := 2) dX13_size_2 fl_X13_42 ft_12_0 (h0.lt 57 (by decide)) (h0.ty 57 rfl) rfl rfl rfl ?_
  refine J_iload_n (pc := 5) 1 dX13_size_5 rfl rfl ?_
  refine J_bipush (pc := 6) (v := 13) dX13_size_6 (by decide) ?_
  refine K_icmp_ne (K := k) (pc := 8) (tgt := 16) dX13_size_8 (by decide) (fun z8 => ?_) (fun z8 => ?_)
  · refine J_iload_n (pc := 16) 1 dX13_size_16 rfl rfl ?_
    refine J_iconst (pc := 17) (v := 0) dX13_size_17 (by decide) ?_
    refine J_bipush (pc := 18) (v := 12) dX13_size_18 (by decide) ?_
    refine JC_pt_i (J_callS (mi := mi_X13_size) (mj := mi_X13_in) (pc := 20) dX13_size_20 ml_X13_121 ok_X13_in os_X13_in ⟨Nat.le_of_ble_eq_true rfl, Nat.le_of_ble_eq_true rfl⟩ rfl (s_X13_in g (j_sI d 57 0 0) pq0 0 12) rfl (Nat.le_of_ble_eq_true rfl)) ?_
    refine K_ifne_b (K := k) (pc := 23) (tgt := 28) dX13_size_23 (by decide) (fun z23 => ?_) (fun z23 => ?_)
    · refine J_aload_n (pc := 28) 0 dX13_size_28 rfl rfl ?_
      refine J_getN (pc := 29) dX13_size_29 fl_X13_321 (h0.lt 57 (by decide)) (h0.ty 57 rfl) rfl hla ?_
      refine J_ifnonnullN (pc := 32) dX13_size_32 ?_
      refine J_iconst (pc := 35) (v := 0) dX13_size_35 (by decide) ?_
      exact J_eqo (hk (0, j_sI d 57 0 0)) (J_iret (pc := 36) dX13_size_36 rfl)
    · refine J_iconst (pc := 26) (v := (-1)) dX13_size_26 (by decide) ?_
      exact J_eqo (hk ((-1), j_sI d 57 0 0)) (J_iret (pc := 27) dX13_size_27 rfl)
  · refine J_aload_n (pc := 11) 0 dX13_size_11 rfl rfl ?_
    refine J_getI (pc := 12) dX13_size_12 fl_X13_314 (h0.lt 57 (by decide)) (h0.ty 57 rfl) rfl ?_
    refine J_val (y := (d.1 57) 6) rfl ?_
    exact J_eqo (hk ((d.1 57) 6, j_sI d 57 0 0)) (J_iret (pc := 15) dX13_size_15 rfl)
