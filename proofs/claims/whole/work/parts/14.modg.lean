def f_X13_rest_b23 (t : Nat) (c1_23 : Int32) (i23 : Int32) (s23 : JD) : (Int32 × JD) ⊕ (JD) := (if (f_X13_isRest (c1_23) i23) = true then (j_let (f_X13_good s23 (((10 : Int32) * (i23 / 2)) + (i23 - i23 / 2 * 2))) (fun q47_23 => Sum.inl (q47_23.1, q47_23.2))) else (.inr s23))
def f_X13_rest (t : Nat) (d : JD) (pq0 : Int32) : Int32 × JD := (if (f_X13_refusesWorth pq0) ≤ 0 then (j_let (j_fo 4 (f_X13_rest_b23 t pq0 ) (j_mu 4 0) 0 (j_sI d 57 0 0)) (Sum.elim (fun r9 => r9) (fun (s23 : JD) => (j_let (f_X13_good s23 (-2)) (fun q60 => (q60.1, q60.2)))))) else (j_let (f_X13_refused (j_sI d 57 0 0) (f_X13_refusesWorth pq0)) (fun q17 => (q17.1, q17.2))))
set_option maxRecDepth 100000 in
set_option maxHeartbeats 4000000 in
theorem s_X13_rest (g : JG) (d : JD) (t : Nat) (pq0 : Int32) (h0 : j_sh g 0 TS_W RS_W) (ht : j_sh g t TS_ML RS_ML) (hla : g.2.2.1 57 3 = some t) : JM mi_X13_rest 0 0 (g, d) [.ref 57, .int pq0] (some (some (.int (f_X13_rest t d pq0).1), (g, (f_X13_rest t d pq0).2))) := by
  refine JM_of (by decide) rfl (Nat.le_of_ble_eq_true rfl) ?_
  refine J_loc (loc' := [(0, .ref 57), (1, .int pq0)]) [0, 1] rfl ?_
  obtain ⟨k, hk⟩ : ∃ k : Int32 × JD → Option (Option Value × JH), ∀ r9, k r9 = some (some (.int r9.1), (g, r9.2)) := ⟨_, fun _ => rfl⟩
  refine J_eqo (hk (f_X13_rest t d pq0)).symm ?_
  unfold f_X13_rest
  refine J_aload_n (pc := 0) 0 dX13_rest_0 rfl rfl ?_
  refine J_iconst (pc := 1) (v := 0) dX13_rest_1 (by decide) ?_
  refine J_putI (pc := 2) dX13_rest_2 fl_X13_42 ft_12_0 (h0.lt 57 (by decide)) (h0.ty 57 rfl) rfl rfl rfl ?_
  refine J_aload_n (pc := 5) 0 dX13_rest_5 rfl rfl ?_
  refine J_iload_n (pc := 6) 1 dX13_rest_6 rfl rfl ?_
  refine JC_pt_i (J_callV (mi := mi_X13_rest) (mj := mi_X13_refusesWorth) (pc := 7) dX13_rest_7 ml_X13_472 ok_X13_refusesWorth ov_X13_refusesWorth ⟨Nat.le_of_ble_eq_true rfl, Nat.le_of_ble_eq_true rfl⟩ rfl (h0.lt 57 (by decide)) (h0.ty 57 rfl) rfl (s_X13_refusesWorth g (j_sI d 57 0 0) t pq0 h0 ht hla) rfl (Nat.le_of_ble_eq_true rfl)) ?_
  refine J_istore_n (pc := 10) (loc' := [(2, .int (f_X13_refusesWorth pq0)), (0, .ref 57), (1, .int pq0)]) dX13_rest_10 rfl (by decide) rfl ?_
  refine J_iload_n (pc := 11) 0 dX13_rest_11 rfl rfl ?_
  refine K_if_le (K := k) (pc := 12) (tgt := 21) dX13_rest_12 (by decide) (fun z12 => ?_) (fun z12 => ?_)
  · refine J_iconst (pc := 21) (v := 0) dX13_rest_21 (by decide) ?_
    refine J_istore_n (pc := 22) (loc' := [(3, .int 0), (2, .int (f_X13_refusesWorth pq0)), (0, .ref 57), (1, .int pq0)]) dX13_rest_22 rfl (by decide) rfl ?_
    refine J_loc (loc' := [(0, .ref 57), (1, .int pq0), (3, .int 0)]) [2, 3, 0] rfl ?_
    refine J_foL (K := k) (fr := fun r9 => r9) (b := 4) (G := f_X13_rest_b23 t pq0 ) (hp := fun (s23 : JD) => (g, s23)) (lc := fun (i23 : Int32) (s23 : JD) => [(0, .ref 57), (1, .int (pq0)), (3, .int i23)]) (XJ := fun (i23 : Int32) (s23 : JD) o9 => J mi_X13_rest 0 0 0 0 (g, s23) 57 [(0, .ref 57)] [] o9) (RJ := fun r9 o9 => o9 = some (some (.int r9.1), (g, r9.2))) (fun i23 s23 o23 Kb23 hX23 hR23 hB23 => ?_) (fun i23 s23 => ?_) (fun r9 => hk r9) _ _ (j_sI d 57 0 0) (Nat.le_refl _)
    · show J mi_X13_rest 0 0 0 0 (g, s23) 23 [(0, .ref 57), (1, .int (pq0)), (3, .int i23)] [] (if 4 ≤ i23 then o23 else Kb23 (f_X13_rest_b23 t pq0 i23 s23))
      refine J_iload_n (pc := 23) 2 dX13_rest_23 rfl rfl ?_
      refine J_iconst (pc := 24) (v := 4) dX13_rest_24 (by decide) ?_
      refine J_icmp_ge (pc := 25) (tgt := 57) dX13_rest_25 (by decide) (fun z23 => ?_) (fun z23 => ?_)
      · refine J_loc (loc' := [(0, .ref 57)]) [0] rfl ?_
        exact hX23 z23
      · unfold f_X13_rest_b23
        refine J_iload_n (pc := 28) 1 dX13_rest_28 rfl rfl ?_
        refine J_iload_n (pc := 29) 2 dX13_rest_29 rfl rfl ?_
        refine JC_pt_i (J_callS (mi := mi_X13_rest) (mj := mi_X13_isRest) (pc := 30) dX13_rest_30 ml_X13_484 ok_X13_isRest os_X13_isRest ⟨Nat.le_of_ble_eq_true rfl, Nat.le_of_ble_eq_true rfl⟩ rfl (s_X13_isRest g s23 pq0 i23) rfl (Nat.le_of_ble_eq_true rfl)) ?_
        refine K_ifeq_b (K := Kb23) (pc := 33) (tgt := 51) dX13_rest_33 (by decide) (fun z33 => ?_) (fun z33 => ?_)
        · refine J_iinc (pc := 51) (v := i23 + 1) (loc' := [(3, .int (i23 + 1)), (0, .ref 57), (1, .int (pq0))]) 2 dX13_rest_51 rfl rfl (by decide) rfl ?_
          refine J_goto (pc := 54) (tgt := 23) dX13_rest_54 (by decide) ?_
          refine J_loc (loc' := [(0, .ref 57), (1, .int (pq0)), (3, .int (i23 + 1))]) [1, 2, 0] rfl ?_
          exact hB23 z23 s23
        · refine J_aload_n (pc := 36) 0 dX13_rest_36 rfl rfl ?_
          refine J_bipush (pc := 37) (v := 10) dX13_rest_37 (by decide) ?_
          refine J_iload_n (pc := 39) 2 dX13_rest_39 rfl rfl ?_
          refine J_iconst (pc := 40) (v := 2) dX13_rest_40 (by decide) ?_
          refine J_idiv (pc := 41) dX13_rest_41 (by decide) ?_
          refine J_imul (pc := 42) dX13_rest_42 ?_
          refine J_iload_n (pc := 43) 2 dX13_rest_43 rfl rfl ?_
          refine J_iconst (pc := 44) (v := 2) dX13_rest_44 (by decide) ?_
          refine J_irem (pc := 45) dX13_rest_45 (by decide) ?_
          refine J_iadd (pc := 46) dX13_rest_46 ?_
          refine JC_lt_i (K := Kb23) (J_callV (mi := mi_X13_rest) (mj := mi_X13_good) (pc := 47) dX13_rest_47 ml_X13_52 ok_X13_good ov_X13_good ⟨Nat.le_of_ble_eq_true rfl, Nat.le_of_ble_eq_true rfl⟩ rfl (h0.lt 57 (by decide)) (h0.ty 57 rfl) rfl (s_X13_good g s23 (((10 : Int32) * (i23 / 2)) + (i23 - i23 / 2 * 2)) h0) rfl (Nat.le_of_ble_eq_true rfl)) (fun q47_23 eq47_23 => ?_)
          exact J_eqo (hR23 (q47_23.1, q47_23.2)) (J_iret (pc := 50) dX13_rest_50 rfl)
    · show J mi_X13_rest 0 0 0 0 (g, s23) 57 [(0, .ref 57)] [] (_)
      refine J_aload_n (pc := 57) 0 dX13_rest_57 rfl rfl ?_
      refine J_bipush (pc := 58) (v := (-2)) dX13_rest_58 (by decide) ?_
      refine JC_lt_i (K := k) (J_callV (mi := mi_X13_rest) (mj := mi_X13_good) (pc := 60) dX13_rest_60 ml_X13_52 ok_X13_good ov_X13_good ⟨Nat.le_of_ble_eq_true rfl, Nat.le_of_ble_eq_true rfl⟩ rfl (h0.lt 57 (by decide)) (h0.ty 57 rfl) rfl (s_X13_good g s23 (-2) h0) rfl (Nat.le_of_ble_eq_true rfl)) (fun q60 eq60 => ?_)
      exact J_eqo (hk (q60.1, q60.2)) (J_iret (pc := 63) dX13_rest_63 rfl)
  · refine J_aload_n (pc := 15) 1 dX13_rest_15 rfl rfl ?_
    refine J_iload_n (pc := 16) 0 dX13_rest_16 rfl rfl ?_
    refine JC_lt_i (K := k) (J_callV (mi := mi_X13_rest) (mj := mi_X13_refused) (pc := 17) dX13_rest_17 ml_X13_48 ok_X13_refused ov_X13_refused ⟨Nat.le_of_ble_eq_true rfl, Nat.le_of_ble_eq_true rfl⟩ rfl (h0.lt 57 (by decide)) (h0.ty 57 rfl) rfl (s_X13_refused g (j_sI d 57 0 0) (f_X13_refusesWorth pq0) h0) rfl (Nat.le_of_ble_eq_true rfl)) (fun q17 eq17 => ?_)
    exact J_eqo (hk (q17.1, q17.2)) (J_iret (pc := 20) dX13_rest_20 rfl)
def f_X13_falls_j47 (r_t0 : Nat → Int32) (r_t3 : Nat → Int32) (y0_47 : Int32) : Option (Int32) := (if y0_47 ≤ 100 then (some y0_47) else (some 100))
def f_X13_falls (r_t0 : Nat → Int32) (r_t3 : Nat → Int32) (pq0 : Int32) : Option (Int32) := (if j_out pq0 6 then none else if (r_t3 pq0.toNatClampNeg) = 2 then (some 0) else (if j_out pq0 6 then none else if (r_t3 pq0.toNatClampNeg) = 3 then (f_X13_falls_j47 r_t0 r_t3 ((2 : Int32) * (r_t0 1))) else (f_X13_falls_j47 r_t0 r_t3 (r_t0 1))))
set_option maxRecDepth 100000 in
set_option maxHeartbeats 4000000 in
theorem s_X13_falls (g : JG) (d : JD) (t : Nat) (pq0 : Int32) (h0 : j_sh g 0 TS_W RS_W) (ht : j_sh g t TS_ML RS_ML) (hla : g.2.2.1 57 3 = some t) : JM mi_X13_falls 0 0 (g, d) [.ref 57, .int pq0] ((f_X13_falls (d.1 t) (d.1 (t + 3)) pq0).bind (fun r9 => some (some (.int r9), (g, d)))) := by
  refine JM_of (by decide) rfl (Nat.le_of_ble_eq_true rfl) ?_
  refine J_loc (loc' := [(0, .ref 57), (1, .int pq0)]) [0, 1] rfl ?_
  obtain ⟨k, hk, hk2⟩ : ∃ k : Int32 → Option (Option Value × JH), (∀ r9, k r9 = some (some (.int r9), (g, d))) ∧ (fun r9 : Int32 => (some (some (.int r9), (g, d)) : Option (Option Value × JH))) = k := ⟨_, fun _ => rfl, rfl⟩
  rw [hk2]
  unfold f_X13_falls
  have hX13_falls_j47 : ∀ (y0_47 : Int32), J mi_X13_falls 0 0 0 0 (g, d) 47 [] [.int y0_47] ((f_X13_falls_j47 (d.1 t) (d.1 (t + 3)) y0_47).bind k) := by
    intro y0_47
    unfold f_X13_falls_j47
    refine J_istore_n (pc := 47) (loc' := [(2, .int y0_47)]) dX13_falls_47 rfl (by decide) rfl ?_
    refine J_iload_n (pc := 48) 0 dX13_falls_48 rfl rfl ?_
    refine J_bipush (pc := 49) (v := 100) dX13_falls_49 (by decide) ?_
    refine K_icmp_le (K := (fun x => Option.bind x k)) (pc := 51) (tgt := 59) dX13_falls_51 (by decide) (fun z51 => ?_) (fun z51 => ?_)
    · refine J_iload_n (pc := 59) 0 dX13_falls_59 rfl rfl ?_
      exact J_eqo (hk y0_47) (J_iret (pc := 60) dX13_falls_60 rfl)
    · refine J_bipush (pc := 54) (v := 100) dX13_falls_54 (by decide) ?_
      refine J_goto (pc := 56) (tgt := 60) dX13_falls_56 (by decide) ?_
      exact J_eqo (hk 100) (J_iret (pc := 60) dX13_falls_60 rfl)
  refine J_aload_n (pc := 0) 0 dX13_falls_0 rfl rfl ?_
  refine J_getR (pc := 1) dX13_falls_1 fl_X13_321 (h0.lt 57 (by decide)) (h0.ty 57 rfl) rfl hla ?_
  refine J_getR (pc := 4) dX13_falls_4 fl_X13_275 (ht.lt 0 (by decide)) (ht.ty 0 rfl) rfl (ht.rf 2 rfl) ?_
  refine J_iload_n (pc := 7) 1 dX13_falls_7 rfl rfl ?_
  refine J_guard (fun z8 => ?_)
  refine J_iald (pc := 8) dX13_falls_8 (ht.lt 3 (by decide)) (ht.ty 3 rfl) z8 ?_
  refine J_iconst (pc := 9) (v := 2) dX13_falls_9 (by decide) ?_
  refine K_icmp_ne (K := (fun x => Option.bind x k)) (pc := 10) (tgt := 15) dX13_falls_10 (by decide) (fun z10 => ?_) (fun z10 => ?_)
  · refine J_aload_n (pc := 15) 0 dX13_falls_15 rfl rfl ?_
    refine J_getR (pc := 16) dX13_falls_16 fl_X13_321 (h0.lt 57 (by decide)) (h0.ty 57 rfl) rfl hla ?_
    refine J_getR (pc := 19) dX13_falls_19 fl_X13_275 (ht.lt 0 (by decide)) (ht.ty 0 rfl) rfl (ht.rf 2 rfl) ?_
    refine J_iload_n (pc := 22) 1 dX13_falls_22 rfl rfl ?_
    refine J_guard (fun z23 => ?_)
    refine J_iald (pc := 23) dX13_falls_23 (ht.lt 3 (by decide)) (ht.ty 3 rfl) z23 ?_
    refine J_iconst (pc := 24) (v := 3) dX13_falls_24 (by decide) ?_
    refine K_icmp_ne (K := (fun x => Option.bind x k)) (pc := 25) (tgt := 40) dX13_falls_25 (by decide) (fun z25 => ?_) (fun z25 => ?_)
    · refine J_aload_n (pc := 40) 0 dX13_falls_40 rfl rfl ?_
      refine J_getR (pc := 41) dX13_falls_41 fl_X13_321 (h0.lt 57 (by decide)) (h0.ty 57 rfl) rfl hla ?_
      refine J_getI (pc := 44) dX13_falls_44 fl_X13_227 (ht.lt 0 (by decide)) (ht.ty 0 rfl) rfl ?_
      refine J_loc (loc' := []) [] rfl ?_
      exact hX13_falls_j47 ((d.1 t) 1)
    · refine J_iconst (pc := 28) (v := 2) dX13_falls_28 (by decide) ?_
      refine J_aload_n (pc := 29) 0 dX13_falls_29 rfl rfl ?_
      refine J_getR (pc := 30) dX13_falls_30 fl_X13_321 (h0.lt 57 (by decide)) (h0.ty 57 rfl) rfl hla ?_
      refine J_getI (pc := 33) dX13_falls_33 fl_X13_227 (ht.lt 0 (by decide)) (ht.ty 0 rfl) rfl ?_
      refine J_imul (pc := 36) dX13_falls_36 ?_
      refine J_goto (pc := 37) (tgt := 47) dX13_falls_37 (by decide) ?_
      refine J_loc (loc' := []) [] rfl ?_
      exact hX13_falls_j47 ((2 : Int32) * ((d.1 t) 1))
  · refine J_iconst (pc := 13) (v := 0) dX13_falls_13 (by decide) ?_
    exact J_eqo (hk 0) (J_iret (pc := 14) dX13_falls_14 rfl)
def f_X13_holds_w45 (t : Nat) (c1_45 : Int32) (c2_45 : Int32) (c3_45 : Int32) (d : JD) (s45 : Int64 × Int64 × Int32) : Option ((Int64 × Int64 × Int32) ⊕ (Int64 × Int64)) := (if (c2_45) ≤ s45.2.2 then some (.inr (s45.1, s45.2.1)) else (if j_out (c1_45) 9 then none else if (((d).1 59) ((c1_45).toNatClampNeg)) ≤ 0 then some (.inr (s45.1, s45.2.1)) else ((f_X13_falls ((d).1 t) ((d).1 (t + 3)) (c1_45)).bind (fun q66_45 => some (.inl (s45.1 * (((100 : Int32) - q66_45).toInt64), s45.2.1 * 100, s45.2.2 + 1))))))
def f_X13_holds (t : Nat) (d : JD) (pq0 : Int32) (pq1 : Int32) (pq2 : Int32) : Option (Int64 × JD) := (if (f_X13_isGate ((j_sI d 57 0 0).1 t) pq0) = true then (if (f_X13_in pq1 0 4) = true then ((j_wh (f_X13_holds_w45 t pq0 pq1 pq2 (j_sI d 57 0 0) ) j_fuel (1, 1, 0)).bind (fun (e45 : Int64 × Int64) => ((f_X13_fraction (j_sI d 57 0 0) e45.1 e45.2 pq2).bind (fun q94 => some (q94.1, q94.2))))) else (j_let (f_X13_refused (j_sI d 57 0 0) 2) (fun q31 => some (q31.1.toInt64, q31.2)))) else (j_let (f_X13_refused (j_sI d 57 0 0) 1) (fun q15 => some (q15.1.toInt64, q15.2))))
set_option maxRecDepth 100000 in
set_option maxHeartbeats 4000000 in
theorem s_X13_holds (g : JG) (d : JD) (t : Nat) (pq0 : Int32) (pq1 : Int32) (pq2 : Int32) (h0 : j_sh g 0 TS_W RS_W) (ht : j_sh g t TS_ML RS_ML) (hla : g.2.2.1 57 3 = some t) : JM mi_X13_holds 0 0 (g, d) [.ref 57, .int pq0, .int pq1, .int pq2] ((f_X13_holds t d pq0 pq1 pq2).bind (fun r9 => some (some (.long r9.1), (g, r9.2)))) := by
  refine JM_of (by decide) rfl (Nat.le_of_ble_eq_true rfl) ?_
  refine J_loc (loc' := [(0, .ref 57), (1, .int pq0), (2, .int pq1), (3, .int pq2)]) [0, 1, 2, 3] rfl ?_
  obtain ⟨k, hk, hk2⟩ : ∃ k : Int64 × JD → Option (Option Value × JH), (∀ r9, k r9 = some (some (.long r9.1), (g, r9.2))) ∧ (fun r9 : Int64 × JD => (some (some (.long r9.1), (g, r9.2)) : Option (Option Value × JH))) = k := ⟨_, fun _ => rfl, rfl⟩
  rw [hk2]
  unfold f_X13_holds
  refine J_aload_n (pc := 0) 0 dX13_holds_0 rfl rfl ?_
  refine J_iconst (pc := 1) (v := 0) dX13_holds_1 (by decide) ?_
  refine J_putI (pc := 2) dX13_holds_2 fl_X13_42 ft_12_0 (h0.lt 57 (by decide)) (h0.ty 57 rfl) rfl rfl rfl ?_
  refine J_aload_n (pc := 5) 0 dX13_holds_5 rfl rfl ?_
  refine J_iload_n (pc := 6) 1 dX13_holds_6 rfl rfl ?_
  refine JC_pt_i (J_callV (mi := mi_X13_holds) (mj := mi_X13_isGate) (pc := 7) dX13_holds_7 ml_X13_345 ok_X13_isGate ov_X13_isGate ⟨Nat.le_of_ble_eq_true rfl, Nat.le_of_ble_eq_true rfl⟩ rfl (h0.lt 57 (by decide)) (h0.ty 57 rfl) rfl (s_X13_isGate g (j_sI d 57 0 0) t pq0 h0 ht hla) rfl (Nat.le_of_ble_eq_true rfl)) ?_
  refine K_ifne_b (K := (fun x => Option.bind x k)) (pc := 10) (tgt := 20) dX13_holds_10 (by decide) (fun z10 => ?_) (fun z10 => ?_)
  · refine J_iload_n (pc := 20) 2 dX13_holds_20 rfl rfl ?_
    refine J_iconst (pc := 21) (v := 0) dX13_holds_21 (by decide) ?_
    refine J_iconst (pc := 22) (v := 4) dX13_holds_22 (by decide) ?_
    refine JC_pt_i (J_callS (mi := mi_X13_holds) (mj := mi_X13_in) (pc := 23) dX13_holds_23 ml_X13_121 ok_X13_in os_X13_in ⟨Nat.le_of_ble_eq_true rfl, Nat.le_of_ble_eq_true rfl⟩ rfl (s_X13_in g (j_sI d 57 0 0) pq1 0 4) rfl (Nat.le_of_ble_eq_true rfl)) ?_
    refine K_ifne_b (K := (fun x => Option.bind x k)) (pc := 26) (tgt := 36) dX13_holds_26 (by decide) (fun z26 => ?_) (fun z26 => ?_)
    · refine J_lconst (pc := 36) (v := 1) dX13_holds_36 (by decide) ?_
      refine J_lstore (pc := 37) (loc' := [(4, .long 1), (0, .ref 57), (1, .int pq0), (2, .int pq1), (3, .int pq2)]) dX13_holds_37 (by decide) rfl ?_
      refine J_lconst (pc := 39) (v := 1) dX13_holds_39 (by decide) ?_
      refine J_lstore (pc := 40) (loc' := [(6, .long 1), (4, .long 1), (0, .ref 57), (1, .int pq0), (2, .int pq1), (3, .int pq2)]) dX13_holds_40 (by decide) rfl ?_
      refine J_iconst (pc := 42) (v := 0) dX13_holds_42 (by decide) ?_
      refine J_istore (pc := 43) (loc' := [(8, .int 0), (6, .long 1), (4, .long 1), (0, .ref 57), (1, .int pq0), (2, .int pq1), (3, .int pq2)]) dX13_holds_43 (by decide) rfl ?_
      refine J_loc (loc' := [(0, .ref 57), (1, .int pq0), (2, .int pq1), (3, .int pq2), (4, .long 1), (6, .long 1), (8, .int 0)]) [3, 4, 5, 6, 2, 1, 0] rfl ?_
      refine J_whL (F := f_X13_holds_w45 t pq0 pq1 pq2 (j_sI d 57 0 0) ) (hp := fun (s45 : Int64 × Int64 × Int32) => (g, (j_sI d 57 0 0))) (lc := fun (s45 : Int64 × Int64 × Int32) => [(0, .ref 57), (1, .int (pq0)), (2, .int (pq1)), (3, .int (pq2)), (4, .long s45.1), (6, .long s45.2.1), (8, .int s45.2.2)]) (XJ := fun (e45 : Int64 × Int64) o9 => J mi_X13_holds 0 0 0 0 (g, j_sI d 57 0 0) 88 [(0, .ref 57), (3, .int pq2), (4, .long e45.1), (6, .long e45.2)] [] o9) (fun s45 k45 hB45 hX45 => ?_) (fun e45 => ?_) _ (1, 1, 0)
      · show J mi_X13_holds 0 0 0 0 (g, (j_sI d 57 0 0)) 45 [(0, .ref 57), (1, .int (pq0)), (2, .int (pq1)), (3, .int (pq2)), (4, .long s45.1), (6, .long s45.2.1), (8, .int s45.2.2)] [] ((f_X13_holds_w45 t pq0 pq1 pq2 (j_sI d 57 0 0) s45).bind k45)
        unfold f_X13_holds_w45
        refine J_iload (pc := 45) 6 dX13_holds_45 rfl ?_
        refine J_iload_n (pc := 47) 2 dX13_holds_47 rfl rfl ?_
        refine K_icmp_ge (K := (fun x => Option.bind x k45)) (pc := 48) (tgt := 88) dX13_holds_48 (by decide) (fun z48 => ?_) (fun z48 => ?_)
        · refine J_loc (loc' := [(0, .ref 57), (3, .int (pq2)), (4, .long s45.1), (6, .long s45.2.1)]) [0, 3, 4, 5] rfl ?_
          exact hX45 (s45.1, s45.2.1)
        · refine J_aload_n (pc := 51) 0 dX13_holds_51 rfl rfl ?_
          refine J_getR (pc := 52) dX13_holds_52 fl_X13_17 (h0.lt 57 (by decide)) (h0.ty 57 rfl) rfl (h0.rf 56 rfl) ?_
          refine J_iload_n (pc := 55) 1 dX13_holds_55 rfl rfl ?_
          refine J_guard (fun z56 => ?_)
          refine J_iald (pc := 56) dX13_holds_56 (h0.lt 59 (by decide)) (h0.ty 59 rfl) z56 ?_
          refine K_if_le (K := (fun x => Option.bind x k45)) (pc := 57) (tgt := 88) dX13_holds_57 (by decide) (fun z57 => ?_) (fun z57 => ?_)
          · refine J_loc (loc' := [(0, .ref 57), (3, .int (pq2)), (4, .long s45.1), (6, .long s45.2.1)]) [0, 3, 4, 5] rfl ?_
            exact hX45 (s45.1, s45.2.1)
          · refine J_lload (pc := 60) 4 dX13_holds_60 rfl ?_
            refine J_bipush (pc := 62) (v := 100) dX13_holds_62 (by decide) ?_
            refine J_aload_n (pc := 64) 0 dX13_holds_64 rfl rfl ?_
            refine J_iload_n (pc := 65) 1 dX13_holds_65 rfl rfl ?_
            refine JC_pp_i (J_callV (mi := mi_X13_holds) (mj := mi_X13_falls) (pc := 66) dX13_holds_66 ml_X13_487 ok_X13_falls ov_X13_falls ⟨Nat.le_of_ble_eq_true rfl, Nat.le_of_ble_eq_true rfl⟩ rfl (h0.lt 57 (by decide)) (h0.ty 57 rfl) rfl (s_X13_falls g (j_sI d 57 0 0) t pq0 h0 ht hla) rfl (Nat.le_of_ble_eq_true rfl)) (fun q66_45 => ?_)
            refine J_isub (pc := 69) dX13_holds_69 ?_
            refine J_i2l (pc := 70) dX13_holds_70 ?_
            refine J_lmul (pc := 71) dX13_holds_71 ?_
            refine J_lstore (pc := 72) (loc' := [(4, .long (s45.1 * (((100 : Int32) - q66_45).toInt64))), (0, .ref 57), (1, .int (pq0)), (2, .int (pq1)), (3, .int (pq2)), (6, .long s45.2.1), (8, .int s45.2.2)]) dX13_holds_72 (by decide) rfl ?_
            refine J_lload (pc := 74) 5 dX13_holds_74 rfl ?_
            refine J_ldc2 (pc := 76) (v := 100) dX13_holds_76 cn_X13_490 ?_
            refine J_lmul (pc := 79) dX13_holds_79 ?_
            refine J_lstore (pc := 80) (loc' := [(6, .long (s45.2.1 * 100)), (4, .long (s45.1 * (((100 : Int32) - q66_45).toInt64))), (0, .ref 57), (1, .int (pq0)), (2, .int (pq1)), (3, .int (pq2)), (8, .int s45.2.2)]) dX13_holds_80 (by decide) rfl ?_
            refine J_iinc (pc := 82) (v := s45.2.2 + 1) (loc' := [(8, .int (s45.2.2 + 1)), (6, .long (s45.2.1 * 100)), (4, .long (s45.1 * (((100 : Int32) - q66_45).toInt64))), (0, .ref 57), (1, .int (pq0)), (2, .int (pq1)), (3, .int (pq2))]) 6 dX13_holds_82 rfl rfl (by decide) rfl ?_
            refine J_goto (pc := 85) (tgt := 45) dX13_holds_85 (by decide) ?_
            refine J_loc (loc' := [(0, .ref 57), (1, .int (pq0)), (2, .int (pq1)), (3, .int (pq2)), (4, .long (s45.1 * (((100 : Int32) - q66_45).toInt64))), (6, .long (s45.2.1 * 100)), (8, .int (s45.2.2 + 1))]) [3, 4, 5, 6, 2, 1, 0] rfl ?_
            exact hB45 (s45.1 * (((100 : Int32) - q66_45).toInt64), s45.2.1 * 100, s45.2.2 + 1)
      · show J mi_X13_holds 0 0 0 0 (g, j_sI d 57 0 0) 88 [(0, .ref 57), (3, .int pq2), (4, .long e45.1), (6, .long e45.2)] [] (_)
        refine J_aload_n (pc := 88) 0 dX13_holds_88 rfl rfl ?_
        refine J_lload (pc := 89) 2 dX13_holds_89 rfl ?_
        refine J_lload (pc := 91) 3 dX13_holds_91 rfl ?_
        refine J_iload_n (pc := 93) 1 dX13_holds_93 rfl rfl ?_
        refine JC_pe_l (J_callV (mi := mi_X13_holds) (mj := mi_X13_fraction) (pc := 94) dX13_holds_94 ml_X13_462 ok_X13_fraction ov_X13_fraction ⟨Nat.le_of_ble_eq_true rfl, Nat.le_of_ble_eq_true rfl⟩ rfl (h0.lt 57 (by decide)) (h0.ty 57 rfl) rfl (s_X13_fraction g (j_sI d 57 0 0) e45.1 e45.2 pq2 h0) rfl (Nat.le_of_ble_eq_true rfl)) (fun q94 => ?_)
        exact J_eqo (hk (q94.1, q94.2)) (J_lret (pc := 97) dX13_holds_97 rfl)
    · refine J_aload_n (pc := 29) 0 dX13_holds_29 rfl rfl ?_
      refine J_iconst (pc := 30) (v := 2) dX13_holds_30 (by decide) ?_
      refine JC_lt_i (K := (fun x => Option.bind x k)) (J_callV (mi := mi_X13_holds) (mj := mi_X13_refused) (pc := 31) dX13_holds_31 ml_X13_48 ok_X13_refused ov_X13_refused ⟨Nat.le_of_ble_eq_true rfl, Nat.le_of_ble_eq_true rfl⟩ rfl (h0.lt 57 (by decide)) (h0.ty 57 rfl) rfl (s_X13_refused g (j_sI d 57 0 0) 2 h0) rfl (Nat.le_of_ble_eq_true rfl)) (fun q31 eq31 => ?_)
      refine J_i2l (pc := 34) dX13_holds_34 ?_
      exact J_eqo (hk (q31.1.toInt64, q31.2)) (J_lret (pc := 35) dX13_holds_35 rfl)
  · refine J_aload_n (pc := 13) 0 dX13_holds_13 rfl rfl ?_
    refine J_iconst (pc := 14) (v := 1) dX13_holds_14 (by decide) ?_
    refine JC_lt_i (K := (fun x => Option.bind x k)) (J_callV (mi := mi_X13_holds) (mj := mi_X13_refused) (pc := 15) dX13_holds_15 ml_X13_48 ok_X13_refused ov_X13_refused ⟨Nat.le_of_ble_eq_true rfl, Nat.le_of_ble_eq_true rfl⟩ rfl (h0.lt 57 (by decide)) (h0.ty 57 rfl) rfl (s_X13_refused g (j_sI d 57 0 0) 1 h0) rfl (Nat.le_of_ble_eq_true rfl)) (fun q15 eq15 => ?_)
    refine J_i2l (pc := 18) dX13_holds_18 ?_
    exact J_eqo (hk (q15.1.toInt64, q15.2)) (J_lret (pc := 19) dX13_holds_19 rfl)
def f_X13_mean_w25 (t : Nat) (c1_25 : Int32) (c2_25 : Int32) (d : JD) (s25 : Int64 × Int32) : Option ((Int64 × Int32) ⊕ (Int64)) := (if (((d).1 t) 4) ≤ s25.2 then some (.inr s25.1) else ((f_X13_falls ((d).1 t) ((d).1 (t + 3)) s25.2).bind (fun q43_25 => if j_out s25.2 9 then none else (f_X13_shareIf ((d).1 (t + 1)) ((d).1 (t + 2)) ((d).1 (t + 3)) ((d).1 (t + 4)) ((d).1 (t + 5)) (c1_25) s25.2 (((d).1 59) s25.2.toNatClampNeg)).bind (fun q59_25 => (f_X13_falls ((d).1 t) ((d).1 (t + 3)) s25.2).bind (fun q67_25 => (f_X13_shareIf ((d).1 (t + 1)) ((d).1 (t + 2)) ((d).1 (t + 3)) ((d).1 (t + 4)) ((d).1 (t + 5)) (c1_25) s25.2 0).bind (fun q76_25 => some (.inl (s25.1 + (((((100 : Int32) - q43_25).toInt64) * q59_25.toInt64) + (q67_25.toInt64 * q76_25.toInt64)), s25.2 + 1))))))))
def f_X13_mean (t : Nat) (d : JD) (pq0 : Int32) (pq1 : Int32) : Option (Int64 × JD) := (if (f_X13_isPerson ((j_sI d 57 0 0).1 t) pq0) = true then ((j_wh (f_X13_mean_w25 t pq0 pq1 (j_sI d 57 0 0) ) j_fuel (0, 0)).bind (fun (e25 : Int64) => ((f_X13_fraction (j_sI d 57 0 0) e25 100 pq1).bind (fun q96 => some (q96.1, q96.2))))) else (j_let (f_X13_refused (j_sI d 57 0 0) 1) (fun q15 => some (q15.1.toInt64, q15.2))))
set_option maxRecDepth 100000 in
set_option maxHeartbeats 4000000 in
theorem s_X13_mean (g : JG) (d : JD) (t : Nat) (pq0 : Int32) (pq1 : Int32) (h0 : j_sh g 0 TS_W RS_W) (ht : j_sh g t TS_ML RS_ML) (hla : g.2.2.1 57 3 = some t) : JM mi_X13_mean 0 0 (g, d) [.ref 57, .int pq0, .int pq1] ((f_X13_mean t d pq0 pq1).bind (fun r9 => some (some (.long r9.1), (g, r9.2)))) := by
  refine JM_of (by decide) rfl (Nat.le_of_ble_eq_true rfl) ?_
  refine J_loc (loc' := [(0, .ref 57), (1, .int pq0), (2, .int pq1)]) [0, 1, 2] rfl ?_
  obtain ⟨k, hk, hk2⟩ : ∃ k : Int64 × JD → Option (Option Value × JH), (∀ r9, k r9 = some (some (.long r9.1), (g, r9.2))) ∧ (fun r9 : Int64 × JD => (some (some (.long r9.1), (g, r9.2)) : Option (Option Value × JH))) = k := ⟨_, fun _ => rfl, rfl⟩
  rw [hk2]
  unfold f_X13_mean
  refine J_aload_n (pc := 0) 0 dX13_mean_0 rfl rfl ?_
  refine J_iconst (pc := 1) (v := 0) dX13_mean_1 (by decide) ?_
  refine J_putI (pc := 2) dX13_mean_2 fl_X13_42 ft_12_0 (h0.lt 57 (by decide)) (h0.ty 57 rfl) rfl rfl rfl ?_
  refine J_aload_n (pc := 5) 0 dX13_mean_5 rfl rfl ?_
  refine J_iload_n (pc := 6) 1 dX13_mean_6 rfl rfl ?_
  refine JC_pt_i (J_callV (mi := mi_X13_mean) (mj := mi_X13_isPerson) (pc := 7) dX13_mean_7 ml_X13_351 ok_X13_isPerson ov_X13_isPerson ⟨Nat.le_of_ble_eq_true rfl, Nat.le_of_ble_eq_true rfl⟩ rfl (h0.lt 57 (by decide)) (h0.ty 57 rfl) rfl (s_X13_isPerson g (j_sI d 57 0 0) t pq0 h0 ht hla) rfl (Nat.le_of_ble_eq_true rfl)) ?_
  refine K_ifne_b (K := (fun x => Option.bind x k)) (pc := 10) (tgt := 20) dX13_mean_10 (by decide) (fun z10 => ?_) (fun z10 => ?_)
  · refine J_lconst (pc := 20) (v := 0) dX13_mean_20 (by decide) ?_
    refine J_lstore_n (pc := 21) (loc' := [(3, .long 0), (0, .ref 57), (1, .int pq0), (2, .int pq1)]) dX13_mean_21 rfl (by decide) rfl ?_
    refine J_iconst (pc := 22) (v := 0) dX13_mean_22 (by decide) ?_
    refine J_istore (pc := 23) (loc' := [(5, .int 0), (3, .long 0), (0, .ref 57), (1, .int pq0), (2, .int pq1)]) dX13_mean_23 (by decide) rfl ?_
    refine J_loc (loc' := [(0, .ref 57), (1, .int pq0), (2, .int pq1), (3, .long 0), (5, .int 0)]) [2, 3, 4, 1, 0] rfl ?_
    refine J_whL (F := f_X13_mean_w25 t pq0 pq1 (j_sI d 57 0 0) ) (hp := fun (s25 : Int64 × Int32) => (g, (j_sI d 57 0 0))) (lc := fun (s25 : Int64 × Int32) => [(0, .ref 57), (1, .int (pq0)), (2, .int (pq1)), (3, .long s25.1), (5, .int s25.2)]) (XJ := fun (e25 : Int64) o9 => J mi_X13_mean 0 0 0 0 (g, j_sI d 57 0 0) 90 [(0, .ref 57), (2, .int pq1), (3, .long e25)] [] o9) (fun s25 k25 hB25 hX25 => ?_) (fun e25 => ?_) _ (0, 0)
    · show J mi_X13_mean 0 0 0 0 (g, (j_sI d 57 0 0)) 25 [(0, .ref 57), (1, .int (pq0)), (2, .int (pq1)), (3, .long s25.1), (5, .int s25.2)] [] ((f_X13_mean_w25 t pq0 pq1 (j_sI d 57 0 0) s25).bind k25)
      unfold f_X13_mean_w25
      refine J_iload (pc := 25) 4 dX13_mean_25 rfl ?_
      refine J_aload_n (pc := 27) 0 dX13_mean_27 rfl rfl ?_
      refine J_getR (pc := 28) dX13_mean_28 fl_X13_321 (h0.lt 57 (by decide)) (h0.ty 57 rfl) rfl hla ?_
      refine J_getI (pc := 31) dX13_mean_31 fl_X13_191 (ht.lt 0 (by decide)) (ht.ty 0 rfl) rfl ?_
      refine K_icmp_ge (K := (fun x => Option.bind x k25)) (pc := 34) (tgt := 90) dX13_mean_34 (by decide) (fun z34 => ?_) (fun z34 => ?_)
      · refine J_loc (loc' := [(0, .ref 57), (2, .int (pq1)), (3, .long s25.1)]) [0, 2, 3] rfl ?_
        exact hX25 s25.1
      · refine J_lload_n (pc := 37) 3 dX13_mean_37 rfl rfl ?_
        refine J_bipush (pc := 38) (v := 100) dX13_mean_38 (by decide) ?_
        refine J_aload_n (pc := 40) 0 dX13_mean_40 rfl rfl ?_
        refine J_iload (pc := 41) 4 dX13_mean_41 rfl ?_
        refine JC_pp_i (J_callV (mi := mi_X13_mean) (mj := mi_X13_falls) (pc := 43) dX13_mean_43 ml_X13_487 ok_X13_falls ov_X13_falls ⟨Nat.le_of_ble_eq_true rfl, Nat.le_of_ble_eq_true rfl⟩ rfl (h0.lt 57 (by decide)) (h0.ty 57 rfl) rfl (s_X13_falls g (j_sI d 57 0 0) t s25.2 h0 ht hla) rfl (Nat.le_of_ble_eq_true rfl)) (fun q43_25 => ?_)
        refine J_isub (pc := 46) dX13_mean_46 ?_
        refine J_i2l (pc := 47) dX13_mean_47 ?_
        refine J_aload_n (pc := 48) 0 dX13_mean_48 rfl rfl ?_
        refine J_iload_n (pc := 49) 1 dX13_mean_49 rfl rfl ?_
        refine J_iload (pc := 50) 4 dX13_mean_50 rfl ?_
        refine J_aload_n (pc := 52) 0 dX13_mean_52 rfl rfl ?_
        refine J_getR (pc := 53) dX13_mean_53 fl_X13_17 (h0.lt 57 (by decide)) (h0.ty 57 rfl) rfl (h0.rf 56 rfl) ?_
        refine J_iload (pc := 56) 4 dX13_mean_56 rfl ?_
        refine J_guard (fun z58 => ?_)
        refine J_iald (pc := 58) dX13_mean_58 (h0.lt 59 (by decide)) (h0.ty 59 rfl) z58 ?_
        refine JC_pp_i (J_callV (mi := mi_X13_mean) (mj := mi_X13_shareIf) (pc := 59) dX13_mean_59 ml_X13_338 ok_X13_shareIf ov_X13_shareIf ⟨Nat.le_of_ble_eq_true rfl, Nat.le_of_ble_eq_true rfl⟩ rfl (h0.lt 57 (by decide)) (h0.ty 57 rfl) rfl (s_X13_shareIf g (j_sI d 57 0 0) t pq0 s25.2 ((((j_sI d 57 0 0)).1 59) s25.2.toNatClampNeg) h0 ht hla) rfl (Nat.le_of_ble_eq_true rfl)) (fun q59_25 => ?_)
        refine J_i2l (pc := 62) dX13_mean_62 ?_
        refine J_lmul (pc := 63) dX13_mean_63 ?_
        refine J_aload_n (pc := 64) 0 dX13_mean_64 rfl rfl ?_
        refine J_iload (pc := 65) 4 dX13_mean_65 rfl ?_
        refine JC_pp_i (J_callV (mi := mi_X13_mean) (mj := mi_X13_falls) (pc := 67) dX13_mean_67 ml_X13_487 ok_X13_falls ov_X13_falls ⟨Nat.le_of_ble_eq_true rfl, Nat.le_of_ble_eq_true rfl⟩ rfl (h0.lt 57 (by decide)) (h0.ty 57 rfl) rfl (s_X13_falls g (j_sI d 57 0 0) t s25.2 h0 ht hla) rfl (Nat.le_of_ble_eq_true rfl)) (fun q67_25 => ?_)
        refine J_i2l (pc := 70) dX13_mean_70 ?_
        refine J_aload_n (pc := 71) 0 dX13_mean_71 rfl rfl ?_
        refine J_iload_n (pc := 72) 1 dX13_mean_72 rfl rfl ?_
        refine J_iload (pc := 73) 4 dX13_mean_73 rfl ?_
        refine J_iconst (pc := 75) (v := 0) dX13_mean_75 (by decide) ?_
        refine JC_pp_i (J_callV (mi := mi_X13_mean) (mj := mi_X13_shareIf) (pc := 76) dX13_mean_76 ml_X13_338 ok_X13_shareIf ov_X13_shareIf ⟨Nat.le_of_ble_eq_true rfl, Nat.le_of_ble_eq_true rfl⟩ rfl (h0.lt 57 (by decide)) (h0.ty 57 rfl) rfl (s_X13_shareIf g (j_sI d 57 0 0) t pq0 s25.2 0 h0 ht hla) rfl (Nat.le_of_ble_eq_true rfl)) (fun q76_25 => ?_)
        refine J_i2l (pc := 79) dX13_mean_79 ?_
        refine J_lmul (pc := 80) dX13_mean_80 ?_
        refine J_ladd (pc := 81) dX13_mean_81 ?_
        refine J_ladd (pc := 82) dX13_mean_82 ?_
        refine J_lstore_n (pc := 83) (loc' := [(3, .long (s25.1 + (((((100 : Int32) - q43_25).toInt64) * q59_25.toInt64) + (q67_25.toInt64 * q76_25.toInt64)))), (0, .ref 57), (1, .int (pq0)), (2, .int (pq1)), (5, .int s25.2)]) dX13_mean_83 rfl (by decide) rfl ?_
        refine J_iinc (pc := 84) (v := s25.2 + 1) (loc' := [(5, .int (s25.2 + 1)), (3, .long (s25.1 + (((((100 : Int32) - q43_25).toInt64) * q59_25.toInt64) + (q67_25.toInt64 * q76_25.toInt64)))), (0, .ref 57), (1, .int (pq0)), (2, .int (pq1))]) 4 dX13_mean_84 rfl rfl (by decide) rfl ?_
        refine J_goto (pc := 87) (tgt := 25) dX13_mean_87 (by decide) ?_
        refine J_loc (loc' := [(0, .ref 57), (1, .int (pq0)), (2, .int (pq1)), (3, .long (s25.1 + (((((100 : Int32) - q43_25).toInt64) * q59_25.toInt64) + (q67_25.toInt64 * q76_25.toInt64)))), (5, .int (s25.2 + 1))]) [2, 3, 4, 1, 0] rfl ?_
        exact hB25 (s25.1 + (((((100 : Int32) - q43_25).toInt64) * q59_25.toInt64) + (q67_25.toInt64 * q76_25.toInt64)), s25.2 + 1)
    · show J mi_X13_mean 0 0 0 0 (g, j_sI d 57 0 0) 90 [(0, .ref 57), (2, .int pq1), (3, .long e25)] [] (_)
      refine J_aload_n (pc := 90) 0 dX13_mean_90 rfl rfl ?_
      refine J_lload_n (pc := 91) 2 dX13_mean_91 rfl rfl ?_
      refine J_ldc2 (pc := 92) (v := 100) dX13_mean_92 cn_X13_490 ?_
      refine J_iload_n (pc := 95) 1 dX13_mean_95 rfl rfl ?_
      refine JC_pe_l (J_callV (mi := mi_X13_mean) (mj := mi_X13_fraction) (pc := 96) dX13_mean_96 ml_X13_462 ok_X13_fraction ov_X13_fraction ⟨Nat.le_of_ble_eq_true rfl, Nat.le_of_ble_eq_true rfl⟩ rfl (h0.lt 57 (by decide)) (h0.ty 57 rfl) rfl (s_X13_fraction g (j_sI d 57 0 0) e25 100 pq1 h0) rfl (Nat.le_of_ble_eq_true rfl)) (fun q96 => ?_)
      exact J_eqo (hk (q96.1, q96.2)) (J_lret (pc := 99) dX13_mean_99 rfl)
  · refine J_aload_n (pc := 13) 0 dX13_mean_13 rfl rfl ?_
    refine J_iconst (pc := 14) (v := 1) dX13_mean_14 (by decide) ?_
    refine JC_lt_i (K := (fun x => Option.bind x k)) (J_callV (mi := mi_X13_mean) (mj := mi_X13_refused) (pc := 15) dX13_mean_15 ml_X13_48 ok_X13_refused ov_X13_refused ⟨Nat.le_of_ble_eq_true rfl, Nat.le_of_ble_eq_true rfl⟩ rfl (h0.lt 57 (by decide)) (h0.ty 57 rfl) rfl (s_X13_refused g (j_sI d 57 0 0) 1 h0) rfl (Nat.le_of_ble_eq_true rfl)) (fun q15 eq15 => ?_)
    refine J_i2l (pc := 18) dX13_mean_18 ?_
    exact J_eqo (hk (q15.1.toInt64, q15.2)) (J_lret (pc := 19) dX13_mean_19 rfl)
def f_X13_keeps_j70_39 (t : Nat) (c1_39 : Int32) (c2_39 : Int32) (c3_39 : Int32) (d : JD) (x9_70_39 : Int32) (y0_70_39 : Int64) (y1_70_39 : Int64) : Option ((Int64 × Int32) ⊕ (Int64)) := (some (.inl (y1_70_39 * y0_70_39, x9_70_39 + 1)))
def f_X13_keeps_w39 (t : Nat) (c1_39 : Int32) (c2_39 : Int32) (c3_39 : Int32) (d : JD) (s39 : Int64 × Int32) : Option ((Int64 × Int32) ⊕ (Int64)) := (if (((d).1 t) 4) ≤ s39.2 then some (.inr s39.1) else (if j_out s39.2 9 then none else if (((d).1 59) s39.2.toNatClampNeg) ≤ 0 then (f_X13_keeps_j70_39 t (c1_39) (c2_39) (c3_39) (d) s39.2 1 s39.1) else (f_X13_keeps_j70_39 t (c1_39) (c2_39) (c3_39) (d) s39.2 100 s39.1)))
def f_X13_keeps_j204_82_106 (t : Nat) (c1_106_82 : Int32) (c2_106_82 : Int32) (c3_106_82 : Int32) (c5_106_82 : Int64) (c7_106_82 : Int64) (c9_106_82 : Int32) (d204_82_106 : JD) (x10_204_82_106 : Int64) (x12_204_82_106 : Int32) : Option ((Int64 × Int32 × JD) ⊕ (Int64 × JD)) := (some (.inl (x10_204_82_106, x12_204_82_106 + 1, d204_82_106)))
def f_X13_keeps_j186_82_106 (t : Nat) (c1_106_82 : Int32) (c2_106_82 : Int32) (c3_106_82 : Int32) (c5_106_82 : Int64) (c7_106_82 : Int64) (c9_106_82 : Int32) (d186_82_106 : JD) (x10_186_82_106 : Int64) (x12_186_82_106 : Int32) : Option ((Int64 × Int32 × JD) ⊕ (Int64 × JD)) := (if (f_X13_bit (c9_106_82) x12_186_82_106) = true then (if j_out x12_186_82_106 6 then none else f_X13_keeps_j204_82_106 t (c1_106_82) (c2_106_82) (c3_106_82) (c5_106_82) (c7_106_82) (c9_106_82) (j_sI d186_82_106 60 x12_186_82_106.toNatClampNeg 0) x10_186_82_106 x12_186_82_106) else f_X13_keeps_j204_82_106 t (c1_106_82) (c2_106_82) (c3_106_82) (c5_106_82) (c7_106_82) (c9_106_82) d186_82_106 x10_186_82_106 x12_186_82_106)
def f_X13_keeps_j183_82_106 (t : Nat) (c1_106_82 : Int32) (c2_106_82 : Int32) (c3_106_82 : Int32) (c5_106_82 : Int64) (c7_106_82 : Int64) (c9_106_82 : Int32) (d183_82_106 : JD) (x12_183_82_106 : Int32) (y0_183_82_106 : Int64) (y1_183_82_106 : Int64) : Option ((Int64 × Int32 × JD) ⊕ (Int64 × JD)) := (f_X13_keeps_j186_82_106 t (c1_106_82) (c2_106_82) (c3_106_82) (c5_106_82) (c7_106_82) (c9_106_82) d183_82_106 (y1_183_82_106 * y0_183_82_106) x12_183_82_106)
def f_X13_keeps_j145_82_106 (t : Nat) (c1_106_82 : Int32) (c2_106_82 : Int32) (c3_106_82 : Int32) (c5_106_82 : Int64) (c7_106_82 : Int64) (c9_106_82 : Int32) (d145_82_106 : JD) (x12_145_82_106 : Int32) (y0_145_82_106 : Int64) (y1_145_82_106 : Int64) : Option ((Int64 × Int32 × JD) ⊕ (Int64 × JD)) := (f_X13_keeps_j186_82_106 t (c1_106_82) (c2_106_82) (c3_106_82) (c5_106_82) (c7_106_82) (c9_106_82) d145_82_106 (y1_145_82_106 * y0_145_82_106) x12_145_82_106)
def f_X13_keeps_w106_82 (t : Nat) (c1_106_82 : Int32) (c2_106_82 : Int32) (c3_106_82 : Int32) (c5_106_82 : Int64) (c7_106_82 : Int64) (c9_106_82 : Int32) (s106_82 : Int64 × Int32 × JD) : Option ((Int64 × Int32 × JD) ⊕ (Int64 × JD)) := (if ((s106_82.2.2.1 t) 4) ≤ s106_82.2.1 then some (.inr (s106_82.1, s106_82.2.2)) else (if j_out s106_82.2.1 9 then none else if ((s106_82.2.2.1 59) s106_82.2.1.toNatClampNeg) = 0 then (if (f_X13_bit (c9_106_82) s106_82.2.1) = true then (f_X13_keeps_j145_82_106 t (c1_106_82) (c2_106_82) (c3_106_82) (c5_106_82) (c7_106_82) (c9_106_82) s106_82.2.2 s106_82.2.1 0 s106_82.1) else (f_X13_keeps_j145_82_106 t (c1_106_82) (c2_106_82) (c3_106_82) (c5_106_82) (c7_106_82) (c9_106_82) s106_82.2.2 s106_82.2.1 1 s106_82.1)) else (if (f_X13_bit (c9_106_82) s106_82.2.1) = true then ((f_X13_falls (s106_82.2.2.1 t) (s106_82.2.2.1 (t + 3)) s106_82.2.1).bind (fun q166_82_106 => f_X13_keeps_j183_82_106 t (c1_106_82) (c2_106_82) (c3_106_82) (c5_106_82) (c7_106_82) (c9_106_82) s106_82.2.2 s106_82.2.1 q166_82_106.toInt64 s106_82.1)) else ((f_X13_falls (s106_82.2.2.1 t) (s106_82.2.2.1 (t + 3)) s106_82.2.1).bind (fun q178_82_106 => f_X13_keeps_j183_82_106 t (c1_106_82) (c2_106_82) (c3_106_82) (c5_106_82) (c7_106_82) (c9_106_82) s106_82.2.2 s106_82.2.1 (((100 : Int32) - q178_82_106).toInt64) s106_82.1)))))
def f_X13_keeps_j227_82 (t : Nat) (c1_82 : Int32) (c2_82 : Int32) (c3_82 : Int32) (c7_82 : Int64) (d227_82 : JD) (x9_227_82 : Int32) (y0_227_82 : Int64) (y1_227_82 : Int64) : Option ((Int64 × Int32 × JD) ⊕ (Int64 × JD)) := (some (.inl (y1_227_82 + y0_227_82, x9_227_82 + 1, d227_82)))
def f_X13_keeps_w82 (t : Nat) (c1_82 : Int32) (c2_82 : Int32) (c3_82 : Int32) (c7_82 : Int64) (s82 : Int64 × Int32 × JD) : Option ((Int64 × Int32 × JD) ⊕ (Int64 × JD)) := (if ((1 : Int32) <<< (((s82.2.2.1 t) 4) &&& 31)) ≤ s82.2.1 then some (.inr (s82.1, s82.2.2)) else ((f_X13_works s82.2.2).bind (fun q100_82 => (j_wh (f_X13_keeps_w106_82 t (c1_82) (c2_82) (c3_82) s82.1 (c7_82) s82.2.1 ) j_fuel (1, 0, q100_82)).bind (fun (e106_82 : Int64 × JD) => ((f_X13_has (e106_82.2.1 60) (e106_82.2.1 t) (e106_82.2.1 (t + 1)) (e106_82.2.1 (t + 2)) (e106_82.2.1 (t + 3)) (e106_82.2.1 (t + 4)) (e106_82.2.1 (t + 5)) (c1_82)).bind (fun q214_82 => if q214_82 < (c2_82) then (f_X13_keeps_j227_82 t (c1_82) (c2_82) (c3_82) (c7_82) e106_82.2 s82.2.1 0 s82.1) else (f_X13_keeps_j227_82 t (c1_82) (c2_82) (c3_82) (c7_82) e106_82.2 s82.2.1 e106_82.1 s82.1)))))))
def f_X13_keeps (t : Nat) (d : JD) (pq0 : Int32) (pq1 : Int32) (pq2 : Int32) : Option (Int64 × JD) := (j_let (f_X13_refusesMuch (j_b (f_X13_isPerson ((j_sI d 57 0 0).1 t) pq0)) pq1) (fun v4_15 => if v4_15 ≤ 0 then ((j_wh (f_X13_keeps_w39 t pq0 pq1 pq2 (j_sI d 57 0 0) ) j_fuel (1, 0)).bind (fun (e39 : Int64) => ((j_wh (f_X13_keeps_w82 t pq0 pq1 pq2 e39 ) j_fuel (0, 0, j_sI d 57 0 0)).bind (fun (e82 : Int64 × JD) => ((f_X13_fraction e82.2 e82.1 e39 pq2).bind (fun q242 => some (q242.1, q242.2))))))) else (j_let (f_X13_refused (j_sI d 57 0 0) v4_15) (fun q25 => some (q25.1.toInt64, q25.2)))))
set_option maxRecDepth 100000 in
set_option maxHeartbeats 4000000 in
theorem s_X13_keeps (g : JG) (d : JD) (t : Nat) (pq0 : Int32) (pq1 : Int32) (pq2 : Int32) (h0 : j_sh g 0 TS_W RS_W) (ht : j_sh g t TS_ML RS_ML) (hla : g.2.2.1 57 3 = some t) : JM mi_X13_keeps 0 0 (g, d) [.ref 57, .int pq0, .int pq1, .int pq2] ((f_X13_keeps t d pq0 pq1 pq2).bind (fun r9 => some (some (.long r9.1), (g, r9.2)))) := by
  refine JM_of (by decide) rfl (Nat.le_of_ble_eq_true rfl) ?_
  refine J_loc (loc' := [(0, .ref 57), (1, .int pq0), (2, .int pq1), (3, .int pq2)]) [0, 1, 2, 3] rfl ?_
  obtain ⟨k, hk, hk2⟩ : ∃ k : Int64 × JD → Option (Option Value × JH), (∀ r9, k r9 = some (some (.long r9.1), (g, r9.2))) ∧ (fun r9 : Int64 × JD => (some (some (.long r9.1), (g, r9.2)) : Option (Option Value × JH))) = k := ⟨_, fun _ => rfl, rfl⟩
  rw [hk2]
  unfold f_X13_keeps
  refine J_aload_n (pc := 0) 0 dX13_keeps_0 rfl rfl ?_
  refine J_iconst (pc := 1) (v := 0) dX13_keeps_1 (by decide) ?_
  refine J_putI (pc := 2) dX13_keeps_2 fl_X13_42 ft_12_0 (h0.lt 57 (by decide)) (h0.ty 57 rfl) rfl rfl rfl ?_
  refine J_aload_n (pc := 5) 0 dX13_keeps_5 rfl rfl ?_
  refine J_aload_n (pc := 6) 0 dX13_keeps_6 rfl rfl ?_
  refine J_iload_n (pc := 7) 1 dX13_keeps_7 rfl rfl ?_
  refine JC_pt_i (J_callV (mi := mi_X13_keeps) (mj := mi_X13_isPerson) (pc := 8) dX13_keeps_8 ml_X13_351 ok_X13_isPerson ov_X13_isPerson ⟨Nat.le_of_ble_eq_true rfl, Nat.le_of_ble_eq_true rfl⟩ rfl (h0.lt 57 (by decide)) (h0.ty 57 rfl) rfl (s_X13_isPerson g (j_sI d 57 0 0) t pq0 h0 ht hla) rfl (Nat.le_of_ble_eq_true rfl)) ?_
  refine J_iload_n (pc := 11) 2 dX13_keeps_11 rfl rfl ?_
  refine JC_pt_i (J_callV (mi := mi_X13_keeps) (mj := mi_X13_refusesMuch) (pc := 12) dX13_keeps_12 ml_X13_401 ok_X13_refusesMuch ov_X13_refusesMuch ⟨Nat.le_of_ble_eq_true rfl, Nat.le_of_ble_eq_true rfl⟩ rfl (h0.lt 57 (by decide)) (h0.ty 57 rfl) rfl (s_X13_refusesMuch g (j_sI d 57 0 0) (j_b (f_X13_isPerson ((j_sI d 57 0 0).1 t) pq0)) pq1 h0) rfl (Nat.le_of_ble_eq_true rfl)) ?_
  refine J_let (K := (fun x => Option.bind x k)) (fun v4_15 ev4_15 => ?_)
  refine J_val ev4_15.symm ?_
  refine J_istore (pc := 15) (loc' := [(4, .int v4_15), (0, .ref 57), (1, .int pq0), (2, .int pq1), (3, .int pq2)]) dX13_keeps_15 (by decide) rfl ?_
  refine J_iload (pc := 17) 0 dX13_keeps_17 rfl ?_
  refine K_if_le (K := (fun x => Option.bind x k)) (pc := 19) (tgt := 30) dX13_keeps_19 (by decide) (fun z19 => ?_) (fun z19 => ?_)
  · refine J_lconst (pc := 30) (v := 0) dX13_keeps_30 (by decide) ?_
    refine J_lstore (pc := 31) (loc' := [(5, .long 0), (4, .int v4_15), (0, .ref 57), (1, .int pq0), (2, .int pq1), (3, .int pq2)]) dX13_keeps_31 (by decide) rfl ?_
    refine J_lconst (pc := 33) (v := 1) dX13_keeps_33 (by decide) ?_
    refine J_lstore (pc := 34) (loc' := [(7, .long 1), (5, .long 0), (4, .int v4_15), (0, .ref 57), (1, .int pq0), (2, .int pq1), (3, .int pq2)]) dX13_keeps_34 (by decide) rfl ?_
    refine J_iconst (pc := 36) (v := 0) dX13_keeps_36 (by decide) ?_
    refine J_istore (pc := 37) (loc' := [(9, .int 0), (7, .long 1), (5, .long 0), (4, .int v4_15), (0, .ref 57), (1, .int pq0), (2, .int pq1), (3, .int pq2)]) dX13_keeps_37 (by decide) rfl ?_
    refine J_loc (loc' := [(0, .ref 57), (1, .int pq0), (2, .int pq1), (3, .int pq2), (5, .long 0), (7, .long 1), (9, .int 0)]) [4, 5, 6, 7, 2, 1, 0] rfl ?_
    refine J_whL (F := f_X13_keeps_w39 t pq0 pq1 pq2 (j_sI d 57 0 0) ) (hp := fun (s39 : Int64 × Int32) => (g, (j_sI d 57 0 0))) (lc := fun (s39 : Int64 × Int32) => [(0, .ref 57), (1, .int (pq0)), (2, .int (pq1)), (3, .int (pq2)), (5, .long 0), (7, .long s39.1), (9, .int s39.2)]) (XJ := fun (e39 : Int64) o9 => J mi_X13_keeps 0 0 0 0 (g, j_sI d 57 0 0) 79 [(0, .ref 57), (1, .int pq0), (2, .int pq1), (3, .int pq2), (5, .long 0), (7, .long e39)] [] o9) (fun s39 k39 hB39 hX39 => ?_) (fun e39 => ?_) _ (1, 0)
    · show J mi_X13_keeps 0 0 0 0 (g, (j_sI d 57 0 0)) 39 [(0, .ref 57), (1, .int (pq0)), (2, .int (pq1)), (3, .int (pq2)), (5, .long 0), (7, .long s39.1), (9, .int s39.2)] [] ((f_X13_keeps_w39 t pq0 pq1 pq2 (j_sI d 57 0 0) s39).bind k39)
      unfold f_X13_keeps_w39
      have hX13_keeps_j70_39 : ∀ (x9_70_39 : Int32) (y0_70_39 : Int64) (y1_70_39 : Int64), J mi_X13_keeps 0 0 0 0 (g, (j_sI d 57 0 0)) 70 [(0, .ref 57), (1, .int (pq0)), (2, .int (pq1)), (3, .int (pq2)), (5, .long 0), (9, .int x9_70_39)] [.long y0_70_39, .long y1_70_39] ((f_X13_keeps_j70_39 t pq0 pq1 pq2 (j_sI d 57 0 0) x9_70_39 y0_70_39 y1_70_39).bind k39) := by
        intro x9_70_39 y0_70_39 y1_70_39
        unfold f_X13_keeps_j70_39
        refine J_lmul (pc := 70) dX13_keeps_70 ?_
        refine J_lstore (pc := 71) (loc' := [(7, .long (y1_70_39 * y0_70_39)), (0, .ref 57), (1, .int (pq0)), (2, .int (pq1)), (3, .int (pq2)), (5, .long 0), (9, .int x9_70_39)]) dX13_keeps_71 (by decide) rfl ?_
        refine J_iinc (pc := 73) (v := x9_70_39 + 1) (loc' := [(9, .int (x9_70_39 + 1)), (7, .long (y1_70_39 * y0_70_39)), (0, .ref 57), (1, .int (pq0)), (2, .int (pq1)), (3, .int (pq2)), (5, .long 0)]) 6 dX13_keeps_73 rfl rfl (by decide) rfl ?_
        refine J_goto (pc := 76) (tgt := 39) dX13_keeps_76 (by decide) ?_
        refine J_loc (loc' := [(0, .ref 57), (1, .int (pq0)), (2, .int (pq1)), (3, .int (pq2)), (5, .long 0), (7, .long (y1_70_39 * y0_70_39)), (9, .int (x9_70_39 + 1))]) [2, 3, 4, 5, 6, 1, 0] rfl ?_
        exact hB39 (y1_70_39 * y0_70_39, x9_70_39 + 1)
      refine J_iload (pc := 39) 6 dX13_keeps_39 rfl ?_
      refine J_aload_n (pc := 41) 0 dX13_keeps_41 rfl rfl ?_
      refine J_getR (pc := 42) dX13_keeps_42 fl_X13_321 (h0.lt 57 (by decide)) (h0.ty 57 rfl) rfl hla ?_
      refine J_getI (pc := 45) dX13_keeps_45 fl_X13_191 (ht.lt 0 (by decide)) (ht.ty 0 rfl) rfl ?_
      refine K_icmp_ge (K := (fun x => Option.bind x k39)) (pc := 48) (tgt := 79) dX13_keeps_48 (by decide) (fun z48 => ?_) (fun z48 => ?_)
      · refine J_loc (loc' := [(0, .ref 57), (1, .int (pq0)), (2, .int (pq1)), (3, .int (pq2)), (5, .long 0), (7, .long s39.1)]) [0, 1, 2, 3, 4, 5] rfl ?_
        exact hX39 s39.1
      · refine J_lload (pc := 51) 5 dX13_keeps_51 rfl ?_
        refine J_aload_n (pc := 53) 0 dX13_keeps_53 rfl rfl ?_
        refine J_getR (pc := 54) dX13_keeps_54 fl_X13_17 (h0.lt 57 (by decide)) (h0.ty 57 rfl) rfl (h0.rf 56 rfl) ?_
        refine J_iload (pc := 57) 6 dX13_keeps_57 rfl ?_
        refine J_guard (fun z59 => ?_)
        refine J_iald (pc := 59) dX13_keeps_59 (h0.lt 59 (by decide)) (h0.ty 59 rfl) z59 ?_
        refine K_if_le (K := (fun x => Option.bind x k39)) (pc := 60) (tgt := 69) dX13_keeps_60 (by decide) (fun z60 => ?_) (fun z60 => ?_)
        · refine J_lconst (pc := 69) (v := 1) dX13_keeps_69 (by decide) ?_
          refine J_loc (loc' := [(0, .ref 57), (1, .int (pq0)), (2, .int (pq1)), (3, .int (pq2)), (5, .long 0), (9, .int s39.2)]) [0, 1, 2, 3, 4, 6] rfl ?_
          exact hX13_keeps_j70_39 s39.2 1 s39.1
        · refine J_ldc2 (pc := 63) (v := 100) dX13_keeps_63 cn_X13_490 ?_
          refine J_goto (pc := 66) (tgt := 70) dX13_keeps_66 (by decide) ?_
          refine J_loc (loc' := [(0, .ref 57), (1, .int (pq0)), (2, .int (pq1)), (3, .int (pq2)), (5, .long 0), (9, .int s39.2)]) [0, 1, 2, 3, 4, 6] rfl ?_
          exact hX13_keeps_j70_39 s39.2 100 s39.1
    · show J mi_X13_keeps 0 0 0 0 (g, j_sI d 57 0 0) 79 [(0, .ref 57), (1, .int pq0), (2, .int pq1), (3, .int pq2), (5, .long 0), (7, .long e39)] [] (_)
      refine J_iconst (pc := 79) (v := 0) dX13_keeps_79 (by decide) ?_
      refine J_istore (pc := 80) (loc' := [(9, .int 0), (0, .ref 57), (1, .int pq0), (2, .int pq1), (3, .int pq2), (5, .long 0), (7, .long e39)]) dX13_keeps_80 (by decide) rfl ?_
      refine J_loc (loc' := [(0, .ref 57), (1, .int pq0), (2, .int pq1), (3, .int pq2), (5, .long 0), (7, .long e39), (9, .int 0)]) [1, 2, 3, 4, 5, 6, 0] rfl ?_
      refine J_whL (F := f_X13_keeps_w82 t pq0 pq1 pq2 e39 ) (hp := fun (s82 : Int64 × Int32 × JD) => (g, s82.2.2)) (lc := fun (s82 : Int64 × Int32 × JD) => [(0, .ref 57), (1, .int (pq0)), (2, .int (pq1)), (3, .int (pq2)), (5, .long s82.1), (7, .long (e39)), (9, .int s82.2.1)]) (XJ := fun (e82 : Int64 × JD) o9 => J mi_X13_keeps 0 0 0 0 (g, e82.2) 236 [(0, .ref 57), (3, .int pq2), (5, .long e82.1), (7, .long e39)] [] o9) (fun s82 k82 hB82 hX82 => ?_) (fun e82 => ?_) _ (0, 0, j_sI d 57 0 0)
      · show J mi_X13_keeps 0 0 0 0 (g, s82.2.2) 82 [(0, .ref 57), (1, .int (pq0)), (2, .int (pq1)), (3, .int (pq2)), (5, .long s82.1), (7, .long (e39)), (9, .int s82.2.1)] [] ((f_X13_keeps_w82 t pq0 pq1 pq2 e39 s82).bind k82)
        unfold f_X13_keeps_w82
        have hX13_keeps_j227_82 : ∀ (d227_82 : JD) (x9_227_82 : Int32) (y0_227_82 : Int64) (y1_227_82 : Int64), J mi_X13_keeps 0 0 0 0 (g, d227_82) 227 [(0, .ref 57), (1, .int (pq0)), (2, .int (pq1)), (3, .int (pq2)), (7, .long (e39)), (9, .int x9_227_82)] [.long y0_227_82, .long y1_227_82] ((f_X13_keeps_j227_82 t pq0 pq1 pq2 e39 d227_82 x9_227_82 y0_227_82 y1_227_82).bind k82) := by
          intro d227_82 x9_227_82 y0_227_82 y1_227_82
          unfold f_X13_keeps_j227_82
          refine J_ladd (pc := 227) dX13_keeps_227 ?_
          refine J_lstore (pc := 228) (loc' := [(5, .long (y1_227_82 + y0_227_82)), (0, .ref 57), (1, .int (pq0)), (2, .int (pq1)), (3, .int (pq2)), (7, .long (e39)), (9, .int x9_227_82)]) dX13_keeps_228 (by decide) rfl ?_
          refine J_iinc (pc := 230) (v := x9_227_82 + 1) (loc' := [(9, .int (x9_227_82 + 1)), (5, .long (y1_227_82 + y0_227_82)), (0, .ref 57), (1, .int (pq0)), (2, .int (pq1)), (3, .int (pq2)), (7, .long (e39))]) 6 dX13_keeps_230 rfl rfl (by decide) rfl ?_
          refine J_goto (pc := 233) (tgt := 82) dX13_keeps_233 (by decide) ?_
          refine J_loc (loc' := [(0, .ref 57), (1, .int (pq0)), (2, .int (pq1)), (3, .int (pq2)), (5, .long (y1_227_82 + y0_227_82)), (7, .long (e39)), (9, .int (x9_227_82 + 1))]) [2, 3, 4, 5, 1, 6, 0] rfl ?_
          exact hB82 (y1_227_82 + y0_227_82, x9_227_82 + 1, d227_82)
        refine J_iload (pc := 82) 6 dX13_keeps_82 rfl ?_
        refine J_iconst (pc := 84) (v := 1) dX13_keeps_84 (by decide) ?_
        refine J_aload_n (pc := 85) 0 dX13_keeps_85 rfl rfl ?_
        refine J_getR (pc := 86) dX13_keeps_86 fl_X13_321 (h0.lt 57 (by decide)) (h0.ty 57 rfl) rfl hla ?_
        refine J_getI (pc := 89) dX13_keeps_89 fl_X13_191 (ht.lt 0 (by decide)) (ht.ty 0 rfl) rfl ?_
        refine J_ishl (pc := 92) dX13_keeps_92 ?_
        refine K_icmp_ge (K := (fun x => Option.bind x k82)) (pc := 93) (tgt := 236) dX13_keeps_93 (by decide) (fun z93 => ?_) (fun z93 => ?_)
        · refine J_loc (loc' := [(0, .ref 57), (3, .int (pq2)), (5, .long s82.1), (7, .long (e39))]) [0, 3, 4, 5] rfl ?_
          exact hX82 (s82.1, s82.2.2)
        · refine J_lconst (pc := 96) (v := 1) dX13_keeps_96 (by decide) ?_
          refine J_lstore (pc := 97) (loc' := [(10, .long 1), (0, .ref 57), (1, .int (pq0)), (2, .int (pq1)), (3, .int (pq2)), (5, .long s82.1), (7, .long (e39)), (9, .int s82.2.1)]) dX13_keeps_97 (by decide) rfl ?_
          refine J_aload_n (pc := 99) 1 dX13_keeps_99 rfl rfl ?_
          refine JC_pe_v (J_callV (mi := mi_X13_keeps) (mj := mi_X13_works) (pc := 100) dX13_keeps_100 ml_X13_348 ok_X13_works ov_X13_works ⟨Nat.le_of_ble_eq_true rfl, Nat.le_of_ble_eq_true rfl⟩ rfl (h0.lt 57 (by decide)) (h0.ty 57 rfl) rfl (s_X13_works g s82.2.2 h0) rfl (Nat.le_of_ble_eq_true rfl)) (fun q100_82 => ?_)
          refine J_iconst (pc := 103) (v := 0) dX13_keeps_103 (by decide) ?_
          refine J_istore (pc := 104) (loc' := [(12, .int 0), (10, .long 1), (0, .ref 57), (1, .int (pq0)), (2, .int (pq1)), (3, .int (pq2)), (5, .long s82.1), (7, .long (e39)), (9, .int s82.2.1)]) dX13_keeps_104 (by decide) rfl ?_
          refine J_loc (loc' := [(0, .ref 57), (1, .int (pq0)), (2, .int (pq1)), (3, .int (pq2)), (5, .long s82.1), (7, .long (e39)), (9, .int s82.2.1), (10, .long 1), (12, .int 0)]) [2, 3, 4, 5, 6, 7, 8, 1, 0] rfl ?_
          refine J_whL (F := f_X13_keeps_w106_82 t (pq0) (pq1) (pq2) s82.1 (e39) s82.2.1 ) (hp := fun (s106_82 : Int64 × Int32 × JD) => (g, s106_82.2.2)) (lc := fun (s106_82 : Int64 × Int32 × JD) => [(0, .ref 57), (1, .int ((pq0))), (2, .int ((pq1))), (3, .int ((pq2))), (5, .long (s82.1)), (7, .long ((e39))), (9, .int (s82.2.1)), (10, .long s106_82.1), (12, .int s106_82.2.1)]) (XJ := fun (e106_82 : Int64 × JD) o9 => J mi_X13_keeps 0 0 0 0 (g, e106_82.2) 210 [(0, .ref 57), (1, .int (pq0)), (2, .int (pq1)), (3, .int (pq2)), (5, .long s82.1), (7, .long (e39)), (9, .int s82.2.1), (10, .long e106_82.1)] [] o9) (fun s106_82 k106_82 hB106_82 hX106_82 => ?_) (fun e106_82 => ?_) _ (1, 0, q100_82)
          · show J mi_X13_keeps 0 0 0 0 (g, s106_82.2.2) 106 [(0, .ref 57), (1, .int ((pq0))), (2, .int ((pq1))), (3, .int ((pq2))), (5, .long (s82.1)), (7, .long ((e39))), (9, .int (s82.2.1)), (10, .long s106_82.1), (12, .int s106_82.2.1)] [] ((f_X13_keeps_w106_82 t (pq0) (pq1) (pq2) s82.1 (e39) s82.2.1 s106_82).bind k106_82)
            unfold f_X13_keeps_w106_82
            have hX13_keeps_j204_82_106 : ∀ (d204_82_106 : JD) (x10_204_82_106 : Int64) (x12_204_82_106 : Int32), J mi_X13_keeps 0 0 0 0 (g, d204_82_106) 204 [(0, .ref 57), (1, .int ((pq0))), (2, .int ((pq1))), (3, .int ((pq2))), (5, .long (s82.1)), (7, .long ((e39))), (9, .int (s82.2.1)), (10, .long x10_204_82_106), (12, .int x12_204_82_106)] [] ((f_X13_keeps_j204_82_106 t (pq0) (pq1) (pq2) s82.1 (e39) s82.2.1 d204_82_106 x10_204_82_106 x12_204_82_106).bind k106_82) := by
              intro d204_82_106 x10_204_82_106 x12_204_82_106
              unfold f_X13_keeps_j204_82_106
              refine J_iinc (pc := 204) (v := x12_204_82_106 + 1) (loc' := [(12, .int (x12_204_82_106 + 1)), (0, .ref 57), (1, .int ((pq0))), (2, .int ((pq1))), (3, .int ((pq2))), (5, .long (s82.1)), (7, .long ((e39))), (9, .int (s82.2.1)), (10, .long x10_204_82_106)]) 8 dX13_keeps_204 rfl rfl (by decide) rfl ?_
              refine J_goto (pc := 207) (tgt := 106) dX13_keeps_207 (by decide) ?_
              refine J_loc (loc' := [(0, .ref 57), (1, .int ((pq0))), (2, .int ((pq1))), (3, .int ((pq2))), (5, .long (s82.1)), (7, .long ((e39))), (9, .int (s82.2.1)), (10, .long x10_204_82_106), (12, .int (x12_204_82_106 + 1))]) [1, 2, 3, 4, 5, 6, 7, 8, 0] rfl ?_
              exact hB106_82 (x10_204_82_106, x12_204_82_106 + 1, d204_82_106)
            have hX13_keeps_j186_82_106 : ∀ (d186_82_106 : JD) (x10_186_82_106 : Int64) (x12_186_82_106 : Int32), J mi_X13_keeps 0 0 0 0 (g, d186_82_106) 186 [(0, .ref 57), (1, .int ((pq0))), (2, .int ((pq1))), (3, .int ((pq2))), (5, .long (s82.1)), (7, .long ((e39))), (9, .int (s82.2.1)), (10, .long x10_186_82_106), (12, .int x12_186_82_106)] [] ((f_X13_keeps_j186_82_106 t (pq0) (pq1) (pq2) s82.1 (e39) s82.2.1 d186_82_106 x10_186_82_106 x12_186_82_106).bind k106_82) := by
              intro d186_82_106 x10_186_82_106 x12_186_82_106
              unfold f_X13_keeps_j186_82_106
              refine J_iload (pc := 186) 6 dX13_keeps_186 rfl ?_
              refine J_iload (pc := 188) 8 dX13_keeps_188 rfl ?_
              refine JC_pt_i (J_callS (mi := mi_X13_keeps) (mj := mi_X13_bit) (pc := 190) dX13_keeps_190 ml_X13_249 ok_X13_bit os_X13_bit ⟨Nat.le_of_ble_eq_true rfl, Nat.le_of_ble_eq_true rfl⟩ rfl (s_X13_bit g d186_82_106 s82.2.1 x12_186_82_106) rfl (Nat.le_of_ble_eq_true rfl)) ?_
              refine K_ifeq_b (K := (fun x => Option.bind x k106_82)) (pc := 193) (tgt := 204) dX13_keeps_193 (by decide) (fun z193 => ?_) (fun z193 => ?_)
              · exact hX13_keeps_j204_82_106 d186_82_106 x10_186_82_106 x12_186_82_106
              · refine J_aload_n (pc := 196) 0 dX13_keeps_196 rfl rfl ?_
                refine J_getR (pc := 197) dX13_keeps_197 fl_X13_21 (h0.lt 57 (by decide)) (h0.ty 57 rfl) rfl (h0.rf 57 rfl) ?_
                refine J_iload (pc := 200) 8 dX13_keeps_200 rfl ?_
                refine J_iconst (pc := 202) (v := 0) dX13_keeps_202 (by decide) ?_
                refine J_guard (fun z203 => ?_)
                refine J_iast (pc := 203) dX13_keeps_203 (h0.lt 60 (by decide)) (h0.ty 60 rfl) z203 ?_
                exact hX13_keeps_j204_82_106 (j_sI d186_82_106 60 x12_186_82_106.toNatClampNeg 0) x10_186_82_106 x12_186_82_106
            have hX13_keeps_j183_82_106 : ∀ (d183_82_106 : JD) (x12_183_82_106 : Int32) (y0_183_82_106 : Int64) (y1_183_82_106 : Int64), J mi_X13_keeps 0 0 0 0 (g, d183_82_106) 183 [(0, .ref 57), (1, .int ((pq0))), (2, .int ((pq1))), (3, .int ((pq2))), (5, .long (s82.1)), (7, .long ((e39))), (9, .int (s82.2.1)), (12, .int x12_183_82_106)] [.long y0_183_82_106, .long y1_183_82_106] ((f_X13_keeps_j183_82_106 t (pq0) (pq1) (pq2) s82.1 (e39) s82.2.1 d183_82_106 x12_183_82_106 y0_183_82_106 y1_183_82_106).bind k106_82) := by
              intro d183_82_106 x12_183_82_106 y0_183_82_106 y1_183_82_106
              unfold f_X13_keeps_j183_82_106
              refine J_lmul (pc := 183) dX13_keeps_183 ?_
              refine J_lstore (pc := 184) (loc' := [(10, .long (y1_183_82_106 * y0_183_82_106)), (0, .ref 57), (1, .int ((pq0))), (2, .int ((pq1))), (3, .int ((pq2))), (5, .long (s82.1)), (7, .long ((e39))), (9, .int (s82.2.1)), (12, .int x12_183_82_106)]) dX13_keeps_184 (by decide) rfl ?_
              refine J_loc (loc' := [(0, .ref 57), (1, .int ((pq0))), (2, .int ((pq1))), (3, .int ((pq2))), (5, .long (s82.1)), (7, .long ((e39))), (9, .int (s82.2.1)), (10, .long (y1_183_82_106 * y0_183_82_106)), (12, .int x12_183_82_106)]) [1, 2, 3, 4, 5, 6, 7, 0, 8] rfl ?_
              exact hX13_keeps_j186_82_106 d183_82_106 (y1_183_82_106 * y0_183_82_106) x12_183_82_106
            have hX13_keeps_j145_82_106 : ∀ (d145_82_106 : JD) (x12_145_82_106 : Int32) (y0_145_82_106 : Int64) (y1_145_82_106 : Int64), J mi_X13_keeps 0 0 0 0 (g, d145_82_106) 145 [(0, .ref 57), (1, .int ((pq0))), (2, .int ((pq1))), (3, .int ((pq2))), (5, .long (s82.1)), (7, .long ((e39))), (9, .int (s82.2.1)), (12, .int x12_145_82_106)] [.long y0_145_82_106, .long y1_145_82_106] ((f_X13_keeps_j145_82_106 t (pq0) (pq1) (pq2) s82.1 (e39) s82.2.1 d145_82_106 x12_145_82_106 y0_145_82_106 y1_145_82_106).bind k106_82) := by
              intro d145_82_106 x12_145_82_106 y0_145_82_106 y1_145_82_106
              unfold f_X13_keeps_j145_82_106
              refine J_lmul (pc := 145) dX13_keeps_145 ?_
              refine J_lstore (pc := 146) (loc' := [(10, .long (y1_145_82_106 * y0_145_82_106)), (0, .ref 57), (1, .int ((pq0))), (2, .int ((pq1))), (3, .int ((pq2))), (5, .long (s82.1)), (7, .long ((e39))), (9, .int (s82.2.1)), (12, .int x12_145_82_106)]) dX13_keeps_146 (by decide) rfl ?_
              refine J_goto (pc := 148) (tgt := 186) dX13_keeps_148 (by decide) ?_
              refine J_loc (loc' := [(0, .ref 57), (1, .int ((pq0))), (2, .int ((pq1))), (3, .int ((pq2))), (5, .long (s82.1)), (7, .long ((e39))), (9, .int (s82.2.1)), (10, .long (y1_145_82_106 * y0_145_82_106)), (12, .int x12_145_82_106)]) [1, 2, 3, 4, 5, 6, 7, 0, 8] rfl ?_
              exact hX13_keeps_j186_82_106 d145_82_106 (y1_145_82_106 * y0_145_82_106) x12_145_82_106
            refine J_iload (pc := 106) 8 dX13_keeps_106 rfl ?_
            refine J_aload_n (pc := 108) 0 dX13_keeps_108 rfl rfl ?_
            refine J_getR (pc := 109) dX13_keeps_109 fl_X13_321 (h0.lt 57 (by decide)) (h0.ty 57 rfl) rfl hla ?_
            refine J_getI (pc := 112) dX13_keeps_112 fl_X13_191 (ht.lt 0 (by decide)) (ht.ty 0 rfl) rfl ?_
            refine K_icmp_ge (K := (fun x => Option.bind x k106_82)) (pc := 115) (tgt := 210) dX13_keeps_115 (by decide) (fun z115 => ?_) (fun z115 => ?_)
            · refine J_loc (loc' := [(0, .ref 57), (1, .int ((pq0))), (2, .int ((pq1))), (3, .int ((pq2))), (5, .long (s82.1)), (7, .long ((e39))), (9, .int (s82.2.1)), (10, .long s106_82.1)]) [0, 1, 2, 3, 4, 5, 6, 7] rfl ?_
              exact hX106_82 (s106_82.1, s106_82.2.2)
            · refine J_aload_n (pc := 118) 0 dX13_keeps_118 rfl rfl ?_
              refine J_getR (pc := 119) dX13_keeps_119 fl_X13_17 (h0.lt 57 (by decide)) (h0.ty 57 rfl) rfl (h0.rf 56 rfl) ?_
              refine J_iload (pc := 122) 8 dX13_keeps_122 rfl ?_
              refine J_guard (fun z124 => ?_)
              refine J_iald (pc := 124) dX13_keeps_124 (h0.lt 59 (by decide)) (h0.ty 59 rfl) z124 ?_
              refine K_if_ne (K := (fun x => Option.bind x k106_82)) (pc := 125) (tgt := 151) dX13_keeps_125 (by decide) (fun z125 => ?_) (fun z125 => ?_)
              · refine J_lload (pc := 151) 7 dX13_keeps_151 rfl ?_
                refine J_iload (pc := 153) 6 dX13_keeps_153 rfl ?_
                refine J_iload (pc := 155) 8 dX13_keeps_155 rfl ?_
                refine JC_pt_i (J_callS (mi := mi_X13_keeps) (mj := mi_X13_bit) (pc := 157) dX13_keeps_157 ml_X13_249 ok_X13_bit os_X13_bit ⟨Nat.le_of_ble_eq_true rfl, Nat.le_of_ble_eq_true rfl⟩ rfl (s_X13_bit g s106_82.2.2 s82.2.1 s106_82.2.1) rfl (Nat.le_of_ble_eq_true rfl)) ?_
                refine K_ifeq_b (K := (fun x => Option.bind x k106_82)) (pc := 160) (tgt := 173) dX13_keeps_160 (by decide) (fun z160 => ?_) (fun z160 => ?_)
                · refine J_bipush (pc := 173) (v := 100) dX13_keeps_173 (by decide) ?_
                  refine J_aload_n (pc := 175) 0 dX13_keeps_175 rfl rfl ?_
                  refine J_iload (pc := 176) 8 dX13_keeps_176 rfl ?_
                  refine JC_pp_i (J_callV (mi := mi_X13_keeps) (mj := mi_X13_falls) (pc := 178) dX13_keeps_178 ml_X13_487 ok_X13_falls ov_X13_falls ⟨Nat.le_of_ble_eq_true rfl, Nat.le_of_ble_eq_true rfl⟩ rfl (h0.lt 57 (by decide)) (h0.ty 57 rfl) rfl (s_X13_falls g s106_82.2.2 t s106_82.2.1 h0 ht hla) rfl (Nat.le_of_ble_eq_true rfl)) (fun q178_82_106 => ?_)
                  refine J_isub (pc := 181) dX13_keeps_181 ?_
                  refine J_i2l (pc := 182) dX13_keeps_182 ?_
                  refine J_loc (loc' := [(0, .ref 57), (1, .int ((pq0))), (2, .int ((pq1))), (3, .int ((pq2))), (5, .long (s82.1)), (7, .long ((e39))), (9, .int (s82.2.1)), (12, .int s106_82.2.1)]) [0, 1, 2, 3, 4, 5, 6, 8] rfl ?_
                  exact hX13_keeps_j183_82_106 s106_82.2.2 s106_82.2.1 (((100 : Int32) - q178_82_106).toInt64) s106_82.1
                · refine J_aload_n (pc := 163) 0 dX13_keeps_163 rfl rfl ?_
                  refine J_iload (pc := 164) 8 dX13_keeps_164 rfl ?_
                  refine JC_pp_i (J_callV (mi := mi_X13_keeps) (mj := mi_X13_falls) (pc := 166) dX13_keeps_166 ml_X13_487 ok_X13_falls ov_X13_falls ⟨Nat.le_of_ble_eq_true rfl, Nat.le_of_ble_eq_true rfl⟩ rfl (h0.lt 57 (by decide)) (h0.ty 57 rfl) rfl (s_X13_falls g s106_82.2.2 t s106_82.2.1 h0 ht hla) rfl (Nat.le_of_ble_eq_true rfl)) (fun q166_82_106 => ?_)
                  refine J_i2l (pc := 169) dX13_keeps_169 ?_
                  refine J_goto (pc := 170) (tgt := 183) dX13_keeps_170 (by decide) ?_
                  refine J_loc (loc' := [(0, .ref 57), (1, .int ((pq0))), (2, .int ((pq1))), (3, .int ((pq2))), (5, .long (s82.1)), (7, .long ((e39))), (9, .int (s82.2.1)), (12, .int s106_82.2.1)]) [0, 1, 2, 3, 4, 5, 6, 8] rfl ?_
                  exact hX13_keeps_j183_82_106 s106_82.2.2 s106_82.2.1 q166_82_106.toInt64 s106_82.1
              · refine J_lload (pc := 128) 7 dX13_keeps_128 rfl ?_
                refine J_iload (pc := 130) 6 dX13_keeps_130 rfl ?_
                refine J_iload (pc := 132) 8 dX13_keeps_132 rfl ?_
                refine JC_pt_i (J_callS (mi := mi_X13_keeps) (mj := mi_X13_bit) (pc := 134) dX13_keeps_134 ml_X13_249 ok_X13_bit os_X13_bit ⟨Nat.le_of_ble_eq_true rfl, Nat.le_of_ble_eq_true rfl⟩ rfl (s_X13_bit g s106_82.2.2 s82.2.1 s106_82.2.1) rfl (Nat.le_of_ble_eq_true rfl)) ?_
                refine K_ifeq_b (K := (fun x => Option.bind x k106_82)) (pc := 137) (tgt := 144) dX13_keeps_137 (by decide) (fun z137 => ?_) (fun z137 => ?_)
                · refine J_lconst (pc := 144) (v := 1) dX13_keeps_144 (by decide) ?_
                  refine J_loc (loc' := [(0, .ref 57), (1, .int ((pq0))), (2, .int ((pq1))), (3, .int ((pq2))), (5, .long (s82.1)), (7, .long ((e39))), (9, .int (s82.2.1)), (12, .int s106_82.2.1)]) [0, 1, 2, 3, 4, 5, 6, 8] rfl ?_
                  exact hX13_keeps_j145_82_106 s106_82.2.2 s106_82.2.1 1 s106_82.1
                · refine J_lconst (pc := 140) (v := 0) dX13_keeps_140 (by decide) ?_
                  refine J_goto (pc := 141) (tgt := 145) dX13_keeps_141 (by decide) ?_
                  refine J_loc (loc' := [(0, .ref 57), (1, .int ((pq0))), (2, .int ((pq1))), (3, .int ((pq2))), (5, .long (s82.1)), (7, .long ((e39))), (9, .int (s82.2.1)), (12, .int s106_82.2.1)]) [0, 1, 2, 3, 4, 5, 6, 8] rfl ?_
                  exact hX13_keeps_j145_82_106 s106_82.2.2 s106_82.2.1 0 s106_82.1
          · show J mi_X13_keeps 0 0 0 0 (g, e106_82.2) 210 [(0, .ref 57), (1, .int (pq0)), (2, .int (pq1)), (3, .int (pq2)), (5, .long s82.1), (7, .long (e39)), (9, .int s82.2.1), (10, .long e106_82.1)] [] (_)
            refine J_lload (pc := 210) 4 dX13_keeps_210 rfl ?_
            refine J_aload_n (pc := 212) 0 dX13_keeps_212 rfl rfl ?_
            refine J_iload_n (pc := 213) 1 dX13_keeps_213 rfl rfl ?_
            refine JC_pp_i (J_callV (mi := mi_X13_keeps) (mj := mi_X13_has) (pc := 214) dX13_keeps_214 ml_X13_354 ok_X13_has ov_X13_has ⟨Nat.le_of_ble_eq_true rfl, Nat.le_of_ble_eq_true rfl⟩ rfl (h0.lt 57 (by decide)) (h0.ty 57 rfl) rfl (s_X13_has g e106_82.2 t pq0 h0 ht hla) rfl (Nat.le_of_ble_eq_true rfl)) (fun q214_82 => ?_)
            refine J_iload_n (pc := 217) 2 dX13_keeps_217 rfl rfl ?_
            refine K_icmp_lt (K := (fun x => Option.bind x k82)) (pc := 218) (tgt := 226) dX13_keeps_218 (by decide) (fun z218 => ?_) (fun z218 => ?_)
            · refine J_lconst (pc := 226) (v := 0) dX13_keeps_226 (by decide) ?_
              refine J_loc (loc' := [(0, .ref 57), (1, .int (pq0)), (2, .int (pq1)), (3, .int (pq2)), (7, .long (e39)), (9, .int s82.2.1)]) [0, 1, 2, 3, 5, 6] rfl ?_
              exact hX13_keeps_j227_82 e106_82.2 s82.2.1 0 s82.1
            · refine J_lload (pc := 221) 7 dX13_keeps_221 rfl ?_
              refine J_goto (pc := 223) (tgt := 227) dX13_keeps_223 (by decide) ?_
              refine J_loc (loc' := [(0, .ref 57), (1, .int (pq0)), (2, .int (pq1)), (3, .int (pq2)), (7, .long (e39)), (9, .int s82.2.1)]) [0, 1, 2, 3, 5, 6] rfl ?_
              exact hX13_keeps_j227_82 e106_82.2 s82.2.1 e106_82.1 s82.1
      · show J mi_X13_keeps 0 0 0 0 (g, e82.2) 236 [(0, .ref 57), (3, .int pq2), (5, .long e82.1), (7, .long e39)] [] (_)
        refine J_aload_n (pc := 236) 0 dX13_keeps_236 rfl rfl ?_
        refine J_lload (pc := 237) 2 dX13_keeps_237 rfl ?_
        refine J_lload (pc := 239) 3 dX13_keeps_239 rfl ?_
        refine J_iload_n (pc := 241) 1 dX13_keeps_241 rfl rfl ?_
        refine JC_pe_l (J_callV (mi := mi_X13_keeps) (mj := mi_X13_fraction) (pc := 242) dX13_keeps_242 ml_X13_462 ok_X13_fraction ov_X13_fraction ⟨Nat.le_of_ble_eq_true rfl, Nat.le_of_ble_eq_true rfl⟩ rfl (h0.lt 57 (by decide)) (h0.ty 57 rfl) rfl (s_X13_fraction g e82.2 e82.1 e39 pq2 h0) rfl (Nat.le_of_ble_eq_true rfl)) (fun q242 => ?_)
        exact J_eqo (hk (q242.1, q242.2)) (J_lret (pc := 245) dX13_keeps_245 rfl)
  · refine J_aload_n (pc := 22) 1 dX13_keeps_22 rfl rfl ?_
    refine J_iload (pc := 23) 0 dX13_keeps_23 rfl ?_
    refine JC_lt_i (K := (fun x => Option.bind x k)) (J_callV (mi := mi_X13_keeps) (mj := mi_X13_refused) (pc := 25) dX13_keeps_25 ml_X13_48 ok_X13_refused ov_X13_refused ⟨Nat.le_of_ble_eq_true rfl, Nat.le_of_ble_eq_true rfl⟩ rfl (h0.lt 57 (by decide)) (h0.ty 57 rfl) rfl (s_X13_refused g (j_sI d 57 0 0) v4_15 h0) rfl (Nat.le_of_ble_eq_true rfl)) (fun q25 eq25 => ?_)
    refine J_i2l (pc := 28) dX13_keeps_28 ?_
    exact J_eqo (hk (q25.1.toInt64, q25.2)) (J_lret (pc := 29) dX13_keeps_29 rfl)
def f_X13_aYear_j90_4 (t : Nat) (d90_4 : JD) (x1_90_4 : Int32) (x2_90_4 : Int32) : Option ((Int32 × Int32 × JD) ⊕ (Int32 × JD)) := (some (.inl (x1_90_4, x2_90_4 + 1, d90_4)))
def f_X13_aYear_w4 (t : Nat) (s4 : Int32 × Int32 × JD) : Option ((Int32 × Int32 × JD) ⊕ (Int32 × JD)) := (if ((s4.2.2.1 t) 4) ≤ s4.2.1 then some (.inr (s4.1, s4.2.2)) else (if j_out s4.2.1 6 then none else if ((s4.2.2.1 (t + 3)) s4.2.1.toNatClampNeg) = 2 then f_X13_aYear_j90_4 t s4.2.2 s4.1 s4.2.1 else (if j_out s4.2.1 6 then none else if ((s4.2.2.1 60) s4.2.1.toNatClampNeg) = 0 then (f_X13_aYear_j90_4 t s4.2.2 s4.1 s4.2.1) else ((f_X13_falls ((j_sI s4.2.2 57 29 (((((75 : Int64) * (((s4.2.2.1 57) 29).toInt64)) + 74) - (((75 : Int64) * (((s4.2.2.1 57) 29).toInt64)) + 74) / 65537 * 65537).toInt32)).1 t) ((j_sI s4.2.2 57 29 (((((75 : Int64) * (((s4.2.2.1 57) 29).toInt64)) + 74) - (((75 : Int64) * (((s4.2.2.1 57) 29).toInt64)) + 74) / 65537 * 65537).toInt32)).1 (t + 3)) s4.2.1).bind (fun q71_4 => if ((((((75 : Int64) * (((s4.2.2.1 57) 29).toInt64)) + 74) - (((75 : Int64) * (((s4.2.2.1 57) 29).toInt64)) + 74) / 65537 * 65537).toInt32) - (((((75 : Int64) * (((s4.2.2.1 57) 29).toInt64)) + 74) - (((75 : Int64) * (((s4.2.2.1 57) 29).toInt64)) + 74) / 65537 * 65537).toInt32) / 100 * 100) < q71_4 then (if j_out s4.2.1 6 then none else f_X13_aYear_j90_4 t (j_sI (j_sI s4.2.2 57 29 (((((75 : Int64) * (((s4.2.2.1 57) 29).toInt64)) + 74) - (((75 : Int64) * (((s4.2.2.1 57) 29).toInt64)) + 74) / 65537 * 65537).toInt32)) 60 s4.2.1.toNatClampNeg 0) (s4.1 + 1) s4.2.1) else (f_X13_aYear_j90_4 t (j_sI s4.2.2 57 29 (((((75 : Int64) * (((s4.2.2.1 57) 29).toInt64)) + 74) - (((75 : Int64) * (((s4.2.2.1 57) 29).toInt64)) + 74) / 65537 * 65537).toInt32)) s4.1 s4.2.1))))))
def f_X13_aYear (t : Nat) (d : JD) : Option (Int32 × JD) := ((j_wh (f_X13_aYear_w4 t ) j_fuel (0, 0, d)).bind (fun (e4 : Int32 × JD) => (some (e4.1, e4.2))))
set_option maxRecDepth 100000 in
set_option maxHeartbeats 4000000 in
theorem s_X13_aYear (g : JG) (d : JD) (t : Nat) (h0 : j_sh g 0 TS_W RS_W) (ht : j_sh g t TS_ML RS_ML) (hla : g.2.2.1 57 3 = some t) : JM mi_X13_aYear 0 0 (g, d) [.ref 57] ((f_X13_aYear t d ).bind (fun r9 => some (some (.int r9.1), (g, r9.2)))) := by
  refine JM_of (by decide) rfl (Nat.le_of_ble_eq_true rfl) ?_
  refine J_loc (loc' := [(0, .ref 57)]) [0] rfl ?_
  obtain ⟨k, hk, hk2⟩ : ∃ k : Int32 × JD → Option (Option Value × JH), (∀ r9, k r9 = some (some (.int r9.1), (g, r9.2))) ∧ (fun r9 : Int32 × JD => (some (some (.int r9.1), (g, r9.2)) : Option (Option Value × JH))) = k := ⟨_, fun _ => rfl, rfl⟩
  rw [hk2]
  unfold f_X13_aYear
  refine J_iconst (pc := 0) (v := 0) dX13_aYear_0 (by decide) ?_
  refine J_istore_n (pc := 1) (loc' := [(1, .int 0), (0, .ref 57)]) dX13_aYear_1 rfl (by decide) rfl ?_
  refine J_iconst (pc := 2) (v := 0) dX13_aYear_2 (by decide) ?_
  refine J_istore_n (pc := 3) (loc' := [(2, .int 0), (1, .int 0), (0, .ref 57)]) dX13_aYear_3 rfl (by decide) rfl ?_
  refine J_loc (loc' := [(0, .ref 57), (1, .int 0), (2, .int 0)]) [2, 1, 0] rfl ?_
  refine J_whL (F := f_X13_aYear_w4 t ) (hp := fun (s4 : Int32 × Int32 × JD) => (g, s4.2.2)) (lc := fun (s4 : Int32 × Int32 × JD) => [(0, .ref 57), (1, .int s4.1), (2, .int s4.2.1)]) (XJ := fun (e4 : Int32 × JD) o9 => J mi_X13_aYear 0 0 0 0 (g, e4.2) 96 [(1, .int e4.1)] [] o9) (fun s4 k4 hB4 hX4 => ?_) (fun e4 => ?_) _ (0, 0, d)
  · show J mi_X13_aYear 0 0 0 0 (g, s4.2.2) 4 [(0, .ref 57), (1, .int s4.1), (2, .int s4.2.1)] [] ((f_X13_aYear_w4 t s4).bind k4)
    unfold f_X13_aYear_w4
    have hX13_aYear_j90_4 : ∀ (d90_4 : JD) (x1_90_4 : Int32) (x2_90_4 : Int32), J mi_X13_aYear 0 0 0 0 (g, d90_4) 90 [(0, .ref 57), (1, .int x1_90_4), (2, .int x2_90_4)] [] ((f_X13_aYear_j90_4 t d90_4 x1_90_4 x2_90_4).bind k4) := by
      intro d90_4 x1_90_4 x2_90_4
      unfold f_X13_aYear_j90_4
      refine J_iinc (pc := 90) (v := x2_90_4 + 1) (loc' := [(2, .int (x2_90_4 + 1)), (0, .ref 57), (1, .int x1_90_4)]) 2 dX13_aYear_90 rfl rfl (by decide) rfl ?_
      refine J_goto (pc := 93) (tgt := 4) dX13_aYear_93 (by decide) ?_
      refine J_loc (loc' := [(0, .ref 57), (1, .int x1_90_4), (2, .int (x2_90_4 + 1))]) [1, 2, 0] rfl ?_
      exact hB4 (x1_90_4, x2_90_4 + 1, d90_4)
    refine J_iload_n (pc := 4) 2 dX13_aYear_4 rfl rfl ?_
    refine J_aload_n (pc := 5) 0 dX13_aYear_5 rfl rfl ?_
    refine J_getR (pc := 6) dX13_aYear_6 fl_X13_321 (h0.lt 57 (by decide)) (h0.ty 57 rfl) rfl hla ?_
    refine J_getI (pc := 9) dX13_aYear_9 fl_X13_191 (ht.lt 0 (by decide)) (ht.ty 0 rfl) rfl ?_
    refine K_icmp_ge (K := (fun x => Option.bind x k4)) (pc := 12) (tgt := 96) dX13_aYear_12 (by decide) (fun z12 => ?_) (fun z12 => ?_)
    · refine J_loc (loc' := [(1, .int s4.1)]) [1] rfl ?_
      exact hX4 (s4.1, s4.2.2)
    · refine J_aload_n (pc := 15) 0 dX13_aYear_15 rfl rfl ?_
      refine J_getR (pc := 16) dX13_aYear_16 fl_X13_321 (h0.lt 57 (by decide)) (h0.ty 57 rfl) rfl hla ?_
      refine J_getR (pc := 19) dX13_aYear_19 fl_X13_275 (ht.lt 0 (by decide)) (ht.ty 0 rfl) rfl (ht.rf 2 rfl) ?_
      refine J_iload_n (pc := 22) 2 dX13_aYear_22 rfl rfl ?_
      refine J_guard (fun z23 => ?_)
      refine J_iald (pc := 23) dX13_aYear_23 (ht.lt 3 (by decide)) (ht.ty 3 rfl) z23 ?_
      refine J_iconst (pc := 24) (v := 2) dX13_aYear_24 (by decide) ?_
      refine K_icmp_eq (K := (fun x => Option.bind x k4)) (pc := 25) (tgt := 90) dX13_aYear_25 (by decide) (fun z25 => ?_) (fun z25 => ?_)
      · exact hX13_aYear_j90_4 s4.2.2 s4.1 s4.2.1
      · refine J_aload_n (pc := 28) 0 dX13_aYear_28 rfl rfl ?_
        refine J_getR (pc := 29) dX13_aYear_29 fl_X13_21 (h0.lt 57 (by decide)) (h0.ty 57 rfl) rfl (h0.rf 57 rfl) ?_
        refine J_iload_n (pc := 32) 2 dX13_aYear_32 rfl rfl ?_
        refine J_guard (fun z33 => ?_)
        refine J_iald (pc := 33) dX13_aYear_33 (h0.lt 60 (by decide)) (h0.ty 60 rfl) z33 ?_
        refine K_if_ne (K := (fun x => Option.bind x k4)) (pc := 34) (tgt := 40) dX13_aYear_34 (by decide) (fun z34 => ?_) (fun z34 => ?_)
        · refine J_aload_n (pc := 40) 0 dX13_aYear_40 rfl rfl ?_
          refine J_ldc2 (pc := 41) (v := 75) dX13_aYear_41 cn_X13_492 ?_
          refine J_aload_n (pc := 44) 0 dX13_aYear_44 rfl rfl ?_
          refine J_getI (pc := 45) dX13_aYear_45 fl_X13_494 (h0.lt 57 (by decide)) (h0.ty 57 rfl) rfl ?_
          refine J_i2l (pc := 48) dX13_aYear_48 ?_
          refine J_lmul (pc := 49) dX13_aYear_49 ?_
          refine J_ldc2 (pc := 50) (v := 74) dX13_aYear_50 cn_X13_497 ?_
          refine J_ladd (pc := 53) dX13_aYear_53 ?_
          refine J_ldc2 (pc := 54) (v := 65537) dX13_aYear_54 cn_X13_499 ?_
          refine J_lrem (pc := 57) dX13_aYear_57 (by decide) ?_
          refine J_l2i (pc := 58) dX13_aYear_58 ?_
          refine J_putI (pc := 59) dX13_aYear_59 fl_X13_494 ft_12_29 (h0.lt 57 (by decide)) (h0.ty 57 rfl) rfl rfl rfl ?_
          refine J_aload_n (pc := 62) 0 dX13_aYear_62 rfl rfl ?_
          refine J_getI (pc := 63) dX13_aYear_63 fl_X13_494 (h0.lt 57 (by decide)) (h0.ty 57 rfl) rfl ?_
          refine J_val (y := ((((75 : Int64) * (((s4.2.2.1 57) 29).toInt64)) + 74) - (((75 : Int64) * (((s4.2.2.1 57) 29).toInt64)) + 74) / 65537 * 65537).toInt32) rfl ?_
          refine J_bipush (pc := 66) (v := 100) dX13_aYear_66 (by decide) ?_
          refine J_irem (pc := 68) dX13_aYear_68 (by decide) ?_
          refine J_aload_n (pc := 69) 0 dX13_aYear_69 rfl rfl ?_
          refine J_iload_n (pc := 70) 2 dX13_aYear_70 rfl rfl ?_
          refine JC_pp_i (J_callV (mi := mi_X13_aYear) (mj := mi_X13_falls) (pc := 71) dX13_aYear_71 ml_X13_487 ok_X13_falls ov_X13_falls ⟨Nat.le_of_ble_eq_true rfl, Nat.le_of_ble_eq_true rfl⟩ rfl (h0.lt 57 (by decide)) (h0.ty 57 rfl) rfl (s_X13_falls g (j_sI s4.2.2 57 29 (((((75 : Int64) * (((s4.2.2.1 57) 29).toInt64)) + 74) - (((75 : Int64) * (((s4.2.2.1 57) 29).toInt64)) + 74) / 65537 * 65537).toInt32)) t s4.2.1 h0 ht hla) rfl (Nat.le_of_ble_eq_true rfl)) (fun q71_4 => ?_)
          refine K_icmp_lt (K := (fun x => Option.bind x k4)) (pc := 74) (tgt := 80) dX13_aYear_74 (by decide) (fun z74 => ?_) (fun z74 => ?_)
          · refine J_aload_n (pc := 80) 0 dX13_aYear_80 rfl rfl ?_
            refine J_getR (pc := 81) dX13_aYear_81 fl_X13_21 (h0.lt 57 (by decide)) (h0.ty 57 rfl) rfl (h0.rf 57 rfl) ?_
            refine J_iload_n (pc := 84) 2 dX13_aYear_84 rfl rfl ?_
            refine J_iconst (pc := 85) (v := 0) dX13_aYear_85 (by decide) ?_
            refine J_guard (fun z86 => ?_)
            refine J_iast (pc := 86) dX13_aYear_86 (h0.lt 60 (by decide)) (h0.ty 60 rfl) z86 ?_
            refine J_iinc (pc := 87) (v := s4.1 + 1) (loc' := [(1, .int (s4.1 + 1)), (0, .ref 57), (2, .int s4.2.1)]) 1 dX13_aYear_87 rfl rfl (by decide) rfl ?_
            refine J_loc (loc' := [(0, .ref 57), (1, .int (s4.1 + 1)), (2, .int s4.2.1)]) [1, 0, 2] rfl ?_
            exact hX13_aYear_j90_4 (j_sI (j_sI s4.2.2 57 29 (((((75 : Int64) * (((s4.2.2.1 57) 29).toInt64)) + 74) - (((75 : Int64) * (((s4.2.2.1 57) 29).toInt64)) + 74) / 65537 * 65537).toInt32)) 60 s4.2.1.toNatClampNeg 0) (s4.1 + 1) s4.2.1
          · refine J_goto (pc := 77) (tgt := 90) dX13_aYear_77 (by decide) ?_
            exact hX13_aYear_j90_4 (j_sI s4.2.2 57 29 (((((75 : Int64) * (((s4.2.2.1 57) 29).toInt64)) + 74) - (((75 : Int64) * (((s4.2.2.1 57) 29).toInt64)) + 74) / 65537 * 65537).toInt32)) s4.1 s4.2.1
        · refine J_goto (pc := 37) (tgt := 90) dX13_aYear_37 (by decide) ?_
          exact hX13_aYear_j90_4 s4.2.2 s4.1 s4.2.1
  · show J mi_X13_aYear 0 0 0 0 (g, e4.2) 96 [(1, .int e4.1)] [] (_)
    refine J_iload_n (pc := 96) 0 dX13_aYear_96 rfl rfl ?_
    exact J_eqo (hk (e4.1, e4.2)) (J_iret (pc := 97) dX13_aYear_97 rfl)
def f_X13_refusesSeed (pq0 : Int32) (pq1 : Int32) (pq2 : Int32) : Int32 := (if pq0 = 0 then (1) else (if (f_X13_in pq1 0 65536) = true then (if (f_X13_in pq2 0 60) = true then (0) else (2)) else (2)))
set_option maxRecDepth 100000 in
set_option maxHeartbeats 4000000 in
theorem s_X13_refusesSeed (g : JG) (d : JD) (pq0 : Int32) (pq1 : Int32) (pq2 : Int32) (h0 : j_sh g 0 TS_W RS_W) : JM mi_X13_refusesSeed 0 0 (g, d) [.ref 57, .int pq0, .int pq1, .int pq2] (some (some (.int (f_X13_refusesSeed pq0 pq1 pq2)), (g, d))) := by
  refine JM_of (by decide) rfl (Nat.le_of_ble_eq_true rfl) ?_
  refine J_loc (loc' := [(0, .ref 57), (1, .int pq0), (2, .int pq1), (3, .int pq2)]) [0, 1, 2, 3] rfl ?_
  obtain ⟨k, hk⟩ : ∃ k : Int32 → Option (Option Value × JH), ∀ r9, k r9 = some (some (.int r9), (g, d)) := ⟨_, fun _ => rfl⟩
  refine J_eqo (hk (f_X13_refusesSeed pq0 pq1 pq2)).symm ?_
  unfold f_X13_refusesSeed
  refine J_iload_n (pc := 0) 1 dX13_refusesSeed_0 rfl rfl ?_
  refine K_if_ne (K := k) (pc := 1) (tgt := 8) dX13_refusesSeed_1 (by decide) (fun z1 => ?_) (fun z1 => ?_)
  · refine J_iload_n (pc := 8) 2 dX13_refusesSeed_8 rfl rfl ?_
    refine J_iconst (pc := 9) (v := 0) dX13_refusesSeed_9 (by decide) ?_
    refine J_ldcw (pc := 10) (v := 65536) dX13_refusesSeed_10 cn_X13_501 ?_
    refine JC_pt_i (J_callS (mi := mi_X13_refusesSeed) (mj := mi_X13_in) (pc := 13) dX13_refusesSeed_13 ml_X13_121 ok_X13_in os_X13_in ⟨Nat.le_of_ble_eq_true rfl, Nat.le_of_ble_eq_true rfl⟩ rfl (s_X13_in g d pq1 0 65536) rfl (Nat.le_of_ble_eq_true rfl)) ?_
    refine K_ifeq_b (K := k) (pc := 16) (tgt := 33) dX13_refusesSeed_16 (by decide) (fun z16 => ?_) (fun z16 => ?_)
    · refine J_iconst (pc := 33) (v := 2) dX13_refusesSeed_33 (by decide) ?_
      exact J_eqo (hk 2) (J_iret (pc := 34) dX13_refusesSeed_34 rfl)
    · refine J_iload_n (pc := 19) 3 dX13_refusesSeed_19 rfl rfl ?_
      refine J_iconst (pc := 20) (v := 0) dX13_refusesSeed_20 (by decide) ?_
      refine J_bipush (pc := 21) (v := 60) dX13_refusesSeed_21 (by decide) ?_
      refine JC_pt_i (J_callS (mi := mi_X13_refusesSeed) (mj := mi_X13_in) (pc := 23) dX13_refusesSeed_23 ml_X13_121 ok_X13_in os_X13_in ⟨Nat.le_of_ble_eq_true rfl, Nat.le_of_ble_eq_true rfl⟩ rfl (s_X13_in g d pq2 0 60) rfl (Nat.le_of_ble_eq_true rfl)) ?_
      refine K_ifeq_b (K := k) (pc := 26) (tgt := 33) dX13_refusesSeed_26 (by decide) (fun z26 => ?_) (fun z26 => ?_)
      · refine J_iconst (pc := 33) (v := 2) dX13_refusesSeed_33 (by decide) ?_
        exact J_eqo (hk 2) (J_iret (pc := 34) dX13_refusesSeed_34 rfl)
      · refine J_iconst (pc := 29) (v := 0) dX13_refusesSeed_29 (by decide) ?_
        refine J_goto (pc := 30) (tgt := 34) dX13_refusesSeed_30 (by decide) ?_
        exact J_eqo (hk 0) (J_iret (pc := 34) dX13_refusesSeed_34 rfl)
  · refine J_iconst (pc := 4) (v := 1) dX13_refusesSeed_4 (by decide) ?_
    refine J_goto (pc := 5) (tgt := 34) dX13_refusesSeed_5 (by decide) ?_
    exact J_eqo (hk 1) (J_iret (pc := 34) dX13_refusesSeed_34 rfl)
def f_X13_century_w42 (t : Nat) (c1_42 : Int32) (c3_42 : Int32) (s42 : Int32 × JD) : Option ((Int32 × JD) ⊕ (JD)) := (if (c3_42) ≤ s42.1 then some (.inr s42.2) else ((f_X13_aYear t s42.2).bind (fun q49_42 => some (.inl (s42.1 + 1, q49_42.2)))))
def f_X13_century (t : Nat) (d : JD) (pq0 : Int32) (pq1 : Int32) (pq2 : Int32) : Option (Int32 × JD) := (j_let (f_X13_refusesSeed (j_b (f_X13_isPerson ((j_sI d 57 0 0).1 t) pq0)) pq1 pq2) (fun v4_16 => if v4_16 ≤ 0 then ((f_X13_works (j_sI d 57 0 0)).bind (fun q31 => (j_wh (f_X13_century_w42 t pq0 pq2 ) j_fuel (0, j_sI q31 57 29 pq1)).bind (fun (e42 : JD) => ((f_X13_has (e42.1 60) (e42.1 t) (e42.1 (t + 1)) (e42.1 (t + 2)) (e42.1 (t + 3)) (e42.1 (t + 4)) (e42.1 (t + 5)) pq0).bind (fun q62 => j_let (f_X13_good e42 q62) (fun q65 => some (q65.1, q65.2))))))) else (j_let (f_X13_refused (j_sI d 57 0 0) v4_16) (fun q26 => some (q26.1, q26.2)))))
set_option maxRecDepth 100000 in
set_option maxHeartbeats 4000000 in
theorem s_X13_century (g : JG) (d : JD) (t : Nat) (pq0 : Int32) (pq1 : Int32) (pq2 : Int32) (h0 : j_sh g 0 TS_W RS_W) (ht : j_sh g t TS_ML RS_ML) (hla : g.2.2.1 57 3 = some t) : JM mi_X13_century 0 0 (g, d) [.ref 57, .int pq0, .int pq1, .int pq2] ((f_X13_century t d pq0 pq1 pq2).bind (fun r9 => some (some (.int r9.1), (g, r9.2)))) := by
  refine JM_of (by decide) rfl (Nat.le_of_ble_eq_true rfl) ?_
  refine J_loc (loc' := [(0, .ref 57), (1, .int pq0), (2, .int pq1), (3, .int pq2)]) [0, 1, 2, 3] rfl ?_
  obtain ⟨k, hk, hk2⟩ : ∃ k : Int32 × JD → Option (Option Value × JH), (∀ r9, k r9 = some (some (.int r9.1), (g, r9.2))) ∧ (fun r9 : Int32 × JD => (some (some (.int r9.1), (g, r9.2)) : Option (Option Value × JH))) = k := ⟨_, fun _ => rfl, rfl⟩
  rw [hk2]
  unfold f_X13_century
  refine J_aload_n (pc := 0) 0 dX13_century_0 rfl rfl ?_
  refine J_iconst (pc := 1) (v := 0) dX13_century_1 (by decide) ?_
  refine J_putI (pc := 2) dX13_century_2 fl_X13_42 ft_12_0 (h0.lt 57 (by decide)) (h0.ty 57 rfl) rfl rfl rfl ?_
  refine J_aload_n (pc := 5) 0 dX13_century_5 rfl rfl ?_
  refine J_aload_n (pc := 6) 0 dX13_century_6 rfl rfl ?_
  refine J_iload_n (pc := 7) 1 dX13_century_7 rfl rfl ?_
  refine JC_pt_i (J_callV (mi := mi_X13_century) (mj := mi_X13_isPerson) (pc := 8) dX13_century_8 ml_X13_351 ok_X13_isPerson ov_X13_isPerson ⟨Nat.le_of_ble_eq_true rfl, Nat.le_of_ble_eq_true rfl⟩ rfl (h0.lt 57 (by decide)) (h0.ty 57 rfl) rfl (s_X13_isPerson g (j_sI d 57 0 0) t pq0 h0 ht hla) rfl (Nat.le_of_ble_eq_true rfl)) ?_
  refine J_iload_n (pc := 11) 2 dX13_century_11 rfl rfl ?_
  refine J_iload_n (pc := 12) 3 dX13_century_12 rfl rfl ?_
  refine JC_pt_i (J_callV (mi := mi_X13_century) (mj := mi_X13_refusesSeed) (pc := 13) dX13_century_13 ml_X13_502 ok_X13_refusesSeed ov_X13_refusesSeed ⟨Nat.le_of_ble_eq_true rfl, Nat.le_of_ble_eq_true rfl⟩ rfl (h0.lt 57 (by decide)) (h0.ty 57 rfl) rfl (s_X13_refusesSeed g (j_sI d 57 0 0) (j_b (f_X13_isPerson ((j_sI d 57 0 0).1 t) pq0)) pq1 pq2 h0) rfl (Nat.le_of_ble_eq_true rfl)) ?_
  refine J_let (K := (fun x => Option.bind x k)) (fun v4_16 ev4_16 => ?_)
  refine J_val ev4_16.symm ?_
  refine J_istore (pc := 16) (loc' := [(4, .int v4_16), (0, .ref 57), (1, .int pq0), (2, .int pq1), (3, .int pq2)]) dX13_century_16 (by decide) rfl ?_
  refine J_iload (pc := 18) 0 dX13_century_18 rfl ?_
  refine K_if_le (K := (fun x => Option.bind x k)) (pc := 20) (tgt := 30) dX13_century_20 (by decide) (fun z20 => ?_) (fun z20 => ?_)
  · refine J_aload_n (pc := 30) 1 dX13_century_30 rfl rfl ?_
    refine JC_pe_v (J_callV (mi := mi_X13_century) (mj := mi_X13_works) (pc := 31) dX13_century_31 ml_X13_348 ok_X13_works ov_X13_works ⟨Nat.le_of_ble_eq_true rfl, Nat.le_of_ble_eq_true rfl⟩ rfl (h0.lt 57 (by decide)) (h0.ty 57 rfl) rfl (s_X13_works g (j_sI d 57 0 0) h0) rfl (Nat.le_of_ble_eq_true rfl)) (fun q31 => ?_)
    refine J_aload_n (pc := 34) 1 dX13_century_34 rfl rfl ?_
    refine J_iload_n (pc := 35) 3 dX13_century_35 rfl rfl ?_
    refine J_putI (pc := 36) dX13_century_36 fl_X13_494 ft_12_29 (h0.lt 57 (by decide)) (h0.ty 57 rfl) rfl rfl rfl ?_
    refine J_iconst (pc := 39) (v := 0) dX13_century_39 (by decide) ?_
    refine J_istore (pc := 40) (loc' := [(5, .int 0), (4, .int v4_16), (0, .ref 57), (1, .int pq0), (2, .int pq1), (3, .int pq2)]) dX13_century_40 (by decide) rfl ?_
    refine J_loc (loc' := [(0, .ref 57), (1, .int pq0), (3, .int pq2), (5, .int 0)]) [2, 3, 5, 0] rfl ?_
    refine J_whL (F := f_X13_century_w42 t pq0 pq2 ) (hp := fun (s42 : Int32 × JD) => (g, s42.2)) (lc := fun (s42 : Int32 × JD) => [(0, .ref 57), (1, .int (pq0)), (3, .int (pq2)), (5, .int s42.1)]) (XJ := fun (e42 : JD) o9 => J mi_X13_century 0 0 0 0 (g, e42) 59 [(0, .ref 57), (1, .int pq0)] [] o9) (fun s42 k42 hB42 hX42 => ?_) (fun e42 => ?_) _ (0, j_sI q31 57 29 pq1)
    · show J mi_X13_century 0 0 0 0 (g, s42.2) 42 [(0, .ref 57), (1, .int (pq0)), (3, .int (pq2)), (5, .int s42.1)] [] ((f_X13_century_w42 t pq0 pq2 s42).bind k42)
      unfold f_X13_century_w42
      refine J_iload (pc := 42) 3 dX13_century_42 rfl ?_
      refine J_iload_n (pc := 44) 2 dX13_century_44 rfl rfl ?_
      refine K_icmp_ge (K := (fun x => Option.bind x k42)) (pc := 45) (tgt := 59) dX13_century_45 (by decide) (fun z45 => ?_) (fun z45 => ?_)
      · refine J_loc (loc' := [(0, .ref 57), (1, .int (pq0))]) [0, 1] rfl ?_
        exact hX42 s42.2
      · refine J_aload_n (pc := 48) 0 dX13_century_48 rfl rfl ?_
        refine JC_pe_i (J_callV (mi := mi_X13_century) (mj := mi_X13_aYear) (pc := 49) dX13_century_49 ml_X13_506 ok_X13_aYear ov_X13_aYear ⟨Nat.le_of_ble_eq_true rfl, Nat.le_of_ble_eq_true rfl⟩ rfl (h0.lt 57 (by decide)) (h0.ty 57 rfl) rfl (s_X13_aYear g s42.2 t h0 ht hla) rfl (Nat.le_of_ble_eq_true rfl)) (fun q49_42 => ?_)
        refine J_pop (pc := 52) dX13_century_52 rfl ?_
        refine J_iinc (pc := 53) (v := s42.1 + 1) (loc' := [(5, .int (s42.1 + 1)), (0, .ref 57), (1, .int (pq0)), (3, .int (pq2))]) 3 dX13_century_53 rfl rfl (by decide) rfl ?_
        refine J_goto (pc := 56) (tgt := 42) dX13_century_56 (by decide) ?_
        refine J_loc (loc' := [(0, .ref 57), (1, .int (pq0)), (3, .int (pq2)), (5, .int (s42.1 + 1))]) [1, 2, 3, 0] rfl ?_
        exact hB42 (s42.1 + 1, q49_42.2)
    · show J mi_X13_century 0 0 0 0 (g, e42) 59 [(0, .ref 57), (1, .int pq0)] [] (_)
      refine J_aload_n (pc := 59) 0 dX13_century_59 rfl rfl ?_
      refine J_aload_n (pc := 60) 0 dX13_century_60 rfl rfl ?_
      refine J_iload_n (pc := 61) 1 dX13_century_61 rfl rfl ?_
      refine JC_pp_i (J_callV (mi := mi_X13_century) (mj := mi_X13_has) (pc := 62) dX13_century_62 ml_X13_354 ok_X13_has ov_X13_has ⟨Nat.le_of_ble_eq_true rfl, Nat.le_of_ble_eq_true rfl⟩ rfl (h0.lt 57 (by decide)) (h0.ty 57 rfl) rfl (s_X13_has g e42 t pq0 h0 ht hla) rfl (Nat.le_of_ble_eq_true rfl)) (fun q62 => ?_)
      refine JC_lt_i (K := (fun x => Option.bind x k)) (J_callV (mi := mi_X13_century) (mj := mi_X13_good) (pc := 65) dX13_century_65 ml_X13_52 ok_X13_good ov_X13_good ⟨Nat.le_of_ble_eq_true rfl, Nat.le_of_ble_eq_true rfl⟩ rfl (h0.lt 57 (by decide)) (h0.ty 57 rfl) rfl (s_X13_good g e42 q62 h0) rfl (Nat.le_of_ble_eq_true rfl)) (fun q65 eq65 => ?_)
      exact J_eqo (hk (q65.1, q65.2)) (J_iret (pc := 68) dX13_century_68 rfl)
  · refine J_aload_n (pc := 23) 1 dX13_century_23 rfl rfl ?_
    refine J_iload (pc := 24) 0 dX13_century_24 rfl ?_
    refine JC_lt_i (K := (fun x => Option.bind x k)) (J_callV (mi := mi_X13_century) (mj := mi_X13_refused) (pc := 26) dX13_century_26 ml_X13_48 ok_X13_refused ov_X13_refused ⟨Nat.le_of_ble_eq_true rfl, Nat.le_of_ble_eq_true rfl⟩ rfl (h0.lt 57 (by decide)) (h0.ty 57 rfl) rfl (s_X13_refused g (j_sI d 57 0 0) v4_16 h0) rfl (Nat.le_of_ble_eq_true rfl)) (fun q26 eq26 => ?_)
    exact J_eqo (hk (q26.1, q26.2)) (J_iret (pc := 29) dX13_century_29 rfl)
def f_X13_isBare_j37_2 (r_60 : Nat → Int32) (r_t0 : Nat → Int32) (r_t3 : Nat → Int32) (x1_37_2 : Int32) : Option ((Int32) ⊕ (Bool ⊕ (Unit))) := (some (.inl (x1_37_2 + 1)))
def f_X13_isBare_w2 (r_60 : Nat → Int32) (r_t0 : Nat → Int32) (r_t3 : Nat → Int32) (s2 : Int32) : Option ((Int32) ⊕ (Bool ⊕ (Unit))) := (if (r_t0 4) ≤ s2 then some (.inr (.inr ())) else (if j_out s2 6 then none else if (r_t3 s2.toNatClampNeg) = 2 then f_X13_isBare_j37_2 r_60 r_t0 r_t3 s2 else (if j_out s2 6 then none else if (r_60 s2.toNatClampNeg) ≤ 0 then f_X13_isBare_j37_2 r_60 r_t0 r_t3 s2 else (some (Sum.inr (Sum.inl false))))))
def f_X13_isBare (r_60 : Nat → Int32) (r_t0 : Nat → Int32) (r_t3 : Nat → Int32) : Option (Bool) := ((j_wh (f_X13_isBare_w2 r_60 r_t0 r_t3 ) j_fuel 0).bind (Sum.elim (fun r9 => some r9) (fun (e2 : Unit) => (some true))))
set_option maxRecDepth 100000 in
set_option maxHeartbeats 4000000 in
theorem s_X13_isBare (g : JG) (d : JD) (t : Nat) (h0 : j_sh g 0 TS_W RS_W) (ht : j_sh g t TS_ML RS_ML) (hla : g.2.2.1 57 3 = some t) : JM mi_X13_isBare 0 0 (g, d) [.ref 57] ((f_X13_isBare (d.1 60) (d.1 t) (d.1 (t + 3)) ).bind (fun r9 => some (some (.int (j_b r9)), (g, d)))) := by
  refine JM_of (by decide) rfl (Nat.le_of_ble_eq_true rfl) ?_
  refine J_loc (loc' := [(0, .ref 57)]) [0] rfl ?_
  obtain ⟨k, hk, hk2⟩ : ∃ k : Bool → Option (Option Value × JH), (∀ r9, k r9 = some (some (.int (j_b r9)), (g, d))) ∧ (fun r9 : Bool => (some (some (.int (j_b r9)), (g, d)) : Option (Option Value × JH))) = k := ⟨_, fun _ => rfl, rfl⟩
  rw [hk2]
  unfold f_X13_isBare
  refine J_iconst (pc := 0) (v := 0) dX13_isBare_0 (by decide) ?_
  refine J_istore_n (pc := 1) (loc' := [(1, .int 0), (0, .ref 57)]) dX13_isBare_1 rfl (by decide) rfl ?_
  refine J_loc (loc' := [(0, .ref 57), (1, .int 0)]) [1, 0] rfl ?_
  refine J_whR (F := f_X13_isBare_w2 (d.1 60) (d.1 t) (d.1 (t + 3)) ) (fr := fun r9 => some r9) (k := k) (hp := fun (s2 : Int32) => (g, d)) (lc := fun (s2 : Int32) => [(0, .ref 57), (1, .int s2)]) (XJ := fun (e2 : Unit) o9 => J mi_X13_isBare 0 0 0 0 (g, d) 43 [] [] o9) (RJ := fun r9 o9 => o9 = some (some (.int (j_b r9)), (g, d))) (fun s2 k2 hB2 hR2 hX2 => ?_) (fun e2 => ?_) (fun r9 => hk r9) _ 0
  · show J mi_X13_isBare 0 0 0 0 (g, d) 2 [(0, .ref 57), (1, .int s2)] [] ((f_X13_isBare_w2 (d.1 60) (d.1 t) (d.1 (t + 3)) s2).bind k2)
    unfold f_X13_isBare_w2
    have hX13_isBare_j37_2 : ∀ (x1_37_2 : Int32), J mi_X13_isBare 0 0 0 0 (g, d) 37 [(0, .ref 57), (1, .int x1_37_2)] [] ((f_X13_isBare_j37_2 (d.1 60) (d.1 t) (d.1 (t + 3)) x1_37_2).bind k2) := by
      intro x1_37_2
      unfold f_X13_isBare_j37_2
      refine J_iinc (pc := 37) (v := x1_37_2 + 1) (loc' := [(1, .int (x1_37_2 + 1)), (0, .ref 57)]) 1 dX13_isBare_37 rfl rfl (by decide) rfl ?_
      refine J_goto (pc := 40) (tgt := 2) dX13_isBare_40 (by decide) ?_
      refine J_loc (loc' := [(0, .ref 57), (1, .int (x1_37_2 + 1))]) [1, 0] rfl ?_
      exact hB2 (x1_37_2 + 1)
    refine J_iload_n (pc := 2) 1 dX13_isBare_2 rfl rfl ?_
    refine J_aload_n (pc := 3) 0 dX13_isBare_3 rfl rfl ?_
    refine J_getR (pc := 4) dX13_isBare_4 fl_X13_321 (h0.lt 57 (by decide)) (h0.ty 57 rfl) rfl hla ?_
    refine J_getI (pc := 7) dX13_isBare_7 fl_X13_191 (ht.lt 0 (by decide)) (ht.ty 0 rfl) rfl ?_
    refine K_icmp_ge (K := (fun x => Option.bind x k2)) (pc := 10) (tgt := 43) dX13_isBare_10 (by decide) (fun z10 => ?_) (fun z10 => ?_)
    · refine J_loc (loc' := []) [] rfl ?_
      exact hX2 ()
    · refine J_aload_n (pc := 13) 0 dX13_isBare_13 rfl rfl ?_
      refine J_getR (pc := 14) dX13_isBare_14 fl_X13_321 (h0.lt 57 (by decide)) (h0.ty 57 rfl) rfl hla ?_
      refine J_getR (pc := 17) dX13_isBare_17 fl_X13_275 (ht.lt 0 (by decide)) (ht.ty 0 rfl) rfl (ht.rf 2 rfl) ?_
      refine J_iload_n (pc := 20) 1 dX13_isBare_20 rfl rfl ?_
      refine J_guard (fun z21 => ?_)
      refine J_iald (pc := 21) dX13_isBare_21 (ht.lt 3 (by decide)) (ht.ty 3 rfl) z21 ?_
      refine J_iconst (pc := 22) (v := 2) dX13_isBare_22 (by decide) ?_
      refine K_icmp_eq (K := (fun x => Option.bind x k2)) (pc := 23) (tgt := 37) dX13_isBare_23 (by decide) (fun z23 => ?_) (fun z23 => ?_)
      · exact hX13_isBare_j37_2 s2
      · refine J_aload_n (pc := 26) 0 dX13_isBare_26 rfl rfl ?_
        refine J_getR (pc := 27) dX13_isBare_27 fl_X13_21 (h0.lt 57 (by decide)) (h0.ty 57 rfl) rfl (h0.rf 57 rfl) ?_
        refine J_iload_n (pc := 30) 1 dX13_isBare_30 rfl rfl ?_
        refine J_guard (fun z31 => ?_)
        refine J_iald (pc := 31) dX13_isBare_31 (h0.lt 60 (by decide)) (h0.ty 60 rfl) z31 ?_
        refine K_if_le (K := (fun x => Option.bind x k2)) (pc := 32) (tgt := 37) dX13_isBare_32 (by decide) (fun z32 => ?_) (fun z32 => ?_)
        · exact hX13_isBare_j37_2 s2
        · refine J_iconst (pc := 35) (v := 0) dX13_isBare_35 (by decide) ?_
          exact J_eqo (hR2 false) (J_zretB (pc := 36) dX13_isBare_36 rfl)
  · show J mi_X13_isBare 0 0 0 0 (g, d) 43 [] [] (_)
    refine J_iconst (pc := 43) (v := 1) dX13_isBare_43 (by decide) ?_
    exact J_eqo (hk true) (J_zretB (pc := 44) dX13_isBare_44 rfl)
def f_X13_bare_w46 (t : Nat) (c2_46 : Int32) (s46 : Int32 × JD) : Option ((Int32 × JD) ⊕ ((Int32 × JD) ⊕ (JD))) := (if (c2_46) < s46.1 then some (.inr (.inr s46.2)) else ((f_X13_isBare (s46.2.1 60) (s46.2.1 t) (s46.2.1 (t + 3))).bind (fun q53_46 => if q53_46 = true then (j_let (f_X13_good s46.2 s46.1) (fun q62_46 => some (Sum.inr (Sum.inl (q62_46.1, q62_46.2))))) else ((f_X13_aYear t s46.2).bind (fun q67_46 => some (.inl (s46.1 + 1, q67_46.2)))))))
def f_X13_bare_j18 (t : Nat) (d18 : JD) (x1_18 : Int32) (x2_18 : Int32) (y0_18 : Int32) : Option (Int32 × JD) := (j_let (f_X13_refusesSeed y0_18 x1_18 x2_18) (fun v3_23 => if v3_23 ≤ 0 then ((f_X13_works d18).bind (fun q35 => (j_wh (f_X13_bare_w46 t x2_18 ) j_fuel (0, j_sI q35 57 29 x1_18)).bind (Sum.elim (fun r9 => some r9) (fun (e46 : JD) => (j_let (f_X13_good e46 (-2)) (fun q80 => some (q80.1, q80.2))))))) else (j_let (f_X13_refused d18 v3_23) (fun q30 => some (q30.1, q30.2)))))
def f_X13_bare (t : Nat) (d : JD) (pq0 : Int32) (pq1 : Int32) : Option (Int32 × JD) := (f_X13_bare_j18 t (j_sI d 57 0 0) pq0 pq1 1)
set_option maxRecDepth 100000 in
set_option maxHeartbeats 4000000 in
theorem s_X13_bare (g : JG) (d : JD) (t : Nat) (pq0 : Int32) (pq1 : Int32) (h0 : j_sh g 0 TS_W RS_W) (ht : j_sh g t TS_ML RS_ML) (hla : g.2.2.1 57 3 = some t) : JM mi_X13_bare 0 0 (g, d) [.ref 57, .int pq0, .int pq1] ((f_X13_bare t d pq0 pq1).bind (fun r9 => some (some (.int r9.1), (g, r9.2)))) := by
  refine JM_of (by decide) rfl (Nat.le_of_ble_eq_true rfl) ?_
  refine J_loc (loc' := [(0, .ref 57), (1, .int pq0), (2, .int pq1)]) [0, 1, 2] rfl ?_
  obtain ⟨k, hk, hk2⟩ : ∃ k : Int32 × JD → Option (Option Value × JH), (∀ r9, k r9 = some (some (.int r9.1), (g, r9.2))) ∧ (fun r9 : Int32 × JD => (some (some (.int r9.1), (g, r9.2)) : Option (Option Value × JH))) = k := ⟨_, fun _ => rfl, rfl⟩
  rw [hk2]
  unfold f_X13_bare
  have hX13_bare_j18 : ∀ (d18 : JD) (x1_18 : Int32) (x2_18 : Int32) (y0_18 : Int32), J mi_X13_bare 0 0 0 0 (g, d18) 18 [(0, .ref 57), (1, .int x1_18), (2, .int x2_18)] [.int y0_18, .ref 57] ((f_X13_bare_j18 t d18 x1_18 x2_18 y0_18).bind k) := by
    intro d18 x1_18 x2_18 y0_18
    unfold f_X13_bare_j18
    refine J_iload_n (pc := 18) 1 dX13_bare_18 rfl rfl ?_
    refine J_iload_n (pc := 19) 2 dX13_bare_19 rfl rfl ?_
    refine JC_pt_i (J_callV (mi := mi_X13_bare) (mj := mi_X13_refusesSeed) (pc := 20) dX13_bare_20 ml_X13_502 ok_X13_refusesSeed ov_X13_refusesSeed ⟨Nat.le_of_ble_eq_true rfl, Nat.le_of_ble_eq_true rfl⟩ rfl (h0.lt 57 (by decide)) (h0.ty 57 rfl) rfl (s_X13_refusesSeed g d18 y0_18 x1_18 x2_18 h0) rfl (Nat.le_of_ble_eq_true rfl)) ?_
    refine J_let (K := (fun x => Option.bind x k)) (fun v3_23 ev3_23 => ?_)
    refine J_val ev3_23.symm ?_
    refine J_istore_n (pc := 23) (loc' := [(3, .int v3_23), (0, .ref 57), (1, .int x1_18), (2, .int x2_18)]) dX13_bare_23 rfl (by decide) rfl ?_
    refine J_iload_n (pc := 24) 0 dX13_bare_24 rfl rfl ?_
    refine K_if_le (K := (fun x => Option.bind x k)) (pc := 25) (tgt := 34) dX13_bare_25 (by decide) (fun z25 => ?_) (fun z25 => ?_)
    · refine J_aload_n (pc := 34) 1 dX13_bare_34 rfl rfl ?_
      refine JC_pe_v (J_callV (mi := mi_X13_bare) (mj := mi_X13_works) (pc := 35) dX13_bare_35 ml_X13_348 ok_X13_works ov_X13_works ⟨Nat.le_of_ble_eq_true rfl, Nat.le_of_ble_eq_true rfl⟩ rfl (h0.lt 57 (by decide)) (h0.ty 57 rfl) rfl (s_X13_works g d18 h0) rfl (Nat.le_of_ble_eq_true rfl)) (fun q35 => ?_)
      refine J_aload_n (pc := 38) 1 dX13_bare_38 rfl rfl ?_
      refine J_iload_n (pc := 39) 2 dX13_bare_39 rfl rfl ?_
      refine J_putI (pc := 40) dX13_bare_40 fl_X13_494 ft_12_29 (h0.lt 57 (by decide)) (h0.ty 57 rfl) rfl rfl rfl ?_
      refine J_iconst (pc := 43) (v := 0) dX13_bare_43 (by decide) ?_
      refine J_istore (pc := 44) (loc' := [(4, .int 0), (3, .int v3_23), (0, .ref 57), (1, .int x1_18), (2, .int x2_18)]) dX13_bare_44 (by decide) rfl ?_
      refine J_loc (loc' := [(0, .ref 57), (2, .int x2_18), (4, .int 0)]) [2, 4, 0] rfl ?_
      refine J_whR (F := f_X13_bare_w46 t x2_18 ) (fr := fun r9 => some r9) (k := k) (hp := fun (s46 : Int32 × JD) => (g, s46.2)) (lc := fun (s46 : Int32 × JD) => [(0, .ref 57), (2, .int (x2_18)), (4, .int s46.1)]) (XJ := fun (e46 : JD) o9 => J mi_X13_bare 0 0 0 0 (g, e46) 77 [(0, .ref 57)] [] o9) (RJ := fun r9 o9 => o9 = some (some (.int r9.1), (g, r9.2))) (fun s46 k46 hB46 hR46 hX46 => ?_) (fun e46 => ?_) (fun r9 => hk r9) _ (0, j_sI q35 57 29 x1_18)
      · show J mi_X13_bare 0 0 0 0 (g, s46.2) 46 [(0, .ref 57), (2, .int (x2_18)), (4, .int s46.1)] [] ((f_X13_bare_w46 t x2_18 s46).bind k46)
        unfold f_X13_bare_w46
        refine J_iload (pc := 46) 2 dX13_bare_46 rfl ?_
        refine J_iload_n (pc := 48) 1 dX13_bare_48 rfl rfl ?_
        refine K_icmp_gt (K := (fun x => Option.bind x k46)) (pc := 49) (tgt := 77) dX13_bare_49 (by decide) (fun z49 => ?_) (fun z49 => ?_)
        · refine J_loc (loc' := [(0, .ref 57)]) [0] rfl ?_
          exact hX46 s46.2
        · refine J_aload_n (pc := 52) 0 dX13_bare_52 rfl rfl ?_
          refine JC_pp_b (J_callV (mi := mi_X13_bare) (mj := mi_X13_isBare) (pc := 53) dX13_bare_53 ml_X13_509 ok_X13_isBare ov_X13_isBare ⟨Nat.le_of_ble_eq_true rfl, Nat.le_of_ble_eq_true rfl⟩ rfl (h0.lt 57 (by decide)) (h0.ty 57 rfl) rfl (s_X13_isBare g s46.2 t h0 ht hla) rfl (Nat.le_of_ble_eq_true rfl)) (fun q53_46 => ?_)
          refine K_ifeq_b (K := (fun x => Option.bind x k46)) (pc := 56) (tgt := 66) dX13_bare_56 (by decide) (fun z56 => ?_) (fun z56 => ?_)
          · refine J_aload_n (pc := 66) 0 dX13_bare_66 rfl rfl ?_
            refine JC_pe_i (J_callV (mi := mi_X13_bare) (mj := mi_X13_aYear) (pc := 67) dX13_bare_67 ml_X13_506 ok_X13_aYear ov_X13_aYear ⟨Nat.le_of_ble_eq_true rfl, Nat.le_of_ble_eq_true rfl⟩ rfl (h0.lt 57 (by decide)) (h0.ty 57 rfl) rfl (s_X13_aYear g s46.2 t h0 ht hla) rfl (Nat.le_of_ble_eq_true rfl)) (fun q67_46 => ?_)
            refine J_pop (pc := 70) dX13_bare_70 rfl ?_
            refine J_iinc (pc := 71) (v := s46.1 + 1) (loc' := [(4, .int (s46.1 + 1)), (0, .ref 57), (2, .int (x2_18))]) 2 dX13_bare_71 rfl rfl (by decide) rfl ?_
            refine J_goto (pc := 74) (tgt := 46) dX13_bare_74 (by decide) ?_
            refine J_loc (loc' := [(0, .ref 57), (2, .int (x2_18)), (4, .int (s46.1 + 1))]) [1, 2, 0] rfl ?_
            exact hB46 (s46.1 + 1, q67_46.2)
          · refine J_aload_n (pc := 59) 0 dX13_bare_59 rfl rfl ?_
            refine J_iload (pc := 60) 2 dX13_bare_60 rfl ?_
            refine JC_lt_i (K := (fun x => Option.bind x k46)) (J_callV (mi := mi_X13_bare) (mj := mi_X13_good) (pc := 62) dX13_bare_62 ml_X13_52 ok_X13_good ov_X13_good ⟨Nat.le_of_ble_eq_true rfl, Nat.le_of_ble_eq_true rfl⟩ rfl (h0.lt 57 (by decide)) (h0.ty 57 rfl) rfl (s_X13_good g s46.2 s46.1 h0) rfl (Nat.le_of_ble_eq_true rfl)) (fun q62_46 eq62_46 => ?_)
            exact J_eqo (hR46 (q62_46.1, q62_46.2)) (J_iret (pc := 65) dX13_bare_65 rfl)
      · show J mi_X13_bare 0 0 0 0 (g, e46) 77 [(0, .ref 57)] [] (_)
        refine J_aload_n (pc := 77) 0 dX13_bare_77 rfl rfl ?_
        refine J_bipush (pc := 78) (v := (-2)) dX13_bare_78 (by decide) ?_
        refine JC_lt_i (K := (fun x => Option.bind x k)) (J_callV (mi := mi_X13_bare) (mj := mi_X13_good) (pc := 80) dX13_bare_80 ml_X13_52 ok_X13_good ov_X13_good ⟨Nat.le_of_ble_eq_true rfl, Nat.le_of_ble_eq_true rfl⟩ rfl (h0.lt 57 (by decide)) (h0.ty 57 rfl) rfl (s_X13_good g e46 (-2) h0) rfl (Nat.le_of_ble_eq_true rfl)) (fun q80 eq80 => ?_)
        exact J_eqo (hk (q80.1, q80.2)) (J_iret (pc := 83) dX13_bare_83 rfl)
    · refine J_aload_n (pc := 28) 1 dX13_bare_28 rfl rfl ?_
      refine J_iload_n (pc := 29) 0 dX13_bare_29 rfl rfl ?_
      refine JC_lt_i (K := (fun x => Option.bind x k)) (J_callV (mi := mi_X13_bare) (mj := mi_X13_refused) (pc := 30) dX13_bare_30 ml_X13_48 ok_X13_refused ov_X13_refused ⟨Nat.le_of_ble_eq_true rfl, Nat.le_of_ble_eq_true rfl⟩ rfl (h0.lt 57 (by decide)) (h0.ty 57 rfl) rfl (s_X13_refused g d18 v3_23 h0) rfl (Nat.le_of_ble_eq_true rfl)) (fun q30 eq30 => ?_)
      exact J_eqo (hk (q30.1, q30.2)) (J_iret (pc := 33) dX13_bare_33 rfl)
  refine J_aload_n (pc := 0) 0 dX13_bare_0 rfl rfl ?_
  refine J_iconst (pc := 1) (v := 0) dX13_bare_1 (by decide) ?_
  refine J_putI (pc := 2) dX13_bare_2 fl_X13_42 ft_12_0 (h0.lt 57 (by decide)) (h0.ty 57 rfl) rfl rfl rfl ?_
  refine J_aload_n (pc := 5) 0 dX13_bare_5 rfl rfl ?_
  refine J_aload_n (pc := 6) 0 dX13_bare_6 rfl rfl ?_
  refine J_getR (pc := 7) dX13_bare_7 fl_X13_321 (h0.lt 57 (by decide)) (h0.ty 57 rfl) rfl hla ?_
  refine J_ifnull (pc := 10) dX13_bare_10 ?_
  refine J_iconst (pc := 13) (v := 1) dX13_bare_13 (by decide) ?_
  refine J_goto (pc := 14) (tgt := 18) dX13_bare_14 (by decide) ?_
  exact hX13_bare_j18 (j_sI d 57 0 0) pq0 pq1 1
def f_X13_remembers_w51 (s51 : Int32 × JD) : Option ((Int32 × JD) ⊕ (JD)) := (if 9 ≤ s51.1 then some (.inr s51.2) else (if j_out s51.1 9 then none else if j_out (((9 : Int32) * ((s51.2.1 57) 19)) + s51.1) 144 then none else some (.inl (s51.1 + 1, j_sI s51.2 61 ((((9 : Int32) * ((s51.2.1 57) 19)) + s51.1).toNatClampNeg) ((s51.2.1 59) s51.1.toNatClampNeg)))))
def f_X13_remembers_j49 (d49 : JD) : Option (JD) := ((j_wh (f_X13_remembers_w51 ) j_fuel (0, d49)).bind (fun (e51 : JD) => (some (j_sI e51 57 19 (((e51.1 57) 19) + 1)))))
def f_X13_remembers_w11 (s11 : Int32 × JD) : Option ((Int32 × JD) ⊕ (JD)) := (if 135 ≤ s11.1 then some (.inr s11.2) else (if j_out (s11.1 + 9) 144 then none else if j_out s11.1 144 then none else some (.inl (s11.1 + 1, j_sI s11.2 61 s11.1.toNatClampNeg ((s11.2.1 61) ((s11.1 + 9).toNatClampNeg))))))
def f_X13_remembers (d : JD) : Option (JD) := (if ((d.1 57) 19) = 16 then ((j_wh (f_X13_remembers_w11 ) j_fuel (0, d)).bind (fun (e11 : JD) => (f_X13_remembers_j49 (j_sI e11 57 19 (((e11.1 57) 19) - 1)) ))) else f_X13_remembers_j49 d )
set_option maxRecDepth 100000 in
set_option maxHeartbeats 4000000 in
theorem s_X13_remembers (g : JG) (d : JD) (h0 : j_sh g 0 TS_W RS_W) : JM mi_X13_remembers 0 0 (g, d) [.ref 57] ((f_X13_remembers d ).bind (fun r9 => some (none, (g, r9)))) := by
  refine JM_of (by decide) rfl (Nat.le_of_ble_eq_true rfl) ?_
  refine J_loc (loc' := [(0, .ref 57)]) [0] rfl ?_
  obtain ⟨k, hk, hk2⟩ : ∃ k : JD → Option (Option Value × JH), (∀ r9, k r9 = some (none, (g, r9))) ∧ (fun r9 : JD => (some (none, (g, r9)) : Option (Option Value × JH))) = k := ⟨_, fun _ => rfl, rfl⟩
  rw [hk2]
  unfold f_X13_remembers
  have hX13_remembers_j49 : ∀ (d49 : JD) , J mi_X13_remembers 0 0 0 0 (g, d49) 49 [(0, .ref 57)] [] ((f_X13_remembers_j49 d49 ).bind k) := by
    intro d49 
    unfold f_X13_remembers_j49
    refine J_iconst (pc := 49) (v := 0) dX13_remembers_49 (by decide) ?_
    refine J_istore_n (pc := 50) (loc' := [(1, .int 0), (0, .ref 57)]) dX13_remembers_50 rfl (by decide) rfl ?_
    refine J_loc (loc' := [(0, .ref 57), (1, .int 0)]) [1, 0] rfl ?_
    refine J_whL (F := f_X13_remembers_w51 ) (hp := fun (s51 : Int32 × JD) => (g, s51.2)) (lc := fun (s51 : Int32 × JD) => [(0, .ref 57), (1, .int s51.1)]) (XJ := fun (e51 : JD) o9 => J mi_X13_remembers 0 0 0 0 (g, e51) 83 [(0, .ref 57)] [] o9) (fun s51 k51 hB51 hX51 => ?_) (fun e51 => ?_) _ (0, d49)
    · show J mi_X13_remembers 0 0 0 0 (g, s51.2) 51 [(0, .ref 57), (1, .int s51.1)] [] ((f_X13_remembers_w51 s51).bind k51)
      unfold f_X13_remembers_w51
      refine J_iload_n (pc := 51) 1 dX13_remembers_51 rfl rfl ?_
      refine J_bipush (pc := 52) (v := 9) dX13_remembers_52 (by decide) ?_
      refine K_icmp_ge (K := (fun x => Option.bind x k51)) (pc := 54) (tgt := 83) dX13_remembers_54 (by decide) (fun z54 => ?_) (fun z54 => ?_)
      · refine J_loc (loc' := [(0, .ref 57)]) [0] rfl ?_
        exact hX51 s51.2
      · refine J_aload_n (pc := 57) 0 dX13_remembers_57 rfl rfl ?_
        refine J_getR (pc := 58) dX13_remembers_58 fl_X13_24 (h0.lt 57 (by decide)) (h0.ty 57 rfl) rfl (h0.rf 58 rfl) ?_
        refine J_bipush (pc := 61) (v := 9) dX13_remembers_61 (by decide) ?_
        refine J_aload_n (pc := 63) 0 dX13_remembers_63 rfl rfl ?_
        refine J_getI (pc := 64) dX13_remembers_64 fl_X13_326 (h0.lt 57 (by decide)) (h0.ty 57 rfl) rfl ?_
        refine J_imul (pc := 67) dX13_remembers_67 ?_
        refine J_iload_n (pc := 68) 1 dX13_remembers_68 rfl rfl ?_
        refine J_iadd (pc := 69) dX13_remembers_69 ?_
        refine J_aload_n (pc := 70) 0 dX13_remembers_70 rfl rfl ?_
        refine J_getR (pc := 71) dX13_remembers_71 fl_X13_17 (h0.lt 57 (by decide)) (h0.ty 57 rfl) rfl (h0.rf 56 rfl) ?_
        refine J_iload_n (pc := 74) 1 dX13_remembers_74 rfl rfl ?_
        refine J_guard (fun z75 => ?_)
        refine J_iald (pc := 75) dX13_remembers_75 (h0.lt 59 (by decide)) (h0.ty 59 rfl) z75 ?_
        refine J_guard (fun z76 => ?_)
        refine J_iast (pc := 76) dX13_remembers_76 (h0.lt 61 (by decide)) (h0.ty 61 rfl) z76 ?_
        refine J_iinc (pc := 77) (v := s51.1 + 1) (loc' := [(1, .int (s51.1 + 1)), (0, .ref 57)]) 1 dX13_remembers_77 rfl rfl (by decide) rfl ?_
        refine J_goto (pc := 80) (tgt := 51) dX13_remembers_80 (by decide) ?_
        refine J_loc (loc' := [(0, .ref 57), (1, .int (s51.1 + 1))]) [1, 0] rfl ?_
        exact hB51 (s51.1 + 1, j_sI s51.2 61 ((((9 : Int32) * ((s51.2.1 57) 19)) + s51.1).toNatClampNeg) ((s51.2.1 59) s51.1.toNatClampNeg))
    · show J mi_X13_remembers 0 0 0 0 (g, e51) 83 [(0, .ref 57)] [] (_)
      refine J_aload_n (pc := 83) 0 dX13_remembers_83 rfl rfl ?_
      refine J_dup (pc := 84) dX13_remembers_84 rfl ?_
      refine J_getI (pc := 85) dX13_remembers_85 fl_X13_326 (h0.lt 57 (by decide)) (h0.ty 57 rfl) rfl ?_
      refine J_iconst (pc := 88) (v := 1) dX13_remembers_88 (by decide) ?_
      refine J_iadd (pc := 89) dX13_remembers_89 ?_
      refine J_putI (pc := 90) dX13_remembers_90 fl_X13_326 ft_12_19 (h0.lt 57 (by decide)) (h0.ty 57 rfl) rfl rfl rfl ?_
      exact J_eqo (hk (j_sI e51 57 19 (((e51.1 57) 19) + 1))) (J_vret (pc := 93) dX13_remembers_93 rfl)
  refine J_aload_n (pc := 0) 0 dX13_remembers_0 rfl rfl ?_
  refine J_getI (pc := 1) dX13_remembers_1 fl_X13_326 (h0.lt 57 (by decide)) (h0.ty 57 rfl) rfl ?_
  refine J_bipush (pc := 4) (v := 16) dX13_remembers_4 (by decide) ?_
  refine K_icmp_ne (K := (fun x => Option.bind x k)) (pc := 6) (tgt := 49) dX13_remembers_6 (by decide) (fun z6 => ?_) (fun z6 => ?_)
  · exact hX13_remembers_j49 d 
  · refine J_iconst (pc := 9) (v := 0) dX13_remembers_9 (by decide) ?_
    refine J_istore_n (pc := 10) (loc' := [(1, .int 0), (0, .ref 57)]) dX13_remembers_10 rfl (by decide) rfl ?_
    refine J_loc (loc' := [(0, .ref 57), (1, .int 0)]) [1, 0] rfl ?_
    refine J_whL (F := f_X13_remembers_w11 ) (hp := fun (s11 : Int32 × JD) => (g, s11.2)) (lc := fun (s11 : Int32 × JD) => [(0, .ref 57), (1, .int s11.1)]) (XJ := fun (e11 : JD) o9 => J mi_X13_remembers 0 0 0 0 (g, e11) 39 [(0, .ref 57)] [] o9) (fun s11 k11 hB11 hX11 => ?_) (fun e11 => ?_) _ (0, d)
    · show J mi_X13_remembers 0 0 0 0 (g, s11.2) 11 [(0, .ref 57), (1, .int s11.1)] [] ((f_X13_remembers_w11 s11).bind k11)
      unfold f_X13_remembers_w11
      refine J_iload_n (pc := 11) 1 dX13_remembers_11 rfl rfl ?_
      refine J_sipush (pc := 12) (v := 135) dX13_remembers_12 (by decide) ?_
      refine K_icmp_ge (K := (fun x => Option.bind x k11)) (pc := 15) (tgt := 39) dX13_remembers_15 (by decide) (fun z15 => ?_) (fun z15 => ?_)
      · refine J_loc (loc' := [(0, .ref 57)]) [0] rfl ?_
        exact hX11 s11.2
      · refine J_aload_n (pc := 18) 0 dX13_remembers_18 rfl rfl ?_
        refine J_getR (pc := 19) dX13_remembers_19 fl_X13_24 (h0.lt 57 (by decide)) (h0.ty 57 rfl) rfl (h0.rf 58 rfl) ?_
        refine J_iload_n (pc := 22) 1 dX13_remembers_22 rfl rfl ?_
        refine J_aload_n (pc := 23) 0 dX13_remembers_23 rfl rfl ?_
        refine J_getR (pc := 24) dX13_remembers_24 fl_X13_24 (h0.lt 57 (by decide)) (h0.ty 57 rfl) rfl (h0.rf 58 rfl) ?_
        refine J_iload_n (pc := 27) 1 dX13_remembers_27 rfl rfl ?_
        refine J_bipush (pc := 28) (v := 9) dX13_remembers_28 (by decide) ?_
        refine J_iadd (pc := 30) dX13_remembers_30 ?_
        refine J_guard (fun z31 => ?_)
        refine J_iald (pc := 31) dX13_remembers_31 (h0.lt 61 (by decide)) (h0.ty 61 rfl) z31 ?_
        refine J_guard (fun z32 => ?_)
        refine J_iast (pc := 32) dX13_remembers_32 (h0.lt 61 (by decide)) (h0.ty 61 rfl) z32 ?_
        refine J_iinc (pc := 33) (v := s11.1 + 1) (loc' := [(1, .int (s11.1 + 1)), (0, .ref 57)]) 1 dX13_remembers_33 rfl rfl (by decide) rfl ?_
        refine J_goto (pc := 36) (tgt := 11) dX13_remembers_36 (by decide) ?_
        refine J_loc (loc' := [(0, .ref 57), (1, .int (s11.1 + 1))]) [1, 0] rfl ?_
        exact hB11 (s11.1 + 1, j_sI s11.2 61 s11.1.toNatClampNeg ((s11.2.1 61) ((s11.1 + 9).toNatClampNeg)))
    · show J mi_X13_remembers 0 0 0 0 (g, e11) 39 [(0, .ref 57)] [] (_)
      refine J_aload_n (pc := 39) 0 dX13_remembers_39 rfl rfl ?_
      refine J_dup (pc := 40) dX13_remembers_40 rfl ?_
      refine J_getI (pc := 41) dX13_remembers_41 fl_X13_326 (h0.lt 57 (by decide)) (h0.ty 57 rfl) rfl ?_
      refine J_iconst (pc := 44) (v := 1) dX13_remembers_44 (by decide) ?_
      refine J_isub (pc := 45) dX13_remembers_45 ?_
      refine J_putI (pc := 46) dX13_remembers_46 fl_X13_326 ft_12_19 (h0.lt 57 (by decide)) (h0.ty 57 rfl) rfl rfl rfl ?_
      exact hX13_remembers_j49 (j_sI e11 57 19 (((e11.1 57) 19) - 1)) 
def f_X13_hang_j57 (t : Nat) (d57 : JD) : Option (Bool × JD) := (j_let (f_X13_denied d57 6) (fun q60 => some (q60.1, q60.2)))
def f_X13_hang_j82 (t : Nat) (d82 : JD) (y0_82 : Int32) (y1_82 : Int32) : Option (Bool × JD) := (if j_out y1_82 9 then none else j_let (f_X13_granted (j_sI (j_sI d82 59 y1_82.toNatClampNeg y0_82) 59 6 ((((j_sI d82 59 y1_82.toNatClampNeg y0_82).1 59) 6) - 1))) (fun q95 => some (q95.1, q95.2)))
def f_X13_hang (t : Nat) (d : JD) (pq0 : Int32) (pq1 : Int32) : Option (Bool × JD) := (if (f_X13_isGate ((j_sI d 57 0 0).1 t) pq0) = true then (if j_out pq0 9 then none else if ((d.1 59) pq0.toNatClampNeg) ≤ 0 then (if j_out pq0 6 then none else if (((j_sI d 57 0 0).1 (t + 3)) pq0.toNatClampNeg) = 2 then f_X13_hang_j57 t (j_sI d 57 0 0) else (if ((d.1 59) 6) = 0 then f_X13_hang_j57 t (j_sI d 57 0 0) else ((f_X13_remembers (j_sI d 57 0 0)).bind (fun q65 => if pq1 = 0 then (f_X13_hang_j82 t q65 1 pq0) else (f_X13_hang_j82 t q65 2 pq0))))) else (j_let (f_X13_denied (j_sI d 57 0 0) 5) (fun q30 => some (q30.1, q30.2)))) else (j_let (f_X13_denied (j_sI d 57 0 0) 1) (fun q15 => some (q15.1, q15.2))))
set_option maxRecDepth 100000 in
set_option maxHeartbeats 4000000 in
theorem s_X13_hang (g : JG) (d : JD) (t : Nat) (pq0 : Int32) (pq1 : Int32) (h0 : j_sh g 0 TS_W RS_W) (ht : j_sh g t TS_ML RS_ML) (hla : g.2.2.1 57 3 = some t) : JM mi_X13_hang 0 0 (g, d) [.ref 57, .int pq0, .int pq1] ((f_X13_hang t d pq0 pq1).bind (fun r9 => some (some (.int (j_b r9.1)), (g, r9.2)))) := by
  refine JM_of (by decide) rfl (Nat.le_of_ble_eq_true rfl) ?_
  refine J_loc (loc' := [(0, .ref 57), (1, .int pq0), (2, .int pq1)]) [0, 1, 2] rfl ?_
  obtain ⟨k, hk, hk2⟩ : ∃ k : Bool × JD → Option (Option Value × JH), (∀ r9, k r9 = some (some (.int (j_b r9.1)), (g, r9.2))) ∧ (fun r9 : Bool × JD => (some (some (.int (j_b r9.1)), (g, r9.2)) : Option (Option Value × JH))) = k := ⟨_, fun _ => rfl, rfl⟩
  rw [hk2]
  unfold f_X13_hang
  have hX13_hang_j57 : ∀ (d57 : JD) , J mi_X13_hang 0 0 0 0 (g, d57) 57 [(0, .ref 57)] [] ((f_X13_hang_j57 t d57 ).bind k) := by
    intro d57 
    unfold f_X13_hang_j57
    refine J_aload_n (pc := 57) 0 dX13_hang_57 rfl rfl ?_
    refine J_bipush (pc := 58) (v := 6) dX13_hang_58 (by decide) ?_
    refine JC_lt_b (K := (fun x => Option.bind x k)) (J_callV (mi := mi_X13_hang) (mj := mi_X13_denied) (pc := 60) dX13_hang_60 ml_X13_512 ok_X13_denied ov_X13_denied ⟨Nat.le_of_ble_eq_true rfl, Nat.le_of_ble_eq_true rfl⟩ rfl (h0.lt 57 (by decide)) (h0.ty 57 rfl) rfl (s_X13_denied g d57 6 h0) rfl (Nat.le_of_ble_eq_true rfl)) (fun q60 eq60 => ?_)
    exact J_eqo (hk (q60.1, q60.2)) (J_zretB (pc := 63) dX13_hang_63 rfl)
  have hX13_hang_j82 : ∀ (d82 : JD) (y0_82 : Int32) (y1_82 : Int32), J mi_X13_hang 0 0 0 0 (g, d82) 82 [(0, .ref 57)] [.int y0_82, .int y1_82, .ref 59] ((f_X13_hang_j82 t d82 y0_82 y1_82).bind k) := by
    intro d82 y0_82 y1_82
    unfold f_X13_hang_j82
    refine J_guard (fun z82 => ?_)
    refine J_iast (pc := 82) dX13_hang_82 (h0.lt 59 (by decide)) (h0.ty 59 rfl) z82 ?_
    refine J_aload_n (pc := 83) 0 dX13_hang_83 rfl rfl ?_
    refine J_getR (pc := 84) dX13_hang_84 fl_X13_17 (h0.lt 57 (by decide)) (h0.ty 57 rfl) rfl (h0.rf 56 rfl) ?_
    refine J_bipush (pc := 87) (v := 6) dX13_hang_87 (by decide) ?_
    refine J_dup2 (pc := 89) dX13_hang_89 rfl rfl ?_
    refine J_iald (pc := 90) dX13_hang_90 (h0.lt 59 (by decide)) (h0.ty 59 rfl) (show vp_in _ _ from by unfold vp_in; decide) ?_
    refine J_val (y := ((j_sI d82 59 y1_82.toNatClampNeg y0_82).1 59) 6) rfl ?_
    refine J_iconst (pc := 91) (v := 1) dX13_hang_91 (by decide) ?_
    refine J_isub (pc := 92) dX13_hang_92 ?_
    refine J_iast (pc := 93) dX13_hang_93 (h0.lt 59 (by decide)) (h0.ty 59 rfl) (show vp_in _ _ from by unfold vp_in; decide) ?_
    refine J_heap (h1 := (g, j_sI (j_sI d82 59 y1_82.toNatClampNeg y0_82) 59 6 ((((j_sI d82 59 y1_82.toNatClampNeg y0_82).1 59) 6) - 1))) rfl ?_
    refine J_aload_n (pc := 94) 0 dX13_hang_94 rfl rfl ?_
    refine JC_lt_b (K := (fun x => Option.bind x k)) (J_callV (mi := mi_X13_hang) (mj := mi_X13_granted) (pc := 95) dX13_hang_95 ml_X13_518 ok_X13_granted ov_X13_granted ⟨Nat.le_of_ble_eq_true rfl, Nat.le_of_ble_eq_true rfl⟩ rfl (h0.lt 57 (by decide)) (h0.ty 57 rfl) rfl (s_X13_granted g (j_sI (j_sI d82 59 y1_82.toNatClampNeg y0_82) 59 6 ((((j_sI d82 59 y1_82.toNatClampNeg y0_82).1 59) 6) - 1)) h0) rfl (Nat.le_of_ble_eq_true rfl)) (fun q95 eq95 => ?_)
    exact J_eqo (hk (q95.1, q95.2)) (J_zretB (pc := 98) dX13_hang_98 rfl)
  refine J_aload_n (pc := 0) 0 dX13_hang_0 rfl rfl ?_
  refine J_iconst (pc := 1) (v := 0) dX13_hang_1 (by decide) ?_
  refine J_putI (pc := 2) dX13_hang_2 fl_X13_42 ft_12_0 (h0.lt 57 (by decide)) (h0.ty 57 rfl) rfl rfl rfl ?_
  refine J_aload_n (pc := 5) 0 dX13_hang_5 rfl rfl ?_
  refine J_iload_n (pc := 6) 1 dX13_hang_6 rfl rfl ?_
  refine JC_pt_i (J_callV (mi := mi_X13_hang) (mj := mi_X13_isGate) (pc := 7) dX13_hang_7 ml_X13_345 ok_X13_isGate ov_X13_isGate ⟨Nat.le_of_ble_eq_true rfl, Nat.le_of_ble_eq_true rfl⟩ rfl (h0.lt 57 (by decide)) (h0.ty 57 rfl) rfl (s_X13_isGate g (j_sI d 57 0 0) t pq0 h0 ht hla) rfl (Nat.le_of_ble_eq_true rfl)) ?_
  refine K_ifne_b (K := (fun x => Option.bind x k)) (pc := 10) (tgt := 19) dX13_hang_10 (by decide) (fun z10 => ?_) (fun z10 => ?_)
  · refine J_aload_n (pc := 19) 0 dX13_hang_19 rfl rfl ?_
    refine J_getR (pc := 20) dX13_hang_20 fl_X13_17 (h0.lt 57 (by decide)) (h0.ty 57 rfl) rfl (h0.rf 56 rfl) ?_
    refine J_iload_n (pc := 23) 1 dX13_hang_23 rfl rfl ?_
    refine J_guard (fun z24 => ?_)
    refine J_iald (pc := 24) dX13_hang_24 (h0.lt 59 (by decide)) (h0.ty 59 rfl) z24 ?_
    refine J_val (y := (d.1 59) pq0.toNatClampNeg) rfl ?_
    refine K_if_le (K := (fun x => Option.bind x k)) (pc := 25) (tgt := 34) dX13_hang_25 (by decide) (fun z25 => ?_) (fun z25 => ?_)
    · refine J_aload_n (pc := 34) 0 dX13_hang_34 rfl rfl ?_
      refine J_getR (pc := 35) dX13_hang_35 fl_X13_321 (h0.lt 57 (by decide)) (h0.ty 57 rfl) rfl hla ?_
      refine J_getR (pc := 38) dX13_hang_38 fl_X13_275 (ht.lt 0 (by decide)) (ht.ty 0 rfl) rfl (ht.rf 2 rfl) ?_
      refine J_iload_n (pc := 41) 1 dX13_hang_41 rfl rfl ?_
      refine J_guard (fun z42 => ?_)
      refine J_iald (pc := 42) dX13_hang_42 (ht.lt 3 (by decide)) (ht.ty 3 rfl) z42 ?_
      refine J_iconst (pc := 43) (v := 2) dX13_hang_43 (by decide) ?_
      refine K_icmp_eq (K := (fun x => Option.bind x k)) (pc := 44) (tgt := 57) dX13_hang_44 (by decide) (fun z44 => ?_) (fun z44 => ?_)
      · refine J_loc (loc' := [(0, .ref 57)]) [0] rfl ?_
        exact hX13_hang_j57 (j_sI d 57 0 0) 
      · refine J_aload_n (pc := 47) 0 dX13_hang_47 rfl rfl ?_
        refine J_getR (pc := 48) dX13_hang_48 fl_X13_17 (h0.lt 57 (by decide)) (h0.ty 57 rfl) rfl (h0.rf 56 rfl) ?_
        refine J_bipush (pc := 51) (v := 6) dX13_hang_51 (by decide) ?_
        refine J_iald (pc := 53) dX13_hang_53 (h0.lt 59 (by decide)) (h0.ty 59 rfl) (show vp_in _ _ from by unfold vp_in; decide) ?_
        refine J_val (y := (d.1 59) 6) rfl ?_
        refine K_if_ne (K := (fun x => Option.bind x k)) (pc := 54) (tgt := 64) dX13_hang_54 (by decide) (fun z54 => ?_) (fun z54 => ?_)
        · refine J_aload_n (pc := 64) 0 dX13_hang_64 rfl rfl ?_
          refine JC_pe_v (J_callV (mi := mi_X13_hang) (mj := mi_X13_remembers) (pc := 65) dX13_hang_65 ml_X13_515 ok_X13_remembers ov_X13_remembers ⟨Nat.le_of_ble_eq_true rfl, Nat.le_of_ble_eq_true rfl⟩ rfl (h0.lt 57 (by decide)) (h0.ty 57 rfl) rfl (s_X13_remembers g (j_sI d 57 0 0) h0) rfl (Nat.le_of_ble_eq_true rfl)) (fun q65 => ?_)
          refine J_aload_n (pc := 68) 0 dX13_hang_68 rfl rfl ?_
          refine J_getR (pc := 69) dX13_hang_69 fl_X13_17 (h0.lt 57 (by decide)) (h0.ty 57 rfl) rfl (h0.rf 56 rfl) ?_
          refine J_iload_n (pc := 72) 1 dX13_hang_72 rfl rfl ?_
          refine J_iload_n (pc := 73) 2 dX13_hang_73 rfl rfl ?_
          refine K_if_eq (K := (fun x => Option.bind x k)) (pc := 74) (tgt := 81) dX13_hang_74 (by decide) (fun z74 => ?_) (fun z74 => ?_)
          · refine J_iconst (pc := 81) (v := 1) dX13_hang_81 (by decide) ?_
            refine J_loc (loc' := [(0, .ref 57)]) [0] rfl ?_
            exact hX13_hang_j82 q65 1 pq0
          · refine J_iconst (pc := 77) (v := 2) dX13_hang_77 (by decide) ?_
            refine J_goto (pc := 78) (tgt := 82) dX13_hang_78 (by decide) ?_
            refine J_loc (loc' := [(0, .ref 57)]) [0] rfl ?_
            exact hX13_hang_j82 q65 2 pq0
        · refine J_loc (loc' := [(0, .ref 57)]) [0] rfl ?_
          exact hX13_hang_j57 (j_sI d 57 0 0) 
    · refine J_aload_n (pc := 28) 0 dX13_hang_28 rfl rfl ?_
      refine J_iconst (pc := 29) (v := 5) dX13_hang_29 (by decide) ?_
      refine JC_lt_b (K := (fun x => Option.bind x k)) (J_callV (mi := mi_X13_hang) (mj := mi_X13_denied) (pc := 30) dX13_hang_30 ml_X13_512 ok_X13_denied ov_X13_denied ⟨Nat.le_of_ble_eq_true rfl, Nat.le_of_ble_eq_true rfl⟩ rfl (h0.lt 57 (by decide)) (h0.ty 57 rfl) rfl (s_X13_denied g (j_sI d 57 0 0) 5 h0) rfl (Nat.le_of_ble_eq_true rfl)) (fun q30 eq30 => ?_)
      exact J_eqo (hk (q30.1, q30.2)) (J_zretB (pc := 33) dX13_hang_33 rfl)
  · refine J_aload_n (pc := 13) 0 dX13_hang_13 rfl rfl ?_
    refine J_iconst (pc := 14) (v := 1) dX13_hang_14 (by decide) ?_
    refine JC_lt_b (K := (fun x => Option.bind x k)) (J_callV (mi := mi_X13_hang) (mj := mi_X13_denied) (pc := 15) dX13_hang_15 ml_X13_512 ok_X13_denied ov_X13_denied ⟨Nat.le_of_ble_eq_true rfl, Nat.le_of_ble_eq_true rfl⟩ rfl (h0.lt 57 (by decide)) (h0.ty 57 rfl) rfl (s_X13_denied g (j_sI d 57 0 0) 1 h0) rfl (Nat.le_of_ble_eq_true rfl)) (fun q15 eq15 => ?_)
    exact J_eqo (hk (q15.1, q15.2)) (J_zretB (pc := 18) dX13_hang_18 rfl)
