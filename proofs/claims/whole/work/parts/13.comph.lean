def f_X11_firstRest_b2 (c0_2 : Int32) (i2 : Int32) (s2 : Unit) : Int32 ⊕ (Unit) := (if (f_X11_isRestPair (c0_2) i2) = true then (Sum.inl (((10 : Int32) * (i2 >>> (1 &&& 31))) + (i2 &&& 1))) else (.inr ()))
def f_X11_firstRest (pq0 : Int32) : Int32 := (j_let (j_fo 4 (f_X11_firstRest_b2 pq0 ) (j_mu 4 0) 0 ()) (Sum.elim (fun r9 => r9) (fun (s2 : Unit) => (-2))))
set_option maxRecDepth 100000 in
set_option maxHeartbeats 4000000 in
theorem s_X11_firstRest (g : JG) (d : JD) (pq0 : Int32) : JM mi_X11_firstRest 0 0 (g, d) [.int pq0] (some (some (.int (f_X11_firstRest pq0)), (g, d))) := by
  refine JM_of (by decide) rfl (Nat.le_of_ble_eq_true rfl) ?_
  refine J_loc (loc' := [(0, .int pq0)]) [0] rfl ?_
  obtain ⟨k, hk⟩ : ∃ k : Int32 → Option (Option Value × JH), ∀ r9, k r9 = some (some (.int r9), (g, d)) := ⟨_, fun _ => rfl⟩
  refine J_eqo (hk (f_X11_firstRest pq0)).symm ?_
  unfold f_X11_firstRest
  refine J_iconst (pc := 0) (v := 0) dX11_firstRest_0 (by decide) ?_
  refine J_istore_n (pc := 1) (loc' := [(1, .int 0), (0, .int pq0)]) dX11_firstRest_1 rfl (by decide) rfl ?_
  refine J_loc (loc' := [(0, .int pq0), (1, .int 0)]) [1, 0] rfl ?_
  refine J_foL (K := k) (fr := fun r9 => r9) (b := 4) (G := f_X11_firstRest_b2 pq0 ) (hp := fun (s2 : Unit) => (g, d)) (lc := fun (i2 : Int32) (s2 : Unit) => [(0, .int (pq0)), (1, .int i2)]) (XJ := fun (i2 : Int32) (s2 : Unit) o9 => J mi_X11_firstRest 0 0 0 0 (g, d) 32 [] [] o9) (RJ := fun r9 o9 => o9 = some (some (.int r9), (g, d))) (fun i2 s2 o2 Kb2 hX2 hR2 hB2 => ?_) (fun i2 s2 => ?_) (fun r9 => hk r9) _ _ () (Nat.le_refl _)
  · show J mi_X11_firstRest 0 0 0 0 (g, d) 2 [(0, .int (pq0)), (1, .int i2)] [] (if 4 ≤ i2 then o2 else Kb2 (f_X11_firstRest_b2 pq0 i2 s2))
    refine J_iload_n (pc := 2) 1 dX11_firstRest_2 rfl rfl ?_
    refine J_iconst (pc := 3) (v := 4) dX11_firstRest_3 (by decide) ?_
    refine J_icmp_ge (pc := 4) (tgt := 32) dX11_firstRest_4 (by decide) (fun z2 => ?_) (fun z2 => ?_)
    · refine J_loc (loc' := []) [] rfl ?_
      exact hX2 z2
    · unfold f_X11_firstRest_b2
      refine J_iload_n (pc := 7) 0 dX11_firstRest_7 rfl rfl ?_
      refine J_iload_n (pc := 8) 1 dX11_firstRest_8 rfl rfl ?_
      refine JC_pt_i (J_callS (mi := mi_X11_firstRest) (mj := mi_X11_isRestPair) (pc := 9) dX11_firstRest_9 ml_X11_348 ok_X11_isRestPair os_X11_isRestPair ⟨Nat.le_of_ble_eq_true rfl, Nat.le_of_ble_eq_true rfl⟩ rfl (s_X11_isRestPair g d pq0 i2) rfl (Nat.le_of_ble_eq_true rfl)) ?_
      refine K_ifeq_b (K := Kb2) (pc := 12) (tgt := 26) dX11_firstRest_12 (by decide) (fun z12 => ?_) (fun z12 => ?_)
      · refine J_iinc (pc := 26) (v := i2 + 1) (loc' := [(1, .int (i2 + 1)), (0, .int (pq0))]) 1 dX11_firstRest_26 rfl rfl (by decide) rfl ?_
        refine J_goto (pc := 29) (tgt := 2) dX11_firstRest_29 (by decide) ?_
        refine J_loc (loc' := [(0, .int (pq0)), (1, .int (i2 + 1))]) [1, 0] rfl ?_
        exact hB2 z2 ()
      · refine J_bipush (pc := 15) (v := 10) dX11_firstRest_15 (by decide) ?_
        refine J_iload_n (pc := 17) 1 dX11_firstRest_17 rfl rfl ?_
        refine J_iconst (pc := 18) (v := 1) dX11_firstRest_18 (by decide) ?_
        refine J_ishr (pc := 19) dX11_firstRest_19 ?_
        refine J_imul (pc := 20) dX11_firstRest_20 ?_
        refine J_iload_n (pc := 21) 1 dX11_firstRest_21 rfl rfl ?_
        refine J_iconst (pc := 22) (v := 1) dX11_firstRest_22 (by decide) ?_
        refine J_iand (pc := 23) dX11_firstRest_23 ?_
        refine J_iadd (pc := 24) dX11_firstRest_24 ?_
        exact J_eqo (hR2 (((10 : Int32) * (i2 >>> (1 &&& 31))) + (i2 &&& 1))) (J_iret (pc := 25) dX11_firstRest_25 rfl)
  · show J mi_X11_firstRest 0 0 0 0 (g, d) 32 [] [] (_)
    refine J_bipush (pc := 32) (v := (-2)) dX11_firstRest_32 (by decide) ?_
    exact J_eqo (hk (-2)) (J_iret (pc := 34) dX11_firstRest_34 rfl)
def f_X11_rest (a : Nat) (d : JD) (pq0 : Int32) : Int32 × JD := (j_let (f_X11_mayPlay a d pq0) (fun q2 => if q2.1 = true then (j_let (f_X11_answered q2.2 (f_X11_firstRest pq0)) (fun q13 => (q13.1, q13.2))) else ((-1), q2.2)))
set_option maxRecDepth 100000 in
set_option maxHeartbeats 4000000 in
theorem s_X11_rest (g : JG) (d : JD) (a : Nat) (pq0 : Int32) (h0 : j_sh g 0 TS_W RS_W) (ha : j_sh g a TS_CL RS_CL) (hco : g.2.2.1 0 10 = some a) : JM mi_X11_rest 0 0 (g, d) [.ref 0, .int pq0] (some (some (.int (f_X11_rest a d pq0).1), (g, (f_X11_rest a d pq0).2))) := by
  refine JM_of (by decide) rfl (Nat.le_of_ble_eq_true rfl) ?_
  refine J_loc (loc' := [(0, .ref 0), (1, .int pq0)]) [0, 1] rfl ?_
  obtain ⟨k, hk⟩ : ∃ k : Int32 × JD → Option (Option Value × JH), ∀ r9, k r9 = some (some (.int r9.1), (g, r9.2)) := ⟨_, fun _ => rfl⟩
  refine J_eqo (hk (f_X11_rest a d pq0)).symm ?_
  unfold f_X11_rest
  refine J_aload_n (pc := 0) 0 dX11_rest_0 rfl rfl ?_
  refine J_iload_n (pc := 1) 1 dX11_rest_1 rfl rfl ?_
  refine JC_lt_b (K := k) (J_callV (mi := mi_X11_rest) (mj := mi_X11_mayPlay) (pc := 2) dX11_rest_2 ml_X11_332 ok_X11_mayPlay ov_X11_mayPlay ⟨Nat.le_of_ble_eq_true rfl, Nat.le_of_ble_eq_true rfl⟩ rfl (h0.lt 0 (by decide)) (h0.ty 0 rfl) rfl (s_X11_mayPlay g d a pq0 h0 ha hco) rfl (Nat.le_of_ble_eq_true rfl)) (fun q2 eq2 => ?_)
  refine K_ifeq_b (K := k) (pc := 5) (tgt := 19) dX11_rest_5 (by decide) (fun z5 => ?_) (fun z5 => ?_)
  · refine J_iconst (pc := 19) (v := (-1)) dX11_rest_19 (by decide) ?_
    exact J_eqo (hk ((-1), q2.2)) (J_iret (pc := 20) dX11_rest_20 rfl)
  · refine J_aload_n (pc := 8) 0 dX11_rest_8 rfl rfl ?_
    refine J_iload_n (pc := 9) 1 dX11_rest_9 rfl rfl ?_
    refine JC_pt_i (J_callS (mi := mi_X11_rest) (mj := mi_X11_firstRest) (pc := 10) dX11_rest_10 ml_X11_342 ok_X11_firstRest os_X11_firstRest ⟨Nat.le_of_ble_eq_true rfl, Nat.le_of_ble_eq_true rfl⟩ rfl (s_X11_firstRest g q2.2 pq0) rfl (Nat.le_of_ble_eq_true rfl)) ?_
    refine JC_lt_i (K := k) (J_callV (mi := mi_X11_rest) (mj := mi_X11_answered) (pc := 13) dX11_rest_13 ml_X11_120 ok_X11_answered ov_X11_answered ⟨Nat.le_of_ble_eq_true rfl, Nat.le_of_ble_eq_true rfl⟩ rfl (h0.lt 0 (by decide)) (h0.ty 0 rfl) rfl (s_X11_answered g q2.2 (f_X11_firstRest pq0) h0) rfl (Nat.le_of_ble_eq_true rfl)) (fun q13 eq13 => ?_)
    refine J_goto (pc := 16) (tgt := 20) dX11_rest_16 (by decide) ?_
    exact J_eqo (hk (q13.1, q13.2)) (J_iret (pc := 20) dX11_rest_20 rfl)
def f_X11_holds_j24 (a : Nat) (d24 : JD) : Option (Int64 × JD) := (j_let (f_X11_refused d24 2) (fun q26 => some (q26.1.toInt64, q26.2)))
def f_X11_holds (a : Nat) (d : JD) (pq0 : Int32) (pq1 : Int32) (pq2 : Int32) : Option (Int64 × JD) := (if (f_X11_isGate (d.1 a) pq0) = true then (if pq1 < 0 then f_X11_holds_j24 a d else (if pq1 ≤ 4 then ((f_X5_setHolding d (f_X3_fallingIn (d.1 a) (d.1 (a + 3)) ((d.1 22) 0) pq0) pq1).bind (fun q51 => j_let (f_X11_told q51 pq2) (fun q56 => some (q56.1, q56.2)))) else f_X11_holds_j24 a d )) else (j_let (f_X11_refused d 1) (fun q10 => some (q10.1.toInt64, q10.2))))
set_option maxRecDepth 100000 in
set_option maxHeartbeats 4000000 in
theorem s_X11_holds (g : JG) (d : JD) (a : Nat) (pq0 : Int32) (pq1 : Int32) (pq2 : Int32) (h0 : j_sh g 0 TS_W RS_W) (ha : j_sh g a TS_CL RS_CL) (hco : g.2.2.1 0 10 = some a) : JM mi_X11_holds 0 0 (g, d) [.ref 0, .int pq0, .int pq1, .int pq2] ((f_X11_holds a d pq0 pq1 pq2).bind (fun r9 => some (some (.long r9.1), (g, r9.2)))) := by
  refine JM_of (by decide) rfl (Nat.le_of_ble_eq_true rfl) ?_
  refine J_loc (loc' := [(0, .ref 0), (1, .int pq0), (2, .int pq1), (3, .int pq2)]) [0, 1, 2, 3] rfl ?_
  obtain ⟨k, hk, hk2⟩ : ∃ k : Int64 × JD → Option (Option Value × JH), (∀ r9, k r9 = some (some (.long r9.1), (g, r9.2))) ∧ (fun r9 : Int64 × JD => (some (some (.long r9.1), (g, r9.2)) : Option (Option Value × JH))) = k := ⟨_, fun _ => rfl, rfl⟩
  rw [hk2]
  unfold f_X11_holds
  have hX11_holds_j24 : ∀ (d24 : JD) , J mi_X11_holds 0 0 0 0 (g, d24) 24 [(0, .ref 0)] [] ((f_X11_holds_j24 a d24 ).bind k) := by
    intro d24 
    unfold f_X11_holds_j24
    refine J_aload_n (pc := 24) 0 dX11_holds_24 rfl rfl ?_
    refine J_iconst (pc := 25) (v := 2) dX11_holds_25 (by decide) ?_
    refine JC_lt_i (K := (fun x => Option.bind x k)) (J_callV (mi := mi_X11_holds) (mj := mi_X11_refused) (pc := 26) dX11_holds_26 ml_X11_102 ok_X11_refused ov_X11_refused ⟨Nat.le_of_ble_eq_true rfl, Nat.le_of_ble_eq_true rfl⟩ rfl (h0.lt 0 (by decide)) (h0.ty 0 rfl) rfl (s_X11_refused g d24 2 h0) rfl (Nat.le_of_ble_eq_true rfl)) (fun q26 eq26 => ?_)
    refine J_i2l (pc := 29) dX11_holds_29 ?_
    exact J_eqo (hk (q26.1.toInt64, q26.2)) (J_lret (pc := 30) dX11_holds_30 rfl)
  refine J_aload_n (pc := 0) 0 dX11_holds_0 rfl rfl ?_
  refine J_iload_n (pc := 1) 1 dX11_holds_1 rfl rfl ?_
  refine JC_pt_i (J_callV (mi := mi_X11_holds) (mj := mi_X11_isGate) (pc := 2) dX11_holds_2 ml_X11_142 ok_X11_isGate ov_X11_isGate ⟨Nat.le_of_ble_eq_true rfl, Nat.le_of_ble_eq_true rfl⟩ rfl (h0.lt 0 (by decide)) (h0.ty 0 rfl) rfl (s_X11_isGate g d a pq0 h0 ha hco) rfl (Nat.le_of_ble_eq_true rfl)) ?_
  refine K_ifne_b (K := (fun x => Option.bind x k)) (pc := 5) (tgt := 15) dX11_holds_5 (by decide) (fun z5 => ?_) (fun z5 => ?_)
  · refine J_iload_n (pc := 15) 2 dX11_holds_15 rfl rfl ?_
    refine K_if_lt (K := (fun x => Option.bind x k)) (pc := 16) (tgt := 24) dX11_holds_16 (by decide) (fun z16 => ?_) (fun z16 => ?_)
    · refine J_loc (loc' := [(0, .ref 0)]) [0] rfl ?_
      exact hX11_holds_j24 d 
    · refine J_iload_n (pc := 19) 2 dX11_holds_19 rfl rfl ?_
      refine J_iconst (pc := 20) (v := 4) dX11_holds_20 (by decide) ?_
      refine K_icmp_le (K := (fun x => Option.bind x k)) (pc := 21) (tgt := 31) dX11_holds_21 (by decide) (fun z21 => ?_) (fun z21 => ?_)
      · refine J_aload_n (pc := 31) 0 dX11_holds_31 rfl rfl ?_
        refine J_getR (pc := 32) dX11_holds_32 fl_X11_71 (h0.lt 0 (by decide)) (h0.ty 0 rfl) rfl (h0.rf 9 rfl) ?_
        refine J_aload_n (pc := 35) 0 dX11_holds_35 rfl rfl ?_
        refine J_getR (pc := 36) dX11_holds_36 fl_X11_78 (h0.lt 0 (by decide)) (h0.ty 0 rfl) rfl hco ?_
        refine J_aload_n (pc := 39) 0 dX11_holds_39 rfl rfl ?_
        refine J_getR (pc := 40) dX11_holds_40 fl_X11_28 (h0.lt 0 (by decide)) (h0.ty 0 rfl) rfl (h0.rf 2 rfl) ?_
        refine J_getI (pc := 43) dX11_holds_43 fl_X11_159 (h0.lt 22 (by decide)) (h0.ty 22 rfl) rfl ?_
        refine J_iload_n (pc := 46) 1 dX11_holds_46 rfl rfl ?_
        refine JC_pt_i (J_callV (mi := mi_X11_holds) (mj := mi_X3_fallingIn) (pc := 47) dX11_holds_47 ml_X11_352 ok_X3_fallingIn ov_X3_fallingIn ⟨Nat.le_of_ble_eq_true rfl, Nat.le_of_ble_eq_true rfl⟩ rfl (ha.lt 0 (by decide)) (ha.ty 0 rfl) rfl (s_X3_fallingIn g d a ((d.1 22) 0) pq0 ha) rfl (Nat.le_of_ble_eq_true rfl)) ?_
        refine J_iload_n (pc := 50) 2 dX11_holds_50 rfl rfl ?_
        refine JC_pe_v (J_callV (mi := mi_X11_holds) (mj := mi_X5_setHolding) (pc := 51) dX11_holds_51 ml_X11_355 ok_X5_setHolding ov_X5_setHolding ⟨Nat.le_of_ble_eq_true rfl, Nat.le_of_ble_eq_true rfl⟩ rfl (h0.lt 41 (by decide)) (h0.ty 41 rfl) rfl (s_X5_setHolding g d (f_X3_fallingIn (d.1 a) (d.1 (a + 3)) ((d.1 22) 0) pq0) pq1 h0) rfl (Nat.le_of_ble_eq_true rfl)) (fun q51 => ?_)
        refine J_aload_n (pc := 54) 0 dX11_holds_54 rfl rfl ?_
        refine J_iload_n (pc := 55) 3 dX11_holds_55 rfl rfl ?_
        refine JC_lt_l (K := (fun x => Option.bind x k)) (J_callV (mi := mi_X11_holds) (mj := mi_X11_told) (pc := 56) dX11_holds_56 ml_X11_325 ok_X11_told ov_X11_told ⟨Nat.le_of_ble_eq_true rfl, Nat.le_of_ble_eq_true rfl⟩ rfl (h0.lt 0 (by decide)) (h0.ty 0 rfl) rfl (s_X11_told g q51 pq2 h0) rfl (Nat.le_of_ble_eq_true rfl)) (fun q56 eq56 => ?_)
        exact J_eqo (hk (q56.1, q56.2)) (J_lret (pc := 59) dX11_holds_59 rfl)
      · refine J_loc (loc' := [(0, .ref 0)]) [0] rfl ?_
        exact hX11_holds_j24 d 
  · refine J_aload_n (pc := 8) 0 dX11_holds_8 rfl rfl ?_
    refine J_iconst (pc := 9) (v := 1) dX11_holds_9 (by decide) ?_
    refine JC_lt_i (K := (fun x => Option.bind x k)) (J_callV (mi := mi_X11_holds) (mj := mi_X11_refused) (pc := 10) dX11_holds_10 ml_X11_102 ok_X11_refused ov_X11_refused ⟨Nat.le_of_ble_eq_true rfl, Nat.le_of_ble_eq_true rfl⟩ rfl (h0.lt 0 (by decide)) (h0.ty 0 rfl) rfl (s_X11_refused g d 1 h0) rfl (Nat.le_of_ble_eq_true rfl)) (fun q10 eq10 => ?_)
    refine J_i2l (pc := 13) dX11_holds_13 ?_
    exact J_eqo (hk (q10.1.toInt64, q10.2)) (J_lret (pc := 14) dX11_holds_14 rfl)
def f_X11_mean (a : Nat) (d : JD) (pq0 : Int32) (pq1 : Int32) : Option (Int64 × JD) := (if (f_X11_isPerson (d.1 a) pq0) = true then ((f_X5_setMean a d ((d.1 22) 0) pq0).bind (fun q31 => j_let (f_X11_told q31 pq1) (fun q36 => some (q36.1, q36.2)))) else (j_let (f_X11_refused d 1) (fun q10 => some (q10.1.toInt64, q10.2))))
set_option maxRecDepth 100000 in
set_option maxHeartbeats 4000000 in
theorem s_X11_mean (g : JG) (d : JD) (a : Nat) (pq0 : Int32) (pq1 : Int32) (h0 : j_sh g 0 TS_W RS_W) (ha : j_sh g a TS_CL RS_CL) (hco : g.2.2.1 0 10 = some a) : JM mi_X11_mean 0 0 (g, d) [.ref 0, .int pq0, .int pq1] ((f_X11_mean a d pq0 pq1).bind (fun r9 => some (some (.long r9.1), (g, r9.2)))) := by
  refine JM_of (by decide) rfl (Nat.le_of_ble_eq_true rfl) ?_
  refine J_loc (loc' := [(0, .ref 0), (1, .int pq0), (2, .int pq1)]) [0, 1, 2] rfl ?_
  obtain ⟨k, hk, hk2⟩ : ∃ k : Int64 × JD → Option (Option Value × JH), (∀ r9, k r9 = some (some (.long r9.1), (g, r9.2))) ∧ (fun r9 : Int64 × JD => (some (some (.long r9.1), (g, r9.2)) : Option (Option Value × JH))) = k := ⟨_, fun _ => rfl, rfl⟩
  rw [hk2]
  unfold f_X11_mean
  refine J_aload_n (pc := 0) 0 dX11_mean_0 rfl rfl ?_
  refine J_iload_n (pc := 1) 1 dX11_mean_1 rfl rfl ?_
  refine JC_pt_i (J_callV (mi := mi_X11_mean) (mj := mi_X11_isPerson) (pc := 2) dX11_mean_2 ml_X11_174 ok_X11_isPerson ov_X11_isPerson ⟨Nat.le_of_ble_eq_true rfl, Nat.le_of_ble_eq_true rfl⟩ rfl (h0.lt 0 (by decide)) (h0.ty 0 rfl) rfl (s_X11_isPerson g d a pq0 h0 ha hco) rfl (Nat.le_of_ble_eq_true rfl)) ?_
  refine K_ifne_b (K := (fun x => Option.bind x k)) (pc := 5) (tgt := 15) dX11_mean_5 (by decide) (fun z5 => ?_) (fun z5 => ?_)
  · refine J_aload_n (pc := 15) 0 dX11_mean_15 rfl rfl ?_
    refine J_getR (pc := 16) dX11_mean_16 fl_X11_71 (h0.lt 0 (by decide)) (h0.ty 0 rfl) rfl (h0.rf 9 rfl) ?_
    refine J_aload_n (pc := 19) 0 dX11_mean_19 rfl rfl ?_
    refine J_getR (pc := 20) dX11_mean_20 fl_X11_78 (h0.lt 0 (by decide)) (h0.ty 0 rfl) rfl hco ?_
    refine J_aload_n (pc := 23) 0 dX11_mean_23 rfl rfl ?_
    refine J_getR (pc := 24) dX11_mean_24 fl_X11_28 (h0.lt 0 (by decide)) (h0.ty 0 rfl) rfl (h0.rf 2 rfl) ?_
    refine J_getI (pc := 27) dX11_mean_27 fl_X11_159 (h0.lt 22 (by decide)) (h0.ty 22 rfl) rfl ?_
    refine J_iload_n (pc := 30) 1 dX11_mean_30 rfl rfl ?_
    refine JC_pe_v (J_callV (mi := mi_X11_mean) (mj := mi_X5_setMean) (pc := 31) dX11_mean_31 ml_X11_359 ok_X5_setMean ov_X5_setMean ⟨Nat.le_of_ble_eq_true rfl, Nat.le_of_ble_eq_true rfl⟩ rfl (h0.lt 41 (by decide)) (h0.ty 41 rfl) rfl (s_X5_setMean g d a ((d.1 22) 0) pq0 h0 ha) rfl (Nat.le_of_ble_eq_true rfl)) (fun q31 => ?_)
    refine J_aload_n (pc := 34) 0 dX11_mean_34 rfl rfl ?_
    refine J_iload_n (pc := 35) 2 dX11_mean_35 rfl rfl ?_
    refine JC_lt_l (K := (fun x => Option.bind x k)) (J_callV (mi := mi_X11_mean) (mj := mi_X11_told) (pc := 36) dX11_mean_36 ml_X11_325 ok_X11_told ov_X11_told ⟨Nat.le_of_ble_eq_true rfl, Nat.le_of_ble_eq_true rfl⟩ rfl (h0.lt 0 (by decide)) (h0.ty 0 rfl) rfl (s_X11_told g q31 pq1 h0) rfl (Nat.le_of_ble_eq_true rfl)) (fun q36 eq36 => ?_)
    exact J_eqo (hk (q36.1, q36.2)) (J_lret (pc := 39) dX11_mean_39 rfl)
  · refine J_aload_n (pc := 8) 0 dX11_mean_8 rfl rfl ?_
    refine J_iconst (pc := 9) (v := 1) dX11_mean_9 (by decide) ?_
    refine JC_lt_i (K := (fun x => Option.bind x k)) (J_callV (mi := mi_X11_mean) (mj := mi_X11_refused) (pc := 10) dX11_mean_10 ml_X11_102 ok_X11_refused ov_X11_refused ⟨Nat.le_of_ble_eq_true rfl, Nat.le_of_ble_eq_true rfl⟩ rfl (h0.lt 0 (by decide)) (h0.ty 0 rfl) rfl (s_X11_refused g d 1 h0) rfl (Nat.le_of_ble_eq_true rfl)) (fun q10 eq10 => ?_)
    refine J_i2l (pc := 13) dX11_mean_13 ?_
    exact J_eqo (hk (q10.1.toInt64, q10.2)) (J_lret (pc := 14) dX11_mean_14 rfl)
def f_X11_keeps (a : Nat) (d : JD) (pq0 : Int32) (pq1 : Int32) (pq2 : Int32) : Option (Int64 × JD) := (if (f_X11_isPerson (d.1 a) pq0) = true then (if (f_X11_isMuch pq1) = true then ((f_X5_setKeeping a d ((d.1 22) 0) pq0 pq1).bind (fun q46 => j_let (f_X11_told q46 pq2) (fun q51 => some (q51.1, q51.2)))) else (j_let (f_X11_refused d 2) (fun q24 => some (q24.1.toInt64, q24.2)))) else (j_let (f_X11_refused d 1) (fun q10 => some (q10.1.toInt64, q10.2))))
set_option maxRecDepth 100000 in
set_option maxHeartbeats 4000000 in
theorem s_X11_keeps (g : JG) (d : JD) (a : Nat) (pq0 : Int32) (pq1 : Int32) (pq2 : Int32) (h0 : j_sh g 0 TS_W RS_W) (ha : j_sh g a TS_CL RS_CL) (hco : g.2.2.1 0 10 = some a) : JM mi_X11_keeps 0 0 (g, d) [.ref 0, .int pq0, .int pq1, .int pq2] ((f_X11_keeps a d pq0 pq1 pq2).bind (fun r9 => some (some (.long r9.1), (g, r9.2)))) := by
  refine JM_of (by decide) rfl (Nat.le_of_ble_eq_true rfl) ?_
  refine J_loc (loc' := [(0, .ref 0), (1, .int pq0), (2, .int pq1), (3, .int pq2)]) [0, 1, 2, 3] rfl ?_
  obtain ⟨k, hk, hk2⟩ : ∃ k : Int64 × JD → Option (Option Value × JH), (∀ r9, k r9 = some (some (.long r9.1), (g, r9.2))) ∧ (fun r9 : Int64 × JD => (some (some (.long r9.1), (g, r9.2)) : Option (Option Value × JH))) = k := ⟨_, fun _ => rfl, rfl⟩
  rw [hk2]
  unfold f_X11_keeps
  refine J_aload_n (pc := 0) 0 dX11_keeps_0 rfl rfl ?_
  refine J_iload_n (pc := 1) 1 dX11_keeps_1 rfl rfl ?_
  refine JC_pt_i (J_callV (mi := mi_X11_keeps) (mj := mi_X11_isPerson) (pc := 2) dX11_keeps_2 ml_X11_174 ok_X11_isPerson ov_X11_isPerson ⟨Nat.le_of_ble_eq_true rfl, Nat.le_of_ble_eq_true rfl⟩ rfl (h0.lt 0 (by decide)) (h0.ty 0 rfl) rfl (s_X11_isPerson g d a pq0 h0 ha hco) rfl (Nat.le_of_ble_eq_true rfl)) ?_
  refine K_ifne_b (K := (fun x => Option.bind x k)) (pc := 5) (tgt := 15) dX11_keeps_5 (by decide) (fun z5 => ?_) (fun z5 => ?_)
  · refine J_iload_n (pc := 15) 2 dX11_keeps_15 rfl rfl ?_
    refine JC_pt_i (J_callS (mi := mi_X11_keeps) (mj := mi_X11_isMuch) (pc := 16) dX11_keeps_16 ml_X11_247 ok_X11_isMuch os_X11_isMuch ⟨Nat.le_of_ble_eq_true rfl, Nat.le_of_ble_eq_true rfl⟩ rfl (s_X11_isMuch g d pq1) rfl (Nat.le_of_ble_eq_true rfl)) ?_
    refine K_ifne_b (K := (fun x => Option.bind x k)) (pc := 19) (tgt := 29) dX11_keeps_19 (by decide) (fun z19 => ?_) (fun z19 => ?_)
    · refine J_aload_n (pc := 29) 0 dX11_keeps_29 rfl rfl ?_
      refine J_getR (pc := 30) dX11_keeps_30 fl_X11_71 (h0.lt 0 (by decide)) (h0.ty 0 rfl) rfl (h0.rf 9 rfl) ?_
      refine J_aload_n (pc := 33) 0 dX11_keeps_33 rfl rfl ?_
      refine J_getR (pc := 34) dX11_keeps_34 fl_X11_78 (h0.lt 0 (by decide)) (h0.ty 0 rfl) rfl hco ?_
      refine J_aload_n (pc := 37) 0 dX11_keeps_37 rfl rfl ?_
      refine J_getR (pc := 38) dX11_keeps_38 fl_X11_28 (h0.lt 0 (by decide)) (h0.ty 0 rfl) rfl (h0.rf 2 rfl) ?_
      refine J_getI (pc := 41) dX11_keeps_41 fl_X11_159 (h0.lt 22 (by decide)) (h0.ty 22 rfl) rfl ?_
      refine J_iload_n (pc := 44) 1 dX11_keeps_44 rfl rfl ?_
      refine J_iload_n (pc := 45) 2 dX11_keeps_45 rfl rfl ?_
      refine JC_pe_v (J_callV (mi := mi_X11_keeps) (mj := mi_X5_setKeeping) (pc := 46) dX11_keeps_46 ml_X11_362 ok_X5_setKeeping ov_X5_setKeeping ⟨Nat.le_of_ble_eq_true rfl, Nat.le_of_ble_eq_true rfl⟩ rfl (h0.lt 41 (by decide)) (h0.ty 41 rfl) rfl (s_X5_setKeeping g d a ((d.1 22) 0) pq0 pq1 h0 ha) rfl (Nat.le_of_ble_eq_true rfl)) (fun q46 => ?_)
      refine J_aload_n (pc := 49) 0 dX11_keeps_49 rfl rfl ?_
      refine J_iload_n (pc := 50) 3 dX11_keeps_50 rfl rfl ?_
      refine JC_lt_l (K := (fun x => Option.bind x k)) (J_callV (mi := mi_X11_keeps) (mj := mi_X11_told) (pc := 51) dX11_keeps_51 ml_X11_325 ok_X11_told ov_X11_told ⟨Nat.le_of_ble_eq_true rfl, Nat.le_of_ble_eq_true rfl⟩ rfl (h0.lt 0 (by decide)) (h0.ty 0 rfl) rfl (s_X11_told g q46 pq2 h0) rfl (Nat.le_of_ble_eq_true rfl)) (fun q51 eq51 => ?_)
      exact J_eqo (hk (q51.1, q51.2)) (J_lret (pc := 54) dX11_keeps_54 rfl)
    · refine J_aload_n (pc := 22) 0 dX11_keeps_22 rfl rfl ?_
      refine J_iconst (pc := 23) (v := 2) dX11_keeps_23 (by decide) ?_
      refine JC_lt_i (K := (fun x => Option.bind x k)) (J_callV (mi := mi_X11_keeps) (mj := mi_X11_refused) (pc := 24) dX11_keeps_24 ml_X11_102 ok_X11_refused ov_X11_refused ⟨Nat.le_of_ble_eq_true rfl, Nat.le_of_ble_eq_true rfl⟩ rfl (h0.lt 0 (by decide)) (h0.ty 0 rfl) rfl (s_X11_refused g d 2 h0) rfl (Nat.le_of_ble_eq_true rfl)) (fun q24 eq24 => ?_)
      refine J_i2l (pc := 27) dX11_keeps_27 ?_
      exact J_eqo (hk (q24.1.toInt64, q24.2)) (J_lret (pc := 28) dX11_keeps_28 rfl)
  · refine J_aload_n (pc := 8) 0 dX11_keeps_8 rfl rfl ?_
    refine J_iconst (pc := 9) (v := 1) dX11_keeps_9 (by decide) ?_
    refine JC_lt_i (K := (fun x => Option.bind x k)) (J_callV (mi := mi_X11_keeps) (mj := mi_X11_refused) (pc := 10) dX11_keeps_10 ml_X11_102 ok_X11_refused ov_X11_refused ⟨Nat.le_of_ble_eq_true rfl, Nat.le_of_ble_eq_true rfl⟩ rfl (h0.lt 0 (by decide)) (h0.ty 0 rfl) rfl (s_X11_refused g d 1 h0) rfl (Nat.le_of_ble_eq_true rfl)) (fun q10 eq10 => ?_)
    refine J_i2l (pc := 13) dX11_keeps_13 ?_
    exact J_eqo (hk (q10.1.toInt64, q10.2)) (J_lret (pc := 14) dX11_keeps_14 rfl)
def f_X11_isSeed (pq0 : Int32) : Bool := (if pq0 < 0 then (false) else (if 65537 ≤ pq0 then (false) else (true)))
set_option maxRecDepth 100000 in
set_option maxHeartbeats 4000000 in
theorem s_X11_isSeed (g : JG) (d : JD) (pq0 : Int32) : JM mi_X11_isSeed 0 0 (g, d) [.int pq0] (some (some (.int (j_b (f_X11_isSeed pq0))), (g, d))) := by
  refine JM_of (by decide) rfl (Nat.le_of_ble_eq_true rfl) ?_
  refine J_loc (loc' := [(0, .int pq0)]) [0] rfl ?_
  obtain ⟨k, hk⟩ : ∃ k : Bool → Option (Option Value × JH), ∀ r9, k r9 = some (some (.int (j_b r9)), (g, d)) := ⟨_, fun _ => rfl⟩
  refine J_eqo (hk (f_X11_isSeed pq0)).symm ?_
  unfold f_X11_isSeed
  refine J_iload_n (pc := 0) 0 dX11_isSeed_0 rfl rfl ?_
  refine K_if_lt (K := k) (pc := 1) (tgt := 15) dX11_isSeed_1 (by decide) (fun z1 => ?_) (fun z1 => ?_)
  · refine J_iconst (pc := 15) (v := 0) dX11_isSeed_15 (by decide) ?_
    exact J_eqo (hk false) (J_zretB (pc := 16) dX11_isSeed_16 rfl)
  · refine J_iload_n (pc := 4) 0 dX11_isSeed_4 rfl rfl ?_
    refine J_ldcw (pc := 5) (v := 65537) dX11_isSeed_5 cn_X11_429 ?_
    refine K_icmp_ge (K := k) (pc := 8) (tgt := 15) dX11_isSeed_8 (by decide) (fun z8 => ?_) (fun z8 => ?_)
    · refine J_iconst (pc := 15) (v := 0) dX11_isSeed_15 (by decide) ?_
      exact J_eqo (hk false) (J_zretB (pc := 16) dX11_isSeed_16 rfl)
    · refine J_iconst (pc := 11) (v := 1) dX11_isSeed_11 (by decide) ?_
      refine J_goto (pc := 12) (tgt := 16) dX11_isSeed_12 (by decide) ?_
      exact J_eqo (hk true) (J_zretB (pc := 16) dX11_isSeed_16 rfl)
def f_X11_isDrawnYears (pq0 : Int32) : Bool := (if pq0 < 0 then (false) else (if 60 < pq0 then (false) else (true)))
set_option maxRecDepth 100000 in
set_option maxHeartbeats 4000000 in
theorem s_X11_isDrawnYears (g : JG) (d : JD) (pq0 : Int32) : JM mi_X11_isDrawnYears 0 0 (g, d) [.int pq0] (some (some (.int (j_b (f_X11_isDrawnYears pq0))), (g, d))) := by
  refine JM_of (by decide) rfl (Nat.le_of_ble_eq_true rfl) ?_
  refine J_loc (loc' := [(0, .int pq0)]) [0] rfl ?_
  obtain ⟨k, hk⟩ : ∃ k : Bool → Option (Option Value × JH), ∀ r9, k r9 = some (some (.int (j_b r9)), (g, d)) := ⟨_, fun _ => rfl⟩
  refine J_eqo (hk (f_X11_isDrawnYears pq0)).symm ?_
  unfold f_X11_isDrawnYears
  refine J_iload_n (pc := 0) 0 dX11_isDrawnYears_0 rfl rfl ?_
  refine K_if_lt (K := k) (pc := 1) (tgt := 14) dX11_isDrawnYears_1 (by decide) (fun z1 => ?_) (fun z1 => ?_)
  · refine J_iconst (pc := 14) (v := 0) dX11_isDrawnYears_14 (by decide) ?_
    exact J_eqo (hk false) (J_zretB (pc := 15) dX11_isDrawnYears_15 rfl)
  · refine J_iload_n (pc := 4) 0 dX11_isDrawnYears_4 rfl rfl ?_
    refine J_bipush (pc := 5) (v := 60) dX11_isDrawnYears_5 (by decide) ?_
    refine K_icmp_gt (K := k) (pc := 7) (tgt := 14) dX11_isDrawnYears_7 (by decide) (fun z7 => ?_) (fun z7 => ?_)
    · refine J_iconst (pc := 14) (v := 0) dX11_isDrawnYears_14 (by decide) ?_
      exact J_eqo (hk false) (J_zretB (pc := 15) dX11_isDrawnYears_15 rfl)
    · refine J_iconst (pc := 10) (v := 1) dX11_isDrawnYears_10 (by decide) ?_
      refine J_goto (pc := 11) (tgt := 15) dX11_isDrawnYears_11 (by decide) ?_
      exact J_eqo (hk true) (J_zretB (pc := 15) dX11_isDrawnYears_15 rfl)
def f_X11_century_j28 (a : Nat) (d28 : JD) : Option (Int32 × JD) := (j_let (f_X11_refused d28 2) (fun q30 => some (q30.1, q30.2)))
def f_X11_century_w53 (a : Nat) (c1_53 : Int32) (c3_53 : Int32) (s53 : Int32 × JD) : Option ((Int32 × JD) ⊕ (JD)) := (if (c3_53) ≤ s53.1 then some (.inr s53.2) else ((f_X4_blow a 23 s53.2).bind (fun q67_53 => some (.inl (s53.1 + 1, q67_53.2)))))
def f_X11_century (a : Nat) (d : JD) (pq0 : Int32) (pq1 : Int32) (pq2 : Int32) : Option (Int32 × JD) := (if (f_X11_isPerson (d.1 a) pq0) = true then (if (f_X11_isSeed pq1) = true then (if (f_X11_isDrawnYears pq2) = true then (j_let (f_X4_set 23 d ((d.1 22) 0) pq1 0) (fun q47 => (j_wh (f_X11_century_w53 a pq0 pq2 ) j_fuel (0, q47)).bind (fun (e53 : JD) => (j_let (f_X11_answered e53 (f_X3_wealth (e53.1 a) (e53.1 (a + 7)) (e53.1 (a + 8)) pq0 ((e53.1 23) 0))) (fun q93 => some (q93.1, q93.2)))))) else f_X11_century_j28 a d ) else f_X11_century_j28 a d ) else (j_let (f_X11_refused d 1) (fun q10 => some (q10.1, q10.2))))
set_option maxRecDepth 100000 in
set_option maxHeartbeats 4000000 in
theorem s_X11_century (g : JG) (d : JD) (a : Nat) (pq0 : Int32) (pq1 : Int32) (pq2 : Int32) (h0 : j_sh g 0 TS_W RS_W) (ha : j_sh g a TS_CL RS_CL) (hco : g.2.2.1 0 10 = some a) : JM mi_X11_century 0 0 (g, d) [.ref 0, .int pq0, .int pq1, .int pq2] ((f_X11_century a d pq0 pq1 pq2).bind (fun r9 => some (some (.int r9.1), (g, r9.2)))) := by
  refine JM_of (by decide) rfl (Nat.le_of_ble_eq_true rfl) ?_
  refine J_loc (loc' := [(0, .ref 0), (1, .int pq0), (2, .int pq1), (3, .int pq2)]) [0, 1, 2, 3] rfl ?_
  obtain ⟨k, hk, hk2⟩ : ∃ k : Int32 × JD → Option (Option Value × JH), (∀ r9, k r9 = some (some (.int r9.1), (g, r9.2))) ∧ (fun r9 : Int32 × JD => (some (some (.int r9.1), (g, r9.2)) : Option (Option Value × JH))) = k := ⟨_, fun _ => rfl, rfl⟩
  rw [hk2]
  unfold f_X11_century
  have hX11_century_j28 : ∀ (d28 : JD) , J mi_X11_century 0 0 0 0 (g, d28) 28 [(0, .ref 0)] [] ((f_X11_century_j28 a d28 ).bind k) := by
    intro d28 
    unfold f_X11_century_j28
    refine J_aload_n (pc := 28) 0 dX11_century_28 rfl rfl ?_
    refine J_iconst (pc := 29) (v := 2) dX11_century_29 (by decide) ?_
    refine JC_lt_i (K := (fun x => Option.bind x k)) (J_callV (mi := mi_X11_century) (mj := mi_X11_refused) (pc := 30) dX11_century_30 ml_X11_102 ok_X11_refused ov_X11_refused ⟨Nat.le_of_ble_eq_true rfl, Nat.le_of_ble_eq_true rfl⟩ rfl (h0.lt 0 (by decide)) (h0.ty 0 rfl) rfl (s_X11_refused g d28 2 h0) rfl (Nat.le_of_ble_eq_true rfl)) (fun q30 eq30 => ?_)
    exact J_eqo (hk (q30.1, q30.2)) (J_iret (pc := 33) dX11_century_33 rfl)
  refine J_aload_n (pc := 0) 0 dX11_century_0 rfl rfl ?_
  refine J_iload_n (pc := 1) 1 dX11_century_1 rfl rfl ?_
  refine JC_pt_i (J_callV (mi := mi_X11_century) (mj := mi_X11_isPerson) (pc := 2) dX11_century_2 ml_X11_174 ok_X11_isPerson ov_X11_isPerson ⟨Nat.le_of_ble_eq_true rfl, Nat.le_of_ble_eq_true rfl⟩ rfl (h0.lt 0 (by decide)) (h0.ty 0 rfl) rfl (s_X11_isPerson g d a pq0 h0 ha hco) rfl (Nat.le_of_ble_eq_true rfl)) ?_
  refine K_ifne_b (K := (fun x => Option.bind x k)) (pc := 5) (tgt := 14) dX11_century_5 (by decide) (fun z5 => ?_) (fun z5 => ?_)
  · refine J_iload_n (pc := 14) 2 dX11_century_14 rfl rfl ?_
    refine JC_pt_i (J_callS (mi := mi_X11_century) (mj := mi_X11_isSeed) (pc := 15) dX11_century_15 ml_X11_366 ok_X11_isSeed os_X11_isSeed ⟨Nat.le_of_ble_eq_true rfl, Nat.le_of_ble_eq_true rfl⟩ rfl (s_X11_isSeed g d pq1) rfl (Nat.le_of_ble_eq_true rfl)) ?_
    refine K_ifeq_b (K := (fun x => Option.bind x k)) (pc := 18) (tgt := 28) dX11_century_18 (by decide) (fun z18 => ?_) (fun z18 => ?_)
    · refine J_loc (loc' := [(0, .ref 0)]) [0] rfl ?_
      exact hX11_century_j28 d 
    · refine J_iload_n (pc := 21) 3 dX11_century_21 rfl rfl ?_
      refine JC_pt_i (J_callS (mi := mi_X11_century) (mj := mi_X11_isDrawnYears) (pc := 22) dX11_century_22 ml_X11_369 ok_X11_isDrawnYears os_X11_isDrawnYears ⟨Nat.le_of_ble_eq_true rfl, Nat.le_of_ble_eq_true rfl⟩ rfl (s_X11_isDrawnYears g d pq2) rfl (Nat.le_of_ble_eq_true rfl)) ?_
      refine K_ifne_b (K := (fun x => Option.bind x k)) (pc := 25) (tgt := 34) dX11_century_25 (by decide) (fun z25 => ?_) (fun z25 => ?_)
      · refine J_aload_n (pc := 34) 0 dX11_century_34 rfl rfl ?_
        refine J_getR (pc := 35) dX11_century_35 fl_X11_32 (h0.lt 0 (by decide)) (h0.ty 0 rfl) rfl (h0.rf 3 rfl) ?_
        refine J_aload_n (pc := 38) 0 dX11_century_38 rfl rfl ?_
        refine J_getR (pc := 39) dX11_century_39 fl_X11_28 (h0.lt 0 (by decide)) (h0.ty 0 rfl) rfl (h0.rf 2 rfl) ?_
        refine J_getI (pc := 42) dX11_century_42 fl_X11_159 (h0.lt 22 (by decide)) (h0.ty 22 rfl) rfl ?_
        refine J_iload_n (pc := 45) 2 dX11_century_45 rfl rfl ?_
        refine J_iconst (pc := 46) (v := 0) dX11_century_46 (by decide) ?_
        refine JC_lt_v (K := (fun x => Option.bind x k)) (J_callV (mi := mi_X11_century) (mj := mi_X4_set) (pc := 47) dX11_century_47 ml_X11_130 ok_X4_set ov_X4_set ⟨Nat.le_of_ble_eq_true rfl, Nat.le_of_ble_eq_true rfl⟩ rfl (h0.lt 23 (by decide)) (h0.ty 23 rfl) rfl (s_X4_set g d 23 ((d.1 22) 0) pq1 0 (sh_MO_23 h0)) rfl (Nat.le_of_ble_eq_true rfl)) (fun q47 eq47 => ?_)
        refine J_iconst (pc := 50) (v := 0) dX11_century_50 (by decide) ?_
        refine J_istore (pc := 51) (loc' := [(4, .int 0), (0, .ref 0), (1, .int pq0), (2, .int pq1), (3, .int pq2)]) dX11_century_51 (by decide) rfl ?_
        refine J_loc (loc' := [(0, .ref 0), (1, .int pq0), (3, .int pq2), (4, .int 0)]) [1, 2, 4, 0] rfl ?_
        refine J_whL (F := f_X11_century_w53 a pq0 pq2 ) (hp := fun (s53 : Int32 × JD) => (g, s53.2)) (lc := fun (s53 : Int32 × JD) => [(0, .ref 0), (1, .int (pq0)), (3, .int (pq2)), (4, .int s53.1)]) (XJ := fun (e53 : JD) o9 => J mi_X11_century 0 0 0 0 (g, e53) 77 [(0, .ref 0), (1, .int pq0)] [] o9) (fun s53 k53 hB53 hX53 => ?_) (fun e53 => ?_) _ (0, q47)
        · show J mi_X11_century 0 0 0 0 (g, s53.2) 53 [(0, .ref 0), (1, .int (pq0)), (3, .int (pq2)), (4, .int s53.1)] [] ((f_X11_century_w53 a pq0 pq2 s53).bind k53)
          unfold f_X11_century_w53
          refine J_iload (pc := 53) 3 dX11_century_53 rfl ?_
          refine J_iload_n (pc := 55) 2 dX11_century_55 rfl rfl ?_
          refine K_icmp_ge (K := (fun x => Option.bind x k53)) (pc := 56) (tgt := 77) dX11_century_56 (by decide) (fun z56 => ?_) (fun z56 => ?_)
          · refine J_loc (loc' := [(0, .ref 0), (1, .int (pq0))]) [0, 1] rfl ?_
            exact hX53 s53.2
          · refine J_aload_n (pc := 59) 0 dX11_century_59 rfl rfl ?_
            refine J_getR (pc := 60) dX11_century_60 fl_X11_32 (h0.lt 0 (by decide)) (h0.ty 0 rfl) rfl (h0.rf 3 rfl) ?_
            refine J_aload_n (pc := 63) 0 dX11_century_63 rfl rfl ?_
            refine J_getR (pc := 64) dX11_century_64 fl_X11_78 (h0.lt 0 (by decide)) (h0.ty 0 rfl) rfl hco ?_
            refine JC_pe_i (J_callV (mi := mi_X11_century) (mj := mi_X4_blow) (pc := 67) dX11_century_67 ml_X11_372 ok_X4_blow ov_X4_blow ⟨Nat.le_of_ble_eq_true rfl, Nat.le_of_ble_eq_true rfl⟩ rfl (h0.lt 23 (by decide)) (h0.ty 23 rfl) rfl (s_X4_blow g s53.2 a 23 ha (sh_MO_23 h0)) rfl (Nat.le_of_ble_eq_true rfl)) (fun q67_53 => ?_)
            refine J_pop (pc := 70) dX11_century_70 rfl ?_
            refine J_iinc (pc := 71) (v := s53.1 + 1) (loc' := [(4, .int (s53.1 + 1)), (0, .ref 0), (1, .int (pq0)), (3, .int (pq2))]) 3 dX11_century_71 rfl rfl (by decide) rfl ?_
            refine J_goto (pc := 74) (tgt := 53) dX11_century_74 (by decide) ?_
            refine J_loc (loc' := [(0, .ref 0), (1, .int (pq0)), (3, .int (pq2)), (4, .int (s53.1 + 1))]) [1, 2, 3, 0] rfl ?_
            exact hB53 (s53.1 + 1, q67_53.2)
        · show J mi_X11_century 0 0 0 0 (g, e53) 77 [(0, .ref 0), (1, .int pq0)] [] (_)
          refine J_aload_n (pc := 77) 0 dX11_century_77 rfl rfl ?_
          refine J_aload_n (pc := 78) 0 dX11_century_78 rfl rfl ?_
          refine J_getR (pc := 79) dX11_century_79 fl_X11_78 (h0.lt 0 (by decide)) (h0.ty 0 rfl) rfl hco ?_
          refine J_iload_n (pc := 82) 1 dX11_century_82 rfl rfl ?_
          refine J_aload_n (pc := 83) 0 dX11_century_83 rfl rfl ?_
          refine J_getR (pc := 84) dX11_century_84 fl_X11_32 (h0.lt 0 (by decide)) (h0.ty 0 rfl) rfl (h0.rf 3 rfl) ?_
          refine J_getI (pc := 87) dX11_century_87 fl_X11_159 (h0.lt 23 (by decide)) (h0.ty 23 rfl) rfl ?_
          refine JC_pt_i (J_callV (mi := mi_X11_century) (mj := mi_X3_wealth) (pc := 90) dX11_century_90 ml_X11_177 ok_X3_wealth ov_X3_wealth ⟨Nat.le_of_ble_eq_true rfl, Nat.le_of_ble_eq_true rfl⟩ rfl (ha.lt 0 (by decide)) (ha.ty 0 rfl) rfl (s_X3_wealth g e53 a pq0 ((e53.1 23) 0) ha) rfl (Nat.le_of_ble_eq_true rfl)) ?_
          refine JC_lt_i (K := (fun x => Option.bind x k)) (J_callV (mi := mi_X11_century) (mj := mi_X11_answered) (pc := 93) dX11_century_93 ml_X11_120 ok_X11_answered ov_X11_answered ⟨Nat.le_of_ble_eq_true rfl, Nat.le_of_ble_eq_true rfl⟩ rfl (h0.lt 0 (by decide)) (h0.ty 0 rfl) rfl (s_X11_answered g e53 (f_X3_wealth (e53.1 a) (e53.1 (a + 7)) (e53.1 (a + 8)) pq0 ((e53.1 23) 0)) h0) rfl (Nat.le_of_ble_eq_true rfl)) (fun q93 eq93 => ?_)
          exact J_eqo (hk (q93.1, q93.2)) (J_iret (pc := 96) dX11_century_96 rfl)
      · refine J_loc (loc' := [(0, .ref 0)]) [0] rfl ?_
        exact hX11_century_j28 d 
  · refine J_aload_n (pc := 8) 0 dX11_century_8 rfl rfl ?_
    refine J_iconst (pc := 9) (v := 1) dX11_century_9 (by decide) ?_
    refine JC_lt_i (K := (fun x => Option.bind x k)) (J_callV (mi := mi_X11_century) (mj := mi_X11_refused) (pc := 10) dX11_century_10 ml_X11_102 ok_X11_refused ov_X11_refused ⟨Nat.le_of_ble_eq_true rfl, Nat.le_of_ble_eq_true rfl⟩ rfl (h0.lt 0 (by decide)) (h0.ty 0 rfl) rfl (s_X11_refused g d 1 h0) rfl (Nat.le_of_ble_eq_true rfl)) (fun q10 eq10 => ?_)
    exact J_eqo (hk (q10.1, q10.2)) (J_iret (pc := 13) dX11_century_13 rfl)
def f_X11_bare_j27 (a : Nat) (d27 : JD) : Option (Int32 × JD) := (j_let (f_X11_refused d27 2) (fun q29 => some (q29.1, q29.2)))
def f_X11_bare_w51 (a : Nat) (c2_51 : Int32) (s51 : Int32 × JD) : Option ((Int32 × JD) ⊕ ((Int32 × JD) ⊕ (JD))) := (if (c2_51) < s51.1 then some (.inr (.inr s51.2)) else (if (((s51.2.1 23) 0) &&& (((s51.2.1 a) 7) ^^^ (-1))) = 0 then (j_let (f_X11_answered s51.2 s51.1) (fun q78_51 => some (Sum.inr (Sum.inl (q78_51.1, q78_51.2))))) else ((f_X4_blow a 23 s51.2).bind (fun q90_51 => some (.inl (s51.1 + 1, q90_51.2))))))
def f_X11_bare (a : Nat) (d : JD) (pq0 : Int32) (pq1 : Int32) : Option (Int32 × JD) := (if (f_X11_hasLand (d.1 a)) = true then (if (f_X11_isSeed pq0) = true then (if (f_X11_isDrawnYears pq1) = true then (j_let (f_X4_set 23 d ((d.1 22) 0) pq0 0) (fun q46 => (j_wh (f_X11_bare_w51 a pq1 ) j_fuel (0, q46)).bind (Sum.elim (fun r9 => some r9) (fun (e51 : JD) => (j_let (f_X11_answered e51 (-2)) (fun q103 => some (q103.1, q103.2))))))) else f_X11_bare_j27 a d ) else f_X11_bare_j27 a d ) else (j_let (f_X11_refused d 1) (fun q9 => some (q9.1, q9.2))))
set_option maxRecDepth 100000 in
set_option maxHeartbeats 4000000 in
theorem s_X11_bare (g : JG) (d : JD) (a : Nat) (pq0 : Int32) (pq1 : Int32) (h0 : j_sh g 0 TS_W RS_W) (ha : j_sh g a TS_CL RS_CL) (hco : g.2.2.1 0 10 = some a) : JM mi_X11_bare 0 0 (g, d) [.ref 0, .int pq0, .int pq1] ((f_X11_bare a d pq0 pq1).bind (fun r9 => some (some (.int r9.1), (g, r9.2)))) := by
  refine JM_of (by decide) rfl (Nat.le_of_ble_eq_true rfl) ?_
  refine J_loc (loc' := [(0, .ref 0), (1, .int pq0), (2, .int pq1)]) [0, 1, 2] rfl ?_
  obtain ⟨k, hk, hk2⟩ : ∃ k : Int32 × JD → Option (Option Value × JH), (∀ r9, k r9 = some (some (.int r9.1), (g, r9.2))) ∧ (fun r9 : Int32 × JD => (some (some (.int r9.1), (g, r9.2)) : Option (Option Value × JH))) = k := ⟨_, fun _ => rfl, rfl⟩
  rw [hk2]
  unfold f_X11_bare
  have hX11_bare_j27 : ∀ (d27 : JD) , J mi_X11_bare 0 0 0 0 (g, d27) 27 [(0, .ref 0)] [] ((f_X11_bare_j27 a d27 ).bind k) := by
    intro d27 
    unfold f_X11_bare_j27
    refine J_aload_n (pc := 27) 0 dX11_bare_27 rfl rfl ?_
    refine J_iconst (pc := 28) (v := 2) dX11_bare_28 (by decide) ?_
    refine JC_lt_i (K := (fun x => Option.bind x k)) (J_callV (mi := mi_X11_bare) (mj := mi_X11_refused) (pc := 29) dX11_bare_29 ml_X11_102 ok_X11_refused ov_X11_refused ⟨Nat.le_of_ble_eq_true rfl, Nat.le_of_ble_eq_true rfl⟩ rfl (h0.lt 0 (by decide)) (h0.ty 0 rfl) rfl (s_X11_refused g d27 2 h0) rfl (Nat.le_of_ble_eq_true rfl)) (fun q29 eq29 => ?_)
    exact J_eqo (hk (q29.1, q29.2)) (J_iret (pc := 32) dX11_bare_32 rfl)
  refine J_aload_n (pc := 0) 0 dX11_bare_0 rfl rfl ?_
  refine JC_pt_i (J_callV (mi := mi_X11_bare) (mj := mi_X11_hasLand) (pc := 1) dX11_bare_1 ml_X11_201 ok_X11_hasLand ov_X11_hasLand ⟨Nat.le_of_ble_eq_true rfl, Nat.le_of_ble_eq_true rfl⟩ rfl (h0.lt 0 (by decide)) (h0.ty 0 rfl) rfl (s_X11_hasLand g d a h0 ha hco) rfl (Nat.le_of_ble_eq_true rfl)) ?_
  refine K_ifne_b (K := (fun x => Option.bind x k)) (pc := 4) (tgt := 13) dX11_bare_4 (by decide) (fun z4 => ?_) (fun z4 => ?_)
  · refine J_iload_n (pc := 13) 1 dX11_bare_13 rfl rfl ?_
    refine JC_pt_i (J_callS (mi := mi_X11_bare) (mj := mi_X11_isSeed) (pc := 14) dX11_bare_14 ml_X11_366 ok_X11_isSeed os_X11_isSeed ⟨Nat.le_of_ble_eq_true rfl, Nat.le_of_ble_eq_true rfl⟩ rfl (s_X11_isSeed g d pq0) rfl (Nat.le_of_ble_eq_true rfl)) ?_
    refine K_ifeq_b (K := (fun x => Option.bind x k)) (pc := 17) (tgt := 27) dX11_bare_17 (by decide) (fun z17 => ?_) (fun z17 => ?_)
    · refine J_loc (loc' := [(0, .ref 0)]) [0] rfl ?_
      exact hX11_bare_j27 d 
    · refine J_iload_n (pc := 20) 2 dX11_bare_20 rfl rfl ?_
      refine JC_pt_i (J_callS (mi := mi_X11_bare) (mj := mi_X11_isDrawnYears) (pc := 21) dX11_bare_21 ml_X11_369 ok_X11_isDrawnYears os_X11_isDrawnYears ⟨Nat.le_of_ble_eq_true rfl, Nat.le_of_ble_eq_true rfl⟩ rfl (s_X11_isDrawnYears g d pq1) rfl (Nat.le_of_ble_eq_true rfl)) ?_
      refine K_ifne_b (K := (fun x => Option.bind x k)) (pc := 24) (tgt := 33) dX11_bare_24 (by decide) (fun z24 => ?_) (fun z24 => ?_)
      · refine J_aload_n (pc := 33) 0 dX11_bare_33 rfl rfl ?_
        refine J_getR (pc := 34) dX11_bare_34 fl_X11_32 (h0.lt 0 (by decide)) (h0.ty 0 rfl) rfl (h0.rf 3 rfl) ?_
        refine J_aload_n (pc := 37) 0 dX11_bare_37 rfl rfl ?_
        refine J_getR (pc := 38) dX11_bare_38 fl_X11_28 (h0.lt 0 (by decide)) (h0.ty 0 rfl) rfl (h0.rf 2 rfl) ?_
        refine J_getI (pc := 41) dX11_bare_41 fl_X11_159 (h0.lt 22 (by decide)) (h0.ty 22 rfl) rfl ?_
        refine J_iload_n (pc := 44) 1 dX11_bare_44 rfl rfl ?_
        refine J_iconst (pc := 45) (v := 0) dX11_bare_45 (by decide) ?_
        refine JC_lt_v (K := (fun x => Option.bind x k)) (J_callV (mi := mi_X11_bare) (mj := mi_X4_set) (pc := 46) dX11_bare_46 ml_X11_130 ok_X4_set ov_X4_set ⟨Nat.le_of_ble_eq_true rfl, Nat.le_of_ble_eq_true rfl⟩ rfl (h0.lt 23 (by decide)) (h0.ty 23 rfl) rfl (s_X4_set g d 23 ((d.1 22) 0) pq0 0 (sh_MO_23 h0)) rfl (Nat.le_of_ble_eq_true rfl)) (fun q46 eq46 => ?_)
        refine J_iconst (pc := 49) (v := 0) dX11_bare_49 (by decide) ?_
        refine J_istore_n (pc := 50) (loc' := [(3, .int 0), (0, .ref 0), (1, .int pq0), (2, .int pq1)]) dX11_bare_50 rfl (by decide) rfl ?_
        refine J_loc (loc' := [(0, .ref 0), (2, .int pq1), (3, .int 0)]) [1, 3, 0] rfl ?_
        refine J_whR (F := f_X11_bare_w51 a pq1 ) (fr := fun r9 => some r9) (k := k) (hp := fun (s51 : Int32 × JD) => (g, s51.2)) (lc := fun (s51 : Int32 × JD) => [(0, .ref 0), (2, .int (pq1)), (3, .int s51.1)]) (XJ := fun (e51 : JD) o9 => J mi_X11_bare 0 0 0 0 (g, e51) 100 [(0, .ref 0)] [] o9) (RJ := fun r9 o9 => o9 = some (some (.int r9.1), (g, r9.2))) (fun s51 k51 hB51 hR51 hX51 => ?_) (fun e51 => ?_) (fun r9 => hk r9) _ (0, q46)
        · show J mi_X11_bare 0 0 0 0 (g, s51.2) 51 [(0, .ref 0), (2, .int (pq1)), (3, .int s51.1)] [] ((f_X11_bare_w51 a pq1 s51).bind k51)
          unfold f_X11_bare_w51
          refine J_iload_n (pc := 51) 2 dX11_bare_51 rfl rfl ?_
          refine J_iload_n (pc := 52) 1 dX11_bare_52 rfl rfl ?_
          refine K_icmp_gt (K := (fun x => Option.bind x k51)) (pc := 53) (tgt := 100) dX11_bare_53 (by decide) (fun z53 => ?_) (fun z53 => ?_)
          · refine J_loc (loc' := [(0, .ref 0)]) [0] rfl ?_
            exact hX51 s51.2
          · refine J_aload_n (pc := 56) 0 dX11_bare_56 rfl rfl ?_
            refine J_getR (pc := 57) dX11_bare_57 fl_X11_32 (h0.lt 0 (by decide)) (h0.ty 0 rfl) rfl (h0.rf 3 rfl) ?_
            refine J_getI (pc := 60) dX11_bare_60 fl_X11_159 (h0.lt 23 (by decide)) (h0.ty 23 rfl) rfl ?_
            refine J_aload_n (pc := 63) 0 dX11_bare_63 rfl rfl ?_
            refine J_getR (pc := 64) dX11_bare_64 fl_X11_78 (h0.lt 0 (by decide)) (h0.ty 0 rfl) rfl hco ?_
            refine J_getI (pc := 67) dX11_bare_67 fl_X11_375 (ha.lt 0 (by decide)) (ha.ty 0 rfl) rfl ?_
            refine J_iconst (pc := 70) (v := (-1)) dX11_bare_70 (by decide) ?_
            refine J_ixor (pc := 71) dX11_bare_71 ?_
            refine J_iand (pc := 72) dX11_bare_72 ?_
            refine K_if_ne (K := (fun x => Option.bind x k51)) (pc := 73) (tgt := 82) dX11_bare_73 (by decide) (fun z73 => ?_) (fun z73 => ?_)
            · refine J_aload_n (pc := 82) 0 dX11_bare_82 rfl rfl ?_
              refine J_getR (pc := 83) dX11_bare_83 fl_X11_32 (h0.lt 0 (by decide)) (h0.ty 0 rfl) rfl (h0.rf 3 rfl) ?_
              refine J_aload_n (pc := 86) 0 dX11_bare_86 rfl rfl ?_
              refine J_getR (pc := 87) dX11_bare_87 fl_X11_78 (h0.lt 0 (by decide)) (h0.ty 0 rfl) rfl hco ?_
              refine JC_pe_i (J_callV (mi := mi_X11_bare) (mj := mi_X4_blow) (pc := 90) dX11_bare_90 ml_X11_372 ok_X4_blow ov_X4_blow ⟨Nat.le_of_ble_eq_true rfl, Nat.le_of_ble_eq_true rfl⟩ rfl (h0.lt 23 (by decide)) (h0.ty 23 rfl) rfl (s_X4_blow g s51.2 a 23 ha (sh_MO_23 h0)) rfl (Nat.le_of_ble_eq_true rfl)) (fun q90_51 => ?_)
              refine J_pop (pc := 93) dX11_bare_93 rfl ?_
              refine J_iinc (pc := 94) (v := s51.1 + 1) (loc' := [(3, .int (s51.1 + 1)), (0, .ref 0), (2, .int (pq1))]) 2 dX11_bare_94 rfl rfl (by decide) rfl ?_
              refine J_goto (pc := 97) (tgt := 51) dX11_bare_97 (by decide) ?_
              refine J_loc (loc' := [(0, .ref 0), (2, .int (pq1)), (3, .int (s51.1 + 1))]) [1, 2, 0] rfl ?_
              exact hB51 (s51.1 + 1, q90_51.2)
            · refine J_aload_n (pc := 76) 0 dX11_bare_76 rfl rfl ?_
              refine J_iload_n (pc := 77) 2 dX11_bare_77 rfl rfl ?_
              refine JC_lt_i (K := (fun x => Option.bind x k51)) (J_callV (mi := mi_X11_bare) (mj := mi_X11_answered) (pc := 78) dX11_bare_78 ml_X11_120 ok_X11_answered ov_X11_answered ⟨Nat.le_of_ble_eq_true rfl, Nat.le_of_ble_eq_true rfl⟩ rfl (h0.lt 0 (by decide)) (h0.ty 0 rfl) rfl (s_X11_answered g s51.2 s51.1 h0) rfl (Nat.le_of_ble_eq_true rfl)) (fun q78_51 eq78_51 => ?_)
              exact J_eqo (hR51 (q78_51.1, q78_51.2)) (J_iret (pc := 81) dX11_bare_81 rfl)
        · show J mi_X11_bare 0 0 0 0 (g, e51) 100 [(0, .ref 0)] [] (_)
          refine J_aload_n (pc := 100) 0 dX11_bare_100 rfl rfl ?_
          refine J_bipush (pc := 101) (v := (-2)) dX11_bare_101 (by decide) ?_
          refine JC_lt_i (K := (fun x => Option.bind x k)) (J_callV (mi := mi_X11_bare) (mj := mi_X11_answered) (pc := 103) dX11_bare_103 ml_X11_120 ok_X11_answered ov_X11_answered ⟨Nat.le_of_ble_eq_true rfl, Nat.le_of_ble_eq_true rfl⟩ rfl (h0.lt 0 (by decide)) (h0.ty 0 rfl) rfl (s_X11_answered g e51 (-2) h0) rfl (Nat.le_of_ble_eq_true rfl)) (fun q103 eq103 => ?_)
          exact J_eqo (hk (q103.1, q103.2)) (J_iret (pc := 106) dX11_bare_106 rfl)
      · refine J_loc (loc' := [(0, .ref 0)]) [0] rfl ?_
        exact hX11_bare_j27 d 
  · refine J_aload_n (pc := 7) 0 dX11_bare_7 rfl rfl ?_
    refine J_iconst (pc := 8) (v := 1) dX11_bare_8 (by decide) ?_
    refine JC_lt_i (K := (fun x => Option.bind x k)) (J_callV (mi := mi_X11_bare) (mj := mi_X11_refused) (pc := 9) dX11_bare_9 ml_X11_102 ok_X11_refused ov_X11_refused ⟨Nat.le_of_ble_eq_true rfl, Nat.le_of_ble_eq_true rfl⟩ rfl (h0.lt 0 (by decide)) (h0.ty 0 rfl) rfl (s_X11_refused g d 1 h0) rfl (Nat.le_of_ble_eq_true rfl)) (fun q9 eq9 => ?_)
    exact J_eqo (hk (q9.1, q9.2)) (J_iret (pc := 12) dX11_bare_12 rfl)
def f_X11_act (d : JD) (pq0 : Int32) : Option (Bool × JD) := (if pq0 = (-1) then (j_let (f_X11_denied d 6) (fun q8 => some (q8.1, q8.2))) else ((f_X7_addLatest 22 24 d).bind (fun q20 => j_let (f_X4_set 22 q20 pq0 ((q20.1 22) 1) ((q20.1 22) 2)) (fun q42 => some (true, j_sI q42 0 11 0)))))
set_option maxRecDepth 100000 in
set_option maxHeartbeats 4000000 in
theorem s_X11_act (g : JG) (d : JD) (pq0 : Int32) (h0 : j_sh g 0 TS_W RS_W) : JM mi_X11_act 0 0 (g, d) [.ref 0, .int pq0] ((f_X11_act d pq0).bind (fun r9 => some (some (.int (j_b r9.1)), (g, r9.2)))) := by
  refine JM_of (by decide) rfl (Nat.le_of_ble_eq_true rfl) ?_
  refine J_loc (loc' := [(0, .ref 0), (1, .int pq0)]) [0, 1] rfl ?_
  obtain ⟨k, hk, hk2⟩ : ∃ k : Bool × JD → Option (Option Value × JH), (∀ r9, k r9 = some (some (.int (j_b r9.1)), (g, r9.2))) ∧ (fun r9 : Bool × JD => (some (some (.int (j_b r9.1)), (g, r9.2)) : Option (Option Value × JH))) = k := ⟨_, fun _ => rfl, rfl⟩
  rw [hk2]
  unfold f_X11_act
  refine J_iload_n (pc := 0) 1 dX11_act_0 rfl rfl ?_
  refine J_iconst (pc := 1) (v := (-1)) dX11_act_1 (by decide) ?_
  refine K_icmp_ne (K := (fun x => Option.bind x k)) (pc := 2) (tgt := 12) dX11_act_2 (by decide) (fun z2 => ?_) (fun z2 => ?_)
  · refine J_aload_n (pc := 12) 0 dX11_act_12 rfl rfl ?_
    refine J_getR (pc := 13) dX11_act_13 fl_X11_40 (h0.lt 0 (by decide)) (h0.ty 0 rfl) rfl (h0.rf 4 rfl) ?_
    refine J_aload_n (pc := 16) 0 dX11_act_16 rfl rfl ?_
    refine J_getR (pc := 17) dX11_act_17 fl_X11_28 (h0.lt 0 (by decide)) (h0.ty 0 rfl) rfl (h0.rf 2 rfl) ?_
    refine JC_pe_v (J_callV (mi := mi_X11_act) (mj := mi_X7_addLatest) (pc := 20) dX11_act_20 ml_X11_384 ok_X7_addLatest ov_X7_addLatest ⟨Nat.le_of_ble_eq_true rfl, Nat.le_of_ble_eq_true rfl⟩ rfl (h0.lt 24 (by decide)) (h0.ty 24 rfl) rfl (s_X7_addLatest g d 22 24 (sh_MO_22 h0) (sh_SH_24 h0)) rfl (Nat.le_of_ble_eq_true rfl)) (fun q20 => ?_)
    refine J_aload_n (pc := 23) 0 dX11_act_23 rfl rfl ?_
    refine J_getR (pc := 24) dX11_act_24 fl_X11_28 (h0.lt 0 (by decide)) (h0.ty 0 rfl) rfl (h0.rf 2 rfl) ?_
    refine J_iload_n (pc := 27) 1 dX11_act_27 rfl rfl ?_
    refine J_aload_n (pc := 28) 0 dX11_act_28 rfl rfl ?_
    refine J_getR (pc := 29) dX11_act_29 fl_X11_28 (h0.lt 0 (by decide)) (h0.ty 0 rfl) rfl (h0.rf 2 rfl) ?_
    refine J_getI (pc := 32) dX11_act_32 fl_X11_388 (h0.lt 22 (by decide)) (h0.ty 22 rfl) rfl ?_
    refine J_aload_n (pc := 35) 0 dX11_act_35 rfl rfl ?_
    refine J_getR (pc := 36) dX11_act_36 fl_X11_28 (h0.lt 0 (by decide)) (h0.ty 0 rfl) rfl (h0.rf 2 rfl) ?_
    refine J_getI (pc := 39) dX11_act_39 fl_X11_391 (h0.lt 22 (by decide)) (h0.ty 22 rfl) rfl ?_
    refine JC_lt_v (K := (fun x => Option.bind x k)) (J_callV (mi := mi_X11_act) (mj := mi_X4_set) (pc := 42) dX11_act_42 ml_X11_130 ok_X4_set ov_X4_set ⟨Nat.le_of_ble_eq_true rfl, Nat.le_of_ble_eq_true rfl⟩ rfl (h0.lt 22 (by decide)) (h0.ty 22 rfl) rfl (s_X4_set g q20 22 pq0 ((q20.1 22) 1) ((q20.1 22) 2) (sh_MO_22 h0)) rfl (Nat.le_of_ble_eq_true rfl)) (fun q42 eq42 => ?_)
    refine J_aload_n (pc := 45) 0 dX11_act_45 rfl rfl ?_
    refine J_iconst (pc := 46) (v := 0) dX11_act_46 (by decide) ?_
    refine J_putI (pc := 47) dX11_act_47 fl_X11_82 ft_10_11 (h0.lt 0 (by decide)) (h0.ty 0 rfl) rfl rfl rfl ?_
    refine J_iconst (pc := 50) (v := 1) dX11_act_50 (by decide) ?_
    exact J_eqo (hk (true, j_sI q42 0 11 0)) (J_zretB (pc := 51) dX11_act_51 rfl)
  · refine J_aload_n (pc := 5) 0 dX11_act_5 rfl rfl ?_
    refine J_bipush (pc := 6) (v := 6) dX11_act_6 (by decide) ?_
    refine JC_lt_b (K := (fun x => Option.bind x k)) (J_callV (mi := mi_X11_act) (mj := mi_X11_denied) (pc := 8) dX11_act_8 ml_X11_345 ok_X11_denied ov_X11_denied ⟨Nat.le_of_ble_eq_true rfl, Nat.le_of_ble_eq_true rfl⟩ rfl (h0.lt 0 (by decide)) (h0.ty 0 rfl) rfl (s_X11_denied g d 6 h0) rfl (Nat.le_of_ble_eq_true rfl)) (fun q8 eq8 => ?_)
    exact J_eqo (hk (q8.1, q8.2)) (J_zretB (pc := 11) dX11_act_11 rfl)
def f_X11_hang_j55 (a : Nat) (d55 : JD) (x1_55 : Int32) (y0_55 : Int32) (y1_55 : Int32) : Option (Bool × JD) := ((f_X11_act d55 (f_X3_wayAfter (d55.1 a) y1_55 y0_55 x1_55)).bind (fun q59 => some (q59.1, q59.2)))
def f_X11_hang (a : Nat) (d : JD) (pq0 : Int32) (pq1 : Int32) : Option (Bool × JD) := (if (f_X11_isGate (d.1 a) pq0) = true then (if (f_X10_hungAt ((d.1 22) 0) pq0) = 0 then (if pq1 = 0 then (f_X11_hang_j55 a d pq0 0 ((d.1 22) 0)) else (f_X11_hang_j55 a d pq0 1 ((d.1 22) 0))) else (j_let (f_X11_denied d 5) (fun q30 => some (q30.1, q30.2)))) else (j_let (f_X11_denied d 1) (fun q10 => some (q10.1, q10.2))))
set_option maxRecDepth 100000 in
set_option maxHeartbeats 4000000 in
theorem s_X11_hang (g : JG) (d : JD) (a : Nat) (pq0 : Int32) (pq1 : Int32) (h0 : j_sh g 0 TS_W RS_W) (ha : j_sh g a TS_CL RS_CL) (hco : g.2.2.1 0 10 = some a) : JM mi_X11_hang 0 0 (g, d) [.ref 0, .int pq0, .int pq1] ((f_X11_hang a d pq0 pq1).bind (fun r9 => some (some (.int (j_b r9.1)), (g, r9.2)))) := by
  refine JM_of (by decide) rfl (Nat.le_of_ble_eq_true rfl) ?_
  refine J_loc (loc' := [(0, .ref 0), (1, .int pq0), (2, .int pq1)]) [0, 1, 2] rfl ?_
  obtain ⟨k, hk, hk2⟩ : ∃ k : Bool × JD → Option (Option Value × JH), (∀ r9, k r9 = some (some (.int (j_b r9.1)), (g, r9.2))) ∧ (fun r9 : Bool × JD => (some (some (.int (j_b r9.1)), (g, r9.2)) : Option (Option Value × JH))) = k := ⟨_, fun _ => rfl, rfl⟩
  rw [hk2]
  unfold f_X11_hang
  have hX11_hang_j55 : ∀ (d55 : JD) (x1_55 : Int32) (y0_55 : Int32) (y1_55 : Int32), J mi_X11_hang 0 0 0 0 (g, d55) 55 [(1, .int x1_55)] [.int y0_55, .int y1_55, .ref a, .ref 0] ((f_X11_hang_j55 a d55 x1_55 y0_55 y1_55).bind k) := by
    intro d55 x1_55 y0_55 y1_55
    unfold f_X11_hang_j55
    refine J_iload_n (pc := 55) 0 dX11_hang_55 rfl rfl ?_
    refine JC_pt_i (J_callV (mi := mi_X11_hang) (mj := mi_X3_wayAfter) (pc := 56) dX11_hang_56 ml_X11_220 ok_X3_wayAfter ov_X3_wayAfter ⟨Nat.le_of_ble_eq_true rfl, Nat.le_of_ble_eq_true rfl⟩ rfl (ha.lt 0 (by decide)) (ha.ty 0 rfl) rfl (s_X3_wayAfter g d55 a y1_55 y0_55 x1_55 ha) rfl (Nat.le_of_ble_eq_true rfl)) ?_
    refine JC_pe_b (J_callV (mi := mi_X11_hang) (mj := mi_X11_act) (pc := 59) dX11_hang_59 ml_X11_378 ok_X11_act ov_X11_act ⟨Nat.le_of_ble_eq_true rfl, Nat.le_of_ble_eq_true rfl⟩ rfl (h0.lt 0 (by decide)) (h0.ty 0 rfl) rfl (s_X11_act g d55 (f_X3_wayAfter (d55.1 a) y1_55 y0_55 x1_55) h0) rfl (Nat.le_of_ble_eq_true rfl)) (fun q59 => ?_)
    exact J_eqo (hk (q59.1, q59.2)) (J_zretB (pc := 62) dX11_hang_62 rfl)
  refine J_aload_n (pc := 0) 0 dX11_hang_0 rfl rfl ?_
  refine J_iload_n (pc := 1) 1 dX11_hang_1 rfl rfl ?_
  refine JC_pt_i (J_callV (mi := mi_X11_hang) (mj := mi_X11_isGate) (pc := 2) dX11_hang_2 ml_X11_142 ok_X11_isGate ov_X11_isGate ⟨Nat.le_of_ble_eq_true rfl, Nat.le_of_ble_eq_true rfl⟩ rfl (h0.lt 0 (by decide)) (h0.ty 0 rfl) rfl (s_X11_isGate g d a pq0 h0 ha hco) rfl (Nat.le_of_ble_eq_true rfl)) ?_
  refine K_ifne_b (K := (fun x => Option.bind x k)) (pc := 5) (tgt := 14) dX11_hang_5 (by decide) (fun z5 => ?_) (fun z5 => ?_)
  · refine J_aload_n (pc := 14) 0 dX11_hang_14 rfl rfl ?_
    refine J_getR (pc := 15) dX11_hang_15 fl_X11_28 (h0.lt 0 (by decide)) (h0.ty 0 rfl) rfl (h0.rf 2 rfl) ?_
    refine J_getI (pc := 18) dX11_hang_18 fl_X11_159 (h0.lt 22 (by decide)) (h0.ty 22 rfl) rfl ?_
    refine J_iload_n (pc := 21) 1 dX11_hang_21 rfl rfl ?_
    refine JC_pt_i (J_callS (mi := mi_X11_hang) (mj := mi_X10_hungAt) (pc := 22) dX11_hang_22 ml_X11_162 ok_X10_hungAt os_X10_hungAt ⟨Nat.le_of_ble_eq_true rfl, Nat.le_of_ble_eq_true rfl⟩ rfl (s_X10_hungAt g d ((d.1 22) 0) pq0) rfl (Nat.le_of_ble_eq_true rfl)) ?_
    refine K_if_eq (K := (fun x => Option.bind x k)) (pc := 25) (tgt := 34) dX11_hang_25 (by decide) (fun z25 => ?_) (fun z25 => ?_)
    · refine J_aload_n (pc := 34) 0 dX11_hang_34 rfl rfl ?_
      refine J_aload_n (pc := 35) 0 dX11_hang_35 rfl rfl ?_
      refine J_getR (pc := 36) dX11_hang_36 fl_X11_78 (h0.lt 0 (by decide)) (h0.ty 0 rfl) rfl hco ?_
      refine J_aload_n (pc := 39) 0 dX11_hang_39 rfl rfl ?_
      refine J_getR (pc := 40) dX11_hang_40 fl_X11_28 (h0.lt 0 (by decide)) (h0.ty 0 rfl) rfl (h0.rf 2 rfl) ?_
      refine J_getI (pc := 43) dX11_hang_43 fl_X11_159 (h0.lt 22 (by decide)) (h0.ty 22 rfl) rfl ?_
      refine J_iload_n (pc := 46) 2 dX11_hang_46 rfl rfl ?_
      refine K_if_eq (K := (fun x => Option.bind x k)) (pc := 47) (tgt := 54) dX11_hang_47 (by decide) (fun z47 => ?_) (fun z47 => ?_)
      · refine J_iconst (pc := 54) (v := 0) dX11_hang_54 (by decide) ?_
        refine J_loc (loc' := [(1, .int pq0)]) [1] rfl ?_
        exact hX11_hang_j55 d pq0 0 ((d.1 22) 0)
      · refine J_iconst (pc := 50) (v := 1) dX11_hang_50 (by decide) ?_
        refine J_goto (pc := 51) (tgt := 55) dX11_hang_51 (by decide) ?_
        refine J_loc (loc' := [(1, .int pq0)]) [1] rfl ?_
        exact hX11_hang_j55 d pq0 1 ((d.1 22) 0)
    · refine J_aload_n (pc := 28) 0 dX11_hang_28 rfl rfl ?_
      refine J_iconst (pc := 29) (v := 5) dX11_hang_29 (by decide) ?_
      refine JC_lt_b (K := (fun x => Option.bind x k)) (J_callV (mi := mi_X11_hang) (mj := mi_X11_denied) (pc := 30) dX11_hang_30 ml_X11_345 ok_X11_denied ov_X11_denied ⟨Nat.le_of_ble_eq_true rfl, Nat.le_of_ble_eq_true rfl⟩ rfl (h0.lt 0 (by decide)) (h0.ty 0 rfl) rfl (s_X11_denied g d 5 h0) rfl (Nat.le_of_ble_eq_true rfl)) (fun q30 eq30 => ?_)
      exact J_eqo (hk (q30.1, q30.2)) (J_zretB (pc := 33) dX11_hang_33 rfl)
  · refine J_aload_n (pc := 8) 0 dX11_hang_8 rfl rfl ?_
    refine J_iconst (pc := 9) (v := 1) dX11_hang_9 (by decide) ?_
    refine JC_lt_b (K := (fun x => Option.bind x k)) (J_callV (mi := mi_X11_hang) (mj := mi_X11_denied) (pc := 10) dX11_hang_10 ml_X11_345 ok_X11_denied ov_X11_denied ⟨Nat.le_of_ble_eq_true rfl, Nat.le_of_ble_eq_true rfl⟩ rfl (h0.lt 0 (by decide)) (h0.ty 0 rfl) rfl (s_X11_denied g d 1 h0) rfl (Nat.le_of_ble_eq_true rfl)) (fun q10 eq10 => ?_)
    exact J_eqo (hk (q10.1, q10.2)) (J_zretB (pc := 13) dX11_hang_13 rfl)
def f_X11_mayAlter (a : Nat) (d : JD) (pq0 : Int32) : Bool × JD := (if (f_X11_isGate (d.1 a) pq0) = true then (if (f_X10_hungAt ((d.1 22) 0) pq0) = 0 then (j_let (f_X11_denied d 5) (fun q30 => if q30.1 = true then (true, q30.2) else (false, q30.2))) else (true, d)) else (j_let (f_X11_denied d 1) (fun q10 => (q10.1, q10.2))))
set_option maxRecDepth 100000 in
set_option maxHeartbeats 4000000 in
theorem s_X11_mayAlter (g : JG) (d : JD) (a : Nat) (pq0 : Int32) (h0 : j_sh g 0 TS_W RS_W) (ha : j_sh g a TS_CL RS_CL) (hco : g.2.2.1 0 10 = some a) : JM mi_X11_mayAlter 0 0 (g, d) [.ref 0, .int pq0] (some (some (.int (j_b (f_X11_mayAlter a d pq0).1)), (g, (f_X11_mayAlter a d pq0).2))) := by
  refine JM_of (by decide) rfl (Nat.le_of_ble_eq_true rfl) ?_
  refine J_loc (loc' := [(0, .ref 0), (1, .int pq0)]) [0, 1] rfl ?_
  obtain ⟨k, hk⟩ : ∃ k : Bool × JD → Option (Option Value × JH), ∀ r9, k r9 = some (some (.int (j_b r9.1)), (g, r9.2)) := ⟨_, fun _ => rfl⟩
  refine J_eqo (hk (f_X11_mayAlter a d pq0)).symm ?_
  unfold f_X11_mayAlter
  refine J_aload_n (pc := 0) 0 dX11_mayAlter_0 rfl rfl ?_
  refine J_iload_n (pc := 1) 1 dX11_mayAlter_1 rfl rfl ?_
  refine JC_pt_i (J_callV (mi := mi_X11_mayAlter) (mj := mi_X11_isGate) (pc := 2) dX11_mayAlter_2 ml_X11_142 ok_X11_isGate ov_X11_isGate ⟨Nat.le_of_ble_eq_true rfl, Nat.le_of_ble_eq_true rfl⟩ rfl (h0.lt 0 (by decide)) (h0.ty 0 rfl) rfl (s_X11_isGate g d a pq0 h0 ha hco) rfl (Nat.le_of_ble_eq_true rfl)) ?_
  refine K_ifne_b (K := k) (pc := 5) (tgt := 14) dX11_mayAlter_5 (by decide) (fun z5 => ?_) (fun z5 => ?_)
  · refine J_aload_n (pc := 14) 0 dX11_mayAlter_14 rfl rfl ?_
    refine J_getR (pc := 15) dX11_mayAlter_15 fl_X11_28 (h0.lt 0 (by decide)) (h0.ty 0 rfl) rfl (h0.rf 2 rfl) ?_
    refine J_getI (pc := 18) dX11_mayAlter_18 fl_X11_159 (h0.lt 22 (by decide)) (h0.ty 22 rfl) rfl ?_
    refine J_iload_n (pc := 21) 1 dX11_mayAlter_21 rfl rfl ?_
    refine JC_pt_i (J_callS (mi := mi_X11_mayAlter) (mj := mi_X10_hungAt) (pc := 22) dX11_mayAlter_22 ml_X11_162 ok_X10_hungAt os_X10_hungAt ⟨Nat.le_of_ble_eq_true rfl, Nat.le_of_ble_eq_true rfl⟩ rfl (s_X10_hungAt g d ((d.1 22) 0) pq0) rfl (Nat.le_of_ble_eq_true rfl)) ?_
    refine K_if_ne (K := k) (pc := 25) (tgt := 36) dX11_mayAlter_25 (by decide) (fun z25 => ?_) (fun z25 => ?_)
    · refine J_iconst (pc := 36) (v := 1) dX11_mayAlter_36 (by decide) ?_
      refine J_goto (pc := 37) (tgt := 41) dX11_mayAlter_37 (by decide) ?_
      exact J_eqo (hk (true, d)) (J_zretB (pc := 41) dX11_mayAlter_41 rfl)
    · refine J_aload_n (pc := 28) 0 dX11_mayAlter_28 rfl rfl ?_
      refine J_iconst (pc := 29) (v := 5) dX11_mayAlter_29 (by decide) ?_
      refine JC_lt_b (K := k) (J_callV (mi := mi_X11_mayAlter) (mj := mi_X11_denied) (pc := 30) dX11_mayAlter_30 ml_X11_345 ok_X11_denied ov_X11_denied ⟨Nat.le_of_ble_eq_true rfl, Nat.le_of_ble_eq_true rfl⟩ rfl (h0.lt 0 (by decide)) (h0.ty 0 rfl) rfl (s_X11_denied g d 5 h0) rfl (Nat.le_of_ble_eq_true rfl)) (fun q30 eq30 => ?_)
      refine K_ifeq_b (K := k) (pc := 33) (tgt := 40) dX11_mayAlter_33 (by decide) (fun z33 => ?_) (fun z33 => ?_)
      · refine J_iconst (pc := 40) (v := 0) dX11_mayAlter_40 (by decide) ?_
        exact J_eqo (hk (false, q30.2)) (J_zretB (pc := 41) dX11_mayAlter_41 rfl)
      · refine J_iconst (pc := 36) (v := 1) dX11_mayAlter_36 (by decide) ?_
        refine J_goto (pc := 37) (tgt := 41) dX11_mayAlter_37 (by decide) ?_
        exact J_eqo (hk (true, q30.2)) (J_zretB (pc := 41) dX11_mayAlter_41 rfl)
  · refine J_aload_n (pc := 8) 0 dX11_mayAlter_8 rfl rfl ?_
    refine J_iconst (pc := 9) (v := 1) dX11_mayAlter_9 (by decide) ?_
    refine JC_lt_b (K := k) (J_callV (mi := mi_X11_mayAlter) (mj := mi_X11_denied) (pc := 10) dX11_mayAlter_10 ml_X11_345 ok_X11_denied ov_X11_denied ⟨Nat.le_of_ble_eq_true rfl, Nat.le_of_ble_eq_true rfl⟩ rfl (h0.lt 0 (by decide)) (h0.ty 0 rfl) rfl (s_X11_denied g d 1 h0) rfl (Nat.le_of_ble_eq_true rfl)) (fun q10 eq10 => ?_)
    exact J_eqo (hk (q10.1, q10.2)) (J_zretB (pc := 13) dX11_mayAlter_13 rfl)
def f_X11_take (a : Nat) (d : JD) (pq0 : Int32) : Option (Bool × JD) := (j_let (f_X11_mayAlter a d pq0) (fun q2 => if q2.1 = true then ((f_X11_act q2.2 (f_X3_wayAfter (q2.2.1 a) ((q2.2.1 22) 0) 2 pq0)).bind (fun q25 => if q25.1 = true then (some (true, q25.2)) else (some (false, q25.2)))) else (some (false, q2.2))))
set_option maxRecDepth 100000 in
set_option maxHeartbeats 4000000 in
theorem s_X11_take (g : JG) (d : JD) (a : Nat) (pq0 : Int32) (h0 : j_sh g 0 TS_W RS_W) (ha : j_sh g a TS_CL RS_CL) (hco : g.2.2.1 0 10 = some a) : JM mi_X11_take 0 0 (g, d) [.ref 0, .int pq0] ((f_X11_take a d pq0).bind (fun r9 => some (some (.int (j_b r9.1)), (g, r9.2)))) := by
  refine JM_of (by decide) rfl (Nat.le_of_ble_eq_true rfl) ?_
  refine J_loc (loc' := [(0, .ref 0), (1, .int pq0)]) [0, 1] rfl ?_
  obtain ⟨k, hk, hk2⟩ : ∃ k : Bool × JD → Option (Option Value × JH), (∀ r9, k r9 = some (some (.int (j_b r9.1)), (g, r9.2))) ∧ (fun r9 : Bool × JD => (some (some (.int (j_b r9.1)), (g, r9.2)) : Option (Option Value × JH))) = k := ⟨_, fun _ => rfl, rfl⟩
  rw [hk2]
  unfold f_X11_take
  refine J_aload_n (pc := 0) 0 dX11_take_0 rfl rfl ?_
  refine J_iload_n (pc := 1) 1 dX11_take_1 rfl rfl ?_
  refine JC_lt_b (K := (fun x => Option.bind x k)) (J_callV (mi := mi_X11_take) (mj := mi_X11_mayAlter) (pc := 2) dX11_take_2 ml_X11_381 ok_X11_mayAlter ov_X11_mayAlter ⟨Nat.le_of_ble_eq_true rfl, Nat.le_of_ble_eq_true rfl⟩ rfl (h0.lt 0 (by decide)) (h0.ty 0 rfl) rfl (s_X11_mayAlter g d a pq0 h0 ha hco) rfl (Nat.le_of_ble_eq_true rfl)) (fun q2 eq2 => ?_)
  refine K_ifeq_b (K := (fun x => Option.bind x k)) (pc := 5) (tgt := 35) dX11_take_5 (by decide) (fun z5 => ?_) (fun z5 => ?_)
  · refine J_iconst (pc := 35) (v := 0) dX11_take_35 (by decide) ?_
    exact J_eqo (hk (false, q2.2)) (J_zretB (pc := 36) dX11_take_36 rfl)
  · refine J_aload_n (pc := 8) 0 dX11_take_8 rfl rfl ?_
    refine J_aload_n (pc := 9) 0 dX11_take_9 rfl rfl ?_
    refine J_getR (pc := 10) dX11_take_10 fl_X11_78 (h0.lt 0 (by decide)) (h0.ty 0 rfl) rfl hco ?_
    refine J_aload_n (pc := 13) 0 dX11_take_13 rfl rfl ?_
    refine J_getR (pc := 14) dX11_take_14 fl_X11_28 (h0.lt 0 (by decide)) (h0.ty 0 rfl) rfl (h0.rf 2 rfl) ?_
    refine J_getI (pc := 17) dX11_take_17 fl_X11_159 (h0.lt 22 (by decide)) (h0.ty 22 rfl) rfl ?_
    refine J_iconst (pc := 20) (v := 2) dX11_take_20 (by decide) ?_
    refine J_iload_n (pc := 21) 1 dX11_take_21 rfl rfl ?_
    refine JC_pt_i (J_callV (mi := mi_X11_take) (mj := mi_X3_wayAfter) (pc := 22) dX11_take_22 ml_X11_220 ok_X3_wayAfter ov_X3_wayAfter ⟨Nat.le_of_ble_eq_true rfl, Nat.le_of_ble_eq_true rfl⟩ rfl (ha.lt 0 (by decide)) (ha.ty 0 rfl) rfl (s_X3_wayAfter g q2.2 a ((q2.2.1 22) 0) 2 pq0 ha) rfl (Nat.le_of_ble_eq_true rfl)) ?_
    refine JC_pe_b (J_callV (mi := mi_X11_take) (mj := mi_X11_act) (pc := 25) dX11_take_25 ml_X11_378 ok_X11_act ov_X11_act ⟨Nat.le_of_ble_eq_true rfl, Nat.le_of_ble_eq_true rfl⟩ rfl (h0.lt 0 (by decide)) (h0.ty 0 rfl) rfl (s_X11_act g q2.2 (f_X3_wayAfter (q2.2.1 a) ((q2.2.1 22) 0) 2 pq0) h0) rfl (Nat.le_of_ble_eq_true rfl)) (fun q25 => ?_)
    refine K_ifeq_b (K := (fun x => Option.bind x k)) (pc := 28) (tgt := 35) dX11_take_28 (by decide) (fun z28 => ?_) (fun z28 => ?_)
    · refine J_iconst (pc := 35) (v := 0) dX11_take_35 (by decide) ?_
      exact J_eqo (hk (false, q25.2)) (J_zretB (pc := 36) dX11_take_36 rfl)
    · refine J_iconst (pc := 31) (v := 1) dX11_take_31 (by decide) ?_
      refine J_goto (pc := 32) (tgt := 36) dX11_take_32 (by decide) ?_
      exact J_eqo (hk (true, q25.2)) (J_zretB (pc := 36) dX11_take_36 rfl)
def f_X11_turnOver_j36 (a : Nat) (d36 : JD) (x1_36 : Int32) (y0_36 : Int32) : Option (Int32 × JD) := (if y0_36 = 0 then (some ((-1), d36)) else (some (f_X10_hungAt ((d36.1 22) 0) x1_36, d36)))
def f_X11_turnOver_j35 (a : Nat) (d35 : JD) (x1_35 : Int32) : Option (Int32 × JD) := (f_X11_turnOver_j36 a d35 x1_35 0)
def f_X11_turnOver (a : Nat) (d : JD) (pq0 : Int32) : Option (Int32 × JD) := (j_let (f_X11_mayAlter a d pq0) (fun q2 => if q2.1 = true then ((f_X11_act q2.2 (f_X3_wayAfter (q2.2.1 a) ((q2.2.1 22) 0) 3 pq0)).bind (fun q25 => if q25.1 = true then (f_X11_turnOver_j36 a q25.2 pq0 1) else f_X11_turnOver_j35 a q25.2 pq0)) else f_X11_turnOver_j35 a q2.2 pq0))
set_option maxRecDepth 100000 in
set_option maxHeartbeats 4000000 in
theorem s_X11_turnOver (g : JG) (d : JD) (a : Nat) (pq0 : Int32) (h0 : j_sh g 0 TS_W RS_W) (ha : j_sh g a TS_CL RS_CL) (hco : g.2.2.1 0 10 = some a) : JM mi_X11_turnOver 0 0 (g, d) [.ref 0, .int pq0] ((f_X11_turnOver a d pq0).bind (fun r9 => some (some (.int r9.1), (g, r9.2)))) := by
  refine JM_of (by decide) rfl (Nat.le_of_ble_eq_true rfl) ?_
  refine J_loc (loc' := [(0, .ref 0), (1, .int pq0)]) [0, 1] rfl ?_
  obtain ⟨k, hk, hk2⟩ : ∃ k : Int32 × JD → Option (Option Value × JH), (∀ r9, k r9 = some (some (.int r9.1), (g, r9.2))) ∧ (fun r9 : Int32 × JD => (some (some (.int r9.1), (g, r9.2)) : Option (Option Value × JH))) = k := ⟨_, fun _ => rfl, rfl⟩
  rw [hk2]
  unfold f_X11_turnOver
  have hX11_turnOver_j36 : ∀ (d36 : JD) (x1_36 : Int32) (y0_36 : Int32), J mi_X11_turnOver 0 0 0 0 (g, d36) 36 [(0, .ref 0), (1, .int x1_36)] [.int y0_36] ((f_X11_turnOver_j36 a d36 x1_36 y0_36).bind k) := by
    intro d36 x1_36 y0_36
    unfold f_X11_turnOver_j36
    refine J_istore_n (pc := 36) (loc' := [(2, .int y0_36), (0, .ref 0), (1, .int x1_36)]) dX11_turnOver_36 rfl (by decide) rfl ?_
    refine J_iload_n (pc := 37) 0 dX11_turnOver_37 rfl rfl ?_
    refine K_if_eq (K := (fun x => Option.bind x k)) (pc := 38) (tgt := 55) dX11_turnOver_38 (by decide) (fun z38 => ?_) (fun z38 => ?_)
    · refine J_iconst (pc := 55) (v := (-1)) dX11_turnOver_55 (by decide) ?_
      exact J_eqo (hk ((-1), d36)) (J_iret (pc := 56) dX11_turnOver_56 rfl)
    · refine J_aload_n (pc := 41) 1 dX11_turnOver_41 rfl rfl ?_
      refine J_getR (pc := 42) dX11_turnOver_42 fl_X11_28 (h0.lt 0 (by decide)) (h0.ty 0 rfl) rfl (h0.rf 2 rfl) ?_
      refine J_getI (pc := 45) dX11_turnOver_45 fl_X11_159 (h0.lt 22 (by decide)) (h0.ty 22 rfl) rfl ?_
      refine J_iload_n (pc := 48) 2 dX11_turnOver_48 rfl rfl ?_
      refine JC_pt_i (J_callS (mi := mi_X11_turnOver) (mj := mi_X10_hungAt) (pc := 49) dX11_turnOver_49 ml_X11_162 ok_X10_hungAt os_X10_hungAt ⟨Nat.le_of_ble_eq_true rfl, Nat.le_of_ble_eq_true rfl⟩ rfl (s_X10_hungAt g d36 ((d36.1 22) 0) x1_36) rfl (Nat.le_of_ble_eq_true rfl)) ?_
      refine J_goto (pc := 52) (tgt := 56) dX11_turnOver_52 (by decide) ?_
      exact J_eqo (hk (f_X10_hungAt ((d36.1 22) 0) x1_36, d36)) (J_iret (pc := 56) dX11_turnOver_56 rfl)
  have hX11_turnOver_j35 : ∀ (d35 : JD) (x1_35 : Int32), J mi_X11_turnOver 0 0 0 0 (g, d35) 35 [(0, .ref 0), (1, .int x1_35)] [] ((f_X11_turnOver_j35 a d35 x1_35).bind k) := by
    intro d35 x1_35
    unfold f_X11_turnOver_j35
    refine J_iconst (pc := 35) (v := 0) dX11_turnOver_35 (by decide) ?_
    exact hX11_turnOver_j36 d35 x1_35 0
  refine J_aload_n (pc := 0) 0 dX11_turnOver_0 rfl rfl ?_
  refine J_iload_n (pc := 1) 1 dX11_turnOver_1 rfl rfl ?_
  refine JC_lt_b (K := (fun x => Option.bind x k)) (J_callV (mi := mi_X11_turnOver) (mj := mi_X11_mayAlter) (pc := 2) dX11_turnOver_2 ml_X11_381 ok_X11_mayAlter ov_X11_mayAlter ⟨Nat.le_of_ble_eq_true rfl, Nat.le_of_ble_eq_true rfl⟩ rfl (h0.lt 0 (by decide)) (h0.ty 0 rfl) rfl (s_X11_mayAlter g d a pq0 h0 ha hco) rfl (Nat.le_of_ble_eq_true rfl)) (fun q2 eq2 => ?_)
  refine K_ifeq_b (K := (fun x => Option.bind x k)) (pc := 5) (tgt := 35) dX11_turnOver_5 (by decide) (fun z5 => ?_) (fun z5 => ?_)
  · exact hX11_turnOver_j35 q2.2 pq0
  · refine J_aload_n (pc := 8) 0 dX11_turnOver_8 rfl rfl ?_
    refine J_aload_n (pc := 9) 0 dX11_turnOver_9 rfl rfl ?_
    refine J_getR (pc := 10) dX11_turnOver_10 fl_X11_78 (h0.lt 0 (by decide)) (h0.ty 0 rfl) rfl hco ?_
    refine J_aload_n (pc := 13) 0 dX11_turnOver_13 rfl rfl ?_
    refine J_getR (pc := 14) dX11_turnOver_14 fl_X11_28 (h0.lt 0 (by decide)) (h0.ty 0 rfl) rfl (h0.rf 2 rfl) ?_
    refine J_getI (pc := 17) dX11_turnOver_17 fl_X11_159 (h0.lt 22 (by decide)) (h0.ty 22 rfl) rfl ?_
    refine J_iconst (pc := 20) (v := 3) dX11_turnOver_20 (by decide) ?_
    refine J_iload_n (pc := 21) 1 dX11_turnOver_21 rfl rfl ?_
    refine JC_pt_i (J_callV (mi := mi_X11_turnOver) (mj := mi_X3_wayAfter) (pc := 22) dX11_turnOver_22 ml_X11_220 ok_X3_wayAfter ov_X3_wayAfter ⟨Nat.le_of_ble_eq_true rfl, Nat.le_of_ble_eq_true rfl⟩ rfl (ha.lt 0 (by decide)) (ha.ty 0 rfl) rfl (s_X3_wayAfter g q2.2 a ((q2.2.1 22) 0) 3 pq0 ha) rfl (Nat.le_of_ble_eq_true rfl)) ?_
    refine JC_pe_b (J_callV (mi := mi_X11_turnOver) (mj := mi_X11_act) (pc := 25) dX11_turnOver_25 ml_X11_378 ok_X11_act ov_X11_act ⟨Nat.le_of_ble_eq_true rfl, Nat.le_of_ble_eq_true rfl⟩ rfl (h0.lt 0 (by decide)) (h0.ty 0 rfl) rfl (s_X11_act g q2.2 (f_X3_wayAfter (q2.2.1 a) ((q2.2.1 22) 0) 3 pq0) h0) rfl (Nat.le_of_ble_eq_true rfl)) (fun q25 => ?_)
    refine K_ifeq_b (K := (fun x => Option.bind x k)) (pc := 28) (tgt := 35) dX11_turnOver_28 (by decide) (fun z28 => ?_) (fun z28 => ?_)
    · exact hX11_turnOver_j35 q25.2 pq0
    · refine J_iconst (pc := 31) (v := 1) dX11_turnOver_31 (by decide) ?_
      refine J_goto (pc := 32) (tgt := 36) dX11_turnOver_32 (by decide) ?_
      exact hX11_turnOver_j36 q25.2 pq0 1
def f_X11_gust (a : Nat) (d : JD) : Option (Int32 × JD) := (if (f_X11_hasLand (d.1 a)) = true then (if ((d.1 22) 2) < 999 then ((f_X7_addLatest 22 24 d).bind (fun q40 => (f_X4_blow a 22 q40).bind (fun q52 => j_let (f_X11_answered q52.2 q52.1) (fun q55 => some (q55.1, q55.2))))) else (j_let (f_X11_refused d 3) (fun q28 => some (q28.1, q28.2)))) else (j_let (f_X11_refused d 1) (fun q9 => some (q9.1, q9.2))))
set_option maxRecDepth 100000 in
set_option maxHeartbeats 4000000 in
theorem s_X11_gust (g : JG) (d : JD) (a : Nat) (h0 : j_sh g 0 TS_W RS_W) (ha : j_sh g a TS_CL RS_CL) (hco : g.2.2.1 0 10 = some a) : JM mi_X11_gust 0 0 (g, d) [.ref 0] ((f_X11_gust a d ).bind (fun r9 => some (some (.int r9.1), (g, r9.2)))) := by
  refine JM_of (by decide) rfl (Nat.le_of_ble_eq_true rfl) ?_
  refine J_loc (loc' := [(0, .ref 0)]) [0] rfl ?_
  obtain ⟨k, hk, hk2⟩ : ∃ k : Int32 × JD → Option (Option Value × JH), (∀ r9, k r9 = some (some (.int r9.1), (g, r9.2))) ∧ (fun r9 : Int32 × JD => (some (some (.int r9.1), (g, r9.2)) : Option (Option Value × JH))) = k := ⟨_, fun _ => rfl, rfl⟩
  rw [hk2]
  unfold f_X11_gust
  refine J_aload_n (pc := 0) 0 dX11_gust_0 rfl rfl ?_
  refine JC_pt_i (J_callV (mi := mi_X11_gust) (mj := mi_X11_hasLand) (pc := 1) dX11_gust_1 ml_X11_201 ok_X11_hasLand ov_X11_hasLand ⟨Nat.le_of_ble_eq_true rfl, Nat.le_of_ble_eq_true rfl⟩ rfl (h0.lt 0 (by decide)) (h0.ty 0 rfl) rfl (s_X11_hasLand g d a h0 ha hco) rfl (Nat.le_of_ble_eq_true rfl)) ?_
  refine K_ifne_b (K := (fun x => Option.bind x k)) (pc := 4) (tgt := 13) dX11_gust_4 (by decide) (fun z4 => ?_) (fun z4 => ?_)
  · refine J_aload_n (pc := 13) 0 dX11_gust_13 rfl rfl ?_
    refine J_getR (pc := 14) dX11_gust_14 fl_X11_28 (h0.lt 0 (by decide)) (h0.ty 0 rfl) rfl (h0.rf 2 rfl) ?_
    refine J_getI (pc := 17) dX11_gust_17 fl_X11_391 (h0.lt 22 (by decide)) (h0.ty 22 rfl) rfl ?_
    refine J_sipush (pc := 20) (v := 999) dX11_gust_20 (by decide) ?_
    refine K_icmp_lt (K := (fun x => Option.bind x k)) (pc := 23) (tgt := 32) dX11_gust_23 (by decide) (fun z23 => ?_) (fun z23 => ?_)
    · refine J_aload_n (pc := 32) 0 dX11_gust_32 rfl rfl ?_
      refine J_getR (pc := 33) dX11_gust_33 fl_X11_40 (h0.lt 0 (by decide)) (h0.ty 0 rfl) rfl (h0.rf 4 rfl) ?_
      refine J_aload_n (pc := 36) 0 dX11_gust_36 rfl rfl ?_
      refine J_getR (pc := 37) dX11_gust_37 fl_X11_28 (h0.lt 0 (by decide)) (h0.ty 0 rfl) rfl (h0.rf 2 rfl) ?_
      refine JC_pe_v (J_callV (mi := mi_X11_gust) (mj := mi_X7_addLatest) (pc := 40) dX11_gust_40 ml_X11_384 ok_X7_addLatest ov_X7_addLatest ⟨Nat.le_of_ble_eq_true rfl, Nat.le_of_ble_eq_true rfl⟩ rfl (h0.lt 24 (by decide)) (h0.ty 24 rfl) rfl (s_X7_addLatest g d 22 24 (sh_MO_22 h0) (sh_SH_24 h0)) rfl (Nat.le_of_ble_eq_true rfl)) (fun q40 => ?_)
      refine J_aload_n (pc := 43) 0 dX11_gust_43 rfl rfl ?_
      refine J_aload_n (pc := 44) 0 dX11_gust_44 rfl rfl ?_
      refine J_getR (pc := 45) dX11_gust_45 fl_X11_28 (h0.lt 0 (by decide)) (h0.ty 0 rfl) rfl (h0.rf 2 rfl) ?_
      refine J_aload_n (pc := 48) 0 dX11_gust_48 rfl rfl ?_
      refine J_getR (pc := 49) dX11_gust_49 fl_X11_78 (h0.lt 0 (by decide)) (h0.ty 0 rfl) rfl hco ?_
      refine JC_pe_i (J_callV (mi := mi_X11_gust) (mj := mi_X4_blow) (pc := 52) dX11_gust_52 ml_X11_372 ok_X4_blow ov_X4_blow ⟨Nat.le_of_ble_eq_true rfl, Nat.le_of_ble_eq_true rfl⟩ rfl (h0.lt 22 (by decide)) (h0.ty 22 rfl) rfl (s_X4_blow g q40 a 22 ha (sh_MO_22 h0)) rfl (Nat.le_of_ble_eq_true rfl)) (fun q52 => ?_)
      refine JC_lt_i (K := (fun x => Option.bind x k)) (J_callV (mi := mi_X11_gust) (mj := mi_X11_answered) (pc := 55) dX11_gust_55 ml_X11_120 ok_X11_answered ov_X11_answered ⟨Nat.le_of_ble_eq_true rfl, Nat.le_of_ble_eq_true rfl⟩ rfl (h0.lt 0 (by decide)) (h0.ty 0 rfl) rfl (s_X11_answered g q52.2 q52.1 h0) rfl (Nat.le_of_ble_eq_true rfl)) (fun q55 eq55 => ?_)
      exact J_eqo (hk (q55.1, q55.2)) (J_iret (pc := 58) dX11_gust_58 rfl)
    · refine J_aload_n (pc := 26) 0 dX11_gust_26 rfl rfl ?_
      refine J_iconst (pc := 27) (v := 3) dX11_gust_27 (by decide) ?_
      refine JC_lt_i (K := (fun x => Option.bind x k)) (J_callV (mi := mi_X11_gust) (mj := mi_X11_refused) (pc := 28) dX11_gust_28 ml_X11_102 ok_X11_refused ov_X11_refused ⟨Nat.le_of_ble_eq_true rfl, Nat.le_of_ble_eq_true rfl⟩ rfl (h0.lt 0 (by decide)) (h0.ty 0 rfl) rfl (s_X11_refused g d 3 h0) rfl (Nat.le_of_ble_eq_true rfl)) (fun q28 eq28 => ?_)
      exact J_eqo (hk (q28.1, q28.2)) (J_iret (pc := 31) dX11_gust_31 rfl)
  · refine J_aload_n (pc := 7) 0 dX11_gust_7 rfl rfl ?_
    refine J_iconst (pc := 8) (v := 1) dX11_gust_8 (by decide) ?_
    refine JC_lt_i (K := (fun x => Option.bind x k)) (J_callV (mi := mi_X11_gust) (mj := mi_X11_refused) (pc := 9) dX11_gust_9 ml_X11_102 ok_X11_refused ov_X11_refused ⟨Nat.le_of_ble_eq_true rfl, Nat.le_of_ble_eq_true rfl⟩ rfl (h0.lt 0 (by decide)) (h0.ty 0 rfl) rfl (s_X11_refused g d 1 h0) rfl (Nat.le_of_ble_eq_true rfl)) (fun q9 eq9 => ?_)
    exact J_eqo (hk (q9.1, q9.2)) (J_iret (pc := 12) dX11_gust_12 rfl)
def f_X11_seed (a : Nat) (d : JD) (pq0 : Int32) : Bool × JD := (if (f_X11_hasLand (d.1 a)) = true then (if (f_X11_isSeed pq0) = true then (j_let (f_X4_set 22 d ((d.1 22) 0) pq0 ((d.1 22) 2)) (fun q45 => (true, j_sI q45 0 11 0))) else (j_let (f_X11_denied d 2) (fun q22 => (q22.1, q22.2)))) else (j_let (f_X11_denied d 1) (fun q9 => (q9.1, q9.2))))
set_option maxRecDepth 100000 in
set_option maxHeartbeats 4000000 in
theorem s_X11_seed (g : JG) (d : JD) (a : Nat) (pq0 : Int32) (h0 : j_sh g 0 TS_W RS_W) (ha : j_sh g a TS_CL RS_CL) (hco : g.2.2.1 0 10 = some a) : JM mi_X11_seed 0 0 (g, d) [.ref 0, .int pq0] (some (some (.int (j_b (f_X11_seed a d pq0).1)), (g, (f_X11_seed a d pq0).2))) := by
  refine JM_of (by decide) rfl (Nat.le_of_ble_eq_true rfl) ?_
  refine J_loc (loc' := [(0, .ref 0), (1, .int pq0)]) [0, 1] rfl ?_
  obtain ⟨k, hk⟩ : ∃ k : Bool × JD → Option (Option Value × JH), ∀ r9, k r9 = some (some (.int (j_b r9.1)), (g, r9.2)) := ⟨_, fun _ => rfl⟩
  refine J_eqo (hk (f_X11_seed a d pq0)).symm ?_
  unfold f_X11_seed
  refine J_aload_n (pc := 0) 0 dX11_seed_0 rfl rfl ?_
  refine JC_pt_i (J_callV (mi := mi_X11_seed) (mj := mi_X11_hasLand) (pc := 1) dX11_seed_1 ml_X11_201 ok_X11_hasLand ov_X11_hasLand ⟨Nat.le_of_ble_eq_true rfl, Nat.le_of_ble_eq_true rfl⟩ rfl (h0.lt 0 (by decide)) (h0.ty 0 rfl) rfl (s_X11_hasLand g d a h0 ha hco) rfl (Nat.le_of_ble_eq_true rfl)) ?_
  refine K_ifne_b (K := k) (pc := 4) (tgt := 13) dX11_seed_4 (by decide) (fun z4 => ?_) (fun z4 => ?_)
  · refine J_iload_n (pc := 13) 1 dX11_seed_13 rfl rfl ?_
    refine JC_pt_i (J_callS (mi := mi_X11_seed) (mj := mi_X11_isSeed) (pc := 14) dX11_seed_14 ml_X11_366 ok_X11_isSeed os_X11_isSeed ⟨Nat.le_of_ble_eq_true rfl, Nat.le_of_ble_eq_true rfl⟩ rfl (s_X11_isSeed g d pq0) rfl (Nat.le_of_ble_eq_true rfl)) ?_
    refine K_ifne_b (K := k) (pc := 17) (tgt := 26) dX11_seed_17 (by decide) (fun z17 => ?_) (fun z17 => ?_)
    · refine J_aload_n (pc := 26) 0 dX11_seed_26 rfl rfl ?_
      refine J_getR (pc := 27) dX11_seed_27 fl_X11_28 (h0.lt 0 (by decide)) (h0.ty 0 rfl) rfl (h0.rf 2 rfl) ?_
      refine J_aload_n (pc := 30) 0 dX11_seed_30 rfl rfl ?_
      refine J_getR (pc := 31) dX11_seed_31 fl_X11_28 (h0.lt 0 (by decide)) (h0.ty 0 rfl) rfl (h0.rf 2 rfl) ?_
      refine J_getI (pc := 34) dX11_seed_34 fl_X11_159 (h0.lt 22 (by decide)) (h0.ty 22 rfl) rfl ?_
      refine J_iload_n (pc := 37) 1 dX11_seed_37 rfl rfl ?_
      refine J_aload_n (pc := 38) 0 dX11_seed_38 rfl rfl ?_
      refine J_getR (pc := 39) dX11_seed_39 fl_X11_28 (h0.lt 0 (by decide)) (h0.ty 0 rfl) rfl (h0.rf 2 rfl) ?_
      refine J_getI (pc := 42) dX11_seed_42 fl_X11_391 (h0.lt 22 (by decide)) (h0.ty 22 rfl) rfl ?_
      refine JC_lt_v (K := k) (J_callV (mi := mi_X11_seed) (mj := mi_X4_set) (pc := 45) dX11_seed_45 ml_X11_130 ok_X4_set ov_X4_set ⟨Nat.le_of_ble_eq_true rfl, Nat.le_of_ble_eq_true rfl⟩ rfl (h0.lt 22 (by decide)) (h0.ty 22 rfl) rfl (s_X4_set g d 22 ((d.1 22) 0) pq0 ((d.1 22) 2) (sh_MO_22 h0)) rfl (Nat.le_of_ble_eq_true rfl)) (fun q45 eq45 => ?_)
      refine J_aload_n (pc := 48) 0 dX11_seed_48 rfl rfl ?_
      refine J_iconst (pc := 49) (v := 0) dX11_seed_49 (by decide) ?_
      refine J_putI (pc := 50) dX11_seed_50 fl_X11_82 ft_10_11 (h0.lt 0 (by decide)) (h0.ty 0 rfl) rfl rfl rfl ?_
      refine J_iconst (pc := 53) (v := 1) dX11_seed_53 (by decide) ?_
      exact J_eqo (hk (true, j_sI q45 0 11 0)) (J_zretB (pc := 54) dX11_seed_54 rfl)
    · refine J_aload_n (pc := 20) 0 dX11_seed_20 rfl rfl ?_
      refine J_iconst (pc := 21) (v := 2) dX11_seed_21 (by decide) ?_
      refine JC_lt_b (K := k) (J_callV (mi := mi_X11_seed) (mj := mi_X11_denied) (pc := 22) dX11_seed_22 ml_X11_345 ok_X11_denied ov_X11_denied ⟨Nat.le_of_ble_eq_true rfl, Nat.le_of_ble_eq_true rfl⟩ rfl (h0.lt 0 (by decide)) (h0.ty 0 rfl) rfl (s_X11_denied g d 2 h0) rfl (Nat.le_of_ble_eq_true rfl)) (fun q22 eq22 => ?_)
      exact J_eqo (hk (q22.1, q22.2)) (J_zretB (pc := 25) dX11_seed_25 rfl)
  · refine J_aload_n (pc := 7) 0 dX11_seed_7 rfl rfl ?_
    refine J_iconst (pc := 8) (v := 1) dX11_seed_8 (by decide) ?_
    refine JC_lt_b (K := k) (J_callV (mi := mi_X11_seed) (mj := mi_X11_denied) (pc := 9) dX11_seed_9 ml_X11_345 ok_X11_denied ov_X11_denied ⟨Nat.le_of_ble_eq_true rfl, Nat.le_of_ble_eq_true rfl⟩ rfl (h0.lt 0 (by decide)) (h0.ty 0 rfl) rfl (s_X11_denied g d 1 h0) rfl (Nat.le_of_ble_eq_true rfl)) (fun q9 eq9 => ?_)
    exact J_eqo (hk (q9.1, q9.2)) (J_zretB (pc := 12) dX11_seed_12 rfl)
def f_X11_undo (d : JD) : Bool × JD := (if ((d.1 24) 4) = 0 then (j_let (f_X11_denied d 6) (fun q13 => (q13.1, q13.2))) else (j_let (f_X7_bringBack 22 24 (j_sI d 24 4 (((d.1 24) 4) - 1)) (((d.1 24) 4) - 1)) (fun q45 => (true, j_sI q45 0 11 0))))
set_option maxRecDepth 100000 in
set_option maxHeartbeats 4000000 in
theorem s_X11_undo (g : JG) (d : JD) (h0 : j_sh g 0 TS_W RS_W) : JM mi_X11_undo 0 0 (g, d) [.ref 0] (some (some (.int (j_b (f_X11_undo d ).1)), (g, (f_X11_undo d ).2))) := by
  refine JM_of (by decide) rfl (Nat.le_of_ble_eq_true rfl) ?_
  refine J_loc (loc' := [(0, .ref 0)]) [0] rfl ?_
  obtain ⟨k, hk⟩ : ∃ k : Bool × JD → Option (Option Value × JH), ∀ r9, k r9 = some (some (.int (j_b r9.1)), (g, r9.2)) := ⟨_, fun _ => rfl⟩
  refine J_eqo (hk (f_X11_undo d )).symm ?_
  unfold f_X11_undo
  refine J_aload_n (pc := 0) 0 dX11_undo_0 rfl rfl ?_
  refine J_getR (pc := 1) dX11_undo_1 fl_X11_40 (h0.lt 0 (by decide)) (h0.ty 0 rfl) rfl (h0.rf 4 rfl) ?_
  refine J_getI (pc := 4) dX11_undo_4 fl_X11_134 (h0.lt 24 (by decide)) (h0.ty 24 rfl) rfl ?_
  refine K_if_ne (K := k) (pc := 7) (tgt := 17) dX11_undo_7 (by decide) (fun z7 => ?_) (fun z7 => ?_)
  · refine J_aload_n (pc := 17) 0 dX11_undo_17 rfl rfl ?_
    refine J_getR (pc := 18) dX11_undo_18 fl_X11_40 (h0.lt 0 (by decide)) (h0.ty 0 rfl) rfl (h0.rf 4 rfl) ?_
    refine J_dup (pc := 21) dX11_undo_21 rfl ?_
    refine J_getI (pc := 22) dX11_undo_22 fl_X11_134 (h0.lt 24 (by decide)) (h0.ty 24 rfl) rfl ?_
    refine J_iconst (pc := 25) (v := 1) dX11_undo_25 (by decide) ?_
    refine J_isub (pc := 26) dX11_undo_26 ?_
    refine J_putI (pc := 27) dX11_undo_27 fl_X11_134 ft_7_4 (h0.lt 24 (by decide)) (h0.ty 24 rfl) rfl rfl rfl ?_
    refine J_aload_n (pc := 30) 0 dX11_undo_30 rfl rfl ?_
    refine J_getR (pc := 31) dX11_undo_31 fl_X11_40 (h0.lt 0 (by decide)) (h0.ty 0 rfl) rfl (h0.rf 4 rfl) ?_
    refine J_aload_n (pc := 34) 0 dX11_undo_34 rfl rfl ?_
    refine J_getR (pc := 35) dX11_undo_35 fl_X11_40 (h0.lt 0 (by decide)) (h0.ty 0 rfl) rfl (h0.rf 4 rfl) ?_
    refine J_getI (pc := 38) dX11_undo_38 fl_X11_134 (h0.lt 24 (by decide)) (h0.ty 24 rfl) rfl ?_
    refine J_val (y := ((d.1 24) 4) - 1) rfl ?_
    refine J_aload_n (pc := 41) 0 dX11_undo_41 rfl rfl ?_
    refine J_getR (pc := 42) dX11_undo_42 fl_X11_28 (h0.lt 0 (by decide)) (h0.ty 0 rfl) rfl (h0.rf 2 rfl) ?_
    refine JC_lt_v (K := k) (J_callV (mi := mi_X11_undo) (mj := mi_X7_bringBack) (pc := 45) dX11_undo_45 ml_X11_394 ok_X7_bringBack ov_X7_bringBack ⟨Nat.le_of_ble_eq_true rfl, Nat.le_of_ble_eq_true rfl⟩ rfl (h0.lt 24 (by decide)) (h0.ty 24 rfl) rfl (s_X7_bringBack g (j_sI d 24 4 (((d.1 24) 4) - 1)) 22 24 (((d.1 24) 4) - 1) (sh_MO_22 h0) (sh_SH_24 h0)) rfl (Nat.le_of_ble_eq_true rfl)) (fun q45 eq45 => ?_)
    refine J_aload_n (pc := 48) 0 dX11_undo_48 rfl rfl ?_
    refine J_iconst (pc := 49) (v := 0) dX11_undo_49 (by decide) ?_
    refine J_putI (pc := 50) dX11_undo_50 fl_X11_82 ft_10_11 (h0.lt 0 (by decide)) (h0.ty 0 rfl) rfl rfl rfl ?_
    refine J_iconst (pc := 53) (v := 1) dX11_undo_53 (by decide) ?_
    exact J_eqo (hk (true, j_sI q45 0 11 0)) (J_zretB (pc := 54) dX11_undo_54 rfl)
  · refine J_aload_n (pc := 10) 0 dX11_undo_10 rfl rfl ?_
    refine J_bipush (pc := 11) (v := 6) dX11_undo_11 (by decide) ?_
    refine JC_lt_b (K := k) (J_callV (mi := mi_X11_undo) (mj := mi_X11_denied) (pc := 13) dX11_undo_13 ml_X11_345 ok_X11_denied ov_X11_denied ⟨Nat.le_of_ble_eq_true rfl, Nat.le_of_ble_eq_true rfl⟩ rfl (h0.lt 0 (by decide)) (h0.ty 0 rfl) rfl (s_X11_denied g d 6 h0) rfl (Nat.le_of_ble_eq_true rfl)) (fun q13 eq13 => ?_)
    exact J_eqo (hk (q13.1, q13.2)) (J_zretB (pc := 16) dX11_undo_16 rfl)
def f_X11_image (a : Nat) (d : JD) : Option (Int32 × JD) := (if (f_X11_hasLand (d.1 a)) = true then (if ((d.1 28) 4) < 3 then ((f_X7_addLatest 22 28 d).bind (fun q38 => j_let (f_X11_answered q38 (((q38.1 28) 4) - 1)) (fun q51 => some (q51.1, q51.2)))) else (j_let (f_X11_refused d 3) (fun q26 => some (q26.1, q26.2)))) else (j_let (f_X11_refused d 1) (fun q9 => some (q9.1, q9.2))))
set_option maxRecDepth 100000 in
set_option maxHeartbeats 4000000 in
theorem s_X11_image (g : JG) (d : JD) (a : Nat) (h0 : j_sh g 0 TS_W RS_W) (ha : j_sh g a TS_CL RS_CL) (hco : g.2.2.1 0 10 = some a) : JM mi_X11_image 0 0 (g, d) [.ref 0] ((f_X11_image a d ).bind (fun r9 => some (some (.int r9.1), (g, r9.2)))) := by
  refine JM_of (by decide) rfl (Nat.le_of_ble_eq_true rfl) ?_
  refine J_loc (loc' := [(0, .ref 0)]) [0] rfl ?_
  obtain ⟨k, hk, hk2⟩ : ∃ k : Int32 × JD → Option (Option Value × JH), (∀ r9, k r9 = some (some (.int r9.1), (g, r9.2))) ∧ (fun r9 : Int32 × JD => (some (some (.int r9.1), (g, r9.2)) : Option (Option Value × JH))) = k := ⟨_, fun _ => rfl, rfl⟩
  rw [hk2]
  unfold f_X11_image
  refine J_aload_n (pc := 0) 0 dX11_image_0 rfl rfl ?_
  refine JC_pt_i (J_callV (mi := mi_X11_image) (mj := mi_X11_hasLand) (pc := 1) dX11_image_1 ml_X11_201 ok_X11_hasLand ov_X11_hasLand ⟨Nat.le_of_ble_eq_true rfl, Nat.le_of_ble_eq_true rfl⟩ rfl (h0.lt 0 (by decide)) (h0.ty 0 rfl) rfl (s_X11_hasLand g d a h0 ha hco) rfl (Nat.le_of_ble_eq_true rfl)) ?_
  refine K_ifne_b (K := (fun x => Option.bind x k)) (pc := 4) (tgt := 13) dX11_image_4 (by decide) (fun z4 => ?_) (fun z4 => ?_)
  · refine J_aload_n (pc := 13) 0 dX11_image_13 rfl rfl ?_
    refine J_getR (pc := 14) dX11_image_14 fl_X11_44 (h0.lt 0 (by decide)) (h0.ty 0 rfl) rfl (h0.rf 5 rfl) ?_
    refine J_getI (pc := 17) dX11_image_17 fl_X11_134 (h0.lt 28 (by decide)) (h0.ty 28 rfl) rfl ?_
    refine J_iconst (pc := 20) (v := 3) dX11_image_20 (by decide) ?_
    refine K_icmp_lt (K := (fun x => Option.bind x k)) (pc := 21) (tgt := 30) dX11_image_21 (by decide) (fun z21 => ?_) (fun z21 => ?_)
    · refine J_aload_n (pc := 30) 0 dX11_image_30 rfl rfl ?_
      refine J_getR (pc := 31) dX11_image_31 fl_X11_44 (h0.lt 0 (by decide)) (h0.ty 0 rfl) rfl (h0.rf 5 rfl) ?_
      refine J_aload_n (pc := 34) 0 dX11_image_34 rfl rfl ?_
      refine J_getR (pc := 35) dX11_image_35 fl_X11_28 (h0.lt 0 (by decide)) (h0.ty 0 rfl) rfl (h0.rf 2 rfl) ?_
      refine JC_pe_v (J_callV (mi := mi_X11_image) (mj := mi_X7_addLatest) (pc := 38) dX11_image_38 ml_X11_384 ok_X7_addLatest ov_X7_addLatest ⟨Nat.le_of_ble_eq_true rfl, Nat.le_of_ble_eq_true rfl⟩ rfl (h0.lt 28 (by decide)) (h0.ty 28 rfl) rfl (s_X7_addLatest g d 22 28 (sh_MO_22 h0) (sh_SH_28 h0)) rfl (Nat.le_of_ble_eq_true rfl)) (fun q38 => ?_)
      refine J_aload_n (pc := 41) 0 dX11_image_41 rfl rfl ?_
      refine J_aload_n (pc := 42) 0 dX11_image_42 rfl rfl ?_
      refine J_getR (pc := 43) dX11_image_43 fl_X11_44 (h0.lt 0 (by decide)) (h0.ty 0 rfl) rfl (h0.rf 5 rfl) ?_
      refine J_getI (pc := 46) dX11_image_46 fl_X11_134 (h0.lt 28 (by decide)) (h0.ty 28 rfl) rfl ?_
      refine J_iconst (pc := 49) (v := 1) dX11_image_49 (by decide) ?_
      refine J_isub (pc := 50) dX11_image_50 ?_
      refine JC_lt_i (K := (fun x => Option.bind x k)) (J_callV (mi := mi_X11_image) (mj := mi_X11_answered) (pc := 51) dX11_image_51 ml_X11_120 ok_X11_answered ov_X11_answered ⟨Nat.le_of_ble_eq_true rfl, Nat.le_of_ble_eq_true rfl⟩ rfl (h0.lt 0 (by decide)) (h0.ty 0 rfl) rfl (s_X11_answered g q38 (((q38.1 28) 4) - 1) h0) rfl (Nat.le_of_ble_eq_true rfl)) (fun q51 eq51 => ?_)
      exact J_eqo (hk (q51.1, q51.2)) (J_iret (pc := 54) dX11_image_54 rfl)
    · refine J_aload_n (pc := 24) 0 dX11_image_24 rfl rfl ?_
      refine J_iconst (pc := 25) (v := 3) dX11_image_25 (by decide) ?_
      refine JC_lt_i (K := (fun x => Option.bind x k)) (J_callV (mi := mi_X11_image) (mj := mi_X11_refused) (pc := 26) dX11_image_26 ml_X11_102 ok_X11_refused ov_X11_refused ⟨Nat.le_of_ble_eq_true rfl, Nat.le_of_ble_eq_true rfl⟩ rfl (h0.lt 0 (by decide)) (h0.ty 0 rfl) rfl (s_X11_refused g d 3 h0) rfl (Nat.le_of_ble_eq_true rfl)) (fun q26 eq26 => ?_)
      exact J_eqo (hk (q26.1, q26.2)) (J_iret (pc := 29) dX11_image_29 rfl)
  · refine J_aload_n (pc := 7) 0 dX11_image_7 rfl rfl ?_
    refine J_iconst (pc := 8) (v := 1) dX11_image_8 (by decide) ?_
    refine JC_lt_i (K := (fun x => Option.bind x k)) (J_callV (mi := mi_X11_image) (mj := mi_X11_refused) (pc := 9) dX11_image_9 ml_X11_102 ok_X11_refused ov_X11_refused ⟨Nat.le_of_ble_eq_true rfl, Nat.le_of_ble_eq_true rfl⟩ rfl (h0.lt 0 (by decide)) (h0.ty 0 rfl) rfl (s_X11_refused g d 1 h0) rfl (Nat.le_of_ble_eq_true rfl)) (fun q9 eq9 => ?_)
    exact J_eqo (hk (q9.1, q9.2)) (J_iret (pc := 12) dX11_image_12 rfl)
def f_X11_back_j15 (d15 : JD) : Bool × JD := (j_let (f_X11_denied d15 1) (fun q17 => (q17.1, q17.2)))
def f_X11_back (d : JD) (pq0 : Int32) : Bool × JD := (if pq0 < 0 then f_X11_back_j15 d else (if pq0 < ((d.1 28) 4) then (j_let (f_X7_bringBack 22 28 d pq0) (fun q30 => (true, j_sI (j_sI q30 24 4 0) 0 11 0))) else f_X11_back_j15 d ))
set_option maxRecDepth 100000 in
set_option maxHeartbeats 4000000 in
theorem s_X11_back (g : JG) (d : JD) (pq0 : Int32) (h0 : j_sh g 0 TS_W RS_W) : JM mi_X11_back 0 0 (g, d) [.ref 0, .int pq0] (some (some (.int (j_b (f_X11_back d pq0).1)), (g, (f_X11_back d pq0).2))) := by
  refine JM_of (by decide) rfl (Nat.le_of_ble_eq_true rfl) ?_
  refine J_loc (loc' := [(0, .ref 0), (1, .int pq0)]) [0, 1] rfl ?_
  obtain ⟨k, hk⟩ : ∃ k : Bool × JD → Option (Option Value × JH), ∀ r9, k r9 = some (some (.int (j_b r9.1)), (g, r9.2)) := ⟨_, fun _ => rfl⟩
  refine J_eqo (hk (f_X11_back d pq0)).symm ?_
  unfold f_X11_back
  have hX11_back_j15 : ∀ (d15 : JD) , J mi_X11_back 0 0 0 0 (g, d15) 15 [(0, .ref 0)] [] (k (f_X11_back_j15 d15 )) := by
    intro d15 
    unfold f_X11_back_j15
    refine J_aload_n (pc := 15) 0 dX11_back_15 rfl rfl ?_
    refine J_iconst (pc := 16) (v := 1) dX11_back_16 (by decide) ?_
    refine JC_lt_b (K := k) (J_callV (mi := mi_X11_back) (mj := mi_X11_denied) (pc := 17) dX11_back_17 ml_X11_345 ok_X11_denied ov_X11_denied ⟨Nat.le_of_ble_eq_true rfl, Nat.le_of_ble_eq_true rfl⟩ rfl (h0.lt 0 (by decide)) (h0.ty 0 rfl) rfl (s_X11_denied g d15 1 h0) rfl (Nat.le_of_ble_eq_true rfl)) (fun q17 eq17 => ?_)
    exact J_eqo (hk (q17.1, q17.2)) (J_zretB (pc := 20) dX11_back_20 rfl)
  refine J_iload_n (pc := 0) 1 dX11_back_0 rfl rfl ?_
  refine K_if_lt (K := k) (pc := 1) (tgt := 15) dX11_back_1 (by decide) (fun z1 => ?_) (fun z1 => ?_)
  · refine J_loc (loc' := [(0, .ref 0)]) [0] rfl ?_
    exact hX11_back_j15 d 
  · refine J_iload_n (pc := 4) 1 dX11_back_4 rfl rfl ?_
    refine J_aload_n (pc := 5) 0 dX11_back_5 rfl rfl ?_
    refine J_getR (pc := 6) dX11_back_6 fl_X11_44 (h0.lt 0 (by decide)) (h0.ty 0 rfl) rfl (h0.rf 5 rfl) ?_
    refine J_getI (pc := 9) dX11_back_9 fl_X11_134 (h0.lt 28 (by decide)) (h0.ty 28 rfl) rfl ?_
    refine K_icmp_lt (K := k) (pc := 12) (tgt := 21) dX11_back_12 (by decide) (fun z12 => ?_) (fun z12 => ?_)
    · refine J_aload_n (pc := 21) 0 dX11_back_21 rfl rfl ?_
      refine J_getR (pc := 22) dX11_back_22 fl_X11_44 (h0.lt 0 (by decide)) (h0.ty 0 rfl) rfl (h0.rf 5 rfl) ?_
      refine J_iload_n (pc := 25) 1 dX11_back_25 rfl rfl ?_
      refine J_aload_n (pc := 26) 0 dX11_back_26 rfl rfl ?_
      refine J_getR (pc := 27) dX11_back_27 fl_X11_28 (h0.lt 0 (by decide)) (h0.ty 0 rfl) rfl (h0.rf 2 rfl) ?_
      refine JC_lt_v (K := k) (J_callV (mi := mi_X11_back) (mj := mi_X7_bringBack) (pc := 30) dX11_back_30 ml_X11_394 ok_X7_bringBack ov_X7_bringBack ⟨Nat.le_of_ble_eq_true rfl, Nat.le_of_ble_eq_true rfl⟩ rfl (h0.lt 28 (by decide)) (h0.ty 28 rfl) rfl (s_X7_bringBack g d 22 28 pq0 (sh_MO_22 h0) (sh_SH_28 h0)) rfl (Nat.le_of_ble_eq_true rfl)) (fun q30 eq30 => ?_)
      refine J_aload_n (pc := 33) 0 dX11_back_33 rfl rfl ?_
      refine J_getR (pc := 34) dX11_back_34 fl_X11_40 (h0.lt 0 (by decide)) (h0.ty 0 rfl) rfl (h0.rf 4 rfl) ?_
      refine J_iconst (pc := 37) (v := 0) dX11_back_37 (by decide) ?_
      refine J_putI (pc := 38) dX11_back_38 fl_X11_134 ft_7_4 (h0.lt 24 (by decide)) (h0.ty 24 rfl) rfl rfl rfl ?_
      refine J_aload_n (pc := 41) 0 dX11_back_41 rfl rfl ?_
      refine J_iconst (pc := 42) (v := 0) dX11_back_42 (by decide) ?_
      refine J_putI (pc := 43) dX11_back_43 fl_X11_82 ft_10_11 (h0.lt 0 (by decide)) (h0.ty 0 rfl) rfl rfl rfl ?_
      refine J_iconst (pc := 46) (v := 1) dX11_back_46 (by decide) ?_
      exact J_eqo (hk (true, j_sI (j_sI q30 24 4 0) 0 11 0)) (J_zretB (pc := 47) dX11_back_47 rfl)
    · refine J_loc (loc' := [(0, .ref 0)]) [0] rfl ?_
      exact hX11_back_j15 d 
def f_X11_size (r_1 : Nat → Int32) (r_22 : Nat → Int32) (r_24 : Nat → Int32) (r_28 : Nat → Int32) (r_a0 : Nat → Int32) (r_a9 : Nat → Int32) (pq0 : Int32) : Int32 := (if pq0 = 0 then (r_a0 0) else if pq0 = 1 then (r_a0 1) else if pq0 = 2 then (r_a0 2) else if pq0 = 3 then (r_a0 3) else if pq0 = 4 then (r_a0 4) else if pq0 = 5 then (r_a0 5) else if pq0 = 6 then (r_a9 0) else if pq0 = 7 then (r_a9 4) else if pq0 = 8 then (r_a9 6) else if pq0 = 9 then (r_22 2) else if pq0 = 10 then (r_22 1) else if pq0 = 11 then (r_24 4) else if pq0 = 12 then (r_28 4) else if pq0 = 13 then (r_1 1) else (-1))
set_option maxRecDepth 100000 in
set_option maxHeartbeats 4000000 in
theorem s_X11_size (g : JG) (d : JD) (a : Nat) (pq0 : Int32) (h0 : j_sh g 0 TS_W RS_W) (ha : j_sh g a TS_CL RS_CL) (hco : g.2.2.1 0 10 = some a) : JM mi_X11_size 0 0 (g, d) [.ref 0, .int pq0] (some (some (.int (f_X11_size (d.1 1) (d.1 22) (d.1 24) (d.1 28) (d.1 a) (d.1 (a + 9)) pq0)), (g, d))) := by
  refine JM_of (by decide) rfl (Nat.le_of_ble_eq_true rfl) ?_
  refine J_loc (loc' := [(0, .ref 0), (1, .int pq0)]) [0, 1] rfl ?_
  obtain ⟨k, hk⟩ : ∃ k : Int32 → Option (Option Value × JH), ∀ r9, k r9 = some (some (.int r9), (g, d)) := ⟨_, fun _ => rfl⟩
  refine J_eqo (hk (f_X11_size (d.1 1) (d.1 22) (d.1 24) (d.1 28) (d.1 a) (d.1 (a + 9)) pq0)).symm ?_
  unfold f_X11_size
  refine J_iload_n (pc := 0) 1 dX11_size_0 rfl rfl ?_
  refine J_split (K := k) (c := pq0 = 0) (fun z1_0 => ?_) (fun z1_0 => ?_)
  · refine J_val z1_0 ?_
    refine J_tsIn (pc := 1) (tgt := 72) dX11_size_1 (by decide) (by decide) rfl (by decide) ?_
    refine J_aload_n (pc := 72) 0 dX11_size_72 rfl rfl ?_
    refine J_getR (pc := 73) dX11_size_73 fl_X11_78 (h0.lt 0 (by decide)) (h0.ty 0 rfl) rfl hco ?_
    refine J_getI (pc := 76) dX11_size_76 fl_X11_404 (ha.lt 0 (by decide)) (ha.ty 0 rfl) rfl ?_
    exact J_eqo (hk ((d.1 a) 0)) (J_iret (pc := 79) dX11_size_79 rfl)
  refine J_split (K := k) (c := pq0 = 1) (fun z1_1 => ?_) (fun z1_1 => ?_)
  · refine J_val z1_1 ?_
    refine J_tsIn (pc := 1) (tgt := 80) dX11_size_1 (by decide) (by decide) rfl (by decide) ?_
    refine J_aload_n (pc := 80) 0 dX11_size_80 rfl rfl ?_
    refine J_getR (pc := 81) dX11_size_81 fl_X11_78 (h0.lt 0 (by decide)) (h0.ty 0 rfl) rfl hco ?_
    refine J_getI (pc := 84) dX11_size_84 fl_X11_407 (ha.lt 0 (by decide)) (ha.ty 0 rfl) rfl ?_
    exact J_eqo (hk ((d.1 a) 1)) (J_iret (pc := 87) dX11_size_87 rfl)
  refine J_split (K := k) (c := pq0 = 2) (fun z1_2 => ?_) (fun z1_2 => ?_)
  · refine J_val z1_2 ?_
    refine J_tsIn (pc := 1) (tgt := 88) dX11_size_1 (by decide) (by decide) rfl (by decide) ?_
    refine J_aload_n (pc := 88) 0 dX11_size_88 rfl rfl ?_
    refine J_getR (pc := 89) dX11_size_89 fl_X11_78 (h0.lt 0 (by decide)) (h0.ty 0 rfl) rfl hco ?_
    refine J_getI (pc := 92) dX11_size_92 fl_X11_410 (ha.lt 0 (by decide)) (ha.ty 0 rfl) rfl ?_
    exact J_eqo (hk ((d.1 a) 2)) (J_iret (pc := 95) dX11_size_95 rfl)
  refine J_split (K := k) (c := pq0 = 3) (fun z1_3 => ?_) (fun z1_3 => ?_)
  · refine J_val z1_3 ?_
    refine J_tsIn (pc := 1) (tgt := 96) dX11_size_1 (by decide) (by decide) rfl (by decide) ?_
    refine J_aload_n (pc := 96) 0 dX11_size_96 rfl rfl ?_
    refine J_getR (pc := 97) dX11_size_97 fl_X11_78 (h0.lt 0 (by decide)) (h0.ty 0 rfl) rfl hco ?_
    refine J_getI (pc := 100) dX11_size_100 fl_X11_189 (ha.lt 0 (by decide)) (ha.ty 0 rfl) rfl ?_
    exact J_eqo (hk ((d.1 a) 3)) (J_iret (pc := 103) dX11_size_103 rfl)
  refine J_split (K := k) (c := pq0 = 4) (fun z1_4 => ?_) (fun z1_4 => ?_)
  · refine J_val z1_4 ?_
    refine J_tsIn (pc := 1) (tgt := 104) dX11_size_1 (by decide) (by decide) rfl (by decide) ?_
    refine J_aload_n (pc := 104) 0 dX11_size_104 rfl rfl ?_
    refine J_getR (pc := 105) dX11_size_105 fl_X11_78 (h0.lt 0 (by decide)) (h0.ty 0 rfl) rfl hco ?_
    refine J_getI (pc := 108) dX11_size_108 fl_X11_117 (ha.lt 0 (by decide)) (ha.ty 0 rfl) rfl ?_
    exact J_eqo (hk ((d.1 a) 4)) (J_iret (pc := 111) dX11_size_111 rfl)
  refine J_split (K := k) (c := pq0 = 5) (fun z1_5 => ?_) (fun z1_5 => ?_)
  · refine J_val z1_5 ?_
    refine J_tsIn (pc := 1) (tgt := 112) dX11_size_1 (by decide) (by decide) rfl (by decide) ?_
    refine J_aload_n (pc := 112) 0 dX11_size_112 rfl rfl ?_
    refine J_getR (pc := 113) dX11_size_113 fl_X11_78 (h0.lt 0 (by decide)) (h0.ty 0 rfl) rfl hco ?_
    refine J_getI (pc := 116) dX11_size_116 fl_X11_413 (ha.lt 0 (by decide)) (ha.ty 0 rfl) rfl ?_
    exact J_eqo (hk ((d.1 a) 5)) (J_iret (pc := 119) dX11_size_119 rfl)
  refine J_split (K := k) (c := pq0 = 6) (fun z1_6 => ?_) (fun z1_6 => ?_)
  · refine J_val z1_6 ?_
    refine J_tsIn (pc := 1) (tgt := 120) dX11_size_1 (by decide) (by decide) rfl (by decide) ?_
    refine J_aload_n (pc := 120) 0 dX11_size_120 rfl rfl ?_
    refine J_getR (pc := 121) dX11_size_121 fl_X11_78 (h0.lt 0 (by decide)) (h0.ty 0 rfl) rfl hco ?_
    refine J_getR (pc := 124) dX11_size_124 fl_X11_237 (ha.lt 0 (by decide)) (ha.ty 0 rfl) rfl (ha.rf 8 rfl) ?_
    refine J_getI (pc := 127) dX11_size_127 fl_X11_416 (ha.lt 9 (by decide)) (ha.ty 9 rfl) rfl ?_
    exact J_eqo (hk ((d.1 (a + 9)) 0)) (J_iret (pc := 130) dX11_size_130 rfl)
  refine J_split (K := k) (c := pq0 = 7) (fun z1_7 => ?_) (fun z1_7 => ?_)
  · refine J_val z1_7 ?_
    refine J_tsIn (pc := 1) (tgt := 131) dX11_size_1 (by decide) (by decide) rfl (by decide) ?_
    refine J_aload_n (pc := 131) 0 dX11_size_131 rfl rfl ?_
    refine J_getR (pc := 132) dX11_size_132 fl_X11_78 (h0.lt 0 (by decide)) (h0.ty 0 rfl) rfl hco ?_
    refine J_getR (pc := 135) dX11_size_135 fl_X11_237 (ha.lt 0 (by decide)) (ha.ty 0 rfl) rfl (ha.rf 8 rfl) ?_
    refine J_getI (pc := 138) dX11_size_138 fl_X11_293 (ha.lt 9 (by decide)) (ha.ty 9 rfl) rfl ?_
    exact J_eqo (hk ((d.1 (a + 9)) 4)) (J_iret (pc := 141) dX11_size_141 rfl)
  refine J_split (K := k) (c := pq0 = 8) (fun z1_8 => ?_) (fun z1_8 => ?_)
  · refine J_val z1_8 ?_
    refine J_tsIn (pc := 1) (tgt := 142) dX11_size_1 (by decide) (by decide) rfl (by decide) ?_
    refine J_aload_n (pc := 142) 0 dX11_size_142 rfl rfl ?_
    refine J_getR (pc := 143) dX11_size_143 fl_X11_78 (h0.lt 0 (by decide)) (h0.ty 0 rfl) rfl hco ?_
    refine J_getR (pc := 146) dX11_size_146 fl_X11_237 (ha.lt 0 (by decide)) (ha.ty 0 rfl) rfl (ha.rf 8 rfl) ?_
    refine J_getI (pc := 149) dX11_size_149 fl_X11_419 (ha.lt 9 (by decide)) (ha.ty 9 rfl) rfl ?_
    exact J_eqo (hk ((d.1 (a + 9)) 6)) (J_iret (pc := 152) dX11_size_152 rfl)
  refine J_split (K := k) (c := pq0 = 9) (fun z1_9 => ?_) (fun z1_9 => ?_)
  · refine J_val z1_9 ?_
    refine J_tsIn (pc := 1) (tgt := 153) dX11_size_1 (by decide) (by decide) rfl (by decide) ?_
    refine J_aload_n (pc := 153) 0 dX11_size_153 rfl rfl ?_
    refine J_getR (pc := 154) dX11_size_154 fl_X11_28 (h0.lt 0 (by decide)) (h0.ty 0 rfl) rfl (h0.rf 2 rfl) ?_
    refine J_getI (pc := 157) dX11_size_157 fl_X11_391 (h0.lt 22 (by decide)) (h0.ty 22 rfl) rfl ?_
    exact J_eqo (hk ((d.1 22) 2)) (J_iret (pc := 160) dX11_size_160 rfl)
  refine J_split (K := k) (c := pq0 = 10) (fun z1_10 => ?_) (fun z1_10 => ?_)
  · refine J_val z1_10 ?_
    refine J_tsIn (pc := 1) (tgt := 161) dX11_size_1 (by decide) (by decide) rfl (by decide) ?_
    refine J_aload_n (pc := 161) 0 dX11_size_161 rfl rfl ?_
    refine J_getR (pc := 162) dX11_size_162 fl_X11_28 (h0.lt 0 (by decide)) (h0.ty 0 rfl) rfl (h0.rf 2 rfl) ?_
    refine J_getI (pc := 165) dX11_size_165 fl_X11_388 (h0.lt 22 (by decide)) (h0.ty 22 rfl) rfl ?_
    exact J_eqo (hk ((d.1 22) 1)) (J_iret (pc := 168) dX11_size_168 rfl)
  refine J_split (K := k) (c := pq0 = 11) (fun z1_11 => ?_) (fun z1_11 => ?_)
  · refine J_val z1_11 ?_
    refine J_tsIn (pc := 1) (tgt := 169) dX11_size_1 (by decide) (by decide) rfl (by decide) ?_
    refine J_aload_n (pc := 169) 0 dX11_size_169 rfl rfl ?_
    refine J_getR (pc := 170) dX11_size_170 fl_X11_40 (h0.lt 0 (by decide)) (h0.ty 0 rfl) rfl (h0.rf 4 rfl) ?_
    refine J_getI (pc := 173) dX11_size_173 fl_X11_134 (h0.lt 24 (by decide)) (h0.ty 24 rfl) rfl ?_
    exact J_eqo (hk ((d.1 24) 4)) (J_iret (pc := 176) dX11_size_176 rfl)
  refine J_split (K := k) (c := pq0 = 12) (fun z1_12 => ?_) (fun z1_12 => ?_)
  · refine J_val z1_12 ?_
    refine J_tsIn (pc := 1) (tgt := 177) dX11_size_1 (by decide) (by decide) rfl (by decide) ?_
    refine J_aload_n (pc := 177) 0 dX11_size_177 rfl rfl ?_
    refine J_getR (pc := 178) dX11_size_178 fl_X11_44 (h0.lt 0 (by decide)) (h0.ty 0 rfl) rfl (h0.rf 5 rfl) ?_
    refine J_getI (pc := 181) dX11_size_181 fl_X11_134 (h0.lt 28 (by decide)) (h0.ty 28 rfl) rfl ?_
    exact J_eqo (hk ((d.1 28) 4)) (J_iret (pc := 184) dX11_size_184 rfl)
  refine J_split (K := k) (c := pq0 = 13) (fun z1_13 => ?_) (fun z1_13 => ?_)
  · refine J_val z1_13 ?_
    refine J_tsIn (pc := 1) (tgt := 185) dX11_size_1 (by decide) (by decide) rfl (by decide) ?_
    refine J_aload_n (pc := 185) 0 dX11_size_185 rfl rfl ?_
    refine J_getR (pc := 186) dX11_size_186 fl_X11_10 (h0.lt 0 (by decide)) (h0.ty 0 rfl) rfl (h0.rf 0 rfl) ?_
    refine J_getI (pc := 189) dX11_size_189 fl_X11_99 (h0.lt 1 (by decide)) (h0.ty 1 rfl) rfl ?_
    exact J_eqo (hk ((d.1 1) 1)) (J_iret (pc := 192) dX11_size_192 rfl)
  · have zz1 : (pq0 : Int32).toInt < 0 ∨ 13 < (pq0 : Int32).toInt := by
      have q0 := j_ne_toInt (n := 0) (by decide) z1_0
      have q1 := j_ne_toInt (n := 1) (by decide) z1_1
      have q2 := j_ne_toInt (n := 2) (by decide) z1_2
      have q3 := j_ne_toInt (n := 3) (by decide) z1_3
      have q4 := j_ne_toInt (n := 4) (by decide) z1_4
      have q5 := j_ne_toInt (n := 5) (by decide) z1_5
      have q6 := j_ne_toInt (n := 6) (by decide) z1_6
      have q7 := j_ne_toInt (n := 7) (by decide) z1_7
      have q8 := j_ne_toInt (n := 8) (by decide) z1_8
      have q9 := j_ne_toInt (n := 9) (by decide) z1_9
      have q10 := j_ne_toInt (n := 10) (by decide) z1_10
      have q11 := j_ne_toInt (n := 11) (by decide) z1_11
      have q12 := j_ne_toInt (n := 12) (by decide) z1_12
      have q13 := j_ne_toInt (n := 13) (by decide) z1_13
      omega
    refine J_tsOut (pc := 1) (tgt := 193) dX11_size_1 zz1 (by decide) ?_
    refine J_iconst (pc := 193) (v := (-1)) dX11_size_193 (by decide) ?_
    exact J_eqo (hk (-1)) (J_iret (pc := 194) dX11_size_194 rfl)
def f_X11_trouble (r_0 : Nat → Int32) : Int32 := (r_0 11)
set_option maxRecDepth 100000 in
set_option maxHeartbeats 4000000 in
theorem s_X11_trouble (g : JG) (d : JD) (h0 : j_sh g 0 TS_W RS_W) : JM mi_X11_trouble 0 0 (g, d) [.ref 0] (some (some (.int (f_X11_trouble (d.1 0) )), (g, d))) := by
  refine JM_of (by decide) rfl (Nat.le_of_ble_eq_true rfl) ?_
  refine J_loc (loc' := [(0, .ref 0)]) [0] rfl ?_
  obtain ⟨k, hk⟩ : ∃ k : Int32 → Option (Option Value × JH), ∀ r9, k r9 = some (some (.int r9), (g, d)) := ⟨_, fun _ => rfl⟩
  refine J_eqo (hk (f_X11_trouble (d.1 0) )).symm ?_
  unfold f_X11_trouble
  refine J_aload_n (pc := 0) 0 dX11_trouble_0 rfl rfl ?_
  refine J_getI (pc := 1) dX11_trouble_1 fl_X11_82 (h0.lt 0 (by decide)) (h0.ty 0 rfl) rfl ?_
  exact J_eqo (hk ((d.1 0) 11)) (J_iret (pc := 4) dX11_trouble_4 rfl)
