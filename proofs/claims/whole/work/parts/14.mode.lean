def f_X13_cover (t : Nat) (d : JD) : Option (Int32 × JD) := ((f_X13_coverWay t (j_sI d 57 0 0)).bind (fun q19 => if q19.1 = (-1) then (j_let (f_X13_good q19.2 (-2)) (fun q31 => some (q31.1, q31.2))) else ((f_X13_lays t q19.2 q19.1).bind (fun q37 => (f_X13_hung (q37.1 60) (q37.1 t)).bind (fun q42 => j_let (f_X13_good q37 q42) (fun q45 => some (q45.1, q45.2)))))))
set_option maxRecDepth 100000 in
set_option maxHeartbeats 4000000 in
theorem s_X13_cover (g : JG) (d : JD) (t : Nat) (h0 : j_sh g 0 TS_W RS_W) (ht : j_sh g t TS_ML RS_ML) (hla : g.2.2.1 57 3 = some t) : JM mi_X13_cover 0 0 (g, d) [.ref 57] ((f_X13_cover t d ).bind (fun r9 => some (some (.int r9.1), (g, r9.2)))) := by
  refine JM_of (by decide) rfl (Nat.le_of_ble_eq_true rfl) ?_
  refine J_loc (loc' := [(0, .ref 57)]) [0] rfl ?_
  obtain ⟨k, hk, hk2⟩ : ∃ k : Int32 × JD → Option (Option Value × JH), (∀ r9, k r9 = some (some (.int r9.1), (g, r9.2))) ∧ (fun r9 : Int32 × JD => (some (some (.int r9.1), (g, r9.2)) : Option (Option Value × JH))) = k := ⟨_, fun _ => rfl, rfl⟩
  rw [hk2]
  unfold f_X13_cover
  refine J_aload_n (pc := 0) 0 dX13_cover_0 rfl rfl ?_
  refine J_iconst (pc := 1) (v := 0) dX13_cover_1 (by decide) ?_
  refine J_putI (pc := 2) dX13_cover_2 fl_X13_42 ft_12_0 (h0.lt 57 (by decide)) (h0.ty 57 rfl) rfl rfl rfl ?_
  refine J_aload_n (pc := 5) 0 dX13_cover_5 rfl rfl ?_
  refine J_getR (pc := 6) dX13_cover_6 fl_X13_321 (h0.lt 57 (by decide)) (h0.ty 57 rfl) rfl hla ?_
  refine J_ifnonnull (pc := 9) (tgt := 18) dX13_cover_9 (by decide) ?_
  refine J_aload_n (pc := 18) 0 dX13_cover_18 rfl rfl ?_
  refine JC_pe_i (J_callV (mi := mi_X13_cover) (mj := mi_X13_coverWay) (pc := 19) dX13_cover_19 ml_X13_414 ok_X13_coverWay ov_X13_coverWay ⟨Nat.le_of_ble_eq_true rfl, Nat.le_of_ble_eq_true rfl⟩ rfl (h0.lt 57 (by decide)) (h0.ty 57 rfl) rfl (s_X13_coverWay g (j_sI d 57 0 0) t h0 ht hla) rfl (Nat.le_of_ble_eq_true rfl)) (fun q19 => ?_)
  refine J_istore_n (pc := 22) (loc' := [(1, .int q19.1), (0, .ref 57)]) dX13_cover_22 rfl (by decide) rfl ?_
  refine J_iload_n (pc := 23) 0 dX13_cover_23 rfl rfl ?_
  refine J_iconst (pc := 24) (v := (-1)) dX13_cover_24 (by decide) ?_
  refine K_icmp_ne (K := (fun x => Option.bind x k)) (pc := 25) (tgt := 35) dX13_cover_25 (by decide) (fun z25 => ?_) (fun z25 => ?_)
  · refine J_aload_n (pc := 35) 1 dX13_cover_35 rfl rfl ?_
    refine J_iload_n (pc := 36) 0 dX13_cover_36 rfl rfl ?_
    refine JC_pe_v (J_callV (mi := mi_X13_cover) (mj := mi_X13_lays) (pc := 37) dX13_cover_37 ml_X13_383 ok_X13_lays ov_X13_lays ⟨Nat.le_of_ble_eq_true rfl, Nat.le_of_ble_eq_true rfl⟩ rfl (h0.lt 57 (by decide)) (h0.ty 57 rfl) rfl (s_X13_lays g q19.2 t q19.1 h0 ht hla) rfl (Nat.le_of_ble_eq_true rfl)) (fun q37 => ?_)
    refine J_aload_n (pc := 40) 1 dX13_cover_40 rfl rfl ?_
    refine J_aload_n (pc := 41) 1 dX13_cover_41 rfl rfl ?_
    refine JC_pp_i (J_callV (mi := mi_X13_cover) (mj := mi_X13_hung) (pc := 42) dX13_cover_42 ml_X13_369 ok_X13_hung ov_X13_hung ⟨Nat.le_of_ble_eq_true rfl, Nat.le_of_ble_eq_true rfl⟩ rfl (h0.lt 57 (by decide)) (h0.ty 57 rfl) rfl (s_X13_hung g q37 t h0 ht hla) rfl (Nat.le_of_ble_eq_true rfl)) (fun q42 => ?_)
    refine JC_lt_i (K := (fun x => Option.bind x k)) (J_callV (mi := mi_X13_cover) (mj := mi_X13_good) (pc := 45) dX13_cover_45 ml_X13_52 ok_X13_good ov_X13_good ⟨Nat.le_of_ble_eq_true rfl, Nat.le_of_ble_eq_true rfl⟩ rfl (h0.lt 57 (by decide)) (h0.ty 57 rfl) rfl (s_X13_good g q37 q42 h0) rfl (Nat.le_of_ble_eq_true rfl)) (fun q45 eq45 => ?_)
    exact J_eqo (hk (q45.1, q45.2)) (J_iret (pc := 48) dX13_cover_48 rfl)
  · refine J_aload_n (pc := 28) 1 dX13_cover_28 rfl rfl ?_
    refine J_bipush (pc := 29) (v := (-2)) dX13_cover_29 (by decide) ?_
    refine JC_lt_i (K := (fun x => Option.bind x k)) (J_callV (mi := mi_X13_cover) (mj := mi_X13_good) (pc := 31) dX13_cover_31 ml_X13_52 ok_X13_good ov_X13_good ⟨Nat.le_of_ble_eq_true rfl, Nat.le_of_ble_eq_true rfl⟩ rfl (h0.lt 57 (by decide)) (h0.ty 57 rfl) rfl (s_X13_good g q19.2 (-2) h0) rfl (Nat.le_of_ble_eq_true rfl)) (fun q31 eq31 => ?_)
    exact J_eqo (hk (q31.1, q31.2)) (J_iret (pc := 34) dX13_cover_34 rfl)
def f_X13_coverAt (t : Nat) (d : JD) (pq0 : Int32) : Option (Int32 × JD) := (if (f_X13_isGate ((j_sI d 57 0 0).1 t) pq0) = true then ((f_X13_coverWay t (j_sI d 57 0 0)).bind (fun q20 => if q20.1 = (-1) then (j_let (f_X13_good q20.2 (-2)) (fun q32 => some (q32.1, q32.2))) else ((f_X13_lays t q20.2 q20.1).bind (fun q38 => if j_out pq0 6 then none else j_let (f_X13_good q38 ((q38.1 60) pq0.toNatClampNeg)) (fun q48 => some (q48.1, q48.2)))))) else (j_let (f_X13_refused (j_sI d 57 0 0) 1) (fun q15 => some (q15.1, q15.2))))
set_option maxRecDepth 100000 in
set_option maxHeartbeats 4000000 in
theorem s_X13_coverAt (g : JG) (d : JD) (t : Nat) (pq0 : Int32) (h0 : j_sh g 0 TS_W RS_W) (ht : j_sh g t TS_ML RS_ML) (hla : g.2.2.1 57 3 = some t) : JM mi_X13_coverAt 0 0 (g, d) [.ref 57, .int pq0] ((f_X13_coverAt t d pq0).bind (fun r9 => some (some (.int r9.1), (g, r9.2)))) := by
  refine JM_of (by decide) rfl (Nat.le_of_ble_eq_true rfl) ?_
  refine J_loc (loc' := [(0, .ref 57), (1, .int pq0)]) [0, 1] rfl ?_
  obtain ⟨k, hk, hk2⟩ : ∃ k : Int32 × JD → Option (Option Value × JH), (∀ r9, k r9 = some (some (.int r9.1), (g, r9.2))) ∧ (fun r9 : Int32 × JD => (some (some (.int r9.1), (g, r9.2)) : Option (Option Value × JH))) = k := ⟨_, fun _ => rfl, rfl⟩
  rw [hk2]
  unfold f_X13_coverAt
  refine J_aload_n (pc := 0) 0 dX13_coverAt_0 rfl rfl ?_
  refine J_iconst (pc := 1) (v := 0) dX13_coverAt_1 (by decide) ?_
  refine J_putI (pc := 2) dX13_coverAt_2 fl_X13_42 ft_12_0 (h0.lt 57 (by decide)) (h0.ty 57 rfl) rfl rfl rfl ?_
  refine J_aload_n (pc := 5) 0 dX13_coverAt_5 rfl rfl ?_
  refine J_iload_n (pc := 6) 1 dX13_coverAt_6 rfl rfl ?_
  refine JC_pt_i (J_callV (mi := mi_X13_coverAt) (mj := mi_X13_isGate) (pc := 7) dX13_coverAt_7 ml_X13_345 ok_X13_isGate ov_X13_isGate ⟨Nat.le_of_ble_eq_true rfl, Nat.le_of_ble_eq_true rfl⟩ rfl (h0.lt 57 (by decide)) (h0.ty 57 rfl) rfl (s_X13_isGate g (j_sI d 57 0 0) t pq0 h0 ht hla) rfl (Nat.le_of_ble_eq_true rfl)) ?_
  refine K_ifne_b (K := (fun x => Option.bind x k)) (pc := 10) (tgt := 19) dX13_coverAt_10 (by decide) (fun z10 => ?_) (fun z10 => ?_)
  · refine J_aload_n (pc := 19) 0 dX13_coverAt_19 rfl rfl ?_
    refine JC_pe_i (J_callV (mi := mi_X13_coverAt) (mj := mi_X13_coverWay) (pc := 20) dX13_coverAt_20 ml_X13_414 ok_X13_coverWay ov_X13_coverWay ⟨Nat.le_of_ble_eq_true rfl, Nat.le_of_ble_eq_true rfl⟩ rfl (h0.lt 57 (by decide)) (h0.ty 57 rfl) rfl (s_X13_coverWay g (j_sI d 57 0 0) t h0 ht hla) rfl (Nat.le_of_ble_eq_true rfl)) (fun q20 => ?_)
    refine J_istore_n (pc := 23) (loc' := [(2, .int q20.1), (0, .ref 57), (1, .int pq0)]) dX13_coverAt_23 rfl (by decide) rfl ?_
    refine J_iload_n (pc := 24) 0 dX13_coverAt_24 rfl rfl ?_
    refine J_iconst (pc := 25) (v := (-1)) dX13_coverAt_25 (by decide) ?_
    refine K_icmp_ne (K := (fun x => Option.bind x k)) (pc := 26) (tgt := 36) dX13_coverAt_26 (by decide) (fun z26 => ?_) (fun z26 => ?_)
    · refine J_aload_n (pc := 36) 1 dX13_coverAt_36 rfl rfl ?_
      refine J_iload_n (pc := 37) 0 dX13_coverAt_37 rfl rfl ?_
      refine JC_pe_v (J_callV (mi := mi_X13_coverAt) (mj := mi_X13_lays) (pc := 38) dX13_coverAt_38 ml_X13_383 ok_X13_lays ov_X13_lays ⟨Nat.le_of_ble_eq_true rfl, Nat.le_of_ble_eq_true rfl⟩ rfl (h0.lt 57 (by decide)) (h0.ty 57 rfl) rfl (s_X13_lays g q20.2 t q20.1 h0 ht hla) rfl (Nat.le_of_ble_eq_true rfl)) (fun q38 => ?_)
      refine J_aload_n (pc := 41) 1 dX13_coverAt_41 rfl rfl ?_
      refine J_aload_n (pc := 42) 1 dX13_coverAt_42 rfl rfl ?_
      refine J_getR (pc := 43) dX13_coverAt_43 fl_X13_21 (h0.lt 57 (by decide)) (h0.ty 57 rfl) rfl (h0.rf 57 rfl) ?_
      refine J_iload_n (pc := 46) 2 dX13_coverAt_46 rfl rfl ?_
      refine J_guard (fun z47 => ?_)
      refine J_iald (pc := 47) dX13_coverAt_47 (h0.lt 60 (by decide)) (h0.ty 60 rfl) z47 ?_
      refine JC_lt_i (K := (fun x => Option.bind x k)) (J_callV (mi := mi_X13_coverAt) (mj := mi_X13_good) (pc := 48) dX13_coverAt_48 ml_X13_52 ok_X13_good ov_X13_good ⟨Nat.le_of_ble_eq_true rfl, Nat.le_of_ble_eq_true rfl⟩ rfl (h0.lt 57 (by decide)) (h0.ty 57 rfl) rfl (s_X13_good g q38 ((q38.1 60) pq0.toNatClampNeg) h0) rfl (Nat.le_of_ble_eq_true rfl)) (fun q48 eq48 => ?_)
      exact J_eqo (hk (q48.1, q48.2)) (J_iret (pc := 51) dX13_coverAt_51 rfl)
    · refine J_aload_n (pc := 29) 1 dX13_coverAt_29 rfl rfl ?_
      refine J_bipush (pc := 30) (v := (-2)) dX13_coverAt_30 (by decide) ?_
      refine JC_lt_i (K := (fun x => Option.bind x k)) (J_callV (mi := mi_X13_coverAt) (mj := mi_X13_good) (pc := 32) dX13_coverAt_32 ml_X13_52 ok_X13_good ov_X13_good ⟨Nat.le_of_ble_eq_true rfl, Nat.le_of_ble_eq_true rfl⟩ rfl (h0.lt 57 (by decide)) (h0.ty 57 rfl) rfl (s_X13_good g q20.2 (-2) h0) rfl (Nat.le_of_ble_eq_true rfl)) (fun q32 eq32 => ?_)
      exact J_eqo (hk (q32.1, q32.2)) (J_iret (pc := 35) dX13_coverAt_35 rfl)
  · refine J_aload_n (pc := 13) 0 dX13_coverAt_13 rfl rfl ?_
    refine J_iconst (pc := 14) (v := 1) dX13_coverAt_14 (by decide) ?_
    refine JC_lt_i (K := (fun x => Option.bind x k)) (J_callV (mi := mi_X13_coverAt) (mj := mi_X13_refused) (pc := 15) dX13_coverAt_15 ml_X13_48 ok_X13_refused ov_X13_refused ⟨Nat.le_of_ble_eq_true rfl, Nat.le_of_ble_eq_true rfl⟩ rfl (h0.lt 57 (by decide)) (h0.ty 57 rfl) rfl (s_X13_refused g (j_sI d 57 0 0) 1 h0) rfl (Nat.le_of_ble_eq_true rfl)) (fun q15 eq15 => ?_)
    exact J_eqo (hk (q15.1, q15.2)) (J_iret (pc := 18) dX13_coverAt_18 rfl)
def f_X13_isCalm_j116_2 (r_60 : Nat → Int32) (r_t0 : Nat → Int32) (r_t1 : Nat → Int32) (r_t2 : Nat → Int32) (r_t3 : Nat → Int32) (r_t4 : Nat → Int32) (r_t5 : Nat → Int32) (x1_116_2 : Int32) : Option ((Int32) ⊕ (Bool ⊕ (Unit))) := (some (.inl (x1_116_2 + 1)))
def f_X13_isCalm_j110_2_40 (r_60 : Nat → Int32) (r_t0 : Nat → Int32) (r_t1 : Nat → Int32) (r_t2 : Nat → Int32) (r_t3 : Nat → Int32) (r_t4 : Nat → Int32) (r_t5 : Nat → Int32) (c1_40_2 : Int32) (x2_110_2_40 : Int32) : Option ((Int32) ⊕ (Bool ⊕ (Unit))) := (some (.inl (x2_110_2_40 + 1)))
def f_X13_isCalm_w40_2 (r_60 : Nat → Int32) (r_t0 : Nat → Int32) (r_t1 : Nat → Int32) (r_t2 : Nat → Int32) (r_t3 : Nat → Int32) (r_t4 : Nat → Int32) (r_t5 : Nat → Int32) (c1_40_2 : Int32) (s40_2 : Int32) : Option ((Int32) ⊕ (Bool ⊕ (Unit))) := (if (r_t0 2) ≤ s40_2 then some (.inr (.inr ())) else ((f_X13_owners r_60 r_t1 r_t2 r_t3 r_t4 (c1_40_2)).bind (fun q53_2_40 => if (f_X13_bit q53_2_40 s40_2) = true then (if j_out (c1_40_2) 6 then none else (f_X13_shareIf r_t1 r_t2 r_t3 r_t4 r_t5 s40_2 (c1_40_2) (r_60 ((c1_40_2).toNatClampNeg))).bind (fun q75_2_40 => if j_out (c1_40_2) 6 then none else (f_X13_shareIf r_t1 r_t2 r_t3 r_t4 r_t5 s40_2 (c1_40_2) ((3 : Int32) - (r_60 ((c1_40_2).toNatClampNeg)))).bind (fun q90_2_40 => if q75_2_40 < q90_2_40 then (some (Sum.inr (Sum.inl false))) else ((f_X13_shareIf r_t1 r_t2 r_t3 r_t4 r_t5 s40_2 (c1_40_2) 0).bind (fun q101_2_40 => if q101_2_40 ≤ q75_2_40 then f_X13_isCalm_j110_2_40 r_60 r_t0 r_t1 r_t2 r_t3 r_t4 r_t5 (c1_40_2) s40_2 else (some (Sum.inr (Sum.inl false)))))))) else (f_X13_isCalm_j110_2_40 r_60 r_t0 r_t1 r_t2 r_t3 r_t4 r_t5 (c1_40_2) s40_2))))
def f_X13_isCalm_w2 (r_60 : Nat → Int32) (r_t0 : Nat → Int32) (r_t1 : Nat → Int32) (r_t2 : Nat → Int32) (r_t3 : Nat → Int32) (r_t4 : Nat → Int32) (r_t5 : Nat → Int32) (s2 : Int32) : Option ((Int32) ⊕ (Bool ⊕ (Unit))) := (if (r_t0 4) ≤ s2 then some (.inr (.inr ())) else (if j_out s2 6 then none else if (r_t3 s2.toNatClampNeg) = 2 then f_X13_isCalm_j116_2 r_60 r_t0 r_t1 r_t2 r_t3 r_t4 r_t5 s2 else (if j_out s2 6 then none else if (r_60 s2.toNatClampNeg) = 0 then (f_X13_isCalm_j116_2 r_60 r_t0 r_t1 r_t2 r_t3 r_t4 r_t5 s2) else ((j_wh (f_X13_isCalm_w40_2 r_60 r_t0 r_t1 r_t2 r_t3 r_t4 r_t5 s2 ) j_fuel 0).bind (Sum.elim (fun r9 => some (Sum.inr (Sum.inl r9))) (fun (e40_2 : Unit) => f_X13_isCalm_j116_2 r_60 r_t0 r_t1 r_t2 r_t3 r_t4 r_t5 s2))))))
def f_X13_isCalm (r_60 : Nat → Int32) (r_t0 : Nat → Int32) (r_t1 : Nat → Int32) (r_t2 : Nat → Int32) (r_t3 : Nat → Int32) (r_t4 : Nat → Int32) (r_t5 : Nat → Int32) : Option (Bool) := ((j_wh (f_X13_isCalm_w2 r_60 r_t0 r_t1 r_t2 r_t3 r_t4 r_t5 ) j_fuel 0).bind (Sum.elim (fun r9 => some r9) (fun (e2 : Unit) => (some true))))
set_option maxRecDepth 100000 in
set_option maxHeartbeats 4000000 in
theorem s_X13_isCalm (g : JG) (d : JD) (t : Nat) (h0 : j_sh g 0 TS_W RS_W) (ht : j_sh g t TS_ML RS_ML) (hla : g.2.2.1 57 3 = some t) : JM mi_X13_isCalm 0 0 (g, d) [.ref 57] ((f_X13_isCalm (d.1 60) (d.1 t) (d.1 (t + 1)) (d.1 (t + 2)) (d.1 (t + 3)) (d.1 (t + 4)) (d.1 (t + 5)) ).bind (fun r9 => some (some (.int (j_b r9)), (g, d)))) := by
  refine JM_of (by decide) rfl (Nat.le_of_ble_eq_true rfl) ?_
  refine J_loc (loc' := [(0, .ref 57)]) [0] rfl ?_
  obtain ⟨k, hk, hk2⟩ : ∃ k : Bool → Option (Option Value × JH), (∀ r9, k r9 = some (some (.int (j_b r9)), (g, d))) ∧ (fun r9 : Bool => (some (some (.int (j_b r9)), (g, d)) : Option (Option Value × JH))) = k := ⟨_, fun _ => rfl, rfl⟩
  rw [hk2]
  unfold f_X13_isCalm
  refine J_iconst (pc := 0) (v := 0) dX13_isCalm_0 (by decide) ?_
  refine J_istore_n (pc := 1) (loc' := [(1, .int 0), (0, .ref 57)]) dX13_isCalm_1 rfl (by decide) rfl ?_
  refine J_loc (loc' := [(0, .ref 57), (1, .int 0)]) [1, 0] rfl ?_
  refine J_whR (F := f_X13_isCalm_w2 (d.1 60) (d.1 t) (d.1 (t + 1)) (d.1 (t + 2)) (d.1 (t + 3)) (d.1 (t + 4)) (d.1 (t + 5)) ) (fr := fun r9 => some r9) (k := k) (hp := fun (s2 : Int32) => (g, d)) (lc := fun (s2 : Int32) => [(0, .ref 57), (1, .int s2)]) (XJ := fun (e2 : Unit) o9 => J mi_X13_isCalm 0 0 0 0 (g, d) 122 [] [] o9) (RJ := fun r9 o9 => o9 = some (some (.int (j_b r9)), (g, d))) (fun s2 k2 hB2 hR2 hX2 => ?_) (fun e2 => ?_) (fun r9 => hk r9) _ 0
  · show J mi_X13_isCalm 0 0 0 0 (g, d) 2 [(0, .ref 57), (1, .int s2)] [] ((f_X13_isCalm_w2 (d.1 60) (d.1 t) (d.1 (t + 1)) (d.1 (t + 2)) (d.1 (t + 3)) (d.1 (t + 4)) (d.1 (t + 5)) s2).bind k2)
    unfold f_X13_isCalm_w2
    have hX13_isCalm_j116_2 : ∀ (x1_116_2 : Int32), J mi_X13_isCalm 0 0 0 0 (g, d) 116 [(0, .ref 57), (1, .int x1_116_2)] [] ((f_X13_isCalm_j116_2 (d.1 60) (d.1 t) (d.1 (t + 1)) (d.1 (t + 2)) (d.1 (t + 3)) (d.1 (t + 4)) (d.1 (t + 5)) x1_116_2).bind k2) := by
      intro x1_116_2
      unfold f_X13_isCalm_j116_2
      refine J_iinc (pc := 116) (v := x1_116_2 + 1) (loc' := [(1, .int (x1_116_2 + 1)), (0, .ref 57)]) 1 dX13_isCalm_116 rfl rfl (by decide) rfl ?_
      refine J_goto (pc := 119) (tgt := 2) dX13_isCalm_119 (by decide) ?_
      refine J_loc (loc' := [(0, .ref 57), (1, .int (x1_116_2 + 1))]) [1, 0] rfl ?_
      exact hB2 (x1_116_2 + 1)
    refine J_iload_n (pc := 2) 1 dX13_isCalm_2 rfl rfl ?_
    refine J_aload_n (pc := 3) 0 dX13_isCalm_3 rfl rfl ?_
    refine J_getR (pc := 4) dX13_isCalm_4 fl_X13_321 (h0.lt 57 (by decide)) (h0.ty 57 rfl) rfl hla ?_
    refine J_getI (pc := 7) dX13_isCalm_7 fl_X13_191 (ht.lt 0 (by decide)) (ht.ty 0 rfl) rfl ?_
    refine K_icmp_ge (K := (fun x => Option.bind x k2)) (pc := 10) (tgt := 122) dX13_isCalm_10 (by decide) (fun z10 => ?_) (fun z10 => ?_)
    · refine J_loc (loc' := []) [] rfl ?_
      exact hX2 ()
    · refine J_aload_n (pc := 13) 0 dX13_isCalm_13 rfl rfl ?_
      refine J_getR (pc := 14) dX13_isCalm_14 fl_X13_321 (h0.lt 57 (by decide)) (h0.ty 57 rfl) rfl hla ?_
      refine J_getR (pc := 17) dX13_isCalm_17 fl_X13_275 (ht.lt 0 (by decide)) (ht.ty 0 rfl) rfl (ht.rf 2 rfl) ?_
      refine J_iload_n (pc := 20) 1 dX13_isCalm_20 rfl rfl ?_
      refine J_guard (fun z21 => ?_)
      refine J_iald (pc := 21) dX13_isCalm_21 (ht.lt 3 (by decide)) (ht.ty 3 rfl) z21 ?_
      refine J_iconst (pc := 22) (v := 2) dX13_isCalm_22 (by decide) ?_
      refine K_icmp_eq (K := (fun x => Option.bind x k2)) (pc := 23) (tgt := 116) dX13_isCalm_23 (by decide) (fun z23 => ?_) (fun z23 => ?_)
      · exact hX13_isCalm_j116_2 s2
      · refine J_aload_n (pc := 26) 0 dX13_isCalm_26 rfl rfl ?_
        refine J_getR (pc := 27) dX13_isCalm_27 fl_X13_21 (h0.lt 57 (by decide)) (h0.ty 57 rfl) rfl (h0.rf 57 rfl) ?_
        refine J_iload_n (pc := 30) 1 dX13_isCalm_30 rfl rfl ?_
        refine J_guard (fun z31 => ?_)
        refine J_iald (pc := 31) dX13_isCalm_31 (h0.lt 60 (by decide)) (h0.ty 60 rfl) z31 ?_
        refine K_if_ne (K := (fun x => Option.bind x k2)) (pc := 32) (tgt := 38) dX13_isCalm_32 (by decide) (fun z32 => ?_) (fun z32 => ?_)
        · refine J_iconst (pc := 38) (v := 0) dX13_isCalm_38 (by decide) ?_
          refine J_istore_n (pc := 39) (loc' := [(2, .int 0), (0, .ref 57), (1, .int s2)]) dX13_isCalm_39 rfl (by decide) rfl ?_
          refine J_loc (loc' := [(0, .ref 57), (1, .int s2), (2, .int 0)]) [1, 2, 0] rfl ?_
          refine J_whR (F := f_X13_isCalm_w40_2 (d.1 60) (d.1 t) (d.1 (t + 1)) (d.1 (t + 2)) (d.1 (t + 3)) (d.1 (t + 4)) (d.1 (t + 5)) s2 ) (fr := fun r9 => some (Sum.inr (Sum.inl r9))) (k := k2) (hp := fun (s40_2 : Int32) => (g, d)) (lc := fun (s40_2 : Int32) => [(0, .ref 57), (1, .int (s2)), (2, .int s40_2)]) (XJ := fun (e40_2 : Unit) o9 => J mi_X13_isCalm 0 0 0 0 (g, d) 116 [(0, .ref 57), (1, .int s2)] [] o9) (RJ := fun r9 o9 => o9 = some (some (.int (j_b r9)), (g, d))) (fun s40_2 k40_2 hB40_2 hR40_2 hX40_2 => ?_) (fun e40_2 => ?_) (fun r9 => hR2 r9) _ 0
          · show J mi_X13_isCalm 0 0 0 0 (g, d) 40 [(0, .ref 57), (1, .int (s2)), (2, .int s40_2)] [] ((f_X13_isCalm_w40_2 (d.1 60) (d.1 t) (d.1 (t + 1)) (d.1 (t + 2)) (d.1 (t + 3)) (d.1 (t + 4)) (d.1 (t + 5)) s2 s40_2).bind k40_2)
            unfold f_X13_isCalm_w40_2
            have hX13_isCalm_j110_2_40 : ∀ (x2_110_2_40 : Int32), J mi_X13_isCalm 0 0 0 0 (g, d) 110 [(0, .ref 57), (1, .int (s2)), (2, .int x2_110_2_40)] [] ((f_X13_isCalm_j110_2_40 (d.1 60) (d.1 t) (d.1 (t + 1)) (d.1 (t + 2)) (d.1 (t + 3)) (d.1 (t + 4)) (d.1 (t + 5)) s2 x2_110_2_40).bind k40_2) := by
              intro x2_110_2_40
              unfold f_X13_isCalm_j110_2_40
              refine J_iinc (pc := 110) (v := x2_110_2_40 + 1) (loc' := [(2, .int (x2_110_2_40 + 1)), (0, .ref 57), (1, .int (s2))]) 2 dX13_isCalm_110 rfl rfl (by decide) rfl ?_
              refine J_goto (pc := 113) (tgt := 40) dX13_isCalm_113 (by decide) ?_
              refine J_loc (loc' := [(0, .ref 57), (1, .int (s2)), (2, .int (x2_110_2_40 + 1))]) [1, 2, 0] rfl ?_
              exact hB40_2 (x2_110_2_40 + 1)
            refine J_iload_n (pc := 40) 2 dX13_isCalm_40 rfl rfl ?_
            refine J_aload_n (pc := 41) 0 dX13_isCalm_41 rfl rfl ?_
            refine J_getR (pc := 42) dX13_isCalm_42 fl_X13_321 (h0.lt 57 (by decide)) (h0.ty 57 rfl) rfl hla ?_
            refine J_getI (pc := 45) dX13_isCalm_45 fl_X13_229 (ht.lt 0 (by decide)) (ht.ty 0 rfl) rfl ?_
            refine K_icmp_ge (K := (fun x => Option.bind x k40_2)) (pc := 48) (tgt := 116) dX13_isCalm_48 (by decide) (fun z48 => ?_) (fun z48 => ?_)
            · refine J_loc (loc' := [(0, .ref 57), (1, .int (s2))]) [0, 1] rfl ?_
              exact hX40_2 ()
            · refine J_aload_n (pc := 51) 0 dX13_isCalm_51 rfl rfl ?_
              refine J_iload_n (pc := 52) 1 dX13_isCalm_52 rfl rfl ?_
              refine JC_pp_i (J_callV (mi := mi_X13_isCalm) (mj := mi_X13_owners) (pc := 53) dX13_isCalm_53 ml_X13_342 ok_X13_owners ov_X13_owners ⟨Nat.le_of_ble_eq_true rfl, Nat.le_of_ble_eq_true rfl⟩ rfl (h0.lt 57 (by decide)) (h0.ty 57 rfl) rfl (s_X13_owners g d t s2 h0 ht hla) rfl (Nat.le_of_ble_eq_true rfl)) (fun q53_2_40 => ?_)
              refine J_iload_n (pc := 56) 2 dX13_isCalm_56 rfl rfl ?_
              refine JC_pt_i (J_callS (mi := mi_X13_isCalm) (mj := mi_X13_bit) (pc := 57) dX13_isCalm_57 ml_X13_249 ok_X13_bit os_X13_bit ⟨Nat.le_of_ble_eq_true rfl, Nat.le_of_ble_eq_true rfl⟩ rfl (s_X13_bit g d q53_2_40 s40_2) rfl (Nat.le_of_ble_eq_true rfl)) ?_
              refine K_ifne_b (K := (fun x => Option.bind x k40_2)) (pc := 60) (tgt := 66) dX13_isCalm_60 (by decide) (fun z60 => ?_) (fun z60 => ?_)
              · refine J_aload_n (pc := 66) 0 dX13_isCalm_66 rfl rfl ?_
                refine J_iload_n (pc := 67) 2 dX13_isCalm_67 rfl rfl ?_
                refine J_iload_n (pc := 68) 1 dX13_isCalm_68 rfl rfl ?_
                refine J_aload_n (pc := 69) 0 dX13_isCalm_69 rfl rfl ?_
                refine J_getR (pc := 70) dX13_isCalm_70 fl_X13_21 (h0.lt 57 (by decide)) (h0.ty 57 rfl) rfl (h0.rf 57 rfl) ?_
                refine J_iload_n (pc := 73) 1 dX13_isCalm_73 rfl rfl ?_
                refine J_guard (fun z74 => ?_)
                refine J_iald (pc := 74) dX13_isCalm_74 (h0.lt 60 (by decide)) (h0.ty 60 rfl) z74 ?_
                refine JC_pp_i (J_callV (mi := mi_X13_isCalm) (mj := mi_X13_shareIf) (pc := 75) dX13_isCalm_75 ml_X13_338 ok_X13_shareIf ov_X13_shareIf ⟨Nat.le_of_ble_eq_true rfl, Nat.le_of_ble_eq_true rfl⟩ rfl (h0.lt 57 (by decide)) (h0.ty 57 rfl) rfl (s_X13_shareIf g d t s40_2 s2 ((d.1 60) ((s2).toNatClampNeg)) h0 ht hla) rfl (Nat.le_of_ble_eq_true rfl)) (fun q75_2_40 => ?_)
                refine J_istore_n (pc := 78) (loc' := [(3, .int q75_2_40), (0, .ref 57), (1, .int (s2)), (2, .int s40_2)]) dX13_isCalm_78 rfl (by decide) rfl ?_
                refine J_aload_n (pc := 79) 1 dX13_isCalm_79 rfl rfl ?_
                refine J_iload_n (pc := 80) 3 dX13_isCalm_80 rfl rfl ?_
                refine J_iload_n (pc := 81) 2 dX13_isCalm_81 rfl rfl ?_
                refine J_iconst (pc := 82) (v := 3) dX13_isCalm_82 (by decide) ?_
                refine J_aload_n (pc := 83) 1 dX13_isCalm_83 rfl rfl ?_
                refine J_getR (pc := 84) dX13_isCalm_84 fl_X13_21 (h0.lt 57 (by decide)) (h0.ty 57 rfl) rfl (h0.rf 57 rfl) ?_
                refine J_iload_n (pc := 87) 2 dX13_isCalm_87 rfl rfl ?_
                refine J_guard (fun z88 => ?_)
                refine J_iald (pc := 88) dX13_isCalm_88 (h0.lt 60 (by decide)) (h0.ty 60 rfl) z88 ?_
                refine J_isub (pc := 89) dX13_isCalm_89 ?_
                refine JC_pp_i (J_callV (mi := mi_X13_isCalm) (mj := mi_X13_shareIf) (pc := 90) dX13_isCalm_90 ml_X13_338 ok_X13_shareIf ov_X13_shareIf ⟨Nat.le_of_ble_eq_true rfl, Nat.le_of_ble_eq_true rfl⟩ rfl (h0.lt 57 (by decide)) (h0.ty 57 rfl) rfl (s_X13_shareIf g d t s40_2 s2 ((3 : Int32) - ((d.1 60) ((s2).toNatClampNeg))) h0 ht hla) rfl (Nat.le_of_ble_eq_true rfl)) (fun q90_2_40 => ?_)
                refine J_iload_n (pc := 93) 0 dX13_isCalm_93 rfl rfl ?_
                refine K_icmp_gt (K := (fun x => Option.bind x k40_2)) (pc := 94) (tgt := 108) dX13_isCalm_94 (by decide) (fun z94 => ?_) (fun z94 => ?_)
                · refine J_iconst (pc := 108) (v := 0) dX13_isCalm_108 (by decide) ?_
                  exact J_eqo (hR40_2 false) (J_zretB (pc := 109) dX13_isCalm_109 rfl)
                · refine J_aload_n (pc := 97) 1 dX13_isCalm_97 rfl rfl ?_
                  refine J_iload_n (pc := 98) 3 dX13_isCalm_98 rfl rfl ?_
                  refine J_iload_n (pc := 99) 2 dX13_isCalm_99 rfl rfl ?_
                  refine J_iconst (pc := 100) (v := 0) dX13_isCalm_100 (by decide) ?_
                  refine JC_pp_i (J_callV (mi := mi_X13_isCalm) (mj := mi_X13_shareIf) (pc := 101) dX13_isCalm_101 ml_X13_338 ok_X13_shareIf ov_X13_shareIf ⟨Nat.le_of_ble_eq_true rfl, Nat.le_of_ble_eq_true rfl⟩ rfl (h0.lt 57 (by decide)) (h0.ty 57 rfl) rfl (s_X13_shareIf g d t s40_2 s2 0 h0 ht hla) rfl (Nat.le_of_ble_eq_true rfl)) (fun q101_2_40 => ?_)
                  refine J_iload_n (pc := 104) 0 dX13_isCalm_104 rfl rfl ?_
                  refine K_icmp_le (K := (fun x => Option.bind x k40_2)) (pc := 105) (tgt := 110) dX13_isCalm_105 (by decide) (fun z105 => ?_) (fun z105 => ?_)
                  · refine J_loc (loc' := [(0, .ref 57), (1, .int (s2)), (2, .int s40_2)]) [1, 2, 3] rfl ?_
                    exact hX13_isCalm_j110_2_40 s40_2
                  · refine J_iconst (pc := 108) (v := 0) dX13_isCalm_108 (by decide) ?_
                    exact J_eqo (hR40_2 false) (J_zretB (pc := 109) dX13_isCalm_109 rfl)
              · refine J_goto (pc := 63) (tgt := 110) dX13_isCalm_63 (by decide) ?_
                exact hX13_isCalm_j110_2_40 s40_2
          · show J mi_X13_isCalm 0 0 0 0 (g, d) 116 [(0, .ref 57), (1, .int s2)] [] (_)
            exact hX13_isCalm_j116_2 s2
        · refine J_goto (pc := 35) (tgt := 116) dX13_isCalm_35 (by decide) ?_
          exact hX13_isCalm_j116_2 s2
  · show J mi_X13_isCalm 0 0 0 0 (g, d) 122 [] [] (_)
    refine J_iconst (pc := 122) (v := 1) dX13_isCalm_122 (by decide) ?_
    exact J_eqo (hk true) (J_zretB (pc := 123) dX13_isCalm_123 rfl)
def f_X13_stills_j51_22 (t : Nat) (d51_22 : JD) (x2_51_22 : Int32) (y0_51_22 : Int32) (y1_51_22 : Int32) : Option ((Int32 × Int32 × JD) ⊕ (Int32 × JD)) := (some (.inl (y1_51_22 + y0_51_22, x2_51_22 + 1, d51_22)))
def f_X13_stills_j50_22 (t : Nat) (d50_22 : JD) (x2_50_22 : Int32) (y0_50_22 : Int32) : Option ((Int32 × Int32 × JD) ⊕ (Int32 × JD)) := (f_X13_stills_j51_22 t d50_22 x2_50_22 0 y0_50_22)
def f_X13_stills_w22 (t : Nat) (s22 : Int32 × Int32 × JD) : Option ((Int32 × Int32 × JD) ⊕ (Int32 × JD)) := (if (f_X13_ways (s22.2.2.1 t)) ≤ s22.2.1 then some (.inr (s22.1, s22.2.2)) else ((f_X13_may t s22.2.2 s22.2.1).bind (fun q33_22 => if q33_22.1 = true then ((f_X13_isCalm (q33_22.2.1 60) (q33_22.2.1 t) (q33_22.2.1 (t + 1)) (q33_22.2.1 (t + 2)) (q33_22.2.1 (t + 3)) (q33_22.2.1 (t + 4)) (q33_22.2.1 (t + 5))).bind (fun q40_22 => if q40_22 = true then (f_X13_stills_j51_22 t q33_22.2 s22.2.1 1 s22.1) else f_X13_stills_j50_22 t q33_22.2 s22.2.1 s22.1)) else f_X13_stills_j50_22 t q33_22.2 s22.2.1 s22.1)))
def f_X13_stills (t : Nat) (d : JD) : Option (Int32 × JD) := ((j_wh (f_X13_stills_w22 t ) j_fuel (0, 0, j_sI d 57 0 0)).bind (fun (e22 : Int32 × JD) => (j_let (f_X13_good e22.2 e22.1) (fun q61 => some (q61.1, q61.2)))))
set_option maxRecDepth 100000 in
set_option maxHeartbeats 4000000 in
theorem s_X13_stills (g : JG) (d : JD) (t : Nat) (h0 : j_sh g 0 TS_W RS_W) (ht : j_sh g t TS_ML RS_ML) (hla : g.2.2.1 57 3 = some t) : JM mi_X13_stills 0 0 (g, d) [.ref 57] ((f_X13_stills t d ).bind (fun r9 => some (some (.int r9.1), (g, r9.2)))) := by
  refine JM_of (by decide) rfl (Nat.le_of_ble_eq_true rfl) ?_
  refine J_loc (loc' := [(0, .ref 57)]) [0] rfl ?_
  obtain ⟨k, hk, hk2⟩ : ∃ k : Int32 × JD → Option (Option Value × JH), (∀ r9, k r9 = some (some (.int r9.1), (g, r9.2))) ∧ (fun r9 : Int32 × JD => (some (some (.int r9.1), (g, r9.2)) : Option (Option Value × JH))) = k := ⟨_, fun _ => rfl, rfl⟩
  rw [hk2]
  unfold f_X13_stills
  refine J_aload_n (pc := 0) 0 dX13_stills_0 rfl rfl ?_
  refine J_iconst (pc := 1) (v := 0) dX13_stills_1 (by decide) ?_
  refine J_putI (pc := 2) dX13_stills_2 fl_X13_42 ft_12_0 (h0.lt 57 (by decide)) (h0.ty 57 rfl) rfl rfl rfl ?_
  refine J_aload_n (pc := 5) 0 dX13_stills_5 rfl rfl ?_
  refine J_getR (pc := 6) dX13_stills_6 fl_X13_321 (h0.lt 57 (by decide)) (h0.ty 57 rfl) rfl hla ?_
  refine J_ifnonnull (pc := 9) (tgt := 18) dX13_stills_9 (by decide) ?_
  refine J_iconst (pc := 18) (v := 0) dX13_stills_18 (by decide) ?_
  refine J_istore_n (pc := 19) (loc' := [(1, .int 0), (0, .ref 57)]) dX13_stills_19 rfl (by decide) rfl ?_
  refine J_iconst (pc := 20) (v := 0) dX13_stills_20 (by decide) ?_
  refine J_istore_n (pc := 21) (loc' := [(2, .int 0), (1, .int 0), (0, .ref 57)]) dX13_stills_21 rfl (by decide) rfl ?_
  refine J_loc (loc' := [(0, .ref 57), (1, .int 0), (2, .int 0)]) [2, 1, 0] rfl ?_
  refine J_whL (F := f_X13_stills_w22 t ) (hp := fun (s22 : Int32 × Int32 × JD) => (g, s22.2.2)) (lc := fun (s22 : Int32 × Int32 × JD) => [(0, .ref 57), (1, .int s22.1), (2, .int s22.2.1)]) (XJ := fun (e22 : Int32 × JD) o9 => J mi_X13_stills 0 0 0 0 (g, e22.2) 59 [(0, .ref 57), (1, .int e22.1)] [] o9) (fun s22 k22 hB22 hX22 => ?_) (fun e22 => ?_) _ (0, 0, j_sI d 57 0 0)
  · show J mi_X13_stills 0 0 0 0 (g, s22.2.2) 22 [(0, .ref 57), (1, .int s22.1), (2, .int s22.2.1)] [] ((f_X13_stills_w22 t s22).bind k22)
    unfold f_X13_stills_w22
    have hX13_stills_j51_22 : ∀ (d51_22 : JD) (x2_51_22 : Int32) (y0_51_22 : Int32) (y1_51_22 : Int32), J mi_X13_stills 0 0 0 0 (g, d51_22) 51 [(0, .ref 57), (2, .int x2_51_22)] [.int y0_51_22, .int y1_51_22] ((f_X13_stills_j51_22 t d51_22 x2_51_22 y0_51_22 y1_51_22).bind k22) := by
      intro d51_22 x2_51_22 y0_51_22 y1_51_22
      unfold f_X13_stills_j51_22
      refine J_iadd (pc := 51) dX13_stills_51 ?_
      refine J_istore_n (pc := 52) (loc' := [(1, .int (y1_51_22 + y0_51_22)), (0, .ref 57), (2, .int x2_51_22)]) dX13_stills_52 rfl (by decide) rfl ?_
      refine J_iinc (pc := 53) (v := x2_51_22 + 1) (loc' := [(2, .int (x2_51_22 + 1)), (1, .int (y1_51_22 + y0_51_22)), (0, .ref 57)]) 2 dX13_stills_53 rfl rfl (by decide) rfl ?_
      refine J_goto (pc := 56) (tgt := 22) dX13_stills_56 (by decide) ?_
      refine J_loc (loc' := [(0, .ref 57), (1, .int (y1_51_22 + y0_51_22)), (2, .int (x2_51_22 + 1))]) [2, 1, 0] rfl ?_
      exact hB22 (y1_51_22 + y0_51_22, x2_51_22 + 1, d51_22)
    have hX13_stills_j50_22 : ∀ (d50_22 : JD) (x2_50_22 : Int32) (y0_50_22 : Int32), J mi_X13_stills 0 0 0 0 (g, d50_22) 50 [(0, .ref 57), (2, .int x2_50_22)] [.int y0_50_22] ((f_X13_stills_j50_22 t d50_22 x2_50_22 y0_50_22).bind k22) := by
      intro d50_22 x2_50_22 y0_50_22
      unfold f_X13_stills_j50_22
      refine J_iconst (pc := 50) (v := 0) dX13_stills_50 (by decide) ?_
      exact hX13_stills_j51_22 d50_22 x2_50_22 0 y0_50_22
    refine J_iload_n (pc := 22) 2 dX13_stills_22 rfl rfl ?_
    refine J_aload_n (pc := 23) 0 dX13_stills_23 rfl rfl ?_
    refine JC_pt_i (J_callV (mi := mi_X13_stills) (mj := mi_X13_ways) (pc := 24) dX13_stills_24 ml_X13_405 ok_X13_ways ov_X13_ways ⟨Nat.le_of_ble_eq_true rfl, Nat.le_of_ble_eq_true rfl⟩ rfl (h0.lt 57 (by decide)) (h0.ty 57 rfl) rfl (s_X13_ways g s22.2.2 t h0 ht hla) rfl (Nat.le_of_ble_eq_true rfl)) ?_
    refine K_icmp_ge (K := (fun x => Option.bind x k22)) (pc := 27) (tgt := 59) dX13_stills_27 (by decide) (fun z27 => ?_) (fun z27 => ?_)
    · refine J_loc (loc' := [(0, .ref 57), (1, .int s22.1)]) [0, 1] rfl ?_
      exact hX22 (s22.1, s22.2.2)
    · refine J_iload_n (pc := 30) 1 dX13_stills_30 rfl rfl ?_
      refine J_aload_n (pc := 31) 0 dX13_stills_31 rfl rfl ?_
      refine J_iload_n (pc := 32) 2 dX13_stills_32 rfl rfl ?_
      refine JC_pe_b (J_callV (mi := mi_X13_stills) (mj := mi_X13_may) (pc := 33) dX13_stills_33 ml_X13_408 ok_X13_may ov_X13_may ⟨Nat.le_of_ble_eq_true rfl, Nat.le_of_ble_eq_true rfl⟩ rfl (h0.lt 57 (by decide)) (h0.ty 57 rfl) rfl (s_X13_may g s22.2.2 t s22.2.1 h0 ht hla) rfl (Nat.le_of_ble_eq_true rfl)) (fun q33_22 => ?_)
      refine K_ifeq_b (K := (fun x => Option.bind x k22)) (pc := 36) (tgt := 50) dX13_stills_36 (by decide) (fun z36 => ?_) (fun z36 => ?_)
      · refine J_loc (loc' := [(0, .ref 57), (2, .int s22.2.1)]) [0, 2] rfl ?_
        exact hX13_stills_j50_22 q33_22.2 s22.2.1 s22.1
      · refine J_aload_n (pc := 39) 0 dX13_stills_39 rfl rfl ?_
        refine JC_pp_b (J_callV (mi := mi_X13_stills) (mj := mi_X13_isCalm) (pc := 40) dX13_stills_40 ml_X13_417 ok_X13_isCalm ov_X13_isCalm ⟨Nat.le_of_ble_eq_true rfl, Nat.le_of_ble_eq_true rfl⟩ rfl (h0.lt 57 (by decide)) (h0.ty 57 rfl) rfl (s_X13_isCalm g q33_22.2 t h0 ht hla) rfl (Nat.le_of_ble_eq_true rfl)) (fun q40_22 => ?_)
        refine K_ifeq_b (K := (fun x => Option.bind x k22)) (pc := 43) (tgt := 50) dX13_stills_43 (by decide) (fun z43 => ?_) (fun z43 => ?_)
        · refine J_loc (loc' := [(0, .ref 57), (2, .int s22.2.1)]) [0, 2] rfl ?_
          exact hX13_stills_j50_22 q33_22.2 s22.2.1 s22.1
        · refine J_iconst (pc := 46) (v := 1) dX13_stills_46 (by decide) ?_
          refine J_goto (pc := 47) (tgt := 51) dX13_stills_47 (by decide) ?_
          refine J_loc (loc' := [(0, .ref 57), (2, .int s22.2.1)]) [0, 2] rfl ?_
          exact hX13_stills_j51_22 q33_22.2 s22.2.1 1 s22.1
  · show J mi_X13_stills 0 0 0 0 (g, e22.2) 59 [(0, .ref 57), (1, .int e22.1)] [] (_)
    refine J_aload_n (pc := 59) 0 dX13_stills_59 rfl rfl ?_
    refine J_iload_n (pc := 60) 1 dX13_stills_60 rfl rfl ?_
    refine JC_lt_i (K := (fun x => Option.bind x k)) (J_callV (mi := mi_X13_stills) (mj := mi_X13_good) (pc := 61) dX13_stills_61 ml_X13_52 ok_X13_good ov_X13_good ⟨Nat.le_of_ble_eq_true rfl, Nat.le_of_ble_eq_true rfl⟩ rfl (h0.lt 57 (by decide)) (h0.ty 57 rfl) rfl (s_X13_good g e22.2 e22.1 h0) rfl (Nat.le_of_ble_eq_true rfl)) (fun q61 eq61 => ?_)
    exact J_eqo (hk (q61.1, q61.2)) (J_iret (pc := 64) dX13_stills_64 rfl)
def f_X13_isStill_j35 (t : Nat) (d35 : JD) (y0_35 : Int32) : Option (Int32 × JD) := (j_let (f_X13_good d35 y0_35) (fun q35 => some (q35.1, q35.2)))
def f_X13_isStill (t : Nat) (d : JD) : Option (Int32 × JD) := ((f_X13_works (j_sI d 57 0 0)).bind (fun q19 => (f_X13_isCalm (q19.1 60) (q19.1 t) (q19.1 (t + 1)) (q19.1 (t + 2)) (q19.1 (t + 3)) (q19.1 (t + 4)) (q19.1 (t + 5))).bind (fun q24 => if q24 = true then (f_X13_isStill_j35 t q19 1) else (f_X13_isStill_j35 t q19 0))))
set_option maxRecDepth 100000 in
set_option maxHeartbeats 4000000 in
theorem s_X13_isStill (g : JG) (d : JD) (t : Nat) (h0 : j_sh g 0 TS_W RS_W) (ht : j_sh g t TS_ML RS_ML) (hla : g.2.2.1 57 3 = some t) : JM mi_X13_isStill 0 0 (g, d) [.ref 57] ((f_X13_isStill t d ).bind (fun r9 => some (some (.int r9.1), (g, r9.2)))) := by
  refine JM_of (by decide) rfl (Nat.le_of_ble_eq_true rfl) ?_
  refine J_loc (loc' := [(0, .ref 57)]) [0] rfl ?_
  obtain ⟨k, hk, hk2⟩ : ∃ k : Int32 × JD → Option (Option Value × JH), (∀ r9, k r9 = some (some (.int r9.1), (g, r9.2))) ∧ (fun r9 : Int32 × JD => (some (some (.int r9.1), (g, r9.2)) : Option (Option Value × JH))) = k := ⟨_, fun _ => rfl, rfl⟩
  rw [hk2]
  unfold f_X13_isStill
  have hX13_isStill_j35 : ∀ (d35 : JD) (y0_35 : Int32), J mi_X13_isStill 0 0 0 0 (g, d35) 35 [] [.int y0_35, .ref 57] ((f_X13_isStill_j35 t d35 y0_35).bind k) := by
    intro d35 y0_35
    unfold f_X13_isStill_j35
    refine JC_lt_i (K := (fun x => Option.bind x k)) (J_callV (mi := mi_X13_isStill) (mj := mi_X13_good) (pc := 35) dX13_isStill_35 ml_X13_52 ok_X13_good ov_X13_good ⟨Nat.le_of_ble_eq_true rfl, Nat.le_of_ble_eq_true rfl⟩ rfl (h0.lt 57 (by decide)) (h0.ty 57 rfl) rfl (s_X13_good g d35 y0_35 h0) rfl (Nat.le_of_ble_eq_true rfl)) (fun q35 eq35 => ?_)
    exact J_eqo (hk (q35.1, q35.2)) (J_iret (pc := 38) dX13_isStill_38 rfl)
  refine J_aload_n (pc := 0) 0 dX13_isStill_0 rfl rfl ?_
  refine J_iconst (pc := 1) (v := 0) dX13_isStill_1 (by decide) ?_
  refine J_putI (pc := 2) dX13_isStill_2 fl_X13_42 ft_12_0 (h0.lt 57 (by decide)) (h0.ty 57 rfl) rfl rfl rfl ?_
  refine J_aload_n (pc := 5) 0 dX13_isStill_5 rfl rfl ?_
  refine J_getR (pc := 6) dX13_isStill_6 fl_X13_321 (h0.lt 57 (by decide)) (h0.ty 57 rfl) rfl hla ?_
  refine J_ifnonnull (pc := 9) (tgt := 18) dX13_isStill_9 (by decide) ?_
  refine J_aload_n (pc := 18) 0 dX13_isStill_18 rfl rfl ?_
  refine JC_pe_v (J_callV (mi := mi_X13_isStill) (mj := mi_X13_works) (pc := 19) dX13_isStill_19 ml_X13_348 ok_X13_works ov_X13_works ⟨Nat.le_of_ble_eq_true rfl, Nat.le_of_ble_eq_true rfl⟩ rfl (h0.lt 57 (by decide)) (h0.ty 57 rfl) rfl (s_X13_works g (j_sI d 57 0 0) h0) rfl (Nat.le_of_ble_eq_true rfl)) (fun q19 => ?_)
  refine J_aload_n (pc := 22) 0 dX13_isStill_22 rfl rfl ?_
  refine J_aload_n (pc := 23) 0 dX13_isStill_23 rfl rfl ?_
  refine JC_pp_b (J_callV (mi := mi_X13_isStill) (mj := mi_X13_isCalm) (pc := 24) dX13_isStill_24 ml_X13_417 ok_X13_isCalm ov_X13_isCalm ⟨Nat.le_of_ble_eq_true rfl, Nat.le_of_ble_eq_true rfl⟩ rfl (h0.lt 57 (by decide)) (h0.ty 57 rfl) rfl (s_X13_isCalm g q19 t h0 ht hla) rfl (Nat.le_of_ble_eq_true rfl)) (fun q24 => ?_)
  refine K_ifeq_b (K := (fun x => Option.bind x k)) (pc := 27) (tgt := 34) dX13_isStill_27 (by decide) (fun z27 => ?_) (fun z27 => ?_)
  · refine J_iconst (pc := 34) (v := 0) dX13_isStill_34 (by decide) ?_
    refine J_loc (loc' := []) [] rfl ?_
    exact hX13_isStill_j35 q19 0
  · refine J_iconst (pc := 30) (v := 1) dX13_isStill_30 (by decide) ?_
    refine J_goto (pc := 31) (tgt := 35) dX13_isStill_31 (by decide) ?_
    refine J_loc (loc' := []) [] rfl ?_
    exact hX13_isStill_j35 q19 1
def f_X13_fairWay_j40_6 (t : Nat) (d40_6 : JD) (x1_40_6 : Int32) (x2_40_6 : Int32) (x3_40_6 : Int32) : Option ((Int32 × Int32 × Int32 × JD) ⊕ (Int32 × JD)) := (some (.inl (x1_40_6, x2_40_6, x3_40_6 + 1, d40_6)))
def f_X13_fairWay_w6 (t : Nat) (s6 : Int32 × Int32 × Int32 × JD) : Option ((Int32 × Int32 × Int32 × JD) ⊕ (Int32 × JD)) := (if (f_X13_ways (s6.2.2.2.1 t)) ≤ s6.2.2.1 then some (.inr (s6.1, s6.2.2.2)) else ((f_X13_may t s6.2.2.2 s6.2.2.1).bind (fun q16_6 => if q16_6.1 = true then ((f_X13_least (q16_6.2.1 60) (q16_6.2.1 t) (q16_6.2.1 (t + 1)) (q16_6.2.1 (t + 2)) (q16_6.2.1 (t + 3)) (q16_6.2.1 (t + 4)) (q16_6.2.1 (t + 5))).bind (fun q23_6 => if s6.2.1 < q23_6 then ((f_X13_least (q16_6.2.1 60) (q16_6.2.1 t) (q16_6.2.1 (t + 1)) (q16_6.2.1 (t + 2)) (q16_6.2.1 (t + 3)) (q16_6.2.1 (t + 4)) (q16_6.2.1 (t + 5))).bind (fun q34_6 => f_X13_fairWay_j40_6 t q16_6.2 s6.2.2.1 q34_6 s6.2.2.1)) else (f_X13_fairWay_j40_6 t q16_6.2 s6.1 s6.2.1 s6.2.2.1))) else f_X13_fairWay_j40_6 t q16_6.2 s6.1 s6.2.1 s6.2.2.1)))
def f_X13_fairWay (t : Nat) (d : JD) : Option (Int32 × JD) := ((j_wh (f_X13_fairWay_w6 t ) j_fuel ((-1), (-1), 0, d)).bind (fun (e6 : Int32 × JD) => (some (e6.1, e6.2))))
set_option maxRecDepth 100000 in
set_option maxHeartbeats 4000000 in
theorem s_X13_fairWay (g : JG) (d : JD) (t : Nat) (h0 : j_sh g 0 TS_W RS_W) (ht : j_sh g t TS_ML RS_ML) (hla : g.2.2.1 57 3 = some t) : JM mi_X13_fairWay 0 0 (g, d) [.ref 57] ((f_X13_fairWay t d ).bind (fun r9 => some (some (.int r9.1), (g, r9.2)))) := by
  refine JM_of (by decide) rfl (Nat.le_of_ble_eq_true rfl) ?_
  refine J_loc (loc' := [(0, .ref 57)]) [0] rfl ?_
  obtain ⟨k, hk, hk2⟩ : ∃ k : Int32 × JD → Option (Option Value × JH), (∀ r9, k r9 = some (some (.int r9.1), (g, r9.2))) ∧ (fun r9 : Int32 × JD => (some (some (.int r9.1), (g, r9.2)) : Option (Option Value × JH))) = k := ⟨_, fun _ => rfl, rfl⟩
  rw [hk2]
  unfold f_X13_fairWay
  refine J_iconst (pc := 0) (v := (-1)) dX13_fairWay_0 (by decide) ?_
  refine J_istore_n (pc := 1) (loc' := [(1, .int (-1)), (0, .ref 57)]) dX13_fairWay_1 rfl (by decide) rfl ?_
  refine J_iconst (pc := 2) (v := (-1)) dX13_fairWay_2 (by decide) ?_
  refine J_istore_n (pc := 3) (loc' := [(2, .int (-1)), (1, .int (-1)), (0, .ref 57)]) dX13_fairWay_3 rfl (by decide) rfl ?_
  refine J_iconst (pc := 4) (v := 0) dX13_fairWay_4 (by decide) ?_
  refine J_istore_n (pc := 5) (loc' := [(3, .int 0), (2, .int (-1)), (1, .int (-1)), (0, .ref 57)]) dX13_fairWay_5 rfl (by decide) rfl ?_
  refine J_loc (loc' := [(0, .ref 57), (1, .int (-1)), (2, .int (-1)), (3, .int 0)]) [3, 2, 1, 0] rfl ?_
  refine J_whL (F := f_X13_fairWay_w6 t ) (hp := fun (s6 : Int32 × Int32 × Int32 × JD) => (g, s6.2.2.2)) (lc := fun (s6 : Int32 × Int32 × Int32 × JD) => [(0, .ref 57), (1, .int s6.1), (2, .int s6.2.1), (3, .int s6.2.2.1)]) (XJ := fun (e6 : Int32 × JD) o9 => J mi_X13_fairWay 0 0 0 0 (g, e6.2) 46 [(1, .int e6.1)] [] o9) (fun s6 k6 hB6 hX6 => ?_) (fun e6 => ?_) _ ((-1), (-1), 0, d)
  · show J mi_X13_fairWay 0 0 0 0 (g, s6.2.2.2) 6 [(0, .ref 57), (1, .int s6.1), (2, .int s6.2.1), (3, .int s6.2.2.1)] [] ((f_X13_fairWay_w6 t s6).bind k6)
    unfold f_X13_fairWay_w6
    have hX13_fairWay_j40_6 : ∀ (d40_6 : JD) (x1_40_6 : Int32) (x2_40_6 : Int32) (x3_40_6 : Int32), J mi_X13_fairWay 0 0 0 0 (g, d40_6) 40 [(0, .ref 57), (1, .int x1_40_6), (2, .int x2_40_6), (3, .int x3_40_6)] [] ((f_X13_fairWay_j40_6 t d40_6 x1_40_6 x2_40_6 x3_40_6).bind k6) := by
      intro d40_6 x1_40_6 x2_40_6 x3_40_6
      unfold f_X13_fairWay_j40_6
      refine J_iinc (pc := 40) (v := x3_40_6 + 1) (loc' := [(3, .int (x3_40_6 + 1)), (0, .ref 57), (1, .int x1_40_6), (2, .int x2_40_6)]) 3 dX13_fairWay_40 rfl rfl (by decide) rfl ?_
      refine J_goto (pc := 43) (tgt := 6) dX13_fairWay_43 (by decide) ?_
      refine J_loc (loc' := [(0, .ref 57), (1, .int x1_40_6), (2, .int x2_40_6), (3, .int (x3_40_6 + 1))]) [1, 2, 3, 0] rfl ?_
      exact hB6 (x1_40_6, x2_40_6, x3_40_6 + 1, d40_6)
    refine J_iload_n (pc := 6) 3 dX13_fairWay_6 rfl rfl ?_
    refine J_aload_n (pc := 7) 0 dX13_fairWay_7 rfl rfl ?_
    refine JC_pt_i (J_callV (mi := mi_X13_fairWay) (mj := mi_X13_ways) (pc := 8) dX13_fairWay_8 ml_X13_405 ok_X13_ways ov_X13_ways ⟨Nat.le_of_ble_eq_true rfl, Nat.le_of_ble_eq_true rfl⟩ rfl (h0.lt 57 (by decide)) (h0.ty 57 rfl) rfl (s_X13_ways g s6.2.2.2 t h0 ht hla) rfl (Nat.le_of_ble_eq_true rfl)) ?_
    refine K_icmp_ge (K := (fun x => Option.bind x k6)) (pc := 11) (tgt := 46) dX13_fairWay_11 (by decide) (fun z11 => ?_) (fun z11 => ?_)
    · refine J_loc (loc' := [(1, .int s6.1)]) [1] rfl ?_
      exact hX6 (s6.1, s6.2.2.2)
    · refine J_aload_n (pc := 14) 0 dX13_fairWay_14 rfl rfl ?_
      refine J_iload_n (pc := 15) 3 dX13_fairWay_15 rfl rfl ?_
      refine JC_pe_b (J_callV (mi := mi_X13_fairWay) (mj := mi_X13_may) (pc := 16) dX13_fairWay_16 ml_X13_408 ok_X13_may ov_X13_may ⟨Nat.le_of_ble_eq_true rfl, Nat.le_of_ble_eq_true rfl⟩ rfl (h0.lt 57 (by decide)) (h0.ty 57 rfl) rfl (s_X13_may g s6.2.2.2 t s6.2.2.1 h0 ht hla) rfl (Nat.le_of_ble_eq_true rfl)) (fun q16_6 => ?_)
      refine K_ifeq_b (K := (fun x => Option.bind x k6)) (pc := 19) (tgt := 40) dX13_fairWay_19 (by decide) (fun z19 => ?_) (fun z19 => ?_)
      · exact hX13_fairWay_j40_6 q16_6.2 s6.1 s6.2.1 s6.2.2.1
      · refine J_aload_n (pc := 22) 0 dX13_fairWay_22 rfl rfl ?_
        refine JC_pp_i (J_callV (mi := mi_X13_fairWay) (mj := mi_X13_least) (pc := 23) dX13_fairWay_23 ml_X13_411 ok_X13_least ov_X13_least ⟨Nat.le_of_ble_eq_true rfl, Nat.le_of_ble_eq_true rfl⟩ rfl (h0.lt 57 (by decide)) (h0.ty 57 rfl) rfl (s_X13_least g q16_6.2 t h0 ht hla) rfl (Nat.le_of_ble_eq_true rfl)) (fun q23_6 => ?_)
        refine J_iload_n (pc := 26) 2 dX13_fairWay_26 rfl rfl ?_
        refine K_icmp_gt (K := (fun x => Option.bind x k6)) (pc := 27) (tgt := 33) dX13_fairWay_27 (by decide) (fun z27 => ?_) (fun z27 => ?_)
        · refine J_aload_n (pc := 33) 0 dX13_fairWay_33 rfl rfl ?_
          refine JC_pp_i (J_callV (mi := mi_X13_fairWay) (mj := mi_X13_least) (pc := 34) dX13_fairWay_34 ml_X13_411 ok_X13_least ov_X13_least ⟨Nat.le_of_ble_eq_true rfl, Nat.le_of_ble_eq_true rfl⟩ rfl (h0.lt 57 (by decide)) (h0.ty 57 rfl) rfl (s_X13_least g q16_6.2 t h0 ht hla) rfl (Nat.le_of_ble_eq_true rfl)) (fun q34_6 => ?_)
          refine J_istore_n (pc := 37) (loc' := [(2, .int q34_6), (0, .ref 57), (1, .int s6.1), (3, .int s6.2.2.1)]) dX13_fairWay_37 rfl (by decide) rfl ?_
          refine J_iload_n (pc := 38) 3 dX13_fairWay_38 rfl rfl ?_
          refine J_istore_n (pc := 39) (loc' := [(1, .int s6.2.2.1), (2, .int q34_6), (0, .ref 57), (3, .int s6.2.2.1)]) dX13_fairWay_39 rfl (by decide) rfl ?_
          refine J_loc (loc' := [(0, .ref 57), (1, .int s6.2.2.1), (2, .int q34_6), (3, .int s6.2.2.1)]) [2, 0, 1, 3] rfl ?_
          exact hX13_fairWay_j40_6 q16_6.2 s6.2.2.1 q34_6 s6.2.2.1
        · refine J_goto (pc := 30) (tgt := 40) dX13_fairWay_30 (by decide) ?_
          exact hX13_fairWay_j40_6 q16_6.2 s6.1 s6.2.1 s6.2.2.1
  · show J mi_X13_fairWay 0 0 0 0 (g, e6.2) 46 [(1, .int e6.1)] [] (_)
    refine J_iload_n (pc := 46) 0 dX13_fairWay_46 rfl rfl ?_
    exact J_eqo (hk (e6.1, e6.2)) (J_iret (pc := 47) dX13_fairWay_47 rfl)
def f_X13_fairest (t : Nat) (d : JD) : Option (Int32 × JD) := ((f_X13_fairWay t (j_sI d 57 0 0)).bind (fun q20 => (f_X13_lays t q20.2 q20.1).bind (fun q23 => (f_X13_least (q23.1 60) (q23.1 t) (q23.1 (t + 1)) (q23.1 (t + 2)) (q23.1 (t + 3)) (q23.1 (t + 4)) (q23.1 (t + 5))).bind (fun q28 => j_let (f_X13_good q23 q28) (fun q31 => some (q31.1, q31.2))))))
set_option maxRecDepth 100000 in
set_option maxHeartbeats 4000000 in
theorem s_X13_fairest (g : JG) (d : JD) (t : Nat) (h0 : j_sh g 0 TS_W RS_W) (ht : j_sh g t TS_ML RS_ML) (hla : g.2.2.1 57 3 = some t) : JM mi_X13_fairest 0 0 (g, d) [.ref 57] ((f_X13_fairest t d ).bind (fun r9 => some (some (.int r9.1), (g, r9.2)))) := by
  refine JM_of (by decide) rfl (Nat.le_of_ble_eq_true rfl) ?_
  refine J_loc (loc' := [(0, .ref 57)]) [0] rfl ?_
  obtain ⟨k, hk, hk2⟩ : ∃ k : Int32 × JD → Option (Option Value × JH), (∀ r9, k r9 = some (some (.int r9.1), (g, r9.2))) ∧ (fun r9 : Int32 × JD => (some (some (.int r9.1), (g, r9.2)) : Option (Option Value × JH))) = k := ⟨_, fun _ => rfl, rfl⟩
  rw [hk2]
  unfold f_X13_fairest
  refine J_aload_n (pc := 0) 0 dX13_fairest_0 rfl rfl ?_
  refine J_iconst (pc := 1) (v := 0) dX13_fairest_1 (by decide) ?_
  refine J_putI (pc := 2) dX13_fairest_2 fl_X13_42 ft_12_0 (h0.lt 57 (by decide)) (h0.ty 57 rfl) rfl rfl rfl ?_
  refine J_aload_n (pc := 5) 0 dX13_fairest_5 rfl rfl ?_
  refine J_getR (pc := 6) dX13_fairest_6 fl_X13_321 (h0.lt 57 (by decide)) (h0.ty 57 rfl) rfl hla ?_
  refine J_ifnonnull (pc := 9) (tgt := 18) dX13_fairest_9 (by decide) ?_
  refine J_aload_n (pc := 18) 0 dX13_fairest_18 rfl rfl ?_
  refine J_aload_n (pc := 19) 0 dX13_fairest_19 rfl rfl ?_
  refine JC_pe_i (J_callV (mi := mi_X13_fairest) (mj := mi_X13_fairWay) (pc := 20) dX13_fairest_20 ml_X13_420 ok_X13_fairWay ov_X13_fairWay ⟨Nat.le_of_ble_eq_true rfl, Nat.le_of_ble_eq_true rfl⟩ rfl (h0.lt 57 (by decide)) (h0.ty 57 rfl) rfl (s_X13_fairWay g (j_sI d 57 0 0) t h0 ht hla) rfl (Nat.le_of_ble_eq_true rfl)) (fun q20 => ?_)
  refine JC_pe_v (J_callV (mi := mi_X13_fairest) (mj := mi_X13_lays) (pc := 23) dX13_fairest_23 ml_X13_383 ok_X13_lays ov_X13_lays ⟨Nat.le_of_ble_eq_true rfl, Nat.le_of_ble_eq_true rfl⟩ rfl (h0.lt 57 (by decide)) (h0.ty 57 rfl) rfl (s_X13_lays g q20.2 t q20.1 h0 ht hla) rfl (Nat.le_of_ble_eq_true rfl)) (fun q23 => ?_)
  refine J_aload_n (pc := 26) 0 dX13_fairest_26 rfl rfl ?_
  refine J_aload_n (pc := 27) 0 dX13_fairest_27 rfl rfl ?_
  refine JC_pp_i (J_callV (mi := mi_X13_fairest) (mj := mi_X13_least) (pc := 28) dX13_fairest_28 ml_X13_411 ok_X13_least ov_X13_least ⟨Nat.le_of_ble_eq_true rfl, Nat.le_of_ble_eq_true rfl⟩ rfl (h0.lt 57 (by decide)) (h0.ty 57 rfl) rfl (s_X13_least g q23 t h0 ht hla) rfl (Nat.le_of_ble_eq_true rfl)) (fun q28 => ?_)
  refine JC_lt_i (K := (fun x => Option.bind x k)) (J_callV (mi := mi_X13_fairest) (mj := mi_X13_good) (pc := 31) dX13_fairest_31 ml_X13_52 ok_X13_good ov_X13_good ⟨Nat.le_of_ble_eq_true rfl, Nat.le_of_ble_eq_true rfl⟩ rfl (h0.lt 57 (by decide)) (h0.ty 57 rfl) rfl (s_X13_good g q23 q28 h0) rfl (Nat.le_of_ble_eq_true rfl)) (fun q31 eq31 => ?_)
  exact J_eqo (hk (q31.1, q31.2)) (J_iret (pc := 34) dX13_fairest_34 rfl)
def f_X13_fairAt (t : Nat) (d : JD) (pq0 : Int32) : Option (Int32 × JD) := (if (f_X13_isGate ((j_sI d 57 0 0).1 t) pq0) = true then ((f_X13_fairWay t (j_sI d 57 0 0)).bind (fun q21 => (f_X13_lays t q21.2 q21.1).bind (fun q24 => if j_out pq0 6 then none else j_let (f_X13_good q24 ((q24.1 60) pq0.toNatClampNeg)) (fun q34 => some (q34.1, q34.2))))) else (j_let (f_X13_refused (j_sI d 57 0 0) 1) (fun q15 => some (q15.1, q15.2))))
set_option maxRecDepth 100000 in
set_option maxHeartbeats 4000000 in
theorem s_X13_fairAt (g : JG) (d : JD) (t : Nat) (pq0 : Int32) (h0 : j_sh g 0 TS_W RS_W) (ht : j_sh g t TS_ML RS_ML) (hla : g.2.2.1 57 3 = some t) : JM mi_X13_fairAt 0 0 (g, d) [.ref 57, .int pq0] ((f_X13_fairAt t d pq0).bind (fun r9 => some (some (.int r9.1), (g, r9.2)))) := by
  refine JM_of (by decide) rfl (Nat.le_of_ble_eq_true rfl) ?_
  refine J_loc (loc' := [(0, .ref 57), (1, .int pq0)]) [0, 1] rfl ?_
  obtain ⟨k, hk, hk2⟩ : ∃ k : Int32 × JD → Option (Option Value × JH), (∀ r9, k r9 = some (some (.int r9.1), (g, r9.2))) ∧ (fun r9 : Int32 × JD => (some (some (.int r9.1), (g, r9.2)) : Option (Option Value × JH))) = k := ⟨_, fun _ => rfl, rfl⟩
  rw [hk2]
  unfold f_X13_fairAt
  refine J_aload_n (pc := 0) 0 dX13_fairAt_0 rfl rfl ?_
  refine J_iconst (pc := 1) (v := 0) dX13_fairAt_1 (by decide) ?_
  refine J_putI (pc := 2) dX13_fairAt_2 fl_X13_42 ft_12_0 (h0.lt 57 (by decide)) (h0.ty 57 rfl) rfl rfl rfl ?_
  refine J_aload_n (pc := 5) 0 dX13_fairAt_5 rfl rfl ?_
  refine J_iload_n (pc := 6) 1 dX13_fairAt_6 rfl rfl ?_
  refine JC_pt_i (J_callV (mi := mi_X13_fairAt) (mj := mi_X13_isGate) (pc := 7) dX13_fairAt_7 ml_X13_345 ok_X13_isGate ov_X13_isGate ⟨Nat.le_of_ble_eq_true rfl, Nat.le_of_ble_eq_true rfl⟩ rfl (h0.lt 57 (by decide)) (h0.ty 57 rfl) rfl (s_X13_isGate g (j_sI d 57 0 0) t pq0 h0 ht hla) rfl (Nat.le_of_ble_eq_true rfl)) ?_
  refine K_ifne_b (K := (fun x => Option.bind x k)) (pc := 10) (tgt := 19) dX13_fairAt_10 (by decide) (fun z10 => ?_) (fun z10 => ?_)
  · refine J_aload_n (pc := 19) 0 dX13_fairAt_19 rfl rfl ?_
    refine J_aload_n (pc := 20) 0 dX13_fairAt_20 rfl rfl ?_
    refine JC_pe_i (J_callV (mi := mi_X13_fairAt) (mj := mi_X13_fairWay) (pc := 21) dX13_fairAt_21 ml_X13_420 ok_X13_fairWay ov_X13_fairWay ⟨Nat.le_of_ble_eq_true rfl, Nat.le_of_ble_eq_true rfl⟩ rfl (h0.lt 57 (by decide)) (h0.ty 57 rfl) rfl (s_X13_fairWay g (j_sI d 57 0 0) t h0 ht hla) rfl (Nat.le_of_ble_eq_true rfl)) (fun q21 => ?_)
    refine JC_pe_v (J_callV (mi := mi_X13_fairAt) (mj := mi_X13_lays) (pc := 24) dX13_fairAt_24 ml_X13_383 ok_X13_lays ov_X13_lays ⟨Nat.le_of_ble_eq_true rfl, Nat.le_of_ble_eq_true rfl⟩ rfl (h0.lt 57 (by decide)) (h0.ty 57 rfl) rfl (s_X13_lays g q21.2 t q21.1 h0 ht hla) rfl (Nat.le_of_ble_eq_true rfl)) (fun q24 => ?_)
    refine J_aload_n (pc := 27) 0 dX13_fairAt_27 rfl rfl ?_
    refine J_aload_n (pc := 28) 0 dX13_fairAt_28 rfl rfl ?_
    refine J_getR (pc := 29) dX13_fairAt_29 fl_X13_21 (h0.lt 57 (by decide)) (h0.ty 57 rfl) rfl (h0.rf 57 rfl) ?_
    refine J_iload_n (pc := 32) 1 dX13_fairAt_32 rfl rfl ?_
    refine J_guard (fun z33 => ?_)
    refine J_iald (pc := 33) dX13_fairAt_33 (h0.lt 60 (by decide)) (h0.ty 60 rfl) z33 ?_
    refine JC_lt_i (K := (fun x => Option.bind x k)) (J_callV (mi := mi_X13_fairAt) (mj := mi_X13_good) (pc := 34) dX13_fairAt_34 ml_X13_52 ok_X13_good ov_X13_good ⟨Nat.le_of_ble_eq_true rfl, Nat.le_of_ble_eq_true rfl⟩ rfl (h0.lt 57 (by decide)) (h0.ty 57 rfl) rfl (s_X13_good g q24 ((q24.1 60) pq0.toNatClampNeg) h0) rfl (Nat.le_of_ble_eq_true rfl)) (fun q34 eq34 => ?_)
    exact J_eqo (hk (q34.1, q34.2)) (J_iret (pc := 37) dX13_fairAt_37 rfl)
  · refine J_aload_n (pc := 13) 0 dX13_fairAt_13 rfl rfl ?_
    refine J_iconst (pc := 14) (v := 1) dX13_fairAt_14 (by decide) ?_
    refine JC_lt_i (K := (fun x => Option.bind x k)) (J_callV (mi := mi_X13_fairAt) (mj := mi_X13_refused) (pc := 15) dX13_fairAt_15 ml_X13_48 ok_X13_refused ov_X13_refused ⟨Nat.le_of_ble_eq_true rfl, Nat.le_of_ble_eq_true rfl⟩ rfl (h0.lt 57 (by decide)) (h0.ty 57 rfl) rfl (s_X13_refused g (j_sI d 57 0 0) 1 h0) rfl (Nat.le_of_ble_eq_true rfl)) (fun q15 eq15 => ?_)
    exact J_eqo (hk (q15.1, q15.2)) (J_iret (pc := 18) dX13_fairAt_18 rfl)
def f_X13_guesses_b4 (r_t0 : Nat → Int32) (i4 : Int32) (s4 : Int32) : Int32 := (s4 * 3)
def f_X13_guesses (r_t0 : Nat → Int32) : Int32 := (j_let (j_for (r_t0 7) (f_X13_guesses_b4 r_t0 ) (j_mu (r_t0 7) 0) 0 1) (fun (s4 : Int32) => (s4)))
set_option maxRecDepth 100000 in
set_option maxHeartbeats 4000000 in
theorem s_X13_guesses (g : JG) (d : JD) (t : Nat) (h0 : j_sh g 0 TS_W RS_W) (ht : j_sh g t TS_ML RS_ML) (hla : g.2.2.1 57 3 = some t) : JM mi_X13_guesses 0 0 (g, d) [.ref 57] (some (some (.int (f_X13_guesses (d.1 t) )), (g, d))) := by
  refine JM_of (by decide) rfl (Nat.le_of_ble_eq_true rfl) ?_
  refine J_loc (loc' := [(0, .ref 57)]) [0] rfl ?_
  obtain ⟨k, hk⟩ : ∃ k : Int32 → Option (Option Value × JH), ∀ r9, k r9 = some (some (.int r9), (g, d)) := ⟨_, fun _ => rfl⟩
  refine J_eqo (hk (f_X13_guesses (d.1 t) )).symm ?_
  unfold f_X13_guesses
  refine J_iconst (pc := 0) (v := 1) dX13_guesses_0 (by decide) ?_
  refine J_istore_n (pc := 1) (loc' := [(1, .int 1), (0, .ref 57)]) dX13_guesses_1 rfl (by decide) rfl ?_
  refine J_iconst (pc := 2) (v := 0) dX13_guesses_2 (by decide) ?_
  refine J_istore_n (pc := 3) (loc' := [(2, .int 0), (1, .int 1), (0, .ref 57)]) dX13_guesses_3 rfl (by decide) rfl ?_
  refine J_loc (loc' := [(0, .ref 57), (1, .int 1), (2, .int 0)]) [2, 1, 0] rfl ?_
  refine J_forL (K := k) (b := (d.1 t) 7) (G := f_X13_guesses_b4 (d.1 t) ) (hp := fun (s4 : Int32) => (g, d)) (lc := fun (i4 : Int32) (s4 : Int32) => [(0, .ref 57), (1, .int s4), (2, .int i4)]) (XJ := fun (i4 : Int32) (s4 : Int32) o9 => J mi_X13_guesses 0 0 0 0 (g, d) 25 [(1, .int s4)] [] o9) (fun i4 s4 o4 Kb4 hX4 hB4 => ?_) (fun i4 s4 => ?_) _ _ 1 (Nat.le_refl _)
  · show J mi_X13_guesses 0 0 0 0 (g, d) 4 [(0, .ref 57), (1, .int s4), (2, .int i4)] [] (if ((d.1 t) 7) ≤ i4 then o4 else Kb4 (f_X13_guesses_b4 (d.1 t) i4 s4))
    refine J_iload_n (pc := 4) 2 dX13_guesses_4 rfl rfl ?_
    refine J_aload_n (pc := 5) 0 dX13_guesses_5 rfl rfl ?_
    refine J_getR (pc := 6) dX13_guesses_6 fl_X13_321 (h0.lt 57 (by decide)) (h0.ty 57 rfl) rfl hla ?_
    refine J_getI (pc := 9) dX13_guesses_9 fl_X13_301 (ht.lt 0 (by decide)) (ht.ty 0 rfl) rfl ?_
    refine J_icmp_ge (pc := 12) (tgt := 25) dX13_guesses_12 (by decide) (fun z4 => ?_) (fun z4 => ?_)
    · refine J_loc (loc' := [(1, .int s4)]) [1] rfl ?_
      exact hX4 z4
    · unfold f_X13_guesses_b4
      refine J_iload_n (pc := 15) 1 dX13_guesses_15 rfl rfl ?_
      refine J_iconst (pc := 16) (v := 3) dX13_guesses_16 (by decide) ?_
      refine J_imul (pc := 17) dX13_guesses_17 ?_
      refine J_istore_n (pc := 18) (loc' := [(1, .int (s4 * 3)), (0, .ref 57), (2, .int i4)]) dX13_guesses_18 rfl (by decide) rfl ?_
      refine J_iinc (pc := 19) (v := i4 + 1) (loc' := [(2, .int (i4 + 1)), (1, .int (s4 * 3)), (0, .ref 57)]) 2 dX13_guesses_19 rfl rfl (by decide) rfl ?_
      refine J_goto (pc := 22) (tgt := 4) dX13_guesses_22 (by decide) ?_
      refine J_loc (loc' := [(0, .ref 57), (1, .int (s4 * 3)), (2, .int (i4 + 1))]) [2, 1, 0] rfl ?_
      exact hB4 z4 (s4 * 3)
  · show J mi_X13_guesses 0 0 0 0 (g, d) 25 [(1, .int s4)] [] (_)
    refine J_iload_n (pc := 25) 0 dX13_guesses_25 rfl rfl ?_
    exact J_eqo (hk s4) (J_iret (pc := 26) dX13_guesses_26 rfl)
def f_X13_guess_w13 (r_t0 : Nat → Int32) (c2_13 : Int32) (s13 : Int32 × Int32) : Option ((Int32 × Int32) ⊕ (Int32)) := (if s13.2 ≤ (c2_13) then some (.inr s13.1) else (some (.inl (s13.1 / 3, s13.2 + (-1)))))
def f_X13_guess (r_t0 : Nat → Int32) (pq0 : Int32) (pq1 : Int32) : Option (Int32) := ((j_wh (f_X13_guess_w13 r_t0 pq1 ) j_fuel (pq0, (r_t0 7) - 1)).bind (fun (e13 : Int32) => (some (e13 - e13 / 3 * 3))))
set_option maxRecDepth 100000 in
set_option maxHeartbeats 4000000 in
theorem s_X13_guess (g : JG) (d : JD) (t : Nat) (pq0 : Int32) (pq1 : Int32) (h0 : j_sh g 0 TS_W RS_W) (ht : j_sh g t TS_ML RS_ML) (hla : g.2.2.1 57 3 = some t) : JM mi_X13_guess 0 0 (g, d) [.ref 57, .int pq0, .int pq1] ((f_X13_guess (d.1 t) pq0 pq1).bind (fun r9 => some (some (.int r9), (g, d)))) := by
  refine JM_of (by decide) rfl (Nat.le_of_ble_eq_true rfl) ?_
  refine J_loc (loc' := [(0, .ref 57), (1, .int pq0), (2, .int pq1)]) [0, 1, 2] rfl ?_
  obtain ⟨k, hk, hk2⟩ : ∃ k : Int32 → Option (Option Value × JH), (∀ r9, k r9 = some (some (.int r9), (g, d))) ∧ (fun r9 : Int32 => (some (some (.int r9), (g, d)) : Option (Option Value × JH))) = k := ⟨_, fun _ => rfl, rfl⟩
  rw [hk2]
  unfold f_X13_guess
  refine J_iload_n (pc := 0) 1 dX13_guess_0 rfl rfl ?_
  refine J_istore_n (pc := 1) (loc' := [(3, .int pq0), (0, .ref 57), (1, .int pq0), (2, .int pq1)]) dX13_guess_1 rfl (by decide) rfl ?_
  refine J_aload_n (pc := 2) 1 dX13_guess_2 rfl rfl ?_
  refine J_getR (pc := 3) dX13_guess_3 fl_X13_321 (h0.lt 57 (by decide)) (h0.ty 57 rfl) rfl hla ?_
  refine J_getI (pc := 6) dX13_guess_6 fl_X13_301 (ht.lt 0 (by decide)) (ht.ty 0 rfl) rfl ?_
  refine J_iconst (pc := 9) (v := 1) dX13_guess_9 (by decide) ?_
  refine J_isub (pc := 10) dX13_guess_10 ?_
  refine J_istore (pc := 11) (loc' := [(4, .int (((d.1 t) 7) - 1)), (3, .int pq0), (0, .ref 57), (1, .int pq0), (2, .int pq1)]) dX13_guess_11 (by decide) rfl ?_
  refine J_loc (loc' := [(2, .int pq1), (3, .int pq0), (4, .int (((d.1 t) 7) - 1))]) [4, 1, 0] rfl ?_
  refine J_whL (F := f_X13_guess_w13 (d.1 t) pq1 ) (hp := fun (s13 : Int32 × Int32) => (g, d)) (lc := fun (s13 : Int32 × Int32) => [(2, .int (pq1)), (3, .int s13.1), (4, .int s13.2)]) (XJ := fun (e13 : Int32) o9 => J mi_X13_guess 0 0 0 0 (g, d) 29 [(3, .int e13)] [] o9) (fun s13 k13 hB13 hX13 => ?_) (fun e13 => ?_) _ (pq0, ((d.1 t) 7) - 1)
  · show J mi_X13_guess 0 0 0 0 (g, d) 13 [(2, .int (pq1)), (3, .int s13.1), (4, .int s13.2)] [] ((f_X13_guess_w13 (d.1 t) pq1 s13).bind k13)
    unfold f_X13_guess_w13
    refine J_iload (pc := 13) 2 dX13_guess_13 rfl ?_
    refine J_iload_n (pc := 15) 0 dX13_guess_15 rfl rfl ?_
    refine K_icmp_le (K := (fun x => Option.bind x k13)) (pc := 16) (tgt := 29) dX13_guess_16 (by decide) (fun z16 => ?_) (fun z16 => ?_)
    · refine J_loc (loc' := [(3, .int s13.1)]) [1] rfl ?_
      exact hX13 s13.1
    · refine J_iload_n (pc := 19) 1 dX13_guess_19 rfl rfl ?_
      refine J_iconst (pc := 20) (v := 3) dX13_guess_20 (by decide) ?_
      refine J_idiv (pc := 21) dX13_guess_21 (by decide) ?_
      refine J_istore_n (pc := 22) (loc' := [(3, .int (s13.1 / 3)), (2, .int (pq1)), (4, .int s13.2)]) dX13_guess_22 rfl (by decide) rfl ?_
      refine J_iinc (pc := 23) (v := s13.2 + (-1)) (loc' := [(4, .int (s13.2 + (-1))), (3, .int (s13.1 / 3)), (2, .int (pq1))]) 2 dX13_guess_23 rfl rfl (by decide) rfl ?_
      refine J_goto (pc := 26) (tgt := 13) dX13_guess_26 (by decide) ?_
      refine J_loc (loc' := [(2, .int (pq1)), (3, .int (s13.1 / 3)), (4, .int (s13.2 + (-1)))]) [2, 1, 0] rfl ?_
      exact hB13 (s13.1 / 3, s13.2 + (-1))
  · show J mi_X13_guess 0 0 0 0 (g, d) 29 [(3, .int e13)] [] (_)
    refine J_iload_n (pc := 29) 0 dX13_guess_29 rfl rfl ?_
    refine J_iconst (pc := 30) (v := 3) dX13_guess_30 (by decide) ?_
    refine J_irem (pc := 31) dX13_guess_31 (by decide) ?_
    exact J_eqo (hk (e13 - e13 / 3 * 3)) (J_iret (pc := 32) dX13_guess_32 rfl)
def f_X13_wrong_j45_2 (r_60 : Nat → Int32) (r_t0 : Nat → Int32) (r_t1 : Nat → Int32) (r_t2 : Nat → Int32) (r_t3 : Nat → Int32) (r_t4 : Nat → Int32) (r_t5 : Nat → Int32) (r_t11 : Nat → Int32) (x1_45_2 : Int32) : Option ((Int32) ⊕ (Int32 ⊕ (Unit))) := (some (.inl (x1_45_2 + 1)))
def f_X13_wrong_w2 (r_60 : Nat → Int32) (r_t0 : Nat → Int32) (r_t1 : Nat → Int32) (r_t2 : Nat → Int32) (r_t3 : Nat → Int32) (r_t4 : Nat → Int32) (r_t5 : Nat → Int32) (r_t11 : Nat → Int32) (s2 : Int32) : Option ((Int32) ⊕ (Int32 ⊕ (Unit))) := (if (r_t0 2) ≤ s2 then some (.inr (.inr ())) else (if j_out s2 5 then none else if (r_t11 s2.toNatClampNeg) = (-1) then f_X13_wrong_j45_2 r_60 r_t0 r_t1 r_t2 r_t3 r_t4 r_t5 r_t11 s2 else ((f_X13_has r_60 r_t0 r_t1 r_t2 r_t3 r_t4 r_t5 s2).bind (fun q28_2 => if j_out s2 5 then none else if q28_2 = (r_t11 s2.toNatClampNeg) then f_X13_wrong_j45_2 r_60 r_t0 r_t1 r_t2 r_t3 r_t4 r_t5 r_t11 s2 else (some (Sum.inr (Sum.inl s2)))))))
def f_X13_wrong (r_60 : Nat → Int32) (r_t0 : Nat → Int32) (r_t1 : Nat → Int32) (r_t2 : Nat → Int32) (r_t3 : Nat → Int32) (r_t4 : Nat → Int32) (r_t5 : Nat → Int32) (r_t11 : Nat → Int32) : Option (Int32) := ((j_wh (f_X13_wrong_w2 r_60 r_t0 r_t1 r_t2 r_t3 r_t4 r_t5 r_t11 ) j_fuel 0).bind (Sum.elim (fun r9 => some r9) (fun (e2 : Unit) => (some (-2)))))
set_option maxRecDepth 100000 in
set_option maxHeartbeats 4000000 in
theorem s_X13_wrong (g : JG) (d : JD) (t : Nat) (h0 : j_sh g 0 TS_W RS_W) (ht : j_sh g t TS_ML RS_ML) (hla : g.2.2.1 57 3 = some t) : JM mi_X13_wrong 0 0 (g, d) [.ref 57] ((f_X13_wrong (d.1 60) (d.1 t) (d.1 (t + 1)) (d.1 (t + 2)) (d.1 (t + 3)) (d.1 (t + 4)) (d.1 (t + 5)) (d.1 (t + 11)) ).bind (fun r9 => some (some (.int r9), (g, d)))) := by
  refine JM_of (by decide) rfl (Nat.le_of_ble_eq_true rfl) ?_
  refine J_loc (loc' := [(0, .ref 57)]) [0] rfl ?_
  obtain ⟨k, hk, hk2⟩ : ∃ k : Int32 → Option (Option Value × JH), (∀ r9, k r9 = some (some (.int r9), (g, d))) ∧ (fun r9 : Int32 => (some (some (.int r9), (g, d)) : Option (Option Value × JH))) = k := ⟨_, fun _ => rfl, rfl⟩
  rw [hk2]
  unfold f_X13_wrong
  refine J_iconst (pc := 0) (v := 0) dX13_wrong_0 (by decide) ?_
  refine J_istore_n (pc := 1) (loc' := [(1, .int 0), (0, .ref 57)]) dX13_wrong_1 rfl (by decide) rfl ?_
  refine J_loc (loc' := [(0, .ref 57), (1, .int 0)]) [1, 0] rfl ?_
  refine J_whR (F := f_X13_wrong_w2 (d.1 60) (d.1 t) (d.1 (t + 1)) (d.1 (t + 2)) (d.1 (t + 3)) (d.1 (t + 4)) (d.1 (t + 5)) (d.1 (t + 11)) ) (fr := fun r9 => some r9) (k := k) (hp := fun (s2 : Int32) => (g, d)) (lc := fun (s2 : Int32) => [(0, .ref 57), (1, .int s2)]) (XJ := fun (e2 : Unit) o9 => J mi_X13_wrong 0 0 0 0 (g, d) 51 [] [] o9) (RJ := fun r9 o9 => o9 = some (some (.int r9), (g, d))) (fun s2 k2 hB2 hR2 hX2 => ?_) (fun e2 => ?_) (fun r9 => hk r9) _ 0
  · show J mi_X13_wrong 0 0 0 0 (g, d) 2 [(0, .ref 57), (1, .int s2)] [] ((f_X13_wrong_w2 (d.1 60) (d.1 t) (d.1 (t + 1)) (d.1 (t + 2)) (d.1 (t + 3)) (d.1 (t + 4)) (d.1 (t + 5)) (d.1 (t + 11)) s2).bind k2)
    unfold f_X13_wrong_w2
    have hX13_wrong_j45_2 : ∀ (x1_45_2 : Int32), J mi_X13_wrong 0 0 0 0 (g, d) 45 [(0, .ref 57), (1, .int x1_45_2)] [] ((f_X13_wrong_j45_2 (d.1 60) (d.1 t) (d.1 (t + 1)) (d.1 (t + 2)) (d.1 (t + 3)) (d.1 (t + 4)) (d.1 (t + 5)) (d.1 (t + 11)) x1_45_2).bind k2) := by
      intro x1_45_2
      unfold f_X13_wrong_j45_2
      refine J_iinc (pc := 45) (v := x1_45_2 + 1) (loc' := [(1, .int (x1_45_2 + 1)), (0, .ref 57)]) 1 dX13_wrong_45 rfl rfl (by decide) rfl ?_
      refine J_goto (pc := 48) (tgt := 2) dX13_wrong_48 (by decide) ?_
      refine J_loc (loc' := [(0, .ref 57), (1, .int (x1_45_2 + 1))]) [1, 0] rfl ?_
      exact hB2 (x1_45_2 + 1)
    refine J_iload_n (pc := 2) 1 dX13_wrong_2 rfl rfl ?_
    refine J_aload_n (pc := 3) 0 dX13_wrong_3 rfl rfl ?_
    refine J_getR (pc := 4) dX13_wrong_4 fl_X13_321 (h0.lt 57 (by decide)) (h0.ty 57 rfl) rfl hla ?_
    refine J_getI (pc := 7) dX13_wrong_7 fl_X13_229 (ht.lt 0 (by decide)) (ht.ty 0 rfl) rfl ?_
    refine K_icmp_ge (K := (fun x => Option.bind x k2)) (pc := 10) (tgt := 51) dX13_wrong_10 (by decide) (fun z10 => ?_) (fun z10 => ?_)
    · refine J_loc (loc' := []) [] rfl ?_
      exact hX2 ()
    · refine J_aload_n (pc := 13) 0 dX13_wrong_13 rfl rfl ?_
      refine J_getR (pc := 14) dX13_wrong_14 fl_X13_321 (h0.lt 57 (by decide)) (h0.ty 57 rfl) rfl hla ?_
      refine J_getR (pc := 17) dX13_wrong_17 fl_X13_309 (ht.lt 0 (by decide)) (ht.ty 0 rfl) rfl (ht.rf 10 rfl) ?_
      refine J_iload_n (pc := 20) 1 dX13_wrong_20 rfl rfl ?_
      refine J_guard (fun z21 => ?_)
      refine J_iald (pc := 21) dX13_wrong_21 (ht.lt 11 (by decide)) (ht.ty 11 rfl) z21 ?_
      refine J_iconst (pc := 22) (v := (-1)) dX13_wrong_22 (by decide) ?_
      refine K_icmp_eq (K := (fun x => Option.bind x k2)) (pc := 23) (tgt := 45) dX13_wrong_23 (by decide) (fun z23 => ?_) (fun z23 => ?_)
      · exact hX13_wrong_j45_2 s2
      · refine J_aload_n (pc := 26) 0 dX13_wrong_26 rfl rfl ?_
        refine J_iload_n (pc := 27) 1 dX13_wrong_27 rfl rfl ?_
        refine JC_pp_i (J_callV (mi := mi_X13_wrong) (mj := mi_X13_has) (pc := 28) dX13_wrong_28 ml_X13_354 ok_X13_has ov_X13_has ⟨Nat.le_of_ble_eq_true rfl, Nat.le_of_ble_eq_true rfl⟩ rfl (h0.lt 57 (by decide)) (h0.ty 57 rfl) rfl (s_X13_has g d t s2 h0 ht hla) rfl (Nat.le_of_ble_eq_true rfl)) (fun q28_2 => ?_)
        refine J_aload_n (pc := 31) 0 dX13_wrong_31 rfl rfl ?_
        refine J_getR (pc := 32) dX13_wrong_32 fl_X13_321 (h0.lt 57 (by decide)) (h0.ty 57 rfl) rfl hla ?_
        refine J_getR (pc := 35) dX13_wrong_35 fl_X13_309 (ht.lt 0 (by decide)) (ht.ty 0 rfl) rfl (ht.rf 10 rfl) ?_
        refine J_iload_n (pc := 38) 1 dX13_wrong_38 rfl rfl ?_
        refine J_guard (fun z39 => ?_)
        refine J_iald (pc := 39) dX13_wrong_39 (ht.lt 11 (by decide)) (ht.ty 11 rfl) z39 ?_
        refine K_icmp_eq (K := (fun x => Option.bind x k2)) (pc := 40) (tgt := 45) dX13_wrong_40 (by decide) (fun z40 => ?_) (fun z40 => ?_)
        · exact hX13_wrong_j45_2 s2
        · refine J_iload_n (pc := 43) 1 dX13_wrong_43 rfl rfl ?_
          exact J_eqo (hR2 s2) (J_iret (pc := 44) dX13_wrong_44 rfl)
  · show J mi_X13_wrong 0 0 0 0 (g, d) 51 [] [] (_)
    refine J_bipush (pc := 51) (v := (-2)) dX13_wrong_51 (by decide) ?_
    exact J_eqo (hk (-2)) (J_iret (pc := 53) dX13_wrong_53 rfl)
def f_X13_fitting_w12 (t : Nat) (c1_12 : Int32) (s12 : Int32 × JD) : Option ((Int32 × JD) ⊕ (JD)) := (if 12 ≤ s12.1 then some (.inr s12.2) else (if j_out s12.1 12 then none else some (.inl (s12.1 + 1, j_sI s12.2 66 s12.1.toNatClampNeg 0))))
def f_X13_fitting_w47_33 (t : Nat) (c1_47_33 : Int32) (c2_47_33 : Int32) (s47_33 : Int32 × JD) : Option ((Int32 × JD) ⊕ (JD)) := (if ((s47_33.2.1 t) 7) ≤ s47_33.1 then some (.inr s47_33.2) else (if j_out s47_33.1 4 then none else (f_X13_guess (s47_33.2.1 t) (c2_47_33) s47_33.1).bind (fun q74_33_47 => if j_out ((s47_33.2.1 (t + 10)) s47_33.1.toNatClampNeg) 6 then none else some (.inl (s47_33.1 + 1, j_sI s47_33.2 60 (((s47_33.2.1 (t + 10)) s47_33.1.toNatClampNeg).toNatClampNeg) q74_33_47)))))
def f_X13_fitting_w121_33 (t : Nat) (c1_121_33 : Int32) (c2_121_33 : Int32) (s121_33 : Int32 × JD) : Option ((Int32 × JD) ⊕ (JD)) := (if ((s121_33.2.1 t) 7) ≤ s121_33.1 then some (.inr s121_33.2) else ((f_X13_guess (s121_33.2.1 t) (c2_121_33) s121_33.1).bind (fun q142_33_121 => if j_out (((3 : Int32) * s121_33.1) + q142_33_121) 12 then none else if j_out (((3 : Int32) * s121_33.1) + q142_33_121) 12 then none else some (.inl (s121_33.1 + 1, j_sI s121_33.2 66 ((((3 : Int32) * s121_33.1) + q142_33_121).toNatClampNeg) (((s121_33.2.1 66) ((((3 : Int32) * s121_33.1) + q142_33_121).toNatClampNeg)) + 1))))))
def f_X13_fitting_j157_33 (t : Nat) (c1_33 : Int32) (d157_33 : JD) (x2_157_33 : Int32) : Option ((Int32 × JD) ⊕ (JD)) := (some (.inl (x2_157_33 + 1, d157_33)))
def f_X13_fitting_j109_33 (t : Nat) (c1_33 : Int32) (d109_33 : JD) (x2_109_33 : Int32) : Option ((Int32 × JD) ⊕ (JD)) := ((j_wh (f_X13_fitting_w121_33 t (c1_33) x2_109_33 ) j_fuel (0, j_sI d109_33 57 25 (((d109_33.1 57) 25) + 1))).bind (fun (e121_33 : JD) => f_X13_fitting_j157_33 t (c1_33) e121_33 x2_109_33))
def f_X13_fitting_w33 (t : Nat) (c1_33 : Int32) (s33 : Int32 × JD) : Option ((Int32 × JD) ⊕ (JD)) := (if (f_X13_guesses (s33.2.1 t)) ≤ s33.1 then some (.inr s33.2) else ((f_X13_asTold t s33.2).bind (fun q42_33 => (j_wh (f_X13_fitting_w47_33 t (c1_33) s33.1 ) j_fuel (0, q42_33)).bind (fun (e47_33 : JD) => ((f_X13_wrong (e47_33.1 60) (e47_33.1 t) (e47_33.1 (t + 1)) (e47_33.1 (t + 2)) (e47_33.1 (t + 3)) (e47_33.1 (t + 4)) (e47_33.1 (t + 5)) (e47_33.1 (t + 11))).bind (fun q85_33 => if q85_33 = (-2) then (if ((e47_33.1 57) 25) = (c1_33) then (f_X13_fitting_j109_33 t (c1_33) (j_sI e47_33 57 26 s33.1) s33.1) else f_X13_fitting_j109_33 t (c1_33) e47_33 s33.1) else (f_X13_fitting_j157_33 t (c1_33) e47_33 s33.1)))))))
def f_X13_fitting (t : Nat) (d : JD) (pq0 : Int32) : Option (JD) := ((j_wh (f_X13_fitting_w12 t pq0 ) j_fuel (0, j_sI (j_sI d 57 25 0) 57 26 (-1))).bind (fun (e12 : JD) => ((j_wh (f_X13_fitting_w33 t pq0 ) j_fuel (0, e12)).bind (fun (e33 : JD) => (some e33)))))
set_option maxRecDepth 100000 in
set_option maxHeartbeats 4000000 in
theorem s_X13_fitting (g : JG) (d : JD) (t : Nat) (pq0 : Int32) (h0 : j_sh g 0 TS_W RS_W) (ht : j_sh g t TS_ML RS_ML) (hla : g.2.2.1 57 3 = some t) : JM mi_X13_fitting 0 0 (g, d) [.ref 57, .int pq0] ((f_X13_fitting t d pq0).bind (fun r9 => some (none, (g, r9)))) := by
  refine JM_of (by decide) rfl (Nat.le_of_ble_eq_true rfl) ?_
  refine J_loc (loc' := [(0, .ref 57), (1, .int pq0)]) [0, 1] rfl ?_
  obtain ⟨k, hk, hk2⟩ : ∃ k : JD → Option (Option Value × JH), (∀ r9, k r9 = some (none, (g, r9))) ∧ (fun r9 : JD => (some (none, (g, r9)) : Option (Option Value × JH))) = k := ⟨_, fun _ => rfl, rfl⟩
  rw [hk2]
  unfold f_X13_fitting
  refine J_aload_n (pc := 0) 0 dX13_fitting_0 rfl rfl ?_
  refine J_iconst (pc := 1) (v := 0) dX13_fitting_1 (by decide) ?_
  refine J_putI (pc := 2) dX13_fitting_2 fl_X13_423 ft_12_25 (h0.lt 57 (by decide)) (h0.ty 57 rfl) rfl rfl rfl ?_
  refine J_aload_n (pc := 5) 0 dX13_fitting_5 rfl rfl ?_
  refine J_iconst (pc := 6) (v := (-1)) dX13_fitting_6 (by decide) ?_
  refine J_putI (pc := 7) dX13_fitting_7 fl_X13_426 ft_12_26 (h0.lt 57 (by decide)) (h0.ty 57 rfl) rfl rfl rfl ?_
  refine J_iconst (pc := 10) (v := 0) dX13_fitting_10 (by decide) ?_
  refine J_istore_n (pc := 11) (loc' := [(2, .int 0), (0, .ref 57), (1, .int pq0)]) dX13_fitting_11 rfl (by decide) rfl ?_
  refine J_loc (loc' := [(0, .ref 57), (1, .int pq0), (2, .int 0)]) [1, 2, 0] rfl ?_
  refine J_whL (F := f_X13_fitting_w12 t pq0 ) (hp := fun (s12 : Int32 × JD) => (g, s12.2)) (lc := fun (s12 : Int32 × JD) => [(0, .ref 57), (1, .int (pq0)), (2, .int s12.1)]) (XJ := fun (e12 : JD) o9 => J mi_X13_fitting 0 0 0 0 (g, e12) 31 [(0, .ref 57), (1, .int pq0)] [] o9) (fun s12 k12 hB12 hX12 => ?_) (fun e12 => ?_) _ (0, j_sI (j_sI d 57 25 0) 57 26 (-1))
  · show J mi_X13_fitting 0 0 0 0 (g, s12.2) 12 [(0, .ref 57), (1, .int (pq0)), (2, .int s12.1)] [] ((f_X13_fitting_w12 t pq0 s12).bind k12)
    unfold f_X13_fitting_w12
    refine J_iload_n (pc := 12) 2 dX13_fitting_12 rfl rfl ?_
    refine J_bipush (pc := 13) (v := 12) dX13_fitting_13 (by decide) ?_
    refine K_icmp_ge (K := (fun x => Option.bind x k12)) (pc := 15) (tgt := 31) dX13_fitting_15 (by decide) (fun z15 => ?_) (fun z15 => ?_)
    · refine J_loc (loc' := [(0, .ref 57), (1, .int (pq0))]) [0, 1] rfl ?_
      exact hX12 s12.2
    · refine J_aload_n (pc := 18) 0 dX13_fitting_18 rfl rfl ?_
      refine J_getR (pc := 19) dX13_fitting_19 fl_X13_39 (h0.lt 57 (by decide)) (h0.ty 57 rfl) rfl (h0.rf 63 rfl) ?_
      refine J_iload_n (pc := 22) 2 dX13_fitting_22 rfl rfl ?_
      refine J_iconst (pc := 23) (v := 0) dX13_fitting_23 (by decide) ?_
      refine J_guard (fun z24 => ?_)
      refine J_iast (pc := 24) dX13_fitting_24 (h0.lt 66 (by decide)) (h0.ty 66 rfl) z24 ?_
      refine J_iinc (pc := 25) (v := s12.1 + 1) (loc' := [(2, .int (s12.1 + 1)), (0, .ref 57), (1, .int (pq0))]) 2 dX13_fitting_25 rfl rfl (by decide) rfl ?_
      refine J_goto (pc := 28) (tgt := 12) dX13_fitting_28 (by decide) ?_
      refine J_loc (loc' := [(0, .ref 57), (1, .int (pq0)), (2, .int (s12.1 + 1))]) [1, 2, 0] rfl ?_
      exact hB12 (s12.1 + 1, j_sI s12.2 66 s12.1.toNatClampNeg 0)
  · show J mi_X13_fitting 0 0 0 0 (g, e12) 31 [(0, .ref 57), (1, .int pq0)] [] (_)
    refine J_iconst (pc := 31) (v := 0) dX13_fitting_31 (by decide) ?_
    refine J_istore_n (pc := 32) (loc' := [(2, .int 0), (0, .ref 57), (1, .int pq0)]) dX13_fitting_32 rfl (by decide) rfl ?_
    refine J_loc (loc' := [(0, .ref 57), (1, .int pq0), (2, .int 0)]) [1, 2, 0] rfl ?_
    refine J_whL (F := f_X13_fitting_w33 t pq0 ) (hp := fun (s33 : Int32 × JD) => (g, s33.2)) (lc := fun (s33 : Int32 × JD) => [(0, .ref 57), (1, .int (pq0)), (2, .int s33.1)]) (XJ := fun (e33 : JD) o9 => J mi_X13_fitting 0 0 0 0 (g, e33) 163 [] [] o9) (fun s33 k33 hB33 hX33 => ?_) (fun e33 => ?_) _ (0, e12)
    · show J mi_X13_fitting 0 0 0 0 (g, s33.2) 33 [(0, .ref 57), (1, .int (pq0)), (2, .int s33.1)] [] ((f_X13_fitting_w33 t pq0 s33).bind k33)
      unfold f_X13_fitting_w33
      have hX13_fitting_j157_33 : ∀ (d157_33 : JD) (x2_157_33 : Int32), J mi_X13_fitting 0 0 0 0 (g, d157_33) 157 [(0, .ref 57), (1, .int (pq0)), (2, .int x2_157_33)] [] ((f_X13_fitting_j157_33 t pq0 d157_33 x2_157_33).bind k33) := by
        intro d157_33 x2_157_33
        unfold f_X13_fitting_j157_33
        refine J_iinc (pc := 157) (v := x2_157_33 + 1) (loc' := [(2, .int (x2_157_33 + 1)), (0, .ref 57), (1, .int (pq0))]) 2 dX13_fitting_157 rfl rfl (by decide) rfl ?_
        refine J_goto (pc := 160) (tgt := 33) dX13_fitting_160 (by decide) ?_
        refine J_loc (loc' := [(0, .ref 57), (1, .int (pq0)), (2, .int (x2_157_33 + 1))]) [1, 2, 0] rfl ?_
        exact hB33 (x2_157_33 + 1, d157_33)
      have hX13_fitting_j109_33 : ∀ (d109_33 : JD) (x2_109_33 : Int32), J mi_X13_fitting 0 0 0 0 (g, d109_33) 109 [(0, .ref 57), (1, .int (pq0)), (2, .int x2_109_33)] [] ((f_X13_fitting_j109_33 t pq0 d109_33 x2_109_33).bind k33) := by
        intro d109_33 x2_109_33
        unfold f_X13_fitting_j109_33
        refine J_aload_n (pc := 109) 0 dX13_fitting_109 rfl rfl ?_
        refine J_dup (pc := 110) dX13_fitting_110 rfl ?_
        refine J_getI (pc := 111) dX13_fitting_111 fl_X13_423 (h0.lt 57 (by decide)) (h0.ty 57 rfl) rfl ?_
        refine J_iconst (pc := 114) (v := 1) dX13_fitting_114 (by decide) ?_
        refine J_iadd (pc := 115) dX13_fitting_115 ?_
        refine J_putI (pc := 116) dX13_fitting_116 fl_X13_423 ft_12_25 (h0.lt 57 (by decide)) (h0.ty 57 rfl) rfl rfl rfl ?_
        refine J_iconst (pc := 119) (v := 0) dX13_fitting_119 (by decide) ?_
        refine J_istore_n (pc := 120) (loc' := [(3, .int 0), (0, .ref 57), (1, .int (pq0)), (2, .int x2_109_33)]) dX13_fitting_120 rfl (by decide) rfl ?_
        refine J_loc (loc' := [(0, .ref 57), (1, .int (pq0)), (2, .int x2_109_33), (3, .int 0)]) [1, 2, 3, 0] rfl ?_
        refine J_whL (F := f_X13_fitting_w121_33 t (pq0) x2_109_33 ) (hp := fun (s121_33 : Int32 × JD) => (g, s121_33.2)) (lc := fun (s121_33 : Int32 × JD) => [(0, .ref 57), (1, .int ((pq0))), (2, .int (x2_109_33)), (3, .int s121_33.1)]) (XJ := fun (e121_33 : JD) o9 => J mi_X13_fitting 0 0 0 0 (g, e121_33) 157 [(0, .ref 57), (1, .int (pq0)), (2, .int x2_109_33)] [] o9) (fun s121_33 k121_33 hB121_33 hX121_33 => ?_) (fun e121_33 => ?_) _ (0, j_sI d109_33 57 25 (((d109_33.1 57) 25) + 1))
        · show J mi_X13_fitting 0 0 0 0 (g, s121_33.2) 121 [(0, .ref 57), (1, .int ((pq0))), (2, .int (x2_109_33)), (3, .int s121_33.1)] [] ((f_X13_fitting_w121_33 t (pq0) x2_109_33 s121_33).bind k121_33)
          unfold f_X13_fitting_w121_33
          refine J_iload_n (pc := 121) 3 dX13_fitting_121 rfl rfl ?_
          refine J_aload_n (pc := 122) 0 dX13_fitting_122 rfl rfl ?_
          refine J_getR (pc := 123) dX13_fitting_123 fl_X13_321 (h0.lt 57 (by decide)) (h0.ty 57 rfl) rfl hla ?_
          refine J_getI (pc := 126) dX13_fitting_126 fl_X13_301 (ht.lt 0 (by decide)) (ht.ty 0 rfl) rfl ?_
          refine K_icmp_ge (K := (fun x => Option.bind x k121_33)) (pc := 129) (tgt := 157) dX13_fitting_129 (by decide) (fun z129 => ?_) (fun z129 => ?_)
          · refine J_loc (loc' := [(0, .ref 57), (1, .int ((pq0))), (2, .int (x2_109_33))]) [0, 1, 2] rfl ?_
            exact hX121_33 s121_33.2
          · refine J_aload_n (pc := 132) 0 dX13_fitting_132 rfl rfl ?_
            refine J_getR (pc := 133) dX13_fitting_133 fl_X13_39 (h0.lt 57 (by decide)) (h0.ty 57 rfl) rfl (h0.rf 63 rfl) ?_
            refine J_iconst (pc := 136) (v := 3) dX13_fitting_136 (by decide) ?_
            refine J_iload_n (pc := 137) 3 dX13_fitting_137 rfl rfl ?_
            refine J_imul (pc := 138) dX13_fitting_138 ?_
            refine J_aload_n (pc := 139) 0 dX13_fitting_139 rfl rfl ?_
            refine J_iload_n (pc := 140) 2 dX13_fitting_140 rfl rfl ?_
            refine J_iload_n (pc := 141) 3 dX13_fitting_141 rfl rfl ?_
            refine JC_pp_i (J_callV (mi := mi_X13_fitting) (mj := mi_X13_guess) (pc := 142) dX13_fitting_142 ml_X13_432 ok_X13_guess ov_X13_guess ⟨Nat.le_of_ble_eq_true rfl, Nat.le_of_ble_eq_true rfl⟩ rfl (h0.lt 57 (by decide)) (h0.ty 57 rfl) rfl (s_X13_guess g s121_33.2 t x2_109_33 s121_33.1 h0 ht hla) rfl (Nat.le_of_ble_eq_true rfl)) (fun q142_33_121 => ?_)
            refine J_iadd (pc := 145) dX13_fitting_145 ?_
            refine J_dup2 (pc := 146) dX13_fitting_146 rfl rfl ?_
            refine J_guard (fun z147 => ?_)
            refine J_iald (pc := 147) dX13_fitting_147 (h0.lt 66 (by decide)) (h0.ty 66 rfl) z147 ?_
            refine J_iconst (pc := 148) (v := 1) dX13_fitting_148 (by decide) ?_
            refine J_iadd (pc := 149) dX13_fitting_149 ?_
            refine J_guard (fun z150 => ?_)
            refine J_iast (pc := 150) dX13_fitting_150 (h0.lt 66 (by decide)) (h0.ty 66 rfl) z150 ?_
            refine J_iinc (pc := 151) (v := s121_33.1 + 1) (loc' := [(3, .int (s121_33.1 + 1)), (0, .ref 57), (1, .int ((pq0))), (2, .int (x2_109_33))]) 3 dX13_fitting_151 rfl rfl (by decide) rfl ?_
            refine J_goto (pc := 154) (tgt := 121) dX13_fitting_154 (by decide) ?_
            refine J_loc (loc' := [(0, .ref 57), (1, .int ((pq0))), (2, .int (x2_109_33)), (3, .int (s121_33.1 + 1))]) [1, 2, 3, 0] rfl ?_
            exact hB121_33 (s121_33.1 + 1, j_sI s121_33.2 66 ((((3 : Int32) * s121_33.1) + q142_33_121).toNatClampNeg) (((s121_33.2.1 66) ((((3 : Int32) * s121_33.1) + q142_33_121).toNatClampNeg)) + 1))
        · show J mi_X13_fitting 0 0 0 0 (g, e121_33) 157 [(0, .ref 57), (1, .int (pq0)), (2, .int x2_109_33)] [] (_)
          exact hX13_fitting_j157_33 e121_33 x2_109_33
      refine J_iload_n (pc := 33) 2 dX13_fitting_33 rfl rfl ?_
      refine J_aload_n (pc := 34) 0 dX13_fitting_34 rfl rfl ?_
      refine JC_pt_i (J_callV (mi := mi_X13_fitting) (mj := mi_X13_guesses) (pc := 35) dX13_fitting_35 ml_X13_429 ok_X13_guesses ov_X13_guesses ⟨Nat.le_of_ble_eq_true rfl, Nat.le_of_ble_eq_true rfl⟩ rfl (h0.lt 57 (by decide)) (h0.ty 57 rfl) rfl (s_X13_guesses g s33.2 t h0 ht hla) rfl (Nat.le_of_ble_eq_true rfl)) ?_
      refine K_icmp_ge (K := (fun x => Option.bind x k33)) (pc := 38) (tgt := 163) dX13_fitting_38 (by decide) (fun z38 => ?_) (fun z38 => ?_)
      · refine J_loc (loc' := []) [] rfl ?_
        exact hX33 s33.2
      · refine J_aload_n (pc := 41) 0 dX13_fitting_41 rfl rfl ?_
        refine JC_pe_v (J_callV (mi := mi_X13_fitting) (mj := mi_X13_asTold) (pc := 42) dX13_fitting_42 ml_X13_323 ok_X13_asTold ov_X13_asTold ⟨Nat.le_of_ble_eq_true rfl, Nat.le_of_ble_eq_true rfl⟩ rfl (h0.lt 57 (by decide)) (h0.ty 57 rfl) rfl (s_X13_asTold g s33.2 t h0 ht hla) rfl (Nat.le_of_ble_eq_true rfl)) (fun q42_33 => ?_)
        refine J_iconst (pc := 45) (v := 0) dX13_fitting_45 (by decide) ?_
        refine J_istore_n (pc := 46) (loc' := [(3, .int 0), (0, .ref 57), (1, .int (pq0)), (2, .int s33.1)]) dX13_fitting_46 rfl (by decide) rfl ?_
        refine J_loc (loc' := [(0, .ref 57), (1, .int (pq0)), (2, .int s33.1), (3, .int 0)]) [1, 2, 3, 0] rfl ?_
        refine J_whL (F := f_X13_fitting_w47_33 t (pq0) s33.1 ) (hp := fun (s47_33 : Int32 × JD) => (g, s47_33.2)) (lc := fun (s47_33 : Int32 × JD) => [(0, .ref 57), (1, .int ((pq0))), (2, .int (s33.1)), (3, .int s47_33.1)]) (XJ := fun (e47_33 : JD) o9 => J mi_X13_fitting 0 0 0 0 (g, e47_33) 84 [(0, .ref 57), (1, .int (pq0)), (2, .int s33.1)] [] o9) (fun s47_33 k47_33 hB47_33 hX47_33 => ?_) (fun e47_33 => ?_) _ (0, q42_33)
        · show J mi_X13_fitting 0 0 0 0 (g, s47_33.2) 47 [(0, .ref 57), (1, .int ((pq0))), (2, .int (s33.1)), (3, .int s47_33.1)] [] ((f_X13_fitting_w47_33 t (pq0) s33.1 s47_33).bind k47_33)
          unfold f_X13_fitting_w47_33
          refine J_iload_n (pc := 47) 3 dX13_fitting_47 rfl rfl ?_
          refine J_aload_n (pc := 48) 0 dX13_fitting_48 rfl rfl ?_
          refine J_getR (pc := 49) dX13_fitting_49 fl_X13_321 (h0.lt 57 (by decide)) (h0.ty 57 rfl) rfl hla ?_
          refine J_getI (pc := 52) dX13_fitting_52 fl_X13_301 (ht.lt 0 (by decide)) (ht.ty 0 rfl) rfl ?_
          refine K_icmp_ge (K := (fun x => Option.bind x k47_33)) (pc := 55) (tgt := 84) dX13_fitting_55 (by decide) (fun z55 => ?_) (fun z55 => ?_)
          · refine J_loc (loc' := [(0, .ref 57), (1, .int ((pq0))), (2, .int (s33.1))]) [0, 1, 2] rfl ?_
            exact hX47_33 s47_33.2
          · refine J_aload_n (pc := 58) 0 dX13_fitting_58 rfl rfl ?_
            refine J_getR (pc := 59) dX13_fitting_59 fl_X13_21 (h0.lt 57 (by decide)) (h0.ty 57 rfl) rfl (h0.rf 57 rfl) ?_
            refine J_aload_n (pc := 62) 0 dX13_fitting_62 rfl rfl ?_
            refine J_getR (pc := 63) dX13_fitting_63 fl_X13_321 (h0.lt 57 (by decide)) (h0.ty 57 rfl) rfl hla ?_
            refine J_getR (pc := 66) dX13_fitting_66 fl_X13_307 (ht.lt 0 (by decide)) (ht.ty 0 rfl) rfl (ht.rf 9 rfl) ?_
            refine J_iload_n (pc := 69) 3 dX13_fitting_69 rfl rfl ?_
            refine J_guard (fun z70 => ?_)
            refine J_iald (pc := 70) dX13_fitting_70 (ht.lt 10 (by decide)) (ht.ty 10 rfl) z70 ?_
            refine J_aload_n (pc := 71) 0 dX13_fitting_71 rfl rfl ?_
            refine J_iload_n (pc := 72) 2 dX13_fitting_72 rfl rfl ?_
            refine J_iload_n (pc := 73) 3 dX13_fitting_73 rfl rfl ?_
            refine JC_pp_i (J_callV (mi := mi_X13_fitting) (mj := mi_X13_guess) (pc := 74) dX13_fitting_74 ml_X13_432 ok_X13_guess ov_X13_guess ⟨Nat.le_of_ble_eq_true rfl, Nat.le_of_ble_eq_true rfl⟩ rfl (h0.lt 57 (by decide)) (h0.ty 57 rfl) rfl (s_X13_guess g s47_33.2 t s33.1 s47_33.1 h0 ht hla) rfl (Nat.le_of_ble_eq_true rfl)) (fun q74_33_47 => ?_)
            refine J_guard (fun z77 => ?_)
            refine J_iast (pc := 77) dX13_fitting_77 (h0.lt 60 (by decide)) (h0.ty 60 rfl) z77 ?_
            refine J_iinc (pc := 78) (v := s47_33.1 + 1) (loc' := [(3, .int (s47_33.1 + 1)), (0, .ref 57), (1, .int ((pq0))), (2, .int (s33.1))]) 3 dX13_fitting_78 rfl rfl (by decide) rfl ?_
            refine J_goto (pc := 81) (tgt := 47) dX13_fitting_81 (by decide) ?_
            refine J_loc (loc' := [(0, .ref 57), (1, .int ((pq0))), (2, .int (s33.1)), (3, .int (s47_33.1 + 1))]) [1, 2, 3, 0] rfl ?_
            exact hB47_33 (s47_33.1 + 1, j_sI s47_33.2 60 (((s47_33.2.1 (t + 10)) s47_33.1.toNatClampNeg).toNatClampNeg) q74_33_47)
        · show J mi_X13_fitting 0 0 0 0 (g, e47_33) 84 [(0, .ref 57), (1, .int (pq0)), (2, .int s33.1)] [] (_)
          refine J_aload_n (pc := 84) 0 dX13_fitting_84 rfl rfl ?_
          refine JC_pp_i (J_callV (mi := mi_X13_fitting) (mj := mi_X13_wrong) (pc := 85) dX13_fitting_85 ml_X13_435 ok_X13_wrong ov_X13_wrong ⟨Nat.le_of_ble_eq_true rfl, Nat.le_of_ble_eq_true rfl⟩ rfl (h0.lt 57 (by decide)) (h0.ty 57 rfl) rfl (s_X13_wrong g e47_33 t h0 ht hla) rfl (Nat.le_of_ble_eq_true rfl)) (fun q85_33 => ?_)
          refine J_bipush (pc := 88) (v := (-2)) dX13_fitting_88 (by decide) ?_
          refine K_icmp_eq (K := (fun x => Option.bind x k33)) (pc := 90) (tgt := 96) dX13_fitting_90 (by decide) (fun z90 => ?_) (fun z90 => ?_)
          · refine J_aload_n (pc := 96) 0 dX13_fitting_96 rfl rfl ?_
            refine J_getI (pc := 97) dX13_fitting_97 fl_X13_423 (h0.lt 57 (by decide)) (h0.ty 57 rfl) rfl ?_
            refine J_iload_n (pc := 100) 1 dX13_fitting_100 rfl rfl ?_
            refine K_icmp_ne (K := (fun x => Option.bind x k33)) (pc := 101) (tgt := 109) dX13_fitting_101 (by decide) (fun z101 => ?_) (fun z101 => ?_)
            · exact hX13_fitting_j109_33 e47_33 s33.1
            · refine J_aload_n (pc := 104) 0 dX13_fitting_104 rfl rfl ?_
              refine J_iload_n (pc := 105) 2 dX13_fitting_105 rfl rfl ?_
              refine J_putI (pc := 106) dX13_fitting_106 fl_X13_426 ft_12_26 (h0.lt 57 (by decide)) (h0.ty 57 rfl) rfl rfl rfl ?_
              exact hX13_fitting_j109_33 (j_sI e47_33 57 26 s33.1) s33.1
          · refine J_goto (pc := 93) (tgt := 157) dX13_fitting_93 (by decide) ?_
            exact hX13_fitting_j157_33 e47_33 s33.1
    · show J mi_X13_fitting 0 0 0 0 (g, e33) 163 [] [] (_)
      exact J_eqo (hk e33) (J_vret (pc := 163) dX13_fitting_163 rfl)
def f_X13_fits (t : Nat) (d : JD) : Option (Int32 × JD) := ((f_X13_fitting t (j_sI d 57 0 0) (-1)).bind (fun q20 => j_let (f_X13_good q20 ((q20.1 57) 25)) (fun q28 => some (q28.1, q28.2))))
set_option maxRecDepth 100000 in
set_option maxHeartbeats 4000000 in
theorem s_X13_fits (g : JG) (d : JD) (t : Nat) (h0 : j_sh g 0 TS_W RS_W) (ht : j_sh g t TS_ML RS_ML) (hla : g.2.2.1 57 3 = some t) : JM mi_X13_fits 0 0 (g, d) [.ref 57] ((f_X13_fits t d ).bind (fun r9 => some (some (.int r9.1), (g, r9.2)))) := by
  refine JM_of (by decide) rfl (Nat.le_of_ble_eq_true rfl) ?_
  refine J_loc (loc' := [(0, .ref 57)]) [0] rfl ?_
  obtain ⟨k, hk, hk2⟩ : ∃ k : Int32 × JD → Option (Option Value × JH), (∀ r9, k r9 = some (some (.int r9.1), (g, r9.2))) ∧ (fun r9 : Int32 × JD => (some (some (.int r9.1), (g, r9.2)) : Option (Option Value × JH))) = k := ⟨_, fun _ => rfl, rfl⟩
  rw [hk2]
  unfold f_X13_fits
  refine J_aload_n (pc := 0) 0 dX13_fits_0 rfl rfl ?_
  refine J_iconst (pc := 1) (v := 0) dX13_fits_1 (by decide) ?_
  refine J_putI (pc := 2) dX13_fits_2 fl_X13_42 ft_12_0 (h0.lt 57 (by decide)) (h0.ty 57 rfl) rfl rfl rfl ?_
  refine J_aload_n (pc := 5) 0 dX13_fits_5 rfl rfl ?_
  refine J_getR (pc := 6) dX13_fits_6 fl_X13_321 (h0.lt 57 (by decide)) (h0.ty 57 rfl) rfl hla ?_
  refine J_ifnonnull (pc := 9) (tgt := 18) dX13_fits_9 (by decide) ?_
  refine J_aload_n (pc := 18) 0 dX13_fits_18 rfl rfl ?_
  refine J_iconst (pc := 19) (v := (-1)) dX13_fits_19 (by decide) ?_
  refine JC_pe_v (J_callV (mi := mi_X13_fits) (mj := mi_X13_fitting) (pc := 20) dX13_fits_20 ml_X13_438 ok_X13_fitting ov_X13_fitting ⟨Nat.le_of_ble_eq_true rfl, Nat.le_of_ble_eq_true rfl⟩ rfl (h0.lt 57 (by decide)) (h0.ty 57 rfl) rfl (s_X13_fitting g (j_sI d 57 0 0) t (-1) h0 ht hla) rfl (Nat.le_of_ble_eq_true rfl)) (fun q20 => ?_)
  refine J_aload_n (pc := 23) 0 dX13_fits_23 rfl rfl ?_
  refine J_aload_n (pc := 24) 0 dX13_fits_24 rfl rfl ?_
  refine J_getI (pc := 25) dX13_fits_25 fl_X13_423 (h0.lt 57 (by decide)) (h0.ty 57 rfl) rfl ?_
  refine JC_lt_i (K := (fun x => Option.bind x k)) (J_callV (mi := mi_X13_fits) (mj := mi_X13_good) (pc := 28) dX13_fits_28 ml_X13_52 ok_X13_good ov_X13_good ⟨Nat.le_of_ble_eq_true rfl, Nat.le_of_ble_eq_true rfl⟩ rfl (h0.lt 57 (by decide)) (h0.ty 57 rfl) rfl (s_X13_good g q20 ((q20.1 57) 25) h0) rfl (Nat.le_of_ble_eq_true rfl)) (fun q28 eq28 => ?_)
  exact J_eqo (hk (q28.1, q28.2)) (J_iret (pc := 31) dX13_fits_31 rfl)
def f_X13_isLostOne (r_t0 : Nat → Int32) (pq0 : Int32) : Bool := (if pq0 < 0 then (false) else (if (r_t0 7) ≤ pq0 then (false) else (true)))
set_option maxRecDepth 100000 in
set_option maxHeartbeats 4000000 in
theorem s_X13_isLostOne (g : JG) (d : JD) (t : Nat) (pq0 : Int32) (h0 : j_sh g 0 TS_W RS_W) (ht : j_sh g t TS_ML RS_ML) (hla : g.2.2.1 57 3 = some t) : JM mi_X13_isLostOne 0 0 (g, d) [.ref 57, .int pq0] (some (some (.int (j_b (f_X13_isLostOne (d.1 t) pq0))), (g, d))) := by
  refine JM_of (by decide) rfl (Nat.le_of_ble_eq_true rfl) ?_
  refine J_loc (loc' := [(0, .ref 57), (1, .int pq0)]) [0, 1] rfl ?_
  obtain ⟨k, hk⟩ : ∃ k : Bool → Option (Option Value × JH), ∀ r9, k r9 = some (some (.int (j_b r9)), (g, d)) := ⟨_, fun _ => rfl⟩
  refine J_eqo (hk (f_X13_isLostOne (d.1 t) pq0)).symm ?_
  unfold f_X13_isLostOne
  refine J_aload_n (pc := 0) 0 dX13_isLostOne_0 rfl rfl ?_
  refine J_getR (pc := 1) dX13_isLostOne_1 fl_X13_321 (h0.lt 57 (by decide)) (h0.ty 57 rfl) rfl hla ?_
  refine J_ifnull (pc := 4) dX13_isLostOne_4 ?_
  refine J_iload_n (pc := 7) 1 dX13_isLostOne_7 rfl rfl ?_
  refine K_if_lt (K := k) (pc := 8) (tgt := 26) dX13_isLostOne_8 (by decide) (fun z8 => ?_) (fun z8 => ?_)
  · refine J_iconst (pc := 26) (v := 0) dX13_isLostOne_26 (by decide) ?_
    exact J_eqo (hk false) (J_zretB (pc := 27) dX13_isLostOne_27 rfl)
  · refine J_iload_n (pc := 11) 1 dX13_isLostOne_11 rfl rfl ?_
    refine J_aload_n (pc := 12) 0 dX13_isLostOne_12 rfl rfl ?_
    refine J_getR (pc := 13) dX13_isLostOne_13 fl_X13_321 (h0.lt 57 (by decide)) (h0.ty 57 rfl) rfl hla ?_
    refine J_getI (pc := 16) dX13_isLostOne_16 fl_X13_301 (ht.lt 0 (by decide)) (ht.ty 0 rfl) rfl ?_
    refine K_icmp_ge (K := k) (pc := 19) (tgt := 26) dX13_isLostOne_19 (by decide) (fun z19 => ?_) (fun z19 => ?_)
    · refine J_iconst (pc := 26) (v := 0) dX13_isLostOne_26 (by decide) ?_
      exact J_eqo (hk false) (J_zretB (pc := 27) dX13_isLostOne_27 rfl)
    · refine J_iconst (pc := 22) (v := 1) dX13_isLostOne_22 (by decide) ?_
      refine J_goto (pc := 23) (tgt := 27) dX13_isLostOne_23 (by decide) ?_
      exact J_eqo (hk true) (J_zretB (pc := 27) dX13_isLostOne_27 rfl)
def f_X13_fitAt_j17 (t : Nat) (d17 : JD) : Option (Int32 × JD) := (j_let (f_X13_refused d17 1) (fun q19 => some (q19.1, q19.2)))
def f_X13_fitAt (t : Nat) (d : JD) (pq0 : Int32) (pq1 : Int32) : Option (Int32 × JD) := (if (f_X13_isLostOne ((j_sI d 57 0 0).1 t) pq1) = true then (if 0 ≤ pq0 then ((f_X13_fitting t (j_sI d 57 0 0) pq0).bind (fun q25 => if ((q25.1 57) 26) = (-1) then (j_let (f_X13_refused q25 1) (fun q38 => some (q38.1, q38.2))) else ((f_X13_guess (q25.1 t) ((q25.1 57) 26) pq1).bind (fun q51 => j_let (f_X13_good q25 q51) (fun q54 => some (q54.1, q54.2)))))) else f_X13_fitAt_j17 t (j_sI d 57 0 0) ) else f_X13_fitAt_j17 t (j_sI d 57 0 0) )
set_option maxRecDepth 100000 in
set_option maxHeartbeats 4000000 in
theorem s_X13_fitAt (g : JG) (d : JD) (t : Nat) (pq0 : Int32) (pq1 : Int32) (h0 : j_sh g 0 TS_W RS_W) (ht : j_sh g t TS_ML RS_ML) (hla : g.2.2.1 57 3 = some t) : JM mi_X13_fitAt 0 0 (g, d) [.ref 57, .int pq0, .int pq1] ((f_X13_fitAt t d pq0 pq1).bind (fun r9 => some (some (.int r9.1), (g, r9.2)))) := by
  refine JM_of (by decide) rfl (Nat.le_of_ble_eq_true rfl) ?_
  refine J_loc (loc' := [(0, .ref 57), (1, .int pq0), (2, .int pq1)]) [0, 1, 2] rfl ?_
  obtain ⟨k, hk, hk2⟩ : ∃ k : Int32 × JD → Option (Option Value × JH), (∀ r9, k r9 = some (some (.int r9.1), (g, r9.2))) ∧ (fun r9 : Int32 × JD => (some (some (.int r9.1), (g, r9.2)) : Option (Option Value × JH))) = k := ⟨_, fun _ => rfl, rfl⟩
  rw [hk2]
  unfold f_X13_fitAt
  have hX13_fitAt_j17 : ∀ (d17 : JD) , J mi_X13_fitAt 0 0 0 0 (g, d17) 17 [(0, .ref 57)] [] ((f_X13_fitAt_j17 t d17 ).bind k) := by
    intro d17 
    unfold f_X13_fitAt_j17
    refine J_aload_n (pc := 17) 0 dX13_fitAt_17 rfl rfl ?_
    refine J_iconst (pc := 18) (v := 1) dX13_fitAt_18 (by decide) ?_
    refine JC_lt_i (K := (fun x => Option.bind x k)) (J_callV (mi := mi_X13_fitAt) (mj := mi_X13_refused) (pc := 19) dX13_fitAt_19 ml_X13_48 ok_X13_refused ov_X13_refused ⟨Nat.le_of_ble_eq_true rfl, Nat.le_of_ble_eq_true rfl⟩ rfl (h0.lt 57 (by decide)) (h0.ty 57 rfl) rfl (s_X13_refused g d17 1 h0) rfl (Nat.le_of_ble_eq_true rfl)) (fun q19 eq19 => ?_)
    exact J_eqo (hk (q19.1, q19.2)) (J_iret (pc := 22) dX13_fitAt_22 rfl)
  refine J_aload_n (pc := 0) 0 dX13_fitAt_0 rfl rfl ?_
  refine J_iconst (pc := 1) (v := 0) dX13_fitAt_1 (by decide) ?_
  refine J_putI (pc := 2) dX13_fitAt_2 fl_X13_42 ft_12_0 (h0.lt 57 (by decide)) (h0.ty 57 rfl) rfl rfl rfl ?_
  refine J_aload_n (pc := 5) 0 dX13_fitAt_5 rfl rfl ?_
  refine J_iload_n (pc := 6) 2 dX13_fitAt_6 rfl rfl ?_
  refine JC_pt_i (J_callV (mi := mi_X13_fitAt) (mj := mi_X13_isLostOne) (pc := 7) dX13_fitAt_7 ml_X13_441 ok_X13_isLostOne ov_X13_isLostOne ⟨Nat.le_of_ble_eq_true rfl, Nat.le_of_ble_eq_true rfl⟩ rfl (h0.lt 57 (by decide)) (h0.ty 57 rfl) rfl (s_X13_isLostOne g (j_sI d 57 0 0) t pq1 h0 ht hla) rfl (Nat.le_of_ble_eq_true rfl)) ?_
  refine K_ifeq_b (K := (fun x => Option.bind x k)) (pc := 10) (tgt := 17) dX13_fitAt_10 (by decide) (fun z10 => ?_) (fun z10 => ?_)
  · refine J_loc (loc' := [(0, .ref 57)]) [0] rfl ?_
    exact hX13_fitAt_j17 (j_sI d 57 0 0) 
  · refine J_iload_n (pc := 13) 1 dX13_fitAt_13 rfl rfl ?_
    refine K_if_ge (K := (fun x => Option.bind x k)) (pc := 14) (tgt := 23) dX13_fitAt_14 (by decide) (fun z14 => ?_) (fun z14 => ?_)
    · refine J_aload_n (pc := 23) 0 dX13_fitAt_23 rfl rfl ?_
      refine J_iload_n (pc := 24) 1 dX13_fitAt_24 rfl rfl ?_
      refine JC_pe_v (J_callV (mi := mi_X13_fitAt) (mj := mi_X13_fitting) (pc := 25) dX13_fitAt_25 ml_X13_438 ok_X13_fitting ov_X13_fitting ⟨Nat.le_of_ble_eq_true rfl, Nat.le_of_ble_eq_true rfl⟩ rfl (h0.lt 57 (by decide)) (h0.ty 57 rfl) rfl (s_X13_fitting g (j_sI d 57 0 0) t pq0 h0 ht hla) rfl (Nat.le_of_ble_eq_true rfl)) (fun q25 => ?_)
      refine J_aload_n (pc := 28) 0 dX13_fitAt_28 rfl rfl ?_
      refine J_getI (pc := 29) dX13_fitAt_29 fl_X13_426 (h0.lt 57 (by decide)) (h0.ty 57 rfl) rfl ?_
      refine J_iconst (pc := 32) (v := (-1)) dX13_fitAt_32 (by decide) ?_
      refine K_icmp_ne (K := (fun x => Option.bind x k)) (pc := 33) (tgt := 44) dX13_fitAt_33 (by decide) (fun z33 => ?_) (fun z33 => ?_)
      · refine J_aload_n (pc := 44) 0 dX13_fitAt_44 rfl rfl ?_
        refine J_aload_n (pc := 45) 0 dX13_fitAt_45 rfl rfl ?_
        refine J_aload_n (pc := 46) 0 dX13_fitAt_46 rfl rfl ?_
        refine J_getI (pc := 47) dX13_fitAt_47 fl_X13_426 (h0.lt 57 (by decide)) (h0.ty 57 rfl) rfl ?_
        refine J_iload_n (pc := 50) 2 dX13_fitAt_50 rfl rfl ?_
        refine JC_pp_i (J_callV (mi := mi_X13_fitAt) (mj := mi_X13_guess) (pc := 51) dX13_fitAt_51 ml_X13_432 ok_X13_guess ov_X13_guess ⟨Nat.le_of_ble_eq_true rfl, Nat.le_of_ble_eq_true rfl⟩ rfl (h0.lt 57 (by decide)) (h0.ty 57 rfl) rfl (s_X13_guess g q25 t ((q25.1 57) 26) pq1 h0 ht hla) rfl (Nat.le_of_ble_eq_true rfl)) (fun q51 => ?_)
        refine JC_lt_i (K := (fun x => Option.bind x k)) (J_callV (mi := mi_X13_fitAt) (mj := mi_X13_good) (pc := 54) dX13_fitAt_54 ml_X13_52 ok_X13_good ov_X13_good ⟨Nat.le_of_ble_eq_true rfl, Nat.le_of_ble_eq_true rfl⟩ rfl (h0.lt 57 (by decide)) (h0.ty 57 rfl) rfl (s_X13_good g q25 q51 h0) rfl (Nat.le_of_ble_eq_true rfl)) (fun q54 eq54 => ?_)
        exact J_eqo (hk (q54.1, q54.2)) (J_iret (pc := 57) dX13_fitAt_57 rfl)
      · refine J_aload_n (pc := 36) 0 dX13_fitAt_36 rfl rfl ?_
        refine J_iconst (pc := 37) (v := 1) dX13_fitAt_37 (by decide) ?_
        refine JC_lt_i (K := (fun x => Option.bind x k)) (J_callV (mi := mi_X13_fitAt) (mj := mi_X13_refused) (pc := 38) dX13_fitAt_38 ml_X13_48 ok_X13_refused ov_X13_refused ⟨Nat.le_of_ble_eq_true rfl, Nat.le_of_ble_eq_true rfl⟩ rfl (h0.lt 57 (by decide)) (h0.ty 57 rfl) rfl (s_X13_refused g q25 1 h0) rfl (Nat.le_of_ble_eq_true rfl)) (fun q38 eq38 => ?_)
        refine J_goto (pc := 41) (tgt := 57) dX13_fitAt_41 (by decide) ?_
        exact J_eqo (hk (q38.1, q38.2)) (J_iret (pc := 57) dX13_fitAt_57 rfl)
    · refine J_loc (loc' := [(0, .ref 57)]) [0] rfl ?_
      exact hX13_fitAt_j17 (j_sI d 57 0 0) 
def f_X13_hungBy (t : Nat) (d : JD) (pq0 : Int32) (pq1 : Int32) : Option (Int32 × JD) := (if (f_X13_isLostOne ((j_sI d 57 0 0).1 t) pq0) = true then (if (f_X13_in pq1 0 2) = true then ((f_X13_fitting t (j_sI d 57 0 0) (-1)).bind (fun q36 => if j_out (((3 : Int32) * pq0) + pq1) 12 then none else j_let (f_X13_good q36 ((q36.1 66) ((((3 : Int32) * pq0) + pq1).toNatClampNeg))) (fun q50 => some (q50.1, q50.2)))) else (j_let (f_X13_refused (j_sI d 57 0 0) 2) (fun q30 => some (q30.1, q30.2)))) else (j_let (f_X13_refused (j_sI d 57 0 0) 1) (fun q15 => some (q15.1, q15.2))))
set_option maxRecDepth 100000 in
set_option maxHeartbeats 4000000 in
theorem s_X13_hungBy (g : JG) (d : JD) (t : Nat) (pq0 : Int32) (pq1 : Int32) (h0 : j_sh g 0 TS_W RS_W) (ht : j_sh g t TS_ML RS_ML) (hla : g.2.2.1 57 3 = some t) : JM mi_X13_hungBy 0 0 (g, d) [.ref 57, .int pq0, .int pq1] ((f_X13_hungBy t d pq0 pq1).bind (fun r9 => some (some (.int r9.1), (g, r9.2)))) := by
  refine JM_of (by decide) rfl (Nat.le_of_ble_eq_true rfl) ?_
  refine J_loc (loc' := [(0, .ref 57), (1, .int pq0), (2, .int pq1)]) [0, 1, 2] rfl ?_
  obtain ⟨k, hk, hk2⟩ : ∃ k : Int32 × JD → Option (Option Value × JH), (∀ r9, k r9 = some (some (.int r9.1), (g, r9.2))) ∧ (fun r9 : Int32 × JD => (some (some (.int r9.1), (g, r9.2)) : Option (Option Value × JH))) = k := ⟨_, fun _ => rfl, rfl⟩
  rw [hk2]
  unfold f_X13_hungBy
  refine J_aload_n (pc := 0) 0 dX13_hungBy_0 rfl rfl ?_
  refine J_iconst (pc := 1) (v := 0) dX13_hungBy_1 (by decide) ?_
  refine J_putI (pc := 2) dX13_hungBy_2 fl_X13_42 ft_12_0 (h0.lt 57 (by decide)) (h0.ty 57 rfl) rfl rfl rfl ?_
  refine J_aload_n (pc := 5) 0 dX13_hungBy_5 rfl rfl ?_
  refine J_iload_n (pc := 6) 1 dX13_hungBy_6 rfl rfl ?_
  refine JC_pt_i (J_callV (mi := mi_X13_hungBy) (mj := mi_X13_isLostOne) (pc := 7) dX13_hungBy_7 ml_X13_441 ok_X13_isLostOne ov_X13_isLostOne ⟨Nat.le_of_ble_eq_true rfl, Nat.le_of_ble_eq_true rfl⟩ rfl (h0.lt 57 (by decide)) (h0.ty 57 rfl) rfl (s_X13_isLostOne g (j_sI d 57 0 0) t pq0 h0 ht hla) rfl (Nat.le_of_ble_eq_true rfl)) ?_
  refine K_ifne_b (K := (fun x => Option.bind x k)) (pc := 10) (tgt := 19) dX13_hungBy_10 (by decide) (fun z10 => ?_) (fun z10 => ?_)
  · refine J_iload_n (pc := 19) 2 dX13_hungBy_19 rfl rfl ?_
    refine J_iconst (pc := 20) (v := 0) dX13_hungBy_20 (by decide) ?_
    refine J_iconst (pc := 21) (v := 2) dX13_hungBy_21 (by decide) ?_
    refine JC_pt_i (J_callS (mi := mi_X13_hungBy) (mj := mi_X13_in) (pc := 22) dX13_hungBy_22 ml_X13_121 ok_X13_in os_X13_in ⟨Nat.le_of_ble_eq_true rfl, Nat.le_of_ble_eq_true rfl⟩ rfl (s_X13_in g (j_sI d 57 0 0) pq1 0 2) rfl (Nat.le_of_ble_eq_true rfl)) ?_
    refine K_ifne_b (K := (fun x => Option.bind x k)) (pc := 25) (tgt := 34) dX13_hungBy_25 (by decide) (fun z25 => ?_) (fun z25 => ?_)
    · refine J_aload_n (pc := 34) 0 dX13_hungBy_34 rfl rfl ?_
      refine J_iconst (pc := 35) (v := (-1)) dX13_hungBy_35 (by decide) ?_
      refine JC_pe_v (J_callV (mi := mi_X13_hungBy) (mj := mi_X13_fitting) (pc := 36) dX13_hungBy_36 ml_X13_438 ok_X13_fitting ov_X13_fitting ⟨Nat.le_of_ble_eq_true rfl, Nat.le_of_ble_eq_true rfl⟩ rfl (h0.lt 57 (by decide)) (h0.ty 57 rfl) rfl (s_X13_fitting g (j_sI d 57 0 0) t (-1) h0 ht hla) rfl (Nat.le_of_ble_eq_true rfl)) (fun q36 => ?_)
      refine J_aload_n (pc := 39) 0 dX13_hungBy_39 rfl rfl ?_
      refine J_aload_n (pc := 40) 0 dX13_hungBy_40 rfl rfl ?_
      refine J_getR (pc := 41) dX13_hungBy_41 fl_X13_39 (h0.lt 57 (by decide)) (h0.ty 57 rfl) rfl (h0.rf 63 rfl) ?_
      refine J_iconst (pc := 44) (v := 3) dX13_hungBy_44 (by decide) ?_
      refine J_iload_n (pc := 45) 1 dX13_hungBy_45 rfl rfl ?_
      refine J_imul (pc := 46) dX13_hungBy_46 ?_
      refine J_iload_n (pc := 47) 2 dX13_hungBy_47 rfl rfl ?_
      refine J_iadd (pc := 48) dX13_hungBy_48 ?_
      refine J_guard (fun z49 => ?_)
      refine J_iald (pc := 49) dX13_hungBy_49 (h0.lt 66 (by decide)) (h0.ty 66 rfl) z49 ?_
      refine JC_lt_i (K := (fun x => Option.bind x k)) (J_callV (mi := mi_X13_hungBy) (mj := mi_X13_good) (pc := 50) dX13_hungBy_50 ml_X13_52 ok_X13_good ov_X13_good ⟨Nat.le_of_ble_eq_true rfl, Nat.le_of_ble_eq_true rfl⟩ rfl (h0.lt 57 (by decide)) (h0.ty 57 rfl) rfl (s_X13_good g q36 ((q36.1 66) ((((3 : Int32) * pq0) + pq1).toNatClampNeg)) h0) rfl (Nat.le_of_ble_eq_true rfl)) (fun q50 eq50 => ?_)
      exact J_eqo (hk (q50.1, q50.2)) (J_iret (pc := 53) dX13_hungBy_53 rfl)
    · refine J_aload_n (pc := 28) 0 dX13_hungBy_28 rfl rfl ?_
      refine J_iconst (pc := 29) (v := 2) dX13_hungBy_29 (by decide) ?_
      refine JC_lt_i (K := (fun x => Option.bind x k)) (J_callV (mi := mi_X13_hungBy) (mj := mi_X13_refused) (pc := 30) dX13_hungBy_30 ml_X13_48 ok_X13_refused ov_X13_refused ⟨Nat.le_of_ble_eq_true rfl, Nat.le_of_ble_eq_true rfl⟩ rfl (h0.lt 57 (by decide)) (h0.ty 57 rfl) rfl (s_X13_refused g (j_sI d 57 0 0) 2 h0) rfl (Nat.le_of_ble_eq_true rfl)) (fun q30 eq30 => ?_)
      exact J_eqo (hk (q30.1, q30.2)) (J_iret (pc := 33) dX13_hungBy_33 rfl)
  · refine J_aload_n (pc := 13) 0 dX13_hungBy_13 rfl rfl ?_
    refine J_iconst (pc := 14) (v := 1) dX13_hungBy_14 (by decide) ?_
    refine JC_lt_i (K := (fun x => Option.bind x k)) (J_callV (mi := mi_X13_hungBy) (mj := mi_X13_refused) (pc := 15) dX13_hungBy_15 ml_X13_48 ok_X13_refused ov_X13_refused ⟨Nat.le_of_ble_eq_true rfl, Nat.le_of_ble_eq_true rfl⟩ rfl (h0.lt 57 (by decide)) (h0.ty 57 rfl) rfl (s_X13_refused g (j_sI d 57 0 0) 1 h0) rfl (Nat.le_of_ble_eq_true rfl)) (fun q15 eq15 => ?_)
    exact J_eqo (hk (q15.1, q15.2)) (J_iret (pc := 18) dX13_hungBy_18 rfl)
def f_X13_looks_j72_16_39 (t : Nat) (c1_39_16 : Int32) (c2_39_16 : Int32) (d : JD) (x3_72_16_39 : Int32) (x4_72_16_39 : Int32) : Option ((Int32 × Int32) ⊕ (Int32)) := (some (.inl (x3_72_16_39, x4_72_16_39 + 1)))
def f_X13_looks_w39_16 (t : Nat) (c1_39_16 : Int32) (c2_39_16 : Int32) (d : JD) (s39_16 : Int32 × Int32) : Option ((Int32 × Int32) ⊕ (Int32)) := (if 3 ≤ s39_16.2 then some (.inr s39_16.1) else (if j_out (((3 : Int32) * (c2_39_16)) + s39_16.2) 12 then none else if (((d).1 66) ((((3 : Int32) * (c2_39_16)) + s39_16.2).toNatClampNeg)) ≤ s39_16.1 then f_X13_looks_j72_16_39 t (c1_39_16) (c2_39_16) (d) s39_16.1 s39_16.2 else (if j_out (((3 : Int32) * (c2_39_16)) + s39_16.2) 12 then none else f_X13_looks_j72_16_39 t (c1_39_16) (c2_39_16) (d) (((d).1 66) ((((3 : Int32) * (c2_39_16)) + s39_16.2).toNatClampNeg)) s39_16.2)))
def f_X13_looks_j102_16 (t : Nat) (d102_16 : JD) (x1_102_16 : Int32) (x2_102_16 : Int32) : Option ((Int32 × Int32 × JD) ⊕ (Int32 × JD)) := (some (.inl (x1_102_16, x2_102_16 + 1, d102_16)))
def f_X13_looks_j95_16 (t : Nat) (d95_16 : JD) (x2_95_16 : Int32) (x3_95_16 : Int32) : Option ((Int32 × Int32 × JD) ⊕ (Int32 × JD)) := (f_X13_looks_j102_16 t (j_sI d95_16 57 28 x3_95_16) x2_95_16 x2_95_16)
def f_X13_looks_w16 (t : Nat) (s16 : Int32 × Int32 × JD) : Option ((Int32 × Int32 × JD) ⊕ (Int32 × JD)) := (if ((s16.2.2.1 t) 7) ≤ s16.2.1 then some (.inr (s16.1, s16.2.2)) else (if ((s16.2.2.1 57) 25) ≤ 0 then some (.inr (s16.1, s16.2.2)) else ((j_wh (f_X13_looks_w39_16 t s16.1 s16.2.1 s16.2.2 ) j_fuel (0, 0)).bind (fun (e39_16 : Int32) => (if s16.1 = (-2) then f_X13_looks_j95_16 t s16.2.2 s16.2.1 e39_16 else (if e39_16 < ((s16.2.2.1 57) 28) then f_X13_looks_j95_16 t s16.2.2 s16.2.1 e39_16 else (f_X13_looks_j102_16 t s16.2.2 s16.1 s16.2.1)))))))
def f_X13_looks (t : Nat) (d : JD) : Option (Int32 × JD) := ((f_X13_fitting t d (-1)).bind (fun q2 => (j_wh (f_X13_looks_w16 t ) j_fuel ((-2), 0, j_sI q2 57 28 (-2))).bind (fun (e16 : Int32 × JD) => (some (e16.1, e16.2)))))
set_option maxRecDepth 100000 in
set_option maxHeartbeats 4000000 in
theorem s_X13_looks (g : JG) (d : JD) (t : Nat) (h0 : j_sh g 0 TS_W RS_W) (ht : j_sh g t TS_ML RS_ML) (hla : g.2.2.1 57 3 = some t) : JM mi_X13_looks 0 0 (g, d) [.ref 57] ((f_X13_looks t d ).bind (fun r9 => some (some (.int r9.1), (g, r9.2)))) := by
  refine JM_of (by decide) rfl (Nat.le_of_ble_eq_true rfl) ?_
  refine J_loc (loc' := [(0, .ref 57)]) [0] rfl ?_
  obtain ⟨k, hk, hk2⟩ : ∃ k : Int32 × JD → Option (Option Value × JH), (∀ r9, k r9 = some (some (.int r9.1), (g, r9.2))) ∧ (fun r9 : Int32 × JD => (some (some (.int r9.1), (g, r9.2)) : Option (Option Value × JH))) = k := ⟨_, fun _ => rfl, rfl⟩
  rw [hk2]
  unfold f_X13_looks
  refine J_aload_n (pc := 0) 0 dX13_looks_0 rfl rfl ?_
  refine J_iconst (pc := 1) (v := (-1)) dX13_looks_1 (by decide) ?_
  refine JC_pe_v (J_callV (mi := mi_X13_looks) (mj := mi_X13_fitting) (pc := 2) dX13_looks_2 ml_X13_438 ok_X13_fitting ov_X13_fitting ⟨Nat.le_of_ble_eq_true rfl, Nat.le_of_ble_eq_true rfl⟩ rfl (h0.lt 57 (by decide)) (h0.ty 57 rfl) rfl (s_X13_fitting g d t (-1) h0 ht hla) rfl (Nat.le_of_ble_eq_true rfl)) (fun q2 => ?_)
  refine J_bipush (pc := 5) (v := (-2)) dX13_looks_5 (by decide) ?_
  refine J_istore_n (pc := 7) (loc' := [(1, .int (-2)), (0, .ref 57)]) dX13_looks_7 rfl (by decide) rfl ?_
  refine J_aload_n (pc := 8) 1 dX13_looks_8 rfl rfl ?_
  refine J_bipush (pc := 9) (v := (-2)) dX13_looks_9 (by decide) ?_
  refine J_putI (pc := 11) dX13_looks_11 fl_X13_444 ft_12_28 (h0.lt 57 (by decide)) (h0.ty 57 rfl) rfl rfl rfl ?_
  refine J_iconst (pc := 14) (v := 0) dX13_looks_14 (by decide) ?_
  refine J_istore_n (pc := 15) (loc' := [(2, .int 0), (1, .int (-2)), (0, .ref 57)]) dX13_looks_15 rfl (by decide) rfl ?_
  refine J_loc (loc' := [(0, .ref 57), (1, .int (-2)), (2, .int 0)]) [2, 1, 0] rfl ?_
  refine J_whL (F := f_X13_looks_w16 t ) (hp := fun (s16 : Int32 × Int32 × JD) => (g, s16.2.2)) (lc := fun (s16 : Int32 × Int32 × JD) => [(0, .ref 57), (1, .int s16.1), (2, .int s16.2.1)]) (XJ := fun (e16 : Int32 × JD) o9 => J mi_X13_looks 0 0 0 0 (g, e16.2) 108 [(1, .int e16.1)] [] o9) (fun s16 k16 hB16 hX16 => ?_) (fun e16 => ?_) _ ((-2), 0, j_sI q2 57 28 (-2))
  · show J mi_X13_looks 0 0 0 0 (g, s16.2.2) 16 [(0, .ref 57), (1, .int s16.1), (2, .int s16.2.1)] [] ((f_X13_looks_w16 t s16).bind k16)
    unfold f_X13_looks_w16
    have hX13_looks_j102_16 : ∀ (d102_16 : JD) (x1_102_16 : Int32) (x2_102_16 : Int32), J mi_X13_looks 0 0 0 0 (g, d102_16) 102 [(0, .ref 57), (1, .int x1_102_16), (2, .int x2_102_16)] [] ((f_X13_looks_j102_16 t d102_16 x1_102_16 x2_102_16).bind k16) := by
      intro d102_16 x1_102_16 x2_102_16
      unfold f_X13_looks_j102_16
      refine J_iinc (pc := 102) (v := x2_102_16 + 1) (loc' := [(2, .int (x2_102_16 + 1)), (0, .ref 57), (1, .int x1_102_16)]) 2 dX13_looks_102 rfl rfl (by decide) rfl ?_
      refine J_goto (pc := 105) (tgt := 16) dX13_looks_105 (by decide) ?_
      refine J_loc (loc' := [(0, .ref 57), (1, .int x1_102_16), (2, .int (x2_102_16 + 1))]) [1, 2, 0] rfl ?_
      exact hB16 (x1_102_16, x2_102_16 + 1, d102_16)
    have hX13_looks_j95_16 : ∀ (d95_16 : JD) (x2_95_16 : Int32) (x3_95_16 : Int32), J mi_X13_looks 0 0 0 0 (g, d95_16) 95 [(0, .ref 57), (2, .int x2_95_16), (3, .int x3_95_16)] [] ((f_X13_looks_j95_16 t d95_16 x2_95_16 x3_95_16).bind k16) := by
      intro d95_16 x2_95_16 x3_95_16
      unfold f_X13_looks_j95_16
      refine J_iload_n (pc := 95) 1 dX13_looks_95 rfl rfl ?_
      refine J_istore_n (pc := 96) (loc' := [(1, .int x2_95_16), (0, .ref 57), (2, .int x2_95_16), (3, .int x3_95_16)]) dX13_looks_96 rfl (by decide) rfl ?_
      refine J_aload_n (pc := 97) 1 dX13_looks_97 rfl rfl ?_
      refine J_iload_n (pc := 98) 3 dX13_looks_98 rfl rfl ?_
      refine J_putI (pc := 99) dX13_looks_99 fl_X13_444 ft_12_28 (h0.lt 57 (by decide)) (h0.ty 57 rfl) rfl rfl rfl ?_
      refine J_loc (loc' := [(0, .ref 57), (1, .int x2_95_16), (2, .int x2_95_16)]) [1, 0, 2] rfl ?_
      exact hX13_looks_j102_16 (j_sI d95_16 57 28 x3_95_16) x2_95_16 x2_95_16
    refine J_iload_n (pc := 16) 2 dX13_looks_16 rfl rfl ?_
    refine J_aload_n (pc := 17) 0 dX13_looks_17 rfl rfl ?_
    refine J_getR (pc := 18) dX13_looks_18 fl_X13_321 (h0.lt 57 (by decide)) (h0.ty 57 rfl) rfl hla ?_
    refine J_getI (pc := 21) dX13_looks_21 fl_X13_301 (ht.lt 0 (by decide)) (ht.ty 0 rfl) rfl ?_
    refine K_icmp_ge (K := (fun x => Option.bind x k16)) (pc := 24) (tgt := 108) dX13_looks_24 (by decide) (fun z24 => ?_) (fun z24 => ?_)
    · refine J_loc (loc' := [(1, .int s16.1)]) [1] rfl ?_
      exact hX16 (s16.1, s16.2.2)
    · refine J_aload_n (pc := 27) 0 dX13_looks_27 rfl rfl ?_
      refine J_getI (pc := 28) dX13_looks_28 fl_X13_423 (h0.lt 57 (by decide)) (h0.ty 57 rfl) rfl ?_
      refine K_if_le (K := (fun x => Option.bind x k16)) (pc := 31) (tgt := 108) dX13_looks_31 (by decide) (fun z31 => ?_) (fun z31 => ?_)
      · refine J_loc (loc' := [(1, .int s16.1)]) [1] rfl ?_
        exact hX16 (s16.1, s16.2.2)
      · refine J_iconst (pc := 34) (v := 0) dX13_looks_34 (by decide) ?_
        refine J_istore_n (pc := 35) (loc' := [(3, .int 0), (0, .ref 57), (1, .int s16.1), (2, .int s16.2.1)]) dX13_looks_35 rfl (by decide) rfl ?_
        refine J_iconst (pc := 36) (v := 0) dX13_looks_36 (by decide) ?_
        refine J_istore (pc := 37) (loc' := [(4, .int 0), (3, .int 0), (0, .ref 57), (1, .int s16.1), (2, .int s16.2.1)]) dX13_looks_37 (by decide) rfl ?_
        refine J_loc (loc' := [(0, .ref 57), (1, .int s16.1), (2, .int s16.2.1), (3, .int 0), (4, .int 0)]) [2, 3, 4, 1, 0] rfl ?_
        refine J_whL (F := f_X13_looks_w39_16 t s16.1 s16.2.1 s16.2.2 ) (hp := fun (s39_16 : Int32 × Int32) => (g, s16.2.2)) (lc := fun (s39_16 : Int32 × Int32) => [(0, .ref 57), (1, .int (s16.1)), (2, .int (s16.2.1)), (3, .int s39_16.1), (4, .int s39_16.2)]) (XJ := fun (e39_16 : Int32) o9 => J mi_X13_looks 0 0 0 0 (g, s16.2.2) 78 [(0, .ref 57), (1, .int s16.1), (2, .int s16.2.1), (3, .int e39_16)] [] o9) (fun s39_16 k39_16 hB39_16 hX39_16 => ?_) (fun e39_16 => ?_) _ (0, 0)
        · show J mi_X13_looks 0 0 0 0 (g, s16.2.2) 39 [(0, .ref 57), (1, .int (s16.1)), (2, .int (s16.2.1)), (3, .int s39_16.1), (4, .int s39_16.2)] [] ((f_X13_looks_w39_16 t s16.1 s16.2.1 s16.2.2 s39_16).bind k39_16)
          unfold f_X13_looks_w39_16
          have hX13_looks_j72_16_39 : ∀ (x3_72_16_39 : Int32) (x4_72_16_39 : Int32), J mi_X13_looks 0 0 0 0 (g, s16.2.2) 72 [(0, .ref 57), (1, .int (s16.1)), (2, .int (s16.2.1)), (3, .int x3_72_16_39), (4, .int x4_72_16_39)] [] ((f_X13_looks_j72_16_39 t s16.1 s16.2.1 s16.2.2 x3_72_16_39 x4_72_16_39).bind k39_16) := by
            intro x3_72_16_39 x4_72_16_39
            unfold f_X13_looks_j72_16_39
            refine J_iinc (pc := 72) (v := x4_72_16_39 + 1) (loc' := [(4, .int (x4_72_16_39 + 1)), (0, .ref 57), (1, .int (s16.1)), (2, .int (s16.2.1)), (3, .int x3_72_16_39)]) 4 dX13_looks_72 rfl rfl (by decide) rfl ?_
            refine J_goto (pc := 75) (tgt := 39) dX13_looks_75 (by decide) ?_
            refine J_loc (loc' := [(0, .ref 57), (1, .int (s16.1)), (2, .int (s16.2.1)), (3, .int x3_72_16_39), (4, .int (x4_72_16_39 + 1))]) [1, 2, 3, 4, 0] rfl ?_
            exact hB39_16 (x3_72_16_39, x4_72_16_39 + 1)
          refine J_iload (pc := 39) 4 dX13_looks_39 rfl ?_
          refine J_iconst (pc := 41) (v := 3) dX13_looks_41 (by decide) ?_
          refine K_icmp_ge (K := (fun x => Option.bind x k39_16)) (pc := 42) (tgt := 78) dX13_looks_42 (by decide) (fun z42 => ?_) (fun z42 => ?_)
          · refine J_loc (loc' := [(0, .ref 57), (1, .int (s16.1)), (2, .int (s16.2.1)), (3, .int s39_16.1)]) [0, 1, 2, 3] rfl ?_
            exact hX39_16 s39_16.1
          · refine J_aload_n (pc := 45) 0 dX13_looks_45 rfl rfl ?_
            refine J_getR (pc := 46) dX13_looks_46 fl_X13_39 (h0.lt 57 (by decide)) (h0.ty 57 rfl) rfl (h0.rf 63 rfl) ?_
            refine J_iconst (pc := 49) (v := 3) dX13_looks_49 (by decide) ?_
            refine J_iload_n (pc := 50) 2 dX13_looks_50 rfl rfl ?_
            refine J_imul (pc := 51) dX13_looks_51 ?_
            refine J_iload (pc := 52) 4 dX13_looks_52 rfl ?_
            refine J_iadd (pc := 54) dX13_looks_54 ?_
            refine J_guard (fun z55 => ?_)
            refine J_iald (pc := 55) dX13_looks_55 (h0.lt 66 (by decide)) (h0.ty 66 rfl) z55 ?_
            refine J_iload_n (pc := 56) 3 dX13_looks_56 rfl rfl ?_
            refine K_icmp_le (K := (fun x => Option.bind x k39_16)) (pc := 57) (tgt := 72) dX13_looks_57 (by decide) (fun z57 => ?_) (fun z57 => ?_)
            · exact hX13_looks_j72_16_39 s39_16.1 s39_16.2
            · refine J_aload_n (pc := 60) 0 dX13_looks_60 rfl rfl ?_
              refine J_getR (pc := 61) dX13_looks_61 fl_X13_39 (h0.lt 57 (by decide)) (h0.ty 57 rfl) rfl (h0.rf 63 rfl) ?_
              refine J_iconst (pc := 64) (v := 3) dX13_looks_64 (by decide) ?_
              refine J_iload_n (pc := 65) 2 dX13_looks_65 rfl rfl ?_
              refine J_imul (pc := 66) dX13_looks_66 ?_
              refine J_iload (pc := 67) 4 dX13_looks_67 rfl ?_
              refine J_iadd (pc := 69) dX13_looks_69 ?_
              refine J_guard (fun z70 => ?_)
              refine J_iald (pc := 70) dX13_looks_70 (h0.lt 66 (by decide)) (h0.ty 66 rfl) z70 ?_
              refine J_istore_n (pc := 71) (loc' := [(3, .int (((s16.2.2).1 66) ((((3 : Int32) * (s16.2.1)) + s39_16.2).toNatClampNeg))), (0, .ref 57), (1, .int (s16.1)), (2, .int (s16.2.1)), (4, .int s39_16.2)]) dX13_looks_71 rfl (by decide) rfl ?_
              refine J_loc (loc' := [(0, .ref 57), (1, .int (s16.1)), (2, .int (s16.2.1)), (3, .int (((s16.2.2).1 66) ((((3 : Int32) * (s16.2.1)) + s39_16.2).toNatClampNeg))), (4, .int s39_16.2)]) [1, 2, 3, 0, 4] rfl ?_
              exact hX13_looks_j72_16_39 (((s16.2.2).1 66) ((((3 : Int32) * (s16.2.1)) + s39_16.2).toNatClampNeg)) s39_16.2
        · show J mi_X13_looks 0 0 0 0 (g, s16.2.2) 78 [(0, .ref 57), (1, .int s16.1), (2, .int s16.2.1), (3, .int e39_16)] [] (_)
          refine J_iload_n (pc := 78) 1 dX13_looks_78 rfl rfl ?_
          refine J_bipush (pc := 79) (v := (-2)) dX13_looks_79 (by decide) ?_
          refine K_icmp_eq (K := (fun x => Option.bind x k16)) (pc := 81) (tgt := 95) dX13_looks_81 (by decide) (fun z81 => ?_) (fun z81 => ?_)
          · refine J_loc (loc' := [(0, .ref 57), (2, .int s16.2.1), (3, .int e39_16)]) [0, 2, 3] rfl ?_
            exact hX13_looks_j95_16 s16.2.2 s16.2.1 e39_16
          · refine J_iload_n (pc := 84) 3 dX13_looks_84 rfl rfl ?_
            refine J_aload_n (pc := 85) 0 dX13_looks_85 rfl rfl ?_
            refine J_getI (pc := 86) dX13_looks_86 fl_X13_444 (h0.lt 57 (by decide)) (h0.ty 57 rfl) rfl ?_
            refine K_icmp_lt (K := (fun x => Option.bind x k16)) (pc := 89) (tgt := 95) dX13_looks_89 (by decide) (fun z89 => ?_) (fun z89 => ?_)
            · refine J_loc (loc' := [(0, .ref 57), (2, .int s16.2.1), (3, .int e39_16)]) [0, 2, 3] rfl ?_
              exact hX13_looks_j95_16 s16.2.2 s16.2.1 e39_16
            · refine J_goto (pc := 92) (tgt := 102) dX13_looks_92 (by decide) ?_
              refine J_loc (loc' := [(0, .ref 57), (1, .int s16.1), (2, .int s16.2.1)]) [0, 1, 2] rfl ?_
              exact hX13_looks_j102_16 s16.2.2 s16.1 s16.2.1
  · show J mi_X13_looks 0 0 0 0 (g, e16.2) 108 [(1, .int e16.1)] [] (_)
    refine J_iload_n (pc := 108) 0 dX13_looks_108 rfl rfl ?_
    exact J_eqo (hk (e16.1, e16.2)) (J_iret (pc := 109) dX13_looks_109 rfl)
def f_X13_look (t : Nat) (d : JD) : Option (Int32 × JD) := ((f_X13_looks t (j_sI d 57 0 0)).bind (fun q22 => j_let (f_X13_good q22.2 q22.1) (fun q25 => some (q25.1, q25.2))))
set_option maxRecDepth 100000 in
set_option maxHeartbeats 4000000 in
theorem s_X13_look (g : JG) (d : JD) (t : Nat) (h0 : j_sh g 0 TS_W RS_W) (ht : j_sh g t TS_ML RS_ML) (hla : g.2.2.1 57 3 = some t) : JM mi_X13_look 0 0 (g, d) [.ref 57] ((f_X13_look t d ).bind (fun r9 => some (some (.int r9.1), (g, r9.2)))) := by
  refine JM_of (by decide) rfl (Nat.le_of_ble_eq_true rfl) ?_
  refine J_loc (loc' := [(0, .ref 57)]) [0] rfl ?_
  obtain ⟨k, hk, hk2⟩ : ∃ k : Int32 × JD → Option (Option Value × JH), (∀ r9, k r9 = some (some (.int r9.1), (g, r9.2))) ∧ (fun r9 : Int32 × JD => (some (some (.int r9.1), (g, r9.2)) : Option (Option Value × JH))) = k := ⟨_, fun _ => rfl, rfl⟩
  rw [hk2]
  unfold f_X13_look
  refine J_aload_n (pc := 0) 0 dX13_look_0 rfl rfl ?_
  refine J_iconst (pc := 1) (v := 0) dX13_look_1 (by decide) ?_
  refine J_putI (pc := 2) dX13_look_2 fl_X13_42 ft_12_0 (h0.lt 57 (by decide)) (h0.ty 57 rfl) rfl rfl rfl ?_
  refine J_aload_n (pc := 5) 0 dX13_look_5 rfl rfl ?_
  refine J_getR (pc := 6) dX13_look_6 fl_X13_321 (h0.lt 57 (by decide)) (h0.ty 57 rfl) rfl hla ?_
  refine J_ifnonnull (pc := 9) (tgt := 20) dX13_look_9 (by decide) ?_
  refine J_aload_n (pc := 20) 0 dX13_look_20 rfl rfl ?_
  refine J_aload_n (pc := 21) 0 dX13_look_21 rfl rfl ?_
  refine JC_pe_i (J_callV (mi := mi_X13_look) (mj := mi_X13_looks) (pc := 22) dX13_look_22 ml_X13_447 ok_X13_looks ov_X13_looks ⟨Nat.le_of_ble_eq_true rfl, Nat.le_of_ble_eq_true rfl⟩ rfl (h0.lt 57 (by decide)) (h0.ty 57 rfl) rfl (s_X13_looks g (j_sI d 57 0 0) t h0 ht hla) rfl (Nat.le_of_ble_eq_true rfl)) (fun q22 => ?_)
  refine JC_lt_i (K := (fun x => Option.bind x k)) (J_callV (mi := mi_X13_look) (mj := mi_X13_good) (pc := 25) dX13_look_25 ml_X13_52 ok_X13_good ov_X13_good ⟨Nat.le_of_ble_eq_true rfl, Nat.le_of_ble_eq_true rfl⟩ rfl (h0.lt 57 (by decide)) (h0.ty 57 rfl) rfl (s_X13_good g q22.2 q22.1 h0) rfl (Nat.le_of_ble_eq_true rfl)) (fun q25 eq25 => ?_)
  exact J_eqo (hk (q25.1, q25.2)) (J_iret (pc := 28) dX13_look_28 rfl)
def f_X13_lookLeaves (t : Nat) (d : JD) : Option (Int32 × JD) := ((f_X13_looks t (j_sI d 57 0 0)).bind (fun q19 => j_let (f_X13_good q19.2 ((q19.2.1 57) 28)) (fun q28 => some (q28.1, q28.2))))
set_option maxRecDepth 100000 in
set_option maxHeartbeats 4000000 in
theorem s_X13_lookLeaves (g : JG) (d : JD) (t : Nat) (h0 : j_sh g 0 TS_W RS_W) (ht : j_sh g t TS_ML RS_ML) (hla : g.2.2.1 57 3 = some t) : JM mi_X13_lookLeaves 0 0 (g, d) [.ref 57] ((f_X13_lookLeaves t d ).bind (fun r9 => some (some (.int r9.1), (g, r9.2)))) := by
  refine JM_of (by decide) rfl (Nat.le_of_ble_eq_true rfl) ?_
  refine J_loc (loc' := [(0, .ref 57)]) [0] rfl ?_
  obtain ⟨k, hk, hk2⟩ : ∃ k : Int32 × JD → Option (Option Value × JH), (∀ r9, k r9 = some (some (.int r9.1), (g, r9.2))) ∧ (fun r9 : Int32 × JD => (some (some (.int r9.1), (g, r9.2)) : Option (Option Value × JH))) = k := ⟨_, fun _ => rfl, rfl⟩
  rw [hk2]
  unfold f_X13_lookLeaves
  refine J_aload_n (pc := 0) 0 dX13_lookLeaves_0 rfl rfl ?_
  refine J_iconst (pc := 1) (v := 0) dX13_lookLeaves_1 (by decide) ?_
  refine J_putI (pc := 2) dX13_lookLeaves_2 fl_X13_42 ft_12_0 (h0.lt 57 (by decide)) (h0.ty 57 rfl) rfl rfl rfl ?_
  refine J_aload_n (pc := 5) 0 dX13_lookLeaves_5 rfl rfl ?_
  refine J_getR (pc := 6) dX13_lookLeaves_6 fl_X13_321 (h0.lt 57 (by decide)) (h0.ty 57 rfl) rfl hla ?_
  refine J_ifnonnull (pc := 9) (tgt := 18) dX13_lookLeaves_9 (by decide) ?_
  refine J_aload_n (pc := 18) 0 dX13_lookLeaves_18 rfl rfl ?_
  refine JC_pe_i (J_callV (mi := mi_X13_lookLeaves) (mj := mi_X13_looks) (pc := 19) dX13_lookLeaves_19 ml_X13_447 ok_X13_looks ov_X13_looks ⟨Nat.le_of_ble_eq_true rfl, Nat.le_of_ble_eq_true rfl⟩ rfl (h0.lt 57 (by decide)) (h0.ty 57 rfl) rfl (s_X13_looks g (j_sI d 57 0 0) t h0 ht hla) rfl (Nat.le_of_ble_eq_true rfl)) (fun q19 => ?_)
  refine J_pop (pc := 22) dX13_lookLeaves_22 rfl ?_
  refine J_aload_n (pc := 23) 0 dX13_lookLeaves_23 rfl rfl ?_
  refine J_aload_n (pc := 24) 0 dX13_lookLeaves_24 rfl rfl ?_
  refine J_getI (pc := 25) dX13_lookLeaves_25 fl_X13_444 (h0.lt 57 (by decide)) (h0.ty 57 rfl) rfl ?_
  refine JC_lt_i (K := (fun x => Option.bind x k)) (J_callV (mi := mi_X13_lookLeaves) (mj := mi_X13_good) (pc := 28) dX13_lookLeaves_28 ml_X13_52 ok_X13_good ov_X13_good ⟨Nat.le_of_ble_eq_true rfl, Nat.le_of_ble_eq_true rfl⟩ rfl (h0.lt 57 (by decide)) (h0.ty 57 rfl) rfl (s_X13_good g q19.2 ((q19.2.1 57) 28) h0) rfl (Nat.le_of_ble_eq_true rfl)) (fun q28 eq28 => ?_)
  exact J_eqo (hk (q28.1, q28.2)) (J_iret (pc := 31) dX13_lookLeaves_31 rfl)
def f_X13_judge (t : Nat) (d : JD) : Option (Int32 × JD) := ((f_X13_asTold t (j_sI d 57 0 0)).bind (fun q19 => (f_X13_wrong (q19.1 60) (q19.1 t) (q19.1 (t + 1)) (q19.1 (t + 2)) (q19.1 (t + 3)) (q19.1 (t + 4)) (q19.1 (t + 5)) (q19.1 (t + 11))).bind (fun q24 => j_let (f_X13_good q19 q24) (fun q27 => some (q27.1, q27.2)))))
set_option maxRecDepth 100000 in
set_option maxHeartbeats 4000000 in
theorem s_X13_judge (g : JG) (d : JD) (t : Nat) (h0 : j_sh g 0 TS_W RS_W) (ht : j_sh g t TS_ML RS_ML) (hla : g.2.2.1 57 3 = some t) : JM mi_X13_judge 0 0 (g, d) [.ref 57] ((f_X13_judge t d ).bind (fun r9 => some (some (.int r9.1), (g, r9.2)))) := by
  refine JM_of (by decide) rfl (Nat.le_of_ble_eq_true rfl) ?_
  refine J_loc (loc' := [(0, .ref 57)]) [0] rfl ?_
  obtain ⟨k, hk, hk2⟩ : ∃ k : Int32 × JD → Option (Option Value × JH), (∀ r9, k r9 = some (some (.int r9.1), (g, r9.2))) ∧ (fun r9 : Int32 × JD => (some (some (.int r9.1), (g, r9.2)) : Option (Option Value × JH))) = k := ⟨_, fun _ => rfl, rfl⟩
  rw [hk2]
  unfold f_X13_judge
  refine J_aload_n (pc := 0) 0 dX13_judge_0 rfl rfl ?_
  refine J_iconst (pc := 1) (v := 0) dX13_judge_1 (by decide) ?_
  refine J_putI (pc := 2) dX13_judge_2 fl_X13_42 ft_12_0 (h0.lt 57 (by decide)) (h0.ty 57 rfl) rfl rfl rfl ?_
  refine J_aload_n (pc := 5) 0 dX13_judge_5 rfl rfl ?_
  refine J_getR (pc := 6) dX13_judge_6 fl_X13_321 (h0.lt 57 (by decide)) (h0.ty 57 rfl) rfl hla ?_
  refine J_ifnonnull (pc := 9) (tgt := 18) dX13_judge_9 (by decide) ?_
  refine J_aload_n (pc := 18) 0 dX13_judge_18 rfl rfl ?_
  refine JC_pe_v (J_callV (mi := mi_X13_judge) (mj := mi_X13_asTold) (pc := 19) dX13_judge_19 ml_X13_323 ok_X13_asTold ov_X13_asTold ⟨Nat.le_of_ble_eq_true rfl, Nat.le_of_ble_eq_true rfl⟩ rfl (h0.lt 57 (by decide)) (h0.ty 57 rfl) rfl (s_X13_asTold g (j_sI d 57 0 0) t h0 ht hla) rfl (Nat.le_of_ble_eq_true rfl)) (fun q19 => ?_)
  refine J_aload_n (pc := 22) 0 dX13_judge_22 rfl rfl ?_
  refine J_aload_n (pc := 23) 0 dX13_judge_23 rfl rfl ?_
  refine JC_pp_i (J_callV (mi := mi_X13_judge) (mj := mi_X13_wrong) (pc := 24) dX13_judge_24 ml_X13_435 ok_X13_wrong ov_X13_wrong ⟨Nat.le_of_ble_eq_true rfl, Nat.le_of_ble_eq_true rfl⟩ rfl (h0.lt 57 (by decide)) (h0.ty 57 rfl) rfl (s_X13_wrong g q19 t h0 ht hla) rfl (Nat.le_of_ble_eq_true rfl)) (fun q24 => ?_)
  refine JC_lt_i (K := (fun x => Option.bind x k)) (J_callV (mi := mi_X13_judge) (mj := mi_X13_good) (pc := 27) dX13_judge_27 ml_X13_52 ok_X13_good ov_X13_good ⟨Nat.le_of_ble_eq_true rfl, Nat.le_of_ble_eq_true rfl⟩ rfl (h0.lt 57 (by decide)) (h0.ty 57 rfl) rfl (s_X13_good g q19 q24 h0) rfl (Nat.le_of_ble_eq_true rfl)) (fun q27 eq27 => ?_)
  exact J_eqo (hk (q27.1, q27.2)) (J_iret (pc := 30) dX13_judge_30 rfl)
