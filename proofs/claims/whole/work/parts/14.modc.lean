def f_X13_ownersIf (r_t1 : Nat → Int32) (r_t2 : Nat → Int32) (r_t3 : Nat → Int32) (r_t4 : Nat → Int32) (pq0 : Int32) (pq1 : Int32) : Option (Int32) := (if j_out pq0 6 then none else if j_out pq0 6 then none else if (r_t3 pq0.toNatClampNeg) = 1 then (if pq1 = 1 then (if j_out (r_t4 pq0.toNatClampNeg) 4 then none else some (r_t2 ((r_t4 pq0.toNatClampNeg).toNatClampNeg))) else (if pq1 = 2 then (some 0) else (if j_out (r_t4 pq0.toNatClampNeg) 4 then none else some ((1 : Int32) <<< ((r_t1 ((r_t4 pq0.toNatClampNeg).toNatClampNeg)) &&& 31))))) else (if pq1 = 1 then (if j_out (r_t4 pq0.toNatClampNeg) 4 then none else some ((1 : Int32) <<< ((r_t1 ((r_t4 pq0.toNatClampNeg).toNatClampNeg)) &&& 31))) else (if pq1 = 2 then (if j_out (r_t4 pq0.toNatClampNeg) 4 then none else some (r_t2 ((r_t4 pq0.toNatClampNeg).toNatClampNeg))) else (some 0))))
set_option maxRecDepth 100000 in
set_option maxHeartbeats 4000000 in
theorem s_X13_ownersIf (g : JG) (d : JD) (t : Nat) (pq0 : Int32) (pq1 : Int32) (h0 : j_sh g 0 TS_W RS_W) (ht : j_sh g t TS_ML RS_ML) (hla : g.2.2.1 57 3 = some t) : JM mi_X13_ownersIf 0 0 (g, d) [.ref 57, .int pq0, .int pq1] ((f_X13_ownersIf (d.1 (t + 1)) (d.1 (t + 2)) (d.1 (t + 3)) (d.1 (t + 4)) pq0 pq1).bind (fun r9 => some (some (.int r9), (g, d)))) := by
  refine JM_of (by decide) rfl (Nat.le_of_ble_eq_true rfl) ?_
  refine J_loc (loc' := [(0, .ref 57), (1, .int pq0), (2, .int pq1)]) [0, 1, 2] rfl ?_
  obtain ⟨k, hk, hk2⟩ : ∃ k : Int32 → Option (Option Value × JH), (∀ r9, k r9 = some (some (.int r9), (g, d))) ∧ (fun r9 : Int32 => (some (some (.int r9), (g, d)) : Option (Option Value × JH))) = k := ⟨_, fun _ => rfl, rfl⟩
  rw [hk2]
  unfold f_X13_ownersIf
  refine J_aload_n (pc := 0) 0 dX13_ownersIf_0 rfl rfl ?_
  refine J_getR (pc := 1) dX13_ownersIf_1 fl_X13_321 (h0.lt 57 (by decide)) (h0.ty 57 rfl) rfl hla ?_
  refine J_getR (pc := 4) dX13_ownersIf_4 fl_X13_278 (ht.lt 0 (by decide)) (ht.ty 0 rfl) rfl (ht.rf 3 rfl) ?_
  refine J_iload_n (pc := 7) 1 dX13_ownersIf_7 rfl rfl ?_
  refine J_guard (fun z8 => ?_)
  refine J_iald (pc := 8) dX13_ownersIf_8 (ht.lt 4 (by decide)) (ht.ty 4 rfl) z8 ?_
  refine J_istore_n (pc := 9) (loc' := [(3, .int ((d.1 (t + 4)) pq0.toNatClampNeg)), (0, .ref 57), (1, .int pq0), (2, .int pq1)]) dX13_ownersIf_9 rfl (by decide) rfl ?_
  refine J_aload_n (pc := 10) 1 dX13_ownersIf_10 rfl rfl ?_
  refine J_getR (pc := 11) dX13_ownersIf_11 fl_X13_321 (h0.lt 57 (by decide)) (h0.ty 57 rfl) rfl hla ?_
  refine J_getR (pc := 14) dX13_ownersIf_14 fl_X13_275 (ht.lt 0 (by decide)) (ht.ty 0 rfl) rfl (ht.rf 2 rfl) ?_
  refine J_iload_n (pc := 17) 2 dX13_ownersIf_17 rfl rfl ?_
  refine J_guard (fun z18 => ?_)
  refine J_iald (pc := 18) dX13_ownersIf_18 (ht.lt 3 (by decide)) (ht.ty 3 rfl) z18 ?_
  refine J_iconst (pc := 19) (v := 1) dX13_ownersIf_19 (by decide) ?_
  refine K_icmp_ne (K := (fun x => Option.bind x k)) (pc := 20) (tgt := 61) dX13_ownersIf_20 (by decide) (fun z20 => ?_) (fun z20 => ?_)
  · refine J_iload_n (pc := 61) 3 dX13_ownersIf_61 rfl rfl ?_
    refine J_iconst (pc := 62) (v := 1) dX13_ownersIf_62 (by decide) ?_
    refine K_icmp_ne (K := (fun x => Option.bind x k)) (pc := 63) (tgt := 80) dX13_ownersIf_63 (by decide) (fun z63 => ?_) (fun z63 => ?_)
    · refine J_iload_n (pc := 80) 3 dX13_ownersIf_80 rfl rfl ?_
      refine J_iconst (pc := 81) (v := 2) dX13_ownersIf_81 (by decide) ?_
      refine K_icmp_ne (K := (fun x => Option.bind x k)) (pc := 82) (tgt := 97) dX13_ownersIf_82 (by decide) (fun z82 => ?_) (fun z82 => ?_)
      · refine J_iconst (pc := 97) (v := 0) dX13_ownersIf_97 (by decide) ?_
        exact J_eqo (hk 0) (J_iret (pc := 98) dX13_ownersIf_98 rfl)
      · refine J_aload_n (pc := 85) 1 dX13_ownersIf_85 rfl rfl ?_
        refine J_getR (pc := 86) dX13_ownersIf_86 fl_X13_321 (h0.lt 57 (by decide)) (h0.ty 57 rfl) rfl hla ?_
        refine J_getR (pc := 89) dX13_ownersIf_89 fl_X13_256 (ht.lt 0 (by decide)) (ht.ty 0 rfl) rfl (ht.rf 1 rfl) ?_
        refine J_iload_n (pc := 92) 0 dX13_ownersIf_92 rfl rfl ?_
        refine J_guard (fun z93 => ?_)
        refine J_iald (pc := 93) dX13_ownersIf_93 (ht.lt 2 (by decide)) (ht.ty 2 rfl) z93 ?_
        refine J_goto (pc := 94) (tgt := 98) dX13_ownersIf_94 (by decide) ?_
        exact J_eqo (hk ((d.1 (t + 2)) (((d.1 (t + 4)) pq0.toNatClampNeg).toNatClampNeg))) (J_iret (pc := 98) dX13_ownersIf_98 rfl)
    · refine J_iconst (pc := 66) (v := 1) dX13_ownersIf_66 (by decide) ?_
      refine J_aload_n (pc := 67) 1 dX13_ownersIf_67 rfl rfl ?_
      refine J_getR (pc := 68) dX13_ownersIf_68 fl_X13_321 (h0.lt 57 (by decide)) (h0.ty 57 rfl) rfl hla ?_
      refine J_getR (pc := 71) dX13_ownersIf_71 fl_X13_253 (ht.lt 0 (by decide)) (ht.ty 0 rfl) rfl (ht.rf 0 rfl) ?_
      refine J_iload_n (pc := 74) 0 dX13_ownersIf_74 rfl rfl ?_
      refine J_guard (fun z75 => ?_)
      refine J_iald (pc := 75) dX13_ownersIf_75 (ht.lt 1 (by decide)) (ht.ty 1 rfl) z75 ?_
      refine J_ishl (pc := 76) dX13_ownersIf_76 ?_
      refine J_goto (pc := 77) (tgt := 98) dX13_ownersIf_77 (by decide) ?_
      exact J_eqo (hk ((1 : Int32) <<< (((d.1 (t + 1)) (((d.1 (t + 4)) pq0.toNatClampNeg).toNatClampNeg)) &&& 31))) (J_iret (pc := 98) dX13_ownersIf_98 rfl)
  · refine J_iload_n (pc := 23) 3 dX13_ownersIf_23 rfl rfl ?_
    refine J_iconst (pc := 24) (v := 1) dX13_ownersIf_24 (by decide) ?_
    refine K_icmp_ne (K := (fun x => Option.bind x k)) (pc := 25) (tgt := 40) dX13_ownersIf_25 (by decide) (fun z25 => ?_) (fun z25 => ?_)
    · refine J_iload_n (pc := 40) 3 dX13_ownersIf_40 rfl rfl ?_
      refine J_iconst (pc := 41) (v := 2) dX13_ownersIf_41 (by decide) ?_
      refine K_icmp_ne (K := (fun x => Option.bind x k)) (pc := 42) (tgt := 49) dX13_ownersIf_42 (by decide) (fun z42 => ?_) (fun z42 => ?_)
      · refine J_iconst (pc := 49) (v := 1) dX13_ownersIf_49 (by decide) ?_
        refine J_aload_n (pc := 50) 1 dX13_ownersIf_50 rfl rfl ?_
        refine J_getR (pc := 51) dX13_ownersIf_51 fl_X13_321 (h0.lt 57 (by decide)) (h0.ty 57 rfl) rfl hla ?_
        refine J_getR (pc := 54) dX13_ownersIf_54 fl_X13_253 (ht.lt 0 (by decide)) (ht.ty 0 rfl) rfl (ht.rf 0 rfl) ?_
        refine J_iload_n (pc := 57) 0 dX13_ownersIf_57 rfl rfl ?_
        refine J_guard (fun z58 => ?_)
        refine J_iald (pc := 58) dX13_ownersIf_58 (ht.lt 1 (by decide)) (ht.ty 1 rfl) z58 ?_
        refine J_ishl (pc := 59) dX13_ownersIf_59 ?_
        exact J_eqo (hk ((1 : Int32) <<< (((d.1 (t + 1)) (((d.1 (t + 4)) pq0.toNatClampNeg).toNatClampNeg)) &&& 31))) (J_iret (pc := 60) dX13_ownersIf_60 rfl)
      · refine J_iconst (pc := 45) (v := 0) dX13_ownersIf_45 (by decide) ?_
        refine J_goto (pc := 46) (tgt := 60) dX13_ownersIf_46 (by decide) ?_
        exact J_eqo (hk 0) (J_iret (pc := 60) dX13_ownersIf_60 rfl)
    · refine J_aload_n (pc := 28) 1 dX13_ownersIf_28 rfl rfl ?_
      refine J_getR (pc := 29) dX13_ownersIf_29 fl_X13_321 (h0.lt 57 (by decide)) (h0.ty 57 rfl) rfl hla ?_
      refine J_getR (pc := 32) dX13_ownersIf_32 fl_X13_256 (ht.lt 0 (by decide)) (ht.ty 0 rfl) rfl (ht.rf 1 rfl) ?_
      refine J_iload_n (pc := 35) 0 dX13_ownersIf_35 rfl rfl ?_
      refine J_guard (fun z36 => ?_)
      refine J_iald (pc := 36) dX13_ownersIf_36 (ht.lt 2 (by decide)) (ht.ty 2 rfl) z36 ?_
      refine J_goto (pc := 37) (tgt := 60) dX13_ownersIf_37 (by decide) ?_
      exact J_eqo (hk ((d.1 (t + 2)) (((d.1 (t + 4)) pq0.toNatClampNeg).toNatClampNeg))) (J_iret (pc := 60) dX13_ownersIf_60 rfl)
def f_X13_owners (r_60 : Nat → Int32) (r_t1 : Nat → Int32) (r_t2 : Nat → Int32) (r_t3 : Nat → Int32) (r_t4 : Nat → Int32) (pq0 : Int32) : Option (Int32) := (if j_out pq0 6 then none else (f_X13_ownersIf r_t1 r_t2 r_t3 r_t4 pq0 (r_60 pq0.toNatClampNeg)).bind (fun q8 => some q8))
set_option maxRecDepth 100000 in
set_option maxHeartbeats 4000000 in
theorem s_X13_owners (g : JG) (d : JD) (t : Nat) (pq0 : Int32) (h0 : j_sh g 0 TS_W RS_W) (ht : j_sh g t TS_ML RS_ML) (hla : g.2.2.1 57 3 = some t) : JM mi_X13_owners 0 0 (g, d) [.ref 57, .int pq0] ((f_X13_owners (d.1 60) (d.1 (t + 1)) (d.1 (t + 2)) (d.1 (t + 3)) (d.1 (t + 4)) pq0).bind (fun r9 => some (some (.int r9), (g, d)))) := by
  refine JM_of (by decide) rfl (Nat.le_of_ble_eq_true rfl) ?_
  refine J_loc (loc' := [(0, .ref 57), (1, .int pq0)]) [0, 1] rfl ?_
  obtain ⟨k, hk, hk2⟩ : ∃ k : Int32 → Option (Option Value × JH), (∀ r9, k r9 = some (some (.int r9), (g, d))) ∧ (fun r9 : Int32 => (some (some (.int r9), (g, d)) : Option (Option Value × JH))) = k := ⟨_, fun _ => rfl, rfl⟩
  rw [hk2]
  unfold f_X13_owners
  refine J_aload_n (pc := 0) 0 dX13_owners_0 rfl rfl ?_
  refine J_iload_n (pc := 1) 1 dX13_owners_1 rfl rfl ?_
  refine J_aload_n (pc := 2) 0 dX13_owners_2 rfl rfl ?_
  refine J_getR (pc := 3) dX13_owners_3 fl_X13_21 (h0.lt 57 (by decide)) (h0.ty 57 rfl) rfl (h0.rf 57 rfl) ?_
  refine J_iload_n (pc := 6) 1 dX13_owners_6 rfl rfl ?_
  refine J_guard (fun z7 => ?_)
  refine J_iald (pc := 7) dX13_owners_7 (h0.lt 60 (by decide)) (h0.ty 60 rfl) z7 ?_
  refine JC_pp_i (J_callV (mi := mi_X13_owners) (mj := mi_X13_ownersIf) (pc := 8) dX13_owners_8 ml_X13_332 ok_X13_ownersIf ov_X13_ownersIf ⟨Nat.le_of_ble_eq_true rfl, Nat.le_of_ble_eq_true rfl⟩ rfl (h0.lt 57 (by decide)) (h0.ty 57 rfl) rfl (s_X13_ownersIf g d t pq0 ((d.1 60) pq0.toNatClampNeg) h0 ht hla) rfl (Nat.le_of_ble_eq_true rfl)) (fun q8 => ?_)
  exact J_eqo (hk q8) (J_iret (pc := 11) dX13_owners_11 rfl)
def f_X13_shareIf (r_t1 : Nat → Int32) (r_t2 : Nat → Int32) (r_t3 : Nat → Int32) (r_t4 : Nat → Int32) (r_t5 : Nat → Int32) (pq0 : Int32) (pq1 : Int32) (pq2 : Int32) : Option (Int32) := ((f_X13_ownersIf r_t1 r_t2 r_t3 r_t4 pq1 pq2).bind (fun q3 => if (f_X13_bit q3 pq0) = true then (if j_out pq1 6 then none else (f_X13_bits q3).bind (fun q28 => if q28 = 0 then none else some ((r_t5 pq1.toNatClampNeg) / q28))) else (some 0)))
set_option maxRecDepth 100000 in
set_option maxHeartbeats 4000000 in
theorem s_X13_shareIf (g : JG) (d : JD) (t : Nat) (pq0 : Int32) (pq1 : Int32) (pq2 : Int32) (h0 : j_sh g 0 TS_W RS_W) (ht : j_sh g t TS_ML RS_ML) (hla : g.2.2.1 57 3 = some t) : JM mi_X13_shareIf 0 0 (g, d) [.ref 57, .int pq0, .int pq1, .int pq2] ((f_X13_shareIf (d.1 (t + 1)) (d.1 (t + 2)) (d.1 (t + 3)) (d.1 (t + 4)) (d.1 (t + 5)) pq0 pq1 pq2).bind (fun r9 => some (some (.int r9), (g, d)))) := by
  refine JM_of (by decide) rfl (Nat.le_of_ble_eq_true rfl) ?_
  refine J_loc (loc' := [(0, .ref 57), (1, .int pq0), (2, .int pq1), (3, .int pq2)]) [0, 1, 2, 3] rfl ?_
  obtain ⟨k, hk, hk2⟩ : ∃ k : Int32 → Option (Option Value × JH), (∀ r9, k r9 = some (some (.int r9), (g, d))) ∧ (fun r9 : Int32 => (some (some (.int r9), (g, d)) : Option (Option Value × JH))) = k := ⟨_, fun _ => rfl, rfl⟩
  rw [hk2]
  unfold f_X13_shareIf
  refine J_aload_n (pc := 0) 0 dX13_shareIf_0 rfl rfl ?_
  refine J_iload_n (pc := 1) 2 dX13_shareIf_1 rfl rfl ?_
  refine J_iload_n (pc := 2) 3 dX13_shareIf_2 rfl rfl ?_
  refine JC_pp_i (J_callV (mi := mi_X13_shareIf) (mj := mi_X13_ownersIf) (pc := 3) dX13_shareIf_3 ml_X13_332 ok_X13_ownersIf ov_X13_ownersIf ⟨Nat.le_of_ble_eq_true rfl, Nat.le_of_ble_eq_true rfl⟩ rfl (h0.lt 57 (by decide)) (h0.ty 57 rfl) rfl (s_X13_ownersIf g d t pq1 pq2 h0 ht hla) rfl (Nat.le_of_ble_eq_true rfl)) (fun q3 => ?_)
  refine J_istore (pc := 6) (loc' := [(4, .int q3), (0, .ref 57), (1, .int pq0), (2, .int pq1), (3, .int pq2)]) dX13_shareIf_6 (by decide) rfl ?_
  refine J_iload (pc := 8) 0 dX13_shareIf_8 rfl ?_
  refine J_iload_n (pc := 10) 2 dX13_shareIf_10 rfl rfl ?_
  refine JC_pt_i (J_callS (mi := mi_X13_shareIf) (mj := mi_X13_bit) (pc := 11) dX13_shareIf_11 ml_X13_249 ok_X13_bit os_X13_bit ⟨Nat.le_of_ble_eq_true rfl, Nat.le_of_ble_eq_true rfl⟩ rfl (s_X13_bit g d q3 pq0) rfl (Nat.le_of_ble_eq_true rfl)) ?_
  refine K_ifeq_b (K := (fun x => Option.bind x k)) (pc := 14) (tgt := 35) dX13_shareIf_14 (by decide) (fun z14 => ?_) (fun z14 => ?_)
  · refine J_iconst (pc := 35) (v := 0) dX13_shareIf_35 (by decide) ?_
    exact J_eqo (hk 0) (J_iret (pc := 36) dX13_shareIf_36 rfl)
  · refine J_aload_n (pc := 17) 1 dX13_shareIf_17 rfl rfl ?_
    refine J_getR (pc := 18) dX13_shareIf_18 fl_X13_321 (h0.lt 57 (by decide)) (h0.ty 57 rfl) rfl hla ?_
    refine J_getR (pc := 21) dX13_shareIf_21 fl_X13_280 (ht.lt 0 (by decide)) (ht.ty 0 rfl) rfl (ht.rf 4 rfl) ?_
    refine J_iload_n (pc := 24) 3 dX13_shareIf_24 rfl rfl ?_
    refine J_guard (fun z25 => ?_)
    refine J_iald (pc := 25) dX13_shareIf_25 (ht.lt 5 (by decide)) (ht.ty 5 rfl) z25 ?_
    refine J_iload (pc := 26) 0 dX13_shareIf_26 rfl ?_
    refine JC_pp_i (J_callS (mi := mi_X13_shareIf) (mj := mi_X13_bits) (pc := 28) dX13_shareIf_28 ml_X13_335 ok_X13_bits os_X13_bits ⟨Nat.le_of_ble_eq_true rfl, Nat.le_of_ble_eq_true rfl⟩ rfl (s_X13_bits g d q3) rfl (Nat.le_of_ble_eq_true rfl)) (fun q28 => ?_)
    refine J_nz (z0 := 0) (fun z31 => ?_)
    refine J_idiv (pc := 31) dX13_shareIf_31 z31 ?_
    refine J_goto (pc := 32) (tgt := 36) dX13_shareIf_32 (by decide) ?_
    exact J_eqo (hk (((d.1 (t + 5)) pq1.toNatClampNeg) / q28)) (J_iret (pc := 36) dX13_shareIf_36 rfl)
def f_X13_has_w4 (r_60 : Nat → Int32) (r_t0 : Nat → Int32) (r_t1 : Nat → Int32) (r_t2 : Nat → Int32) (r_t3 : Nat → Int32) (r_t4 : Nat → Int32) (r_t5 : Nat → Int32) (c1_4 : Int32) (s4 : Int32 × Int32) : Option ((Int32 × Int32) ⊕ (Int32)) := (if (r_t0 4) ≤ s4.2 then some (.inr s4.1) else (if j_out s4.2 6 then none else (f_X13_shareIf r_t1 r_t2 r_t3 r_t4 r_t5 (c1_4) s4.2 (r_60 s4.2.toNatClampNeg)).bind (fun q25_4 => some (.inl (s4.1 + q25_4, s4.2 + 1)))))
def f_X13_has (r_60 : Nat → Int32) (r_t0 : Nat → Int32) (r_t1 : Nat → Int32) (r_t2 : Nat → Int32) (r_t3 : Nat → Int32) (r_t4 : Nat → Int32) (r_t5 : Nat → Int32) (pq0 : Int32) : Option (Int32) := ((j_wh (f_X13_has_w4 r_60 r_t0 r_t1 r_t2 r_t3 r_t4 r_t5 pq0 ) j_fuel (0, 0)).bind (fun (e4 : Int32) => (some e4)))
set_option maxRecDepth 100000 in
set_option maxHeartbeats 4000000 in
theorem s_X13_has (g : JG) (d : JD) (t : Nat) (pq0 : Int32) (h0 : j_sh g 0 TS_W RS_W) (ht : j_sh g t TS_ML RS_ML) (hla : g.2.2.1 57 3 = some t) : JM mi_X13_has 0 0 (g, d) [.ref 57, .int pq0] ((f_X13_has (d.1 60) (d.1 t) (d.1 (t + 1)) (d.1 (t + 2)) (d.1 (t + 3)) (d.1 (t + 4)) (d.1 (t + 5)) pq0).bind (fun r9 => some (some (.int r9), (g, d)))) := by
  refine JM_of (by decide) rfl (Nat.le_of_ble_eq_true rfl) ?_
  refine J_loc (loc' := [(0, .ref 57), (1, .int pq0)]) [0, 1] rfl ?_
  obtain ⟨k, hk, hk2⟩ : ∃ k : Int32 → Option (Option Value × JH), (∀ r9, k r9 = some (some (.int r9), (g, d))) ∧ (fun r9 : Int32 => (some (some (.int r9), (g, d)) : Option (Option Value × JH))) = k := ⟨_, fun _ => rfl, rfl⟩
  rw [hk2]
  unfold f_X13_has
  refine J_iconst (pc := 0) (v := 0) dX13_has_0 (by decide) ?_
  refine J_istore_n (pc := 1) (loc' := [(2, .int 0), (0, .ref 57), (1, .int pq0)]) dX13_has_1 rfl (by decide) rfl ?_
  refine J_iconst (pc := 2) (v := 0) dX13_has_2 (by decide) ?_
  refine J_istore_n (pc := 3) (loc' := [(3, .int 0), (2, .int 0), (0, .ref 57), (1, .int pq0)]) dX13_has_3 rfl (by decide) rfl ?_
  refine J_loc (loc' := [(0, .ref 57), (1, .int pq0), (2, .int 0), (3, .int 0)]) [2, 3, 1, 0] rfl ?_
  refine J_whL (F := f_X13_has_w4 (d.1 60) (d.1 t) (d.1 (t + 1)) (d.1 (t + 2)) (d.1 (t + 3)) (d.1 (t + 4)) (d.1 (t + 5)) pq0 ) (hp := fun (s4 : Int32 × Int32) => (g, d)) (lc := fun (s4 : Int32 × Int32) => [(0, .ref 57), (1, .int (pq0)), (2, .int s4.1), (3, .int s4.2)]) (XJ := fun (e4 : Int32) o9 => J mi_X13_has 0 0 0 0 (g, d) 36 [(2, .int e4)] [] o9) (fun s4 k4 hB4 hX4 => ?_) (fun e4 => ?_) _ (0, 0)
  · show J mi_X13_has 0 0 0 0 (g, d) 4 [(0, .ref 57), (1, .int (pq0)), (2, .int s4.1), (3, .int s4.2)] [] ((f_X13_has_w4 (d.1 60) (d.1 t) (d.1 (t + 1)) (d.1 (t + 2)) (d.1 (t + 3)) (d.1 (t + 4)) (d.1 (t + 5)) pq0 s4).bind k4)
    unfold f_X13_has_w4
    refine J_iload_n (pc := 4) 3 dX13_has_4 rfl rfl ?_
    refine J_aload_n (pc := 5) 0 dX13_has_5 rfl rfl ?_
    refine J_getR (pc := 6) dX13_has_6 fl_X13_321 (h0.lt 57 (by decide)) (h0.ty 57 rfl) rfl hla ?_
    refine J_getI (pc := 9) dX13_has_9 fl_X13_191 (ht.lt 0 (by decide)) (ht.ty 0 rfl) rfl ?_
    refine K_icmp_ge (K := (fun x => Option.bind x k4)) (pc := 12) (tgt := 36) dX13_has_12 (by decide) (fun z12 => ?_) (fun z12 => ?_)
    · refine J_loc (loc' := [(2, .int s4.1)]) [2] rfl ?_
      exact hX4 s4.1
    · refine J_iload_n (pc := 15) 2 dX13_has_15 rfl rfl ?_
      refine J_aload_n (pc := 16) 0 dX13_has_16 rfl rfl ?_
      refine J_iload_n (pc := 17) 1 dX13_has_17 rfl rfl ?_
      refine J_iload_n (pc := 18) 3 dX13_has_18 rfl rfl ?_
      refine J_aload_n (pc := 19) 0 dX13_has_19 rfl rfl ?_
      refine J_getR (pc := 20) dX13_has_20 fl_X13_21 (h0.lt 57 (by decide)) (h0.ty 57 rfl) rfl (h0.rf 57 rfl) ?_
      refine J_iload_n (pc := 23) 3 dX13_has_23 rfl rfl ?_
      refine J_guard (fun z24 => ?_)
      refine J_iald (pc := 24) dX13_has_24 (h0.lt 60 (by decide)) (h0.ty 60 rfl) z24 ?_
      refine JC_pp_i (J_callV (mi := mi_X13_has) (mj := mi_X13_shareIf) (pc := 25) dX13_has_25 ml_X13_338 ok_X13_shareIf ov_X13_shareIf ⟨Nat.le_of_ble_eq_true rfl, Nat.le_of_ble_eq_true rfl⟩ rfl (h0.lt 57 (by decide)) (h0.ty 57 rfl) rfl (s_X13_shareIf g d t pq0 s4.2 ((d.1 60) s4.2.toNatClampNeg) h0 ht hla) rfl (Nat.le_of_ble_eq_true rfl)) (fun q25_4 => ?_)
      refine J_iadd (pc := 28) dX13_has_28 ?_
      refine J_istore_n (pc := 29) (loc' := [(2, .int (s4.1 + q25_4)), (0, .ref 57), (1, .int (pq0)), (3, .int s4.2)]) dX13_has_29 rfl (by decide) rfl ?_
      refine J_iinc (pc := 30) (v := s4.2 + 1) (loc' := [(3, .int (s4.2 + 1)), (2, .int (s4.1 + q25_4)), (0, .ref 57), (1, .int (pq0))]) 3 dX13_has_30 rfl rfl (by decide) rfl ?_
      refine J_goto (pc := 33) (tgt := 4) dX13_has_33 (by decide) ?_
      refine J_loc (loc' := [(0, .ref 57), (1, .int (pq0)), (2, .int (s4.1 + q25_4)), (3, .int (s4.2 + 1))]) [2, 3, 1, 0] rfl ?_
      exact hB4 (s4.1 + q25_4, s4.2 + 1)
  · show J mi_X13_has 0 0 0 0 (g, d) 36 [(2, .int e4)] [] (_)
    refine J_iload_n (pc := 36) 0 dX13_has_36 rfl rfl ?_
    exact J_eqo (hk e4) (J_iret (pc := 37) dX13_has_37 rfl)
def f_X13_owned_j35_4 (r_60 : Nat → Int32) (r_t0 : Nat → Int32) (r_t1 : Nat → Int32) (r_t2 : Nat → Int32) (r_t3 : Nat → Int32) (r_t4 : Nat → Int32) (c1_4 : Int32) (x3_35_4 : Int32) (y0_35_4 : Int32) (y1_35_4 : Int32) : Option ((Int32 × Int32) ⊕ (Int32)) := (some (.inl (y1_35_4 ||| y0_35_4, x3_35_4 + 1)))
def f_X13_owned_w4 (r_60 : Nat → Int32) (r_t0 : Nat → Int32) (r_t1 : Nat → Int32) (r_t2 : Nat → Int32) (r_t3 : Nat → Int32) (r_t4 : Nat → Int32) (c1_4 : Int32) (s4 : Int32 × Int32) : Option ((Int32 × Int32) ⊕ (Int32)) := (if (r_t0 4) ≤ s4.2 then some (.inr s4.1) else ((f_X13_owners r_60 r_t1 r_t2 r_t3 r_t4 s4.2).bind (fun q18_4 => if (f_X13_bit q18_4 (c1_4)) = true then (f_X13_owned_j35_4 r_60 r_t0 r_t1 r_t2 r_t3 r_t4 (c1_4) s4.2 ((1 : Int32) <<< (s4.2 &&& 31)) s4.1) else (f_X13_owned_j35_4 r_60 r_t0 r_t1 r_t2 r_t3 r_t4 (c1_4) s4.2 0 s4.1))))
def f_X13_owned (r_60 : Nat → Int32) (r_t0 : Nat → Int32) (r_t1 : Nat → Int32) (r_t2 : Nat → Int32) (r_t3 : Nat → Int32) (r_t4 : Nat → Int32) (pq0 : Int32) : Option (Int32) := ((j_wh (f_X13_owned_w4 r_60 r_t0 r_t1 r_t2 r_t3 r_t4 pq0 ) j_fuel (0, 0)).bind (fun (e4 : Int32) => (some e4)))
set_option maxRecDepth 100000 in
set_option maxHeartbeats 4000000 in
theorem s_X13_owned (g : JG) (d : JD) (t : Nat) (pq0 : Int32) (h0 : j_sh g 0 TS_W RS_W) (ht : j_sh g t TS_ML RS_ML) (hla : g.2.2.1 57 3 = some t) : JM mi_X13_owned 0 0 (g, d) [.ref 57, .int pq0] ((f_X13_owned (d.1 60) (d.1 t) (d.1 (t + 1)) (d.1 (t + 2)) (d.1 (t + 3)) (d.1 (t + 4)) pq0).bind (fun r9 => some (some (.int r9), (g, d)))) := by
  refine JM_of (by decide) rfl (Nat.le_of_ble_eq_true rfl) ?_
  refine J_loc (loc' := [(0, .ref 57), (1, .int pq0)]) [0, 1] rfl ?_
  obtain ⟨k, hk, hk2⟩ : ∃ k : Int32 → Option (Option Value × JH), (∀ r9, k r9 = some (some (.int r9), (g, d))) ∧ (fun r9 : Int32 => (some (some (.int r9), (g, d)) : Option (Option Value × JH))) = k := ⟨_, fun _ => rfl, rfl⟩
  rw [hk2]
  unfold f_X13_owned
  refine J_iconst (pc := 0) (v := 0) dX13_owned_0 (by decide) ?_
  refine J_istore_n (pc := 1) (loc' := [(2, .int 0), (0, .ref 57), (1, .int pq0)]) dX13_owned_1 rfl (by decide) rfl ?_
  refine J_iconst (pc := 2) (v := 0) dX13_owned_2 (by decide) ?_
  refine J_istore_n (pc := 3) (loc' := [(3, .int 0), (2, .int 0), (0, .ref 57), (1, .int pq0)]) dX13_owned_3 rfl (by decide) rfl ?_
  refine J_loc (loc' := [(0, .ref 57), (1, .int pq0), (2, .int 0), (3, .int 0)]) [2, 3, 1, 0] rfl ?_
  refine J_whL (F := f_X13_owned_w4 (d.1 60) (d.1 t) (d.1 (t + 1)) (d.1 (t + 2)) (d.1 (t + 3)) (d.1 (t + 4)) pq0 ) (hp := fun (s4 : Int32 × Int32) => (g, d)) (lc := fun (s4 : Int32 × Int32) => [(0, .ref 57), (1, .int (pq0)), (2, .int s4.1), (3, .int s4.2)]) (XJ := fun (e4 : Int32) o9 => J mi_X13_owned 0 0 0 0 (g, d) 43 [(2, .int e4)] [] o9) (fun s4 k4 hB4 hX4 => ?_) (fun e4 => ?_) _ (0, 0)
  · show J mi_X13_owned 0 0 0 0 (g, d) 4 [(0, .ref 57), (1, .int (pq0)), (2, .int s4.1), (3, .int s4.2)] [] ((f_X13_owned_w4 (d.1 60) (d.1 t) (d.1 (t + 1)) (d.1 (t + 2)) (d.1 (t + 3)) (d.1 (t + 4)) pq0 s4).bind k4)
    unfold f_X13_owned_w4
    have hX13_owned_j35_4 : ∀ (x3_35_4 : Int32) (y0_35_4 : Int32) (y1_35_4 : Int32), J mi_X13_owned 0 0 0 0 (g, d) 35 [(0, .ref 57), (1, .int (pq0)), (3, .int x3_35_4)] [.int y0_35_4, .int y1_35_4] ((f_X13_owned_j35_4 (d.1 60) (d.1 t) (d.1 (t + 1)) (d.1 (t + 2)) (d.1 (t + 3)) (d.1 (t + 4)) pq0 x3_35_4 y0_35_4 y1_35_4).bind k4) := by
      intro x3_35_4 y0_35_4 y1_35_4
      unfold f_X13_owned_j35_4
      refine J_ior (pc := 35) dX13_owned_35 ?_
      refine J_istore_n (pc := 36) (loc' := [(2, .int (y1_35_4 ||| y0_35_4)), (0, .ref 57), (1, .int (pq0)), (3, .int x3_35_4)]) dX13_owned_36 rfl (by decide) rfl ?_
      refine J_iinc (pc := 37) (v := x3_35_4 + 1) (loc' := [(3, .int (x3_35_4 + 1)), (2, .int (y1_35_4 ||| y0_35_4)), (0, .ref 57), (1, .int (pq0))]) 3 dX13_owned_37 rfl rfl (by decide) rfl ?_
      refine J_goto (pc := 40) (tgt := 4) dX13_owned_40 (by decide) ?_
      refine J_loc (loc' := [(0, .ref 57), (1, .int (pq0)), (2, .int (y1_35_4 ||| y0_35_4)), (3, .int (x3_35_4 + 1))]) [2, 3, 1, 0] rfl ?_
      exact hB4 (y1_35_4 ||| y0_35_4, x3_35_4 + 1)
    refine J_iload_n (pc := 4) 3 dX13_owned_4 rfl rfl ?_
    refine J_aload_n (pc := 5) 0 dX13_owned_5 rfl rfl ?_
    refine J_getR (pc := 6) dX13_owned_6 fl_X13_321 (h0.lt 57 (by decide)) (h0.ty 57 rfl) rfl hla ?_
    refine J_getI (pc := 9) dX13_owned_9 fl_X13_191 (ht.lt 0 (by decide)) (ht.ty 0 rfl) rfl ?_
    refine K_icmp_ge (K := (fun x => Option.bind x k4)) (pc := 12) (tgt := 43) dX13_owned_12 (by decide) (fun z12 => ?_) (fun z12 => ?_)
    · refine J_loc (loc' := [(2, .int s4.1)]) [2] rfl ?_
      exact hX4 s4.1
    · refine J_iload_n (pc := 15) 2 dX13_owned_15 rfl rfl ?_
      refine J_aload_n (pc := 16) 0 dX13_owned_16 rfl rfl ?_
      refine J_iload_n (pc := 17) 3 dX13_owned_17 rfl rfl ?_
      refine JC_pp_i (J_callV (mi := mi_X13_owned) (mj := mi_X13_owners) (pc := 18) dX13_owned_18 ml_X13_342 ok_X13_owners ov_X13_owners ⟨Nat.le_of_ble_eq_true rfl, Nat.le_of_ble_eq_true rfl⟩ rfl (h0.lt 57 (by decide)) (h0.ty 57 rfl) rfl (s_X13_owners g d t s4.2 h0 ht hla) rfl (Nat.le_of_ble_eq_true rfl)) (fun q18_4 => ?_)
      refine J_iload_n (pc := 21) 1 dX13_owned_21 rfl rfl ?_
      refine JC_pt_i (J_callS (mi := mi_X13_owned) (mj := mi_X13_bit) (pc := 22) dX13_owned_22 ml_X13_249 ok_X13_bit os_X13_bit ⟨Nat.le_of_ble_eq_true rfl, Nat.le_of_ble_eq_true rfl⟩ rfl (s_X13_bit g d q18_4 pq0) rfl (Nat.le_of_ble_eq_true rfl)) ?_
      refine K_ifeq_b (K := (fun x => Option.bind x k4)) (pc := 25) (tgt := 34) dX13_owned_25 (by decide) (fun z25 => ?_) (fun z25 => ?_)
      · refine J_iconst (pc := 34) (v := 0) dX13_owned_34 (by decide) ?_
        refine J_loc (loc' := [(0, .ref 57), (1, .int (pq0)), (3, .int s4.2)]) [0, 1, 3] rfl ?_
        exact hX13_owned_j35_4 s4.2 0 s4.1
      · refine J_iconst (pc := 28) (v := 1) dX13_owned_28 (by decide) ?_
        refine J_iload_n (pc := 29) 3 dX13_owned_29 rfl rfl ?_
        refine J_ishl (pc := 30) dX13_owned_30 ?_
        refine J_goto (pc := 31) (tgt := 35) dX13_owned_31 (by decide) ?_
        refine J_loc (loc' := [(0, .ref 57), (1, .int (pq0)), (3, .int s4.2)]) [0, 1, 3] rfl ?_
        exact hX13_owned_j35_4 s4.2 ((1 : Int32) <<< (s4.2 &&& 31)) s4.1
  · show J mi_X13_owned 0 0 0 0 (g, d) 43 [(2, .int e4)] [] (_)
    refine J_iload_n (pc := 43) 0 dX13_owned_43 rfl rfl ?_
    exact J_eqo (hk e4) (J_iret (pc := 44) dX13_owned_44 rfl)
def f_X13_hung_j30_4 (r_60 : Nat → Int32) (r_t0 : Nat → Int32) (x2_30_4 : Int32) (y0_30_4 : Int32) (y1_30_4 : Int32) : Option ((Int32 × Int32) ⊕ (Int32)) := (some (.inl (y1_30_4 + y0_30_4, x2_30_4 + 1)))
def f_X13_hung_w4 (r_60 : Nat → Int32) (r_t0 : Nat → Int32) (s4 : Int32 × Int32) : Option ((Int32 × Int32) ⊕ (Int32)) := (if (r_t0 4) ≤ s4.2 then some (.inr s4.1) else (if j_out s4.2 6 then none else if (r_60 s4.2.toNatClampNeg) ≤ 0 then (f_X13_hung_j30_4 r_60 r_t0 s4.2 0 s4.1) else (f_X13_hung_j30_4 r_60 r_t0 s4.2 1 s4.1)))
def f_X13_hung (r_60 : Nat → Int32) (r_t0 : Nat → Int32) : Option (Int32) := ((j_wh (f_X13_hung_w4 r_60 r_t0 ) j_fuel (0, 0)).bind (fun (e4 : Int32) => (some e4)))
set_option maxRecDepth 100000 in
set_option maxHeartbeats 4000000 in
theorem s_X13_hung (g : JG) (d : JD) (t : Nat) (h0 : j_sh g 0 TS_W RS_W) (ht : j_sh g t TS_ML RS_ML) (hla : g.2.2.1 57 3 = some t) : JM mi_X13_hung 0 0 (g, d) [.ref 57] ((f_X13_hung (d.1 60) (d.1 t) ).bind (fun r9 => some (some (.int r9), (g, d)))) := by
  refine JM_of (by decide) rfl (Nat.le_of_ble_eq_true rfl) ?_
  refine J_loc (loc' := [(0, .ref 57)]) [0] rfl ?_
  obtain ⟨k, hk, hk2⟩ : ∃ k : Int32 → Option (Option Value × JH), (∀ r9, k r9 = some (some (.int r9), (g, d))) ∧ (fun r9 : Int32 => (some (some (.int r9), (g, d)) : Option (Option Value × JH))) = k := ⟨_, fun _ => rfl, rfl⟩
  rw [hk2]
  unfold f_X13_hung
  refine J_iconst (pc := 0) (v := 0) dX13_hung_0 (by decide) ?_
  refine J_istore_n (pc := 1) (loc' := [(1, .int 0), (0, .ref 57)]) dX13_hung_1 rfl (by decide) rfl ?_
  refine J_iconst (pc := 2) (v := 0) dX13_hung_2 (by decide) ?_
  refine J_istore_n (pc := 3) (loc' := [(2, .int 0), (1, .int 0), (0, .ref 57)]) dX13_hung_3 rfl (by decide) rfl ?_
  refine J_loc (loc' := [(0, .ref 57), (1, .int 0), (2, .int 0)]) [2, 1, 0] rfl ?_
  refine J_whL (F := f_X13_hung_w4 (d.1 60) (d.1 t) ) (hp := fun (s4 : Int32 × Int32) => (g, d)) (lc := fun (s4 : Int32 × Int32) => [(0, .ref 57), (1, .int s4.1), (2, .int s4.2)]) (XJ := fun (e4 : Int32) o9 => J mi_X13_hung 0 0 0 0 (g, d) 38 [(1, .int e4)] [] o9) (fun s4 k4 hB4 hX4 => ?_) (fun e4 => ?_) _ (0, 0)
  · show J mi_X13_hung 0 0 0 0 (g, d) 4 [(0, .ref 57), (1, .int s4.1), (2, .int s4.2)] [] ((f_X13_hung_w4 (d.1 60) (d.1 t) s4).bind k4)
    unfold f_X13_hung_w4
    have hX13_hung_j30_4 : ∀ (x2_30_4 : Int32) (y0_30_4 : Int32) (y1_30_4 : Int32), J mi_X13_hung 0 0 0 0 (g, d) 30 [(0, .ref 57), (2, .int x2_30_4)] [.int y0_30_4, .int y1_30_4] ((f_X13_hung_j30_4 (d.1 60) (d.1 t) x2_30_4 y0_30_4 y1_30_4).bind k4) := by
      intro x2_30_4 y0_30_4 y1_30_4
      unfold f_X13_hung_j30_4
      refine J_iadd (pc := 30) dX13_hung_30 ?_
      refine J_istore_n (pc := 31) (loc' := [(1, .int (y1_30_4 + y0_30_4)), (0, .ref 57), (2, .int x2_30_4)]) dX13_hung_31 rfl (by decide) rfl ?_
      refine J_iinc (pc := 32) (v := x2_30_4 + 1) (loc' := [(2, .int (x2_30_4 + 1)), (1, .int (y1_30_4 + y0_30_4)), (0, .ref 57)]) 2 dX13_hung_32 rfl rfl (by decide) rfl ?_
      refine J_goto (pc := 35) (tgt := 4) dX13_hung_35 (by decide) ?_
      refine J_loc (loc' := [(0, .ref 57), (1, .int (y1_30_4 + y0_30_4)), (2, .int (x2_30_4 + 1))]) [2, 1, 0] rfl ?_
      exact hB4 (y1_30_4 + y0_30_4, x2_30_4 + 1)
    refine J_iload_n (pc := 4) 2 dX13_hung_4 rfl rfl ?_
    refine J_aload_n (pc := 5) 0 dX13_hung_5 rfl rfl ?_
    refine J_getR (pc := 6) dX13_hung_6 fl_X13_321 (h0.lt 57 (by decide)) (h0.ty 57 rfl) rfl hla ?_
    refine J_getI (pc := 9) dX13_hung_9 fl_X13_191 (ht.lt 0 (by decide)) (ht.ty 0 rfl) rfl ?_
    refine K_icmp_ge (K := (fun x => Option.bind x k4)) (pc := 12) (tgt := 38) dX13_hung_12 (by decide) (fun z12 => ?_) (fun z12 => ?_)
    · refine J_loc (loc' := [(1, .int s4.1)]) [1] rfl ?_
      exact hX4 s4.1
    · refine J_iload_n (pc := 15) 1 dX13_hung_15 rfl rfl ?_
      refine J_aload_n (pc := 16) 0 dX13_hung_16 rfl rfl ?_
      refine J_getR (pc := 17) dX13_hung_17 fl_X13_21 (h0.lt 57 (by decide)) (h0.ty 57 rfl) rfl (h0.rf 57 rfl) ?_
      refine J_iload_n (pc := 20) 2 dX13_hung_20 rfl rfl ?_
      refine J_guard (fun z21 => ?_)
      refine J_iald (pc := 21) dX13_hung_21 (h0.lt 60 (by decide)) (h0.ty 60 rfl) z21 ?_
      refine K_if_le (K := (fun x => Option.bind x k4)) (pc := 22) (tgt := 29) dX13_hung_22 (by decide) (fun z22 => ?_) (fun z22 => ?_)
      · refine J_iconst (pc := 29) (v := 0) dX13_hung_29 (by decide) ?_
        refine J_loc (loc' := [(0, .ref 57), (2, .int s4.2)]) [0, 2] rfl ?_
        exact hX13_hung_j30_4 s4.2 0 s4.1
      · refine J_iconst (pc := 25) (v := 1) dX13_hung_25 (by decide) ?_
        refine J_goto (pc := 26) (tgt := 30) dX13_hung_26 (by decide) ?_
        refine J_loc (loc' := [(0, .ref 57), (2, .int s4.2)]) [0, 2] rfl ?_
        exact hX13_hung_j30_4 s4.2 1 s4.1
  · show J mi_X13_hung 0 0 0 0 (g, d) 38 [(1, .int e4)] [] (_)
    refine J_iload_n (pc := 38) 0 dX13_hung_38 rfl rfl ?_
    exact J_eqo (hk e4) (J_iret (pc := 39) dX13_hung_39 rfl)
def f_X13_hooks_j36_10 (r_59 : Nat → Int32) (r_t0 : Nat → Int32) (x2_36_10 : Int32) (y0_36_10 : Int32) (y1_36_10 : Int32) : Option ((Int32 × Int32) ⊕ (Int32)) := (some (.inl (y1_36_10 + y0_36_10, x2_36_10 + 1)))
def f_X13_hooks_w10 (r_59 : Nat → Int32) (r_t0 : Nat → Int32) (s10 : Int32 × Int32) : Option ((Int32 × Int32) ⊕ (Int32)) := (if (r_t0 4) ≤ s10.2 then some (.inr s10.1) else (if j_out s10.2 9 then none else if (r_59 s10.2.toNatClampNeg) ≤ 0 then (f_X13_hooks_j36_10 r_59 r_t0 s10.2 0 s10.1) else (f_X13_hooks_j36_10 r_59 r_t0 s10.2 1 s10.1)))
def f_X13_hooks (r_59 : Nat → Int32) (r_t0 : Nat → Int32) : Option (Int32) := ((j_wh (f_X13_hooks_w10 r_59 r_t0 ) j_fuel (r_59 6, 0)).bind (fun (e10 : Int32) => (some e10)))
set_option maxRecDepth 100000 in
set_option maxHeartbeats 4000000 in
theorem s_X13_hooks (g : JG) (d : JD) (t : Nat) (h0 : j_sh g 0 TS_W RS_W) (ht : j_sh g t TS_ML RS_ML) (hla : g.2.2.1 57 3 = some t) : JM mi_X13_hooks 0 0 (g, d) [.ref 57] ((f_X13_hooks (d.1 59) (d.1 t) ).bind (fun r9 => some (some (.int r9), (g, d)))) := by
  refine JM_of (by decide) rfl (Nat.le_of_ble_eq_true rfl) ?_
  refine J_loc (loc' := [(0, .ref 57)]) [0] rfl ?_
  obtain ⟨k, hk, hk2⟩ : ∃ k : Int32 → Option (Option Value × JH), (∀ r9, k r9 = some (some (.int r9), (g, d))) ∧ (fun r9 : Int32 => (some (some (.int r9), (g, d)) : Option (Option Value × JH))) = k := ⟨_, fun _ => rfl, rfl⟩
  rw [hk2]
  unfold f_X13_hooks
  refine J_aload_n (pc := 0) 0 dX13_hooks_0 rfl rfl ?_
  refine J_getR (pc := 1) dX13_hooks_1 fl_X13_17 (h0.lt 57 (by decide)) (h0.ty 57 rfl) rfl (h0.rf 56 rfl) ?_
  refine J_bipush (pc := 4) (v := 6) dX13_hooks_4 (by decide) ?_
  refine J_iald (pc := 6) dX13_hooks_6 (h0.lt 59 (by decide)) (h0.ty 59 rfl) (show vp_in _ _ from by unfold vp_in; decide) ?_
  refine J_val (y := (d.1 59) 6) rfl ?_
  refine J_istore_n (pc := 7) (loc' := [(1, .int ((d.1 59) 6)), (0, .ref 57)]) dX13_hooks_7 rfl (by decide) rfl ?_
  refine J_iconst (pc := 8) (v := 0) dX13_hooks_8 (by decide) ?_
  refine J_istore_n (pc := 9) (loc' := [(2, .int 0), (1, .int ((d.1 59) 6)), (0, .ref 57)]) dX13_hooks_9 rfl (by decide) rfl ?_
  refine J_loc (loc' := [(0, .ref 57), (1, .int ((d.1 59) 6)), (2, .int 0)]) [2, 1, 0] rfl ?_
  refine J_whL (F := f_X13_hooks_w10 (d.1 59) (d.1 t) ) (hp := fun (s10 : Int32 × Int32) => (g, d)) (lc := fun (s10 : Int32 × Int32) => [(0, .ref 57), (1, .int s10.1), (2, .int s10.2)]) (XJ := fun (e10 : Int32) o9 => J mi_X13_hooks 0 0 0 0 (g, d) 44 [(1, .int e10)] [] o9) (fun s10 k10 hB10 hX10 => ?_) (fun e10 => ?_) _ ((d.1 59) 6, 0)
  · show J mi_X13_hooks 0 0 0 0 (g, d) 10 [(0, .ref 57), (1, .int s10.1), (2, .int s10.2)] [] ((f_X13_hooks_w10 (d.1 59) (d.1 t) s10).bind k10)
    unfold f_X13_hooks_w10
    have hX13_hooks_j36_10 : ∀ (x2_36_10 : Int32) (y0_36_10 : Int32) (y1_36_10 : Int32), J mi_X13_hooks 0 0 0 0 (g, d) 36 [(0, .ref 57), (2, .int x2_36_10)] [.int y0_36_10, .int y1_36_10] ((f_X13_hooks_j36_10 (d.1 59) (d.1 t) x2_36_10 y0_36_10 y1_36_10).bind k10) := by
      intro x2_36_10 y0_36_10 y1_36_10
      unfold f_X13_hooks_j36_10
      refine J_iadd (pc := 36) dX13_hooks_36 ?_
      refine J_istore_n (pc := 37) (loc' := [(1, .int (y1_36_10 + y0_36_10)), (0, .ref 57), (2, .int x2_36_10)]) dX13_hooks_37 rfl (by decide) rfl ?_
      refine J_iinc (pc := 38) (v := x2_36_10 + 1) (loc' := [(2, .int (x2_36_10 + 1)), (1, .int (y1_36_10 + y0_36_10)), (0, .ref 57)]) 2 dX13_hooks_38 rfl rfl (by decide) rfl ?_
      refine J_goto (pc := 41) (tgt := 10) dX13_hooks_41 (by decide) ?_
      refine J_loc (loc' := [(0, .ref 57), (1, .int (y1_36_10 + y0_36_10)), (2, .int (x2_36_10 + 1))]) [2, 1, 0] rfl ?_
      exact hB10 (y1_36_10 + y0_36_10, x2_36_10 + 1)
    refine J_iload_n (pc := 10) 2 dX13_hooks_10 rfl rfl ?_
    refine J_aload_n (pc := 11) 0 dX13_hooks_11 rfl rfl ?_
    refine J_getR (pc := 12) dX13_hooks_12 fl_X13_321 (h0.lt 57 (by decide)) (h0.ty 57 rfl) rfl hla ?_
    refine J_getI (pc := 15) dX13_hooks_15 fl_X13_191 (ht.lt 0 (by decide)) (ht.ty 0 rfl) rfl ?_
    refine K_icmp_ge (K := (fun x => Option.bind x k10)) (pc := 18) (tgt := 44) dX13_hooks_18 (by decide) (fun z18 => ?_) (fun z18 => ?_)
    · refine J_loc (loc' := [(1, .int s10.1)]) [1] rfl ?_
      exact hX10 s10.1
    · refine J_iload_n (pc := 21) 1 dX13_hooks_21 rfl rfl ?_
      refine J_aload_n (pc := 22) 0 dX13_hooks_22 rfl rfl ?_
      refine J_getR (pc := 23) dX13_hooks_23 fl_X13_17 (h0.lt 57 (by decide)) (h0.ty 57 rfl) rfl (h0.rf 56 rfl) ?_
      refine J_iload_n (pc := 26) 2 dX13_hooks_26 rfl rfl ?_
      refine J_guard (fun z27 => ?_)
      refine J_iald (pc := 27) dX13_hooks_27 (h0.lt 59 (by decide)) (h0.ty 59 rfl) z27 ?_
      refine K_if_le (K := (fun x => Option.bind x k10)) (pc := 28) (tgt := 35) dX13_hooks_28 (by decide) (fun z28 => ?_) (fun z28 => ?_)
      · refine J_iconst (pc := 35) (v := 0) dX13_hooks_35 (by decide) ?_
        refine J_loc (loc' := [(0, .ref 57), (2, .int s10.2)]) [0, 2] rfl ?_
        exact hX13_hooks_j36_10 s10.2 0 s10.1
      · refine J_iconst (pc := 31) (v := 1) dX13_hooks_31 (by decide) ?_
        refine J_goto (pc := 32) (tgt := 36) dX13_hooks_32 (by decide) ?_
        refine J_loc (loc' := [(0, .ref 57), (2, .int s10.2)]) [0, 2] rfl ?_
        exact hX13_hooks_j36_10 s10.2 1 s10.1
  · show J mi_X13_hooks 0 0 0 0 (g, d) 44 [(1, .int e10)] [] (_)
    refine J_iload_n (pc := 44) 0 dX13_hooks_44 rfl rfl ?_
    exact J_eqo (hk e10) (J_iret (pc := 45) dX13_hooks_45 rfl)
def f_X13_gate_j22 (t : Nat) (d22 : JD) : Option (Int32 × JD) := (j_let (f_X13_refused d22 1) (fun q24 => some (q24.1, q24.2)))
def f_X13_gate (t : Nat) (d : JD) (pq0 : Int32) (pq1 : Int32) : Option (Int32 × JD) := (if (f_X13_isGate ((j_sI d 57 0 0).1 t) pq0) = true then (if (f_X13_in pq1 0 5) = true then ((f_X13_works (j_sI d 57 0 0)).bind (fun q29 => if pq1 = 0 then (if j_out pq0 6 then none else j_let (f_X13_good q29 ((q29.1 (t + 3)) pq0.toNatClampNeg)) (fun q78 => some (q78.1, q78.2))) else if pq1 = 1 then (if j_out pq0 6 then none else j_let (f_X13_good q29 ((q29.1 (t + 4)) pq0.toNatClampNeg)) (fun q92 => some (q92.1, q92.2))) else if pq1 = 2 then (if j_out pq0 6 then none else j_let (f_X13_good q29 ((q29.1 (t + 5)) pq0.toNatClampNeg)) (fun q106 => some (q106.1, q106.2))) else if pq1 = 3 then (if j_out pq0 9 then none else j_let (f_X13_good q29 ((q29.1 59) pq0.toNatClampNeg)) (fun q117 => some (q117.1, q117.2))) else if pq1 = 4 then ((f_X13_owners (q29.1 60) (q29.1 (t + 1)) (q29.1 (t + 2)) (q29.1 (t + 3)) (q29.1 (t + 4)) pq0).bind (fun q124 => j_let (f_X13_good q29 q124) (fun q127 => some (q127.1, q127.2)))) else (if j_out pq0 6 then none else j_let (f_X13_good q29 ((q29.1 (t + 7)) pq0.toNatClampNeg)) (fun q141 => some (q141.1, q141.2))))) else f_X13_gate_j22 t (j_sI d 57 0 0) ) else f_X13_gate_j22 t (j_sI d 57 0 0) )
set_option maxRecDepth 100000 in
set_option maxHeartbeats 4000000 in
theorem s_X13_gate (g : JG) (d : JD) (t : Nat) (pq0 : Int32) (pq1 : Int32) (h0 : j_sh g 0 TS_W RS_W) (ht : j_sh g t TS_ML RS_ML) (hla : g.2.2.1 57 3 = some t) : JM mi_X13_gate 0 0 (g, d) [.ref 57, .int pq0, .int pq1] ((f_X13_gate t d pq0 pq1).bind (fun r9 => some (some (.int r9.1), (g, r9.2)))) := by
  refine JM_of (by decide) rfl (Nat.le_of_ble_eq_true rfl) ?_
  refine J_loc (loc' := [(0, .ref 57), (1, .int pq0), (2, .int pq1)]) [0, 1, 2] rfl ?_
  obtain ⟨k, hk, hk2⟩ : ∃ k : Int32 × JD → Option (Option Value × JH), (∀ r9, k r9 = some (some (.int r9.1), (g, r9.2))) ∧ (fun r9 : Int32 × JD => (some (some (.int r9.1), (g, r9.2)) : Option (Option Value × JH))) = k := ⟨_, fun _ => rfl, rfl⟩
  rw [hk2]
  unfold f_X13_gate
  have hX13_gate_j22 : ∀ (d22 : JD) , J mi_X13_gate 0 0 0 0 (g, d22) 22 [(0, .ref 57)] [] ((f_X13_gate_j22 t d22 ).bind k) := by
    intro d22 
    unfold f_X13_gate_j22
    refine J_aload_n (pc := 22) 0 dX13_gate_22 rfl rfl ?_
    refine J_iconst (pc := 23) (v := 1) dX13_gate_23 (by decide) ?_
    refine JC_lt_i (K := (fun x => Option.bind x k)) (J_callV (mi := mi_X13_gate) (mj := mi_X13_refused) (pc := 24) dX13_gate_24 ml_X13_48 ok_X13_refused ov_X13_refused ⟨Nat.le_of_ble_eq_true rfl, Nat.le_of_ble_eq_true rfl⟩ rfl (h0.lt 57 (by decide)) (h0.ty 57 rfl) rfl (s_X13_refused g d22 1 h0) rfl (Nat.le_of_ble_eq_true rfl)) (fun q24 eq24 => ?_)
    exact J_eqo (hk (q24.1, q24.2)) (J_iret (pc := 27) dX13_gate_27 rfl)
  refine J_aload_n (pc := 0) 0 dX13_gate_0 rfl rfl ?_
  refine J_iconst (pc := 1) (v := 0) dX13_gate_1 (by decide) ?_
  refine J_putI (pc := 2) dX13_gate_2 fl_X13_42 ft_12_0 (h0.lt 57 (by decide)) (h0.ty 57 rfl) rfl rfl rfl ?_
  refine J_aload_n (pc := 5) 0 dX13_gate_5 rfl rfl ?_
  refine J_iload_n (pc := 6) 1 dX13_gate_6 rfl rfl ?_
  refine JC_pt_i (J_callV (mi := mi_X13_gate) (mj := mi_X13_isGate) (pc := 7) dX13_gate_7 ml_X13_345 ok_X13_isGate ov_X13_isGate ⟨Nat.le_of_ble_eq_true rfl, Nat.le_of_ble_eq_true rfl⟩ rfl (h0.lt 57 (by decide)) (h0.ty 57 rfl) rfl (s_X13_isGate g (j_sI d 57 0 0) t pq0 h0 ht hla) rfl (Nat.le_of_ble_eq_true rfl)) ?_
  refine K_ifeq_b (K := (fun x => Option.bind x k)) (pc := 10) (tgt := 22) dX13_gate_10 (by decide) (fun z10 => ?_) (fun z10 => ?_)
  · refine J_loc (loc' := [(0, .ref 57)]) [0] rfl ?_
    exact hX13_gate_j22 (j_sI d 57 0 0) 
  · refine J_iload_n (pc := 13) 2 dX13_gate_13 rfl rfl ?_
    refine J_iconst (pc := 14) (v := 0) dX13_gate_14 (by decide) ?_
    refine J_iconst (pc := 15) (v := 5) dX13_gate_15 (by decide) ?_
    refine JC_pt_i (J_callS (mi := mi_X13_gate) (mj := mi_X13_in) (pc := 16) dX13_gate_16 ml_X13_121 ok_X13_in os_X13_in ⟨Nat.le_of_ble_eq_true rfl, Nat.le_of_ble_eq_true rfl⟩ rfl (s_X13_in g (j_sI d 57 0 0) pq1 0 5) rfl (Nat.le_of_ble_eq_true rfl)) ?_
    refine K_ifne_b (K := (fun x => Option.bind x k)) (pc := 19) (tgt := 28) dX13_gate_19 (by decide) (fun z19 => ?_) (fun z19 => ?_)
    · refine J_aload_n (pc := 28) 0 dX13_gate_28 rfl rfl ?_
      refine JC_pe_v (J_callV (mi := mi_X13_gate) (mj := mi_X13_works) (pc := 29) dX13_gate_29 ml_X13_348 ok_X13_works ov_X13_works ⟨Nat.le_of_ble_eq_true rfl, Nat.le_of_ble_eq_true rfl⟩ rfl (h0.lt 57 (by decide)) (h0.ty 57 rfl) rfl (s_X13_works g (j_sI d 57 0 0) h0) rfl (Nat.le_of_ble_eq_true rfl)) (fun q29 => ?_)
      refine J_iload_n (pc := 32) 2 dX13_gate_32 rfl rfl ?_
      refine J_split (K := (fun x => Option.bind x k)) (c := pq1 = 0) (fun z33_0 => ?_) (fun z33_0 => ?_)
      · refine J_val z33_0 ?_
        refine J_tsIn (pc := 33) (tgt := 68) dX13_gate_33 (by decide) (by decide) rfl (by decide) ?_
        refine J_aload_n (pc := 68) 0 dX13_gate_68 rfl rfl ?_
        refine J_aload_n (pc := 69) 0 dX13_gate_69 rfl rfl ?_
        refine J_getR (pc := 70) dX13_gate_70 fl_X13_321 (h0.lt 57 (by decide)) (h0.ty 57 rfl) rfl hla ?_
        refine J_getR (pc := 73) dX13_gate_73 fl_X13_275 (ht.lt 0 (by decide)) (ht.ty 0 rfl) rfl (ht.rf 2 rfl) ?_
        refine J_iload_n (pc := 76) 1 dX13_gate_76 rfl rfl ?_
        refine J_guard (fun z77 => ?_)
        refine J_iald (pc := 77) dX13_gate_77 (ht.lt 3 (by decide)) (ht.ty 3 rfl) z77 ?_
        refine JC_lt_i (K := (fun x => Option.bind x k)) (J_callV (mi := mi_X13_gate) (mj := mi_X13_good) (pc := 78) dX13_gate_78 ml_X13_52 ok_X13_good ov_X13_good ⟨Nat.le_of_ble_eq_true rfl, Nat.le_of_ble_eq_true rfl⟩ rfl (h0.lt 57 (by decide)) (h0.ty 57 rfl) rfl (s_X13_good g q29 ((q29.1 (t + 3)) pq0.toNatClampNeg) h0) rfl (Nat.le_of_ble_eq_true rfl)) (fun q78 eq78 => ?_)
        exact J_eqo (hk (q78.1, q78.2)) (J_iret (pc := 81) dX13_gate_81 rfl)
      refine J_split (K := (fun x => Option.bind x k)) (c := pq1 = 1) (fun z33_1 => ?_) (fun z33_1 => ?_)
      · refine J_val z33_1 ?_
        refine J_tsIn (pc := 33) (tgt := 82) dX13_gate_33 (by decide) (by decide) rfl (by decide) ?_
        refine J_aload_n (pc := 82) 0 dX13_gate_82 rfl rfl ?_
        refine J_aload_n (pc := 83) 0 dX13_gate_83 rfl rfl ?_
        refine J_getR (pc := 84) dX13_gate_84 fl_X13_321 (h0.lt 57 (by decide)) (h0.ty 57 rfl) rfl hla ?_
        refine J_getR (pc := 87) dX13_gate_87 fl_X13_278 (ht.lt 0 (by decide)) (ht.ty 0 rfl) rfl (ht.rf 3 rfl) ?_
        refine J_iload_n (pc := 90) 1 dX13_gate_90 rfl rfl ?_
        refine J_guard (fun z91 => ?_)
        refine J_iald (pc := 91) dX13_gate_91 (ht.lt 4 (by decide)) (ht.ty 4 rfl) z91 ?_
        refine JC_lt_i (K := (fun x => Option.bind x k)) (J_callV (mi := mi_X13_gate) (mj := mi_X13_good) (pc := 92) dX13_gate_92 ml_X13_52 ok_X13_good ov_X13_good ⟨Nat.le_of_ble_eq_true rfl, Nat.le_of_ble_eq_true rfl⟩ rfl (h0.lt 57 (by decide)) (h0.ty 57 rfl) rfl (s_X13_good g q29 ((q29.1 (t + 4)) pq0.toNatClampNeg) h0) rfl (Nat.le_of_ble_eq_true rfl)) (fun q92 eq92 => ?_)
        exact J_eqo (hk (q92.1, q92.2)) (J_iret (pc := 95) dX13_gate_95 rfl)
      refine J_split (K := (fun x => Option.bind x k)) (c := pq1 = 2) (fun z33_2 => ?_) (fun z33_2 => ?_)
      · refine J_val z33_2 ?_
        refine J_tsIn (pc := 33) (tgt := 96) dX13_gate_33 (by decide) (by decide) rfl (by decide) ?_
        refine J_aload_n (pc := 96) 0 dX13_gate_96 rfl rfl ?_
        refine J_aload_n (pc := 97) 0 dX13_gate_97 rfl rfl ?_
        refine J_getR (pc := 98) dX13_gate_98 fl_X13_321 (h0.lt 57 (by decide)) (h0.ty 57 rfl) rfl hla ?_
        refine J_getR (pc := 101) dX13_gate_101 fl_X13_280 (ht.lt 0 (by decide)) (ht.ty 0 rfl) rfl (ht.rf 4 rfl) ?_
        refine J_iload_n (pc := 104) 1 dX13_gate_104 rfl rfl ?_
        refine J_guard (fun z105 => ?_)
        refine J_iald (pc := 105) dX13_gate_105 (ht.lt 5 (by decide)) (ht.ty 5 rfl) z105 ?_
        refine JC_lt_i (K := (fun x => Option.bind x k)) (J_callV (mi := mi_X13_gate) (mj := mi_X13_good) (pc := 106) dX13_gate_106 ml_X13_52 ok_X13_good ov_X13_good ⟨Nat.le_of_ble_eq_true rfl, Nat.le_of_ble_eq_true rfl⟩ rfl (h0.lt 57 (by decide)) (h0.ty 57 rfl) rfl (s_X13_good g q29 ((q29.1 (t + 5)) pq0.toNatClampNeg) h0) rfl (Nat.le_of_ble_eq_true rfl)) (fun q106 eq106 => ?_)
        exact J_eqo (hk (q106.1, q106.2)) (J_iret (pc := 109) dX13_gate_109 rfl)
      refine J_split (K := (fun x => Option.bind x k)) (c := pq1 = 3) (fun z33_3 => ?_) (fun z33_3 => ?_)
      · refine J_val z33_3 ?_
        refine J_tsIn (pc := 33) (tgt := 110) dX13_gate_33 (by decide) (by decide) rfl (by decide) ?_
        refine J_aload_n (pc := 110) 0 dX13_gate_110 rfl rfl ?_
        refine J_aload_n (pc := 111) 0 dX13_gate_111 rfl rfl ?_
        refine J_getR (pc := 112) dX13_gate_112 fl_X13_17 (h0.lt 57 (by decide)) (h0.ty 57 rfl) rfl (h0.rf 56 rfl) ?_
        refine J_iload_n (pc := 115) 1 dX13_gate_115 rfl rfl ?_
        refine J_guard (fun z116 => ?_)
        refine J_iald (pc := 116) dX13_gate_116 (h0.lt 59 (by decide)) (h0.ty 59 rfl) z116 ?_
        refine JC_lt_i (K := (fun x => Option.bind x k)) (J_callV (mi := mi_X13_gate) (mj := mi_X13_good) (pc := 117) dX13_gate_117 ml_X13_52 ok_X13_good ov_X13_good ⟨Nat.le_of_ble_eq_true rfl, Nat.le_of_ble_eq_true rfl⟩ rfl (h0.lt 57 (by decide)) (h0.ty 57 rfl) rfl (s_X13_good g q29 ((q29.1 59) pq0.toNatClampNeg) h0) rfl (Nat.le_of_ble_eq_true rfl)) (fun q117 eq117 => ?_)
        exact J_eqo (hk (q117.1, q117.2)) (J_iret (pc := 120) dX13_gate_120 rfl)
      refine J_split (K := (fun x => Option.bind x k)) (c := pq1 = 4) (fun z33_4 => ?_) (fun z33_4 => ?_)
      · refine J_val z33_4 ?_
        refine J_tsIn (pc := 33) (tgt := 121) dX13_gate_33 (by decide) (by decide) rfl (by decide) ?_
        refine J_aload_n (pc := 121) 0 dX13_gate_121 rfl rfl ?_
        refine J_aload_n (pc := 122) 0 dX13_gate_122 rfl rfl ?_
        refine J_iload_n (pc := 123) 1 dX13_gate_123 rfl rfl ?_
        refine JC_pp_i (J_callV (mi := mi_X13_gate) (mj := mi_X13_owners) (pc := 124) dX13_gate_124 ml_X13_342 ok_X13_owners ov_X13_owners ⟨Nat.le_of_ble_eq_true rfl, Nat.le_of_ble_eq_true rfl⟩ rfl (h0.lt 57 (by decide)) (h0.ty 57 rfl) rfl (s_X13_owners g q29 t pq0 h0 ht hla) rfl (Nat.le_of_ble_eq_true rfl)) (fun q124 => ?_)
        refine JC_lt_i (K := (fun x => Option.bind x k)) (J_callV (mi := mi_X13_gate) (mj := mi_X13_good) (pc := 127) dX13_gate_127 ml_X13_52 ok_X13_good ov_X13_good ⟨Nat.le_of_ble_eq_true rfl, Nat.le_of_ble_eq_true rfl⟩ rfl (h0.lt 57 (by decide)) (h0.ty 57 rfl) rfl (s_X13_good g q29 q124 h0) rfl (Nat.le_of_ble_eq_true rfl)) (fun q127 eq127 => ?_)
        exact J_eqo (hk (q127.1, q127.2)) (J_iret (pc := 130) dX13_gate_130 rfl)
      · have zz33 : (pq1 : Int32).toInt < 0 ∨ 4 < (pq1 : Int32).toInt := by
          have q0 := j_ne_toInt (n := 0) (by decide) z33_0
          have q1 := j_ne_toInt (n := 1) (by decide) z33_1
          have q2 := j_ne_toInt (n := 2) (by decide) z33_2
          have q3 := j_ne_toInt (n := 3) (by decide) z33_3
          have q4 := j_ne_toInt (n := 4) (by decide) z33_4
          omega
        refine J_tsOut (pc := 33) (tgt := 131) dX13_gate_33 zz33 (by decide) ?_
        refine J_aload_n (pc := 131) 0 dX13_gate_131 rfl rfl ?_
        refine J_aload_n (pc := 132) 0 dX13_gate_132 rfl rfl ?_
        refine J_getR (pc := 133) dX13_gate_133 fl_X13_321 (h0.lt 57 (by decide)) (h0.ty 57 rfl) rfl hla ?_
        refine J_getR (pc := 136) dX13_gate_136 fl_X13_288 (ht.lt 0 (by decide)) (ht.ty 0 rfl) rfl (ht.rf 6 rfl) ?_
        refine J_iload_n (pc := 139) 1 dX13_gate_139 rfl rfl ?_
        refine J_guard (fun z140 => ?_)
        refine J_iald (pc := 140) dX13_gate_140 (ht.lt 7 (by decide)) (ht.ty 7 rfl) z140 ?_
        refine JC_lt_i (K := (fun x => Option.bind x k)) (J_callV (mi := mi_X13_gate) (mj := mi_X13_good) (pc := 141) dX13_gate_141 ml_X13_52 ok_X13_good ov_X13_good ⟨Nat.le_of_ble_eq_true rfl, Nat.le_of_ble_eq_true rfl⟩ rfl (h0.lt 57 (by decide)) (h0.ty 57 rfl) rfl (s_X13_good g q29 ((q29.1 (t + 7)) pq0.toNatClampNeg) h0) rfl (Nat.le_of_ble_eq_true rfl)) (fun q141 eq141 => ?_)
        exact J_eqo (hk (q141.1, q141.2)) (J_iret (pc := 144) dX13_gate_144 rfl)
    · refine J_loc (loc' := [(0, .ref 57)]) [0] rfl ?_
      exact hX13_gate_j22 (j_sI d 57 0 0) 
def f_X13_ownedAlone_j34_4 (r_60 : Nat → Int32) (r_t0 : Nat → Int32) (r_t1 : Nat → Int32) (r_t2 : Nat → Int32) (r_t3 : Nat → Int32) (r_t4 : Nat → Int32) (c1_4 : Int32) (x3_34_4 : Int32) (y0_34_4 : Int32) (y1_34_4 : Int32) : Option ((Int32 × Int32) ⊕ (Int32)) := (some (.inl (y1_34_4 ||| y0_34_4, x3_34_4 + 1)))
def f_X13_ownedAlone_w4 (r_60 : Nat → Int32) (r_t0 : Nat → Int32) (r_t1 : Nat → Int32) (r_t2 : Nat → Int32) (r_t3 : Nat → Int32) (r_t4 : Nat → Int32) (c1_4 : Int32) (s4 : Int32 × Int32) : Option ((Int32 × Int32) ⊕ (Int32)) := (if (r_t0 4) ≤ s4.2 then some (.inr s4.1) else ((f_X13_owners r_60 r_t1 r_t2 r_t3 r_t4 s4.2).bind (fun q18_4 => if q18_4 = ((1 : Int32) <<< ((c1_4) &&& 31)) then (f_X13_ownedAlone_j34_4 r_60 r_t0 r_t1 r_t2 r_t3 r_t4 (c1_4) s4.2 ((1 : Int32) <<< (s4.2 &&& 31)) s4.1) else (f_X13_ownedAlone_j34_4 r_60 r_t0 r_t1 r_t2 r_t3 r_t4 (c1_4) s4.2 0 s4.1))))
def f_X13_ownedAlone (r_60 : Nat → Int32) (r_t0 : Nat → Int32) (r_t1 : Nat → Int32) (r_t2 : Nat → Int32) (r_t3 : Nat → Int32) (r_t4 : Nat → Int32) (pq0 : Int32) : Option (Int32) := ((j_wh (f_X13_ownedAlone_w4 r_60 r_t0 r_t1 r_t2 r_t3 r_t4 pq0 ) j_fuel (0, 0)).bind (fun (e4 : Int32) => (some e4)))
set_option maxRecDepth 100000 in
set_option maxHeartbeats 4000000 in
theorem s_X13_ownedAlone (g : JG) (d : JD) (t : Nat) (pq0 : Int32) (h0 : j_sh g 0 TS_W RS_W) (ht : j_sh g t TS_ML RS_ML) (hla : g.2.2.1 57 3 = some t) : JM mi_X13_ownedAlone 0 0 (g, d) [.ref 57, .int pq0] ((f_X13_ownedAlone (d.1 60) (d.1 t) (d.1 (t + 1)) (d.1 (t + 2)) (d.1 (t + 3)) (d.1 (t + 4)) pq0).bind (fun r9 => some (some (.int r9), (g, d)))) := by
  refine JM_of (by decide) rfl (Nat.le_of_ble_eq_true rfl) ?_
  refine J_loc (loc' := [(0, .ref 57), (1, .int pq0)]) [0, 1] rfl ?_
  obtain ⟨k, hk, hk2⟩ : ∃ k : Int32 → Option (Option Value × JH), (∀ r9, k r9 = some (some (.int r9), (g, d))) ∧ (fun r9 : Int32 => (some (some (.int r9), (g, d)) : Option (Option Value × JH))) = k := ⟨_, fun _ => rfl, rfl⟩
  rw [hk2]
  unfold f_X13_ownedAlone
  refine J_iconst (pc := 0) (v := 0) dX13_ownedAlone_0 (by decide) ?_
  refine J_istore_n (pc := 1) (loc' := [(2, .int 0), (0, .ref 57), (1, .int pq0)]) dX13_ownedAlone_1 rfl (by decide) rfl ?_
  refine J_iconst (pc := 2) (v := 0) dX13_ownedAlone_2 (by decide) ?_
  refine J_istore_n (pc := 3) (loc' := [(3, .int 0), (2, .int 0), (0, .ref 57), (1, .int pq0)]) dX13_ownedAlone_3 rfl (by decide) rfl ?_
  refine J_loc (loc' := [(0, .ref 57), (1, .int pq0), (2, .int 0), (3, .int 0)]) [2, 3, 1, 0] rfl ?_
  refine J_whL (F := f_X13_ownedAlone_w4 (d.1 60) (d.1 t) (d.1 (t + 1)) (d.1 (t + 2)) (d.1 (t + 3)) (d.1 (t + 4)) pq0 ) (hp := fun (s4 : Int32 × Int32) => (g, d)) (lc := fun (s4 : Int32 × Int32) => [(0, .ref 57), (1, .int (pq0)), (2, .int s4.1), (3, .int s4.2)]) (XJ := fun (e4 : Int32) o9 => J mi_X13_ownedAlone 0 0 0 0 (g, d) 42 [(2, .int e4)] [] o9) (fun s4 k4 hB4 hX4 => ?_) (fun e4 => ?_) _ (0, 0)
  · show J mi_X13_ownedAlone 0 0 0 0 (g, d) 4 [(0, .ref 57), (1, .int (pq0)), (2, .int s4.1), (3, .int s4.2)] [] ((f_X13_ownedAlone_w4 (d.1 60) (d.1 t) (d.1 (t + 1)) (d.1 (t + 2)) (d.1 (t + 3)) (d.1 (t + 4)) pq0 s4).bind k4)
    unfold f_X13_ownedAlone_w4
    have hX13_ownedAlone_j34_4 : ∀ (x3_34_4 : Int32) (y0_34_4 : Int32) (y1_34_4 : Int32), J mi_X13_ownedAlone 0 0 0 0 (g, d) 34 [(0, .ref 57), (1, .int (pq0)), (3, .int x3_34_4)] [.int y0_34_4, .int y1_34_4] ((f_X13_ownedAlone_j34_4 (d.1 60) (d.1 t) (d.1 (t + 1)) (d.1 (t + 2)) (d.1 (t + 3)) (d.1 (t + 4)) pq0 x3_34_4 y0_34_4 y1_34_4).bind k4) := by
      intro x3_34_4 y0_34_4 y1_34_4
      unfold f_X13_ownedAlone_j34_4
      refine J_ior (pc := 34) dX13_ownedAlone_34 ?_
      refine J_istore_n (pc := 35) (loc' := [(2, .int (y1_34_4 ||| y0_34_4)), (0, .ref 57), (1, .int (pq0)), (3, .int x3_34_4)]) dX13_ownedAlone_35 rfl (by decide) rfl ?_
      refine J_iinc (pc := 36) (v := x3_34_4 + 1) (loc' := [(3, .int (x3_34_4 + 1)), (2, .int (y1_34_4 ||| y0_34_4)), (0, .ref 57), (1, .int (pq0))]) 3 dX13_ownedAlone_36 rfl rfl (by decide) rfl ?_
      refine J_goto (pc := 39) (tgt := 4) dX13_ownedAlone_39 (by decide) ?_
      refine J_loc (loc' := [(0, .ref 57), (1, .int (pq0)), (2, .int (y1_34_4 ||| y0_34_4)), (3, .int (x3_34_4 + 1))]) [2, 3, 1, 0] rfl ?_
      exact hB4 (y1_34_4 ||| y0_34_4, x3_34_4 + 1)
    refine J_iload_n (pc := 4) 3 dX13_ownedAlone_4 rfl rfl ?_
    refine J_aload_n (pc := 5) 0 dX13_ownedAlone_5 rfl rfl ?_
    refine J_getR (pc := 6) dX13_ownedAlone_6 fl_X13_321 (h0.lt 57 (by decide)) (h0.ty 57 rfl) rfl hla ?_
    refine J_getI (pc := 9) dX13_ownedAlone_9 fl_X13_191 (ht.lt 0 (by decide)) (ht.ty 0 rfl) rfl ?_
    refine K_icmp_ge (K := (fun x => Option.bind x k4)) (pc := 12) (tgt := 42) dX13_ownedAlone_12 (by decide) (fun z12 => ?_) (fun z12 => ?_)
    · refine J_loc (loc' := [(2, .int s4.1)]) [2] rfl ?_
      exact hX4 s4.1
    · refine J_iload_n (pc := 15) 2 dX13_ownedAlone_15 rfl rfl ?_
      refine J_aload_n (pc := 16) 0 dX13_ownedAlone_16 rfl rfl ?_
      refine J_iload_n (pc := 17) 3 dX13_ownedAlone_17 rfl rfl ?_
      refine JC_pp_i (J_callV (mi := mi_X13_ownedAlone) (mj := mi_X13_owners) (pc := 18) dX13_ownedAlone_18 ml_X13_342 ok_X13_owners ov_X13_owners ⟨Nat.le_of_ble_eq_true rfl, Nat.le_of_ble_eq_true rfl⟩ rfl (h0.lt 57 (by decide)) (h0.ty 57 rfl) rfl (s_X13_owners g d t s4.2 h0 ht hla) rfl (Nat.le_of_ble_eq_true rfl)) (fun q18_4 => ?_)
      refine J_iconst (pc := 21) (v := 1) dX13_ownedAlone_21 (by decide) ?_
      refine J_iload_n (pc := 22) 1 dX13_ownedAlone_22 rfl rfl ?_
      refine J_ishl (pc := 23) dX13_ownedAlone_23 ?_
      refine K_icmp_ne (K := (fun x => Option.bind x k4)) (pc := 24) (tgt := 33) dX13_ownedAlone_24 (by decide) (fun z24 => ?_) (fun z24 => ?_)
      · refine J_iconst (pc := 33) (v := 0) dX13_ownedAlone_33 (by decide) ?_
        refine J_loc (loc' := [(0, .ref 57), (1, .int (pq0)), (3, .int s4.2)]) [0, 1, 3] rfl ?_
        exact hX13_ownedAlone_j34_4 s4.2 0 s4.1
      · refine J_iconst (pc := 27) (v := 1) dX13_ownedAlone_27 (by decide) ?_
        refine J_iload_n (pc := 28) 3 dX13_ownedAlone_28 rfl rfl ?_
        refine J_ishl (pc := 29) dX13_ownedAlone_29 ?_
        refine J_goto (pc := 30) (tgt := 34) dX13_ownedAlone_30 (by decide) ?_
        refine J_loc (loc' := [(0, .ref 57), (1, .int (pq0)), (3, .int s4.2)]) [0, 1, 3] rfl ?_
        exact hX13_ownedAlone_j34_4 s4.2 ((1 : Int32) <<< (s4.2 &&& 31)) s4.1
  · show J mi_X13_ownedAlone 0 0 0 0 (g, d) 42 [(2, .int e4)] [] (_)
    refine J_iload_n (pc := 42) 0 dX13_ownedAlone_42 rfl rfl ?_
    exact J_eqo (hk e4) (J_iret (pc := 43) dX13_ownedAlone_43 rfl)
def f_X13_firmsOf_j39_4 (r_t0 : Nat → Int32) (r_t2 : Nat → Int32) (c1_4 : Int32) (x3_39_4 : Int32) (y0_39_4 : Int32) (y1_39_4 : Int32) : Option ((Int32 × Int32) ⊕ (Int32)) := (some (.inl (y1_39_4 ||| y0_39_4, x3_39_4 + 1)))
def f_X13_firmsOf_w4 (r_t0 : Nat → Int32) (r_t2 : Nat → Int32) (c1_4 : Int32) (s4 : Int32 × Int32) : Option ((Int32 × Int32) ⊕ (Int32)) := (if (r_t0 3) ≤ s4.2 then some (.inr s4.1) else (if j_out s4.2 4 then none else if (f_X13_bit (r_t2 s4.2.toNatClampNeg) (c1_4)) = true then (f_X13_firmsOf_j39_4 r_t0 r_t2 (c1_4) s4.2 ((1 : Int32) <<< (s4.2 &&& 31)) s4.1) else (f_X13_firmsOf_j39_4 r_t0 r_t2 (c1_4) s4.2 0 s4.1)))
def f_X13_firmsOf (r_t0 : Nat → Int32) (r_t2 : Nat → Int32) (pq0 : Int32) : Option (Int32) := ((j_wh (f_X13_firmsOf_w4 r_t0 r_t2 pq0 ) j_fuel (0, 0)).bind (fun (e4 : Int32) => (some e4)))
set_option maxRecDepth 100000 in
set_option maxHeartbeats 4000000 in
theorem s_X13_firmsOf (g : JG) (d : JD) (t : Nat) (pq0 : Int32) (h0 : j_sh g 0 TS_W RS_W) (ht : j_sh g t TS_ML RS_ML) (hla : g.2.2.1 57 3 = some t) : JM mi_X13_firmsOf 0 0 (g, d) [.ref 57, .int pq0] ((f_X13_firmsOf (d.1 t) (d.1 (t + 2)) pq0).bind (fun r9 => some (some (.int r9), (g, d)))) := by
  refine JM_of (by decide) rfl (Nat.le_of_ble_eq_true rfl) ?_
  refine J_loc (loc' := [(0, .ref 57), (1, .int pq0)]) [0, 1] rfl ?_
  obtain ⟨k, hk, hk2⟩ : ∃ k : Int32 → Option (Option Value × JH), (∀ r9, k r9 = some (some (.int r9), (g, d))) ∧ (fun r9 : Int32 => (some (some (.int r9), (g, d)) : Option (Option Value × JH))) = k := ⟨_, fun _ => rfl, rfl⟩
  rw [hk2]
  unfold f_X13_firmsOf
  refine J_iconst (pc := 0) (v := 0) dX13_firmsOf_0 (by decide) ?_
  refine J_istore_n (pc := 1) (loc' := [(2, .int 0), (0, .ref 57), (1, .int pq0)]) dX13_firmsOf_1 rfl (by decide) rfl ?_
  refine J_iconst (pc := 2) (v := 0) dX13_firmsOf_2 (by decide) ?_
  refine J_istore_n (pc := 3) (loc' := [(3, .int 0), (2, .int 0), (0, .ref 57), (1, .int pq0)]) dX13_firmsOf_3 rfl (by decide) rfl ?_
  refine J_loc (loc' := [(0, .ref 57), (1, .int pq0), (2, .int 0), (3, .int 0)]) [2, 3, 1, 0] rfl ?_
  refine J_whL (F := f_X13_firmsOf_w4 (d.1 t) (d.1 (t + 2)) pq0 ) (hp := fun (s4 : Int32 × Int32) => (g, d)) (lc := fun (s4 : Int32 × Int32) => [(0, .ref 57), (1, .int (pq0)), (2, .int s4.1), (3, .int s4.2)]) (XJ := fun (e4 : Int32) o9 => J mi_X13_firmsOf 0 0 0 0 (g, d) 47 [(2, .int e4)] [] o9) (fun s4 k4 hB4 hX4 => ?_) (fun e4 => ?_) _ (0, 0)
  · show J mi_X13_firmsOf 0 0 0 0 (g, d) 4 [(0, .ref 57), (1, .int (pq0)), (2, .int s4.1), (3, .int s4.2)] [] ((f_X13_firmsOf_w4 (d.1 t) (d.1 (t + 2)) pq0 s4).bind k4)
    unfold f_X13_firmsOf_w4
    have hX13_firmsOf_j39_4 : ∀ (x3_39_4 : Int32) (y0_39_4 : Int32) (y1_39_4 : Int32), J mi_X13_firmsOf 0 0 0 0 (g, d) 39 [(0, .ref 57), (1, .int (pq0)), (3, .int x3_39_4)] [.int y0_39_4, .int y1_39_4] ((f_X13_firmsOf_j39_4 (d.1 t) (d.1 (t + 2)) pq0 x3_39_4 y0_39_4 y1_39_4).bind k4) := by
      intro x3_39_4 y0_39_4 y1_39_4
      unfold f_X13_firmsOf_j39_4
      refine J_ior (pc := 39) dX13_firmsOf_39 ?_
      refine J_istore_n (pc := 40) (loc' := [(2, .int (y1_39_4 ||| y0_39_4)), (0, .ref 57), (1, .int (pq0)), (3, .int x3_39_4)]) dX13_firmsOf_40 rfl (by decide) rfl ?_
      refine J_iinc (pc := 41) (v := x3_39_4 + 1) (loc' := [(3, .int (x3_39_4 + 1)), (2, .int (y1_39_4 ||| y0_39_4)), (0, .ref 57), (1, .int (pq0))]) 3 dX13_firmsOf_41 rfl rfl (by decide) rfl ?_
      refine J_goto (pc := 44) (tgt := 4) dX13_firmsOf_44 (by decide) ?_
      refine J_loc (loc' := [(0, .ref 57), (1, .int (pq0)), (2, .int (y1_39_4 ||| y0_39_4)), (3, .int (x3_39_4 + 1))]) [2, 3, 1, 0] rfl ?_
      exact hB4 (y1_39_4 ||| y0_39_4, x3_39_4 + 1)
    refine J_iload_n (pc := 4) 3 dX13_firmsOf_4 rfl rfl ?_
    refine J_aload_n (pc := 5) 0 dX13_firmsOf_5 rfl rfl ?_
    refine J_getR (pc := 6) dX13_firmsOf_6 fl_X13_321 (h0.lt 57 (by decide)) (h0.ty 57 rfl) rfl hla ?_
    refine J_getI (pc := 9) dX13_firmsOf_9 fl_X13_243 (ht.lt 0 (by decide)) (ht.ty 0 rfl) rfl ?_
    refine K_icmp_ge (K := (fun x => Option.bind x k4)) (pc := 12) (tgt := 47) dX13_firmsOf_12 (by decide) (fun z12 => ?_) (fun z12 => ?_)
    · refine J_loc (loc' := [(2, .int s4.1)]) [2] rfl ?_
      exact hX4 s4.1
    · refine J_iload_n (pc := 15) 2 dX13_firmsOf_15 rfl rfl ?_
      refine J_aload_n (pc := 16) 0 dX13_firmsOf_16 rfl rfl ?_
      refine J_getR (pc := 17) dX13_firmsOf_17 fl_X13_321 (h0.lt 57 (by decide)) (h0.ty 57 rfl) rfl hla ?_
      refine J_getR (pc := 20) dX13_firmsOf_20 fl_X13_256 (ht.lt 0 (by decide)) (ht.ty 0 rfl) rfl (ht.rf 1 rfl) ?_
      refine J_iload_n (pc := 23) 3 dX13_firmsOf_23 rfl rfl ?_
      refine J_guard (fun z24 => ?_)
      refine J_iald (pc := 24) dX13_firmsOf_24 (ht.lt 2 (by decide)) (ht.ty 2 rfl) z24 ?_
      refine J_iload_n (pc := 25) 1 dX13_firmsOf_25 rfl rfl ?_
      refine JC_pt_i (J_callS (mi := mi_X13_firmsOf) (mj := mi_X13_bit) (pc := 26) dX13_firmsOf_26 ml_X13_249 ok_X13_bit os_X13_bit ⟨Nat.le_of_ble_eq_true rfl, Nat.le_of_ble_eq_true rfl⟩ rfl (s_X13_bit g d ((d.1 (t + 2)) s4.2.toNatClampNeg) pq0) rfl (Nat.le_of_ble_eq_true rfl)) ?_
      refine K_ifeq_b (K := (fun x => Option.bind x k4)) (pc := 29) (tgt := 38) dX13_firmsOf_29 (by decide) (fun z29 => ?_) (fun z29 => ?_)
      · refine J_iconst (pc := 38) (v := 0) dX13_firmsOf_38 (by decide) ?_
        refine J_loc (loc' := [(0, .ref 57), (1, .int (pq0)), (3, .int s4.2)]) [0, 1, 3] rfl ?_
        exact hX13_firmsOf_j39_4 s4.2 0 s4.1
      · refine J_iconst (pc := 32) (v := 1) dX13_firmsOf_32 (by decide) ?_
        refine J_iload_n (pc := 33) 3 dX13_firmsOf_33 rfl rfl ?_
        refine J_ishl (pc := 34) dX13_firmsOf_34 ?_
        refine J_goto (pc := 35) (tgt := 39) dX13_firmsOf_35 (by decide) ?_
        refine J_loc (loc' := [(0, .ref 57), (1, .int (pq0)), (3, .int s4.2)]) [0, 1, 3] rfl ?_
        exact hX13_firmsOf_j39_4 s4.2 ((1 : Int32) <<< (s4.2 &&& 31)) s4.1
  · show J mi_X13_firmsOf 0 0 0 0 (g, d) 47 [(2, .int e4)] [] (_)
    refine J_iload_n (pc := 47) 0 dX13_firmsOf_47 rfl rfl ?_
    exact J_eqo (hk e4) (J_iret (pc := 48) dX13_firmsOf_48 rfl)
def f_X13_person_j22 (t : Nat) (d22 : JD) : Option (Int32 × JD) := (j_let (f_X13_refused d22 1) (fun q24 => some (q24.1, q24.2)))
def f_X13_person_j76 (t : Nat) (d76 : JD) (y0_76 : Int32) : Option (Int32 × JD) := (j_let (f_X13_good d76 y0_76) (fun q76 => some (q76.1, q76.2)))
def f_X13_person (t : Nat) (d : JD) (pq0 : Int32) (pq1 : Int32) : Option (Int32 × JD) := (if (f_X13_isPerson ((j_sI d 57 0 0).1 t) pq0) = true then (if (f_X13_in pq1 0 3) = true then ((f_X13_works (j_sI d 57 0 0)).bind (fun q29 => if pq1 = 0 then ((f_X13_has (q29.1 60) (q29.1 t) (q29.1 (t + 1)) (q29.1 (t + 2)) (q29.1 (t + 3)) (q29.1 (t + 4)) (q29.1 (t + 5)) pq0).bind (fun q39 => f_X13_person_j76 t q29 q39)) else (if pq1 = 1 then ((f_X13_owned (q29.1 60) (q29.1 t) (q29.1 (t + 1)) (q29.1 (t + 2)) (q29.1 (t + 3)) (q29.1 (t + 4)) pq0).bind (fun q52 => f_X13_person_j76 t q29 q52)) else (if pq1 = 2 then ((f_X13_ownedAlone (q29.1 60) (q29.1 t) (q29.1 (t + 1)) (q29.1 (t + 2)) (q29.1 (t + 3)) (q29.1 (t + 4)) pq0).bind (fun q65 => f_X13_person_j76 t q29 q65)) else ((f_X13_firmsOf (q29.1 t) (q29.1 (t + 2)) pq0).bind (fun q73 => f_X13_person_j76 t q29 q73)))))) else f_X13_person_j22 t (j_sI d 57 0 0) ) else f_X13_person_j22 t (j_sI d 57 0 0) )
set_option maxRecDepth 100000 in
set_option maxHeartbeats 4000000 in
theorem s_X13_person (g : JG) (d : JD) (t : Nat) (pq0 : Int32) (pq1 : Int32) (h0 : j_sh g 0 TS_W RS_W) (ht : j_sh g t TS_ML RS_ML) (hla : g.2.2.1 57 3 = some t) : JM mi_X13_person 0 0 (g, d) [.ref 57, .int pq0, .int pq1] ((f_X13_person t d pq0 pq1).bind (fun r9 => some (some (.int r9.1), (g, r9.2)))) := by
  refine JM_of (by decide) rfl (Nat.le_of_ble_eq_true rfl) ?_
  refine J_loc (loc' := [(0, .ref 57), (1, .int pq0), (2, .int pq1)]) [0, 1, 2] rfl ?_
  obtain ⟨k, hk, hk2⟩ : ∃ k : Int32 × JD → Option (Option Value × JH), (∀ r9, k r9 = some (some (.int r9.1), (g, r9.2))) ∧ (fun r9 : Int32 × JD => (some (some (.int r9.1), (g, r9.2)) : Option (Option Value × JH))) = k := ⟨_, fun _ => rfl, rfl⟩
  rw [hk2]
  unfold f_X13_person
  have hX13_person_j22 : ∀ (d22 : JD) , J mi_X13_person 0 0 0 0 (g, d22) 22 [(0, .ref 57)] [] ((f_X13_person_j22 t d22 ).bind k) := by
    intro d22 
    unfold f_X13_person_j22
    refine J_aload_n (pc := 22) 0 dX13_person_22 rfl rfl ?_
    refine J_iconst (pc := 23) (v := 1) dX13_person_23 (by decide) ?_
    refine JC_lt_i (K := (fun x => Option.bind x k)) (J_callV (mi := mi_X13_person) (mj := mi_X13_refused) (pc := 24) dX13_person_24 ml_X13_48 ok_X13_refused ov_X13_refused ⟨Nat.le_of_ble_eq_true rfl, Nat.le_of_ble_eq_true rfl⟩ rfl (h0.lt 57 (by decide)) (h0.ty 57 rfl) rfl (s_X13_refused g d22 1 h0) rfl (Nat.le_of_ble_eq_true rfl)) (fun q24 eq24 => ?_)
    exact J_eqo (hk (q24.1, q24.2)) (J_iret (pc := 27) dX13_person_27 rfl)
  have hX13_person_j76 : ∀ (d76 : JD) (y0_76 : Int32), J mi_X13_person 0 0 0 0 (g, d76) 76 [] [.int y0_76, .ref 57] ((f_X13_person_j76 t d76 y0_76).bind k) := by
    intro d76 y0_76
    unfold f_X13_person_j76
    refine JC_lt_i (K := (fun x => Option.bind x k)) (J_callV (mi := mi_X13_person) (mj := mi_X13_good) (pc := 76) dX13_person_76 ml_X13_52 ok_X13_good ov_X13_good ⟨Nat.le_of_ble_eq_true rfl, Nat.le_of_ble_eq_true rfl⟩ rfl (h0.lt 57 (by decide)) (h0.ty 57 rfl) rfl (s_X13_good g d76 y0_76 h0) rfl (Nat.le_of_ble_eq_true rfl)) (fun q76 eq76 => ?_)
    exact J_eqo (hk (q76.1, q76.2)) (J_iret (pc := 79) dX13_person_79 rfl)
  refine J_aload_n (pc := 0) 0 dX13_person_0 rfl rfl ?_
  refine J_iconst (pc := 1) (v := 0) dX13_person_1 (by decide) ?_
  refine J_putI (pc := 2) dX13_person_2 fl_X13_42 ft_12_0 (h0.lt 57 (by decide)) (h0.ty 57 rfl) rfl rfl rfl ?_
  refine J_aload_n (pc := 5) 0 dX13_person_5 rfl rfl ?_
  refine J_iload_n (pc := 6) 1 dX13_person_6 rfl rfl ?_
  refine JC_pt_i (J_callV (mi := mi_X13_person) (mj := mi_X13_isPerson) (pc := 7) dX13_person_7 ml_X13_351 ok_X13_isPerson ov_X13_isPerson ⟨Nat.le_of_ble_eq_true rfl, Nat.le_of_ble_eq_true rfl⟩ rfl (h0.lt 57 (by decide)) (h0.ty 57 rfl) rfl (s_X13_isPerson g (j_sI d 57 0 0) t pq0 h0 ht hla) rfl (Nat.le_of_ble_eq_true rfl)) ?_
  refine K_ifeq_b (K := (fun x => Option.bind x k)) (pc := 10) (tgt := 22) dX13_person_10 (by decide) (fun z10 => ?_) (fun z10 => ?_)
  · refine J_loc (loc' := [(0, .ref 57)]) [0] rfl ?_
    exact hX13_person_j22 (j_sI d 57 0 0) 
  · refine J_iload_n (pc := 13) 2 dX13_person_13 rfl rfl ?_
    refine J_iconst (pc := 14) (v := 0) dX13_person_14 (by decide) ?_
    refine J_iconst (pc := 15) (v := 3) dX13_person_15 (by decide) ?_
    refine JC_pt_i (J_callS (mi := mi_X13_person) (mj := mi_X13_in) (pc := 16) dX13_person_16 ml_X13_121 ok_X13_in os_X13_in ⟨Nat.le_of_ble_eq_true rfl, Nat.le_of_ble_eq_true rfl⟩ rfl (s_X13_in g (j_sI d 57 0 0) pq1 0 3) rfl (Nat.le_of_ble_eq_true rfl)) ?_
    refine K_ifne_b (K := (fun x => Option.bind x k)) (pc := 19) (tgt := 28) dX13_person_19 (by decide) (fun z19 => ?_) (fun z19 => ?_)
    · refine J_aload_n (pc := 28) 0 dX13_person_28 rfl rfl ?_
      refine JC_pe_v (J_callV (mi := mi_X13_person) (mj := mi_X13_works) (pc := 29) dX13_person_29 ml_X13_348 ok_X13_works ov_X13_works ⟨Nat.le_of_ble_eq_true rfl, Nat.le_of_ble_eq_true rfl⟩ rfl (h0.lt 57 (by decide)) (h0.ty 57 rfl) rfl (s_X13_works g (j_sI d 57 0 0) h0) rfl (Nat.le_of_ble_eq_true rfl)) (fun q29 => ?_)
      refine J_aload_n (pc := 32) 0 dX13_person_32 rfl rfl ?_
      refine J_iload_n (pc := 33) 2 dX13_person_33 rfl rfl ?_
      refine K_if_ne (K := (fun x => Option.bind x k)) (pc := 34) (tgt := 45) dX13_person_34 (by decide) (fun z34 => ?_) (fun z34 => ?_)
      · refine J_iload_n (pc := 45) 2 dX13_person_45 rfl rfl ?_
        refine J_iconst (pc := 46) (v := 1) dX13_person_46 (by decide) ?_
        refine K_icmp_ne (K := (fun x => Option.bind x k)) (pc := 47) (tgt := 58) dX13_person_47 (by decide) (fun z47 => ?_) (fun z47 => ?_)
        · refine J_iload_n (pc := 58) 2 dX13_person_58 rfl rfl ?_
          refine J_iconst (pc := 59) (v := 2) dX13_person_59 (by decide) ?_
          refine K_icmp_ne (K := (fun x => Option.bind x k)) (pc := 60) (tgt := 71) dX13_person_60 (by decide) (fun z60 => ?_) (fun z60 => ?_)
          · refine J_aload_n (pc := 71) 0 dX13_person_71 rfl rfl ?_
            refine J_iload_n (pc := 72) 1 dX13_person_72 rfl rfl ?_
            refine JC_pp_i (J_callV (mi := mi_X13_person) (mj := mi_X13_firmsOf) (pc := 73) dX13_person_73 ml_X13_363 ok_X13_firmsOf ov_X13_firmsOf ⟨Nat.le_of_ble_eq_true rfl, Nat.le_of_ble_eq_true rfl⟩ rfl (h0.lt 57 (by decide)) (h0.ty 57 rfl) rfl (s_X13_firmsOf g q29 t pq0 h0 ht hla) rfl (Nat.le_of_ble_eq_true rfl)) (fun q73 => ?_)
            refine J_loc (loc' := []) [] rfl ?_
            exact hX13_person_j76 q29 q73
          · refine J_aload_n (pc := 63) 0 dX13_person_63 rfl rfl ?_
            refine J_iload_n (pc := 64) 1 dX13_person_64 rfl rfl ?_
            refine JC_pp_i (J_callV (mi := mi_X13_person) (mj := mi_X13_ownedAlone) (pc := 65) dX13_person_65 ml_X13_360 ok_X13_ownedAlone ov_X13_ownedAlone ⟨Nat.le_of_ble_eq_true rfl, Nat.le_of_ble_eq_true rfl⟩ rfl (h0.lt 57 (by decide)) (h0.ty 57 rfl) rfl (s_X13_ownedAlone g q29 t pq0 h0 ht hla) rfl (Nat.le_of_ble_eq_true rfl)) (fun q65 => ?_)
            refine J_goto (pc := 68) (tgt := 76) dX13_person_68 (by decide) ?_
            refine J_loc (loc' := []) [] rfl ?_
            exact hX13_person_j76 q29 q65
        · refine J_aload_n (pc := 50) 0 dX13_person_50 rfl rfl ?_
          refine J_iload_n (pc := 51) 1 dX13_person_51 rfl rfl ?_
          refine JC_pp_i (J_callV (mi := mi_X13_person) (mj := mi_X13_owned) (pc := 52) dX13_person_52 ml_X13_357 ok_X13_owned ov_X13_owned ⟨Nat.le_of_ble_eq_true rfl, Nat.le_of_ble_eq_true rfl⟩ rfl (h0.lt 57 (by decide)) (h0.ty 57 rfl) rfl (s_X13_owned g q29 t pq0 h0 ht hla) rfl (Nat.le_of_ble_eq_true rfl)) (fun q52 => ?_)
          refine J_goto (pc := 55) (tgt := 76) dX13_person_55 (by decide) ?_
          refine J_loc (loc' := []) [] rfl ?_
          exact hX13_person_j76 q29 q52
      · refine J_aload_n (pc := 37) 0 dX13_person_37 rfl rfl ?_
        refine J_iload_n (pc := 38) 1 dX13_person_38 rfl rfl ?_
        refine JC_pp_i (J_callV (mi := mi_X13_person) (mj := mi_X13_has) (pc := 39) dX13_person_39 ml_X13_354 ok_X13_has ov_X13_has ⟨Nat.le_of_ble_eq_true rfl, Nat.le_of_ble_eq_true rfl⟩ rfl (h0.lt 57 (by decide)) (h0.ty 57 rfl) rfl (s_X13_has g q29 t pq0 h0 ht hla) rfl (Nat.le_of_ble_eq_true rfl)) (fun q39 => ?_)
        refine J_goto (pc := 42) (tgt := 76) dX13_person_42 (by decide) ?_
        refine J_loc (loc' := []) [] rfl ?_
        exact hX13_person_j76 q29 q39
    · refine J_loc (loc' := [(0, .ref 57)]) [0] rfl ?_
      exact hX13_person_j22 (j_sI d 57 0 0) 
def f_X13_firm_j22 (t : Nat) (d22 : JD) : Option (Int32 × JD) := (j_let (f_X13_refused d22 1) (fun q24 => some (q24.1, q24.2)))
def f_X13_firm_w69_37 (t : Nat) (c1_69_37 : Int32) (c2_69_37 : Int32) (c4_69_37 : Int32) (d : JD) (s69_37 : Int32 × Int32) : Option ((Int32 × Int32) ⊕ (Int32)) := (if (((d).1 t) 2) ≤ s69_37.2 then some (.inr s69_37.1) else (if j_out (c4_69_37) 6 then none else (f_X13_shareIf ((d).1 (t + 1)) ((d).1 (t + 2)) ((d).1 (t + 3)) ((d).1 (t + 4)) ((d).1 (t + 5)) s69_37.2 (c4_69_37) (((d).1 60) ((c4_69_37).toNatClampNeg))).bind (fun q94_37_69 => some (.inl (s69_37.1 + q94_37_69, s69_37.2 + 1)))))
def f_X13_firm_j105_37 (t : Nat) (c1_37 : Int32) (c2_37 : Int32) (d : JD) (x3_105_37 : Int32) (x4_105_37 : Int32) : Option ((Int32 × Int32) ⊕ (Int32)) := (some (.inl (x3_105_37, x4_105_37 + 1)))
def f_X13_firm_w37 (t : Nat) (c1_37 : Int32) (c2_37 : Int32) (d : JD) (s37 : Int32 × Int32) : Option ((Int32 × Int32) ⊕ (Int32)) := (if (((d).1 t) 4) ≤ s37.2 then some (.inr s37.1) else (if j_out s37.2 6 then none else if (((d).1 (t + 4)) s37.2.toNatClampNeg) = (c1_37) then ((j_wh (f_X13_firm_w69_37 t (c1_37) (c2_37) s37.2 (d) ) j_fuel (s37.1, 0)).bind (fun (e69_37 : Int32) => f_X13_firm_j105_37 t (c1_37) (c2_37) (d) e69_37 s37.2)) else (f_X13_firm_j105_37 t (c1_37) (c2_37) (d) s37.1 s37.2)))
def f_X13_firm_j146 (t : Nat) (d146 : JD) (y0_146 : Int32) : Option (Int32 × JD) := (j_let (f_X13_good d146 y0_146) (fun q146 => some (q146.1, q146.2)))
def f_X13_firm (t : Nat) (d : JD) (pq0 : Int32) (pq1 : Int32) : Option (Int32 × JD) := (if (f_X13_isFirm ((j_sI d 57 0 0).1 t) pq0) = true then (if (f_X13_in pq1 0 2) = true then ((f_X13_works (j_sI d 57 0 0)).bind (fun q29 => (j_wh (f_X13_firm_w37 t pq0 pq1 q29 ) j_fuel (0, 0)).bind (fun (e37 : Int32) => (if pq1 = 0 then (if j_out pq0 4 then none else f_X13_firm_j146 t q29 ((q29.1 (t + 1)) pq0.toNatClampNeg)) else (if pq1 = 1 then (if j_out pq0 4 then none else f_X13_firm_j146 t q29 ((q29.1 (t + 2)) pq0.toNatClampNeg)) else (f_X13_firm_j146 t q29 e37)))))) else f_X13_firm_j22 t (j_sI d 57 0 0) ) else f_X13_firm_j22 t (j_sI d 57 0 0) )
set_option maxRecDepth 100000 in
set_option maxHeartbeats 4000000 in
theorem s_X13_firm (g : JG) (d : JD) (t : Nat) (pq0 : Int32) (pq1 : Int32) (h0 : j_sh g 0 TS_W RS_W) (ht : j_sh g t TS_ML RS_ML) (hla : g.2.2.1 57 3 = some t) : JM mi_X13_firm 0 0 (g, d) [.ref 57, .int pq0, .int pq1] ((f_X13_firm t d pq0 pq1).bind (fun r9 => some (some (.int r9.1), (g, r9.2)))) := by
  refine JM_of (by decide) rfl (Nat.le_of_ble_eq_true rfl) ?_
  refine J_loc (loc' := [(0, .ref 57), (1, .int pq0), (2, .int pq1)]) [0, 1, 2] rfl ?_
  obtain ⟨k, hk, hk2⟩ : ∃ k : Int32 × JD → Option (Option Value × JH), (∀ r9, k r9 = some (some (.int r9.1), (g, r9.2))) ∧ (fun r9 : Int32 × JD => (some (some (.int r9.1), (g, r9.2)) : Option (Option Value × JH))) = k := ⟨_, fun _ => rfl, rfl⟩
  rw [hk2]
  unfold f_X13_firm
  have hX13_firm_j22 : ∀ (d22 : JD) , J mi_X13_firm 0 0 0 0 (g, d22) 22 [(0, .ref 57)] [] ((f_X13_firm_j22 t d22 ).bind k) := by
    intro d22 
    unfold f_X13_firm_j22
    refine J_aload_n (pc := 22) 0 dX13_firm_22 rfl rfl ?_
    refine J_iconst (pc := 23) (v := 1) dX13_firm_23 (by decide) ?_
    refine JC_lt_i (K := (fun x => Option.bind x k)) (J_callV (mi := mi_X13_firm) (mj := mi_X13_refused) (pc := 24) dX13_firm_24 ml_X13_48 ok_X13_refused ov_X13_refused ⟨Nat.le_of_ble_eq_true rfl, Nat.le_of_ble_eq_true rfl⟩ rfl (h0.lt 57 (by decide)) (h0.ty 57 rfl) rfl (s_X13_refused g d22 1 h0) rfl (Nat.le_of_ble_eq_true rfl)) (fun q24 eq24 => ?_)
    exact J_eqo (hk (q24.1, q24.2)) (J_iret (pc := 27) dX13_firm_27 rfl)
  have hX13_firm_j146 : ∀ (d146 : JD) (y0_146 : Int32), J mi_X13_firm 0 0 0 0 (g, d146) 146 [] [.int y0_146, .ref 57] ((f_X13_firm_j146 t d146 y0_146).bind k) := by
    intro d146 y0_146
    unfold f_X13_firm_j146
    refine JC_lt_i (K := (fun x => Option.bind x k)) (J_callV (mi := mi_X13_firm) (mj := mi_X13_good) (pc := 146) dX13_firm_146 ml_X13_52 ok_X13_good ov_X13_good ⟨Nat.le_of_ble_eq_true rfl, Nat.le_of_ble_eq_true rfl⟩ rfl (h0.lt 57 (by decide)) (h0.ty 57 rfl) rfl (s_X13_good g d146 y0_146 h0) rfl (Nat.le_of_ble_eq_true rfl)) (fun q146 eq146 => ?_)
    exact J_eqo (hk (q146.1, q146.2)) (J_iret (pc := 149) dX13_firm_149 rfl)
  refine J_aload_n (pc := 0) 0 dX13_firm_0 rfl rfl ?_
  refine J_iconst (pc := 1) (v := 0) dX13_firm_1 (by decide) ?_
  refine J_putI (pc := 2) dX13_firm_2 fl_X13_42 ft_12_0 (h0.lt 57 (by decide)) (h0.ty 57 rfl) rfl rfl rfl ?_
  refine J_aload_n (pc := 5) 0 dX13_firm_5 rfl rfl ?_
  refine J_iload_n (pc := 6) 1 dX13_firm_6 rfl rfl ?_
  refine JC_pt_i (J_callV (mi := mi_X13_firm) (mj := mi_X13_isFirm) (pc := 7) dX13_firm_7 ml_X13_366 ok_X13_isFirm ov_X13_isFirm ⟨Nat.le_of_ble_eq_true rfl, Nat.le_of_ble_eq_true rfl⟩ rfl (h0.lt 57 (by decide)) (h0.ty 57 rfl) rfl (s_X13_isFirm g (j_sI d 57 0 0) t pq0 h0 ht hla) rfl (Nat.le_of_ble_eq_true rfl)) ?_
  refine K_ifeq_b (K := (fun x => Option.bind x k)) (pc := 10) (tgt := 22) dX13_firm_10 (by decide) (fun z10 => ?_) (fun z10 => ?_)
  · refine J_loc (loc' := [(0, .ref 57)]) [0] rfl ?_
    exact hX13_firm_j22 (j_sI d 57 0 0) 
  · refine J_iload_n (pc := 13) 2 dX13_firm_13 rfl rfl ?_
    refine J_iconst (pc := 14) (v := 0) dX13_firm_14 (by decide) ?_
    refine J_iconst (pc := 15) (v := 2) dX13_firm_15 (by decide) ?_
    refine JC_pt_i (J_callS (mi := mi_X13_firm) (mj := mi_X13_in) (pc := 16) dX13_firm_16 ml_X13_121 ok_X13_in os_X13_in ⟨Nat.le_of_ble_eq_true rfl, Nat.le_of_ble_eq_true rfl⟩ rfl (s_X13_in g (j_sI d 57 0 0) pq1 0 2) rfl (Nat.le_of_ble_eq_true rfl)) ?_
    refine K_ifne_b (K := (fun x => Option.bind x k)) (pc := 19) (tgt := 28) dX13_firm_19 (by decide) (fun z19 => ?_) (fun z19 => ?_)
    · refine J_aload_n (pc := 28) 0 dX13_firm_28 rfl rfl ?_
      refine JC_pe_v (J_callV (mi := mi_X13_firm) (mj := mi_X13_works) (pc := 29) dX13_firm_29 ml_X13_348 ok_X13_works ov_X13_works ⟨Nat.le_of_ble_eq_true rfl, Nat.le_of_ble_eq_true rfl⟩ rfl (h0.lt 57 (by decide)) (h0.ty 57 rfl) rfl (s_X13_works g (j_sI d 57 0 0) h0) rfl (Nat.le_of_ble_eq_true rfl)) (fun q29 => ?_)
      refine J_iconst (pc := 32) (v := 0) dX13_firm_32 (by decide) ?_
      refine J_istore_n (pc := 33) (loc' := [(3, .int 0), (0, .ref 57), (1, .int pq0), (2, .int pq1)]) dX13_firm_33 rfl (by decide) rfl ?_
      refine J_iconst (pc := 34) (v := 0) dX13_firm_34 (by decide) ?_
      refine J_istore (pc := 35) (loc' := [(4, .int 0), (3, .int 0), (0, .ref 57), (1, .int pq0), (2, .int pq1)]) dX13_firm_35 (by decide) rfl ?_
      refine J_loc (loc' := [(0, .ref 57), (1, .int pq0), (2, .int pq1), (3, .int 0), (4, .int 0)]) [2, 3, 4, 1, 0] rfl ?_
      refine J_whL (F := f_X13_firm_w37 t pq0 pq1 q29 ) (hp := fun (s37 : Int32 × Int32) => (g, q29)) (lc := fun (s37 : Int32 × Int32) => [(0, .ref 57), (1, .int (pq0)), (2, .int (pq1)), (3, .int s37.1), (4, .int s37.2)]) (XJ := fun (e37 : Int32) o9 => J mi_X13_firm 0 0 0 0 (g, q29) 111 [(0, .ref 57), (1, .int pq0), (2, .int pq1), (3, .int e37)] [] o9) (fun s37 k37 hB37 hX37 => ?_) (fun e37 => ?_) _ (0, 0)
      · show J mi_X13_firm 0 0 0 0 (g, q29) 37 [(0, .ref 57), (1, .int (pq0)), (2, .int (pq1)), (3, .int s37.1), (4, .int s37.2)] [] ((f_X13_firm_w37 t pq0 pq1 q29 s37).bind k37)
        unfold f_X13_firm_w37
        have hX13_firm_j105_37 : ∀ (x3_105_37 : Int32) (x4_105_37 : Int32), J mi_X13_firm 0 0 0 0 (g, q29) 105 [(0, .ref 57), (1, .int (pq0)), (2, .int (pq1)), (3, .int x3_105_37), (4, .int x4_105_37)] [] ((f_X13_firm_j105_37 t pq0 pq1 q29 x3_105_37 x4_105_37).bind k37) := by
          intro x3_105_37 x4_105_37
          unfold f_X13_firm_j105_37
          refine J_iinc (pc := 105) (v := x4_105_37 + 1) (loc' := [(4, .int (x4_105_37 + 1)), (0, .ref 57), (1, .int (pq0)), (2, .int (pq1)), (3, .int x3_105_37)]) 4 dX13_firm_105 rfl rfl (by decide) rfl ?_
          refine J_goto (pc := 108) (tgt := 37) dX13_firm_108 (by decide) ?_
          refine J_loc (loc' := [(0, .ref 57), (1, .int (pq0)), (2, .int (pq1)), (3, .int x3_105_37), (4, .int (x4_105_37 + 1))]) [1, 2, 3, 4, 0] rfl ?_
          exact hB37 (x3_105_37, x4_105_37 + 1)
        refine J_iload (pc := 37) 4 dX13_firm_37 rfl ?_
        refine J_aload_n (pc := 39) 0 dX13_firm_39 rfl rfl ?_
        refine J_getR (pc := 40) dX13_firm_40 fl_X13_321 (h0.lt 57 (by decide)) (h0.ty 57 rfl) rfl hla ?_
        refine J_getI (pc := 43) dX13_firm_43 fl_X13_191 (ht.lt 0 (by decide)) (ht.ty 0 rfl) rfl ?_
        refine K_icmp_ge (K := (fun x => Option.bind x k37)) (pc := 46) (tgt := 111) dX13_firm_46 (by decide) (fun z46 => ?_) (fun z46 => ?_)
        · refine J_loc (loc' := [(0, .ref 57), (1, .int (pq0)), (2, .int (pq1)), (3, .int s37.1)]) [0, 1, 2, 3] rfl ?_
          exact hX37 s37.1
        · refine J_aload_n (pc := 49) 0 dX13_firm_49 rfl rfl ?_
          refine J_getR (pc := 50) dX13_firm_50 fl_X13_321 (h0.lt 57 (by decide)) (h0.ty 57 rfl) rfl hla ?_
          refine J_getR (pc := 53) dX13_firm_53 fl_X13_278 (ht.lt 0 (by decide)) (ht.ty 0 rfl) rfl (ht.rf 3 rfl) ?_
          refine J_iload (pc := 56) 4 dX13_firm_56 rfl ?_
          refine J_guard (fun z58 => ?_)
          refine J_iald (pc := 58) dX13_firm_58 (ht.lt 4 (by decide)) (ht.ty 4 rfl) z58 ?_
          refine J_iload_n (pc := 59) 1 dX13_firm_59 rfl rfl ?_
          refine K_icmp_eq (K := (fun x => Option.bind x k37)) (pc := 60) (tgt := 66) dX13_firm_60 (by decide) (fun z60 => ?_) (fun z60 => ?_)
          · refine J_iconst (pc := 66) (v := 0) dX13_firm_66 (by decide) ?_
            refine J_istore (pc := 67) (loc' := [(5, .int 0), (0, .ref 57), (1, .int (pq0)), (2, .int (pq1)), (3, .int s37.1), (4, .int s37.2)]) dX13_firm_67 (by decide) rfl ?_
            refine J_loc (loc' := [(0, .ref 57), (1, .int (pq0)), (2, .int (pq1)), (3, .int s37.1), (4, .int s37.2), (5, .int 0)]) [1, 2, 3, 4, 5, 0] rfl ?_
            refine J_whL (F := f_X13_firm_w69_37 t (pq0) (pq1) s37.2 (q29) ) (hp := fun (s69_37 : Int32 × Int32) => (g, (q29))) (lc := fun (s69_37 : Int32 × Int32) => [(0, .ref 57), (1, .int ((pq0))), (2, .int ((pq1))), (3, .int s69_37.1), (4, .int (s37.2)), (5, .int s69_37.2)]) (XJ := fun (e69_37 : Int32) o9 => J mi_X13_firm 0 0 0 0 (g, q29) 105 [(0, .ref 57), (1, .int (pq0)), (2, .int (pq1)), (3, .int e69_37), (4, .int s37.2)] [] o9) (fun s69_37 k69_37 hB69_37 hX69_37 => ?_) (fun e69_37 => ?_) _ (s37.1, 0)
            · show J mi_X13_firm 0 0 0 0 (g, (q29)) 69 [(0, .ref 57), (1, .int ((pq0))), (2, .int ((pq1))), (3, .int s69_37.1), (4, .int (s37.2)), (5, .int s69_37.2)] [] ((f_X13_firm_w69_37 t (pq0) (pq1) s37.2 (q29) s69_37).bind k69_37)
              unfold f_X13_firm_w69_37
              refine J_iload (pc := 69) 5 dX13_firm_69 rfl ?_
              refine J_aload_n (pc := 71) 0 dX13_firm_71 rfl rfl ?_
              refine J_getR (pc := 72) dX13_firm_72 fl_X13_321 (h0.lt 57 (by decide)) (h0.ty 57 rfl) rfl hla ?_
              refine J_getI (pc := 75) dX13_firm_75 fl_X13_229 (ht.lt 0 (by decide)) (ht.ty 0 rfl) rfl ?_
              refine K_icmp_ge (K := (fun x => Option.bind x k69_37)) (pc := 78) (tgt := 105) dX13_firm_78 (by decide) (fun z78 => ?_) (fun z78 => ?_)
              · refine J_loc (loc' := [(0, .ref 57), (1, .int ((pq0))), (2, .int ((pq1))), (3, .int s69_37.1), (4, .int (s37.2))]) [0, 1, 2, 3, 4] rfl ?_
                exact hX69_37 s69_37.1
              · refine J_iload_n (pc := 81) 3 dX13_firm_81 rfl rfl ?_
                refine J_aload_n (pc := 82) 0 dX13_firm_82 rfl rfl ?_
                refine J_iload (pc := 83) 5 dX13_firm_83 rfl ?_
                refine J_iload (pc := 85) 4 dX13_firm_85 rfl ?_
                refine J_aload_n (pc := 87) 0 dX13_firm_87 rfl rfl ?_
                refine J_getR (pc := 88) dX13_firm_88 fl_X13_21 (h0.lt 57 (by decide)) (h0.ty 57 rfl) rfl (h0.rf 57 rfl) ?_
                refine J_iload (pc := 91) 4 dX13_firm_91 rfl ?_
                refine J_guard (fun z93 => ?_)
                refine J_iald (pc := 93) dX13_firm_93 (h0.lt 60 (by decide)) (h0.ty 60 rfl) z93 ?_
                refine JC_pp_i (J_callV (mi := mi_X13_firm) (mj := mi_X13_shareIf) (pc := 94) dX13_firm_94 ml_X13_338 ok_X13_shareIf ov_X13_shareIf ⟨Nat.le_of_ble_eq_true rfl, Nat.le_of_ble_eq_true rfl⟩ rfl (h0.lt 57 (by decide)) (h0.ty 57 rfl) rfl (s_X13_shareIf g (q29) t s69_37.2 s37.2 ((((q29)).1 60) ((s37.2).toNatClampNeg)) h0 ht hla) rfl (Nat.le_of_ble_eq_true rfl)) (fun q94_37_69 => ?_)
                refine J_iadd (pc := 97) dX13_firm_97 ?_
                refine J_istore_n (pc := 98) (loc' := [(3, .int (s69_37.1 + q94_37_69)), (0, .ref 57), (1, .int ((pq0))), (2, .int ((pq1))), (4, .int (s37.2)), (5, .int s69_37.2)]) dX13_firm_98 rfl (by decide) rfl ?_
                refine J_iinc (pc := 99) (v := s69_37.2 + 1) (loc' := [(5, .int (s69_37.2 + 1)), (3, .int (s69_37.1 + q94_37_69)), (0, .ref 57), (1, .int ((pq0))), (2, .int ((pq1))), (4, .int (s37.2))]) 5 dX13_firm_99 rfl rfl (by decide) rfl ?_
                refine J_goto (pc := 102) (tgt := 69) dX13_firm_102 (by decide) ?_
                refine J_loc (loc' := [(0, .ref 57), (1, .int ((pq0))), (2, .int ((pq1))), (3, .int (s69_37.1 + q94_37_69)), (4, .int (s37.2)), (5, .int (s69_37.2 + 1))]) [2, 3, 4, 1, 5, 0] rfl ?_
                exact hB69_37 (s69_37.1 + q94_37_69, s69_37.2 + 1)
            · show J mi_X13_firm 0 0 0 0 (g, q29) 105 [(0, .ref 57), (1, .int (pq0)), (2, .int (pq1)), (3, .int e69_37), (4, .int s37.2)] [] (_)
              exact hX13_firm_j105_37 e69_37 s37.2
          · refine J_goto (pc := 63) (tgt := 105) dX13_firm_63 (by decide) ?_
            exact hX13_firm_j105_37 s37.1 s37.2
      · show J mi_X13_firm 0 0 0 0 (g, q29) 111 [(0, .ref 57), (1, .int pq0), (2, .int pq1), (3, .int e37)] [] (_)
        refine J_aload_n (pc := 111) 0 dX13_firm_111 rfl rfl ?_
        refine J_iload_n (pc := 112) 2 dX13_firm_112 rfl rfl ?_
        refine K_if_ne (K := (fun x => Option.bind x k)) (pc := 113) (tgt := 128) dX13_firm_113 (by decide) (fun z113 => ?_) (fun z113 => ?_)
        · refine J_iload_n (pc := 128) 2 dX13_firm_128 rfl rfl ?_
          refine J_iconst (pc := 129) (v := 1) dX13_firm_129 (by decide) ?_
          refine K_icmp_ne (K := (fun x => Option.bind x k)) (pc := 130) (tgt := 145) dX13_firm_130 (by decide) (fun z130 => ?_) (fun z130 => ?_)
          · refine J_iload_n (pc := 145) 3 dX13_firm_145 rfl rfl ?_
            refine J_loc (loc' := []) [] rfl ?_
            exact hX13_firm_j146 q29 e37
          · refine J_aload_n (pc := 133) 0 dX13_firm_133 rfl rfl ?_
            refine J_getR (pc := 134) dX13_firm_134 fl_X13_321 (h0.lt 57 (by decide)) (h0.ty 57 rfl) rfl hla ?_
            refine J_getR (pc := 137) dX13_firm_137 fl_X13_256 (ht.lt 0 (by decide)) (ht.ty 0 rfl) rfl (ht.rf 1 rfl) ?_
            refine J_iload_n (pc := 140) 1 dX13_firm_140 rfl rfl ?_
            refine J_guard (fun z141 => ?_)
            refine J_iald (pc := 141) dX13_firm_141 (ht.lt 2 (by decide)) (ht.ty 2 rfl) z141 ?_
            refine J_goto (pc := 142) (tgt := 146) dX13_firm_142 (by decide) ?_
            refine J_loc (loc' := []) [] rfl ?_
            exact hX13_firm_j146 q29 ((q29.1 (t + 2)) pq0.toNatClampNeg)
        · refine J_aload_n (pc := 116) 0 dX13_firm_116 rfl rfl ?_
          refine J_getR (pc := 117) dX13_firm_117 fl_X13_321 (h0.lt 57 (by decide)) (h0.ty 57 rfl) rfl hla ?_
          refine J_getR (pc := 120) dX13_firm_120 fl_X13_253 (ht.lt 0 (by decide)) (ht.ty 0 rfl) rfl (ht.rf 0 rfl) ?_
          refine J_iload_n (pc := 123) 1 dX13_firm_123 rfl rfl ?_
          refine J_guard (fun z124 => ?_)
          refine J_iald (pc := 124) dX13_firm_124 (ht.lt 1 (by decide)) (ht.ty 1 rfl) z124 ?_
          refine J_goto (pc := 125) (tgt := 146) dX13_firm_125 (by decide) ?_
          refine J_loc (loc' := []) [] rfl ?_
          exact hX13_firm_j146 q29 ((q29.1 (t + 1)) pq0.toNatClampNeg)
    · refine J_loc (loc' := [(0, .ref 57)]) [0] rfl ?_
      exact hX13_firm_j22 (j_sI d 57 0 0) 
def f_X13_commons_j53_26 (t : Nat) (d : JD) (x2_53_26 : Int32) (y0_53_26 : Int32) (y1_53_26 : Int32) : Option ((Int32 × Int32) ⊕ (Int32)) := (some (.inl (y1_53_26 ||| y0_53_26, x2_53_26 + 1)))
def f_X13_commons_w26 (t : Nat) (d : JD) (s26 : Int32 × Int32) : Option ((Int32 × Int32) ⊕ (Int32)) := (if (((d).1 t) 4) ≤ s26.2 then some (.inr s26.1) else ((f_X13_owners ((d).1 60) ((d).1 (t + 1)) ((d).1 (t + 2)) ((d).1 (t + 3)) ((d).1 (t + 4)) s26.2).bind (fun q40_26 => if q40_26 = 0 then (f_X13_commons_j53_26 t (d) s26.2 ((1 : Int32) <<< (s26.2 &&& 31)) s26.1) else (f_X13_commons_j53_26 t (d) s26.2 0 s26.1))))
def f_X13_commons (t : Nat) (d : JD) : Option (Int32 × JD) := ((f_X13_works (j_sI d 57 0 0)).bind (fun q19 => (j_wh (f_X13_commons_w26 t q19 ) j_fuel (0, 0)).bind (fun (e26 : Int32) => (j_let (f_X13_good q19 e26) (fun q63 => some (q63.1, q63.2))))))
set_option maxRecDepth 100000 in
set_option maxHeartbeats 4000000 in
theorem s_X13_commons (g : JG) (d : JD) (t : Nat) (h0 : j_sh g 0 TS_W RS_W) (ht : j_sh g t TS_ML RS_ML) (hla : g.2.2.1 57 3 = some t) : JM mi_X13_commons 0 0 (g, d) [.ref 57] ((f_X13_commons t d ).bind (fun r9 => some (some (.int r9.1), (g, r9.2)))) := by
  refine JM_of (by decide) rfl (Nat.le_of_ble_eq_true rfl) ?_
  refine J_loc (loc' := [(0, .ref 57)]) [0] rfl ?_
  obtain ⟨k, hk, hk2⟩ : ∃ k : Int32 × JD → Option (Option Value × JH), (∀ r9, k r9 = some (some (.int r9.1), (g, r9.2))) ∧ (fun r9 : Int32 × JD => (some (some (.int r9.1), (g, r9.2)) : Option (Option Value × JH))) = k := ⟨_, fun _ => rfl, rfl⟩
  rw [hk2]
  unfold f_X13_commons
  refine J_aload_n (pc := 0) 0 dX13_commons_0 rfl rfl ?_
  refine J_iconst (pc := 1) (v := 0) dX13_commons_1 (by decide) ?_
  refine J_putI (pc := 2) dX13_commons_2 fl_X13_42 ft_12_0 (h0.lt 57 (by decide)) (h0.ty 57 rfl) rfl rfl rfl ?_
  refine J_aload_n (pc := 5) 0 dX13_commons_5 rfl rfl ?_
  refine J_getR (pc := 6) dX13_commons_6 fl_X13_321 (h0.lt 57 (by decide)) (h0.ty 57 rfl) rfl hla ?_
  refine J_ifnonnull (pc := 9) (tgt := 18) dX13_commons_9 (by decide) ?_
  refine J_aload_n (pc := 18) 0 dX13_commons_18 rfl rfl ?_
  refine JC_pe_v (J_callV (mi := mi_X13_commons) (mj := mi_X13_works) (pc := 19) dX13_commons_19 ml_X13_348 ok_X13_works ov_X13_works ⟨Nat.le_of_ble_eq_true rfl, Nat.le_of_ble_eq_true rfl⟩ rfl (h0.lt 57 (by decide)) (h0.ty 57 rfl) rfl (s_X13_works g (j_sI d 57 0 0) h0) rfl (Nat.le_of_ble_eq_true rfl)) (fun q19 => ?_)
  refine J_iconst (pc := 22) (v := 0) dX13_commons_22 (by decide) ?_
  refine J_istore_n (pc := 23) (loc' := [(1, .int 0), (0, .ref 57)]) dX13_commons_23 rfl (by decide) rfl ?_
  refine J_iconst (pc := 24) (v := 0) dX13_commons_24 (by decide) ?_
  refine J_istore_n (pc := 25) (loc' := [(2, .int 0), (1, .int 0), (0, .ref 57)]) dX13_commons_25 rfl (by decide) rfl ?_
  refine J_loc (loc' := [(0, .ref 57), (1, .int 0), (2, .int 0)]) [2, 1, 0] rfl ?_
  refine J_whL (F := f_X13_commons_w26 t q19 ) (hp := fun (s26 : Int32 × Int32) => (g, q19)) (lc := fun (s26 : Int32 × Int32) => [(0, .ref 57), (1, .int s26.1), (2, .int s26.2)]) (XJ := fun (e26 : Int32) o9 => J mi_X13_commons 0 0 0 0 (g, q19) 61 [(0, .ref 57), (1, .int e26)] [] o9) (fun s26 k26 hB26 hX26 => ?_) (fun e26 => ?_) _ (0, 0)
  · show J mi_X13_commons 0 0 0 0 (g, q19) 26 [(0, .ref 57), (1, .int s26.1), (2, .int s26.2)] [] ((f_X13_commons_w26 t q19 s26).bind k26)
    unfold f_X13_commons_w26
    have hX13_commons_j53_26 : ∀ (x2_53_26 : Int32) (y0_53_26 : Int32) (y1_53_26 : Int32), J mi_X13_commons 0 0 0 0 (g, q19) 53 [(0, .ref 57), (2, .int x2_53_26)] [.int y0_53_26, .int y1_53_26] ((f_X13_commons_j53_26 t q19 x2_53_26 y0_53_26 y1_53_26).bind k26) := by
      intro x2_53_26 y0_53_26 y1_53_26
      unfold f_X13_commons_j53_26
      refine J_ior (pc := 53) dX13_commons_53 ?_
      refine J_istore_n (pc := 54) (loc' := [(1, .int (y1_53_26 ||| y0_53_26)), (0, .ref 57), (2, .int x2_53_26)]) dX13_commons_54 rfl (by decide) rfl ?_
      refine J_iinc (pc := 55) (v := x2_53_26 + 1) (loc' := [(2, .int (x2_53_26 + 1)), (1, .int (y1_53_26 ||| y0_53_26)), (0, .ref 57)]) 2 dX13_commons_55 rfl rfl (by decide) rfl ?_
      refine J_goto (pc := 58) (tgt := 26) dX13_commons_58 (by decide) ?_
      refine J_loc (loc' := [(0, .ref 57), (1, .int (y1_53_26 ||| y0_53_26)), (2, .int (x2_53_26 + 1))]) [2, 1, 0] rfl ?_
      exact hB26 (y1_53_26 ||| y0_53_26, x2_53_26 + 1)
    refine J_iload_n (pc := 26) 2 dX13_commons_26 rfl rfl ?_
    refine J_aload_n (pc := 27) 0 dX13_commons_27 rfl rfl ?_
    refine J_getR (pc := 28) dX13_commons_28 fl_X13_321 (h0.lt 57 (by decide)) (h0.ty 57 rfl) rfl hla ?_
    refine J_getI (pc := 31) dX13_commons_31 fl_X13_191 (ht.lt 0 (by decide)) (ht.ty 0 rfl) rfl ?_
    refine K_icmp_ge (K := (fun x => Option.bind x k26)) (pc := 34) (tgt := 61) dX13_commons_34 (by decide) (fun z34 => ?_) (fun z34 => ?_)
    · refine J_loc (loc' := [(0, .ref 57), (1, .int s26.1)]) [0, 1] rfl ?_
      exact hX26 s26.1
    · refine J_iload_n (pc := 37) 1 dX13_commons_37 rfl rfl ?_
      refine J_aload_n (pc := 38) 0 dX13_commons_38 rfl rfl ?_
      refine J_iload_n (pc := 39) 2 dX13_commons_39 rfl rfl ?_
      refine JC_pp_i (J_callV (mi := mi_X13_commons) (mj := mi_X13_owners) (pc := 40) dX13_commons_40 ml_X13_342 ok_X13_owners ov_X13_owners ⟨Nat.le_of_ble_eq_true rfl, Nat.le_of_ble_eq_true rfl⟩ rfl (h0.lt 57 (by decide)) (h0.ty 57 rfl) rfl (s_X13_owners g q19 t s26.2 h0 ht hla) rfl (Nat.le_of_ble_eq_true rfl)) (fun q40_26 => ?_)
      refine K_if_ne (K := (fun x => Option.bind x k26)) (pc := 43) (tgt := 52) dX13_commons_43 (by decide) (fun z43 => ?_) (fun z43 => ?_)
      · refine J_iconst (pc := 52) (v := 0) dX13_commons_52 (by decide) ?_
        refine J_loc (loc' := [(0, .ref 57), (2, .int s26.2)]) [0, 2] rfl ?_
        exact hX13_commons_j53_26 s26.2 0 s26.1
      · refine J_iconst (pc := 46) (v := 1) dX13_commons_46 (by decide) ?_
        refine J_iload_n (pc := 47) 2 dX13_commons_47 rfl rfl ?_
        refine J_ishl (pc := 48) dX13_commons_48 ?_
        refine J_goto (pc := 49) (tgt := 53) dX13_commons_49 (by decide) ?_
        refine J_loc (loc' := [(0, .ref 57), (2, .int s26.2)]) [0, 2] rfl ?_
        exact hX13_commons_j53_26 s26.2 ((1 : Int32) <<< (s26.2 &&& 31)) s26.1
  · show J mi_X13_commons 0 0 0 0 (g, q19) 61 [(0, .ref 57), (1, .int e26)] [] (_)
    refine J_aload_n (pc := 61) 0 dX13_commons_61 rfl rfl ?_
    refine J_iload_n (pc := 62) 1 dX13_commons_62 rfl rfl ?_
    refine JC_lt_i (K := (fun x => Option.bind x k)) (J_callV (mi := mi_X13_commons) (mj := mi_X13_good) (pc := 63) dX13_commons_63 ml_X13_52 ok_X13_good ov_X13_good ⟨Nat.le_of_ble_eq_true rfl, Nat.le_of_ble_eq_true rfl⟩ rfl (h0.lt 57 (by decide)) (h0.ty 57 rfl) rfl (s_X13_good g q19 e26 h0) rfl (Nat.le_of_ble_eq_true rfl)) (fun q63 eq63 => ?_)
    exact J_eqo (hk (q63.1, q63.2)) (J_iret (pc := 66) dX13_commons_66 rfl)
def f_X13_richest_j59_27 (t : Nat) (d : JD) (x1_59_27 : Int32) (x2_59_27 : Int32) : Option ((Int32 × Int32) ⊕ (Int32)) := (some (.inl (x1_59_27, x2_59_27 + 1)))
def f_X13_richest_j57_27 (t : Nat) (d : JD) (x2_57_27 : Int32) : Option ((Int32 × Int32) ⊕ (Int32)) := (f_X13_richest_j59_27 t (d) x2_57_27 x2_57_27)
def f_X13_richest_w27 (t : Nat) (d : JD) (s27 : Int32 × Int32) : Option ((Int32 × Int32) ⊕ (Int32)) := (if (((d).1 t) 2) ≤ s27.2 then some (.inr s27.1) else (if s27.1 = (-2) then f_X13_richest_j57_27 t (d) s27.2 else ((f_X13_has ((d).1 60) ((d).1 t) ((d).1 (t + 1)) ((d).1 (t + 2)) ((d).1 (t + 3)) ((d).1 (t + 4)) ((d).1 (t + 5)) s27.2).bind (fun q46_27 => (f_X13_has ((d).1 60) ((d).1 t) ((d).1 (t + 1)) ((d).1 (t + 2)) ((d).1 (t + 3)) ((d).1 (t + 4)) ((d).1 (t + 5)) s27.1).bind (fun q51_27 => if q46_27 ≤ q51_27 then f_X13_richest_j59_27 t (d) s27.1 s27.2 else f_X13_richest_j57_27 t (d) s27.2)))))
def f_X13_richest (t : Nat) (d : JD) : Option (Int32 × JD) := ((f_X13_works (j_sI d 57 0 0)).bind (fun q19 => (j_wh (f_X13_richest_w27 t q19 ) j_fuel ((-2), 0)).bind (fun (e27 : Int32) => (j_let (f_X13_good q19 e27) (fun q67 => some (q67.1, q67.2))))))
set_option maxRecDepth 100000 in
set_option maxHeartbeats 4000000 in
theorem s_X13_richest (g : JG) (d : JD) (t : Nat) (h0 : j_sh g 0 TS_W RS_W) (ht : j_sh g t TS_ML RS_ML) (hla : g.2.2.1 57 3 = some t) : JM mi_X13_richest 0 0 (g, d) [.ref 57] ((f_X13_richest t d ).bind (fun r9 => some (some (.int r9.1), (g, r9.2)))) := by
  refine JM_of (by decide) rfl (Nat.le_of_ble_eq_true rfl) ?_
  refine J_loc (loc' := [(0, .ref 57)]) [0] rfl ?_
  obtain ⟨k, hk, hk2⟩ : ∃ k : Int32 × JD → Option (Option Value × JH), (∀ r9, k r9 = some (some (.int r9.1), (g, r9.2))) ∧ (fun r9 : Int32 × JD => (some (some (.int r9.1), (g, r9.2)) : Option (Option Value × JH))) = k := ⟨_, fun _ => rfl, rfl⟩
  rw [hk2]
  unfold f_X13_richest
  refine J_aload_n (pc := 0) 0 dX13_richest_0 rfl rfl ?_
  refine J_iconst (pc := 1) (v := 0) dX13_richest_1 (by decide) ?_
  refine J_putI (pc := 2) dX13_richest_2 fl_X13_42 ft_12_0 (h0.lt 57 (by decide)) (h0.ty 57 rfl) rfl rfl rfl ?_
  refine J_aload_n (pc := 5) 0 dX13_richest_5 rfl rfl ?_
  refine J_getR (pc := 6) dX13_richest_6 fl_X13_321 (h0.lt 57 (by decide)) (h0.ty 57 rfl) rfl hla ?_
  refine J_ifnonnull (pc := 9) (tgt := 18) dX13_richest_9 (by decide) ?_
  refine J_aload_n (pc := 18) 0 dX13_richest_18 rfl rfl ?_
  refine JC_pe_v (J_callV (mi := mi_X13_richest) (mj := mi_X13_works) (pc := 19) dX13_richest_19 ml_X13_348 ok_X13_works ov_X13_works ⟨Nat.le_of_ble_eq_true rfl, Nat.le_of_ble_eq_true rfl⟩ rfl (h0.lt 57 (by decide)) (h0.ty 57 rfl) rfl (s_X13_works g (j_sI d 57 0 0) h0) rfl (Nat.le_of_ble_eq_true rfl)) (fun q19 => ?_)
  refine J_bipush (pc := 22) (v := (-2)) dX13_richest_22 (by decide) ?_
  refine J_istore_n (pc := 24) (loc' := [(1, .int (-2)), (0, .ref 57)]) dX13_richest_24 rfl (by decide) rfl ?_
  refine J_iconst (pc := 25) (v := 0) dX13_richest_25 (by decide) ?_
  refine J_istore_n (pc := 26) (loc' := [(2, .int 0), (1, .int (-2)), (0, .ref 57)]) dX13_richest_26 rfl (by decide) rfl ?_
  refine J_loc (loc' := [(0, .ref 57), (1, .int (-2)), (2, .int 0)]) [2, 1, 0] rfl ?_
  refine J_whL (F := f_X13_richest_w27 t q19 ) (hp := fun (s27 : Int32 × Int32) => (g, q19)) (lc := fun (s27 : Int32 × Int32) => [(0, .ref 57), (1, .int s27.1), (2, .int s27.2)]) (XJ := fun (e27 : Int32) o9 => J mi_X13_richest 0 0 0 0 (g, q19) 65 [(0, .ref 57), (1, .int e27)] [] o9) (fun s27 k27 hB27 hX27 => ?_) (fun e27 => ?_) _ ((-2), 0)
  · show J mi_X13_richest 0 0 0 0 (g, q19) 27 [(0, .ref 57), (1, .int s27.1), (2, .int s27.2)] [] ((f_X13_richest_w27 t q19 s27).bind k27)
    unfold f_X13_richest_w27
    have hX13_richest_j59_27 : ∀ (x1_59_27 : Int32) (x2_59_27 : Int32), J mi_X13_richest 0 0 0 0 (g, q19) 59 [(0, .ref 57), (1, .int x1_59_27), (2, .int x2_59_27)] [] ((f_X13_richest_j59_27 t q19 x1_59_27 x2_59_27).bind k27) := by
      intro x1_59_27 x2_59_27
      unfold f_X13_richest_j59_27
      refine J_iinc (pc := 59) (v := x2_59_27 + 1) (loc' := [(2, .int (x2_59_27 + 1)), (0, .ref 57), (1, .int x1_59_27)]) 2 dX13_richest_59 rfl rfl (by decide) rfl ?_
      refine J_goto (pc := 62) (tgt := 27) dX13_richest_62 (by decide) ?_
      refine J_loc (loc' := [(0, .ref 57), (1, .int x1_59_27), (2, .int (x2_59_27 + 1))]) [1, 2, 0] rfl ?_
      exact hB27 (x1_59_27, x2_59_27 + 1)
    have hX13_richest_j57_27 : ∀ (x2_57_27 : Int32), J mi_X13_richest 0 0 0 0 (g, q19) 57 [(0, .ref 57), (2, .int x2_57_27)] [] ((f_X13_richest_j57_27 t q19 x2_57_27).bind k27) := by
      intro x2_57_27
      unfold f_X13_richest_j57_27
      refine J_iload_n (pc := 57) 1 dX13_richest_57 rfl rfl ?_
      refine J_istore_n (pc := 58) (loc' := [(1, .int x2_57_27), (0, .ref 57), (2, .int x2_57_27)]) dX13_richest_58 rfl (by decide) rfl ?_
      refine J_loc (loc' := [(0, .ref 57), (1, .int x2_57_27), (2, .int x2_57_27)]) [1, 0, 2] rfl ?_
      exact hX13_richest_j59_27 x2_57_27 x2_57_27
    refine J_iload_n (pc := 27) 2 dX13_richest_27 rfl rfl ?_
    refine J_aload_n (pc := 28) 0 dX13_richest_28 rfl rfl ?_
    refine J_getR (pc := 29) dX13_richest_29 fl_X13_321 (h0.lt 57 (by decide)) (h0.ty 57 rfl) rfl hla ?_
    refine J_getI (pc := 32) dX13_richest_32 fl_X13_229 (ht.lt 0 (by decide)) (ht.ty 0 rfl) rfl ?_
    refine K_icmp_ge (K := (fun x => Option.bind x k27)) (pc := 35) (tgt := 65) dX13_richest_35 (by decide) (fun z35 => ?_) (fun z35 => ?_)
    · refine J_loc (loc' := [(0, .ref 57), (1, .int s27.1)]) [0, 1] rfl ?_
      exact hX27 s27.1
    · refine J_iload_n (pc := 38) 1 dX13_richest_38 rfl rfl ?_
      refine J_bipush (pc := 39) (v := (-2)) dX13_richest_39 (by decide) ?_
      refine K_icmp_eq (K := (fun x => Option.bind x k27)) (pc := 41) (tgt := 57) dX13_richest_41 (by decide) (fun z41 => ?_) (fun z41 => ?_)
      · refine J_loc (loc' := [(0, .ref 57), (2, .int s27.2)]) [0, 2] rfl ?_
        exact hX13_richest_j57_27 s27.2
      · refine J_aload_n (pc := 44) 0 dX13_richest_44 rfl rfl ?_
        refine J_iload_n (pc := 45) 2 dX13_richest_45 rfl rfl ?_
        refine JC_pp_i (J_callV (mi := mi_X13_richest) (mj := mi_X13_has) (pc := 46) dX13_richest_46 ml_X13_354 ok_X13_has ov_X13_has ⟨Nat.le_of_ble_eq_true rfl, Nat.le_of_ble_eq_true rfl⟩ rfl (h0.lt 57 (by decide)) (h0.ty 57 rfl) rfl (s_X13_has g q19 t s27.2 h0 ht hla) rfl (Nat.le_of_ble_eq_true rfl)) (fun q46_27 => ?_)
        refine J_aload_n (pc := 49) 0 dX13_richest_49 rfl rfl ?_
        refine J_iload_n (pc := 50) 1 dX13_richest_50 rfl rfl ?_
        refine JC_pp_i (J_callV (mi := mi_X13_richest) (mj := mi_X13_has) (pc := 51) dX13_richest_51 ml_X13_354 ok_X13_has ov_X13_has ⟨Nat.le_of_ble_eq_true rfl, Nat.le_of_ble_eq_true rfl⟩ rfl (h0.lt 57 (by decide)) (h0.ty 57 rfl) rfl (s_X13_has g q19 t s27.1 h0 ht hla) rfl (Nat.le_of_ble_eq_true rfl)) (fun q51_27 => ?_)
        refine K_icmp_le (K := (fun x => Option.bind x k27)) (pc := 54) (tgt := 59) dX13_richest_54 (by decide) (fun z54 => ?_) (fun z54 => ?_)
        · exact hX13_richest_j59_27 s27.1 s27.2
        · refine J_loc (loc' := [(0, .ref 57), (2, .int s27.2)]) [0, 2] rfl ?_
          exact hX13_richest_j57_27 s27.2
  · show J mi_X13_richest 0 0 0 0 (g, q19) 65 [(0, .ref 57), (1, .int e27)] [] (_)
    refine J_aload_n (pc := 65) 0 dX13_richest_65 rfl rfl ?_
    refine J_iload_n (pc := 66) 1 dX13_richest_66 rfl rfl ?_
    refine JC_lt_i (K := (fun x => Option.bind x k)) (J_callV (mi := mi_X13_richest) (mj := mi_X13_good) (pc := 67) dX13_richest_67 ml_X13_52 ok_X13_good ov_X13_good ⟨Nat.le_of_ble_eq_true rfl, Nat.le_of_ble_eq_true rfl⟩ rfl (h0.lt 57 (by decide)) (h0.ty 57 rfl) rfl (s_X13_good g q19 e27 h0) rfl (Nat.le_of_ble_eq_true rfl)) (fun q67 eq67 => ?_)
    exact J_eqo (hk (q67.1, q67.2)) (J_iret (pc := 70) dX13_richest_70 rfl)
def f_X13_ground (t : Nat) (d : JD) : Int32 × JD := (j_let (f_X13_good (j_sI d 57 0 0) ((d.1 59) 6)) (fun q28 => (q28.1, q28.2)))
set_option maxRecDepth 100000 in
set_option maxHeartbeats 4000000 in
theorem s_X13_ground (g : JG) (d : JD) (t : Nat) (h0 : j_sh g 0 TS_W RS_W) (ht : j_sh g t TS_ML RS_ML) (hla : g.2.2.1 57 3 = some t) : JM mi_X13_ground 0 0 (g, d) [.ref 57] (some (some (.int (f_X13_ground t d ).1), (g, (f_X13_ground t d ).2))) := by
  refine JM_of (by decide) rfl (Nat.le_of_ble_eq_true rfl) ?_
  refine J_loc (loc' := [(0, .ref 57)]) [0] rfl ?_
  obtain ⟨k, hk⟩ : ∃ k : Int32 × JD → Option (Option Value × JH), ∀ r9, k r9 = some (some (.int r9.1), (g, r9.2)) := ⟨_, fun _ => rfl⟩
  refine J_eqo (hk (f_X13_ground t d )).symm ?_
  unfold f_X13_ground
  refine J_aload_n (pc := 0) 0 dX13_ground_0 rfl rfl ?_
  refine J_iconst (pc := 1) (v := 0) dX13_ground_1 (by decide) ?_
  refine J_putI (pc := 2) dX13_ground_2 fl_X13_42 ft_12_0 (h0.lt 57 (by decide)) (h0.ty 57 rfl) rfl rfl rfl ?_
  refine J_aload_n (pc := 5) 0 dX13_ground_5 rfl rfl ?_
  refine J_getR (pc := 6) dX13_ground_6 fl_X13_321 (h0.lt 57 (by decide)) (h0.ty 57 rfl) rfl hla ?_
  refine J_ifnonnull (pc := 9) (tgt := 20) dX13_ground_9 (by decide) ?_
  refine J_aload_n (pc := 20) 0 dX13_ground_20 rfl rfl ?_
  refine J_aload_n (pc := 21) 0 dX13_ground_21 rfl rfl ?_
  refine J_getR (pc := 22) dX13_ground_22 fl_X13_17 (h0.lt 57 (by decide)) (h0.ty 57 rfl) rfl (h0.rf 56 rfl) ?_
  refine J_bipush (pc := 25) (v := 6) dX13_ground_25 (by decide) ?_
  refine J_iald (pc := 27) dX13_ground_27 (h0.lt 59 (by decide)) (h0.ty 59 rfl) (show vp_in _ _ from by unfold vp_in; decide) ?_
  refine J_val (y := (d.1 59) 6) rfl ?_
  refine JC_lt_i (K := k) (J_callV (mi := mi_X13_ground) (mj := mi_X13_good) (pc := 28) dX13_ground_28 ml_X13_52 ok_X13_good ov_X13_good ⟨Nat.le_of_ble_eq_true rfl, Nat.le_of_ble_eq_true rfl⟩ rfl (h0.lt 57 (by decide)) (h0.ty 57 rfl) rfl (s_X13_good g (j_sI d 57 0 0) ((d.1 59) 6) h0) rfl (Nat.le_of_ble_eq_true rfl)) (fun q28 eq28 => ?_)
  exact J_eqo (hk (q28.1, q28.2)) (J_iret (pc := 31) dX13_ground_31 rfl)
def f_X13_hasIf_j21 (t : Nat) (d21 : JD) : Option (Int32 × JD) := (j_let (f_X13_refused d21 1) (fun q23 => some (q23.1, q23.2)))
def f_X13_hasIf (t : Nat) (d : JD) (pq0 : Int32) (pq1 : Int32) (pq2 : Int32) : Option (Int32 × JD) := (if (f_X13_isPerson ((j_sI d 57 0 0).1 t) pq0) = true then (if (f_X13_isGate ((j_sI d 57 0 0).1 t) pq1) = true then (if (f_X13_in pq2 0 2) = true then ((f_X13_works (j_sI d 57 0 0)).bind (fun q43 => if j_out pq1 6 then none else (f_X13_has ((j_sI q43 60 pq1.toNatClampNeg pq2).1 60) ((j_sI q43 60 pq1.toNatClampNeg pq2).1 t) ((j_sI q43 60 pq1.toNatClampNeg pq2).1 (t + 1)) ((j_sI q43 60 pq1.toNatClampNeg pq2).1 (t + 2)) ((j_sI q43 60 pq1.toNatClampNeg pq2).1 (t + 3)) ((j_sI q43 60 pq1.toNatClampNeg pq2).1 (t + 4)) ((j_sI q43 60 pq1.toNatClampNeg pq2).1 (t + 5)) pq0).bind (fun q56 => j_let (f_X13_good (j_sI q43 60 pq1.toNatClampNeg pq2) q56) (fun q59 => some (q59.1, q59.2))))) else (j_let (f_X13_refused (j_sI d 57 0 0) 2) (fun q38 => some (q38.1, q38.2)))) else f_X13_hasIf_j21 t (j_sI d 57 0 0) ) else f_X13_hasIf_j21 t (j_sI d 57 0 0) )
set_option maxRecDepth 100000 in
set_option maxHeartbeats 4000000 in
theorem s_X13_hasIf (g : JG) (d : JD) (t : Nat) (pq0 : Int32) (pq1 : Int32) (pq2 : Int32) (h0 : j_sh g 0 TS_W RS_W) (ht : j_sh g t TS_ML RS_ML) (hla : g.2.2.1 57 3 = some t) : JM mi_X13_hasIf 0 0 (g, d) [.ref 57, .int pq0, .int pq1, .int pq2] ((f_X13_hasIf t d pq0 pq1 pq2).bind (fun r9 => some (some (.int r9.1), (g, r9.2)))) := by
  refine JM_of (by decide) rfl (Nat.le_of_ble_eq_true rfl) ?_
  refine J_loc (loc' := [(0, .ref 57), (1, .int pq0), (2, .int pq1), (3, .int pq2)]) [0, 1, 2, 3] rfl ?_
  obtain ⟨k, hk, hk2⟩ : ∃ k : Int32 × JD → Option (Option Value × JH), (∀ r9, k r9 = some (some (.int r9.1), (g, r9.2))) ∧ (fun r9 : Int32 × JD => (some (some (.int r9.1), (g, r9.2)) : Option (Option Value × JH))) = k := ⟨_, fun _ => rfl, rfl⟩
  rw [hk2]
  unfold f_X13_hasIf
  have hX13_hasIf_j21 : ∀ (d21 : JD) , J mi_X13_hasIf 0 0 0 0 (g, d21) 21 [(0, .ref 57)] [] ((f_X13_hasIf_j21 t d21 ).bind k) := by
    intro d21 
    unfold f_X13_hasIf_j21
    refine J_aload_n (pc := 21) 0 dX13_hasIf_21 rfl rfl ?_
    refine J_iconst (pc := 22) (v := 1) dX13_hasIf_22 (by decide) ?_
    refine JC_lt_i (K := (fun x => Option.bind x k)) (J_callV (mi := mi_X13_hasIf) (mj := mi_X13_refused) (pc := 23) dX13_hasIf_23 ml_X13_48 ok_X13_refused ov_X13_refused ⟨Nat.le_of_ble_eq_true rfl, Nat.le_of_ble_eq_true rfl⟩ rfl (h0.lt 57 (by decide)) (h0.ty 57 rfl) rfl (s_X13_refused g d21 1 h0) rfl (Nat.le_of_ble_eq_true rfl)) (fun q23 eq23 => ?_)
    exact J_eqo (hk (q23.1, q23.2)) (J_iret (pc := 26) dX13_hasIf_26 rfl)
  refine J_aload_n (pc := 0) 0 dX13_hasIf_0 rfl rfl ?_
  refine J_iconst (pc := 1) (v := 0) dX13_hasIf_1 (by decide) ?_
  refine J_putI (pc := 2) dX13_hasIf_2 fl_X13_42 ft_12_0 (h0.lt 57 (by decide)) (h0.ty 57 rfl) rfl rfl rfl ?_
  refine J_aload_n (pc := 5) 0 dX13_hasIf_5 rfl rfl ?_
  refine J_iload_n (pc := 6) 1 dX13_hasIf_6 rfl rfl ?_
  refine JC_pt_i (J_callV (mi := mi_X13_hasIf) (mj := mi_X13_isPerson) (pc := 7) dX13_hasIf_7 ml_X13_351 ok_X13_isPerson ov_X13_isPerson ⟨Nat.le_of_ble_eq_true rfl, Nat.le_of_ble_eq_true rfl⟩ rfl (h0.lt 57 (by decide)) (h0.ty 57 rfl) rfl (s_X13_isPerson g (j_sI d 57 0 0) t pq0 h0 ht hla) rfl (Nat.le_of_ble_eq_true rfl)) ?_
  refine K_ifeq_b (K := (fun x => Option.bind x k)) (pc := 10) (tgt := 21) dX13_hasIf_10 (by decide) (fun z10 => ?_) (fun z10 => ?_)
  · refine J_loc (loc' := [(0, .ref 57)]) [0] rfl ?_
    exact hX13_hasIf_j21 (j_sI d 57 0 0) 
  · refine J_aload_n (pc := 13) 0 dX13_hasIf_13 rfl rfl ?_
    refine J_iload_n (pc := 14) 2 dX13_hasIf_14 rfl rfl ?_
    refine JC_pt_i (J_callV (mi := mi_X13_hasIf) (mj := mi_X13_isGate) (pc := 15) dX13_hasIf_15 ml_X13_345 ok_X13_isGate ov_X13_isGate ⟨Nat.le_of_ble_eq_true rfl, Nat.le_of_ble_eq_true rfl⟩ rfl (h0.lt 57 (by decide)) (h0.ty 57 rfl) rfl (s_X13_isGate g (j_sI d 57 0 0) t pq1 h0 ht hla) rfl (Nat.le_of_ble_eq_true rfl)) ?_
    refine K_ifne_b (K := (fun x => Option.bind x k)) (pc := 18) (tgt := 27) dX13_hasIf_18 (by decide) (fun z18 => ?_) (fun z18 => ?_)
    · refine J_iload_n (pc := 27) 3 dX13_hasIf_27 rfl rfl ?_
      refine J_iconst (pc := 28) (v := 0) dX13_hasIf_28 (by decide) ?_
      refine J_iconst (pc := 29) (v := 2) dX13_hasIf_29 (by decide) ?_
      refine JC_pt_i (J_callS (mi := mi_X13_hasIf) (mj := mi_X13_in) (pc := 30) dX13_hasIf_30 ml_X13_121 ok_X13_in os_X13_in ⟨Nat.le_of_ble_eq_true rfl, Nat.le_of_ble_eq_true rfl⟩ rfl (s_X13_in g (j_sI d 57 0 0) pq2 0 2) rfl (Nat.le_of_ble_eq_true rfl)) ?_
      refine K_ifne_b (K := (fun x => Option.bind x k)) (pc := 33) (tgt := 42) dX13_hasIf_33 (by decide) (fun z33 => ?_) (fun z33 => ?_)
      · refine J_aload_n (pc := 42) 0 dX13_hasIf_42 rfl rfl ?_
        refine JC_pe_v (J_callV (mi := mi_X13_hasIf) (mj := mi_X13_works) (pc := 43) dX13_hasIf_43 ml_X13_348 ok_X13_works ov_X13_works ⟨Nat.le_of_ble_eq_true rfl, Nat.le_of_ble_eq_true rfl⟩ rfl (h0.lt 57 (by decide)) (h0.ty 57 rfl) rfl (s_X13_works g (j_sI d 57 0 0) h0) rfl (Nat.le_of_ble_eq_true rfl)) (fun q43 => ?_)
        refine J_aload_n (pc := 46) 0 dX13_hasIf_46 rfl rfl ?_
        refine J_getR (pc := 47) dX13_hasIf_47 fl_X13_21 (h0.lt 57 (by decide)) (h0.ty 57 rfl) rfl (h0.rf 57 rfl) ?_
        refine J_iload_n (pc := 50) 2 dX13_hasIf_50 rfl rfl ?_
        refine J_iload_n (pc := 51) 3 dX13_hasIf_51 rfl rfl ?_
        refine J_guard (fun z52 => ?_)
        refine J_iast (pc := 52) dX13_hasIf_52 (h0.lt 60 (by decide)) (h0.ty 60 rfl) z52 ?_
        refine J_aload_n (pc := 53) 0 dX13_hasIf_53 rfl rfl ?_
        refine J_aload_n (pc := 54) 0 dX13_hasIf_54 rfl rfl ?_
        refine J_iload_n (pc := 55) 1 dX13_hasIf_55 rfl rfl ?_
        refine JC_pp_i (J_callV (mi := mi_X13_hasIf) (mj := mi_X13_has) (pc := 56) dX13_hasIf_56 ml_X13_354 ok_X13_has ov_X13_has ⟨Nat.le_of_ble_eq_true rfl, Nat.le_of_ble_eq_true rfl⟩ rfl (h0.lt 57 (by decide)) (h0.ty 57 rfl) rfl (s_X13_has g (j_sI q43 60 pq1.toNatClampNeg pq2) t pq0 h0 ht hla) rfl (Nat.le_of_ble_eq_true rfl)) (fun q56 => ?_)
        refine JC_lt_i (K := (fun x => Option.bind x k)) (J_callV (mi := mi_X13_hasIf) (mj := mi_X13_good) (pc := 59) dX13_hasIf_59 ml_X13_52 ok_X13_good ov_X13_good ⟨Nat.le_of_ble_eq_true rfl, Nat.le_of_ble_eq_true rfl⟩ rfl (h0.lt 57 (by decide)) (h0.ty 57 rfl) rfl (s_X13_good g (j_sI q43 60 pq1.toNatClampNeg pq2) q56 h0) rfl (Nat.le_of_ble_eq_true rfl)) (fun q59 eq59 => ?_)
        exact J_eqo (hk (q59.1, q59.2)) (J_iret (pc := 62) dX13_hasIf_62 rfl)
      · refine J_aload_n (pc := 36) 0 dX13_hasIf_36 rfl rfl ?_
        refine J_iconst (pc := 37) (v := 2) dX13_hasIf_37 (by decide) ?_
        refine JC_lt_i (K := (fun x => Option.bind x k)) (J_callV (mi := mi_X13_hasIf) (mj := mi_X13_refused) (pc := 38) dX13_hasIf_38 ml_X13_48 ok_X13_refused ov_X13_refused ⟨Nat.le_of_ble_eq_true rfl, Nat.le_of_ble_eq_true rfl⟩ rfl (h0.lt 57 (by decide)) (h0.ty 57 rfl) rfl (s_X13_refused g (j_sI d 57 0 0) 2 h0) rfl (Nat.le_of_ble_eq_true rfl)) (fun q38 eq38 => ?_)
        exact J_eqo (hk (q38.1, q38.2)) (J_iret (pc := 41) dX13_hasIf_41 rfl)
    · refine J_loc (loc' := [(0, .ref 57)]) [0] rfl ?_
      exact hX13_hasIf_j21 (j_sI d 57 0 0) 
def f_X13_canMove (r_59 : Nat → Int32) (r_60 : Nat → Int32) (r_t0 : Nat → Int32) (r_t3 : Nat → Int32) (pq0 : Int32) : Option (Bool) := (if (r_t0 4) = 0 then none else j_let (pq0 - pq0 / (r_t0 4) * (r_t0 4)) (fun v2_9 => if j_out v2_9 6 then none else if (r_t3 v2_9.toNatClampNeg) = 2 then (some false) else (if (r_t0 4) = 0 then none else if 2 ≤ (pq0 / (r_t0 4)) then (if j_out v2_9 6 then none else if (r_60 v2_9.toNatClampNeg) ≤ 0 then (some false) else (some true)) else (if j_out v2_9 6 then none else if (r_60 v2_9.toNatClampNeg) = 0 then ((f_X13_hung r_60 r_t0).bind (fun q48 => (f_X13_hooks r_59 r_t0).bind (fun q52 => if q52 ≤ q48 then (some false) else (some true)))) else (some false)))))
set_option maxRecDepth 100000 in
set_option maxHeartbeats 4000000 in
theorem s_X13_canMove (g : JG) (d : JD) (t : Nat) (pq0 : Int32) (h0 : j_sh g 0 TS_W RS_W) (ht : j_sh g t TS_ML RS_ML) (hla : g.2.2.1 57 3 = some t) : JM mi_X13_canMove 0 0 (g, d) [.ref 57, .int pq0] ((f_X13_canMove (d.1 59) (d.1 60) (d.1 t) (d.1 (t + 3)) pq0).bind (fun r9 => some (some (.int (j_b r9)), (g, d)))) := by
  refine JM_of (by decide) rfl (Nat.le_of_ble_eq_true rfl) ?_
  refine J_loc (loc' := [(0, .ref 57), (1, .int pq0)]) [0, 1] rfl ?_
  obtain ⟨k, hk, hk2⟩ : ∃ k : Bool → Option (Option Value × JH), (∀ r9, k r9 = some (some (.int (j_b r9)), (g, d))) ∧ (fun r9 : Bool => (some (some (.int (j_b r9)), (g, d)) : Option (Option Value × JH))) = k := ⟨_, fun _ => rfl, rfl⟩
  rw [hk2]
  unfold f_X13_canMove
  refine J_iload_n (pc := 0) 1 dX13_canMove_0 rfl rfl ?_
  refine J_aload_n (pc := 1) 0 dX13_canMove_1 rfl rfl ?_
  refine J_getR (pc := 2) dX13_canMove_2 fl_X13_321 (h0.lt 57 (by decide)) (h0.ty 57 rfl) rfl hla ?_
  refine J_getI (pc := 5) dX13_canMove_5 fl_X13_191 (ht.lt 0 (by decide)) (ht.ty 0 rfl) rfl ?_
  refine J_nz (z0 := 0) (fun z8 => ?_)
  refine J_irem (pc := 8) dX13_canMove_8 z8 ?_
  refine J_let (K := (fun x => Option.bind x k)) (fun v2_9 ev2_9 => ?_)
  refine J_val ev2_9.symm ?_
  refine J_istore_n (pc := 9) (loc' := [(2, .int v2_9), (0, .ref 57), (1, .int pq0)]) dX13_canMove_9 rfl (by decide) rfl ?_
  refine J_aload_n (pc := 10) 1 dX13_canMove_10 rfl rfl ?_
  refine J_getR (pc := 11) dX13_canMove_11 fl_X13_321 (h0.lt 57 (by decide)) (h0.ty 57 rfl) rfl hla ?_
  refine J_getR (pc := 14) dX13_canMove_14 fl_X13_275 (ht.lt 0 (by decide)) (ht.ty 0 rfl) rfl (ht.rf 2 rfl) ?_
  refine J_iload_n (pc := 17) 0 dX13_canMove_17 rfl rfl ?_
  refine J_guard (fun z18 => ?_)
  refine J_iald (pc := 18) dX13_canMove_18 (ht.lt 3 (by decide)) (ht.ty 3 rfl) z18 ?_
  refine J_iconst (pc := 19) (v := 2) dX13_canMove_19 (by decide) ?_
  refine K_icmp_ne (K := (fun x => Option.bind x k)) (pc := 20) (tgt := 25) dX13_canMove_20 (by decide) (fun z20 => ?_) (fun z20 => ?_)
  · refine J_iload_n (pc := 25) 2 dX13_canMove_25 rfl rfl ?_
    refine J_aload_n (pc := 26) 1 dX13_canMove_26 rfl rfl ?_
    refine J_getR (pc := 27) dX13_canMove_27 fl_X13_321 (h0.lt 57 (by decide)) (h0.ty 57 rfl) rfl hla ?_
    refine J_getI (pc := 30) dX13_canMove_30 fl_X13_191 (ht.lt 0 (by decide)) (ht.ty 0 rfl) rfl ?_
    refine J_nz (z0 := 0) (fun z33 => ?_)
    refine J_idiv (pc := 33) dX13_canMove_33 z33 ?_
    refine J_iconst (pc := 34) (v := 2) dX13_canMove_34 (by decide) ?_
    refine K_icmp_ge (K := (fun x => Option.bind x k)) (pc := 35) (tgt := 66) dX13_canMove_35 (by decide) (fun z35 => ?_) (fun z35 => ?_)
    · refine J_aload_n (pc := 66) 1 dX13_canMove_66 rfl rfl ?_
      refine J_getR (pc := 67) dX13_canMove_67 fl_X13_21 (h0.lt 57 (by decide)) (h0.ty 57 rfl) rfl (h0.rf 57 rfl) ?_
      refine J_iload_n (pc := 70) 0 dX13_canMove_70 rfl rfl ?_
      refine J_guard (fun z71 => ?_)
      refine J_iald (pc := 71) dX13_canMove_71 (h0.lt 60 (by decide)) (h0.ty 60 rfl) z71 ?_
      refine K_if_le (K := (fun x => Option.bind x k)) (pc := 72) (tgt := 79) dX13_canMove_72 (by decide) (fun z72 => ?_) (fun z72 => ?_)
      · refine J_iconst (pc := 79) (v := 0) dX13_canMove_79 (by decide) ?_
        exact J_eqo (hk false) (J_zretB (pc := 80) dX13_canMove_80 rfl)
      · refine J_iconst (pc := 75) (v := 1) dX13_canMove_75 (by decide) ?_
        refine J_goto (pc := 76) (tgt := 80) dX13_canMove_76 (by decide) ?_
        exact J_eqo (hk true) (J_zretB (pc := 80) dX13_canMove_80 rfl)
    · refine J_aload_n (pc := 38) 1 dX13_canMove_38 rfl rfl ?_
      refine J_getR (pc := 39) dX13_canMove_39 fl_X13_21 (h0.lt 57 (by decide)) (h0.ty 57 rfl) rfl (h0.rf 57 rfl) ?_
      refine J_iload_n (pc := 42) 0 dX13_canMove_42 rfl rfl ?_
      refine J_guard (fun z43 => ?_)
      refine J_iald (pc := 43) dX13_canMove_43 (h0.lt 60 (by decide)) (h0.ty 60 rfl) z43 ?_
      refine K_if_ne (K := (fun x => Option.bind x k)) (pc := 44) (tgt := 62) dX13_canMove_44 (by decide) (fun z44 => ?_) (fun z44 => ?_)
      · refine J_iconst (pc := 62) (v := 0) dX13_canMove_62 (by decide) ?_
        refine J_goto (pc := 63) (tgt := 80) dX13_canMove_63 (by decide) ?_
        exact J_eqo (hk false) (J_zretB (pc := 80) dX13_canMove_80 rfl)
      · refine J_aload_n (pc := 47) 1 dX13_canMove_47 rfl rfl ?_
        refine JC_pp_i (J_callV (mi := mi_X13_canMove) (mj := mi_X13_hung) (pc := 48) dX13_canMove_48 ml_X13_369 ok_X13_hung ov_X13_hung ⟨Nat.le_of_ble_eq_true rfl, Nat.le_of_ble_eq_true rfl⟩ rfl (h0.lt 57 (by decide)) (h0.ty 57 rfl) rfl (s_X13_hung g d t h0 ht hla) rfl (Nat.le_of_ble_eq_true rfl)) (fun q48 => ?_)
        refine J_aload_n (pc := 51) 1 dX13_canMove_51 rfl rfl ?_
        refine JC_pp_i (J_callV (mi := mi_X13_canMove) (mj := mi_X13_hooks) (pc := 52) dX13_canMove_52 ml_X13_372 ok_X13_hooks ov_X13_hooks ⟨Nat.le_of_ble_eq_true rfl, Nat.le_of_ble_eq_true rfl⟩ rfl (h0.lt 57 (by decide)) (h0.ty 57 rfl) rfl (s_X13_hooks g d t h0 ht hla) rfl (Nat.le_of_ble_eq_true rfl)) (fun q52 => ?_)
        refine K_icmp_ge (K := (fun x => Option.bind x k)) (pc := 55) (tgt := 62) dX13_canMove_55 (by decide) (fun z55 => ?_) (fun z55 => ?_)
        · refine J_iconst (pc := 62) (v := 0) dX13_canMove_62 (by decide) ?_
          refine J_goto (pc := 63) (tgt := 80) dX13_canMove_63 (by decide) ?_
          exact J_eqo (hk false) (J_zretB (pc := 80) dX13_canMove_80 rfl)
        · refine J_iconst (pc := 58) (v := 1) dX13_canMove_58 (by decide) ?_
          refine J_goto (pc := 59) (tgt := 80) dX13_canMove_59 (by decide) ?_
          exact J_eqo (hk true) (J_zretB (pc := 80) dX13_canMove_80 rfl)
  · refine J_iconst (pc := 23) (v := 0) dX13_canMove_23 (by decide) ?_
    exact J_eqo (hk false) (J_zretB (pc := 24) dX13_canMove_24 rfl)
def f_X13_moves_j59 (t : Nat) (d59 : JD) (y0_59 : Int32) (y1_59 : Int32) : Option (JD) := (if j_out y1_59 6 then none else some (j_sI d59 60 y1_59.toNatClampNeg y0_59))
def f_X13_moves (t : Nat) (d : JD) (pq0 : Int32) : Option (JD) := (if ((d.1 t) 4) = 0 then none else j_let (pq0 - pq0 / ((d.1 t) 4) * ((d.1 t) 4)) (fun v2_9 => if ((d.1 t) 4) = 0 then none else if (pq0 / ((d.1 t) 4)) = 0 then (f_X13_moves_j59 t d 1 v2_9) else (if (pq0 / ((d.1 t) 4)) = 1 then (f_X13_moves_j59 t d 2 v2_9) else (if (pq0 / ((d.1 t) 4)) = 2 then (f_X13_moves_j59 t d 0 v2_9) else (if j_out v2_9 6 then none else f_X13_moves_j59 t d ((3 : Int32) - ((d.1 60) v2_9.toNatClampNeg)) v2_9)))))
set_option maxRecDepth 100000 in
set_option maxHeartbeats 4000000 in
theorem s_X13_moves (g : JG) (d : JD) (t : Nat) (pq0 : Int32) (h0 : j_sh g 0 TS_W RS_W) (ht : j_sh g t TS_ML RS_ML) (hla : g.2.2.1 57 3 = some t) : JM mi_X13_moves 0 0 (g, d) [.ref 57, .int pq0] ((f_X13_moves t d pq0).bind (fun r9 => some (none, (g, r9)))) := by
  refine JM_of (by decide) rfl (Nat.le_of_ble_eq_true rfl) ?_
  refine J_loc (loc' := [(0, .ref 57), (1, .int pq0)]) [0, 1] rfl ?_
  obtain ⟨k, hk, hk2⟩ : ∃ k : JD → Option (Option Value × JH), (∀ r9, k r9 = some (none, (g, r9))) ∧ (fun r9 : JD => (some (none, (g, r9)) : Option (Option Value × JH))) = k := ⟨_, fun _ => rfl, rfl⟩
  rw [hk2]
  unfold f_X13_moves
  have hX13_moves_j59 : ∀ (d59 : JD) (y0_59 : Int32) (y1_59 : Int32), J mi_X13_moves 0 0 0 0 (g, d59) 59 [] [.int y0_59, .int y1_59, .ref 60] ((f_X13_moves_j59 t d59 y0_59 y1_59).bind k) := by
    intro d59 y0_59 y1_59
    unfold f_X13_moves_j59
    refine J_guard (fun z59 => ?_)
    refine J_iast (pc := 59) dX13_moves_59 (h0.lt 60 (by decide)) (h0.ty 60 rfl) z59 ?_
    exact J_eqo (hk (j_sI d59 60 y1_59.toNatClampNeg y0_59)) (J_vret (pc := 60) dX13_moves_60 rfl)
  refine J_iload_n (pc := 0) 1 dX13_moves_0 rfl rfl ?_
  refine J_aload_n (pc := 1) 0 dX13_moves_1 rfl rfl ?_
  refine J_getR (pc := 2) dX13_moves_2 fl_X13_321 (h0.lt 57 (by decide)) (h0.ty 57 rfl) rfl hla ?_
  refine J_getI (pc := 5) dX13_moves_5 fl_X13_191 (ht.lt 0 (by decide)) (ht.ty 0 rfl) rfl ?_
  refine J_nz (z0 := 0) (fun z8 => ?_)
  refine J_irem (pc := 8) dX13_moves_8 z8 ?_
  refine J_let (K := (fun x => Option.bind x k)) (fun v2_9 ev2_9 => ?_)
  refine J_val ev2_9.symm ?_
  refine J_istore_n (pc := 9) (loc' := [(2, .int v2_9), (0, .ref 57), (1, .int pq0)]) dX13_moves_9 rfl (by decide) rfl ?_
  refine J_iload_n (pc := 10) 2 dX13_moves_10 rfl rfl ?_
  refine J_aload_n (pc := 11) 1 dX13_moves_11 rfl rfl ?_
  refine J_getR (pc := 12) dX13_moves_12 fl_X13_321 (h0.lt 57 (by decide)) (h0.ty 57 rfl) rfl hla ?_
  refine J_getI (pc := 15) dX13_moves_15 fl_X13_191 (ht.lt 0 (by decide)) (ht.ty 0 rfl) rfl ?_
  refine J_nz (z0 := 0) (fun z18 => ?_)
  refine J_idiv (pc := 18) dX13_moves_18 z18 ?_
  refine J_istore_n (pc := 19) (loc' := [(3, .int (pq0 / ((d.1 t) 4))), (2, .int v2_9), (0, .ref 57), (1, .int pq0)]) dX13_moves_19 rfl (by decide) rfl ?_
  refine J_aload_n (pc := 20) 2 dX13_moves_20 rfl rfl ?_
  refine J_getR (pc := 21) dX13_moves_21 fl_X13_21 (h0.lt 57 (by decide)) (h0.ty 57 rfl) rfl (h0.rf 57 rfl) ?_
  refine J_iload_n (pc := 24) 1 dX13_moves_24 rfl rfl ?_
  refine J_iload_n (pc := 25) 0 dX13_moves_25 rfl rfl ?_
  refine K_if_ne (K := (fun x => Option.bind x k)) (pc := 26) (tgt := 33) dX13_moves_26 (by decide) (fun z26 => ?_) (fun z26 => ?_)
  · refine J_iload_n (pc := 33) 0 dX13_moves_33 rfl rfl ?_
    refine J_iconst (pc := 34) (v := 1) dX13_moves_34 (by decide) ?_
    refine K_icmp_ne (K := (fun x => Option.bind x k)) (pc := 35) (tgt := 42) dX13_moves_35 (by decide) (fun z35 => ?_) (fun z35 => ?_)
    · refine J_iload_n (pc := 42) 0 dX13_moves_42 rfl rfl ?_
      refine J_iconst (pc := 43) (v := 2) dX13_moves_43 (by decide) ?_
      refine K_icmp_ne (K := (fun x => Option.bind x k)) (pc := 44) (tgt := 51) dX13_moves_44 (by decide) (fun z44 => ?_) (fun z44 => ?_)
      · refine J_iconst (pc := 51) (v := 3) dX13_moves_51 (by decide) ?_
        refine J_aload_n (pc := 52) 2 dX13_moves_52 rfl rfl ?_
        refine J_getR (pc := 53) dX13_moves_53 fl_X13_21 (h0.lt 57 (by decide)) (h0.ty 57 rfl) rfl (h0.rf 57 rfl) ?_
        refine J_iload_n (pc := 56) 1 dX13_moves_56 rfl rfl ?_
        refine J_guard (fun z57 => ?_)
        refine J_iald (pc := 57) dX13_moves_57 (h0.lt 60 (by decide)) (h0.ty 60 rfl) z57 ?_
        refine J_isub (pc := 58) dX13_moves_58 ?_
        refine J_loc (loc' := []) [] rfl ?_
        exact hX13_moves_j59 d ((3 : Int32) - ((d.1 60) v2_9.toNatClampNeg)) v2_9
      · refine J_iconst (pc := 47) (v := 0) dX13_moves_47 (by decide) ?_
        refine J_goto (pc := 48) (tgt := 59) dX13_moves_48 (by decide) ?_
        refine J_loc (loc' := []) [] rfl ?_
        exact hX13_moves_j59 d 0 v2_9
    · refine J_iconst (pc := 38) (v := 2) dX13_moves_38 (by decide) ?_
      refine J_goto (pc := 39) (tgt := 59) dX13_moves_39 (by decide) ?_
      refine J_loc (loc' := []) [] rfl ?_
      exact hX13_moves_j59 d 2 v2_9
  · refine J_iconst (pc := 29) (v := 1) dX13_moves_29 (by decide) ?_
    refine J_goto (pc := 30) (tgt := 59) dX13_moves_30 (by decide) ?_
    refine J_loc (loc' := []) [] rfl ?_
    exact hX13_moves_j59 d 1 v2_9
