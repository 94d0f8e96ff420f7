def f_X6_readNewName_j19 (d19 : JD) : Option (Bool × JD) := (j_let (f_X6_fail d19 1) (fun q21 => some (q21.1, q21.2)))
def f_X6_readNewName_j101 (d101 : JD) : Option (Bool × JD) := ((f_X9_advance d101).bind (fun q105 => some (true, q105)))
def f_X6_readNewName (d : JD) (pq0 : Int32) (pq1 : Int32) : Option (Bool × JD) := (if ((d.1 1) 4) = 1 then ((f_X6_lineOf (d.1 1) (d.1 2)).bind (fun q12 => if q12 = (-1) then ((f_X6_nameIndex (d.1 3) (d.2 1) (d.2 19)).bind (fun q26 => if q26 = (-1) then (if 15 ≤ ((d.1 3) 6) then f_X6_readNewName_j101 d else (if ((d.1 3) 6) < 0 then f_X6_readNewName_j101 d else (f_X6_readNewName_j101 (j_sI (j_sI (j_sI (j_sL d 19 (((d.1 3) 6).toNatClampNeg) ((d.2 1) 6)) 20 (((d.1 3) 6).toNatClampNeg) pq0) 21 (((d.1 3) 6).toNatClampNeg) pq1) 3 6 (((d.1 3) 6) + 1)) ))) else (j_let (f_X6_fail d 3) (fun q35 => some (q35.1, q35.2))))) else f_X6_readNewName_j19 d )) else f_X6_readNewName_j19 d )
set_option maxRecDepth 100000 in
set_option maxHeartbeats 4000000 in
theorem s_X6_readNewName (g : JG) (d : JD) (pq0 : Int32) (pq1 : Int32) (h0 : j_sh g 0 TS_W RS_W) : JM mi_X6_readNewName 0 0 (g, d) [.ref 3, .int pq0, .int pq1] ((f_X6_readNewName d pq0 pq1).bind (fun r9 => some (some (.int (j_b r9.1)), (g, r9.2)))) := by
  refine JM_of (by decide) rfl (Nat.le_of_ble_eq_true rfl) ?_
  refine J_loc (loc' := [(0, .ref 3), (1, .int pq0), (2, .int pq1)]) [0, 1, 2] rfl ?_
  obtain ⟨k, hk, hk2⟩ : ∃ k : Bool × JD → Option (Option Value × JH), (∀ r9, k r9 = some (some (.int (j_b r9.1)), (g, r9.2))) ∧ (fun r9 : Bool × JD => (some (some (.int (j_b r9.1)), (g, r9.2)) : Option (Option Value × JH))) = k := ⟨_, fun _ => rfl, rfl⟩
  rw [hk2]
  unfold f_X6_readNewName
  have hX6_readNewName_j19 : ∀ (d19 : JD) , J mi_X6_readNewName 0 0 0 0 (g, d19) 19 [(0, .ref 3)] [] ((f_X6_readNewName_j19 d19 ).bind k) := by
    intro d19 
    unfold f_X6_readNewName_j19
    refine J_aload_n (pc := 19) 0 dX6_readNewName_19 rfl rfl ?_
    refine J_iconst (pc := 20) (v := 1) dX6_readNewName_20 (by decide) ?_
    refine JC_lt_b (K := (fun x => Option.bind x k)) (J_callV (mi := mi_X6_readNewName) (mj := mi_X6_fail) (pc := 21) dX6_readNewName_21 ml_X6_66 ok_X6_fail ov_X6_fail ⟨Nat.le_of_ble_eq_true rfl, Nat.le_of_ble_eq_true rfl⟩ rfl (h0.lt 3 (by decide)) (h0.ty 3 rfl) rfl (s_X6_fail g d19 1 h0) rfl (Nat.le_of_ble_eq_true rfl)) (fun q21 eq21 => ?_)
    exact J_eqo (hk (q21.1, q21.2)) (J_zretB (pc := 24) dX6_readNewName_24 rfl)
  have hX6_readNewName_j101 : ∀ (d101 : JD) , J mi_X6_readNewName 0 0 0 0 (g, d101) 101 [(0, .ref 3)] [] ((f_X6_readNewName_j101 d101 ).bind k) := by
    intro d101 
    unfold f_X6_readNewName_j101
    refine J_aload_n (pc := 101) 0 dX6_readNewName_101 rfl rfl ?_
    refine J_getR (pc := 102) dX6_readNewName_102 fl_X6_29 (h0.lt 3 (by decide)) (h0.ty 3 rfl) rfl (h0.rf 11 rfl) ?_
    refine JC_pe_v (J_callV (mi := mi_X6_readNewName) (mj := mi_X9_advance) (pc := 105) dX6_readNewName_105 ml_X6_70 ok_X9_advance ov_X9_advance ⟨Nat.le_of_ble_eq_true rfl, Nat.le_of_ble_eq_true rfl⟩ rfl (h0.lt 1 (by decide)) (h0.ty 1 rfl) rfl (s_X9_advance g d101 h0) rfl (Nat.le_of_ble_eq_true rfl)) (fun q105 => ?_)
    refine J_iconst (pc := 108) (v := 1) dX6_readNewName_108 (by decide) ?_
    exact J_eqo (hk (true, q105)) (J_zretB (pc := 109) dX6_readNewName_109 rfl)
  refine J_aload_n (pc := 0) 0 dX6_readNewName_0 rfl rfl ?_
  refine J_getR (pc := 1) dX6_readNewName_1 fl_X6_29 (h0.lt 3 (by decide)) (h0.ty 3 rfl) rfl (h0.rf 11 rfl) ?_
  refine J_getI (pc := 4) dX6_readNewName_4 fl_X6_60 (h0.lt 1 (by decide)) (h0.ty 1 rfl) rfl ?_
  refine J_iconst (pc := 7) (v := 1) dX6_readNewName_7 (by decide) ?_
  refine K_icmp_ne (K := (fun x => Option.bind x k)) (pc := 8) (tgt := 19) dX6_readNewName_8 (by decide) (fun z8 => ?_) (fun z8 => ?_)
  · refine J_loc (loc' := [(0, .ref 3)]) [0] rfl ?_
    exact hX6_readNewName_j19 d 
  · refine J_aload_n (pc := 11) 0 dX6_readNewName_11 rfl rfl ?_
    refine JC_pp_i (J_callV (mi := mi_X6_readNewName) (mj := mi_X6_lineOf) (pc := 12) dX6_readNewName_12 ml_X6_73 ok_X6_lineOf ov_X6_lineOf ⟨Nat.le_of_ble_eq_true rfl, Nat.le_of_ble_eq_true rfl⟩ rfl (h0.lt 3 (by decide)) (h0.ty 3 rfl) rfl (s_X6_lineOf g d h0) rfl (Nat.le_of_ble_eq_true rfl)) (fun q12 => ?_)
    refine J_iconst (pc := 15) (v := (-1)) dX6_readNewName_15 (by decide) ?_
    refine K_icmp_eq (K := (fun x => Option.bind x k)) (pc := 16) (tgt := 25) dX6_readNewName_16 (by decide) (fun z16 => ?_) (fun z16 => ?_)
    · refine J_aload_n (pc := 25) 0 dX6_readNewName_25 rfl rfl ?_
      refine JC_pp_i (J_callV (mi := mi_X6_readNewName) (mj := mi_X6_nameIndex) (pc := 26) dX6_readNewName_26 ml_X6_236 ok_X6_nameIndex ov_X6_nameIndex ⟨Nat.le_of_ble_eq_true rfl, Nat.le_of_ble_eq_true rfl⟩ rfl (h0.lt 3 (by decide)) (h0.ty 3 rfl) rfl (s_X6_nameIndex g d h0) rfl (Nat.le_of_ble_eq_true rfl)) (fun q26 => ?_)
      refine J_iconst (pc := 29) (v := (-1)) dX6_readNewName_29 (by decide) ?_
      refine K_icmp_eq (K := (fun x => Option.bind x k)) (pc := 30) (tgt := 39) dX6_readNewName_30 (by decide) (fun z30 => ?_) (fun z30 => ?_)
      · refine J_aload_n (pc := 39) 0 dX6_readNewName_39 rfl rfl ?_
        refine J_getI (pc := 40) dX6_readNewName_40 fl_X6_40 (h0.lt 3 (by decide)) (h0.ty 3 rfl) rfl ?_
        refine J_bipush (pc := 43) (v := 15) dX6_readNewName_43 (by decide) ?_
        refine K_icmp_ge (K := (fun x => Option.bind x k)) (pc := 45) (tgt := 101) dX6_readNewName_45 (by decide) (fun z45 => ?_) (fun z45 => ?_)
        · refine J_loc (loc' := [(0, .ref 3)]) [0] rfl ?_
          exact hX6_readNewName_j101 d 
        · refine J_aload_n (pc := 48) 0 dX6_readNewName_48 rfl rfl ?_
          refine J_getI (pc := 49) dX6_readNewName_49 fl_X6_40 (h0.lt 3 (by decide)) (h0.ty 3 rfl) rfl ?_
          refine K_if_lt (K := (fun x => Option.bind x k)) (pc := 52) (tgt := 101) dX6_readNewName_52 (by decide) (fun z52 => ?_) (fun z52 => ?_)
          · refine J_loc (loc' := [(0, .ref 3)]) [0] rfl ?_
            exact hX6_readNewName_j101 d 
          · refine J_aload_n (pc := 55) 0 dX6_readNewName_55 rfl rfl ?_
            refine J_getR (pc := 56) dX6_readNewName_56 fl_X6_18 (h0.lt 3 (by decide)) (h0.ty 3 rfl) rfl (h0.rf 12 rfl) ?_
            refine J_aload_n (pc := 59) 0 dX6_readNewName_59 rfl rfl ?_
            refine J_getI (pc := 60) dX6_readNewName_60 fl_X6_40 (h0.lt 3 (by decide)) (h0.ty 3 rfl) rfl ?_
            refine J_aload_n (pc := 63) 0 dX6_readNewName_63 rfl rfl ?_
            refine J_getR (pc := 64) dX6_readNewName_64 fl_X6_29 (h0.lt 3 (by decide)) (h0.ty 3 rfl) rfl (h0.rf 11 rfl) ?_
            refine J_getL (pc := 67) dX6_readNewName_67 fl_X6_239 (h0.lt 1 (by decide)) (h0.ty 1 rfl) rfl ?_
            refine J_last (pc := 70) dX6_readNewName_70 (h0.lt 19 (by decide)) (h0.ty 19 rfl) (j_inb (by decide) z52 z45) ?_
            refine J_aload_n (pc := 71) 0 dX6_readNewName_71 rfl rfl ?_
            refine J_getR (pc := 72) dX6_readNewName_72 fl_X6_22 (h0.lt 3 (by decide)) (h0.ty 3 rfl) rfl (h0.rf 13 rfl) ?_
            refine J_aload_n (pc := 75) 0 dX6_readNewName_75 rfl rfl ?_
            refine J_getI (pc := 76) dX6_readNewName_76 fl_X6_40 (h0.lt 3 (by decide)) (h0.ty 3 rfl) rfl ?_
            refine J_val (y := (d.1 3) 6) rfl ?_
            refine J_iload_n (pc := 79) 1 dX6_readNewName_79 rfl rfl ?_
            refine J_iast (pc := 80) dX6_readNewName_80 (h0.lt 20 (by decide)) (h0.ty 20 rfl) (j_inb (by decide) z52 z45) ?_
            refine J_aload_n (pc := 81) 0 dX6_readNewName_81 rfl rfl ?_
            refine J_getR (pc := 82) dX6_readNewName_82 fl_X6_26 (h0.lt 3 (by decide)) (h0.ty 3 rfl) rfl (h0.rf 14 rfl) ?_
            refine J_aload_n (pc := 85) 0 dX6_readNewName_85 rfl rfl ?_
            refine J_getI (pc := 86) dX6_readNewName_86 fl_X6_40 (h0.lt 3 (by decide)) (h0.ty 3 rfl) rfl ?_
            refine J_val (y := (d.1 3) 6) rfl ?_
            refine J_iload_n (pc := 89) 2 dX6_readNewName_89 rfl rfl ?_
            refine J_iast (pc := 90) dX6_readNewName_90 (h0.lt 21 (by decide)) (h0.ty 21 rfl) (j_inb (by decide) z52 z45) ?_
            refine J_aload_n (pc := 91) 0 dX6_readNewName_91 rfl rfl ?_
            refine J_dup (pc := 92) dX6_readNewName_92 rfl ?_
            refine J_getI (pc := 93) dX6_readNewName_93 fl_X6_40 (h0.lt 3 (by decide)) (h0.ty 3 rfl) rfl ?_
            refine J_val (y := (d.1 3) 6) rfl ?_
            refine J_iconst (pc := 96) (v := 1) dX6_readNewName_96 (by decide) ?_
            refine J_iadd (pc := 97) dX6_readNewName_97 ?_
            refine J_putI (pc := 98) dX6_readNewName_98 fl_X6_40 ft_6_6 (h0.lt 3 (by decide)) (h0.ty 3 rfl) rfl rfl rfl ?_
            refine J_loc (loc' := [(0, .ref 3)]) [0] rfl ?_
            exact hX6_readNewName_j101 (j_sI (j_sI (j_sI (j_sL d 19 (((d.1 3) 6).toNatClampNeg) ((d.2 1) 6)) 20 (((d.1 3) 6).toNatClampNeg) pq0) 21 (((d.1 3) 6).toNatClampNeg) pq1) 3 6 (((d.1 3) 6) + 1)) 
      · refine J_aload_n (pc := 33) 0 dX6_readNewName_33 rfl rfl ?_
        refine J_iconst (pc := 34) (v := 3) dX6_readNewName_34 (by decide) ?_
        refine JC_lt_b (K := (fun x => Option.bind x k)) (J_callV (mi := mi_X6_readNewName) (mj := mi_X6_fail) (pc := 35) dX6_readNewName_35 ml_X6_66 ok_X6_fail ov_X6_fail ⟨Nat.le_of_ble_eq_true rfl, Nat.le_of_ble_eq_true rfl⟩ rfl (h0.lt 3 (by decide)) (h0.ty 3 rfl) rfl (s_X6_fail g d 3 h0) rfl (Nat.le_of_ble_eq_true rfl)) (fun q35 eq35 => ?_)
        exact J_eqo (hk (q35.1, q35.2)) (J_zretB (pc := 38) dX6_readNewName_38 rfl)
    · refine J_loc (loc' := [(0, .ref 3)]) [0] rfl ?_
      exact hX6_readNewName_j19 d 
def f_X6_readPerson (b : Nat) (d : JD) : Option (Bool × JD) := ((f_X6_readNewName d 1 ((d.1 b) 2)).bind (fun q9 => if q9.1 = true then (some (true, j_sI q9.2 b 2 (((q9.2.1 b) 2) + 1))) else (some (false, q9.2))))
set_option maxRecDepth 100000 in
set_option maxHeartbeats 4000000 in
theorem s_X6_readPerson (g : JG) (d : JD) (b : Nat) (h0 : j_sh g 0 TS_W RS_W) (hb : j_sh g b TS_CL RS_CL) (hin : g.2.2.1 3 1 = some b) : JM mi_X6_readPerson 0 0 (g, d) [.ref 3] ((f_X6_readPerson b d ).bind (fun r9 => some (some (.int (j_b r9.1)), (g, r9.2)))) := by
  refine JM_of (by decide) rfl (Nat.le_of_ble_eq_true rfl) ?_
  refine J_loc (loc' := [(0, .ref 3)]) [0] rfl ?_
  obtain ⟨k, hk, hk2⟩ : ∃ k : Bool × JD → Option (Option Value × JH), (∀ r9, k r9 = some (some (.int (j_b r9.1)), (g, r9.2))) ∧ (fun r9 : Bool × JD => (some (some (.int (j_b r9.1)), (g, r9.2)) : Option (Option Value × JH))) = k := ⟨_, fun _ => rfl, rfl⟩
  rw [hk2]
  unfold f_X6_readPerson
  refine J_aload_n (pc := 0) 0 dX6_readPerson_0 rfl rfl ?_
  refine J_iconst (pc := 1) (v := 1) dX6_readPerson_1 (by decide) ?_
  refine J_aload_n (pc := 2) 0 dX6_readPerson_2 rfl rfl ?_
  refine J_getR (pc := 3) dX6_readPerson_3 fl_X6_12 (h0.lt 3 (by decide)) (h0.ty 3 rfl) rfl hin ?_
  refine J_getI (pc := 6) dX6_readPerson_6 fl_X6_126 (hb.lt 0 (by decide)) (hb.ty 0 rfl) rfl ?_
  refine JC_pe_b (J_callV (mi := mi_X6_readPerson) (mj := mi_X6_readNewName) (pc := 9) dX6_readPerson_9 ml_X6_163 ok_X6_readNewName ov_X6_readNewName ⟨Nat.le_of_ble_eq_true rfl, Nat.le_of_ble_eq_true rfl⟩ rfl (h0.lt 3 (by decide)) (h0.ty 3 rfl) rfl (s_X6_readNewName g d 1 ((d.1 b) 2) h0) rfl (Nat.le_of_ble_eq_true rfl)) (fun q9 => ?_)
  refine K_ifne_b (K := (fun x => Option.bind x k)) (pc := 12) (tgt := 17) dX6_readPerson_12 (by decide) (fun z12 => ?_) (fun z12 => ?_)
  · refine J_aload_n (pc := 17) 0 dX6_readPerson_17 rfl rfl ?_
    refine J_getR (pc := 18) dX6_readPerson_18 fl_X6_12 (h0.lt 3 (by decide)) (h0.ty 3 rfl) rfl hin ?_
    refine J_dup (pc := 21) dX6_readPerson_21 rfl ?_
    refine J_getI (pc := 22) dX6_readPerson_22 fl_X6_126 (hb.lt 0 (by decide)) (hb.ty 0 rfl) rfl ?_
    refine J_iconst (pc := 25) (v := 1) dX6_readPerson_25 (by decide) ?_
    refine J_iadd (pc := 26) dX6_readPerson_26 ?_
    refine J_putI (pc := 27) dX6_readPerson_27 fl_X6_126 ft_3_2 (hb.lt 0 (by decide)) (hb.ty 0 rfl) rfl rfl rfl ?_
    refine J_iconst (pc := 30) (v := 1) dX6_readPerson_30 (by decide) ?_
    exact J_eqo (hk (true, j_sI q9.2 b 2 (((q9.2.1 b) 2) + 1))) (J_zretB (pc := 31) dX6_readPerson_31 rfl)
  · refine J_iconst (pc := 15) (v := 0) dX6_readPerson_15 (by decide) ?_
    exact J_eqo (hk (false, q9.2)) (J_zretB (pc := 16) dX6_readPerson_16 rfl)
def f_X6_toldNumber_j19 (d19 : JD) : Option (Int32 × JD) := (j_let (f_X6_fail d19 1) (fun q21 => some ((-1), q21.2)))
def f_X6_toldNumber_j49 (d49 : JD) : Option (Int32 × JD) := (j_let (f_X6_fail d49 2) (fun q51 => some ((-1), q51.2)))
def f_X6_toldNumber (d : JD) (pq0 : Int32) : Option (Int32 × JD) := (if ((d.1 1) 4) = 1 then ((f_X6_lineOf (d.1 1) (d.1 2)).bind (fun q12 => if q12 = (-1) then ((f_X6_nameIndex (d.1 3) (d.2 1) (d.2 19)).bind (fun q28 => if q28 = (-1) then f_X6_toldNumber_j49 d else (if (f_X11_at (d.1 20) 15 q28) = pq0 then (some (f_X11_at (d.1 21) 15 q28, d)) else f_X6_toldNumber_j49 d ))) else f_X6_toldNumber_j19 d )) else f_X6_toldNumber_j19 d )
set_option maxRecDepth 100000 in
set_option maxHeartbeats 4000000 in
theorem s_X6_toldNumber (g : JG) (d : JD) (pq0 : Int32) (h0 : j_sh g 0 TS_W RS_W) : JM mi_X6_toldNumber 0 0 (g, d) [.ref 3, .int pq0] ((f_X6_toldNumber d pq0).bind (fun r9 => some (some (.int r9.1), (g, r9.2)))) := by
  refine JM_of (by decide) rfl (Nat.le_of_ble_eq_true rfl) ?_
  refine J_loc (loc' := [(0, .ref 3), (1, .int pq0)]) [0, 1] rfl ?_
  obtain ⟨k, hk, hk2⟩ : ∃ k : Int32 × JD → Option (Option Value × JH), (∀ r9, k r9 = some (some (.int r9.1), (g, r9.2))) ∧ (fun r9 : Int32 × JD => (some (some (.int r9.1), (g, r9.2)) : Option (Option Value × JH))) = k := ⟨_, fun _ => rfl, rfl⟩
  rw [hk2]
  unfold f_X6_toldNumber
  have hX6_toldNumber_j19 : ∀ (d19 : JD) , J mi_X6_toldNumber 0 0 0 0 (g, d19) 19 [(0, .ref 3)] [] ((f_X6_toldNumber_j19 d19 ).bind k) := by
    intro d19 
    unfold f_X6_toldNumber_j19
    refine J_aload_n (pc := 19) 0 dX6_toldNumber_19 rfl rfl ?_
    refine J_iconst (pc := 20) (v := 1) dX6_toldNumber_20 (by decide) ?_
    refine JC_lt_b (K := (fun x => Option.bind x k)) (J_callV (mi := mi_X6_toldNumber) (mj := mi_X6_fail) (pc := 21) dX6_toldNumber_21 ml_X6_66 ok_X6_fail ov_X6_fail ⟨Nat.le_of_ble_eq_true rfl, Nat.le_of_ble_eq_true rfl⟩ rfl (h0.lt 3 (by decide)) (h0.ty 3 rfl) rfl (s_X6_fail g d19 1 h0) rfl (Nat.le_of_ble_eq_true rfl)) (fun q21 eq21 => ?_)
    refine J_pop (pc := 24) dX6_toldNumber_24 rfl ?_
    refine J_iconst (pc := 25) (v := (-1)) dX6_toldNumber_25 (by decide) ?_
    exact J_eqo (hk ((-1), q21.2)) (J_iret (pc := 26) dX6_toldNumber_26 rfl)
  have hX6_toldNumber_j49 : ∀ (d49 : JD) , J mi_X6_toldNumber 0 0 0 0 (g, d49) 49 [(0, .ref 3)] [] ((f_X6_toldNumber_j49 d49 ).bind k) := by
    intro d49 
    unfold f_X6_toldNumber_j49
    refine J_aload_n (pc := 49) 0 dX6_toldNumber_49 rfl rfl ?_
    refine J_iconst (pc := 50) (v := 2) dX6_toldNumber_50 (by decide) ?_
    refine JC_lt_b (K := (fun x => Option.bind x k)) (J_callV (mi := mi_X6_toldNumber) (mj := mi_X6_fail) (pc := 51) dX6_toldNumber_51 ml_X6_66 ok_X6_fail ov_X6_fail ⟨Nat.le_of_ble_eq_true rfl, Nat.le_of_ble_eq_true rfl⟩ rfl (h0.lt 3 (by decide)) (h0.ty 3 rfl) rfl (s_X6_fail g d49 2 h0) rfl (Nat.le_of_ble_eq_true rfl)) (fun q51 eq51 => ?_)
    refine J_pop (pc := 54) dX6_toldNumber_54 rfl ?_
    refine J_iconst (pc := 55) (v := (-1)) dX6_toldNumber_55 (by decide) ?_
    exact J_eqo (hk ((-1), q51.2)) (J_iret (pc := 56) dX6_toldNumber_56 rfl)
  refine J_aload_n (pc := 0) 0 dX6_toldNumber_0 rfl rfl ?_
  refine J_getR (pc := 1) dX6_toldNumber_1 fl_X6_29 (h0.lt 3 (by decide)) (h0.ty 3 rfl) rfl (h0.rf 11 rfl) ?_
  refine J_getI (pc := 4) dX6_toldNumber_4 fl_X6_60 (h0.lt 1 (by decide)) (h0.ty 1 rfl) rfl ?_
  refine J_iconst (pc := 7) (v := 1) dX6_toldNumber_7 (by decide) ?_
  refine K_icmp_ne (K := (fun x => Option.bind x k)) (pc := 8) (tgt := 19) dX6_toldNumber_8 (by decide) (fun z8 => ?_) (fun z8 => ?_)
  · refine J_loc (loc' := [(0, .ref 3)]) [0] rfl ?_
    exact hX6_toldNumber_j19 d 
  · refine J_aload_n (pc := 11) 0 dX6_toldNumber_11 rfl rfl ?_
    refine JC_pp_i (J_callV (mi := mi_X6_toldNumber) (mj := mi_X6_lineOf) (pc := 12) dX6_toldNumber_12 ml_X6_73 ok_X6_lineOf ov_X6_lineOf ⟨Nat.le_of_ble_eq_true rfl, Nat.le_of_ble_eq_true rfl⟩ rfl (h0.lt 3 (by decide)) (h0.ty 3 rfl) rfl (s_X6_lineOf g d h0) rfl (Nat.le_of_ble_eq_true rfl)) (fun q12 => ?_)
    refine J_iconst (pc := 15) (v := (-1)) dX6_toldNumber_15 (by decide) ?_
    refine K_icmp_eq (K := (fun x => Option.bind x k)) (pc := 16) (tgt := 27) dX6_toldNumber_16 (by decide) (fun z16 => ?_) (fun z16 => ?_)
    · refine J_aload_n (pc := 27) 0 dX6_toldNumber_27 rfl rfl ?_
      refine JC_pp_i (J_callV (mi := mi_X6_toldNumber) (mj := mi_X6_nameIndex) (pc := 28) dX6_toldNumber_28 ml_X6_236 ok_X6_nameIndex ov_X6_nameIndex ⟨Nat.le_of_ble_eq_true rfl, Nat.le_of_ble_eq_true rfl⟩ rfl (h0.lt 3 (by decide)) (h0.ty 3 rfl) rfl (s_X6_nameIndex g d h0) rfl (Nat.le_of_ble_eq_true rfl)) (fun q28 => ?_)
      refine J_istore_n (pc := 31) (loc' := [(2, .int q28), (0, .ref 3), (1, .int pq0)]) dX6_toldNumber_31 rfl (by decide) rfl ?_
      refine J_iload_n (pc := 32) 0 dX6_toldNumber_32 rfl rfl ?_
      refine J_iconst (pc := 33) (v := (-1)) dX6_toldNumber_33 (by decide) ?_
      refine K_icmp_eq (K := (fun x => Option.bind x k)) (pc := 34) (tgt := 49) dX6_toldNumber_34 (by decide) (fun z34 => ?_) (fun z34 => ?_)
      · refine J_loc (loc' := [(0, .ref 3)]) [1] rfl ?_
        exact hX6_toldNumber_j49 d 
      · refine J_aload_n (pc := 37) 1 dX6_toldNumber_37 rfl rfl ?_
        refine J_getR (pc := 38) dX6_toldNumber_38 fl_X6_22 (h0.lt 3 (by decide)) (h0.ty 3 rfl) rfl (h0.rf 13 rfl) ?_
        refine J_iload_n (pc := 41) 0 dX6_toldNumber_41 rfl rfl ?_
        refine JC_pt_i (J_callS (mi := mi_X6_toldNumber) (mj := mi_X11_at) (pc := 42) dX6_toldNumber_42 ml_X6_213 ok_X11_at os_X11_at ⟨Nat.le_of_ble_eq_true rfl, Nat.le_of_ble_eq_true rfl⟩ rfl (s_X11_at g d 20 15 q28 (⟨(h0.lt 20 (by decide)), (h0.ty 20 rfl), by decide⟩)) rfl (Nat.le_of_ble_eq_true rfl)) ?_
        refine J_iload_n (pc := 45) 2 dX6_toldNumber_45 rfl rfl ?_
        refine K_icmp_eq (K := (fun x => Option.bind x k)) (pc := 46) (tgt := 57) dX6_toldNumber_46 (by decide) (fun z46 => ?_) (fun z46 => ?_)
        · refine J_aload_n (pc := 57) 1 dX6_toldNumber_57 rfl rfl ?_
          refine J_getR (pc := 58) dX6_toldNumber_58 fl_X6_26 (h0.lt 3 (by decide)) (h0.ty 3 rfl) rfl (h0.rf 14 rfl) ?_
          refine J_iload_n (pc := 61) 0 dX6_toldNumber_61 rfl rfl ?_
          refine JC_pt_i (J_callS (mi := mi_X6_toldNumber) (mj := mi_X11_at) (pc := 62) dX6_toldNumber_62 ml_X6_213 ok_X11_at os_X11_at ⟨Nat.le_of_ble_eq_true rfl, Nat.le_of_ble_eq_true rfl⟩ rfl (s_X11_at g d 21 15 q28 (⟨(h0.lt 21 (by decide)), (h0.ty 21 rfl), by decide⟩)) rfl (Nat.le_of_ble_eq_true rfl)) ?_
          exact J_eqo (hk (f_X11_at (d.1 21) 15 q28, d)) (J_iret (pc := 65) dX6_toldNumber_65 rfl)
        · refine J_loc (loc' := [(0, .ref 3)]) [1] rfl ?_
          exact hX6_toldNumber_j49 d 
    · refine J_loc (loc' := [(0, .ref 3)]) [0] rfl ?_
      exact hX6_toldNumber_j19 d 
def f_X6_readFirm_j82_23 (b : Nat) (c1_23 : Int32) (d82_23 : JD) (x2_82_23 : Int32) (x3_82_23 : Int32) : Option ((Int32 × Int32 × JD) ⊕ ((Bool × JD) ⊕ (Int32 × JD))) := ((f_X9_advance d82_23).bind (fun q86_23 => if ((q86_23.1 1) 4) = 4 then ((f_X9_advance q86_23).bind (fun q107_23 => some (.inl (x2_82_23, x3_82_23 + 1, q107_23)))) else (some (.inr (.inr (x2_82_23, q86_23))))))
def f_X6_readFirm_w23 (b : Nat) (c1_23 : Int32) (s23 : Int32 × Int32 × JD) : Option ((Int32 × Int32 × JD) ⊕ ((Bool × JD) ⊕ (Int32 × JD))) := (if 5 < s23.2.1 then some (.inr (.inr (s23.1, s23.2.2))) else ((f_X6_toldNumber s23.2.2 1).bind (fun q30_23 => if q30_23.1 = (-1) then (some (Sum.inr (Sum.inl (false, q30_23.2)))) else (if (f_X11_hasBit s23.1 q30_23.1) = true then (j_let (f_X6_fail q30_23.2 3) (fun q54_23 => some (Sum.inr (Sum.inl (q54_23.1, q54_23.2))))) else (if s23.2.1 = 0 then (j_let (f_X11_put (b + 1) 4 q30_23.2 (c1_23) q30_23.1) (fun q79_23 => f_X6_readFirm_j82_23 b (c1_23) q79_23 (s23.1 ||| ((1 : Int32) <<< (q30_23.1 &&& 31))) s23.2.1)) else f_X6_readFirm_j82_23 b (c1_23) q30_23.2 (s23.1 ||| ((1 : Int32) <<< (q30_23.1 &&& 31))) s23.2.1)))))
def f_X6_readFirm (b : Nat) (d : JD) : Option (Bool × JD) := ((f_X6_readNewName d 2 ((d.1 b) 3)).bind (fun q11 => if q11.1 = true then ((j_wh (f_X6_readFirm_w23 b ((d.1 b) 3) ) j_fuel (0, 0, q11.2)).bind (Sum.elim (fun r9 => some r9) (fun (e23 : Int32 × JD) => (j_let (f_X11_put (b + 2) 4 e23.2 ((d.1 b) 3) e23.1) (fun q125 => some (true, j_sI q125 b 3 (((q125.1 b) 3) + 1))))))) else (some (false, q11.2))))
set_option maxRecDepth 100000 in
set_option maxHeartbeats 4000000 in
theorem s_X6_readFirm (g : JG) (d : JD) (b : Nat) (h0 : j_sh g 0 TS_W RS_W) (hb : j_sh g b TS_CL RS_CL) (hin : g.2.2.1 3 1 = some b) : JM mi_X6_readFirm 0 0 (g, d) [.ref 3] ((f_X6_readFirm b d ).bind (fun r9 => some (some (.int (j_b r9.1)), (g, r9.2)))) := by
  refine JM_of (by decide) rfl (Nat.le_of_ble_eq_true rfl) ?_
  refine J_loc (loc' := [(0, .ref 3)]) [0] rfl ?_
  obtain ⟨k, hk, hk2⟩ : ∃ k : Bool × JD → Option (Option Value × JH), (∀ r9, k r9 = some (some (.int (j_b r9.1)), (g, r9.2))) ∧ (fun r9 : Bool × JD => (some (some (.int (j_b r9.1)), (g, r9.2)) : Option (Option Value × JH))) = k := ⟨_, fun _ => rfl, rfl⟩
  rw [hk2]
  unfold f_X6_readFirm
  refine J_aload_n (pc := 0) 0 dX6_readFirm_0 rfl rfl ?_
  refine J_getR (pc := 1) dX6_readFirm_1 fl_X6_12 (h0.lt 3 (by decide)) (h0.ty 3 rfl) rfl hin ?_
  refine J_getI (pc := 4) dX6_readFirm_4 fl_X6_129 (hb.lt 0 (by decide)) (hb.ty 0 rfl) rfl ?_
  refine J_istore_n (pc := 7) (loc' := [(1, .int ((d.1 b) 3)), (0, .ref 3)]) dX6_readFirm_7 rfl (by decide) rfl ?_
  refine J_aload_n (pc := 8) 1 dX6_readFirm_8 rfl rfl ?_
  refine J_iconst (pc := 9) (v := 2) dX6_readFirm_9 (by decide) ?_
  refine J_iload_n (pc := 10) 0 dX6_readFirm_10 rfl rfl ?_
  refine JC_pe_b (J_callV (mi := mi_X6_readFirm) (mj := mi_X6_readNewName) (pc := 11) dX6_readFirm_11 ml_X6_163 ok_X6_readNewName ov_X6_readNewName ⟨Nat.le_of_ble_eq_true rfl, Nat.le_of_ble_eq_true rfl⟩ rfl (h0.lt 3 (by decide)) (h0.ty 3 rfl) rfl (s_X6_readNewName g d 2 ((d.1 b) 3) h0) rfl (Nat.le_of_ble_eq_true rfl)) (fun q11 => ?_)
  refine K_ifne_b (K := (fun x => Option.bind x k)) (pc := 14) (tgt := 19) dX6_readFirm_14 (by decide) (fun z14 => ?_) (fun z14 => ?_)
  · refine J_iconst (pc := 19) (v := 0) dX6_readFirm_19 (by decide) ?_
    refine J_istore_n (pc := 20) (loc' := [(2, .int 0), (1, .int ((d.1 b) 3)), (0, .ref 3)]) dX6_readFirm_20 rfl (by decide) rfl ?_
    refine J_iconst (pc := 21) (v := 0) dX6_readFirm_21 (by decide) ?_
    refine J_istore_n (pc := 22) (loc' := [(3, .int 0), (2, .int 0), (1, .int ((d.1 b) 3)), (0, .ref 3)]) dX6_readFirm_22 rfl (by decide) rfl ?_
    refine J_loc (loc' := [(0, .ref 3), (1, .int ((d.1 b) 3)), (2, .int 0), (3, .int 0)]) [3, 2, 1, 0] rfl ?_
    refine J_whR (F := f_X6_readFirm_w23 b ((d.1 b) 3) ) (fr := fun r9 => some r9) (k := k) (hp := fun (s23 : Int32 × Int32 × JD) => (g, s23.2.2)) (lc := fun (s23 : Int32 × Int32 × JD) => [(0, .ref 3), (1, .int (((d.1 b) 3))), (2, .int s23.1), (3, .int s23.2.1)]) (XJ := fun (e23 : Int32 × JD) o9 => J mi_X6_readFirm 0 0 0 0 (g, e23.2) 116 [(0, .ref 3), (1, .int ((d.1 b) 3)), (2, .int e23.1)] [] o9) (RJ := fun r9 o9 => o9 = some (some (.int (j_b r9.1)), (g, r9.2))) (fun s23 k23 hB23 hR23 hX23 => ?_) (fun e23 => ?_) (fun r9 => hk r9) _ (0, 0, q11.2)
    · show J mi_X6_readFirm 0 0 0 0 (g, s23.2.2) 23 [(0, .ref 3), (1, .int (((d.1 b) 3))), (2, .int s23.1), (3, .int s23.2.1)] [] ((f_X6_readFirm_w23 b ((d.1 b) 3) s23).bind k23)
      unfold f_X6_readFirm_w23
      have hX6_readFirm_j82_23 : ∀ (d82_23 : JD) (x2_82_23 : Int32) (x3_82_23 : Int32), J mi_X6_readFirm 0 0 0 0 (g, d82_23) 82 [(0, .ref 3), (1, .int (((d.1 b) 3))), (2, .int x2_82_23), (3, .int x3_82_23)] [] ((f_X6_readFirm_j82_23 b ((d.1 b) 3) d82_23 x2_82_23 x3_82_23).bind k23) := by
        intro d82_23 x2_82_23 x3_82_23
        unfold f_X6_readFirm_j82_23
        refine J_aload_n (pc := 82) 0 dX6_readFirm_82 rfl rfl ?_
        refine J_getR (pc := 83) dX6_readFirm_83 fl_X6_29 (h0.lt 3 (by decide)) (h0.ty 3 rfl) rfl (h0.rf 11 rfl) ?_
        refine JC_pe_v (J_callV (mi := mi_X6_readFirm) (mj := mi_X9_advance) (pc := 86) dX6_readFirm_86 ml_X6_70 ok_X9_advance ov_X9_advance ⟨Nat.le_of_ble_eq_true rfl, Nat.le_of_ble_eq_true rfl⟩ rfl (h0.lt 1 (by decide)) (h0.ty 1 rfl) rfl (s_X9_advance g d82_23 h0) rfl (Nat.le_of_ble_eq_true rfl)) (fun q86_23 => ?_)
        refine J_aload_n (pc := 89) 0 dX6_readFirm_89 rfl rfl ?_
        refine J_getR (pc := 90) dX6_readFirm_90 fl_X6_29 (h0.lt 3 (by decide)) (h0.ty 3 rfl) rfl (h0.rf 11 rfl) ?_
        refine J_getI (pc := 93) dX6_readFirm_93 fl_X6_60 (h0.lt 1 (by decide)) (h0.ty 1 rfl) rfl ?_
        refine J_iconst (pc := 96) (v := 4) dX6_readFirm_96 (by decide) ?_
        refine K_icmp_eq (K := (fun x => Option.bind x k23)) (pc := 97) (tgt := 103) dX6_readFirm_97 (by decide) (fun z97 => ?_) (fun z97 => ?_)
        · refine J_aload_n (pc := 103) 0 dX6_readFirm_103 rfl rfl ?_
          refine J_getR (pc := 104) dX6_readFirm_104 fl_X6_29 (h0.lt 3 (by decide)) (h0.ty 3 rfl) rfl (h0.rf 11 rfl) ?_
          refine JC_pe_v (J_callV (mi := mi_X6_readFirm) (mj := mi_X9_advance) (pc := 107) dX6_readFirm_107 ml_X6_70 ok_X9_advance ov_X9_advance ⟨Nat.le_of_ble_eq_true rfl, Nat.le_of_ble_eq_true rfl⟩ rfl (h0.lt 1 (by decide)) (h0.ty 1 rfl) rfl (s_X9_advance g q86_23 h0) rfl (Nat.le_of_ble_eq_true rfl)) (fun q107_23 => ?_)
          refine J_iinc (pc := 110) (v := x3_82_23 + 1) (loc' := [(3, .int (x3_82_23 + 1)), (0, .ref 3), (1, .int (((d.1 b) 3))), (2, .int x2_82_23)]) 3 dX6_readFirm_110 rfl rfl (by decide) rfl ?_
          refine J_goto (pc := 113) (tgt := 23) dX6_readFirm_113 (by decide) ?_
          refine J_loc (loc' := [(0, .ref 3), (1, .int (((d.1 b) 3))), (2, .int x2_82_23), (3, .int (x3_82_23 + 1))]) [1, 2, 3, 0] rfl ?_
          exact hB23 (x2_82_23, x3_82_23 + 1, q107_23)
        · refine J_goto (pc := 100) (tgt := 116) dX6_readFirm_100 (by decide) ?_
          refine J_loc (loc' := [(0, .ref 3), (1, .int (((d.1 b) 3))), (2, .int x2_82_23)]) [0, 1, 2] rfl ?_
          exact hX23 (x2_82_23, q86_23)
      refine J_iload_n (pc := 23) 3 dX6_readFirm_23 rfl rfl ?_
      refine J_iconst (pc := 24) (v := 5) dX6_readFirm_24 (by decide) ?_
      refine K_icmp_gt (K := (fun x => Option.bind x k23)) (pc := 25) (tgt := 116) dX6_readFirm_25 (by decide) (fun z25 => ?_) (fun z25 => ?_)
      · refine J_loc (loc' := [(0, .ref 3), (1, .int (((d.1 b) 3))), (2, .int s23.1)]) [0, 1, 2] rfl ?_
        exact hX23 (s23.1, s23.2.2)
      · refine J_aload_n (pc := 28) 0 dX6_readFirm_28 rfl rfl ?_
        refine J_iconst (pc := 29) (v := 1) dX6_readFirm_29 (by decide) ?_
        refine JC_pe_i (J_callV (mi := mi_X6_readFirm) (mj := mi_X6_toldNumber) (pc := 30) dX6_readFirm_30 ml_X6_167 ok_X6_toldNumber ov_X6_toldNumber ⟨Nat.le_of_ble_eq_true rfl, Nat.le_of_ble_eq_true rfl⟩ rfl (h0.lt 3 (by decide)) (h0.ty 3 rfl) rfl (s_X6_toldNumber g s23.2.2 1 h0) rfl (Nat.le_of_ble_eq_true rfl)) (fun q30_23 => ?_)
        refine J_istore (pc := 33) (loc' := [(4, .int q30_23.1), (0, .ref 3), (1, .int (((d.1 b) 3))), (2, .int s23.1), (3, .int s23.2.1)]) dX6_readFirm_33 (by decide) rfl ?_
        refine J_iload (pc := 35) 0 dX6_readFirm_35 rfl ?_
        refine J_iconst (pc := 37) (v := (-1)) dX6_readFirm_37 (by decide) ?_
        refine K_icmp_ne (K := (fun x => Option.bind x k23)) (pc := 38) (tgt := 43) dX6_readFirm_38 (by decide) (fun z38 => ?_) (fun z38 => ?_)
        · refine J_iload_n (pc := 43) 3 dX6_readFirm_43 rfl rfl ?_
          refine J_iload (pc := 44) 0 dX6_readFirm_44 rfl ?_
          refine JC_pt_i (J_callS (mi := mi_X6_readFirm) (mj := mi_X11_hasBit) (pc := 46) dX6_readFirm_46 ml_X6_171 ok_X11_hasBit os_X11_hasBit ⟨Nat.le_of_ble_eq_true rfl, Nat.le_of_ble_eq_true rfl⟩ rfl (s_X11_hasBit g q30_23.2 s23.1 q30_23.1) rfl (Nat.le_of_ble_eq_true rfl)) ?_
          refine K_ifeq_b (K := (fun x => Option.bind x k23)) (pc := 49) (tgt := 58) dX6_readFirm_49 (by decide) (fun z49 => ?_) (fun z49 => ?_)
          · refine J_iload_n (pc := 58) 3 dX6_readFirm_58 rfl rfl ?_
            refine J_iconst (pc := 59) (v := 1) dX6_readFirm_59 (by decide) ?_
            refine J_iload (pc := 60) 0 dX6_readFirm_60 rfl ?_
            refine J_ishl (pc := 62) dX6_readFirm_62 ?_
            refine J_ior (pc := 63) dX6_readFirm_63 ?_
            refine J_istore_n (pc := 64) (loc' := [(2, .int (s23.1 ||| ((1 : Int32) <<< (q30_23.1 &&& 31)))), (4, .int q30_23.1), (0, .ref 3), (1, .int (((d.1 b) 3))), (3, .int s23.2.1)]) dX6_readFirm_64 rfl (by decide) rfl ?_
            refine J_iload_n (pc := 65) 4 dX6_readFirm_65 rfl rfl ?_
            refine K_if_ne (K := (fun x => Option.bind x k23)) (pc := 66) (tgt := 82) dX6_readFirm_66 (by decide) (fun z66 => ?_) (fun z66 => ?_)
            · refine J_loc (loc' := [(0, .ref 3), (1, .int (((d.1 b) 3))), (2, .int (s23.1 ||| ((1 : Int32) <<< (q30_23.1 &&& 31)))), (3, .int s23.2.1)]) [2, 3, 0, 4] rfl ?_
              exact hX6_readFirm_j82_23 q30_23.2 (s23.1 ||| ((1 : Int32) <<< (q30_23.1 &&& 31))) s23.2.1
            · refine J_aload_n (pc := 69) 2 dX6_readFirm_69 rfl rfl ?_
              refine J_getR (pc := 70) dX6_readFirm_70 fl_X6_12 (h0.lt 3 (by decide)) (h0.ty 3 rfl) rfl hin ?_
              refine J_getR (pc := 73) dX6_readFirm_73 fl_X6_174 (hb.lt 0 (by decide)) (hb.ty 0 rfl) rfl (hb.rf 0 rfl) ?_
              refine J_iload_n (pc := 76) 3 dX6_readFirm_76 rfl rfl ?_
              refine J_iload (pc := 77) 1 dX6_readFirm_77 rfl ?_
              refine JC_lt_v (K := (fun x => Option.bind x k23)) (J_callS (mi := mi_X6_readFirm) (mj := mi_X11_put) (pc := 79) dX6_readFirm_79 ml_X6_177 ok_X11_put os_X11_put ⟨Nat.le_of_ble_eq_true rfl, Nat.le_of_ble_eq_true rfl⟩ rfl (s_X11_put g q30_23.2 (b + 1) 4 ((d.1 b) 3) q30_23.1 (⟨(hb.lt 1 (by decide)), (hb.ty 1 rfl), by decide⟩)) rfl (Nat.le_of_ble_eq_true rfl)) (fun q79_23 eq79_23 => ?_)
              refine J_loc (loc' := [(0, .ref 3), (1, .int (((d.1 b) 3))), (2, .int (s23.1 ||| ((1 : Int32) <<< (q30_23.1 &&& 31)))), (3, .int s23.2.1)]) [2, 3, 0, 4] rfl ?_
              exact hX6_readFirm_j82_23 q79_23 (s23.1 ||| ((1 : Int32) <<< (q30_23.1 &&& 31))) s23.2.1
          · refine J_aload_n (pc := 52) 1 dX6_readFirm_52 rfl rfl ?_
            refine J_iconst (pc := 53) (v := 3) dX6_readFirm_53 (by decide) ?_
            refine JC_lt_b (K := (fun x => Option.bind x k23)) (J_callV (mi := mi_X6_readFirm) (mj := mi_X6_fail) (pc := 54) dX6_readFirm_54 ml_X6_66 ok_X6_fail ov_X6_fail ⟨Nat.le_of_ble_eq_true rfl, Nat.le_of_ble_eq_true rfl⟩ rfl (h0.lt 3 (by decide)) (h0.ty 3 rfl) rfl (s_X6_fail g q30_23.2 3 h0) rfl (Nat.le_of_ble_eq_true rfl)) (fun q54_23 eq54_23 => ?_)
            exact J_eqo (hR23 (q54_23.1, q54_23.2)) (J_zretB (pc := 57) dX6_readFirm_57 rfl)
        · refine J_iconst (pc := 41) (v := 0) dX6_readFirm_41 (by decide) ?_
          exact J_eqo (hR23 (false, q30_23.2)) (J_zretB (pc := 42) dX6_readFirm_42 rfl)
    · show J mi_X6_readFirm 0 0 0 0 (g, e23.2) 116 [(0, .ref 3), (1, .int ((d.1 b) 3)), (2, .int e23.1)] [] (_)
      refine J_aload_n (pc := 116) 0 dX6_readFirm_116 rfl rfl ?_
      refine J_getR (pc := 117) dX6_readFirm_117 fl_X6_12 (h0.lt 3 (by decide)) (h0.ty 3 rfl) rfl hin ?_
      refine J_getR (pc := 120) dX6_readFirm_120 fl_X6_181 (hb.lt 0 (by decide)) (hb.ty 0 rfl) rfl (hb.rf 1 rfl) ?_
      refine J_iload_n (pc := 123) 1 dX6_readFirm_123 rfl rfl ?_
      refine J_iload_n (pc := 124) 2 dX6_readFirm_124 rfl rfl ?_
      refine JC_lt_v (K := (fun x => Option.bind x k)) (J_callS (mi := mi_X6_readFirm) (mj := mi_X11_put) (pc := 125) dX6_readFirm_125 ml_X6_177 ok_X11_put os_X11_put ⟨Nat.le_of_ble_eq_true rfl, Nat.le_of_ble_eq_true rfl⟩ rfl (s_X11_put g e23.2 (b + 2) 4 ((d.1 b) 3) e23.1 (⟨(hb.lt 2 (by decide)), (hb.ty 2 rfl), by decide⟩)) rfl (Nat.le_of_ble_eq_true rfl)) (fun q125 eq125 => ?_)
      refine J_aload_n (pc := 128) 0 dX6_readFirm_128 rfl rfl ?_
      refine J_getR (pc := 129) dX6_readFirm_129 fl_X6_12 (h0.lt 3 (by decide)) (h0.ty 3 rfl) rfl hin ?_
      refine J_dup (pc := 132) dX6_readFirm_132 rfl ?_
      refine J_getI (pc := 133) dX6_readFirm_133 fl_X6_129 (hb.lt 0 (by decide)) (hb.ty 0 rfl) rfl ?_
      refine J_iconst (pc := 136) (v := 1) dX6_readFirm_136 (by decide) ?_
      refine J_iadd (pc := 137) dX6_readFirm_137 ?_
      refine J_putI (pc := 138) dX6_readFirm_138 fl_X6_129 ft_3_3 (hb.lt 0 (by decide)) (hb.ty 0 rfl) rfl rfl rfl ?_
      refine J_iconst (pc := 141) (v := 1) dX6_readFirm_141 (by decide) ?_
      exact J_eqo (hk (true, j_sI q125 b 3 (((q125.1 b) 3) + 1))) (J_zretB (pc := 142) dX6_readFirm_142 rfl)
  · refine J_iconst (pc := 17) (v := 0) dX6_readFirm_17 (by decide) ?_
    exact J_eqo (hk (false, q11.2)) (J_zretB (pc := 18) dX6_readFirm_18 rfl)
def f_X6_kindOf (r_1 : Nat → Int32) (r_2 : Nat → Int32) : Option (Int32) := ((f_X9_spells r_1 r_2 11).bind (fun q6 => if q6 = true then (some 0) else ((f_X9_spells r_1 r_2 12).bind (fun q20 => if q20 = true then (some 1) else ((f_X9_spells r_1 r_2 13).bind (fun q34 => if q34 = true then (some 2) else ((f_X9_spells r_1 r_2 14).bind (fun q48 => if q48 = true then (some 3) else (some (-1))))))))))
set_option maxRecDepth 100000 in
set_option maxHeartbeats 4000000 in
theorem s_X6_kindOf (g : JG) (d : JD) (h0 : j_sh g 0 TS_W RS_W) : JM mi_X6_kindOf 0 0 (g, d) [.ref 3] ((f_X6_kindOf (d.1 1) (d.1 2) ).bind (fun r9 => some (some (.int r9), (g, d)))) := by
  refine JM_of (by decide) rfl (Nat.le_of_ble_eq_true rfl) ?_
  refine J_loc (loc' := [(0, .ref 3)]) [0] rfl ?_
  obtain ⟨k, hk, hk2⟩ : ∃ k : Int32 → Option (Option Value × JH), (∀ r9, k r9 = some (some (.int r9), (g, d))) ∧ (fun r9 : Int32 => (some (some (.int r9), (g, d)) : Option (Option Value × JH))) = k := ⟨_, fun _ => rfl, rfl⟩
  rw [hk2]
  unfold f_X6_kindOf
  refine J_aload_n (pc := 0) 0 dX6_kindOf_0 rfl rfl ?_
  refine J_getR (pc := 1) dX6_kindOf_1 fl_X6_29 (h0.lt 3 (by decide)) (h0.ty 3 rfl) rfl (h0.rf 11 rfl) ?_
  refine J_ldcS (pc := 4) (k := 11) dX6_kindOf_4 (by decide) ⟨rfl, rfl⟩ ?_
  refine JC_pp_b (J_callV (mi := mi_X6_kindOf) (mj := mi_X9_spells) (pc := 6) dX6_kindOf_6 ml_X6_106 ok_X9_spells ov_X9_spells ⟨Nat.le_of_ble_eq_true rfl, Nat.le_of_ble_eq_true rfl⟩ rfl (h0.lt 1 (by decide)) (h0.ty 1 rfl) rfl (s_X9_spells g d 11 h0 (by decide)) rfl (Nat.le_of_ble_eq_true rfl)) (fun q6 => ?_)
  refine K_ifeq_b (K := (fun x => Option.bind x k)) (pc := 9) (tgt := 14) dX6_kindOf_9 (by decide) (fun z9 => ?_) (fun z9 => ?_)
  · refine J_aload_n (pc := 14) 0 dX6_kindOf_14 rfl rfl ?_
    refine J_getR (pc := 15) dX6_kindOf_15 fl_X6_29 (h0.lt 3 (by decide)) (h0.ty 3 rfl) rfl (h0.rf 11 rfl) ?_
    refine J_ldcS (pc := 18) (k := 12) dX6_kindOf_18 (by decide) ⟨rfl, rfl⟩ ?_
    refine JC_pp_b (J_callV (mi := mi_X6_kindOf) (mj := mi_X9_spells) (pc := 20) dX6_kindOf_20 ml_X6_106 ok_X9_spells ov_X9_spells ⟨Nat.le_of_ble_eq_true rfl, Nat.le_of_ble_eq_true rfl⟩ rfl (h0.lt 1 (by decide)) (h0.ty 1 rfl) rfl (s_X9_spells g d 12 h0 (by decide)) rfl (Nat.le_of_ble_eq_true rfl)) (fun q20 => ?_)
    refine K_ifeq_b (K := (fun x => Option.bind x k)) (pc := 23) (tgt := 28) dX6_kindOf_23 (by decide) (fun z23 => ?_) (fun z23 => ?_)
    · refine J_aload_n (pc := 28) 0 dX6_kindOf_28 rfl rfl ?_
      refine J_getR (pc := 29) dX6_kindOf_29 fl_X6_29 (h0.lt 3 (by decide)) (h0.ty 3 rfl) rfl (h0.rf 11 rfl) ?_
      refine J_ldcS (pc := 32) (k := 13) dX6_kindOf_32 (by decide) ⟨rfl, rfl⟩ ?_
      refine JC_pp_b (J_callV (mi := mi_X6_kindOf) (mj := mi_X9_spells) (pc := 34) dX6_kindOf_34 ml_X6_106 ok_X9_spells ov_X9_spells ⟨Nat.le_of_ble_eq_true rfl, Nat.le_of_ble_eq_true rfl⟩ rfl (h0.lt 1 (by decide)) (h0.ty 1 rfl) rfl (s_X9_spells g d 13 h0 (by decide)) rfl (Nat.le_of_ble_eq_true rfl)) (fun q34 => ?_)
      refine K_ifeq_b (K := (fun x => Option.bind x k)) (pc := 37) (tgt := 42) dX6_kindOf_37 (by decide) (fun z37 => ?_) (fun z37 => ?_)
      · refine J_aload_n (pc := 42) 0 dX6_kindOf_42 rfl rfl ?_
        refine J_getR (pc := 43) dX6_kindOf_43 fl_X6_29 (h0.lt 3 (by decide)) (h0.ty 3 rfl) rfl (h0.rf 11 rfl) ?_
        refine J_ldcS (pc := 46) (k := 14) dX6_kindOf_46 (by decide) ⟨rfl, rfl⟩ ?_
        refine JC_pp_b (J_callV (mi := mi_X6_kindOf) (mj := mi_X9_spells) (pc := 48) dX6_kindOf_48 ml_X6_106 ok_X9_spells ov_X9_spells ⟨Nat.le_of_ble_eq_true rfl, Nat.le_of_ble_eq_true rfl⟩ rfl (h0.lt 1 (by decide)) (h0.ty 1 rfl) rfl (s_X9_spells g d 14 h0 (by decide)) rfl (Nat.le_of_ble_eq_true rfl)) (fun q48 => ?_)
        refine K_ifeq_b (K := (fun x => Option.bind x k)) (pc := 51) (tgt := 58) dX6_kindOf_51 (by decide) (fun z51 => ?_) (fun z51 => ?_)
        · refine J_iconst (pc := 58) (v := (-1)) dX6_kindOf_58 (by decide) ?_
          exact J_eqo (hk (-1)) (J_iret (pc := 59) dX6_kindOf_59 rfl)
        · refine J_iconst (pc := 54) (v := 3) dX6_kindOf_54 (by decide) ?_
          refine J_goto (pc := 55) (tgt := 59) dX6_kindOf_55 (by decide) ?_
          exact J_eqo (hk 3) (J_iret (pc := 59) dX6_kindOf_59 rfl)
      · refine J_iconst (pc := 40) (v := 2) dX6_kindOf_40 (by decide) ?_
        exact J_eqo (hk 2) (J_iret (pc := 41) dX6_kindOf_41 rfl)
    · refine J_iconst (pc := 26) (v := 1) dX6_kindOf_26 (by decide) ?_
      exact J_eqo (hk 1) (J_iret (pc := 27) dX6_kindOf_27 rfl)
  · refine J_iconst (pc := 12) (v := 0) dX6_kindOf_12 (by decide) ?_
    exact J_eqo (hk 0) (J_iret (pc := 13) dX6_kindOf_13 rfl)
def f_X6_hungOf (r_1 : Nat → Int32) (r_2 : Nat → Int32) : Option (Int32) := ((f_X9_spells r_1 r_2 16).bind (fun q6 => if q6 = true then (some 0) else ((f_X9_spells r_1 r_2 17).bind (fun q20 => if q20 = true then (some 1) else ((f_X9_spells r_1 r_2 18).bind (fun q34 => if q34 = true then (some 2) else (some (-1))))))))
set_option maxRecDepth 100000 in
set_option maxHeartbeats 4000000 in
theorem s_X6_hungOf (g : JG) (d : JD) (h0 : j_sh g 0 TS_W RS_W) : JM mi_X6_hungOf 0 0 (g, d) [.ref 3] ((f_X6_hungOf (d.1 1) (d.1 2) ).bind (fun r9 => some (some (.int r9), (g, d)))) := by
  refine JM_of (by decide) rfl (Nat.le_of_ble_eq_true rfl) ?_
  refine J_loc (loc' := [(0, .ref 3)]) [0] rfl ?_
  obtain ⟨k, hk, hk2⟩ : ∃ k : Int32 → Option (Option Value × JH), (∀ r9, k r9 = some (some (.int r9), (g, d))) ∧ (fun r9 : Int32 => (some (some (.int r9), (g, d)) : Option (Option Value × JH))) = k := ⟨_, fun _ => rfl, rfl⟩
  rw [hk2]
  unfold f_X6_hungOf
  refine J_aload_n (pc := 0) 0 dX6_hungOf_0 rfl rfl ?_
  refine J_getR (pc := 1) dX6_hungOf_1 fl_X6_29 (h0.lt 3 (by decide)) (h0.ty 3 rfl) rfl (h0.rf 11 rfl) ?_
  refine J_ldcS (pc := 4) (k := 16) dX6_hungOf_4 (by decide) ⟨rfl, rfl⟩ ?_
  refine JC_pp_b (J_callV (mi := mi_X6_hungOf) (mj := mi_X9_spells) (pc := 6) dX6_hungOf_6 ml_X6_106 ok_X9_spells ov_X9_spells ⟨Nat.le_of_ble_eq_true rfl, Nat.le_of_ble_eq_true rfl⟩ rfl (h0.lt 1 (by decide)) (h0.ty 1 rfl) rfl (s_X9_spells g d 16 h0 (by decide)) rfl (Nat.le_of_ble_eq_true rfl)) (fun q6 => ?_)
  refine K_ifeq_b (K := (fun x => Option.bind x k)) (pc := 9) (tgt := 14) dX6_hungOf_9 (by decide) (fun z9 => ?_) (fun z9 => ?_)
  · refine J_aload_n (pc := 14) 0 dX6_hungOf_14 rfl rfl ?_
    refine J_getR (pc := 15) dX6_hungOf_15 fl_X6_29 (h0.lt 3 (by decide)) (h0.ty 3 rfl) rfl (h0.rf 11 rfl) ?_
    refine J_ldcS (pc := 18) (k := 17) dX6_hungOf_18 (by decide) ⟨rfl, rfl⟩ ?_
    refine JC_pp_b (J_callV (mi := mi_X6_hungOf) (mj := mi_X9_spells) (pc := 20) dX6_hungOf_20 ml_X6_106 ok_X9_spells ov_X9_spells ⟨Nat.le_of_ble_eq_true rfl, Nat.le_of_ble_eq_true rfl⟩ rfl (h0.lt 1 (by decide)) (h0.ty 1 rfl) rfl (s_X9_spells g d 17 h0 (by decide)) rfl (Nat.le_of_ble_eq_true rfl)) (fun q20 => ?_)
    refine K_ifeq_b (K := (fun x => Option.bind x k)) (pc := 23) (tgt := 28) dX6_hungOf_23 (by decide) (fun z23 => ?_) (fun z23 => ?_)
    · refine J_aload_n (pc := 28) 0 dX6_hungOf_28 rfl rfl ?_
      refine J_getR (pc := 29) dX6_hungOf_29 fl_X6_29 (h0.lt 3 (by decide)) (h0.ty 3 rfl) rfl (h0.rf 11 rfl) ?_
      refine J_ldcS (pc := 32) (k := 18) dX6_hungOf_32 (by decide) ⟨rfl, rfl⟩ ?_
      refine JC_pp_b (J_callV (mi := mi_X6_hungOf) (mj := mi_X9_spells) (pc := 34) dX6_hungOf_34 ml_X6_106 ok_X9_spells ov_X9_spells ⟨Nat.le_of_ble_eq_true rfl, Nat.le_of_ble_eq_true rfl⟩ rfl (h0.lt 1 (by decide)) (h0.ty 1 rfl) rfl (s_X9_spells g d 18 h0 (by decide)) rfl (Nat.le_of_ble_eq_true rfl)) (fun q34 => ?_)
      refine K_ifeq_b (K := (fun x => Option.bind x k)) (pc := 37) (tgt := 44) dX6_hungOf_37 (by decide) (fun z37 => ?_) (fun z37 => ?_)
      · refine J_iconst (pc := 44) (v := (-1)) dX6_hungOf_44 (by decide) ?_
        exact J_eqo (hk (-1)) (J_iret (pc := 45) dX6_hungOf_45 rfl)
      · refine J_iconst (pc := 40) (v := 2) dX6_hungOf_40 (by decide) ?_
        refine J_goto (pc := 41) (tgt := 45) dX6_hungOf_41 (by decide) ?_
        exact J_eqo (hk 2) (J_iret (pc := 45) dX6_hungOf_45 rfl)
    · refine J_iconst (pc := 26) (v := 1) dX6_hungOf_26 (by decide) ?_
      exact J_eqo (hk 1) (J_iret (pc := 27) dX6_hungOf_27 rfl)
  · refine J_iconst (pc := 12) (v := 0) dX6_hungOf_12 (by decide) ?_
    exact J_eqo (hk 0) (J_iret (pc := 13) dX6_hungOf_13 rfl)
def f_X6_readGate (b : Nat) (d : JD) : Option (Bool × JD) := ((f_X6_readNewName d 3 ((d.1 b) 4)).bind (fun q9 => if q9.1 = true then ((f_X6_kindOf (q9.2.1 1) (q9.2.1 2)).bind (fun q18 => if q18 = (-1) then (j_let (f_X6_fail q9.2 1) (fun q29 => some (q29.1, q29.2))) else ((f_X9_advance q9.2).bind (fun q37 => (f_X6_toldNumber q37 2).bind (fun q42 => if q42.1 = (-1) then (some (false, q42.2)) else ((f_X9_advance q42.2).bind (fun q57 => (f_X6_readWord q57 15).bind (fun q63 => if q63.1 = true then (j_let (f_X6_isWholeUpTo q63.2 99) (fun q72 => if q72.1 = true then ((f_X9_advance q72.2).bind (fun q92 => (f_X6_hungOf (q92.1 1) (q92.1 2)).bind (fun q96 => if q96 = (-1) then (j_let (f_X6_fail q92 1) (fun q109 => some (q109.1, q109.2))) else ((f_X3_addGate b q92 q18 q42.1 ((q72.2.1 1) 7) q96).bind (fun q122 => (f_X9_advance q122).bind (fun q129 => some (true, q129))))))) else (some (false, q72.2)))) else (some (false, q63.2)))))))))) else (some (false, q9.2))))
set_option maxRecDepth 100000 in
set_option maxHeartbeats 4000000 in
theorem s_X6_readGate (g : JG) (d : JD) (b : Nat) (h0 : j_sh g 0 TS_W RS_W) (hb : j_sh g b TS_CL RS_CL) (hin : g.2.2.1 3 1 = some b) : JM mi_X6_readGate 0 0 (g, d) [.ref 3] ((f_X6_readGate b d ).bind (fun r9 => some (some (.int (j_b r9.1)), (g, r9.2)))) := by
  refine JM_of (by decide) rfl (Nat.le_of_ble_eq_true rfl) ?_
  refine J_loc (loc' := [(0, .ref 3)]) [0] rfl ?_
  obtain ⟨k, hk, hk2⟩ : ∃ k : Bool × JD → Option (Option Value × JH), (∀ r9, k r9 = some (some (.int (j_b r9.1)), (g, r9.2))) ∧ (fun r9 : Bool × JD => (some (some (.int (j_b r9.1)), (g, r9.2)) : Option (Option Value × JH))) = k := ⟨_, fun _ => rfl, rfl⟩
  rw [hk2]
  unfold f_X6_readGate
  refine J_aload_n (pc := 0) 0 dX6_readGate_0 rfl rfl ?_
  refine J_iconst (pc := 1) (v := 3) dX6_readGate_1 (by decide) ?_
  refine J_aload_n (pc := 2) 0 dX6_readGate_2 rfl rfl ?_
  refine J_getR (pc := 3) dX6_readGate_3 fl_X6_12 (h0.lt 3 (by decide)) (h0.ty 3 rfl) rfl hin ?_
  refine J_getI (pc := 6) dX6_readGate_6 fl_X6_63 (hb.lt 0 (by decide)) (hb.ty 0 rfl) rfl ?_
  refine JC_pe_b (J_callV (mi := mi_X6_readGate) (mj := mi_X6_readNewName) (pc := 9) dX6_readGate_9 ml_X6_163 ok_X6_readNewName ov_X6_readNewName ⟨Nat.le_of_ble_eq_true rfl, Nat.le_of_ble_eq_true rfl⟩ rfl (h0.lt 3 (by decide)) (h0.ty 3 rfl) rfl (s_X6_readNewName g d 3 ((d.1 b) 4) h0) rfl (Nat.le_of_ble_eq_true rfl)) (fun q9 => ?_)
  refine K_ifne_b (K := (fun x => Option.bind x k)) (pc := 12) (tgt := 17) dX6_readGate_12 (by decide) (fun z12 => ?_) (fun z12 => ?_)
  · refine J_aload_n (pc := 17) 0 dX6_readGate_17 rfl rfl ?_
    refine JC_pp_i (J_callV (mi := mi_X6_readGate) (mj := mi_X6_kindOf) (pc := 18) dX6_readGate_18 ml_X6_184 ok_X6_kindOf ov_X6_kindOf ⟨Nat.le_of_ble_eq_true rfl, Nat.le_of_ble_eq_true rfl⟩ rfl (h0.lt 3 (by decide)) (h0.ty 3 rfl) rfl (s_X6_kindOf g q9.2 h0) rfl (Nat.le_of_ble_eq_true rfl)) (fun q18 => ?_)
    refine J_istore_n (pc := 21) (loc' := [(1, .int q18), (0, .ref 3)]) dX6_readGate_21 rfl (by decide) rfl ?_
    refine J_iload_n (pc := 22) 0 dX6_readGate_22 rfl rfl ?_
    refine J_iconst (pc := 23) (v := (-1)) dX6_readGate_23 (by decide) ?_
    refine K_icmp_ne (K := (fun x => Option.bind x k)) (pc := 24) (tgt := 33) dX6_readGate_24 (by decide) (fun z24 => ?_) (fun z24 => ?_)
    · refine J_aload_n (pc := 33) 1 dX6_readGate_33 rfl rfl ?_
      refine J_getR (pc := 34) dX6_readGate_34 fl_X6_29 (h0.lt 3 (by decide)) (h0.ty 3 rfl) rfl (h0.rf 11 rfl) ?_
      refine JC_pe_v (J_callV (mi := mi_X6_readGate) (mj := mi_X9_advance) (pc := 37) dX6_readGate_37 ml_X6_70 ok_X9_advance ov_X9_advance ⟨Nat.le_of_ble_eq_true rfl, Nat.le_of_ble_eq_true rfl⟩ rfl (h0.lt 1 (by decide)) (h0.ty 1 rfl) rfl (s_X9_advance g q9.2 h0) rfl (Nat.le_of_ble_eq_true rfl)) (fun q37 => ?_)
      refine J_aload_n (pc := 40) 1 dX6_readGate_40 rfl rfl ?_
      refine J_iconst (pc := 41) (v := 2) dX6_readGate_41 (by decide) ?_
      refine JC_pe_i (J_callV (mi := mi_X6_readGate) (mj := mi_X6_toldNumber) (pc := 42) dX6_readGate_42 ml_X6_167 ok_X6_toldNumber ov_X6_toldNumber ⟨Nat.le_of_ble_eq_true rfl, Nat.le_of_ble_eq_true rfl⟩ rfl (h0.lt 3 (by decide)) (h0.ty 3 rfl) rfl (s_X6_toldNumber g q37 2 h0) rfl (Nat.le_of_ble_eq_true rfl)) (fun q42 => ?_)
      refine J_istore_n (pc := 45) (loc' := [(2, .int q42.1), (1, .int q18), (0, .ref 3)]) dX6_readGate_45 rfl (by decide) rfl ?_
      refine J_iload_n (pc := 46) 0 dX6_readGate_46 rfl rfl ?_
      refine J_iconst (pc := 47) (v := (-1)) dX6_readGate_47 (by decide) ?_
      refine K_icmp_ne (K := (fun x => Option.bind x k)) (pc := 48) (tgt := 53) dX6_readGate_48 (by decide) (fun z48 => ?_) (fun z48 => ?_)
      · refine J_aload_n (pc := 53) 2 dX6_readGate_53 rfl rfl ?_
        refine J_getR (pc := 54) dX6_readGate_54 fl_X6_29 (h0.lt 3 (by decide)) (h0.ty 3 rfl) rfl (h0.rf 11 rfl) ?_
        refine JC_pe_v (J_callV (mi := mi_X6_readGate) (mj := mi_X9_advance) (pc := 57) dX6_readGate_57 ml_X6_70 ok_X9_advance ov_X9_advance ⟨Nat.le_of_ble_eq_true rfl, Nat.le_of_ble_eq_true rfl⟩ rfl (h0.lt 1 (by decide)) (h0.ty 1 rfl) rfl (s_X9_advance g q42.2 h0) rfl (Nat.le_of_ble_eq_true rfl)) (fun q57 => ?_)
        refine J_aload_n (pc := 60) 2 dX6_readGate_60 rfl rfl ?_
        refine J_ldcS (pc := 61) (k := 15) dX6_readGate_61 (by decide) ⟨rfl, rfl⟩ ?_
        refine JC_pe_b (J_callV (mi := mi_X6_readGate) (mj := mi_X6_readWord) (pc := 63) dX6_readGate_63 ml_X6_147 ok_X6_readWord ov_X6_readWord ⟨Nat.le_of_ble_eq_true rfl, Nat.le_of_ble_eq_true rfl⟩ rfl (h0.lt 3 (by decide)) (h0.ty 3 rfl) rfl (s_X6_readWord g q57 15 h0 (by decide)) rfl (Nat.le_of_ble_eq_true rfl)) (fun q63 => ?_)
        refine K_ifeq_b (K := (fun x => Option.bind x k)) (pc := 66) (tgt := 78) dX6_readGate_66 (by decide) (fun z66 => ?_) (fun z66 => ?_)
        · refine J_iconst (pc := 78) (v := 0) dX6_readGate_78 (by decide) ?_
          exact J_eqo (hk (false, q63.2)) (J_zretB (pc := 79) dX6_readGate_79 rfl)
        · refine J_aload_n (pc := 69) 2 dX6_readGate_69 rfl rfl ?_
          refine J_bipush (pc := 70) (v := 99) dX6_readGate_70 (by decide) ?_
          refine JC_lt_b (K := (fun x => Option.bind x k)) (J_callV (mi := mi_X6_readGate) (mj := mi_X6_isWholeUpTo) (pc := 72) dX6_readGate_72 ml_X6_150 ok_X6_isWholeUpTo ov_X6_isWholeUpTo ⟨Nat.le_of_ble_eq_true rfl, Nat.le_of_ble_eq_true rfl⟩ rfl (h0.lt 3 (by decide)) (h0.ty 3 rfl) rfl (s_X6_isWholeUpTo g q63.2 99 h0) rfl (Nat.le_of_ble_eq_true rfl)) (fun q72 eq72 => ?_)
          refine K_ifne_b (K := (fun x => Option.bind x k)) (pc := 75) (tgt := 80) dX6_readGate_75 (by decide) (fun z75 => ?_) (fun z75 => ?_)
          · refine J_aload_n (pc := 80) 2 dX6_readGate_80 rfl rfl ?_
            refine J_getR (pc := 81) dX6_readGate_81 fl_X6_29 (h0.lt 3 (by decide)) (h0.ty 3 rfl) rfl (h0.rf 11 rfl) ?_
            refine J_getI (pc := 84) dX6_readGate_84 fl_X6_153 (h0.lt 1 (by decide)) (h0.ty 1 rfl) rfl ?_
            refine J_istore_n (pc := 87) (loc' := [(3, .int ((q72.2.1 1) 7)), (2, .int q42.1), (1, .int q18), (0, .ref 3)]) dX6_readGate_87 rfl (by decide) rfl ?_
            refine J_aload_n (pc := 88) 3 dX6_readGate_88 rfl rfl ?_
            refine J_getR (pc := 89) dX6_readGate_89 fl_X6_29 (h0.lt 3 (by decide)) (h0.ty 3 rfl) rfl (h0.rf 11 rfl) ?_
            refine JC_pe_v (J_callV (mi := mi_X6_readGate) (mj := mi_X9_advance) (pc := 92) dX6_readGate_92 ml_X6_70 ok_X9_advance ov_X9_advance ⟨Nat.le_of_ble_eq_true rfl, Nat.le_of_ble_eq_true rfl⟩ rfl (h0.lt 1 (by decide)) (h0.ty 1 rfl) rfl (s_X9_advance g q72.2 h0) rfl (Nat.le_of_ble_eq_true rfl)) (fun q92 => ?_)
            refine J_aload_n (pc := 95) 3 dX6_readGate_95 rfl rfl ?_
            refine JC_pp_i (J_callV (mi := mi_X6_readGate) (mj := mi_X6_hungOf) (pc := 96) dX6_readGate_96 ml_X6_189 ok_X6_hungOf ov_X6_hungOf ⟨Nat.le_of_ble_eq_true rfl, Nat.le_of_ble_eq_true rfl⟩ rfl (h0.lt 3 (by decide)) (h0.ty 3 rfl) rfl (s_X6_hungOf g q92 h0) rfl (Nat.le_of_ble_eq_true rfl)) (fun q96 => ?_)
            refine J_istore (pc := 99) (loc' := [(4, .int q96), (3, .int ((q72.2.1 1) 7)), (2, .int q42.1), (1, .int q18), (0, .ref 3)]) dX6_readGate_99 (by decide) rfl ?_
            refine J_iload (pc := 101) 0 dX6_readGate_101 rfl ?_
            refine J_iconst (pc := 103) (v := (-1)) dX6_readGate_103 (by decide) ?_
            refine K_icmp_ne (K := (fun x => Option.bind x k)) (pc := 104) (tgt := 113) dX6_readGate_104 (by decide) (fun z104 => ?_) (fun z104 => ?_)
            · refine J_aload_n (pc := 113) 4 dX6_readGate_113 rfl rfl ?_
              refine J_getR (pc := 114) dX6_readGate_114 fl_X6_12 (h0.lt 3 (by decide)) (h0.ty 3 rfl) rfl hin ?_
              refine J_iload_n (pc := 117) 3 dX6_readGate_117 rfl rfl ?_
              refine J_iload_n (pc := 118) 2 dX6_readGate_118 rfl rfl ?_
              refine J_iload_n (pc := 119) 1 dX6_readGate_119 rfl rfl ?_
              refine J_iload (pc := 120) 0 dX6_readGate_120 rfl ?_
              refine JC_pe_v (J_callV (mi := mi_X6_readGate) (mj := mi_X3_addGate) (pc := 122) dX6_readGate_122 ml_X6_192 ok_X3_addGate ov_X3_addGate ⟨Nat.le_of_ble_eq_true rfl, Nat.le_of_ble_eq_true rfl⟩ rfl (hb.lt 0 (by decide)) (hb.ty 0 rfl) rfl (s_X3_addGate g q92 b q18 q42.1 ((q72.2.1 1) 7) q96 hb) rfl (Nat.le_of_ble_eq_true rfl)) (fun q122 => ?_)
              refine J_aload_n (pc := 125) 4 dX6_readGate_125 rfl rfl ?_
              refine J_getR (pc := 126) dX6_readGate_126 fl_X6_29 (h0.lt 3 (by decide)) (h0.ty 3 rfl) rfl (h0.rf 11 rfl) ?_
              refine JC_pe_v (J_callV (mi := mi_X6_readGate) (mj := mi_X9_advance) (pc := 129) dX6_readGate_129 ml_X6_70 ok_X9_advance ov_X9_advance ⟨Nat.le_of_ble_eq_true rfl, Nat.le_of_ble_eq_true rfl⟩ rfl (h0.lt 1 (by decide)) (h0.ty 1 rfl) rfl (s_X9_advance g q122 h0) rfl (Nat.le_of_ble_eq_true rfl)) (fun q129 => ?_)
              refine J_iconst (pc := 132) (v := 1) dX6_readGate_132 (by decide) ?_
              exact J_eqo (hk (true, q129)) (J_zretB (pc := 133) dX6_readGate_133 rfl)
            · refine J_aload_n (pc := 107) 4 dX6_readGate_107 rfl rfl ?_
              refine J_iconst (pc := 108) (v := 1) dX6_readGate_108 (by decide) ?_
              refine JC_lt_b (K := (fun x => Option.bind x k)) (J_callV (mi := mi_X6_readGate) (mj := mi_X6_fail) (pc := 109) dX6_readGate_109 ml_X6_66 ok_X6_fail ov_X6_fail ⟨Nat.le_of_ble_eq_true rfl, Nat.le_of_ble_eq_true rfl⟩ rfl (h0.lt 3 (by decide)) (h0.ty 3 rfl) rfl (s_X6_fail g q92 1 h0) rfl (Nat.le_of_ble_eq_true rfl)) (fun q109 eq109 => ?_)
              exact J_eqo (hk (q109.1, q109.2)) (J_zretB (pc := 112) dX6_readGate_112 rfl)
          · refine J_iconst (pc := 78) (v := 0) dX6_readGate_78 (by decide) ?_
            exact J_eqo (hk (false, q72.2)) (J_zretB (pc := 79) dX6_readGate_79 rfl)
      · refine J_iconst (pc := 51) (v := 0) dX6_readGate_51 (by decide) ?_
        exact J_eqo (hk (false, q42.2)) (J_zretB (pc := 52) dX6_readGate_52 rfl)
    · refine J_aload_n (pc := 27) 1 dX6_readGate_27 rfl rfl ?_
      refine J_iconst (pc := 28) (v := 1) dX6_readGate_28 (by decide) ?_
      refine JC_lt_b (K := (fun x => Option.bind x k)) (J_callV (mi := mi_X6_readGate) (mj := mi_X6_fail) (pc := 29) dX6_readGate_29 ml_X6_66 ok_X6_fail ov_X6_fail ⟨Nat.le_of_ble_eq_true rfl, Nat.le_of_ble_eq_true rfl⟩ rfl (h0.lt 3 (by decide)) (h0.ty 3 rfl) rfl (s_X6_fail g q9.2 1 h0) rfl (Nat.le_of_ble_eq_true rfl)) (fun q29 eq29 => ?_)
      exact J_eqo (hk (q29.1, q29.2)) (J_zretB (pc := 32) dX6_readGate_32 rfl)
  · refine J_iconst (pc := 15) (v := 0) dX6_readGate_15 (by decide) ?_
    exact J_eqo (hk (false, q9.2)) (J_zretB (pc := 16) dX6_readGate_16 rfl)
def f_X6_readPath_j56 (b : Nat) (d56 : JD) : Option (Bool × JD) := (j_let (f_X6_fail d56 3) (fun q58 => some (q58.1, q58.2)))
def f_X6_readPath (b : Nat) (d : JD) : Option (Bool × JD) := ((f_X6_toldNumber d 3).bind (fun q2 => if q2.1 = (-1) then (some (false, q2.2)) else ((f_X9_advance q2.2).bind (fun q17 => (f_X6_toldNumber q17 3).bind (fun q22 => if q22.1 = (-1) then (some (false, q22.2)) else (if q22.1 = q2.1 then f_X6_readPath_j56 b q22.2 else (if (f_X11_hasBit (f_X11_at (q22.2.1 (b + 6)) 6 q2.1) q22.1) = true then f_X6_readPath_j56 b q22.2 else (j_let (f_X3_addPath b q22.2 q2.1 q22.1) (fun q68 => (f_X9_advance q68).bind (fun q75 => some (true, q75)))))))))))
set_option maxRecDepth 100000 in
set_option maxHeartbeats 4000000 in
theorem s_X6_readPath (g : JG) (d : JD) (b : Nat) (h0 : j_sh g 0 TS_W RS_W) (hb : j_sh g b TS_CL RS_CL) (hin : g.2.2.1 3 1 = some b) : JM mi_X6_readPath 0 0 (g, d) [.ref 3] ((f_X6_readPath b d ).bind (fun r9 => some (some (.int (j_b r9.1)), (g, r9.2)))) := by
  refine JM_of (by decide) rfl (Nat.le_of_ble_eq_true rfl) ?_
  refine J_loc (loc' := [(0, .ref 3)]) [0] rfl ?_
  obtain ⟨k, hk, hk2⟩ : ∃ k : Bool × JD → Option (Option Value × JH), (∀ r9, k r9 = some (some (.int (j_b r9.1)), (g, r9.2))) ∧ (fun r9 : Bool × JD => (some (some (.int (j_b r9.1)), (g, r9.2)) : Option (Option Value × JH))) = k := ⟨_, fun _ => rfl, rfl⟩
  rw [hk2]
  unfold f_X6_readPath
  have hX6_readPath_j56 : ∀ (d56 : JD) , J mi_X6_readPath 0 0 0 0 (g, d56) 56 [(0, .ref 3)] [] ((f_X6_readPath_j56 b d56 ).bind k) := by
    intro d56 
    unfold f_X6_readPath_j56
    refine J_aload_n (pc := 56) 0 dX6_readPath_56 rfl rfl ?_
    refine J_iconst (pc := 57) (v := 3) dX6_readPath_57 (by decide) ?_
    refine JC_lt_b (K := (fun x => Option.bind x k)) (J_callV (mi := mi_X6_readPath) (mj := mi_X6_fail) (pc := 58) dX6_readPath_58 ml_X6_66 ok_X6_fail ov_X6_fail ⟨Nat.le_of_ble_eq_true rfl, Nat.le_of_ble_eq_true rfl⟩ rfl (h0.lt 3 (by decide)) (h0.ty 3 rfl) rfl (s_X6_fail g d56 3 h0) rfl (Nat.le_of_ble_eq_true rfl)) (fun q58 eq58 => ?_)
    exact J_eqo (hk (q58.1, q58.2)) (J_zretB (pc := 61) dX6_readPath_61 rfl)
  refine J_aload_n (pc := 0) 0 dX6_readPath_0 rfl rfl ?_
  refine J_iconst (pc := 1) (v := 3) dX6_readPath_1 (by decide) ?_
  refine JC_pe_i (J_callV (mi := mi_X6_readPath) (mj := mi_X6_toldNumber) (pc := 2) dX6_readPath_2 ml_X6_167 ok_X6_toldNumber ov_X6_toldNumber ⟨Nat.le_of_ble_eq_true rfl, Nat.le_of_ble_eq_true rfl⟩ rfl (h0.lt 3 (by decide)) (h0.ty 3 rfl) rfl (s_X6_toldNumber g d 3 h0) rfl (Nat.le_of_ble_eq_true rfl)) (fun q2 => ?_)
  refine J_istore_n (pc := 5) (loc' := [(1, .int q2.1), (0, .ref 3)]) dX6_readPath_5 rfl (by decide) rfl ?_
  refine J_iload_n (pc := 6) 0 dX6_readPath_6 rfl rfl ?_
  refine J_iconst (pc := 7) (v := (-1)) dX6_readPath_7 (by decide) ?_
  refine K_icmp_ne (K := (fun x => Option.bind x k)) (pc := 8) (tgt := 13) dX6_readPath_8 (by decide) (fun z8 => ?_) (fun z8 => ?_)
  · refine J_aload_n (pc := 13) 1 dX6_readPath_13 rfl rfl ?_
    refine J_getR (pc := 14) dX6_readPath_14 fl_X6_29 (h0.lt 3 (by decide)) (h0.ty 3 rfl) rfl (h0.rf 11 rfl) ?_
    refine JC_pe_v (J_callV (mi := mi_X6_readPath) (mj := mi_X9_advance) (pc := 17) dX6_readPath_17 ml_X6_70 ok_X9_advance ov_X9_advance ⟨Nat.le_of_ble_eq_true rfl, Nat.le_of_ble_eq_true rfl⟩ rfl (h0.lt 1 (by decide)) (h0.ty 1 rfl) rfl (s_X9_advance g q2.2 h0) rfl (Nat.le_of_ble_eq_true rfl)) (fun q17 => ?_)
    refine J_aload_n (pc := 20) 1 dX6_readPath_20 rfl rfl ?_
    refine J_iconst (pc := 21) (v := 3) dX6_readPath_21 (by decide) ?_
    refine JC_pe_i (J_callV (mi := mi_X6_readPath) (mj := mi_X6_toldNumber) (pc := 22) dX6_readPath_22 ml_X6_167 ok_X6_toldNumber ov_X6_toldNumber ⟨Nat.le_of_ble_eq_true rfl, Nat.le_of_ble_eq_true rfl⟩ rfl (h0.lt 3 (by decide)) (h0.ty 3 rfl) rfl (s_X6_toldNumber g q17 3 h0) rfl (Nat.le_of_ble_eq_true rfl)) (fun q22 => ?_)
    refine J_istore_n (pc := 25) (loc' := [(2, .int q22.1), (1, .int q2.1), (0, .ref 3)]) dX6_readPath_25 rfl (by decide) rfl ?_
    refine J_iload_n (pc := 26) 0 dX6_readPath_26 rfl rfl ?_
    refine J_iconst (pc := 27) (v := (-1)) dX6_readPath_27 (by decide) ?_
    refine K_icmp_ne (K := (fun x => Option.bind x k)) (pc := 28) (tgt := 33) dX6_readPath_28 (by decide) (fun z28 => ?_) (fun z28 => ?_)
    · refine J_iload_n (pc := 33) 0 dX6_readPath_33 rfl rfl ?_
      refine J_iload_n (pc := 34) 1 dX6_readPath_34 rfl rfl ?_
      refine K_icmp_eq (K := (fun x => Option.bind x k)) (pc := 35) (tgt := 56) dX6_readPath_35 (by decide) (fun z35 => ?_) (fun z35 => ?_)
      · refine J_loc (loc' := [(0, .ref 3)]) [2] rfl ?_
        exact hX6_readPath_j56 q22.2 
      · refine J_aload_n (pc := 38) 2 dX6_readPath_38 rfl rfl ?_
        refine J_getR (pc := 39) dX6_readPath_39 fl_X6_12 (h0.lt 3 (by decide)) (h0.ty 3 rfl) rfl hin ?_
        refine J_getR (pc := 42) dX6_readPath_42 fl_X6_210 (hb.lt 0 (by decide)) (hb.ty 0 rfl) rfl (hb.rf 5 rfl) ?_
        refine J_iload_n (pc := 45) 1 dX6_readPath_45 rfl rfl ?_
        refine JC_pt_i (J_callS (mi := mi_X6_readPath) (mj := mi_X11_at) (pc := 46) dX6_readPath_46 ml_X6_213 ok_X11_at os_X11_at ⟨Nat.le_of_ble_eq_true rfl, Nat.le_of_ble_eq_true rfl⟩ rfl (s_X11_at g q22.2 (b + 6) 6 q2.1 (⟨(hb.lt 6 (by decide)), (hb.ty 6 rfl), by decide⟩)) rfl (Nat.le_of_ble_eq_true rfl)) ?_
        refine J_iload_n (pc := 49) 0 dX6_readPath_49 rfl rfl ?_
        refine JC_pt_i (J_callS (mi := mi_X6_readPath) (mj := mi_X11_hasBit) (pc := 50) dX6_readPath_50 ml_X6_171 ok_X11_hasBit os_X11_hasBit ⟨Nat.le_of_ble_eq_true rfl, Nat.le_of_ble_eq_true rfl⟩ rfl (s_X11_hasBit g q22.2 (f_X11_at (q22.2.1 (b + 6)) 6 q2.1) q22.1) rfl (Nat.le_of_ble_eq_true rfl)) ?_
        refine K_ifeq_b (K := (fun x => Option.bind x k)) (pc := 53) (tgt := 62) dX6_readPath_53 (by decide) (fun z53 => ?_) (fun z53 => ?_)
        · refine J_aload_n (pc := 62) 2 dX6_readPath_62 rfl rfl ?_
          refine J_getR (pc := 63) dX6_readPath_63 fl_X6_12 (h0.lt 3 (by decide)) (h0.ty 3 rfl) rfl hin ?_
          refine J_iload_n (pc := 66) 1 dX6_readPath_66 rfl rfl ?_
          refine J_iload_n (pc := 67) 0 dX6_readPath_67 rfl rfl ?_
          refine JC_lt_v (K := (fun x => Option.bind x k)) (J_callV (mi := mi_X6_readPath) (mj := mi_X3_addPath) (pc := 68) dX6_readPath_68 ml_X6_217 ok_X3_addPath ov_X3_addPath ⟨Nat.le_of_ble_eq_true rfl, Nat.le_of_ble_eq_true rfl⟩ rfl (hb.lt 0 (by decide)) (hb.ty 0 rfl) rfl (s_X3_addPath g q22.2 b q2.1 q22.1 hb) rfl (Nat.le_of_ble_eq_true rfl)) (fun q68 eq68 => ?_)
          refine J_aload_n (pc := 71) 2 dX6_readPath_71 rfl rfl ?_
          refine J_getR (pc := 72) dX6_readPath_72 fl_X6_29 (h0.lt 3 (by decide)) (h0.ty 3 rfl) rfl (h0.rf 11 rfl) ?_
          refine JC_pe_v (J_callV (mi := mi_X6_readPath) (mj := mi_X9_advance) (pc := 75) dX6_readPath_75 ml_X6_70 ok_X9_advance ov_X9_advance ⟨Nat.le_of_ble_eq_true rfl, Nat.le_of_ble_eq_true rfl⟩ rfl (h0.lt 1 (by decide)) (h0.ty 1 rfl) rfl (s_X9_advance g q68 h0) rfl (Nat.le_of_ble_eq_true rfl)) (fun q75 => ?_)
          refine J_iconst (pc := 78) (v := 1) dX6_readPath_78 (by decide) ?_
          exact J_eqo (hk (true, q75)) (J_zretB (pc := 79) dX6_readPath_79 rfl)
        · refine J_loc (loc' := [(0, .ref 3)]) [2] rfl ?_
          exact hX6_readPath_j56 q22.2 
    · refine J_iconst (pc := 31) (v := 0) dX6_readPath_31 (by decide) ?_
      exact J_eqo (hk (false, q22.2)) (J_zretB (pc := 32) dX6_readPath_32 rfl)
  · refine J_iconst (pc := 11) (v := 0) dX6_readPath_11 (by decide) ?_
    exact J_eqo (hk (false, q2.2)) (J_zretB (pc := 12) dX6_readPath_12 rfl)
def f_X6_readWant (b : Nat) (d : JD) (pq0 : Int32) : Option (Bool × JD) := ((f_X6_toldNumber d 1).bind (fun q2 => if q2.1 = (-1) then (some (false, q2.2)) else ((f_X9_advance q2.2).bind (fun q17 => (f_X6_toldNumber q17 3).bind (fun q22 => if q22.1 = (-1) then (some (false, q22.2)) else (j_let (f_X0_addWant (b + 9) q22.2 q2.1 q22.1 pq0) (fun q43 => (f_X9_advance q43).bind (fun q50 => some (true, q50)))))))))
set_option maxRecDepth 100000 in
set_option maxHeartbeats 4000000 in
theorem s_X6_readWant (g : JG) (d : JD) (b : Nat) (pq0 : Int32) (h0 : j_sh g 0 TS_W RS_W) (hb : j_sh g b TS_CL RS_CL) (hin : g.2.2.1 3 1 = some b) : JM mi_X6_readWant 0 0 (g, d) [.ref 3, .int pq0] ((f_X6_readWant b d pq0).bind (fun r9 => some (some (.int (j_b r9.1)), (g, r9.2)))) := by
  refine JM_of (by decide) rfl (Nat.le_of_ble_eq_true rfl) ?_
  refine J_loc (loc' := [(0, .ref 3), (1, .int pq0)]) [0, 1] rfl ?_
  obtain ⟨k, hk, hk2⟩ : ∃ k : Bool × JD → Option (Option Value × JH), (∀ r9, k r9 = some (some (.int (j_b r9.1)), (g, r9.2))) ∧ (fun r9 : Bool × JD => (some (some (.int (j_b r9.1)), (g, r9.2)) : Option (Option Value × JH))) = k := ⟨_, fun _ => rfl, rfl⟩
  rw [hk2]
  unfold f_X6_readWant
  refine J_aload_n (pc := 0) 0 dX6_readWant_0 rfl rfl ?_
  refine J_iconst (pc := 1) (v := 1) dX6_readWant_1 (by decide) ?_
  refine JC_pe_i (J_callV (mi := mi_X6_readWant) (mj := mi_X6_toldNumber) (pc := 2) dX6_readWant_2 ml_X6_167 ok_X6_toldNumber ov_X6_toldNumber ⟨Nat.le_of_ble_eq_true rfl, Nat.le_of_ble_eq_true rfl⟩ rfl (h0.lt 3 (by decide)) (h0.ty 3 rfl) rfl (s_X6_toldNumber g d 1 h0) rfl (Nat.le_of_ble_eq_true rfl)) (fun q2 => ?_)
  refine J_istore_n (pc := 5) (loc' := [(2, .int q2.1), (0, .ref 3), (1, .int pq0)]) dX6_readWant_5 rfl (by decide) rfl ?_
  refine J_iload_n (pc := 6) 0 dX6_readWant_6 rfl rfl ?_
  refine J_iconst (pc := 7) (v := (-1)) dX6_readWant_7 (by decide) ?_
  refine K_icmp_ne (K := (fun x => Option.bind x k)) (pc := 8) (tgt := 13) dX6_readWant_8 (by decide) (fun z8 => ?_) (fun z8 => ?_)
  · refine J_aload_n (pc := 13) 1 dX6_readWant_13 rfl rfl ?_
    refine J_getR (pc := 14) dX6_readWant_14 fl_X6_29 (h0.lt 3 (by decide)) (h0.ty 3 rfl) rfl (h0.rf 11 rfl) ?_
    refine JC_pe_v (J_callV (mi := mi_X6_readWant) (mj := mi_X9_advance) (pc := 17) dX6_readWant_17 ml_X6_70 ok_X9_advance ov_X9_advance ⟨Nat.le_of_ble_eq_true rfl, Nat.le_of_ble_eq_true rfl⟩ rfl (h0.lt 1 (by decide)) (h0.ty 1 rfl) rfl (s_X9_advance g q2.2 h0) rfl (Nat.le_of_ble_eq_true rfl)) (fun q17 => ?_)
    refine J_aload_n (pc := 20) 1 dX6_readWant_20 rfl rfl ?_
    refine J_iconst (pc := 21) (v := 3) dX6_readWant_21 (by decide) ?_
    refine JC_pe_i (J_callV (mi := mi_X6_readWant) (mj := mi_X6_toldNumber) (pc := 22) dX6_readWant_22 ml_X6_167 ok_X6_toldNumber ov_X6_toldNumber ⟨Nat.le_of_ble_eq_true rfl, Nat.le_of_ble_eq_true rfl⟩ rfl (h0.lt 3 (by decide)) (h0.ty 3 rfl) rfl (s_X6_toldNumber g q17 3 h0) rfl (Nat.le_of_ble_eq_true rfl)) (fun q22 => ?_)
    refine J_istore_n (pc := 25) (loc' := [(3, .int q22.1), (2, .int q2.1), (0, .ref 3), (1, .int pq0)]) dX6_readWant_25 rfl (by decide) rfl ?_
    refine J_iload_n (pc := 26) 0 dX6_readWant_26 rfl rfl ?_
    refine J_iconst (pc := 27) (v := (-1)) dX6_readWant_27 (by decide) ?_
    refine K_icmp_ne (K := (fun x => Option.bind x k)) (pc := 28) (tgt := 33) dX6_readWant_28 (by decide) (fun z28 => ?_) (fun z28 => ?_)
    · refine J_aload_n (pc := 33) 2 dX6_readWant_33 rfl rfl ?_
      refine J_getR (pc := 34) dX6_readWant_34 fl_X6_12 (h0.lt 3 (by decide)) (h0.ty 3 rfl) rfl hin ?_
      refine J_getR (pc := 37) dX6_readWant_37 fl_X6_135 (hb.lt 0 (by decide)) (hb.ty 0 rfl) rfl (hb.rf 8 rfl) ?_
      refine J_iload_n (pc := 40) 1 dX6_readWant_40 rfl rfl ?_
      refine J_iload_n (pc := 41) 0 dX6_readWant_41 rfl rfl ?_
      refine J_iload_n (pc := 42) 3 dX6_readWant_42 rfl rfl ?_
      refine JC_lt_v (K := (fun x => Option.bind x k)) (J_callV (mi := mi_X6_readWant) (mj := mi_X0_addWant) (pc := 43) dX6_readWant_43 ml_X6_221 ok_X0_addWant ov_X0_addWant ⟨Nat.le_of_ble_eq_true rfl, Nat.le_of_ble_eq_true rfl⟩ rfl (hb.lt 9 (by decide)) (hb.ty 9 rfl) rfl (s_X0_addWant g q22.2 (b + 9) q2.1 q22.1 pq0 (sh_CC_CL9 hb)) rfl (Nat.le_of_ble_eq_true rfl)) (fun q43 eq43 => ?_)
      refine J_aload_n (pc := 46) 2 dX6_readWant_46 rfl rfl ?_
      refine J_getR (pc := 47) dX6_readWant_47 fl_X6_29 (h0.lt 3 (by decide)) (h0.ty 3 rfl) rfl (h0.rf 11 rfl) ?_
      refine JC_pe_v (J_callV (mi := mi_X6_readWant) (mj := mi_X9_advance) (pc := 50) dX6_readWant_50 ml_X6_70 ok_X9_advance ov_X9_advance ⟨Nat.le_of_ble_eq_true rfl, Nat.le_of_ble_eq_true rfl⟩ rfl (h0.lt 1 (by decide)) (h0.ty 1 rfl) rfl (s_X9_advance g q43 h0) rfl (Nat.le_of_ble_eq_true rfl)) (fun q50 => ?_)
      refine J_iconst (pc := 53) (v := 1) dX6_readWant_53 (by decide) ?_
      exact J_eqo (hk (true, q50)) (J_zretB (pc := 54) dX6_readWant_54 rfl)
    · refine J_iconst (pc := 31) (v := 0) dX6_readWant_31 (by decide) ?_
      exact J_eqo (hk (false, q22.2)) (J_zretB (pc := 32) dX6_readWant_32 rfl)
  · refine J_iconst (pc := 11) (v := 0) dX6_readWant_11 (by decide) ?_
    exact J_eqo (hk (false, q2.2)) (J_zretB (pc := 12) dX6_readWant_12 rfl)
def f_X6_readLost (b : Nat) (d : JD) : Option (Bool × JD) := ((f_X6_toldNumber d 3).bind (fun q2 => if q2.1 = (-1) then (some (false, q2.2)) else (if (f_X0_isLostGate (q2.2.1 (b + 9)) (q2.2.1 (b + 13)) q2.1) = true then (j_let (f_X6_fail q2.2 3) (fun q29 => some (q29.1, q29.2))) else (j_let (f_X0_addLost (b + 9) q2.2 q2.1) (fun q41 => (f_X9_advance q41).bind (fun q48 => some (true, q48)))))))
set_option maxRecDepth 100000 in
set_option maxHeartbeats 4000000 in
theorem s_X6_readLost (g : JG) (d : JD) (b : Nat) (h0 : j_sh g 0 TS_W RS_W) (hb : j_sh g b TS_CL RS_CL) (hin : g.2.2.1 3 1 = some b) : JM mi_X6_readLost 0 0 (g, d) [.ref 3] ((f_X6_readLost b d ).bind (fun r9 => some (some (.int (j_b r9.1)), (g, r9.2)))) := by
  refine JM_of (by decide) rfl (Nat.le_of_ble_eq_true rfl) ?_
  refine J_loc (loc' := [(0, .ref 3)]) [0] rfl ?_
  obtain ⟨k, hk, hk2⟩ : ∃ k : Bool × JD → Option (Option Value × JH), (∀ r9, k r9 = some (some (.int (j_b r9.1)), (g, r9.2))) ∧ (fun r9 : Bool × JD => (some (some (.int (j_b r9.1)), (g, r9.2)) : Option (Option Value × JH))) = k := ⟨_, fun _ => rfl, rfl⟩
  rw [hk2]
  unfold f_X6_readLost
  refine J_aload_n (pc := 0) 0 dX6_readLost_0 rfl rfl ?_
  refine J_iconst (pc := 1) (v := 3) dX6_readLost_1 (by decide) ?_
  refine JC_pe_i (J_callV (mi := mi_X6_readLost) (mj := mi_X6_toldNumber) (pc := 2) dX6_readLost_2 ml_X6_167 ok_X6_toldNumber ov_X6_toldNumber ⟨Nat.le_of_ble_eq_true rfl, Nat.le_of_ble_eq_true rfl⟩ rfl (h0.lt 3 (by decide)) (h0.ty 3 rfl) rfl (s_X6_toldNumber g d 3 h0) rfl (Nat.le_of_ble_eq_true rfl)) (fun q2 => ?_)
  refine J_istore_n (pc := 5) (loc' := [(1, .int q2.1), (0, .ref 3)]) dX6_readLost_5 rfl (by decide) rfl ?_
  refine J_iload_n (pc := 6) 0 dX6_readLost_6 rfl rfl ?_
  refine J_iconst (pc := 7) (v := (-1)) dX6_readLost_7 (by decide) ?_
  refine K_icmp_ne (K := (fun x => Option.bind x k)) (pc := 8) (tgt := 13) dX6_readLost_8 (by decide) (fun z8 => ?_) (fun z8 => ?_)
  · refine J_aload_n (pc := 13) 1 dX6_readLost_13 rfl rfl ?_
    refine J_getR (pc := 14) dX6_readLost_14 fl_X6_12 (h0.lt 3 (by decide)) (h0.ty 3 rfl) rfl hin ?_
    refine J_getR (pc := 17) dX6_readLost_17 fl_X6_135 (hb.lt 0 (by decide)) (hb.ty 0 rfl) rfl (hb.rf 8 rfl) ?_
    refine J_iload_n (pc := 20) 0 dX6_readLost_20 rfl rfl ?_
    refine JC_pt_i (J_callV (mi := mi_X6_readLost) (mj := mi_X0_isLostGate) (pc := 21) dX6_readLost_21 ml_X6_225 ok_X0_isLostGate ov_X0_isLostGate ⟨Nat.le_of_ble_eq_true rfl, Nat.le_of_ble_eq_true rfl⟩ rfl (hb.lt 9 (by decide)) (hb.ty 9 rfl) rfl (s_X0_isLostGate g q2.2 (b + 9) q2.1 (sh_CC_CL9 hb)) rfl (Nat.le_of_ble_eq_true rfl)) ?_
    refine K_ifeq_b (K := (fun x => Option.bind x k)) (pc := 24) (tgt := 33) dX6_readLost_24 (by decide) (fun z24 => ?_) (fun z24 => ?_)
    · refine J_aload_n (pc := 33) 1 dX6_readLost_33 rfl rfl ?_
      refine J_getR (pc := 34) dX6_readLost_34 fl_X6_12 (h0.lt 3 (by decide)) (h0.ty 3 rfl) rfl hin ?_
      refine J_getR (pc := 37) dX6_readLost_37 fl_X6_135 (hb.lt 0 (by decide)) (hb.ty 0 rfl) rfl (hb.rf 8 rfl) ?_
      refine J_iload_n (pc := 40) 0 dX6_readLost_40 rfl rfl ?_
      refine JC_lt_v (K := (fun x => Option.bind x k)) (J_callV (mi := mi_X6_readLost) (mj := mi_X0_addLost) (pc := 41) dX6_readLost_41 ml_X6_228 ok_X0_addLost ov_X0_addLost ⟨Nat.le_of_ble_eq_true rfl, Nat.le_of_ble_eq_true rfl⟩ rfl (hb.lt 9 (by decide)) (hb.ty 9 rfl) rfl (s_X0_addLost g q2.2 (b + 9) q2.1 (sh_CC_CL9 hb)) rfl (Nat.le_of_ble_eq_true rfl)) (fun q41 eq41 => ?_)
      refine J_aload_n (pc := 44) 1 dX6_readLost_44 rfl rfl ?_
      refine J_getR (pc := 45) dX6_readLost_45 fl_X6_29 (h0.lt 3 (by decide)) (h0.ty 3 rfl) rfl (h0.rf 11 rfl) ?_
      refine JC_pe_v (J_callV (mi := mi_X6_readLost) (mj := mi_X9_advance) (pc := 48) dX6_readLost_48 ml_X6_70 ok_X9_advance ov_X9_advance ⟨Nat.le_of_ble_eq_true rfl, Nat.le_of_ble_eq_true rfl⟩ rfl (h0.lt 1 (by decide)) (h0.ty 1 rfl) rfl (s_X9_advance g q41 h0) rfl (Nat.le_of_ble_eq_true rfl)) (fun q48 => ?_)
      refine J_iconst (pc := 51) (v := 1) dX6_readLost_51 (by decide) ?_
      exact J_eqo (hk (true, q48)) (J_zretB (pc := 52) dX6_readLost_52 rfl)
    · refine J_aload_n (pc := 27) 1 dX6_readLost_27 rfl rfl ?_
      refine J_iconst (pc := 28) (v := 3) dX6_readLost_28 (by decide) ?_
      refine JC_lt_b (K := (fun x => Option.bind x k)) (J_callV (mi := mi_X6_readLost) (mj := mi_X6_fail) (pc := 29) dX6_readLost_29 ml_X6_66 ok_X6_fail ov_X6_fail ⟨Nat.le_of_ble_eq_true rfl, Nat.le_of_ble_eq_true rfl⟩ rfl (h0.lt 3 (by decide)) (h0.ty 3 rfl) rfl (s_X6_fail g q2.2 3 h0) rfl (Nat.le_of_ble_eq_true rfl)) (fun q29 eq29 => ?_)
      exact J_eqo (hk (q29.1, q29.2)) (J_zretB (pc := 32) dX6_readLost_32 rfl)
  · refine J_iconst (pc := 11) (v := 0) dX6_readLost_11 (by decide) ?_
    exact J_eqo (hk (false, q2.2)) (J_zretB (pc := 12) dX6_readLost_12 rfl)
def f_X6_readHad (b : Nat) (d : JD) : Option (Bool × JD) := ((f_X6_toldNumber d 1).bind (fun q2 => if q2.1 = (-1) then (some (false, q2.2)) else (if (f_X11_at (q2.2.1 (b + 14)) 5 q2.1) = (-1) then ((f_X9_advance q2.2).bind (fun q41 => j_let (f_X6_isWholeUpTo q41 599) (fun q48 => if q48.1 = true then (j_let (f_X0_addHad (b + 9) q48.2 q2.1 ((q48.2.1 1) 7)) (fun q71 => (f_X9_advance q71).bind (fun q78 => some (true, q78)))) else (some (false, q48.2))))) else (j_let (f_X6_fail q2.2 3) (fun q33 => some (q33.1, q33.2))))))
set_option maxRecDepth 100000 in
set_option maxHeartbeats 4000000 in
theorem s_X6_readHad (g : JG) (d : JD) (b : Nat) (h0 : j_sh g 0 TS_W RS_W) (hb : j_sh g b TS_CL RS_CL) (hin : g.2.2.1 3 1 = some b) : JM mi_X6_readHad 0 0 (g, d) [.ref 3] ((f_X6_readHad b d ).bind (fun r9 => some (some (.int (j_b r9.1)), (g, r9.2)))) := by
  refine JM_of (by decide) rfl (Nat.le_of_ble_eq_true rfl) ?_
  refine J_loc (loc' := [(0, .ref 3)]) [0] rfl ?_
  obtain ⟨k, hk, hk2⟩ : ∃ k : Bool × JD → Option (Option Value × JH), (∀ r9, k r9 = some (some (.int (j_b r9.1)), (g, r9.2))) ∧ (fun r9 : Bool × JD => (some (some (.int (j_b r9.1)), (g, r9.2)) : Option (Option Value × JH))) = k := ⟨_, fun _ => rfl, rfl⟩
  rw [hk2]
  unfold f_X6_readHad
  refine J_aload_n (pc := 0) 0 dX6_readHad_0 rfl rfl ?_
  refine J_iconst (pc := 1) (v := 1) dX6_readHad_1 (by decide) ?_
  refine JC_pe_i (J_callV (mi := mi_X6_readHad) (mj := mi_X6_toldNumber) (pc := 2) dX6_readHad_2 ml_X6_167 ok_X6_toldNumber ov_X6_toldNumber ⟨Nat.le_of_ble_eq_true rfl, Nat.le_of_ble_eq_true rfl⟩ rfl (h0.lt 3 (by decide)) (h0.ty 3 rfl) rfl (s_X6_toldNumber g d 1 h0) rfl (Nat.le_of_ble_eq_true rfl)) (fun q2 => ?_)
  refine J_istore_n (pc := 5) (loc' := [(1, .int q2.1), (0, .ref 3)]) dX6_readHad_5 rfl (by decide) rfl ?_
  refine J_iload_n (pc := 6) 0 dX6_readHad_6 rfl rfl ?_
  refine J_iconst (pc := 7) (v := (-1)) dX6_readHad_7 (by decide) ?_
  refine K_icmp_ne (K := (fun x => Option.bind x k)) (pc := 8) (tgt := 13) dX6_readHad_8 (by decide) (fun z8 => ?_) (fun z8 => ?_)
  · refine J_aload_n (pc := 13) 1 dX6_readHad_13 rfl rfl ?_
    refine J_getR (pc := 14) dX6_readHad_14 fl_X6_12 (h0.lt 3 (by decide)) (h0.ty 3 rfl) rfl hin ?_
    refine J_getR (pc := 17) dX6_readHad_17 fl_X6_135 (hb.lt 0 (by decide)) (hb.ty 0 rfl) rfl (hb.rf 8 rfl) ?_
    refine J_getR (pc := 20) dX6_readHad_20 fl_X6_231 (hb.lt 9 (by decide)) (hb.ty 9 rfl) rfl (hb.rf 13 rfl) ?_
    refine J_iload_n (pc := 23) 0 dX6_readHad_23 rfl rfl ?_
    refine JC_pt_i (J_callS (mi := mi_X6_readHad) (mj := mi_X11_at) (pc := 24) dX6_readHad_24 ml_X6_213 ok_X11_at os_X11_at ⟨Nat.le_of_ble_eq_true rfl, Nat.le_of_ble_eq_true rfl⟩ rfl (s_X11_at g q2.2 (b + 14) 5 q2.1 (⟨(hb.lt 14 (by decide)), (hb.ty 14 rfl), by decide⟩)) rfl (Nat.le_of_ble_eq_true rfl)) ?_
    refine J_iconst (pc := 27) (v := (-1)) dX6_readHad_27 (by decide) ?_
    refine K_icmp_eq (K := (fun x => Option.bind x k)) (pc := 28) (tgt := 37) dX6_readHad_28 (by decide) (fun z28 => ?_) (fun z28 => ?_)
    · refine J_aload_n (pc := 37) 1 dX6_readHad_37 rfl rfl ?_
      refine J_getR (pc := 38) dX6_readHad_38 fl_X6_29 (h0.lt 3 (by decide)) (h0.ty 3 rfl) rfl (h0.rf 11 rfl) ?_
      refine JC_pe_v (J_callV (mi := mi_X6_readHad) (mj := mi_X9_advance) (pc := 41) dX6_readHad_41 ml_X6_70 ok_X9_advance ov_X9_advance ⟨Nat.le_of_ble_eq_true rfl, Nat.le_of_ble_eq_true rfl⟩ rfl (h0.lt 1 (by decide)) (h0.ty 1 rfl) rfl (s_X9_advance g q2.2 h0) rfl (Nat.le_of_ble_eq_true rfl)) (fun q41 => ?_)
      refine J_aload_n (pc := 44) 1 dX6_readHad_44 rfl rfl ?_
      refine J_sipush (pc := 45) (v := 599) dX6_readHad_45 (by decide) ?_
      refine JC_lt_b (K := (fun x => Option.bind x k)) (J_callV (mi := mi_X6_readHad) (mj := mi_X6_isWholeUpTo) (pc := 48) dX6_readHad_48 ml_X6_150 ok_X6_isWholeUpTo ov_X6_isWholeUpTo ⟨Nat.le_of_ble_eq_true rfl, Nat.le_of_ble_eq_true rfl⟩ rfl (h0.lt 3 (by decide)) (h0.ty 3 rfl) rfl (s_X6_isWholeUpTo g q41 599 h0) rfl (Nat.le_of_ble_eq_true rfl)) (fun q48 eq48 => ?_)
      refine K_ifne_b (K := (fun x => Option.bind x k)) (pc := 51) (tgt := 56) dX6_readHad_51 (by decide) (fun z51 => ?_) (fun z51 => ?_)
      · refine J_aload_n (pc := 56) 1 dX6_readHad_56 rfl rfl ?_
        refine J_getR (pc := 57) dX6_readHad_57 fl_X6_12 (h0.lt 3 (by decide)) (h0.ty 3 rfl) rfl hin ?_
        refine J_getR (pc := 60) dX6_readHad_60 fl_X6_135 (hb.lt 0 (by decide)) (hb.ty 0 rfl) rfl (hb.rf 8 rfl) ?_
        refine J_iload_n (pc := 63) 0 dX6_readHad_63 rfl rfl ?_
        refine J_aload_n (pc := 64) 1 dX6_readHad_64 rfl rfl ?_
        refine J_getR (pc := 65) dX6_readHad_65 fl_X6_29 (h0.lt 3 (by decide)) (h0.ty 3 rfl) rfl (h0.rf 11 rfl) ?_
        refine J_getI (pc := 68) dX6_readHad_68 fl_X6_153 (h0.lt 1 (by decide)) (h0.ty 1 rfl) rfl ?_
        refine JC_lt_v (K := (fun x => Option.bind x k)) (J_callV (mi := mi_X6_readHad) (mj := mi_X0_addHad) (pc := 71) dX6_readHad_71 ml_X6_233 ok_X0_addHad ov_X0_addHad ⟨Nat.le_of_ble_eq_true rfl, Nat.le_of_ble_eq_true rfl⟩ rfl (hb.lt 9 (by decide)) (hb.ty 9 rfl) rfl (s_X0_addHad g q48.2 (b + 9) q2.1 ((q48.2.1 1) 7) (sh_CC_CL9 hb)) rfl (Nat.le_of_ble_eq_true rfl)) (fun q71 eq71 => ?_)
        refine J_aload_n (pc := 74) 1 dX6_readHad_74 rfl rfl ?_
        refine J_getR (pc := 75) dX6_readHad_75 fl_X6_29 (h0.lt 3 (by decide)) (h0.ty 3 rfl) rfl (h0.rf 11 rfl) ?_
        refine JC_pe_v (J_callV (mi := mi_X6_readHad) (mj := mi_X9_advance) (pc := 78) dX6_readHad_78 ml_X6_70 ok_X9_advance ov_X9_advance ⟨Nat.le_of_ble_eq_true rfl, Nat.le_of_ble_eq_true rfl⟩ rfl (h0.lt 1 (by decide)) (h0.ty 1 rfl) rfl (s_X9_advance g q71 h0) rfl (Nat.le_of_ble_eq_true rfl)) (fun q78 => ?_)
        refine J_iconst (pc := 81) (v := 1) dX6_readHad_81 (by decide) ?_
        exact J_eqo (hk (true, q78)) (J_zretB (pc := 82) dX6_readHad_82 rfl)
      · refine J_iconst (pc := 54) (v := 0) dX6_readHad_54 (by decide) ?_
        exact J_eqo (hk (false, q48.2)) (J_zretB (pc := 55) dX6_readHad_55 rfl)
    · refine J_aload_n (pc := 31) 1 dX6_readHad_31 rfl rfl ?_
      refine J_iconst (pc := 32) (v := 3) dX6_readHad_32 (by decide) ?_
      refine JC_lt_b (K := (fun x => Option.bind x k)) (J_callV (mi := mi_X6_readHad) (mj := mi_X6_fail) (pc := 33) dX6_readHad_33 ml_X6_66 ok_X6_fail ov_X6_fail ⟨Nat.le_of_ble_eq_true rfl, Nat.le_of_ble_eq_true rfl⟩ rfl (h0.lt 3 (by decide)) (h0.ty 3 rfl) rfl (s_X6_fail g q2.2 3 h0) rfl (Nat.le_of_ble_eq_true rfl)) (fun q33 eq33 => ?_)
      exact J_eqo (hk (q33.1, q33.2)) (J_zretB (pc := 36) dX6_readHad_36 rfl)
  · refine J_iconst (pc := 11) (v := 0) dX6_readHad_11 (by decide) ?_
    exact J_eqo (hk (false, q2.2)) (J_zretB (pc := 12) dX6_readHad_12 rfl)
def f_X6_readLine (b : Nat) (d : JD) : Option (Bool × JD) := ((f_X6_lineOf (d.1 1) (d.1 2)).bind (fun q1 => if q1 = (-1) then (j_let (f_X6_fail d 1) (fun q12 => some (q12.1, q12.2))) else (if q1 = 0 then (if ((d.1 3) 2) = 0 then ((f_X6_readLandLine b d).bind (fun q36 => some (q36.1, q36.2))) else (j_let (f_X6_fail d 3) (fun q29 => some (q29.1, q29.2)))) else (if ((d.1 3) 2) = 0 then (j_let (f_X6_fail d 6) (fun q50 => some (q50.1, q50.2))) else (if (f_X6_isFull (d.1 b) (d.1 (b + 9)) q1) = true then (j_let (f_X6_fail d 5) (fun q64 => some (q64.1, q64.2))) else ((f_X9_advance d).bind (fun q72 => if q1 = 1 then ((f_X6_readPerson b q72).bind (fun q121 => some (q121.1, q121.2))) else if q1 = 2 then ((f_X6_readFirm b q72).bind (fun q126 => some (q126.1, q126.2))) else if q1 = 3 then ((f_X6_readGate b q72).bind (fun q131 => some (q131.1, q131.2))) else if q1 = 4 then ((f_X6_readPath b q72).bind (fun q136 => some (q136.1, q136.2))) else if q1 = 5 then ((f_X6_readWant b q72 0).bind (fun q142 => some (q142.1, q142.2))) else if q1 = 6 then ((f_X6_readWant b q72 1).bind (fun q148 => some (q148.1, q148.2))) else if q1 = 7 then ((f_X6_readLost b q72).bind (fun q153 => some (q153.1, q153.2))) else ((f_X6_readHad b q72).bind (fun q158 => some (q158.1, q158.2))))))))))
set_option maxRecDepth 100000 in
set_option maxHeartbeats 4000000 in
theorem s_X6_readLine (g : JG) (d : JD) (b : Nat) (h0 : j_sh g 0 TS_W RS_W) (hb : j_sh g b TS_CL RS_CL) (hin : g.2.2.1 3 1 = some b) : JM mi_X6_readLine 0 0 (g, d) [.ref 3] ((f_X6_readLine b d ).bind (fun r9 => some (some (.int (j_b r9.1)), (g, r9.2)))) := by
  refine JM_of (by decide) rfl (Nat.le_of_ble_eq_true rfl) ?_
  refine J_loc (loc' := [(0, .ref 3)]) [0] rfl ?_
  obtain ⟨k, hk, hk2⟩ : ∃ k : Bool × JD → Option (Option Value × JH), (∀ r9, k r9 = some (some (.int (j_b r9.1)), (g, r9.2))) ∧ (fun r9 : Bool × JD => (some (some (.int (j_b r9.1)), (g, r9.2)) : Option (Option Value × JH))) = k := ⟨_, fun _ => rfl, rfl⟩
  rw [hk2]
  unfold f_X6_readLine
  refine J_aload_n (pc := 0) 0 dX6_readLine_0 rfl rfl ?_
  refine JC_pp_i (J_callV (mi := mi_X6_readLine) (mj := mi_X6_lineOf) (pc := 1) dX6_readLine_1 ml_X6_73 ok_X6_lineOf ov_X6_lineOf ⟨Nat.le_of_ble_eq_true rfl, Nat.le_of_ble_eq_true rfl⟩ rfl (h0.lt 3 (by decide)) (h0.ty 3 rfl) rfl (s_X6_lineOf g d h0) rfl (Nat.le_of_ble_eq_true rfl)) (fun q1 => ?_)
  refine J_istore_n (pc := 4) (loc' := [(1, .int q1), (0, .ref 3)]) dX6_readLine_4 rfl (by decide) rfl ?_
  refine J_iload_n (pc := 5) 0 dX6_readLine_5 rfl rfl ?_
  refine J_iconst (pc := 6) (v := (-1)) dX6_readLine_6 (by decide) ?_
  refine K_icmp_ne (K := (fun x => Option.bind x k)) (pc := 7) (tgt := 16) dX6_readLine_7 (by decide) (fun z7 => ?_) (fun z7 => ?_)
  · refine J_iload_n (pc := 16) 0 dX6_readLine_16 rfl rfl ?_
    refine K_if_ne (K := (fun x => Option.bind x k)) (pc := 17) (tgt := 40) dX6_readLine_17 (by decide) (fun z17 => ?_) (fun z17 => ?_)
    · refine J_aload_n (pc := 40) 1 dX6_readLine_40 rfl rfl ?_
      refine J_getI (pc := 41) dX6_readLine_41 fl_X6_36 (h0.lt 3 (by decide)) (h0.ty 3 rfl) rfl ?_
      refine K_if_ne (K := (fun x => Option.bind x k)) (pc := 44) (tgt := 54) dX6_readLine_44 (by decide) (fun z44 => ?_) (fun z44 => ?_)
      · refine J_aload_n (pc := 54) 1 dX6_readLine_54 rfl rfl ?_
        refine J_iload_n (pc := 55) 0 dX6_readLine_55 rfl rfl ?_
        refine JC_pt_i (J_callV (mi := mi_X6_readLine) (mj := mi_X6_isFull) (pc := 56) dX6_readLine_56 ml_X6_80 ok_X6_isFull ov_X6_isFull ⟨Nat.le_of_ble_eq_true rfl, Nat.le_of_ble_eq_true rfl⟩ rfl (h0.lt 3 (by decide)) (h0.ty 3 rfl) rfl (s_X6_isFull g d b q1 h0 hb hin) rfl (Nat.le_of_ble_eq_true rfl)) ?_
        refine K_ifeq_b (K := (fun x => Option.bind x k)) (pc := 59) (tgt := 68) dX6_readLine_59 (by decide) (fun z59 => ?_) (fun z59 => ?_)
        · refine J_aload_n (pc := 68) 1 dX6_readLine_68 rfl rfl ?_
          refine J_getR (pc := 69) dX6_readLine_69 fl_X6_29 (h0.lt 3 (by decide)) (h0.ty 3 rfl) rfl (h0.rf 11 rfl) ?_
          refine JC_pe_v (J_callV (mi := mi_X6_readLine) (mj := mi_X9_advance) (pc := 72) dX6_readLine_72 ml_X6_70 ok_X9_advance ov_X9_advance ⟨Nat.le_of_ble_eq_true rfl, Nat.le_of_ble_eq_true rfl⟩ rfl (h0.lt 1 (by decide)) (h0.ty 1 rfl) rfl (s_X9_advance g d h0) rfl (Nat.le_of_ble_eq_true rfl)) (fun q72 => ?_)
          refine J_iload_n (pc := 75) 0 dX6_readLine_75 rfl rfl ?_
          refine J_split (K := (fun x => Option.bind x k)) (c := q1 = 1) (fun z76_0 => ?_) (fun z76_0 => ?_)
          · refine J_val z76_0 ?_
            refine J_tsIn (pc := 76) (tgt := 120) dX6_readLine_76 (by decide) (by decide) rfl (by decide) ?_
            refine J_aload_n (pc := 120) 1 dX6_readLine_120 rfl rfl ?_
            refine JC_pe_b (J_callV (mi := mi_X6_readLine) (mj := mi_X6_readPerson) (pc := 121) dX6_readLine_121 ml_X6_83 ok_X6_readPerson ov_X6_readPerson ⟨Nat.le_of_ble_eq_true rfl, Nat.le_of_ble_eq_true rfl⟩ rfl (h0.lt 3 (by decide)) (h0.ty 3 rfl) rfl (s_X6_readPerson g q72 b h0 hb hin) rfl (Nat.le_of_ble_eq_true rfl)) (fun q121 => ?_)
            exact J_eqo (hk (q121.1, q121.2)) (J_zretB (pc := 124) dX6_readLine_124 rfl)
          refine J_split (K := (fun x => Option.bind x k)) (c := q1 = 2) (fun z76_1 => ?_) (fun z76_1 => ?_)
          · refine J_val z76_1 ?_
            refine J_tsIn (pc := 76) (tgt := 125) dX6_readLine_76 (by decide) (by decide) rfl (by decide) ?_
            refine J_aload_n (pc := 125) 1 dX6_readLine_125 rfl rfl ?_
            refine JC_pe_b (J_callV (mi := mi_X6_readLine) (mj := mi_X6_readFirm) (pc := 126) dX6_readLine_126 ml_X6_86 ok_X6_readFirm ov_X6_readFirm ⟨Nat.le_of_ble_eq_true rfl, Nat.le_of_ble_eq_true rfl⟩ rfl (h0.lt 3 (by decide)) (h0.ty 3 rfl) rfl (s_X6_readFirm g q72 b h0 hb hin) rfl (Nat.le_of_ble_eq_true rfl)) (fun q126 => ?_)
            exact J_eqo (hk (q126.1, q126.2)) (J_zretB (pc := 129) dX6_readLine_129 rfl)
          refine J_split (K := (fun x => Option.bind x k)) (c := q1 = 3) (fun z76_2 => ?_) (fun z76_2 => ?_)
          · refine J_val z76_2 ?_
            refine J_tsIn (pc := 76) (tgt := 130) dX6_readLine_76 (by decide) (by decide) rfl (by decide) ?_
            refine J_aload_n (pc := 130) 1 dX6_readLine_130 rfl rfl ?_
            refine JC_pe_b (J_callV (mi := mi_X6_readLine) (mj := mi_X6_readGate) (pc := 131) dX6_readLine_131 ml_X6_89 ok_X6_readGate ov_X6_readGate ⟨Nat.le_of_ble_eq_true rfl, Nat.le_of_ble_eq_true rfl⟩ rfl (h0.lt 3 (by decide)) (h0.ty 3 rfl) rfl (s_X6_readGate g q72 b h0 hb hin) rfl (Nat.le_of_ble_eq_true rfl)) (fun q131 => ?_)
            exact J_eqo (hk (q131.1, q131.2)) (J_zretB (pc := 134) dX6_readLine_134 rfl)
          refine J_split (K := (fun x => Option.bind x k)) (c := q1 = 4) (fun z76_3 => ?_) (fun z76_3 => ?_)
          · refine J_val z76_3 ?_
            refine J_tsIn (pc := 76) (tgt := 135) dX6_readLine_76 (by decide) (by decide) rfl (by decide) ?_
            refine J_aload_n (pc := 135) 1 dX6_readLine_135 rfl rfl ?_
            refine JC_pe_b (J_callV (mi := mi_X6_readLine) (mj := mi_X6_readPath) (pc := 136) dX6_readLine_136 ml_X6_92 ok_X6_readPath ov_X6_readPath ⟨Nat.le_of_ble_eq_true rfl, Nat.le_of_ble_eq_true rfl⟩ rfl (h0.lt 3 (by decide)) (h0.ty 3 rfl) rfl (s_X6_readPath g q72 b h0 hb hin) rfl (Nat.le_of_ble_eq_true rfl)) (fun q136 => ?_)
            exact J_eqo (hk (q136.1, q136.2)) (J_zretB (pc := 139) dX6_readLine_139 rfl)
          refine J_split (K := (fun x => Option.bind x k)) (c := q1 = 5) (fun z76_4 => ?_) (fun z76_4 => ?_)
          · refine J_val z76_4 ?_
            refine J_tsIn (pc := 76) (tgt := 140) dX6_readLine_76 (by decide) (by decide) rfl (by decide) ?_
            refine J_aload_n (pc := 140) 1 dX6_readLine_140 rfl rfl ?_
            refine J_iconst (pc := 141) (v := 0) dX6_readLine_141 (by decide) ?_
            refine JC_pe_b (J_callV (mi := mi_X6_readLine) (mj := mi_X6_readWant) (pc := 142) dX6_readLine_142 ml_X6_95 ok_X6_readWant ov_X6_readWant ⟨Nat.le_of_ble_eq_true rfl, Nat.le_of_ble_eq_true rfl⟩ rfl (h0.lt 3 (by decide)) (h0.ty 3 rfl) rfl (s_X6_readWant g q72 b 0 h0 hb hin) rfl (Nat.le_of_ble_eq_true rfl)) (fun q142 => ?_)
            exact J_eqo (hk (q142.1, q142.2)) (J_zretB (pc := 145) dX6_readLine_145 rfl)
          refine J_split (K := (fun x => Option.bind x k)) (c := q1 = 6) (fun z76_5 => ?_) (fun z76_5 => ?_)
          · refine J_val z76_5 ?_
            refine J_tsIn (pc := 76) (tgt := 146) dX6_readLine_76 (by decide) (by decide) rfl (by decide) ?_
            refine J_aload_n (pc := 146) 1 dX6_readLine_146 rfl rfl ?_
            refine J_iconst (pc := 147) (v := 1) dX6_readLine_147 (by decide) ?_
            refine JC_pe_b (J_callV (mi := mi_X6_readLine) (mj := mi_X6_readWant) (pc := 148) dX6_readLine_148 ml_X6_95 ok_X6_readWant ov_X6_readWant ⟨Nat.le_of_ble_eq_true rfl, Nat.le_of_ble_eq_true rfl⟩ rfl (h0.lt 3 (by decide)) (h0.ty 3 rfl) rfl (s_X6_readWant g q72 b 1 h0 hb hin) rfl (Nat.le_of_ble_eq_true rfl)) (fun q148 => ?_)
            exact J_eqo (hk (q148.1, q148.2)) (J_zretB (pc := 151) dX6_readLine_151 rfl)
          refine J_split (K := (fun x => Option.bind x k)) (c := q1 = 7) (fun z76_6 => ?_) (fun z76_6 => ?_)
          · refine J_val z76_6 ?_
            refine J_tsIn (pc := 76) (tgt := 152) dX6_readLine_76 (by decide) (by decide) rfl (by decide) ?_
            refine J_aload_n (pc := 152) 1 dX6_readLine_152 rfl rfl ?_
            refine JC_pe_b (J_callV (mi := mi_X6_readLine) (mj := mi_X6_readLost) (pc := 153) dX6_readLine_153 ml_X6_98 ok_X6_readLost ov_X6_readLost ⟨Nat.le_of_ble_eq_true rfl, Nat.le_of_ble_eq_true rfl⟩ rfl (h0.lt 3 (by decide)) (h0.ty 3 rfl) rfl (s_X6_readLost g q72 b h0 hb hin) rfl (Nat.le_of_ble_eq_true rfl)) (fun q153 => ?_)
            exact J_eqo (hk (q153.1, q153.2)) (J_zretB (pc := 156) dX6_readLine_156 rfl)
          · have zz76 : (q1 : Int32).toInt < 1 ∨ 7 < (q1 : Int32).toInt := by
              have q0 := j_ne_toInt (n := 1) (by decide) z76_0
              have q1 := j_ne_toInt (n := 2) (by decide) z76_1
              have q2 := j_ne_toInt (n := 3) (by decide) z76_2
              have q3 := j_ne_toInt (n := 4) (by decide) z76_3
              have q4 := j_ne_toInt (n := 5) (by decide) z76_4
              have q5 := j_ne_toInt (n := 6) (by decide) z76_5
              have q6 := j_ne_toInt (n := 7) (by decide) z76_6
              omega
            refine J_tsOut (pc := 76) (tgt := 157) dX6_readLine_76 zz76 (by decide) ?_
            refine J_aload_n (pc := 157) 1 dX6_readLine_157 rfl rfl ?_
            refine JC_pe_b (J_callV (mi := mi_X6_readLine) (mj := mi_X6_readHad) (pc := 158) dX6_readLine_158 ml_X6_101 ok_X6_readHad ov_X6_readHad ⟨Nat.le_of_ble_eq_true rfl, Nat.le_of_ble_eq_true rfl⟩ rfl (h0.lt 3 (by decide)) (h0.ty 3 rfl) rfl (s_X6_readHad g q72 b h0 hb hin) rfl (Nat.le_of_ble_eq_true rfl)) (fun q158 => ?_)
            exact J_eqo (hk (q158.1, q158.2)) (J_zretB (pc := 161) dX6_readLine_161 rfl)
        · refine J_aload_n (pc := 62) 1 dX6_readLine_62 rfl rfl ?_
          refine J_iconst (pc := 63) (v := 5) dX6_readLine_63 (by decide) ?_
          refine JC_lt_b (K := (fun x => Option.bind x k)) (J_callV (mi := mi_X6_readLine) (mj := mi_X6_fail) (pc := 64) dX6_readLine_64 ml_X6_66 ok_X6_fail ov_X6_fail ⟨Nat.le_of_ble_eq_true rfl, Nat.le_of_ble_eq_true rfl⟩ rfl (h0.lt 3 (by decide)) (h0.ty 3 rfl) rfl (s_X6_fail g d 5 h0) rfl (Nat.le_of_ble_eq_true rfl)) (fun q64 eq64 => ?_)
          exact J_eqo (hk (q64.1, q64.2)) (J_zretB (pc := 67) dX6_readLine_67 rfl)
      · refine J_aload_n (pc := 47) 1 dX6_readLine_47 rfl rfl ?_
        refine J_bipush (pc := 48) (v := 6) dX6_readLine_48 (by decide) ?_
        refine JC_lt_b (K := (fun x => Option.bind x k)) (J_callV (mi := mi_X6_readLine) (mj := mi_X6_fail) (pc := 50) dX6_readLine_50 ml_X6_66 ok_X6_fail ov_X6_fail ⟨Nat.le_of_ble_eq_true rfl, Nat.le_of_ble_eq_true rfl⟩ rfl (h0.lt 3 (by decide)) (h0.ty 3 rfl) rfl (s_X6_fail g d 6 h0) rfl (Nat.le_of_ble_eq_true rfl)) (fun q50 eq50 => ?_)
        exact J_eqo (hk (q50.1, q50.2)) (J_zretB (pc := 53) dX6_readLine_53 rfl)
    · refine J_aload_n (pc := 20) 1 dX6_readLine_20 rfl rfl ?_
      refine J_getI (pc := 21) dX6_readLine_21 fl_X6_36 (h0.lt 3 (by decide)) (h0.ty 3 rfl) rfl ?_
      refine K_if_eq (K := (fun x => Option.bind x k)) (pc := 24) (tgt := 35) dX6_readLine_24 (by decide) (fun z24 => ?_) (fun z24 => ?_)
      · refine J_aload_n (pc := 35) 1 dX6_readLine_35 rfl rfl ?_
        refine JC_pe_b (J_callV (mi := mi_X6_readLine) (mj := mi_X6_readLandLine) (pc := 36) dX6_readLine_36 ml_X6_77 ok_X6_readLandLine ov_X6_readLandLine ⟨Nat.le_of_ble_eq_true rfl, Nat.le_of_ble_eq_true rfl⟩ rfl (h0.lt 3 (by decide)) (h0.ty 3 rfl) rfl (s_X6_readLandLine g d b h0 hb hin) rfl (Nat.le_of_ble_eq_true rfl)) (fun q36 => ?_)
        exact J_eqo (hk (q36.1, q36.2)) (J_zretB (pc := 39) dX6_readLine_39 rfl)
      · refine J_aload_n (pc := 27) 1 dX6_readLine_27 rfl rfl ?_
        refine J_iconst (pc := 28) (v := 3) dX6_readLine_28 (by decide) ?_
        refine JC_lt_b (K := (fun x => Option.bind x k)) (J_callV (mi := mi_X6_readLine) (mj := mi_X6_fail) (pc := 29) dX6_readLine_29 ml_X6_66 ok_X6_fail ov_X6_fail ⟨Nat.le_of_ble_eq_true rfl, Nat.le_of_ble_eq_true rfl⟩ rfl (h0.lt 3 (by decide)) (h0.ty 3 rfl) rfl (s_X6_fail g d 3 h0) rfl (Nat.le_of_ble_eq_true rfl)) (fun q29 eq29 => ?_)
        refine J_goto (pc := 32) (tgt := 39) dX6_readLine_32 (by decide) ?_
        exact J_eqo (hk (q29.1, q29.2)) (J_zretB (pc := 39) dX6_readLine_39 rfl)
  · refine J_aload_n (pc := 10) 1 dX6_readLine_10 rfl rfl ?_
    refine J_iconst (pc := 11) (v := 1) dX6_readLine_11 (by decide) ?_
    refine JC_lt_b (K := (fun x => Option.bind x k)) (J_callV (mi := mi_X6_readLine) (mj := mi_X6_fail) (pc := 12) dX6_readLine_12 ml_X6_66 ok_X6_fail ov_X6_fail ⟨Nat.le_of_ble_eq_true rfl, Nat.le_of_ble_eq_true rfl⟩ rfl (h0.lt 3 (by decide)) (h0.ty 3 rfl) rfl (s_X6_fail g d 1 h0) rfl (Nat.le_of_ble_eq_true rfl)) (fun q12 eq12 => ?_)
    exact J_eqo (hk (q12.1, q12.2)) (J_zretB (pc := 15) dX6_readLine_15 rfl)
def f_X6_readText_w37 (b : Nat) (s37 : Int32 × JD) : Option ((Int32 × JD) ⊕ ((Bool × JD) ⊕ (JD))) := (if 900 < s37.1 then some (.inr (.inr s37.2)) else ((f_X6_readLine b s37.2).bind (fun q45_37 => if q45_37.1 = true then (if ((q45_37.2.1 1) 4) = 0 then (if 0 < ((q45_37.2.1 b) 4) then (some (Sum.inr (Sum.inl (true, q45_37.2)))) else (j_let (f_X6_fail q45_37.2 6) (fun q76_37 => if q76_37.1 = true then (some (Sum.inr (Sum.inl (true, q76_37.2)))) else (some (Sum.inr (Sum.inl (false, q76_37.2))))))) else (if ((q45_37.2.1 1) 4) = 3 then ((f_X9_advance q45_37.2).bind (fun q109_37 => some (.inl (s37.1 + 1, q109_37)))) else (j_let (f_X6_fail q45_37.2 1) (fun q101_37 => some (Sum.inr (Sum.inl (q101_37.1, q101_37.2))))))) else (some (Sum.inr (Sum.inl (false, q45_37.2)))))))
def f_X6_readText (b : Nat) (d : JD) (pq0 : Int32) : Option (Bool × JD) := ((f_X3_clear b d).bind (fun q4 => (f_X9_startReading (j_sI (j_sI (j_sI (j_sI q4 3 2 0) 3 6 0) 3 7 0) 3 8 (-1)) pq0).bind (fun q32 => (j_wh (f_X6_readText_w37 b ) j_fuel (0, q32)).bind (Sum.elim (fun r9 => some r9) (fun (e37 : JD) => (j_let (f_X6_fail e37 1) (fun q120 => some (q120.1, q120.2))))))))
set_option maxRecDepth 100000 in
set_option maxHeartbeats 4000000 in
theorem s_X6_readText (g : JG) (d : JD) (b : Nat) (pq0 : Int32) (h0 : j_sh g 0 TS_W RS_W) (hb : j_sh g b TS_CL RS_CL) (hin : g.2.2.1 3 1 = some b) : JM mi_X6_readText 0 0 (g, d) [.ref 3, .int pq0] ((f_X6_readText b d pq0).bind (fun r9 => some (some (.int (j_b r9.1)), (g, r9.2)))) := by
  refine JM_of (by decide) rfl (Nat.le_of_ble_eq_true rfl) ?_
  refine J_loc (loc' := [(0, .ref 3), (1, .int pq0)]) [0, 1] rfl ?_
  obtain ⟨k, hk, hk2⟩ : ∃ k : Bool × JD → Option (Option Value × JH), (∀ r9, k r9 = some (some (.int (j_b r9.1)), (g, r9.2))) ∧ (fun r9 : Bool × JD => (some (some (.int (j_b r9.1)), (g, r9.2)) : Option (Option Value × JH))) = k := ⟨_, fun _ => rfl, rfl⟩
  rw [hk2]
  unfold f_X6_readText
  refine J_aload_n (pc := 0) 0 dX6_readText_0 rfl rfl ?_
  refine J_getR (pc := 1) dX6_readText_1 fl_X6_12 (h0.lt 3 (by decide)) (h0.ty 3 rfl) rfl hin ?_
  refine JC_pe_v (J_callV (mi := mi_X6_readText) (mj := mi_X3_clear) (pc := 4) dX6_readText_4 ml_X6_33 ok_X3_clear ov_X3_clear ⟨Nat.le_of_ble_eq_true rfl, Nat.le_of_ble_eq_true rfl⟩ rfl (hb.lt 0 (by decide)) (hb.ty 0 rfl) rfl (s_X3_clear g d b hb) rfl (Nat.le_of_ble_eq_true rfl)) (fun q4 => ?_)
  refine J_aload_n (pc := 7) 0 dX6_readText_7 rfl rfl ?_
  refine J_iconst (pc := 8) (v := 0) dX6_readText_8 (by decide) ?_
  refine J_putI (pc := 9) dX6_readText_9 fl_X6_36 ft_6_2 (h0.lt 3 (by decide)) (h0.ty 3 rfl) rfl rfl rfl ?_
  refine J_aload_n (pc := 12) 0 dX6_readText_12 rfl rfl ?_
  refine J_iconst (pc := 13) (v := 0) dX6_readText_13 (by decide) ?_
  refine J_putI (pc := 14) dX6_readText_14 fl_X6_40 ft_6_6 (h0.lt 3 (by decide)) (h0.ty 3 rfl) rfl rfl rfl ?_
  refine J_aload_n (pc := 17) 0 dX6_readText_17 rfl rfl ?_
  refine J_iconst (pc := 18) (v := 0) dX6_readText_18 (by decide) ?_
  refine J_putI (pc := 19) dX6_readText_19 fl_X6_44 ft_6_7 (h0.lt 3 (by decide)) (h0.ty 3 rfl) rfl rfl rfl ?_
  refine J_aload_n (pc := 22) 0 dX6_readText_22 rfl rfl ?_
  refine J_iconst (pc := 23) (v := (-1)) dX6_readText_23 (by decide) ?_
  refine J_putI (pc := 24) dX6_readText_24 fl_X6_47 ft_6_8 (h0.lt 3 (by decide)) (h0.ty 3 rfl) rfl rfl rfl ?_
  refine J_aload_n (pc := 27) 0 dX6_readText_27 rfl rfl ?_
  refine J_getR (pc := 28) dX6_readText_28 fl_X6_29 (h0.lt 3 (by decide)) (h0.ty 3 rfl) rfl (h0.rf 11 rfl) ?_
  refine J_iload_n (pc := 31) 1 dX6_readText_31 rfl rfl ?_
  refine JC_pe_v (J_callV (mi := mi_X6_readText) (mj := mi_X9_startReading) (pc := 32) dX6_readText_32 ml_X6_50 ok_X9_startReading ov_X9_startReading ⟨Nat.le_of_ble_eq_true rfl, Nat.le_of_ble_eq_true rfl⟩ rfl (h0.lt 1 (by decide)) (h0.ty 1 rfl) rfl (s_X9_startReading g (j_sI (j_sI (j_sI (j_sI q4 3 2 0) 3 6 0) 3 7 0) 3 8 (-1)) pq0 h0) rfl (Nat.le_of_ble_eq_true rfl)) (fun q32 => ?_)
  refine J_iconst (pc := 35) (v := 0) dX6_readText_35 (by decide) ?_
  refine J_istore_n (pc := 36) (loc' := [(2, .int 0), (0, .ref 3), (1, .int pq0)]) dX6_readText_36 rfl (by decide) rfl ?_
  refine J_loc (loc' := [(0, .ref 3), (2, .int 0)]) [1, 0] rfl ?_
  refine J_whR (F := f_X6_readText_w37 b ) (fr := fun r9 => some r9) (k := k) (hp := fun (s37 : Int32 × JD) => (g, s37.2)) (lc := fun (s37 : Int32 × JD) => [(0, .ref 3), (2, .int s37.1)]) (XJ := fun (e37 : JD) o9 => J mi_X6_readText 0 0 0 0 (g, e37) 118 [(0, .ref 3)] [] o9) (RJ := fun r9 o9 => o9 = some (some (.int (j_b r9.1)), (g, r9.2))) (fun s37 k37 hB37 hR37 hX37 => ?_) (fun e37 => ?_) (fun r9 => hk r9) _ (0, q32)
  · show J mi_X6_readText 0 0 0 0 (g, s37.2) 37 [(0, .ref 3), (2, .int s37.1)] [] ((f_X6_readText_w37 b s37).bind k37)
    unfold f_X6_readText_w37
    refine J_iload_n (pc := 37) 1 dX6_readText_37 rfl rfl ?_
    refine J_sipush (pc := 38) (v := 900) dX6_readText_38 (by decide) ?_
    refine K_icmp_gt (K := (fun x => Option.bind x k37)) (pc := 41) (tgt := 118) dX6_readText_41 (by decide) (fun z41 => ?_) (fun z41 => ?_)
    · refine J_loc (loc' := [(0, .ref 3)]) [0] rfl ?_
      exact hX37 s37.2
    · refine J_aload_n (pc := 44) 0 dX6_readText_44 rfl rfl ?_
      refine JC_pe_b (J_callV (mi := mi_X6_readText) (mj := mi_X6_readLine) (pc := 45) dX6_readText_45 ml_X6_56 ok_X6_readLine ov_X6_readLine ⟨Nat.le_of_ble_eq_true rfl, Nat.le_of_ble_eq_true rfl⟩ rfl (h0.lt 3 (by decide)) (h0.ty 3 rfl) rfl (s_X6_readLine g s37.2 b h0 hb hin) rfl (Nat.le_of_ble_eq_true rfl)) (fun q45_37 => ?_)
      refine K_ifne_b (K := (fun x => Option.bind x k37)) (pc := 48) (tgt := 53) dX6_readText_48 (by decide) (fun z48 => ?_) (fun z48 => ?_)
      · refine J_aload_n (pc := 53) 0 dX6_readText_53 rfl rfl ?_
        refine J_getR (pc := 54) dX6_readText_54 fl_X6_29 (h0.lt 3 (by decide)) (h0.ty 3 rfl) rfl (h0.rf 11 rfl) ?_
        refine J_getI (pc := 57) dX6_readText_57 fl_X6_60 (h0.lt 1 (by decide)) (h0.ty 1 rfl) rfl ?_
        refine K_if_ne (K := (fun x => Option.bind x k37)) (pc := 60) (tgt := 88) dX6_readText_60 (by decide) (fun z60 => ?_) (fun z60 => ?_)
        · refine J_aload_n (pc := 88) 0 dX6_readText_88 rfl rfl ?_
          refine J_getR (pc := 89) dX6_readText_89 fl_X6_29 (h0.lt 3 (by decide)) (h0.ty 3 rfl) rfl (h0.rf 11 rfl) ?_
          refine J_getI (pc := 92) dX6_readText_92 fl_X6_60 (h0.lt 1 (by decide)) (h0.ty 1 rfl) rfl ?_
          refine J_iconst (pc := 95) (v := 3) dX6_readText_95 (by decide) ?_
          refine K_icmp_eq (K := (fun x => Option.bind x k37)) (pc := 96) (tgt := 105) dX6_readText_96 (by decide) (fun z96 => ?_) (fun z96 => ?_)
          · refine J_aload_n (pc := 105) 0 dX6_readText_105 rfl rfl ?_
            refine J_getR (pc := 106) dX6_readText_106 fl_X6_29 (h0.lt 3 (by decide)) (h0.ty 3 rfl) rfl (h0.rf 11 rfl) ?_
            refine JC_pe_v (J_callV (mi := mi_X6_readText) (mj := mi_X9_advance) (pc := 109) dX6_readText_109 ml_X6_70 ok_X9_advance ov_X9_advance ⟨Nat.le_of_ble_eq_true rfl, Nat.le_of_ble_eq_true rfl⟩ rfl (h0.lt 1 (by decide)) (h0.ty 1 rfl) rfl (s_X9_advance g q45_37.2 h0) rfl (Nat.le_of_ble_eq_true rfl)) (fun q109_37 => ?_)
            refine J_iinc (pc := 112) (v := s37.1 + 1) (loc' := [(2, .int (s37.1 + 1)), (0, .ref 3)]) 1 dX6_readText_112 rfl rfl (by decide) rfl ?_
            refine J_goto (pc := 115) (tgt := 37) dX6_readText_115 (by decide) ?_
            refine J_loc (loc' := [(0, .ref 3), (2, .int (s37.1 + 1))]) [1, 0] rfl ?_
            exact hB37 (s37.1 + 1, q109_37)
          · refine J_aload_n (pc := 99) 0 dX6_readText_99 rfl rfl ?_
            refine J_iconst (pc := 100) (v := 1) dX6_readText_100 (by decide) ?_
            refine JC_lt_b (K := (fun x => Option.bind x k37)) (J_callV (mi := mi_X6_readText) (mj := mi_X6_fail) (pc := 101) dX6_readText_101 ml_X6_66 ok_X6_fail ov_X6_fail ⟨Nat.le_of_ble_eq_true rfl, Nat.le_of_ble_eq_true rfl⟩ rfl (h0.lt 3 (by decide)) (h0.ty 3 rfl) rfl (s_X6_fail g q45_37.2 1 h0) rfl (Nat.le_of_ble_eq_true rfl)) (fun q101_37 eq101_37 => ?_)
            exact J_eqo (hR37 (q101_37.1, q101_37.2)) (J_zretB (pc := 104) dX6_readText_104 rfl)
        · refine J_aload_n (pc := 63) 0 dX6_readText_63 rfl rfl ?_
          refine J_getR (pc := 64) dX6_readText_64 fl_X6_12 (h0.lt 3 (by decide)) (h0.ty 3 rfl) rfl hin ?_
          refine J_getI (pc := 67) dX6_readText_67 fl_X6_63 (hb.lt 0 (by decide)) (hb.ty 0 rfl) rfl ?_
          refine K_if_gt (K := (fun x => Option.bind x k37)) (pc := 70) (tgt := 82) dX6_readText_70 (by decide) (fun z70 => ?_) (fun z70 => ?_)
          · refine J_iconst (pc := 82) (v := 1) dX6_readText_82 (by decide) ?_
            refine J_goto (pc := 83) (tgt := 87) dX6_readText_83 (by decide) ?_
            exact J_eqo (hR37 (true, q45_37.2)) (J_zretB (pc := 87) dX6_readText_87 rfl)
          · refine J_aload_n (pc := 73) 0 dX6_readText_73 rfl rfl ?_
            refine J_bipush (pc := 74) (v := 6) dX6_readText_74 (by decide) ?_
            refine JC_lt_b (K := (fun x => Option.bind x k37)) (J_callV (mi := mi_X6_readText) (mj := mi_X6_fail) (pc := 76) dX6_readText_76 ml_X6_66 ok_X6_fail ov_X6_fail ⟨Nat.le_of_ble_eq_true rfl, Nat.le_of_ble_eq_true rfl⟩ rfl (h0.lt 3 (by decide)) (h0.ty 3 rfl) rfl (s_X6_fail g q45_37.2 6 h0) rfl (Nat.le_of_ble_eq_true rfl)) (fun q76_37 eq76_37 => ?_)
            refine K_ifeq_b (K := (fun x => Option.bind x k37)) (pc := 79) (tgt := 86) dX6_readText_79 (by decide) (fun z79 => ?_) (fun z79 => ?_)
            · refine J_iconst (pc := 86) (v := 0) dX6_readText_86 (by decide) ?_
              exact J_eqo (hR37 (false, q76_37.2)) (J_zretB (pc := 87) dX6_readText_87 rfl)
            · refine J_iconst (pc := 82) (v := 1) dX6_readText_82 (by decide) ?_
              refine J_goto (pc := 83) (tgt := 87) dX6_readText_83 (by decide) ?_
              exact J_eqo (hR37 (true, q76_37.2)) (J_zretB (pc := 87) dX6_readText_87 rfl)
      · refine J_iconst (pc := 51) (v := 0) dX6_readText_51 (by decide) ?_
        exact J_eqo (hR37 (false, q45_37.2)) (J_zretB (pc := 52) dX6_readText_52 rfl)
  · show J mi_X6_readText 0 0 0 0 (g, e37) 118 [(0, .ref 3)] [] (_)
    refine J_aload_n (pc := 118) 0 dX6_readText_118 rfl rfl ?_
    refine J_iconst (pc := 119) (v := 1) dX6_readText_119 (by decide) ?_
    refine JC_lt_b (K := (fun x => Option.bind x k)) (J_callV (mi := mi_X6_readText) (mj := mi_X6_fail) (pc := 120) dX6_readText_120 ml_X6_66 ok_X6_fail ov_X6_fail ⟨Nat.le_of_ble_eq_true rfl, Nat.le_of_ble_eq_true rfl⟩ rfl (h0.lt 3 (by decide)) (h0.ty 3 rfl) rfl (s_X6_fail g e37 1 h0) rfl (Nat.le_of_ble_eq_true rfl)) (fun q120 eq120 => ?_)
    exact J_eqo (hk (q120.1, q120.2)) (J_zretB (pc := 123) dX6_readText_123 rfl)
def f_X7_dropFirst_w2 (s : Nat) (s2 : Int32 × JD) : Option ((Int32 × JD) ⊕ (JD)) := (if ((s2.2.1 s) 4) ≤ s2.1 then some (.inr s2.2) else (if 16 ≤ s2.1 then some (.inr s2.2) else (if j_out s2.1 16 then none else if j_out (s2.1 - 1) 16 then none else if j_out s2.1 16 then none else if j_out (s2.1 - 1) 16 then none else if j_out s2.1 16 then none else if j_out (s2.1 - 1) 16 then none else some (.inl (s2.1 + 1, j_sI (j_sI (j_sI s2.2 (s + 1) ((s2.1 - 1).toNatClampNeg) ((s2.2.1 (s + 1)) s2.1.toNatClampNeg)) (s + 2) ((s2.1 - 1).toNatClampNeg) ((s2.2.1 (s + 2)) s2.1.toNatClampNeg)) (s + 3) ((s2.1 - 1).toNatClampNeg) ((s2.2.1 (s + 3)) s2.1.toNatClampNeg))))))
def f_X7_dropFirst (s : Nat) (d : JD) : Option (JD) := ((j_wh (f_X7_dropFirst_w2 s ) j_fuel (1, d)).bind (fun (e2 : JD) => (some (j_sI e2 s 4 (((e2.1 s) 4) - 1)))))
set_option maxRecDepth 100000 in
set_option maxHeartbeats 4000000 in
theorem s_X7_dropFirst (g : JG) (d : JD) (s : Nat) (hs : j_sh g s TS_SH RS_SH) : JM mi_X7_dropFirst 0 0 (g, d) [.ref s] ((f_X7_dropFirst s d ).bind (fun r9 => some (none, (g, r9)))) := by
  refine JM_of (by decide) rfl (Nat.le_of_ble_eq_true rfl) ?_
  refine J_loc (loc' := [(0, .ref s)]) [0] rfl ?_
  obtain ⟨k, hk, hk2⟩ : ∃ k : JD → Option (Option Value × JH), (∀ r9, k r9 = some (none, (g, r9))) ∧ (fun r9 : JD => (some (none, (g, r9)) : Option (Option Value × JH))) = k := ⟨_, fun _ => rfl, rfl⟩
  rw [hk2]
  unfold f_X7_dropFirst
  refine J_iconst (pc := 0) (v := 1) dX7_dropFirst_0 (by decide) ?_
  refine J_istore_n (pc := 1) (loc' := [(1, .int 1), (0, .ref s)]) dX7_dropFirst_1 rfl (by decide) rfl ?_
  refine J_loc (loc' := [(0, .ref s), (1, .int 1)]) [1, 0] rfl ?_
  refine J_whL (F := f_X7_dropFirst_w2 s ) (hp := fun (s2 : Int32 × JD) => (g, s2.2)) (lc := fun (s2 : Int32 × JD) => [(0, .ref s), (1, .int s2.1)]) (XJ := fun (e2 : JD) o9 => J mi_X7_dropFirst 0 0 0 0 (g, e2) 64 [(0, .ref s)] [] o9) (fun s2 k2 hB2 hX2 => ?_) (fun e2 => ?_) _ (1, d)
  · show J mi_X7_dropFirst 0 0 0 0 (g, s2.2) 2 [(0, .ref s), (1, .int s2.1)] [] ((f_X7_dropFirst_w2 s s2).bind k2)
    unfold f_X7_dropFirst_w2
    refine J_iload_n (pc := 2) 1 dX7_dropFirst_2 rfl rfl ?_
    refine J_aload_n (pc := 3) 0 dX7_dropFirst_3 rfl rfl ?_
    refine J_getI (pc := 4) dX7_dropFirst_4 fl_X7_25 (hs.lt 0 (by decide)) (hs.ty 0 rfl) rfl ?_
    refine K_icmp_ge (K := (fun x => Option.bind x k2)) (pc := 7) (tgt := 64) dX7_dropFirst_7 (by decide) (fun z7 => ?_) (fun z7 => ?_)
    · refine J_loc (loc' := [(0, .ref s)]) [0] rfl ?_
      exact hX2 s2.2
    · refine J_iload_n (pc := 10) 1 dX7_dropFirst_10 rfl rfl ?_
      refine J_bipush (pc := 11) (v := 16) dX7_dropFirst_11 (by decide) ?_
      refine K_icmp_ge (K := (fun x => Option.bind x k2)) (pc := 13) (tgt := 64) dX7_dropFirst_13 (by decide) (fun z13 => ?_) (fun z13 => ?_)
      · refine J_loc (loc' := [(0, .ref s)]) [0] rfl ?_
        exact hX2 s2.2
      · refine J_aload_n (pc := 16) 0 dX7_dropFirst_16 rfl rfl ?_
        refine J_getR (pc := 17) dX7_dropFirst_17 fl_X7_9 (hs.lt 0 (by decide)) (hs.ty 0 rfl) rfl (hs.rf 0 rfl) ?_
        refine J_iload_n (pc := 20) 1 dX7_dropFirst_20 rfl rfl ?_
        refine J_iconst (pc := 21) (v := 1) dX7_dropFirst_21 (by decide) ?_
        refine J_isub (pc := 22) dX7_dropFirst_22 ?_
        refine J_aload_n (pc := 23) 0 dX7_dropFirst_23 rfl rfl ?_
        refine J_getR (pc := 24) dX7_dropFirst_24 fl_X7_9 (hs.lt 0 (by decide)) (hs.ty 0 rfl) rfl (hs.rf 0 rfl) ?_
        refine J_iload_n (pc := 27) 1 dX7_dropFirst_27 rfl rfl ?_
        refine J_guard (fun z28 => ?_)
        refine J_iald (pc := 28) dX7_dropFirst_28 (hs.lt 1 (by decide)) (hs.ty 1 rfl) z28 ?_
        refine J_guard (fun z29 => ?_)
        refine J_iast (pc := 29) dX7_dropFirst_29 (hs.lt 1 (by decide)) (hs.ty 1 rfl) z29 ?_
        refine J_aload_n (pc := 30) 0 dX7_dropFirst_30 rfl rfl ?_
        refine J_getR (pc := 31) dX7_dropFirst_31 fl_X7_15 (hs.lt 0 (by decide)) (hs.ty 0 rfl) rfl (hs.rf 1 rfl) ?_
        refine J_iload_n (pc := 34) 1 dX7_dropFirst_34 rfl rfl ?_
        refine J_iconst (pc := 35) (v := 1) dX7_dropFirst_35 (by decide) ?_
        refine J_isub (pc := 36) dX7_dropFirst_36 ?_
        refine J_aload_n (pc := 37) 0 dX7_dropFirst_37 rfl rfl ?_
        refine J_getR (pc := 38) dX7_dropFirst_38 fl_X7_15 (hs.lt 0 (by decide)) (hs.ty 0 rfl) rfl (hs.rf 1 rfl) ?_
        refine J_iload_n (pc := 41) 1 dX7_dropFirst_41 rfl rfl ?_
        refine J_guard (fun z42 => ?_)
        refine J_iald (pc := 42) dX7_dropFirst_42 (hs.lt 2 (by decide)) (hs.ty 2 rfl) z42 ?_
        refine J_val (y := (s2.2.1 (s + 2)) s2.1.toNatClampNeg) (by simp [j_sI, j_sL, upd, vp_updL]) ?_
        refine J_guard (fun z43 => ?_)
        refine J_iast (pc := 43) dX7_dropFirst_43 (hs.lt 2 (by decide)) (hs.ty 2 rfl) z43 ?_
        refine J_aload_n (pc := 44) 0 dX7_dropFirst_44 rfl rfl ?_
        refine J_getR (pc := 45) dX7_dropFirst_45 fl_X7_18 (hs.lt 0 (by decide)) (hs.ty 0 rfl) rfl (hs.rf 2 rfl) ?_
        refine J_iload_n (pc := 48) 1 dX7_dropFirst_48 rfl rfl ?_
        refine J_iconst (pc := 49) (v := 1) dX7_dropFirst_49 (by decide) ?_
        refine J_isub (pc := 50) dX7_dropFirst_50 ?_
        refine J_aload_n (pc := 51) 0 dX7_dropFirst_51 rfl rfl ?_
        refine J_getR (pc := 52) dX7_dropFirst_52 fl_X7_18 (hs.lt 0 (by decide)) (hs.ty 0 rfl) rfl (hs.rf 2 rfl) ?_
        refine J_iload_n (pc := 55) 1 dX7_dropFirst_55 rfl rfl ?_
        refine J_guard (fun z56 => ?_)
        refine J_iald (pc := 56) dX7_dropFirst_56 (hs.lt 3 (by decide)) (hs.ty 3 rfl) z56 ?_
        refine J_val (y := (s2.2.1 (s + 3)) s2.1.toNatClampNeg) (by simp [j_sI, j_sL, upd, vp_updL]) ?_
        refine J_guard (fun z57 => ?_)
        refine J_iast (pc := 57) dX7_dropFirst_57 (hs.lt 3 (by decide)) (hs.ty 3 rfl) z57 ?_
        refine J_iinc (pc := 58) (v := s2.1 + 1) (loc' := [(1, .int (s2.1 + 1)), (0, .ref s)]) 1 dX7_dropFirst_58 rfl rfl (by decide) rfl ?_
        refine J_goto (pc := 61) (tgt := 2) dX7_dropFirst_61 (by decide) ?_
        refine J_loc (loc' := [(0, .ref s), (1, .int (s2.1 + 1))]) [1, 0] rfl ?_
        exact hB2 (s2.1 + 1, j_sI (j_sI (j_sI s2.2 (s + 1) ((s2.1 - 1).toNatClampNeg) ((s2.2.1 (s + 1)) s2.1.toNatClampNeg)) (s + 2) ((s2.1 - 1).toNatClampNeg) ((s2.2.1 (s + 2)) s2.1.toNatClampNeg)) (s + 3) ((s2.1 - 1).toNatClampNeg) ((s2.2.1 (s + 3)) s2.1.toNatClampNeg))
  · show J mi_X7_dropFirst 0 0 0 0 (g, e2) 64 [(0, .ref s)] [] (_)
    refine J_aload_n (pc := 64) 0 dX7_dropFirst_64 rfl rfl ?_
    refine J_dup (pc := 65) dX7_dropFirst_65 rfl ?_
    refine J_getI (pc := 66) dX7_dropFirst_66 fl_X7_25 (hs.lt 0 (by decide)) (hs.ty 0 rfl) rfl ?_
    refine J_iconst (pc := 69) (v := 1) dX7_dropFirst_69 (by decide) ?_
    refine J_isub (pc := 70) dX7_dropFirst_70 ?_
    refine J_putI (pc := 71) dX7_dropFirst_71 fl_X7_25 ft_7_4 (hs.lt 0 (by decide)) (hs.ty 0 rfl) rfl rfl rfl ?_
    exact J_eqo (hk (j_sI e2 s 4 (((e2.1 s) 4) - 1))) (J_vret (pc := 74) dX7_dropFirst_74 rfl)
def f_X7_addLatest_j15 (m : Nat) (s : Nat) (d15 : JD) : Option (JD) := (j_let (f_X11_put (s + 1) 16 d15 ((d15.1 s) 4) ((d15.1 m) 0)) (fun q27 => j_let (f_X11_put (s + 2) 16 q27 ((q27.1 s) 4) ((q27.1 m) 1)) (fun q42 => j_let (f_X11_put (s + 3) 16 q42 ((q42.1 s) 4) ((q42.1 m) 2)) (fun q57 => some (j_sI q57 s 4 (((q57.1 s) 4) + 1))))))
def f_X7_addLatest (m : Nat) (s : Nat) (d : JD) : Option (JD) := (if ((d.1 s) 4) < ((d.1 s) 3) then f_X7_addLatest_j15 m s d else ((f_X7_dropFirst s d).bind (fun q12 => f_X7_addLatest_j15 m s q12 )))
set_option maxRecDepth 100000 in
set_option maxHeartbeats 4000000 in
theorem s_X7_addLatest (g : JG) (d : JD) (m : Nat) (s : Nat) (hm : j_sh g m TS_MO RS_MO) (hs : j_sh g s TS_SH RS_SH) : JM mi_X7_addLatest 0 0 (g, d) [.ref s, .ref m] ((f_X7_addLatest m s d ).bind (fun r9 => some (none, (g, r9)))) := by
  refine JM_of (by decide) rfl (Nat.le_of_ble_eq_true rfl) ?_
  refine J_loc (loc' := [(0, .ref s), (1, .ref m)]) [0, 1] rfl ?_
  obtain ⟨k, hk, hk2⟩ : ∃ k : JD → Option (Option Value × JH), (∀ r9, k r9 = some (none, (g, r9))) ∧ (fun r9 : JD => (some (none, (g, r9)) : Option (Option Value × JH))) = k := ⟨_, fun _ => rfl, rfl⟩
  rw [hk2]
  unfold f_X7_addLatest
  have hX7_addLatest_j15 : ∀ (d15 : JD) , J mi_X7_addLatest 0 0 0 0 (g, d15) 15 [(0, .ref s), (1, .ref m)] [] ((f_X7_addLatest_j15 m s d15 ).bind k) := by
    intro d15 
    unfold f_X7_addLatest_j15
    refine J_aload_n (pc := 15) 0 dX7_addLatest_15 rfl rfl ?_
    refine J_getR (pc := 16) dX7_addLatest_16 fl_X7_9 (hs.lt 0 (by decide)) (hs.ty 0 rfl) rfl (hs.rf 0 rfl) ?_
    refine J_aload_n (pc := 19) 0 dX7_addLatest_19 rfl rfl ?_
    refine J_getI (pc := 20) dX7_addLatest_20 fl_X7_25 (hs.lt 0 (by decide)) (hs.ty 0 rfl) rfl ?_
    refine J_aload_n (pc := 23) 1 dX7_addLatest_23 rfl rfl ?_
    refine J_getI (pc := 24) dX7_addLatest_24 fl_X7_31 (hm.lt 0 (by decide)) (hm.ty 0 rfl) rfl ?_
    refine JC_lt_v (K := (fun x => Option.bind x k)) (J_callS (mi := mi_X7_addLatest) (mj := mi_X11_put) (pc := 27) dX7_addLatest_27 ml_X7_36 ok_X11_put os_X11_put ⟨Nat.le_of_ble_eq_true rfl, Nat.le_of_ble_eq_true rfl⟩ rfl (s_X11_put g d15 (s + 1) 16 ((d15.1 s) 4) ((d15.1 m) 0) (⟨(hs.lt 1 (by decide)), (hs.ty 1 rfl), by decide⟩)) rfl (Nat.le_of_ble_eq_true rfl)) (fun q27 eq27 => ?_)
    refine J_aload_n (pc := 30) 0 dX7_addLatest_30 rfl rfl ?_
    refine J_getR (pc := 31) dX7_addLatest_31 fl_X7_15 (hs.lt 0 (by decide)) (hs.ty 0 rfl) rfl (hs.rf 1 rfl) ?_
    refine J_aload_n (pc := 34) 0 dX7_addLatest_34 rfl rfl ?_
    refine J_getI (pc := 35) dX7_addLatest_35 fl_X7_25 (hs.lt 0 (by decide)) (hs.ty 0 rfl) rfl ?_
    refine J_aload_n (pc := 38) 1 dX7_addLatest_38 rfl rfl ?_
    refine J_getI (pc := 39) dX7_addLatest_39 fl_X7_40 (hm.lt 0 (by decide)) (hm.ty 0 rfl) rfl ?_
    refine JC_lt_v (K := (fun x => Option.bind x k)) (J_callS (mi := mi_X7_addLatest) (mj := mi_X11_put) (pc := 42) dX7_addLatest_42 ml_X7_36 ok_X11_put os_X11_put ⟨Nat.le_of_ble_eq_true rfl, Nat.le_of_ble_eq_true rfl⟩ rfl (s_X11_put g q27 (s + 2) 16 ((q27.1 s) 4) ((q27.1 m) 1) (⟨(hs.lt 2 (by decide)), (hs.ty 2 rfl), by decide⟩)) rfl (Nat.le_of_ble_eq_true rfl)) (fun q42 eq42 => ?_)
    refine J_aload_n (pc := 45) 0 dX7_addLatest_45 rfl rfl ?_
    refine J_getR (pc := 46) dX7_addLatest_46 fl_X7_18 (hs.lt 0 (by decide)) (hs.ty 0 rfl) rfl (hs.rf 2 rfl) ?_
    refine J_aload_n (pc := 49) 0 dX7_addLatest_49 rfl rfl ?_
    refine J_getI (pc := 50) dX7_addLatest_50 fl_X7_25 (hs.lt 0 (by decide)) (hs.ty 0 rfl) rfl ?_
    refine J_aload_n (pc := 53) 1 dX7_addLatest_53 rfl rfl ?_
    refine J_getI (pc := 54) dX7_addLatest_54 fl_X7_43 (hm.lt 0 (by decide)) (hm.ty 0 rfl) rfl ?_
    refine JC_lt_v (K := (fun x => Option.bind x k)) (J_callS (mi := mi_X7_addLatest) (mj := mi_X11_put) (pc := 57) dX7_addLatest_57 ml_X7_36 ok_X11_put os_X11_put ⟨Nat.le_of_ble_eq_true rfl, Nat.le_of_ble_eq_true rfl⟩ rfl (s_X11_put g q42 (s + 3) 16 ((q42.1 s) 4) ((q42.1 m) 2) (⟨(hs.lt 3 (by decide)), (hs.ty 3 rfl), by decide⟩)) rfl (Nat.le_of_ble_eq_true rfl)) (fun q57 eq57 => ?_)
    refine J_aload_n (pc := 60) 0 dX7_addLatest_60 rfl rfl ?_
    refine J_dup (pc := 61) dX7_addLatest_61 rfl ?_
    refine J_getI (pc := 62) dX7_addLatest_62 fl_X7_25 (hs.lt 0 (by decide)) (hs.ty 0 rfl) rfl ?_
    refine J_iconst (pc := 65) (v := 1) dX7_addLatest_65 (by decide) ?_
    refine J_iadd (pc := 66) dX7_addLatest_66 ?_
    refine J_putI (pc := 67) dX7_addLatest_67 fl_X7_25 ft_7_4 (hs.lt 0 (by decide)) (hs.ty 0 rfl) rfl rfl rfl ?_
    exact J_eqo (hk (j_sI q57 s 4 (((q57.1 s) 4) + 1))) (J_vret (pc := 70) dX7_addLatest_70 rfl)
  refine J_aload_n (pc := 0) 0 dX7_addLatest_0 rfl rfl ?_
  refine J_getI (pc := 1) dX7_addLatest_1 fl_X7_25 (hs.lt 0 (by decide)) (hs.ty 0 rfl) rfl ?_
  refine J_aload_n (pc := 4) 0 dX7_addLatest_4 rfl rfl ?_
  refine J_getI (pc := 5) dX7_addLatest_5 fl_X7_21 (hs.lt 0 (by decide)) (hs.ty 0 rfl) rfl ?_
  refine K_icmp_lt (K := (fun x => Option.bind x k)) (pc := 8) (tgt := 15) dX7_addLatest_8 (by decide) (fun z8 => ?_) (fun z8 => ?_)
  · exact hX7_addLatest_j15 d 
  · refine J_aload_n (pc := 11) 0 dX7_addLatest_11 rfl rfl ?_
    refine JC_pe_v (J_callV (mi := mi_X7_addLatest) (mj := mi_X7_dropFirst) (pc := 12) dX7_addLatest_12 ml_X7_28 ok_X7_dropFirst ov_X7_dropFirst ⟨Nat.le_of_ble_eq_true rfl, Nat.le_of_ble_eq_true rfl⟩ rfl (hs.lt 0 (by decide)) (hs.ty 0 rfl) rfl (s_X7_dropFirst g d s hs) rfl (Nat.le_of_ble_eq_true rfl)) (fun q12 => ?_)
    exact hX7_addLatest_j15 q12 
def f_X7_bringBack (m : Nat) (s : Nat) (d : JD) (pq0 : Int32) : JD := (j_let (f_X4_set m d (f_X11_at (d.1 (s + 1)) 16 pq0) (f_X11_at (d.1 (s + 2)) 16 pq0) (f_X11_at (d.1 (s + 3)) 16 pq0)) (fun q25 => q25))
set_option maxRecDepth 100000 in
set_option maxHeartbeats 4000000 in
theorem s_X7_bringBack (g : JG) (d : JD) (m : Nat) (s : Nat) (pq0 : Int32) (hm : j_sh g m TS_MO RS_MO) (hs : j_sh g s TS_SH RS_SH) : JM mi_X7_bringBack 0 0 (g, d) [.ref s, .int pq0, .ref m] (some (none, (g, (f_X7_bringBack m s d pq0)))) := by
  refine JM_of (by decide) rfl (Nat.le_of_ble_eq_true rfl) ?_
  refine J_loc (loc' := [(0, .ref s), (1, .int pq0), (2, .ref m)]) [0, 1, 2] rfl ?_
  obtain ⟨k, hk⟩ : ∃ k : JD → Option (Option Value × JH), ∀ r9, k r9 = some (none, (g, r9)) := ⟨_, fun _ => rfl⟩
  refine J_eqo (hk (f_X7_bringBack m s d pq0)).symm ?_
  unfold f_X7_bringBack
  refine J_aload_n (pc := 0) 2 dX7_bringBack_0 rfl rfl ?_
  refine J_aload_n (pc := 1) 0 dX7_bringBack_1 rfl rfl ?_
  refine J_getR (pc := 2) dX7_bringBack_2 fl_X7_9 (hs.lt 0 (by decide)) (hs.ty 0 rfl) rfl (hs.rf 0 rfl) ?_
  refine J_iload_n (pc := 5) 1 dX7_bringBack_5 rfl rfl ?_
  refine JC_pt_i (J_callS (mi := mi_X7_bringBack) (mj := mi_X11_at) (pc := 6) dX7_bringBack_6 ml_X7_46 ok_X11_at os_X11_at ⟨Nat.le_of_ble_eq_true rfl, Nat.le_of_ble_eq_true rfl⟩ rfl (s_X11_at g d (s + 1) 16 pq0 (⟨(hs.lt 1 (by decide)), (hs.ty 1 rfl), by decide⟩)) rfl (Nat.le_of_ble_eq_true rfl)) ?_
  refine J_aload_n (pc := 9) 0 dX7_bringBack_9 rfl rfl ?_
  refine J_getR (pc := 10) dX7_bringBack_10 fl_X7_15 (hs.lt 0 (by decide)) (hs.ty 0 rfl) rfl (hs.rf 1 rfl) ?_
  refine J_iload_n (pc := 13) 1 dX7_bringBack_13 rfl rfl ?_
  refine JC_pt_i (J_callS (mi := mi_X7_bringBack) (mj := mi_X11_at) (pc := 14) dX7_bringBack_14 ml_X7_46 ok_X11_at os_X11_at ⟨Nat.le_of_ble_eq_true rfl, Nat.le_of_ble_eq_true rfl⟩ rfl (s_X11_at g d (s + 2) 16 pq0 (⟨(hs.lt 2 (by decide)), (hs.ty 2 rfl), by decide⟩)) rfl (Nat.le_of_ble_eq_true rfl)) ?_
  refine J_aload_n (pc := 17) 0 dX7_bringBack_17 rfl rfl ?_
  refine J_getR (pc := 18) dX7_bringBack_18 fl_X7_18 (hs.lt 0 (by decide)) (hs.ty 0 rfl) rfl (hs.rf 2 rfl) ?_
  refine J_iload_n (pc := 21) 1 dX7_bringBack_21 rfl rfl ?_
  refine JC_pt_i (J_callS (mi := mi_X7_bringBack) (mj := mi_X11_at) (pc := 22) dX7_bringBack_22 ml_X7_46 ok_X11_at os_X11_at ⟨Nat.le_of_ble_eq_true rfl, Nat.le_of_ble_eq_true rfl⟩ rfl (s_X11_at g d (s + 3) 16 pq0 (⟨(hs.lt 3 (by decide)), (hs.ty 3 rfl), by decide⟩)) rfl (Nat.le_of_ble_eq_true rfl)) ?_
  refine JC_lt_v (K := k) (J_callV (mi := mi_X7_bringBack) (mj := mi_X4_set) (pc := 25) dX7_bringBack_25 ml_X7_50 ok_X4_set ov_X4_set ⟨Nat.le_of_ble_eq_true rfl, Nat.le_of_ble_eq_true rfl⟩ rfl (hm.lt 0 (by decide)) (hm.ty 0 rfl) rfl (s_X4_set g d m (f_X11_at (d.1 (s + 1)) 16 pq0) (f_X11_at (d.1 (s + 2)) 16 pq0) (f_X11_at (d.1 (s + 3)) 16 pq0) hm) rfl (Nat.le_of_ble_eq_true rfl)) (fun q25 eq25 => ?_)
  exact J_eqo (hk q25) (J_vret (pc := 28) dX7_bringBack_28 rfl)
def f_X8_forget (d : JD) : JD := (j_sI d 38 0 0)
set_option maxRecDepth 100000 in
set_option maxHeartbeats 4000000 in
theorem s_X8_forget (g : JG) (d : JD) (h0 : j_sh g 0 TS_W RS_W) : JM mi_X8_forget 0 0 (g, d) [.ref 38] (some (none, (g, (f_X8_forget d )))) := by
  refine JM_of (by decide) rfl (Nat.le_of_ble_eq_true rfl) ?_
  refine J_loc (loc' := [(0, .ref 38)]) [0] rfl ?_
  obtain ⟨k, hk⟩ : ∃ k : JD → Option (Option Value × JH), ∀ r9, k r9 = some (none, (g, r9)) := ⟨_, fun _ => rfl⟩
  refine J_eqo (hk (f_X8_forget d )).symm ?_
  unfold f_X8_forget
  refine J_aload_n (pc := 0) 0 dX8_forget_0 rfl rfl ?_
  refine J_iconst (pc := 1) (v := 0) dX8_forget_1 (by decide) ?_
  refine J_putI (pc := 2) dX8_forget_2 fl_X8_9 ft_8_0 (h0.lt 38 (by decide)) (h0.ty 38 rfl) rfl rfl rfl ?_
  exact J_eqo (hk (j_sI d 38 0 0)) (J_vret (pc := 5) dX8_forget_5 rfl)
