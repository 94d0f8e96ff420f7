def f_X13_readPerson (u : Nat) (d : JD) : Option (JD) := ((f_X13_lineBegins u d ((d.1 u) 2) 5).bind (fun q9 => (f_X13_readFresh u q9).bind (fun q13 => if ((q13.2.1 57) 9) = 5 then (some q13.2) else ((f_X13_names u q13.2 q13.1 0 ((q13.2.1 u) 2)).bind (fun q36 => some (j_sI q36 u 2 (((q36.1 u) 2) + 1)))))))
set_option maxRecDepth 100000 in
set_option maxHeartbeats 4000000 in
theorem s_X13_readPerson (g : JG) (d : JD) (u : Nat) (h0 : j_sh g 0 TS_W RS_W) (hu : j_sh g u TS_ML RS_ML) (hre : g.2.2.1 57 4 = some u) : JM mi_X13_readPerson 0 0 (g, d) [.ref 57] ((f_X13_readPerson u d ).bind (fun r9 => some (none, (g, r9)))) := by
  refine JM_of (by decide) rfl (Nat.le_of_ble_eq_true rfl) ?_
  refine J_loc (loc' := [(0, .ref 57)]) [0] rfl ?_
  obtain ⟨k, hk, hk2⟩ : ∃ k : JD → Option (Option Value × JH), (∀ r9, k r9 = some (none, (g, r9))) ∧ (fun r9 : JD => (some (none, (g, r9)) : Option (Option Value × JH))) = k := ⟨_, fun _ => rfl, rfl⟩
  rw [hk2]
  unfold f_X13_readPerson
  refine J_aload_n (pc := 0) 0 dX13_readPerson_0 rfl rfl ?_
  refine J_aload_n (pc := 1) 0 dX13_readPerson_1 rfl rfl ?_
  refine J_getR (pc := 2) dX13_readPerson_2 fl_X13_151 (h0.lt 57 (by decide)) (h0.ty 57 rfl) rfl hre ?_
  refine J_getI (pc := 5) dX13_readPerson_5 fl_X13_229 (hu.lt 0 (by decide)) (hu.ty 0 rfl) rfl ?_
  refine J_iconst (pc := 8) (v := 5) dX13_readPerson_8 (by decide) ?_
  refine JC_pe_v (J_callV (mi := mi_X13_readPerson) (mj := mi_X13_lineBegins) (pc := 9) dX13_readPerson_9 ml_X13_232 ok_X13_lineBegins ov_X13_lineBegins ⟨Nat.le_of_ble_eq_true rfl, Nat.le_of_ble_eq_true rfl⟩ rfl (h0.lt 57 (by decide)) (h0.ty 57 rfl) rfl (s_X13_lineBegins g d u ((d.1 u) 2) 5 h0 hu hre) rfl (Nat.le_of_ble_eq_true rfl)) (fun q9 => ?_)
  refine J_aload_n (pc := 12) 0 dX13_readPerson_12 rfl rfl ?_
  refine JC_pe_l (J_callV (mi := mi_X13_readPerson) (mj := mi_X13_readFresh) (pc := 13) dX13_readPerson_13 ml_X13_236 ok_X13_readFresh ov_X13_readFresh ⟨Nat.le_of_ble_eq_true rfl, Nat.le_of_ble_eq_true rfl⟩ rfl (h0.lt 57 (by decide)) (h0.ty 57 rfl) rfl (s_X13_readFresh g q9 u h0 hu hre) rfl (Nat.le_of_ble_eq_true rfl)) (fun q13 => ?_)
  refine J_lstore_n (pc := 16) (loc' := [(1, .long q13.1), (0, .ref 57)]) dX13_readPerson_16 rfl (by decide) rfl ?_
  refine J_aload_n (pc := 17) 1 dX13_readPerson_17 rfl rfl ?_
  refine J_getI (pc := 18) dX13_readPerson_18 fl_X13_74 (h0.lt 57 (by decide)) (h0.ty 57 rfl) rfl ?_
  refine J_iconst (pc := 21) (v := 5) dX13_readPerson_21 (by decide) ?_
  refine K_icmp_ne (K := (fun x => Option.bind x k)) (pc := 22) (tgt := 26) dX13_readPerson_22 (by decide) (fun z22 => ?_) (fun z22 => ?_)
  · refine J_aload_n (pc := 26) 1 dX13_readPerson_26 rfl rfl ?_
    refine J_lload_n (pc := 27) 0 dX13_readPerson_27 rfl rfl ?_
    refine J_iconst (pc := 28) (v := 0) dX13_readPerson_28 (by decide) ?_
    refine J_aload_n (pc := 29) 1 dX13_readPerson_29 rfl rfl ?_
    refine J_getR (pc := 30) dX13_readPerson_30 fl_X13_151 (h0.lt 57 (by decide)) (h0.ty 57 rfl) rfl hre ?_
    refine J_getI (pc := 33) dX13_readPerson_33 fl_X13_229 (hu.lt 0 (by decide)) (hu.ty 0 rfl) rfl ?_
    refine JC_pe_v (J_callV (mi := mi_X13_readPerson) (mj := mi_X13_names) (pc := 36) dX13_readPerson_36 ml_X13_240 ok_X13_names ov_X13_names ⟨Nat.le_of_ble_eq_true rfl, Nat.le_of_ble_eq_true rfl⟩ rfl (h0.lt 57 (by decide)) (h0.ty 57 rfl) rfl (s_X13_names g q13.2 u q13.1 0 ((q13.2.1 u) 2) h0 hu hre) rfl (Nat.le_of_ble_eq_true rfl)) (fun q36 => ?_)
    refine J_aload_n (pc := 39) 1 dX13_readPerson_39 rfl rfl ?_
    refine J_getR (pc := 40) dX13_readPerson_40 fl_X13_151 (h0.lt 57 (by decide)) (h0.ty 57 rfl) rfl hre ?_
    refine J_dup (pc := 43) dX13_readPerson_43 rfl ?_
    refine J_getI (pc := 44) dX13_readPerson_44 fl_X13_229 (hu.lt 0 (by decide)) (hu.ty 0 rfl) rfl ?_
    refine J_iconst (pc := 47) (v := 1) dX13_readPerson_47 (by decide) ?_
    refine J_iadd (pc := 48) dX13_readPerson_48 ?_
    refine J_putI (pc := 49) dX13_readPerson_49 fl_X13_229 ft_11_2 (hu.lt 0 (by decide)) (hu.ty 0 rfl) rfl rfl rfl ?_
    exact J_eqo (hk (j_sI q36 u 2 (((q36.1 u) 2) + 1))) (J_vret (pc := 52) dX13_readPerson_52 rfl)
  · exact J_eqo (hk q13.2) (J_vret (pc := 25) dX13_readPerson_25 rfl)
def f_X13_readFirm_j67_28 (u : Nat) (c1_28 : Int64) (c3_28 : Int32) (d67_28 : JD) (x4_67_28 : Int32) (x5_67_28 : Int32) : Option ((Int32 × JD) ⊕ (Int32 × JD)) := ((f_X13_goesOn d67_28).bind (fun q68_28 => some (.inl (x4_67_28 ||| ((1 : Int32) <<< (x5_67_28 &&& 31)), q68_28))))
def f_X13_readFirm_w28 (u : Nat) (c1_28 : Int64) (c3_28 : Int32) (s28 : Int32 × JD) : Option ((Int32 × JD) ⊕ (Int32 × JD)) := ((f_X13_eats s28.2 44).bind (fun q31_28 => if q31_28.1 = true then ((f_X13_knownOne u q31_28.2 0).bind (fun q39_28 => if ((q39_28.2.1 57) 9) = 5 then f_X13_readFirm_j67_28 u (c1_28) (c3_28) q39_28.2 s28.1 q39_28.1 else (if (f_X13_bit s28.1 q39_28.1) = true then (j_let (f_X13_flaw q39_28.2 3) (fun q64_28 => f_X13_readFirm_j67_28 u (c1_28) (c3_28) q64_28 s28.1 q39_28.1)) else f_X13_readFirm_j67_28 u (c1_28) (c3_28) q39_28.2 s28.1 q39_28.1))) else some (.inr (s28.1, q31_28.2))))
def f_X13_readFirm (u : Nat) (d : JD) : Option (JD) := ((f_X13_lineBegins u d ((d.1 u) 3) 4).bind (fun q9 => (f_X13_readFresh u q9).bind (fun q13 => (f_X13_readKnown u q13.2 0).bind (fun q19 => j_let ((1 : Int32) <<< (q19.1 &&& 31)) (fun v4_26 => (j_wh (f_X13_readFirm_w28 u q13.1 q19.1 ) j_fuel (v4_26, q19.2)).bind (fun (e28 : Int32 × JD) => (if ((e28.2.1 57) 9) = 5 then (some e28.2) else ((f_X13_names u e28.2 q13.1 1 ((e28.2.1 u) 3)).bind (fun q102 => if j_out ((q102.1 u) 3) 4 then none else if j_out ((q102.1 u) 3) 4 then none else some (j_sI (j_sI (j_sI q102 (u + 1) (((q102.1 u) 3).toNatClampNeg) q19.1) (u + 2) (((q102.1 u) 3).toNatClampNeg) e28.1) u 3 (((q102.1 u) 3) + 1)))))))))))
set_option maxRecDepth 100000 in
set_option maxHeartbeats 4000000 in
theorem s_X13_readFirm (g : JG) (d : JD) (u : Nat) (h0 : j_sh g 0 TS_W RS_W) (hu : j_sh g u TS_ML RS_ML) (hre : g.2.2.1 57 4 = some u) : JM mi_X13_readFirm 0 0 (g, d) [.ref 57] ((f_X13_readFirm u d ).bind (fun r9 => some (none, (g, r9)))) := by
  refine JM_of (by decide) rfl (Nat.le_of_ble_eq_true rfl) ?_
  refine J_loc (loc' := [(0, .ref 57)]) [0] rfl ?_
  obtain ⟨k, hk, hk2⟩ : ∃ k : JD → Option (Option Value × JH), (∀ r9, k r9 = some (none, (g, r9))) ∧ (fun r9 : JD => (some (none, (g, r9)) : Option (Option Value × JH))) = k := ⟨_, fun _ => rfl, rfl⟩
  rw [hk2]
  unfold f_X13_readFirm
  refine J_aload_n (pc := 0) 0 dX13_readFirm_0 rfl rfl ?_
  refine J_aload_n (pc := 1) 0 dX13_readFirm_1 rfl rfl ?_
  refine J_getR (pc := 2) dX13_readFirm_2 fl_X13_151 (h0.lt 57 (by decide)) (h0.ty 57 rfl) rfl hre ?_
  refine J_getI (pc := 5) dX13_readFirm_5 fl_X13_243 (hu.lt 0 (by decide)) (hu.ty 0 rfl) rfl ?_
  refine J_iconst (pc := 8) (v := 4) dX13_readFirm_8 (by decide) ?_
  refine JC_pe_v (J_callV (mi := mi_X13_readFirm) (mj := mi_X13_lineBegins) (pc := 9) dX13_readFirm_9 ml_X13_232 ok_X13_lineBegins ov_X13_lineBegins ⟨Nat.le_of_ble_eq_true rfl, Nat.le_of_ble_eq_true rfl⟩ rfl (h0.lt 57 (by decide)) (h0.ty 57 rfl) rfl (s_X13_lineBegins g d u ((d.1 u) 3) 4 h0 hu hre) rfl (Nat.le_of_ble_eq_true rfl)) (fun q9 => ?_)
  refine J_aload_n (pc := 12) 0 dX13_readFirm_12 rfl rfl ?_
  refine JC_pe_l (J_callV (mi := mi_X13_readFirm) (mj := mi_X13_readFresh) (pc := 13) dX13_readFirm_13 ml_X13_236 ok_X13_readFresh ov_X13_readFresh ⟨Nat.le_of_ble_eq_true rfl, Nat.le_of_ble_eq_true rfl⟩ rfl (h0.lt 57 (by decide)) (h0.ty 57 rfl) rfl (s_X13_readFresh g q9 u h0 hu hre) rfl (Nat.le_of_ble_eq_true rfl)) (fun q13 => ?_)
  refine J_lstore_n (pc := 16) (loc' := [(1, .long q13.1), (0, .ref 57)]) dX13_readFirm_16 rfl (by decide) rfl ?_
  refine J_aload_n (pc := 17) 1 dX13_readFirm_17 rfl rfl ?_
  refine J_iconst (pc := 18) (v := 0) dX13_readFirm_18 (by decide) ?_
  refine JC_pe_i (J_callV (mi := mi_X13_readFirm) (mj := mi_X13_readKnown) (pc := 19) dX13_readFirm_19 ml_X13_246 ok_X13_readKnown ov_X13_readKnown ⟨Nat.le_of_ble_eq_true rfl, Nat.le_of_ble_eq_true rfl⟩ rfl (h0.lt 57 (by decide)) (h0.ty 57 rfl) rfl (s_X13_readKnown g q13.2 u 0 h0 hu hre) rfl (Nat.le_of_ble_eq_true rfl)) (fun q19 => ?_)
  refine J_istore_n (pc := 22) (loc' := [(3, .int q19.1), (1, .long q13.1), (0, .ref 57)]) dX13_readFirm_22 rfl (by decide) rfl ?_
  refine J_iconst (pc := 23) (v := 1) dX13_readFirm_23 (by decide) ?_
  refine J_iload_n (pc := 24) 0 dX13_readFirm_24 rfl rfl ?_
  refine J_ishl (pc := 25) dX13_readFirm_25 ?_
  refine J_let (K := (fun x => Option.bind x k)) (fun v4_26 ev4_26 => ?_)
  refine J_val ev4_26.symm ?_
  refine J_istore (pc := 26) (loc' := [(4, .int v4_26), (3, .int q19.1), (1, .long q13.1), (0, .ref 57)]) dX13_readFirm_26 (by decide) rfl ?_
  refine J_loc (loc' := [(0, .ref 57), (1, .long q13.1), (3, .int q19.1), (4, .int v4_26)]) [3, 2, 1, 0] rfl ?_
  refine J_whL (F := f_X13_readFirm_w28 u q13.1 q19.1 ) (hp := fun (s28 : Int32 × JD) => (g, s28.2)) (lc := fun (s28 : Int32 × JD) => [(0, .ref 57), (1, .long (q13.1)), (3, .int (q19.1)), (4, .int s28.1)]) (XJ := fun (e28 : Int32 × JD) o9 => J mi_X13_readFirm 0 0 0 0 (g, e28.2) 83 [(0, .ref 57), (1, .long q13.1), (3, .int q19.1), (4, .int e28.1)] [] o9) (fun s28 k28 hB28 hX28 => ?_) (fun e28 => ?_) _ (v4_26, q19.2)
  · show J mi_X13_readFirm 0 0 0 0 (g, s28.2) 28 [(0, .ref 57), (1, .long (q13.1)), (3, .int (q19.1)), (4, .int s28.1)] [] ((f_X13_readFirm_w28 u q13.1 q19.1 s28).bind k28)
    unfold f_X13_readFirm_w28
    have hX13_readFirm_j67_28 : ∀ (d67_28 : JD) (x4_67_28 : Int32) (x5_67_28 : Int32), J mi_X13_readFirm 0 0 0 0 (g, d67_28) 67 [(0, .ref 57), (1, .long (q13.1)), (3, .int (q19.1)), (4, .int x4_67_28), (5, .int x5_67_28)] [] ((f_X13_readFirm_j67_28 u q13.1 q19.1 d67_28 x4_67_28 x5_67_28).bind k28) := by
      intro d67_28 x4_67_28 x5_67_28
      unfold f_X13_readFirm_j67_28
      refine J_aload_n (pc := 67) 0 dX13_readFirm_67 rfl rfl ?_
      refine JC_pe_v (J_callV (mi := mi_X13_readFirm) (mj := mi_X13_goesOn) (pc := 68) dX13_readFirm_68 ml_X13_110 ok_X13_goesOn ov_X13_goesOn ⟨Nat.le_of_ble_eq_true rfl, Nat.le_of_ble_eq_true rfl⟩ rfl (h0.lt 57 (by decide)) (h0.ty 57 rfl) rfl (s_X13_goesOn g d67_28 h0) rfl (Nat.le_of_ble_eq_true rfl)) (fun q68_28 => ?_)
      refine J_iload (pc := 71) 3 dX13_readFirm_71 rfl ?_
      refine J_iconst (pc := 73) (v := 1) dX13_readFirm_73 (by decide) ?_
      refine J_iload (pc := 74) 4 dX13_readFirm_74 rfl ?_
      refine J_ishl (pc := 76) dX13_readFirm_76 ?_
      refine J_ior (pc := 77) dX13_readFirm_77 ?_
      refine J_istore (pc := 78) (loc' := [(4, .int (x4_67_28 ||| ((1 : Int32) <<< (x5_67_28 &&& 31)))), (0, .ref 57), (1, .long (q13.1)), (3, .int (q19.1)), (5, .int x5_67_28)]) dX13_readFirm_78 (by decide) rfl ?_
      refine J_goto (pc := 80) (tgt := 28) dX13_readFirm_80 (by decide) ?_
      refine J_loc (loc' := [(0, .ref 57), (1, .long (q13.1)), (3, .int (q19.1)), (4, .int (x4_67_28 ||| ((1 : Int32) <<< (x5_67_28 &&& 31))))]) [1, 2, 3, 0] rfl ?_
      exact hB28 (x4_67_28 ||| ((1 : Int32) <<< (x5_67_28 &&& 31)), q68_28)
    refine J_aload_n (pc := 28) 0 dX13_readFirm_28 rfl rfl ?_
    refine J_bipush (pc := 29) (v := 44) dX13_readFirm_29 (by decide) ?_
    refine JC_pe_b (J_callV (mi := mi_X13_readFirm) (mj := mi_X13_eats) (pc := 31) dX13_readFirm_31 ml_X13_187 ok_X13_eats ov_X13_eats ⟨Nat.le_of_ble_eq_true rfl, Nat.le_of_ble_eq_true rfl⟩ rfl (h0.lt 57 (by decide)) (h0.ty 57 rfl) rfl (s_X13_eats g s28.2 44 h0) rfl (Nat.le_of_ble_eq_true rfl)) (fun q31_28 => ?_)
    refine K_ifeq_b (K := (fun x => Option.bind x k28)) (pc := 34) (tgt := 83) dX13_readFirm_34 (by decide) (fun z34 => ?_) (fun z34 => ?_)
    · exact hX28 (s28.1, q31_28.2)
    · refine J_aload_n (pc := 37) 0 dX13_readFirm_37 rfl rfl ?_
      refine J_iconst (pc := 38) (v := 0) dX13_readFirm_38 (by decide) ?_
      refine JC_pe_i (J_callV (mi := mi_X13_readFirm) (mj := mi_X13_knownOne) (pc := 39) dX13_readFirm_39 ml_X13_181 ok_X13_knownOne ov_X13_knownOne ⟨Nat.le_of_ble_eq_true rfl, Nat.le_of_ble_eq_true rfl⟩ rfl (h0.lt 57 (by decide)) (h0.ty 57 rfl) rfl (s_X13_knownOne g q31_28.2 u 0 h0 hu hre) rfl (Nat.le_of_ble_eq_true rfl)) (fun q39_28 => ?_)
      refine J_istore (pc := 42) (loc' := [(5, .int q39_28.1), (0, .ref 57), (1, .long (q13.1)), (3, .int (q19.1)), (4, .int s28.1)]) dX13_readFirm_42 (by decide) rfl ?_
      refine J_aload_n (pc := 44) 1 dX13_readFirm_44 rfl rfl ?_
      refine J_getI (pc := 45) dX13_readFirm_45 fl_X13_74 (h0.lt 57 (by decide)) (h0.ty 57 rfl) rfl ?_
      refine J_iconst (pc := 48) (v := 5) dX13_readFirm_48 (by decide) ?_
      refine K_icmp_eq (K := (fun x => Option.bind x k28)) (pc := 49) (tgt := 67) dX13_readFirm_49 (by decide) (fun z49 => ?_) (fun z49 => ?_)
      · refine J_loc (loc' := [(0, .ref 57), (1, .long (q13.1)), (3, .int (q19.1)), (4, .int s28.1), (5, .int q39_28.1)]) [1, 2, 3, 4, 0] rfl ?_
        exact hX13_readFirm_j67_28 q39_28.2 s28.1 q39_28.1
      · refine J_iload (pc := 52) 4 dX13_readFirm_52 rfl ?_
        refine J_iload (pc := 54) 0 dX13_readFirm_54 rfl ?_
        refine JC_pt_i (J_callS (mi := mi_X13_readFirm) (mj := mi_X13_bit) (pc := 56) dX13_readFirm_56 ml_X13_249 ok_X13_bit os_X13_bit ⟨Nat.le_of_ble_eq_true rfl, Nat.le_of_ble_eq_true rfl⟩ rfl (s_X13_bit g q39_28.2 s28.1 q39_28.1) rfl (Nat.le_of_ble_eq_true rfl)) ?_
        refine K_ifeq_b (K := (fun x => Option.bind x k28)) (pc := 59) (tgt := 67) dX13_readFirm_59 (by decide) (fun z59 => ?_) (fun z59 => ?_)
        · refine J_loc (loc' := [(0, .ref 57), (1, .long (q13.1)), (3, .int (q19.1)), (4, .int s28.1), (5, .int q39_28.1)]) [1, 2, 3, 4, 0] rfl ?_
          exact hX13_readFirm_j67_28 q39_28.2 s28.1 q39_28.1
        · refine J_aload_n (pc := 62) 1 dX13_readFirm_62 rfl rfl ?_
          refine J_iconst (pc := 63) (v := 3) dX13_readFirm_63 (by decide) ?_
          refine JC_lt_v (K := (fun x => Option.bind x k28)) (J_callV (mi := mi_X13_readFirm) (mj := mi_X13_flaw) (pc := 64) dX13_readFirm_64 ml_X13_117 ok_X13_flaw ov_X13_flaw ⟨Nat.le_of_ble_eq_true rfl, Nat.le_of_ble_eq_true rfl⟩ rfl (h0.lt 57 (by decide)) (h0.ty 57 rfl) rfl (s_X13_flaw g q39_28.2 3 h0) rfl (Nat.le_of_ble_eq_true rfl)) (fun q64_28 eq64_28 => ?_)
          refine J_loc (loc' := [(0, .ref 57), (1, .long (q13.1)), (3, .int (q19.1)), (4, .int s28.1), (5, .int q39_28.1)]) [1, 2, 3, 4, 0] rfl ?_
          exact hX13_readFirm_j67_28 q64_28 s28.1 q39_28.1
  · show J mi_X13_readFirm 0 0 0 0 (g, e28.2) 83 [(0, .ref 57), (1, .long q13.1), (3, .int q19.1), (4, .int e28.1)] [] (_)
    refine J_aload_n (pc := 83) 0 dX13_readFirm_83 rfl rfl ?_
    refine J_getI (pc := 84) dX13_readFirm_84 fl_X13_74 (h0.lt 57 (by decide)) (h0.ty 57 rfl) rfl ?_
    refine J_iconst (pc := 87) (v := 5) dX13_readFirm_87 (by decide) ?_
    refine K_icmp_ne (K := (fun x => Option.bind x k)) (pc := 88) (tgt := 92) dX13_readFirm_88 (by decide) (fun z88 => ?_) (fun z88 => ?_)
    · refine J_aload_n (pc := 92) 0 dX13_readFirm_92 rfl rfl ?_
      refine J_lload_n (pc := 93) 1 dX13_readFirm_93 rfl rfl ?_
      refine J_iconst (pc := 94) (v := 1) dX13_readFirm_94 (by decide) ?_
      refine J_aload_n (pc := 95) 0 dX13_readFirm_95 rfl rfl ?_
      refine J_getR (pc := 96) dX13_readFirm_96 fl_X13_151 (h0.lt 57 (by decide)) (h0.ty 57 rfl) rfl hre ?_
      refine J_getI (pc := 99) dX13_readFirm_99 fl_X13_243 (hu.lt 0 (by decide)) (hu.ty 0 rfl) rfl ?_
      refine JC_pe_v (J_callV (mi := mi_X13_readFirm) (mj := mi_X13_names) (pc := 102) dX13_readFirm_102 ml_X13_240 ok_X13_names ov_X13_names ⟨Nat.le_of_ble_eq_true rfl, Nat.le_of_ble_eq_true rfl⟩ rfl (h0.lt 57 (by decide)) (h0.ty 57 rfl) rfl (s_X13_names g e28.2 u q13.1 1 ((e28.2.1 u) 3) h0 hu hre) rfl (Nat.le_of_ble_eq_true rfl)) (fun q102 => ?_)
      refine J_aload_n (pc := 105) 0 dX13_readFirm_105 rfl rfl ?_
      refine J_getR (pc := 106) dX13_readFirm_106 fl_X13_151 (h0.lt 57 (by decide)) (h0.ty 57 rfl) rfl hre ?_
      refine J_getR (pc := 109) dX13_readFirm_109 fl_X13_253 (hu.lt 0 (by decide)) (hu.ty 0 rfl) rfl (hu.rf 0 rfl) ?_
      refine J_aload_n (pc := 112) 0 dX13_readFirm_112 rfl rfl ?_
      refine J_getR (pc := 113) dX13_readFirm_113 fl_X13_151 (h0.lt 57 (by decide)) (h0.ty 57 rfl) rfl hre ?_
      refine J_getI (pc := 116) dX13_readFirm_116 fl_X13_243 (hu.lt 0 (by decide)) (hu.ty 0 rfl) rfl ?_
      refine J_iload_n (pc := 119) 2 dX13_readFirm_119 rfl rfl ?_
      refine J_guard (fun z120 => ?_)
      refine J_iast (pc := 120) dX13_readFirm_120 (hu.lt 1 (by decide)) (hu.ty 1 rfl) z120 ?_
      refine J_aload_n (pc := 121) 0 dX13_readFirm_121 rfl rfl ?_
      refine J_getR (pc := 122) dX13_readFirm_122 fl_X13_151 (h0.lt 57 (by decide)) (h0.ty 57 rfl) rfl hre ?_
      refine J_getR (pc := 125) dX13_readFirm_125 fl_X13_256 (hu.lt 0 (by decide)) (hu.ty 0 rfl) rfl (hu.rf 1 rfl) ?_
      refine J_aload_n (pc := 128) 0 dX13_readFirm_128 rfl rfl ?_
      refine J_getR (pc := 129) dX13_readFirm_129 fl_X13_151 (h0.lt 57 (by decide)) (h0.ty 57 rfl) rfl hre ?_
      refine J_getI (pc := 132) dX13_readFirm_132 fl_X13_243 (hu.lt 0 (by decide)) (hu.ty 0 rfl) rfl ?_
      refine J_val (y := (q102.1 u) 3) (by simp [j_sI, j_sL, upd, vp_updL]) ?_
      refine J_iload (pc := 135) 3 dX13_readFirm_135 rfl ?_
      refine J_guard (fun z137 => ?_)
      refine J_iast (pc := 137) dX13_readFirm_137 (hu.lt 2 (by decide)) (hu.ty 2 rfl) z137 ?_
      refine J_aload_n (pc := 138) 0 dX13_readFirm_138 rfl rfl ?_
      refine J_getR (pc := 139) dX13_readFirm_139 fl_X13_151 (h0.lt 57 (by decide)) (h0.ty 57 rfl) rfl hre ?_
      refine J_dup (pc := 142) dX13_readFirm_142 rfl ?_
      refine J_getI (pc := 143) dX13_readFirm_143 fl_X13_243 (hu.lt 0 (by decide)) (hu.ty 0 rfl) rfl ?_
      refine J_val (y := (q102.1 u) 3) (by simp [j_sI, j_sL, upd, vp_updL]) ?_
      refine J_iconst (pc := 146) (v := 1) dX13_readFirm_146 (by decide) ?_
      refine J_iadd (pc := 147) dX13_readFirm_147 ?_
      refine J_putI (pc := 148) dX13_readFirm_148 fl_X13_243 ft_11_3 (hu.lt 0 (by decide)) (hu.ty 0 rfl) rfl rfl rfl ?_
      exact J_eqo (hk (j_sI (j_sI (j_sI q102 (u + 1) (((q102.1 u) 3).toNatClampNeg) q19.1) (u + 2) (((q102.1 u) 3).toNatClampNeg) e28.1) u 3 (((q102.1 u) 3) + 1))) (J_vret (pc := 151) dX13_readFirm_151 rfl)
    · exact J_eqo (hk e28.2) (J_vret (pc := 91) dX13_readFirm_91 rfl)
def f_X13_readGate_j165 (u : Nat) (d165 : JD) (x1_165 : Int64) (x3_165 : Int32) (x4_165 : Int32) (x5_165 : Int32) (x6_165 : Int32) : Option (JD) := ((f_X13_goesOn d165).bind (fun q166 => if ((q166.1 57) 9) = 5 then (some q166) else ((f_X13_names u q166 x1_165 2 ((q166.1 u) 4)).bind (fun q192 => if j_out ((q166.1 u) 4) 6 then none else if j_out ((q166.1 u) 4) 6 then none else if j_out ((q166.1 u) 4) 6 then none else if j_out ((q166.1 u) 4) 6 then none else some (j_sI (j_sI (j_sI (j_sI (j_sI q192 (u + 3) (((q166.1 u) 4).toNatClampNeg) x3_165) (u + 4) (((q166.1 u) 4).toNatClampNeg) x4_165) (u + 5) (((q166.1 u) 4).toNatClampNeg) x5_165) (u + 6) (((q166.1 u) 4).toNatClampNeg) x6_165) u 4 (((q192.1 u) 4) + 1))))))
def f_X13_readGate_j152 (u : Nat) (d152 : JD) (x1_152 : Int64) (x3_152 : Int32) (x4_152 : Int32) (x5_152 : Int32) (y0_152 : Int32) : Option (JD) := (if y0_152 = (-1) then (j_let (f_X13_flaw d152 1) (fun q162 => f_X13_readGate_j165 u q162 x1_152 x3_152 x4_152 x5_152 y0_152)) else f_X13_readGate_j165 u d152 x1_152 x3_152 x4_152 x5_152 y0_152)
def f_X13_readGate_j86 (u : Nat) (d86 : JD) (x1_86 : Int64) (x3_86 : Int32) : Option (JD) := ((f_X13_goesOn d86).bind (fun q87 => (f_X13_readKnown u q87 1).bind (fun q92 => (f_X13_readPart q92.2 34 0 99).bind (fun q104 => (f_X13_isWord (q104.2.1 57) (q104.2.2 57) 35).bind (fun q113 => if q113 = true then (f_X13_readGate_j152 u q104.2 x1_86 x3_86 q92.1 q104.1 0) else ((f_X13_isWord (q104.2.1 57) (q104.2.2 57) 36).bind (fun q127 => if q127 = true then (f_X13_readGate_j152 u q104.2 x1_86 x3_86 q92.1 q104.1 1) else ((f_X13_isWord (q104.2.1 57) (q104.2.2 57) 37).bind (fun q141 => if q141 = true then (f_X13_readGate_j152 u q104.2 x1_86 x3_86 q92.1 q104.1 2) else (f_X13_readGate_j152 u q104.2 x1_86 x3_86 q92.1 q104.1 (-1)))))))))))
def f_X13_readGate_j75 (u : Nat) (d75 : JD) (x1_75 : Int64) (y0_75 : Int32) : Option (JD) := (if y0_75 = (-1) then (j_let (f_X13_flaw d75 1) (fun q83 => f_X13_readGate_j86 u q83 x1_75 y0_75)) else f_X13_readGate_j86 u d75 x1_75 y0_75)
def f_X13_readGate (u : Nat) (d : JD) : Option (JD) := ((f_X13_lineBegins u d ((d.1 u) 4) 6).bind (fun q10 => (f_X13_readFresh u q10).bind (fun q14 => (f_X13_isWord (q14.2.1 57) (q14.2.2 57) 30).bind (fun q22 => if q22 = true then (f_X13_readGate_j75 u q14.2 q14.1 0) else ((f_X13_isWord (q14.2.1 57) (q14.2.2 57) 31).bind (fun q36 => if q36 = true then (f_X13_readGate_j75 u q14.2 q14.1 1) else ((f_X13_isWord (q14.2.1 57) (q14.2.2 57) 32).bind (fun q50 => if q50 = true then (f_X13_readGate_j75 u q14.2 q14.1 2) else ((f_X13_isWord (q14.2.1 57) (q14.2.2 57) 33).bind (fun q64 => if q64 = true then (f_X13_readGate_j75 u q14.2 q14.1 3) else (f_X13_readGate_j75 u q14.2 q14.1 (-1))))))))))))
set_option maxRecDepth 100000 in
set_option maxHeartbeats 4000000 in
theorem s_X13_readGate (g : JG) (d : JD) (u : Nat) (h0 : j_sh g 0 TS_W RS_W) (hu : j_sh g u TS_ML RS_ML) (hre : g.2.2.1 57 4 = some u) : JM mi_X13_readGate 0 0 (g, d) [.ref 57] ((f_X13_readGate u d ).bind (fun r9 => some (none, (g, r9)))) := by
  refine JM_of (by decide) rfl (Nat.le_of_ble_eq_true rfl) ?_
  refine J_loc (loc' := [(0, .ref 57)]) [0] rfl ?_
  obtain ⟨k, hk, hk2⟩ : ∃ k : JD → Option (Option Value × JH), (∀ r9, k r9 = some (none, (g, r9))) ∧ (fun r9 : JD => (some (none, (g, r9)) : Option (Option Value × JH))) = k := ⟨_, fun _ => rfl, rfl⟩
  rw [hk2]
  unfold f_X13_readGate
  have hX13_readGate_j165 : ∀ (d165 : JD) (x1_165 : Int64) (x3_165 : Int32) (x4_165 : Int32) (x5_165 : Int32) (x6_165 : Int32), J mi_X13_readGate 0 0 0 0 (g, d165) 165 [(0, .ref 57), (1, .long x1_165), (3, .int x3_165), (4, .int x4_165), (5, .int x5_165), (6, .int x6_165)] [] ((f_X13_readGate_j165 u d165 x1_165 x3_165 x4_165 x5_165 x6_165).bind k) := by
    intro d165 x1_165 x3_165 x4_165 x5_165 x6_165
    unfold f_X13_readGate_j165
    refine J_aload_n (pc := 165) 0 dX13_readGate_165 rfl rfl ?_
    refine JC_pe_v (J_callV (mi := mi_X13_readGate) (mj := mi_X13_goesOn) (pc := 166) dX13_readGate_166 ml_X13_110 ok_X13_goesOn ov_X13_goesOn ⟨Nat.le_of_ble_eq_true rfl, Nat.le_of_ble_eq_true rfl⟩ rfl (h0.lt 57 (by decide)) (h0.ty 57 rfl) rfl (s_X13_goesOn g d165 h0) rfl (Nat.le_of_ble_eq_true rfl)) (fun q166 => ?_)
    refine J_aload_n (pc := 169) 0 dX13_readGate_169 rfl rfl ?_
    refine J_getI (pc := 170) dX13_readGate_170 fl_X13_74 (h0.lt 57 (by decide)) (h0.ty 57 rfl) rfl ?_
    refine J_iconst (pc := 173) (v := 5) dX13_readGate_173 (by decide) ?_
    refine K_icmp_ne (K := (fun x => Option.bind x k)) (pc := 174) (tgt := 178) dX13_readGate_174 (by decide) (fun z174 => ?_) (fun z174 => ?_)
    · refine J_aload_n (pc := 178) 0 dX13_readGate_178 rfl rfl ?_
      refine J_getR (pc := 179) dX13_readGate_179 fl_X13_151 (h0.lt 57 (by decide)) (h0.ty 57 rfl) rfl hre ?_
      refine J_getI (pc := 182) dX13_readGate_182 fl_X13_191 (hu.lt 0 (by decide)) (hu.ty 0 rfl) rfl ?_
      refine J_istore (pc := 185) (loc' := [(7, .int ((q166.1 u) 4)), (0, .ref 57), (1, .long x1_165), (3, .int x3_165), (4, .int x4_165), (5, .int x5_165), (6, .int x6_165)]) dX13_readGate_185 (by decide) rfl ?_
      refine J_aload_n (pc := 187) 1 dX13_readGate_187 rfl rfl ?_
      refine J_lload_n (pc := 188) 2 dX13_readGate_188 rfl rfl ?_
      refine J_iconst (pc := 189) (v := 2) dX13_readGate_189 (by decide) ?_
      refine J_iload (pc := 190) 0 dX13_readGate_190 rfl ?_
      refine JC_pe_v (J_callV (mi := mi_X13_readGate) (mj := mi_X13_names) (pc := 192) dX13_readGate_192 ml_X13_240 ok_X13_names ov_X13_names ⟨Nat.le_of_ble_eq_true rfl, Nat.le_of_ble_eq_true rfl⟩ rfl (h0.lt 57 (by decide)) (h0.ty 57 rfl) rfl (s_X13_names g q166 u x1_165 2 ((q166.1 u) 4) h0 hu hre) rfl (Nat.le_of_ble_eq_true rfl)) (fun q192 => ?_)
      refine J_aload_n (pc := 195) 1 dX13_readGate_195 rfl rfl ?_
      refine J_getR (pc := 196) dX13_readGate_196 fl_X13_151 (h0.lt 57 (by decide)) (h0.ty 57 rfl) rfl hre ?_
      refine J_getR (pc := 199) dX13_readGate_199 fl_X13_275 (hu.lt 0 (by decide)) (hu.ty 0 rfl) rfl (hu.rf 2 rfl) ?_
      refine J_iload (pc := 202) 0 dX13_readGate_202 rfl ?_
      refine J_iload_n (pc := 204) 3 dX13_readGate_204 rfl rfl ?_
      refine J_guard (fun z205 => ?_)
      refine J_iast (pc := 205) dX13_readGate_205 (hu.lt 3 (by decide)) (hu.ty 3 rfl) z205 ?_
      refine J_aload_n (pc := 206) 1 dX13_readGate_206 rfl rfl ?_
      refine J_getR (pc := 207) dX13_readGate_207 fl_X13_151 (h0.lt 57 (by decide)) (h0.ty 57 rfl) rfl hre ?_
      refine J_getR (pc := 210) dX13_readGate_210 fl_X13_278 (hu.lt 0 (by decide)) (hu.ty 0 rfl) rfl (hu.rf 3 rfl) ?_
      refine J_iload (pc := 213) 0 dX13_readGate_213 rfl ?_
      refine J_iload (pc := 215) 4 dX13_readGate_215 rfl ?_
      refine J_guard (fun z217 => ?_)
      refine J_iast (pc := 217) dX13_readGate_217 (hu.lt 4 (by decide)) (hu.ty 4 rfl) z217 ?_
      refine J_aload_n (pc := 218) 1 dX13_readGate_218 rfl rfl ?_
      refine J_getR (pc := 219) dX13_readGate_219 fl_X13_151 (h0.lt 57 (by decide)) (h0.ty 57 rfl) rfl hre ?_
      refine J_getR (pc := 222) dX13_readGate_222 fl_X13_280 (hu.lt 0 (by decide)) (hu.ty 0 rfl) rfl (hu.rf 4 rfl) ?_
      refine J_iload (pc := 225) 0 dX13_readGate_225 rfl ?_
      refine J_iload (pc := 227) 5 dX13_readGate_227 rfl ?_
      refine J_guard (fun z229 => ?_)
      refine J_iast (pc := 229) dX13_readGate_229 (hu.lt 5 (by decide)) (hu.ty 5 rfl) z229 ?_
      refine J_aload_n (pc := 230) 1 dX13_readGate_230 rfl rfl ?_
      refine J_getR (pc := 231) dX13_readGate_231 fl_X13_151 (h0.lt 57 (by decide)) (h0.ty 57 rfl) rfl hre ?_
      refine J_getR (pc := 234) dX13_readGate_234 fl_X13_282 (hu.lt 0 (by decide)) (hu.ty 0 rfl) rfl (hu.rf 5 rfl) ?_
      refine J_iload (pc := 237) 0 dX13_readGate_237 rfl ?_
      refine J_iload (pc := 239) 6 dX13_readGate_239 rfl ?_
      refine J_guard (fun z241 => ?_)
      refine J_iast (pc := 241) dX13_readGate_241 (hu.lt 6 (by decide)) (hu.ty 6 rfl) z241 ?_
      refine J_aload_n (pc := 242) 1 dX13_readGate_242 rfl rfl ?_
      refine J_getR (pc := 243) dX13_readGate_243 fl_X13_151 (h0.lt 57 (by decide)) (h0.ty 57 rfl) rfl hre ?_
      refine J_dup (pc := 246) dX13_readGate_246 rfl ?_
      refine J_getI (pc := 247) dX13_readGate_247 fl_X13_191 (hu.lt 0 (by decide)) (hu.ty 0 rfl) rfl ?_
      refine J_val (y := (q192.1 u) 4) (by simp [j_sI, j_sL, upd, vp_updL]) ?_
      refine J_iconst (pc := 250) (v := 1) dX13_readGate_250 (by decide) ?_
      refine J_iadd (pc := 251) dX13_readGate_251 ?_
      refine J_putI (pc := 252) dX13_readGate_252 fl_X13_191 ft_11_4 (hu.lt 0 (by decide)) (hu.ty 0 rfl) rfl rfl rfl ?_
      exact J_eqo (hk (j_sI (j_sI (j_sI (j_sI (j_sI q192 (u + 3) (((q166.1 u) 4).toNatClampNeg) x3_165) (u + 4) (((q166.1 u) 4).toNatClampNeg) x4_165) (u + 5) (((q166.1 u) 4).toNatClampNeg) x5_165) (u + 6) (((q166.1 u) 4).toNatClampNeg) x6_165) u 4 (((q192.1 u) 4) + 1))) (J_vret (pc := 255) dX13_readGate_255 rfl)
    · exact J_eqo (hk q166) (J_vret (pc := 177) dX13_readGate_177 rfl)
  have hX13_readGate_j152 : ∀ (d152 : JD) (x1_152 : Int64) (x3_152 : Int32) (x4_152 : Int32) (x5_152 : Int32) (y0_152 : Int32), J mi_X13_readGate 0 0 0 0 (g, d152) 152 [(0, .ref 57), (1, .long x1_152), (3, .int x3_152), (4, .int x4_152), (5, .int x5_152)] [.int y0_152] ((f_X13_readGate_j152 u d152 x1_152 x3_152 x4_152 x5_152 y0_152).bind k) := by
    intro d152 x1_152 x3_152 x4_152 x5_152 y0_152
    unfold f_X13_readGate_j152
    refine J_istore (pc := 152) (loc' := [(6, .int y0_152), (0, .ref 57), (1, .long x1_152), (3, .int x3_152), (4, .int x4_152), (5, .int x5_152)]) dX13_readGate_152 (by decide) rfl ?_
    refine J_iload (pc := 154) 0 dX13_readGate_154 rfl ?_
    refine J_iconst (pc := 156) (v := (-1)) dX13_readGate_156 (by decide) ?_
    refine K_icmp_ne (K := (fun x => Option.bind x k)) (pc := 157) (tgt := 165) dX13_readGate_157 (by decide) (fun z157 => ?_) (fun z157 => ?_)
    · refine J_loc (loc' := [(0, .ref 57), (1, .long x1_152), (3, .int x3_152), (4, .int x4_152), (5, .int x5_152), (6, .int y0_152)]) [1, 2, 3, 4, 5, 0] rfl ?_
      exact hX13_readGate_j165 d152 x1_152 x3_152 x4_152 x5_152 y0_152
    · refine J_aload_n (pc := 160) 1 dX13_readGate_160 rfl rfl ?_
      refine J_iconst (pc := 161) (v := 1) dX13_readGate_161 (by decide) ?_
      refine JC_lt_v (K := (fun x => Option.bind x k)) (J_callV (mi := mi_X13_readGate) (mj := mi_X13_flaw) (pc := 162) dX13_readGate_162 ml_X13_117 ok_X13_flaw ov_X13_flaw ⟨Nat.le_of_ble_eq_true rfl, Nat.le_of_ble_eq_true rfl⟩ rfl (h0.lt 57 (by decide)) (h0.ty 57 rfl) rfl (s_X13_flaw g d152 1 h0) rfl (Nat.le_of_ble_eq_true rfl)) (fun q162 eq162 => ?_)
      refine J_loc (loc' := [(0, .ref 57), (1, .long x1_152), (3, .int x3_152), (4, .int x4_152), (5, .int x5_152), (6, .int y0_152)]) [1, 2, 3, 4, 5, 0] rfl ?_
      exact hX13_readGate_j165 q162 x1_152 x3_152 x4_152 x5_152 y0_152
  have hX13_readGate_j86 : ∀ (d86 : JD) (x1_86 : Int64) (x3_86 : Int32), J mi_X13_readGate 0 0 0 0 (g, d86) 86 [(0, .ref 57), (1, .long x1_86), (3, .int x3_86)] [] ((f_X13_readGate_j86 u d86 x1_86 x3_86).bind k) := by
    intro d86 x1_86 x3_86
    unfold f_X13_readGate_j86
    refine J_aload_n (pc := 86) 0 dX13_readGate_86 rfl rfl ?_
    refine JC_pe_v (J_callV (mi := mi_X13_readGate) (mj := mi_X13_goesOn) (pc := 87) dX13_readGate_87 ml_X13_110 ok_X13_goesOn ov_X13_goesOn ⟨Nat.le_of_ble_eq_true rfl, Nat.le_of_ble_eq_true rfl⟩ rfl (h0.lt 57 (by decide)) (h0.ty 57 rfl) rfl (s_X13_goesOn g d86 h0) rfl (Nat.le_of_ble_eq_true rfl)) (fun q87 => ?_)
    refine J_aload_n (pc := 90) 0 dX13_readGate_90 rfl rfl ?_
    refine J_iconst (pc := 91) (v := 1) dX13_readGate_91 (by decide) ?_
    refine JC_pe_i (J_callV (mi := mi_X13_readGate) (mj := mi_X13_readKnown) (pc := 92) dX13_readGate_92 ml_X13_246 ok_X13_readKnown ov_X13_readKnown ⟨Nat.le_of_ble_eq_true rfl, Nat.le_of_ble_eq_true rfl⟩ rfl (h0.lt 57 (by decide)) (h0.ty 57 rfl) rfl (s_X13_readKnown g q87 u 1 h0 hu hre) rfl (Nat.le_of_ble_eq_true rfl)) (fun q92 => ?_)
    refine J_istore (pc := 95) (loc' := [(4, .int q92.1), (0, .ref 57), (1, .long x1_86), (3, .int x3_86)]) dX13_readGate_95 (by decide) rfl ?_
    refine J_aload_n (pc := 97) 1 dX13_readGate_97 rfl rfl ?_
    refine J_ldcSw (pc := 98) (k := 34) dX13_readGate_98 (by decide) ⟨rfl, rfl⟩ ?_
    refine J_iconst (pc := 101) (v := 0) dX13_readGate_101 (by decide) ?_
    refine J_bipush (pc := 102) (v := 99) dX13_readGate_102 (by decide) ?_
    refine JC_pe_i (J_callV (mi := mi_X13_readGate) (mj := mi_X13_readPart) (pc := 104) dX13_readGate_104 ml_X13_221 ok_X13_readPart ov_X13_readPart ⟨Nat.le_of_ble_eq_true rfl, Nat.le_of_ble_eq_true rfl⟩ rfl (h0.lt 57 (by decide)) (h0.ty 57 rfl) rfl (s_X13_readPart g q92.2 34 0 99 h0 (by decide)) rfl (Nat.le_of_ble_eq_true rfl)) (fun q104 => ?_)
    refine J_istore (pc := 107) (loc' := [(5, .int q104.1), (4, .int q92.1), (0, .ref 57), (1, .long x1_86), (3, .int x3_86)]) dX13_readGate_107 (by decide) rfl ?_
    refine J_aload_n (pc := 109) 2 dX13_readGate_109 rfl rfl ?_
    refine J_ldcSw (pc := 110) (k := 35) dX13_readGate_110 (by decide) ⟨rfl, rfl⟩ ?_
    refine JC_pp_b (J_callV (mi := mi_X13_readGate) (mj := mi_X13_isWord) (pc := 113) dX13_readGate_113 ml_X13_113 ok_X13_isWord ov_X13_isWord ⟨Nat.le_of_ble_eq_true rfl, Nat.le_of_ble_eq_true rfl⟩ rfl (h0.lt 57 (by decide)) (h0.ty 57 rfl) rfl (s_X13_isWord g q104.2 35 h0 (by decide)) rfl (Nat.le_of_ble_eq_true rfl)) (fun q113 => ?_)
    refine K_ifeq_b (K := (fun x => Option.bind x k)) (pc := 116) (tgt := 123) dX13_readGate_116 (by decide) (fun z116 => ?_) (fun z116 => ?_)
    · refine J_aload_n (pc := 123) 2 dX13_readGate_123 rfl rfl ?_
      refine J_ldcSw (pc := 124) (k := 36) dX13_readGate_124 (by decide) ⟨rfl, rfl⟩ ?_
      refine JC_pp_b (J_callV (mi := mi_X13_readGate) (mj := mi_X13_isWord) (pc := 127) dX13_readGate_127 ml_X13_113 ok_X13_isWord ov_X13_isWord ⟨Nat.le_of_ble_eq_true rfl, Nat.le_of_ble_eq_true rfl⟩ rfl (h0.lt 57 (by decide)) (h0.ty 57 rfl) rfl (s_X13_isWord g q104.2 36 h0 (by decide)) rfl (Nat.le_of_ble_eq_true rfl)) (fun q127 => ?_)
      refine K_ifeq_b (K := (fun x => Option.bind x k)) (pc := 130) (tgt := 137) dX13_readGate_130 (by decide) (fun z130 => ?_) (fun z130 => ?_)
      · refine J_aload_n (pc := 137) 2 dX13_readGate_137 rfl rfl ?_
        refine J_ldcSw (pc := 138) (k := 37) dX13_readGate_138 (by decide) ⟨rfl, rfl⟩ ?_
        refine JC_pp_b (J_callV (mi := mi_X13_readGate) (mj := mi_X13_isWord) (pc := 141) dX13_readGate_141 ml_X13_113 ok_X13_isWord ov_X13_isWord ⟨Nat.le_of_ble_eq_true rfl, Nat.le_of_ble_eq_true rfl⟩ rfl (h0.lt 57 (by decide)) (h0.ty 57 rfl) rfl (s_X13_isWord g q104.2 37 h0 (by decide)) rfl (Nat.le_of_ble_eq_true rfl)) (fun q141 => ?_)
        refine K_ifeq_b (K := (fun x => Option.bind x k)) (pc := 144) (tgt := 151) dX13_readGate_144 (by decide) (fun z144 => ?_) (fun z144 => ?_)
        · refine J_iconst (pc := 151) (v := (-1)) dX13_readGate_151 (by decide) ?_
          refine J_loc (loc' := [(0, .ref 57), (1, .long x1_86), (3, .int x3_86), (4, .int q92.1), (5, .int q104.1)]) [2, 3, 4, 1, 0] rfl ?_
          exact hX13_readGate_j152 q104.2 x1_86 x3_86 q92.1 q104.1 (-1)
        · refine J_iconst (pc := 147) (v := 2) dX13_readGate_147 (by decide) ?_
          refine J_goto (pc := 148) (tgt := 152) dX13_readGate_148 (by decide) ?_
          refine J_loc (loc' := [(0, .ref 57), (1, .long x1_86), (3, .int x3_86), (4, .int q92.1), (5, .int q104.1)]) [2, 3, 4, 1, 0] rfl ?_
          exact hX13_readGate_j152 q104.2 x1_86 x3_86 q92.1 q104.1 2
      · refine J_iconst (pc := 133) (v := 1) dX13_readGate_133 (by decide) ?_
        refine J_goto (pc := 134) (tgt := 152) dX13_readGate_134 (by decide) ?_
        refine J_loc (loc' := [(0, .ref 57), (1, .long x1_86), (3, .int x3_86), (4, .int q92.1), (5, .int q104.1)]) [2, 3, 4, 1, 0] rfl ?_
        exact hX13_readGate_j152 q104.2 x1_86 x3_86 q92.1 q104.1 1
    · refine J_iconst (pc := 119) (v := 0) dX13_readGate_119 (by decide) ?_
      refine J_goto (pc := 120) (tgt := 152) dX13_readGate_120 (by decide) ?_
      refine J_loc (loc' := [(0, .ref 57), (1, .long x1_86), (3, .int x3_86), (4, .int q92.1), (5, .int q104.1)]) [2, 3, 4, 1, 0] rfl ?_
      exact hX13_readGate_j152 q104.2 x1_86 x3_86 q92.1 q104.1 0
  have hX13_readGate_j75 : ∀ (d75 : JD) (x1_75 : Int64) (y0_75 : Int32), J mi_X13_readGate 0 0 0 0 (g, d75) 75 [(0, .ref 57), (1, .long x1_75)] [.int y0_75] ((f_X13_readGate_j75 u d75 x1_75 y0_75).bind k) := by
    intro d75 x1_75 y0_75
    unfold f_X13_readGate_j75
    refine J_istore_n (pc := 75) (loc' := [(3, .int y0_75), (0, .ref 57), (1, .long x1_75)]) dX13_readGate_75 rfl (by decide) rfl ?_
    refine J_iload_n (pc := 76) 0 dX13_readGate_76 rfl rfl ?_
    refine J_iconst (pc := 77) (v := (-1)) dX13_readGate_77 (by decide) ?_
    refine K_icmp_ne (K := (fun x => Option.bind x k)) (pc := 78) (tgt := 86) dX13_readGate_78 (by decide) (fun z78 => ?_) (fun z78 => ?_)
    · refine J_loc (loc' := [(0, .ref 57), (1, .long x1_75), (3, .int y0_75)]) [1, 2, 0] rfl ?_
      exact hX13_readGate_j86 d75 x1_75 y0_75
    · refine J_aload_n (pc := 81) 1 dX13_readGate_81 rfl rfl ?_
      refine J_iconst (pc := 82) (v := 1) dX13_readGate_82 (by decide) ?_
      refine JC_lt_v (K := (fun x => Option.bind x k)) (J_callV (mi := mi_X13_readGate) (mj := mi_X13_flaw) (pc := 83) dX13_readGate_83 ml_X13_117 ok_X13_flaw ov_X13_flaw ⟨Nat.le_of_ble_eq_true rfl, Nat.le_of_ble_eq_true rfl⟩ rfl (h0.lt 57 (by decide)) (h0.ty 57 rfl) rfl (s_X13_flaw g d75 1 h0) rfl (Nat.le_of_ble_eq_true rfl)) (fun q83 eq83 => ?_)
      refine J_loc (loc' := [(0, .ref 57), (1, .long x1_75), (3, .int y0_75)]) [1, 2, 0] rfl ?_
      exact hX13_readGate_j86 q83 x1_75 y0_75
  refine J_aload_n (pc := 0) 0 dX13_readGate_0 rfl rfl ?_
  refine J_aload_n (pc := 1) 0 dX13_readGate_1 rfl rfl ?_
  refine J_getR (pc := 2) dX13_readGate_2 fl_X13_151 (h0.lt 57 (by decide)) (h0.ty 57 rfl) rfl hre ?_
  refine J_getI (pc := 5) dX13_readGate_5 fl_X13_191 (hu.lt 0 (by decide)) (hu.ty 0 rfl) rfl ?_
  refine J_bipush (pc := 8) (v := 6) dX13_readGate_8 (by decide) ?_
  refine JC_pe_v (J_callV (mi := mi_X13_readGate) (mj := mi_X13_lineBegins) (pc := 10) dX13_readGate_10 ml_X13_232 ok_X13_lineBegins ov_X13_lineBegins ⟨Nat.le_of_ble_eq_true rfl, Nat.le_of_ble_eq_true rfl⟩ rfl (h0.lt 57 (by decide)) (h0.ty 57 rfl) rfl (s_X13_lineBegins g d u ((d.1 u) 4) 6 h0 hu hre) rfl (Nat.le_of_ble_eq_true rfl)) (fun q10 => ?_)
  refine J_aload_n (pc := 13) 0 dX13_readGate_13 rfl rfl ?_
  refine JC_pe_l (J_callV (mi := mi_X13_readGate) (mj := mi_X13_readFresh) (pc := 14) dX13_readGate_14 ml_X13_236 ok_X13_readFresh ov_X13_readFresh ⟨Nat.le_of_ble_eq_true rfl, Nat.le_of_ble_eq_true rfl⟩ rfl (h0.lt 57 (by decide)) (h0.ty 57 rfl) rfl (s_X13_readFresh g q10 u h0 hu hre) rfl (Nat.le_of_ble_eq_true rfl)) (fun q14 => ?_)
  refine J_lstore_n (pc := 17) (loc' := [(1, .long q14.1), (0, .ref 57)]) dX13_readGate_17 rfl (by decide) rfl ?_
  refine J_aload_n (pc := 18) 1 dX13_readGate_18 rfl rfl ?_
  refine J_ldcSw (pc := 19) (k := 30) dX13_readGate_19 (by decide) ⟨rfl, rfl⟩ ?_
  refine JC_pp_b (J_callV (mi := mi_X13_readGate) (mj := mi_X13_isWord) (pc := 22) dX13_readGate_22 ml_X13_113 ok_X13_isWord ov_X13_isWord ⟨Nat.le_of_ble_eq_true rfl, Nat.le_of_ble_eq_true rfl⟩ rfl (h0.lt 57 (by decide)) (h0.ty 57 rfl) rfl (s_X13_isWord g q14.2 30 h0 (by decide)) rfl (Nat.le_of_ble_eq_true rfl)) (fun q22 => ?_)
  refine K_ifeq_b (K := (fun x => Option.bind x k)) (pc := 25) (tgt := 32) dX13_readGate_25 (by decide) (fun z25 => ?_) (fun z25 => ?_)
  · refine J_aload_n (pc := 32) 1 dX13_readGate_32 rfl rfl ?_
    refine J_ldcSw (pc := 33) (k := 31) dX13_readGate_33 (by decide) ⟨rfl, rfl⟩ ?_
    refine JC_pp_b (J_callV (mi := mi_X13_readGate) (mj := mi_X13_isWord) (pc := 36) dX13_readGate_36 ml_X13_113 ok_X13_isWord ov_X13_isWord ⟨Nat.le_of_ble_eq_true rfl, Nat.le_of_ble_eq_true rfl⟩ rfl (h0.lt 57 (by decide)) (h0.ty 57 rfl) rfl (s_X13_isWord g q14.2 31 h0 (by decide)) rfl (Nat.le_of_ble_eq_true rfl)) (fun q36 => ?_)
    refine K_ifeq_b (K := (fun x => Option.bind x k)) (pc := 39) (tgt := 46) dX13_readGate_39 (by decide) (fun z39 => ?_) (fun z39 => ?_)
    · refine J_aload_n (pc := 46) 1 dX13_readGate_46 rfl rfl ?_
      refine J_ldcSw (pc := 47) (k := 32) dX13_readGate_47 (by decide) ⟨rfl, rfl⟩ ?_
      refine JC_pp_b (J_callV (mi := mi_X13_readGate) (mj := mi_X13_isWord) (pc := 50) dX13_readGate_50 ml_X13_113 ok_X13_isWord ov_X13_isWord ⟨Nat.le_of_ble_eq_true rfl, Nat.le_of_ble_eq_true rfl⟩ rfl (h0.lt 57 (by decide)) (h0.ty 57 rfl) rfl (s_X13_isWord g q14.2 32 h0 (by decide)) rfl (Nat.le_of_ble_eq_true rfl)) (fun q50 => ?_)
      refine K_ifeq_b (K := (fun x => Option.bind x k)) (pc := 53) (tgt := 60) dX13_readGate_53 (by decide) (fun z53 => ?_) (fun z53 => ?_)
      · refine J_aload_n (pc := 60) 1 dX13_readGate_60 rfl rfl ?_
        refine J_ldcSw (pc := 61) (k := 33) dX13_readGate_61 (by decide) ⟨rfl, rfl⟩ ?_
        refine JC_pp_b (J_callV (mi := mi_X13_readGate) (mj := mi_X13_isWord) (pc := 64) dX13_readGate_64 ml_X13_113 ok_X13_isWord ov_X13_isWord ⟨Nat.le_of_ble_eq_true rfl, Nat.le_of_ble_eq_true rfl⟩ rfl (h0.lt 57 (by decide)) (h0.ty 57 rfl) rfl (s_X13_isWord g q14.2 33 h0 (by decide)) rfl (Nat.le_of_ble_eq_true rfl)) (fun q64 => ?_)
        refine K_ifeq_b (K := (fun x => Option.bind x k)) (pc := 67) (tgt := 74) dX13_readGate_67 (by decide) (fun z67 => ?_) (fun z67 => ?_)
        · refine J_iconst (pc := 74) (v := (-1)) dX13_readGate_74 (by decide) ?_
          refine J_loc (loc' := [(0, .ref 57), (1, .long q14.1)]) [1, 0] rfl ?_
          exact hX13_readGate_j75 q14.2 q14.1 (-1)
        · refine J_iconst (pc := 70) (v := 3) dX13_readGate_70 (by decide) ?_
          refine J_goto (pc := 71) (tgt := 75) dX13_readGate_71 (by decide) ?_
          refine J_loc (loc' := [(0, .ref 57), (1, .long q14.1)]) [1, 0] rfl ?_
          exact hX13_readGate_j75 q14.2 q14.1 3
      · refine J_iconst (pc := 56) (v := 2) dX13_readGate_56 (by decide) ?_
        refine J_goto (pc := 57) (tgt := 75) dX13_readGate_57 (by decide) ?_
        refine J_loc (loc' := [(0, .ref 57), (1, .long q14.1)]) [1, 0] rfl ?_
        exact hX13_readGate_j75 q14.2 q14.1 2
    · refine J_iconst (pc := 42) (v := 1) dX13_readGate_42 (by decide) ?_
      refine J_goto (pc := 43) (tgt := 75) dX13_readGate_43 (by decide) ?_
      refine J_loc (loc' := [(0, .ref 57), (1, .long q14.1)]) [1, 0] rfl ?_
      exact hX13_readGate_j75 q14.2 q14.1 1
  · refine J_iconst (pc := 28) (v := 0) dX13_readGate_28 (by decide) ?_
    refine J_goto (pc := 29) (tgt := 75) dX13_readGate_29 (by decide) ?_
    refine J_loc (loc' := [(0, .ref 57), (1, .long q14.1)]) [1, 0] rfl ?_
    exact hX13_readGate_j75 q14.2 q14.1 0
def f_X13_readPath_j59 (u : Nat) (d59 : JD) (x1_59 : Int32) (x2_59 : Int32) : Option (JD) := ((f_X13_goesOn d59).bind (fun q60 => if ((q60.1 57) 9) = 5 then (some q60) else (if j_out x1_59 6 then none else if j_out x1_59 6 then none else if j_out x2_59 6 then none else if j_out x2_59 6 then none else some (j_sI (j_sI (j_sI q60 (u + 7) x1_59.toNatClampNeg (((q60.1 (u + 7)) x1_59.toNatClampNeg) ||| ((1 : Int32) <<< (x2_59 &&& 31)))) (u + 7) x2_59.toNatClampNeg ((((j_sI q60 (u + 7) x1_59.toNatClampNeg (((q60.1 (u + 7)) x1_59.toNatClampNeg) ||| ((1 : Int32) <<< (x2_59 &&& 31)))).1 (u + 7)) x2_59.toNatClampNeg) ||| ((1 : Int32) <<< (x1_59 &&& 31)))) u 5 (((q60.1 u) 5) + 1)))))
def f_X13_readPath_j54 (u : Nat) (d54 : JD) (x1_54 : Int32) (x2_54 : Int32) : Option (JD) := (j_let (f_X13_flaw d54 3) (fun q56 => f_X13_readPath_j59 u q56 x1_54 x2_54))
def f_X13_readPath (u : Nat) (d : JD) : Option (JD) := ((f_X13_lineBegins u d ((d.1 u) 5) 8).bind (fun q10 => (f_X13_readKnown u q10 2).bind (fun q15 => (f_X13_knownOne u q15.2 2).bind (fun q21 => if ((q21.2.1 57) 9) = 5 then f_X13_readPath_j59 u q21.2 q15.1 q21.1 else (if q15.1 = q21.1 then f_X13_readPath_j54 u q21.2 q15.1 q21.1 else (if j_out q15.1 6 then none else if (f_X13_bit ((q21.2.1 (u + 7)) q15.1.toNatClampNeg) q21.1) = true then f_X13_readPath_j54 u q21.2 q15.1 q21.1 else f_X13_readPath_j59 u q21.2 q15.1 q21.1))))))
set_option maxRecDepth 100000 in
set_option maxHeartbeats 4000000 in
theorem s_X13_readPath (g : JG) (d : JD) (u : Nat) (h0 : j_sh g 0 TS_W RS_W) (hu : j_sh g u TS_ML RS_ML) (hre : g.2.2.1 57 4 = some u) : JM mi_X13_readPath 0 0 (g, d) [.ref 57] ((f_X13_readPath u d ).bind (fun r9 => some (none, (g, r9)))) := by
  refine JM_of (by decide) rfl (Nat.le_of_ble_eq_true rfl) ?_
  refine J_loc (loc' := [(0, .ref 57)]) [0] rfl ?_
  obtain ⟨k, hk, hk2⟩ : ∃ k : JD → Option (Option Value × JH), (∀ r9, k r9 = some (none, (g, r9))) ∧ (fun r9 : JD => (some (none, (g, r9)) : Option (Option Value × JH))) = k := ⟨_, fun _ => rfl, rfl⟩
  rw [hk2]
  unfold f_X13_readPath
  have hX13_readPath_j59 : ∀ (d59 : JD) (x1_59 : Int32) (x2_59 : Int32), J mi_X13_readPath 0 0 0 0 (g, d59) 59 [(0, .ref 57), (1, .int x1_59), (2, .int x2_59)] [] ((f_X13_readPath_j59 u d59 x1_59 x2_59).bind k) := by
    intro d59 x1_59 x2_59
    unfold f_X13_readPath_j59
    refine J_aload_n (pc := 59) 0 dX13_readPath_59 rfl rfl ?_
    refine JC_pe_v (J_callV (mi := mi_X13_readPath) (mj := mi_X13_goesOn) (pc := 60) dX13_readPath_60 ml_X13_110 ok_X13_goesOn ov_X13_goesOn ⟨Nat.le_of_ble_eq_true rfl, Nat.le_of_ble_eq_true rfl⟩ rfl (h0.lt 57 (by decide)) (h0.ty 57 rfl) rfl (s_X13_goesOn g d59 h0) rfl (Nat.le_of_ble_eq_true rfl)) (fun q60 => ?_)
    refine J_aload_n (pc := 63) 0 dX13_readPath_63 rfl rfl ?_
    refine J_getI (pc := 64) dX13_readPath_64 fl_X13_74 (h0.lt 57 (by decide)) (h0.ty 57 rfl) rfl ?_
    refine J_iconst (pc := 67) (v := 5) dX13_readPath_67 (by decide) ?_
    refine K_icmp_ne (K := (fun x => Option.bind x k)) (pc := 68) (tgt := 72) dX13_readPath_68 (by decide) (fun z68 => ?_) (fun z68 => ?_)
    · refine J_aload_n (pc := 72) 0 dX13_readPath_72 rfl rfl ?_
      refine J_getR (pc := 73) dX13_readPath_73 fl_X13_151 (h0.lt 57 (by decide)) (h0.ty 57 rfl) rfl hre ?_
      refine J_getR (pc := 76) dX13_readPath_76 fl_X13_288 (hu.lt 0 (by decide)) (hu.ty 0 rfl) rfl (hu.rf 6 rfl) ?_
      refine J_iload_n (pc := 79) 1 dX13_readPath_79 rfl rfl ?_
      refine J_dup2 (pc := 80) dX13_readPath_80 rfl rfl ?_
      refine J_guard (fun z81 => ?_)
      refine J_iald (pc := 81) dX13_readPath_81 (hu.lt 7 (by decide)) (hu.ty 7 rfl) z81 ?_
      refine J_iconst (pc := 82) (v := 1) dX13_readPath_82 (by decide) ?_
      refine J_iload_n (pc := 83) 2 dX13_readPath_83 rfl rfl ?_
      refine J_ishl (pc := 84) dX13_readPath_84 ?_
      refine J_ior (pc := 85) dX13_readPath_85 ?_
      refine J_guard (fun z86 => ?_)
      refine J_iast (pc := 86) dX13_readPath_86 (hu.lt 7 (by decide)) (hu.ty 7 rfl) z86 ?_
      refine J_aload_n (pc := 87) 0 dX13_readPath_87 rfl rfl ?_
      refine J_getR (pc := 88) dX13_readPath_88 fl_X13_151 (h0.lt 57 (by decide)) (h0.ty 57 rfl) rfl hre ?_
      refine J_getR (pc := 91) dX13_readPath_91 fl_X13_288 (hu.lt 0 (by decide)) (hu.ty 0 rfl) rfl (hu.rf 6 rfl) ?_
      refine J_iload_n (pc := 94) 2 dX13_readPath_94 rfl rfl ?_
      refine J_dup2 (pc := 95) dX13_readPath_95 rfl rfl ?_
      refine J_guard (fun z96 => ?_)
      refine J_iald (pc := 96) dX13_readPath_96 (hu.lt 7 (by decide)) (hu.ty 7 rfl) z96 ?_
      refine J_iconst (pc := 97) (v := 1) dX13_readPath_97 (by decide) ?_
      refine J_iload_n (pc := 98) 1 dX13_readPath_98 rfl rfl ?_
      refine J_ishl (pc := 99) dX13_readPath_99 ?_
      refine J_ior (pc := 100) dX13_readPath_100 ?_
      refine J_guard (fun z101 => ?_)
      refine J_iast (pc := 101) dX13_readPath_101 (hu.lt 7 (by decide)) (hu.ty 7 rfl) z101 ?_
      refine J_aload_n (pc := 102) 0 dX13_readPath_102 rfl rfl ?_
      refine J_getR (pc := 103) dX13_readPath_103 fl_X13_151 (h0.lt 57 (by decide)) (h0.ty 57 rfl) rfl hre ?_
      refine J_dup (pc := 106) dX13_readPath_106 rfl ?_
      refine J_getI (pc := 107) dX13_readPath_107 fl_X13_285 (hu.lt 0 (by decide)) (hu.ty 0 rfl) rfl ?_
      refine J_val (y := (q60.1 u) 5) (by simp [j_sI, j_sL, upd, vp_updL]) ?_
      refine J_iconst (pc := 110) (v := 1) dX13_readPath_110 (by decide) ?_
      refine J_iadd (pc := 111) dX13_readPath_111 ?_
      refine J_putI (pc := 112) dX13_readPath_112 fl_X13_285 ft_11_5 (hu.lt 0 (by decide)) (hu.ty 0 rfl) rfl rfl rfl ?_
      exact J_eqo (hk (j_sI (j_sI (j_sI q60 (u + 7) x1_59.toNatClampNeg (((q60.1 (u + 7)) x1_59.toNatClampNeg) ||| ((1 : Int32) <<< (x2_59 &&& 31)))) (u + 7) x2_59.toNatClampNeg ((((j_sI q60 (u + 7) x1_59.toNatClampNeg (((q60.1 (u + 7)) x1_59.toNatClampNeg) ||| ((1 : Int32) <<< (x2_59 &&& 31)))).1 (u + 7)) x2_59.toNatClampNeg) ||| ((1 : Int32) <<< (x1_59 &&& 31)))) u 5 (((q60.1 u) 5) + 1))) (J_vret (pc := 115) dX13_readPath_115 rfl)
    · exact J_eqo (hk q60) (J_vret (pc := 71) dX13_readPath_71 rfl)
  have hX13_readPath_j54 : ∀ (d54 : JD) (x1_54 : Int32) (x2_54 : Int32), J mi_X13_readPath 0 0 0 0 (g, d54) 54 [(0, .ref 57), (1, .int x1_54), (2, .int x2_54)] [] ((f_X13_readPath_j54 u d54 x1_54 x2_54).bind k) := by
    intro d54 x1_54 x2_54
    unfold f_X13_readPath_j54
    refine J_aload_n (pc := 54) 0 dX13_readPath_54 rfl rfl ?_
    refine J_iconst (pc := 55) (v := 3) dX13_readPath_55 (by decide) ?_
    refine JC_lt_v (K := (fun x => Option.bind x k)) (J_callV (mi := mi_X13_readPath) (mj := mi_X13_flaw) (pc := 56) dX13_readPath_56 ml_X13_117 ok_X13_flaw ov_X13_flaw ⟨Nat.le_of_ble_eq_true rfl, Nat.le_of_ble_eq_true rfl⟩ rfl (h0.lt 57 (by decide)) (h0.ty 57 rfl) rfl (s_X13_flaw g d54 3 h0) rfl (Nat.le_of_ble_eq_true rfl)) (fun q56 eq56 => ?_)
    exact hX13_readPath_j59 q56 x1_54 x2_54
  refine J_aload_n (pc := 0) 0 dX13_readPath_0 rfl rfl ?_
  refine J_aload_n (pc := 1) 0 dX13_readPath_1 rfl rfl ?_
  refine J_getR (pc := 2) dX13_readPath_2 fl_X13_151 (h0.lt 57 (by decide)) (h0.ty 57 rfl) rfl hre ?_
  refine J_getI (pc := 5) dX13_readPath_5 fl_X13_285 (hu.lt 0 (by decide)) (hu.ty 0 rfl) rfl ?_
  refine J_bipush (pc := 8) (v := 8) dX13_readPath_8 (by decide) ?_
  refine JC_pe_v (J_callV (mi := mi_X13_readPath) (mj := mi_X13_lineBegins) (pc := 10) dX13_readPath_10 ml_X13_232 ok_X13_lineBegins ov_X13_lineBegins ⟨Nat.le_of_ble_eq_true rfl, Nat.le_of_ble_eq_true rfl⟩ rfl (h0.lt 57 (by decide)) (h0.ty 57 rfl) rfl (s_X13_lineBegins g d u ((d.1 u) 5) 8 h0 hu hre) rfl (Nat.le_of_ble_eq_true rfl)) (fun q10 => ?_)
  refine J_aload_n (pc := 13) 0 dX13_readPath_13 rfl rfl ?_
  refine J_iconst (pc := 14) (v := 2) dX13_readPath_14 (by decide) ?_
  refine JC_pe_i (J_callV (mi := mi_X13_readPath) (mj := mi_X13_readKnown) (pc := 15) dX13_readPath_15 ml_X13_246 ok_X13_readKnown ov_X13_readKnown ⟨Nat.le_of_ble_eq_true rfl, Nat.le_of_ble_eq_true rfl⟩ rfl (h0.lt 57 (by decide)) (h0.ty 57 rfl) rfl (s_X13_readKnown g q10 u 2 h0 hu hre) rfl (Nat.le_of_ble_eq_true rfl)) (fun q15 => ?_)
  refine J_istore_n (pc := 18) (loc' := [(1, .int q15.1), (0, .ref 57)]) dX13_readPath_18 rfl (by decide) rfl ?_
  refine J_aload_n (pc := 19) 1 dX13_readPath_19 rfl rfl ?_
  refine J_iconst (pc := 20) (v := 2) dX13_readPath_20 (by decide) ?_
  refine JC_pe_i (J_callV (mi := mi_X13_readPath) (mj := mi_X13_knownOne) (pc := 21) dX13_readPath_21 ml_X13_181 ok_X13_knownOne ov_X13_knownOne ⟨Nat.le_of_ble_eq_true rfl, Nat.le_of_ble_eq_true rfl⟩ rfl (h0.lt 57 (by decide)) (h0.ty 57 rfl) rfl (s_X13_knownOne g q15.2 u 2 h0 hu hre) rfl (Nat.le_of_ble_eq_true rfl)) (fun q21 => ?_)
  refine J_istore_n (pc := 24) (loc' := [(2, .int q21.1), (1, .int q15.1), (0, .ref 57)]) dX13_readPath_24 rfl (by decide) rfl ?_
  refine J_aload_n (pc := 25) 2 dX13_readPath_25 rfl rfl ?_
  refine J_getI (pc := 26) dX13_readPath_26 fl_X13_74 (h0.lt 57 (by decide)) (h0.ty 57 rfl) rfl ?_
  refine J_iconst (pc := 29) (v := 5) dX13_readPath_29 (by decide) ?_
  refine K_icmp_eq (K := (fun x => Option.bind x k)) (pc := 30) (tgt := 59) dX13_readPath_30 (by decide) (fun z30 => ?_) (fun z30 => ?_)
  · refine J_loc (loc' := [(0, .ref 57), (1, .int q15.1), (2, .int q21.1)]) [2, 1, 0] rfl ?_
    exact hX13_readPath_j59 q21.2 q15.1 q21.1
  · refine J_iload_n (pc := 33) 1 dX13_readPath_33 rfl rfl ?_
    refine J_iload_n (pc := 34) 0 dX13_readPath_34 rfl rfl ?_
    refine K_icmp_eq (K := (fun x => Option.bind x k)) (pc := 35) (tgt := 54) dX13_readPath_35 (by decide) (fun z35 => ?_) (fun z35 => ?_)
    · refine J_loc (loc' := [(0, .ref 57), (1, .int q15.1), (2, .int q21.1)]) [2, 1, 0] rfl ?_
      exact hX13_readPath_j54 q21.2 q15.1 q21.1
    · refine J_aload_n (pc := 38) 2 dX13_readPath_38 rfl rfl ?_
      refine J_getR (pc := 39) dX13_readPath_39 fl_X13_151 (h0.lt 57 (by decide)) (h0.ty 57 rfl) rfl hre ?_
      refine J_getR (pc := 42) dX13_readPath_42 fl_X13_288 (hu.lt 0 (by decide)) (hu.ty 0 rfl) rfl (hu.rf 6 rfl) ?_
      refine J_iload_n (pc := 45) 1 dX13_readPath_45 rfl rfl ?_
      refine J_guard (fun z46 => ?_)
      refine J_iald (pc := 46) dX13_readPath_46 (hu.lt 7 (by decide)) (hu.ty 7 rfl) z46 ?_
      refine J_iload_n (pc := 47) 0 dX13_readPath_47 rfl rfl ?_
      refine JC_pt_i (J_callS (mi := mi_X13_readPath) (mj := mi_X13_bit) (pc := 48) dX13_readPath_48 ml_X13_249 ok_X13_bit os_X13_bit ⟨Nat.le_of_ble_eq_true rfl, Nat.le_of_ble_eq_true rfl⟩ rfl (s_X13_bit g q21.2 ((q21.2.1 (u + 7)) q15.1.toNatClampNeg) q21.1) rfl (Nat.le_of_ble_eq_true rfl)) ?_
      refine K_ifeq_b (K := (fun x => Option.bind x k)) (pc := 51) (tgt := 59) dX13_readPath_51 (by decide) (fun z51 => ?_) (fun z51 => ?_)
      · refine J_loc (loc' := [(0, .ref 57), (1, .int q15.1), (2, .int q21.1)]) [2, 1, 0] rfl ?_
        exact hX13_readPath_j59 q21.2 q15.1 q21.1
      · refine J_loc (loc' := [(0, .ref 57), (1, .int q15.1), (2, .int q21.1)]) [2, 1, 0] rfl ?_
        exact hX13_readPath_j54 q21.2 q15.1 q21.1
def f_X13_readWants_j90 (u : Nat) (d90 : JD) : Option (JD) := (some (j_sI d90 u 6 (((d90.1 u) 6) + 1)))
def f_X13_readWants (u : Nat) (d : JD) (pq0 : Int32) : Option (JD) := ((f_X13_lineBegins u d ((d.1 u) 6) 4).bind (fun q9 => (f_X13_readKnown u q9 0).bind (fun q14 => (f_X13_readKnown u q14.2 2).bind (fun q20 => if ((q20.2.1 57) 9) = 5 then (some q20.2) else (if j_out ((q20.2.1 u) 6) 4 then none else if j_out ((q20.2.1 u) 6) 4 then none else if pq0 = 0 then f_X13_readWants_j90 u (j_sI (j_sI q20.2 (u + 8) (((q20.2.1 u) 6).toNatClampNeg) q14.1) (u + 9) (((q20.2.1 u) 6).toNatClampNeg) q20.1) else (f_X13_readWants_j90 u (j_sI (j_sI (j_sI q20.2 (u + 8) (((q20.2.1 u) 6).toNatClampNeg) q14.1) (u + 9) (((q20.2.1 u) 6).toNatClampNeg) q20.1) u 21 (((q20.2.1 u) 21) ||| ((1 : Int32) <<< (((q20.2.1 u) 6) &&& 31)))) ))))))
set_option maxRecDepth 100000 in
set_option maxHeartbeats 4000000 in
theorem s_X13_readWants (g : JG) (d : JD) (u : Nat) (pq0 : Int32) (h0 : j_sh g 0 TS_W RS_W) (hu : j_sh g u TS_ML RS_ML) (hre : g.2.2.1 57 4 = some u) : JM mi_X13_readWants 0 0 (g, d) [.ref 57, .int pq0] ((f_X13_readWants u d pq0).bind (fun r9 => some (none, (g, r9)))) := by
  refine JM_of (by decide) rfl (Nat.le_of_ble_eq_true rfl) ?_
  refine J_loc (loc' := [(0, .ref 57), (1, .int pq0)]) [0, 1] rfl ?_
  obtain ⟨k, hk, hk2⟩ : ∃ k : JD → Option (Option Value × JH), (∀ r9, k r9 = some (none, (g, r9))) ∧ (fun r9 : JD => (some (none, (g, r9)) : Option (Option Value × JH))) = k := ⟨_, fun _ => rfl, rfl⟩
  rw [hk2]
  unfold f_X13_readWants
  have hX13_readWants_j90 : ∀ (d90 : JD) , J mi_X13_readWants 0 0 0 0 (g, d90) 90 [(0, .ref 57)] [] ((f_X13_readWants_j90 u d90 ).bind k) := by
    intro d90 
    unfold f_X13_readWants_j90
    refine J_aload_n (pc := 90) 0 dX13_readWants_90 rfl rfl ?_
    refine J_getR (pc := 91) dX13_readWants_91 fl_X13_151 (h0.lt 57 (by decide)) (h0.ty 57 rfl) rfl hre ?_
    refine J_dup (pc := 94) dX13_readWants_94 rfl ?_
    refine J_getI (pc := 95) dX13_readWants_95 fl_X13_291 (hu.lt 0 (by decide)) (hu.ty 0 rfl) rfl ?_
    refine J_iconst (pc := 98) (v := 1) dX13_readWants_98 (by decide) ?_
    refine J_iadd (pc := 99) dX13_readWants_99 ?_
    refine J_putI (pc := 100) dX13_readWants_100 fl_X13_291 ft_11_6 (hu.lt 0 (by decide)) (hu.ty 0 rfl) rfl rfl rfl ?_
    exact J_eqo (hk (j_sI d90 u 6 (((d90.1 u) 6) + 1))) (J_vret (pc := 103) dX13_readWants_103 rfl)
  refine J_aload_n (pc := 0) 0 dX13_readWants_0 rfl rfl ?_
  refine J_aload_n (pc := 1) 0 dX13_readWants_1 rfl rfl ?_
  refine J_getR (pc := 2) dX13_readWants_2 fl_X13_151 (h0.lt 57 (by decide)) (h0.ty 57 rfl) rfl hre ?_
  refine J_getI (pc := 5) dX13_readWants_5 fl_X13_291 (hu.lt 0 (by decide)) (hu.ty 0 rfl) rfl ?_
  refine J_iconst (pc := 8) (v := 4) dX13_readWants_8 (by decide) ?_
  refine JC_pe_v (J_callV (mi := mi_X13_readWants) (mj := mi_X13_lineBegins) (pc := 9) dX13_readWants_9 ml_X13_232 ok_X13_lineBegins ov_X13_lineBegins ⟨Nat.le_of_ble_eq_true rfl, Nat.le_of_ble_eq_true rfl⟩ rfl (h0.lt 57 (by decide)) (h0.ty 57 rfl) rfl (s_X13_lineBegins g d u ((d.1 u) 6) 4 h0 hu hre) rfl (Nat.le_of_ble_eq_true rfl)) (fun q9 => ?_)
  refine J_aload_n (pc := 12) 0 dX13_readWants_12 rfl rfl ?_
  refine J_iconst (pc := 13) (v := 0) dX13_readWants_13 (by decide) ?_
  refine JC_pe_i (J_callV (mi := mi_X13_readWants) (mj := mi_X13_readKnown) (pc := 14) dX13_readWants_14 ml_X13_246 ok_X13_readKnown ov_X13_readKnown ⟨Nat.le_of_ble_eq_true rfl, Nat.le_of_ble_eq_true rfl⟩ rfl (h0.lt 57 (by decide)) (h0.ty 57 rfl) rfl (s_X13_readKnown g q9 u 0 h0 hu hre) rfl (Nat.le_of_ble_eq_true rfl)) (fun q14 => ?_)
  refine J_istore_n (pc := 17) (loc' := [(2, .int q14.1), (0, .ref 57), (1, .int pq0)]) dX13_readWants_17 rfl (by decide) rfl ?_
  refine J_aload_n (pc := 18) 1 dX13_readWants_18 rfl rfl ?_
  refine J_iconst (pc := 19) (v := 2) dX13_readWants_19 (by decide) ?_
  refine JC_pe_i (J_callV (mi := mi_X13_readWants) (mj := mi_X13_readKnown) (pc := 20) dX13_readWants_20 ml_X13_246 ok_X13_readKnown ov_X13_readKnown ⟨Nat.le_of_ble_eq_true rfl, Nat.le_of_ble_eq_true rfl⟩ rfl (h0.lt 57 (by decide)) (h0.ty 57 rfl) rfl (s_X13_readKnown g q14.2 u 2 h0 hu hre) rfl (Nat.le_of_ble_eq_true rfl)) (fun q20 => ?_)
  refine J_istore_n (pc := 23) (loc' := [(3, .int q20.1), (2, .int q14.1), (0, .ref 57), (1, .int pq0)]) dX13_readWants_23 rfl (by decide) rfl ?_
  refine J_aload_n (pc := 24) 2 dX13_readWants_24 rfl rfl ?_
  refine J_getI (pc := 25) dX13_readWants_25 fl_X13_74 (h0.lt 57 (by decide)) (h0.ty 57 rfl) rfl ?_
  refine J_iconst (pc := 28) (v := 5) dX13_readWants_28 (by decide) ?_
  refine K_icmp_ne (K := (fun x => Option.bind x k)) (pc := 29) (tgt := 33) dX13_readWants_29 (by decide) (fun z29 => ?_) (fun z29 => ?_)
  · refine J_aload_n (pc := 33) 2 dX13_readWants_33 rfl rfl ?_
    refine J_getR (pc := 34) dX13_readWants_34 fl_X13_151 (h0.lt 57 (by decide)) (h0.ty 57 rfl) rfl hre ?_
    refine J_getR (pc := 37) dX13_readWants_37 fl_X13_293 (hu.lt 0 (by decide)) (hu.ty 0 rfl) rfl (hu.rf 7 rfl) ?_
    refine J_aload_n (pc := 40) 2 dX13_readWants_40 rfl rfl ?_
    refine J_getR (pc := 41) dX13_readWants_41 fl_X13_151 (h0.lt 57 (by decide)) (h0.ty 57 rfl) rfl hre ?_
    refine J_getI (pc := 44) dX13_readWants_44 fl_X13_291 (hu.lt 0 (by decide)) (hu.ty 0 rfl) rfl ?_
    refine J_iload_n (pc := 47) 1 dX13_readWants_47 rfl rfl ?_
    refine J_guard (fun z48 => ?_)
    refine J_iast (pc := 48) dX13_readWants_48 (hu.lt 8 (by decide)) (hu.ty 8 rfl) z48 ?_
    refine J_aload_n (pc := 49) 2 dX13_readWants_49 rfl rfl ?_
    refine J_getR (pc := 50) dX13_readWants_50 fl_X13_151 (h0.lt 57 (by decide)) (h0.ty 57 rfl) rfl hre ?_
    refine J_getR (pc := 53) dX13_readWants_53 fl_X13_296 (hu.lt 0 (by decide)) (hu.ty 0 rfl) rfl (hu.rf 8 rfl) ?_
    refine J_aload_n (pc := 56) 2 dX13_readWants_56 rfl rfl ?_
    refine J_getR (pc := 57) dX13_readWants_57 fl_X13_151 (h0.lt 57 (by decide)) (h0.ty 57 rfl) rfl hre ?_
    refine J_getI (pc := 60) dX13_readWants_60 fl_X13_291 (hu.lt 0 (by decide)) (hu.ty 0 rfl) rfl ?_
    refine J_val (y := (q20.2.1 u) 6) (by simp [j_sI, j_sL, upd, vp_updL]) ?_
    refine J_iload_n (pc := 63) 0 dX13_readWants_63 rfl rfl ?_
    refine J_guard (fun z64 => ?_)
    refine J_iast (pc := 64) dX13_readWants_64 (hu.lt 9 (by decide)) (hu.ty 9 rfl) z64 ?_
    refine J_iload_n (pc := 65) 3 dX13_readWants_65 rfl rfl ?_
    refine K_if_eq (K := (fun x => Option.bind x k)) (pc := 66) (tgt := 90) dX13_readWants_66 (by decide) (fun z66 => ?_) (fun z66 => ?_)
    · refine J_loc (loc' := [(0, .ref 57)]) [2] rfl ?_
      exact hX13_readWants_j90 (j_sI (j_sI q20.2 (u + 8) (((q20.2.1 u) 6).toNatClampNeg) q14.1) (u + 9) (((q20.2.1 u) 6).toNatClampNeg) q20.1) 
    · refine J_aload_n (pc := 69) 2 dX13_readWants_69 rfl rfl ?_
      refine J_getR (pc := 70) dX13_readWants_70 fl_X13_151 (h0.lt 57 (by decide)) (h0.ty 57 rfl) rfl hre ?_
      refine J_dup (pc := 73) dX13_readWants_73 rfl ?_
      refine J_getI (pc := 74) dX13_readWants_74 fl_X13_299 (hu.lt 0 (by decide)) (hu.ty 0 rfl) rfl ?_
      refine J_val (y := (q20.2.1 u) 21) (by simp [j_sI, j_sL, upd, vp_updL]) ?_
      refine J_iconst (pc := 77) (v := 1) dX13_readWants_77 (by decide) ?_
      refine J_aload_n (pc := 78) 2 dX13_readWants_78 rfl rfl ?_
      refine J_getR (pc := 79) dX13_readWants_79 fl_X13_151 (h0.lt 57 (by decide)) (h0.ty 57 rfl) rfl hre ?_
      refine J_getI (pc := 82) dX13_readWants_82 fl_X13_291 (hu.lt 0 (by decide)) (hu.ty 0 rfl) rfl ?_
      refine J_val (y := (q20.2.1 u) 6) (by simp [j_sI, j_sL, upd, vp_updL]) ?_
      refine J_ishl (pc := 85) dX13_readWants_85 ?_
      refine J_ior (pc := 86) dX13_readWants_86 ?_
      refine J_putI (pc := 87) dX13_readWants_87 fl_X13_299 ft_11_21 (hu.lt 0 (by decide)) (hu.ty 0 rfl) rfl rfl rfl ?_
      refine J_loc (loc' := [(0, .ref 57)]) [2] rfl ?_
      exact hX13_readWants_j90 (j_sI (j_sI (j_sI q20.2 (u + 8) (((q20.2.1 u) 6).toNatClampNeg) q14.1) (u + 9) (((q20.2.1 u) 6).toNatClampNeg) q20.1) u 21 (((q20.2.1 u) 21) ||| ((1 : Int32) <<< (((q20.2.1 u) 6) &&& 31)))) 
  · exact J_eqo (hk q20.2) (J_vret (pc := 32) dX13_readWants_32 rfl)
def f_X13_readLost_j42 (u : Nat) (d42 : JD) (x1_42 : Int32) : Option (JD) := ((f_X13_goesOn d42).bind (fun q43 => if ((q43.1 57) 9) = 5 then (some q43) else (if j_out ((q43.1 u) 7) 4 then none else some (j_sI (j_sI q43 (u + 10) (((q43.1 u) 7).toNatClampNeg) x1_42) u 7 (((q43.1 u) 7) + 1)))))
def f_X13_readLost (u : Nat) (d : JD) : Option (JD) := ((f_X13_lineBegins u d ((d.1 u) 7) 4).bind (fun q9 => (f_X13_knownOne u q9 2).bind (fun q14 => if ((q14.2.1 57) 9) = 5 then f_X13_readLost_j42 u q14.2 q14.1 else ((f_X12_isLost (q14.2.1 u) (q14.2.1 (u + 10)) q14.1).bind (fun q31 => if q31 = true then (j_let (f_X13_flaw q14.2 3) (fun q39 => f_X13_readLost_j42 u q39 q14.1)) else f_X13_readLost_j42 u q14.2 q14.1)))))
set_option maxRecDepth 100000 in
set_option maxHeartbeats 4000000 in
theorem s_X13_readLost (g : JG) (d : JD) (u : Nat) (h0 : j_sh g 0 TS_W RS_W) (hu : j_sh g u TS_ML RS_ML) (hre : g.2.2.1 57 4 = some u) : JM mi_X13_readLost 0 0 (g, d) [.ref 57] ((f_X13_readLost u d ).bind (fun r9 => some (none, (g, r9)))) := by
  refine JM_of (by decide) rfl (Nat.le_of_ble_eq_true rfl) ?_
  refine J_loc (loc' := [(0, .ref 57)]) [0] rfl ?_
  obtain ⟨k, hk, hk2⟩ : ∃ k : JD → Option (Option Value × JH), (∀ r9, k r9 = some (none, (g, r9))) ∧ (fun r9 : JD => (some (none, (g, r9)) : Option (Option Value × JH))) = k := ⟨_, fun _ => rfl, rfl⟩
  rw [hk2]
  unfold f_X13_readLost
  have hX13_readLost_j42 : ∀ (d42 : JD) (x1_42 : Int32), J mi_X13_readLost 0 0 0 0 (g, d42) 42 [(0, .ref 57), (1, .int x1_42)] [] ((f_X13_readLost_j42 u d42 x1_42).bind k) := by
    intro d42 x1_42
    unfold f_X13_readLost_j42
    refine J_aload_n (pc := 42) 0 dX13_readLost_42 rfl rfl ?_
    refine JC_pe_v (J_callV (mi := mi_X13_readLost) (mj := mi_X13_goesOn) (pc := 43) dX13_readLost_43 ml_X13_110 ok_X13_goesOn ov_X13_goesOn ⟨Nat.le_of_ble_eq_true rfl, Nat.le_of_ble_eq_true rfl⟩ rfl (h0.lt 57 (by decide)) (h0.ty 57 rfl) rfl (s_X13_goesOn g d42 h0) rfl (Nat.le_of_ble_eq_true rfl)) (fun q43 => ?_)
    refine J_aload_n (pc := 46) 0 dX13_readLost_46 rfl rfl ?_
    refine J_getI (pc := 47) dX13_readLost_47 fl_X13_74 (h0.lt 57 (by decide)) (h0.ty 57 rfl) rfl ?_
    refine J_iconst (pc := 50) (v := 5) dX13_readLost_50 (by decide) ?_
    refine K_icmp_ne (K := (fun x => Option.bind x k)) (pc := 51) (tgt := 55) dX13_readLost_51 (by decide) (fun z51 => ?_) (fun z51 => ?_)
    · refine J_aload_n (pc := 55) 0 dX13_readLost_55 rfl rfl ?_
      refine J_getR (pc := 56) dX13_readLost_56 fl_X13_151 (h0.lt 57 (by decide)) (h0.ty 57 rfl) rfl hre ?_
      refine J_getR (pc := 59) dX13_readLost_59 fl_X13_307 (hu.lt 0 (by decide)) (hu.ty 0 rfl) rfl (hu.rf 9 rfl) ?_
      refine J_aload_n (pc := 62) 0 dX13_readLost_62 rfl rfl ?_
      refine J_getR (pc := 63) dX13_readLost_63 fl_X13_151 (h0.lt 57 (by decide)) (h0.ty 57 rfl) rfl hre ?_
      refine J_getI (pc := 66) dX13_readLost_66 fl_X13_301 (hu.lt 0 (by decide)) (hu.ty 0 rfl) rfl ?_
      refine J_iload_n (pc := 69) 1 dX13_readLost_69 rfl rfl ?_
      refine J_guard (fun z70 => ?_)
      refine J_iast (pc := 70) dX13_readLost_70 (hu.lt 10 (by decide)) (hu.ty 10 rfl) z70 ?_
      refine J_aload_n (pc := 71) 0 dX13_readLost_71 rfl rfl ?_
      refine J_getR (pc := 72) dX13_readLost_72 fl_X13_151 (h0.lt 57 (by decide)) (h0.ty 57 rfl) rfl hre ?_
      refine J_dup (pc := 75) dX13_readLost_75 rfl ?_
      refine J_getI (pc := 76) dX13_readLost_76 fl_X13_301 (hu.lt 0 (by decide)) (hu.ty 0 rfl) rfl ?_
      refine J_val (y := (q43.1 u) 7) (by simp [j_sI, j_sL, upd, vp_updL]) ?_
      refine J_iconst (pc := 79) (v := 1) dX13_readLost_79 (by decide) ?_
      refine J_iadd (pc := 80) dX13_readLost_80 ?_
      refine J_putI (pc := 81) dX13_readLost_81 fl_X13_301 ft_11_7 (hu.lt 0 (by decide)) (hu.ty 0 rfl) rfl rfl rfl ?_
      exact J_eqo (hk (j_sI (j_sI q43 (u + 10) (((q43.1 u) 7).toNatClampNeg) x1_42) u 7 (((q43.1 u) 7) + 1))) (J_vret (pc := 84) dX13_readLost_84 rfl)
    · exact J_eqo (hk q43) (J_vret (pc := 54) dX13_readLost_54 rfl)
  refine J_aload_n (pc := 0) 0 dX13_readLost_0 rfl rfl ?_
  refine J_aload_n (pc := 1) 0 dX13_readLost_1 rfl rfl ?_
  refine J_getR (pc := 2) dX13_readLost_2 fl_X13_151 (h0.lt 57 (by decide)) (h0.ty 57 rfl) rfl hre ?_
  refine J_getI (pc := 5) dX13_readLost_5 fl_X13_301 (hu.lt 0 (by decide)) (hu.ty 0 rfl) rfl ?_
  refine J_iconst (pc := 8) (v := 4) dX13_readLost_8 (by decide) ?_
  refine JC_pe_v (J_callV (mi := mi_X13_readLost) (mj := mi_X13_lineBegins) (pc := 9) dX13_readLost_9 ml_X13_232 ok_X13_lineBegins ov_X13_lineBegins ⟨Nat.le_of_ble_eq_true rfl, Nat.le_of_ble_eq_true rfl⟩ rfl (h0.lt 57 (by decide)) (h0.ty 57 rfl) rfl (s_X13_lineBegins g d u ((d.1 u) 7) 4 h0 hu hre) rfl (Nat.le_of_ble_eq_true rfl)) (fun q9 => ?_)
  refine J_aload_n (pc := 12) 0 dX13_readLost_12 rfl rfl ?_
  refine J_iconst (pc := 13) (v := 2) dX13_readLost_13 (by decide) ?_
  refine JC_pe_i (J_callV (mi := mi_X13_readLost) (mj := mi_X13_knownOne) (pc := 14) dX13_readLost_14 ml_X13_181 ok_X13_knownOne ov_X13_knownOne ⟨Nat.le_of_ble_eq_true rfl, Nat.le_of_ble_eq_true rfl⟩ rfl (h0.lt 57 (by decide)) (h0.ty 57 rfl) rfl (s_X13_knownOne g q9 u 2 h0 hu hre) rfl (Nat.le_of_ble_eq_true rfl)) (fun q14 => ?_)
  refine J_istore_n (pc := 17) (loc' := [(1, .int q14.1), (0, .ref 57)]) dX13_readLost_17 rfl (by decide) rfl ?_
  refine J_aload_n (pc := 18) 1 dX13_readLost_18 rfl rfl ?_
  refine J_getI (pc := 19) dX13_readLost_19 fl_X13_74 (h0.lt 57 (by decide)) (h0.ty 57 rfl) rfl ?_
  refine J_iconst (pc := 22) (v := 5) dX13_readLost_22 (by decide) ?_
  refine K_icmp_eq (K := (fun x => Option.bind x k)) (pc := 23) (tgt := 42) dX13_readLost_23 (by decide) (fun z23 => ?_) (fun z23 => ?_)
  · refine J_loc (loc' := [(0, .ref 57), (1, .int q14.1)]) [1, 0] rfl ?_
    exact hX13_readLost_j42 q14.2 q14.1
  · refine J_aload_n (pc := 26) 1 dX13_readLost_26 rfl rfl ?_
    refine J_getR (pc := 27) dX13_readLost_27 fl_X13_151 (h0.lt 57 (by decide)) (h0.ty 57 rfl) rfl hre ?_
    refine J_iload_n (pc := 30) 0 dX13_readLost_30 rfl rfl ?_
    refine JC_pp_b (J_callV (mi := mi_X13_readLost) (mj := mi_X12_isLost) (pc := 31) dX13_readLost_31 ml_X13_304 ok_X12_isLost ov_X12_isLost ⟨Nat.le_of_ble_eq_true rfl, Nat.le_of_ble_eq_true rfl⟩ rfl (hu.lt 0 (by decide)) (hu.ty 0 rfl) rfl (s_X12_isLost g q14.2 u q14.1 hu) rfl (Nat.le_of_ble_eq_true rfl)) (fun q31 => ?_)
    refine K_ifeq_b (K := (fun x => Option.bind x k)) (pc := 34) (tgt := 42) dX13_readLost_34 (by decide) (fun z34 => ?_) (fun z34 => ?_)
    · refine J_loc (loc' := [(0, .ref 57), (1, .int q14.1)]) [1, 0] rfl ?_
      exact hX13_readLost_j42 q14.2 q14.1
    · refine J_aload_n (pc := 37) 1 dX13_readLost_37 rfl rfl ?_
      refine J_iconst (pc := 38) (v := 3) dX13_readLost_38 (by decide) ?_
      refine JC_lt_v (K := (fun x => Option.bind x k)) (J_callV (mi := mi_X13_readLost) (mj := mi_X13_flaw) (pc := 39) dX13_readLost_39 ml_X13_117 ok_X13_flaw ov_X13_flaw ⟨Nat.le_of_ble_eq_true rfl, Nat.le_of_ble_eq_true rfl⟩ rfl (h0.lt 57 (by decide)) (h0.ty 57 rfl) rfl (s_X13_flaw g q14.2 3 h0) rfl (Nat.le_of_ble_eq_true rfl)) (fun q39 eq39 => ?_)
      refine J_loc (loc' := [(0, .ref 57), (1, .int q14.1)]) [1, 0] rfl ?_
      exact hX13_readLost_j42 q39 q14.1
def f_X13_readHad_j38 (u : Nat) (d38 : JD) (x1_38 : Int32) : Option (JD) := ((f_X13_goesOn d38).bind (fun q39 => (f_X13_readWhole q39 0 599).bind (fun q47 => if ((q47.2.1 57) 9) = 5 then (some q47.2) else (if j_out x1_38 5 then none else some (j_sI (j_sI q47.2 (u + 11) x1_38.toNatClampNeg q47.1) u 8 (((q47.2.1 u) 8) + 1))))))
def f_X13_readHad (u : Nat) (d : JD) : Option (JD) := ((f_X13_lineBegins u d 0 1).bind (fun q3 => (f_X13_knownOne u q3 0).bind (fun q8 => if ((q8.2.1 57) 9) = 5 then f_X13_readHad_j38 u q8.2 q8.1 else (if j_out q8.1 5 then none else if ((q8.2.1 (u + 11)) q8.1.toNatClampNeg) = (-1) then f_X13_readHad_j38 u q8.2 q8.1 else (j_let (f_X13_flaw q8.2 3) (fun q35 => f_X13_readHad_j38 u q35 q8.1))))))
set_option maxRecDepth 100000 in
set_option maxHeartbeats 4000000 in
theorem s_X13_readHad (g : JG) (d : JD) (u : Nat) (h0 : j_sh g 0 TS_W RS_W) (hu : j_sh g u TS_ML RS_ML) (hre : g.2.2.1 57 4 = some u) : JM mi_X13_readHad 0 0 (g, d) [.ref 57] ((f_X13_readHad u d ).bind (fun r9 => some (none, (g, r9)))) := by
  refine JM_of (by decide) rfl (Nat.le_of_ble_eq_true rfl) ?_
  refine J_loc (loc' := [(0, .ref 57)]) [0] rfl ?_
  obtain ⟨k, hk, hk2⟩ : ∃ k : JD → Option (Option Value × JH), (∀ r9, k r9 = some (none, (g, r9))) ∧ (fun r9 : JD => (some (none, (g, r9)) : Option (Option Value × JH))) = k := ⟨_, fun _ => rfl, rfl⟩
  rw [hk2]
  unfold f_X13_readHad
  have hX13_readHad_j38 : ∀ (d38 : JD) (x1_38 : Int32), J mi_X13_readHad 0 0 0 0 (g, d38) 38 [(0, .ref 57), (1, .int x1_38)] [] ((f_X13_readHad_j38 u d38 x1_38).bind k) := by
    intro d38 x1_38
    unfold f_X13_readHad_j38
    refine J_aload_n (pc := 38) 0 dX13_readHad_38 rfl rfl ?_
    refine JC_pe_v (J_callV (mi := mi_X13_readHad) (mj := mi_X13_goesOn) (pc := 39) dX13_readHad_39 ml_X13_110 ok_X13_goesOn ov_X13_goesOn ⟨Nat.le_of_ble_eq_true rfl, Nat.le_of_ble_eq_true rfl⟩ rfl (h0.lt 57 (by decide)) (h0.ty 57 rfl) rfl (s_X13_goesOn g d38 h0) rfl (Nat.le_of_ble_eq_true rfl)) (fun q39 => ?_)
    refine J_aload_n (pc := 42) 0 dX13_readHad_42 rfl rfl ?_
    refine J_iconst (pc := 43) (v := 0) dX13_readHad_43 (by decide) ?_
    refine J_sipush (pc := 44) (v := 599) dX13_readHad_44 (by decide) ?_
    refine JC_pe_i (J_callV (mi := mi_X13_readHad) (mj := mi_X13_readWhole) (pc := 47) dX13_readHad_47 ml_X13_129 ok_X13_readWhole ov_X13_readWhole ⟨Nat.le_of_ble_eq_true rfl, Nat.le_of_ble_eq_true rfl⟩ rfl (h0.lt 57 (by decide)) (h0.ty 57 rfl) rfl (s_X13_readWhole g q39 0 599 h0) rfl (Nat.le_of_ble_eq_true rfl)) (fun q47 => ?_)
    refine J_istore_n (pc := 50) (loc' := [(2, .int q47.1), (0, .ref 57), (1, .int x1_38)]) dX13_readHad_50 rfl (by decide) rfl ?_
    refine J_aload_n (pc := 51) 1 dX13_readHad_51 rfl rfl ?_
    refine J_getI (pc := 52) dX13_readHad_52 fl_X13_74 (h0.lt 57 (by decide)) (h0.ty 57 rfl) rfl ?_
    refine J_iconst (pc := 55) (v := 5) dX13_readHad_55 (by decide) ?_
    refine K_icmp_ne (K := (fun x => Option.bind x k)) (pc := 56) (tgt := 60) dX13_readHad_56 (by decide) (fun z56 => ?_) (fun z56 => ?_)
    · refine J_aload_n (pc := 60) 1 dX13_readHad_60 rfl rfl ?_
      refine J_getR (pc := 61) dX13_readHad_61 fl_X13_151 (h0.lt 57 (by decide)) (h0.ty 57 rfl) rfl hre ?_
      refine J_getR (pc := 64) dX13_readHad_64 fl_X13_309 (hu.lt 0 (by decide)) (hu.ty 0 rfl) rfl (hu.rf 10 rfl) ?_
      refine J_iload_n (pc := 67) 2 dX13_readHad_67 rfl rfl ?_
      refine J_iload_n (pc := 68) 0 dX13_readHad_68 rfl rfl ?_
      refine J_guard (fun z69 => ?_)
      refine J_iast (pc := 69) dX13_readHad_69 (hu.lt 11 (by decide)) (hu.ty 11 rfl) z69 ?_
      refine J_aload_n (pc := 70) 1 dX13_readHad_70 rfl rfl ?_
      refine J_getR (pc := 71) dX13_readHad_71 fl_X13_151 (h0.lt 57 (by decide)) (h0.ty 57 rfl) rfl hre ?_
      refine J_dup (pc := 74) dX13_readHad_74 rfl ?_
      refine J_getI (pc := 75) dX13_readHad_75 fl_X13_311 (hu.lt 0 (by decide)) (hu.ty 0 rfl) rfl ?_
      refine J_val (y := (q47.2.1 u) 8) (by simp [j_sI, j_sL, upd, vp_updL]) ?_
      refine J_iconst (pc := 78) (v := 1) dX13_readHad_78 (by decide) ?_
      refine J_iadd (pc := 79) dX13_readHad_79 ?_
      refine J_putI (pc := 80) dX13_readHad_80 fl_X13_311 ft_11_8 (hu.lt 0 (by decide)) (hu.ty 0 rfl) rfl rfl rfl ?_
      exact J_eqo (hk (j_sI (j_sI q47.2 (u + 11) x1_38.toNatClampNeg q47.1) u 8 (((q47.2.1 u) 8) + 1))) (J_vret (pc := 83) dX13_readHad_83 rfl)
    · exact J_eqo (hk q47.2) (J_vret (pc := 59) dX13_readHad_59 rfl)
  refine J_aload_n (pc := 0) 0 dX13_readHad_0 rfl rfl ?_
  refine J_iconst (pc := 1) (v := 0) dX13_readHad_1 (by decide) ?_
  refine J_iconst (pc := 2) (v := 1) dX13_readHad_2 (by decide) ?_
  refine JC_pe_v (J_callV (mi := mi_X13_readHad) (mj := mi_X13_lineBegins) (pc := 3) dX13_readHad_3 ml_X13_232 ok_X13_lineBegins ov_X13_lineBegins ⟨Nat.le_of_ble_eq_true rfl, Nat.le_of_ble_eq_true rfl⟩ rfl (h0.lt 57 (by decide)) (h0.ty 57 rfl) rfl (s_X13_lineBegins g d u 0 1 h0 hu hre) rfl (Nat.le_of_ble_eq_true rfl)) (fun q3 => ?_)
  refine J_aload_n (pc := 6) 0 dX13_readHad_6 rfl rfl ?_
  refine J_iconst (pc := 7) (v := 0) dX13_readHad_7 (by decide) ?_
  refine JC_pe_i (J_callV (mi := mi_X13_readHad) (mj := mi_X13_knownOne) (pc := 8) dX13_readHad_8 ml_X13_181 ok_X13_knownOne ov_X13_knownOne ⟨Nat.le_of_ble_eq_true rfl, Nat.le_of_ble_eq_true rfl⟩ rfl (h0.lt 57 (by decide)) (h0.ty 57 rfl) rfl (s_X13_knownOne g q3 u 0 h0 hu hre) rfl (Nat.le_of_ble_eq_true rfl)) (fun q8 => ?_)
  refine J_istore_n (pc := 11) (loc' := [(1, .int q8.1), (0, .ref 57)]) dX13_readHad_11 rfl (by decide) rfl ?_
  refine J_aload_n (pc := 12) 1 dX13_readHad_12 rfl rfl ?_
  refine J_getI (pc := 13) dX13_readHad_13 fl_X13_74 (h0.lt 57 (by decide)) (h0.ty 57 rfl) rfl ?_
  refine J_iconst (pc := 16) (v := 5) dX13_readHad_16 (by decide) ?_
  refine K_icmp_eq (K := (fun x => Option.bind x k)) (pc := 17) (tgt := 38) dX13_readHad_17 (by decide) (fun z17 => ?_) (fun z17 => ?_)
  · refine J_loc (loc' := [(0, .ref 57), (1, .int q8.1)]) [1, 0] rfl ?_
    exact hX13_readHad_j38 q8.2 q8.1
  · refine J_aload_n (pc := 20) 1 dX13_readHad_20 rfl rfl ?_
    refine J_getR (pc := 21) dX13_readHad_21 fl_X13_151 (h0.lt 57 (by decide)) (h0.ty 57 rfl) rfl hre ?_
    refine J_getR (pc := 24) dX13_readHad_24 fl_X13_309 (hu.lt 0 (by decide)) (hu.ty 0 rfl) rfl (hu.rf 10 rfl) ?_
    refine J_iload_n (pc := 27) 0 dX13_readHad_27 rfl rfl ?_
    refine J_guard (fun z28 => ?_)
    refine J_iald (pc := 28) dX13_readHad_28 (hu.lt 11 (by decide)) (hu.ty 11 rfl) z28 ?_
    refine J_iconst (pc := 29) (v := (-1)) dX13_readHad_29 (by decide) ?_
    refine K_icmp_eq (K := (fun x => Option.bind x k)) (pc := 30) (tgt := 38) dX13_readHad_30 (by decide) (fun z30 => ?_) (fun z30 => ?_)
    · refine J_loc (loc' := [(0, .ref 57), (1, .int q8.1)]) [1, 0] rfl ?_
      exact hX13_readHad_j38 q8.2 q8.1
    · refine J_aload_n (pc := 33) 1 dX13_readHad_33 rfl rfl ?_
      refine J_iconst (pc := 34) (v := 3) dX13_readHad_34 (by decide) ?_
      refine JC_lt_v (K := (fun x => Option.bind x k)) (J_callV (mi := mi_X13_readHad) (mj := mi_X13_flaw) (pc := 35) dX13_readHad_35 ml_X13_117 ok_X13_flaw ov_X13_flaw ⟨Nat.le_of_ble_eq_true rfl, Nat.le_of_ble_eq_true rfl⟩ rfl (h0.lt 57 (by decide)) (h0.ty 57 rfl) rfl (s_X13_flaw g q8.2 3 h0) rfl (Nat.le_of_ble_eq_true rfl)) (fun q35 eq35 => ?_)
      refine J_loc (loc' := [(0, .ref 57), (1, .int q8.1)]) [1, 0] rfl ?_
      exact hX13_readHad_j38 q35 q8.1
def f_X13_readLine (u : Nat) (d : JD) : Option (JD) := ((f_X13_isWord (d.1 57) (d.2 57) 19).bind (fun q3 => if q3 = true then ((f_X13_readLand u d).bind (fun q10 => some q10)) else ((f_X13_isWord (d.1 57) (d.2 57) 22).bind (fun q19 => if q19 = true then ((f_X13_readPerson u d).bind (fun q26 => some q26)) else ((f_X13_isWord (d.1 57) (d.2 57) 23).bind (fun q35 => if q35 = true then ((f_X13_readFirm u d).bind (fun q42 => some q42)) else ((f_X13_isWord (d.1 57) (d.2 57) 24).bind (fun q51 => if q51 = true then ((f_X13_readGate u d).bind (fun q58 => some q58)) else ((f_X13_isWord (d.1 57) (d.2 57) 25).bind (fun q67 => if q67 = true then ((f_X13_readPath u d).bind (fun q74 => some q74)) else ((f_X13_isWord (d.1 57) (d.2 57) 26).bind (fun q83 => if q83 = true then ((f_X13_readWants u d 0).bind (fun q91 => some q91)) else ((f_X13_isWord (d.1 57) (d.2 57) 27).bind (fun q100 => if q100 = true then ((f_X13_readWants u d 1).bind (fun q108 => some q108)) else ((f_X13_isWord (d.1 57) (d.2 57) 28).bind (fun q117 => if q117 = true then ((f_X13_readLost u d).bind (fun q124 => some q124)) else ((f_X13_isWord (d.1 57) (d.2 57) 29).bind (fun q133 => if q133 = true then ((f_X13_readHad u d).bind (fun q140 => some q140)) else (j_let (f_X13_flaw d 1) (fun q148 => some q148))))))))))))))))))))
set_option maxRecDepth 100000 in
set_option maxHeartbeats 4000000 in
theorem s_X13_readLine (g : JG) (d : JD) (u : Nat) (h0 : j_sh g 0 TS_W RS_W) (hu : j_sh g u TS_ML RS_ML) (hre : g.2.2.1 57 4 = some u) : JM mi_X13_readLine 0 0 (g, d) [.ref 57] ((f_X13_readLine u d ).bind (fun r9 => some (none, (g, r9)))) := by
  refine JM_of (by decide) rfl (Nat.le_of_ble_eq_true rfl) ?_
  refine J_loc (loc' := [(0, .ref 57)]) [0] rfl ?_
  obtain ⟨k, hk, hk2⟩ : ∃ k : JD → Option (Option Value × JH), (∀ r9, k r9 = some (none, (g, r9))) ∧ (fun r9 : JD => (some (none, (g, r9)) : Option (Option Value × JH))) = k := ⟨_, fun _ => rfl, rfl⟩
  rw [hk2]
  unfold f_X13_readLine
  refine J_aload_n (pc := 0) 0 dX13_readLine_0 rfl rfl ?_
  refine J_ldcS (pc := 1) (k := 19) dX13_readLine_1 (by decide) ⟨rfl, rfl⟩ ?_
  refine JC_pp_b (J_callV (mi := mi_X13_readLine) (mj := mi_X13_isWord) (pc := 3) dX13_readLine_3 ml_X13_113 ok_X13_isWord ov_X13_isWord ⟨Nat.le_of_ble_eq_true rfl, Nat.le_of_ble_eq_true rfl⟩ rfl (h0.lt 57 (by decide)) (h0.ty 57 rfl) rfl (s_X13_isWord g d 19 h0 (by decide)) rfl (Nat.le_of_ble_eq_true rfl)) (fun q3 => ?_)
  refine K_ifeq_b (K := (fun x => Option.bind x k)) (pc := 6) (tgt := 16) dX13_readLine_6 (by decide) (fun z6 => ?_) (fun z6 => ?_)
  · refine J_aload_n (pc := 16) 0 dX13_readLine_16 rfl rfl ?_
    refine J_ldcS (pc := 17) (k := 22) dX13_readLine_17 (by decide) ⟨rfl, rfl⟩ ?_
    refine JC_pp_b (J_callV (mi := mi_X13_readLine) (mj := mi_X13_isWord) (pc := 19) dX13_readLine_19 ml_X13_113 ok_X13_isWord ov_X13_isWord ⟨Nat.le_of_ble_eq_true rfl, Nat.le_of_ble_eq_true rfl⟩ rfl (h0.lt 57 (by decide)) (h0.ty 57 rfl) rfl (s_X13_isWord g d 22 h0 (by decide)) rfl (Nat.le_of_ble_eq_true rfl)) (fun q19 => ?_)
    refine K_ifeq_b (K := (fun x => Option.bind x k)) (pc := 22) (tgt := 32) dX13_readLine_22 (by decide) (fun z22 => ?_) (fun z22 => ?_)
    · refine J_aload_n (pc := 32) 0 dX13_readLine_32 rfl rfl ?_
      refine J_ldcS (pc := 33) (k := 23) dX13_readLine_33 (by decide) ⟨rfl, rfl⟩ ?_
      refine JC_pp_b (J_callV (mi := mi_X13_readLine) (mj := mi_X13_isWord) (pc := 35) dX13_readLine_35 ml_X13_113 ok_X13_isWord ov_X13_isWord ⟨Nat.le_of_ble_eq_true rfl, Nat.le_of_ble_eq_true rfl⟩ rfl (h0.lt 57 (by decide)) (h0.ty 57 rfl) rfl (s_X13_isWord g d 23 h0 (by decide)) rfl (Nat.le_of_ble_eq_true rfl)) (fun q35 => ?_)
      refine K_ifeq_b (K := (fun x => Option.bind x k)) (pc := 38) (tgt := 48) dX13_readLine_38 (by decide) (fun z38 => ?_) (fun z38 => ?_)
      · refine J_aload_n (pc := 48) 0 dX13_readLine_48 rfl rfl ?_
        refine J_ldcS (pc := 49) (k := 24) dX13_readLine_49 (by decide) ⟨rfl, rfl⟩ ?_
        refine JC_pp_b (J_callV (mi := mi_X13_readLine) (mj := mi_X13_isWord) (pc := 51) dX13_readLine_51 ml_X13_113 ok_X13_isWord ov_X13_isWord ⟨Nat.le_of_ble_eq_true rfl, Nat.le_of_ble_eq_true rfl⟩ rfl (h0.lt 57 (by decide)) (h0.ty 57 rfl) rfl (s_X13_isWord g d 24 h0 (by decide)) rfl (Nat.le_of_ble_eq_true rfl)) (fun q51 => ?_)
        refine K_ifeq_b (K := (fun x => Option.bind x k)) (pc := 54) (tgt := 64) dX13_readLine_54 (by decide) (fun z54 => ?_) (fun z54 => ?_)
        · refine J_aload_n (pc := 64) 0 dX13_readLine_64 rfl rfl ?_
          refine J_ldcS (pc := 65) (k := 25) dX13_readLine_65 (by decide) ⟨rfl, rfl⟩ ?_
          refine JC_pp_b (J_callV (mi := mi_X13_readLine) (mj := mi_X13_isWord) (pc := 67) dX13_readLine_67 ml_X13_113 ok_X13_isWord ov_X13_isWord ⟨Nat.le_of_ble_eq_true rfl, Nat.le_of_ble_eq_true rfl⟩ rfl (h0.lt 57 (by decide)) (h0.ty 57 rfl) rfl (s_X13_isWord g d 25 h0 (by decide)) rfl (Nat.le_of_ble_eq_true rfl)) (fun q67 => ?_)
          refine K_ifeq_b (K := (fun x => Option.bind x k)) (pc := 70) (tgt := 80) dX13_readLine_70 (by decide) (fun z70 => ?_) (fun z70 => ?_)
          · refine J_aload_n (pc := 80) 0 dX13_readLine_80 rfl rfl ?_
            refine J_ldcS (pc := 81) (k := 26) dX13_readLine_81 (by decide) ⟨rfl, rfl⟩ ?_
            refine JC_pp_b (J_callV (mi := mi_X13_readLine) (mj := mi_X13_isWord) (pc := 83) dX13_readLine_83 ml_X13_113 ok_X13_isWord ov_X13_isWord ⟨Nat.le_of_ble_eq_true rfl, Nat.le_of_ble_eq_true rfl⟩ rfl (h0.lt 57 (by decide)) (h0.ty 57 rfl) rfl (s_X13_isWord g d 26 h0 (by decide)) rfl (Nat.le_of_ble_eq_true rfl)) (fun q83 => ?_)
            refine K_ifeq_b (K := (fun x => Option.bind x k)) (pc := 86) (tgt := 97) dX13_readLine_86 (by decide) (fun z86 => ?_) (fun z86 => ?_)
            · refine J_aload_n (pc := 97) 0 dX13_readLine_97 rfl rfl ?_
              refine J_ldcS (pc := 98) (k := 27) dX13_readLine_98 (by decide) ⟨rfl, rfl⟩ ?_
              refine JC_pp_b (J_callV (mi := mi_X13_readLine) (mj := mi_X13_isWord) (pc := 100) dX13_readLine_100 ml_X13_113 ok_X13_isWord ov_X13_isWord ⟨Nat.le_of_ble_eq_true rfl, Nat.le_of_ble_eq_true rfl⟩ rfl (h0.lt 57 (by decide)) (h0.ty 57 rfl) rfl (s_X13_isWord g d 27 h0 (by decide)) rfl (Nat.le_of_ble_eq_true rfl)) (fun q100 => ?_)
              refine K_ifeq_b (K := (fun x => Option.bind x k)) (pc := 103) (tgt := 114) dX13_readLine_103 (by decide) (fun z103 => ?_) (fun z103 => ?_)
              · refine J_aload_n (pc := 114) 0 dX13_readLine_114 rfl rfl ?_
                refine J_ldcS (pc := 115) (k := 28) dX13_readLine_115 (by decide) ⟨rfl, rfl⟩ ?_
                refine JC_pp_b (J_callV (mi := mi_X13_readLine) (mj := mi_X13_isWord) (pc := 117) dX13_readLine_117 ml_X13_113 ok_X13_isWord ov_X13_isWord ⟨Nat.le_of_ble_eq_true rfl, Nat.le_of_ble_eq_true rfl⟩ rfl (h0.lt 57 (by decide)) (h0.ty 57 rfl) rfl (s_X13_isWord g d 28 h0 (by decide)) rfl (Nat.le_of_ble_eq_true rfl)) (fun q117 => ?_)
                refine K_ifeq_b (K := (fun x => Option.bind x k)) (pc := 120) (tgt := 130) dX13_readLine_120 (by decide) (fun z120 => ?_) (fun z120 => ?_)
                · refine J_aload_n (pc := 130) 0 dX13_readLine_130 rfl rfl ?_
                  refine J_ldcS (pc := 131) (k := 29) dX13_readLine_131 (by decide) ⟨rfl, rfl⟩ ?_
                  refine JC_pp_b (J_callV (mi := mi_X13_readLine) (mj := mi_X13_isWord) (pc := 133) dX13_readLine_133 ml_X13_113 ok_X13_isWord ov_X13_isWord ⟨Nat.le_of_ble_eq_true rfl, Nat.le_of_ble_eq_true rfl⟩ rfl (h0.lt 57 (by decide)) (h0.ty 57 rfl) rfl (s_X13_isWord g d 29 h0 (by decide)) rfl (Nat.le_of_ble_eq_true rfl)) (fun q133 => ?_)
                  refine K_ifeq_b (K := (fun x => Option.bind x k)) (pc := 136) (tgt := 146) dX13_readLine_136 (by decide) (fun z136 => ?_) (fun z136 => ?_)
                  · refine J_aload_n (pc := 146) 0 dX13_readLine_146 rfl rfl ?_
                    refine J_iconst (pc := 147) (v := 1) dX13_readLine_147 (by decide) ?_
                    refine JC_lt_v (K := (fun x => Option.bind x k)) (J_callV (mi := mi_X13_readLine) (mj := mi_X13_flaw) (pc := 148) dX13_readLine_148 ml_X13_117 ok_X13_flaw ov_X13_flaw ⟨Nat.le_of_ble_eq_true rfl, Nat.le_of_ble_eq_true rfl⟩ rfl (h0.lt 57 (by decide)) (h0.ty 57 rfl) rfl (s_X13_flaw g d 1 h0) rfl (Nat.le_of_ble_eq_true rfl)) (fun q148 eq148 => ?_)
                    exact J_eqo (hk q148) (J_vret (pc := 151) dX13_readLine_151 rfl)
                  · refine J_aload_n (pc := 139) 0 dX13_readLine_139 rfl rfl ?_
                    refine JC_pe_v (J_callV (mi := mi_X13_readLine) (mj := mi_X13_readHad) (pc := 140) dX13_readLine_140 ml_X13_216 ok_X13_readHad ov_X13_readHad ⟨Nat.le_of_ble_eq_true rfl, Nat.le_of_ble_eq_true rfl⟩ rfl (h0.lt 57 (by decide)) (h0.ty 57 rfl) rfl (s_X13_readHad g d u h0 hu hre) rfl (Nat.le_of_ble_eq_true rfl)) (fun q140 => ?_)
                    refine J_goto (pc := 143) (tgt := 151) dX13_readLine_143 (by decide) ?_
                    exact J_eqo (hk q140) (J_vret (pc := 151) dX13_readLine_151 rfl)
                · refine J_aload_n (pc := 123) 0 dX13_readLine_123 rfl rfl ?_
                  refine JC_pe_v (J_callV (mi := mi_X13_readLine) (mj := mi_X13_readLost) (pc := 124) dX13_readLine_124 ml_X13_213 ok_X13_readLost ov_X13_readLost ⟨Nat.le_of_ble_eq_true rfl, Nat.le_of_ble_eq_true rfl⟩ rfl (h0.lt 57 (by decide)) (h0.ty 57 rfl) rfl (s_X13_readLost g d u h0 hu hre) rfl (Nat.le_of_ble_eq_true rfl)) (fun q124 => ?_)
                  refine J_goto (pc := 127) (tgt := 151) dX13_readLine_127 (by decide) ?_
                  exact J_eqo (hk q124) (J_vret (pc := 151) dX13_readLine_151 rfl)
              · refine J_aload_n (pc := 106) 0 dX13_readLine_106 rfl rfl ?_
                refine J_iconst (pc := 107) (v := 1) dX13_readLine_107 (by decide) ?_
                refine JC_pe_v (J_callV (mi := mi_X13_readLine) (mj := mi_X13_readWants) (pc := 108) dX13_readLine_108 ml_X13_209 ok_X13_readWants ov_X13_readWants ⟨Nat.le_of_ble_eq_true rfl, Nat.le_of_ble_eq_true rfl⟩ rfl (h0.lt 57 (by decide)) (h0.ty 57 rfl) rfl (s_X13_readWants g d u 1 h0 hu hre) rfl (Nat.le_of_ble_eq_true rfl)) (fun q108 => ?_)
                refine J_goto (pc := 111) (tgt := 151) dX13_readLine_111 (by decide) ?_
                exact J_eqo (hk q108) (J_vret (pc := 151) dX13_readLine_151 rfl)
            · refine J_aload_n (pc := 89) 0 dX13_readLine_89 rfl rfl ?_
              refine J_iconst (pc := 90) (v := 0) dX13_readLine_90 (by decide) ?_
              refine JC_pe_v (J_callV (mi := mi_X13_readLine) (mj := mi_X13_readWants) (pc := 91) dX13_readLine_91 ml_X13_209 ok_X13_readWants ov_X13_readWants ⟨Nat.le_of_ble_eq_true rfl, Nat.le_of_ble_eq_true rfl⟩ rfl (h0.lt 57 (by decide)) (h0.ty 57 rfl) rfl (s_X13_readWants g d u 0 h0 hu hre) rfl (Nat.le_of_ble_eq_true rfl)) (fun q91 => ?_)
              refine J_goto (pc := 94) (tgt := 151) dX13_readLine_94 (by decide) ?_
              exact J_eqo (hk q91) (J_vret (pc := 151) dX13_readLine_151 rfl)
          · refine J_aload_n (pc := 73) 0 dX13_readLine_73 rfl rfl ?_
            refine JC_pe_v (J_callV (mi := mi_X13_readLine) (mj := mi_X13_readPath) (pc := 74) dX13_readLine_74 ml_X13_206 ok_X13_readPath ov_X13_readPath ⟨Nat.le_of_ble_eq_true rfl, Nat.le_of_ble_eq_true rfl⟩ rfl (h0.lt 57 (by decide)) (h0.ty 57 rfl) rfl (s_X13_readPath g d u h0 hu hre) rfl (Nat.le_of_ble_eq_true rfl)) (fun q74 => ?_)
            refine J_goto (pc := 77) (tgt := 151) dX13_readLine_77 (by decide) ?_
            exact J_eqo (hk q74) (J_vret (pc := 151) dX13_readLine_151 rfl)
        · refine J_aload_n (pc := 57) 0 dX13_readLine_57 rfl rfl ?_
          refine JC_pe_v (J_callV (mi := mi_X13_readLine) (mj := mi_X13_readGate) (pc := 58) dX13_readLine_58 ml_X13_203 ok_X13_readGate ov_X13_readGate ⟨Nat.le_of_ble_eq_true rfl, Nat.le_of_ble_eq_true rfl⟩ rfl (h0.lt 57 (by decide)) (h0.ty 57 rfl) rfl (s_X13_readGate g d u h0 hu hre) rfl (Nat.le_of_ble_eq_true rfl)) (fun q58 => ?_)
          refine J_goto (pc := 61) (tgt := 151) dX13_readLine_61 (by decide) ?_
          exact J_eqo (hk q58) (J_vret (pc := 151) dX13_readLine_151 rfl)
      · refine J_aload_n (pc := 41) 0 dX13_readLine_41 rfl rfl ?_
        refine JC_pe_v (J_callV (mi := mi_X13_readLine) (mj := mi_X13_readFirm) (pc := 42) dX13_readLine_42 ml_X13_200 ok_X13_readFirm ov_X13_readFirm ⟨Nat.le_of_ble_eq_true rfl, Nat.le_of_ble_eq_true rfl⟩ rfl (h0.lt 57 (by decide)) (h0.ty 57 rfl) rfl (s_X13_readFirm g d u h0 hu hre) rfl (Nat.le_of_ble_eq_true rfl)) (fun q42 => ?_)
        refine J_goto (pc := 45) (tgt := 151) dX13_readLine_45 (by decide) ?_
        exact J_eqo (hk q42) (J_vret (pc := 151) dX13_readLine_151 rfl)
    · refine J_aload_n (pc := 25) 0 dX13_readLine_25 rfl rfl ?_
      refine JC_pe_v (J_callV (mi := mi_X13_readLine) (mj := mi_X13_readPerson) (pc := 26) dX13_readLine_26 ml_X13_197 ok_X13_readPerson ov_X13_readPerson ⟨Nat.le_of_ble_eq_true rfl, Nat.le_of_ble_eq_true rfl⟩ rfl (h0.lt 57 (by decide)) (h0.ty 57 rfl) rfl (s_X13_readPerson g d u h0 hu hre) rfl (Nat.le_of_ble_eq_true rfl)) (fun q26 => ?_)
      refine J_goto (pc := 29) (tgt := 151) dX13_readLine_29 (by decide) ?_
      exact J_eqo (hk q26) (J_vret (pc := 151) dX13_readLine_151 rfl)
  · refine J_aload_n (pc := 9) 0 dX13_readLine_9 rfl rfl ?_
    refine JC_pe_v (J_callV (mi := mi_X13_readLine) (mj := mi_X13_readLand) (pc := 10) dX13_readLine_10 ml_X13_194 ok_X13_readLand ov_X13_readLand ⟨Nat.le_of_ble_eq_true rfl, Nat.le_of_ble_eq_true rfl⟩ rfl (h0.lt 57 (by decide)) (h0.ty 57 rfl) rfl (s_X13_readLand g d u h0 hu hre) rfl (Nat.le_of_ble_eq_true rfl)) (fun q10 => ?_)
    refine J_goto (pc := 13) (tgt := 151) dX13_readLine_13 (by decide) ?_
    exact J_eqo (hk q10) (J_vret (pc := 151) dX13_readLine_151 rfl)
def f_X13_readAll_w2 (u : Nat) (s2 : Int32 × JD) : Option ((Int32 × JD) ⊕ (JD)) := (if s2.1 = 0 then some (.inr s2.2) else ((f_X13_readLine u s2.2).bind (fun q7_2 => (f_X13_eats q7_2 59).bind (fun q13_2 => some (.inl (j_b q13_2.1, q13_2.2))))))
def f_X13_readAll_j33 (u : Nat) (d33 : JD) : Option (JD) := (if ((d33.1 u) 4) = 0 then (j_let (f_X13_flaw d33 6) (fun q46 => some q46)) else (some d33))
def f_X13_readAll (u : Nat) (d : JD) : Option (JD) := ((j_wh (f_X13_readAll_w2 u ) j_fuel (1, d)).bind (fun (e2 : JD) => (if ((e2.1 57) 9) = 1 then f_X13_readAll_j33 u e2 else (j_let (f_X13_flaw e2 1) (fun q30 => f_X13_readAll_j33 u q30 )))))
set_option maxRecDepth 100000 in
set_option maxHeartbeats 4000000 in
theorem s_X13_readAll (g : JG) (d : JD) (u : Nat) (h0 : j_sh g 0 TS_W RS_W) (hu : j_sh g u TS_ML RS_ML) (hre : g.2.2.1 57 4 = some u) : JM mi_X13_readAll 0 0 (g, d) [.ref 57] ((f_X13_readAll u d ).bind (fun r9 => some (none, (g, r9)))) := by
  refine JM_of (by decide) rfl (Nat.le_of_ble_eq_true rfl) ?_
  refine J_loc (loc' := [(0, .ref 57)]) [0] rfl ?_
  obtain ⟨k, hk, hk2⟩ : ∃ k : JD → Option (Option Value × JH), (∀ r9, k r9 = some (none, (g, r9))) ∧ (fun r9 : JD => (some (none, (g, r9)) : Option (Option Value × JH))) = k := ⟨_, fun _ => rfl, rfl⟩
  rw [hk2]
  unfold f_X13_readAll
  have hX13_readAll_j33 : ∀ (d33 : JD) , J mi_X13_readAll 0 0 0 0 (g, d33) 33 [(0, .ref 57)] [] ((f_X13_readAll_j33 u d33 ).bind k) := by
    intro d33 
    unfold f_X13_readAll_j33
    refine J_aload_n (pc := 33) 0 dX13_readAll_33 rfl rfl ?_
    refine J_getR (pc := 34) dX13_readAll_34 fl_X13_151 (h0.lt 57 (by decide)) (h0.ty 57 rfl) rfl hre ?_
    refine J_getI (pc := 37) dX13_readAll_37 fl_X13_191 (hu.lt 0 (by decide)) (hu.ty 0 rfl) rfl ?_
    refine K_if_ne (K := (fun x => Option.bind x k)) (pc := 40) (tgt := 49) dX13_readAll_40 (by decide) (fun z40 => ?_) (fun z40 => ?_)
    · exact J_eqo (hk d33) (J_vret (pc := 49) dX13_readAll_49 rfl)
    · refine J_aload_n (pc := 43) 0 dX13_readAll_43 rfl rfl ?_
      refine J_bipush (pc := 44) (v := 6) dX13_readAll_44 (by decide) ?_
      refine JC_lt_v (K := (fun x => Option.bind x k)) (J_callV (mi := mi_X13_readAll) (mj := mi_X13_flaw) (pc := 46) dX13_readAll_46 ml_X13_117 ok_X13_flaw ov_X13_flaw ⟨Nat.le_of_ble_eq_true rfl, Nat.le_of_ble_eq_true rfl⟩ rfl (h0.lt 57 (by decide)) (h0.ty 57 rfl) rfl (s_X13_flaw g d33 6 h0) rfl (Nat.le_of_ble_eq_true rfl)) (fun q46 eq46 => ?_)
      exact J_eqo (hk q46) (J_vret (pc := 49) dX13_readAll_49 rfl)
  refine J_iconst (pc := 0) (v := 1) dX13_readAll_0 (by decide) ?_
  refine J_istore_n (pc := 1) (loc' := [(1, .int 1), (0, .ref 57)]) dX13_readAll_1 rfl (by decide) rfl ?_
  refine J_loc (loc' := [(0, .ref 57), (1, .int 1)]) [1, 0] rfl ?_
  refine J_whL (F := f_X13_readAll_w2 u ) (hp := fun (s2 : Int32 × JD) => (g, s2.2)) (lc := fun (s2 : Int32 × JD) => [(0, .ref 57), (1, .int s2.1)]) (XJ := fun (e2 : JD) o9 => J mi_X13_readAll 0 0 0 0 (g, e2) 20 [(0, .ref 57)] [] o9) (fun s2 k2 hB2 hX2 => ?_) (fun e2 => ?_) _ (1, d)
  · show J mi_X13_readAll 0 0 0 0 (g, s2.2) 2 [(0, .ref 57), (1, .int s2.1)] [] ((f_X13_readAll_w2 u s2).bind k2)
    unfold f_X13_readAll_w2
    refine J_iload_n (pc := 2) 1 dX13_readAll_2 rfl rfl ?_
    refine K_if_eq (K := (fun x => Option.bind x k2)) (pc := 3) (tgt := 20) dX13_readAll_3 (by decide) (fun z3 => ?_) (fun z3 => ?_)
    · refine J_loc (loc' := [(0, .ref 57)]) [0] rfl ?_
      exact hX2 s2.2
    · refine J_aload_n (pc := 6) 0 dX13_readAll_6 rfl rfl ?_
      refine JC_pe_v (J_callV (mi := mi_X13_readAll) (mj := mi_X13_readLine) (pc := 7) dX13_readAll_7 ml_X13_184 ok_X13_readLine ov_X13_readLine ⟨Nat.le_of_ble_eq_true rfl, Nat.le_of_ble_eq_true rfl⟩ rfl (h0.lt 57 (by decide)) (h0.ty 57 rfl) rfl (s_X13_readLine g s2.2 u h0 hu hre) rfl (Nat.le_of_ble_eq_true rfl)) (fun q7_2 => ?_)
      refine J_aload_n (pc := 10) 0 dX13_readAll_10 rfl rfl ?_
      refine J_bipush (pc := 11) (v := 59) dX13_readAll_11 (by decide) ?_
      refine JC_pe_b (J_callV (mi := mi_X13_readAll) (mj := mi_X13_eats) (pc := 13) dX13_readAll_13 ml_X13_187 ok_X13_eats ov_X13_eats ⟨Nat.le_of_ble_eq_true rfl, Nat.le_of_ble_eq_true rfl⟩ rfl (h0.lt 57 (by decide)) (h0.ty 57 rfl) rfl (s_X13_eats g q7_2 59 h0) rfl (Nat.le_of_ble_eq_true rfl)) (fun q13_2 => ?_)
      refine J_istore_n (pc := 16) (loc' := [(1, .int (j_b q13_2.1)), (0, .ref 57)]) dX13_readAll_16 rfl (by decide) rfl ?_
      refine J_goto (pc := 17) (tgt := 2) dX13_readAll_17 (by decide) ?_
      refine J_loc (loc' := [(0, .ref 57), (1, .int (j_b q13_2.1))]) [1, 0] rfl ?_
      exact hB2 (j_b q13_2.1, q13_2.2)
  · show J mi_X13_readAll 0 0 0 0 (g, e2) 20 [(0, .ref 57)] [] (_)
    refine J_aload_n (pc := 20) 0 dX13_readAll_20 rfl rfl ?_
    refine J_getI (pc := 21) dX13_readAll_21 fl_X13_74 (h0.lt 57 (by decide)) (h0.ty 57 rfl) rfl ?_
    refine J_iconst (pc := 24) (v := 1) dX13_readAll_24 (by decide) ?_
    refine K_icmp_eq (K := (fun x => Option.bind x k)) (pc := 25) (tgt := 33) dX13_readAll_25 (by decide) (fun z25 => ?_) (fun z25 => ?_)
    · exact hX13_readAll_j33 e2 
    · refine J_aload_n (pc := 28) 0 dX13_readAll_28 rfl rfl ?_
      refine J_iconst (pc := 29) (v := 1) dX13_readAll_29 (by decide) ?_
      refine JC_lt_v (K := (fun x => Option.bind x k)) (J_callV (mi := mi_X13_readAll) (mj := mi_X13_flaw) (pc := 30) dX13_readAll_30 ml_X13_117 ok_X13_flaw ov_X13_flaw ⟨Nat.le_of_ble_eq_true rfl, Nat.le_of_ble_eq_true rfl⟩ rfl (h0.lt 57 (by decide)) (h0.ty 57 rfl) rfl (s_X13_flaw g e2 1 h0) rfl (Nat.le_of_ble_eq_true rfl)) (fun q30 eq30 => ?_)
      exact hX13_readAll_j33 q30 
def f_X13_feed_j76_23 (c1_23 : Int32) (c2_23 : Int32) (c3_23 : Int32) (c4_23 : Int32) (c5_23 : Int32) (d76_23 : JD) (x6_76_23 : Int32) (y0_76_23 : Int32) : Option ((Int32 × JD) ⊕ (JD)) := (if j_out ((d76_23.1 57) 6) 900 then none else some (.inl (x6_76_23 + 1, j_sI (j_sI d76_23 58 (((d76_23.1 57) 6).toNatClampNeg) (vp_nar .byte ((y0_76_23 >>> (((24 : Int32) - ((8 : Int32) * (x6_76_23 - x6_76_23 / 4 * 4))) &&& 31)).toInt8.toInt32))) 57 6 (((d76_23.1 57) 6) + 1))))
def f_X13_feed_w23 (c1_23 : Int32) (c2_23 : Int32) (c3_23 : Int32) (c4_23 : Int32) (c5_23 : Int32) (s23 : Int32 × JD) : Option ((Int32 × JD) ⊕ (JD)) := (if 20 ≤ s23.1 then some (.inr s23.2) else (if 4 ≤ s23.1 then (if 8 ≤ s23.1 then (if 12 ≤ s23.1 then (if 16 ≤ s23.1 then (f_X13_feed_j76_23 (c1_23) (c2_23) (c3_23) (c4_23) (c5_23) s23.2 s23.1 (c5_23)) else (f_X13_feed_j76_23 (c1_23) (c2_23) (c3_23) (c4_23) (c5_23) s23.2 s23.1 (c4_23))) else (f_X13_feed_j76_23 (c1_23) (c2_23) (c3_23) (c4_23) (c5_23) s23.2 s23.1 (c3_23))) else (f_X13_feed_j76_23 (c1_23) (c2_23) (c3_23) (c4_23) (c5_23) s23.2 s23.1 (c2_23))) else (f_X13_feed_j76_23 (c1_23) (c2_23) (c3_23) (c4_23) (c5_23) s23.2 s23.1 (c1_23))))
def f_X13_feed (d : JD) (pq0 : Int32) (pq1 : Int32) (pq2 : Int32) (pq3 : Int32) (pq4 : Int32) : Option (Int32 × JD) := (if (((d.1 57) 6) + 20) ≤ 900 then ((j_wh (f_X13_feed_w23 pq0 pq1 pq2 pq3 pq4 ) j_fuel (0, j_sI d 57 0 0)).bind (fun (e23 : JD) => (some ((e23.1 57) 6, e23)))) else (some ((-1), j_sI d 57 0 0)))
set_option maxRecDepth 100000 in
set_option maxHeartbeats 4000000 in
theorem s_X13_feed (g : JG) (d : JD) (pq0 : Int32) (pq1 : Int32) (pq2 : Int32) (pq3 : Int32) (pq4 : Int32) (h0 : j_sh g 0 TS_W RS_W) : JM mi_X13_feed 0 0 (g, d) [.ref 57, .int pq0, .int pq1, .int pq2, .int pq3, .int pq4] ((f_X13_feed d pq0 pq1 pq2 pq3 pq4).bind (fun r9 => some (some (.int r9.1), (g, r9.2)))) := by
  refine JM_of (by decide) rfl (Nat.le_of_ble_eq_true rfl) ?_
  refine J_loc (loc' := [(0, .ref 57), (1, .int pq0), (2, .int pq1), (3, .int pq2), (4, .int pq3), (5, .int pq4)]) [0, 1, 2, 3, 4, 5] rfl ?_
  obtain ⟨k, hk, hk2⟩ : ∃ k : Int32 × JD → Option (Option Value × JH), (∀ r9, k r9 = some (some (.int r9.1), (g, r9.2))) ∧ (fun r9 : Int32 × JD => (some (some (.int r9.1), (g, r9.2)) : Option (Option Value × JH))) = k := ⟨_, fun _ => rfl, rfl⟩
  rw [hk2]
  unfold f_X13_feed
  refine J_aload_n (pc := 0) 0 dX13_feed_0 rfl rfl ?_
  refine J_iconst (pc := 1) (v := 0) dX13_feed_1 (by decide) ?_
  refine J_putI (pc := 2) dX13_feed_2 fl_X13_42 ft_12_0 (h0.lt 57 (by decide)) (h0.ty 57 rfl) rfl rfl rfl ?_
  refine J_aload_n (pc := 5) 0 dX13_feed_5 rfl rfl ?_
  refine J_getI (pc := 6) dX13_feed_6 fl_X13_314 (h0.lt 57 (by decide)) (h0.ty 57 rfl) rfl ?_
  refine J_val (y := (d.1 57) 6) rfl ?_
  refine J_bipush (pc := 9) (v := 20) dX13_feed_9 (by decide) ?_
  refine J_iadd (pc := 11) dX13_feed_11 ?_
  refine J_sipush (pc := 12) (v := 900) dX13_feed_12 (by decide) ?_
  refine K_icmp_le (K := (fun x => Option.bind x k)) (pc := 15) (tgt := 20) dX13_feed_15 (by decide) (fun z15 => ?_) (fun z15 => ?_)
  · refine J_iconst (pc := 20) (v := 0) dX13_feed_20 (by decide) ?_
    refine J_istore (pc := 21) (loc' := [(6, .int 0), (0, .ref 57), (1, .int pq0), (2, .int pq1), (3, .int pq2), (4, .int pq3), (5, .int pq4)]) dX13_feed_21 (by decide) rfl ?_
    refine J_loc (loc' := [(0, .ref 57), (1, .int pq0), (2, .int pq1), (3, .int pq2), (4, .int pq3), (5, .int pq4), (6, .int 0)]) [1, 2, 3, 4, 5, 6, 0] rfl ?_
    refine J_whL (F := f_X13_feed_w23 pq0 pq1 pq2 pq3 pq4 ) (hp := fun (s23 : Int32 × JD) => (g, s23.2)) (lc := fun (s23 : Int32 × JD) => [(0, .ref 57), (1, .int (pq0)), (2, .int (pq1)), (3, .int (pq2)), (4, .int (pq3)), (5, .int (pq4)), (6, .int s23.1)]) (XJ := fun (e23 : JD) o9 => J mi_X13_feed 0 0 0 0 (g, e23) 117 [(0, .ref 57)] [] o9) (fun s23 k23 hB23 hX23 => ?_) (fun e23 => ?_) _ (0, j_sI d 57 0 0)
    · show J mi_X13_feed 0 0 0 0 (g, s23.2) 23 [(0, .ref 57), (1, .int (pq0)), (2, .int (pq1)), (3, .int (pq2)), (4, .int (pq3)), (5, .int (pq4)), (6, .int s23.1)] [] ((f_X13_feed_w23 pq0 pq1 pq2 pq3 pq4 s23).bind k23)
      unfold f_X13_feed_w23
      have hX13_feed_j76_23 : ∀ (d76_23 : JD) (x6_76_23 : Int32) (y0_76_23 : Int32), J mi_X13_feed 0 0 0 0 (g, d76_23) 76 [(0, .ref 57), (1, .int (pq0)), (2, .int (pq1)), (3, .int (pq2)), (4, .int (pq3)), (5, .int (pq4)), (6, .int x6_76_23)] [.int y0_76_23] ((f_X13_feed_j76_23 pq0 pq1 pq2 pq3 pq4 d76_23 x6_76_23 y0_76_23).bind k23) := by
        intro d76_23 x6_76_23 y0_76_23
        unfold f_X13_feed_j76_23
        refine J_istore (pc := 76) (loc' := [(7, .int y0_76_23), (0, .ref 57), (1, .int (pq0)), (2, .int (pq1)), (3, .int (pq2)), (4, .int (pq3)), (5, .int (pq4)), (6, .int x6_76_23)]) dX13_feed_76 (by decide) rfl ?_
        refine J_aload_n (pc := 78) 1 dX13_feed_78 rfl rfl ?_
        refine J_getR (pc := 79) dX13_feed_79 fl_X13_13 (h0.lt 57 (by decide)) (h0.ty 57 rfl) rfl (h0.rf 55 rfl) ?_
        refine J_aload_n (pc := 82) 1 dX13_feed_82 rfl rfl ?_
        refine J_getI (pc := 83) dX13_feed_83 fl_X13_314 (h0.lt 57 (by decide)) (h0.ty 57 rfl) rfl ?_
        refine J_iload (pc := 86) 0 dX13_feed_86 rfl ?_
        refine J_bipush (pc := 88) (v := 24) dX13_feed_88 (by decide) ?_
        refine J_bipush (pc := 90) (v := 8) dX13_feed_90 (by decide) ?_
        refine J_iload (pc := 92) 7 dX13_feed_92 rfl ?_
        refine J_iconst (pc := 94) (v := 4) dX13_feed_94 (by decide) ?_
        refine J_irem (pc := 95) dX13_feed_95 (by decide) ?_
        refine J_imul (pc := 96) dX13_feed_96 ?_
        refine J_isub (pc := 97) dX13_feed_97 ?_
        refine J_ishr (pc := 98) dX13_feed_98 ?_
        refine J_i2b (pc := 99) dX13_feed_99 ?_
        refine J_guard (fun z100 => ?_)
        refine J_bast (pc := 100) dX13_feed_100 (h0.lt 58 (by decide)) (h0.ty 58 rfl) z100 ?_
        refine J_aload_n (pc := 101) 1 dX13_feed_101 rfl rfl ?_
        refine J_dup (pc := 102) dX13_feed_102 rfl ?_
        refine J_getI (pc := 103) dX13_feed_103 fl_X13_314 (h0.lt 57 (by decide)) (h0.ty 57 rfl) rfl ?_
        refine J_val (y := (d76_23.1 57) 6) rfl ?_
        refine J_iconst (pc := 106) (v := 1) dX13_feed_106 (by decide) ?_
        refine J_iadd (pc := 107) dX13_feed_107 ?_
        refine J_putI (pc := 108) dX13_feed_108 fl_X13_314 ft_12_6 (h0.lt 57 (by decide)) (h0.ty 57 rfl) rfl rfl rfl ?_
        refine J_iinc (pc := 111) (v := x6_76_23 + 1) (loc' := [(6, .int (x6_76_23 + 1)), (7, .int y0_76_23), (0, .ref 57), (1, .int (pq0)), (2, .int (pq1)), (3, .int (pq2)), (4, .int (pq3)), (5, .int (pq4))]) 7 dX13_feed_111 rfl rfl (by decide) rfl ?_
        refine J_goto (pc := 114) (tgt := 23) dX13_feed_114 (by decide) ?_
        refine J_loc (loc' := [(0, .ref 57), (1, .int (pq0)), (2, .int (pq1)), (3, .int (pq2)), (4, .int (pq3)), (5, .int (pq4)), (6, .int (x6_76_23 + 1))]) [2, 3, 4, 5, 6, 7, 0] rfl ?_
        exact hB23 (x6_76_23 + 1, j_sI (j_sI d76_23 58 (((d76_23.1 57) 6).toNatClampNeg) (vp_nar .byte ((y0_76_23 >>> (((24 : Int32) - ((8 : Int32) * (x6_76_23 - x6_76_23 / 4 * 4))) &&& 31)).toInt8.toInt32))) 57 6 (((d76_23.1 57) 6) + 1))
      refine J_iload (pc := 23) 6 dX13_feed_23 rfl ?_
      refine J_bipush (pc := 25) (v := 20) dX13_feed_25 (by decide) ?_
      refine K_icmp_ge (K := (fun x => Option.bind x k23)) (pc := 27) (tgt := 117) dX13_feed_27 (by decide) (fun z27 => ?_) (fun z27 => ?_)
      · refine J_loc (loc' := [(0, .ref 57)]) [0] rfl ?_
        exact hX23 s23.2
      · refine J_iload (pc := 30) 6 dX13_feed_30 rfl ?_
        refine J_iconst (pc := 32) (v := 4) dX13_feed_32 (by decide) ?_
        refine K_icmp_ge (K := (fun x => Option.bind x k23)) (pc := 33) (tgt := 40) dX13_feed_33 (by decide) (fun z33 => ?_) (fun z33 => ?_)
        · refine J_iload (pc := 40) 6 dX13_feed_40 rfl ?_
          refine J_bipush (pc := 42) (v := 8) dX13_feed_42 (by decide) ?_
          refine K_icmp_ge (K := (fun x => Option.bind x k23)) (pc := 44) (tgt := 51) dX13_feed_44 (by decide) (fun z44 => ?_) (fun z44 => ?_)
          · refine J_iload (pc := 51) 6 dX13_feed_51 rfl ?_
            refine J_bipush (pc := 53) (v := 12) dX13_feed_53 (by decide) ?_
            refine K_icmp_ge (K := (fun x => Option.bind x k23)) (pc := 55) (tgt := 62) dX13_feed_55 (by decide) (fun z55 => ?_) (fun z55 => ?_)
            · refine J_iload (pc := 62) 6 dX13_feed_62 rfl ?_
              refine J_bipush (pc := 64) (v := 16) dX13_feed_64 (by decide) ?_
              refine K_icmp_ge (K := (fun x => Option.bind x k23)) (pc := 66) (tgt := 74) dX13_feed_66 (by decide) (fun z66 => ?_) (fun z66 => ?_)
              · refine J_iload (pc := 74) 5 dX13_feed_74 rfl ?_
                exact hX13_feed_j76_23 s23.2 s23.1 pq4
              · refine J_iload (pc := 69) 4 dX13_feed_69 rfl ?_
                refine J_goto (pc := 71) (tgt := 76) dX13_feed_71 (by decide) ?_
                exact hX13_feed_j76_23 s23.2 s23.1 pq3
            · refine J_iload_n (pc := 58) 3 dX13_feed_58 rfl rfl ?_
              refine J_goto (pc := 59) (tgt := 76) dX13_feed_59 (by decide) ?_
              exact hX13_feed_j76_23 s23.2 s23.1 pq2
          · refine J_iload_n (pc := 47) 2 dX13_feed_47 rfl rfl ?_
            refine J_goto (pc := 48) (tgt := 76) dX13_feed_48 (by decide) ?_
            exact hX13_feed_j76_23 s23.2 s23.1 pq1
        · refine J_iload_n (pc := 36) 1 dX13_feed_36 rfl rfl ?_
          refine J_goto (pc := 37) (tgt := 76) dX13_feed_37 (by decide) ?_
          exact hX13_feed_j76_23 s23.2 s23.1 pq0
    · show J mi_X13_feed 0 0 0 0 (g, e23) 117 [(0, .ref 57)] [] (_)
      refine J_aload_n (pc := 117) 0 dX13_feed_117 rfl rfl ?_
      refine J_getI (pc := 118) dX13_feed_118 fl_X13_314 (h0.lt 57 (by decide)) (h0.ty 57 rfl) rfl ?_
      exact J_eqo (hk ((e23.1 57) 6, e23)) (J_iret (pc := 121) dX13_feed_121 rfl)
  · refine J_iconst (pc := 18) (v := (-1)) dX13_feed_18 (by decide) ?_
    exact J_eqo (hk ((-1), j_sI d 57 0 0)) (J_iret (pc := 19) dX13_feed_19 rfl)
def f_X13_asTold_w2 (t : Nat) (s2 : Int32 × JD) : Option ((Int32 × JD) ⊕ (JD)) := (if 6 ≤ s2.1 then some (.inr s2.2) else (if j_out s2.1 6 then none else if j_out s2.1 6 then none else some (.inl (s2.1 + 1, j_sI s2.2 60 s2.1.toNatClampNeg ((s2.2.1 (t + 6)) s2.1.toNatClampNeg)))))
def f_X13_asTold (t : Nat) (d : JD) : Option (JD) := ((j_wh (f_X13_asTold_w2 t ) j_fuel (0, d)).bind (fun (e2 : JD) => (some e2)))
set_option maxRecDepth 100000 in
set_option maxHeartbeats 4000000 in
theorem s_X13_asTold (g : JG) (d : JD) (t : Nat) (h0 : j_sh g 0 TS_W RS_W) (ht : j_sh g t TS_ML RS_ML) (hla : g.2.2.1 57 3 = some t) : JM mi_X13_asTold 0 0 (g, d) [.ref 57] ((f_X13_asTold t d ).bind (fun r9 => some (none, (g, r9)))) := by
  refine JM_of (by decide) rfl (Nat.le_of_ble_eq_true rfl) ?_
  refine J_loc (loc' := [(0, .ref 57)]) [0] rfl ?_
  obtain ⟨k, hk, hk2⟩ : ∃ k : JD → Option (Option Value × JH), (∀ r9, k r9 = some (none, (g, r9))) ∧ (fun r9 : JD => (some (none, (g, r9)) : Option (Option Value × JH))) = k := ⟨_, fun _ => rfl, rfl⟩
  rw [hk2]
  unfold f_X13_asTold
  refine J_iconst (pc := 0) (v := 0) dX13_asTold_0 (by decide) ?_
  refine J_istore_n (pc := 1) (loc' := [(1, .int 0), (0, .ref 57)]) dX13_asTold_1 rfl (by decide) rfl ?_
  refine J_loc (loc' := [(0, .ref 57), (1, .int 0)]) [1, 0] rfl ?_
  refine J_whL (F := f_X13_asTold_w2 t ) (hp := fun (s2 : Int32 × JD) => (g, s2.2)) (lc := fun (s2 : Int32 × JD) => [(0, .ref 57), (1, .int s2.1)]) (XJ := fun (e2 : JD) o9 => J mi_X13_asTold 0 0 0 0 (g, e2) 29 [] [] o9) (fun s2 k2 hB2 hX2 => ?_) (fun e2 => ?_) _ (0, d)
  · show J mi_X13_asTold 0 0 0 0 (g, s2.2) 2 [(0, .ref 57), (1, .int s2.1)] [] ((f_X13_asTold_w2 t s2).bind k2)
    unfold f_X13_asTold_w2
    refine J_iload_n (pc := 2) 1 dX13_asTold_2 rfl rfl ?_
    refine J_bipush (pc := 3) (v := 6) dX13_asTold_3 (by decide) ?_
    refine K_icmp_ge (K := (fun x => Option.bind x k2)) (pc := 5) (tgt := 29) dX13_asTold_5 (by decide) (fun z5 => ?_) (fun z5 => ?_)
    · refine J_loc (loc' := []) [] rfl ?_
      exact hX2 s2.2
    · refine J_aload_n (pc := 8) 0 dX13_asTold_8 rfl rfl ?_
      refine J_getR (pc := 9) dX13_asTold_9 fl_X13_21 (h0.lt 57 (by decide)) (h0.ty 57 rfl) rfl (h0.rf 57 rfl) ?_
      refine J_iload_n (pc := 12) 1 dX13_asTold_12 rfl rfl ?_
      refine J_aload_n (pc := 13) 0 dX13_asTold_13 rfl rfl ?_
      refine J_getR (pc := 14) dX13_asTold_14 fl_X13_321 (h0.lt 57 (by decide)) (h0.ty 57 rfl) rfl hla ?_
      refine J_getR (pc := 17) dX13_asTold_17 fl_X13_282 (ht.lt 0 (by decide)) (ht.ty 0 rfl) rfl (ht.rf 5 rfl) ?_
      refine J_iload_n (pc := 20) 1 dX13_asTold_20 rfl rfl ?_
      refine J_guard (fun z21 => ?_)
      refine J_iald (pc := 21) dX13_asTold_21 (ht.lt 6 (by decide)) (ht.ty 6 rfl) z21 ?_
      refine J_guard (fun z22 => ?_)
      refine J_iast (pc := 22) dX13_asTold_22 (h0.lt 60 (by decide)) (h0.ty 60 rfl) z22 ?_
      refine J_iinc (pc := 23) (v := s2.1 + 1) (loc' := [(1, .int (s2.1 + 1)), (0, .ref 57)]) 1 dX13_asTold_23 rfl rfl (by decide) rfl ?_
      refine J_goto (pc := 26) (tgt := 2) dX13_asTold_26 (by decide) ?_
      refine J_loc (loc' := [(0, .ref 57), (1, .int (s2.1 + 1))]) [1, 0] rfl ?_
      exact hB2 (s2.1 + 1, j_sI s2.2 60 s2.1.toNatClampNeg ((s2.2.1 (t + 6)) s2.1.toNatClampNeg))
  · show J mi_X13_asTold 0 0 0 0 (g, e2) 29 [] [] (_)
    exact J_eqo (hk e2) (J_vret (pc := 29) dX13_asTold_29 rfl)
def f_X13_fault (d : JD) : Int32 × JD := ((d.1 57) 12, j_sI d 57 0 0)
set_option maxRecDepth 100000 in
set_option maxHeartbeats 4000000 in
theorem s_X13_fault (g : JG) (d : JD) (h0 : j_sh g 0 TS_W RS_W) : JM mi_X13_fault 0 0 (g, d) [.ref 57] (some (some (.int (f_X13_fault d ).1), (g, (f_X13_fault d ).2))) := by
  refine JM_of (by decide) rfl (Nat.le_of_ble_eq_true rfl) ?_
  refine J_loc (loc' := [(0, .ref 57)]) [0] rfl ?_
  obtain ⟨k, hk⟩ : ∃ k : Int32 × JD → Option (Option Value × JH), ∀ r9, k r9 = some (some (.int r9.1), (g, r9.2)) := ⟨_, fun _ => rfl⟩
  refine J_eqo (hk (f_X13_fault d )).symm ?_
  unfold f_X13_fault
  refine J_aload_n (pc := 0) 0 dX13_fault_0 rfl rfl ?_
  refine J_iconst (pc := 1) (v := 0) dX13_fault_1 (by decide) ?_
  refine J_putI (pc := 2) dX13_fault_2 fl_X13_42 ft_12_0 (h0.lt 57 (by decide)) (h0.ty 57 rfl) rfl rfl rfl ?_
  refine J_aload_n (pc := 5) 0 dX13_fault_5 rfl rfl ?_
  refine J_getI (pc := 6) dX13_fault_6 fl_X13_100 (h0.lt 57 (by decide)) (h0.ty 57 rfl) rfl ?_
  refine J_val (y := (d.1 57) 12) rfl ?_
  exact J_eqo (hk ((d.1 57) 12, j_sI d 57 0 0)) (J_iret (pc := 9) dX13_fault_9 rfl)
def f_X13_where (d : JD) : Int32 × JD := ((d.1 57) 2, j_sI d 57 0 0)
set_option maxRecDepth 100000 in
set_option maxHeartbeats 4000000 in
theorem s_X13_where (g : JG) (d : JD) (h0 : j_sh g 0 TS_W RS_W) : JM mi_X13_where 0 0 (g, d) [.ref 57] (some (some (.int (f_X13_where d ).1), (g, (f_X13_where d ).2))) := by
  refine JM_of (by decide) rfl (Nat.le_of_ble_eq_true rfl) ?_
  refine J_loc (loc' := [(0, .ref 57)]) [0] rfl ?_
  obtain ⟨k, hk⟩ : ∃ k : Int32 × JD → Option (Option Value × JH), ∀ r9, k r9 = some (some (.int r9.1), (g, r9.2)) := ⟨_, fun _ => rfl⟩
  refine J_eqo (hk (f_X13_where d )).symm ?_
  unfold f_X13_where
  refine J_aload_n (pc := 0) 0 dX13_where_0 rfl rfl ?_
  refine J_iconst (pc := 1) (v := 0) dX13_where_1 (by decide) ?_
  refine J_putI (pc := 2) dX13_where_2 fl_X13_42 ft_12_0 (h0.lt 57 (by decide)) (h0.ty 57 rfl) rfl rfl rfl ?_
  refine J_aload_n (pc := 5) 0 dX13_where_5 rfl rfl ?_
  refine J_getI (pc := 6) dX13_where_6 fl_X13_9 (h0.lt 57 (by decide)) (h0.ty 57 rfl) rfl ?_
  refine J_val (y := (d.1 57) 2) rfl ?_
  exact J_eqo (hk ((d.1 57) 2, j_sI d 57 0 0)) (J_iret (pc := 9) dX13_where_9 rfl)
def f_X13_isGate (r_t0 : Nat → Int32) (pq0 : Int32) : Bool := (if pq0 < 0 then (false) else (if (r_t0 4) ≤ pq0 then (false) else (true)))
set_option maxRecDepth 100000 in
set_option maxHeartbeats 4000000 in
theorem s_X13_isGate (g : JG) (d : JD) (t : Nat) (pq0 : Int32) (h0 : j_sh g 0 TS_W RS_W) (ht : j_sh g t TS_ML RS_ML) (hla : g.2.2.1 57 3 = some t) : JM mi_X13_isGate 0 0 (g, d) [.ref 57, .int pq0] (some (some (.int (j_b (f_X13_isGate (d.1 t) pq0))), (g, d))) := by
  refine JM_of (by decide) rfl (Nat.le_of_ble_eq_true rfl) ?_
  refine J_loc (loc' := [(0, .ref 57), (1, .int pq0)]) [0, 1] rfl ?_
  obtain ⟨k, hk⟩ : ∃ k : Bool → Option (Option Value × JH), ∀ r9, k r9 = some (some (.int (j_b r9)), (g, d)) := ⟨_, fun _ => rfl⟩
  refine J_eqo (hk (f_X13_isGate (d.1 t) pq0)).symm ?_
  unfold f_X13_isGate
  refine J_aload_n (pc := 0) 0 dX13_isGate_0 rfl rfl ?_
  refine J_getR (pc := 1) dX13_isGate_1 fl_X13_321 (h0.lt 57 (by decide)) (h0.ty 57 rfl) rfl hla ?_
  refine J_ifnull (pc := 4) dX13_isGate_4 ?_
  refine J_iload_n (pc := 7) 1 dX13_isGate_7 rfl rfl ?_
  refine K_if_lt (K := k) (pc := 8) (tgt := 26) dX13_isGate_8 (by decide) (fun z8 => ?_) (fun z8 => ?_)
  · refine J_iconst (pc := 26) (v := 0) dX13_isGate_26 (by decide) ?_
    exact J_eqo (hk false) (J_zretB (pc := 27) dX13_isGate_27 rfl)
  · refine J_iload_n (pc := 11) 1 dX13_isGate_11 rfl rfl ?_
    refine J_aload_n (pc := 12) 0 dX13_isGate_12 rfl rfl ?_
    refine J_getR (pc := 13) dX13_isGate_13 fl_X13_321 (h0.lt 57 (by decide)) (h0.ty 57 rfl) rfl hla ?_
    refine J_getI (pc := 16) dX13_isGate_16 fl_X13_191 (ht.lt 0 (by decide)) (ht.ty 0 rfl) rfl ?_
    refine K_icmp_ge (K := k) (pc := 19) (tgt := 26) dX13_isGate_19 (by decide) (fun z19 => ?_) (fun z19 => ?_)
    · refine J_iconst (pc := 26) (v := 0) dX13_isGate_26 (by decide) ?_
      exact J_eqo (hk false) (J_zretB (pc := 27) dX13_isGate_27 rfl)
    · refine J_iconst (pc := 22) (v := 1) dX13_isGate_22 (by decide) ?_
      refine J_goto (pc := 23) (tgt := 27) dX13_isGate_23 (by decide) ?_
      exact J_eqo (hk true) (J_zretB (pc := 27) dX13_isGate_27 rfl)
def f_X13_isPerson (r_t0 : Nat → Int32) (pq0 : Int32) : Bool := (if pq0 < 0 then (false) else (if (r_t0 2) ≤ pq0 then (false) else (true)))
set_option maxRecDepth 100000 in
set_option maxHeartbeats 4000000 in
theorem s_X13_isPerson (g : JG) (d : JD) (t : Nat) (pq0 : Int32) (h0 : j_sh g 0 TS_W RS_W) (ht : j_sh g t TS_ML RS_ML) (hla : g.2.2.1 57 3 = some t) : JM mi_X13_isPerson 0 0 (g, d) [.ref 57, .int pq0] (some (some (.int (j_b (f_X13_isPerson (d.1 t) pq0))), (g, d))) := by
  refine JM_of (by decide) rfl (Nat.le_of_ble_eq_true rfl) ?_
  refine J_loc (loc' := [(0, .ref 57), (1, .int pq0)]) [0, 1] rfl ?_
  obtain ⟨k, hk⟩ : ∃ k : Bool → Option (Option Value × JH), ∀ r9, k r9 = some (some (.int (j_b r9)), (g, d)) := ⟨_, fun _ => rfl⟩
  refine J_eqo (hk (f_X13_isPerson (d.1 t) pq0)).symm ?_
  unfold f_X13_isPerson
  refine J_aload_n (pc := 0) 0 dX13_isPerson_0 rfl rfl ?_
  refine J_getR (pc := 1) dX13_isPerson_1 fl_X13_321 (h0.lt 57 (by decide)) (h0.ty 57 rfl) rfl hla ?_
  refine J_ifnull (pc := 4) dX13_isPerson_4 ?_
  refine J_iload_n (pc := 7) 1 dX13_isPerson_7 rfl rfl ?_
  refine K_if_lt (K := k) (pc := 8) (tgt := 26) dX13_isPerson_8 (by decide) (fun z8 => ?_) (fun z8 => ?_)
  · refine J_iconst (pc := 26) (v := 0) dX13_isPerson_26 (by decide) ?_
    exact J_eqo (hk false) (J_zretB (pc := 27) dX13_isPerson_27 rfl)
  · refine J_iload_n (pc := 11) 1 dX13_isPerson_11 rfl rfl ?_
    refine J_aload_n (pc := 12) 0 dX13_isPerson_12 rfl rfl ?_
    refine J_getR (pc := 13) dX13_isPerson_13 fl_X13_321 (h0.lt 57 (by decide)) (h0.ty 57 rfl) rfl hla ?_
    refine J_getI (pc := 16) dX13_isPerson_16 fl_X13_229 (ht.lt 0 (by decide)) (ht.ty 0 rfl) rfl ?_
    refine K_icmp_ge (K := k) (pc := 19) (tgt := 26) dX13_isPerson_19 (by decide) (fun z19 => ?_) (fun z19 => ?_)
    · refine J_iconst (pc := 26) (v := 0) dX13_isPerson_26 (by decide) ?_
      exact J_eqo (hk false) (J_zretB (pc := 27) dX13_isPerson_27 rfl)
    · refine J_iconst (pc := 22) (v := 1) dX13_isPerson_22 (by decide) ?_
      refine J_goto (pc := 23) (tgt := 27) dX13_isPerson_23 (by decide) ?_
      exact J_eqo (hk true) (J_zretB (pc := 27) dX13_isPerson_27 rfl)
def f_X13_isFirm (r_t0 : Nat → Int32) (pq0 : Int32) : Bool := (if pq0 < 0 then (false) else (if (r_t0 3) ≤ pq0 then (false) else (true)))
set_option maxRecDepth 100000 in
set_option maxHeartbeats 4000000 in
theorem s_X13_isFirm (g : JG) (d : JD) (t : Nat) (pq0 : Int32) (h0 : j_sh g 0 TS_W RS_W) (ht : j_sh g t TS_ML RS_ML) (hla : g.2.2.1 57 3 = some t) : JM mi_X13_isFirm 0 0 (g, d) [.ref 57, .int pq0] (some (some (.int (j_b (f_X13_isFirm (d.1 t) pq0))), (g, d))) := by
  refine JM_of (by decide) rfl (Nat.le_of_ble_eq_true rfl) ?_
  refine J_loc (loc' := [(0, .ref 57), (1, .int pq0)]) [0, 1] rfl ?_
  obtain ⟨k, hk⟩ : ∃ k : Bool → Option (Option Value × JH), ∀ r9, k r9 = some (some (.int (j_b r9)), (g, d)) := ⟨_, fun _ => rfl⟩
  refine J_eqo (hk (f_X13_isFirm (d.1 t) pq0)).symm ?_
  unfold f_X13_isFirm
  refine J_aload_n (pc := 0) 0 dX13_isFirm_0 rfl rfl ?_
  refine J_getR (pc := 1) dX13_isFirm_1 fl_X13_321 (h0.lt 57 (by decide)) (h0.ty 57 rfl) rfl hla ?_
  refine J_ifnull (pc := 4) dX13_isFirm_4 ?_
  refine J_iload_n (pc := 7) 1 dX13_isFirm_7 rfl rfl ?_
  refine K_if_lt (K := k) (pc := 8) (tgt := 26) dX13_isFirm_8 (by decide) (fun z8 => ?_) (fun z8 => ?_)
  · refine J_iconst (pc := 26) (v := 0) dX13_isFirm_26 (by decide) ?_
    exact J_eqo (hk false) (J_zretB (pc := 27) dX13_isFirm_27 rfl)
  · refine J_iload_n (pc := 11) 1 dX13_isFirm_11 rfl rfl ?_
    refine J_aload_n (pc := 12) 0 dX13_isFirm_12 rfl rfl ?_
    refine J_getR (pc := 13) dX13_isFirm_13 fl_X13_321 (h0.lt 57 (by decide)) (h0.ty 57 rfl) rfl hla ?_
    refine J_getI (pc := 16) dX13_isFirm_16 fl_X13_243 (ht.lt 0 (by decide)) (ht.ty 0 rfl) rfl ?_
    refine K_icmp_ge (K := k) (pc := 19) (tgt := 26) dX13_isFirm_19 (by decide) (fun z19 => ?_) (fun z19 => ?_)
    · refine J_iconst (pc := 26) (v := 0) dX13_isFirm_26 (by decide) ?_
      exact J_eqo (hk false) (J_zretB (pc := 27) dX13_isFirm_27 rfl)
    · refine J_iconst (pc := 22) (v := 1) dX13_isFirm_22 (by decide) ?_
      refine J_goto (pc := 23) (tgt := 27) dX13_isFirm_23 (by decide) ?_
      exact J_eqo (hk true) (J_zretB (pc := 27) dX13_isFirm_27 rfl)
def f_X13_works_w2 (s2 : Int32 × JD) : Option ((Int32 × JD) ⊕ (JD)) := (if 6 ≤ s2.1 then some (.inr s2.2) else (if j_out s2.1 9 then none else if j_out s2.1 6 then none else some (.inl (s2.1 + 1, j_sI s2.2 60 s2.1.toNatClampNeg ((s2.2.1 59) s2.1.toNatClampNeg)))))
def f_X13_works (d : JD) : Option (JD) := ((j_wh (f_X13_works_w2 ) j_fuel (0, d)).bind (fun (e2 : JD) => (some e2)))
set_option maxRecDepth 100000 in
set_option maxHeartbeats 4000000 in
theorem s_X13_works (g : JG) (d : JD) (h0 : j_sh g 0 TS_W RS_W) : JM mi_X13_works 0 0 (g, d) [.ref 57] ((f_X13_works d ).bind (fun r9 => some (none, (g, r9)))) := by
  refine JM_of (by decide) rfl (Nat.le_of_ble_eq_true rfl) ?_
  refine J_loc (loc' := [(0, .ref 57)]) [0] rfl ?_
  obtain ⟨k, hk, hk2⟩ : ∃ k : JD → Option (Option Value × JH), (∀ r9, k r9 = some (none, (g, r9))) ∧ (fun r9 : JD => (some (none, (g, r9)) : Option (Option Value × JH))) = k := ⟨_, fun _ => rfl, rfl⟩
  rw [hk2]
  unfold f_X13_works
  refine J_iconst (pc := 0) (v := 0) dX13_works_0 (by decide) ?_
  refine J_istore_n (pc := 1) (loc' := [(1, .int 0), (0, .ref 57)]) dX13_works_1 rfl (by decide) rfl ?_
  refine J_loc (loc' := [(0, .ref 57), (1, .int 0)]) [1, 0] rfl ?_
  refine J_whL (F := f_X13_works_w2 ) (hp := fun (s2 : Int32 × JD) => (g, s2.2)) (lc := fun (s2 : Int32 × JD) => [(0, .ref 57), (1, .int s2.1)]) (XJ := fun (e2 : JD) o9 => J mi_X13_works 0 0 0 0 (g, e2) 26 [] [] o9) (fun s2 k2 hB2 hX2 => ?_) (fun e2 => ?_) _ (0, d)
  · show J mi_X13_works 0 0 0 0 (g, s2.2) 2 [(0, .ref 57), (1, .int s2.1)] [] ((f_X13_works_w2 s2).bind k2)
    unfold f_X13_works_w2
    refine J_iload_n (pc := 2) 1 dX13_works_2 rfl rfl ?_
    refine J_bipush (pc := 3) (v := 6) dX13_works_3 (by decide) ?_
    refine K_icmp_ge (K := (fun x => Option.bind x k2)) (pc := 5) (tgt := 26) dX13_works_5 (by decide) (fun z5 => ?_) (fun z5 => ?_)
    · refine J_loc (loc' := []) [] rfl ?_
      exact hX2 s2.2
    · refine J_aload_n (pc := 8) 0 dX13_works_8 rfl rfl ?_
      refine J_getR (pc := 9) dX13_works_9 fl_X13_21 (h0.lt 57 (by decide)) (h0.ty 57 rfl) rfl (h0.rf 57 rfl) ?_
      refine J_iload_n (pc := 12) 1 dX13_works_12 rfl rfl ?_
      refine J_aload_n (pc := 13) 0 dX13_works_13 rfl rfl ?_
      refine J_getR (pc := 14) dX13_works_14 fl_X13_17 (h0.lt 57 (by decide)) (h0.ty 57 rfl) rfl (h0.rf 56 rfl) ?_
      refine J_iload_n (pc := 17) 1 dX13_works_17 rfl rfl ?_
      refine J_guard (fun z18 => ?_)
      refine J_iald (pc := 18) dX13_works_18 (h0.lt 59 (by decide)) (h0.ty 59 rfl) z18 ?_
      refine J_guard (fun z19 => ?_)
      refine J_iast (pc := 19) dX13_works_19 (h0.lt 60 (by decide)) (h0.ty 60 rfl) z19 ?_
      refine J_iinc (pc := 20) (v := s2.1 + 1) (loc' := [(1, .int (s2.1 + 1)), (0, .ref 57)]) 1 dX13_works_20 rfl rfl (by decide) rfl ?_
      refine J_goto (pc := 23) (tgt := 2) dX13_works_23 (by decide) ?_
      refine J_loc (loc' := [(0, .ref 57), (1, .int (s2.1 + 1))]) [1, 0] rfl ?_
      exact hB2 (s2.1 + 1, j_sI s2.2 60 s2.1.toNatClampNeg ((s2.2.1 59) s2.1.toNatClampNeg))
  · show J mi_X13_works 0 0 0 0 (g, e2) 26 [] [] (_)
    exact J_eqo (hk e2) (J_vret (pc := 26) dX13_works_26 rfl)
