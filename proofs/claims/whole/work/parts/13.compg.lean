def f_X11_mostBy_j24 (a : Nat) (d24 : JD) : Option (Int32 × JD) := (j_let (f_X11_refused d24 2) (fun q26 => some (q26.1, q26.2)))
def f_X11_mostBy (a : Nat) (d : JD) (pq0 : Int32) (pq1 : Int32) : Option (Int32 × JD) := (if (f_X11_isPerson (d.1 a) pq0) = true then (if pq1 < 0 then f_X11_mostBy_j24 a d else (if pq1 ≤ 20 then ((f_X1_explore a d ((d.1 22) 0)).bind (fun q45 => (f_X1_mostWealthWithin (q45.1 32) (q45.1 33) (q45.1 36) (q45.1 a) (q45.1 (a + 7)) (q45.1 (a + 8)) pq0 pq1).bind (fun q59 => j_let (f_X11_answered q45 q59) (fun q62 => some (q62.1, q62.2))))) else f_X11_mostBy_j24 a d )) else (j_let (f_X11_refused d 1) (fun q10 => some (q10.1, q10.2))))
set_option maxRecDepth 100000 in
set_option maxHeartbeats 4000000 in
theorem s_X11_mostBy (g : JG) (d : JD) (a : Nat) (pq0 : Int32) (pq1 : Int32) (h0 : j_sh g 0 TS_W RS_W) (ha : j_sh g a TS_CL RS_CL) (hco : g.2.2.1 0 10 = some a) : JM mi_X11_mostBy 0 0 (g, d) [.ref 0, .int pq0, .int pq1] ((f_X11_mostBy a d pq0 pq1).bind (fun r9 => some (some (.int r9.1), (g, r9.2)))) := by
  refine JM_of (by decide) rfl (Nat.le_of_ble_eq_true rfl) ?_
  refine J_loc (loc' := [(0, .ref 0), (1, .int pq0), (2, .int pq1)]) [0, 1, 2] rfl ?_
  obtain ⟨k, hk, hk2⟩ : ∃ k : Int32 × JD → Option (Option Value × JH), (∀ r9, k r9 = some (some (.int r9.1), (g, r9.2))) ∧ (fun r9 : Int32 × JD => (some (some (.int r9.1), (g, r9.2)) : Option (Option Value × JH))) = k := ⟨_, fun _ => rfl, rfl⟩
  rw [hk2]
  unfold f_X11_mostBy
  have hX11_mostBy_j24 : ∀ (d24 : JD) , J mi_X11_mostBy 0 0 0 0 (g, d24) 24 [(0, .ref 0)] [] ((f_X11_mostBy_j24 a d24 ).bind k) := by
    intro d24 
    unfold f_X11_mostBy_j24
    refine J_aload_n (pc := 24) 0 dX11_mostBy_24 rfl rfl ?_
    refine J_iconst (pc := 25) (v := 2) dX11_mostBy_25 (by decide) ?_
    refine JC_lt_i (K := (fun x => Option.bind x k)) (J_callV (mi := mi_X11_mostBy) (mj := mi_X11_refused) (pc := 26) dX11_mostBy_26 ml_X11_102 ok_X11_refused ov_X11_refused ⟨Nat.le_of_ble_eq_true rfl, Nat.le_of_ble_eq_true rfl⟩ rfl (h0.lt 0 (by decide)) (h0.ty 0 rfl) rfl (s_X11_refused g d24 2 h0) rfl (Nat.le_of_ble_eq_true rfl)) (fun q26 eq26 => ?_)
    exact J_eqo (hk (q26.1, q26.2)) (J_iret (pc := 29) dX11_mostBy_29 rfl)
  refine J_aload_n (pc := 0) 0 dX11_mostBy_0 rfl rfl ?_
  refine J_iload_n (pc := 1) 1 dX11_mostBy_1 rfl rfl ?_
  refine JC_pt_i (J_callV (mi := mi_X11_mostBy) (mj := mi_X11_isPerson) (pc := 2) dX11_mostBy_2 ml_X11_174 ok_X11_isPerson ov_X11_isPerson ⟨Nat.le_of_ble_eq_true rfl, Nat.le_of_ble_eq_true rfl⟩ rfl (h0.lt 0 (by decide)) (h0.ty 0 rfl) rfl (s_X11_isPerson g d a pq0 h0 ha hco) rfl (Nat.le_of_ble_eq_true rfl)) ?_
  refine K_ifne_b (K := (fun x => Option.bind x k)) (pc := 5) (tgt := 14) dX11_mostBy_5 (by decide) (fun z5 => ?_) (fun z5 => ?_)
  · refine J_iload_n (pc := 14) 2 dX11_mostBy_14 rfl rfl ?_
    refine K_if_lt (K := (fun x => Option.bind x k)) (pc := 15) (tgt := 24) dX11_mostBy_15 (by decide) (fun z15 => ?_) (fun z15 => ?_)
    · refine J_loc (loc' := [(0, .ref 0)]) [0] rfl ?_
      exact hX11_mostBy_j24 d 
    · refine J_iload_n (pc := 18) 2 dX11_mostBy_18 rfl rfl ?_
      refine J_bipush (pc := 19) (v := 20) dX11_mostBy_19 (by decide) ?_
      refine K_icmp_le (K := (fun x => Option.bind x k)) (pc := 21) (tgt := 30) dX11_mostBy_21 (by decide) (fun z21 => ?_) (fun z21 => ?_)
      · refine J_aload_n (pc := 30) 0 dX11_mostBy_30 rfl rfl ?_
        refine J_getR (pc := 31) dX11_mostBy_31 fl_X11_50 (h0.lt 0 (by decide)) (h0.ty 0 rfl) rfl (h0.rf 6 rfl) ?_
        refine J_aload_n (pc := 34) 0 dX11_mostBy_34 rfl rfl ?_
        refine J_getR (pc := 35) dX11_mostBy_35 fl_X11_78 (h0.lt 0 (by decide)) (h0.ty 0 rfl) rfl hco ?_
        refine J_aload_n (pc := 38) 0 dX11_mostBy_38 rfl rfl ?_
        refine J_getR (pc := 39) dX11_mostBy_39 fl_X11_28 (h0.lt 0 (by decide)) (h0.ty 0 rfl) rfl (h0.rf 2 rfl) ?_
        refine J_getI (pc := 42) dX11_mostBy_42 fl_X11_159 (h0.lt 22 (by decide)) (h0.ty 22 rfl) rfl ?_
        refine JC_pe_v (J_callV (mi := mi_X11_mostBy) (mj := mi_X1_explore) (pc := 45) dX11_mostBy_45 ml_X11_223 ok_X1_explore ov_X1_explore ⟨Nat.le_of_ble_eq_true rfl, Nat.le_of_ble_eq_true rfl⟩ rfl (h0.lt 32 (by decide)) (h0.ty 32 rfl) rfl (s_X1_explore g d a ((d.1 22) 0) h0 ha) rfl (Nat.le_of_ble_eq_true rfl)) (fun q45 => ?_)
        refine J_aload_n (pc := 48) 0 dX11_mostBy_48 rfl rfl ?_
        refine J_aload_n (pc := 49) 0 dX11_mostBy_49 rfl rfl ?_
        refine J_getR (pc := 50) dX11_mostBy_50 fl_X11_50 (h0.lt 0 (by decide)) (h0.ty 0 rfl) rfl (h0.rf 6 rfl) ?_
        refine J_aload_n (pc := 53) 0 dX11_mostBy_53 rfl rfl ?_
        refine J_getR (pc := 54) dX11_mostBy_54 fl_X11_78 (h0.lt 0 (by decide)) (h0.ty 0 rfl) rfl hco ?_
        refine J_iload_n (pc := 57) 1 dX11_mostBy_57 rfl rfl ?_
        refine J_iload_n (pc := 58) 2 dX11_mostBy_58 rfl rfl ?_
        refine JC_pp_i (J_callV (mi := mi_X11_mostBy) (mj := mi_X1_mostWealthWithin) (pc := 59) dX11_mostBy_59 ml_X11_254 ok_X1_mostWealthWithin ov_X1_mostWealthWithin ⟨Nat.le_of_ble_eq_true rfl, Nat.le_of_ble_eq_true rfl⟩ rfl (h0.lt 32 (by decide)) (h0.ty 32 rfl) rfl (s_X1_mostWealthWithin g q45 a pq0 pq1 h0 ha) rfl (Nat.le_of_ble_eq_true rfl)) (fun q59 => ?_)
        refine JC_lt_i (K := (fun x => Option.bind x k)) (J_callV (mi := mi_X11_mostBy) (mj := mi_X11_answered) (pc := 62) dX11_mostBy_62 ml_X11_120 ok_X11_answered ov_X11_answered ⟨Nat.le_of_ble_eq_true rfl, Nat.le_of_ble_eq_true rfl⟩ rfl (h0.lt 0 (by decide)) (h0.ty 0 rfl) rfl (s_X11_answered g q45 q59 h0) rfl (Nat.le_of_ble_eq_true rfl)) (fun q62 eq62 => ?_)
        exact J_eqo (hk (q62.1, q62.2)) (J_iret (pc := 65) dX11_mostBy_65 rfl)
      · refine J_loc (loc' := [(0, .ref 0)]) [0] rfl ?_
        exact hX11_mostBy_j24 d 
  · refine J_aload_n (pc := 8) 0 dX11_mostBy_8 rfl rfl ?_
    refine J_iconst (pc := 9) (v := 1) dX11_mostBy_9 (by decide) ?_
    refine JC_lt_i (K := (fun x => Option.bind x k)) (J_callV (mi := mi_X11_mostBy) (mj := mi_X11_refused) (pc := 10) dX11_mostBy_10 ml_X11_102 ok_X11_refused ov_X11_refused ⟨Nat.le_of_ble_eq_true rfl, Nat.le_of_ble_eq_true rfl⟩ rfl (h0.lt 0 (by decide)) (h0.ty 0 rfl) rfl (s_X11_refused g d 1 h0) rfl (Nat.le_of_ble_eq_true rfl)) (fun q10 eq10 => ?_)
    exact J_eqo (hk (q10.1, q10.2)) (J_iret (pc := 13) dX11_mostBy_13 rfl)
def f_X11_reach (a : Nat) (d : JD) : Option (Int32 × JD) := (if (f_X11_hasLand (d.1 a)) = true then ((f_X1_explore a d ((d.1 22) 0)).bind (fun q28 => j_let (f_X11_answered q28 ((q28.1 32) 6)) (fun q39 => some (q39.1, q39.2)))) else (j_let (f_X11_refused d 1) (fun q9 => some (q9.1, q9.2))))
set_option maxRecDepth 100000 in
set_option maxHeartbeats 4000000 in
theorem s_X11_reach (g : JG) (d : JD) (a : Nat) (h0 : j_sh g 0 TS_W RS_W) (ha : j_sh g a TS_CL RS_CL) (hco : g.2.2.1 0 10 = some a) : JM mi_X11_reach 0 0 (g, d) [.ref 0] ((f_X11_reach a d ).bind (fun r9 => some (some (.int r9.1), (g, r9.2)))) := by
  refine JM_of (by decide) rfl (Nat.le_of_ble_eq_true rfl) ?_
  refine J_loc (loc' := [(0, .ref 0)]) [0] rfl ?_
  obtain ⟨k, hk, hk2⟩ : ∃ k : Int32 × JD → Option (Option Value × JH), (∀ r9, k r9 = some (some (.int r9.1), (g, r9.2))) ∧ (fun r9 : Int32 × JD => (some (some (.int r9.1), (g, r9.2)) : Option (Option Value × JH))) = k := ⟨_, fun _ => rfl, rfl⟩
  rw [hk2]
  unfold f_X11_reach
  refine J_aload_n (pc := 0) 0 dX11_reach_0 rfl rfl ?_
  refine JC_pt_i (J_callV (mi := mi_X11_reach) (mj := mi_X11_hasLand) (pc := 1) dX11_reach_1 ml_X11_201 ok_X11_hasLand ov_X11_hasLand ⟨Nat.le_of_ble_eq_true rfl, Nat.le_of_ble_eq_true rfl⟩ rfl (h0.lt 0 (by decide)) (h0.ty 0 rfl) rfl (s_X11_hasLand g d a h0 ha hco) rfl (Nat.le_of_ble_eq_true rfl)) ?_
  refine K_ifne_b (K := (fun x => Option.bind x k)) (pc := 4) (tgt := 13) dX11_reach_4 (by decide) (fun z4 => ?_) (fun z4 => ?_)
  · refine J_aload_n (pc := 13) 0 dX11_reach_13 rfl rfl ?_
    refine J_getR (pc := 14) dX11_reach_14 fl_X11_50 (h0.lt 0 (by decide)) (h0.ty 0 rfl) rfl (h0.rf 6 rfl) ?_
    refine J_aload_n (pc := 17) 0 dX11_reach_17 rfl rfl ?_
    refine J_getR (pc := 18) dX11_reach_18 fl_X11_78 (h0.lt 0 (by decide)) (h0.ty 0 rfl) rfl hco ?_
    refine J_aload_n (pc := 21) 0 dX11_reach_21 rfl rfl ?_
    refine J_getR (pc := 22) dX11_reach_22 fl_X11_28 (h0.lt 0 (by decide)) (h0.ty 0 rfl) rfl (h0.rf 2 rfl) ?_
    refine J_getI (pc := 25) dX11_reach_25 fl_X11_159 (h0.lt 22 (by decide)) (h0.ty 22 rfl) rfl ?_
    refine JC_pe_v (J_callV (mi := mi_X11_reach) (mj := mi_X1_explore) (pc := 28) dX11_reach_28 ml_X11_223 ok_X1_explore ov_X1_explore ⟨Nat.le_of_ble_eq_true rfl, Nat.le_of_ble_eq_true rfl⟩ rfl (h0.lt 32 (by decide)) (h0.ty 32 rfl) rfl (s_X1_explore g d a ((d.1 22) 0) h0 ha) rfl (Nat.le_of_ble_eq_true rfl)) (fun q28 => ?_)
    refine J_aload_n (pc := 31) 0 dX11_reach_31 rfl rfl ?_
    refine J_aload_n (pc := 32) 0 dX11_reach_32 rfl rfl ?_
    refine J_getR (pc := 33) dX11_reach_33 fl_X11_50 (h0.lt 0 (by decide)) (h0.ty 0 rfl) rfl (h0.rf 6 rfl) ?_
    refine J_getI (pc := 36) dX11_reach_36 fl_X11_257 (h0.lt 32 (by decide)) (h0.ty 32 rfl) rfl ?_
    refine JC_lt_i (K := (fun x => Option.bind x k)) (J_callV (mi := mi_X11_reach) (mj := mi_X11_answered) (pc := 39) dX11_reach_39 ml_X11_120 ok_X11_answered ov_X11_answered ⟨Nat.le_of_ble_eq_true rfl, Nat.le_of_ble_eq_true rfl⟩ rfl (h0.lt 0 (by decide)) (h0.ty 0 rfl) rfl (s_X11_answered g q28 ((q28.1 32) 6) h0) rfl (Nat.le_of_ble_eq_true rfl)) (fun q39 eq39 => ?_)
    exact J_eqo (hk (q39.1, q39.2)) (J_iret (pc := 42) dX11_reach_42 rfl)
  · refine J_aload_n (pc := 7) 0 dX11_reach_7 rfl rfl ?_
    refine J_iconst (pc := 8) (v := 1) dX11_reach_8 (by decide) ?_
    refine JC_lt_i (K := (fun x => Option.bind x k)) (J_callV (mi := mi_X11_reach) (mj := mi_X11_refused) (pc := 9) dX11_reach_9 ml_X11_102 ok_X11_refused ov_X11_refused ⟨Nat.le_of_ble_eq_true rfl, Nat.le_of_ble_eq_true rfl⟩ rfl (h0.lt 0 (by decide)) (h0.ty 0 rfl) rfl (s_X11_refused g d 1 h0) rfl (Nat.le_of_ble_eq_true rfl)) (fun q9 eq9 => ?_)
    exact J_eqo (hk (q9.1, q9.2)) (J_iret (pc := 12) dX11_reach_12 rfl)
def f_X11_cover_j51 (a : Nat) (d51 : JD) (y0_51 : Int32) : Option (Int32 × JD) := (j_let (f_X11_answered d51 y0_51) (fun q51 => some (q51.1, q51.2)))
def f_X11_cover (a : Nat) (d : JD) : Option (Int32 × JD) := (if (f_X11_hasLand (d.1 a)) = true then ((f_X8_make a d).bind (fun q21 => if ((q21.1 38) 1) = (-1) then (f_X11_cover_j51 a q21 (-2)) else (f_X11_cover_j51 a q21 (f_X10_hooksIn ((q21.1 38) 1))))) else (j_let (f_X11_refused d 1) (fun q9 => some (q9.1, q9.2))))
set_option maxRecDepth 100000 in
set_option maxHeartbeats 4000000 in
theorem s_X11_cover (g : JG) (d : JD) (a : Nat) (h0 : j_sh g 0 TS_W RS_W) (ha : j_sh g a TS_CL RS_CL) (hco : g.2.2.1 0 10 = some a) : JM mi_X11_cover 0 0 (g, d) [.ref 0] ((f_X11_cover a d ).bind (fun r9 => some (some (.int r9.1), (g, r9.2)))) := by
  refine JM_of (by decide) rfl (Nat.le_of_ble_eq_true rfl) ?_
  refine J_loc (loc' := [(0, .ref 0)]) [0] rfl ?_
  obtain ⟨k, hk, hk2⟩ : ∃ k : Int32 × JD → Option (Option Value × JH), (∀ r9, k r9 = some (some (.int r9.1), (g, r9.2))) ∧ (fun r9 : Int32 × JD => (some (some (.int r9.1), (g, r9.2)) : Option (Option Value × JH))) = k := ⟨_, fun _ => rfl, rfl⟩
  rw [hk2]
  unfold f_X11_cover
  have hX11_cover_j51 : ∀ (d51 : JD) (y0_51 : Int32), J mi_X11_cover 0 0 0 0 (g, d51) 51 [] [.int y0_51, .ref 0] ((f_X11_cover_j51 a d51 y0_51).bind k) := by
    intro d51 y0_51
    unfold f_X11_cover_j51
    refine JC_lt_i (K := (fun x => Option.bind x k)) (J_callV (mi := mi_X11_cover) (mj := mi_X11_answered) (pc := 51) dX11_cover_51 ml_X11_120 ok_X11_answered ov_X11_answered ⟨Nat.le_of_ble_eq_true rfl, Nat.le_of_ble_eq_true rfl⟩ rfl (h0.lt 0 (by decide)) (h0.ty 0 rfl) rfl (s_X11_answered g d51 y0_51 h0) rfl (Nat.le_of_ble_eq_true rfl)) (fun q51 eq51 => ?_)
    exact J_eqo (hk (q51.1, q51.2)) (J_iret (pc := 54) dX11_cover_54 rfl)
  refine J_aload_n (pc := 0) 0 dX11_cover_0 rfl rfl ?_
  refine JC_pt_i (J_callV (mi := mi_X11_cover) (mj := mi_X11_hasLand) (pc := 1) dX11_cover_1 ml_X11_201 ok_X11_hasLand ov_X11_hasLand ⟨Nat.le_of_ble_eq_true rfl, Nat.le_of_ble_eq_true rfl⟩ rfl (h0.lt 0 (by decide)) (h0.ty 0 rfl) rfl (s_X11_hasLand g d a h0 ha hco) rfl (Nat.le_of_ble_eq_true rfl)) ?_
  refine K_ifne_b (K := (fun x => Option.bind x k)) (pc := 4) (tgt := 13) dX11_cover_4 (by decide) (fun z4 => ?_) (fun z4 => ?_)
  · refine J_aload_n (pc := 13) 0 dX11_cover_13 rfl rfl ?_
    refine J_getR (pc := 14) dX11_cover_14 fl_X11_57 (h0.lt 0 (by decide)) (h0.ty 0 rfl) rfl (h0.rf 7 rfl) ?_
    refine J_aload_n (pc := 17) 0 dX11_cover_17 rfl rfl ?_
    refine J_getR (pc := 18) dX11_cover_18 fl_X11_78 (h0.lt 0 (by decide)) (h0.ty 0 rfl) rfl hco ?_
    refine JC_pe_v (J_callV (mi := mi_X11_cover) (mj := mi_X8_make) (pc := 21) dX11_cover_21 ml_X11_258 ok_X8_make ov_X8_make ⟨Nat.le_of_ble_eq_true rfl, Nat.le_of_ble_eq_true rfl⟩ rfl (h0.lt 38 (by decide)) (h0.ty 38 rfl) rfl (s_X8_make g d a h0 ha) rfl (Nat.le_of_ble_eq_true rfl)) (fun q21 => ?_)
    refine J_aload_n (pc := 24) 0 dX11_cover_24 rfl rfl ?_
    refine J_aload_n (pc := 25) 0 dX11_cover_25 rfl rfl ?_
    refine J_getR (pc := 26) dX11_cover_26 fl_X11_57 (h0.lt 0 (by decide)) (h0.ty 0 rfl) rfl (h0.rf 7 rfl) ?_
    refine J_getI (pc := 29) dX11_cover_29 fl_X11_262 (h0.lt 38 (by decide)) (h0.ty 38 rfl) rfl ?_
    refine J_iconst (pc := 32) (v := (-1)) dX11_cover_32 (by decide) ?_
    refine K_icmp_ne (K := (fun x => Option.bind x k)) (pc := 33) (tgt := 41) dX11_cover_33 (by decide) (fun z33 => ?_) (fun z33 => ?_)
    · refine J_aload_n (pc := 41) 0 dX11_cover_41 rfl rfl ?_
      refine J_getR (pc := 42) dX11_cover_42 fl_X11_57 (h0.lt 0 (by decide)) (h0.ty 0 rfl) rfl (h0.rf 7 rfl) ?_
      refine J_getI (pc := 45) dX11_cover_45 fl_X11_262 (h0.lt 38 (by decide)) (h0.ty 38 rfl) rfl ?_
      refine JC_pt_i (J_callS (mi := mi_X11_cover) (mj := mi_X10_hooksIn) (pc := 48) dX11_cover_48 ml_X11_265 ok_X10_hooksIn os_X10_hooksIn ⟨Nat.le_of_ble_eq_true rfl, Nat.le_of_ble_eq_true rfl⟩ rfl (s_X10_hooksIn g q21 ((q21.1 38) 1)) rfl (Nat.le_of_ble_eq_true rfl)) ?_
      refine J_loc (loc' := []) [] rfl ?_
      exact hX11_cover_j51 q21 (f_X10_hooksIn ((q21.1 38) 1))
    · refine J_bipush (pc := 36) (v := (-2)) dX11_cover_36 (by decide) ?_
      refine J_goto (pc := 38) (tgt := 51) dX11_cover_38 (by decide) ?_
      refine J_loc (loc' := []) [] rfl ?_
      exact hX11_cover_j51 q21 (-2)
  · refine J_aload_n (pc := 7) 0 dX11_cover_7 rfl rfl ?_
    refine J_iconst (pc := 8) (v := 1) dX11_cover_8 (by decide) ?_
    refine JC_lt_i (K := (fun x => Option.bind x k)) (J_callV (mi := mi_X11_cover) (mj := mi_X11_refused) (pc := 9) dX11_cover_9 ml_X11_102 ok_X11_refused ov_X11_refused ⟨Nat.le_of_ble_eq_true rfl, Nat.le_of_ble_eq_true rfl⟩ rfl (h0.lt 0 (by decide)) (h0.ty 0 rfl) rfl (s_X11_refused g d 1 h0) rfl (Nat.le_of_ble_eq_true rfl)) (fun q9 eq9 => ?_)
    exact J_eqo (hk (q9.1, q9.2)) (J_iret (pc := 12) dX11_cover_12 rfl)
def f_X11_coverAt_j53 (a : Nat) (d53 : JD) (y0_53 : Int32) : Option (Int32 × JD) := (j_let (f_X11_answered d53 y0_53) (fun q53 => some (q53.1, q53.2)))
def f_X11_coverAt (a : Nat) (d : JD) (pq0 : Int32) : Option (Int32 × JD) := (if (f_X11_isGate (d.1 a) pq0) = true then ((f_X8_make a d).bind (fun q22 => if ((q22.1 38) 1) = (-1) then (f_X11_coverAt_j53 a q22 (-2)) else (f_X11_coverAt_j53 a q22 (f_X10_hungAt ((q22.1 38) 1) pq0)))) else (j_let (f_X11_refused d 1) (fun q10 => some (q10.1, q10.2))))
set_option maxRecDepth 100000 in
set_option maxHeartbeats 4000000 in
theorem s_X11_coverAt (g : JG) (d : JD) (a : Nat) (pq0 : Int32) (h0 : j_sh g 0 TS_W RS_W) (ha : j_sh g a TS_CL RS_CL) (hco : g.2.2.1 0 10 = some a) : JM mi_X11_coverAt 0 0 (g, d) [.ref 0, .int pq0] ((f_X11_coverAt a d pq0).bind (fun r9 => some (some (.int r9.1), (g, r9.2)))) := by
  refine JM_of (by decide) rfl (Nat.le_of_ble_eq_true rfl) ?_
  refine J_loc (loc' := [(0, .ref 0), (1, .int pq0)]) [0, 1] rfl ?_
  obtain ⟨k, hk, hk2⟩ : ∃ k : Int32 × JD → Option (Option Value × JH), (∀ r9, k r9 = some (some (.int r9.1), (g, r9.2))) ∧ (fun r9 : Int32 × JD => (some (some (.int r9.1), (g, r9.2)) : Option (Option Value × JH))) = k := ⟨_, fun _ => rfl, rfl⟩
  rw [hk2]
  unfold f_X11_coverAt
  have hX11_coverAt_j53 : ∀ (d53 : JD) (y0_53 : Int32), J mi_X11_coverAt 0 0 0 0 (g, d53) 53 [] [.int y0_53, .ref 0] ((f_X11_coverAt_j53 a d53 y0_53).bind k) := by
    intro d53 y0_53
    unfold f_X11_coverAt_j53
    refine JC_lt_i (K := (fun x => Option.bind x k)) (J_callV (mi := mi_X11_coverAt) (mj := mi_X11_answered) (pc := 53) dX11_coverAt_53 ml_X11_120 ok_X11_answered ov_X11_answered ⟨Nat.le_of_ble_eq_true rfl, Nat.le_of_ble_eq_true rfl⟩ rfl (h0.lt 0 (by decide)) (h0.ty 0 rfl) rfl (s_X11_answered g d53 y0_53 h0) rfl (Nat.le_of_ble_eq_true rfl)) (fun q53 eq53 => ?_)
    exact J_eqo (hk (q53.1, q53.2)) (J_iret (pc := 56) dX11_coverAt_56 rfl)
  refine J_aload_n (pc := 0) 0 dX11_coverAt_0 rfl rfl ?_
  refine J_iload_n (pc := 1) 1 dX11_coverAt_1 rfl rfl ?_
  refine JC_pt_i (J_callV (mi := mi_X11_coverAt) (mj := mi_X11_isGate) (pc := 2) dX11_coverAt_2 ml_X11_142 ok_X11_isGate ov_X11_isGate ⟨Nat.le_of_ble_eq_true rfl, Nat.le_of_ble_eq_true rfl⟩ rfl (h0.lt 0 (by decide)) (h0.ty 0 rfl) rfl (s_X11_isGate g d a pq0 h0 ha hco) rfl (Nat.le_of_ble_eq_true rfl)) ?_
  refine K_ifne_b (K := (fun x => Option.bind x k)) (pc := 5) (tgt := 14) dX11_coverAt_5 (by decide) (fun z5 => ?_) (fun z5 => ?_)
  · refine J_aload_n (pc := 14) 0 dX11_coverAt_14 rfl rfl ?_
    refine J_getR (pc := 15) dX11_coverAt_15 fl_X11_57 (h0.lt 0 (by decide)) (h0.ty 0 rfl) rfl (h0.rf 7 rfl) ?_
    refine J_aload_n (pc := 18) 0 dX11_coverAt_18 rfl rfl ?_
    refine J_getR (pc := 19) dX11_coverAt_19 fl_X11_78 (h0.lt 0 (by decide)) (h0.ty 0 rfl) rfl hco ?_
    refine JC_pe_v (J_callV (mi := mi_X11_coverAt) (mj := mi_X8_make) (pc := 22) dX11_coverAt_22 ml_X11_258 ok_X8_make ov_X8_make ⟨Nat.le_of_ble_eq_true rfl, Nat.le_of_ble_eq_true rfl⟩ rfl (h0.lt 38 (by decide)) (h0.ty 38 rfl) rfl (s_X8_make g d a h0 ha) rfl (Nat.le_of_ble_eq_true rfl)) (fun q22 => ?_)
    refine J_aload_n (pc := 25) 0 dX11_coverAt_25 rfl rfl ?_
    refine J_aload_n (pc := 26) 0 dX11_coverAt_26 rfl rfl ?_
    refine J_getR (pc := 27) dX11_coverAt_27 fl_X11_57 (h0.lt 0 (by decide)) (h0.ty 0 rfl) rfl (h0.rf 7 rfl) ?_
    refine J_getI (pc := 30) dX11_coverAt_30 fl_X11_262 (h0.lt 38 (by decide)) (h0.ty 38 rfl) rfl ?_
    refine J_iconst (pc := 33) (v := (-1)) dX11_coverAt_33 (by decide) ?_
    refine K_icmp_ne (K := (fun x => Option.bind x k)) (pc := 34) (tgt := 42) dX11_coverAt_34 (by decide) (fun z34 => ?_) (fun z34 => ?_)
    · refine J_aload_n (pc := 42) 0 dX11_coverAt_42 rfl rfl ?_
      refine J_getR (pc := 43) dX11_coverAt_43 fl_X11_57 (h0.lt 0 (by decide)) (h0.ty 0 rfl) rfl (h0.rf 7 rfl) ?_
      refine J_getI (pc := 46) dX11_coverAt_46 fl_X11_262 (h0.lt 38 (by decide)) (h0.ty 38 rfl) rfl ?_
      refine J_iload_n (pc := 49) 1 dX11_coverAt_49 rfl rfl ?_
      refine JC_pt_i (J_callS (mi := mi_X11_coverAt) (mj := mi_X10_hungAt) (pc := 50) dX11_coverAt_50 ml_X11_162 ok_X10_hungAt os_X10_hungAt ⟨Nat.le_of_ble_eq_true rfl, Nat.le_of_ble_eq_true rfl⟩ rfl (s_X10_hungAt g q22 ((q22.1 38) 1) pq0) rfl (Nat.le_of_ble_eq_true rfl)) ?_
      refine J_loc (loc' := []) [] rfl ?_
      exact hX11_coverAt_j53 q22 (f_X10_hungAt ((q22.1 38) 1) pq0)
    · refine J_bipush (pc := 37) (v := (-2)) dX11_coverAt_37 (by decide) ?_
      refine J_goto (pc := 39) (tgt := 53) dX11_coverAt_39 (by decide) ?_
      refine J_loc (loc' := []) [] rfl ?_
      exact hX11_coverAt_j53 q22 (-2)
  · refine J_aload_n (pc := 8) 0 dX11_coverAt_8 rfl rfl ?_
    refine J_iconst (pc := 9) (v := 1) dX11_coverAt_9 (by decide) ?_
    refine JC_lt_i (K := (fun x => Option.bind x k)) (J_callV (mi := mi_X11_coverAt) (mj := mi_X11_refused) (pc := 10) dX11_coverAt_10 ml_X11_102 ok_X11_refused ov_X11_refused ⟨Nat.le_of_ble_eq_true rfl, Nat.le_of_ble_eq_true rfl⟩ rfl (h0.lt 0 (by decide)) (h0.ty 0 rfl) rfl (s_X11_refused g d 1 h0) rfl (Nat.le_of_ble_eq_true rfl)) (fun q10 eq10 => ?_)
    exact J_eqo (hk (q10.1, q10.2)) (J_iret (pc := 13) dX11_coverAt_13 rfl)
def f_X11_stills (a : Nat) (d : JD) : Option (Int32 × JD) := (if (f_X11_hasLand (d.1 a)) = true then ((f_X8_make a d).bind (fun q21 => j_let (f_X11_answered q21 ((q21.1 38) 2)) (fun q32 => some (q32.1, q32.2)))) else (j_let (f_X11_refused d 1) (fun q9 => some (q9.1, q9.2))))
set_option maxRecDepth 100000 in
set_option maxHeartbeats 4000000 in
theorem s_X11_stills (g : JG) (d : JD) (a : Nat) (h0 : j_sh g 0 TS_W RS_W) (ha : j_sh g a TS_CL RS_CL) (hco : g.2.2.1 0 10 = some a) : JM mi_X11_stills 0 0 (g, d) [.ref 0] ((f_X11_stills a d ).bind (fun r9 => some (some (.int r9.1), (g, r9.2)))) := by
  refine JM_of (by decide) rfl (Nat.le_of_ble_eq_true rfl) ?_
  refine J_loc (loc' := [(0, .ref 0)]) [0] rfl ?_
  obtain ⟨k, hk, hk2⟩ : ∃ k : Int32 × JD → Option (Option Value × JH), (∀ r9, k r9 = some (some (.int r9.1), (g, r9.2))) ∧ (fun r9 : Int32 × JD => (some (some (.int r9.1), (g, r9.2)) : Option (Option Value × JH))) = k := ⟨_, fun _ => rfl, rfl⟩
  rw [hk2]
  unfold f_X11_stills
  refine J_aload_n (pc := 0) 0 dX11_stills_0 rfl rfl ?_
  refine JC_pt_i (J_callV (mi := mi_X11_stills) (mj := mi_X11_hasLand) (pc := 1) dX11_stills_1 ml_X11_201 ok_X11_hasLand ov_X11_hasLand ⟨Nat.le_of_ble_eq_true rfl, Nat.le_of_ble_eq_true rfl⟩ rfl (h0.lt 0 (by decide)) (h0.ty 0 rfl) rfl (s_X11_hasLand g d a h0 ha hco) rfl (Nat.le_of_ble_eq_true rfl)) ?_
  refine K_ifne_b (K := (fun x => Option.bind x k)) (pc := 4) (tgt := 13) dX11_stills_4 (by decide) (fun z4 => ?_) (fun z4 => ?_)
  · refine J_aload_n (pc := 13) 0 dX11_stills_13 rfl rfl ?_
    refine J_getR (pc := 14) dX11_stills_14 fl_X11_57 (h0.lt 0 (by decide)) (h0.ty 0 rfl) rfl (h0.rf 7 rfl) ?_
    refine J_aload_n (pc := 17) 0 dX11_stills_17 rfl rfl ?_
    refine J_getR (pc := 18) dX11_stills_18 fl_X11_78 (h0.lt 0 (by decide)) (h0.ty 0 rfl) rfl hco ?_
    refine JC_pe_v (J_callV (mi := mi_X11_stills) (mj := mi_X8_make) (pc := 21) dX11_stills_21 ml_X11_258 ok_X8_make ov_X8_make ⟨Nat.le_of_ble_eq_true rfl, Nat.le_of_ble_eq_true rfl⟩ rfl (h0.lt 38 (by decide)) (h0.ty 38 rfl) rfl (s_X8_make g d a h0 ha) rfl (Nat.le_of_ble_eq_true rfl)) (fun q21 => ?_)
    refine J_aload_n (pc := 24) 0 dX11_stills_24 rfl rfl ?_
    refine J_aload_n (pc := 25) 0 dX11_stills_25 rfl rfl ?_
    refine J_getR (pc := 26) dX11_stills_26 fl_X11_57 (h0.lt 0 (by decide)) (h0.ty 0 rfl) rfl (h0.rf 7 rfl) ?_
    refine J_getI (pc := 29) dX11_stills_29 fl_X11_268 (h0.lt 38 (by decide)) (h0.ty 38 rfl) rfl ?_
    refine JC_lt_i (K := (fun x => Option.bind x k)) (J_callV (mi := mi_X11_stills) (mj := mi_X11_answered) (pc := 32) dX11_stills_32 ml_X11_120 ok_X11_answered ov_X11_answered ⟨Nat.le_of_ble_eq_true rfl, Nat.le_of_ble_eq_true rfl⟩ rfl (h0.lt 0 (by decide)) (h0.ty 0 rfl) rfl (s_X11_answered g q21 ((q21.1 38) 2) h0) rfl (Nat.le_of_ble_eq_true rfl)) (fun q32 eq32 => ?_)
    exact J_eqo (hk (q32.1, q32.2)) (J_iret (pc := 35) dX11_stills_35 rfl)
  · refine J_aload_n (pc := 7) 0 dX11_stills_7 rfl rfl ?_
    refine J_iconst (pc := 8) (v := 1) dX11_stills_8 (by decide) ?_
    refine JC_lt_i (K := (fun x => Option.bind x k)) (J_callV (mi := mi_X11_stills) (mj := mi_X11_refused) (pc := 9) dX11_stills_9 ml_X11_102 ok_X11_refused ov_X11_refused ⟨Nat.le_of_ble_eq_true rfl, Nat.le_of_ble_eq_true rfl⟩ rfl (h0.lt 0 (by decide)) (h0.ty 0 rfl) rfl (s_X11_refused g d 1 h0) rfl (Nat.le_of_ble_eq_true rfl)) (fun q9 eq9 => ?_)
    exact J_eqo (hk (q9.1, q9.2)) (J_iret (pc := 12) dX11_stills_12 rfl)
def f_X11_isStill_j36 (a : Nat) (d36 : JD) (y0_36 : Int32) : Int32 × JD := (j_let (f_X11_answered d36 y0_36) (fun q36 => (q36.1, q36.2)))
def f_X11_isStill (a : Nat) (d : JD) : Int32 × JD := (if (f_X11_hasLand (d.1 a)) = true then (if (f_X3_isStillWay (d.1 a) (d.1 (a + 7)) (d.1 (a + 8)) ((d.1 22) 0)) = true then (f_X11_isStill_j36 a d 1) else (f_X11_isStill_j36 a d 0)) else (j_let (f_X11_refused d 1) (fun q9 => (q9.1, q9.2))))
set_option maxRecDepth 100000 in
set_option maxHeartbeats 4000000 in
theorem s_X11_isStill (g : JG) (d : JD) (a : Nat) (h0 : j_sh g 0 TS_W RS_W) (ha : j_sh g a TS_CL RS_CL) (hco : g.2.2.1 0 10 = some a) : JM mi_X11_isStill 0 0 (g, d) [.ref 0] (some (some (.int (f_X11_isStill a d ).1), (g, (f_X11_isStill a d ).2))) := by
  refine JM_of (by decide) rfl (Nat.le_of_ble_eq_true rfl) ?_
  refine J_loc (loc' := [(0, .ref 0)]) [0] rfl ?_
  obtain ⟨k, hk⟩ : ∃ k : Int32 × JD → Option (Option Value × JH), ∀ r9, k r9 = some (some (.int r9.1), (g, r9.2)) := ⟨_, fun _ => rfl⟩
  refine J_eqo (hk (f_X11_isStill a d )).symm ?_
  unfold f_X11_isStill
  have hX11_isStill_j36 : ∀ (d36 : JD) (y0_36 : Int32), J mi_X11_isStill 0 0 0 0 (g, d36) 36 [] [.int y0_36, .ref 0] (k (f_X11_isStill_j36 a d36 y0_36)) := by
    intro d36 y0_36
    unfold f_X11_isStill_j36
    refine JC_lt_i (K := k) (J_callV (mi := mi_X11_isStill) (mj := mi_X11_answered) (pc := 36) dX11_isStill_36 ml_X11_120 ok_X11_answered ov_X11_answered ⟨Nat.le_of_ble_eq_true rfl, Nat.le_of_ble_eq_true rfl⟩ rfl (h0.lt 0 (by decide)) (h0.ty 0 rfl) rfl (s_X11_answered g d36 y0_36 h0) rfl (Nat.le_of_ble_eq_true rfl)) (fun q36 eq36 => ?_)
    exact J_eqo (hk (q36.1, q36.2)) (J_iret (pc := 39) dX11_isStill_39 rfl)
  refine J_aload_n (pc := 0) 0 dX11_isStill_0 rfl rfl ?_
  refine JC_pt_i (J_callV (mi := mi_X11_isStill) (mj := mi_X11_hasLand) (pc := 1) dX11_isStill_1 ml_X11_201 ok_X11_hasLand ov_X11_hasLand ⟨Nat.le_of_ble_eq_true rfl, Nat.le_of_ble_eq_true rfl⟩ rfl (h0.lt 0 (by decide)) (h0.ty 0 rfl) rfl (s_X11_hasLand g d a h0 ha hco) rfl (Nat.le_of_ble_eq_true rfl)) ?_
  refine K_ifne_b (K := k) (pc := 4) (tgt := 13) dX11_isStill_4 (by decide) (fun z4 => ?_) (fun z4 => ?_)
  · refine J_aload_n (pc := 13) 0 dX11_isStill_13 rfl rfl ?_
    refine J_aload_n (pc := 14) 0 dX11_isStill_14 rfl rfl ?_
    refine J_getR (pc := 15) dX11_isStill_15 fl_X11_78 (h0.lt 0 (by decide)) (h0.ty 0 rfl) rfl hco ?_
    refine J_aload_n (pc := 18) 0 dX11_isStill_18 rfl rfl ?_
    refine J_getR (pc := 19) dX11_isStill_19 fl_X11_28 (h0.lt 0 (by decide)) (h0.ty 0 rfl) rfl (h0.rf 2 rfl) ?_
    refine J_getI (pc := 22) dX11_isStill_22 fl_X11_159 (h0.lt 22 (by decide)) (h0.ty 22 rfl) rfl ?_
    refine JC_pt_i (J_callV (mi := mi_X11_isStill) (mj := mi_X3_isStillWay) (pc := 25) dX11_isStill_25 ml_X11_271 ok_X3_isStillWay ov_X3_isStillWay ⟨Nat.le_of_ble_eq_true rfl, Nat.le_of_ble_eq_true rfl⟩ rfl (ha.lt 0 (by decide)) (ha.ty 0 rfl) rfl (s_X3_isStillWay g d a ((d.1 22) 0) ha) rfl (Nat.le_of_ble_eq_true rfl)) ?_
    refine K_ifeq_b (K := k) (pc := 28) (tgt := 35) dX11_isStill_28 (by decide) (fun z28 => ?_) (fun z28 => ?_)
    · refine J_iconst (pc := 35) (v := 0) dX11_isStill_35 (by decide) ?_
      refine J_loc (loc' := []) [] rfl ?_
      exact hX11_isStill_j36 d 0
    · refine J_iconst (pc := 31) (v := 1) dX11_isStill_31 (by decide) ?_
      refine J_goto (pc := 32) (tgt := 36) dX11_isStill_32 (by decide) ?_
      refine J_loc (loc' := []) [] rfl ?_
      exact hX11_isStill_j36 d 1
  · refine J_aload_n (pc := 7) 0 dX11_isStill_7 rfl rfl ?_
    refine J_iconst (pc := 8) (v := 1) dX11_isStill_8 (by decide) ?_
    refine JC_lt_i (K := k) (J_callV (mi := mi_X11_isStill) (mj := mi_X11_refused) (pc := 9) dX11_isStill_9 ml_X11_102 ok_X11_refused ov_X11_refused ⟨Nat.le_of_ble_eq_true rfl, Nat.le_of_ble_eq_true rfl⟩ rfl (h0.lt 0 (by decide)) (h0.ty 0 rfl) rfl (s_X11_refused g d 1 h0) rfl (Nat.le_of_ble_eq_true rfl)) (fun q9 eq9 => ?_)
    exact J_eqo (hk (q9.1, q9.2)) (J_iret (pc := 12) dX11_isStill_12 rfl)
def f_X11_fairest (a : Nat) (d : JD) : Option (Int32 × JD) := (if (f_X11_hasLand (d.1 a)) = true then ((f_X8_make a d).bind (fun q21 => j_let (f_X11_answered q21 ((q21.1 38) 4)) (fun q32 => some (q32.1, q32.2)))) else (j_let (f_X11_refused d 1) (fun q9 => some (q9.1, q9.2))))
set_option maxRecDepth 100000 in
set_option maxHeartbeats 4000000 in
theorem s_X11_fairest (g : JG) (d : JD) (a : Nat) (h0 : j_sh g 0 TS_W RS_W) (ha : j_sh g a TS_CL RS_CL) (hco : g.2.2.1 0 10 = some a) : JM mi_X11_fairest 0 0 (g, d) [.ref 0] ((f_X11_fairest a d ).bind (fun r9 => some (some (.int r9.1), (g, r9.2)))) := by
  refine JM_of (by decide) rfl (Nat.le_of_ble_eq_true rfl) ?_
  refine J_loc (loc' := [(0, .ref 0)]) [0] rfl ?_
  obtain ⟨k, hk, hk2⟩ : ∃ k : Int32 × JD → Option (Option Value × JH), (∀ r9, k r9 = some (some (.int r9.1), (g, r9.2))) ∧ (fun r9 : Int32 × JD => (some (some (.int r9.1), (g, r9.2)) : Option (Option Value × JH))) = k := ⟨_, fun _ => rfl, rfl⟩
  rw [hk2]
  unfold f_X11_fairest
  refine J_aload_n (pc := 0) 0 dX11_fairest_0 rfl rfl ?_
  refine JC_pt_i (J_callV (mi := mi_X11_fairest) (mj := mi_X11_hasLand) (pc := 1) dX11_fairest_1 ml_X11_201 ok_X11_hasLand ov_X11_hasLand ⟨Nat.le_of_ble_eq_true rfl, Nat.le_of_ble_eq_true rfl⟩ rfl (h0.lt 0 (by decide)) (h0.ty 0 rfl) rfl (s_X11_hasLand g d a h0 ha hco) rfl (Nat.le_of_ble_eq_true rfl)) ?_
  refine K_ifne_b (K := (fun x => Option.bind x k)) (pc := 4) (tgt := 13) dX11_fairest_4 (by decide) (fun z4 => ?_) (fun z4 => ?_)
  · refine J_aload_n (pc := 13) 0 dX11_fairest_13 rfl rfl ?_
    refine J_getR (pc := 14) dX11_fairest_14 fl_X11_57 (h0.lt 0 (by decide)) (h0.ty 0 rfl) rfl (h0.rf 7 rfl) ?_
    refine J_aload_n (pc := 17) 0 dX11_fairest_17 rfl rfl ?_
    refine J_getR (pc := 18) dX11_fairest_18 fl_X11_78 (h0.lt 0 (by decide)) (h0.ty 0 rfl) rfl hco ?_
    refine JC_pe_v (J_callV (mi := mi_X11_fairest) (mj := mi_X8_make) (pc := 21) dX11_fairest_21 ml_X11_258 ok_X8_make ov_X8_make ⟨Nat.le_of_ble_eq_true rfl, Nat.le_of_ble_eq_true rfl⟩ rfl (h0.lt 38 (by decide)) (h0.ty 38 rfl) rfl (s_X8_make g d a h0 ha) rfl (Nat.le_of_ble_eq_true rfl)) (fun q21 => ?_)
    refine J_aload_n (pc := 24) 0 dX11_fairest_24 rfl rfl ?_
    refine J_aload_n (pc := 25) 0 dX11_fairest_25 rfl rfl ?_
    refine J_getR (pc := 26) dX11_fairest_26 fl_X11_57 (h0.lt 0 (by decide)) (h0.ty 0 rfl) rfl (h0.rf 7 rfl) ?_
    refine J_getI (pc := 29) dX11_fairest_29 fl_X11_274 (h0.lt 38 (by decide)) (h0.ty 38 rfl) rfl ?_
    refine JC_lt_i (K := (fun x => Option.bind x k)) (J_callV (mi := mi_X11_fairest) (mj := mi_X11_answered) (pc := 32) dX11_fairest_32 ml_X11_120 ok_X11_answered ov_X11_answered ⟨Nat.le_of_ble_eq_true rfl, Nat.le_of_ble_eq_true rfl⟩ rfl (h0.lt 0 (by decide)) (h0.ty 0 rfl) rfl (s_X11_answered g q21 ((q21.1 38) 4) h0) rfl (Nat.le_of_ble_eq_true rfl)) (fun q32 eq32 => ?_)
    exact J_eqo (hk (q32.1, q32.2)) (J_iret (pc := 35) dX11_fairest_35 rfl)
  · refine J_aload_n (pc := 7) 0 dX11_fairest_7 rfl rfl ?_
    refine J_iconst (pc := 8) (v := 1) dX11_fairest_8 (by decide) ?_
    refine JC_lt_i (K := (fun x => Option.bind x k)) (J_callV (mi := mi_X11_fairest) (mj := mi_X11_refused) (pc := 9) dX11_fairest_9 ml_X11_102 ok_X11_refused ov_X11_refused ⟨Nat.le_of_ble_eq_true rfl, Nat.le_of_ble_eq_true rfl⟩ rfl (h0.lt 0 (by decide)) (h0.ty 0 rfl) rfl (s_X11_refused g d 1 h0) rfl (Nat.le_of_ble_eq_true rfl)) (fun q9 eq9 => ?_)
    exact J_eqo (hk (q9.1, q9.2)) (J_iret (pc := 12) dX11_fairest_12 rfl)
def f_X11_fairAt (a : Nat) (d : JD) (pq0 : Int32) : Option (Int32 × JD) := (if (f_X11_isGate (d.1 a) pq0) = true then ((f_X8_make a d).bind (fun q22 => j_let (f_X11_answered q22 (f_X10_hungAt ((q22.1 38) 3) pq0)) (fun q37 => some (q37.1, q37.2)))) else (j_let (f_X11_refused d 1) (fun q10 => some (q10.1, q10.2))))
set_option maxRecDepth 100000 in
set_option maxHeartbeats 4000000 in
theorem s_X11_fairAt (g : JG) (d : JD) (a : Nat) (pq0 : Int32) (h0 : j_sh g 0 TS_W RS_W) (ha : j_sh g a TS_CL RS_CL) (hco : g.2.2.1 0 10 = some a) : JM mi_X11_fairAt 0 0 (g, d) [.ref 0, .int pq0] ((f_X11_fairAt a d pq0).bind (fun r9 => some (some (.int r9.1), (g, r9.2)))) := by
  refine JM_of (by decide) rfl (Nat.le_of_ble_eq_true rfl) ?_
  refine J_loc (loc' := [(0, .ref 0), (1, .int pq0)]) [0, 1] rfl ?_
  obtain ⟨k, hk, hk2⟩ : ∃ k : Int32 × JD → Option (Option Value × JH), (∀ r9, k r9 = some (some (.int r9.1), (g, r9.2))) ∧ (fun r9 : Int32 × JD => (some (some (.int r9.1), (g, r9.2)) : Option (Option Value × JH))) = k := ⟨_, fun _ => rfl, rfl⟩
  rw [hk2]
  unfold f_X11_fairAt
  refine J_aload_n (pc := 0) 0 dX11_fairAt_0 rfl rfl ?_
  refine J_iload_n (pc := 1) 1 dX11_fairAt_1 rfl rfl ?_
  refine JC_pt_i (J_callV (mi := mi_X11_fairAt) (mj := mi_X11_isGate) (pc := 2) dX11_fairAt_2 ml_X11_142 ok_X11_isGate ov_X11_isGate ⟨Nat.le_of_ble_eq_true rfl, Nat.le_of_ble_eq_true rfl⟩ rfl (h0.lt 0 (by decide)) (h0.ty 0 rfl) rfl (s_X11_isGate g d a pq0 h0 ha hco) rfl (Nat.le_of_ble_eq_true rfl)) ?_
  refine K_ifne_b (K := (fun x => Option.bind x k)) (pc := 5) (tgt := 14) dX11_fairAt_5 (by decide) (fun z5 => ?_) (fun z5 => ?_)
  · refine J_aload_n (pc := 14) 0 dX11_fairAt_14 rfl rfl ?_
    refine J_getR (pc := 15) dX11_fairAt_15 fl_X11_57 (h0.lt 0 (by decide)) (h0.ty 0 rfl) rfl (h0.rf 7 rfl) ?_
    refine J_aload_n (pc := 18) 0 dX11_fairAt_18 rfl rfl ?_
    refine J_getR (pc := 19) dX11_fairAt_19 fl_X11_78 (h0.lt 0 (by decide)) (h0.ty 0 rfl) rfl hco ?_
    refine JC_pe_v (J_callV (mi := mi_X11_fairAt) (mj := mi_X8_make) (pc := 22) dX11_fairAt_22 ml_X11_258 ok_X8_make ov_X8_make ⟨Nat.le_of_ble_eq_true rfl, Nat.le_of_ble_eq_true rfl⟩ rfl (h0.lt 38 (by decide)) (h0.ty 38 rfl) rfl (s_X8_make g d a h0 ha) rfl (Nat.le_of_ble_eq_true rfl)) (fun q22 => ?_)
    refine J_aload_n (pc := 25) 0 dX11_fairAt_25 rfl rfl ?_
    refine J_aload_n (pc := 26) 0 dX11_fairAt_26 rfl rfl ?_
    refine J_getR (pc := 27) dX11_fairAt_27 fl_X11_57 (h0.lt 0 (by decide)) (h0.ty 0 rfl) rfl (h0.rf 7 rfl) ?_
    refine J_getI (pc := 30) dX11_fairAt_30 fl_X11_277 (h0.lt 38 (by decide)) (h0.ty 38 rfl) rfl ?_
    refine J_iload_n (pc := 33) 1 dX11_fairAt_33 rfl rfl ?_
    refine JC_pt_i (J_callS (mi := mi_X11_fairAt) (mj := mi_X10_hungAt) (pc := 34) dX11_fairAt_34 ml_X11_162 ok_X10_hungAt os_X10_hungAt ⟨Nat.le_of_ble_eq_true rfl, Nat.le_of_ble_eq_true rfl⟩ rfl (s_X10_hungAt g q22 ((q22.1 38) 3) pq0) rfl (Nat.le_of_ble_eq_true rfl)) ?_
    refine JC_lt_i (K := (fun x => Option.bind x k)) (J_callV (mi := mi_X11_fairAt) (mj := mi_X11_answered) (pc := 37) dX11_fairAt_37 ml_X11_120 ok_X11_answered ov_X11_answered ⟨Nat.le_of_ble_eq_true rfl, Nat.le_of_ble_eq_true rfl⟩ rfl (h0.lt 0 (by decide)) (h0.ty 0 rfl) rfl (s_X11_answered g q22 (f_X10_hungAt ((q22.1 38) 3) pq0) h0) rfl (Nat.le_of_ble_eq_true rfl)) (fun q37 eq37 => ?_)
    exact J_eqo (hk (q37.1, q37.2)) (J_iret (pc := 40) dX11_fairAt_40 rfl)
  · refine J_aload_n (pc := 8) 0 dX11_fairAt_8 rfl rfl ?_
    refine J_iconst (pc := 9) (v := 1) dX11_fairAt_9 (by decide) ?_
    refine JC_lt_i (K := (fun x => Option.bind x k)) (J_callV (mi := mi_X11_fairAt) (mj := mi_X11_refused) (pc := 10) dX11_fairAt_10 ml_X11_102 ok_X11_refused ov_X11_refused ⟨Nat.le_of_ble_eq_true rfl, Nat.le_of_ble_eq_true rfl⟩ rfl (h0.lt 0 (by decide)) (h0.ty 0 rfl) rfl (s_X11_refused g d 1 h0) rfl (Nat.le_of_ble_eq_true rfl)) (fun q10 eq10 => ?_)
    exact J_eqo (hk (q10.1, q10.2)) (J_iret (pc := 13) dX11_fairAt_13 rfl)
def f_X11_fits (a : Nat) (d : JD) : Int32 × JD := (if (f_X11_hasLand (d.1 a)) = true then (j_let (f_X2_find a d) (fun q21 => j_let (f_X11_answered q21 ((q21.1 39) 2)) (fun q32 => (q32.1, q32.2)))) else (j_let (f_X11_refused d 1) (fun q9 => (q9.1, q9.2))))
set_option maxRecDepth 100000 in
set_option maxHeartbeats 4000000 in
theorem s_X11_fits (g : JG) (d : JD) (a : Nat) (h0 : j_sh g 0 TS_W RS_W) (ha : j_sh g a TS_CL RS_CL) (hco : g.2.2.1 0 10 = some a) : JM mi_X11_fits 0 0 (g, d) [.ref 0] (some (some (.int (f_X11_fits a d ).1), (g, (f_X11_fits a d ).2))) := by
  refine JM_of (by decide) rfl (Nat.le_of_ble_eq_true rfl) ?_
  refine J_loc (loc' := [(0, .ref 0)]) [0] rfl ?_
  obtain ⟨k, hk⟩ : ∃ k : Int32 × JD → Option (Option Value × JH), ∀ r9, k r9 = some (some (.int r9.1), (g, r9.2)) := ⟨_, fun _ => rfl⟩
  refine J_eqo (hk (f_X11_fits a d )).symm ?_
  unfold f_X11_fits
  refine J_aload_n (pc := 0) 0 dX11_fits_0 rfl rfl ?_
  refine JC_pt_i (J_callV (mi := mi_X11_fits) (mj := mi_X11_hasLand) (pc := 1) dX11_fits_1 ml_X11_201 ok_X11_hasLand ov_X11_hasLand ⟨Nat.le_of_ble_eq_true rfl, Nat.le_of_ble_eq_true rfl⟩ rfl (h0.lt 0 (by decide)) (h0.ty 0 rfl) rfl (s_X11_hasLand g d a h0 ha hco) rfl (Nat.le_of_ble_eq_true rfl)) ?_
  refine K_ifne_b (K := k) (pc := 4) (tgt := 13) dX11_fits_4 (by decide) (fun z4 => ?_) (fun z4 => ?_)
  · refine J_aload_n (pc := 13) 0 dX11_fits_13 rfl rfl ?_
    refine J_getR (pc := 14) dX11_fits_14 fl_X11_64 (h0.lt 0 (by decide)) (h0.ty 0 rfl) rfl (h0.rf 8 rfl) ?_
    refine J_aload_n (pc := 17) 0 dX11_fits_17 rfl rfl ?_
    refine J_getR (pc := 18) dX11_fits_18 fl_X11_78 (h0.lt 0 (by decide)) (h0.ty 0 rfl) rfl hco ?_
    refine JC_lt_v (K := k) (J_callV (mi := mi_X11_fits) (mj := mi_X2_find) (pc := 21) dX11_fits_21 ml_X11_280 ok_X2_find ov_X2_find ⟨Nat.le_of_ble_eq_true rfl, Nat.le_of_ble_eq_true rfl⟩ rfl (h0.lt 39 (by decide)) (h0.ty 39 rfl) rfl (s_X2_find g d a h0 ha) rfl (Nat.le_of_ble_eq_true rfl)) (fun q21 eq21 => ?_)
    refine J_aload_n (pc := 24) 0 dX11_fits_24 rfl rfl ?_
    refine J_aload_n (pc := 25) 0 dX11_fits_25 rfl rfl ?_
    refine J_getR (pc := 26) dX11_fits_26 fl_X11_64 (h0.lt 0 (by decide)) (h0.ty 0 rfl) rfl (h0.rf 8 rfl) ?_
    refine J_getI (pc := 29) dX11_fits_29 fl_X11_283 (h0.lt 39 (by decide)) (h0.ty 39 rfl) rfl ?_
    refine JC_lt_i (K := k) (J_callV (mi := mi_X11_fits) (mj := mi_X11_answered) (pc := 32) dX11_fits_32 ml_X11_120 ok_X11_answered ov_X11_answered ⟨Nat.le_of_ble_eq_true rfl, Nat.le_of_ble_eq_true rfl⟩ rfl (h0.lt 0 (by decide)) (h0.ty 0 rfl) rfl (s_X11_answered g q21 ((q21.1 39) 2) h0) rfl (Nat.le_of_ble_eq_true rfl)) (fun q32 eq32 => ?_)
    exact J_eqo (hk (q32.1, q32.2)) (J_iret (pc := 35) dX11_fits_35 rfl)
  · refine J_aload_n (pc := 7) 0 dX11_fits_7 rfl rfl ?_
    refine J_iconst (pc := 8) (v := 1) dX11_fits_8 (by decide) ?_
    refine JC_lt_i (K := k) (J_callV (mi := mi_X11_fits) (mj := mi_X11_refused) (pc := 9) dX11_fits_9 ml_X11_102 ok_X11_refused ov_X11_refused ⟨Nat.le_of_ble_eq_true rfl, Nat.le_of_ble_eq_true rfl⟩ rfl (h0.lt 0 (by decide)) (h0.ty 0 rfl) rfl (s_X11_refused g d 1 h0) rfl (Nat.le_of_ble_eq_true rfl)) (fun q9 eq9 => ?_)
    exact J_eqo (hk (q9.1, q9.2)) (J_iret (pc := 12) dX11_fits_12 rfl)
def f_X11_isLost (r_a9 : Nat → Int32) (pq0 : Int32) : Bool := (if pq0 < 0 then (false) else (if (r_a9 4) ≤ pq0 then (false) else (true)))
set_option maxRecDepth 100000 in
set_option maxHeartbeats 4000000 in
theorem s_X11_isLost (g : JG) (d : JD) (a : Nat) (pq0 : Int32) (h0 : j_sh g 0 TS_W RS_W) (ha : j_sh g a TS_CL RS_CL) (hco : g.2.2.1 0 10 = some a) : JM mi_X11_isLost 0 0 (g, d) [.ref 0, .int pq0] (some (some (.int (j_b (f_X11_isLost (d.1 (a + 9)) pq0))), (g, d))) := by
  refine JM_of (by decide) rfl (Nat.le_of_ble_eq_true rfl) ?_
  refine J_loc (loc' := [(0, .ref 0), (1, .int pq0)]) [0, 1] rfl ?_
  obtain ⟨k, hk⟩ : ∃ k : Bool → Option (Option Value × JH), ∀ r9, k r9 = some (some (.int (j_b r9)), (g, d)) := ⟨_, fun _ => rfl⟩
  refine J_eqo (hk (f_X11_isLost (d.1 (a + 9)) pq0)).symm ?_
  unfold f_X11_isLost
  refine J_iload_n (pc := 0) 1 dX11_isLost_0 rfl rfl ?_
  refine K_if_lt (K := k) (pc := 1) (tgt := 22) dX11_isLost_1 (by decide) (fun z1 => ?_) (fun z1 => ?_)
  · refine J_iconst (pc := 22) (v := 0) dX11_isLost_22 (by decide) ?_
    exact J_eqo (hk false) (J_zretB (pc := 23) dX11_isLost_23 rfl)
  · refine J_iload_n (pc := 4) 1 dX11_isLost_4 rfl rfl ?_
    refine J_aload_n (pc := 5) 0 dX11_isLost_5 rfl rfl ?_
    refine J_getR (pc := 6) dX11_isLost_6 fl_X11_78 (h0.lt 0 (by decide)) (h0.ty 0 rfl) rfl hco ?_
    refine J_getR (pc := 9) dX11_isLost_9 fl_X11_237 (ha.lt 0 (by decide)) (ha.ty 0 rfl) rfl (ha.rf 8 rfl) ?_
    refine J_getI (pc := 12) dX11_isLost_12 fl_X11_293 (ha.lt 9 (by decide)) (ha.ty 9 rfl) rfl ?_
    refine K_icmp_ge (K := k) (pc := 15) (tgt := 22) dX11_isLost_15 (by decide) (fun z15 => ?_) (fun z15 => ?_)
    · refine J_iconst (pc := 22) (v := 0) dX11_isLost_22 (by decide) ?_
      exact J_eqo (hk false) (J_zretB (pc := 23) dX11_isLost_23 rfl)
    · refine J_iconst (pc := 18) (v := 1) dX11_isLost_18 (by decide) ?_
      refine J_goto (pc := 19) (tgt := 23) dX11_isLost_19 (by decide) ?_
      exact J_eqo (hk true) (J_zretB (pc := 23) dX11_isLost_23 rfl)
def f_X11_fitAt_j40 (a : Nat) (d40 : JD) : Int32 × JD := (j_let (f_X11_refused d40 1) (fun q42 => (q42.1, q42.2)))
def f_X11_fitAt (a : Nat) (d : JD) (pq0 : Int32) (pq1 : Int32) : Int32 × JD := (if (f_X11_isLost (d.1 (a + 9)) pq1) = true then (j_let (f_X2_find a d) (fun q22 => if pq0 < 0 then f_X11_fitAt_j40 a q22 else (if pq0 < ((q22.1 39) 2) then (j_let (f_X11_answered q22 (f_X10_hungAt (f_X11_at (q22.1 40) 81 pq0) pq1)) (fun q62 => (q62.1, q62.2))) else f_X11_fitAt_j40 a q22 ))) else (j_let (f_X11_refused d 1) (fun q10 => (q10.1, q10.2))))
set_option maxRecDepth 100000 in
set_option maxHeartbeats 4000000 in
theorem s_X11_fitAt (g : JG) (d : JD) (a : Nat) (pq0 : Int32) (pq1 : Int32) (h0 : j_sh g 0 TS_W RS_W) (ha : j_sh g a TS_CL RS_CL) (hco : g.2.2.1 0 10 = some a) : JM mi_X11_fitAt 0 0 (g, d) [.ref 0, .int pq0, .int pq1] (some (some (.int (f_X11_fitAt a d pq0 pq1).1), (g, (f_X11_fitAt a d pq0 pq1).2))) := by
  refine JM_of (by decide) rfl (Nat.le_of_ble_eq_true rfl) ?_
  refine J_loc (loc' := [(0, .ref 0), (1, .int pq0), (2, .int pq1)]) [0, 1, 2] rfl ?_
  obtain ⟨k, hk⟩ : ∃ k : Int32 × JD → Option (Option Value × JH), ∀ r9, k r9 = some (some (.int r9.1), (g, r9.2)) := ⟨_, fun _ => rfl⟩
  refine J_eqo (hk (f_X11_fitAt a d pq0 pq1)).symm ?_
  unfold f_X11_fitAt
  have hX11_fitAt_j40 : ∀ (d40 : JD) , J mi_X11_fitAt 0 0 0 0 (g, d40) 40 [(0, .ref 0)] [] (k (f_X11_fitAt_j40 a d40 )) := by
    intro d40 
    unfold f_X11_fitAt_j40
    refine J_aload_n (pc := 40) 0 dX11_fitAt_40 rfl rfl ?_
    refine J_iconst (pc := 41) (v := 1) dX11_fitAt_41 (by decide) ?_
    refine JC_lt_i (K := k) (J_callV (mi := mi_X11_fitAt) (mj := mi_X11_refused) (pc := 42) dX11_fitAt_42 ml_X11_102 ok_X11_refused ov_X11_refused ⟨Nat.le_of_ble_eq_true rfl, Nat.le_of_ble_eq_true rfl⟩ rfl (h0.lt 0 (by decide)) (h0.ty 0 rfl) rfl (s_X11_refused g d40 1 h0) rfl (Nat.le_of_ble_eq_true rfl)) (fun q42 eq42 => ?_)
    exact J_eqo (hk (q42.1, q42.2)) (J_iret (pc := 45) dX11_fitAt_45 rfl)
  refine J_aload_n (pc := 0) 0 dX11_fitAt_0 rfl rfl ?_
  refine J_iload_n (pc := 1) 2 dX11_fitAt_1 rfl rfl ?_
  refine JC_pt_i (J_callV (mi := mi_X11_fitAt) (mj := mi_X11_isLost) (pc := 2) dX11_fitAt_2 ml_X11_284 ok_X11_isLost ov_X11_isLost ⟨Nat.le_of_ble_eq_true rfl, Nat.le_of_ble_eq_true rfl⟩ rfl (h0.lt 0 (by decide)) (h0.ty 0 rfl) rfl (s_X11_isLost g d a pq1 h0 ha hco) rfl (Nat.le_of_ble_eq_true rfl)) ?_
  refine K_ifne_b (K := k) (pc := 5) (tgt := 14) dX11_fitAt_5 (by decide) (fun z5 => ?_) (fun z5 => ?_)
  · refine J_aload_n (pc := 14) 0 dX11_fitAt_14 rfl rfl ?_
    refine J_getR (pc := 15) dX11_fitAt_15 fl_X11_64 (h0.lt 0 (by decide)) (h0.ty 0 rfl) rfl (h0.rf 8 rfl) ?_
    refine J_aload_n (pc := 18) 0 dX11_fitAt_18 rfl rfl ?_
    refine J_getR (pc := 19) dX11_fitAt_19 fl_X11_78 (h0.lt 0 (by decide)) (h0.ty 0 rfl) rfl hco ?_
    refine JC_lt_v (K := k) (J_callV (mi := mi_X11_fitAt) (mj := mi_X2_find) (pc := 22) dX11_fitAt_22 ml_X11_280 ok_X2_find ov_X2_find ⟨Nat.le_of_ble_eq_true rfl, Nat.le_of_ble_eq_true rfl⟩ rfl (h0.lt 39 (by decide)) (h0.ty 39 rfl) rfl (s_X2_find g d a h0 ha) rfl (Nat.le_of_ble_eq_true rfl)) (fun q22 eq22 => ?_)
    refine J_iload_n (pc := 25) 1 dX11_fitAt_25 rfl rfl ?_
    refine K_if_lt (K := k) (pc := 26) (tgt := 40) dX11_fitAt_26 (by decide) (fun z26 => ?_) (fun z26 => ?_)
    · refine J_loc (loc' := [(0, .ref 0)]) [0] rfl ?_
      exact hX11_fitAt_j40 q22 
    · refine J_iload_n (pc := 29) 1 dX11_fitAt_29 rfl rfl ?_
      refine J_aload_n (pc := 30) 0 dX11_fitAt_30 rfl rfl ?_
      refine J_getR (pc := 31) dX11_fitAt_31 fl_X11_64 (h0.lt 0 (by decide)) (h0.ty 0 rfl) rfl (h0.rf 8 rfl) ?_
      refine J_getI (pc := 34) dX11_fitAt_34 fl_X11_283 (h0.lt 39 (by decide)) (h0.ty 39 rfl) rfl ?_
      refine K_icmp_lt (K := k) (pc := 37) (tgt := 46) dX11_fitAt_37 (by decide) (fun z37 => ?_) (fun z37 => ?_)
      · refine J_aload_n (pc := 46) 0 dX11_fitAt_46 rfl rfl ?_
        refine J_aload_n (pc := 47) 0 dX11_fitAt_47 rfl rfl ?_
        refine J_getR (pc := 48) dX11_fitAt_48 fl_X11_64 (h0.lt 0 (by decide)) (h0.ty 0 rfl) rfl (h0.rf 8 rfl) ?_
        refine J_getR (pc := 51) dX11_fitAt_51 fl_X11_287 (h0.lt 39 (by decide)) (h0.ty 39 rfl) rfl (h0.rf 40 rfl) ?_
        refine J_iload_n (pc := 54) 1 dX11_fitAt_54 rfl rfl ?_
        refine JC_pt_i (J_callS (mi := mi_X11_fitAt) (mj := mi_X11_at) (pc := 55) dX11_fitAt_55 ml_X11_149 ok_X11_at os_X11_at ⟨Nat.le_of_ble_eq_true rfl, Nat.le_of_ble_eq_true rfl⟩ rfl (s_X11_at g q22 40 81 pq0 (⟨(h0.lt 40 (by decide)), (h0.ty 40 rfl), by decide⟩)) rfl (Nat.le_of_ble_eq_true rfl)) ?_
        refine J_iload_n (pc := 58) 2 dX11_fitAt_58 rfl rfl ?_
        refine JC_pt_i (J_callS (mi := mi_X11_fitAt) (mj := mi_X10_hungAt) (pc := 59) dX11_fitAt_59 ml_X11_162 ok_X10_hungAt os_X10_hungAt ⟨Nat.le_of_ble_eq_true rfl, Nat.le_of_ble_eq_true rfl⟩ rfl (s_X10_hungAt g q22 (f_X11_at (q22.1 40) 81 pq0) pq1) rfl (Nat.le_of_ble_eq_true rfl)) ?_
        refine JC_lt_i (K := k) (J_callV (mi := mi_X11_fitAt) (mj := mi_X11_answered) (pc := 62) dX11_fitAt_62 ml_X11_120 ok_X11_answered ov_X11_answered ⟨Nat.le_of_ble_eq_true rfl, Nat.le_of_ble_eq_true rfl⟩ rfl (h0.lt 0 (by decide)) (h0.ty 0 rfl) rfl (s_X11_answered g q22 (f_X10_hungAt (f_X11_at (q22.1 40) 81 pq0) pq1) h0) rfl (Nat.le_of_ble_eq_true rfl)) (fun q62 eq62 => ?_)
        exact J_eqo (hk (q62.1, q62.2)) (J_iret (pc := 65) dX11_fitAt_65 rfl)
      · refine J_loc (loc' := [(0, .ref 0)]) [0] rfl ?_
        exact hX11_fitAt_j40 q22 
  · refine J_aload_n (pc := 8) 0 dX11_fitAt_8 rfl rfl ?_
    refine J_iconst (pc := 9) (v := 1) dX11_fitAt_9 (by decide) ?_
    refine JC_lt_i (K := k) (J_callV (mi := mi_X11_fitAt) (mj := mi_X11_refused) (pc := 10) dX11_fitAt_10 ml_X11_102 ok_X11_refused ov_X11_refused ⟨Nat.le_of_ble_eq_true rfl, Nat.le_of_ble_eq_true rfl⟩ rfl (h0.lt 0 (by decide)) (h0.ty 0 rfl) rfl (s_X11_refused g d 1 h0) rfl (Nat.le_of_ble_eq_true rfl)) (fun q10 eq10 => ?_)
    exact J_eqo (hk (q10.1, q10.2)) (J_iret (pc := 13) dX11_fitAt_13 rfl)
def f_X11_hungBy (a : Nat) (d : JD) (pq0 : Int32) (pq1 : Int32) : Int32 × JD := (if (f_X11_isLost (d.1 (a + 9)) pq0) = true then (if (f_X11_isHung pq1) = true then (j_let (f_X2_find a d) (fun q35 => j_let (f_X11_answered q35 (f_X2_countHung (q35.1 39) (q35.1 40) pq0 pq1)) (fun q48 => (q48.1, q48.2)))) else (j_let (f_X11_refused d 2) (fun q23 => (q23.1, q23.2)))) else (j_let (f_X11_refused d 1) (fun q10 => (q10.1, q10.2))))
set_option maxRecDepth 100000 in
set_option maxHeartbeats 4000000 in
theorem s_X11_hungBy (g : JG) (d : JD) (a : Nat) (pq0 : Int32) (pq1 : Int32) (h0 : j_sh g 0 TS_W RS_W) (ha : j_sh g a TS_CL RS_CL) (hco : g.2.2.1 0 10 = some a) : JM mi_X11_hungBy 0 0 (g, d) [.ref 0, .int pq0, .int pq1] (some (some (.int (f_X11_hungBy a d pq0 pq1).1), (g, (f_X11_hungBy a d pq0 pq1).2))) := by
  refine JM_of (by decide) rfl (Nat.le_of_ble_eq_true rfl) ?_
  refine J_loc (loc' := [(0, .ref 0), (1, .int pq0), (2, .int pq1)]) [0, 1, 2] rfl ?_
  obtain ⟨k, hk⟩ : ∃ k : Int32 × JD → Option (Option Value × JH), ∀ r9, k r9 = some (some (.int r9.1), (g, r9.2)) := ⟨_, fun _ => rfl⟩
  refine J_eqo (hk (f_X11_hungBy a d pq0 pq1)).symm ?_
  unfold f_X11_hungBy
  refine J_aload_n (pc := 0) 0 dX11_hungBy_0 rfl rfl ?_
  refine J_iload_n (pc := 1) 1 dX11_hungBy_1 rfl rfl ?_
  refine JC_pt_i (J_callV (mi := mi_X11_hungBy) (mj := mi_X11_isLost) (pc := 2) dX11_hungBy_2 ml_X11_284 ok_X11_isLost ov_X11_isLost ⟨Nat.le_of_ble_eq_true rfl, Nat.le_of_ble_eq_true rfl⟩ rfl (h0.lt 0 (by decide)) (h0.ty 0 rfl) rfl (s_X11_isLost g d a pq0 h0 ha hco) rfl (Nat.le_of_ble_eq_true rfl)) ?_
  refine K_ifne_b (K := k) (pc := 5) (tgt := 14) dX11_hungBy_5 (by decide) (fun z5 => ?_) (fun z5 => ?_)
  · refine J_iload_n (pc := 14) 2 dX11_hungBy_14 rfl rfl ?_
    refine JC_pt_i (J_callS (mi := mi_X11_hungBy) (mj := mi_X11_isHung) (pc := 15) dX11_hungBy_15 ml_X11_213 ok_X11_isHung os_X11_isHung ⟨Nat.le_of_ble_eq_true rfl, Nat.le_of_ble_eq_true rfl⟩ rfl (s_X11_isHung g d pq1) rfl (Nat.le_of_ble_eq_true rfl)) ?_
    refine K_ifne_b (K := k) (pc := 18) (tgt := 27) dX11_hungBy_18 (by decide) (fun z18 => ?_) (fun z18 => ?_)
    · refine J_aload_n (pc := 27) 0 dX11_hungBy_27 rfl rfl ?_
      refine J_getR (pc := 28) dX11_hungBy_28 fl_X11_64 (h0.lt 0 (by decide)) (h0.ty 0 rfl) rfl (h0.rf 8 rfl) ?_
      refine J_aload_n (pc := 31) 0 dX11_hungBy_31 rfl rfl ?_
      refine J_getR (pc := 32) dX11_hungBy_32 fl_X11_78 (h0.lt 0 (by decide)) (h0.ty 0 rfl) rfl hco ?_
      refine JC_lt_v (K := k) (J_callV (mi := mi_X11_hungBy) (mj := mi_X2_find) (pc := 35) dX11_hungBy_35 ml_X11_280 ok_X2_find ov_X2_find ⟨Nat.le_of_ble_eq_true rfl, Nat.le_of_ble_eq_true rfl⟩ rfl (h0.lt 39 (by decide)) (h0.ty 39 rfl) rfl (s_X2_find g d a h0 ha) rfl (Nat.le_of_ble_eq_true rfl)) (fun q35 eq35 => ?_)
      refine J_aload_n (pc := 38) 0 dX11_hungBy_38 rfl rfl ?_
      refine J_aload_n (pc := 39) 0 dX11_hungBy_39 rfl rfl ?_
      refine J_getR (pc := 40) dX11_hungBy_40 fl_X11_64 (h0.lt 0 (by decide)) (h0.ty 0 rfl) rfl (h0.rf 8 rfl) ?_
      refine J_iload_n (pc := 43) 1 dX11_hungBy_43 rfl rfl ?_
      refine J_iload_n (pc := 44) 2 dX11_hungBy_44 rfl rfl ?_
      refine JC_pt_i (J_callV (mi := mi_X11_hungBy) (mj := mi_X2_countHung) (pc := 45) dX11_hungBy_45 ml_X11_290 ok_X2_countHung ov_X2_countHung ⟨Nat.le_of_ble_eq_true rfl, Nat.le_of_ble_eq_true rfl⟩ rfl (h0.lt 39 (by decide)) (h0.ty 39 rfl) rfl (s_X2_countHung g q35 pq0 pq1 h0) rfl (Nat.le_of_ble_eq_true rfl)) ?_
      refine JC_lt_i (K := k) (J_callV (mi := mi_X11_hungBy) (mj := mi_X11_answered) (pc := 48) dX11_hungBy_48 ml_X11_120 ok_X11_answered ov_X11_answered ⟨Nat.le_of_ble_eq_true rfl, Nat.le_of_ble_eq_true rfl⟩ rfl (h0.lt 0 (by decide)) (h0.ty 0 rfl) rfl (s_X11_answered g q35 (f_X2_countHung (q35.1 39) (q35.1 40) pq0 pq1) h0) rfl (Nat.le_of_ble_eq_true rfl)) (fun q48 eq48 => ?_)
      exact J_eqo (hk (q48.1, q48.2)) (J_iret (pc := 51) dX11_hungBy_51 rfl)
    · refine J_aload_n (pc := 21) 0 dX11_hungBy_21 rfl rfl ?_
      refine J_iconst (pc := 22) (v := 2) dX11_hungBy_22 (by decide) ?_
      refine JC_lt_i (K := k) (J_callV (mi := mi_X11_hungBy) (mj := mi_X11_refused) (pc := 23) dX11_hungBy_23 ml_X11_102 ok_X11_refused ov_X11_refused ⟨Nat.le_of_ble_eq_true rfl, Nat.le_of_ble_eq_true rfl⟩ rfl (h0.lt 0 (by decide)) (h0.ty 0 rfl) rfl (s_X11_refused g d 2 h0) rfl (Nat.le_of_ble_eq_true rfl)) (fun q23 eq23 => ?_)
      exact J_eqo (hk (q23.1, q23.2)) (J_iret (pc := 26) dX11_hungBy_26 rfl)
  · refine J_aload_n (pc := 8) 0 dX11_hungBy_8 rfl rfl ?_
    refine J_iconst (pc := 9) (v := 1) dX11_hungBy_9 (by decide) ?_
    refine JC_lt_i (K := k) (J_callV (mi := mi_X11_hungBy) (mj := mi_X11_refused) (pc := 10) dX11_hungBy_10 ml_X11_102 ok_X11_refused ov_X11_refused ⟨Nat.le_of_ble_eq_true rfl, Nat.le_of_ble_eq_true rfl⟩ rfl (h0.lt 0 (by decide)) (h0.ty 0 rfl) rfl (s_X11_refused g d 1 h0) rfl (Nat.le_of_ble_eq_true rfl)) (fun q10 eq10 => ?_)
    exact J_eqo (hk (q10.1, q10.2)) (J_iret (pc := 13) dX11_hungBy_13 rfl)
def f_X11_look (a : Nat) (d : JD) : Option (Int32 × JD) := (if (f_X11_hasLand (d.1 a)) = true then (j_let (f_X2_find a d) (fun q21 => (f_X2_bestToLookAt (q21.1 39) (q21.1 40) ((q21.1 (a + 9)) 4)).bind (fun q39 => j_let (f_X11_answered q21 q39) (fun q42 => some (q42.1, q42.2))))) else (j_let (f_X11_refused d 1) (fun q9 => some (q9.1, q9.2))))
set_option maxRecDepth 100000 in
set_option maxHeartbeats 4000000 in
theorem s_X11_look (g : JG) (d : JD) (a : Nat) (h0 : j_sh g 0 TS_W RS_W) (ha : j_sh g a TS_CL RS_CL) (hco : g.2.2.1 0 10 = some a) : JM mi_X11_look 0 0 (g, d) [.ref 0] ((f_X11_look a d ).bind (fun r9 => some (some (.int r9.1), (g, r9.2)))) := by
  refine JM_of (by decide) rfl (Nat.le_of_ble_eq_true rfl) ?_
  refine J_loc (loc' := [(0, .ref 0)]) [0] rfl ?_
  obtain ⟨k, hk, hk2⟩ : ∃ k : Int32 × JD → Option (Option Value × JH), (∀ r9, k r9 = some (some (.int r9.1), (g, r9.2))) ∧ (fun r9 : Int32 × JD => (some (some (.int r9.1), (g, r9.2)) : Option (Option Value × JH))) = k := ⟨_, fun _ => rfl, rfl⟩
  rw [hk2]
  unfold f_X11_look
  refine J_aload_n (pc := 0) 0 dX11_look_0 rfl rfl ?_
  refine JC_pt_i (J_callV (mi := mi_X11_look) (mj := mi_X11_hasLand) (pc := 1) dX11_look_1 ml_X11_201 ok_X11_hasLand ov_X11_hasLand ⟨Nat.le_of_ble_eq_true rfl, Nat.le_of_ble_eq_true rfl⟩ rfl (h0.lt 0 (by decide)) (h0.ty 0 rfl) rfl (s_X11_hasLand g d a h0 ha hco) rfl (Nat.le_of_ble_eq_true rfl)) ?_
  refine K_ifne_b (K := (fun x => Option.bind x k)) (pc := 4) (tgt := 13) dX11_look_4 (by decide) (fun z4 => ?_) (fun z4 => ?_)
  · refine J_aload_n (pc := 13) 0 dX11_look_13 rfl rfl ?_
    refine J_getR (pc := 14) dX11_look_14 fl_X11_64 (h0.lt 0 (by decide)) (h0.ty 0 rfl) rfl (h0.rf 8 rfl) ?_
    refine J_aload_n (pc := 17) 0 dX11_look_17 rfl rfl ?_
    refine J_getR (pc := 18) dX11_look_18 fl_X11_78 (h0.lt 0 (by decide)) (h0.ty 0 rfl) rfl hco ?_
    refine JC_lt_v (K := (fun x => Option.bind x k)) (J_callV (mi := mi_X11_look) (mj := mi_X2_find) (pc := 21) dX11_look_21 ml_X11_280 ok_X2_find ov_X2_find ⟨Nat.le_of_ble_eq_true rfl, Nat.le_of_ble_eq_true rfl⟩ rfl (h0.lt 39 (by decide)) (h0.ty 39 rfl) rfl (s_X2_find g d a h0 ha) rfl (Nat.le_of_ble_eq_true rfl)) (fun q21 eq21 => ?_)
    refine J_aload_n (pc := 24) 0 dX11_look_24 rfl rfl ?_
    refine J_aload_n (pc := 25) 0 dX11_look_25 rfl rfl ?_
    refine J_getR (pc := 26) dX11_look_26 fl_X11_64 (h0.lt 0 (by decide)) (h0.ty 0 rfl) rfl (h0.rf 8 rfl) ?_
    refine J_aload_n (pc := 29) 0 dX11_look_29 rfl rfl ?_
    refine J_getR (pc := 30) dX11_look_30 fl_X11_78 (h0.lt 0 (by decide)) (h0.ty 0 rfl) rfl hco ?_
    refine J_getR (pc := 33) dX11_look_33 fl_X11_237 (ha.lt 0 (by decide)) (ha.ty 0 rfl) rfl (ha.rf 8 rfl) ?_
    refine J_getI (pc := 36) dX11_look_36 fl_X11_293 (ha.lt 9 (by decide)) (ha.ty 9 rfl) rfl ?_
    refine JC_pp_i (J_callV (mi := mi_X11_look) (mj := mi_X2_bestToLookAt) (pc := 39) dX11_look_39 ml_X11_296 ok_X2_bestToLookAt ov_X2_bestToLookAt ⟨Nat.le_of_ble_eq_true rfl, Nat.le_of_ble_eq_true rfl⟩ rfl (h0.lt 39 (by decide)) (h0.ty 39 rfl) rfl (s_X2_bestToLookAt g q21 ((q21.1 (a + 9)) 4) h0) rfl (Nat.le_of_ble_eq_true rfl)) (fun q39 => ?_)
    refine JC_lt_i (K := (fun x => Option.bind x k)) (J_callV (mi := mi_X11_look) (mj := mi_X11_answered) (pc := 42) dX11_look_42 ml_X11_120 ok_X11_answered ov_X11_answered ⟨Nat.le_of_ble_eq_true rfl, Nat.le_of_ble_eq_true rfl⟩ rfl (h0.lt 0 (by decide)) (h0.ty 0 rfl) rfl (s_X11_answered g q21 q39 h0) rfl (Nat.le_of_ble_eq_true rfl)) (fun q42 eq42 => ?_)
    exact J_eqo (hk (q42.1, q42.2)) (J_iret (pc := 45) dX11_look_45 rfl)
  · refine J_aload_n (pc := 7) 0 dX11_look_7 rfl rfl ?_
    refine J_iconst (pc := 8) (v := 1) dX11_look_8 (by decide) ?_
    refine JC_lt_i (K := (fun x => Option.bind x k)) (J_callV (mi := mi_X11_look) (mj := mi_X11_refused) (pc := 9) dX11_look_9 ml_X11_102 ok_X11_refused ov_X11_refused ⟨Nat.le_of_ble_eq_true rfl, Nat.le_of_ble_eq_true rfl⟩ rfl (h0.lt 0 (by decide)) (h0.ty 0 rfl) rfl (s_X11_refused g d 1 h0) rfl (Nat.le_of_ble_eq_true rfl)) (fun q9 eq9 => ?_)
    exact J_eqo (hk (q9.1, q9.2)) (J_iret (pc := 12) dX11_look_12 rfl)
def f_X11_lookLeaves_j62 (a : Nat) (d62 : JD) (y0_62 : Int32) : Option (Int32 × JD) := (j_let (f_X11_answered d62 y0_62) (fun q62 => some (q62.1, q62.2)))
def f_X11_lookLeaves (a : Nat) (d : JD) : Option (Int32 × JD) := (if (f_X11_hasLand (d.1 a)) = true then (j_let (f_X2_find a d) (fun q21 => (f_X2_bestToLookAt (q21.1 39) (q21.1 40) ((q21.1 (a + 9)) 4)).bind (fun q38 => if q38 = (-2) then (f_X11_lookLeaves_j62 a q21 (-2)) else ((f_X2_mostLeft (q21.1 39) (q21.1 40) q38).bind (fun q59 => f_X11_lookLeaves_j62 a q21 q59))))) else (j_let (f_X11_refused d 1) (fun q9 => some (q9.1, q9.2))))
set_option maxRecDepth 100000 in
set_option maxHeartbeats 4000000 in
theorem s_X11_lookLeaves (g : JG) (d : JD) (a : Nat) (h0 : j_sh g 0 TS_W RS_W) (ha : j_sh g a TS_CL RS_CL) (hco : g.2.2.1 0 10 = some a) : JM mi_X11_lookLeaves 0 0 (g, d) [.ref 0] ((f_X11_lookLeaves a d ).bind (fun r9 => some (some (.int r9.1), (g, r9.2)))) := by
  refine JM_of (by decide) rfl (Nat.le_of_ble_eq_true rfl) ?_
  refine J_loc (loc' := [(0, .ref 0)]) [0] rfl ?_
  obtain ⟨k, hk, hk2⟩ : ∃ k : Int32 × JD → Option (Option Value × JH), (∀ r9, k r9 = some (some (.int r9.1), (g, r9.2))) ∧ (fun r9 : Int32 × JD => (some (some (.int r9.1), (g, r9.2)) : Option (Option Value × JH))) = k := ⟨_, fun _ => rfl, rfl⟩
  rw [hk2]
  unfold f_X11_lookLeaves
  have hX11_lookLeaves_j62 : ∀ (d62 : JD) (y0_62 : Int32), J mi_X11_lookLeaves 0 0 0 0 (g, d62) 62 [] [.int y0_62, .ref 0] ((f_X11_lookLeaves_j62 a d62 y0_62).bind k) := by
    intro d62 y0_62
    unfold f_X11_lookLeaves_j62
    refine JC_lt_i (K := (fun x => Option.bind x k)) (J_callV (mi := mi_X11_lookLeaves) (mj := mi_X11_answered) (pc := 62) dX11_lookLeaves_62 ml_X11_120 ok_X11_answered ov_X11_answered ⟨Nat.le_of_ble_eq_true rfl, Nat.le_of_ble_eq_true rfl⟩ rfl (h0.lt 0 (by decide)) (h0.ty 0 rfl) rfl (s_X11_answered g d62 y0_62 h0) rfl (Nat.le_of_ble_eq_true rfl)) (fun q62 eq62 => ?_)
    exact J_eqo (hk (q62.1, q62.2)) (J_iret (pc := 65) dX11_lookLeaves_65 rfl)
  refine J_aload_n (pc := 0) 0 dX11_lookLeaves_0 rfl rfl ?_
  refine JC_pt_i (J_callV (mi := mi_X11_lookLeaves) (mj := mi_X11_hasLand) (pc := 1) dX11_lookLeaves_1 ml_X11_201 ok_X11_hasLand ov_X11_hasLand ⟨Nat.le_of_ble_eq_true rfl, Nat.le_of_ble_eq_true rfl⟩ rfl (h0.lt 0 (by decide)) (h0.ty 0 rfl) rfl (s_X11_hasLand g d a h0 ha hco) rfl (Nat.le_of_ble_eq_true rfl)) ?_
  refine K_ifne_b (K := (fun x => Option.bind x k)) (pc := 4) (tgt := 13) dX11_lookLeaves_4 (by decide) (fun z4 => ?_) (fun z4 => ?_)
  · refine J_aload_n (pc := 13) 0 dX11_lookLeaves_13 rfl rfl ?_
    refine J_getR (pc := 14) dX11_lookLeaves_14 fl_X11_64 (h0.lt 0 (by decide)) (h0.ty 0 rfl) rfl (h0.rf 8 rfl) ?_
    refine J_aload_n (pc := 17) 0 dX11_lookLeaves_17 rfl rfl ?_
    refine J_getR (pc := 18) dX11_lookLeaves_18 fl_X11_78 (h0.lt 0 (by decide)) (h0.ty 0 rfl) rfl hco ?_
    refine JC_lt_v (K := (fun x => Option.bind x k)) (J_callV (mi := mi_X11_lookLeaves) (mj := mi_X2_find) (pc := 21) dX11_lookLeaves_21 ml_X11_280 ok_X2_find ov_X2_find ⟨Nat.le_of_ble_eq_true rfl, Nat.le_of_ble_eq_true rfl⟩ rfl (h0.lt 39 (by decide)) (h0.ty 39 rfl) rfl (s_X2_find g d a h0 ha) rfl (Nat.le_of_ble_eq_true rfl)) (fun q21 eq21 => ?_)
    refine J_aload_n (pc := 24) 0 dX11_lookLeaves_24 rfl rfl ?_
    refine J_getR (pc := 25) dX11_lookLeaves_25 fl_X11_64 (h0.lt 0 (by decide)) (h0.ty 0 rfl) rfl (h0.rf 8 rfl) ?_
    refine J_aload_n (pc := 28) 0 dX11_lookLeaves_28 rfl rfl ?_
    refine J_getR (pc := 29) dX11_lookLeaves_29 fl_X11_78 (h0.lt 0 (by decide)) (h0.ty 0 rfl) rfl hco ?_
    refine J_getR (pc := 32) dX11_lookLeaves_32 fl_X11_237 (ha.lt 0 (by decide)) (ha.ty 0 rfl) rfl (ha.rf 8 rfl) ?_
    refine J_getI (pc := 35) dX11_lookLeaves_35 fl_X11_293 (ha.lt 9 (by decide)) (ha.ty 9 rfl) rfl ?_
    refine JC_pp_i (J_callV (mi := mi_X11_lookLeaves) (mj := mi_X2_bestToLookAt) (pc := 38) dX11_lookLeaves_38 ml_X11_296 ok_X2_bestToLookAt ov_X2_bestToLookAt ⟨Nat.le_of_ble_eq_true rfl, Nat.le_of_ble_eq_true rfl⟩ rfl (h0.lt 39 (by decide)) (h0.ty 39 rfl) rfl (s_X2_bestToLookAt g q21 ((q21.1 (a + 9)) 4) h0) rfl (Nat.le_of_ble_eq_true rfl)) (fun q38 => ?_)
    refine J_istore_n (pc := 41) (loc' := [(1, .int q38), (0, .ref 0)]) dX11_lookLeaves_41 rfl (by decide) rfl ?_
    refine J_aload_n (pc := 42) 1 dX11_lookLeaves_42 rfl rfl ?_
    refine J_iload_n (pc := 43) 0 dX11_lookLeaves_43 rfl rfl ?_
    refine J_bipush (pc := 44) (v := (-2)) dX11_lookLeaves_44 (by decide) ?_
    refine K_icmp_ne (K := (fun x => Option.bind x k)) (pc := 46) (tgt := 54) dX11_lookLeaves_46 (by decide) (fun z46 => ?_) (fun z46 => ?_)
    · refine J_aload_n (pc := 54) 1 dX11_lookLeaves_54 rfl rfl ?_
      refine J_getR (pc := 55) dX11_lookLeaves_55 fl_X11_64 (h0.lt 0 (by decide)) (h0.ty 0 rfl) rfl (h0.rf 8 rfl) ?_
      refine J_iload_n (pc := 58) 0 dX11_lookLeaves_58 rfl rfl ?_
      refine JC_pp_i (J_callV (mi := mi_X11_lookLeaves) (mj := mi_X2_mostLeft) (pc := 59) dX11_lookLeaves_59 ml_X11_299 ok_X2_mostLeft ov_X2_mostLeft ⟨Nat.le_of_ble_eq_true rfl, Nat.le_of_ble_eq_true rfl⟩ rfl (h0.lt 39 (by decide)) (h0.ty 39 rfl) rfl (s_X2_mostLeft g q21 q38 h0) rfl (Nat.le_of_ble_eq_true rfl)) (fun q59 => ?_)
      refine J_loc (loc' := []) [] rfl ?_
      exact hX11_lookLeaves_j62 q21 q59
    · refine J_bipush (pc := 49) (v := (-2)) dX11_lookLeaves_49 (by decide) ?_
      refine J_goto (pc := 51) (tgt := 62) dX11_lookLeaves_51 (by decide) ?_
      refine J_loc (loc' := []) [] rfl ?_
      exact hX11_lookLeaves_j62 q21 (-2)
  · refine J_aload_n (pc := 7) 0 dX11_lookLeaves_7 rfl rfl ?_
    refine J_iconst (pc := 8) (v := 1) dX11_lookLeaves_8 (by decide) ?_
    refine JC_lt_i (K := (fun x => Option.bind x k)) (J_callV (mi := mi_X11_lookLeaves) (mj := mi_X11_refused) (pc := 9) dX11_lookLeaves_9 ml_X11_102 ok_X11_refused ov_X11_refused ⟨Nat.le_of_ble_eq_true rfl, Nat.le_of_ble_eq_true rfl⟩ rfl (h0.lt 0 (by decide)) (h0.ty 0 rfl) rfl (s_X11_refused g d 1 h0) rfl (Nat.le_of_ble_eq_true rfl)) (fun q9 eq9 => ?_)
    exact J_eqo (hk (q9.1, q9.2)) (J_iret (pc := 12) dX11_lookLeaves_12 rfl)
def f_X11_judge (a : Nat) (d : JD) : Int32 × JD := (if (f_X11_hasLand (d.1 a)) = true then (j_let (f_X11_answered d (f_X0_firstBelied (d.1 a) (d.1 (a + 7)) (d.1 (a + 8)) (d.1 (a + 14)) ((d.1 a) 6))) (fun q35 => (q35.1, q35.2))) else (j_let (f_X11_refused d 1) (fun q9 => (q9.1, q9.2))))
set_option maxRecDepth 100000 in
set_option maxHeartbeats 4000000 in
theorem s_X11_judge (g : JG) (d : JD) (a : Nat) (h0 : j_sh g 0 TS_W RS_W) (ha : j_sh g a TS_CL RS_CL) (hco : g.2.2.1 0 10 = some a) : JM mi_X11_judge 0 0 (g, d) [.ref 0] (some (some (.int (f_X11_judge a d ).1), (g, (f_X11_judge a d ).2))) := by
  refine JM_of (by decide) rfl (Nat.le_of_ble_eq_true rfl) ?_
  refine J_loc (loc' := [(0, .ref 0)]) [0] rfl ?_
  obtain ⟨k, hk⟩ : ∃ k : Int32 × JD → Option (Option Value × JH), ∀ r9, k r9 = some (some (.int r9.1), (g, r9.2)) := ⟨_, fun _ => rfl⟩
  refine J_eqo (hk (f_X11_judge a d )).symm ?_
  unfold f_X11_judge
  refine J_aload_n (pc := 0) 0 dX11_judge_0 rfl rfl ?_
  refine JC_pt_i (J_callV (mi := mi_X11_judge) (mj := mi_X11_hasLand) (pc := 1) dX11_judge_1 ml_X11_201 ok_X11_hasLand ov_X11_hasLand ⟨Nat.le_of_ble_eq_true rfl, Nat.le_of_ble_eq_true rfl⟩ rfl (h0.lt 0 (by decide)) (h0.ty 0 rfl) rfl (s_X11_hasLand g d a h0 ha hco) rfl (Nat.le_of_ble_eq_true rfl)) ?_
  refine K_ifne_b (K := k) (pc := 4) (tgt := 13) dX11_judge_4 (by decide) (fun z4 => ?_) (fun z4 => ?_)
  · refine J_aload_n (pc := 13) 0 dX11_judge_13 rfl rfl ?_
    refine J_aload_n (pc := 14) 0 dX11_judge_14 rfl rfl ?_
    refine J_getR (pc := 15) dX11_judge_15 fl_X11_78 (h0.lt 0 (by decide)) (h0.ty 0 rfl) rfl hco ?_
    refine J_getR (pc := 18) dX11_judge_18 fl_X11_237 (ha.lt 0 (by decide)) (ha.ty 0 rfl) rfl (ha.rf 8 rfl) ?_
    refine J_aload_n (pc := 21) 0 dX11_judge_21 rfl rfl ?_
    refine J_getR (pc := 22) dX11_judge_22 fl_X11_78 (h0.lt 0 (by decide)) (h0.ty 0 rfl) rfl hco ?_
    refine J_aload_n (pc := 25) 0 dX11_judge_25 rfl rfl ?_
    refine J_getR (pc := 26) dX11_judge_26 fl_X11_78 (h0.lt 0 (by decide)) (h0.ty 0 rfl) rfl hco ?_
    refine J_getI (pc := 29) dX11_judge_29 fl_X11_127 (ha.lt 0 (by decide)) (ha.ty 0 rfl) rfl ?_
    refine JC_pt_i (J_callV (mi := mi_X11_judge) (mj := mi_X0_firstBelied) (pc := 32) dX11_judge_32 ml_X11_302 ok_X0_firstBelied ov_X0_firstBelied ⟨Nat.le_of_ble_eq_true rfl, Nat.le_of_ble_eq_true rfl⟩ rfl (ha.lt 9 (by decide)) (ha.ty 9 rfl) rfl (s_X0_firstBelied g d a (a + 9) ((d.1 a) 6) ha (sh_CC_CL9 ha)) rfl (Nat.le_of_ble_eq_true rfl)) ?_
    refine JC_lt_i (K := k) (J_callV (mi := mi_X11_judge) (mj := mi_X11_answered) (pc := 35) dX11_judge_35 ml_X11_120 ok_X11_answered ov_X11_answered ⟨Nat.le_of_ble_eq_true rfl, Nat.le_of_ble_eq_true rfl⟩ rfl (h0.lt 0 (by decide)) (h0.ty 0 rfl) rfl (s_X11_answered g d (f_X0_firstBelied (d.1 a) (d.1 (a + 7)) (d.1 (a + 8)) (d.1 (a + 14)) ((d.1 a) 6)) h0) rfl (Nat.le_of_ble_eq_true rfl)) (fun q35 eq35 => ?_)
    exact J_eqo (hk (q35.1, q35.2)) (J_iret (pc := 38) dX11_judge_38 rfl)
  · refine J_aload_n (pc := 7) 0 dX11_judge_7 rfl rfl ?_
    refine J_iconst (pc := 8) (v := 1) dX11_judge_8 (by decide) ?_
    refine JC_lt_i (K := k) (J_callV (mi := mi_X11_judge) (mj := mi_X11_refused) (pc := 9) dX11_judge_9 ml_X11_102 ok_X11_refused ov_X11_refused ⟨Nat.le_of_ble_eq_true rfl, Nat.le_of_ble_eq_true rfl⟩ rfl (h0.lt 0 (by decide)) (h0.ty 0 rfl) rfl (s_X11_refused g d 1 h0) rfl (Nat.le_of_ble_eq_true rfl)) (fun q9 eq9 => ?_)
    exact J_eqo (hk (q9.1, q9.2)) (J_iret (pc := 12) dX11_judge_12 rfl)
def f_X11_apart_j16 (a : Nat) (d16 : JD) : Int32 × JD := (j_let (f_X11_refused d16 1) (fun q18 => (q18.1, q18.2)))
def f_X11_apart (a : Nat) (d : JD) (pq0 : Int32) (pq1 : Int32) : Int32 × JD := (if (f_X11_isGate (d.1 a) pq0) = true then (if (f_X11_isGate (d.1 a) pq1) = true then (j_let (f_X11_answered d (f_X3_fewestPaths (d.1 a) (d.1 (a + 6)) pq0 pq1)) (fun q32 => (q32.1, q32.2))) else f_X11_apart_j16 a d ) else f_X11_apart_j16 a d )
set_option maxRecDepth 100000 in
set_option maxHeartbeats 4000000 in
theorem s_X11_apart (g : JG) (d : JD) (a : Nat) (pq0 : Int32) (pq1 : Int32) (h0 : j_sh g 0 TS_W RS_W) (ha : j_sh g a TS_CL RS_CL) (hco : g.2.2.1 0 10 = some a) : JM mi_X11_apart 0 0 (g, d) [.ref 0, .int pq0, .int pq1] (some (some (.int (f_X11_apart a d pq0 pq1).1), (g, (f_X11_apart a d pq0 pq1).2))) := by
  refine JM_of (by decide) rfl (Nat.le_of_ble_eq_true rfl) ?_
  refine J_loc (loc' := [(0, .ref 0), (1, .int pq0), (2, .int pq1)]) [0, 1, 2] rfl ?_
  obtain ⟨k, hk⟩ : ∃ k : Int32 × JD → Option (Option Value × JH), ∀ r9, k r9 = some (some (.int r9.1), (g, r9.2)) := ⟨_, fun _ => rfl⟩
  refine J_eqo (hk (f_X11_apart a d pq0 pq1)).symm ?_
  unfold f_X11_apart
  have hX11_apart_j16 : ∀ (d16 : JD) , J mi_X11_apart 0 0 0 0 (g, d16) 16 [(0, .ref 0)] [] (k (f_X11_apart_j16 a d16 )) := by
    intro d16 
    unfold f_X11_apart_j16
    refine J_aload_n (pc := 16) 0 dX11_apart_16 rfl rfl ?_
    refine J_iconst (pc := 17) (v := 1) dX11_apart_17 (by decide) ?_
    refine JC_lt_i (K := k) (J_callV (mi := mi_X11_apart) (mj := mi_X11_refused) (pc := 18) dX11_apart_18 ml_X11_102 ok_X11_refused ov_X11_refused ⟨Nat.le_of_ble_eq_true rfl, Nat.le_of_ble_eq_true rfl⟩ rfl (h0.lt 0 (by decide)) (h0.ty 0 rfl) rfl (s_X11_refused g d16 1 h0) rfl (Nat.le_of_ble_eq_true rfl)) (fun q18 eq18 => ?_)
    exact J_eqo (hk (q18.1, q18.2)) (J_iret (pc := 21) dX11_apart_21 rfl)
  refine J_aload_n (pc := 0) 0 dX11_apart_0 rfl rfl ?_
  refine J_iload_n (pc := 1) 1 dX11_apart_1 rfl rfl ?_
  refine JC_pt_i (J_callV (mi := mi_X11_apart) (mj := mi_X11_isGate) (pc := 2) dX11_apart_2 ml_X11_142 ok_X11_isGate ov_X11_isGate ⟨Nat.le_of_ble_eq_true rfl, Nat.le_of_ble_eq_true rfl⟩ rfl (h0.lt 0 (by decide)) (h0.ty 0 rfl) rfl (s_X11_isGate g d a pq0 h0 ha hco) rfl (Nat.le_of_ble_eq_true rfl)) ?_
  refine K_ifeq_b (K := k) (pc := 5) (tgt := 16) dX11_apart_5 (by decide) (fun z5 => ?_) (fun z5 => ?_)
  · refine J_loc (loc' := [(0, .ref 0)]) [0] rfl ?_
    exact hX11_apart_j16 d 
  · refine J_aload_n (pc := 8) 0 dX11_apart_8 rfl rfl ?_
    refine J_iload_n (pc := 9) 2 dX11_apart_9 rfl rfl ?_
    refine JC_pt_i (J_callV (mi := mi_X11_apart) (mj := mi_X11_isGate) (pc := 10) dX11_apart_10 ml_X11_142 ok_X11_isGate ov_X11_isGate ⟨Nat.le_of_ble_eq_true rfl, Nat.le_of_ble_eq_true rfl⟩ rfl (h0.lt 0 (by decide)) (h0.ty 0 rfl) rfl (s_X11_isGate g d a pq1 h0 ha hco) rfl (Nat.le_of_ble_eq_true rfl)) ?_
    refine K_ifne_b (K := k) (pc := 13) (tgt := 22) dX11_apart_13 (by decide) (fun z13 => ?_) (fun z13 => ?_)
    · refine J_aload_n (pc := 22) 0 dX11_apart_22 rfl rfl ?_
      refine J_aload_n (pc := 23) 0 dX11_apart_23 rfl rfl ?_
      refine J_getR (pc := 24) dX11_apart_24 fl_X11_78 (h0.lt 0 (by decide)) (h0.ty 0 rfl) rfl hco ?_
      refine J_iload_n (pc := 27) 1 dX11_apart_27 rfl rfl ?_
      refine J_iload_n (pc := 28) 2 dX11_apart_28 rfl rfl ?_
      refine JC_pt_i (J_callV (mi := mi_X11_apart) (mj := mi_X3_fewestPaths) (pc := 29) dX11_apart_29 ml_X11_305 ok_X3_fewestPaths ov_X3_fewestPaths ⟨Nat.le_of_ble_eq_true rfl, Nat.le_of_ble_eq_true rfl⟩ rfl (ha.lt 0 (by decide)) (ha.ty 0 rfl) rfl (s_X3_fewestPaths g d a pq0 pq1 ha) rfl (Nat.le_of_ble_eq_true rfl)) ?_
      refine JC_lt_i (K := k) (J_callV (mi := mi_X11_apart) (mj := mi_X11_answered) (pc := 32) dX11_apart_32 ml_X11_120 ok_X11_answered ov_X11_answered ⟨Nat.le_of_ble_eq_true rfl, Nat.le_of_ble_eq_true rfl⟩ rfl (h0.lt 0 (by decide)) (h0.ty 0 rfl) rfl (s_X11_answered g d (f_X3_fewestPaths (d.1 a) (d.1 (a + 6)) pq0 pq1) h0) rfl (Nat.le_of_ble_eq_true rfl)) (fun q32 eq32 => ?_)
      exact J_eqo (hk (q32.1, q32.2)) (J_iret (pc := 35) dX11_apart_35 rfl)
    · refine J_loc (loc' := [(0, .ref 0)]) [0] rfl ?_
      exact hX11_apart_j16 d 
def f_X11_sentries (a : Nat) (d : JD) : Int32 × JD := (if (f_X11_hasLand (d.1 a)) = true then (j_let (f_X11_answered d (f_X3_fewestSentries (d.1 a) (d.1 (a + 6)))) (fun q15 => (q15.1, q15.2))) else (j_let (f_X11_refused d 1) (fun q23 => (q23.1, q23.2))))
set_option maxRecDepth 100000 in
set_option maxHeartbeats 4000000 in
theorem s_X11_sentries (g : JG) (d : JD) (a : Nat) (h0 : j_sh g 0 TS_W RS_W) (ha : j_sh g a TS_CL RS_CL) (hco : g.2.2.1 0 10 = some a) : JM mi_X11_sentries 0 0 (g, d) [.ref 0] (some (some (.int (f_X11_sentries a d ).1), (g, (f_X11_sentries a d ).2))) := by
  refine JM_of (by decide) rfl (Nat.le_of_ble_eq_true rfl) ?_
  refine J_loc (loc' := [(0, .ref 0)]) [0] rfl ?_
  obtain ⟨k, hk⟩ : ∃ k : Int32 × JD → Option (Option Value × JH), ∀ r9, k r9 = some (some (.int r9.1), (g, r9.2)) := ⟨_, fun _ => rfl⟩
  refine J_eqo (hk (f_X11_sentries a d )).symm ?_
  unfold f_X11_sentries
  refine J_aload_n (pc := 0) 0 dX11_sentries_0 rfl rfl ?_
  refine JC_pt_i (J_callV (mi := mi_X11_sentries) (mj := mi_X11_hasLand) (pc := 1) dX11_sentries_1 ml_X11_201 ok_X11_hasLand ov_X11_hasLand ⟨Nat.le_of_ble_eq_true rfl, Nat.le_of_ble_eq_true rfl⟩ rfl (h0.lt 0 (by decide)) (h0.ty 0 rfl) rfl (s_X11_hasLand g d a h0 ha hco) rfl (Nat.le_of_ble_eq_true rfl)) ?_
  refine K_ifeq_b (K := k) (pc := 4) (tgt := 21) dX11_sentries_4 (by decide) (fun z4 => ?_) (fun z4 => ?_)
  · refine J_aload_n (pc := 21) 0 dX11_sentries_21 rfl rfl ?_
    refine J_iconst (pc := 22) (v := 1) dX11_sentries_22 (by decide) ?_
    refine JC_lt_i (K := k) (J_callV (mi := mi_X11_sentries) (mj := mi_X11_refused) (pc := 23) dX11_sentries_23 ml_X11_102 ok_X11_refused ov_X11_refused ⟨Nat.le_of_ble_eq_true rfl, Nat.le_of_ble_eq_true rfl⟩ rfl (h0.lt 0 (by decide)) (h0.ty 0 rfl) rfl (s_X11_refused g d 1 h0) rfl (Nat.le_of_ble_eq_true rfl)) (fun q23 eq23 => ?_)
    exact J_eqo (hk (q23.1, q23.2)) (J_iret (pc := 26) dX11_sentries_26 rfl)
  · refine J_aload_n (pc := 7) 0 dX11_sentries_7 rfl rfl ?_
    refine J_aload_n (pc := 8) 0 dX11_sentries_8 rfl rfl ?_
    refine J_getR (pc := 9) dX11_sentries_9 fl_X11_78 (h0.lt 0 (by decide)) (h0.ty 0 rfl) rfl hco ?_
    refine JC_pt_i (J_callV (mi := mi_X11_sentries) (mj := mi_X3_fewestSentries) (pc := 12) dX11_sentries_12 ml_X11_308 ok_X3_fewestSentries ov_X3_fewestSentries ⟨Nat.le_of_ble_eq_true rfl, Nat.le_of_ble_eq_true rfl⟩ rfl (ha.lt 0 (by decide)) (ha.ty 0 rfl) rfl (s_X3_fewestSentries g d a ha) rfl (Nat.le_of_ble_eq_true rfl)) ?_
    refine JC_lt_i (K := k) (J_callV (mi := mi_X11_sentries) (mj := mi_X11_answered) (pc := 15) dX11_sentries_15 ml_X11_120 ok_X11_answered ov_X11_answered ⟨Nat.le_of_ble_eq_true rfl, Nat.le_of_ble_eq_true rfl⟩ rfl (h0.lt 0 (by decide)) (h0.ty 0 rfl) rfl (s_X11_answered g d (f_X3_fewestSentries (d.1 a) (d.1 (a + 6))) h0) rfl (Nat.le_of_ble_eq_true rfl)) (fun q15 eq15 => ?_)
    refine J_goto (pc := 18) (tgt := 26) dX11_sentries_18 (by decide) ?_
    exact J_eqo (hk (q15.1, q15.2)) (J_iret (pc := 26) dX11_sentries_26 rfl)
def f_X11_parts (a : Nat) (d : JD) : Int32 × JD := (if (f_X11_hasLand (d.1 a)) = true then (j_let (f_X11_answered d (f_X3_countParts (d.1 a) (d.1 (a + 6)))) (fun q15 => (q15.1, q15.2))) else (j_let (f_X11_refused d 1) (fun q23 => (q23.1, q23.2))))
set_option maxRecDepth 100000 in
set_option maxHeartbeats 4000000 in
theorem s_X11_parts (g : JG) (d : JD) (a : Nat) (h0 : j_sh g 0 TS_W RS_W) (ha : j_sh g a TS_CL RS_CL) (hco : g.2.2.1 0 10 = some a) : JM mi_X11_parts 0 0 (g, d) [.ref 0] (some (some (.int (f_X11_parts a d ).1), (g, (f_X11_parts a d ).2))) := by
  refine JM_of (by decide) rfl (Nat.le_of_ble_eq_true rfl) ?_
  refine J_loc (loc' := [(0, .ref 0)]) [0] rfl ?_
  obtain ⟨k, hk⟩ : ∃ k : Int32 × JD → Option (Option Value × JH), ∀ r9, k r9 = some (some (.int r9.1), (g, r9.2)) := ⟨_, fun _ => rfl⟩
  refine J_eqo (hk (f_X11_parts a d )).symm ?_
  unfold f_X11_parts
  refine J_aload_n (pc := 0) 0 dX11_parts_0 rfl rfl ?_
  refine JC_pt_i (J_callV (mi := mi_X11_parts) (mj := mi_X11_hasLand) (pc := 1) dX11_parts_1 ml_X11_201 ok_X11_hasLand ov_X11_hasLand ⟨Nat.le_of_ble_eq_true rfl, Nat.le_of_ble_eq_true rfl⟩ rfl (h0.lt 0 (by decide)) (h0.ty 0 rfl) rfl (s_X11_hasLand g d a h0 ha hco) rfl (Nat.le_of_ble_eq_true rfl)) ?_
  refine K_ifeq_b (K := k) (pc := 4) (tgt := 21) dX11_parts_4 (by decide) (fun z4 => ?_) (fun z4 => ?_)
  · refine J_aload_n (pc := 21) 0 dX11_parts_21 rfl rfl ?_
    refine J_iconst (pc := 22) (v := 1) dX11_parts_22 (by decide) ?_
    refine JC_lt_i (K := k) (J_callV (mi := mi_X11_parts) (mj := mi_X11_refused) (pc := 23) dX11_parts_23 ml_X11_102 ok_X11_refused ov_X11_refused ⟨Nat.le_of_ble_eq_true rfl, Nat.le_of_ble_eq_true rfl⟩ rfl (h0.lt 0 (by decide)) (h0.ty 0 rfl) rfl (s_X11_refused g d 1 h0) rfl (Nat.le_of_ble_eq_true rfl)) (fun q23 eq23 => ?_)
    exact J_eqo (hk (q23.1, q23.2)) (J_iret (pc := 26) dX11_parts_26 rfl)
  · refine J_aload_n (pc := 7) 0 dX11_parts_7 rfl rfl ?_
    refine J_aload_n (pc := 8) 0 dX11_parts_8 rfl rfl ?_
    refine J_getR (pc := 9) dX11_parts_9 fl_X11_78 (h0.lt 0 (by decide)) (h0.ty 0 rfl) rfl hco ?_
    refine JC_pt_i (J_callV (mi := mi_X11_parts) (mj := mi_X3_countParts) (pc := 12) dX11_parts_12 ml_X11_312 ok_X3_countParts ov_X3_countParts ⟨Nat.le_of_ble_eq_true rfl, Nat.le_of_ble_eq_true rfl⟩ rfl (ha.lt 0 (by decide)) (ha.ty 0 rfl) rfl (s_X3_countParts g d a ha) rfl (Nat.le_of_ble_eq_true rfl)) ?_
    refine JC_lt_i (K := k) (J_callV (mi := mi_X11_parts) (mj := mi_X11_answered) (pc := 15) dX11_parts_15 ml_X11_120 ok_X11_answered ov_X11_answered ⟨Nat.le_of_ble_eq_true rfl, Nat.le_of_ble_eq_true rfl⟩ rfl (h0.lt 0 (by decide)) (h0.ty 0 rfl) rfl (s_X11_answered g d (f_X3_countParts (d.1 a) (d.1 (a + 6))) h0) rfl (Nat.le_of_ble_eq_true rfl)) (fun q15 eq15 => ?_)
    refine J_goto (pc := 18) (tgt := 26) dX11_parts_18 (by decide) ?_
    exact J_eqo (hk (q15.1, q15.2)) (J_iret (pc := 26) dX11_parts_26 rfl)
def f_X11_estate_j16 (a : Nat) (d16 : JD) : Int32 × JD := (j_let (f_X11_refused d16 1) (fun q18 => (q18.1, q18.2)))
def f_X11_estate (a : Nat) (d : JD) (pq0 : Int32) (pq1 : Int32) : Int32 × JD := (if (f_X11_isPerson (d.1 a) pq0) = true then (if (f_X11_isGate (d.1 a) pq1) = true then (j_let (f_X11_answered d (f_X3_wealthAt (d.1 a) (d.1 (a + 7)) (d.1 (a + 8)) pq0 ((d.1 22) 0) (f_X3_together (d.1 a) (d.1 (a + 6)) pq1 (f_X3_gatesOwned (d.1 a) (d.1 (a + 7)) pq0 ((d.1 22) 0))))) (fun q63 => (q63.1, q63.2))) else f_X11_estate_j16 a d ) else f_X11_estate_j16 a d )
set_option maxRecDepth 100000 in
set_option maxHeartbeats 4000000 in
theorem s_X11_estate (g : JG) (d : JD) (a : Nat) (pq0 : Int32) (pq1 : Int32) (h0 : j_sh g 0 TS_W RS_W) (ha : j_sh g a TS_CL RS_CL) (hco : g.2.2.1 0 10 = some a) : JM mi_X11_estate 0 0 (g, d) [.ref 0, .int pq0, .int pq1] (some (some (.int (f_X11_estate a d pq0 pq1).1), (g, (f_X11_estate a d pq0 pq1).2))) := by
  refine JM_of (by decide) rfl (Nat.le_of_ble_eq_true rfl) ?_
  refine J_loc (loc' := [(0, .ref 0), (1, .int pq0), (2, .int pq1)]) [0, 1, 2] rfl ?_
  obtain ⟨k, hk⟩ : ∃ k : Int32 × JD → Option (Option Value × JH), ∀ r9, k r9 = some (some (.int r9.1), (g, r9.2)) := ⟨_, fun _ => rfl⟩
  refine J_eqo (hk (f_X11_estate a d pq0 pq1)).symm ?_
  unfold f_X11_estate
  have hX11_estate_j16 : ∀ (d16 : JD) , J mi_X11_estate 0 0 0 0 (g, d16) 16 [(0, .ref 0)] [] (k (f_X11_estate_j16 a d16 )) := by
    intro d16 
    unfold f_X11_estate_j16
    refine J_aload_n (pc := 16) 0 dX11_estate_16 rfl rfl ?_
    refine J_iconst (pc := 17) (v := 1) dX11_estate_17 (by decide) ?_
    refine JC_lt_i (K := k) (J_callV (mi := mi_X11_estate) (mj := mi_X11_refused) (pc := 18) dX11_estate_18 ml_X11_102 ok_X11_refused ov_X11_refused ⟨Nat.le_of_ble_eq_true rfl, Nat.le_of_ble_eq_true rfl⟩ rfl (h0.lt 0 (by decide)) (h0.ty 0 rfl) rfl (s_X11_refused g d16 1 h0) rfl (Nat.le_of_ble_eq_true rfl)) (fun q18 eq18 => ?_)
    exact J_eqo (hk (q18.1, q18.2)) (J_iret (pc := 21) dX11_estate_21 rfl)
  refine J_aload_n (pc := 0) 0 dX11_estate_0 rfl rfl ?_
  refine J_iload_n (pc := 1) 1 dX11_estate_1 rfl rfl ?_
  refine JC_pt_i (J_callV (mi := mi_X11_estate) (mj := mi_X11_isPerson) (pc := 2) dX11_estate_2 ml_X11_174 ok_X11_isPerson ov_X11_isPerson ⟨Nat.le_of_ble_eq_true rfl, Nat.le_of_ble_eq_true rfl⟩ rfl (h0.lt 0 (by decide)) (h0.ty 0 rfl) rfl (s_X11_isPerson g d a pq0 h0 ha hco) rfl (Nat.le_of_ble_eq_true rfl)) ?_
  refine K_ifeq_b (K := k) (pc := 5) (tgt := 16) dX11_estate_5 (by decide) (fun z5 => ?_) (fun z5 => ?_)
  · refine J_loc (loc' := [(0, .ref 0)]) [0] rfl ?_
    exact hX11_estate_j16 d 
  · refine J_aload_n (pc := 8) 0 dX11_estate_8 rfl rfl ?_
    refine J_iload_n (pc := 9) 2 dX11_estate_9 rfl rfl ?_
    refine JC_pt_i (J_callV (mi := mi_X11_estate) (mj := mi_X11_isGate) (pc := 10) dX11_estate_10 ml_X11_142 ok_X11_isGate ov_X11_isGate ⟨Nat.le_of_ble_eq_true rfl, Nat.le_of_ble_eq_true rfl⟩ rfl (h0.lt 0 (by decide)) (h0.ty 0 rfl) rfl (s_X11_isGate g d a pq1 h0 ha hco) rfl (Nat.le_of_ble_eq_true rfl)) ?_
    refine K_ifne_b (K := k) (pc := 13) (tgt := 22) dX11_estate_13 (by decide) (fun z13 => ?_) (fun z13 => ?_)
    · refine J_aload_n (pc := 22) 0 dX11_estate_22 rfl rfl ?_
      refine J_getR (pc := 23) dX11_estate_23 fl_X11_78 (h0.lt 0 (by decide)) (h0.ty 0 rfl) rfl hco ?_
      refine J_iload_n (pc := 26) 2 dX11_estate_26 rfl rfl ?_
      refine J_aload_n (pc := 27) 0 dX11_estate_27 rfl rfl ?_
      refine J_getR (pc := 28) dX11_estate_28 fl_X11_78 (h0.lt 0 (by decide)) (h0.ty 0 rfl) rfl hco ?_
      refine J_iload_n (pc := 31) 1 dX11_estate_31 rfl rfl ?_
      refine J_aload_n (pc := 32) 0 dX11_estate_32 rfl rfl ?_
      refine J_getR (pc := 33) dX11_estate_33 fl_X11_28 (h0.lt 0 (by decide)) (h0.ty 0 rfl) rfl (h0.rf 2 rfl) ?_
      refine J_getI (pc := 36) dX11_estate_36 fl_X11_159 (h0.lt 22 (by decide)) (h0.ty 22 rfl) rfl ?_
      refine JC_pt_i (J_callV (mi := mi_X11_estate) (mj := mi_X3_gatesOwned) (pc := 39) dX11_estate_39 ml_X11_180 ok_X3_gatesOwned ov_X3_gatesOwned ⟨Nat.le_of_ble_eq_true rfl, Nat.le_of_ble_eq_true rfl⟩ rfl (ha.lt 0 (by decide)) (ha.ty 0 rfl) rfl (s_X3_gatesOwned g d a pq0 ((d.1 22) 0) ha) rfl (Nat.le_of_ble_eq_true rfl)) ?_
      refine JC_pt_i (J_callV (mi := mi_X11_estate) (mj := mi_X3_together) (pc := 42) dX11_estate_42 ml_X11_315 ok_X3_together ov_X3_together ⟨Nat.le_of_ble_eq_true rfl, Nat.le_of_ble_eq_true rfl⟩ rfl (ha.lt 0 (by decide)) (ha.ty 0 rfl) rfl (s_X3_together g d a pq1 (f_X3_gatesOwned (d.1 a) (d.1 (a + 7)) pq0 ((d.1 22) 0)) ha) rfl (Nat.le_of_ble_eq_true rfl)) ?_
      refine J_istore_n (pc := 45) (loc' := [(3, .int (f_X3_together (d.1 a) (d.1 (a + 6)) pq1 (f_X3_gatesOwned (d.1 a) (d.1 (a + 7)) pq0 ((d.1 22) 0)))), (0, .ref 0), (1, .int pq0), (2, .int pq1)]) dX11_estate_45 rfl (by decide) rfl ?_
      refine J_aload_n (pc := 46) 1 dX11_estate_46 rfl rfl ?_
      refine J_aload_n (pc := 47) 1 dX11_estate_47 rfl rfl ?_
      refine J_getR (pc := 48) dX11_estate_48 fl_X11_78 (h0.lt 0 (by decide)) (h0.ty 0 rfl) rfl hco ?_
      refine J_iload_n (pc := 51) 2 dX11_estate_51 rfl rfl ?_
      refine J_aload_n (pc := 52) 1 dX11_estate_52 rfl rfl ?_
      refine J_getR (pc := 53) dX11_estate_53 fl_X11_28 (h0.lt 0 (by decide)) (h0.ty 0 rfl) rfl (h0.rf 2 rfl) ?_
      refine J_getI (pc := 56) dX11_estate_56 fl_X11_159 (h0.lt 22 (by decide)) (h0.ty 22 rfl) rfl ?_
      refine J_iload_n (pc := 59) 0 dX11_estate_59 rfl rfl ?_
      refine JC_pt_i (J_callV (mi := mi_X11_estate) (mj := mi_X3_wealthAt) (pc := 60) dX11_estate_60 ml_X11_318 ok_X3_wealthAt ov_X3_wealthAt ⟨Nat.le_of_ble_eq_true rfl, Nat.le_of_ble_eq_true rfl⟩ rfl (ha.lt 0 (by decide)) (ha.ty 0 rfl) rfl (s_X3_wealthAt g d a pq0 ((d.1 22) 0) (f_X3_together (d.1 a) (d.1 (a + 6)) pq1 (f_X3_gatesOwned (d.1 a) (d.1 (a + 7)) pq0 ((d.1 22) 0))) ha) rfl (Nat.le_of_ble_eq_true rfl)) ?_
      refine JC_lt_i (K := k) (J_callV (mi := mi_X11_estate) (mj := mi_X11_answered) (pc := 63) dX11_estate_63 ml_X11_120 ok_X11_answered ov_X11_answered ⟨Nat.le_of_ble_eq_true rfl, Nat.le_of_ble_eq_true rfl⟩ rfl (h0.lt 0 (by decide)) (h0.ty 0 rfl) rfl (s_X11_answered g d (f_X3_wealthAt (d.1 a) (d.1 (a + 7)) (d.1 (a + 8)) pq0 ((d.1 22) 0) (f_X3_together (d.1 a) (d.1 (a + 6)) pq1 (f_X3_gatesOwned (d.1 a) (d.1 (a + 7)) pq0 ((d.1 22) 0)))) h0) rfl (Nat.le_of_ble_eq_true rfl)) (fun q63 eq63 => ?_)
      exact J_eqo (hk (q63.1, q63.2)) (J_iret (pc := 66) dX11_estate_66 rfl)
    · refine J_loc (loc' := [(0, .ref 0)]) [0] rfl ?_
      exact hX11_estate_j16 d 
def f_X11_told (d : JD) (pq0 : Int32) : Int64 × JD := (if pq0 = 0 then ((d.2 41) 0, j_sI d 0 11 0) else ((d.2 41) 1, j_sI d 0 11 0))
set_option maxRecDepth 100000 in
set_option maxHeartbeats 4000000 in
theorem s_X11_told (g : JG) (d : JD) (pq0 : Int32) (h0 : j_sh g 0 TS_W RS_W) : JM mi_X11_told 0 0 (g, d) [.ref 0, .int pq0] (some (some (.long (f_X11_told d pq0).1), (g, (f_X11_told d pq0).2))) := by
  refine JM_of (by decide) rfl (Nat.le_of_ble_eq_true rfl) ?_
  refine J_loc (loc' := [(0, .ref 0), (1, .int pq0)]) [0, 1] rfl ?_
  obtain ⟨k, hk⟩ : ∃ k : Int64 × JD → Option (Option Value × JH), ∀ r9, k r9 = some (some (.long r9.1), (g, r9.2)) := ⟨_, fun _ => rfl⟩
  refine J_eqo (hk (f_X11_told d pq0)).symm ?_
  unfold f_X11_told
  refine J_aload_n (pc := 0) 0 dX11_told_0 rfl rfl ?_
  refine J_iconst (pc := 1) (v := 0) dX11_told_1 (by decide) ?_
  refine J_putI (pc := 2) dX11_told_2 fl_X11_82 ft_10_11 (h0.lt 0 (by decide)) (h0.ty 0 rfl) rfl rfl rfl ?_
  refine J_iload_n (pc := 5) 1 dX11_told_5 rfl rfl ?_
  refine K_if_eq (K := k) (pc := 6) (tgt := 19) dX11_told_6 (by decide) (fun z6 => ?_) (fun z6 => ?_)
  · refine J_aload_n (pc := 19) 0 dX11_told_19 rfl rfl ?_
    refine J_getR (pc := 20) dX11_told_20 fl_X11_71 (h0.lt 0 (by decide)) (h0.ty 0 rfl) rfl (h0.rf 9 rfl) ?_
    refine J_getL (pc := 23) dX11_told_23 fl_X11_426 (h0.lt 41 (by decide)) (h0.ty 41 rfl) rfl ?_
    refine J_valL (y := (d.2 41) 0) rfl ?_
    exact J_eqo (hk ((d.2 41) 0, j_sI d 0 11 0)) (J_lret (pc := 26) dX11_told_26 rfl)
  · refine J_aload_n (pc := 9) 0 dX11_told_9 rfl rfl ?_
    refine J_getR (pc := 10) dX11_told_10 fl_X11_71 (h0.lt 0 (by decide)) (h0.ty 0 rfl) rfl (h0.rf 9 rfl) ?_
    refine J_getL (pc := 13) dX11_told_13 fl_X11_422 (h0.lt 41 (by decide)) (h0.ty 41 rfl) rfl ?_
    refine J_valL (y := (d.2 41) 1) rfl ?_
    refine J_goto (pc := 16) (tgt := 26) dX11_told_16 (by decide) ?_
    exact J_eqo (hk ((d.2 41) 1, j_sI d 0 11 0)) (J_lret (pc := 26) dX11_told_26 rfl)
def f_X11_power (a : Nat) (d : JD) (pq0 : Int32) (pq1 : Int32) : Option (Int64 × JD) := (if (f_X11_isPerson (d.1 a) pq0) = true then ((f_X5_setPower a d ((d.1 22) 0) pq0).bind (fun q31 => j_let (f_X11_told q31 pq1) (fun q36 => some (q36.1, q36.2)))) else (j_let (f_X11_refused d 1) (fun q10 => some (q10.1.toInt64, q10.2))))
set_option maxRecDepth 100000 in
set_option maxHeartbeats 4000000 in
theorem s_X11_power (g : JG) (d : JD) (a : Nat) (pq0 : Int32) (pq1 : Int32) (h0 : j_sh g 0 TS_W RS_W) (ha : j_sh g a TS_CL RS_CL) (hco : g.2.2.1 0 10 = some a) : JM mi_X11_power 0 0 (g, d) [.ref 0, .int pq0, .int pq1] ((f_X11_power a d pq0 pq1).bind (fun r9 => some (some (.long r9.1), (g, r9.2)))) := by
  refine JM_of (by decide) rfl (Nat.le_of_ble_eq_true rfl) ?_
  refine J_loc (loc' := [(0, .ref 0), (1, .int pq0), (2, .int pq1)]) [0, 1, 2] rfl ?_
  obtain ⟨k, hk, hk2⟩ : ∃ k : Int64 × JD → Option (Option Value × JH), (∀ r9, k r9 = some (some (.long r9.1), (g, r9.2))) ∧ (fun r9 : Int64 × JD => (some (some (.long r9.1), (g, r9.2)) : Option (Option Value × JH))) = k := ⟨_, fun _ => rfl, rfl⟩
  rw [hk2]
  unfold f_X11_power
  refine J_aload_n (pc := 0) 0 dX11_power_0 rfl rfl ?_
  refine J_iload_n (pc := 1) 1 dX11_power_1 rfl rfl ?_
  refine JC_pt_i (J_callV (mi := mi_X11_power) (mj := mi_X11_isPerson) (pc := 2) dX11_power_2 ml_X11_174 ok_X11_isPerson ov_X11_isPerson ⟨Nat.le_of_ble_eq_true rfl, Nat.le_of_ble_eq_true rfl⟩ rfl (h0.lt 0 (by decide)) (h0.ty 0 rfl) rfl (s_X11_isPerson g d a pq0 h0 ha hco) rfl (Nat.le_of_ble_eq_true rfl)) ?_
  refine K_ifne_b (K := (fun x => Option.bind x k)) (pc := 5) (tgt := 15) dX11_power_5 (by decide) (fun z5 => ?_) (fun z5 => ?_)
  · refine J_aload_n (pc := 15) 0 dX11_power_15 rfl rfl ?_
    refine J_getR (pc := 16) dX11_power_16 fl_X11_71 (h0.lt 0 (by decide)) (h0.ty 0 rfl) rfl (h0.rf 9 rfl) ?_
    refine J_aload_n (pc := 19) 0 dX11_power_19 rfl rfl ?_
    refine J_getR (pc := 20) dX11_power_20 fl_X11_78 (h0.lt 0 (by decide)) (h0.ty 0 rfl) rfl hco ?_
    refine J_aload_n (pc := 23) 0 dX11_power_23 rfl rfl ?_
    refine J_getR (pc := 24) dX11_power_24 fl_X11_28 (h0.lt 0 (by decide)) (h0.ty 0 rfl) rfl (h0.rf 2 rfl) ?_
    refine J_getI (pc := 27) dX11_power_27 fl_X11_159 (h0.lt 22 (by decide)) (h0.ty 22 rfl) rfl ?_
    refine J_iload_n (pc := 30) 1 dX11_power_30 rfl rfl ?_
    refine JC_pe_v (J_callV (mi := mi_X11_power) (mj := mi_X5_setPower) (pc := 31) dX11_power_31 ml_X11_321 ok_X5_setPower ov_X5_setPower ⟨Nat.le_of_ble_eq_true rfl, Nat.le_of_ble_eq_true rfl⟩ rfl (h0.lt 41 (by decide)) (h0.ty 41 rfl) rfl (s_X5_setPower g d a ((d.1 22) 0) pq0 h0 ha) rfl (Nat.le_of_ble_eq_true rfl)) (fun q31 => ?_)
    refine J_aload_n (pc := 34) 0 dX11_power_34 rfl rfl ?_
    refine J_iload_n (pc := 35) 2 dX11_power_35 rfl rfl ?_
    refine JC_lt_l (K := (fun x => Option.bind x k)) (J_callV (mi := mi_X11_power) (mj := mi_X11_told) (pc := 36) dX11_power_36 ml_X11_325 ok_X11_told ov_X11_told ⟨Nat.le_of_ble_eq_true rfl, Nat.le_of_ble_eq_true rfl⟩ rfl (h0.lt 0 (by decide)) (h0.ty 0 rfl) rfl (s_X11_told g q31 pq1 h0) rfl (Nat.le_of_ble_eq_true rfl)) (fun q36 eq36 => ?_)
    exact J_eqo (hk (q36.1, q36.2)) (J_lret (pc := 39) dX11_power_39 rfl)
  · refine J_aload_n (pc := 8) 0 dX11_power_8 rfl rfl ?_
    refine J_iconst (pc := 9) (v := 1) dX11_power_9 (by decide) ?_
    refine JC_lt_i (K := (fun x => Option.bind x k)) (J_callV (mi := mi_X11_power) (mj := mi_X11_refused) (pc := 10) dX11_power_10 ml_X11_102 ok_X11_refused ov_X11_refused ⟨Nat.le_of_ble_eq_true rfl, Nat.le_of_ble_eq_true rfl⟩ rfl (h0.lt 0 (by decide)) (h0.ty 0 rfl) rfl (s_X11_refused g d 1 h0) rfl (Nat.le_of_ble_eq_true rfl)) (fun q10 eq10 => ?_)
    refine J_i2l (pc := 13) dX11_power_13 ?_
    exact J_eqo (hk (q10.1.toInt64, q10.2)) (J_lret (pc := 14) dX11_power_14 rfl)
def f_X11_rule (a : Nat) (d : JD) : Int32 × JD := (if (f_X11_hasLand (d.1 a)) = true then (j_let (f_X11_answered d (f_X3_fewestRulers (d.1 a) (d.1 (a + 7)) (d.1 (a + 8)) ((d.1 22) 0))) (fun q22 => (q22.1, q22.2))) else (j_let (f_X11_refused d 1) (fun q30 => (q30.1, q30.2))))
set_option maxRecDepth 100000 in
set_option maxHeartbeats 4000000 in
theorem s_X11_rule (g : JG) (d : JD) (a : Nat) (h0 : j_sh g 0 TS_W RS_W) (ha : j_sh g a TS_CL RS_CL) (hco : g.2.2.1 0 10 = some a) : JM mi_X11_rule 0 0 (g, d) [.ref 0] (some (some (.int (f_X11_rule a d ).1), (g, (f_X11_rule a d ).2))) := by
  refine JM_of (by decide) rfl (Nat.le_of_ble_eq_true rfl) ?_
  refine J_loc (loc' := [(0, .ref 0)]) [0] rfl ?_
  obtain ⟨k, hk⟩ : ∃ k : Int32 × JD → Option (Option Value × JH), ∀ r9, k r9 = some (some (.int r9.1), (g, r9.2)) := ⟨_, fun _ => rfl⟩
  refine J_eqo (hk (f_X11_rule a d )).symm ?_
  unfold f_X11_rule
  refine J_aload_n (pc := 0) 0 dX11_rule_0 rfl rfl ?_
  refine JC_pt_i (J_callV (mi := mi_X11_rule) (mj := mi_X11_hasLand) (pc := 1) dX11_rule_1 ml_X11_201 ok_X11_hasLand ov_X11_hasLand ⟨Nat.le_of_ble_eq_true rfl, Nat.le_of_ble_eq_true rfl⟩ rfl (h0.lt 0 (by decide)) (h0.ty 0 rfl) rfl (s_X11_hasLand g d a h0 ha hco) rfl (Nat.le_of_ble_eq_true rfl)) ?_
  refine K_ifeq_b (K := k) (pc := 4) (tgt := 28) dX11_rule_4 (by decide) (fun z4 => ?_) (fun z4 => ?_)
  · refine J_aload_n (pc := 28) 0 dX11_rule_28 rfl rfl ?_
    refine J_iconst (pc := 29) (v := 1) dX11_rule_29 (by decide) ?_
    refine JC_lt_i (K := k) (J_callV (mi := mi_X11_rule) (mj := mi_X11_refused) (pc := 30) dX11_rule_30 ml_X11_102 ok_X11_refused ov_X11_refused ⟨Nat.le_of_ble_eq_true rfl, Nat.le_of_ble_eq_true rfl⟩ rfl (h0.lt 0 (by decide)) (h0.ty 0 rfl) rfl (s_X11_refused g d 1 h0) rfl (Nat.le_of_ble_eq_true rfl)) (fun q30 eq30 => ?_)
    exact J_eqo (hk (q30.1, q30.2)) (J_iret (pc := 33) dX11_rule_33 rfl)
  · refine J_aload_n (pc := 7) 0 dX11_rule_7 rfl rfl ?_
    refine J_aload_n (pc := 8) 0 dX11_rule_8 rfl rfl ?_
    refine J_getR (pc := 9) dX11_rule_9 fl_X11_78 (h0.lt 0 (by decide)) (h0.ty 0 rfl) rfl hco ?_
    refine J_aload_n (pc := 12) 0 dX11_rule_12 rfl rfl ?_
    refine J_getR (pc := 13) dX11_rule_13 fl_X11_28 (h0.lt 0 (by decide)) (h0.ty 0 rfl) rfl (h0.rf 2 rfl) ?_
    refine J_getI (pc := 16) dX11_rule_16 fl_X11_159 (h0.lt 22 (by decide)) (h0.ty 22 rfl) rfl ?_
    refine JC_pt_i (J_callV (mi := mi_X11_rule) (mj := mi_X3_fewestRulers) (pc := 19) dX11_rule_19 ml_X11_329 ok_X3_fewestRulers ov_X3_fewestRulers ⟨Nat.le_of_ble_eq_true rfl, Nat.le_of_ble_eq_true rfl⟩ rfl (ha.lt 0 (by decide)) (ha.ty 0 rfl) rfl (s_X3_fewestRulers g d a ((d.1 22) 0) ha) rfl (Nat.le_of_ble_eq_true rfl)) ?_
    refine JC_lt_i (K := k) (J_callV (mi := mi_X11_rule) (mj := mi_X11_answered) (pc := 22) dX11_rule_22 ml_X11_120 ok_X11_answered ov_X11_answered ⟨Nat.le_of_ble_eq_true rfl, Nat.le_of_ble_eq_true rfl⟩ rfl (h0.lt 0 (by decide)) (h0.ty 0 rfl) rfl (s_X11_answered g d (f_X3_fewestRulers (d.1 a) (d.1 (a + 7)) (d.1 (a + 8)) ((d.1 22) 0)) h0) rfl (Nat.le_of_ble_eq_true rfl)) (fun q22 eq22 => ?_)
    refine J_goto (pc := 25) (tgt := 33) dX11_rule_25 (by decide) ?_
    exact J_eqo (hk (q22.1, q22.2)) (J_iret (pc := 33) dX11_rule_33 rfl)
def f_X11_denied (d : JD) (pq0 : Int32) : Bool × JD := (false, j_sI d 0 11 pq0)
set_option maxRecDepth 100000 in
set_option maxHeartbeats 4000000 in
theorem s_X11_denied (g : JG) (d : JD) (pq0 : Int32) (h0 : j_sh g 0 TS_W RS_W) : JM mi_X11_denied 0 0 (g, d) [.ref 0, .int pq0] (some (some (.int (j_b (f_X11_denied d pq0).1)), (g, (f_X11_denied d pq0).2))) := by
  refine JM_of (by decide) rfl (Nat.le_of_ble_eq_true rfl) ?_
  refine J_loc (loc' := [(0, .ref 0), (1, .int pq0)]) [0, 1] rfl ?_
  obtain ⟨k, hk⟩ : ∃ k : Bool × JD → Option (Option Value × JH), ∀ r9, k r9 = some (some (.int (j_b r9.1)), (g, r9.2)) := ⟨_, fun _ => rfl⟩
  refine J_eqo (hk (f_X11_denied d pq0)).symm ?_
  unfold f_X11_denied
  refine J_aload_n (pc := 0) 0 dX11_denied_0 rfl rfl ?_
  refine J_iload_n (pc := 1) 1 dX11_denied_1 rfl rfl ?_
  refine J_putI (pc := 2) dX11_denied_2 fl_X11_82 ft_10_11 (h0.lt 0 (by decide)) (h0.ty 0 rfl) rfl rfl rfl ?_
  refine J_iconst (pc := 5) (v := 0) dX11_denied_5 (by decide) ?_
  exact J_eqo (hk (false, j_sI d 0 11 pq0)) (J_zretB (pc := 6) dX11_denied_6 rfl)
def f_X11_mayPlay_j23 (a : Nat) (d23 : JD) : Bool × JD := (j_let (f_X11_denied d23 2) (fun q25 => if q25.1 = true then (true, q25.2) else (false, q25.2)))
def f_X11_mayPlay (a : Nat) (d : JD) (pq0 : Int32) : Bool × JD := (if (f_X11_hasLand (d.1 a)) = true then (if pq0 < 0 then f_X11_mayPlay_j23 a d else (if pq0 ≤ 20 then (true, d) else f_X11_mayPlay_j23 a d )) else (j_let (f_X11_denied d 1) (fun q9 => (q9.1, q9.2))))
set_option maxRecDepth 100000 in
set_option maxHeartbeats 4000000 in
theorem s_X11_mayPlay (g : JG) (d : JD) (a : Nat) (pq0 : Int32) (h0 : j_sh g 0 TS_W RS_W) (ha : j_sh g a TS_CL RS_CL) (hco : g.2.2.1 0 10 = some a) : JM mi_X11_mayPlay 0 0 (g, d) [.ref 0, .int pq0] (some (some (.int (j_b (f_X11_mayPlay a d pq0).1)), (g, (f_X11_mayPlay a d pq0).2))) := by
  refine JM_of (by decide) rfl (Nat.le_of_ble_eq_true rfl) ?_
  refine J_loc (loc' := [(0, .ref 0), (1, .int pq0)]) [0, 1] rfl ?_
  obtain ⟨k, hk⟩ : ∃ k : Bool × JD → Option (Option Value × JH), ∀ r9, k r9 = some (some (.int (j_b r9.1)), (g, r9.2)) := ⟨_, fun _ => rfl⟩
  refine J_eqo (hk (f_X11_mayPlay a d pq0)).symm ?_
  unfold f_X11_mayPlay
  have hX11_mayPlay_j23 : ∀ (d23 : JD) , J mi_X11_mayPlay 0 0 0 0 (g, d23) 23 [(0, .ref 0)] [] (k (f_X11_mayPlay_j23 a d23 )) := by
    intro d23 
    unfold f_X11_mayPlay_j23
    refine J_aload_n (pc := 23) 0 dX11_mayPlay_23 rfl rfl ?_
    refine J_iconst (pc := 24) (v := 2) dX11_mayPlay_24 (by decide) ?_
    refine JC_lt_b (K := k) (J_callV (mi := mi_X11_mayPlay) (mj := mi_X11_denied) (pc := 25) dX11_mayPlay_25 ml_X11_345 ok_X11_denied ov_X11_denied ⟨Nat.le_of_ble_eq_true rfl, Nat.le_of_ble_eq_true rfl⟩ rfl (h0.lt 0 (by decide)) (h0.ty 0 rfl) rfl (s_X11_denied g d23 2 h0) rfl (Nat.le_of_ble_eq_true rfl)) (fun q25 eq25 => ?_)
    refine K_ifeq_b (K := k) (pc := 28) (tgt := 35) dX11_mayPlay_28 (by decide) (fun z28 => ?_) (fun z28 => ?_)
    · refine J_iconst (pc := 35) (v := 0) dX11_mayPlay_35 (by decide) ?_
      exact J_eqo (hk (false, q25.2)) (J_zretB (pc := 36) dX11_mayPlay_36 rfl)
    · refine J_iconst (pc := 31) (v := 1) dX11_mayPlay_31 (by decide) ?_
      refine J_goto (pc := 32) (tgt := 36) dX11_mayPlay_32 (by decide) ?_
      exact J_eqo (hk (true, q25.2)) (J_zretB (pc := 36) dX11_mayPlay_36 rfl)
  refine J_aload_n (pc := 0) 0 dX11_mayPlay_0 rfl rfl ?_
  refine JC_pt_i (J_callV (mi := mi_X11_mayPlay) (mj := mi_X11_hasLand) (pc := 1) dX11_mayPlay_1 ml_X11_201 ok_X11_hasLand ov_X11_hasLand ⟨Nat.le_of_ble_eq_true rfl, Nat.le_of_ble_eq_true rfl⟩ rfl (h0.lt 0 (by decide)) (h0.ty 0 rfl) rfl (s_X11_hasLand g d a h0 ha hco) rfl (Nat.le_of_ble_eq_true rfl)) ?_
  refine K_ifne_b (K := k) (pc := 4) (tgt := 13) dX11_mayPlay_4 (by decide) (fun z4 => ?_) (fun z4 => ?_)
  · refine J_iload_n (pc := 13) 1 dX11_mayPlay_13 rfl rfl ?_
    refine K_if_lt (K := k) (pc := 14) (tgt := 23) dX11_mayPlay_14 (by decide) (fun z14 => ?_) (fun z14 => ?_)
    · refine J_loc (loc' := [(0, .ref 0)]) [0] rfl ?_
      exact hX11_mayPlay_j23 d 
    · refine J_iload_n (pc := 17) 1 dX11_mayPlay_17 rfl rfl ?_
      refine J_bipush (pc := 18) (v := 20) dX11_mayPlay_18 (by decide) ?_
      refine K_icmp_le (K := k) (pc := 20) (tgt := 31) dX11_mayPlay_20 (by decide) (fun z20 => ?_) (fun z20 => ?_)
      · refine J_iconst (pc := 31) (v := 1) dX11_mayPlay_31 (by decide) ?_
        refine J_goto (pc := 32) (tgt := 36) dX11_mayPlay_32 (by decide) ?_
        exact J_eqo (hk (true, d)) (J_zretB (pc := 36) dX11_mayPlay_36 rfl)
      · refine J_loc (loc' := [(0, .ref 0)]) [0] rfl ?_
        exact hX11_mayPlay_j23 d 
  · refine J_aload_n (pc := 7) 0 dX11_mayPlay_7 rfl rfl ?_
    refine J_iconst (pc := 8) (v := 1) dX11_mayPlay_8 (by decide) ?_
    refine JC_lt_b (K := k) (J_callV (mi := mi_X11_mayPlay) (mj := mi_X11_denied) (pc := 9) dX11_mayPlay_9 ml_X11_345 ok_X11_denied ov_X11_denied ⟨Nat.le_of_ble_eq_true rfl, Nat.le_of_ble_eq_true rfl⟩ rfl (h0.lt 0 (by decide)) (h0.ty 0 rfl) rfl (s_X11_denied g d 1 h0) rfl (Nat.le_of_ble_eq_true rfl)) (fun q9 eq9 => ?_)
    exact J_eqo (hk (q9.1, q9.2)) (J_zretB (pc := 12) dX11_mayPlay_12 rfl)
def f_X11_payOf (pq0 : Int32) (pq1 : Int32) (pq2 : Int32) (pq3 : Int32) : Int32 := (if pq1 = 0 then (if pq2 = 0 then (0) else (if pq3 = 0 then (0) else (-1))) else (if pq2 = 0 then (if pq3 = 0 then (pq0) else (-pq0)) else (if pq3 = 0 then (-3) else (2))))
set_option maxRecDepth 100000 in
set_option maxHeartbeats 4000000 in
theorem s_X11_payOf (g : JG) (d : JD) (pq0 : Int32) (pq1 : Int32) (pq2 : Int32) (pq3 : Int32) : JM mi_X11_payOf 0 0 (g, d) [.int pq0, .int pq1, .int pq2, .int pq3] (some (some (.int (f_X11_payOf pq0 pq1 pq2 pq3)), (g, d))) := by
  refine JM_of (by decide) rfl (Nat.le_of_ble_eq_true rfl) ?_
  refine J_loc (loc' := [(0, .int pq0), (1, .int pq1), (2, .int pq2), (3, .int pq3)]) [0, 1, 2, 3] rfl ?_
  obtain ⟨k, hk⟩ : ∃ k : Int32 → Option (Option Value × JH), ∀ r9, k r9 = some (some (.int r9), (g, d)) := ⟨_, fun _ => rfl⟩
  refine J_eqo (hk (f_X11_payOf pq0 pq1 pq2 pq3)).symm ?_
  unfold f_X11_payOf
  refine J_iload_n (pc := 0) 1 dX11_payOf_0 rfl rfl ?_
  refine K_if_ne (K := k) (pc := 1) (tgt := 18) dX11_payOf_1 (by decide) (fun z1 => ?_) (fun z1 => ?_)
  · refine J_iload_n (pc := 18) 2 dX11_payOf_18 rfl rfl ?_
    refine K_if_eq (K := k) (pc := 19) (tgt := 33) dX11_payOf_19 (by decide) (fun z19 => ?_) (fun z19 => ?_)
    · refine J_iload_n (pc := 33) 3 dX11_payOf_33 rfl rfl ?_
      refine K_if_eq (K := k) (pc := 34) (tgt := 42) dX11_payOf_34 (by decide) (fun z34 => ?_) (fun z34 => ?_)
      · refine J_iload_n (pc := 42) 0 dX11_payOf_42 rfl rfl ?_
        exact J_eqo (hk pq0) (J_iret (pc := 43) dX11_payOf_43 rfl)
      · refine J_iload_n (pc := 37) 0 dX11_payOf_37 rfl rfl ?_
        refine J_ineg (pc := 38) dX11_payOf_38 ?_
        refine J_goto (pc := 39) (tgt := 43) dX11_payOf_39 (by decide) ?_
        exact J_eqo (hk (-pq0)) (J_iret (pc := 43) dX11_payOf_43 rfl)
    · refine J_iload_n (pc := 22) 3 dX11_payOf_22 rfl rfl ?_
      refine K_if_eq (K := k) (pc := 23) (tgt := 30) dX11_payOf_23 (by decide) (fun z23 => ?_) (fun z23 => ?_)
      · refine J_bipush (pc := 30) (v := (-3)) dX11_payOf_30 (by decide) ?_
        exact J_eqo (hk (-3)) (J_iret (pc := 32) dX11_payOf_32 rfl)
      · refine J_iconst (pc := 26) (v := 2) dX11_payOf_26 (by decide) ?_
        refine J_goto (pc := 27) (tgt := 32) dX11_payOf_27 (by decide) ?_
        exact J_eqo (hk 2) (J_iret (pc := 32) dX11_payOf_32 rfl)
  · refine J_iload_n (pc := 4) 2 dX11_payOf_4 rfl rfl ?_
    refine K_if_eq (K := k) (pc := 5) (tgt := 16) dX11_payOf_5 (by decide) (fun z5 => ?_) (fun z5 => ?_)
    · refine J_iconst (pc := 16) (v := 0) dX11_payOf_16 (by decide) ?_
      exact J_eqo (hk 0) (J_iret (pc := 17) dX11_payOf_17 rfl)
    · refine J_iload_n (pc := 8) 3 dX11_payOf_8 rfl rfl ?_
      refine K_if_eq (K := k) (pc := 9) (tgt := 16) dX11_payOf_9 (by decide) (fun z9 => ?_) (fun z9 => ?_)
      · refine J_iconst (pc := 16) (v := 0) dX11_payOf_16 (by decide) ?_
        exact J_eqo (hk 0) (J_iret (pc := 17) dX11_payOf_17 rfl)
      · refine J_iconst (pc := 12) (v := (-1)) dX11_payOf_12 (by decide) ?_
        refine J_goto (pc := 13) (tgt := 17) dX11_payOf_13 (by decide) ?_
        exact J_eqo (hk (-1)) (J_iret (pc := 17) dX11_payOf_17 rfl)
def f_X11_steal (a : Nat) (d : JD) (pq0 : Int32) (pq1 : Int32) (pq2 : Int32) (pq3 : Int32) : Int32 × JD := (j_let (f_X11_mayPlay a d pq0) (fun q2 => if q2.1 = true then (j_let (f_X11_answered q2.2 (f_X11_payOf pq0 pq1 pq2 pq3)) (fun q20 => (q20.1, q20.2))) else ((-100), q2.2)))
set_option maxRecDepth 100000 in
set_option maxHeartbeats 4000000 in
theorem s_X11_steal (g : JG) (d : JD) (a : Nat) (pq0 : Int32) (pq1 : Int32) (pq2 : Int32) (pq3 : Int32) (h0 : j_sh g 0 TS_W RS_W) (ha : j_sh g a TS_CL RS_CL) (hco : g.2.2.1 0 10 = some a) : JM mi_X11_steal 0 0 (g, d) [.ref 0, .int pq0, .int pq1, .int pq2, .int pq3] (some (some (.int (f_X11_steal a d pq0 pq1 pq2 pq3).1), (g, (f_X11_steal a d pq0 pq1 pq2 pq3).2))) := by
  refine JM_of (by decide) rfl (Nat.le_of_ble_eq_true rfl) ?_
  refine J_loc (loc' := [(0, .ref 0), (1, .int pq0), (2, .int pq1), (3, .int pq2), (4, .int pq3)]) [0, 1, 2, 3, 4] rfl ?_
  obtain ⟨k, hk⟩ : ∃ k : Int32 × JD → Option (Option Value × JH), ∀ r9, k r9 = some (some (.int r9.1), (g, r9.2)) := ⟨_, fun _ => rfl⟩
  refine J_eqo (hk (f_X11_steal a d pq0 pq1 pq2 pq3)).symm ?_
  unfold f_X11_steal
  refine J_aload_n (pc := 0) 0 dX11_steal_0 rfl rfl ?_
  refine J_iload_n (pc := 1) 1 dX11_steal_1 rfl rfl ?_
  refine JC_lt_b (K := k) (J_callV (mi := mi_X11_steal) (mj := mi_X11_mayPlay) (pc := 2) dX11_steal_2 ml_X11_332 ok_X11_mayPlay ov_X11_mayPlay ⟨Nat.le_of_ble_eq_true rfl, Nat.le_of_ble_eq_true rfl⟩ rfl (h0.lt 0 (by decide)) (h0.ty 0 rfl) rfl (s_X11_mayPlay g d a pq0 h0 ha hco) rfl (Nat.le_of_ble_eq_true rfl)) (fun q2 eq2 => ?_)
  refine K_ifne_b (K := k) (pc := 5) (tgt := 11) dX11_steal_5 (by decide) (fun z5 => ?_) (fun z5 => ?_)
  · refine J_aload_n (pc := 11) 0 dX11_steal_11 rfl rfl ?_
    refine J_iload_n (pc := 12) 1 dX11_steal_12 rfl rfl ?_
    refine J_iload_n (pc := 13) 2 dX11_steal_13 rfl rfl ?_
    refine J_iload_n (pc := 14) 3 dX11_steal_14 rfl rfl ?_
    refine J_iload (pc := 15) 4 dX11_steal_15 rfl ?_
    refine JC_pt_i (J_callS (mi := mi_X11_steal) (mj := mi_X11_payOf) (pc := 17) dX11_steal_17 ml_X11_335 ok_X11_payOf os_X11_payOf ⟨Nat.le_of_ble_eq_true rfl, Nat.le_of_ble_eq_true rfl⟩ rfl (s_X11_payOf g q2.2 pq0 pq1 pq2 pq3) rfl (Nat.le_of_ble_eq_true rfl)) ?_
    refine JC_lt_i (K := k) (J_callV (mi := mi_X11_steal) (mj := mi_X11_answered) (pc := 20) dX11_steal_20 ml_X11_120 ok_X11_answered ov_X11_answered ⟨Nat.le_of_ble_eq_true rfl, Nat.le_of_ble_eq_true rfl⟩ rfl (h0.lt 0 (by decide)) (h0.ty 0 rfl) rfl (s_X11_answered g q2.2 (f_X11_payOf pq0 pq1 pq2 pq3) h0) rfl (Nat.le_of_ble_eq_true rfl)) (fun q20 eq20 => ?_)
    exact J_eqo (hk (q20.1, q20.2)) (J_iret (pc := 23) dX11_steal_23 rfl)
  · refine J_bipush (pc := 8) (v := (-100)) dX11_steal_8 (by decide) ?_
    exact J_eqo (hk ((-100), q2.2)) (J_iret (pc := 10) dX11_steal_10 rfl)
def f_X11_isRestPair_j60 (x0_60 : Int32) (x2_60 : Int32) (x3_60 : Int32) (y0_60 : Int32) (y1_60 : Int32) (y2_60 : Int32) : Bool := (if (f_X11_payOf x0_60 x2_60 x3_60 1) < (f_X11_payOf y2_60 y1_60 y0_60 1) then (false) else (true))
def f_X11_isRestPair_j34 (x0_34 : Int32) (x2_34 : Int32) (x3_34 : Int32) (y0_34 : Int32) (y1_34 : Int32) : Bool := (if (f_X11_payOf x0_34 x2_34 x3_34 0) < (f_X11_payOf y1_34 y0_34 x3_34 0) then (false) else (if x3_34 = 0 then (f_X11_isRestPair_j60 x0_34 x2_34 x3_34 1 x2_34 x0_34) else (f_X11_isRestPair_j60 x0_34 x2_34 x3_34 0 x2_34 x0_34)))
def f_X11_isRestPair_j23 (x0_23 : Int32) (x2_23 : Int32) (y0_23 : Int32) : Bool := (if x2_23 = 0 then (f_X11_isRestPair_j34 x0_23 x2_23 y0_23 1 x0_23) else (f_X11_isRestPair_j34 x0_23 x2_23 y0_23 0 x0_23))
def f_X11_isRestPair_j10 (x0_10 : Int32) (x1_10 : Int32) (y0_10 : Int32) : Bool := (if (x1_10 &&& 1) = 1 then (f_X11_isRestPair_j23 x0_10 y0_10 1) else (f_X11_isRestPair_j23 x0_10 y0_10 0))
def f_X11_isRestPair (pq0 : Int32) (pq1 : Int32) : Bool := (if pq1 < 2 then (f_X11_isRestPair_j10 pq0 pq1 0) else (f_X11_isRestPair_j10 pq0 pq1 1))
set_option maxRecDepth 100000 in
set_option maxHeartbeats 4000000 in
theorem s_X11_isRestPair (g : JG) (d : JD) (pq0 : Int32) (pq1 : Int32) : JM mi_X11_isRestPair 0 0 (g, d) [.int pq0, .int pq1] (some (some (.int (j_b (f_X11_isRestPair pq0 pq1))), (g, d))) := by
  refine JM_of (by decide) rfl (Nat.le_of_ble_eq_true rfl) ?_
  refine J_loc (loc' := [(0, .int pq0), (1, .int pq1)]) [0, 1] rfl ?_
  obtain ⟨k, hk⟩ : ∃ k : Bool → Option (Option Value × JH), ∀ r9, k r9 = some (some (.int (j_b r9)), (g, d)) := ⟨_, fun _ => rfl⟩
  refine J_eqo (hk (f_X11_isRestPair pq0 pq1)).symm ?_
  unfold f_X11_isRestPair
  have hX11_isRestPair_j60 : ∀ (x0_60 : Int32) (x2_60 : Int32) (x3_60 : Int32) (y0_60 : Int32) (y1_60 : Int32) (y2_60 : Int32), J mi_X11_isRestPair 0 0 0 0 (g, d) 60 [(0, .int x0_60), (2, .int x2_60), (3, .int x3_60)] [.int y0_60, .int y1_60, .int y2_60] (k (f_X11_isRestPair_j60 x0_60 x2_60 x3_60 y0_60 y1_60 y2_60)) := by
    intro x0_60 x2_60 x3_60 y0_60 y1_60 y2_60
    unfold f_X11_isRestPair_j60
    refine J_iconst (pc := 60) (v := 1) dX11_isRestPair_60 (by decide) ?_
    refine JC_pt_i (J_callS (mi := mi_X11_isRestPair) (mj := mi_X11_payOf) (pc := 61) dX11_isRestPair_61 ml_X11_335 ok_X11_payOf os_X11_payOf ⟨Nat.le_of_ble_eq_true rfl, Nat.le_of_ble_eq_true rfl⟩ rfl (s_X11_payOf g d y2_60 y1_60 y0_60 1) rfl (Nat.le_of_ble_eq_true rfl)) ?_
    refine J_iload_n (pc := 64) 0 dX11_isRestPair_64 rfl rfl ?_
    refine J_iload_n (pc := 65) 1 dX11_isRestPair_65 rfl rfl ?_
    refine J_iload_n (pc := 66) 2 dX11_isRestPair_66 rfl rfl ?_
    refine J_iconst (pc := 67) (v := 1) dX11_isRestPair_67 (by decide) ?_
    refine JC_pt_i (J_callS (mi := mi_X11_isRestPair) (mj := mi_X11_payOf) (pc := 68) dX11_isRestPair_68 ml_X11_335 ok_X11_payOf os_X11_payOf ⟨Nat.le_of_ble_eq_true rfl, Nat.le_of_ble_eq_true rfl⟩ rfl (s_X11_payOf g d x0_60 x2_60 x3_60 1) rfl (Nat.le_of_ble_eq_true rfl)) ?_
    refine K_icmp_gt (K := k) (pc := 71) (tgt := 78) dX11_isRestPair_71 (by decide) (fun z71 => ?_) (fun z71 => ?_)
    · refine J_iconst (pc := 78) (v := 0) dX11_isRestPair_78 (by decide) ?_
      exact J_eqo (hk false) (J_zretB (pc := 79) dX11_isRestPair_79 rfl)
    · refine J_iconst (pc := 74) (v := 1) dX11_isRestPair_74 (by decide) ?_
      refine J_goto (pc := 75) (tgt := 79) dX11_isRestPair_75 (by decide) ?_
      exact J_eqo (hk true) (J_zretB (pc := 79) dX11_isRestPair_79 rfl)
  have hX11_isRestPair_j34 : ∀ (x0_34 : Int32) (x2_34 : Int32) (x3_34 : Int32) (y0_34 : Int32) (y1_34 : Int32), J mi_X11_isRestPair 0 0 0 0 (g, d) 34 [(0, .int x0_34), (2, .int x2_34), (3, .int x3_34)] [.int y0_34, .int y1_34] (k (f_X11_isRestPair_j34 x0_34 x2_34 x3_34 y0_34 y1_34)) := by
    intro x0_34 x2_34 x3_34 y0_34 y1_34
    unfold f_X11_isRestPair_j34
    refine J_iload_n (pc := 34) 2 dX11_isRestPair_34 rfl rfl ?_
    refine J_iconst (pc := 35) (v := 0) dX11_isRestPair_35 (by decide) ?_
    refine JC_pt_i (J_callS (mi := mi_X11_isRestPair) (mj := mi_X11_payOf) (pc := 36) dX11_isRestPair_36 ml_X11_335 ok_X11_payOf os_X11_payOf ⟨Nat.le_of_ble_eq_true rfl, Nat.le_of_ble_eq_true rfl⟩ rfl (s_X11_payOf g d y1_34 y0_34 x3_34 0) rfl (Nat.le_of_ble_eq_true rfl)) ?_
    refine J_iload_n (pc := 39) 0 dX11_isRestPair_39 rfl rfl ?_
    refine J_iload_n (pc := 40) 1 dX11_isRestPair_40 rfl rfl ?_
    refine J_iload_n (pc := 41) 2 dX11_isRestPair_41 rfl rfl ?_
    refine J_iconst (pc := 42) (v := 0) dX11_isRestPair_42 (by decide) ?_
    refine JC_pt_i (J_callS (mi := mi_X11_isRestPair) (mj := mi_X11_payOf) (pc := 43) dX11_isRestPair_43 ml_X11_335 ok_X11_payOf os_X11_payOf ⟨Nat.le_of_ble_eq_true rfl, Nat.le_of_ble_eq_true rfl⟩ rfl (s_X11_payOf g d x0_34 x2_34 x3_34 0) rfl (Nat.le_of_ble_eq_true rfl)) ?_
    refine K_icmp_gt (K := k) (pc := 46) (tgt := 78) dX11_isRestPair_46 (by decide) (fun z46 => ?_) (fun z46 => ?_)
    · refine J_iconst (pc := 78) (v := 0) dX11_isRestPair_78 (by decide) ?_
      exact J_eqo (hk false) (J_zretB (pc := 79) dX11_isRestPair_79 rfl)
    · refine J_iload_n (pc := 49) 0 dX11_isRestPair_49 rfl rfl ?_
      refine J_iload_n (pc := 50) 1 dX11_isRestPair_50 rfl rfl ?_
      refine J_iload_n (pc := 51) 2 dX11_isRestPair_51 rfl rfl ?_
      refine K_if_ne (K := k) (pc := 52) (tgt := 59) dX11_isRestPair_52 (by decide) (fun z52 => ?_) (fun z52 => ?_)
      · refine J_iconst (pc := 59) (v := 0) dX11_isRestPair_59 (by decide) ?_
        exact hX11_isRestPair_j60 x0_34 x2_34 x3_34 0 x2_34 x0_34
      · refine J_iconst (pc := 55) (v := 1) dX11_isRestPair_55 (by decide) ?_
        refine J_goto (pc := 56) (tgt := 60) dX11_isRestPair_56 (by decide) ?_
        exact hX11_isRestPair_j60 x0_34 x2_34 x3_34 1 x2_34 x0_34
  have hX11_isRestPair_j23 : ∀ (x0_23 : Int32) (x2_23 : Int32) (y0_23 : Int32), J mi_X11_isRestPair 0 0 0 0 (g, d) 23 [(0, .int x0_23), (2, .int x2_23)] [.int y0_23] (k (f_X11_isRestPair_j23 x0_23 x2_23 y0_23)) := by
    intro x0_23 x2_23 y0_23
    unfold f_X11_isRestPair_j23
    refine J_istore_n (pc := 23) (loc' := [(3, .int y0_23), (0, .int x0_23), (2, .int x2_23)]) dX11_isRestPair_23 rfl (by decide) rfl ?_
    refine J_iload_n (pc := 24) 1 dX11_isRestPair_24 rfl rfl ?_
    refine J_iload_n (pc := 25) 2 dX11_isRestPair_25 rfl rfl ?_
    refine K_if_ne (K := k) (pc := 26) (tgt := 33) dX11_isRestPair_26 (by decide) (fun z26 => ?_) (fun z26 => ?_)
    · refine J_iconst (pc := 33) (v := 0) dX11_isRestPair_33 (by decide) ?_
      refine J_loc (loc' := [(0, .int x0_23), (2, .int x2_23), (3, .int y0_23)]) [1, 2, 0] rfl ?_
      exact hX11_isRestPair_j34 x0_23 x2_23 y0_23 0 x0_23
    · refine J_iconst (pc := 29) (v := 1) dX11_isRestPair_29 (by decide) ?_
      refine J_goto (pc := 30) (tgt := 34) dX11_isRestPair_30 (by decide) ?_
      refine J_loc (loc' := [(0, .int x0_23), (2, .int x2_23), (3, .int y0_23)]) [1, 2, 0] rfl ?_
      exact hX11_isRestPair_j34 x0_23 x2_23 y0_23 1 x0_23
  have hX11_isRestPair_j10 : ∀ (x0_10 : Int32) (x1_10 : Int32) (y0_10 : Int32), J mi_X11_isRestPair 0 0 0 0 (g, d) 10 [(0, .int x0_10), (1, .int x1_10)] [.int y0_10] (k (f_X11_isRestPair_j10 x0_10 x1_10 y0_10)) := by
    intro x0_10 x1_10 y0_10
    unfold f_X11_isRestPair_j10
    refine J_istore_n (pc := 10) (loc' := [(2, .int y0_10), (0, .int x0_10), (1, .int x1_10)]) dX11_isRestPair_10 rfl (by decide) rfl ?_
    refine J_iload_n (pc := 11) 2 dX11_isRestPair_11 rfl rfl ?_
    refine J_iconst (pc := 12) (v := 1) dX11_isRestPair_12 (by decide) ?_
    refine J_iand (pc := 13) dX11_isRestPair_13 ?_
    refine J_iconst (pc := 14) (v := 1) dX11_isRestPair_14 (by decide) ?_
    refine K_icmp_ne (K := k) (pc := 15) (tgt := 22) dX11_isRestPair_15 (by decide) (fun z15 => ?_) (fun z15 => ?_)
    · refine J_iconst (pc := 22) (v := 0) dX11_isRestPair_22 (by decide) ?_
      refine J_loc (loc' := [(0, .int x0_10), (2, .int y0_10)]) [1, 0] rfl ?_
      exact hX11_isRestPair_j23 x0_10 y0_10 0
    · refine J_iconst (pc := 18) (v := 1) dX11_isRestPair_18 (by decide) ?_
      refine J_goto (pc := 19) (tgt := 23) dX11_isRestPair_19 (by decide) ?_
      refine J_loc (loc' := [(0, .int x0_10), (2, .int y0_10)]) [1, 0] rfl ?_
      exact hX11_isRestPair_j23 x0_10 y0_10 1
  refine J_iload_n (pc := 0) 1 dX11_isRestPair_0 rfl rfl ?_
  refine J_iconst (pc := 1) (v := 2) dX11_isRestPair_1 (by decide) ?_
  refine K_icmp_lt (K := k) (pc := 2) (tgt := 9) dX11_isRestPair_2 (by decide) (fun z2 => ?_) (fun z2 => ?_)
  · refine J_iconst (pc := 9) (v := 0) dX11_isRestPair_9 (by decide) ?_
    exact hX11_isRestPair_j10 pq0 pq1 0
  · refine J_iconst (pc := 5) (v := 1) dX11_isRestPair_5 (by decide) ?_
    refine J_goto (pc := 6) (tgt := 10) dX11_isRestPair_6 (by decide) ?_
    exact hX11_isRestPair_j10 pq0 pq1 1
def f_X11_countRests_j20_4 (c0_4 : Int32) (i4 : Int32) (x1_20_4 : Int32) : Int32 := (x1_20_4)
def f_X11_countRests_b4 (c0_4 : Int32) (i4 : Int32) (s4 : Int32) : Int32 := (if (f_X11_isRestPair (c0_4) i4) = true then (f_X11_countRests_j20_4 (c0_4) i4 (s4 + 1)) else f_X11_countRests_j20_4 (c0_4) i4 s4)
def f_X11_countRests (pq0 : Int32) : Int32 := (j_let (j_for 4 (f_X11_countRests_b4 pq0 ) (j_mu 4 0) 0 0) (fun (s4 : Int32) => (s4)))
set_option maxRecDepth 100000 in
set_option maxHeartbeats 4000000 in
theorem s_X11_countRests (g : JG) (d : JD) (pq0 : Int32) : JM mi_X11_countRests 0 0 (g, d) [.int pq0] (some (some (.int (f_X11_countRests pq0)), (g, d))) := by
  refine JM_of (by decide) rfl (Nat.le_of_ble_eq_true rfl) ?_
  refine J_loc (loc' := [(0, .int pq0)]) [0] rfl ?_
  obtain ⟨k, hk⟩ : ∃ k : Int32 → Option (Option Value × JH), ∀ r9, k r9 = some (some (.int r9), (g, d)) := ⟨_, fun _ => rfl⟩
  refine J_eqo (hk (f_X11_countRests pq0)).symm ?_
  unfold f_X11_countRests
  refine J_iconst (pc := 0) (v := 0) dX11_countRests_0 (by decide) ?_
  refine J_istore_n (pc := 1) (loc' := [(1, .int 0), (0, .int pq0)]) dX11_countRests_1 rfl (by decide) rfl ?_
  refine J_iconst (pc := 2) (v := 0) dX11_countRests_2 (by decide) ?_
  refine J_istore_n (pc := 3) (loc' := [(2, .int 0), (1, .int 0), (0, .int pq0)]) dX11_countRests_3 rfl (by decide) rfl ?_
  refine J_loc (loc' := [(0, .int pq0), (1, .int 0), (2, .int 0)]) [2, 1, 0] rfl ?_
  refine J_forL (K := k) (b := 4) (G := f_X11_countRests_b4 pq0 ) (hp := fun (s4 : Int32) => (g, d)) (lc := fun (i4 : Int32) (s4 : Int32) => [(0, .int (pq0)), (1, .int s4), (2, .int i4)]) (XJ := fun (i4 : Int32) (s4 : Int32) o9 => J mi_X11_countRests 0 0 0 0 (g, d) 26 [(1, .int s4)] [] o9) (fun i4 s4 o4 Kb4 hX4 hB4 => ?_) (fun i4 s4 => ?_) _ _ 0 (Nat.le_refl _)
  · show J mi_X11_countRests 0 0 0 0 (g, d) 4 [(0, .int (pq0)), (1, .int s4), (2, .int i4)] [] (if 4 ≤ i4 then o4 else Kb4 (f_X11_countRests_b4 pq0 i4 s4))
    refine J_iload_n (pc := 4) 2 dX11_countRests_4 rfl rfl ?_
    refine J_iconst (pc := 5) (v := 4) dX11_countRests_5 (by decide) ?_
    refine J_icmp_ge (pc := 6) (tgt := 26) dX11_countRests_6 (by decide) (fun z4 => ?_) (fun z4 => ?_)
    · refine J_loc (loc' := [(1, .int s4)]) [1] rfl ?_
      exact hX4 z4
    · unfold f_X11_countRests_b4
      have hX11_countRests_j20_4 : ∀ (x1_20_4 : Int32), J mi_X11_countRests 0 0 0 0 (g, d) 20 [(0, .int (pq0)), (1, .int x1_20_4), (2, .int i4)] [] (Kb4 (f_X11_countRests_j20_4 pq0 i4 x1_20_4)) := by
        intro x1_20_4
        unfold f_X11_countRests_j20_4
        refine J_iinc (pc := 20) (v := i4 + 1) (loc' := [(2, .int (i4 + 1)), (0, .int (pq0)), (1, .int x1_20_4)]) 2 dX11_countRests_20 rfl rfl (by decide) rfl ?_
        refine J_goto (pc := 23) (tgt := 4) dX11_countRests_23 (by decide) ?_
        refine J_loc (loc' := [(0, .int (pq0)), (1, .int x1_20_4), (2, .int (i4 + 1))]) [1, 2, 0] rfl ?_
        exact hB4 z4 x1_20_4
      refine J_iload_n (pc := 9) 0 dX11_countRests_9 rfl rfl ?_
      refine J_iload_n (pc := 10) 2 dX11_countRests_10 rfl rfl ?_
      refine JC_pt_i (J_callS (mi := mi_X11_countRests) (mj := mi_X11_isRestPair) (pc := 11) dX11_countRests_11 ml_X11_348 ok_X11_isRestPair os_X11_isRestPair ⟨Nat.le_of_ble_eq_true rfl, Nat.le_of_ble_eq_true rfl⟩ rfl (s_X11_isRestPair g d pq0 i4) rfl (Nat.le_of_ble_eq_true rfl)) ?_
      refine K_ifeq_b (K := Kb4) (pc := 14) (tgt := 20) dX11_countRests_14 (by decide) (fun z14 => ?_) (fun z14 => ?_)
      · exact hX11_countRests_j20_4 s4
      · refine J_iinc (pc := 17) (v := s4 + 1) (loc' := [(1, .int (s4 + 1)), (0, .int (pq0)), (2, .int i4)]) 1 dX11_countRests_17 rfl rfl (by decide) rfl ?_
        refine J_loc (loc' := [(0, .int (pq0)), (1, .int (s4 + 1)), (2, .int i4)]) [1, 0, 2] rfl ?_
        exact hX11_countRests_j20_4 (s4 + 1)
  · show J mi_X11_countRests 0 0 0 0 (g, d) 26 [(1, .int s4)] [] (_)
    refine J_iload_n (pc := 26) 0 dX11_countRests_26 rfl rfl ?_
    exact J_eqo (hk s4) (J_iret (pc := 27) dX11_countRests_27 rfl)
def f_X11_rests (a : Nat) (d : JD) (pq0 : Int32) : Int32 × JD := (j_let (f_X11_mayPlay a d pq0) (fun q2 => if q2.1 = true then (j_let (f_X11_answered q2.2 (f_X11_countRests pq0)) (fun q13 => (q13.1, q13.2))) else ((-1), q2.2)))
set_option maxRecDepth 100000 in
set_option maxHeartbeats 4000000 in
theorem s_X11_rests (g : JG) (d : JD) (a : Nat) (pq0 : Int32) (h0 : j_sh g 0 TS_W RS_W) (ha : j_sh g a TS_CL RS_CL) (hco : g.2.2.1 0 10 = some a) : JM mi_X11_rests 0 0 (g, d) [.ref 0, .int pq0] (some (some (.int (f_X11_rests a d pq0).1), (g, (f_X11_rests a d pq0).2))) := by
  refine JM_of (by decide) rfl (Nat.le_of_ble_eq_true rfl) ?_
  refine J_loc (loc' := [(0, .ref 0), (1, .int pq0)]) [0, 1] rfl ?_
  obtain ⟨k, hk⟩ : ∃ k : Int32 × JD → Option (Option Value × JH), ∀ r9, k r9 = some (some (.int r9.1), (g, r9.2)) := ⟨_, fun _ => rfl⟩
  refine J_eqo (hk (f_X11_rests a d pq0)).symm ?_
  unfold f_X11_rests
  refine J_aload_n (pc := 0) 0 dX11_rests_0 rfl rfl ?_
  refine J_iload_n (pc := 1) 1 dX11_rests_1 rfl rfl ?_
  refine JC_lt_b (K := k) (J_callV (mi := mi_X11_rests) (mj := mi_X11_mayPlay) (pc := 2) dX11_rests_2 ml_X11_332 ok_X11_mayPlay ov_X11_mayPlay ⟨Nat.le_of_ble_eq_true rfl, Nat.le_of_ble_eq_true rfl⟩ rfl (h0.lt 0 (by decide)) (h0.ty 0 rfl) rfl (s_X11_mayPlay g d a pq0 h0 ha hco) rfl (Nat.le_of_ble_eq_true rfl)) (fun q2 eq2 => ?_)
  refine K_ifeq_b (K := k) (pc := 5) (tgt := 19) dX11_rests_5 (by decide) (fun z5 => ?_) (fun z5 => ?_)
  · refine J_iconst (pc := 19) (v := (-1)) dX11_rests_19 (by decide) ?_
    exact J_eqo (hk ((-1), q2.2)) (J_iret (pc := 20) dX11_rests_20 rfl)
  · refine J_aload_n (pc := 8) 0 dX11_rests_8 rfl rfl ?_
    refine J_iload_n (pc := 9) 1 dX11_rests_9 rfl rfl ?_
    refine JC_pt_i (J_callS (mi := mi_X11_rests) (mj := mi_X11_countRests) (pc := 10) dX11_rests_10 ml_X11_339 ok_X11_countRests os_X11_countRests ⟨Nat.le_of_ble_eq_true rfl, Nat.le_of_ble_eq_true rfl⟩ rfl (s_X11_countRests g q2.2 pq0) rfl (Nat.le_of_ble_eq_true rfl)) ?_
    refine JC_lt_i (K := k) (J_callV (mi := mi_X11_rests) (mj := mi_X11_answered) (pc := 13) dX11_rests_13 ml_X11_120 ok_X11_answered ov_X11_answered ⟨Nat.le_of_ble_eq_true rfl, Nat.le_of_ble_eq_true rfl⟩ rfl (h0.lt 0 (by decide)) (h0.ty 0 rfl) rfl (s_X11_answered g q2.2 (f_X11_countRests pq0) h0) rfl (Nat.le_of_ble_eq_true rfl)) (fun q13 eq13 => ?_)
    refine J_goto (pc := 16) (tgt := 20) dX11_rests_16 (by decide) ?_
    exact J_eqo (hk (q13.1, q13.2)) (J_iret (pc := 20) dX11_rests_20 rfl)
