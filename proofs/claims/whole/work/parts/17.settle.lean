set_option maxRecDepth 100000 in
set_option maxHeartbeats 4000000 in
theorem s_X11_settle (g : JG) (d : JD) (a b : Nat) (h0 : j_sh g 0 TS_W RS_W) (ha : j_sh g a TS_CL RS_CL) (hb : j_sh g b TS_CL RS_CL) (h4 : 4 ≤ b) (hco : g.2.2.1 0 10 = some a) (hin : g.2.2.1 3 1 = some b) : JM mi_X11_settle 0 0 (g, d) [.ref 0] (some (none, (gSw g a b, f_X11_settle b d))) := by
  have ha1 : a < g.1 := ha.lt 0 (by decide)
  have hb1 : b < g.1 := hb.lt 0 (by decide)
  have g0 := gSw_0 (a := a) (b := b) h0
  have gb := gSw_L (a := a) (b := b) hb h4
  refine JM_of (by decide) rfl (Nat.le_of_ble_eq_true rfl) ?_
  refine J_loc (loc' := [(0, .ref 0)]) [0] rfl ?_
  refine J_aload_n (pc := 0) 0 dX11_settle_0 rfl rfl ?_
  refine J_aload_n (pc := 1) 0 dX11_settle_1 rfl rfl ?_
  refine J_getR (pc := 2) (b := 3) dX11_settle_2 fl_X11_21 (h0.lt 0 (by decide)) (h0.ty 0 rfl) rfl (h0.rf 1 rfl) ?_
  refine J_aload_n (pc := 5) 0 dX11_settle_5 rfl rfl ?_
  refine J_getR (pc := 6) dX11_settle_6 fl_X11_78 (h0.lt 0 (by decide)) (h0.ty 0 rfl) rfl hco ?_
  refine JC_g (h' := (j_sR g 3 1 (some a), d)) (v := some (.ref b)) rfl rfl (J_callV (mi := mi_X11_settle) (mj := mi_X6_handOver) (pc := 9) dX11_settle_9 ml_X11_123 ok_X6_handOver ov_X6_handOver ⟨Nat.le_of_ble_eq_true rfl, Nat.le_of_ble_eq_true rfl⟩ rfl (h0.lt 3 (by decide)) (h0.ty 3 rfl) rfl (s_X6_handOver g d a b h0 ha1 hin) rfl (Nat.le_of_ble_eq_true rfl)) ?_
  refine J_putR (pc := 12) dX11_settle_12 fl_X11_78 ft_10_10 ((sh0_set h0).1.lt 0 (by decide)) ((sh0_set h0).1.ty 0 rfl) rfl hb1 (fun _ => rfl) (fun _ => rfl) ?_
  refine J_heap (h1 := (gSw g a b, d)) rfl ?_
  refine J_aload_n (pc := 15) 0 dX11_settle_15 rfl rfl ?_
  refine J_getR (pc := 16) (b := 22) dX11_settle_16 fl_X11_28 (g0.lt 0 (by decide)) (g0.ty 0 rfl) rfl (g0.rf 2 rfl) ?_
  refine J_aload_n (pc := 19) 0 dX11_settle_19 rfl rfl ?_
  refine J_getR (pc := 20) dX11_settle_20 fl_X11_78 (g0.lt 0 (by decide)) (g0.ty 0 rfl) rfl (gSw_co g a b) ?_
  refine J_getI (pc := 23) dX11_settle_23 fl_X11_127 (gb.lt 0 (by decide)) (gb.ty 0 rfl) rfl ?_
  refine J_iconst (pc := 26) (v := 0) dX11_settle_26 (by decide) ?_
  refine J_iconst (pc := 27) (v := 0) dX11_settle_27 (by decide) ?_
  refine JC_t rfl (J_callV (mi := mi_X11_settle) (mj := mi_X4_set) (pc := 28) dX11_settle_28 ml_X11_130 ok_X4_set ov_X4_set ⟨Nat.le_of_ble_eq_true rfl, Nat.le_of_ble_eq_true rfl⟩ rfl (g0.lt 22 (by decide)) (g0.ty 22 rfl) rfl (s_X4_set (gSw g a b) d 22 (d.1 b 6) 0 0 (sh_MO_22 g0)) rfl (Nat.le_of_ble_eq_true rfl)) ?_
  refine J_aload_n (pc := 31) 0 dX11_settle_31 rfl rfl ?_
  refine J_getR (pc := 32) (b := 24) dX11_settle_32 fl_X11_40 (g0.lt 0 (by decide)) (g0.ty 0 rfl) rfl (g0.rf 4 rfl) ?_
  refine J_iconst (pc := 35) (v := 0) dX11_settle_35 (by decide) ?_
  refine J_putI (pc := 36) dX11_settle_36 fl_X11_134 ft_7_4 (g0.lt 24 (by decide)) (g0.ty 24 rfl) rfl rfl rfl ?_
  refine J_aload_n (pc := 39) 0 dX11_settle_39 rfl rfl ?_
  refine J_getR (pc := 40) (b := 28) dX11_settle_40 fl_X11_44 (g0.lt 0 (by decide)) (g0.ty 0 rfl) rfl (g0.rf 5 rfl) ?_
  refine J_iconst (pc := 43) (v := 0) dX11_settle_43 (by decide) ?_
  refine J_putI (pc := 44) dX11_settle_44 fl_X11_134 ft_7_4 (g0.lt 28 (by decide)) (g0.ty 28 rfl) rfl rfl rfl ?_
  refine J_aload_n (pc := 47) 0 dX11_settle_47 rfl rfl ?_
  refine J_getR (pc := 48) (b := 32) dX11_settle_48 fl_X11_50 (g0.lt 0 (by decide)) (g0.ty 0 rfl) rfl (g0.rf 6 rfl) ?_
  refine JC_t rfl (J_callV (mi := mi_X11_settle) (mj := mi_X1_forget) (pc := 51) dX11_settle_51 ml_X11_137 ok_X1_forget ov_X1_forget ⟨Nat.le_of_ble_eq_true rfl, Nat.le_of_ble_eq_true rfl⟩ rfl (g0.lt 32 (by decide)) (g0.ty 32 rfl) rfl (s_X1_forget (gSw g a b) _ g0) rfl (Nat.le_of_ble_eq_true rfl)) ?_
  refine J_aload_n (pc := 54) 0 dX11_settle_54 rfl rfl ?_
  refine J_getR (pc := 55) (b := 38) dX11_settle_55 fl_X11_57 (g0.lt 0 (by decide)) (g0.ty 0 rfl) rfl (g0.rf 7 rfl) ?_
  refine JC_t rfl (J_callV (mi := mi_X11_settle) (mj := mi_X8_forget) (pc := 58) dX11_settle_58 ml_X11_140 ok_X8_forget ov_X8_forget ⟨Nat.le_of_ble_eq_true rfl, Nat.le_of_ble_eq_true rfl⟩ rfl (g0.lt 38 (by decide)) (g0.ty 38 rfl) rfl (s_X8_forget (gSw g a b) _ g0) rfl (Nat.le_of_ble_eq_true rfl)) ?_
  refine J_aload_n (pc := 61) 0 dX11_settle_61 rfl rfl ?_
  refine J_getR (pc := 62) (b := 39) dX11_settle_62 fl_X11_64 (g0.lt 0 (by decide)) (g0.ty 0 rfl) rfl (g0.rf 8 rfl) ?_
  refine JC_t rfl (J_callV (mi := mi_X11_settle) (mj := mi_X2_forget) (pc := 65) dX11_settle_65 ml_X11_141 ok_X2_forget ov_X2_forget ⟨Nat.le_of_ble_eq_true rfl, Nat.le_of_ble_eq_true rfl⟩ rfl (g0.lt 39 (by decide)) (g0.ty 39 rfl) rfl (s_X2_forget (gSw g a b) _ g0) rfl (Nat.le_of_ble_eq_true rfl)) ?_
  exact J_vret (pc := 68) dX11_settle_68 rfl
