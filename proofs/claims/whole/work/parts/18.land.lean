/-! land of the class -/
def f_X11_land_t (b : Nat) (d : JD) : (Int32 × JD) × Bool := (f_X11_answered (f_X11_settle b d) ((f_X11_settle b d).1 b 4), true)
def f_X11_land_w (q : JD) : JD := j_sI (j_sI (j_sI q 1 1 0) 0 12 (q.1 3 7)) 0 13 (q.1 3 8)
def f_X11_land (b : Nat) (d : JD) (n : Int32) : Option ((Int32 × JD) × Bool) :=
  if n < 0 then some (f_X11_refused d 2, false) else if n ≤ d.1 1 1 then (f_X6_readText b d n).bind (fun q => if q.1 = true then some (f_X11_land_t b (f_X11_land_w q.2)) else some (f_X11_refused (f_X11_land_w q.2) 4, false)) else some (f_X11_refused d 2, false)
set_option maxRecDepth 100000 in
set_option maxHeartbeats 4000000 in
theorem s_X11_land (g : JG) (d : JD) (a b : Nat) (n : Int32) (h0 : j_sh g 0 TS_W RS_W) (ha : j_sh g a TS_CL RS_CL) (hb : j_sh g b TS_CL RS_CL) (h4 : 4 ≤ b) (hco : g.2.2.1 0 10 = some a) (hin : g.2.2.1 3 1 = some b) : JM mi_X11_land 0 0 (g, d) [.ref 0, .int n] ((f_X11_land b d n).bind (fun r9 => some (some (.int r9.1.1), ((if r9.2 = true then gSw g a b else g), r9.1.2)))) := by
  have g0 := gSw_0 (a := a) (b := b) h0
  have gb := gSw_L (a := a) (b := b) hb h4
  refine JM_of (by decide) rfl (Nat.le_of_ble_eq_true rfl) ?_
  refine J_loc (loc' := [(0, .ref 0), (1, .int n)]) [0, 1] rfl ?_
  obtain ⟨k, hk, hk2⟩ : ∃ k : (Int32 × JD) × Bool → Option (Option Value × JH), (∀ r9, k r9 = some (some (.int r9.1.1), ((if r9.2 = true then gSw g a b else g), r9.1.2))) ∧ (fun r9 : (Int32 × JD) × Bool => (some (some (.int r9.1.1), ((if r9.2 = true then gSw g a b else g), r9.1.2)) : Option (Option Value × JH))) = k := ⟨_, fun _ => rfl, rfl⟩
  rw [hk2]
  have hno : ∀ d : JD, J mi_X11_land 0 0 0 0 (g, d) 15 [(0, .ref 0), (1, .int n)] [] ((some (f_X11_refused d 2, false)).bind k) := by
    intro d
    refine J_eqo (hk (f_X11_refused d 2, false)) ?_
    refine J_aload_n (pc := 15) 0 dX11_land_15 rfl rfl ?_
    refine J_iconst (pc := 16) (v := 2) dX11_land_16 (by decide) ?_
    refine JC_t rfl (J_callV (mi := mi_X11_land) (mj := mi_X11_refused) (pc := 17) dX11_land_17 ml_X11_102 ok_X11_refused ov_X11_refused ⟨Nat.le_of_ble_eq_true rfl, Nat.le_of_ble_eq_true rfl⟩ rfl (h0.lt 0 (by decide)) (h0.ty 0 rfl) rfl (s_X11_refused g d 2 h0) rfl (Nat.le_of_ble_eq_true rfl)) ?_
    exact J_iret (pc := 20) dX11_land_20 rfl
  unfold f_X11_land
  refine J_iload_n (pc := 0) 1 dX11_land_0 rfl rfl ?_
  refine K_if_lt (K := (fun x => Option.bind x k)) (pc := 1) (tgt := 15) dX11_land_1 (by decide) (fun z1 => ?_) (fun z1 => ?_)
  · exact hno d
  · refine J_iload_n (pc := 4) 1 dX11_land_4 rfl rfl ?_
    refine J_aload_n (pc := 5) 0 dX11_land_5 rfl rfl ?_
    refine J_getR (pc := 6) (b := 1) dX11_land_6 fl_X11_10 (h0.lt 0 (by decide)) (h0.ty 0 rfl) rfl (h0.rf 0 rfl) ?_
    refine J_getI (pc := 9) dX11_land_9 fl_X11_99 (h0.lt 1 (by decide)) (h0.ty 1 rfl) rfl ?_
    refine K_icmp_le (K := (fun x => Option.bind x k)) (pc := 12) (tgt := 21) dX11_land_12 (by decide) (fun z12 => ?_) (fun z12 => ?_)
    · refine J_aload_n (pc := 21) 0 dX11_land_21 rfl rfl ?_
      refine J_getR (pc := 22) (b := 3) dX11_land_22 fl_X11_21 (h0.lt 0 (by decide)) (h0.ty 0 rfl) rfl (h0.rf 1 rfl) ?_
      refine J_iload_n (pc := 25) 1 dX11_land_25 rfl rfl ?_
      refine JC_pe_b (J_callV (mi := mi_X11_land) (mj := mi_X6_readText) (pc := 26) dX11_land_26 ml_X11_106 ok_X6_readText ov_X6_readText ⟨Nat.le_of_ble_eq_true rfl, Nat.le_of_ble_eq_true rfl⟩ rfl (h0.lt 3 (by decide)) (h0.ty 3 rfl) rfl (s_X6_readText g d b n h0 hb hin) rfl (Nat.le_of_ble_eq_true rfl)) (fun q => ?_)
      refine J_istore_n (pc := 29) (loc' := [(2, .int (j_b q.1)), (0, .ref 0), (1, .int n)]) dX11_land_29 rfl (by decide) rfl ?_
      refine J_aload_n (pc := 30) 1 dX11_land_30 rfl rfl ?_
      refine J_getR (pc := 31) (b := 1) dX11_land_31 fl_X11_10 (h0.lt 0 (by decide)) (h0.ty 0 rfl) rfl (h0.rf 0 rfl) ?_
      refine J_iconst (pc := 34) (v := 0) dX11_land_34 (by decide) ?_
      refine J_putI (pc := 35) dX11_land_35 fl_X11_99 ft_9_1 (h0.lt 1 (by decide)) (h0.ty 1 rfl) rfl rfl rfl ?_
      refine J_aload_n (pc := 38) 1 dX11_land_38 rfl rfl ?_
      refine J_aload_n (pc := 39) 1 dX11_land_39 rfl rfl ?_
      refine J_getR (pc := 40) (b := 3) dX11_land_40 fl_X11_21 (h0.lt 0 (by decide)) (h0.ty 0 rfl) rfl (h0.rf 1 rfl) ?_
      refine J_getI (pc := 43) dX11_land_43 fl_X11_110 (h0.lt 3 (by decide)) (h0.ty 3 rfl) rfl ?_
      refine J_putI (pc := 46) dX11_land_46 fl_X11_86 ft_10_12 (h0.lt 0 (by decide)) (h0.ty 0 rfl) rfl rfl rfl ?_
      refine J_aload_n (pc := 49) 1 dX11_land_49 rfl rfl ?_
      refine J_aload_n (pc := 50) 1 dX11_land_50 rfl rfl ?_
      refine J_getR (pc := 51) (b := 3) dX11_land_51 fl_X11_21 (h0.lt 0 (by decide)) (h0.ty 0 rfl) rfl (h0.rf 1 rfl) ?_
      refine J_getI (pc := 54) dX11_land_54 fl_X11_113 (h0.lt 3 (by decide)) (h0.ty 3 rfl) rfl ?_
      refine J_putI (pc := 57) dX11_land_57 fl_X11_89 ft_10_13 (h0.lt 0 (by decide)) (h0.ty 0 rfl) rfl rfl rfl ?_
      refine J_heap (h1 := (g, f_X11_land_w q.2)) rfl ?_
      refine J_iload_n (pc := 60) 0 dX11_land_60 rfl rfl ?_
      refine K_ifne_b (K := (fun x => Option.bind x k)) (pc := 61) (tgt := 70) dX11_land_61 (by decide) (fun z61 => ?_) (fun z61 => ?_)
      · refine J_eqo (hk (f_X11_land_t b (f_X11_land_w q.2))) ?_
        refine J_aload_n (pc := 70) 1 dX11_land_70 rfl rfl ?_
        refine JC_g (h' := (gSw g a b, f_X11_settle b (f_X11_land_w q.2))) (v := none) rfl rfl (J_callV (mi := mi_X11_land) (mj := mi_X11_settle) (pc := 71) dX11_land_71 ml_X11_114 ok_X11_settle ov_X11_settle ⟨Nat.le_of_ble_eq_true rfl, Nat.le_of_ble_eq_true rfl⟩ rfl (h0.lt 0 (by decide)) (h0.ty 0 rfl) rfl (s_X11_settle g (f_X11_land_w q.2) a b h0 ha hb h4 hco hin) rfl (Nat.le_of_ble_eq_true rfl)) ?_
        refine J_aload_n (pc := 74) 1 dX11_land_74 rfl rfl ?_
        refine J_aload_n (pc := 75) 1 dX11_land_75 rfl rfl ?_
        refine J_getR (pc := 76) dX11_land_76 fl_X11_78 (g0.lt 0 (by decide)) (g0.ty 0 rfl) rfl (gSw_co g a b) ?_
        refine J_getI (pc := 79) dX11_land_79 fl_X11_117 (gb.lt 0 (by decide)) (gb.ty 0 rfl) rfl ?_
        refine JC_t rfl (J_callV (mi := mi_X11_land) (mj := mi_X11_answered) (pc := 82) dX11_land_82 ml_X11_120 ok_X11_answered ov_X11_answered ⟨Nat.le_of_ble_eq_true rfl, Nat.le_of_ble_eq_true rfl⟩ rfl (g0.lt 0 (by decide)) (g0.ty 0 rfl) rfl (s_X11_answered (gSw g a b) (f_X11_settle b (f_X11_land_w q.2)) ((f_X11_settle b (f_X11_land_w q.2)).1 b 4) g0) rfl (Nat.le_of_ble_eq_true rfl)) ?_
        exact J_iret (pc := 85) dX11_land_85 rfl
      · refine J_eqo (hk (f_X11_refused (f_X11_land_w q.2) 4, false)) ?_
        refine J_aload_n (pc := 64) 1 dX11_land_64 rfl rfl ?_
        refine J_iconst (pc := 65) (v := 4) dX11_land_65 (by decide) ?_
        refine JC_t rfl (J_callV (mi := mi_X11_land) (mj := mi_X11_refused) (pc := 66) dX11_land_66 ml_X11_102 ok_X11_refused ov_X11_refused ⟨Nat.le_of_ble_eq_true rfl, Nat.le_of_ble_eq_true rfl⟩ rfl (h0.lt 0 (by decide)) (h0.ty 0 rfl) rfl (s_X11_refused g (f_X11_land_w q.2) 4 h0) rfl (Nat.le_of_ble_eq_true rfl)) ?_
        exact J_iret (pc := 69) dX11_land_69 rfl
    · exact hno d
