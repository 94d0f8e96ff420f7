theorem nl_X13_156 : j_NL RX13 156 11 25 := ⟨_, rfl, rfl, (gw7 (List.mem_of_getElem? (i := 17) rfl) rfl), (gw7 (List.mem_of_getElem? (i := 18) rfl) rfl), (gw1 (List.mem_of_getElem? (i := 19) rfl) rfl)⟩
/-- the reference's references: a new Land read; it is the land -/
def gRd (g : JG) : JG := j_sR (gNew g) 57 4 (some g.1)
def gLn (g : JG) : JG := j_sR (gRd g) 57 3 (some g.1)
def gTag (g : JG) (k : Nat) : JG := if k = 0 then g else if k = 1 then gRd g else gLn g
theorem gRd_0 {g : JG} (h0 : j_sh g 0 TS_W RS_W) : j_sh (gRd g) 0 TS_W RS_W := (gNew_keep h0 (by decide)).setR (by decide)
theorem gLn_0 {g : JG} (h0 : j_sh g 0 TS_W RS_W) : j_sh (gLn g) 0 TS_W RS_W := (gRd_0 h0).setR (by decide)
theorem gRd_sh {g : JG} (h : 58 ≤ g.1) : j_sh (gRd g) g.1 TS_ML RS_ML := (gNew_sh g).setR (fun q _ z => by have := z.1; omega)
theorem gLn_sh {g : JG} (h : 58 ≤ g.1) : j_sh (gLn g) g.1 TS_ML RS_ML := (gRd_sh h).setR (fun q _ z => by have := z.1; omega)
theorem gRd_re (g : JG) : (gRd g).2.2.1 57 4 = some g.1 := rfl
theorem gLn_re (g : JG) : (gLn g).2.2.1 57 4 = some g.1 := rfl
theorem gLn_la (g : JG) : (gLn g).2.2.1 57 3 = some g.1 := rfl
def f_X13_land_a (d : JD) (n : Int32) : JD := j_sI (j_sI (j_sI (j_sI d 57 7 n) 57 6 0) 57 8 0) 57 12 0
def f_X13_land_x (d : JD) : JD := j_sI (j_sI (j_sI (j_sI (j_sI (j_sI d 59 0 (d.1 60 0)) 59 1 (d.1 60 1)) 59 2 (d.1 60 2)) 59 3 (d.1 60 3)) 59 4 (d.1 60 4)) 59 5 (d.1 60 5)
def f_X13_land_v (u : Nat) (d : JD) : JD := j_sI (j_sI (f_X13_land_x (j_sI (j_sI (j_sI d 59 6 (d.1 u 0)) 59 7 0) 59 8 0)) 57 19 0) 57 20 0
def f_X13_land_e (u : Nat) (d : JD) : Option ((Int32 × JD) × Nat) := if d.1 57 12 ≤ 0 then (f_X13_asTold u d).bind (fun q => some (f_X13_good (f_X13_land_v u q) ((f_X13_land_v u q).1 u 4), 2)) else some ((-1, j_sI (j_sI d 57 1 4) 57 2 (d.1 57 13)), 1)
def f_X13_land (u : Nat) (d : JD) (n : Int32) : Option ((Int32 × JD) × Nat) :=
  if n < 0 then some (f_X13_refused (j_sI d 57 0 0) 2, 0) else if n ≤ (j_sI d 57 0 0).1 57 6 then (f_X13_goesOn (j_sI (dNew u (f_X13_land_a (j_sI d 57 0 0) n)) 57 9 0)).bind (fun q => (f_X13_readAll u q).bind (fun q => f_X13_land_e u q)) else some (f_X13_refused (j_sI d 57 0 0) 2, 0)
theorem JC_n {mi : JMI} {mc ms kc ks kc' ks' : Nat} {h h' : JH} {pc : Nat} {loc : List (Nat × Value)} {st0 stk : List Value} {o : Option (Option Value × JH)} (a : j_gr h h') (h1 : j_okq h.1.1 loc) (h2 : j_okl h.1.1 stk) (c : JC mi mc ms kc ks kc' ks' h pc loc st0 stk (some (none, h'))) (kk : J mi mc ms kc' ks' h' (pc + 3) loc stk o) : J mi mc ms kc ks h pc loc st0 o := JC_i a h1 h2 c kk
set_option maxRecDepth 100000 in
set_option maxHeartbeats 4000000 in
theorem s_X13_land (g : JG) (d : JD) (n : Int32) (h0 : j_sh g 0 TS_W RS_W) (hz : g.1 + 15 ≤ 1000000) : JM mi_X13_land 15 125 (g, d) [.ref 57, .int n] ((f_X13_land g.1 d n).bind (fun r9 => some (some (.int r9.1.1), (gTag g r9.2, r9.1.2)))) := by
  have h58 : 58 ≤ g.1 := h0.lt 57 (by decide)
  have g1 := gRd_0 h0
  have g2 := gLn_0 h0
  have gu := gRd_sh h58
  have gv := gLn_sh h58
  refine JM_of (by decide) rfl (Nat.le_of_ble_eq_true rfl) ?_
  refine J_loc (loc' := [(0, .ref 57), (1, .int n)]) [0, 1] rfl ?_
  obtain ⟨k, hk, hk2⟩ : ∃ k : (Int32 × JD) × Nat → Option (Option Value × JH), (∀ r9, k r9 = some (some (.int r9.1.1), (gTag g r9.2, r9.1.2))) ∧ (fun r9 : (Int32 × JD) × Nat => (some (some (.int r9.1.1), (gTag g r9.2, r9.1.2)) : Option (Option Value × JH))) = k := ⟨_, fun _ => rfl, rfl⟩
  rw [hk2]
  have hno : ∀ d : JD, J mi_X13_land 15 125 15 125 (g, d) 17 [(0, .ref 57), (1, .int n)] [] ((some (f_X13_refused d 2, 0)).bind k) := by
    intro d
    refine J_eqo (hk (f_X13_refused d 2, 0)) ?_
    refine J_aload_n (pc := 17) 0 dX13_land_17 rfl rfl ?_
    refine J_iconst (pc := 18) (v := 2) dX13_land_18 (by decide) ?_
    refine JC_t rfl (J_callV (mi := mi_X13_land) (mj := mi_X13_refused) (pc := 19) dX13_land_19 ml_X13_48 ok_X13_refused ov_X13_refused ⟨Nat.le_of_ble_eq_true rfl, Nat.le_of_ble_eq_true rfl⟩ rfl (h0.lt 57 (by decide)) (h0.ty 57 rfl) rfl (s_X13_refused g d 2 h0) rfl (Nat.le_of_ble_eq_true rfl)) ?_
    exact J_iret (pc := 22) dX13_land_22 rfl
  unfold f_X13_land
  refine J_aload_n (pc := 0) 0 dX13_land_0 rfl rfl ?_
  refine J_iconst (pc := 1) (v := 0) dX13_land_1 (by decide) ?_
  refine J_putI (pc := 2) dX13_land_2 fl_X13_42 ft_12_0 (h0.lt 57 (by decide)) (h0.ty 57 rfl) rfl rfl rfl ?_
  refine J_heap (h1 := (g, j_sI d 57 0 0)) rfl ?_
  generalize j_sI d 57 0 0 = d
  refine J_iload_n (pc := 5) 1 dX13_land_5 rfl rfl ?_
  refine K_if_lt (K := (fun x => Option.bind x k)) (pc := 6) (tgt := 17) dX13_land_6 (by decide) (fun z1 => hno d) (fun z1 => ?_)
  refine J_iload_n (pc := 9) 1 dX13_land_9 rfl rfl ?_
  refine J_aload_n (pc := 10) 0 dX13_land_10 rfl rfl ?_
  refine J_getI (pc := 11) dX13_land_11 fl_X13_314 (h0.lt 57 (by decide)) (h0.ty 57 rfl) rfl ?_
  refine K_icmp_le (K := (fun x => Option.bind x k)) (pc := 14) (tgt := 23) dX13_land_14 (by decide) (fun z2 => ?_) (fun z2 => hno d)
  refine J_aload_n (pc := 23) 0 dX13_land_23 rfl rfl ?_
  refine J_iload_n (pc := 24) 1 dX13_land_24 rfl rfl ?_
  refine J_putI (pc := 25) dX13_land_25 fl_X13_59 ft_12_7 (h0.lt 57 (by decide)) (h0.ty 57 rfl) rfl rfl rfl ?_
  refine J_aload_n (pc := 28) 0 dX13_land_28 rfl rfl ?_
  refine J_iconst (pc := 29) (v := 0) dX13_land_29 (by decide) ?_
  refine J_putI (pc := 30) dX13_land_30 fl_X13_314 ft_12_6 (h0.lt 57 (by decide)) (h0.ty 57 rfl) rfl rfl rfl ?_
  refine J_aload_n (pc := 33) 0 dX13_land_33 rfl rfl ?_
  refine J_iconst (pc := 34) (v := 0) dX13_land_34 (by decide) ?_
  refine J_putI (pc := 35) dX13_land_35 fl_X13_77 ft_12_8 (h0.lt 57 (by decide)) (h0.ty 57 rfl) rfl rfl rfl ?_
  refine J_aload_n (pc := 38) 0 dX13_land_38 rfl rfl ?_
  refine J_iconst (pc := 39) (v := 0) dX13_land_39 (by decide) ?_
  refine J_putI (pc := 40) dX13_land_40 fl_X13_100 ft_12_12 (h0.lt 57 (by decide)) (h0.ty 57 rfl) rfl rfl rfl ?_
  refine J_heap (h1 := (g, f_X13_land_a d n)) rfl ?_
  generalize f_X13_land_a d n = d
  refine J_aload_n (pc := 43) 0 dX13_land_43 rfl rfl ?_
  refine J_new (mi := mi_X13_land) (N := 25) (pc := 44) (kc := 14) (ks := 100) dX13_land_44 nl_X13_156 (show g.1 < 1000000 by omega) ⟨Or.inl (h0.lt 57 (by decide)), trivial, trivial⟩ ⟨Or.inl (h0.lt 57 (by decide)), trivial⟩ ?_
  refine J_dup (pc := 47) (v := .ref g.1) dX13_land_47 rfl ?_
  refine JC_i (stk := [.ref g.1, .ref 57]) (g_X12_init (j_new (g, d) (0, 11)) g.1) ⟨Or.inl (Nat.lt_succ_of_lt (h0.lt 57 (by decide))), trivial, trivial⟩ ⟨Or.inl (Nat.lt_succ_self _), Or.inl (Nat.lt_succ_of_lt (h0.lt 57 (by decide))), trivial⟩ (J_callI (mi := mi_X13_land) (mj := mi_X12_init) (kc := 0) (ks := 0) (pc := 48) dX13_land_48 ml_X13_317 ok_X12_init oi_X12_init ⟨Nat.le_of_ble_eq_true rfl, Nat.le_of_ble_eq_true rfl⟩ rfl (av := []) (s_X12_init (j_new (g, d) (0, 11)) g.1 (Nat.lt_succ_self _) (if_pos rfl) (show g.1 + 1 + 14 ≤ 1000000 by omega)) rfl (Nat.le_of_ble_eq_true rfl)) ?_
  refine J_heap (h1 := (gNew g, dNew g.1 d)) (new12 g d) ?_
  generalize dNew g.1 d = d
  have gn := gNew_keep h0 (by decide)
  refine J_putR (pc := 51) dX13_land_51 fl_X13_151 ft_12_4 (gn.lt 57 (by decide)) (gn.ty 57 rfl) rfl (show g.1 < g.1 + 15 by omega) (fun _ => rfl) (fun _ => rfl) ?_
  refine J_heap (h1 := (gRd g, d)) rfl ?_
  refine J_aload_n (pc := 54) 0 dX13_land_54 rfl rfl ?_
  refine J_iconst (pc := 55) (v := 0) dX13_land_55 (by decide) ?_
  refine J_putI (pc := 56) dX13_land_56 fl_X13_74 ft_12_9 (g1.lt 57 (by decide)) (g1.ty 57 rfl) rfl rfl rfl ?_
  refine J_heap (h1 := (gRd g, j_sI d 57 9 0)) rfl ?_
  refine J_aload_n (pc := 59) 0 dX13_land_59 rfl rfl ?_
  refine JC_pe_v (J_callV (mi := mi_X13_land) (mj := mi_X13_goesOn) (pc := 60) dX13_land_60 ml_X13_110 ok_X13_goesOn ov_X13_goesOn ⟨Nat.le_of_ble_eq_true rfl, Nat.le_of_ble_eq_true rfl⟩ rfl (g1.lt 57 (by decide)) (g1.ty 57 rfl) rfl (s_X13_goesOn (gRd g) (j_sI d 57 9 0) g1) rfl (Nat.le_of_ble_eq_true rfl)) (fun d => ?_)
  refine J_aload_n (pc := 63) 0 dX13_land_63 rfl rfl ?_
  refine JC_pe_v (J_callV (mi := mi_X13_land) (mj := mi_X13_readAll) (pc := 64) dX13_land_64 ml_X13_318 ok_X13_readAll ov_X13_readAll ⟨Nat.le_of_ble_eq_true rfl, Nat.le_of_ble_eq_true rfl⟩ rfl (g1.lt 57 (by decide)) (g1.ty 57 rfl) rfl (s_X13_readAll (gRd g) d g.1 g1 gu rfl) rfl (Nat.le_of_ble_eq_true rfl)) (fun d => ?_)
  refine J_aload_n (pc := 67) 0 dX13_land_67 rfl rfl ?_
  refine J_getI (pc := 68) dX13_land_68 fl_X13_100 (g1.lt 57 (by decide)) (g1.ty 57 rfl) rfl ?_
  unfold f_X13_land_e
  refine K_if_le (K := (fun x => Option.bind x k)) (pc := 71) (tgt := 89) dX13_land_71 (by decide) (fun z3 => ?_) (fun z3 => ?_)
  · refine J_aload_n (pc := 89) 0 dX13_land_89 rfl rfl ?_
    refine J_aload_n (pc := 90) 0 dX13_land_90 rfl rfl ?_
    refine J_getR (pc := 91) (b := g.1) dX13_land_91 fl_X13_151 (g1.lt 57 (by decide)) (g1.ty 57 rfl) rfl rfl ?_
    refine J_putR (pc := 94) dX13_land_94 fl_X13_321 ft_12_3 (g1.lt 57 (by decide)) (g1.ty 57 rfl) rfl (show g.1 < g.1 + 15 by omega) (fun _ => rfl) (fun _ => rfl) ?_
    refine J_heap (h1 := (gLn g, d)) rfl ?_
    refine J_aload_n (pc := 97) 0 dX13_land_97 rfl rfl ?_
    refine JC_pe_v (J_callV (mi := mi_X13_land) (mj := mi_X13_asTold) (pc := 98) dX13_land_98 ml_X13_323 ok_X13_asTold ov_X13_asTold ⟨Nat.le_of_ble_eq_true rfl, Nat.le_of_ble_eq_true rfl⟩ rfl (g2.lt 57 (by decide)) (g2.ty 57 rfl) rfl (s_X13_asTold (gLn g) d g.1 g2 gv rfl) rfl (Nat.le_of_ble_eq_true rfl)) (fun d => ?_)
    refine J_aload_n (pc := 101) 0 dX13_land_101 rfl rfl ?_
    refine J_getR (pc := 102) (b := 59) dX13_land_102 fl_X13_17 (g2.lt 57 (by decide)) (g2.ty 57 rfl) rfl (g2.rf 56 rfl) ?_
    refine J_bipush (pc := 105) (v := 6) dX13_land_105 (by decide) ?_
    refine J_aload_n (pc := 107) 0 dX13_land_107 rfl rfl ?_
    refine J_getR (pc := 108) (b := g.1) dX13_land_108 fl_X13_321 (g2.lt 57 (by decide)) (g2.ty 57 rfl) rfl rfl ?_
    refine J_getI (pc := 111) dX13_land_111 fl_X13_155 (gv.lt 0 (by decide)) (gv.ty 0 rfl) rfl ?_
    refine J_iast (pc := 114) (n := 9) dX13_land_114 (g2.lt 59 (by decide)) (g2.ty 59 rfl) (show ¬ ((6 : Int32) < 0 ∨ 9 ≤ (6 : Int32).toNatClampNeg) by decide) ?_
    refine J_aload_n (pc := 115) 0 dX13_land_115 rfl rfl ?_
    refine J_getR (pc := 116) (b := 59) dX13_land_116 fl_X13_17 (g2.lt 57 (by decide)) (g2.ty 57 rfl) rfl (g2.rf 56 rfl) ?_
    refine J_bipush (pc := 119) (v := 7) dX13_land_119 (by decide) ?_
    refine J_iconst (pc := 121) (v := 0) dX13_land_121 (by decide) ?_
    refine J_iast (pc := 122) (n := 9) dX13_land_122 (g2.lt 59 (by decide)) (g2.ty 59 rfl) (show ¬ ((7 : Int32) < 0 ∨ 9 ≤ (7 : Int32).toNatClampNeg) by decide) ?_
    refine J_aload_n (pc := 123) 0 dX13_land_123 rfl rfl ?_
    refine J_getR (pc := 124) (b := 59) dX13_land_124 fl_X13_17 (g2.lt 57 (by decide)) (g2.ty 57 rfl) rfl (g2.rf 56 rfl) ?_
    refine J_bipush (pc := 127) (v := 8) dX13_land_127 (by decide) ?_
    refine J_iconst (pc := 129) (v := 0) dX13_land_129 (by decide) ?_
    refine J_iast (pc := 130) (n := 9) dX13_land_130 (g2.lt 59 (by decide)) (g2.ty 59 rfl) (show ¬ ((8 : Int32) < 0 ∨ 9 ≤ (8 : Int32).toNatClampNeg) by decide) ?_
    refine J_heap (h1 := (gLn g, j_sI (j_sI (j_sI d 59 6 (d.1 g.1 0)) 59 7 0) 59 8 0)) rfl ?_
    refine J_eqo (hk _) ?_
    unfold f_X13_land_v
    generalize j_sI (j_sI (j_sI d 59 6 (d.1 g.1 0)) 59 7 0) 59 8 0 = d
    refine J_iconst (pc := 131) (v := 0) dX13_land_131 (by decide) ?_
    refine J_istore_n (pc := 132) (loc' := [(2, .int 0), (0, .ref 57), (1, .int n)]) dX13_land_132 rfl (by decide) rfl ?_
    refine J_iload_n (pc := 133) 0 dX13_land_133 rfl rfl ?_
    refine J_bipush (pc := 134) (v := 6) dX13_land_134 (by decide) ?_
    refine J_icmp_ge_f (pc := 136) (tgt := 157) dX13_land_136 (by decide) (by decide) ?_
    refine J_aload_n (pc := 139) 1 dX13_land_139 rfl rfl ?_
    refine J_getR (pc := 140) (b := 59) dX13_land_140 fl_X13_17 (g2.lt 57 (by decide)) (g2.ty 57 rfl) rfl (g2.rf 56 rfl) ?_
    refine J_iload_n (pc := 143) 0 dX13_land_143 rfl rfl ?_
    refine J_aload_n (pc := 144) 1 dX13_land_144 rfl rfl ?_
    refine J_getR (pc := 145) (b := 60) dX13_land_145 fl_X13_21 (g2.lt 57 (by decide)) (g2.ty 57 rfl) rfl (g2.rf 57 rfl) ?_
    refine J_iload_n (pc := 148) 0 dX13_land_148 rfl rfl ?_
    refine J_iald (pc := 149) (n := 6) dX13_land_149 (g2.lt 60 (by decide)) (g2.ty 60 rfl) (show ¬ ((0 : Int32) < 0 ∨ 6 ≤ (0 : Int32).toNatClampNeg) by decide) ?_
    refine J_iast (pc := 150) (n := 9) dX13_land_150 (g2.lt 59 (by decide)) (g2.ty 59 rfl) (show ¬ ((0 : Int32) < 0 ∨ 9 ≤ (0 : Int32).toNatClampNeg) by decide) ?_
    refine J_iinc (pc := 151) (loc' := [(2, .int 1), (0, .ref 57), (1, .int n)]) 0 dX13_land_151 rfl (by decide) (by decide) rfl ?_
    refine J_goto (pc := 154) (tgt := 133) dX13_land_154 (by decide) ?_
    refine J_heap (h1 := (gLn g, j_sI (d) 59 0 (d.1 60 0))) rfl ?_
    refine J_iload_n (pc := 133) 0 dX13_land_133 rfl rfl ?_
    refine J_bipush (pc := 134) (v := 6) dX13_land_134 (by decide) ?_
    refine J_icmp_ge_f (pc := 136) (tgt := 157) dX13_land_136 (by decide) (by decide) ?_
    refine J_aload_n (pc := 139) 1 dX13_land_139 rfl rfl ?_
    refine J_getR (pc := 140) (b := 59) dX13_land_140 fl_X13_17 (g2.lt 57 (by decide)) (g2.ty 57 rfl) rfl (g2.rf 56 rfl) ?_
    refine J_iload_n (pc := 143) 0 dX13_land_143 rfl rfl ?_
    refine J_aload_n (pc := 144) 1 dX13_land_144 rfl rfl ?_
    refine J_getR (pc := 145) (b := 60) dX13_land_145 fl_X13_21 (g2.lt 57 (by decide)) (g2.ty 57 rfl) rfl (g2.rf 57 rfl) ?_
    refine J_iload_n (pc := 148) 0 dX13_land_148 rfl rfl ?_
    refine J_iald (pc := 149) (n := 6) dX13_land_149 (g2.lt 60 (by decide)) (g2.ty 60 rfl) (show ¬ ((1 : Int32) < 0 ∨ 6 ≤ (1 : Int32).toNatClampNeg) by decide) ?_
    refine J_iast (pc := 150) (n := 9) dX13_land_150 (g2.lt 59 (by decide)) (g2.ty 59 rfl) (show ¬ ((1 : Int32) < 0 ∨ 9 ≤ (1 : Int32).toNatClampNeg) by decide) ?_
    refine J_iinc (pc := 151) (loc' := [(2, .int 2), (0, .ref 57), (1, .int n)]) 0 dX13_land_151 rfl (by decide) (by decide) rfl ?_
    refine J_goto (pc := 154) (tgt := 133) dX13_land_154 (by decide) ?_
    refine J_heap (h1 := (gLn g, j_sI (j_sI (d) 59 0 (d.1 60 0)) 59 1 (d.1 60 1))) rfl ?_
    refine J_iload_n (pc := 133) 0 dX13_land_133 rfl rfl ?_
    refine J_bipush (pc := 134) (v := 6) dX13_land_134 (by decide) ?_
    refine J_icmp_ge_f (pc := 136) (tgt := 157) dX13_land_136 (by decide) (by decide) ?_
    refine J_aload_n (pc := 139) 1 dX13_land_139 rfl rfl ?_
    refine J_getR (pc := 140) (b := 59) dX13_land_140 fl_X13_17 (g2.lt 57 (by decide)) (g2.ty 57 rfl) rfl (g2.rf 56 rfl) ?_
    refine J_iload_n (pc := 143) 0 dX13_land_143 rfl rfl ?_
    refine J_aload_n (pc := 144) 1 dX13_land_144 rfl rfl ?_
    refine J_getR (pc := 145) (b := 60) dX13_land_145 fl_X13_21 (g2.lt 57 (by decide)) (g2.ty 57 rfl) rfl (g2.rf 57 rfl) ?_
    refine J_iload_n (pc := 148) 0 dX13_land_148 rfl rfl ?_
    refine J_iald (pc := 149) (n := 6) dX13_land_149 (g2.lt 60 (by decide)) (g2.ty 60 rfl) (show ¬ ((2 : Int32) < 0 ∨ 6 ≤ (2 : Int32).toNatClampNeg) by decide) ?_
    refine J_iast (pc := 150) (n := 9) dX13_land_150 (g2.lt 59 (by decide)) (g2.ty 59 rfl) (show ¬ ((2 : Int32) < 0 ∨ 9 ≤ (2 : Int32).toNatClampNeg) by decide) ?_
    refine J_iinc (pc := 151) (loc' := [(2, .int 3), (0, .ref 57), (1, .int n)]) 0 dX13_land_151 rfl (by decide) (by decide) rfl ?_
    refine J_goto (pc := 154) (tgt := 133) dX13_land_154 (by decide) ?_
    refine J_heap (h1 := (gLn g, j_sI (j_sI (j_sI (d) 59 0 (d.1 60 0)) 59 1 (d.1 60 1)) 59 2 (d.1 60 2))) rfl ?_
    refine J_iload_n (pc := 133) 0 dX13_land_133 rfl rfl ?_
    refine J_bipush (pc := 134) (v := 6) dX13_land_134 (by decide) ?_
    refine J_icmp_ge_f (pc := 136) (tgt := 157) dX13_land_136 (by decide) (by decide) ?_
    refine J_aload_n (pc := 139) 1 dX13_land_139 rfl rfl ?_
    refine J_getR (pc := 140) (b := 59) dX13_land_140 fl_X13_17 (g2.lt 57 (by decide)) (g2.ty 57 rfl) rfl (g2.rf 56 rfl) ?_
    refine J_iload_n (pc := 143) 0 dX13_land_143 rfl rfl ?_
    refine J_aload_n (pc := 144) 1 dX13_land_144 rfl rfl ?_
    refine J_getR (pc := 145) (b := 60) dX13_land_145 fl_X13_21 (g2.lt 57 (by decide)) (g2.ty 57 rfl) rfl (g2.rf 57 rfl) ?_
    refine J_iload_n (pc := 148) 0 dX13_land_148 rfl rfl ?_
    refine J_iald (pc := 149) (n := 6) dX13_land_149 (g2.lt 60 (by decide)) (g2.ty 60 rfl) (show ¬ ((3 : Int32) < 0 ∨ 6 ≤ (3 : Int32).toNatClampNeg) by decide) ?_
    refine J_iast (pc := 150) (n := 9) dX13_land_150 (g2.lt 59 (by decide)) (g2.ty 59 rfl) (show ¬ ((3 : Int32) < 0 ∨ 9 ≤ (3 : Int32).toNatClampNeg) by decide) ?_
    refine J_iinc (pc := 151) (loc' := [(2, .int 4), (0, .ref 57), (1, .int n)]) 0 dX13_land_151 rfl (by decide) (by decide) rfl ?_
    refine J_goto (pc := 154) (tgt := 133) dX13_land_154 (by decide) ?_
    refine J_heap (h1 := (gLn g, j_sI (j_sI (j_sI (j_sI (d) 59 0 (d.1 60 0)) 59 1 (d.1 60 1)) 59 2 (d.1 60 2)) 59 3 (d.1 60 3))) rfl ?_
    refine J_iload_n (pc := 133) 0 dX13_land_133 rfl rfl ?_
    refine J_bipush (pc := 134) (v := 6) dX13_land_134 (by decide) ?_
    refine J_icmp_ge_f (pc := 136) (tgt := 157) dX13_land_136 (by decide) (by decide) ?_
    refine J_aload_n (pc := 139) 1 dX13_land_139 rfl rfl ?_
    refine J_getR (pc := 140) (b := 59) dX13_land_140 fl_X13_17 (g2.lt 57 (by decide)) (g2.ty 57 rfl) rfl (g2.rf 56 rfl) ?_
    refine J_iload_n (pc := 143) 0 dX13_land_143 rfl rfl ?_
    refine J_aload_n (pc := 144) 1 dX13_land_144 rfl rfl ?_
    refine J_getR (pc := 145) (b := 60) dX13_land_145 fl_X13_21 (g2.lt 57 (by decide)) (g2.ty 57 rfl) rfl (g2.rf 57 rfl) ?_
    refine J_iload_n (pc := 148) 0 dX13_land_148 rfl rfl ?_
    refine J_iald (pc := 149) (n := 6) dX13_land_149 (g2.lt 60 (by decide)) (g2.ty 60 rfl) (show ¬ ((4 : Int32) < 0 ∨ 6 ≤ (4 : Int32).toNatClampNeg) by decide) ?_
    refine J_iast (pc := 150) (n := 9) dX13_land_150 (g2.lt 59 (by decide)) (g2.ty 59 rfl) (show ¬ ((4 : Int32) < 0 ∨ 9 ≤ (4 : Int32).toNatClampNeg) by decide) ?_
    refine J_iinc (pc := 151) (loc' := [(2, .int 5), (0, .ref 57), (1, .int n)]) 0 dX13_land_151 rfl (by decide) (by decide) rfl ?_
    refine J_goto (pc := 154) (tgt := 133) dX13_land_154 (by decide) ?_
    refine J_heap (h1 := (gLn g, j_sI (j_sI (j_sI (j_sI (j_sI (d) 59 0 (d.1 60 0)) 59 1 (d.1 60 1)) 59 2 (d.1 60 2)) 59 3 (d.1 60 3)) 59 4 (d.1 60 4))) rfl ?_
    refine J_iload_n (pc := 133) 0 dX13_land_133 rfl rfl ?_
    refine J_bipush (pc := 134) (v := 6) dX13_land_134 (by decide) ?_
    refine J_icmp_ge_f (pc := 136) (tgt := 157) dX13_land_136 (by decide) (by decide) ?_
    refine J_aload_n (pc := 139) 1 dX13_land_139 rfl rfl ?_
    refine J_getR (pc := 140) (b := 59) dX13_land_140 fl_X13_17 (g2.lt 57 (by decide)) (g2.ty 57 rfl) rfl (g2.rf 56 rfl) ?_
    refine J_iload_n (pc := 143) 0 dX13_land_143 rfl rfl ?_
    refine J_aload_n (pc := 144) 1 dX13_land_144 rfl rfl ?_
    refine J_getR (pc := 145) (b := 60) dX13_land_145 fl_X13_21 (g2.lt 57 (by decide)) (g2.ty 57 rfl) rfl (g2.rf 57 rfl) ?_
    refine J_iload_n (pc := 148) 0 dX13_land_148 rfl rfl ?_
    refine J_iald (pc := 149) (n := 6) dX13_land_149 (g2.lt 60 (by decide)) (g2.ty 60 rfl) (show ¬ ((5 : Int32) < 0 ∨ 6 ≤ (5 : Int32).toNatClampNeg) by decide) ?_
    refine J_iast (pc := 150) (n := 9) dX13_land_150 (g2.lt 59 (by decide)) (g2.ty 59 rfl) (show ¬ ((5 : Int32) < 0 ∨ 9 ≤ (5 : Int32).toNatClampNeg) by decide) ?_
    refine J_iinc (pc := 151) (loc' := [(2, .int 6), (0, .ref 57), (1, .int n)]) 0 dX13_land_151 rfl (by decide) (by decide) rfl ?_
    refine J_goto (pc := 154) (tgt := 133) dX13_land_154 (by decide) ?_
    refine J_heap (h1 := (gLn g, j_sI (j_sI (j_sI (j_sI (j_sI (j_sI (d) 59 0 (d.1 60 0)) 59 1 (d.1 60 1)) 59 2 (d.1 60 2)) 59 3 (d.1 60 3)) 59 4 (d.1 60 4)) 59 5 (d.1 60 5))) rfl ?_
    refine J_iload_n (pc := 133) 0 dX13_land_133 rfl rfl ?_
    refine J_bipush (pc := 134) (v := 6) dX13_land_134 (by decide) ?_
    refine J_icmp_ge_t (pc := 136) (tgt := 157) dX13_land_136 (by decide) (by decide) ?_
    refine J_heap (h1 := (gLn g, f_X13_land_x d)) rfl ?_
    refine J_aload_n (pc := 157) 1 dX13_land_157 rfl rfl ?_
    refine J_iconst (pc := 158) (v := 0) dX13_land_158 (by decide) ?_
    refine J_putI (pc := 159) dX13_land_159 fl_X13_326 ft_12_19 (g2.lt 57 (by decide)) (g2.ty 57 rfl) rfl rfl rfl ?_
    refine J_aload_n (pc := 162) 1 dX13_land_162 rfl rfl ?_
    refine J_iconst (pc := 163) (v := 0) dX13_land_163 (by decide) ?_
    refine J_putI (pc := 164) dX13_land_164 fl_X13_329 ft_12_20 (g2.lt 57 (by decide)) (g2.ty 57 rfl) rfl rfl rfl ?_
    refine J_heap (h1 := (gLn g, j_sI (j_sI (f_X13_land_x d) 57 19 0) 57 20 0)) rfl ?_
    refine J_aload_n (pc := 167) 1 dX13_land_167 rfl rfl ?_
    refine J_aload_n (pc := 168) 1 dX13_land_168 rfl rfl ?_
    refine J_getR (pc := 169) (b := g.1) dX13_land_169 fl_X13_321 (g2.lt 57 (by decide)) (g2.ty 57 rfl) rfl rfl ?_
    refine J_getI (pc := 172) dX13_land_172 fl_X13_191 (gv.lt 0 (by decide)) (gv.ty 0 rfl) rfl ?_
    refine JC_t rfl (J_callV (mi := mi_X13_land) (mj := mi_X13_good) (pc := 175) dX13_land_175 ml_X13_52 ok_X13_good ov_X13_good ⟨Nat.le_of_ble_eq_true rfl, Nat.le_of_ble_eq_true rfl⟩ rfl (g2.lt 57 (by decide)) (g2.ty 57 rfl) rfl (s_X13_good (gLn g) (j_sI (j_sI (f_X13_land_x d) 57 19 0) 57 20 0) _ g2) rfl (Nat.le_of_ble_eq_true rfl)) ?_
    exact J_iret (pc := 178) dX13_land_178 rfl
  · refine J_eqo (hk _) ?_
    refine J_aload_n (pc := 74) 0 dX13_land_74 rfl rfl ?_
    refine J_iconst (pc := 75) (v := 4) dX13_land_75 (by decide) ?_
    refine J_putI (pc := 76) dX13_land_76 fl_X13_45 ft_12_1 (g1.lt 57 (by decide)) (g1.ty 57 rfl) rfl rfl rfl ?_
    refine J_aload_n (pc := 79) 0 dX13_land_79 rfl rfl ?_
    refine J_aload_n (pc := 80) 0 dX13_land_80 rfl rfl ?_
    refine J_getI (pc := 81) dX13_land_81 fl_X13_103 (g1.lt 57 (by decide)) (g1.ty 57 rfl) rfl ?_
    refine J_putI (pc := 84) dX13_land_84 fl_X13_9 ft_12_2 (g1.lt 57 (by decide)) (g1.ty 57 rfl) rfl rfl rfl ?_
    refine J_iconst (pc := 87) (v := (-1)) dX13_land_87 (by decide) ?_
    exact J_iret (pc := 88) dX13_land_88 rfl
