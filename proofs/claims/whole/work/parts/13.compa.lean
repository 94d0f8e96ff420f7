def f_X0_clear_w17 (c : Nat) (s17 : Int32 × JD) : Option ((Int32 × JD) ⊕ (JD)) := (if 5 ≤ s17.1 then some (.inr s17.2) else (if j_out s17.1 5 then none else some (.inl (s17.1 + 1, j_sI s17.2 (c + 5) s17.1.toNatClampNeg (-1)))))
def f_X0_clear (c : Nat) (d : JD) : Option (JD) := ((j_wh (f_X0_clear_w17 c ) j_fuel (0, j_sI (j_sI (j_sI d c 0 0) c 4 0) c 6 0)).bind (fun (e17 : JD) => (some e17)))
set_option maxRecDepth 100000 in
set_option maxHeartbeats 4000000 in
theorem s_X0_clear (g : JG) (d : JD) (c : Nat) (hc : j_sh g c TS_CC RS_CC) : JM mi_X0_clear 0 0 (g, d) [.ref c] ((f_X0_clear c d ).bind (fun r9 => some (none, (g, r9)))) := by
  refine JM_of (by decide) rfl (Nat.le_of_ble_eq_true rfl) ?_
  refine J_loc (loc' := [(0, .ref c)]) [0] rfl ?_
  obtain ⟨k, hk, hk2⟩ : ∃ k : JD → Option (Option Value × JH), (∀ r9, k r9 = some (none, (g, r9))) ∧ (fun r9 : JD => (some (none, (g, r9)) : Option (Option Value × JH))) = k := ⟨_, fun _ => rfl, rfl⟩
  rw [hk2]
  unfold f_X0_clear
  refine J_aload_n (pc := 0) 0 dX0_clear_0 rfl rfl ?_
  refine J_iconst (pc := 1) (v := 0) dX0_clear_1 (by decide) ?_
  refine J_putI (pc := 2) dX0_clear_2 fl_X0_27 ft_0_0 (hc.lt 0 (by decide)) (hc.ty 0 rfl) rfl rfl rfl ?_
  refine J_aload_n (pc := 5) 0 dX0_clear_5 rfl rfl ?_
  refine J_iconst (pc := 6) (v := 0) dX0_clear_6 (by decide) ?_
  refine J_putI (pc := 7) dX0_clear_7 fl_X0_31 ft_0_4 (hc.lt 0 (by decide)) (hc.ty 0 rfl) rfl rfl rfl ?_
  refine J_aload_n (pc := 10) 0 dX0_clear_10 rfl rfl ?_
  refine J_iconst (pc := 11) (v := 0) dX0_clear_11 (by decide) ?_
  refine J_putI (pc := 12) dX0_clear_12 fl_X0_34 ft_0_6 (hc.lt 0 (by decide)) (hc.ty 0 rfl) rfl rfl rfl ?_
  refine J_iconst (pc := 15) (v := 0) dX0_clear_15 (by decide) ?_
  refine J_istore_n (pc := 16) (loc' := [(1, .int 0), (0, .ref c)]) dX0_clear_16 rfl (by decide) rfl ?_
  refine J_loc (loc' := [(0, .ref c), (1, .int 0)]) [1, 0] rfl ?_
  refine J_whL (F := f_X0_clear_w17 c ) (hp := fun (s17 : Int32 × JD) => (g, s17.2)) (lc := fun (s17 : Int32 × JD) => [(0, .ref c), (1, .int s17.1)]) (XJ := fun (e17 : JD) o9 => J mi_X0_clear 0 0 0 0 (g, e17) 35 [] [] o9) (fun s17 k17 hB17 hX17 => ?_) (fun e17 => ?_) _ (0, j_sI (j_sI (j_sI d c 0 0) c 4 0) c 6 0)
  · show J mi_X0_clear 0 0 0 0 (g, s17.2) 17 [(0, .ref c), (1, .int s17.1)] [] ((f_X0_clear_w17 c s17).bind k17)
    unfold f_X0_clear_w17
    refine J_iload_n (pc := 17) 1 dX0_clear_17 rfl rfl ?_
    refine J_iconst (pc := 18) (v := 5) dX0_clear_18 (by decide) ?_
    refine K_icmp_ge (K := (fun x => Option.bind x k17)) (pc := 19) (tgt := 35) dX0_clear_19 (by decide) (fun z19 => ?_) (fun z19 => ?_)
    · refine J_loc (loc' := []) [] rfl ?_
      exact hX17 s17.2
    · refine J_aload_n (pc := 22) 0 dX0_clear_22 rfl rfl ?_
      refine J_getR (pc := 23) dX0_clear_23 fl_X0_24 (hc.lt 0 (by decide)) (hc.ty 0 rfl) rfl (hc.rf 4 rfl) ?_
      refine J_iload_n (pc := 26) 1 dX0_clear_26 rfl rfl ?_
      refine J_iconst (pc := 27) (v := (-1)) dX0_clear_27 (by decide) ?_
      refine J_guard (fun z28 => ?_)
      refine J_iast (pc := 28) dX0_clear_28 (hc.lt 5 (by decide)) (hc.ty 5 rfl) z28 ?_
      refine J_iinc (pc := 29) (v := s17.1 + 1) (loc' := [(1, .int (s17.1 + 1)), (0, .ref c)]) 1 dX0_clear_29 rfl rfl (by decide) rfl ?_
      refine J_goto (pc := 32) (tgt := 17) dX0_clear_32 (by decide) ?_
      refine J_loc (loc' := [(0, .ref c), (1, .int (s17.1 + 1))]) [1, 0] rfl ?_
      exact hB17 (s17.1 + 1, j_sI s17.2 (c + 5) s17.1.toNatClampNeg (-1))
  · show J mi_X0_clear 0 0 0 0 (g, e17) 35 [] [] (_)
    exact J_eqo (hk e17) (J_vret (pc := 35) dX0_clear_35 rfl)
def f_X11_put (r n : Nat) (d : JD) (pq1 : Int32) (pq2 : Int32) : JD := (if pq1 < 0 then (d) else (if (Int32.ofNat n) ≤ pq1 then (d) else (j_sI d r pq1.toNatClampNeg pq2)))
set_option maxRecDepth 100000 in
set_option maxHeartbeats 4000000 in
theorem s_X11_put (g : JG) (d : JD) (r n : Nat) (pq1 : Int32) (pq2 : Int32) (hr : r < g.1 ∧ g.2.1 r = (1, n) ∧ n < 2 ^ 31) : JM mi_X11_put 0 0 (g, d) [.ref r, .int pq1, .int pq2] (some (none, (g, (f_X11_put r n d pq1 pq2)))) := by
  refine JM_of (by decide) rfl (Nat.le_of_ble_eq_true rfl) ?_
  refine J_loc (loc' := [(0, .ref r), (1, .int pq1), (2, .int pq2)]) [0, 1, 2] rfl ?_
  obtain ⟨k, hk⟩ : ∃ k : JD → Option (Option Value × JH), ∀ r9, k r9 = some (none, (g, r9)) := ⟨_, fun _ => rfl⟩
  refine J_eqo (hk (f_X11_put r n d pq1 pq2)).symm ?_
  unfold f_X11_put
  refine J_iload_n (pc := 0) 1 dX11_put_0 rfl rfl ?_
  refine K_if_lt (K := k) (pc := 1) (tgt := 14) dX11_put_1 (by decide) (fun z1 => ?_) (fun z1 => ?_)
  · exact J_eqo (hk d) (J_vret (pc := 14) dX11_put_14 rfl)
  · refine J_iload_n (pc := 4) 1 dX11_put_4 rfl rfl ?_
    refine J_aload_n (pc := 5) 0 dX11_put_5 rfl rfl ?_
    refine J_alenI (pc := 6) (v := Int32.ofNat n) dX11_put_6 hr.1 hr.2.1 rfl ?_
    refine K_icmp_ge (K := k) (pc := 7) (tgt := 14) dX11_put_7 (by decide) (fun z7 => ?_) (fun z7 => ?_)
    · exact J_eqo (hk d) (J_vret (pc := 14) dX11_put_14 rfl)
    · refine J_aload_n (pc := 10) 0 dX11_put_10 rfl rfl ?_
      refine J_iload_n (pc := 11) 1 dX11_put_11 rfl rfl ?_
      refine J_iload_n (pc := 12) 2 dX11_put_12 rfl rfl ?_
      refine J_iast (pc := 13) dX11_put_13 hr.1 hr.2.1 (j_inb hr.2.2 z1 z7) ?_
      exact J_eqo (hk (j_sI d r pq1.toNatClampNeg pq2)) (J_vret (pc := 14) dX11_put_14 rfl)
def f_X0_addWant (c : Nat) (d : JD) (pq0 : Int32) (pq1 : Int32) (pq2 : Int32) : JD := (j_let (f_X11_put (c + 1) 4 d ((d.1 c) 0) pq0) (fun q9 => j_let (f_X11_put (c + 2) 4 q9 ((q9.1 c) 0) pq1) (fun q21 => j_let (f_X11_put (c + 3) 4 q21 ((q21.1 c) 0) pq2) (fun q33 => j_sI q33 c 0 (((q33.1 c) 0) + 1)))))
set_option maxRecDepth 100000 in
set_option maxHeartbeats 4000000 in
theorem s_X0_addWant (g : JG) (d : JD) (c : Nat) (pq0 : Int32) (pq1 : Int32) (pq2 : Int32) (hc : j_sh g c TS_CC RS_CC) : JM mi_X0_addWant 0 0 (g, d) [.ref c, .int pq0, .int pq1, .int pq2] (some (none, (g, (f_X0_addWant c d pq0 pq1 pq2)))) := by
  refine JM_of (by decide) rfl (Nat.le_of_ble_eq_true rfl) ?_
  refine J_loc (loc' := [(0, .ref c), (1, .int pq0), (2, .int pq1), (3, .int pq2)]) [0, 1, 2, 3] rfl ?_
  obtain ⟨k, hk⟩ : ∃ k : JD → Option (Option Value × JH), ∀ r9, k r9 = some (none, (g, r9)) := ⟨_, fun _ => rfl⟩
  refine J_eqo (hk (f_X0_addWant c d pq0 pq1 pq2)).symm ?_
  unfold f_X0_addWant
  refine J_aload_n (pc := 0) 0 dX0_addWant_0 rfl rfl ?_
  refine J_getR (pc := 1) dX0_addWant_1 fl_X0_9 (hc.lt 0 (by decide)) (hc.ty 0 rfl) rfl (hc.rf 0 rfl) ?_
  refine J_aload_n (pc := 4) 0 dX0_addWant_4 rfl rfl ?_
  refine J_getI (pc := 5) dX0_addWant_5 fl_X0_27 (hc.lt 0 (by decide)) (hc.ty 0 rfl) rfl ?_
  refine J_iload_n (pc := 8) 1 dX0_addWant_8 rfl rfl ?_
  refine JC_lt_v (K := k) (J_callS (mi := mi_X0_addWant) (mj := mi_X11_put) (pc := 9) dX0_addWant_9 ml_X0_37 ok_X11_put os_X11_put ⟨Nat.le_of_ble_eq_true rfl, Nat.le_of_ble_eq_true rfl⟩ rfl (s_X11_put g d (c + 1) 4 ((d.1 c) 0) pq0 (⟨(hc.lt 1 (by decide)), (hc.ty 1 rfl), by decide⟩)) rfl (Nat.le_of_ble_eq_true rfl)) (fun q9 eq9 => ?_)
  refine J_aload_n (pc := 12) 0 dX0_addWant_12 rfl rfl ?_
  refine J_getR (pc := 13) dX0_addWant_13 fl_X0_15 (hc.lt 0 (by decide)) (hc.ty 0 rfl) rfl (hc.rf 1 rfl) ?_
  refine J_aload_n (pc := 16) 0 dX0_addWant_16 rfl rfl ?_
  refine J_getI (pc := 17) dX0_addWant_17 fl_X0_27 (hc.lt 0 (by decide)) (hc.ty 0 rfl) rfl ?_
  refine J_iload_n (pc := 20) 2 dX0_addWant_20 rfl rfl ?_
  refine JC_lt_v (K := k) (J_callS (mi := mi_X0_addWant) (mj := mi_X11_put) (pc := 21) dX0_addWant_21 ml_X0_37 ok_X11_put os_X11_put ⟨Nat.le_of_ble_eq_true rfl, Nat.le_of_ble_eq_true rfl⟩ rfl (s_X11_put g q9 (c + 2) 4 ((q9.1 c) 0) pq1 (⟨(hc.lt 2 (by decide)), (hc.ty 2 rfl), by decide⟩)) rfl (Nat.le_of_ble_eq_true rfl)) (fun q21 eq21 => ?_)
  refine J_aload_n (pc := 24) 0 dX0_addWant_24 rfl rfl ?_
  refine J_getR (pc := 25) dX0_addWant_25 fl_X0_18 (hc.lt 0 (by decide)) (hc.ty 0 rfl) rfl (hc.rf 2 rfl) ?_
  refine J_aload_n (pc := 28) 0 dX0_addWant_28 rfl rfl ?_
  refine J_getI (pc := 29) dX0_addWant_29 fl_X0_27 (hc.lt 0 (by decide)) (hc.ty 0 rfl) rfl ?_
  refine J_iload_n (pc := 32) 3 dX0_addWant_32 rfl rfl ?_
  refine JC_lt_v (K := k) (J_callS (mi := mi_X0_addWant) (mj := mi_X11_put) (pc := 33) dX0_addWant_33 ml_X0_37 ok_X11_put os_X11_put ⟨Nat.le_of_ble_eq_true rfl, Nat.le_of_ble_eq_true rfl⟩ rfl (s_X11_put g q21 (c + 3) 4 ((q21.1 c) 0) pq2 (⟨(hc.lt 3 (by decide)), (hc.ty 3 rfl), by decide⟩)) rfl (Nat.le_of_ble_eq_true rfl)) (fun q33 eq33 => ?_)
  refine J_aload_n (pc := 36) 0 dX0_addWant_36 rfl rfl ?_
  refine J_dup (pc := 37) dX0_addWant_37 rfl ?_
  refine J_getI (pc := 38) dX0_addWant_38 fl_X0_27 (hc.lt 0 (by decide)) (hc.ty 0 rfl) rfl ?_
  refine J_iconst (pc := 41) (v := 1) dX0_addWant_41 (by decide) ?_
  refine J_iadd (pc := 42) dX0_addWant_42 ?_
  refine J_putI (pc := 43) dX0_addWant_43 fl_X0_27 ft_0_0 (hc.lt 0 (by decide)) (hc.ty 0 rfl) rfl rfl rfl ?_
  exact J_eqo (hk (j_sI q33 c 0 (((q33.1 c) 0) + 1))) (J_vret (pc := 46) dX0_addWant_46 rfl)
def f_X11_at (r_r0 : Nat → Int32) (n : Nat) (pq1 : Int32) : Int32 := (if pq1 < 0 then (0) else (if (Int32.ofNat n) ≤ pq1 then (0) else (r_r0 pq1.toNatClampNeg)))
set_option maxRecDepth 100000 in
set_option maxHeartbeats 4000000 in
theorem s_X11_at (g : JG) (d : JD) (r n : Nat) (pq1 : Int32) (hr : r < g.1 ∧ g.2.1 r = (1, n) ∧ n < 2 ^ 31) : JM mi_X11_at 0 0 (g, d) [.ref r, .int pq1] (some (some (.int (f_X11_at (d.1 r) n pq1)), (g, d))) := by
  refine JM_of (by decide) rfl (Nat.le_of_ble_eq_true rfl) ?_
  refine J_loc (loc' := [(0, .ref r), (1, .int pq1)]) [0, 1] rfl ?_
  obtain ⟨k, hk⟩ : ∃ k : Int32 → Option (Option Value × JH), ∀ r9, k r9 = some (some (.int r9), (g, d)) := ⟨_, fun _ => rfl⟩
  refine J_eqo (hk (f_X11_at (d.1 r) n pq1)).symm ?_
  unfold f_X11_at
  refine J_iload_n (pc := 0) 1 dX11_at_0 rfl rfl ?_
  refine K_if_lt (K := k) (pc := 1) (tgt := 16) dX11_at_1 (by decide) (fun z1 => ?_) (fun z1 => ?_)
  · refine J_iconst (pc := 16) (v := 0) dX11_at_16 (by decide) ?_
    exact J_eqo (hk 0) (J_iret (pc := 17) dX11_at_17 rfl)
  · refine J_iload_n (pc := 4) 1 dX11_at_4 rfl rfl ?_
    refine J_aload_n (pc := 5) 0 dX11_at_5 rfl rfl ?_
    refine J_alenI (pc := 6) (v := Int32.ofNat n) dX11_at_6 hr.1 hr.2.1 rfl ?_
    refine K_icmp_ge (K := k) (pc := 7) (tgt := 16) dX11_at_7 (by decide) (fun z7 => ?_) (fun z7 => ?_)
    · refine J_iconst (pc := 16) (v := 0) dX11_at_16 (by decide) ?_
      exact J_eqo (hk 0) (J_iret (pc := 17) dX11_at_17 rfl)
    · refine J_aload_n (pc := 10) 0 dX11_at_10 rfl rfl ?_
      refine J_iload_n (pc := 11) 1 dX11_at_11 rfl rfl ?_
      refine J_iald (pc := 12) dX11_at_12 hr.1 hr.2.1 (j_inb hr.2.2 z1 z7) ?_
      refine J_goto (pc := 13) (tgt := 17) dX11_at_13 (by decide) ?_
      exact J_eqo (hk ((d.1 r) pq1.toNatClampNeg)) (J_iret (pc := 17) dX11_at_17 rfl)
def f_X0_isLostGate_b2 (r_c0 : Nat → Int32) (r_c4 : Nat → Int32) (c1_2 : Int32) (i2 : Int32) (s2 : Unit) : Bool ⊕ (Unit) := (if (f_X11_at r_c4 4 i2) = (c1_2) then (Sum.inl true) else (.inr ()))
def f_X0_isLostGate (r_c0 : Nat → Int32) (r_c4 : Nat → Int32) (pq0 : Int32) : Bool := (j_let (j_fo (r_c0 4) (f_X0_isLostGate_b2 r_c0 r_c4 pq0 ) (j_mu (r_c0 4) 0) 0 ()) (Sum.elim (fun r9 => r9) (fun (s2 : Unit) => (false))))
set_option maxRecDepth 100000 in
set_option maxHeartbeats 4000000 in
theorem s_X0_isLostGate (g : JG) (d : JD) (c : Nat) (pq0 : Int32) (hc : j_sh g c TS_CC RS_CC) : JM mi_X0_isLostGate 0 0 (g, d) [.ref c, .int pq0] (some (some (.int (j_b (f_X0_isLostGate (d.1 c) (d.1 (c + 4)) pq0))), (g, d))) := by
  refine JM_of (by decide) rfl (Nat.le_of_ble_eq_true rfl) ?_
  refine J_loc (loc' := [(0, .ref c), (1, .int pq0)]) [0, 1] rfl ?_
  obtain ⟨k, hk⟩ : ∃ k : Bool → Option (Option Value × JH), ∀ r9, k r9 = some (some (.int (j_b r9)), (g, d)) := ⟨_, fun _ => rfl⟩
  refine J_eqo (hk (f_X0_isLostGate (d.1 c) (d.1 (c + 4)) pq0)).symm ?_
  unfold f_X0_isLostGate
  refine J_iconst (pc := 0) (v := 0) dX0_isLostGate_0 (by decide) ?_
  refine J_istore_n (pc := 1) (loc' := [(2, .int 0), (0, .ref c), (1, .int pq0)]) dX0_isLostGate_1 rfl (by decide) rfl ?_
  refine J_loc (loc' := [(0, .ref c), (1, .int pq0), (2, .int 0)]) [1, 2, 0] rfl ?_
  refine J_foL (K := k) (fr := fun r9 => r9) (b := (d.1 c) 4) (G := f_X0_isLostGate_b2 (d.1 c) (d.1 (c + 4)) pq0 ) (hp := fun (s2 : Unit) => (g, d)) (lc := fun (i2 : Int32) (s2 : Unit) => [(0, .ref c), (1, .int (pq0)), (2, .int i2)]) (XJ := fun (i2 : Int32) (s2 : Unit) o9 => J mi_X0_isLostGate 0 0 0 0 (g, d) 30 [] [] o9) (RJ := fun r9 o9 => o9 = some (some (.int (j_b r9)), (g, d))) (fun i2 s2 o2 Kb2 hX2 hR2 hB2 => ?_) (fun i2 s2 => ?_) (fun r9 => hk r9) _ _ () (Nat.le_refl _)
  · show J mi_X0_isLostGate 0 0 0 0 (g, d) 2 [(0, .ref c), (1, .int (pq0)), (2, .int i2)] [] (if ((d.1 c) 4) ≤ i2 then o2 else Kb2 (f_X0_isLostGate_b2 (d.1 c) (d.1 (c + 4)) pq0 i2 s2))
    refine J_iload_n (pc := 2) 2 dX0_isLostGate_2 rfl rfl ?_
    refine J_aload_n (pc := 3) 0 dX0_isLostGate_3 rfl rfl ?_
    refine J_getI (pc := 4) dX0_isLostGate_4 fl_X0_31 (hc.lt 0 (by decide)) (hc.ty 0 rfl) rfl ?_
    refine J_icmp_ge (pc := 7) (tgt := 30) dX0_isLostGate_7 (by decide) (fun z2 => ?_) (fun z2 => ?_)
    · refine J_loc (loc' := []) [] rfl ?_
      exact hX2 z2
    · unfold f_X0_isLostGate_b2
      refine J_aload_n (pc := 10) 0 dX0_isLostGate_10 rfl rfl ?_
      refine J_getR (pc := 11) dX0_isLostGate_11 fl_X0_21 (hc.lt 0 (by decide)) (hc.ty 0 rfl) rfl (hc.rf 3 rfl) ?_
      refine J_iload_n (pc := 14) 2 dX0_isLostGate_14 rfl rfl ?_
      refine JC_pt_i (J_callS (mi := mi_X0_isLostGate) (mj := mi_X11_at) (pc := 15) dX0_isLostGate_15 ml_X0_41 ok_X11_at os_X11_at ⟨Nat.le_of_ble_eq_true rfl, Nat.le_of_ble_eq_true rfl⟩ rfl (s_X11_at g d (c + 4) 4 i2 (⟨(hc.lt 4 (by decide)), (hc.ty 4 rfl), by decide⟩)) rfl (Nat.le_of_ble_eq_true rfl)) ?_
      refine J_iload_n (pc := 18) 1 dX0_isLostGate_18 rfl rfl ?_
      refine K_icmp_ne (K := Kb2) (pc := 19) (tgt := 24) dX0_isLostGate_19 (by decide) (fun z19 => ?_) (fun z19 => ?_)
      · refine J_iinc (pc := 24) (v := i2 + 1) (loc' := [(2, .int (i2 + 1)), (0, .ref c), (1, .int (pq0))]) 2 dX0_isLostGate_24 rfl rfl (by decide) rfl ?_
        refine J_goto (pc := 27) (tgt := 2) dX0_isLostGate_27 (by decide) ?_
        refine J_loc (loc' := [(0, .ref c), (1, .int (pq0)), (2, .int (i2 + 1))]) [1, 2, 0] rfl ?_
        exact hB2 z2 ()
      · refine J_iconst (pc := 22) (v := 1) dX0_isLostGate_22 (by decide) ?_
        exact J_eqo (hR2 true) (J_zretB (pc := 23) dX0_isLostGate_23 rfl)
  · show J mi_X0_isLostGate 0 0 0 0 (g, d) 30 [] [] (_)
    refine J_iconst (pc := 30) (v := 0) dX0_isLostGate_30 (by decide) ?_
    exact J_eqo (hk false) (J_zretB (pc := 31) dX0_isLostGate_31 rfl)
def f_X0_addLost (c : Nat) (d : JD) (pq0 : Int32) : JD := (j_let (f_X11_put (c + 4) 4 d ((d.1 c) 4) pq0) (fun q9 => j_sI q9 c 4 (((q9.1 c) 4) + 1)))
set_option maxRecDepth 100000 in
set_option maxHeartbeats 4000000 in
theorem s_X0_addLost (g : JG) (d : JD) (c : Nat) (pq0 : Int32) (hc : j_sh g c TS_CC RS_CC) : JM mi_X0_addLost 0 0 (g, d) [.ref c, .int pq0] (some (none, (g, (f_X0_addLost c d pq0)))) := by
  refine JM_of (by decide) rfl (Nat.le_of_ble_eq_true rfl) ?_
  refine J_loc (loc' := [(0, .ref c), (1, .int pq0)]) [0, 1] rfl ?_
  obtain ⟨k, hk⟩ : ∃ k : JD → Option (Option Value × JH), ∀ r9, k r9 = some (none, (g, r9)) := ⟨_, fun _ => rfl⟩
  refine J_eqo (hk (f_X0_addLost c d pq0)).symm ?_
  unfold f_X0_addLost
  refine J_aload_n (pc := 0) 0 dX0_addLost_0 rfl rfl ?_
  refine J_getR (pc := 1) dX0_addLost_1 fl_X0_21 (hc.lt 0 (by decide)) (hc.ty 0 rfl) rfl (hc.rf 3 rfl) ?_
  refine J_aload_n (pc := 4) 0 dX0_addLost_4 rfl rfl ?_
  refine J_getI (pc := 5) dX0_addLost_5 fl_X0_31 (hc.lt 0 (by decide)) (hc.ty 0 rfl) rfl ?_
  refine J_iload_n (pc := 8) 1 dX0_addLost_8 rfl rfl ?_
  refine JC_lt_v (K := k) (J_callS (mi := mi_X0_addLost) (mj := mi_X11_put) (pc := 9) dX0_addLost_9 ml_X0_37 ok_X11_put os_X11_put ⟨Nat.le_of_ble_eq_true rfl, Nat.le_of_ble_eq_true rfl⟩ rfl (s_X11_put g d (c + 4) 4 ((d.1 c) 4) pq0 (⟨(hc.lt 4 (by decide)), (hc.ty 4 rfl), by decide⟩)) rfl (Nat.le_of_ble_eq_true rfl)) (fun q9 eq9 => ?_)
  refine J_aload_n (pc := 12) 0 dX0_addLost_12 rfl rfl ?_
  refine J_dup (pc := 13) dX0_addLost_13 rfl ?_
  refine J_getI (pc := 14) dX0_addLost_14 fl_X0_31 (hc.lt 0 (by decide)) (hc.ty 0 rfl) rfl ?_
  refine J_iconst (pc := 17) (v := 1) dX0_addLost_17 (by decide) ?_
  refine J_iadd (pc := 18) dX0_addLost_18 ?_
  refine J_putI (pc := 19) dX0_addLost_19 fl_X0_31 ft_0_4 (hc.lt 0 (by decide)) (hc.ty 0 rfl) rfl rfl rfl ?_
  exact J_eqo (hk (j_sI q9 c 4 (((q9.1 c) 4) + 1))) (J_vret (pc := 22) dX0_addLost_22 rfl)
def f_X0_addHad (c : Nat) (d : JD) (pq0 : Int32) (pq1 : Int32) : JD := (j_let (f_X11_put (c + 5) 5 d pq0 pq1) (fun q6 => j_sI q6 c 6 (((q6.1 c) 6) + 1)))
set_option maxRecDepth 100000 in
set_option maxHeartbeats 4000000 in
theorem s_X0_addHad (g : JG) (d : JD) (c : Nat) (pq0 : Int32) (pq1 : Int32) (hc : j_sh g c TS_CC RS_CC) : JM mi_X0_addHad 0 0 (g, d) [.ref c, .int pq0, .int pq1] (some (none, (g, (f_X0_addHad c d pq0 pq1)))) := by
  refine JM_of (by decide) rfl (Nat.le_of_ble_eq_true rfl) ?_
  refine J_loc (loc' := [(0, .ref c), (1, .int pq0), (2, .int pq1)]) [0, 1, 2] rfl ?_
  obtain ⟨k, hk⟩ : ∃ k : JD → Option (Option Value × JH), ∀ r9, k r9 = some (none, (g, r9)) := ⟨_, fun _ => rfl⟩
  refine J_eqo (hk (f_X0_addHad c d pq0 pq1)).symm ?_
  unfold f_X0_addHad
  refine J_aload_n (pc := 0) 0 dX0_addHad_0 rfl rfl ?_
  refine J_getR (pc := 1) dX0_addHad_1 fl_X0_24 (hc.lt 0 (by decide)) (hc.ty 0 rfl) rfl (hc.rf 4 rfl) ?_
  refine J_iload_n (pc := 4) 1 dX0_addHad_4 rfl rfl ?_
  refine J_iload_n (pc := 5) 2 dX0_addHad_5 rfl rfl ?_
  refine JC_lt_v (K := k) (J_callS (mi := mi_X0_addHad) (mj := mi_X11_put) (pc := 6) dX0_addHad_6 ml_X0_37 ok_X11_put os_X11_put ⟨Nat.le_of_ble_eq_true rfl, Nat.le_of_ble_eq_true rfl⟩ rfl (s_X11_put g d (c + 5) 5 pq0 pq1 (⟨(hc.lt 5 (by decide)), (hc.ty 5 rfl), by decide⟩)) rfl (Nat.le_of_ble_eq_true rfl)) (fun q6 eq6 => ?_)
  refine J_aload_n (pc := 9) 0 dX0_addHad_9 rfl rfl ?_
  refine J_dup (pc := 10) dX0_addHad_10 rfl ?_
  refine J_getI (pc := 11) dX0_addHad_11 fl_X0_34 (hc.lt 0 (by decide)) (hc.ty 0 rfl) rfl ?_
  refine J_iconst (pc := 14) (v := 1) dX0_addHad_14 (by decide) ?_
  refine J_iadd (pc := 15) dX0_addHad_15 ?_
  refine J_putI (pc := 16) dX0_addHad_16 fl_X0_34 ft_0_6 (hc.lt 0 (by decide)) (hc.ty 0 rfl) rfl rfl rfl ?_
  exact J_eqo (hk (j_sI q6 c 6 (((q6.1 c) 6) + 1))) (J_vret (pc := 19) dX0_addHad_19 rfl)
def f_X10_hungAt (pq0 : Int32) (pq1 : Int32) : Int32 := ((pq0 >>> (((2 : Int32) * ((5 : Int32) - pq1)) &&& 31)) &&& 3)
set_option maxRecDepth 100000 in
set_option maxHeartbeats 4000000 in
theorem s_X10_hungAt (g : JG) (d : JD) (pq0 : Int32) (pq1 : Int32) : JM mi_X10_hungAt 0 0 (g, d) [.int pq0, .int pq1] (some (some (.int (f_X10_hungAt pq0 pq1)), (g, d))) := by
  refine JM_of (by decide) rfl (Nat.le_of_ble_eq_true rfl) ?_
  refine J_loc (loc' := [(0, .int pq0), (1, .int pq1)]) [0, 1] rfl ?_
  obtain ⟨k, hk⟩ : ∃ k : Int32 → Option (Option Value × JH), ∀ r9, k r9 = some (some (.int r9), (g, d)) := ⟨_, fun _ => rfl⟩
  refine J_eqo (hk (f_X10_hungAt pq0 pq1)).symm ?_
  unfold f_X10_hungAt
  refine J_iload_n (pc := 0) 0 dX10_hungAt_0 rfl rfl ?_
  refine J_iconst (pc := 1) (v := 2) dX10_hungAt_1 (by decide) ?_
  refine J_iconst (pc := 2) (v := 5) dX10_hungAt_2 (by decide) ?_
  refine J_iload_n (pc := 3) 1 dX10_hungAt_3 rfl rfl ?_
  refine J_isub (pc := 4) dX10_hungAt_4 ?_
  refine J_imul (pc := 5) dX10_hungAt_5 ?_
  refine J_ishr (pc := 6) dX10_hungAt_6 ?_
  refine J_iconst (pc := 7) (v := 3) dX10_hungAt_7 (by decide) ?_
  refine J_iand (pc := 8) dX10_hungAt_8 ?_
  exact J_eqo (hk ((pq0 >>> (((2 : Int32) * ((5 : Int32) - pq1)) &&& 31)) &&& 3)) (J_iret (pc := 9) dX10_hungAt_9 rfl)
def f_X3_ownersIn (r_a7 : Nat → Int32) (pq0 : Int32) (pq1 : Int32) : Int32 := (f_X11_at r_a7 24 (((4 : Int32) * pq1) + (f_X10_hungAt pq0 pq1)))
set_option maxRecDepth 100000 in
set_option maxHeartbeats 4000000 in
theorem s_X3_ownersIn (g : JG) (d : JD) (a : Nat) (pq0 : Int32) (pq1 : Int32) (ha : j_sh g a TS_CL RS_CL) : JM mi_X3_ownersIn 0 0 (g, d) [.ref a, .int pq0, .int pq1] (some (some (.int (f_X3_ownersIn (d.1 (a + 7)) pq0 pq1)), (g, d))) := by
  refine JM_of (by decide) rfl (Nat.le_of_ble_eq_true rfl) ?_
  refine J_loc (loc' := [(0, .ref a), (1, .int pq0), (2, .int pq1)]) [0, 1, 2] rfl ?_
  obtain ⟨k, hk⟩ : ∃ k : Int32 → Option (Option Value × JH), ∀ r9, k r9 = some (some (.int r9), (g, d)) := ⟨_, fun _ => rfl⟩
  refine J_eqo (hk (f_X3_ownersIn (d.1 (a + 7)) pq0 pq1)).symm ?_
  unfold f_X3_ownersIn
  refine J_aload_n (pc := 0) 0 dX3_ownersIn_0 rfl rfl ?_
  refine J_getR (pc := 1) dX3_ownersIn_1 fl_X3_30 (ha.lt 0 (by decide)) (ha.ty 0 rfl) rfl (ha.rf 6 rfl) ?_
  refine J_iconst (pc := 4) (v := 4) dX3_ownersIn_4 (by decide) ?_
  refine J_iload_n (pc := 5) 2 dX3_ownersIn_5 rfl rfl ?_
  refine J_imul (pc := 6) dX3_ownersIn_6 ?_
  refine J_iload_n (pc := 7) 1 dX3_ownersIn_7 rfl rfl ?_
  refine J_iload_n (pc := 8) 2 dX3_ownersIn_8 rfl rfl ?_
  refine JC_pt_i (J_callS (mi := mi_X3_ownersIn) (mj := mi_X10_hungAt) (pc := 9) dX3_ownersIn_9 ml_X3_98 ok_X10_hungAt os_X10_hungAt ⟨Nat.le_of_ble_eq_true rfl, Nat.le_of_ble_eq_true rfl⟩ rfl (s_X10_hungAt g d pq0 pq1) rfl (Nat.le_of_ble_eq_true rfl)) ?_
  refine J_iadd (pc := 12) dX3_ownersIn_12 ?_
  refine JC_pt_i (J_callS (mi := mi_X3_ownersIn) (mj := mi_X11_at) (pc := 13) dX3_ownersIn_13 ml_X3_89 ok_X11_at os_X11_at ⟨Nat.le_of_ble_eq_true rfl, Nat.le_of_ble_eq_true rfl⟩ rfl (s_X11_at g d (a + 7) 24 (((4 : Int32) * pq1) + (f_X10_hungAt pq0 pq1)) (⟨(ha.lt 7 (by decide)), (ha.ty 7 rfl), by decide⟩)) rfl (Nat.le_of_ble_eq_true rfl)) ?_
  exact J_eqo (hk (f_X11_at (d.1 (a + 7)) 24 (((4 : Int32) * pq1) + (f_X10_hungAt pq0 pq1)))) (J_iret (pc := 16) dX3_ownersIn_16 rfl)
def f_X11_hasBit (pq0 : Int32) (pq1 : Int32) : Bool := (if ((pq0 >>> (pq1 &&& 31)) &&& 1) = 1 then (true) else (false))
set_option maxRecDepth 100000 in
set_option maxHeartbeats 4000000 in
theorem s_X11_hasBit (g : JG) (d : JD) (pq0 : Int32) (pq1 : Int32) : JM mi_X11_hasBit 0 0 (g, d) [.int pq0, .int pq1] (some (some (.int (j_b (f_X11_hasBit pq0 pq1))), (g, d))) := by
  refine JM_of (by decide) rfl (Nat.le_of_ble_eq_true rfl) ?_
  refine J_loc (loc' := [(0, .int pq0), (1, .int pq1)]) [0, 1] rfl ?_
  obtain ⟨k, hk⟩ : ∃ k : Bool → Option (Option Value × JH), ∀ r9, k r9 = some (some (.int (j_b r9)), (g, d)) := ⟨_, fun _ => rfl⟩
  refine J_eqo (hk (f_X11_hasBit pq0 pq1)).symm ?_
  unfold f_X11_hasBit
  refine J_iload_n (pc := 0) 0 dX11_hasBit_0 rfl rfl ?_
  refine J_iload_n (pc := 1) 1 dX11_hasBit_1 rfl rfl ?_
  refine J_ishr (pc := 2) dX11_hasBit_2 ?_
  refine J_iconst (pc := 3) (v := 1) dX11_hasBit_3 (by decide) ?_
  refine J_iand (pc := 4) dX11_hasBit_4 ?_
  refine J_iconst (pc := 5) (v := 1) dX11_hasBit_5 (by decide) ?_
  refine K_icmp_ne (K := k) (pc := 6) (tgt := 13) dX11_hasBit_6 (by decide) (fun z6 => ?_) (fun z6 => ?_)
  · refine J_iconst (pc := 13) (v := 0) dX11_hasBit_13 (by decide) ?_
    exact J_eqo (hk false) (J_zretB (pc := 14) dX11_hasBit_14 rfl)
  · refine J_iconst (pc := 9) (v := 1) dX11_hasBit_9 (by decide) ?_
    refine J_goto (pc := 10) (tgt := 14) dX11_hasBit_10 (by decide) ?_
    exact J_eqo (hk true) (J_zretB (pc := 14) dX11_hasBit_14 rfl)
def f_X0_wantsMet_j83_5 (r_a7 : Nat → Int32) (r_c0 : Nat → Int32) (r_c1 : Nat → Int32) (r_c2 : Nat → Int32) (r_c3 : Nat → Int32) (c2_5 : Int32) (i5 : Int32) (x3_83_5 : Int32) : Int32 := (x3_83_5)
def f_X0_wantsMet_j76_5 (r_a7 : Nat → Int32) (r_c0 : Nat → Int32) (r_c1 : Nat → Int32) (r_c2 : Nat → Int32) (r_c3 : Nat → Int32) (c2_5 : Int32) (i5 : Int32) (x3_76_5 : Int32) : Int32 := (f_X0_wantsMet_j83_5 r_a7 r_c0 r_c1 r_c2 r_c3 (c2_5) i5 (x3_76_5 ||| ((1 : Int32) <<< (i5 &&& 31))))
def f_X0_wantsMet_b5 (r_a7 : Nat → Int32) (r_c0 : Nat → Int32) (r_c1 : Nat → Int32) (r_c2 : Nat → Int32) (r_c3 : Nat → Int32) (c2_5 : Int32) (i5 : Int32) (s5 : Int32) : Int32 := (j_let (f_X3_ownersIn r_a7 (c2_5) (f_X11_at r_c2 4 i5)) (fun v5_28_5 => if (f_X11_at r_c3 4 i5) = 1 then (if v5_28_5 = ((1 : Int32) <<< ((f_X11_at r_c1 4 i5) &&& 31)) then (f_X0_wantsMet_j76_5 r_a7 r_c0 r_c1 r_c2 r_c3 (c2_5) i5 s5) else f_X0_wantsMet_j83_5 r_a7 r_c0 r_c1 r_c2 r_c3 (c2_5) i5 s5) else (if (f_X11_hasBit v5_28_5 (f_X11_at r_c1 4 i5)) = true then f_X0_wantsMet_j76_5 r_a7 r_c0 r_c1 r_c2 r_c3 (c2_5) i5 s5 else f_X0_wantsMet_j83_5 r_a7 r_c0 r_c1 r_c2 r_c3 (c2_5) i5 s5)))
def f_X0_wantsMet (r_a7 : Nat → Int32) (r_c0 : Nat → Int32) (r_c1 : Nat → Int32) (r_c2 : Nat → Int32) (r_c3 : Nat → Int32) (pq1 : Int32) : Int32 := (j_let (j_for (r_c0 0) (f_X0_wantsMet_b5 r_a7 r_c0 r_c1 r_c2 r_c3 pq1 ) (j_mu (r_c0 0) 0) 0 0) (fun (s5 : Int32) => (s5)))
set_option maxRecDepth 100000 in
set_option maxHeartbeats 4000000 in
theorem s_X0_wantsMet (g : JG) (d : JD) (a : Nat) (c : Nat) (pq1 : Int32) (ha : j_sh g a TS_CL RS_CL) (hc : j_sh g c TS_CC RS_CC) : JM mi_X0_wantsMet 0 0 (g, d) [.ref c, .ref a, .int pq1] (some (some (.int (f_X0_wantsMet (d.1 (a + 7)) (d.1 c) (d.1 (c + 1)) (d.1 (c + 2)) (d.1 (c + 3)) pq1)), (g, d))) := by
  refine JM_of (by decide) rfl (Nat.le_of_ble_eq_true rfl) ?_
  refine J_loc (loc' := [(0, .ref c), (1, .ref a), (2, .int pq1)]) [0, 1, 2] rfl ?_
  obtain ⟨k, hk⟩ : ∃ k : Int32 → Option (Option Value × JH), ∀ r9, k r9 = some (some (.int r9), (g, d)) := ⟨_, fun _ => rfl⟩
  refine J_eqo (hk (f_X0_wantsMet (d.1 (a + 7)) (d.1 c) (d.1 (c + 1)) (d.1 (c + 2)) (d.1 (c + 3)) pq1)).symm ?_
  unfold f_X0_wantsMet
  refine J_iconst (pc := 0) (v := 0) dX0_wantsMet_0 (by decide) ?_
  refine J_istore_n (pc := 1) (loc' := [(3, .int 0), (0, .ref c), (1, .ref a), (2, .int pq1)]) dX0_wantsMet_1 rfl (by decide) rfl ?_
  refine J_iconst (pc := 2) (v := 0) dX0_wantsMet_2 (by decide) ?_
  refine J_istore (pc := 3) (loc' := [(4, .int 0), (3, .int 0), (0, .ref c), (1, .ref a), (2, .int pq1)]) dX0_wantsMet_3 (by decide) rfl ?_
  refine J_loc (loc' := [(0, .ref c), (1, .ref a), (2, .int pq1), (3, .int 0), (4, .int 0)]) [2, 3, 4, 1, 0] rfl ?_
  refine J_forL (K := k) (b := (d.1 c) 0) (G := f_X0_wantsMet_b5 (d.1 (a + 7)) (d.1 c) (d.1 (c + 1)) (d.1 (c + 2)) (d.1 (c + 3)) pq1 ) (hp := fun (s5 : Int32) => (g, d)) (lc := fun (i5 : Int32) (s5 : Int32) => [(0, .ref c), (1, .ref a), (2, .int (pq1)), (3, .int s5), (4, .int i5)]) (XJ := fun (i5 : Int32) (s5 : Int32) o9 => J mi_X0_wantsMet 0 0 0 0 (g, d) 89 [(3, .int s5)] [] o9) (fun i5 s5 o5 Kb5 hX5 hB5 => ?_) (fun i5 s5 => ?_) _ _ 0 (Nat.le_refl _)
  · show J mi_X0_wantsMet 0 0 0 0 (g, d) 5 [(0, .ref c), (1, .ref a), (2, .int (pq1)), (3, .int s5), (4, .int i5)] [] (if ((d.1 c) 0) ≤ i5 then o5 else Kb5 (f_X0_wantsMet_b5 (d.1 (a + 7)) (d.1 c) (d.1 (c + 1)) (d.1 (c + 2)) (d.1 (c + 3)) pq1 i5 s5))
    refine J_iload (pc := 5) 4 dX0_wantsMet_5 rfl ?_
    refine J_aload_n (pc := 7) 0 dX0_wantsMet_7 rfl rfl ?_
    refine J_getI (pc := 8) dX0_wantsMet_8 fl_X0_27 (hc.lt 0 (by decide)) (hc.ty 0 rfl) rfl ?_
    refine J_icmp_ge (pc := 11) (tgt := 89) dX0_wantsMet_11 (by decide) (fun z5 => ?_) (fun z5 => ?_)
    · refine J_loc (loc' := [(3, .int s5)]) [3] rfl ?_
      exact hX5 z5
    · unfold f_X0_wantsMet_b5
      have hX0_wantsMet_j83_5 : ∀ (x3_83_5 : Int32), J mi_X0_wantsMet 0 0 0 0 (g, d) 83 [(0, .ref c), (1, .ref a), (2, .int (pq1)), (3, .int x3_83_5), (4, .int i5)] [] (Kb5 (f_X0_wantsMet_j83_5 (d.1 (a + 7)) (d.1 c) (d.1 (c + 1)) (d.1 (c + 2)) (d.1 (c + 3)) pq1 i5 x3_83_5)) := by
        intro x3_83_5
        unfold f_X0_wantsMet_j83_5
        refine J_iinc (pc := 83) (v := i5 + 1) (loc' := [(4, .int (i5 + 1)), (0, .ref c), (1, .ref a), (2, .int (pq1)), (3, .int x3_83_5)]) 4 dX0_wantsMet_83 rfl rfl (by decide) rfl ?_
        refine J_goto (pc := 86) (tgt := 5) dX0_wantsMet_86 (by decide) ?_
        refine J_loc (loc' := [(0, .ref c), (1, .ref a), (2, .int (pq1)), (3, .int x3_83_5), (4, .int (i5 + 1))]) [1, 2, 3, 4, 0] rfl ?_
        exact hB5 z5 x3_83_5
      have hX0_wantsMet_j76_5 : ∀ (x3_76_5 : Int32), J mi_X0_wantsMet 0 0 0 0 (g, d) 76 [(0, .ref c), (1, .ref a), (2, .int (pq1)), (3, .int x3_76_5), (4, .int i5)] [] (Kb5 (f_X0_wantsMet_j76_5 (d.1 (a + 7)) (d.1 c) (d.1 (c + 1)) (d.1 (c + 2)) (d.1 (c + 3)) pq1 i5 x3_76_5)) := by
        intro x3_76_5
        unfold f_X0_wantsMet_j76_5
        refine J_iload_n (pc := 76) 3 dX0_wantsMet_76 rfl rfl ?_
        refine J_iconst (pc := 77) (v := 1) dX0_wantsMet_77 (by decide) ?_
        refine J_iload (pc := 78) 4 dX0_wantsMet_78 rfl ?_
        refine J_ishl (pc := 80) dX0_wantsMet_80 ?_
        refine J_ior (pc := 81) dX0_wantsMet_81 ?_
        refine J_istore_n (pc := 82) (loc' := [(3, .int (x3_76_5 ||| ((1 : Int32) <<< (i5 &&& 31)))), (0, .ref c), (1, .ref a), (2, .int (pq1)), (4, .int i5)]) dX0_wantsMet_82 rfl (by decide) rfl ?_
        refine J_loc (loc' := [(0, .ref c), (1, .ref a), (2, .int (pq1)), (3, .int (x3_76_5 ||| ((1 : Int32) <<< (i5 &&& 31)))), (4, .int i5)]) [1, 2, 3, 0, 4] rfl ?_
        exact hX0_wantsMet_j83_5 (x3_76_5 ||| ((1 : Int32) <<< (i5 &&& 31)))
      refine J_aload_n (pc := 14) 1 dX0_wantsMet_14 rfl rfl ?_
      refine J_iload_n (pc := 15) 2 dX0_wantsMet_15 rfl rfl ?_
      refine J_aload_n (pc := 16) 0 dX0_wantsMet_16 rfl rfl ?_
      refine J_getR (pc := 17) dX0_wantsMet_17 fl_X0_15 (hc.lt 0 (by decide)) (hc.ty 0 rfl) rfl (hc.rf 1 rfl) ?_
      refine J_iload (pc := 20) 4 dX0_wantsMet_20 rfl ?_
      refine JC_pt_i (J_callS (mi := mi_X0_wantsMet) (mj := mi_X11_at) (pc := 22) dX0_wantsMet_22 ml_X0_41 ok_X11_at os_X11_at ⟨Nat.le_of_ble_eq_true rfl, Nat.le_of_ble_eq_true rfl⟩ rfl (s_X11_at g d (c + 2) 4 i5 (⟨(hc.lt 2 (by decide)), (hc.ty 2 rfl), by decide⟩)) rfl (Nat.le_of_ble_eq_true rfl)) ?_
      refine JC_pt_i (J_callV (mi := mi_X0_wantsMet) (mj := mi_X3_ownersIn) (pc := 25) dX0_wantsMet_25 ml_X0_45 ok_X3_ownersIn ov_X3_ownersIn ⟨Nat.le_of_ble_eq_true rfl, Nat.le_of_ble_eq_true rfl⟩ rfl (ha.lt 0 (by decide)) (ha.ty 0 rfl) rfl (s_X3_ownersIn g d a pq1 (f_X11_at (d.1 (c + 2)) 4 i5) ha) rfl (Nat.le_of_ble_eq_true rfl)) ?_
      refine J_let (K := Kb5) (fun v5_28_5 ev5_28_5 => ?_)
      refine J_val ev5_28_5.symm ?_
      refine J_istore (pc := 28) (loc' := [(5, .int v5_28_5), (0, .ref c), (1, .ref a), (2, .int (pq1)), (3, .int s5), (4, .int i5)]) dX0_wantsMet_28 (by decide) rfl ?_
      refine J_aload_n (pc := 30) 1 dX0_wantsMet_30 rfl rfl ?_
      refine J_getR (pc := 31) dX0_wantsMet_31 fl_X0_9 (hc.lt 0 (by decide)) (hc.ty 0 rfl) rfl (hc.rf 0 rfl) ?_
      refine J_iload (pc := 34) 5 dX0_wantsMet_34 rfl ?_
      refine JC_pt_i (J_callS (mi := mi_X0_wantsMet) (mj := mi_X11_at) (pc := 36) dX0_wantsMet_36 ml_X0_41 ok_X11_at os_X11_at ⟨Nat.le_of_ble_eq_true rfl, Nat.le_of_ble_eq_true rfl⟩ rfl (s_X11_at g d (c + 1) 4 i5 (⟨(hc.lt 1 (by decide)), (hc.ty 1 rfl), by decide⟩)) rfl (Nat.le_of_ble_eq_true rfl)) ?_
      refine J_istore (pc := 39) (loc' := [(6, .int (f_X11_at (d.1 (c + 1)) 4 i5)), (5, .int v5_28_5), (0, .ref c), (1, .ref a), (2, .int (pq1)), (3, .int s5), (4, .int i5)]) dX0_wantsMet_39 (by decide) rfl ?_
      refine J_aload_n (pc := 41) 2 dX0_wantsMet_41 rfl rfl ?_
      refine J_getR (pc := 42) dX0_wantsMet_42 fl_X0_18 (hc.lt 0 (by decide)) (hc.ty 0 rfl) rfl (hc.rf 2 rfl) ?_
      refine J_iload (pc := 45) 6 dX0_wantsMet_45 rfl ?_
      refine JC_pt_i (J_callS (mi := mi_X0_wantsMet) (mj := mi_X11_at) (pc := 47) dX0_wantsMet_47 ml_X0_41 ok_X11_at os_X11_at ⟨Nat.le_of_ble_eq_true rfl, Nat.le_of_ble_eq_true rfl⟩ rfl (s_X11_at g d (c + 3) 4 i5 (⟨(hc.lt 3 (by decide)), (hc.ty 3 rfl), by decide⟩)) rfl (Nat.le_of_ble_eq_true rfl)) ?_
      refine J_iconst (pc := 50) (v := 1) dX0_wantsMet_50 (by decide) ?_
      refine K_icmp_ne (K := Kb5) (pc := 51) (tgt := 66) dX0_wantsMet_51 (by decide) (fun z51 => ?_) (fun z51 => ?_)
      · refine J_iload (pc := 66) 1 dX0_wantsMet_66 rfl ?_
        refine J_iload (pc := 68) 0 dX0_wantsMet_68 rfl ?_
        refine JC_pt_i (J_callS (mi := mi_X0_wantsMet) (mj := mi_X11_hasBit) (pc := 70) dX0_wantsMet_70 ml_X0_51 ok_X11_hasBit os_X11_hasBit ⟨Nat.le_of_ble_eq_true rfl, Nat.le_of_ble_eq_true rfl⟩ rfl (s_X11_hasBit g d v5_28_5 (f_X11_at (d.1 (c + 1)) 4 i5)) rfl (Nat.le_of_ble_eq_true rfl)) ?_
        refine K_ifeq_b (K := Kb5) (pc := 73) (tgt := 83) dX0_wantsMet_73 (by decide) (fun z73 => ?_) (fun z73 => ?_)
        · refine J_loc (loc' := [(0, .ref c), (1, .ref a), (2, .int (pq1)), (3, .int s5), (4, .int i5)]) [2, 3, 4, 5, 6] rfl ?_
          exact hX0_wantsMet_j83_5 s5
        · refine J_loc (loc' := [(0, .ref c), (1, .ref a), (2, .int (pq1)), (3, .int s5), (4, .int i5)]) [2, 3, 4, 5, 6] rfl ?_
          exact hX0_wantsMet_j76_5 s5
      · refine J_iload (pc := 54) 1 dX0_wantsMet_54 rfl ?_
        refine J_iconst (pc := 56) (v := 1) dX0_wantsMet_56 (by decide) ?_
        refine J_iload (pc := 57) 0 dX0_wantsMet_57 rfl ?_
        refine J_ishl (pc := 59) dX0_wantsMet_59 ?_
        refine K_icmp_ne (K := Kb5) (pc := 60) (tgt := 83) dX0_wantsMet_60 (by decide) (fun z60 => ?_) (fun z60 => ?_)
        · refine J_loc (loc' := [(0, .ref c), (1, .ref a), (2, .int (pq1)), (3, .int s5), (4, .int i5)]) [2, 3, 4, 5, 6] rfl ?_
          exact hX0_wantsMet_j83_5 s5
        · refine J_goto (pc := 63) (tgt := 76) dX0_wantsMet_63 (by decide) ?_
          refine J_loc (loc' := [(0, .ref c), (1, .ref a), (2, .int (pq1)), (3, .int s5), (4, .int i5)]) [2, 3, 4, 5, 6] rfl ?_
          exact hX0_wantsMet_j76_5 s5
  · show J mi_X0_wantsMet 0 0 0 0 (g, d) 89 [(3, .int s5)] [] (_)
    refine J_iload_n (pc := 89) 0 dX0_wantsMet_89 rfl rfl ?_
    exact J_eqo (hk s5) (J_iret (pc := 90) dX0_wantsMet_90 rfl)
def f_X3_shareIn (r_a7 : Nat → Int32) (r_a8 : Nat → Int32) (pq0 : Int32) (pq1 : Int32) (pq2 : Int32) : Int32 := (j_let (((4 : Int32) * pq1) + (f_X10_hungAt pq0 pq1)) (fun v4_9 => if (f_X11_hasBit (f_X11_at r_a7 24 v4_9) pq2) = true then (f_X11_at r_a8 24 v4_9) else (0)))
set_option maxRecDepth 100000 in
set_option maxHeartbeats 4000000 in
theorem s_X3_shareIn (g : JG) (d : JD) (a : Nat) (pq0 : Int32) (pq1 : Int32) (pq2 : Int32) (ha : j_sh g a TS_CL RS_CL) : JM mi_X3_shareIn 0 0 (g, d) [.ref a, .int pq0, .int pq1, .int pq2] (some (some (.int (f_X3_shareIn (d.1 (a + 7)) (d.1 (a + 8)) pq0 pq1 pq2)), (g, d))) := by
  refine JM_of (by decide) rfl (Nat.le_of_ble_eq_true rfl) ?_
  refine J_loc (loc' := [(0, .ref a), (1, .int pq0), (2, .int pq1), (3, .int pq2)]) [0, 1, 2, 3] rfl ?_
  obtain ⟨k, hk⟩ : ∃ k : Int32 → Option (Option Value × JH), ∀ r9, k r9 = some (some (.int r9), (g, d)) := ⟨_, fun _ => rfl⟩
  refine J_eqo (hk (f_X3_shareIn (d.1 (a + 7)) (d.1 (a + 8)) pq0 pq1 pq2)).symm ?_
  unfold f_X3_shareIn
  refine J_iconst (pc := 0) (v := 4) dX3_shareIn_0 (by decide) ?_
  refine J_iload_n (pc := 1) 2 dX3_shareIn_1 rfl rfl ?_
  refine J_imul (pc := 2) dX3_shareIn_2 ?_
  refine J_iload_n (pc := 3) 1 dX3_shareIn_3 rfl rfl ?_
  refine J_iload_n (pc := 4) 2 dX3_shareIn_4 rfl rfl ?_
  refine JC_pt_i (J_callS (mi := mi_X3_shareIn) (mj := mi_X10_hungAt) (pc := 5) dX3_shareIn_5 ml_X3_98 ok_X10_hungAt os_X10_hungAt ⟨Nat.le_of_ble_eq_true rfl, Nat.le_of_ble_eq_true rfl⟩ rfl (s_X10_hungAt g d pq0 pq1) rfl (Nat.le_of_ble_eq_true rfl)) ?_
  refine J_iadd (pc := 8) dX3_shareIn_8 ?_
  refine J_let (K := k) (fun v4_9 ev4_9 => ?_)
  refine J_val ev4_9.symm ?_
  refine J_istore (pc := 9) (loc' := [(4, .int v4_9), (0, .ref a), (1, .int pq0), (2, .int pq1), (3, .int pq2)]) dX3_shareIn_9 (by decide) rfl ?_
  refine J_aload_n (pc := 11) 1 dX3_shareIn_11 rfl rfl ?_
  refine J_getR (pc := 12) dX3_shareIn_12 fl_X3_30 (ha.lt 0 (by decide)) (ha.ty 0 rfl) rfl (ha.rf 6 rfl) ?_
  refine J_iload (pc := 15) 0 dX3_shareIn_15 rfl ?_
  refine JC_pt_i (J_callS (mi := mi_X3_shareIn) (mj := mi_X11_at) (pc := 17) dX3_shareIn_17 ml_X3_89 ok_X11_at os_X11_at ⟨Nat.le_of_ble_eq_true rfl, Nat.le_of_ble_eq_true rfl⟩ rfl (s_X11_at g d (a + 7) 24 v4_9 (⟨(ha.lt 7 (by decide)), (ha.ty 7 rfl), by decide⟩)) rfl (Nat.le_of_ble_eq_true rfl)) ?_
  refine J_iload_n (pc := 20) 4 dX3_shareIn_20 rfl rfl ?_
  refine JC_pt_i (J_callS (mi := mi_X3_shareIn) (mj := mi_X11_hasBit) (pc := 21) dX3_shareIn_21 ml_X3_102 ok_X11_hasBit os_X11_hasBit ⟨Nat.le_of_ble_eq_true rfl, Nat.le_of_ble_eq_true rfl⟩ rfl (s_X11_hasBit g d (f_X11_at (d.1 (a + 7)) 24 v4_9) pq2) rfl (Nat.le_of_ble_eq_true rfl)) ?_
  refine K_ifeq_b (K := k) (pc := 24) (tgt := 39) dX3_shareIn_24 (by decide) (fun z24 => ?_) (fun z24 => ?_)
  · refine J_iconst (pc := 39) (v := 0) dX3_shareIn_39 (by decide) ?_
    exact J_eqo (hk 0) (J_iret (pc := 40) dX3_shareIn_40 rfl)
  · refine J_aload_n (pc := 27) 1 dX3_shareIn_27 rfl rfl ?_
    refine J_getR (pc := 28) dX3_shareIn_28 fl_X3_33 (ha.lt 0 (by decide)) (ha.ty 0 rfl) rfl (ha.rf 7 rfl) ?_
    refine J_iload (pc := 31) 0 dX3_shareIn_31 rfl ?_
    refine JC_pt_i (J_callS (mi := mi_X3_shareIn) (mj := mi_X11_at) (pc := 33) dX3_shareIn_33 ml_X3_89 ok_X11_at os_X11_at ⟨Nat.le_of_ble_eq_true rfl, Nat.le_of_ble_eq_true rfl⟩ rfl (s_X11_at g d (a + 8) 24 v4_9 (⟨(ha.lt 8 (by decide)), (ha.ty 8 rfl), by decide⟩)) rfl (Nat.le_of_ble_eq_true rfl)) ?_
    refine J_goto (pc := 36) (tgt := 40) dX3_shareIn_36 (by decide) ?_
    exact J_eqo (hk (f_X11_at (d.1 (a + 8)) 24 v4_9)) (J_iret (pc := 40) dX3_shareIn_40 rfl)
def f_X3_wealth_b5 (r_a0 : Nat → Int32) (r_a7 : Nat → Int32) (r_a8 : Nat → Int32) (c1_5 : Int32) (c2_5 : Int32) (i5 : Int32) (s5 : Int32) : Int32 := (s5 + (f_X3_shareIn r_a7 r_a8 (c2_5) i5 (c1_5)))
def f_X3_wealth (r_a0 : Nat → Int32) (r_a7 : Nat → Int32) (r_a8 : Nat → Int32) (pq0 : Int32) (pq1 : Int32) : Int32 := (j_let (j_for (r_a0 4) (f_X3_wealth_b5 r_a0 r_a7 r_a8 pq0 pq1 ) (j_mu (r_a0 4) 0) 0 0) (fun (s5 : Int32) => (s5)))
set_option maxRecDepth 100000 in
set_option maxHeartbeats 4000000 in
theorem s_X3_wealth (g : JG) (d : JD) (a : Nat) (pq0 : Int32) (pq1 : Int32) (ha : j_sh g a TS_CL RS_CL) : JM mi_X3_wealth 0 0 (g, d) [.ref a, .int pq0, .int pq1] (some (some (.int (f_X3_wealth (d.1 a) (d.1 (a + 7)) (d.1 (a + 8)) pq0 pq1)), (g, d))) := by
  refine JM_of (by decide) rfl (Nat.le_of_ble_eq_true rfl) ?_
  refine J_loc (loc' := [(0, .ref a), (1, .int pq0), (2, .int pq1)]) [0, 1, 2] rfl ?_
  obtain ⟨k, hk⟩ : ∃ k : Int32 → Option (Option Value × JH), ∀ r9, k r9 = some (some (.int r9), (g, d)) := ⟨_, fun _ => rfl⟩
  refine J_eqo (hk (f_X3_wealth (d.1 a) (d.1 (a + 7)) (d.1 (a + 8)) pq0 pq1)).symm ?_
  unfold f_X3_wealth
  refine J_iconst (pc := 0) (v := 0) dX3_wealth_0 (by decide) ?_
  refine J_istore_n (pc := 1) (loc' := [(3, .int 0), (0, .ref a), (1, .int pq0), (2, .int pq1)]) dX3_wealth_1 rfl (by decide) rfl ?_
  refine J_iconst (pc := 2) (v := 0) dX3_wealth_2 (by decide) ?_
  refine J_istore (pc := 3) (loc' := [(4, .int 0), (3, .int 0), (0, .ref a), (1, .int pq0), (2, .int pq1)]) dX3_wealth_3 (by decide) rfl ?_
  refine J_loc (loc' := [(0, .ref a), (1, .int pq0), (2, .int pq1), (3, .int 0), (4, .int 0)]) [2, 3, 4, 1, 0] rfl ?_
  refine J_forL (K := k) (b := (d.1 a) 4) (G := f_X3_wealth_b5 (d.1 a) (d.1 (a + 7)) (d.1 (a + 8)) pq0 pq1 ) (hp := fun (s5 : Int32) => (g, d)) (lc := fun (i5 : Int32) (s5 : Int32) => [(0, .ref a), (1, .int (pq0)), (2, .int (pq1)), (3, .int s5), (4, .int i5)]) (XJ := fun (i5 : Int32) (s5 : Int32) o9 => J mi_X3_wealth 0 0 0 0 (g, d) 31 [(3, .int s5)] [] o9) (fun i5 s5 o5 Kb5 hX5 hB5 => ?_) (fun i5 s5 => ?_) _ _ 0 (Nat.le_refl _)
  · show J mi_X3_wealth 0 0 0 0 (g, d) 5 [(0, .ref a), (1, .int (pq0)), (2, .int (pq1)), (3, .int s5), (4, .int i5)] [] (if ((d.1 a) 4) ≤ i5 then o5 else Kb5 (f_X3_wealth_b5 (d.1 a) (d.1 (a + 7)) (d.1 (a + 8)) pq0 pq1 i5 s5))
    refine J_iload (pc := 5) 4 dX3_wealth_5 rfl ?_
    refine J_aload_n (pc := 7) 0 dX3_wealth_7 rfl rfl ?_
    refine J_getI (pc := 8) dX3_wealth_8 fl_X3_56 (ha.lt 0 (by decide)) (ha.ty 0 rfl) rfl ?_
    refine J_icmp_ge (pc := 11) (tgt := 31) dX3_wealth_11 (by decide) (fun z5 => ?_) (fun z5 => ?_)
    · refine J_loc (loc' := [(3, .int s5)]) [3] rfl ?_
      exact hX5 z5
    · unfold f_X3_wealth_b5
      refine J_iload_n (pc := 14) 3 dX3_wealth_14 rfl rfl ?_
      refine J_aload_n (pc := 15) 0 dX3_wealth_15 rfl rfl ?_
      refine J_iload_n (pc := 16) 2 dX3_wealth_16 rfl rfl ?_
      refine J_iload (pc := 17) 4 dX3_wealth_17 rfl ?_
      refine J_iload_n (pc := 19) 1 dX3_wealth_19 rfl rfl ?_
      refine JC_pt_i (J_callV (mi := mi_X3_wealth) (mj := mi_X3_shareIn) (pc := 20) dX3_wealth_20 ml_X3_106 ok_X3_shareIn ov_X3_shareIn ⟨Nat.le_of_ble_eq_true rfl, Nat.le_of_ble_eq_true rfl⟩ rfl (ha.lt 0 (by decide)) (ha.ty 0 rfl) rfl (s_X3_shareIn g d a pq1 i5 pq0 ha) rfl (Nat.le_of_ble_eq_true rfl)) ?_
      refine J_iadd (pc := 23) dX3_wealth_23 ?_
      refine J_istore_n (pc := 24) (loc' := [(3, .int (s5 + (f_X3_shareIn (d.1 (a + 7)) (d.1 (a + 8)) (pq1) i5 (pq0)))), (0, .ref a), (1, .int (pq0)), (2, .int (pq1)), (4, .int i5)]) dX3_wealth_24 rfl (by decide) rfl ?_
      refine J_iinc (pc := 25) (v := i5 + 1) (loc' := [(4, .int (i5 + 1)), (3, .int (s5 + (f_X3_shareIn (d.1 (a + 7)) (d.1 (a + 8)) (pq1) i5 (pq0)))), (0, .ref a), (1, .int (pq0)), (2, .int (pq1))]) 4 dX3_wealth_25 rfl rfl (by decide) rfl ?_
      refine J_goto (pc := 28) (tgt := 5) dX3_wealth_28 (by decide) ?_
      refine J_loc (loc' := [(0, .ref a), (1, .int (pq0)), (2, .int (pq1)), (3, .int (s5 + (f_X3_shareIn (d.1 (a + 7)) (d.1 (a + 8)) (pq1) i5 (pq0)))), (4, .int (i5 + 1))]) [2, 3, 4, 1, 0] rfl ?_
      exact hB5 z5 (s5 + (f_X3_shareIn (d.1 (a + 7)) (d.1 (a + 8)) (pq1) i5 (pq0)))
  · show J mi_X3_wealth 0 0 0 0 (g, d) 31 [(3, .int s5)] [] (_)
    refine J_iload_n (pc := 31) 0 dX3_wealth_31 rfl rfl ?_
    exact J_eqo (hk s5) (J_iret (pc := 32) dX3_wealth_32 rfl)
def f_X0_firstBelied_j39_2 (r_a0 : Nat → Int32) (r_a7 : Nat → Int32) (r_a8 : Nat → Int32) (r_c5 : Nat → Int32) (c2_2 : Int32) (i2 : Int32) : Int32 ⊕ (Unit) := (.inr ())
def f_X0_firstBelied_b2 (r_a0 : Nat → Int32) (r_a7 : Nat → Int32) (r_a8 : Nat → Int32) (r_c5 : Nat → Int32) (c2_2 : Int32) (i2 : Int32) (s2 : Unit) : Int32 ⊕ (Unit) := (if (f_X11_at r_c5 5 i2) = (-1) then f_X0_firstBelied_j39_2 r_a0 r_a7 r_a8 r_c5 (c2_2) i2 else (if (f_X11_at r_c5 5 i2) = (f_X3_wealth r_a0 r_a7 r_a8 i2 (c2_2)) then f_X0_firstBelied_j39_2 r_a0 r_a7 r_a8 r_c5 (c2_2) i2 else (Sum.inl i2)))
def f_X0_firstBelied (r_a0 : Nat → Int32) (r_a7 : Nat → Int32) (r_a8 : Nat → Int32) (r_c5 : Nat → Int32) (pq1 : Int32) : Int32 := (j_let (j_fo (r_a0 2) (f_X0_firstBelied_b2 r_a0 r_a7 r_a8 r_c5 pq1 ) (j_mu (r_a0 2) 0) 0 ()) (Sum.elim (fun r9 => r9) (fun (s2 : Unit) => (-2))))
set_option maxRecDepth 100000 in
set_option maxHeartbeats 4000000 in
theorem s_X0_firstBelied (g : JG) (d : JD) (a : Nat) (c : Nat) (pq1 : Int32) (ha : j_sh g a TS_CL RS_CL) (hc : j_sh g c TS_CC RS_CC) : JM mi_X0_firstBelied 0 0 (g, d) [.ref c, .ref a, .int pq1] (some (some (.int (f_X0_firstBelied (d.1 a) (d.1 (a + 7)) (d.1 (a + 8)) (d.1 (c + 5)) pq1)), (g, d))) := by
  refine JM_of (by decide) rfl (Nat.le_of_ble_eq_true rfl) ?_
  refine J_loc (loc' := [(0, .ref c), (1, .ref a), (2, .int pq1)]) [0, 1, 2] rfl ?_
  obtain ⟨k, hk⟩ : ∃ k : Int32 → Option (Option Value × JH), ∀ r9, k r9 = some (some (.int r9), (g, d)) := ⟨_, fun _ => rfl⟩
  refine J_eqo (hk (f_X0_firstBelied (d.1 a) (d.1 (a + 7)) (d.1 (a + 8)) (d.1 (c + 5)) pq1)).symm ?_
  unfold f_X0_firstBelied
  refine J_iconst (pc := 0) (v := 0) dX0_firstBelied_0 (by decide) ?_
  refine J_istore_n (pc := 1) (loc' := [(3, .int 0), (0, .ref c), (1, .ref a), (2, .int pq1)]) dX0_firstBelied_1 rfl (by decide) rfl ?_
  refine J_loc (loc' := [(0, .ref c), (1, .ref a), (2, .int pq1), (3, .int 0)]) [1, 2, 3, 0] rfl ?_
  refine J_foL (K := k) (fr := fun r9 => r9) (b := (d.1 a) 2) (G := f_X0_firstBelied_b2 (d.1 a) (d.1 (a + 7)) (d.1 (a + 8)) (d.1 (c + 5)) pq1 ) (hp := fun (s2 : Unit) => (g, d)) (lc := fun (i2 : Int32) (s2 : Unit) => [(0, .ref c), (1, .ref a), (2, .int (pq1)), (3, .int i2)]) (XJ := fun (i2 : Int32) (s2 : Unit) o9 => J mi_X0_firstBelied 0 0 0 0 (g, d) 45 [] [] o9) (RJ := fun r9 o9 => o9 = some (some (.int r9), (g, d))) (fun i2 s2 o2 Kb2 hX2 hR2 hB2 => ?_) (fun i2 s2 => ?_) (fun r9 => hk r9) _ _ () (Nat.le_refl _)
  · show J mi_X0_firstBelied 0 0 0 0 (g, d) 2 [(0, .ref c), (1, .ref a), (2, .int (pq1)), (3, .int i2)] [] (if ((d.1 a) 2) ≤ i2 then o2 else Kb2 (f_X0_firstBelied_b2 (d.1 a) (d.1 (a + 7)) (d.1 (a + 8)) (d.1 (c + 5)) pq1 i2 s2))
    refine J_iload_n (pc := 2) 3 dX0_firstBelied_2 rfl rfl ?_
    refine J_aload_n (pc := 3) 1 dX0_firstBelied_3 rfl rfl ?_
    refine J_getI (pc := 4) dX0_firstBelied_4 fl_X0_55 (ha.lt 0 (by decide)) (ha.ty 0 rfl) rfl ?_
    refine J_icmp_ge (pc := 7) (tgt := 45) dX0_firstBelied_7 (by decide) (fun z2 => ?_) (fun z2 => ?_)
    · refine J_loc (loc' := []) [] rfl ?_
      exact hX2 z2
    · unfold f_X0_firstBelied_b2
      have hX0_firstBelied_j39_2 : J mi_X0_firstBelied 0 0 0 0 (g, d) 39 [(0, .ref c), (1, .ref a), (2, .int (pq1)), (3, .int i2)] [] (Kb2 (f_X0_firstBelied_j39_2 (d.1 a) (d.1 (a + 7)) (d.1 (a + 8)) (d.1 (c + 5)) pq1 i2 )) := by
        unfold f_X0_firstBelied_j39_2
        refine J_iinc (pc := 39) (v := i2 + 1) (loc' := [(3, .int (i2 + 1)), (0, .ref c), (1, .ref a), (2, .int (pq1))]) 3 dX0_firstBelied_39 rfl rfl (by decide) rfl ?_
        refine J_goto (pc := 42) (tgt := 2) dX0_firstBelied_42 (by decide) ?_
        refine J_loc (loc' := [(0, .ref c), (1, .ref a), (2, .int (pq1)), (3, .int (i2 + 1))]) [1, 2, 3, 0] rfl ?_
        exact hB2 z2 ()
      refine J_aload_n (pc := 10) 0 dX0_firstBelied_10 rfl rfl ?_
      refine J_getR (pc := 11) dX0_firstBelied_11 fl_X0_24 (hc.lt 0 (by decide)) (hc.ty 0 rfl) rfl (hc.rf 4 rfl) ?_
      refine J_iload_n (pc := 14) 3 dX0_firstBelied_14 rfl rfl ?_
      refine JC_pt_i (J_callS (mi := mi_X0_firstBelied) (mj := mi_X11_at) (pc := 15) dX0_firstBelied_15 ml_X0_41 ok_X11_at os_X11_at ⟨Nat.le_of_ble_eq_true rfl, Nat.le_of_ble_eq_true rfl⟩ rfl (s_X11_at g d (c + 5) 5 i2 (⟨(hc.lt 5 (by decide)), (hc.ty 5 rfl), by decide⟩)) rfl (Nat.le_of_ble_eq_true rfl)) ?_
      refine J_istore (pc := 18) (loc' := [(4, .int (f_X11_at (d.1 (c + 5)) 5 i2)), (0, .ref c), (1, .ref a), (2, .int (pq1)), (3, .int i2)]) dX0_firstBelied_18 (by decide) rfl ?_
      refine J_iload (pc := 20) 0 dX0_firstBelied_20 rfl ?_
      refine J_iconst (pc := 22) (v := (-1)) dX0_firstBelied_22 (by decide) ?_
      refine K_icmp_eq (K := Kb2) (pc := 23) (tgt := 39) dX0_firstBelied_23 (by decide) (fun z23 => ?_) (fun z23 => ?_)
      · refine J_loc (loc' := [(0, .ref c), (1, .ref a), (2, .int (pq1)), (3, .int i2)]) [1, 2, 3, 4] rfl ?_
        exact hX0_firstBelied_j39_2 
      · refine J_iload (pc := 26) 0 dX0_firstBelied_26 rfl ?_
        refine J_aload_n (pc := 28) 2 dX0_firstBelied_28 rfl rfl ?_
        refine J_iload_n (pc := 29) 4 dX0_firstBelied_29 rfl rfl ?_
        refine J_iload_n (pc := 30) 3 dX0_firstBelied_30 rfl rfl ?_
        refine JC_pt_i (J_callV (mi := mi_X0_firstBelied) (mj := mi_X3_wealth) (pc := 31) dX0_firstBelied_31 ml_X0_58 ok_X3_wealth ov_X3_wealth ⟨Nat.le_of_ble_eq_true rfl, Nat.le_of_ble_eq_true rfl⟩ rfl (ha.lt 0 (by decide)) (ha.ty 0 rfl) rfl (s_X3_wealth g d a i2 pq1 ha) rfl (Nat.le_of_ble_eq_true rfl)) ?_
        refine K_icmp_eq (K := Kb2) (pc := 34) (tgt := 39) dX0_firstBelied_34 (by decide) (fun z34 => ?_) (fun z34 => ?_)
        · refine J_loc (loc' := [(0, .ref c), (1, .ref a), (2, .int (pq1)), (3, .int i2)]) [1, 2, 3, 4] rfl ?_
          exact hX0_firstBelied_j39_2 
        · refine J_iload_n (pc := 37) 4 dX0_firstBelied_37 rfl rfl ?_
          exact J_eqo (hR2 i2) (J_iret (pc := 38) dX0_firstBelied_38 rfl)
  · show J mi_X0_firstBelied 0 0 0 0 (g, d) 45 [] [] (_)
    refine J_bipush (pc := 45) (v := (-2)) dX0_firstBelied_45 (by decide) ?_
    exact J_eqo (hk (-2)) (J_iret (pc := 47) dX0_firstBelied_47 rfl)
def f_X1_forget (d : JD) : JD := (j_sI d 32 5 (-1))
set_option maxRecDepth 100000 in
set_option maxHeartbeats 4000000 in
theorem s_X1_forget (g : JG) (d : JD) (h0 : j_sh g 0 TS_W RS_W) : JM mi_X1_forget 0 0 (g, d) [.ref 32] (some (none, (g, (f_X1_forget d )))) := by
  refine JM_of (by decide) rfl (Nat.le_of_ble_eq_true rfl) ?_
  refine J_loc (loc' := [(0, .ref 32)]) [0] rfl ?_
  obtain ⟨k, hk⟩ : ∃ k : JD → Option (Option Value × JH), ∀ r9, k r9 = some (none, (g, r9)) := ⟨_, fun _ => rfl⟩
  refine J_eqo (hk (f_X1_forget d )).symm ?_
  unfold f_X1_forget
  refine J_aload_n (pc := 0) 0 dX1_forget_0 rfl rfl ?_
  refine J_iconst (pc := 1) (v := (-1)) dX1_forget_1 (by decide) ?_
  refine J_putI (pc := 2) dX1_forget_2 fl_X1_29 ft_1_5 (h0.lt 32 (by decide)) (h0.ty 32 rfl) rfl rfl rfl ?_
  exact J_eqo (hk (j_sI d 32 5 (-1))) (J_vret (pc := 5) dX1_forget_5 rfl)
def f_X1_movesTo (r_36 : Nat → Int32) (pq0 : Int32) : Int32 := (f_X11_at r_36 729 pq0)
set_option maxRecDepth 100000 in
set_option maxHeartbeats 4000000 in
theorem s_X1_movesTo (g : JG) (d : JD) (pq0 : Int32) (h0 : j_sh g 0 TS_W RS_W) : JM mi_X1_movesTo 0 0 (g, d) [.ref 32, .int pq0] (some (some (.int (f_X1_movesTo (d.1 36) pq0)), (g, d))) := by
  refine JM_of (by decide) rfl (Nat.le_of_ble_eq_true rfl) ?_
  refine J_loc (loc' := [(0, .ref 32), (1, .int pq0)]) [0, 1] rfl ?_
  obtain ⟨k, hk⟩ : ∃ k : Int32 → Option (Option Value × JH), ∀ r9, k r9 = some (some (.int r9), (g, d)) := ⟨_, fun _ => rfl⟩
  refine J_eqo (hk (f_X1_movesTo (d.1 36) pq0)).symm ?_
  unfold f_X1_movesTo
  refine J_aload_n (pc := 0) 0 dX1_movesTo_0 rfl rfl ?_
  refine J_getR (pc := 1) dX1_movesTo_1 fl_X1_21 (h0.lt 32 (by decide)) (h0.ty 32 rfl) rfl (h0.rf 38 rfl) ?_
  refine J_iload_n (pc := 4) 1 dX1_movesTo_4 rfl rfl ?_
  refine JC_pt_i (J_callS (mi := mi_X1_movesTo) (mj := mi_X11_at) (pc := 5) dX1_movesTo_5 ml_X1_49 ok_X11_at os_X11_at ⟨Nat.le_of_ble_eq_true rfl, Nat.le_of_ble_eq_true rfl⟩ rfl (s_X11_at g d 36 729 pq0 (⟨(h0.lt 36 (by decide)), (h0.ty 36 rfl), by decide⟩)) rfl (Nat.le_of_ble_eq_true rfl)) ?_
  exact J_eqo (hk (f_X11_at (d.1 36) 729 pq0)) (J_iret (pc := 8) dX1_movesTo_8 rfl)
def f_X1_add_j104 (d104 : JD) (y0_104 : Int32) (y1_104 : Int32) : JD := (j_let (f_X11_put 36 729 d104 y1_104 y0_104) (fun q104 => j_sI q104 32 6 (((q104.1 32) 6) + 1)))
def f_X1_add (d : JD) (pq0 : Int32) (pq1 : Int32) (pq2 : Int32) : JD := (j_let (f_X11_at (d.1 37) 128 (pq0 >>> (5 &&& 31))) (fun v4_10 => if (f_X11_hasBit v4_10 (pq0 &&& 31)) = true then (d) else (j_let (f_X11_put 37 128 d (pq0 >>> (5 &&& 31)) (v4_10 ||| ((1 : Int32) <<< ((pq0 &&& 31) &&& 31)))) (fun q41 => j_let (f_X11_put 33 729 q41 ((q41.1 32) 6) pq0) (fun q53 => j_let (f_X11_put 34 729 q53 ((q53.1 32) 6) pq1) (fun q65 => j_let (f_X11_put 35 729 q65 ((q65.1 32) 6) pq2) (fun q77 => if pq1 = (-1) then (f_X1_add_j104 q77 0 ((q77.1 32) 6)) else (f_X1_add_j104 q77 ((f_X1_movesTo (q77.1 36) pq1) + 1) ((q77.1 32) 6)))))))))
set_option maxRecDepth 100000 in
set_option maxHeartbeats 4000000 in
theorem s_X1_add (g : JG) (d : JD) (pq0 : Int32) (pq1 : Int32) (pq2 : Int32) (h0 : j_sh g 0 TS_W RS_W) : JM mi_X1_add 0 0 (g, d) [.ref 32, .int pq0, .int pq1, .int pq2] (some (none, (g, (f_X1_add d pq0 pq1 pq2)))) := by
  refine JM_of (by decide) rfl (Nat.le_of_ble_eq_true rfl) ?_
  refine J_loc (loc' := [(0, .ref 32), (1, .int pq0), (2, .int pq1), (3, .int pq2)]) [0, 1, 2, 3] rfl ?_
  obtain ⟨k, hk⟩ : ∃ k : JD → Option (Option Value × JH), ∀ r9, k r9 = some (none, (g, r9)) := ⟨_, fun _ => rfl⟩
  refine J_eqo (hk (f_X1_add d pq0 pq1 pq2)).symm ?_
  unfold f_X1_add
  have hX1_add_j104 : ∀ (d104 : JD) (y0_104 : Int32) (y1_104 : Int32), J mi_X1_add 0 0 0 0 (g, d104) 104 [(0, .ref 32)] [.int y0_104, .int y1_104, .ref 36] (k (f_X1_add_j104 d104 y0_104 y1_104)) := by
    intro d104 y0_104 y1_104
    unfold f_X1_add_j104
    refine JC_lt_v (K := k) (J_callS (mi := mi_X1_add) (mj := mi_X11_put) (pc := 104) dX1_add_104 ml_X1_61 ok_X11_put os_X11_put ⟨Nat.le_of_ble_eq_true rfl, Nat.le_of_ble_eq_true rfl⟩ rfl (s_X11_put g d104 36 729 y1_104 y0_104 (⟨(h0.lt 36 (by decide)), (h0.ty 36 rfl), by decide⟩)) rfl (Nat.le_of_ble_eq_true rfl)) (fun q104 eq104 => ?_)
    refine J_aload_n (pc := 107) 0 dX1_add_107 rfl rfl ?_
    refine J_dup (pc := 108) dX1_add_108 rfl ?_
    refine J_getI (pc := 109) dX1_add_109 fl_X1_33 (h0.lt 32 (by decide)) (h0.ty 32 rfl) rfl ?_
    refine J_iconst (pc := 112) (v := 1) dX1_add_112 (by decide) ?_
    refine J_iadd (pc := 113) dX1_add_113 ?_
    refine J_putI (pc := 114) dX1_add_114 fl_X1_33 ft_1_6 (h0.lt 32 (by decide)) (h0.ty 32 rfl) rfl rfl rfl ?_
    exact J_eqo (hk (j_sI q104 32 6 (((q104.1 32) 6) + 1))) (J_vret (pc := 117) dX1_add_117 rfl)
  refine J_aload_n (pc := 0) 0 dX1_add_0 rfl rfl ?_
  refine J_getR (pc := 1) dX1_add_1 fl_X1_26 (h0.lt 32 (by decide)) (h0.ty 32 rfl) rfl (h0.rf 39 rfl) ?_
  refine J_iload_n (pc := 4) 1 dX1_add_4 rfl rfl ?_
  refine J_iconst (pc := 5) (v := 5) dX1_add_5 (by decide) ?_
  refine J_ishr (pc := 6) dX1_add_6 ?_
  refine JC_pt_i (J_callS (mi := mi_X1_add) (mj := mi_X11_at) (pc := 7) dX1_add_7 ml_X1_49 ok_X11_at os_X11_at ⟨Nat.le_of_ble_eq_true rfl, Nat.le_of_ble_eq_true rfl⟩ rfl (s_X11_at g d 37 128 (pq0 >>> (5 &&& 31)) (⟨(h0.lt 37 (by decide)), (h0.ty 37 rfl), by decide⟩)) rfl (Nat.le_of_ble_eq_true rfl)) ?_
  refine J_let (K := k) (fun v4_10 ev4_10 => ?_)
  refine J_val ev4_10.symm ?_
  refine J_istore (pc := 10) (loc' := [(4, .int v4_10), (0, .ref 32), (1, .int pq0), (2, .int pq1), (3, .int pq2)]) dX1_add_10 (by decide) rfl ?_
  refine J_iload (pc := 12) 0 dX1_add_12 rfl ?_
  refine J_iload_n (pc := 14) 2 dX1_add_14 rfl rfl ?_
  refine J_bipush (pc := 15) (v := 31) dX1_add_15 (by decide) ?_
  refine J_iand (pc := 17) dX1_add_17 ?_
  refine JC_pt_i (J_callS (mi := mi_X1_add) (mj := mi_X11_hasBit) (pc := 18) dX1_add_18 ml_X1_57 ok_X11_hasBit os_X11_hasBit ⟨Nat.le_of_ble_eq_true rfl, Nat.le_of_ble_eq_true rfl⟩ rfl (s_X11_hasBit g d v4_10 (pq0 &&& 31)) rfl (Nat.le_of_ble_eq_true rfl)) ?_
  refine K_ifeq_b (K := k) (pc := 21) (tgt := 25) dX1_add_21 (by decide) (fun z21 => ?_) (fun z21 => ?_)
  · refine J_aload_n (pc := 25) 1 dX1_add_25 rfl rfl ?_
    refine J_getR (pc := 26) dX1_add_26 fl_X1_26 (h0.lt 32 (by decide)) (h0.ty 32 rfl) rfl (h0.rf 39 rfl) ?_
    refine J_iload_n (pc := 29) 2 dX1_add_29 rfl rfl ?_
    refine J_iconst (pc := 30) (v := 5) dX1_add_30 (by decide) ?_
    refine J_ishr (pc := 31) dX1_add_31 ?_
    refine J_iload (pc := 32) 0 dX1_add_32 rfl ?_
    refine J_iconst (pc := 34) (v := 1) dX1_add_34 (by decide) ?_
    refine J_iload_n (pc := 35) 2 dX1_add_35 rfl rfl ?_
    refine J_bipush (pc := 36) (v := 31) dX1_add_36 (by decide) ?_
    refine J_iand (pc := 38) dX1_add_38 ?_
    refine J_ishl (pc := 39) dX1_add_39 ?_
    refine J_ior (pc := 40) dX1_add_40 ?_
    refine JC_lt_v (K := k) (J_callS (mi := mi_X1_add) (mj := mi_X11_put) (pc := 41) dX1_add_41 ml_X1_61 ok_X11_put os_X11_put ⟨Nat.le_of_ble_eq_true rfl, Nat.le_of_ble_eq_true rfl⟩ rfl (s_X11_put g d 37 128 (pq0 >>> (5 &&& 31)) (v4_10 ||| ((1 : Int32) <<< ((pq0 &&& 31) &&& 31))) (⟨(h0.lt 37 (by decide)), (h0.ty 37 rfl), by decide⟩)) rfl (Nat.le_of_ble_eq_true rfl)) (fun q41 eq41 => ?_)
    refine J_aload_n (pc := 44) 1 dX1_add_44 rfl rfl ?_
    refine J_getR (pc := 45) dX1_add_45 fl_X1_11 (h0.lt 32 (by decide)) (h0.ty 32 rfl) rfl (h0.rf 35 rfl) ?_
    refine J_aload_n (pc := 48) 1 dX1_add_48 rfl rfl ?_
    refine J_getI (pc := 49) dX1_add_49 fl_X1_33 (h0.lt 32 (by decide)) (h0.ty 32 rfl) rfl ?_
    refine J_iload_n (pc := 52) 2 dX1_add_52 rfl rfl ?_
    refine JC_lt_v (K := k) (J_callS (mi := mi_X1_add) (mj := mi_X11_put) (pc := 53) dX1_add_53 ml_X1_61 ok_X11_put os_X11_put ⟨Nat.le_of_ble_eq_true rfl, Nat.le_of_ble_eq_true rfl⟩ rfl (s_X11_put g q41 33 729 ((q41.1 32) 6) pq0 (⟨(h0.lt 33 (by decide)), (h0.ty 33 rfl), by decide⟩)) rfl (Nat.le_of_ble_eq_true rfl)) (fun q53 eq53 => ?_)
    refine J_aload_n (pc := 56) 1 dX1_add_56 rfl rfl ?_
    refine J_getR (pc := 57) dX1_add_57 fl_X1_15 (h0.lt 32 (by decide)) (h0.ty 32 rfl) rfl (h0.rf 36 rfl) ?_
    refine J_aload_n (pc := 60) 1 dX1_add_60 rfl rfl ?_
    refine J_getI (pc := 61) dX1_add_61 fl_X1_33 (h0.lt 32 (by decide)) (h0.ty 32 rfl) rfl ?_
    refine J_iload_n (pc := 64) 3 dX1_add_64 rfl rfl ?_
    refine JC_lt_v (K := k) (J_callS (mi := mi_X1_add) (mj := mi_X11_put) (pc := 65) dX1_add_65 ml_X1_61 ok_X11_put os_X11_put ⟨Nat.le_of_ble_eq_true rfl, Nat.le_of_ble_eq_true rfl⟩ rfl (s_X11_put g q53 34 729 ((q53.1 32) 6) pq1 (⟨(h0.lt 34 (by decide)), (h0.ty 34 rfl), by decide⟩)) rfl (Nat.le_of_ble_eq_true rfl)) (fun q65 eq65 => ?_)
    refine J_aload_n (pc := 68) 1 dX1_add_68 rfl rfl ?_
    refine J_getR (pc := 69) dX1_add_69 fl_X1_18 (h0.lt 32 (by decide)) (h0.ty 32 rfl) rfl (h0.rf 37 rfl) ?_
    refine J_aload_n (pc := 72) 1 dX1_add_72 rfl rfl ?_
    refine J_getI (pc := 73) dX1_add_73 fl_X1_33 (h0.lt 32 (by decide)) (h0.ty 32 rfl) rfl ?_
    refine J_iload_n (pc := 76) 4 dX1_add_76 rfl rfl ?_
    refine JC_lt_v (K := k) (J_callS (mi := mi_X1_add) (mj := mi_X11_put) (pc := 77) dX1_add_77 ml_X1_61 ok_X11_put os_X11_put ⟨Nat.le_of_ble_eq_true rfl, Nat.le_of_ble_eq_true rfl⟩ rfl (s_X11_put g q65 35 729 ((q65.1 32) 6) pq2 (⟨(h0.lt 35 (by decide)), (h0.ty 35 rfl), by decide⟩)) rfl (Nat.le_of_ble_eq_true rfl)) (fun q77 eq77 => ?_)
    refine J_aload_n (pc := 80) 1 dX1_add_80 rfl rfl ?_
    refine J_getR (pc := 81) dX1_add_81 fl_X1_21 (h0.lt 32 (by decide)) (h0.ty 32 rfl) rfl (h0.rf 38 rfl) ?_
    refine J_aload_n (pc := 84) 1 dX1_add_84 rfl rfl ?_
    refine J_getI (pc := 85) dX1_add_85 fl_X1_33 (h0.lt 32 (by decide)) (h0.ty 32 rfl) rfl ?_
    refine J_iload_n (pc := 88) 3 dX1_add_88 rfl rfl ?_
    refine J_iconst (pc := 89) (v := (-1)) dX1_add_89 (by decide) ?_
    refine K_icmp_ne (K := k) (pc := 90) (tgt := 97) dX1_add_90 (by decide) (fun z90 => ?_) (fun z90 => ?_)
    · refine J_aload_n (pc := 97) 1 dX1_add_97 rfl rfl ?_
      refine J_iload_n (pc := 98) 3 dX1_add_98 rfl rfl ?_
      refine JC_pt_i (J_callV (mi := mi_X1_add) (mj := mi_X1_movesTo) (pc := 99) dX1_add_99 ml_X1_65 ok_X1_movesTo ov_X1_movesTo ⟨Nat.le_of_ble_eq_true rfl, Nat.le_of_ble_eq_true rfl⟩ rfl (h0.lt 32 (by decide)) (h0.ty 32 rfl) rfl (s_X1_movesTo g q77 pq1 h0) rfl (Nat.le_of_ble_eq_true rfl)) ?_
      refine J_iconst (pc := 102) (v := 1) dX1_add_102 (by decide) ?_
      refine J_iadd (pc := 103) dX1_add_103 ?_
      refine J_loc (loc' := [(0, .ref 32)]) [1] rfl ?_
      exact hX1_add_j104 q77 ((f_X1_movesTo (q77.1 36) pq1) + 1) ((q77.1 32) 6)
    · refine J_iconst (pc := 93) (v := 0) dX1_add_93 (by decide) ?_
      refine J_goto (pc := 94) (tgt := 104) dX1_add_94 (by decide) ?_
      refine J_loc (loc' := [(0, .ref 32)]) [1] rfl ?_
      exact hX1_add_j104 q77 0 ((q77.1 32) 6)
  · exact J_eqo (hk d) (J_vret (pc := 24) dX1_add_24 rfl)
def f_X10_bitsOf (pq0 : Int32) : Int32 := ((3 : Int32) <<< (((2 : Int32) * ((5 : Int32) - pq0)) &&& 31))
set_option maxRecDepth 100000 in
set_option maxHeartbeats 4000000 in
theorem s_X10_bitsOf (g : JG) (d : JD) (pq0 : Int32) : JM mi_X10_bitsOf 0 0 (g, d) [.int pq0] (some (some (.int (f_X10_bitsOf pq0)), (g, d))) := by
  refine JM_of (by decide) rfl (Nat.le_of_ble_eq_true rfl) ?_
  refine J_loc (loc' := [(0, .int pq0)]) [0] rfl ?_
  obtain ⟨k, hk⟩ : ∃ k : Int32 → Option (Option Value × JH), ∀ r9, k r9 = some (some (.int r9), (g, d)) := ⟨_, fun _ => rfl⟩
  refine J_eqo (hk (f_X10_bitsOf pq0)).symm ?_
  unfold f_X10_bitsOf
  refine J_iconst (pc := 0) (v := 3) dX10_bitsOf_0 (by decide) ?_
  refine J_iconst (pc := 1) (v := 2) dX10_bitsOf_1 (by decide) ?_
  refine J_iconst (pc := 2) (v := 5) dX10_bitsOf_2 (by decide) ?_
  refine J_iload_n (pc := 3) 0 dX10_bitsOf_3 rfl rfl ?_
  refine J_isub (pc := 4) dX10_bitsOf_4 ?_
  refine J_imul (pc := 5) dX10_bitsOf_5 ?_
  refine J_ishl (pc := 6) dX10_bitsOf_6 ?_
  exact J_eqo (hk ((3 : Int32) <<< (((2 : Int32) * ((5 : Int32) - pq0)) &&& 31))) (J_iret (pc := 7) dX10_bitsOf_7 rfl)
def f_X3_isGuarded (r_a0 : Nat → Int32) (pq0 : Int32) : Bool := (if ((r_a0 7) &&& (f_X10_bitsOf pq0)) = 0 then (false) else (true))
set_option maxRecDepth 100000 in
set_option maxHeartbeats 4000000 in
theorem s_X3_isGuarded (g : JG) (d : JD) (a : Nat) (pq0 : Int32) (ha : j_sh g a TS_CL RS_CL) : JM mi_X3_isGuarded 0 0 (g, d) [.ref a, .int pq0] (some (some (.int (j_b (f_X3_isGuarded (d.1 a) pq0))), (g, d))) := by
  refine JM_of (by decide) rfl (Nat.le_of_ble_eq_true rfl) ?_
  refine J_loc (loc' := [(0, .ref a), (1, .int pq0)]) [0, 1] rfl ?_
  obtain ⟨k, hk⟩ : ∃ k : Bool → Option (Option Value × JH), ∀ r9, k r9 = some (some (.int (j_b r9)), (g, d)) := ⟨_, fun _ => rfl⟩
  refine J_eqo (hk (f_X3_isGuarded (d.1 a) pq0)).symm ?_
  unfold f_X3_isGuarded
  refine J_aload_n (pc := 0) 0 dX3_isGuarded_0 rfl rfl ?_
  refine J_getI (pc := 1) dX3_isGuarded_1 fl_X3_65 (ha.lt 0 (by decide)) (ha.ty 0 rfl) rfl ?_
  refine J_iload_n (pc := 4) 1 dX3_isGuarded_4 rfl rfl ?_
  refine JC_pt_i (J_callS (mi := mi_X3_isGuarded) (mj := mi_X10_bitsOf) (pc := 5) dX3_isGuarded_5 ml_X3_81 ok_X10_bitsOf os_X10_bitsOf ⟨Nat.le_of_ble_eq_true rfl, Nat.le_of_ble_eq_true rfl⟩ rfl (s_X10_bitsOf g d pq0) rfl (Nat.le_of_ble_eq_true rfl)) ?_
  refine J_iand (pc := 8) dX3_isGuarded_8 ?_
  refine K_if_eq (K := k) (pc := 9) (tgt := 16) dX3_isGuarded_9 (by decide) (fun z9 => ?_) (fun z9 => ?_)
  · refine J_iconst (pc := 16) (v := 0) dX3_isGuarded_16 (by decide) ?_
    exact J_eqo (hk false) (J_zretB (pc := 17) dX3_isGuarded_17 rfl)
  · refine J_iconst (pc := 12) (v := 1) dX3_isGuarded_12 (by decide) ?_
    refine J_goto (pc := 13) (tgt := 17) dX3_isGuarded_13 (by decide) ?_
    exact J_eqo (hk true) (J_zretB (pc := 17) dX3_isGuarded_17 rfl)
def f_J6_bitCount_0f7a4 (pq0 : Int32) : Int32 := (j_let (pq0 - (((pq0.toUInt32 >>> ((1 : Int32).toUInt32 &&& Int32.toUInt32 31)).toInt32) &&& 1431655765)) (fun v0_9 => j_let ((v0_9 &&& 858993459) + (((v0_9.toUInt32 >>> ((2 : Int32).toUInt32 &&& Int32.toUInt32 31)).toInt32) &&& 858993459)) (fun v0_23 => j_let ((v0_23 + ((v0_23.toUInt32 >>> ((4 : Int32).toUInt32 &&& Int32.toUInt32 31)).toInt32)) &&& 252645135) (fun v0_33 => j_let (v0_33 + ((v0_33.toUInt32 >>> ((8 : Int32).toUInt32 &&& Int32.toUInt32 31)).toInt32)) (fun v0_40 => (v0_40 + ((v0_40.toUInt32 >>> ((16 : Int32).toUInt32 &&& Int32.toUInt32 31)).toInt32)) &&& 63)))))
set_option maxRecDepth 100000 in
set_option maxHeartbeats 4000000 in
theorem s_J6_bitCount_0f7a4 (g : JG) (d : JD) (pq0 : Int32) : JM mi_J6_bitCount_0f7a4 0 0 (g, d) [.int pq0] (some (some (.int (f_J6_bitCount_0f7a4 pq0)), (g, d))) := by
  refine JM_of (by decide) rfl (Nat.le_of_ble_eq_true rfl) ?_
  refine J_loc (loc' := [(0, .int pq0)]) [0] rfl ?_
  obtain ⟨k, hk⟩ : ∃ k : Int32 → Option (Option Value × JH), ∀ r9, k r9 = some (some (.int r9), (g, d)) := ⟨_, fun _ => rfl⟩
  refine J_eqo (hk (f_J6_bitCount_0f7a4 pq0)).symm ?_
  unfold f_J6_bitCount_0f7a4
  refine J_iload_n (pc := 0) 0 dJ6_bitCount_0f7a4_0 rfl rfl ?_
  refine J_iload_n (pc := 1) 0 dJ6_bitCount_0f7a4_1 rfl rfl ?_
  refine J_iconst (pc := 2) (v := 1) dJ6_bitCount_0f7a4_2 (by decide) ?_
  refine J_iushr (pc := 3) dJ6_bitCount_0f7a4_3 ?_
  refine J_ldcw (pc := 4) (v := 1431655765) dJ6_bitCount_0f7a4_4 cn_J6_265 ?_
  refine J_iand (pc := 7) dJ6_bitCount_0f7a4_7 ?_
  refine J_isub (pc := 8) dJ6_bitCount_0f7a4_8 ?_
  refine J_let (K := k) (fun v0_9 ev0_9 => ?_)
  refine J_val ev0_9.symm ?_
  refine J_istore_n (pc := 9) (loc' := [(0, .int v0_9)]) dJ6_bitCount_0f7a4_9 rfl (by decide) rfl ?_
  refine J_iload_n (pc := 10) 0 dJ6_bitCount_0f7a4_10 rfl rfl ?_
  refine J_ldcw (pc := 11) (v := 858993459) dJ6_bitCount_0f7a4_11 cn_J6_266 ?_
  refine J_iand (pc := 14) dJ6_bitCount_0f7a4_14 ?_
  refine J_iload_n (pc := 15) 0 dJ6_bitCount_0f7a4_15 rfl rfl ?_
  refine J_iconst (pc := 16) (v := 2) dJ6_bitCount_0f7a4_16 (by decide) ?_
  refine J_iushr (pc := 17) dJ6_bitCount_0f7a4_17 ?_
  refine J_ldcw (pc := 18) (v := 858993459) dJ6_bitCount_0f7a4_18 cn_J6_266 ?_
  refine J_iand (pc := 21) dJ6_bitCount_0f7a4_21 ?_
  refine J_iadd (pc := 22) dJ6_bitCount_0f7a4_22 ?_
  refine J_let (K := k) (fun v0_23 ev0_23 => ?_)
  refine J_val ev0_23.symm ?_
  refine J_istore_n (pc := 23) (loc' := [(0, .int v0_23)]) dJ6_bitCount_0f7a4_23 rfl (by decide) rfl ?_
  refine J_iload_n (pc := 24) 0 dJ6_bitCount_0f7a4_24 rfl rfl ?_
  refine J_iload_n (pc := 25) 0 dJ6_bitCount_0f7a4_25 rfl rfl ?_
  refine J_iconst (pc := 26) (v := 4) dJ6_bitCount_0f7a4_26 (by decide) ?_
  refine J_iushr (pc := 27) dJ6_bitCount_0f7a4_27 ?_
  refine J_iadd (pc := 28) dJ6_bitCount_0f7a4_28 ?_
  refine J_ldcw (pc := 29) (v := 252645135) dJ6_bitCount_0f7a4_29 cn_J6_267 ?_
  refine J_iand (pc := 32) dJ6_bitCount_0f7a4_32 ?_
  refine J_let (K := k) (fun v0_33 ev0_33 => ?_)
  refine J_val ev0_33.symm ?_
  refine J_istore_n (pc := 33) (loc' := [(0, .int v0_33)]) dJ6_bitCount_0f7a4_33 rfl (by decide) rfl ?_
  refine J_iload_n (pc := 34) 0 dJ6_bitCount_0f7a4_34 rfl rfl ?_
  refine J_iload_n (pc := 35) 0 dJ6_bitCount_0f7a4_35 rfl rfl ?_
  refine J_bipush (pc := 36) (v := 8) dJ6_bitCount_0f7a4_36 (by decide) ?_
  refine J_iushr (pc := 38) dJ6_bitCount_0f7a4_38 ?_
  refine J_iadd (pc := 39) dJ6_bitCount_0f7a4_39 ?_
  refine J_let (K := k) (fun v0_40 ev0_40 => ?_)
  refine J_val ev0_40.symm ?_
  refine J_istore_n (pc := 40) (loc' := [(0, .int v0_40)]) dJ6_bitCount_0f7a4_40 rfl (by decide) rfl ?_
  refine J_iload_n (pc := 41) 0 dJ6_bitCount_0f7a4_41 rfl rfl ?_
  refine J_iload_n (pc := 42) 0 dJ6_bitCount_0f7a4_42 rfl rfl ?_
  refine J_bipush (pc := 43) (v := 16) dJ6_bitCount_0f7a4_43 (by decide) ?_
  refine J_iushr (pc := 45) dJ6_bitCount_0f7a4_45 ?_
  refine J_iadd (pc := 46) dJ6_bitCount_0f7a4_46 ?_
  refine J_istore_n (pc := 47) (loc' := [(0, .int (v0_40 + ((v0_40.toUInt32 >>> ((16 : Int32).toUInt32 &&& Int32.toUInt32 31)).toInt32)))]) dJ6_bitCount_0f7a4_47 rfl (by decide) rfl ?_
  refine J_iload_n (pc := 48) 0 dJ6_bitCount_0f7a4_48 rfl rfl ?_
  refine J_bipush (pc := 49) (v := 63) dJ6_bitCount_0f7a4_49 (by decide) ?_
  refine J_iand (pc := 51) dJ6_bitCount_0f7a4_51 ?_
  exact J_eqo (hk ((v0_40 + ((v0_40.toUInt32 >>> ((16 : Int32).toUInt32 &&& Int32.toUInt32 31)).toInt32)) &&& 63)) (J_iret (pc := 52) dJ6_bitCount_0f7a4_52 rfl)
def f_X10_hooksIn (pq0 : Int32) : Int32 := (f_J6_bitCount_0f7a4 pq0)
set_option maxRecDepth 100000 in
set_option maxHeartbeats 4000000 in
theorem s_X10_hooksIn (g : JG) (d : JD) (pq0 : Int32) : JM mi_X10_hooksIn 0 0 (g, d) [.int pq0] (some (some (.int (f_X10_hooksIn pq0)), (g, d))) := by
  refine JM_of (by decide) rfl (Nat.le_of_ble_eq_true rfl) ?_
  refine J_loc (loc' := [(0, .int pq0)]) [0] rfl ?_
  obtain ⟨k, hk⟩ : ∃ k : Int32 → Option (Option Value × JH), ∀ r9, k r9 = some (some (.int r9), (g, d)) := ⟨_, fun _ => rfl⟩
  refine J_eqo (hk (f_X10_hooksIn pq0)).symm ?_
  unfold f_X10_hooksIn
  refine J_iload_n (pc := 0) 0 dX10_hooksIn_0 rfl rfl ?_
  refine JC_pt_i (J_callS (mi := mi_X10_hooksIn) (mj := mi_J6_bitCount_0f7a4) (pc := 1) dX10_hooksIn_1 ml_X10_15 ok_J6_bitCount_0f7a4 os_J6_bitCount_0f7a4 ⟨Nat.le_of_ble_eq_true rfl, Nat.le_of_ble_eq_true rfl⟩ rfl (s_J6_bitCount_0f7a4 g d pq0) rfl (Nat.le_of_ble_eq_true rfl)) ?_
  exact J_eqo (hk (f_J6_bitCount_0f7a4 pq0)) (J_iret (pc := 4) dX10_hooksIn_4 rfl)
def f_X3_hooksLying (r_a0 : Nat → Int32) (pq0 : Int32) : Int32 := (((r_a0 0) + (f_X10_hooksIn (r_a0 6))) - (f_X10_hooksIn pq0))
set_option maxRecDepth 100000 in
set_option maxHeartbeats 4000000 in
theorem s_X3_hooksLying (g : JG) (d : JD) (a : Nat) (pq0 : Int32) (ha : j_sh g a TS_CL RS_CL) : JM mi_X3_hooksLying 0 0 (g, d) [.ref a, .int pq0] (some (some (.int (f_X3_hooksLying (d.1 a) pq0)), (g, d))) := by
  refine JM_of (by decide) rfl (Nat.le_of_ble_eq_true rfl) ?_
  refine J_loc (loc' := [(0, .ref a), (1, .int pq0)]) [0, 1] rfl ?_
  obtain ⟨k, hk⟩ : ∃ k : Int32 → Option (Option Value × JH), ∀ r9, k r9 = some (some (.int r9), (g, d)) := ⟨_, fun _ => rfl⟩
  refine J_eqo (hk (f_X3_hooksLying (d.1 a) pq0)).symm ?_
  unfold f_X3_hooksLying
  refine J_aload_n (pc := 0) 0 dX3_hooksLying_0 rfl rfl ?_
  refine J_getI (pc := 1) dX3_hooksLying_1 fl_X3_43 (ha.lt 0 (by decide)) (ha.ty 0 rfl) rfl ?_
  refine J_aload_n (pc := 4) 0 dX3_hooksLying_4 rfl rfl ?_
  refine J_getI (pc := 5) dX3_hooksLying_5 fl_X3_62 (ha.lt 0 (by decide)) (ha.ty 0 rfl) rfl ?_
  refine JC_pt_i (J_callS (mi := mi_X3_hooksLying) (mj := mi_X10_hooksIn) (pc := 8) dX3_hooksLying_8 ml_X3_126 ok_X10_hooksIn os_X10_hooksIn ⟨Nat.le_of_ble_eq_true rfl, Nat.le_of_ble_eq_true rfl⟩ rfl (s_X10_hooksIn g d ((d.1 a) 6)) rfl (Nat.le_of_ble_eq_true rfl)) ?_
  refine J_iadd (pc := 11) dX3_hooksLying_11 ?_
  refine J_iload_n (pc := 12) 1 dX3_hooksLying_12 rfl rfl ?_
  refine JC_pt_i (J_callS (mi := mi_X3_hooksLying) (mj := mi_X10_hooksIn) (pc := 13) dX3_hooksLying_13 ml_X3_126 ok_X10_hooksIn os_X10_hooksIn ⟨Nat.le_of_ble_eq_true rfl, Nat.le_of_ble_eq_true rfl⟩ rfl (s_X10_hooksIn g d pq0) rfl (Nat.le_of_ble_eq_true rfl)) ?_
  refine J_isub (pc := 16) dX3_hooksLying_16 ?_
  exact J_eqo (hk ((((d.1 a) 0) + (f_X10_hooksIn ((d.1 a) 6))) - (f_X10_hooksIn pq0))) (J_iret (pc := 17) dX3_hooksLying_17 rfl)
def f_X10_with (pq0 : Int32) (pq1 : Int32) (pq2 : Int32) : Int32 := ((pq0 &&& ((f_X10_bitsOf pq1) ^^^ (-1))) ||| (pq2 <<< (((2 : Int32) * ((5 : Int32) - pq1)) &&& 31)))
set_option maxRecDepth 100000 in
set_option maxHeartbeats 4000000 in
theorem s_X10_with (g : JG) (d : JD) (pq0 : Int32) (pq1 : Int32) (pq2 : Int32) : JM mi_X10_with 0 0 (g, d) [.int pq0, .int pq1, .int pq2] (some (some (.int (f_X10_with pq0 pq1 pq2)), (g, d))) := by
  refine JM_of (by decide) rfl (Nat.le_of_ble_eq_true rfl) ?_
  refine J_loc (loc' := [(0, .int pq0), (1, .int pq1), (2, .int pq2)]) [0, 1, 2] rfl ?_
  obtain ⟨k, hk⟩ : ∃ k : Int32 → Option (Option Value × JH), ∀ r9, k r9 = some (some (.int r9), (g, d)) := ⟨_, fun _ => rfl⟩
  refine J_eqo (hk (f_X10_with pq0 pq1 pq2)).symm ?_
  unfold f_X10_with
  refine J_iload_n (pc := 0) 0 dX10_with_0 rfl rfl ?_
  refine J_iload_n (pc := 1) 1 dX10_with_1 rfl rfl ?_
  refine JC_pt_i (J_callS (mi := mi_X10_with) (mj := mi_X10_bitsOf) (pc := 2) dX10_with_2 ml_X10_9 ok_X10_bitsOf os_X10_bitsOf ⟨Nat.le_of_ble_eq_true rfl, Nat.le_of_ble_eq_true rfl⟩ rfl (s_X10_bitsOf g d pq1) rfl (Nat.le_of_ble_eq_true rfl)) ?_
  refine J_iconst (pc := 5) (v := (-1)) dX10_with_5 (by decide) ?_
  refine J_ixor (pc := 6) dX10_with_6 ?_
  refine J_iand (pc := 7) dX10_with_7 ?_
  refine J_iload_n (pc := 8) 2 dX10_with_8 rfl rfl ?_
  refine J_iconst (pc := 9) (v := 2) dX10_with_9 (by decide) ?_
  refine J_iconst (pc := 10) (v := 5) dX10_with_10 (by decide) ?_
  refine J_iload_n (pc := 11) 1 dX10_with_11 rfl rfl ?_
  refine J_isub (pc := 12) dX10_with_12 ?_
  refine J_imul (pc := 13) dX10_with_13 ?_
  refine J_ishl (pc := 14) dX10_with_14 ?_
  refine J_ior (pc := 15) dX10_with_15 ?_
  exact J_eqo (hk ((pq0 &&& ((f_X10_bitsOf pq1) ^^^ (-1))) ||| (pq2 <<< (((2 : Int32) * ((5 : Int32) - pq1)) &&& 31)))) (J_iret (pc := 16) dX10_with_16 rfl)
def f_X3_turned (pq0 : Int32) : Int32 := (if pq0 = 1 then (2) else (1))
set_option maxRecDepth 100000 in
set_option maxHeartbeats 4000000 in
theorem s_X3_turned (g : JG) (d : JD) (pq0 : Int32) : JM mi_X3_turned 0 0 (g, d) [.int pq0] (some (some (.int (f_X3_turned pq0)), (g, d))) := by
  refine JM_of (by decide) rfl (Nat.le_of_ble_eq_true rfl) ?_
  refine J_loc (loc' := [(0, .int pq0)]) [0] rfl ?_
  obtain ⟨k, hk⟩ : ∃ k : Int32 → Option (Option Value × JH), ∀ r9, k r9 = some (some (.int r9), (g, d)) := ⟨_, fun _ => rfl⟩
  refine J_eqo (hk (f_X3_turned pq0)).symm ?_
  unfold f_X3_turned
  refine J_iload_n (pc := 0) 0 dX3_turned_0 rfl rfl ?_
  refine J_iconst (pc := 1) (v := 1) dX3_turned_1 (by decide) ?_
  refine K_icmp_ne (K := k) (pc := 2) (tgt := 9) dX3_turned_2 (by decide) (fun z2 => ?_) (fun z2 => ?_)
  · refine J_iconst (pc := 9) (v := 1) dX3_turned_9 (by decide) ?_
    exact J_eqo (hk 1) (J_iret (pc := 10) dX3_turned_10 rfl)
  · refine J_iconst (pc := 5) (v := 2) dX3_turned_5 (by decide) ?_
    refine J_goto (pc := 6) (tgt := 10) dX3_turned_6 (by decide) ?_
    exact J_eqo (hk 2) (J_iret (pc := 10) dX3_turned_10 rfl)
def f_X3_wayAfter_j62 (r_a0 : Nat → Int32) (y0_62 : Int32) (y1_62 : Int32) (y2_62 : Int32) : Int32 := (f_X10_with y2_62 y1_62 y0_62)
def f_X3_wayAfter_j44 (r_a0 : Nat → Int32) (x1_44 : Int32) (x2_44 : Int32) (x3_44 : Int32) (y0_44 : Int32) : Int32 := (if y0_44 = 0 then (-1) else (if x2_44 = 0 then (f_X3_wayAfter_j62 r_a0 1 x3_44 x1_44) else (f_X3_wayAfter_j62 r_a0 2 x3_44 x1_44)))
def f_X3_wayAfter_j43 (r_a0 : Nat → Int32) (x1_43 : Int32) (x2_43 : Int32) (x3_43 : Int32) : Int32 := (f_X3_wayAfter_j44 r_a0 x1_43 x2_43 x3_43 0)
def f_X3_wayAfter_j26 (r_a0 : Nat → Int32) (x1_26 : Int32) (x2_26 : Int32) (x3_26 : Int32) (x4_26 : Int32) : Int32 := (if x4_26 = 0 then (if (f_X3_hooksLying r_a0 x1_26) ≤ 0 then f_X3_wayAfter_j43 r_a0 x1_26 x2_26 x3_26 else (f_X3_wayAfter_j44 r_a0 x1_26 x2_26 x3_26 1)) else f_X3_wayAfter_j43 r_a0 x1_26 x2_26 x3_26)
def f_X3_wayAfter_j93 (r_a0 : Nat → Int32) (y0_93 : Int32) (y1_93 : Int32) (y2_93 : Int32) : Int32 := (f_X10_with y2_93 y1_93 y0_93)
def f_X3_wayAfter (r_a0 : Nat → Int32) (pq0 : Int32) (pq1 : Int32) (pq2 : Int32) : Int32 := (if (f_X3_isGuarded r_a0 pq2) = true then (-1) else (if pq1 = 0 then f_X3_wayAfter_j26 r_a0 pq0 pq1 pq2 (f_X10_hungAt pq0 pq2) else (if pq1 = 1 then f_X3_wayAfter_j26 r_a0 pq0 pq1 pq2 (f_X10_hungAt pq0 pq2) else (if (f_X10_hungAt pq0 pq2) = 0 then (-1) else (if pq1 = 3 then (f_X3_wayAfter_j93 r_a0 (f_X3_turned (f_X10_hungAt pq0 pq2)) pq2 pq0) else (f_X3_wayAfter_j93 r_a0 0 pq2 pq0))))))
set_option maxRecDepth 100000 in
set_option maxHeartbeats 4000000 in
theorem s_X3_wayAfter (g : JG) (d : JD) (a : Nat) (pq0 : Int32) (pq1 : Int32) (pq2 : Int32) (ha : j_sh g a TS_CL RS_CL) : JM mi_X3_wayAfter 0 0 (g, d) [.ref a, .int pq0, .int pq1, .int pq2] (some (some (.int (f_X3_wayAfter (d.1 a) pq0 pq1 pq2)), (g, d))) := by
  refine JM_of (by decide) rfl (Nat.le_of_ble_eq_true rfl) ?_
  refine J_loc (loc' := [(0, .ref a), (1, .int pq0), (2, .int pq1), (3, .int pq2)]) [0, 1, 2, 3] rfl ?_
  obtain ⟨k, hk⟩ : ∃ k : Int32 → Option (Option Value × JH), ∀ r9, k r9 = some (some (.int r9), (g, d)) := ⟨_, fun _ => rfl⟩
  refine J_eqo (hk (f_X3_wayAfter (d.1 a) pq0 pq1 pq2)).symm ?_
  unfold f_X3_wayAfter
  have hX3_wayAfter_j62 : ∀ (y0_62 : Int32) (y1_62 : Int32) (y2_62 : Int32), J mi_X3_wayAfter 0 0 0 0 (g, d) 62 [] [.int y0_62, .int y1_62, .int y2_62] (k (f_X3_wayAfter_j62 (d.1 a) y0_62 y1_62 y2_62)) := by
    intro y0_62 y1_62 y2_62
    unfold f_X3_wayAfter_j62
    refine JC_pt_i (J_callS (mi := mi_X3_wayAfter) (mj := mi_X10_with) (pc := 62) dX3_wayAfter_62 ml_X3_75 ok_X10_with os_X10_with ⟨Nat.le_of_ble_eq_true rfl, Nat.le_of_ble_eq_true rfl⟩ rfl (s_X10_with g d y2_62 y1_62 y0_62) rfl (Nat.le_of_ble_eq_true rfl)) ?_
    refine J_goto (pc := 65) (tgt := 69) dX3_wayAfter_65 (by decide) ?_
    exact J_eqo (hk (f_X10_with y2_62 y1_62 y0_62)) (J_iret (pc := 69) dX3_wayAfter_69 rfl)
  have hX3_wayAfter_j44 : ∀ (x1_44 : Int32) (x2_44 : Int32) (x3_44 : Int32) (y0_44 : Int32), J mi_X3_wayAfter 0 0 0 0 (g, d) 44 [(1, .int x1_44), (2, .int x2_44), (3, .int x3_44)] [.int y0_44] (k (f_X3_wayAfter_j44 (d.1 a) x1_44 x2_44 x3_44 y0_44)) := by
    intro x1_44 x2_44 x3_44 y0_44
    unfold f_X3_wayAfter_j44
    refine J_istore (pc := 44) (loc' := [(5, .int y0_44), (1, .int x1_44), (2, .int x2_44), (3, .int x3_44)]) dX3_wayAfter_44 (by decide) rfl ?_
    refine J_iload (pc := 46) 0 dX3_wayAfter_46 rfl ?_
    refine K_if_eq (K := k) (pc := 48) (tgt := 68) dX3_wayAfter_48 (by decide) (fun z48 => ?_) (fun z48 => ?_)
    · refine J_iconst (pc := 68) (v := (-1)) dX3_wayAfter_68 (by decide) ?_
      exact J_eqo (hk (-1)) (J_iret (pc := 69) dX3_wayAfter_69 rfl)
    · refine J_iload_n (pc := 51) 1 dX3_wayAfter_51 rfl rfl ?_
      refine J_iload_n (pc := 52) 3 dX3_wayAfter_52 rfl rfl ?_
      refine J_iload_n (pc := 53) 2 dX3_wayAfter_53 rfl rfl ?_
      refine K_if_ne (K := k) (pc := 54) (tgt := 61) dX3_wayAfter_54 (by decide) (fun z54 => ?_) (fun z54 => ?_)
      · refine J_iconst (pc := 61) (v := 2) dX3_wayAfter_61 (by decide) ?_
        refine J_loc (loc' := []) [] rfl ?_
        exact hX3_wayAfter_j62 2 x3_44 x1_44
      · refine J_iconst (pc := 57) (v := 1) dX3_wayAfter_57 (by decide) ?_
        refine J_goto (pc := 58) (tgt := 62) dX3_wayAfter_58 (by decide) ?_
        refine J_loc (loc' := []) [] rfl ?_
        exact hX3_wayAfter_j62 1 x3_44 x1_44
  have hX3_wayAfter_j43 : ∀ (x1_43 : Int32) (x2_43 : Int32) (x3_43 : Int32), J mi_X3_wayAfter 0 0 0 0 (g, d) 43 [(1, .int x1_43), (2, .int x2_43), (3, .int x3_43)] [] (k (f_X3_wayAfter_j43 (d.1 a) x1_43 x2_43 x3_43)) := by
    intro x1_43 x2_43 x3_43
    unfold f_X3_wayAfter_j43
    refine J_iconst (pc := 43) (v := 0) dX3_wayAfter_43 (by decide) ?_
    exact hX3_wayAfter_j44 x1_43 x2_43 x3_43 0
  have hX3_wayAfter_j26 : ∀ (x1_26 : Int32) (x2_26 : Int32) (x3_26 : Int32) (x4_26 : Int32), J mi_X3_wayAfter 0 0 0 0 (g, d) 26 [(0, .ref a), (1, .int x1_26), (2, .int x2_26), (3, .int x3_26), (4, .int x4_26)] [] (k (f_X3_wayAfter_j26 (d.1 a) x1_26 x2_26 x3_26 x4_26)) := by
    intro x1_26 x2_26 x3_26 x4_26
    unfold f_X3_wayAfter_j26
    refine J_iload (pc := 26) 4 dX3_wayAfter_26 rfl ?_
    refine K_if_ne (K := k) (pc := 28) (tgt := 43) dX3_wayAfter_28 (by decide) (fun z28 => ?_) (fun z28 => ?_)
    · refine J_loc (loc' := [(1, .int x1_26), (2, .int x2_26), (3, .int x3_26)]) [1, 2, 3] rfl ?_
      exact hX3_wayAfter_j43 x1_26 x2_26 x3_26
    · refine J_aload_n (pc := 31) 0 dX3_wayAfter_31 rfl rfl ?_
      refine J_iload_n (pc := 32) 1 dX3_wayAfter_32 rfl rfl ?_
      refine JC_pt_i (J_callV (mi := mi_X3_wayAfter) (mj := mi_X3_hooksLying) (pc := 33) dX3_wayAfter_33 ml_X3_133 ok_X3_hooksLying ov_X3_hooksLying ⟨Nat.le_of_ble_eq_true rfl, Nat.le_of_ble_eq_true rfl⟩ rfl (ha.lt 0 (by decide)) (ha.ty 0 rfl) rfl (s_X3_hooksLying g d a x1_26 ha) rfl (Nat.le_of_ble_eq_true rfl)) ?_
      refine K_if_le (K := k) (pc := 36) (tgt := 43) dX3_wayAfter_36 (by decide) (fun z36 => ?_) (fun z36 => ?_)
      · refine J_loc (loc' := [(1, .int x1_26), (2, .int x2_26), (3, .int x3_26)]) [1, 2, 3] rfl ?_
        exact hX3_wayAfter_j43 x1_26 x2_26 x3_26
      · refine J_iconst (pc := 39) (v := 1) dX3_wayAfter_39 (by decide) ?_
        refine J_goto (pc := 40) (tgt := 44) dX3_wayAfter_40 (by decide) ?_
        refine J_loc (loc' := [(1, .int x1_26), (2, .int x2_26), (3, .int x3_26)]) [1, 2, 3] rfl ?_
        exact hX3_wayAfter_j44 x1_26 x2_26 x3_26 1
  have hX3_wayAfter_j93 : ∀ (y0_93 : Int32) (y1_93 : Int32) (y2_93 : Int32), J mi_X3_wayAfter 0 0 0 0 (g, d) 93 [] [.int y0_93, .int y1_93, .int y2_93] (k (f_X3_wayAfter_j93 (d.1 a) y0_93 y1_93 y2_93)) := by
    intro y0_93 y1_93 y2_93
    unfold f_X3_wayAfter_j93
    refine JC_pt_i (J_callS (mi := mi_X3_wayAfter) (mj := mi_X10_with) (pc := 93) dX3_wayAfter_93 ml_X3_75 ok_X10_with os_X10_with ⟨Nat.le_of_ble_eq_true rfl, Nat.le_of_ble_eq_true rfl⟩ rfl (s_X10_with g d y2_93 y1_93 y0_93) rfl (Nat.le_of_ble_eq_true rfl)) ?_
    exact J_eqo (hk (f_X10_with y2_93 y1_93 y0_93)) (J_iret (pc := 96) dX3_wayAfter_96 rfl)
  refine J_aload_n (pc := 0) 0 dX3_wayAfter_0 rfl rfl ?_
  refine J_iload_n (pc := 1) 3 dX3_wayAfter_1 rfl rfl ?_
  refine JC_pt_i (J_callV (mi := mi_X3_wayAfter) (mj := mi_X3_isGuarded) (pc := 2) dX3_wayAfter_2 ml_X3_136 ok_X3_isGuarded ov_X3_isGuarded ⟨Nat.le_of_ble_eq_true rfl, Nat.le_of_ble_eq_true rfl⟩ rfl (ha.lt 0 (by decide)) (ha.ty 0 rfl) rfl (s_X3_isGuarded g d a pq2 ha) rfl (Nat.le_of_ble_eq_true rfl)) ?_
  refine K_ifeq_b (K := k) (pc := 5) (tgt := 10) dX3_wayAfter_5 (by decide) (fun z5 => ?_) (fun z5 => ?_)
  · refine J_iload_n (pc := 10) 1 dX3_wayAfter_10 rfl rfl ?_
    refine J_iload_n (pc := 11) 3 dX3_wayAfter_11 rfl rfl ?_
    refine JC_pt_i (J_callS (mi := mi_X3_wayAfter) (mj := mi_X10_hungAt) (pc := 12) dX3_wayAfter_12 ml_X3_98 ok_X10_hungAt os_X10_hungAt ⟨Nat.le_of_ble_eq_true rfl, Nat.le_of_ble_eq_true rfl⟩ rfl (s_X10_hungAt g d pq0 pq2) rfl (Nat.le_of_ble_eq_true rfl)) ?_
    refine J_istore (pc := 15) (loc' := [(4, .int (f_X10_hungAt pq0 pq2)), (0, .ref a), (1, .int pq0), (2, .int pq1), (3, .int pq2)]) dX3_wayAfter_15 (by decide) rfl ?_
    refine J_iload_n (pc := 17) 3 dX3_wayAfter_17 rfl rfl ?_
    refine K_if_eq (K := k) (pc := 18) (tgt := 26) dX3_wayAfter_18 (by decide) (fun z18 => ?_) (fun z18 => ?_)
    · refine J_loc (loc' := [(0, .ref a), (1, .int pq0), (2, .int pq1), (3, .int pq2), (4, .int (f_X10_hungAt pq0 pq2))]) [1, 2, 3, 4, 0] rfl ?_
      exact hX3_wayAfter_j26 pq0 pq1 pq2 (f_X10_hungAt pq0 pq2)
    · refine J_iload_n (pc := 21) 3 dX3_wayAfter_21 rfl rfl ?_
      refine J_iconst (pc := 22) (v := 1) dX3_wayAfter_22 (by decide) ?_
      refine K_icmp_ne (K := k) (pc := 23) (tgt := 70) dX3_wayAfter_23 (by decide) (fun z23 => ?_) (fun z23 => ?_)
      · refine J_iload (pc := 70) 0 dX3_wayAfter_70 rfl ?_
        refine K_if_ne (K := k) (pc := 72) (tgt := 77) dX3_wayAfter_72 (by decide) (fun z72 => ?_) (fun z72 => ?_)
        · refine J_iload_n (pc := 77) 2 dX3_wayAfter_77 rfl rfl ?_
          refine J_iload_n (pc := 78) 4 dX3_wayAfter_78 rfl rfl ?_
          refine J_iload_n (pc := 79) 3 dX3_wayAfter_79 rfl rfl ?_
          refine J_iconst (pc := 80) (v := 3) dX3_wayAfter_80 (by decide) ?_
          refine K_icmp_ne (K := k) (pc := 81) (tgt := 92) dX3_wayAfter_81 (by decide) (fun z81 => ?_) (fun z81 => ?_)
          · refine J_iconst (pc := 92) (v := 0) dX3_wayAfter_92 (by decide) ?_
            refine J_loc (loc' := []) [] rfl ?_
            exact hX3_wayAfter_j93 0 pq2 pq0
          · refine J_iload (pc := 84) 0 dX3_wayAfter_84 rfl ?_
            refine JC_pt_i (J_callS (mi := mi_X3_wayAfter) (mj := mi_X3_turned) (pc := 86) dX3_wayAfter_86 ml_X3_139 ok_X3_turned os_X3_turned ⟨Nat.le_of_ble_eq_true rfl, Nat.le_of_ble_eq_true rfl⟩ rfl (s_X3_turned g d (f_X10_hungAt pq0 pq2)) rfl (Nat.le_of_ble_eq_true rfl)) ?_
            refine J_goto (pc := 89) (tgt := 93) dX3_wayAfter_89 (by decide) ?_
            refine J_loc (loc' := []) [] rfl ?_
            exact hX3_wayAfter_j93 (f_X3_turned (f_X10_hungAt pq0 pq2)) pq2 pq0
        · refine J_iconst (pc := 75) (v := (-1)) dX3_wayAfter_75 (by decide) ?_
          exact J_eqo (hk (-1)) (J_iret (pc := 76) dX3_wayAfter_76 rfl)
      · refine J_loc (loc' := [(0, .ref a), (1, .int pq0), (2, .int pq1), (3, .int pq2), (4, .int (f_X10_hungAt pq0 pq2))]) [1, 2, 3, 4, 0] rfl ?_
        exact hX3_wayAfter_j26 pq0 pq1 pq2 (f_X10_hungAt pq0 pq2)
  · refine J_iconst (pc := 8) (v := (-1)) dX3_wayAfter_8 (by decide) ?_
    exact J_eqo (hk (-1)) (J_iret (pc := 9) dX3_wayAfter_9 rfl)
def f_X1_exploreFrom_j58_2_10 (a : Nat) (c2_10_2 : Int32) (c3_10_2 : Int32) (d58_2_10 : JD) (x4_58_2_10 : Int32) : Option ((Int32 × JD) ⊕ (JD)) := (some (.inl (x4_58_2_10 + 1, d58_2_10)))
def f_X1_exploreFrom_w10_2 (a : Nat) (c2_10_2 : Int32) (c3_10_2 : Int32) (s10_2 : Int32 × JD) : Option ((Int32 × JD) ⊕ (JD)) := (if ((s10_2.2.1 a) 4) ≤ s10_2.1 then some (.inr s10_2.2) else (j_let (f_X3_wayAfter (s10_2.2.1 a) (f_X11_at (s10_2.2.1 33) 729 (c2_10_2)) (c3_10_2) s10_2.1) (fun v5_34_2_10 => if v5_34_2_10 = (-1) then f_X1_exploreFrom_j58_2_10 a (c2_10_2) (c3_10_2) s10_2.2 s10_2.1 else (j_let (f_X1_add s10_2.2 v5_34_2_10 (c2_10_2) (((c3_10_2) * ((s10_2.2.1 a) 4)) + s10_2.1)) (fun q55_2_10 => f_X1_exploreFrom_j58_2_10 a (c2_10_2) (c3_10_2) q55_2_10 s10_2.1)))))
def f_X1_exploreFrom_w2 (a : Nat) (c2_2 : Int32) (s2 : Int32 × JD) : Option ((Int32 × JD) ⊕ (JD)) := (if 3 < s2.1 then some (.inr s2.2) else ((j_wh (f_X1_exploreFrom_w10_2 a (c2_2) s2.1 ) j_fuel (0, s2.2)).bind (fun (e10_2 : JD) => (some (.inl (s2.1 + 1, e10_2))))))
def f_X1_exploreFrom (a : Nat) (d : JD) (pq1 : Int32) : Option (JD) := ((j_wh (f_X1_exploreFrom_w2 a pq1 ) j_fuel (0, d)).bind (fun (e2 : JD) => (some e2)))
set_option maxRecDepth 100000 in
set_option maxHeartbeats 4000000 in
theorem s_X1_exploreFrom (g : JG) (d : JD) (a : Nat) (pq1 : Int32) (h0 : j_sh g 0 TS_W RS_W) (ha : j_sh g a TS_CL RS_CL) : JM mi_X1_exploreFrom 0 0 (g, d) [.ref 32, .ref a, .int pq1] ((f_X1_exploreFrom a d pq1).bind (fun r9 => some (none, (g, r9)))) := by
  refine JM_of (by decide) rfl (Nat.le_of_ble_eq_true rfl) ?_
  refine J_loc (loc' := [(0, .ref 32), (1, .ref a), (2, .int pq1)]) [0, 1, 2] rfl ?_
  obtain ⟨k, hk, hk2⟩ : ∃ k : JD → Option (Option Value × JH), (∀ r9, k r9 = some (none, (g, r9))) ∧ (fun r9 : JD => (some (none, (g, r9)) : Option (Option Value × JH))) = k := ⟨_, fun _ => rfl, rfl⟩
  rw [hk2]
  unfold f_X1_exploreFrom
  refine J_iconst (pc := 0) (v := 0) dX1_exploreFrom_0 (by decide) ?_
  refine J_istore_n (pc := 1) (loc' := [(3, .int 0), (0, .ref 32), (1, .ref a), (2, .int pq1)]) dX1_exploreFrom_1 rfl (by decide) rfl ?_
  refine J_loc (loc' := [(0, .ref 32), (1, .ref a), (2, .int pq1), (3, .int 0)]) [1, 2, 3, 0] rfl ?_
  refine J_whL (F := f_X1_exploreFrom_w2 a pq1 ) (hp := fun (s2 : Int32 × JD) => (g, s2.2)) (lc := fun (s2 : Int32 × JD) => [(0, .ref 32), (1, .ref a), (2, .int (pq1)), (3, .int s2.1)]) (XJ := fun (e2 : JD) o9 => J mi_X1_exploreFrom 0 0 0 0 (g, e2) 70 [] [] o9) (fun s2 k2 hB2 hX2 => ?_) (fun e2 => ?_) _ (0, d)
  · show J mi_X1_exploreFrom 0 0 0 0 (g, s2.2) 2 [(0, .ref 32), (1, .ref a), (2, .int (pq1)), (3, .int s2.1)] [] ((f_X1_exploreFrom_w2 a pq1 s2).bind k2)
    unfold f_X1_exploreFrom_w2
    refine J_iload_n (pc := 2) 3 dX1_exploreFrom_2 rfl rfl ?_
    refine J_iconst (pc := 3) (v := 3) dX1_exploreFrom_3 (by decide) ?_
    refine K_icmp_gt (K := (fun x => Option.bind x k2)) (pc := 4) (tgt := 70) dX1_exploreFrom_4 (by decide) (fun z4 => ?_) (fun z4 => ?_)
    · refine J_loc (loc' := []) [] rfl ?_
      exact hX2 s2.2
    · refine J_iconst (pc := 7) (v := 0) dX1_exploreFrom_7 (by decide) ?_
      refine J_istore (pc := 8) (loc' := [(4, .int 0), (0, .ref 32), (1, .ref a), (2, .int (pq1)), (3, .int s2.1)]) dX1_exploreFrom_8 (by decide) rfl ?_
      refine J_loc (loc' := [(0, .ref 32), (1, .ref a), (2, .int (pq1)), (3, .int s2.1), (4, .int 0)]) [1, 2, 3, 4, 0] rfl ?_
      refine J_whL (F := f_X1_exploreFrom_w10_2 a (pq1) s2.1 ) (hp := fun (s10_2 : Int32 × JD) => (g, s10_2.2)) (lc := fun (s10_2 : Int32 × JD) => [(0, .ref 32), (1, .ref a), (2, .int ((pq1))), (3, .int (s2.1)), (4, .int s10_2.1)]) (XJ := fun (e10_2 : JD) o9 => J mi_X1_exploreFrom 0 0 0 0 (g, e10_2) 64 [(0, .ref 32), (1, .ref a), (2, .int (pq1)), (3, .int s2.1)] [] o9) (fun s10_2 k10_2 hB10_2 hX10_2 => ?_) (fun e10_2 => ?_) _ (0, s2.2)
      · show J mi_X1_exploreFrom 0 0 0 0 (g, s10_2.2) 10 [(0, .ref 32), (1, .ref a), (2, .int ((pq1))), (3, .int (s2.1)), (4, .int s10_2.1)] [] ((f_X1_exploreFrom_w10_2 a (pq1) s2.1 s10_2).bind k10_2)
        unfold f_X1_exploreFrom_w10_2
        have hX1_exploreFrom_j58_2_10 : ∀ (d58_2_10 : JD) (x4_58_2_10 : Int32), J mi_X1_exploreFrom 0 0 0 0 (g, d58_2_10) 58 [(0, .ref 32), (1, .ref a), (2, .int ((pq1))), (3, .int (s2.1)), (4, .int x4_58_2_10)] [] ((f_X1_exploreFrom_j58_2_10 a (pq1) s2.1 d58_2_10 x4_58_2_10).bind k10_2) := by
          intro d58_2_10 x4_58_2_10
          unfold f_X1_exploreFrom_j58_2_10
          refine J_iinc (pc := 58) (v := x4_58_2_10 + 1) (loc' := [(4, .int (x4_58_2_10 + 1)), (0, .ref 32), (1, .ref a), (2, .int ((pq1))), (3, .int (s2.1))]) 4 dX1_exploreFrom_58 rfl rfl (by decide) rfl ?_
          refine J_goto (pc := 61) (tgt := 10) dX1_exploreFrom_61 (by decide) ?_
          refine J_loc (loc' := [(0, .ref 32), (1, .ref a), (2, .int ((pq1))), (3, .int (s2.1)), (4, .int (x4_58_2_10 + 1))]) [1, 2, 3, 4, 0] rfl ?_
          exact hB10_2 (x4_58_2_10 + 1, d58_2_10)
        refine J_iload (pc := 10) 4 dX1_exploreFrom_10 rfl ?_
        refine J_aload_n (pc := 12) 1 dX1_exploreFrom_12 rfl rfl ?_
        refine J_getI (pc := 13) dX1_exploreFrom_13 fl_X1_44 (ha.lt 0 (by decide)) (ha.ty 0 rfl) rfl ?_
        refine K_icmp_ge (K := (fun x => Option.bind x k10_2)) (pc := 16) (tgt := 64) dX1_exploreFrom_16 (by decide) (fun z16 => ?_) (fun z16 => ?_)
        · refine J_loc (loc' := [(0, .ref 32), (1, .ref a), (2, .int ((pq1))), (3, .int (s2.1))]) [0, 1, 2, 3] rfl ?_
          exact hX10_2 s10_2.2
        · refine J_aload_n (pc := 19) 1 dX1_exploreFrom_19 rfl rfl ?_
          refine J_aload_n (pc := 20) 0 dX1_exploreFrom_20 rfl rfl ?_
          refine J_getR (pc := 21) dX1_exploreFrom_21 fl_X1_11 (h0.lt 32 (by decide)) (h0.ty 32 rfl) rfl (h0.rf 35 rfl) ?_
          refine J_iload_n (pc := 24) 2 dX1_exploreFrom_24 rfl rfl ?_
          refine JC_pt_i (J_callS (mi := mi_X1_exploreFrom) (mj := mi_X11_at) (pc := 25) dX1_exploreFrom_25 ml_X1_49 ok_X11_at os_X11_at ⟨Nat.le_of_ble_eq_true rfl, Nat.le_of_ble_eq_true rfl⟩ rfl (s_X11_at g s10_2.2 33 729 (pq1) (⟨(h0.lt 33 (by decide)), (h0.ty 33 rfl), by decide⟩)) rfl (Nat.le_of_ble_eq_true rfl)) ?_
          refine J_iload_n (pc := 28) 3 dX1_exploreFrom_28 rfl rfl ?_
          refine J_iload (pc := 29) 4 dX1_exploreFrom_29 rfl ?_
          refine JC_pt_i (J_callV (mi := mi_X1_exploreFrom) (mj := mi_X3_wayAfter) (pc := 31) dX1_exploreFrom_31 ml_X1_53 ok_X3_wayAfter ov_X3_wayAfter ⟨Nat.le_of_ble_eq_true rfl, Nat.le_of_ble_eq_true rfl⟩ rfl (ha.lt 0 (by decide)) (ha.ty 0 rfl) rfl (s_X3_wayAfter g s10_2.2 a (f_X11_at (s10_2.2.1 33) 729 ((pq1))) s2.1 s10_2.1 ha) rfl (Nat.le_of_ble_eq_true rfl)) ?_
          refine J_let (K := (fun x => Option.bind x k10_2)) (fun v5_34_2_10 ev5_34_2_10 => ?_)
          refine J_val ev5_34_2_10.symm ?_
          refine J_istore (pc := 34) (loc' := [(5, .int v5_34_2_10), (0, .ref 32), (1, .ref a), (2, .int ((pq1))), (3, .int (s2.1)), (4, .int s10_2.1)]) dX1_exploreFrom_34 (by decide) rfl ?_
          refine J_iload (pc := 36) 0 dX1_exploreFrom_36 rfl ?_
          refine J_iconst (pc := 38) (v := (-1)) dX1_exploreFrom_38 (by decide) ?_
          refine K_icmp_eq (K := (fun x => Option.bind x k10_2)) (pc := 39) (tgt := 58) dX1_exploreFrom_39 (by decide) (fun z39 => ?_) (fun z39 => ?_)
          · refine J_loc (loc' := [(0, .ref 32), (1, .ref a), (2, .int ((pq1))), (3, .int (s2.1)), (4, .int s10_2.1)]) [1, 2, 3, 4, 5] rfl ?_
            exact hX1_exploreFrom_j58_2_10 s10_2.2 s10_2.1
          · refine J_aload_n (pc := 42) 1 dX1_exploreFrom_42 rfl rfl ?_
            refine J_iload (pc := 43) 0 dX1_exploreFrom_43 rfl ?_
            refine J_iload_n (pc := 45) 3 dX1_exploreFrom_45 rfl rfl ?_
            refine J_iload_n (pc := 46) 4 dX1_exploreFrom_46 rfl rfl ?_
            refine J_aload_n (pc := 47) 2 dX1_exploreFrom_47 rfl rfl ?_
            refine J_getI (pc := 48) dX1_exploreFrom_48 fl_X1_44 (ha.lt 0 (by decide)) (ha.ty 0 rfl) rfl ?_
            refine J_imul (pc := 51) dX1_exploreFrom_51 ?_
            refine J_iload (pc := 52) 5 dX1_exploreFrom_52 rfl ?_
            refine J_iadd (pc := 54) dX1_exploreFrom_54 ?_
            refine JC_lt_v (K := (fun x => Option.bind x k10_2)) (J_callV (mi := mi_X1_exploreFrom) (mj := mi_X1_add) (pc := 55) dX1_exploreFrom_55 ml_X1_36 ok_X1_add ov_X1_add ⟨Nat.le_of_ble_eq_true rfl, Nat.le_of_ble_eq_true rfl⟩ rfl (h0.lt 32 (by decide)) (h0.ty 32 rfl) rfl (s_X1_add g s10_2.2 v5_34_2_10 (pq1) (((s2.1) * ((s10_2.2.1 a) 4)) + s10_2.1) h0) rfl (Nat.le_of_ble_eq_true rfl)) (fun q55_2_10 eq55_2_10 => ?_)
            refine J_loc (loc' := [(0, .ref 32), (1, .ref a), (2, .int ((pq1))), (3, .int (s2.1)), (4, .int s10_2.1)]) [1, 2, 3, 4, 5] rfl ?_
            exact hX1_exploreFrom_j58_2_10 q55_2_10 s10_2.1
      · show J mi_X1_exploreFrom 0 0 0 0 (g, e10_2) 64 [(0, .ref 32), (1, .ref a), (2, .int (pq1)), (3, .int s2.1)] [] (_)
        refine J_iinc (pc := 64) (v := s2.1 + 1) (loc' := [(3, .int (s2.1 + 1)), (0, .ref 32), (1, .ref a), (2, .int (pq1))]) 3 dX1_exploreFrom_64 rfl rfl (by decide) rfl ?_
        refine J_goto (pc := 67) (tgt := 2) dX1_exploreFrom_67 (by decide) ?_
        refine J_loc (loc' := [(0, .ref 32), (1, .ref a), (2, .int (pq1)), (3, .int (s2.1 + 1))]) [1, 2, 3, 0] rfl ?_
        exact hB2 (s2.1 + 1, e10_2)
  · show J mi_X1_exploreFrom 0 0 0 0 (g, e2) 70 [] [] (_)
    exact J_eqo (hk e2) (J_vret (pc := 70) dX1_exploreFrom_70 rfl)
def f_X1_explore_w21 (a : Nat) (c2_21 : Int32) (s21 : Int32 × JD) : Option ((Int32 × JD) ⊕ (JD)) := (if 128 ≤ s21.1 then some (.inr s21.2) else (if j_out s21.1 128 then none else some (.inl (s21.1 + 1, j_sI s21.2 37 s21.1.toNatClampNeg 0))))
def f_X1_explore_w52 (a : Nat) (s52 : Int32 × JD) : Option ((Int32 × JD) ⊕ (JD)) := (if ((s52.2.1 32) 6) ≤ s52.1 then some (.inr s52.2) else (if 729 ≤ s52.1 then some (.inr s52.2) else ((f_X1_exploreFrom a s52.2 s52.1).bind (fun q70_52 => some (.inl (s52.1 + 1, q70_52))))))
def f_X1_explore (a : Nat) (d : JD) (pq1 : Int32) : Option (JD) := (if ((d.1 32) 5) = pq1 then (some d) else ((j_wh (f_X1_explore_w21 a pq1 ) j_fuel (0, j_sI (j_sI d 32 5 pq1) 32 6 0)).bind (fun (e21 : JD) => (j_let (f_X1_add e21 pq1 (-1) (-1)) (fun q47 => (j_wh (f_X1_explore_w52 a ) j_fuel (0, q47)).bind (fun (e52 : JD) => (some e52)))))))
set_option maxRecDepth 100000 in
set_option maxHeartbeats 4000000 in
theorem s_X1_explore (g : JG) (d : JD) (a : Nat) (pq1 : Int32) (h0 : j_sh g 0 TS_W RS_W) (ha : j_sh g a TS_CL RS_CL) : JM mi_X1_explore 0 0 (g, d) [.ref 32, .ref a, .int pq1] ((f_X1_explore a d pq1).bind (fun r9 => some (none, (g, r9)))) := by
  refine JM_of (by decide) rfl (Nat.le_of_ble_eq_true rfl) ?_
  refine J_loc (loc' := [(0, .ref 32), (1, .ref a), (2, .int pq1)]) [0, 1, 2] rfl ?_
  obtain ⟨k, hk, hk2⟩ : ∃ k : JD → Option (Option Value × JH), (∀ r9, k r9 = some (none, (g, r9))) ∧ (fun r9 : JD => (some (none, (g, r9)) : Option (Option Value × JH))) = k := ⟨_, fun _ => rfl, rfl⟩
  rw [hk2]
  unfold f_X1_explore
  refine J_aload_n (pc := 0) 0 dX1_explore_0 rfl rfl ?_
  refine J_getI (pc := 1) dX1_explore_1 fl_X1_29 (h0.lt 32 (by decide)) (h0.ty 32 rfl) rfl ?_
  refine J_iload_n (pc := 4) 2 dX1_explore_4 rfl rfl ?_
  refine K_icmp_ne (K := (fun x => Option.bind x k)) (pc := 5) (tgt := 9) dX1_explore_5 (by decide) (fun z5 => ?_) (fun z5 => ?_)
  · refine J_aload_n (pc := 9) 0 dX1_explore_9 rfl rfl ?_
    refine J_iload_n (pc := 10) 2 dX1_explore_10 rfl rfl ?_
    refine J_putI (pc := 11) dX1_explore_11 fl_X1_29 ft_1_5 (h0.lt 32 (by decide)) (h0.ty 32 rfl) rfl rfl rfl ?_
    refine J_aload_n (pc := 14) 0 dX1_explore_14 rfl rfl ?_
    refine J_iconst (pc := 15) (v := 0) dX1_explore_15 (by decide) ?_
    refine J_putI (pc := 16) dX1_explore_16 fl_X1_33 ft_1_6 (h0.lt 32 (by decide)) (h0.ty 32 rfl) rfl rfl rfl ?_
    refine J_iconst (pc := 19) (v := 0) dX1_explore_19 (by decide) ?_
    refine J_istore_n (pc := 20) (loc' := [(3, .int 0), (0, .ref 32), (1, .ref a), (2, .int pq1)]) dX1_explore_20 rfl (by decide) rfl ?_
    refine J_loc (loc' := [(0, .ref 32), (1, .ref a), (2, .int pq1), (3, .int 0)]) [1, 2, 3, 0] rfl ?_
    refine J_whL (F := f_X1_explore_w21 a pq1 ) (hp := fun (s21 : Int32 × JD) => (g, s21.2)) (lc := fun (s21 : Int32 × JD) => [(0, .ref 32), (1, .ref a), (2, .int (pq1)), (3, .int s21.1)]) (XJ := fun (e21 : JD) o9 => J mi_X1_explore 0 0 0 0 (g, e21) 43 [(0, .ref 32), (1, .ref a), (2, .int pq1)] [] o9) (fun s21 k21 hB21 hX21 => ?_) (fun e21 => ?_) _ (0, j_sI (j_sI d 32 5 pq1) 32 6 0)
    · show J mi_X1_explore 0 0 0 0 (g, s21.2) 21 [(0, .ref 32), (1, .ref a), (2, .int (pq1)), (3, .int s21.1)] [] ((f_X1_explore_w21 a pq1 s21).bind k21)
      unfold f_X1_explore_w21
      refine J_iload_n (pc := 21) 3 dX1_explore_21 rfl rfl ?_
      refine J_aload_n (pc := 22) 0 dX1_explore_22 rfl rfl ?_
      refine J_getR (pc := 23) dX1_explore_23 fl_X1_26 (h0.lt 32 (by decide)) (h0.ty 32 rfl) rfl (h0.rf 39 rfl) ?_
      refine J_alenI (pc := 26) (v := 128) dX1_explore_26 (h0.lt 37 (by decide)) (h0.ty 37 rfl) rfl ?_
      refine K_icmp_ge (K := (fun x => Option.bind x k21)) (pc := 27) (tgt := 43) dX1_explore_27 (by decide) (fun z27 => ?_) (fun z27 => ?_)
      · refine J_loc (loc' := [(0, .ref 32), (1, .ref a), (2, .int (pq1))]) [0, 1, 2] rfl ?_
        exact hX21 s21.2
      · refine J_aload_n (pc := 30) 0 dX1_explore_30 rfl rfl ?_
        refine J_getR (pc := 31) dX1_explore_31 fl_X1_26 (h0.lt 32 (by decide)) (h0.ty 32 rfl) rfl (h0.rf 39 rfl) ?_
        refine J_iload_n (pc := 34) 3 dX1_explore_34 rfl rfl ?_
        refine J_iconst (pc := 35) (v := 0) dX1_explore_35 (by decide) ?_
        refine J_guard (fun z36 => ?_)
        refine J_iast (pc := 36) dX1_explore_36 (h0.lt 37 (by decide)) (h0.ty 37 rfl) z36 ?_
        refine J_iinc (pc := 37) (v := s21.1 + 1) (loc' := [(3, .int (s21.1 + 1)), (0, .ref 32), (1, .ref a), (2, .int (pq1))]) 3 dX1_explore_37 rfl rfl (by decide) rfl ?_
        refine J_goto (pc := 40) (tgt := 21) dX1_explore_40 (by decide) ?_
        refine J_loc (loc' := [(0, .ref 32), (1, .ref a), (2, .int (pq1)), (3, .int (s21.1 + 1))]) [1, 2, 3, 0] rfl ?_
        exact hB21 (s21.1 + 1, j_sI s21.2 37 s21.1.toNatClampNeg 0)
    · show J mi_X1_explore 0 0 0 0 (g, e21) 43 [(0, .ref 32), (1, .ref a), (2, .int pq1)] [] (_)
      refine J_aload_n (pc := 43) 0 dX1_explore_43 rfl rfl ?_
      refine J_iload_n (pc := 44) 2 dX1_explore_44 rfl rfl ?_
      refine J_iconst (pc := 45) (v := (-1)) dX1_explore_45 (by decide) ?_
      refine J_iconst (pc := 46) (v := (-1)) dX1_explore_46 (by decide) ?_
      refine JC_lt_v (K := (fun x => Option.bind x k)) (J_callV (mi := mi_X1_explore) (mj := mi_X1_add) (pc := 47) dX1_explore_47 ml_X1_36 ok_X1_add ov_X1_add ⟨Nat.le_of_ble_eq_true rfl, Nat.le_of_ble_eq_true rfl⟩ rfl (h0.lt 32 (by decide)) (h0.ty 32 rfl) rfl (s_X1_add g e21 pq1 (-1) (-1) h0) rfl (Nat.le_of_ble_eq_true rfl)) (fun q47 eq47 => ?_)
      refine J_iconst (pc := 50) (v := 0) dX1_explore_50 (by decide) ?_
      refine J_istore_n (pc := 51) (loc' := [(3, .int 0), (0, .ref 32), (1, .ref a), (2, .int pq1)]) dX1_explore_51 rfl (by decide) rfl ?_
      refine J_loc (loc' := [(0, .ref 32), (1, .ref a), (3, .int 0)]) [1, 2, 0] rfl ?_
      refine J_whL (F := f_X1_explore_w52 a ) (hp := fun (s52 : Int32 × JD) => (g, s52.2)) (lc := fun (s52 : Int32 × JD) => [(0, .ref 32), (1, .ref a), (3, .int s52.1)]) (XJ := fun (e52 : JD) o9 => J mi_X1_explore 0 0 0 0 (g, e52) 79 [] [] o9) (fun s52 k52 hB52 hX52 => ?_) (fun e52 => ?_) _ (0, q47)
      · show J mi_X1_explore 0 0 0 0 (g, s52.2) 52 [(0, .ref 32), (1, .ref a), (3, .int s52.1)] [] ((f_X1_explore_w52 a s52).bind k52)
        unfold f_X1_explore_w52
        refine J_iload_n (pc := 52) 2 dX1_explore_52 rfl rfl ?_
        refine J_aload_n (pc := 53) 0 dX1_explore_53 rfl rfl ?_
        refine J_getI (pc := 54) dX1_explore_54 fl_X1_33 (h0.lt 32 (by decide)) (h0.ty 32 rfl) rfl ?_
        refine K_icmp_ge (K := (fun x => Option.bind x k52)) (pc := 57) (tgt := 79) dX1_explore_57 (by decide) (fun z57 => ?_) (fun z57 => ?_)
        · refine J_loc (loc' := []) [] rfl ?_
          exact hX52 s52.2
        · refine J_iload_n (pc := 60) 2 dX1_explore_60 rfl rfl ?_
          refine J_sipush (pc := 61) (v := 729) dX1_explore_61 (by decide) ?_
          refine K_icmp_ge (K := (fun x => Option.bind x k52)) (pc := 64) (tgt := 79) dX1_explore_64 (by decide) (fun z64 => ?_) (fun z64 => ?_)
          · refine J_loc (loc' := []) [] rfl ?_
            exact hX52 s52.2
          · refine J_aload_n (pc := 67) 0 dX1_explore_67 rfl rfl ?_
            refine J_aload_n (pc := 68) 1 dX1_explore_68 rfl rfl ?_
            refine J_iload_n (pc := 69) 2 dX1_explore_69 rfl rfl ?_
            refine JC_pe_v (J_callV (mi := mi_X1_explore) (mj := mi_X1_exploreFrom) (pc := 70) dX1_explore_70 ml_X1_40 ok_X1_exploreFrom ov_X1_exploreFrom ⟨Nat.le_of_ble_eq_true rfl, Nat.le_of_ble_eq_true rfl⟩ rfl (h0.lt 32 (by decide)) (h0.ty 32 rfl) rfl (s_X1_exploreFrom g s52.2 a s52.1 h0 ha) rfl (Nat.le_of_ble_eq_true rfl)) (fun q70_52 => ?_)
            refine J_iinc (pc := 73) (v := s52.1 + 1) (loc' := [(3, .int (s52.1 + 1)), (0, .ref 32), (1, .ref a)]) 2 dX1_explore_73 rfl rfl (by decide) rfl ?_
            refine J_goto (pc := 76) (tgt := 52) dX1_explore_76 (by decide) ?_
            refine J_loc (loc' := [(0, .ref 32), (1, .ref a), (3, .int (s52.1 + 1))]) [1, 2, 0] rfl ?_
            exact hB52 (s52.1 + 1, q70_52)
      · show J mi_X1_explore 0 0 0 0 (g, e52) 79 [] [] (_)
        exact J_eqo (hk e52) (J_vret (pc := 79) dX1_explore_79 rfl)
  · exact J_eqo (hk d) (J_vret (pc := 8) dX1_explore_8 rfl)
def f_X1_firstMeetingWants_b14 (r_32 : Nat → Int32) (r_33 : Nat → Int32) (r_a7 : Nat → Int32) (r_a9 : Nat → Int32) (r_a10 : Nat → Int32) (r_a11 : Nat → Int32) (r_a12 : Nat → Int32) (c2_14 : Int32) (i14 : Int32) (s14 : Unit) : Int32 ⊕ (Unit) := (if (f_X0_wantsMet r_a7 r_a9 r_a10 r_a11 r_a12 (f_X11_at r_33 729 i14)) = (c2_14) then (Sum.inl i14) else (.inr ()))
def f_X1_firstMeetingWants (r_32 : Nat → Int32) (r_33 : Nat → Int32) (r_a7 : Nat → Int32) (r_a9 : Nat → Int32) (r_a10 : Nat → Int32) (r_a11 : Nat → Int32) (r_a12 : Nat → Int32) : Int32 := (j_let (j_fo (r_32 6) (f_X1_firstMeetingWants_b14 r_32 r_33 r_a7 r_a9 r_a10 r_a11 r_a12 (((1 : Int32) <<< ((r_a9 0) &&& 31)) - 1) ) (j_mu (r_32 6) 0) 0 ()) (Sum.elim (fun r9 => r9) (fun (s14 : Unit) => (-1))))
set_option maxRecDepth 100000 in
set_option maxHeartbeats 4000000 in
theorem s_X1_firstMeetingWants (g : JG) (d : JD) (a : Nat) (h0 : j_sh g 0 TS_W RS_W) (ha : j_sh g a TS_CL RS_CL) : JM mi_X1_firstMeetingWants 0 0 (g, d) [.ref 32, .ref a] (some (some (.int (f_X1_firstMeetingWants (d.1 32) (d.1 33) (d.1 (a + 7)) (d.1 (a + 9)) (d.1 (a + 10)) (d.1 (a + 11)) (d.1 (a + 12)) )), (g, d))) := by
  refine JM_of (by decide) rfl (Nat.le_of_ble_eq_true rfl) ?_
  refine J_loc (loc' := [(0, .ref 32), (1, .ref a)]) [0, 1] rfl ?_
  obtain ⟨k, hk⟩ : ∃ k : Int32 → Option (Option Value × JH), ∀ r9, k r9 = some (some (.int r9), (g, d)) := ⟨_, fun _ => rfl⟩
  refine J_eqo (hk (f_X1_firstMeetingWants (d.1 32) (d.1 33) (d.1 (a + 7)) (d.1 (a + 9)) (d.1 (a + 10)) (d.1 (a + 11)) (d.1 (a + 12)) )).symm ?_
  unfold f_X1_firstMeetingWants
  refine J_iconst (pc := 0) (v := 1) dX1_firstMeetingWants_0 (by decide) ?_
  refine J_aload_n (pc := 1) 1 dX1_firstMeetingWants_1 rfl rfl ?_
  refine J_getR (pc := 2) dX1_firstMeetingWants_2 fl_X1_69 (ha.lt 0 (by decide)) (ha.ty 0 rfl) rfl (ha.rf 8 rfl) ?_
  refine J_getI (pc := 5) dX1_firstMeetingWants_5 fl_X1_73 (ha.lt 9 (by decide)) (ha.ty 9 rfl) rfl ?_
  refine J_ishl (pc := 8) dX1_firstMeetingWants_8 ?_
  refine J_iconst (pc := 9) (v := 1) dX1_firstMeetingWants_9 (by decide) ?_
  refine J_isub (pc := 10) dX1_firstMeetingWants_10 ?_
  refine J_istore_n (pc := 11) (loc' := [(2, .int (((1 : Int32) <<< (((d.1 (a + 9)) 0) &&& 31)) - 1)), (0, .ref 32), (1, .ref a)]) dX1_firstMeetingWants_11 rfl (by decide) rfl ?_
  refine J_iconst (pc := 12) (v := 0) dX1_firstMeetingWants_12 (by decide) ?_
  refine J_istore_n (pc := 13) (loc' := [(3, .int 0), (2, .int (((1 : Int32) <<< (((d.1 (a + 9)) 0) &&& 31)) - 1)), (0, .ref 32), (1, .ref a)]) dX1_firstMeetingWants_13 rfl (by decide) rfl ?_
  refine J_loc (loc' := [(0, .ref 32), (1, .ref a), (2, .int (((1 : Int32) <<< (((d.1 (a + 9)) 0) &&& 31)) - 1)), (3, .int 0)]) [2, 3, 1, 0] rfl ?_
  refine J_foL (K := k) (fr := fun r9 => r9) (b := (d.1 32) 6) (G := f_X1_firstMeetingWants_b14 (d.1 32) (d.1 33) (d.1 (a + 7)) (d.1 (a + 9)) (d.1 (a + 10)) (d.1 (a + 11)) (d.1 (a + 12)) (((1 : Int32) <<< (((d.1 (a + 9)) 0) &&& 31)) - 1) ) (hp := fun (s14 : Unit) => (g, d)) (lc := fun (i14 : Int32) (s14 : Unit) => [(0, .ref 32), (1, .ref a), (2, .int ((((1 : Int32) <<< (((d.1 (a + 9)) 0) &&& 31)) - 1))), (3, .int i14)]) (XJ := fun (i14 : Int32) (s14 : Unit) o9 => J mi_X1_firstMeetingWants 0 0 0 0 (g, d) 50 [] [] o9) (RJ := fun r9 o9 => o9 = some (some (.int r9), (g, d))) (fun i14 s14 o14 Kb14 hX14 hR14 hB14 => ?_) (fun i14 s14 => ?_) (fun r9 => hk r9) _ _ () (Nat.le_refl _)
  · show J mi_X1_firstMeetingWants 0 0 0 0 (g, d) 14 [(0, .ref 32), (1, .ref a), (2, .int ((((1 : Int32) <<< (((d.1 (a + 9)) 0) &&& 31)) - 1))), (3, .int i14)] [] (if ((d.1 32) 6) ≤ i14 then o14 else Kb14 (f_X1_firstMeetingWants_b14 (d.1 32) (d.1 33) (d.1 (a + 7)) (d.1 (a + 9)) (d.1 (a + 10)) (d.1 (a + 11)) (d.1 (a + 12)) (((1 : Int32) <<< (((d.1 (a + 9)) 0) &&& 31)) - 1) i14 s14))
    refine J_iload_n (pc := 14) 3 dX1_firstMeetingWants_14 rfl rfl ?_
    refine J_aload_n (pc := 15) 0 dX1_firstMeetingWants_15 rfl rfl ?_
    refine J_getI (pc := 16) dX1_firstMeetingWants_16 fl_X1_33 (h0.lt 32 (by decide)) (h0.ty 32 rfl) rfl ?_
    refine J_icmp_ge (pc := 19) (tgt := 50) dX1_firstMeetingWants_19 (by decide) (fun z14 => ?_) (fun z14 => ?_)
    · refine J_loc (loc' := []) [] rfl ?_
      exact hX14 z14
    · unfold f_X1_firstMeetingWants_b14
      refine J_aload_n (pc := 22) 1 dX1_firstMeetingWants_22 rfl rfl ?_
      refine J_getR (pc := 23) dX1_firstMeetingWants_23 fl_X1_69 (ha.lt 0 (by decide)) (ha.ty 0 rfl) rfl (ha.rf 8 rfl) ?_
      refine J_aload_n (pc := 26) 1 dX1_firstMeetingWants_26 rfl rfl ?_
      refine J_aload_n (pc := 27) 0 dX1_firstMeetingWants_27 rfl rfl ?_
      refine J_getR (pc := 28) dX1_firstMeetingWants_28 fl_X1_11 (h0.lt 32 (by decide)) (h0.ty 32 rfl) rfl (h0.rf 35 rfl) ?_
      refine J_iload_n (pc := 31) 3 dX1_firstMeetingWants_31 rfl rfl ?_
      refine JC_pt_i (J_callS (mi := mi_X1_firstMeetingWants) (mj := mi_X11_at) (pc := 32) dX1_firstMeetingWants_32 ml_X1_49 ok_X11_at os_X11_at ⟨Nat.le_of_ble_eq_true rfl, Nat.le_of_ble_eq_true rfl⟩ rfl (s_X11_at g d 33 729 i14 (⟨(h0.lt 33 (by decide)), (h0.ty 33 rfl), by decide⟩)) rfl (Nat.le_of_ble_eq_true rfl)) ?_
      refine JC_pt_i (J_callV (mi := mi_X1_firstMeetingWants) (mj := mi_X0_wantsMet) (pc := 35) dX1_firstMeetingWants_35 ml_X1_78 ok_X0_wantsMet ov_X0_wantsMet ⟨Nat.le_of_ble_eq_true rfl, Nat.le_of_ble_eq_true rfl⟩ rfl (ha.lt 9 (by decide)) (ha.ty 9 rfl) rfl (s_X0_wantsMet g d a (a + 9) (f_X11_at (d.1 33) 729 i14) ha (sh_CC_CL9 ha)) rfl (Nat.le_of_ble_eq_true rfl)) ?_
      refine J_iload_n (pc := 38) 2 dX1_firstMeetingWants_38 rfl rfl ?_
      refine K_icmp_ne (K := Kb14) (pc := 39) (tgt := 44) dX1_firstMeetingWants_39 (by decide) (fun z39 => ?_) (fun z39 => ?_)
      · refine J_iinc (pc := 44) (v := i14 + 1) (loc' := [(3, .int (i14 + 1)), (0, .ref 32), (1, .ref a), (2, .int ((((1 : Int32) <<< (((d.1 (a + 9)) 0) &&& 31)) - 1)))]) 3 dX1_firstMeetingWants_44 rfl rfl (by decide) rfl ?_
        refine J_goto (pc := 47) (tgt := 14) dX1_firstMeetingWants_47 (by decide) ?_
        refine J_loc (loc' := [(0, .ref 32), (1, .ref a), (2, .int ((((1 : Int32) <<< (((d.1 (a + 9)) 0) &&& 31)) - 1))), (3, .int (i14 + 1))]) [1, 2, 3, 0] rfl ?_
        exact hB14 z14 ()
      · refine J_iload_n (pc := 42) 3 dX1_firstMeetingWants_42 rfl rfl ?_
        exact J_eqo (hR14 i14) (J_iret (pc := 43) dX1_firstMeetingWants_43 rfl)
  · show J mi_X1_firstMeetingWants 0 0 0 0 (g, d) 50 [] [] (_)
    refine J_iconst (pc := 50) (v := (-1)) dX1_firstMeetingWants_50 (by decide) ?_
    exact J_eqo (hk (-1)) (J_iret (pc := 51) dX1_firstMeetingWants_51 rfl)
def f_X1_firstWithWealth_b3 (r_32 : Nat → Int32) (r_33 : Nat → Int32) (r_a0 : Nat → Int32) (r_a7 : Nat → Int32) (r_a8 : Nat → Int32) (c2_3 : Int32) (c3_3 : Int32) (i3 : Int32) (s3 : Unit) : Int32 ⊕ (Unit) := (if (f_X3_wealth r_a0 r_a7 r_a8 (c2_3) (f_X11_at r_33 729 i3)) < (c3_3) then (.inr ()) else (Sum.inl i3))
def f_X1_firstWithWealth (r_32 : Nat → Int32) (r_33 : Nat → Int32) (r_a0 : Nat → Int32) (r_a7 : Nat → Int32) (r_a8 : Nat → Int32) (pq1 : Int32) (pq2 : Int32) : Int32 := (j_let (j_fo (r_32 6) (f_X1_firstWithWealth_b3 r_32 r_33 r_a0 r_a7 r_a8 pq1 pq2 ) (j_mu (r_32 6) 0) 0 ()) (Sum.elim (fun r9 => r9) (fun (s3 : Unit) => (-1))))
set_option maxRecDepth 100000 in
set_option maxHeartbeats 4000000 in
theorem s_X1_firstWithWealth (g : JG) (d : JD) (a : Nat) (pq1 : Int32) (pq2 : Int32) (h0 : j_sh g 0 TS_W RS_W) (ha : j_sh g a TS_CL RS_CL) : JM mi_X1_firstWithWealth 0 0 (g, d) [.ref 32, .ref a, .int pq1, .int pq2] (some (some (.int (f_X1_firstWithWealth (d.1 32) (d.1 33) (d.1 a) (d.1 (a + 7)) (d.1 (a + 8)) pq1 pq2)), (g, d))) := by
  refine JM_of (by decide) rfl (Nat.le_of_ble_eq_true rfl) ?_
  refine J_loc (loc' := [(0, .ref 32), (1, .ref a), (2, .int pq1), (3, .int pq2)]) [0, 1, 2, 3] rfl ?_
  obtain ⟨k, hk⟩ : ∃ k : Int32 → Option (Option Value × JH), ∀ r9, k r9 = some (some (.int r9), (g, d)) := ⟨_, fun _ => rfl⟩
  refine J_eqo (hk (f_X1_firstWithWealth (d.1 32) (d.1 33) (d.1 a) (d.1 (a + 7)) (d.1 (a + 8)) pq1 pq2)).symm ?_
  unfold f_X1_firstWithWealth
  refine J_iconst (pc := 0) (v := 0) dX1_firstWithWealth_0 (by decide) ?_
  refine J_istore (pc := 1) (loc' := [(4, .int 0), (0, .ref 32), (1, .ref a), (2, .int pq1), (3, .int pq2)]) dX1_firstWithWealth_1 (by decide) rfl ?_
  refine J_loc (loc' := [(0, .ref 32), (1, .ref a), (2, .int pq1), (3, .int pq2), (4, .int 0)]) [1, 2, 3, 4, 0] rfl ?_
  refine J_foL (K := k) (fr := fun r9 => r9) (b := (d.1 32) 6) (G := f_X1_firstWithWealth_b3 (d.1 32) (d.1 33) (d.1 a) (d.1 (a + 7)) (d.1 (a + 8)) pq1 pq2 ) (hp := fun (s3 : Unit) => (g, d)) (lc := fun (i3 : Int32) (s3 : Unit) => [(0, .ref 32), (1, .ref a), (2, .int (pq1)), (3, .int (pq2)), (4, .int i3)]) (XJ := fun (i3 : Int32) (s3 : Unit) o9 => J mi_X1_firstWithWealth 0 0 0 0 (g, d) 39 [] [] o9) (RJ := fun r9 o9 => o9 = some (some (.int r9), (g, d))) (fun i3 s3 o3 Kb3 hX3 hR3 hB3 => ?_) (fun i3 s3 => ?_) (fun r9 => hk r9) _ _ () (Nat.le_refl _)
  · show J mi_X1_firstWithWealth 0 0 0 0 (g, d) 3 [(0, .ref 32), (1, .ref a), (2, .int (pq1)), (3, .int (pq2)), (4, .int i3)] [] (if ((d.1 32) 6) ≤ i3 then o3 else Kb3 (f_X1_firstWithWealth_b3 (d.1 32) (d.1 33) (d.1 a) (d.1 (a + 7)) (d.1 (a + 8)) pq1 pq2 i3 s3))
    refine J_iload (pc := 3) 4 dX1_firstWithWealth_3 rfl ?_
    refine J_aload_n (pc := 5) 0 dX1_firstWithWealth_5 rfl rfl ?_
    refine J_getI (pc := 6) dX1_firstWithWealth_6 fl_X1_33 (h0.lt 32 (by decide)) (h0.ty 32 rfl) rfl ?_
    refine J_icmp_ge (pc := 9) (tgt := 39) dX1_firstWithWealth_9 (by decide) (fun z3 => ?_) (fun z3 => ?_)
    · refine J_loc (loc' := []) [] rfl ?_
      exact hX3 z3
    · unfold f_X1_firstWithWealth_b3
      refine J_aload_n (pc := 12) 1 dX1_firstWithWealth_12 rfl rfl ?_
      refine J_iload_n (pc := 13) 2 dX1_firstWithWealth_13 rfl rfl ?_
      refine J_aload_n (pc := 14) 0 dX1_firstWithWealth_14 rfl rfl ?_
      refine J_getR (pc := 15) dX1_firstWithWealth_15 fl_X1_11 (h0.lt 32 (by decide)) (h0.ty 32 rfl) rfl (h0.rf 35 rfl) ?_
      refine J_iload (pc := 18) 4 dX1_firstWithWealth_18 rfl ?_
      refine JC_pt_i (J_callS (mi := mi_X1_firstWithWealth) (mj := mi_X11_at) (pc := 20) dX1_firstWithWealth_20 ml_X1_49 ok_X11_at os_X11_at ⟨Nat.le_of_ble_eq_true rfl, Nat.le_of_ble_eq_true rfl⟩ rfl (s_X11_at g d 33 729 i3 (⟨(h0.lt 33 (by decide)), (h0.ty 33 rfl), by decide⟩)) rfl (Nat.le_of_ble_eq_true rfl)) ?_
      refine JC_pt_i (J_callV (mi := mi_X1_firstWithWealth) (mj := mi_X3_wealth) (pc := 23) dX1_firstWithWealth_23 ml_X1_82 ok_X3_wealth ov_X3_wealth ⟨Nat.le_of_ble_eq_true rfl, Nat.le_of_ble_eq_true rfl⟩ rfl (ha.lt 0 (by decide)) (ha.ty 0 rfl) rfl (s_X3_wealth g d a pq1 (f_X11_at (d.1 33) 729 i3) ha) rfl (Nat.le_of_ble_eq_true rfl)) ?_
      refine J_iload_n (pc := 26) 3 dX1_firstWithWealth_26 rfl rfl ?_
      refine K_icmp_lt (K := Kb3) (pc := 27) (tgt := 33) dX1_firstWithWealth_27 (by decide) (fun z27 => ?_) (fun z27 => ?_)
      · refine J_iinc (pc := 33) (v := i3 + 1) (loc' := [(4, .int (i3 + 1)), (0, .ref 32), (1, .ref a), (2, .int (pq1)), (3, .int (pq2))]) 4 dX1_firstWithWealth_33 rfl rfl (by decide) rfl ?_
        refine J_goto (pc := 36) (tgt := 3) dX1_firstWithWealth_36 (by decide) ?_
        refine J_loc (loc' := [(0, .ref 32), (1, .ref a), (2, .int (pq1)), (3, .int (pq2)), (4, .int (i3 + 1))]) [1, 2, 3, 4, 0] rfl ?_
        exact hB3 z3 ()
      · refine J_iload (pc := 30) 4 dX1_firstWithWealth_30 rfl ?_
        exact J_eqo (hR3 i3) (J_iret (pc := 32) dX1_firstWithWealth_32 rfl)
  · show J mi_X1_firstWithWealth 0 0 0 0 (g, d) 39 [] [] (_)
    refine J_iconst (pc := 39) (v := (-1)) dX1_firstWithWealth_39 (by decide) ?_
    exact J_eqo (hk (-1)) (J_iret (pc := 40) dX1_firstWithWealth_40 rfl)
def f_X1_mostWealthWithin_w6 (r_32 : Nat → Int32) (r_33 : Nat → Int32) (r_36 : Nat → Int32) (r_a0 : Nat → Int32) (r_a7 : Nat → Int32) (r_a8 : Nat → Int32) (c2_6 : Int32) (c3_6 : Int32) (s6 : Int32 × Int32) : Option ((Int32 × Int32) ⊕ (Int32)) := (if (r_32 6) ≤ s6.2 then some (.inr s6.1) else (if (c3_6) < (f_X1_movesTo r_36 s6.2) then some (.inr s6.1) else (some (.inl (if s6.1 < (f_X3_wealth r_a0 r_a7 r_a8 (c2_6) (f_X11_at r_33 729 s6.2)) then f_X3_wealth r_a0 r_a7 r_a8 (c2_6) (f_X11_at r_33 729 s6.2) else s6.1, s6.2 + 1)))))
def f_X1_mostWealthWithin (r_32 : Nat → Int32) (r_33 : Nat → Int32) (r_36 : Nat → Int32) (r_a0 : Nat → Int32) (r_a7 : Nat → Int32) (r_a8 : Nat → Int32) (pq1 : Int32) (pq2 : Int32) : Option (Int32) := ((j_wh (f_X1_mostWealthWithin_w6 r_32 r_33 r_36 r_a0 r_a7 r_a8 pq1 pq2 ) j_fuel (0, 0)).bind (fun (e6 : Int32) => (some e6)))
set_option maxRecDepth 100000 in
set_option maxHeartbeats 4000000 in
theorem s_X1_mostWealthWithin (g : JG) (d : JD) (a : Nat) (pq1 : Int32) (pq2 : Int32) (h0 : j_sh g 0 TS_W RS_W) (ha : j_sh g a TS_CL RS_CL) : JM mi_X1_mostWealthWithin 0 0 (g, d) [.ref 32, .ref a, .int pq1, .int pq2] ((f_X1_mostWealthWithin (d.1 32) (d.1 33) (d.1 36) (d.1 a) (d.1 (a + 7)) (d.1 (a + 8)) pq1 pq2).bind (fun r9 => some (some (.int r9), (g, d)))) := by
  refine JM_of (by decide) rfl (Nat.le_of_ble_eq_true rfl) ?_
  refine J_loc (loc' := [(0, .ref 32), (1, .ref a), (2, .int pq1), (3, .int pq2)]) [0, 1, 2, 3] rfl ?_
  obtain ⟨k, hk, hk2⟩ : ∃ k : Int32 → Option (Option Value × JH), (∀ r9, k r9 = some (some (.int r9), (g, d))) ∧ (fun r9 : Int32 => (some (some (.int r9), (g, d)) : Option (Option Value × JH))) = k := ⟨_, fun _ => rfl, rfl⟩
  rw [hk2]
  unfold f_X1_mostWealthWithin
  refine J_iconst (pc := 0) (v := 0) dX1_mostWealthWithin_0 (by decide) ?_
  refine J_istore (pc := 1) (loc' := [(4, .int 0), (0, .ref 32), (1, .ref a), (2, .int pq1), (3, .int pq2)]) dX1_mostWealthWithin_1 (by decide) rfl ?_
  refine J_iconst (pc := 3) (v := 0) dX1_mostWealthWithin_3 (by decide) ?_
  refine J_istore (pc := 4) (loc' := [(5, .int 0), (4, .int 0), (0, .ref 32), (1, .ref a), (2, .int pq1), (3, .int pq2)]) dX1_mostWealthWithin_4 (by decide) rfl ?_
  refine J_loc (loc' := [(0, .ref 32), (1, .ref a), (2, .int pq1), (3, .int pq2), (4, .int 0), (5, .int 0)]) [2, 3, 4, 5, 1, 0] rfl ?_
  refine J_whL (F := f_X1_mostWealthWithin_w6 (d.1 32) (d.1 33) (d.1 36) (d.1 a) (d.1 (a + 7)) (d.1 (a + 8)) pq1 pq2 ) (hp := fun (s6 : Int32 × Int32) => (g, d)) (lc := fun (s6 : Int32 × Int32) => [(0, .ref 32), (1, .ref a), (2, .int (pq1)), (3, .int (pq2)), (4, .int s6.1), (5, .int s6.2)]) (XJ := fun (e6 : Int32) o9 => J mi_X1_mostWealthWithin 0 0 0 0 (g, d) 52 [(4, .int e6)] [] o9) (fun s6 k6 hB6 hX6 => ?_) (fun e6 => ?_) _ (0, 0)
  · show J mi_X1_mostWealthWithin 0 0 0 0 (g, d) 6 [(0, .ref 32), (1, .ref a), (2, .int (pq1)), (3, .int (pq2)), (4, .int s6.1), (5, .int s6.2)] [] ((f_X1_mostWealthWithin_w6 (d.1 32) (d.1 33) (d.1 36) (d.1 a) (d.1 (a + 7)) (d.1 (a + 8)) pq1 pq2 s6).bind k6)
    unfold f_X1_mostWealthWithin_w6
    refine J_iload (pc := 6) 5 dX1_mostWealthWithin_6 rfl ?_
    refine J_aload_n (pc := 8) 0 dX1_mostWealthWithin_8 rfl rfl ?_
    refine J_getI (pc := 9) dX1_mostWealthWithin_9 fl_X1_33 (h0.lt 32 (by decide)) (h0.ty 32 rfl) rfl ?_
    refine K_icmp_ge (K := (fun x => Option.bind x k6)) (pc := 12) (tgt := 52) dX1_mostWealthWithin_12 (by decide) (fun z12 => ?_) (fun z12 => ?_)
    · refine J_loc (loc' := [(4, .int s6.1)]) [4] rfl ?_
      exact hX6 s6.1
    · refine J_aload_n (pc := 15) 0 dX1_mostWealthWithin_15 rfl rfl ?_
      refine J_iload (pc := 16) 5 dX1_mostWealthWithin_16 rfl ?_
      refine JC_pt_i (J_callV (mi := mi_X1_mostWealthWithin) (mj := mi_X1_movesTo) (pc := 18) dX1_mostWealthWithin_18 ml_X1_65 ok_X1_movesTo ov_X1_movesTo ⟨Nat.le_of_ble_eq_true rfl, Nat.le_of_ble_eq_true rfl⟩ rfl (h0.lt 32 (by decide)) (h0.ty 32 rfl) rfl (s_X1_movesTo g d s6.2 h0) rfl (Nat.le_of_ble_eq_true rfl)) ?_
      refine J_iload_n (pc := 21) 3 dX1_mostWealthWithin_21 rfl rfl ?_
      refine K_icmp_gt (K := (fun x => Option.bind x k6)) (pc := 22) (tgt := 52) dX1_mostWealthWithin_22 (by decide) (fun z22 => ?_) (fun z22 => ?_)
      · refine J_loc (loc' := [(4, .int s6.1)]) [4] rfl ?_
        exact hX6 s6.1
      · refine J_iload (pc := 25) 4 dX1_mostWealthWithin_25 rfl ?_
        refine J_aload_n (pc := 27) 1 dX1_mostWealthWithin_27 rfl rfl ?_
        refine J_iload_n (pc := 28) 2 dX1_mostWealthWithin_28 rfl rfl ?_
        refine J_aload_n (pc := 29) 0 dX1_mostWealthWithin_29 rfl rfl ?_
        refine J_getR (pc := 30) dX1_mostWealthWithin_30 fl_X1_11 (h0.lt 32 (by decide)) (h0.ty 32 rfl) rfl (h0.rf 35 rfl) ?_
        refine J_iload (pc := 33) 5 dX1_mostWealthWithin_33 rfl ?_
        refine JC_pt_i (J_callS (mi := mi_X1_mostWealthWithin) (mj := mi_X11_at) (pc := 35) dX1_mostWealthWithin_35 ml_X1_49 ok_X11_at os_X11_at ⟨Nat.le_of_ble_eq_true rfl, Nat.le_of_ble_eq_true rfl⟩ rfl (s_X11_at g d 33 729 s6.2 (⟨(h0.lt 33 (by decide)), (h0.ty 33 rfl), by decide⟩)) rfl (Nat.le_of_ble_eq_true rfl)) ?_
        refine JC_pt_i (J_callV (mi := mi_X1_mostWealthWithin) (mj := mi_X3_wealth) (pc := 38) dX1_mostWealthWithin_38 ml_X1_82 ok_X3_wealth ov_X3_wealth ⟨Nat.le_of_ble_eq_true rfl, Nat.le_of_ble_eq_true rfl⟩ rfl (ha.lt 0 (by decide)) (ha.ty 0 rfl) rfl (s_X3_wealth g d a pq1 (f_X11_at (d.1 33) 729 s6.2) ha) rfl (Nat.le_of_ble_eq_true rfl)) ?_
        refine J_mmax (pc := 41) dX1_mostWealthWithin_41 mm_X1_86 (Nat.le_of_ble_eq_true rfl) (Nat.le_of_ble_eq_true rfl) ?_
        refine J_istore (pc := 44) (loc' := [(4, .int (if s6.1 < (f_X3_wealth (d.1 a) (d.1 (a + 7)) (d.1 (a + 8)) (pq1) (f_X11_at (d.1 33) 729 s6.2)) then f_X3_wealth (d.1 a) (d.1 (a + 7)) (d.1 (a + 8)) (pq1) (f_X11_at (d.1 33) 729 s6.2) else s6.1)), (0, .ref 32), (1, .ref a), (2, .int (pq1)), (3, .int (pq2)), (5, .int s6.2)]) dX1_mostWealthWithin_44 (by decide) rfl ?_
        refine J_iinc (pc := 46) (v := s6.2 + 1) (loc' := [(5, .int (s6.2 + 1)), (4, .int (if s6.1 < (f_X3_wealth (d.1 a) (d.1 (a + 7)) (d.1 (a + 8)) (pq1) (f_X11_at (d.1 33) 729 s6.2)) then f_X3_wealth (d.1 a) (d.1 (a + 7)) (d.1 (a + 8)) (pq1) (f_X11_at (d.1 33) 729 s6.2) else s6.1)), (0, .ref 32), (1, .ref a), (2, .int (pq1)), (3, .int (pq2))]) 5 dX1_mostWealthWithin_46 rfl rfl (by decide) rfl ?_
        refine J_goto (pc := 49) (tgt := 6) dX1_mostWealthWithin_49 (by decide) ?_
        refine J_loc (loc' := [(0, .ref 32), (1, .ref a), (2, .int (pq1)), (3, .int (pq2)), (4, .int (if s6.1 < (f_X3_wealth (d.1 a) (d.1 (a + 7)) (d.1 (a + 8)) (pq1) (f_X11_at (d.1 33) 729 s6.2)) then f_X3_wealth (d.1 a) (d.1 (a + 7)) (d.1 (a + 8)) (pq1) (f_X11_at (d.1 33) 729 s6.2) else s6.1)), (5, .int (s6.2 + 1))]) [2, 3, 4, 5, 1, 0] rfl ?_
        exact hB6 (if s6.1 < (f_X3_wealth (d.1 a) (d.1 (a + 7)) (d.1 (a + 8)) (pq1) (f_X11_at (d.1 33) 729 s6.2)) then f_X3_wealth (d.1 a) (d.1 (a + 7)) (d.1 (a + 8)) (pq1) (f_X11_at (d.1 33) 729 s6.2) else s6.1, s6.2 + 1)
  · show J mi_X1_mostWealthWithin 0 0 0 0 (g, d) 52 [(4, .int e6)] [] (_)
    refine J_iload (pc := 52) 0 dX1_mostWealthWithin_52 rfl ?_
    exact J_eqo (hk e6) (J_iret (pc := 54) dX1_mostWealthWithin_54 rfl)
