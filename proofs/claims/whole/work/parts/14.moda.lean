def f_X12_find_w2 (r_u0 : Nat → Int32) (q_u12 : Nat → Int64) (c1_2 : Int64) (s2 : Int32) : Option ((Int32) ⊕ (Int32 ⊕ (Unit))) := (if (r_u0 9) ≤ s2 then some (.inr (.inr ())) else (if j_out s2 15 then none else if (lg_cmp (q_u12 s2.toNatClampNeg) (c1_2)) = 0 then (some (Sum.inr (Sum.inl s2))) else (some (.inl (s2 + 1)))))
def f_X12_find (r_u0 : Nat → Int32) (q_u12 : Nat → Int64) (pq0 : Int64) : Option (Int32) := ((j_wh (f_X12_find_w2 r_u0 q_u12 pq0 ) j_fuel 0).bind (Sum.elim (fun r9 => some r9) (fun (e2 : Unit) => (some (-1)))))
set_option maxRecDepth 100000 in
set_option maxHeartbeats 4000000 in
theorem s_X12_find (g : JG) (d : JD) (u : Nat) (pq0 : Int64) (hu : j_sh g u TS_ML RS_ML) : JM mi_X12_find 0 0 (g, d) [.ref u, .long pq0] ((f_X12_find (d.1 u) (d.2 (u + 12)) pq0).bind (fun r9 => some (some (.int r9), (g, d)))) := by
  refine JM_of (by decide) rfl (Nat.le_of_ble_eq_true rfl) ?_
  refine J_loc (loc' := [(0, .ref u), (1, .long pq0)]) [0, 1] rfl ?_
  obtain ⟨k, hk, hk2⟩ : ∃ k : Int32 → Option (Option Value × JH), (∀ r9, k r9 = some (some (.int r9), (g, d))) ∧ (fun r9 : Int32 => (some (some (.int r9), (g, d)) : Option (Option Value × JH))) = k := ⟨_, fun _ => rfl, rfl⟩
  rw [hk2]
  unfold f_X12_find
  refine J_iconst (pc := 0) (v := 0) dX12_find_0 (by decide) ?_
  refine J_istore_n (pc := 1) (loc' := [(3, .int 0), (0, .ref u), (1, .long pq0)]) dX12_find_1 rfl (by decide) rfl ?_
  refine J_loc (loc' := [(0, .ref u), (1, .long pq0), (3, .int 0)]) [1, 2, 0] rfl ?_
  refine J_whR (F := f_X12_find_w2 (d.1 u) (d.2 (u + 12)) pq0 ) (fr := fun r9 => some r9) (k := k) (hp := fun (s2 : Int32) => (g, d)) (lc := fun (s2 : Int32) => [(0, .ref u), (1, .long (pq0)), (3, .int s2)]) (XJ := fun (e2 : Unit) o9 => J mi_X12_find 0 0 0 0 (g, d) 29 [] [] o9) (RJ := fun r9 o9 => o9 = some (some (.int r9), (g, d))) (fun s2 k2 hB2 hR2 hX2 => ?_) (fun e2 => ?_) (fun r9 => hk r9) _ 0
  · show J mi_X12_find 0 0 0 0 (g, d) 2 [(0, .ref u), (1, .long (pq0)), (3, .int s2)] [] ((f_X12_find_w2 (d.1 u) (d.2 (u + 12)) pq0 s2).bind k2)
    unfold f_X12_find_w2
    refine J_iload_n (pc := 2) 2 dX12_find_2 rfl rfl ?_
    refine J_aload_n (pc := 3) 0 dX12_find_3 rfl rfl ?_
    refine J_getI (pc := 4) dX12_find_4 fl_X12_59 (hu.lt 0 (by decide)) (hu.ty 0 rfl) rfl ?_
    refine K_icmp_ge (K := (fun x => Option.bind x k2)) (pc := 7) (tgt := 29) dX12_find_7 (by decide) (fun z7 => ?_) (fun z7 => ?_)
    · refine J_loc (loc' := []) [] rfl ?_
      exact hX2 ()
    · refine J_aload_n (pc := 10) 0 dX12_find_10 rfl rfl ?_
      refine J_getR (pc := 11) dX12_find_11 fl_X12_49 (hu.lt 0 (by decide)) (hu.ty 0 rfl) rfl (hu.rf 11 rfl) ?_
      refine J_iload_n (pc := 14) 2 dX12_find_14 rfl rfl ?_
      refine J_guard (fun z15 => ?_)
      refine J_lald (pc := 15) dX12_find_15 (hu.lt 12 (by decide)) (hu.ty 12 rfl) z15 ?_
      refine J_lload_n (pc := 16) 1 dX12_find_16 rfl rfl ?_
      refine J_lcmp (pc := 17) dX12_find_17 ?_
      refine K_if_ne (K := (fun x => Option.bind x k2)) (pc := 18) (tgt := 23) dX12_find_18 (by decide) (fun z18 => ?_) (fun z18 => ?_)
      · refine J_iinc (pc := 23) (v := s2 + 1) (loc' := [(3, .int (s2 + 1)), (0, .ref u), (1, .long (pq0))]) 2 dX12_find_23 rfl rfl (by decide) rfl ?_
        refine J_goto (pc := 26) (tgt := 2) dX12_find_26 (by decide) ?_
        refine J_loc (loc' := [(0, .ref u), (1, .long (pq0)), (3, .int (s2 + 1))]) [1, 2, 0] rfl ?_
        exact hB2 (s2 + 1)
      · refine J_iload_n (pc := 21) 2 dX12_find_21 rfl rfl ?_
        exact J_eqo (hR2 s2) (J_iret (pc := 22) dX12_find_22 rfl)
  · show J mi_X12_find 0 0 0 0 (g, d) 29 [] [] (_)
    refine J_iconst (pc := 29) (v := (-1)) dX12_find_29 (by decide) ?_
    exact J_eqo (hk (-1)) (J_iret (pc := 30) dX12_find_30 rfl)
def f_X12_isLost_w2 (r_u0 : Nat → Int32) (r_u10 : Nat → Int32) (c1_2 : Int32) (s2 : Int32) : Option ((Int32) ⊕ (Bool ⊕ (Unit))) := (if (r_u0 7) ≤ s2 then some (.inr (.inr ())) else (if j_out s2 4 then none else if (r_u10 s2.toNatClampNeg) = (c1_2) then (some (Sum.inr (Sum.inl true))) else (some (.inl (s2 + 1)))))
def f_X12_isLost (r_u0 : Nat → Int32) (r_u10 : Nat → Int32) (pq0 : Int32) : Option (Bool) := ((j_wh (f_X12_isLost_w2 r_u0 r_u10 pq0 ) j_fuel 0).bind (Sum.elim (fun r9 => some r9) (fun (e2 : Unit) => (some false))))
set_option maxRecDepth 100000 in
set_option maxHeartbeats 4000000 in
theorem s_X12_isLost (g : JG) (d : JD) (u : Nat) (pq0 : Int32) (hu : j_sh g u TS_ML RS_ML) : JM mi_X12_isLost 0 0 (g, d) [.ref u, .int pq0] ((f_X12_isLost (d.1 u) (d.1 (u + 10)) pq0).bind (fun r9 => some (some (.int (j_b r9)), (g, d)))) := by
  refine JM_of (by decide) rfl (Nat.le_of_ble_eq_true rfl) ?_
  refine J_loc (loc' := [(0, .ref u), (1, .int pq0)]) [0, 1] rfl ?_
  obtain ⟨k, hk, hk2⟩ : ∃ k : Bool → Option (Option Value × JH), (∀ r9, k r9 = some (some (.int (j_b r9)), (g, d))) ∧ (fun r9 : Bool => (some (some (.int (j_b r9)), (g, d)) : Option (Option Value × JH))) = k := ⟨_, fun _ => rfl, rfl⟩
  rw [hk2]
  unfold f_X12_isLost
  refine J_iconst (pc := 0) (v := 0) dX12_isLost_0 (by decide) ?_
  refine J_istore_n (pc := 1) (loc' := [(2, .int 0), (0, .ref u), (1, .int pq0)]) dX12_isLost_1 rfl (by decide) rfl ?_
  refine J_loc (loc' := [(0, .ref u), (1, .int pq0), (2, .int 0)]) [1, 2, 0] rfl ?_
  refine J_whR (F := f_X12_isLost_w2 (d.1 u) (d.1 (u + 10)) pq0 ) (fr := fun r9 => some r9) (k := k) (hp := fun (s2 : Int32) => (g, d)) (lc := fun (s2 : Int32) => [(0, .ref u), (1, .int (pq0)), (2, .int s2)]) (XJ := fun (e2 : Unit) o9 => J mi_X12_isLost 0 0 0 0 (g, d) 28 [] [] o9) (RJ := fun r9 o9 => o9 = some (some (.int (j_b r9)), (g, d))) (fun s2 k2 hB2 hR2 hX2 => ?_) (fun e2 => ?_) (fun r9 => hk r9) _ 0
  · show J mi_X12_isLost 0 0 0 0 (g, d) 2 [(0, .ref u), (1, .int (pq0)), (2, .int s2)] [] ((f_X12_isLost_w2 (d.1 u) (d.1 (u + 10)) pq0 s2).bind k2)
    unfold f_X12_isLost_w2
    refine J_iload_n (pc := 2) 2 dX12_isLost_2 rfl rfl ?_
    refine J_aload_n (pc := 3) 0 dX12_isLost_3 rfl rfl ?_
    refine J_getI (pc := 4) dX12_isLost_4 fl_X12_62 (hu.lt 0 (by decide)) (hu.ty 0 rfl) rfl ?_
    refine K_icmp_ge (K := (fun x => Option.bind x k2)) (pc := 7) (tgt := 28) dX12_isLost_7 (by decide) (fun z7 => ?_) (fun z7 => ?_)
    · refine J_loc (loc' := []) [] rfl ?_
      exact hX2 ()
    · refine J_aload_n (pc := 10) 0 dX12_isLost_10 rfl rfl ?_
      refine J_getR (pc := 11) dX12_isLost_11 fl_X12_43 (hu.lt 0 (by decide)) (hu.ty 0 rfl) rfl (hu.rf 9 rfl) ?_
      refine J_iload_n (pc := 14) 2 dX12_isLost_14 rfl rfl ?_
      refine J_guard (fun z15 => ?_)
      refine J_iald (pc := 15) dX12_isLost_15 (hu.lt 10 (by decide)) (hu.ty 10 rfl) z15 ?_
      refine J_iload_n (pc := 16) 1 dX12_isLost_16 rfl rfl ?_
      refine K_icmp_ne (K := (fun x => Option.bind x k2)) (pc := 17) (tgt := 22) dX12_isLost_17 (by decide) (fun z17 => ?_) (fun z17 => ?_)
      · refine J_iinc (pc := 22) (v := s2 + 1) (loc' := [(2, .int (s2 + 1)), (0, .ref u), (1, .int (pq0))]) 2 dX12_isLost_22 rfl rfl (by decide) rfl ?_
        refine J_goto (pc := 25) (tgt := 2) dX12_isLost_25 (by decide) ?_
        refine J_loc (loc' := [(0, .ref u), (1, .int (pq0)), (2, .int (s2 + 1))]) [1, 2, 0] rfl ?_
        exact hB2 (s2 + 1)
      · refine J_iconst (pc := 20) (v := 1) dX12_isLost_20 (by decide) ?_
        exact J_eqo (hR2 true) (J_zretB (pc := 21) dX12_isLost_21 rfl)
  · show J mi_X12_isLost 0 0 0 0 (g, d) 28 [] [] (_)
    refine J_iconst (pc := 28) (v := 0) dX12_isLost_28 (by decide) ?_
    exact J_eqo (hk false) (J_zretB (pc := 29) dX12_isLost_29 rfl)
def f_X13_thrown (r_57 : Nat → Int32) : Int32 := (r_57 0)
set_option maxRecDepth 100000 in
set_option maxHeartbeats 4000000 in
theorem s_X13_thrown (g : JG) (d : JD) (h0 : j_sh g 0 TS_W RS_W) : JM mi_X13_thrown 0 0 (g, d) [.ref 57] (some (some (.int (f_X13_thrown (d.1 57) )), (g, d))) := by
  refine JM_of (by decide) rfl (Nat.le_of_ble_eq_true rfl) ?_
  refine J_loc (loc' := [(0, .ref 57)]) [0] rfl ?_
  obtain ⟨k, hk⟩ : ∃ k : Int32 → Option (Option Value × JH), ∀ r9, k r9 = some (some (.int r9), (g, d)) := ⟨_, fun _ => rfl⟩
  refine J_eqo (hk (f_X13_thrown (d.1 57) )).symm ?_
  unfold f_X13_thrown
  refine J_aload_n (pc := 0) 0 dX13_thrown_0 rfl rfl ?_
  refine J_getI (pc := 1) dX13_thrown_1 fl_X13_42 (h0.lt 57 (by decide)) (h0.ty 57 rfl) rfl ?_
  exact J_eqo (hk ((d.1 57) 0)) (J_iret (pc := 4) dX13_thrown_4 rfl)
def f_X13_refused (d : JD) (pq0 : Int32) : Int32 × JD := ((-1), j_sI (j_sI d 57 1 pq0) 57 2 (-1))
set_option maxRecDepth 100000 in
set_option maxHeartbeats 4000000 in
theorem s_X13_refused (g : JG) (d : JD) (pq0 : Int32) (h0 : j_sh g 0 TS_W RS_W) : JM mi_X13_refused 0 0 (g, d) [.ref 57, .int pq0] (some (some (.int (f_X13_refused d pq0).1), (g, (f_X13_refused d pq0).2))) := by
  refine JM_of (by decide) rfl (Nat.le_of_ble_eq_true rfl) ?_
  refine J_loc (loc' := [(0, .ref 57), (1, .int pq0)]) [0, 1] rfl ?_
  obtain ⟨k, hk⟩ : ∃ k : Int32 × JD → Option (Option Value × JH), ∀ r9, k r9 = some (some (.int r9.1), (g, r9.2)) := ⟨_, fun _ => rfl⟩
  refine J_eqo (hk (f_X13_refused d pq0)).symm ?_
  unfold f_X13_refused
  refine J_aload_n (pc := 0) 0 dX13_refused_0 rfl rfl ?_
  refine J_iload_n (pc := 1) 1 dX13_refused_1 rfl rfl ?_
  refine J_putI (pc := 2) dX13_refused_2 fl_X13_45 ft_12_1 (h0.lt 57 (by decide)) (h0.ty 57 rfl) rfl rfl rfl ?_
  refine J_aload_n (pc := 5) 0 dX13_refused_5 rfl rfl ?_
  refine J_iconst (pc := 6) (v := (-1)) dX13_refused_6 (by decide) ?_
  refine J_putI (pc := 7) dX13_refused_7 fl_X13_9 ft_12_2 (h0.lt 57 (by decide)) (h0.ty 57 rfl) rfl rfl rfl ?_
  refine J_iconst (pc := 10) (v := (-1)) dX13_refused_10 (by decide) ?_
  exact J_eqo (hk ((-1), j_sI (j_sI d 57 1 pq0) 57 2 (-1))) (J_iret (pc := 11) dX13_refused_11 rfl)
def f_X13_lost (d : JD) (pq0 : Int32) : Int32 × JD := (j_let (f_X13_refused d pq0) (fun q2 => ((-100), q2.2)))
set_option maxRecDepth 100000 in
set_option maxHeartbeats 4000000 in
theorem s_X13_lost (g : JG) (d : JD) (pq0 : Int32) (h0 : j_sh g 0 TS_W RS_W) : JM mi_X13_lost 0 0 (g, d) [.ref 57, .int pq0] (some (some (.int (f_X13_lost d pq0).1), (g, (f_X13_lost d pq0).2))) := by
  refine JM_of (by decide) rfl (Nat.le_of_ble_eq_true rfl) ?_
  refine J_loc (loc' := [(0, .ref 57), (1, .int pq0)]) [0, 1] rfl ?_
  obtain ⟨k, hk⟩ : ∃ k : Int32 × JD → Option (Option Value × JH), ∀ r9, k r9 = some (some (.int r9.1), (g, r9.2)) := ⟨_, fun _ => rfl⟩
  refine J_eqo (hk (f_X13_lost d pq0)).symm ?_
  unfold f_X13_lost
  refine J_aload_n (pc := 0) 0 dX13_lost_0 rfl rfl ?_
  refine J_iload_n (pc := 1) 1 dX13_lost_1 rfl rfl ?_
  refine JC_lt_i (K := k) (J_callV (mi := mi_X13_lost) (mj := mi_X13_refused) (pc := 2) dX13_lost_2 ml_X13_48 ok_X13_refused ov_X13_refused ⟨Nat.le_of_ble_eq_true rfl, Nat.le_of_ble_eq_true rfl⟩ rfl (h0.lt 57 (by decide)) (h0.ty 57 rfl) rfl (s_X13_refused g d pq0 h0) rfl (Nat.le_of_ble_eq_true rfl)) (fun q2 eq2 => ?_)
  refine J_pop (pc := 5) dX13_lost_5 rfl ?_
  refine J_bipush (pc := 6) (v := (-100)) dX13_lost_6 (by decide) ?_
  exact J_eqo (hk ((-100), q2.2)) (J_iret (pc := 8) dX13_lost_8 rfl)
def f_X13_denied (d : JD) (pq0 : Int32) : Bool × JD := (j_let (f_X13_refused d pq0) (fun q2 => (false, q2.2)))
set_option maxRecDepth 100000 in
set_option maxHeartbeats 4000000 in
theorem s_X13_denied (g : JG) (d : JD) (pq0 : Int32) (h0 : j_sh g 0 TS_W RS_W) : JM mi_X13_denied 0 0 (g, d) [.ref 57, .int pq0] (some (some (.int (j_b (f_X13_denied d pq0).1)), (g, (f_X13_denied d pq0).2))) := by
  refine JM_of (by decide) rfl (Nat.le_of_ble_eq_true rfl) ?_
  refine J_loc (loc' := [(0, .ref 57), (1, .int pq0)]) [0, 1] rfl ?_
  obtain ⟨k, hk⟩ : ∃ k : Bool × JD → Option (Option Value × JH), ∀ r9, k r9 = some (some (.int (j_b r9.1)), (g, r9.2)) := ⟨_, fun _ => rfl⟩
  refine J_eqo (hk (f_X13_denied d pq0)).symm ?_
  unfold f_X13_denied
  refine J_aload_n (pc := 0) 0 dX13_denied_0 rfl rfl ?_
  refine J_iload_n (pc := 1) 1 dX13_denied_1 rfl rfl ?_
  refine JC_lt_i (K := k) (J_callV (mi := mi_X13_denied) (mj := mi_X13_refused) (pc := 2) dX13_denied_2 ml_X13_48 ok_X13_refused ov_X13_refused ⟨Nat.le_of_ble_eq_true rfl, Nat.le_of_ble_eq_true rfl⟩ rfl (h0.lt 57 (by decide)) (h0.ty 57 rfl) rfl (s_X13_refused g d pq0 h0) rfl (Nat.le_of_ble_eq_true rfl)) (fun q2 eq2 => ?_)
  refine J_pop (pc := 5) dX13_denied_5 rfl ?_
  refine J_iconst (pc := 6) (v := 0) dX13_denied_6 (by decide) ?_
  exact J_eqo (hk (false, q2.2)) (J_zretB (pc := 7) dX13_denied_7 rfl)
def f_X13_good (d : JD) (pq0 : Int32) : Int32 × JD := (pq0, j_sI (j_sI d 57 1 0) 57 2 (-1))
set_option maxRecDepth 100000 in
set_option maxHeartbeats 4000000 in
theorem s_X13_good (g : JG) (d : JD) (pq0 : Int32) (h0 : j_sh g 0 TS_W RS_W) : JM mi_X13_good 0 0 (g, d) [.ref 57, .int pq0] (some (some (.int (f_X13_good d pq0).1), (g, (f_X13_good d pq0).2))) := by
  refine JM_of (by decide) rfl (Nat.le_of_ble_eq_true rfl) ?_
  refine J_loc (loc' := [(0, .ref 57), (1, .int pq0)]) [0, 1] rfl ?_
  obtain ⟨k, hk⟩ : ∃ k : Int32 × JD → Option (Option Value × JH), ∀ r9, k r9 = some (some (.int r9.1), (g, r9.2)) := ⟨_, fun _ => rfl⟩
  refine J_eqo (hk (f_X13_good d pq0)).symm ?_
  unfold f_X13_good
  refine J_aload_n (pc := 0) 0 dX13_good_0 rfl rfl ?_
  refine J_iconst (pc := 1) (v := 0) dX13_good_1 (by decide) ?_
  refine J_putI (pc := 2) dX13_good_2 fl_X13_45 ft_12_1 (h0.lt 57 (by decide)) (h0.ty 57 rfl) rfl rfl rfl ?_
  refine J_aload_n (pc := 5) 0 dX13_good_5 rfl rfl ?_
  refine J_iconst (pc := 6) (v := (-1)) dX13_good_6 (by decide) ?_
  refine J_putI (pc := 7) dX13_good_7 fl_X13_9 ft_12_2 (h0.lt 57 (by decide)) (h0.ty 57 rfl) rfl rfl rfl ?_
  refine J_iload_n (pc := 10) 1 dX13_good_10 rfl rfl ?_
  exact J_eqo (hk (pq0, j_sI (j_sI d 57 1 0) 57 2 (-1))) (J_iret (pc := 11) dX13_good_11 rfl)
def f_X13_granted (d : JD) : Bool × JD := (j_let (f_X13_good d 0) (fun q2 => (true, q2.2)))
set_option maxRecDepth 100000 in
set_option maxHeartbeats 4000000 in
theorem s_X13_granted (g : JG) (d : JD) (h0 : j_sh g 0 TS_W RS_W) : JM mi_X13_granted 0 0 (g, d) [.ref 57] (some (some (.int (j_b (f_X13_granted d ).1)), (g, (f_X13_granted d ).2))) := by
  refine JM_of (by decide) rfl (Nat.le_of_ble_eq_true rfl) ?_
  refine J_loc (loc' := [(0, .ref 57)]) [0] rfl ?_
  obtain ⟨k, hk⟩ : ∃ k : Bool × JD → Option (Option Value × JH), ∀ r9, k r9 = some (some (.int (j_b r9.1)), (g, r9.2)) := ⟨_, fun _ => rfl⟩
  refine J_eqo (hk (f_X13_granted d )).symm ?_
  unfold f_X13_granted
  refine J_aload_n (pc := 0) 0 dX13_granted_0 rfl rfl ?_
  refine J_iconst (pc := 1) (v := 0) dX13_granted_1 (by decide) ?_
  refine JC_lt_i (K := k) (J_callV (mi := mi_X13_granted) (mj := mi_X13_good) (pc := 2) dX13_granted_2 ml_X13_52 ok_X13_good ov_X13_good ⟨Nat.le_of_ble_eq_true rfl, Nat.le_of_ble_eq_true rfl⟩ rfl (h0.lt 57 (by decide)) (h0.ty 57 rfl) rfl (s_X13_good g d 0 h0) rfl (Nat.le_of_ble_eq_true rfl)) (fun q2 eq2 => ?_)
  refine J_pop (pc := 5) dX13_granted_5 rfl ?_
  refine J_iconst (pc := 6) (v := 1) dX13_granted_6 (by decide) ?_
  exact J_eqo (hk (true, q2.2)) (J_zretB (pc := 7) dX13_granted_7 rfl)
def f_X13_in (pq0 : Int32) (pq1 : Int32) (pq2 : Int32) : Bool := (if pq0 < pq1 then (false) else (if pq2 < pq0 then (false) else (true)))
set_option maxRecDepth 100000 in
set_option maxHeartbeats 4000000 in
theorem s_X13_in (g : JG) (d : JD) (pq0 : Int32) (pq1 : Int32) (pq2 : Int32) : JM mi_X13_in 0 0 (g, d) [.int pq0, .int pq1, .int pq2] (some (some (.int (j_b (f_X13_in pq0 pq1 pq2))), (g, d))) := by
  refine JM_of (by decide) rfl (Nat.le_of_ble_eq_true rfl) ?_
  refine J_loc (loc' := [(0, .int pq0), (1, .int pq1), (2, .int pq2)]) [0, 1, 2] rfl ?_
  obtain ⟨k, hk⟩ : ∃ k : Bool → Option (Option Value × JH), ∀ r9, k r9 = some (some (.int (j_b r9)), (g, d)) := ⟨_, fun _ => rfl⟩
  refine J_eqo (hk (f_X13_in pq0 pq1 pq2)).symm ?_
  unfold f_X13_in
  refine J_iload_n (pc := 0) 0 dX13_in_0 rfl rfl ?_
  refine J_iload_n (pc := 1) 1 dX13_in_1 rfl rfl ?_
  refine K_icmp_lt (K := k) (pc := 2) (tgt := 14) dX13_in_2 (by decide) (fun z2 => ?_) (fun z2 => ?_)
  · refine J_iconst (pc := 14) (v := 0) dX13_in_14 (by decide) ?_
    exact J_eqo (hk false) (J_zretB (pc := 15) dX13_in_15 rfl)
  · refine J_iload_n (pc := 5) 0 dX13_in_5 rfl rfl ?_
    refine J_iload_n (pc := 6) 2 dX13_in_6 rfl rfl ?_
    refine K_icmp_gt (K := k) (pc := 7) (tgt := 14) dX13_in_7 (by decide) (fun z7 => ?_) (fun z7 => ?_)
    · refine J_iconst (pc := 14) (v := 0) dX13_in_14 (by decide) ?_
      exact J_eqo (hk false) (J_zretB (pc := 15) dX13_in_15 rfl)
    · refine J_iconst (pc := 10) (v := 1) dX13_in_10 (by decide) ?_
      refine J_goto (pc := 11) (tgt := 15) dX13_in_11 (by decide) ?_
      exact J_eqo (hk true) (J_zretB (pc := 15) dX13_in_15 rfl)
def f_X13_bit (pq0 : Int32) (pq1 : Int32) : Bool := (if ((pq0 >>> (pq1 &&& 31)) &&& 1) = 1 then (true) else (false))
set_option maxRecDepth 100000 in
set_option maxHeartbeats 4000000 in
theorem s_X13_bit (g : JG) (d : JD) (pq0 : Int32) (pq1 : Int32) : JM mi_X13_bit 0 0 (g, d) [.int pq0, .int pq1] (some (some (.int (j_b (f_X13_bit pq0 pq1))), (g, d))) := by
  refine JM_of (by decide) rfl (Nat.le_of_ble_eq_true rfl) ?_
  refine J_loc (loc' := [(0, .int pq0), (1, .int pq1)]) [0, 1] rfl ?_
  obtain ⟨k, hk⟩ : ∃ k : Bool → Option (Option Value × JH), ∀ r9, k r9 = some (some (.int (j_b r9)), (g, d)) := ⟨_, fun _ => rfl⟩
  refine J_eqo (hk (f_X13_bit pq0 pq1)).symm ?_
  unfold f_X13_bit
  refine J_iload_n (pc := 0) 0 dX13_bit_0 rfl rfl ?_
  refine J_iload_n (pc := 1) 1 dX13_bit_1 rfl rfl ?_
  refine J_ishr (pc := 2) dX13_bit_2 ?_
  refine J_iconst (pc := 3) (v := 1) dX13_bit_3 (by decide) ?_
  refine J_iand (pc := 4) dX13_bit_4 ?_
  refine J_iconst (pc := 5) (v := 1) dX13_bit_5 (by decide) ?_
  refine K_icmp_ne (K := k) (pc := 6) (tgt := 13) dX13_bit_6 (by decide) (fun z6 => ?_) (fun z6 => ?_)
  · refine J_iconst (pc := 13) (v := 0) dX13_bit_13 (by decide) ?_
    exact J_eqo (hk false) (J_zretB (pc := 14) dX13_bit_14 rfl)
  · refine J_iconst (pc := 9) (v := 1) dX13_bit_9 (by decide) ?_
    refine J_goto (pc := 10) (tgt := 14) dX13_bit_10 (by decide) ?_
    exact J_eqo (hk true) (J_zretB (pc := 14) dX13_bit_14 rfl)
def f_X13_bits_w4 (s4 : Int32 × Int32) : Option ((Int32 × Int32) ⊕ (Int32)) := (if s4.2 = 0 then some (.inr s4.1) else (some (.inl (s4.1 + 1, s4.2 &&& (s4.2 - 1)))))
def f_X13_bits (pq0 : Int32) : Option (Int32) := ((j_wh (f_X13_bits_w4 ) j_fuel (0, pq0)).bind (fun (e4 : Int32) => (some e4)))
set_option maxRecDepth 100000 in
set_option maxHeartbeats 4000000 in
theorem s_X13_bits (g : JG) (d : JD) (pq0 : Int32) : JM mi_X13_bits 0 0 (g, d) [.int pq0] ((f_X13_bits pq0).bind (fun r9 => some (some (.int r9), (g, d)))) := by
  refine JM_of (by decide) rfl (Nat.le_of_ble_eq_true rfl) ?_
  refine J_loc (loc' := [(0, .int pq0)]) [0] rfl ?_
  obtain ⟨k, hk, hk2⟩ : ∃ k : Int32 → Option (Option Value × JH), (∀ r9, k r9 = some (some (.int r9), (g, d))) ∧ (fun r9 : Int32 => (some (some (.int r9), (g, d)) : Option (Option Value × JH))) = k := ⟨_, fun _ => rfl, rfl⟩
  rw [hk2]
  unfold f_X13_bits
  refine J_iconst (pc := 0) (v := 0) dX13_bits_0 (by decide) ?_
  refine J_istore_n (pc := 1) (loc' := [(1, .int 0), (0, .int pq0)]) dX13_bits_1 rfl (by decide) rfl ?_
  refine J_iload_n (pc := 2) 1 dX13_bits_2 rfl rfl ?_
  refine J_istore_n (pc := 3) (loc' := [(2, .int pq0), (1, .int 0), (0, .int pq0)]) dX13_bits_3 rfl (by decide) rfl ?_
  refine J_loc (loc' := [(1, .int 0), (2, .int pq0)]) [1, 0] rfl ?_
  refine J_whL (F := f_X13_bits_w4 ) (hp := fun (s4 : Int32 × Int32) => (g, d)) (lc := fun (s4 : Int32 × Int32) => [(1, .int s4.1), (2, .int s4.2)]) (XJ := fun (e4 : Int32) o9 => J mi_X13_bits 0 0 0 0 (g, d) 20 [(1, .int e4)] [] o9) (fun s4 k4 hB4 hX4 => ?_) (fun e4 => ?_) _ (0, pq0)
  · show J mi_X13_bits 0 0 0 0 (g, d) 4 [(1, .int s4.1), (2, .int s4.2)] [] ((f_X13_bits_w4 s4).bind k4)
    unfold f_X13_bits_w4
    refine J_iload_n (pc := 4) 1 dX13_bits_4 rfl rfl ?_
    refine K_if_eq (K := (fun x => Option.bind x k4)) (pc := 5) (tgt := 20) dX13_bits_5 (by decide) (fun z5 => ?_) (fun z5 => ?_)
    · refine J_loc (loc' := [(1, .int s4.1)]) [0] rfl ?_
      exact hX4 s4.1
    · refine J_iinc (pc := 8) (v := s4.1 + 1) (loc' := [(1, .int (s4.1 + 1)), (2, .int s4.2)]) 0 dX13_bits_8 rfl rfl (by decide) rfl ?_
      refine J_iload_n (pc := 11) 1 dX13_bits_11 rfl rfl ?_
      refine J_iload_n (pc := 12) 1 dX13_bits_12 rfl rfl ?_
      refine J_iconst (pc := 13) (v := 1) dX13_bits_13 (by decide) ?_
      refine J_isub (pc := 14) dX13_bits_14 ?_
      refine J_iand (pc := 15) dX13_bits_15 ?_
      refine J_istore_n (pc := 16) (loc' := [(2, .int (s4.2 &&& (s4.2 - 1))), (1, .int (s4.1 + 1))]) dX13_bits_16 rfl (by decide) rfl ?_
      refine J_goto (pc := 17) (tgt := 4) dX13_bits_17 (by decide) ?_
      refine J_loc (loc' := [(1, .int (s4.1 + 1)), (2, .int (s4.2 &&& (s4.2 - 1)))]) [1, 0] rfl ?_
      exact hB4 (s4.1 + 1, s4.2 &&& (s4.2 - 1))
  · show J mi_X13_bits 0 0 0 0 (g, d) 20 [(1, .int e4)] [] (_)
    refine J_iload_n (pc := 20) 0 dX13_bits_20 rfl rfl ?_
    exact J_eqo (hk e4) (J_iret (pc := 21) dX13_bits_21 rfl)
def f_X13_common_w6 (s6 : Int64 × Int64) : Option ((Int64 × Int64) ⊕ (Int64)) := (if (lg_cmp s6.2 (0 : Int64)) = 0 then some (.inr s6.1) else (if s6.2 = 0 then none else some (.inl (s6.2, s6.1 - s6.1 / s6.2 * s6.2))))
def f_X13_common (pq0 : Int64) (pq1 : Int64) : Option (Int64) := ((j_wh (f_X13_common_w6 ) j_fuel (pq0, pq1)).bind (fun (e6 : Int64) => (some e6)))
set_option maxRecDepth 100000 in
set_option maxHeartbeats 4000000 in
theorem s_X13_common (g : JG) (d : JD) (pq0 : Int64) (pq1 : Int64) : JM mi_X13_common 0 0 (g, d) [.long pq0, .long pq1] ((f_X13_common pq0 pq1).bind (fun r9 => some (some (.long r9), (g, d)))) := by
  refine JM_of (by decide) rfl (Nat.le_of_ble_eq_true rfl) ?_
  refine J_loc (loc' := [(0, .long pq0), (2, .long pq1)]) [0, 1] rfl ?_
  obtain ⟨k, hk, hk2⟩ : ∃ k : Int64 → Option (Option Value × JH), (∀ r9, k r9 = some (some (.long r9), (g, d))) ∧ (fun r9 : Int64 => (some (some (.long r9), (g, d)) : Option (Option Value × JH))) = k := ⟨_, fun _ => rfl, rfl⟩
  rw [hk2]
  unfold f_X13_common
  refine J_lload_n (pc := 0) 0 dX13_common_0 rfl rfl ?_
  refine J_lstore (pc := 1) (loc' := [(4, .long pq0), (0, .long pq0), (2, .long pq1)]) dX13_common_1 (by decide) rfl ?_
  refine J_lload_n (pc := 3) 2 dX13_common_3 rfl rfl ?_
  refine J_lstore (pc := 4) (loc' := [(6, .long pq1), (4, .long pq0), (0, .long pq0), (2, .long pq1)]) dX13_common_4 (by decide) rfl ?_
  refine J_loc (loc' := [(4, .long pq0), (6, .long pq1)]) [1, 0] rfl ?_
  refine J_whL (F := f_X13_common_w6 ) (hp := fun (s6 : Int64 × Int64) => (g, d)) (lc := fun (s6 : Int64 × Int64) => [(4, .long s6.1), (6, .long s6.2)]) (XJ := fun (e6 : Int64) o9 => J mi_X13_common 0 0 0 0 (g, d) 31 [(4, .long e6)] [] o9) (fun s6 k6 hB6 hX6 => ?_) (fun e6 => ?_) _ (pq0, pq1)
  · show J mi_X13_common 0 0 0 0 (g, d) 6 [(4, .long s6.1), (6, .long s6.2)] [] ((f_X13_common_w6 s6).bind k6)
    unfold f_X13_common_w6
    refine J_lload (pc := 6) 1 dX13_common_6 rfl ?_
    refine J_lconst (pc := 8) (v := 0) dX13_common_8 (by decide) ?_
    refine J_lcmp (pc := 9) dX13_common_9 ?_
    refine K_if_eq (K := (fun x => Option.bind x k6)) (pc := 10) (tgt := 31) dX13_common_10 (by decide) (fun z10 => ?_) (fun z10 => ?_)
    · refine J_loc (loc' := [(4, .long s6.1)]) [0] rfl ?_
      exact hX6 s6.1
    · refine J_lload (pc := 13) 0 dX13_common_13 rfl ?_
      refine J_lload (pc := 15) 1 dX13_common_15 rfl ?_
      refine J_nz (z0 := 0) (fun z17 => ?_)
      refine J_lrem (pc := 17) dX13_common_17 z17 ?_
      refine J_lstore (pc := 18) (loc' := [(8, .long (s6.1 - s6.1 / s6.2 * s6.2)), (4, .long s6.1), (6, .long s6.2)]) dX13_common_18 (by decide) rfl ?_
      refine J_lload (pc := 20) 2 dX13_common_20 rfl ?_
      refine J_lstore (pc := 22) (loc' := [(4, .long s6.2), (8, .long (s6.1 - s6.1 / s6.2 * s6.2)), (6, .long s6.2)]) dX13_common_22 (by decide) rfl ?_
      refine J_lload (pc := 24) 1 dX13_common_24 rfl ?_
      refine J_lstore (pc := 26) (loc' := [(6, .long (s6.1 - s6.1 / s6.2 * s6.2)), (4, .long s6.2), (8, .long (s6.1 - s6.1 / s6.2 * s6.2))]) dX13_common_26 (by decide) rfl ?_
      refine J_goto (pc := 28) (tgt := 6) dX13_common_28 (by decide) ?_
      refine J_loc (loc' := [(4, .long s6.2), (6, .long (s6.1 - s6.1 / s6.2 * s6.2))]) [1, 0] rfl ?_
      exact hB6 (s6.2, s6.1 - s6.1 / s6.2 * s6.2)
  · show J mi_X13_common 0 0 0 0 (g, d) 31 [(4, .long e6)] [] (_)
    refine J_lload (pc := 31) 0 dX13_common_31 rfl ?_
    exact J_eqo (hk e6) (J_lret (pc := 33) dX13_common_33 rfl)
def f_X13_fraction_j16 (d16 : JD) (x1_16 : Int64) (x3_16 : Int64) (y0_16 : Int64) : Option (Int64 × JD) := ((f_X13_common x1_16 x3_16).bind (fun q18 => if q18 = 0 then none else some (y0_16 / q18, d16)))
def f_X13_fraction (d : JD) (pq0 : Int64) (pq1 : Int64) (pq2 : Int32) : Option (Int64 × JD) := (j_let (f_X13_good d 0) (fun q2 => if pq2 = 0 then (f_X13_fraction_j16 q2.2 pq0 pq1 pq0) else (f_X13_fraction_j16 q2.2 pq0 pq1 pq1)))
set_option maxRecDepth 100000 in
set_option maxHeartbeats 4000000 in
theorem s_X13_fraction (g : JG) (d : JD) (pq0 : Int64) (pq1 : Int64) (pq2 : Int32) (h0 : j_sh g 0 TS_W RS_W) : JM mi_X13_fraction 0 0 (g, d) [.ref 57, .long pq0, .long pq1, .int pq2] ((f_X13_fraction d pq0 pq1 pq2).bind (fun r9 => some (some (.long r9.1), (g, r9.2)))) := by
  refine JM_of (by decide) rfl (Nat.le_of_ble_eq_true rfl) ?_
  refine J_loc (loc' := [(0, .ref 57), (1, .long pq0), (3, .long pq1), (5, .int pq2)]) [0, 1, 2, 3] rfl ?_
  obtain ⟨k, hk, hk2⟩ : ∃ k : Int64 × JD → Option (Option Value × JH), (∀ r9, k r9 = some (some (.long r9.1), (g, r9.2))) ∧ (fun r9 : Int64 × JD => (some (some (.long r9.1), (g, r9.2)) : Option (Option Value × JH))) = k := ⟨_, fun _ => rfl, rfl⟩
  rw [hk2]
  unfold f_X13_fraction
  have hX13_fraction_j16 : ∀ (d16 : JD) (x1_16 : Int64) (x3_16 : Int64) (y0_16 : Int64), J mi_X13_fraction 0 0 0 0 (g, d16) 16 [(1, .long x1_16), (3, .long x3_16)] [.long y0_16] ((f_X13_fraction_j16 d16 x1_16 x3_16 y0_16).bind k) := by
    intro d16 x1_16 x3_16 y0_16
    unfold f_X13_fraction_j16
    refine J_lload_n (pc := 16) 0 dX13_fraction_16 rfl rfl ?_
    refine J_lload_n (pc := 17) 1 dX13_fraction_17 rfl rfl ?_
    refine JC_pp_l (J_callS (mi := mi_X13_fraction) (mj := mi_X13_common) (pc := 18) dX13_fraction_18 ml_X13_55 ok_X13_common os_X13_common ⟨Nat.le_of_ble_eq_true rfl, Nat.le_of_ble_eq_true rfl⟩ rfl (s_X13_common g d16 x1_16 x3_16) rfl (Nat.le_of_ble_eq_true rfl)) (fun q18 => ?_)
    refine J_nz (z0 := 0) (fun z21 => ?_)
    refine J_ldiv (pc := 21) dX13_fraction_21 z21 ?_
    exact J_eqo (hk (y0_16 / q18, d16)) (J_lret (pc := 22) dX13_fraction_22 rfl)
  refine J_aload_n (pc := 0) 0 dX13_fraction_0 rfl rfl ?_
  refine J_iconst (pc := 1) (v := 0) dX13_fraction_1 (by decide) ?_
  refine JC_lt_i (K := (fun x => Option.bind x k)) (J_callV (mi := mi_X13_fraction) (mj := mi_X13_good) (pc := 2) dX13_fraction_2 ml_X13_52 ok_X13_good ov_X13_good ⟨Nat.le_of_ble_eq_true rfl, Nat.le_of_ble_eq_true rfl⟩ rfl (h0.lt 57 (by decide)) (h0.ty 57 rfl) rfl (s_X13_good g d 0 h0) rfl (Nat.le_of_ble_eq_true rfl)) (fun q2 eq2 => ?_)
  refine J_pop (pc := 5) dX13_fraction_5 rfl ?_
  refine J_iload (pc := 6) 3 dX13_fraction_6 rfl ?_
  refine K_if_eq (K := (fun x => Option.bind x k)) (pc := 8) (tgt := 15) dX13_fraction_8 (by decide) (fun z8 => ?_) (fun z8 => ?_)
  · refine J_lload_n (pc := 15) 1 dX13_fraction_15 rfl rfl ?_
    refine J_loc (loc' := [(1, .long pq0), (3, .long pq1)]) [1, 2] rfl ?_
    exact hX13_fraction_j16 q2.2 pq0 pq1 pq0
  · refine J_lload_n (pc := 11) 2 dX13_fraction_11 rfl rfl ?_
    refine J_goto (pc := 12) (tgt := 16) dX13_fraction_12 (by decide) ?_
    refine J_loc (loc' := [(1, .long pq0), (3, .long pq1)]) [1, 2] rfl ?_
    exact hX13_fraction_j16 q2.2 pq0 pq1 pq1
def f_X13_byteAt (r_57 : Nat → Int32) (r_58 : Nat → Int32) (pq0 : Int32) : Option (Int32) := (if (r_57 7) ≤ pq0 then (some (-1)) else (if j_out pq0 900 then none else some ((r_58 pq0.toNatClampNeg) &&& 255)))
set_option maxRecDepth 100000 in
set_option maxHeartbeats 4000000 in
theorem s_X13_byteAt (g : JG) (d : JD) (pq0 : Int32) (h0 : j_sh g 0 TS_W RS_W) : JM mi_X13_byteAt 0 0 (g, d) [.ref 57, .int pq0] ((f_X13_byteAt (d.1 57) (d.1 58) pq0).bind (fun r9 => some (some (.int r9), (g, d)))) := by
  refine JM_of (by decide) rfl (Nat.le_of_ble_eq_true rfl) ?_
  refine J_loc (loc' := [(0, .ref 57), (1, .int pq0)]) [0, 1] rfl ?_
  obtain ⟨k, hk, hk2⟩ : ∃ k : Int32 → Option (Option Value × JH), (∀ r9, k r9 = some (some (.int r9), (g, d))) ∧ (fun r9 : Int32 => (some (some (.int r9), (g, d)) : Option (Option Value × JH))) = k := ⟨_, fun _ => rfl, rfl⟩
  rw [hk2]
  unfold f_X13_byteAt
  refine J_iload_n (pc := 0) 1 dX13_byteAt_0 rfl rfl ?_
  refine J_aload_n (pc := 1) 0 dX13_byteAt_1 rfl rfl ?_
  refine J_getI (pc := 2) dX13_byteAt_2 fl_X13_59 (h0.lt 57 (by decide)) (h0.ty 57 rfl) rfl ?_
  refine K_icmp_ge (K := (fun x => Option.bind x k)) (pc := 5) (tgt := 21) dX13_byteAt_5 (by decide) (fun z5 => ?_) (fun z5 => ?_)
  · refine J_iconst (pc := 21) (v := (-1)) dX13_byteAt_21 (by decide) ?_
    exact J_eqo (hk (-1)) (J_iret (pc := 22) dX13_byteAt_22 rfl)
  · refine J_aload_n (pc := 8) 0 dX13_byteAt_8 rfl rfl ?_
    refine J_getR (pc := 9) dX13_byteAt_9 fl_X13_13 (h0.lt 57 (by decide)) (h0.ty 57 rfl) rfl (h0.rf 55 rfl) ?_
    refine J_iload_n (pc := 12) 1 dX13_byteAt_12 rfl rfl ?_
    refine J_guard (fun z13 => ?_)
    refine J_bald (pc := 13) dX13_byteAt_13 (h0.lt 58 (by decide)) (h0.ty 58 rfl) z13 ?_
    refine J_sipush (pc := 14) (v := 255) dX13_byteAt_14 (by decide) ?_
    refine J_iand (pc := 17) dX13_byteAt_17 ?_
    refine J_goto (pc := 18) (tgt := 22) dX13_byteAt_18 (by decide) ?_
    exact J_eqo (hk (((d.1 58) pq0.toNatClampNeg) &&& 255)) (J_iret (pc := 22) dX13_byteAt_22 rfl)
def f_X13_isLetter (pq0 : Int32) : Bool := (if pq0 < 97 then (false) else (if 122 < pq0 then (false) else (true)))
set_option maxRecDepth 100000 in
set_option maxHeartbeats 4000000 in
theorem s_X13_isLetter (g : JG) (d : JD) (pq0 : Int32) : JM mi_X13_isLetter 0 0 (g, d) [.int pq0] (some (some (.int (j_b (f_X13_isLetter pq0))), (g, d))) := by
  refine JM_of (by decide) rfl (Nat.le_of_ble_eq_true rfl) ?_
  refine J_loc (loc' := [(0, .int pq0)]) [0] rfl ?_
  obtain ⟨k, hk⟩ : ∃ k : Bool → Option (Option Value × JH), ∀ r9, k r9 = some (some (.int (j_b r9)), (g, d)) := ⟨_, fun _ => rfl⟩
  refine J_eqo (hk (f_X13_isLetter pq0)).symm ?_
  unfold f_X13_isLetter
  refine J_iload_n (pc := 0) 0 dX13_isLetter_0 rfl rfl ?_
  refine J_bipush (pc := 1) (v := 97) dX13_isLetter_1 (by decide) ?_
  refine K_icmp_lt (K := k) (pc := 3) (tgt := 16) dX13_isLetter_3 (by decide) (fun z3 => ?_) (fun z3 => ?_)
  · refine J_iconst (pc := 16) (v := 0) dX13_isLetter_16 (by decide) ?_
    exact J_eqo (hk false) (J_zretB (pc := 17) dX13_isLetter_17 rfl)
  · refine J_iload_n (pc := 6) 0 dX13_isLetter_6 rfl rfl ?_
    refine J_bipush (pc := 7) (v := 122) dX13_isLetter_7 (by decide) ?_
    refine K_icmp_gt (K := k) (pc := 9) (tgt := 16) dX13_isLetter_9 (by decide) (fun z9 => ?_) (fun z9 => ?_)
    · refine J_iconst (pc := 16) (v := 0) dX13_isLetter_16 (by decide) ?_
      exact J_eqo (hk false) (J_zretB (pc := 17) dX13_isLetter_17 rfl)
    · refine J_iconst (pc := 12) (v := 1) dX13_isLetter_12 (by decide) ?_
      refine J_goto (pc := 13) (tgt := 17) dX13_isLetter_13 (by decide) ?_
      exact J_eqo (hk true) (J_zretB (pc := 17) dX13_isLetter_17 rfl)
def f_X13_isDigit (pq0 : Int32) : Bool := (if pq0 < 48 then (false) else (if 57 < pq0 then (false) else (true)))
set_option maxRecDepth 100000 in
set_option maxHeartbeats 4000000 in
theorem s_X13_isDigit (g : JG) (d : JD) (pq0 : Int32) : JM mi_X13_isDigit 0 0 (g, d) [.int pq0] (some (some (.int (j_b (f_X13_isDigit pq0))), (g, d))) := by
  refine JM_of (by decide) rfl (Nat.le_of_ble_eq_true rfl) ?_
  refine J_loc (loc' := [(0, .int pq0)]) [0] rfl ?_
  obtain ⟨k, hk⟩ : ∃ k : Bool → Option (Option Value × JH), ∀ r9, k r9 = some (some (.int (j_b r9)), (g, d)) := ⟨_, fun _ => rfl⟩
  refine J_eqo (hk (f_X13_isDigit pq0)).symm ?_
  unfold f_X13_isDigit
  refine J_iload_n (pc := 0) 0 dX13_isDigit_0 rfl rfl ?_
  refine J_bipush (pc := 1) (v := 48) dX13_isDigit_1 (by decide) ?_
  refine K_icmp_lt (K := k) (pc := 3) (tgt := 16) dX13_isDigit_3 (by decide) (fun z3 => ?_) (fun z3 => ?_)
  · refine J_iconst (pc := 16) (v := 0) dX13_isDigit_16 (by decide) ?_
    exact J_eqo (hk false) (J_zretB (pc := 17) dX13_isDigit_17 rfl)
  · refine J_iload_n (pc := 6) 0 dX13_isDigit_6 rfl rfl ?_
    refine J_bipush (pc := 7) (v := 57) dX13_isDigit_7 (by decide) ?_
    refine K_icmp_gt (K := k) (pc := 9) (tgt := 16) dX13_isDigit_9 (by decide) (fun z9 => ?_) (fun z9 => ?_)
    · refine J_iconst (pc := 16) (v := 0) dX13_isDigit_16 (by decide) ?_
      exact J_eqo (hk false) (J_zretB (pc := 17) dX13_isDigit_17 rfl)
    · refine J_iconst (pc := 12) (v := 1) dX13_isDigit_12 (by decide) ?_
      refine J_goto (pc := 13) (tgt := 17) dX13_isDigit_13 (by decide) ?_
      exact J_eqo (hk true) (J_zretB (pc := 17) dX13_isDigit_17 rfl)
def f_X13_packed_w4 (c0_4 : Nat) (s4 : Int64 × Int32) : Option ((Int64 × Int32) ⊕ (Int64)) := (if (f_J0_length_8abf5 (c0_4)) ≤ s4.2 then some (.inr s4.1) else ((f_J0_charAt_5068e (c0_4) s4.2).bind (fun q19_4 => some (.inl (((32 : Int64) * s4.1) + (((q19_4 - 97) + 1).toInt64), s4.2 + 1)))))
def f_X13_packed (pq0 : Nat) : Option (Int64) := ((j_wh (f_X13_packed_w4 pq0 ) j_fuel (0, 0)).bind (fun (e4 : Int64) => (some e4)))
set_option maxRecDepth 100000 in
set_option maxHeartbeats 4000000 in
theorem s_X13_packed (g : JG) (d : JD) (pq0 : Nat) (hstr_pq0 : pq0 < 38) : JM mi_X13_packed 0 0 (g, d) [.ref (1000000 + pq0)] ((f_X13_packed pq0).bind (fun r9 => some (some (.long r9), (g, d)))) := by
  refine JM_of (by decide) rfl (Nat.le_of_ble_eq_true rfl) ?_
  refine J_loc (loc' := [(0, .ref (1000000 + pq0))]) [0] rfl ?_
  obtain ⟨k, hk, hk2⟩ : ∃ k : Int64 → Option (Option Value × JH), (∀ r9, k r9 = some (some (.long r9), (g, d))) ∧ (fun r9 : Int64 => (some (some (.long r9), (g, d)) : Option (Option Value × JH))) = k := ⟨_, fun _ => rfl, rfl⟩
  rw [hk2]
  unfold f_X13_packed
  refine J_lconst (pc := 0) (v := 0) dX13_packed_0 (by decide) ?_
  refine J_lstore_n (pc := 1) (loc' := [(1, .long 0), (0, .ref (1000000 + pq0))]) dX13_packed_1 rfl (by decide) rfl ?_
  refine J_iconst (pc := 2) (v := 0) dX13_packed_2 (by decide) ?_
  refine J_istore_n (pc := 3) (loc' := [(3, .int 0), (1, .long 0), (0, .ref (1000000 + pq0))]) dX13_packed_3 rfl (by decide) rfl ?_
  refine J_loc (loc' := [(0, .ref (1000000 + pq0)), (1, .long 0), (3, .int 0)]) [2, 1, 0] rfl ?_
  refine J_whL (F := f_X13_packed_w4 pq0 ) (hp := fun (s4 : Int64 × Int32) => (g, d)) (lc := fun (s4 : Int64 × Int32) => [(0, .ref (1000000 + pq0)), (1, .long s4.1), (3, .int s4.2)]) (XJ := fun (e4 : Int64) o9 => J mi_X13_packed 0 0 0 0 (g, d) 36 [(1, .long e4)] [] o9) (fun s4 k4 hB4 hX4 => ?_) (fun e4 => ?_) _ (0, 0)
  · show J mi_X13_packed 0 0 0 0 (g, d) 4 [(0, .ref (1000000 + pq0)), (1, .long s4.1), (3, .int s4.2)] [] ((f_X13_packed_w4 pq0 s4).bind k4)
    unfold f_X13_packed_w4
    refine J_iload_n (pc := 4) 2 dX13_packed_4 rfl rfl ?_
    refine J_aload_n (pc := 5) 0 dX13_packed_5 rfl rfl ?_
    refine JC_pt_i (J_callStr (mi := mi_X13_packed) (mj := mi_J0_length_8abf5) (pc := 6) dX13_packed_6 ml_X13_62 ok_J0_length_8abf5 ov_J0_length_8abf5 ⟨Nat.le_of_ble_eq_true rfl, Nat.le_of_ble_eq_true rfl⟩ rfl (s_J0_length_8abf5 g d pq0 hstr_pq0) rfl (Nat.le_of_ble_eq_true rfl) hstr_pq0 rfl) ?_
    refine K_icmp_ge (K := (fun x => Option.bind x k4)) (pc := 9) (tgt := 36) dX13_packed_9 (by decide) (fun z9 => ?_) (fun z9 => ?_)
    · refine J_loc (loc' := [(1, .long s4.1)]) [1] rfl ?_
      exact hX4 s4.1
    · refine J_ldc2 (pc := 12) (v := 32) dX13_packed_12 cn_X13_68 ?_
      refine J_lload_n (pc := 15) 1 dX13_packed_15 rfl rfl ?_
      refine J_lmul (pc := 16) dX13_packed_16 ?_
      refine J_aload_n (pc := 17) 0 dX13_packed_17 rfl rfl ?_
      refine J_iload_n (pc := 18) 2 dX13_packed_18 rfl rfl ?_
      refine JC_pp_i (J_callStr (mi := mi_X13_packed) (mj := mi_J0_charAt_5068e) (pc := 19) dX13_packed_19 ml_X13_70 ok_J0_charAt_5068e ov_J0_charAt_5068e ⟨Nat.le_of_ble_eq_true rfl, Nat.le_of_ble_eq_true rfl⟩ rfl (s_J0_charAt_5068e g d pq0 s4.2 hstr_pq0) rfl (Nat.le_of_ble_eq_true rfl) hstr_pq0 rfl) (fun q19_4 => ?_)
      refine J_bipush (pc := 22) (v := 97) dX13_packed_22 (by decide) ?_
      refine J_isub (pc := 24) dX13_packed_24 ?_
      refine J_iconst (pc := 25) (v := 1) dX13_packed_25 (by decide) ?_
      refine J_iadd (pc := 26) dX13_packed_26 ?_
      refine J_i2l (pc := 27) dX13_packed_27 ?_
      refine J_ladd (pc := 28) dX13_packed_28 ?_
      refine J_lstore_n (pc := 29) (loc' := [(1, .long (((32 : Int64) * s4.1) + (((q19_4 - 97) + 1).toInt64))), (0, .ref (1000000 + pq0)), (3, .int s4.2)]) dX13_packed_29 rfl (by decide) rfl ?_
      refine J_iinc (pc := 30) (v := s4.2 + 1) (loc' := [(3, .int (s4.2 + 1)), (1, .long (((32 : Int64) * s4.1) + (((q19_4 - 97) + 1).toInt64))), (0, .ref (1000000 + pq0))]) 2 dX13_packed_30 rfl rfl (by decide) rfl ?_
      refine J_goto (pc := 33) (tgt := 4) dX13_packed_33 (by decide) ?_
      refine J_loc (loc' := [(0, .ref (1000000 + pq0)), (1, .long (((32 : Int64) * s4.1) + (((q19_4 - 97) + 1).toInt64))), (3, .int (s4.2 + 1))]) [2, 1, 0] rfl ?_
      exact hB4 (((32 : Int64) * s4.1) + (((q19_4 - 97) + 1).toInt64), s4.2 + 1)
  · show J mi_X13_packed 0 0 0 0 (g, d) 36 [(1, .long e4)] [] (_)
    refine J_lload_n (pc := 36) 0 dX13_packed_36 rfl rfl ?_
    exact J_eqo (hk e4) (J_lret (pc := 37) dX13_packed_37 rfl)
def f_X13_goesOn_w9 (s9 : JD) : Option ((JD) ⊕ (JD)) := ((f_X13_byteAt (s9.1 57) (s9.1 58) ((s9.1 57) 8)).bind (fun q14_9 => if q14_9 = 32 then (some (.inl (j_sI s9 57 8 (((s9.1 57) 8) + 1)))) else some (.inr s9)))
def f_X13_goesOn_j256 (d256 : JD) (x1_256 : Int32) : Option (JD) := (some (j_sI (j_sI (j_sI d256 57 9 4) 57 11 x1_256) 57 8 (((d256.1 57) 8) + 1)))
def f_X13_goesOn_j215_173 (d215_173 : JD) (x2_215_173 : Int32) : Option ((Int32 × JD) ⊕ (Int32 × JD)) := (some (.inl (x2_215_173 + 1, j_sI d215_173 57 8 (((d215_173.1 57) 8) + 1))))
def f_X13_goesOn_w173 (s173 : Int32 × JD) : Option ((Int32 × JD) ⊕ (Int32 × JD)) := ((f_X13_byteAt (s173.2.1 57) (s173.2.1 58) ((s173.2.1 57) 8)).bind (fun q178_173 => if (f_X13_isDigit q178_173) = true then (if 3 ≤ s173.1 then f_X13_goesOn_j215_173 s173.2 s173.1 else ((f_X13_byteAt (s173.2.1 57) (s173.2.1 58) ((s173.2.1 57) 8)).bind (fun q205_173 => f_X13_goesOn_j215_173 (j_sI s173.2 57 11 ((((10 : Int32) * ((s173.2.1 57) 11)) + q205_173) - 48)) s173.1))) else some (.inr (s173.1, s173.2))))
def f_X13_goesOn_j131_84 (d131_84 : JD) (x2_131_84 : Int32) : Option ((Int32 × JD) ⊕ (Int32 × JD)) := (some (.inl (x2_131_84 + 1, j_sI d131_84 57 8 (((d131_84.1 57) 8) + 1))))
def f_X13_goesOn_w84 (s84 : Int32 × JD) : Option ((Int32 × JD) ⊕ (Int32 × JD)) := ((f_X13_byteAt (s84.2.1 57) (s84.2.1 58) ((s84.2.1 57) 8)).bind (fun q89_84 => if (f_X13_isLetter q89_84) = true then (if 8 ≤ s84.1 then f_X13_goesOn_j131_84 s84.2 s84.1 else ((f_X13_byteAt (s84.2.1 57) (s84.2.1 58) ((s84.2.1 57) 8)).bind (fun q118_84 => f_X13_goesOn_j131_84 (j_sL s84.2 57 14 (((32 : Int64) * ((s84.2.2 57) 14)) + (((q118_84 - 97) + 1).toInt64))) s84.1))) else some (.inr (s84.1, s84.2))))
def f_X13_goesOn (d : JD) : Option (JD) := (if ((d.1 57) 9) = 5 then (some d) else (j_wh (f_X13_goesOn_w9 ) j_fuel d).bind (fun (e9 : JD) => ((f_X13_byteAt ((j_sI (j_sI e9 57 10 ((e9.1 57) 8)) 57 9 0).1 57) (e9.1 58) ((e9.1 57) 8)).bind (fun q53 => if q53 = (-1) then (some (j_sI (j_sI (j_sI e9 57 10 ((e9.1 57) 8)) 57 9 0) 57 9 1)) else (if (f_X13_isLetter q53) = true then ((j_wh (f_X13_goesOn_w84 ) j_fuel (0, j_sL (j_sI (j_sI e9 57 10 ((e9.1 57) 8)) 57 9 0) 57 14 0)).bind (fun (e84 : Int32 × JD) => (if 8 < e84.1 then (some e84.2) else (some (j_sI e84.2 57 9 2))))) else (if (f_X13_isDigit q53) = true then ((j_wh (f_X13_goesOn_w173 ) j_fuel (0, j_sI (j_sI (j_sI e9 57 10 ((e9.1 57) 8)) 57 9 0) 57 11 0)).bind (fun (e173 : Int32 × JD) => (if 3 < e173.1 then (some e173.2) else (some (j_sI e173.2 57 9 3))))) else (if q53 = 59 then f_X13_goesOn_j256 (j_sI (j_sI e9 57 10 ((e9.1 57) 8)) 57 9 0) q53 else (if q53 = 44 then f_X13_goesOn_j256 (j_sI (j_sI e9 57 10 ((e9.1 57) 8)) 57 9 0) q53 else (some (j_sI (j_sI e9 57 10 ((e9.1 57) 8)) 57 9 0))))))))))
set_option maxRecDepth 100000 in
set_option maxHeartbeats 4000000 in
theorem s_X13_goesOn (g : JG) (d : JD) (h0 : j_sh g 0 TS_W RS_W) : JM mi_X13_goesOn 0 0 (g, d) [.ref 57] ((f_X13_goesOn d ).bind (fun r9 => some (none, (g, r9)))) := by
  refine JM_of (by decide) rfl (Nat.le_of_ble_eq_true rfl) ?_
  refine J_loc (loc' := [(0, .ref 57)]) [0] rfl ?_
  obtain ⟨k, hk, hk2⟩ : ∃ k : JD → Option (Option Value × JH), (∀ r9, k r9 = some (none, (g, r9))) ∧ (fun r9 : JD => (some (none, (g, r9)) : Option (Option Value × JH))) = k := ⟨_, fun _ => rfl, rfl⟩
  rw [hk2]
  unfold f_X13_goesOn
  have hX13_goesOn_j256 : ∀ (d256 : JD) (x1_256 : Int32), J mi_X13_goesOn 0 0 0 0 (g, d256) 256 [(0, .ref 57), (1, .int x1_256)] [] ((f_X13_goesOn_j256 d256 x1_256).bind k) := by
    intro d256 x1_256
    unfold f_X13_goesOn_j256
    refine J_aload_n (pc := 256) 0 dX13_goesOn_256 rfl rfl ?_
    refine J_iconst (pc := 257) (v := 4) dX13_goesOn_257 (by decide) ?_
    refine J_putI (pc := 258) dX13_goesOn_258 fl_X13_74 ft_12_9 (h0.lt 57 (by decide)) (h0.ty 57 rfl) rfl rfl rfl ?_
    refine J_aload_n (pc := 261) 0 dX13_goesOn_261 rfl rfl ?_
    refine J_iload_n (pc := 262) 1 dX13_goesOn_262 rfl rfl ?_
    refine J_putI (pc := 263) dX13_goesOn_263 fl_X13_97 ft_12_11 (h0.lt 57 (by decide)) (h0.ty 57 rfl) rfl rfl rfl ?_
    refine J_aload_n (pc := 266) 0 dX13_goesOn_266 rfl rfl ?_
    refine J_dup (pc := 267) dX13_goesOn_267 rfl ?_
    refine J_getI (pc := 268) dX13_goesOn_268 fl_X13_77 (h0.lt 57 (by decide)) (h0.ty 57 rfl) rfl ?_
    refine J_val (y := (d256.1 57) 8) rfl ?_
    refine J_iconst (pc := 271) (v := 1) dX13_goesOn_271 (by decide) ?_
    refine J_iadd (pc := 272) dX13_goesOn_272 ?_
    refine J_putI (pc := 273) dX13_goesOn_273 fl_X13_77 ft_12_8 (h0.lt 57 (by decide)) (h0.ty 57 rfl) rfl rfl rfl ?_
    exact J_eqo (hk (j_sI (j_sI (j_sI d256 57 9 4) 57 11 x1_256) 57 8 (((d256.1 57) 8) + 1))) (J_vret (pc := 276) dX13_goesOn_276 rfl)
  refine J_aload_n (pc := 0) 0 dX13_goesOn_0 rfl rfl ?_
  refine J_getI (pc := 1) dX13_goesOn_1 fl_X13_74 (h0.lt 57 (by decide)) (h0.ty 57 rfl) rfl ?_
  refine J_iconst (pc := 4) (v := 5) dX13_goesOn_4 (by decide) ?_
  refine K_icmp_ne (K := (fun x => Option.bind x k)) (pc := 5) (tgt := 9) dX13_goesOn_5 (by decide) (fun z5 => ?_) (fun z5 => ?_)
  · refine J_whL (F := f_X13_goesOn_w9 ) (hp := fun (s9 : JD) => (g, s9)) (lc := fun (s9 : JD) => [(0, .ref 57)]) (XJ := fun (e9 : JD) o9 => J mi_X13_goesOn 0 0 0 0 (g, e9) 35 [(0, .ref 57)] [] o9) (fun s9 k9 hB9 hX9 => ?_) (fun e9 => ?_) _ d
    · show J mi_X13_goesOn 0 0 0 0 (g, s9) 9 [(0, .ref 57)] [] ((f_X13_goesOn_w9 s9).bind k9)
      unfold f_X13_goesOn_w9
      refine J_aload_n (pc := 9) 0 dX13_goesOn_9 rfl rfl ?_
      refine J_aload_n (pc := 10) 0 dX13_goesOn_10 rfl rfl ?_
      refine J_getI (pc := 11) dX13_goesOn_11 fl_X13_77 (h0.lt 57 (by decide)) (h0.ty 57 rfl) rfl ?_
      refine JC_pp_i (J_callV (mi := mi_X13_goesOn) (mj := mi_X13_byteAt) (pc := 14) dX13_goesOn_14 ml_X13_80 ok_X13_byteAt ov_X13_byteAt ⟨Nat.le_of_ble_eq_true rfl, Nat.le_of_ble_eq_true rfl⟩ rfl (h0.lt 57 (by decide)) (h0.ty 57 rfl) rfl (s_X13_byteAt g s9 ((s9.1 57) 8) h0) rfl (Nat.le_of_ble_eq_true rfl)) (fun q14_9 => ?_)
      refine J_bipush (pc := 17) (v := 32) dX13_goesOn_17 (by decide) ?_
      refine K_icmp_ne (K := (fun x => Option.bind x k9)) (pc := 19) (tgt := 35) dX13_goesOn_19 (by decide) (fun z19 => ?_) (fun z19 => ?_)
      · exact hX9 s9
      · refine J_aload_n (pc := 22) 0 dX13_goesOn_22 rfl rfl ?_
        refine J_dup (pc := 23) dX13_goesOn_23 rfl ?_
        refine J_getI (pc := 24) dX13_goesOn_24 fl_X13_77 (h0.lt 57 (by decide)) (h0.ty 57 rfl) rfl ?_
        refine J_iconst (pc := 27) (v := 1) dX13_goesOn_27 (by decide) ?_
        refine J_iadd (pc := 28) dX13_goesOn_28 ?_
        refine J_putI (pc := 29) dX13_goesOn_29 fl_X13_77 ft_12_8 (h0.lt 57 (by decide)) (h0.ty 57 rfl) rfl rfl rfl ?_
        refine J_goto (pc := 32) (tgt := 9) dX13_goesOn_32 (by decide) ?_
        exact hB9 (j_sI s9 57 8 (((s9.1 57) 8) + 1))
    · show J mi_X13_goesOn 0 0 0 0 (g, e9) 35 [(0, .ref 57)] [] (_)
      refine J_aload_n (pc := 35) 0 dX13_goesOn_35 rfl rfl ?_
      refine J_aload_n (pc := 36) 0 dX13_goesOn_36 rfl rfl ?_
      refine J_getI (pc := 37) dX13_goesOn_37 fl_X13_77 (h0.lt 57 (by decide)) (h0.ty 57 rfl) rfl ?_
      refine J_putI (pc := 40) dX13_goesOn_40 fl_X13_83 ft_12_10 (h0.lt 57 (by decide)) (h0.ty 57 rfl) rfl rfl rfl ?_
      refine J_aload_n (pc := 43) 0 dX13_goesOn_43 rfl rfl ?_
      refine J_iconst (pc := 44) (v := 0) dX13_goesOn_44 (by decide) ?_
      refine J_putI (pc := 45) dX13_goesOn_45 fl_X13_74 ft_12_9 (h0.lt 57 (by decide)) (h0.ty 57 rfl) rfl rfl rfl ?_
      refine J_aload_n (pc := 48) 0 dX13_goesOn_48 rfl rfl ?_
      refine J_aload_n (pc := 49) 0 dX13_goesOn_49 rfl rfl ?_
      refine J_getI (pc := 50) dX13_goesOn_50 fl_X13_77 (h0.lt 57 (by decide)) (h0.ty 57 rfl) rfl ?_
      refine J_val (y := (e9.1 57) 8) rfl ?_
      refine JC_pp_i (J_callV (mi := mi_X13_goesOn) (mj := mi_X13_byteAt) (pc := 53) dX13_goesOn_53 ml_X13_80 ok_X13_byteAt ov_X13_byteAt ⟨Nat.le_of_ble_eq_true rfl, Nat.le_of_ble_eq_true rfl⟩ rfl (h0.lt 57 (by decide)) (h0.ty 57 rfl) rfl (s_X13_byteAt g (j_sI (j_sI e9 57 10 ((e9.1 57) 8)) 57 9 0) ((e9.1 57) 8) h0) rfl (Nat.le_of_ble_eq_true rfl)) (fun q53 => ?_)
      refine J_istore_n (pc := 56) (loc' := [(1, .int q53), (0, .ref 57)]) dX13_goesOn_56 rfl (by decide) rfl ?_
      refine J_iconst (pc := 57) (v := 0) dX13_goesOn_57 (by decide) ?_
      refine J_istore_n (pc := 58) (loc' := [(2, .int 0), (1, .int q53), (0, .ref 57)]) dX13_goesOn_58 rfl (by decide) rfl ?_
      refine J_iload_n (pc := 59) 1 dX13_goesOn_59 rfl rfl ?_
      refine J_iconst (pc := 60) (v := (-1)) dX13_goesOn_60 (by decide) ?_
      refine K_icmp_ne (K := (fun x => Option.bind x k)) (pc := 61) (tgt := 72) dX13_goesOn_61 (by decide) (fun z61 => ?_) (fun z61 => ?_)
      · refine J_iload_n (pc := 72) 1 dX13_goesOn_72 rfl rfl ?_
        refine JC_pt_i (J_callS (mi := mi_X13_goesOn) (mj := mi_X13_isLetter) (pc := 73) dX13_goesOn_73 ml_X13_86 ok_X13_isLetter os_X13_isLetter ⟨Nat.le_of_ble_eq_true rfl, Nat.le_of_ble_eq_true rfl⟩ rfl (s_X13_isLetter g (j_sI (j_sI e9 57 10 ((e9.1 57) 8)) 57 9 0) q53) rfl (Nat.le_of_ble_eq_true rfl)) ?_
        refine K_ifeq_b (K := (fun x => Option.bind x k)) (pc := 76) (tgt := 161) dX13_goesOn_76 (by decide) (fun z76 => ?_) (fun z76 => ?_)
        · refine J_iload_n (pc := 161) 1 dX13_goesOn_161 rfl rfl ?_
          refine JC_pt_i (J_callS (mi := mi_X13_goesOn) (mj := mi_X13_isDigit) (pc := 162) dX13_goesOn_162 ml_X13_94 ok_X13_isDigit os_X13_isDigit ⟨Nat.le_of_ble_eq_true rfl, Nat.le_of_ble_eq_true rfl⟩ rfl (s_X13_isDigit g (j_sI (j_sI e9 57 10 ((e9.1 57) 8)) 57 9 0) q53) rfl (Nat.le_of_ble_eq_true rfl)) ?_
          refine K_ifeq_b (K := (fun x => Option.bind x k)) (pc := 165) (tgt := 244) dX13_goesOn_165 (by decide) (fun z165 => ?_) (fun z165 => ?_)
          · refine J_iload_n (pc := 244) 1 dX13_goesOn_244 rfl rfl ?_
            refine J_bipush (pc := 245) (v := 59) dX13_goesOn_245 (by decide) ?_
            refine K_icmp_eq (K := (fun x => Option.bind x k)) (pc := 247) (tgt := 256) dX13_goesOn_247 (by decide) (fun z247 => ?_) (fun z247 => ?_)
            · refine J_loc (loc' := [(0, .ref 57), (1, .int q53)]) [2, 1] rfl ?_
              exact hX13_goesOn_j256 (j_sI (j_sI e9 57 10 ((e9.1 57) 8)) 57 9 0) q53
            · refine J_iload_n (pc := 250) 1 dX13_goesOn_250 rfl rfl ?_
              refine J_bipush (pc := 251) (v := 44) dX13_goesOn_251 (by decide) ?_
              refine K_icmp_ne (K := (fun x => Option.bind x k)) (pc := 253) (tgt := 276) dX13_goesOn_253 (by decide) (fun z253 => ?_) (fun z253 => ?_)
              · exact J_eqo (hk (j_sI (j_sI e9 57 10 ((e9.1 57) 8)) 57 9 0)) (J_vret (pc := 276) dX13_goesOn_276 rfl)
              · refine J_loc (loc' := [(0, .ref 57), (1, .int q53)]) [2, 1] rfl ?_
                exact hX13_goesOn_j256 (j_sI (j_sI e9 57 10 ((e9.1 57) 8)) 57 9 0) q53
          · refine J_aload_n (pc := 168) 2 dX13_goesOn_168 rfl rfl ?_
            refine J_iconst (pc := 169) (v := 0) dX13_goesOn_169 (by decide) ?_
            refine J_putI (pc := 170) dX13_goesOn_170 fl_X13_97 ft_12_11 (h0.lt 57 (by decide)) (h0.ty 57 rfl) rfl rfl rfl ?_
            refine J_loc (loc' := [(0, .ref 57), (2, .int 0)]) [2, 0] rfl ?_
            refine J_whL (F := f_X13_goesOn_w173 ) (hp := fun (s173 : Int32 × JD) => (g, s173.2)) (lc := fun (s173 : Int32 × JD) => [(0, .ref 57), (2, .int s173.1)]) (XJ := fun (e173 : Int32 × JD) o9 => J mi_X13_goesOn 0 0 0 0 (g, e173.2) 231 [(0, .ref 57), (2, .int e173.1)] [] o9) (fun s173 k173 hB173 hX173 => ?_) (fun e173 => ?_) _ (0, j_sI (j_sI (j_sI e9 57 10 ((e9.1 57) 8)) 57 9 0) 57 11 0)
            · show J mi_X13_goesOn 0 0 0 0 (g, s173.2) 173 [(0, .ref 57), (2, .int s173.1)] [] ((f_X13_goesOn_w173 s173).bind k173)
              unfold f_X13_goesOn_w173
              have hX13_goesOn_j215_173 : ∀ (d215_173 : JD) (x2_215_173 : Int32), J mi_X13_goesOn 0 0 0 0 (g, d215_173) 215 [(0, .ref 57), (2, .int x2_215_173)] [] ((f_X13_goesOn_j215_173 d215_173 x2_215_173).bind k173) := by
                intro d215_173 x2_215_173
                unfold f_X13_goesOn_j215_173
                refine J_iinc (pc := 215) (v := x2_215_173 + 1) (loc' := [(2, .int (x2_215_173 + 1)), (0, .ref 57)]) 1 dX13_goesOn_215 rfl rfl (by decide) rfl ?_
                refine J_aload_n (pc := 218) 1 dX13_goesOn_218 rfl rfl ?_
                refine J_dup (pc := 219) dX13_goesOn_219 rfl ?_
                refine J_getI (pc := 220) dX13_goesOn_220 fl_X13_77 (h0.lt 57 (by decide)) (h0.ty 57 rfl) rfl ?_
                refine J_iconst (pc := 223) (v := 1) dX13_goesOn_223 (by decide) ?_
                refine J_iadd (pc := 224) dX13_goesOn_224 ?_
                refine J_putI (pc := 225) dX13_goesOn_225 fl_X13_77 ft_12_8 (h0.lt 57 (by decide)) (h0.ty 57 rfl) rfl rfl rfl ?_
                refine J_goto (pc := 228) (tgt := 173) dX13_goesOn_228 (by decide) ?_
                refine J_loc (loc' := [(0, .ref 57), (2, .int (x2_215_173 + 1))]) [1, 0] rfl ?_
                exact hB173 (x2_215_173 + 1, j_sI d215_173 57 8 (((d215_173.1 57) 8) + 1))
              refine J_aload_n (pc := 173) 0 dX13_goesOn_173 rfl rfl ?_
              refine J_aload_n (pc := 174) 0 dX13_goesOn_174 rfl rfl ?_
              refine J_getI (pc := 175) dX13_goesOn_175 fl_X13_77 (h0.lt 57 (by decide)) (h0.ty 57 rfl) rfl ?_
              refine JC_pp_i (J_callV (mi := mi_X13_goesOn) (mj := mi_X13_byteAt) (pc := 178) dX13_goesOn_178 ml_X13_80 ok_X13_byteAt ov_X13_byteAt ⟨Nat.le_of_ble_eq_true rfl, Nat.le_of_ble_eq_true rfl⟩ rfl (h0.lt 57 (by decide)) (h0.ty 57 rfl) rfl (s_X13_byteAt g s173.2 ((s173.2.1 57) 8) h0) rfl (Nat.le_of_ble_eq_true rfl)) (fun q178_173 => ?_)
              refine JC_pt_i (J_callS (mi := mi_X13_goesOn) (mj := mi_X13_isDigit) (pc := 181) dX13_goesOn_181 ml_X13_94 ok_X13_isDigit os_X13_isDigit ⟨Nat.le_of_ble_eq_true rfl, Nat.le_of_ble_eq_true rfl⟩ rfl (s_X13_isDigit g s173.2 q178_173) rfl (Nat.le_of_ble_eq_true rfl)) ?_
              refine K_ifeq_b (K := (fun x => Option.bind x k173)) (pc := 184) (tgt := 231) dX13_goesOn_184 (by decide) (fun z184 => ?_) (fun z184 => ?_)
              · exact hX173 (s173.1, s173.2)
              · refine J_iload_n (pc := 187) 1 dX13_goesOn_187 rfl rfl ?_
                refine J_iconst (pc := 188) (v := 3) dX13_goesOn_188 (by decide) ?_
                refine K_icmp_ge (K := (fun x => Option.bind x k173)) (pc := 189) (tgt := 215) dX13_goesOn_189 (by decide) (fun z189 => ?_) (fun z189 => ?_)
                · exact hX13_goesOn_j215_173 s173.2 s173.1
                · refine J_aload_n (pc := 192) 0 dX13_goesOn_192 rfl rfl ?_
                  refine J_bipush (pc := 193) (v := 10) dX13_goesOn_193 (by decide) ?_
                  refine J_aload_n (pc := 195) 0 dX13_goesOn_195 rfl rfl ?_
                  refine J_getI (pc := 196) dX13_goesOn_196 fl_X13_97 (h0.lt 57 (by decide)) (h0.ty 57 rfl) rfl ?_
                  refine J_imul (pc := 199) dX13_goesOn_199 ?_
                  refine J_aload_n (pc := 200) 0 dX13_goesOn_200 rfl rfl ?_
                  refine J_aload_n (pc := 201) 0 dX13_goesOn_201 rfl rfl ?_
                  refine J_getI (pc := 202) dX13_goesOn_202 fl_X13_77 (h0.lt 57 (by decide)) (h0.ty 57 rfl) rfl ?_
                  refine JC_pp_i (J_callV (mi := mi_X13_goesOn) (mj := mi_X13_byteAt) (pc := 205) dX13_goesOn_205 ml_X13_80 ok_X13_byteAt ov_X13_byteAt ⟨Nat.le_of_ble_eq_true rfl, Nat.le_of_ble_eq_true rfl⟩ rfl (h0.lt 57 (by decide)) (h0.ty 57 rfl) rfl (s_X13_byteAt g s173.2 ((s173.2.1 57) 8) h0) rfl (Nat.le_of_ble_eq_true rfl)) (fun q205_173 => ?_)
                  refine J_iadd (pc := 208) dX13_goesOn_208 ?_
                  refine J_bipush (pc := 209) (v := 48) dX13_goesOn_209 (by decide) ?_
                  refine J_isub (pc := 211) dX13_goesOn_211 ?_
                  refine J_putI (pc := 212) dX13_goesOn_212 fl_X13_97 ft_12_11 (h0.lt 57 (by decide)) (h0.ty 57 rfl) rfl rfl rfl ?_
                  exact hX13_goesOn_j215_173 (j_sI s173.2 57 11 ((((10 : Int32) * ((s173.2.1 57) 11)) + q205_173) - 48)) s173.1
            · show J mi_X13_goesOn 0 0 0 0 (g, e173.2) 231 [(0, .ref 57), (2, .int e173.1)] [] (_)
              refine J_iload_n (pc := 231) 1 dX13_goesOn_231 rfl rfl ?_
              refine J_iconst (pc := 232) (v := 3) dX13_goesOn_232 (by decide) ?_
              refine K_icmp_gt (K := (fun x => Option.bind x k)) (pc := 233) (tgt := 276) dX13_goesOn_233 (by decide) (fun z233 => ?_) (fun z233 => ?_)
              · exact J_eqo (hk e173.2) (J_vret (pc := 276) dX13_goesOn_276 rfl)
              · refine J_aload_n (pc := 236) 0 dX13_goesOn_236 rfl rfl ?_
                refine J_iconst (pc := 237) (v := 3) dX13_goesOn_237 (by decide) ?_
                refine J_putI (pc := 238) dX13_goesOn_238 fl_X13_74 ft_12_9 (h0.lt 57 (by decide)) (h0.ty 57 rfl) rfl rfl rfl ?_
                refine J_goto (pc := 241) (tgt := 276) dX13_goesOn_241 (by decide) ?_
                exact J_eqo (hk (j_sI e173.2 57 9 3)) (J_vret (pc := 276) dX13_goesOn_276 rfl)
        · refine J_aload_n (pc := 79) 2 dX13_goesOn_79 rfl rfl ?_
          refine J_lconst (pc := 80) (v := 0) dX13_goesOn_80 (by decide) ?_
          refine J_putL (pc := 81) dX13_goesOn_81 fl_X13_90 ft_12_14 (h0.lt 57 (by decide)) (h0.ty 57 rfl) rfl rfl rfl ?_
          refine J_loc (loc' := [(0, .ref 57), (2, .int 0)]) [2, 0] rfl ?_
          refine J_whL (F := f_X13_goesOn_w84 ) (hp := fun (s84 : Int32 × JD) => (g, s84.2)) (lc := fun (s84 : Int32 × JD) => [(0, .ref 57), (2, .int s84.1)]) (XJ := fun (e84 : Int32 × JD) o9 => J mi_X13_goesOn 0 0 0 0 (g, e84.2) 147 [(0, .ref 57), (2, .int e84.1)] [] o9) (fun s84 k84 hB84 hX84 => ?_) (fun e84 => ?_) _ (0, j_sL (j_sI (j_sI e9 57 10 ((e9.1 57) 8)) 57 9 0) 57 14 0)
          · show J mi_X13_goesOn 0 0 0 0 (g, s84.2) 84 [(0, .ref 57), (2, .int s84.1)] [] ((f_X13_goesOn_w84 s84).bind k84)
            unfold f_X13_goesOn_w84
            have hX13_goesOn_j131_84 : ∀ (d131_84 : JD) (x2_131_84 : Int32), J mi_X13_goesOn 0 0 0 0 (g, d131_84) 131 [(0, .ref 57), (2, .int x2_131_84)] [] ((f_X13_goesOn_j131_84 d131_84 x2_131_84).bind k84) := by
              intro d131_84 x2_131_84
              unfold f_X13_goesOn_j131_84
              refine J_iinc (pc := 131) (v := x2_131_84 + 1) (loc' := [(2, .int (x2_131_84 + 1)), (0, .ref 57)]) 1 dX13_goesOn_131 rfl rfl (by decide) rfl ?_
              refine J_aload_n (pc := 134) 1 dX13_goesOn_134 rfl rfl ?_
              refine J_dup (pc := 135) dX13_goesOn_135 rfl ?_
              refine J_getI (pc := 136) dX13_goesOn_136 fl_X13_77 (h0.lt 57 (by decide)) (h0.ty 57 rfl) rfl ?_
              refine J_iconst (pc := 139) (v := 1) dX13_goesOn_139 (by decide) ?_
              refine J_iadd (pc := 140) dX13_goesOn_140 ?_
              refine J_putI (pc := 141) dX13_goesOn_141 fl_X13_77 ft_12_8 (h0.lt 57 (by decide)) (h0.ty 57 rfl) rfl rfl rfl ?_
              refine J_goto (pc := 144) (tgt := 84) dX13_goesOn_144 (by decide) ?_
              refine J_loc (loc' := [(0, .ref 57), (2, .int (x2_131_84 + 1))]) [1, 0] rfl ?_
              exact hB84 (x2_131_84 + 1, j_sI d131_84 57 8 (((d131_84.1 57) 8) + 1))
            refine J_aload_n (pc := 84) 0 dX13_goesOn_84 rfl rfl ?_
            refine J_aload_n (pc := 85) 0 dX13_goesOn_85 rfl rfl ?_
            refine J_getI (pc := 86) dX13_goesOn_86 fl_X13_77 (h0.lt 57 (by decide)) (h0.ty 57 rfl) rfl ?_
            refine JC_pp_i (J_callV (mi := mi_X13_goesOn) (mj := mi_X13_byteAt) (pc := 89) dX13_goesOn_89 ml_X13_80 ok_X13_byteAt ov_X13_byteAt ⟨Nat.le_of_ble_eq_true rfl, Nat.le_of_ble_eq_true rfl⟩ rfl (h0.lt 57 (by decide)) (h0.ty 57 rfl) rfl (s_X13_byteAt g s84.2 ((s84.2.1 57) 8) h0) rfl (Nat.le_of_ble_eq_true rfl)) (fun q89_84 => ?_)
            refine JC_pt_i (J_callS (mi := mi_X13_goesOn) (mj := mi_X13_isLetter) (pc := 92) dX13_goesOn_92 ml_X13_86 ok_X13_isLetter os_X13_isLetter ⟨Nat.le_of_ble_eq_true rfl, Nat.le_of_ble_eq_true rfl⟩ rfl (s_X13_isLetter g s84.2 q89_84) rfl (Nat.le_of_ble_eq_true rfl)) ?_
            refine K_ifeq_b (K := (fun x => Option.bind x k84)) (pc := 95) (tgt := 147) dX13_goesOn_95 (by decide) (fun z95 => ?_) (fun z95 => ?_)
            · exact hX84 (s84.1, s84.2)
            · refine J_iload_n (pc := 98) 1 dX13_goesOn_98 rfl rfl ?_
              refine J_bipush (pc := 99) (v := 8) dX13_goesOn_99 (by decide) ?_
              refine K_icmp_ge (K := (fun x => Option.bind x k84)) (pc := 101) (tgt := 131) dX13_goesOn_101 (by decide) (fun z101 => ?_) (fun z101 => ?_)
              · exact hX13_goesOn_j131_84 s84.2 s84.1
              · refine J_aload_n (pc := 104) 0 dX13_goesOn_104 rfl rfl ?_
                refine J_ldc2 (pc := 105) (v := 32) dX13_goesOn_105 cn_X13_68 ?_
                refine J_aload_n (pc := 108) 0 dX13_goesOn_108 rfl rfl ?_
                refine J_getL (pc := 109) dX13_goesOn_109 fl_X13_90 (h0.lt 57 (by decide)) (h0.ty 57 rfl) rfl ?_
                refine J_lmul (pc := 112) dX13_goesOn_112 ?_
                refine J_aload_n (pc := 113) 0 dX13_goesOn_113 rfl rfl ?_
                refine J_aload_n (pc := 114) 0 dX13_goesOn_114 rfl rfl ?_
                refine J_getI (pc := 115) dX13_goesOn_115 fl_X13_77 (h0.lt 57 (by decide)) (h0.ty 57 rfl) rfl ?_
                refine JC_pp_i (J_callV (mi := mi_X13_goesOn) (mj := mi_X13_byteAt) (pc := 118) dX13_goesOn_118 ml_X13_80 ok_X13_byteAt ov_X13_byteAt ⟨Nat.le_of_ble_eq_true rfl, Nat.le_of_ble_eq_true rfl⟩ rfl (h0.lt 57 (by decide)) (h0.ty 57 rfl) rfl (s_X13_byteAt g s84.2 ((s84.2.1 57) 8) h0) rfl (Nat.le_of_ble_eq_true rfl)) (fun q118_84 => ?_)
                refine J_bipush (pc := 121) (v := 97) dX13_goesOn_121 (by decide) ?_
                refine J_isub (pc := 123) dX13_goesOn_123 ?_
                refine J_iconst (pc := 124) (v := 1) dX13_goesOn_124 (by decide) ?_
                refine J_iadd (pc := 125) dX13_goesOn_125 ?_
                refine J_i2l (pc := 126) dX13_goesOn_126 ?_
                refine J_ladd (pc := 127) dX13_goesOn_127 ?_
                refine J_putL (pc := 128) dX13_goesOn_128 fl_X13_90 ft_12_14 (h0.lt 57 (by decide)) (h0.ty 57 rfl) rfl rfl rfl ?_
                exact hX13_goesOn_j131_84 (j_sL s84.2 57 14 (((32 : Int64) * ((s84.2.2 57) 14)) + (((q118_84 - 97) + 1).toInt64))) s84.1
          · show J mi_X13_goesOn 0 0 0 0 (g, e84.2) 147 [(0, .ref 57), (2, .int e84.1)] [] (_)
            refine J_iload_n (pc := 147) 1 dX13_goesOn_147 rfl rfl ?_
            refine J_bipush (pc := 148) (v := 8) dX13_goesOn_148 (by decide) ?_
            refine K_icmp_gt (K := (fun x => Option.bind x k)) (pc := 150) (tgt := 276) dX13_goesOn_150 (by decide) (fun z150 => ?_) (fun z150 => ?_)
            · exact J_eqo (hk e84.2) (J_vret (pc := 276) dX13_goesOn_276 rfl)
            · refine J_aload_n (pc := 153) 0 dX13_goesOn_153 rfl rfl ?_
              refine J_iconst (pc := 154) (v := 2) dX13_goesOn_154 (by decide) ?_
              refine J_putI (pc := 155) dX13_goesOn_155 fl_X13_74 ft_12_9 (h0.lt 57 (by decide)) (h0.ty 57 rfl) rfl rfl rfl ?_
              refine J_goto (pc := 158) (tgt := 276) dX13_goesOn_158 (by decide) ?_
              exact J_eqo (hk (j_sI e84.2 57 9 2)) (J_vret (pc := 276) dX13_goesOn_276 rfl)
      · refine J_aload_n (pc := 64) 2 dX13_goesOn_64 rfl rfl ?_
        refine J_iconst (pc := 65) (v := 1) dX13_goesOn_65 (by decide) ?_
        refine J_putI (pc := 66) dX13_goesOn_66 fl_X13_74 ft_12_9 (h0.lt 57 (by decide)) (h0.ty 57 rfl) rfl rfl rfl ?_
        refine J_goto (pc := 69) (tgt := 276) dX13_goesOn_69 (by decide) ?_
        exact J_eqo (hk (j_sI (j_sI (j_sI e9 57 10 ((e9.1 57) 8)) 57 9 0) 57 9 1)) (J_vret (pc := 276) dX13_goesOn_276 rfl)
  · exact J_eqo (hk d) (J_vret (pc := 8) dX13_goesOn_8 rfl)
def f_X13_flaw (d : JD) (pq0 : Int32) : JD := (if ((d.1 57) 9) = 5 then (d) else (j_sI (j_sI (j_sI d 57 12 pq0) 57 13 ((d.1 57) 10)) 57 9 5))
set_option maxRecDepth 100000 in
set_option maxHeartbeats 4000000 in
theorem s_X13_flaw (g : JG) (d : JD) (pq0 : Int32) (h0 : j_sh g 0 TS_W RS_W) : JM mi_X13_flaw 0 0 (g, d) [.ref 57, .int pq0] (some (none, (g, (f_X13_flaw d pq0)))) := by
  refine JM_of (by decide) rfl (Nat.le_of_ble_eq_true rfl) ?_
  refine J_loc (loc' := [(0, .ref 57), (1, .int pq0)]) [0, 1] rfl ?_
  obtain ⟨k, hk⟩ : ∃ k : JD → Option (Option Value × JH), ∀ r9, k r9 = some (none, (g, r9)) := ⟨_, fun _ => rfl⟩
  refine J_eqo (hk (f_X13_flaw d pq0)).symm ?_
  unfold f_X13_flaw
  refine J_aload_n (pc := 0) 0 dX13_flaw_0 rfl rfl ?_
  refine J_getI (pc := 1) dX13_flaw_1 fl_X13_74 (h0.lt 57 (by decide)) (h0.ty 57 rfl) rfl ?_
  refine J_iconst (pc := 4) (v := 5) dX13_flaw_4 (by decide) ?_
  refine K_icmp_ne (K := k) (pc := 5) (tgt := 9) dX13_flaw_5 (by decide) (fun z5 => ?_) (fun z5 => ?_)
  · refine J_aload_n (pc := 9) 0 dX13_flaw_9 rfl rfl ?_
    refine J_iload_n (pc := 10) 1 dX13_flaw_10 rfl rfl ?_
    refine J_putI (pc := 11) dX13_flaw_11 fl_X13_100 ft_12_12 (h0.lt 57 (by decide)) (h0.ty 57 rfl) rfl rfl rfl ?_
    refine J_aload_n (pc := 14) 0 dX13_flaw_14 rfl rfl ?_
    refine J_aload_n (pc := 15) 0 dX13_flaw_15 rfl rfl ?_
    refine J_getI (pc := 16) dX13_flaw_16 fl_X13_83 (h0.lt 57 (by decide)) (h0.ty 57 rfl) rfl ?_
    refine J_val (y := (d.1 57) 10) rfl ?_
    refine J_putI (pc := 19) dX13_flaw_19 fl_X13_103 ft_12_13 (h0.lt 57 (by decide)) (h0.ty 57 rfl) rfl rfl rfl ?_
    refine J_aload_n (pc := 22) 0 dX13_flaw_22 rfl rfl ?_
    refine J_iconst (pc := 23) (v := 5) dX13_flaw_23 (by decide) ?_
    refine J_putI (pc := 24) dX13_flaw_24 fl_X13_74 ft_12_9 (h0.lt 57 (by decide)) (h0.ty 57 rfl) rfl rfl rfl ?_
    exact J_eqo (hk (j_sI (j_sI (j_sI d 57 12 pq0) 57 13 ((d.1 57) 10)) 57 9 5)) (J_vret (pc := 27) dX13_flaw_27 rfl)
  · exact J_eqo (hk d) (J_vret (pc := 8) dX13_flaw_8 rfl)
def f_X13_isWord (r_57 : Nat → Int32) (q_57 : Nat → Int64) (pq0 : Nat) : Option (Bool) := (if (r_57 9) = 2 then ((f_X13_packed pq0).bind (fun q13 => if (lg_cmp (q_57 14) q13) = 0 then (some true) else (some false))) else (some false))
set_option maxRecDepth 100000 in
set_option maxHeartbeats 4000000 in
theorem s_X13_isWord (g : JG) (d : JD) (pq0 : Nat) (h0 : j_sh g 0 TS_W RS_W) (hstr_pq0 : pq0 < 38) : JM mi_X13_isWord 0 0 (g, d) [.ref 57, .ref (1000000 + pq0)] ((f_X13_isWord (d.1 57) (d.2 57) pq0).bind (fun r9 => some (some (.int (j_b r9)), (g, d)))) := by
  refine JM_of (by decide) rfl (Nat.le_of_ble_eq_true rfl) ?_
  refine J_loc (loc' := [(0, .ref 57), (1, .ref (1000000 + pq0))]) [0, 1] rfl ?_
  obtain ⟨k, hk, hk2⟩ : ∃ k : Bool → Option (Option Value × JH), (∀ r9, k r9 = some (some (.int (j_b r9)), (g, d))) ∧ (fun r9 : Bool => (some (some (.int (j_b r9)), (g, d)) : Option (Option Value × JH))) = k := ⟨_, fun _ => rfl, rfl⟩
  rw [hk2]
  unfold f_X13_isWord
  refine J_aload_n (pc := 0) 0 dX13_isWord_0 rfl rfl ?_
  refine J_getI (pc := 1) dX13_isWord_1 fl_X13_74 (h0.lt 57 (by decide)) (h0.ty 57 rfl) rfl ?_
  refine J_iconst (pc := 4) (v := 2) dX13_isWord_4 (by decide) ?_
  refine K_icmp_ne (K := (fun x => Option.bind x k)) (pc := 5) (tgt := 24) dX13_isWord_5 (by decide) (fun z5 => ?_) (fun z5 => ?_)
  · refine J_iconst (pc := 24) (v := 0) dX13_isWord_24 (by decide) ?_
    exact J_eqo (hk false) (J_zretB (pc := 25) dX13_isWord_25 rfl)
  · refine J_aload_n (pc := 8) 0 dX13_isWord_8 rfl rfl ?_
    refine J_getL (pc := 9) dX13_isWord_9 fl_X13_90 (h0.lt 57 (by decide)) (h0.ty 57 rfl) rfl ?_
    refine J_aload_n (pc := 12) 1 dX13_isWord_12 rfl rfl ?_
    refine JC_pp_l (J_callS (mi := mi_X13_isWord) (mj := mi_X13_packed) (pc := 13) dX13_isWord_13 ml_X13_106 ok_X13_packed os_X13_packed ⟨Nat.le_of_ble_eq_true rfl, Nat.le_of_ble_eq_true rfl⟩ rfl (s_X13_packed g d pq0 hstr_pq0) rfl (Nat.le_of_ble_eq_true rfl)) (fun q13 => ?_)
    refine J_lcmp (pc := 16) dX13_isWord_16 ?_
    refine K_if_ne (K := (fun x => Option.bind x k)) (pc := 17) (tgt := 24) dX13_isWord_17 (by decide) (fun z17 => ?_) (fun z17 => ?_)
    · refine J_iconst (pc := 24) (v := 0) dX13_isWord_24 (by decide) ?_
      exact J_eqo (hk false) (J_zretB (pc := 25) dX13_isWord_25 rfl)
    · refine J_iconst (pc := 20) (v := 1) dX13_isWord_20 (by decide) ?_
      refine J_goto (pc := 21) (tgt := 25) dX13_isWord_21 (by decide) ?_
      exact J_eqo (hk true) (J_zretB (pc := 25) dX13_isWord_25 rfl)
def f_X13_eats_j21 (d21 : JD) (y0_21 : Bool) : Option (Bool × JD) := (if y0_21 = true then ((f_X13_goesOn d21).bind (fun q27 => some (y0_21, q27))) else (some (y0_21, d21)))
def f_X13_eats_j20 (d20 : JD) : Option (Bool × JD) := (f_X13_eats_j21 d20 false)
def f_X13_eats (d : JD) (pq0 : Int32) : Option (Bool × JD) := (if ((d.1 57) 9) = 4 then (if ((d.1 57) 11) = pq0 then (f_X13_eats_j21 d true) else f_X13_eats_j20 d ) else f_X13_eats_j20 d )
set_option maxRecDepth 100000 in
set_option maxHeartbeats 4000000 in
theorem s_X13_eats (g : JG) (d : JD) (pq0 : Int32) (h0 : j_sh g 0 TS_W RS_W) : JM mi_X13_eats 0 0 (g, d) [.ref 57, .int pq0] ((f_X13_eats d pq0).bind (fun r9 => some (some (.int (j_b r9.1)), (g, r9.2)))) := by
  refine JM_of (by decide) rfl (Nat.le_of_ble_eq_true rfl) ?_
  refine J_loc (loc' := [(0, .ref 57), (1, .int pq0)]) [0, 1] rfl ?_
  obtain ⟨k, hk, hk2⟩ : ∃ k : Bool × JD → Option (Option Value × JH), (∀ r9, k r9 = some (some (.int (j_b r9.1)), (g, r9.2))) ∧ (fun r9 : Bool × JD => (some (some (.int (j_b r9.1)), (g, r9.2)) : Option (Option Value × JH))) = k := ⟨_, fun _ => rfl, rfl⟩
  rw [hk2]
  unfold f_X13_eats
  have hX13_eats_j21 : ∀ (d21 : JD) (y0_21 : Bool), J mi_X13_eats 0 0 0 0 (g, d21) 21 [(0, .ref 57)] [.int (j_b y0_21)] ((f_X13_eats_j21 d21 y0_21).bind k) := by
    intro d21 y0_21
    unfold f_X13_eats_j21
    refine J_istore_n (pc := 21) (loc' := [(2, .int (j_b y0_21)), (0, .ref 57)]) dX13_eats_21 rfl (by decide) rfl ?_
    refine J_iload_n (pc := 22) 0 dX13_eats_22 rfl rfl ?_
    refine K_ifeq_b (K := (fun x => Option.bind x k)) (pc := 23) (tgt := 30) dX13_eats_23 (by decide) (fun z23 => ?_) (fun z23 => ?_)
    · refine J_iload_n (pc := 30) 0 dX13_eats_30 rfl rfl ?_
      exact J_eqo (hk (y0_21, d21)) (J_zretB (pc := 31) dX13_eats_31 rfl)
    · refine J_aload_n (pc := 26) 1 dX13_eats_26 rfl rfl ?_
      refine JC_pe_v (J_callV (mi := mi_X13_eats) (mj := mi_X13_goesOn) (pc := 27) dX13_eats_27 ml_X13_110 ok_X13_goesOn ov_X13_goesOn ⟨Nat.le_of_ble_eq_true rfl, Nat.le_of_ble_eq_true rfl⟩ rfl (h0.lt 57 (by decide)) (h0.ty 57 rfl) rfl (s_X13_goesOn g d21 h0) rfl (Nat.le_of_ble_eq_true rfl)) (fun q27 => ?_)
      refine J_iload_n (pc := 30) 0 dX13_eats_30 rfl rfl ?_
      exact J_eqo (hk (y0_21, q27)) (J_zretB (pc := 31) dX13_eats_31 rfl)
  have hX13_eats_j20 : ∀ (d20 : JD) , J mi_X13_eats 0 0 0 0 (g, d20) 20 [(0, .ref 57)] [] ((f_X13_eats_j20 d20 ).bind k) := by
    intro d20 
    unfold f_X13_eats_j20
    refine J_iconst (pc := 20) (v := 0) dX13_eats_20 (by decide) ?_
    exact hX13_eats_j21 d20 false
  refine J_aload_n (pc := 0) 0 dX13_eats_0 rfl rfl ?_
  refine J_getI (pc := 1) dX13_eats_1 fl_X13_74 (h0.lt 57 (by decide)) (h0.ty 57 rfl) rfl ?_
  refine J_iconst (pc := 4) (v := 4) dX13_eats_4 (by decide) ?_
  refine K_icmp_ne (K := (fun x => Option.bind x k)) (pc := 5) (tgt := 20) dX13_eats_5 (by decide) (fun z5 => ?_) (fun z5 => ?_)
  · refine J_loc (loc' := [(0, .ref 57)]) [0] rfl ?_
    exact hX13_eats_j20 d 
  · refine J_aload_n (pc := 8) 0 dX13_eats_8 rfl rfl ?_
    refine J_getI (pc := 9) dX13_eats_9 fl_X13_97 (h0.lt 57 (by decide)) (h0.ty 57 rfl) rfl ?_
    refine J_iload_n (pc := 12) 1 dX13_eats_12 rfl rfl ?_
    refine K_icmp_ne (K := (fun x => Option.bind x k)) (pc := 13) (tgt := 20) dX13_eats_13 (by decide) (fun z13 => ?_) (fun z13 => ?_)
    · refine J_loc (loc' := [(0, .ref 57)]) [0] rfl ?_
      exact hX13_eats_j20 d 
    · refine J_iconst (pc := 16) (v := 1) dX13_eats_16 (by decide) ?_
      refine J_goto (pc := 17) (tgt := 21) dX13_eats_17 (by decide) ?_
      refine J_loc (loc' := [(0, .ref 57)]) [0] rfl ?_
      exact hX13_eats_j21 d true
def f_X13_needs_j13 (pq0 : Nat) (d13 : JD) : Option (JD) := ((f_X13_goesOn d13).bind (fun q14 => some q14))
def f_X13_needs (d : JD) (pq0 : Nat) : Option (JD) := ((f_X13_isWord (d.1 57) (d.2 57) pq0).bind (fun q2 => if q2 = true then f_X13_needs_j13 pq0 d else (j_let (f_X13_flaw d 1) (fun q10 => f_X13_needs_j13 pq0 q10 ))))
set_option maxRecDepth 100000 in
set_option maxHeartbeats 4000000 in
theorem s_X13_needs (g : JG) (d : JD) (pq0 : Nat) (h0 : j_sh g 0 TS_W RS_W) (hstr_pq0 : pq0 < 38) : JM mi_X13_needs 0 0 (g, d) [.ref 57, .ref (1000000 + pq0)] ((f_X13_needs d pq0).bind (fun r9 => some (none, (g, r9)))) := by
  refine JM_of (by decide) rfl (Nat.le_of_ble_eq_true rfl) ?_
  refine J_loc (loc' := [(0, .ref 57), (1, .ref (1000000 + pq0))]) [0, 1] rfl ?_
  obtain ⟨k, hk, hk2⟩ : ∃ k : JD → Option (Option Value × JH), (∀ r9, k r9 = some (none, (g, r9))) ∧ (fun r9 : JD => (some (none, (g, r9)) : Option (Option Value × JH))) = k := ⟨_, fun _ => rfl, rfl⟩
  rw [hk2]
  unfold f_X13_needs
  have hX13_needs_j13 : ∀ (d13 : JD) , J mi_X13_needs 0 0 0 0 (g, d13) 13 [(0, .ref 57)] [] ((f_X13_needs_j13 pq0 d13 ).bind k) := by
    intro d13 
    unfold f_X13_needs_j13
    refine J_aload_n (pc := 13) 0 dX13_needs_13 rfl rfl ?_
    refine JC_pe_v (J_callV (mi := mi_X13_needs) (mj := mi_X13_goesOn) (pc := 14) dX13_needs_14 ml_X13_110 ok_X13_goesOn ov_X13_goesOn ⟨Nat.le_of_ble_eq_true rfl, Nat.le_of_ble_eq_true rfl⟩ rfl (h0.lt 57 (by decide)) (h0.ty 57 rfl) rfl (s_X13_goesOn g d13 h0) rfl (Nat.le_of_ble_eq_true rfl)) (fun q14 => ?_)
    exact J_eqo (hk q14) (J_vret (pc := 17) dX13_needs_17 rfl)
  refine J_aload_n (pc := 0) 0 dX13_needs_0 rfl rfl ?_
  refine J_aload_n (pc := 1) 1 dX13_needs_1 rfl rfl ?_
  refine JC_pp_b (J_callV (mi := mi_X13_needs) (mj := mi_X13_isWord) (pc := 2) dX13_needs_2 ml_X13_113 ok_X13_isWord ov_X13_isWord ⟨Nat.le_of_ble_eq_true rfl, Nat.le_of_ble_eq_true rfl⟩ rfl (h0.lt 57 (by decide)) (h0.ty 57 rfl) rfl (s_X13_isWord g d pq0 h0 hstr_pq0) rfl (Nat.le_of_ble_eq_true rfl)) (fun q2 => ?_)
  refine K_ifne_b (K := (fun x => Option.bind x k)) (pc := 5) (tgt := 13) dX13_needs_5 (by decide) (fun z5 => ?_) (fun z5 => ?_)
  · refine J_loc (loc' := [(0, .ref 57)]) [0] rfl ?_
    exact hX13_needs_j13 d 
  · refine J_aload_n (pc := 8) 0 dX13_needs_8 rfl rfl ?_
    refine J_iconst (pc := 9) (v := 1) dX13_needs_9 (by decide) ?_
    refine JC_lt_v (K := (fun x => Option.bind x k)) (J_callV (mi := mi_X13_needs) (mj := mi_X13_flaw) (pc := 10) dX13_needs_10 ml_X13_117 ok_X13_flaw ov_X13_flaw ⟨Nat.le_of_ble_eq_true rfl, Nat.le_of_ble_eq_true rfl⟩ rfl (h0.lt 57 (by decide)) (h0.ty 57 rfl) rfl (s_X13_flaw g d 1 h0) rfl (Nat.le_of_ble_eq_true rfl)) (fun q10 eq10 => ?_)
    refine J_loc (loc' := [(0, .ref 57)]) [0] rfl ?_
    exact hX13_needs_j13 q10 
def f_X13_readWhole_j49 (d49 : JD) (y0_49 : Int32) : Option (Int32 × JD) := ((f_X13_goesOn d49).bind (fun q51 => some (y0_49, q51)))
def f_X13_readWhole_j33 (d33 : JD) (x1_33 : Int32) : Option (Int32 × JD) := (if ((d33.1 57) 9) = 5 then (f_X13_readWhole_j49 d33 x1_33) else (f_X13_readWhole_j49 d33 ((d33.1 57) 11)))
def f_X13_readWhole (d : JD) (pq0 : Int32) (pq1 : Int32) : Option (Int32 × JD) := (if ((d.1 57) 9) = 3 then (if (f_X13_in ((d.1 57) 11) pq0 pq1) = true then f_X13_readWhole_j33 d pq0 else (j_let (f_X13_flaw d 4) (fun q30 => f_X13_readWhole_j33 q30 pq0))) else (j_let (f_X13_flaw d 1) (fun q10 => f_X13_readWhole_j33 q10 pq0)))
set_option maxRecDepth 100000 in
set_option maxHeartbeats 4000000 in
theorem s_X13_readWhole (g : JG) (d : JD) (pq0 : Int32) (pq1 : Int32) (h0 : j_sh g 0 TS_W RS_W) : JM mi_X13_readWhole 0 0 (g, d) [.ref 57, .int pq0, .int pq1] ((f_X13_readWhole d pq0 pq1).bind (fun r9 => some (some (.int r9.1), (g, r9.2)))) := by
  refine JM_of (by decide) rfl (Nat.le_of_ble_eq_true rfl) ?_
  refine J_loc (loc' := [(0, .ref 57), (1, .int pq0), (2, .int pq1)]) [0, 1, 2] rfl ?_
  obtain ⟨k, hk, hk2⟩ : ∃ k : Int32 × JD → Option (Option Value × JH), (∀ r9, k r9 = some (some (.int r9.1), (g, r9.2))) ∧ (fun r9 : Int32 × JD => (some (some (.int r9.1), (g, r9.2)) : Option (Option Value × JH))) = k := ⟨_, fun _ => rfl, rfl⟩
  rw [hk2]
  unfold f_X13_readWhole
  have hX13_readWhole_j49 : ∀ (d49 : JD) (y0_49 : Int32), J mi_X13_readWhole 0 0 0 0 (g, d49) 49 [(0, .ref 57)] [.int y0_49] ((f_X13_readWhole_j49 d49 y0_49).bind k) := by
    intro d49 y0_49
    unfold f_X13_readWhole_j49
    refine J_istore_n (pc := 49) (loc' := [(3, .int y0_49), (0, .ref 57)]) dX13_readWhole_49 rfl (by decide) rfl ?_
    refine J_aload_n (pc := 50) 1 dX13_readWhole_50 rfl rfl ?_
    refine JC_pe_v (J_callV (mi := mi_X13_readWhole) (mj := mi_X13_goesOn) (pc := 51) dX13_readWhole_51 ml_X13_110 ok_X13_goesOn ov_X13_goesOn ⟨Nat.le_of_ble_eq_true rfl, Nat.le_of_ble_eq_true rfl⟩ rfl (h0.lt 57 (by decide)) (h0.ty 57 rfl) rfl (s_X13_goesOn g d49 h0) rfl (Nat.le_of_ble_eq_true rfl)) (fun q51 => ?_)
    refine J_iload_n (pc := 54) 0 dX13_readWhole_54 rfl rfl ?_
    exact J_eqo (hk (y0_49, q51)) (J_iret (pc := 55) dX13_readWhole_55 rfl)
  have hX13_readWhole_j33 : ∀ (d33 : JD) (x1_33 : Int32), J mi_X13_readWhole 0 0 0 0 (g, d33) 33 [(0, .ref 57), (1, .int x1_33)] [] ((f_X13_readWhole_j33 d33 x1_33).bind k) := by
    intro d33 x1_33
    unfold f_X13_readWhole_j33
    refine J_aload_n (pc := 33) 0 dX13_readWhole_33 rfl rfl ?_
    refine J_getI (pc := 34) dX13_readWhole_34 fl_X13_74 (h0.lt 57 (by decide)) (h0.ty 57 rfl) rfl ?_
    refine J_iconst (pc := 37) (v := 5) dX13_readWhole_37 (by decide) ?_
    refine K_icmp_ne (K := (fun x => Option.bind x k)) (pc := 38) (tgt := 45) dX13_readWhole_38 (by decide) (fun z38 => ?_) (fun z38 => ?_)
    · refine J_aload_n (pc := 45) 0 dX13_readWhole_45 rfl rfl ?_
      refine J_getI (pc := 46) dX13_readWhole_46 fl_X13_97 (h0.lt 57 (by decide)) (h0.ty 57 rfl) rfl ?_
      refine J_loc (loc' := [(0, .ref 57)]) [0] rfl ?_
      exact hX13_readWhole_j49 d33 ((d33.1 57) 11)
    · refine J_iload_n (pc := 41) 1 dX13_readWhole_41 rfl rfl ?_
      refine J_goto (pc := 42) (tgt := 49) dX13_readWhole_42 (by decide) ?_
      refine J_loc (loc' := [(0, .ref 57)]) [0] rfl ?_
      exact hX13_readWhole_j49 d33 x1_33
  refine J_aload_n (pc := 0) 0 dX13_readWhole_0 rfl rfl ?_
  refine J_getI (pc := 1) dX13_readWhole_1 fl_X13_74 (h0.lt 57 (by decide)) (h0.ty 57 rfl) rfl ?_
  refine J_iconst (pc := 4) (v := 3) dX13_readWhole_4 (by decide) ?_
  refine K_icmp_eq (K := (fun x => Option.bind x k)) (pc := 5) (tgt := 16) dX13_readWhole_5 (by decide) (fun z5 => ?_) (fun z5 => ?_)
  · refine J_aload_n (pc := 16) 0 dX13_readWhole_16 rfl rfl ?_
    refine J_getI (pc := 17) dX13_readWhole_17 fl_X13_97 (h0.lt 57 (by decide)) (h0.ty 57 rfl) rfl ?_
    refine J_iload_n (pc := 20) 1 dX13_readWhole_20 rfl rfl ?_
    refine J_iload_n (pc := 21) 2 dX13_readWhole_21 rfl rfl ?_
    refine JC_pt_i (J_callS (mi := mi_X13_readWhole) (mj := mi_X13_in) (pc := 22) dX13_readWhole_22 ml_X13_121 ok_X13_in os_X13_in ⟨Nat.le_of_ble_eq_true rfl, Nat.le_of_ble_eq_true rfl⟩ rfl (s_X13_in g d ((d.1 57) 11) pq0 pq1) rfl (Nat.le_of_ble_eq_true rfl)) ?_
    refine K_ifne_b (K := (fun x => Option.bind x k)) (pc := 25) (tgt := 33) dX13_readWhole_25 (by decide) (fun z25 => ?_) (fun z25 => ?_)
    · refine J_loc (loc' := [(0, .ref 57), (1, .int pq0)]) [0, 1] rfl ?_
      exact hX13_readWhole_j33 d pq0
    · refine J_aload_n (pc := 28) 0 dX13_readWhole_28 rfl rfl ?_
      refine J_iconst (pc := 29) (v := 4) dX13_readWhole_29 (by decide) ?_
      refine JC_lt_v (K := (fun x => Option.bind x k)) (J_callV (mi := mi_X13_readWhole) (mj := mi_X13_flaw) (pc := 30) dX13_readWhole_30 ml_X13_117 ok_X13_flaw ov_X13_flaw ⟨Nat.le_of_ble_eq_true rfl, Nat.le_of_ble_eq_true rfl⟩ rfl (h0.lt 57 (by decide)) (h0.ty 57 rfl) rfl (s_X13_flaw g d 4 h0) rfl (Nat.le_of_ble_eq_true rfl)) (fun q30 eq30 => ?_)
      refine J_loc (loc' := [(0, .ref 57), (1, .int pq0)]) [0, 1] rfl ?_
      exact hX13_readWhole_j33 q30 pq0
  · refine J_aload_n (pc := 8) 0 dX13_readWhole_8 rfl rfl ?_
    refine J_iconst (pc := 9) (v := 1) dX13_readWhole_9 (by decide) ?_
    refine JC_lt_v (K := (fun x => Option.bind x k)) (J_callV (mi := mi_X13_readWhole) (mj := mi_X13_flaw) (pc := 10) dX13_readWhole_10 ml_X13_117 ok_X13_flaw ov_X13_flaw ⟨Nat.le_of_ble_eq_true rfl, Nat.le_of_ble_eq_true rfl⟩ rfl (h0.lt 57 (by decide)) (h0.ty 57 rfl) rfl (s_X13_flaw g d 1 h0) rfl (Nat.le_of_ble_eq_true rfl)) (fun q10 eq10 => ?_)
    refine J_goto (pc := 13) (tgt := 33) dX13_readWhole_13 (by decide) ?_
    refine J_loc (loc' := [(0, .ref 57), (1, .int pq0)]) [0, 1] rfl ?_
    exact hX13_readWhole_j33 q10 pq0
def f_X13_readPart (d : JD) (pq0 : Nat) (pq1 : Int32) (pq2 : Int32) : Option (Int32 × JD) := ((f_X13_needs d pq0).bind (fun q2 => (f_X13_readWhole q2 pq1 pq2).bind (fun q8 => some (q8.1, q8.2))))
set_option maxRecDepth 100000 in
set_option maxHeartbeats 4000000 in
theorem s_X13_readPart (g : JG) (d : JD) (pq0 : Nat) (pq1 : Int32) (pq2 : Int32) (h0 : j_sh g 0 TS_W RS_W) (hstr_pq0 : pq0 < 38) : JM mi_X13_readPart 0 0 (g, d) [.ref 57, .ref (1000000 + pq0), .int pq1, .int pq2] ((f_X13_readPart d pq0 pq1 pq2).bind (fun r9 => some (some (.int r9.1), (g, r9.2)))) := by
  refine JM_of (by decide) rfl (Nat.le_of_ble_eq_true rfl) ?_
  refine J_loc (loc' := [(0, .ref 57), (1, .ref (1000000 + pq0)), (2, .int pq1), (3, .int pq2)]) [0, 1, 2, 3] rfl ?_
  obtain ⟨k, hk, hk2⟩ : ∃ k : Int32 × JD → Option (Option Value × JH), (∀ r9, k r9 = some (some (.int r9.1), (g, r9.2))) ∧ (fun r9 : Int32 × JD => (some (some (.int r9.1), (g, r9.2)) : Option (Option Value × JH))) = k := ⟨_, fun _ => rfl, rfl⟩
  rw [hk2]
  unfold f_X13_readPart
  refine J_aload_n (pc := 0) 0 dX13_readPart_0 rfl rfl ?_
  refine J_aload_n (pc := 1) 1 dX13_readPart_1 rfl rfl ?_
  refine JC_pe_v (J_callV (mi := mi_X13_readPart) (mj := mi_X13_needs) (pc := 2) dX13_readPart_2 ml_X13_125 ok_X13_needs ov_X13_needs ⟨Nat.le_of_ble_eq_true rfl, Nat.le_of_ble_eq_true rfl⟩ rfl (h0.lt 57 (by decide)) (h0.ty 57 rfl) rfl (s_X13_needs g d pq0 h0 hstr_pq0) rfl (Nat.le_of_ble_eq_true rfl)) (fun q2 => ?_)
  refine J_aload_n (pc := 5) 0 dX13_readPart_5 rfl rfl ?_
  refine J_iload_n (pc := 6) 2 dX13_readPart_6 rfl rfl ?_
  refine J_iload_n (pc := 7) 3 dX13_readPart_7 rfl rfl ?_
  refine JC_pe_i (J_callV (mi := mi_X13_readPart) (mj := mi_X13_readWhole) (pc := 8) dX13_readPart_8 ml_X13_129 ok_X13_readWhole ov_X13_readWhole ⟨Nat.le_of_ble_eq_true rfl, Nat.le_of_ble_eq_true rfl⟩ rfl (h0.lt 57 (by decide)) (h0.ty 57 rfl) rfl (s_X13_readWhole g q2 pq1 pq2 h0) rfl (Nat.le_of_ble_eq_true rfl)) (fun q8 => ?_)
  exact J_eqo (hk (q8.1, q8.2)) (J_iret (pc := 11) dX13_readPart_11 rfl)
def f_X13_isName (r_57 : Nat → Int32) (q_57 : Nat → Int64) : Option (Bool) := (if (r_57 9) = 2 then ((f_X13_isWord r_57 q_57 19).bind (fun q11 => if q11 = true then (some false) else ((f_X13_isWord r_57 q_57 22).bind (fun q20 => if q20 = true then (some false) else ((f_X13_isWord r_57 q_57 23).bind (fun q29 => if q29 = true then (some false) else ((f_X13_isWord r_57 q_57 24).bind (fun q38 => if q38 = true then (some false) else ((f_X13_isWord r_57 q_57 25).bind (fun q47 => if q47 = true then (some false) else ((f_X13_isWord r_57 q_57 26).bind (fun q58 => if q58 = true then (some false) else ((f_X13_isWord r_57 q_57 27).bind (fun q67 => if q67 = true then (some false) else ((f_X13_isWord r_57 q_57 28).bind (fun q76 => if q76 = true then (some false) else ((f_X13_isWord r_57 q_57 29).bind (fun q85 => if q85 = true then (some false) else (some true))))))))))))))))))) else (some false))
set_option maxRecDepth 100000 in
set_option maxHeartbeats 4000000 in
theorem s_X13_isName (g : JG) (d : JD) (h0 : j_sh g 0 TS_W RS_W) : JM mi_X13_isName 0 0 (g, d) [.ref 57] ((f_X13_isName (d.1 57) (d.2 57) ).bind (fun r9 => some (some (.int (j_b r9)), (g, d)))) := by
  refine JM_of (by decide) rfl (Nat.le_of_ble_eq_true rfl) ?_
  refine J_loc (loc' := [(0, .ref 57)]) [0] rfl ?_
  obtain ⟨k, hk, hk2⟩ : ∃ k : Bool → Option (Option Value × JH), (∀ r9, k r9 = some (some (.int (j_b r9)), (g, d))) ∧ (fun r9 : Bool => (some (some (.int (j_b r9)), (g, d)) : Option (Option Value × JH))) = k := ⟨_, fun _ => rfl, rfl⟩
  rw [hk2]
  unfold f_X13_isName
  refine J_aload_n (pc := 0) 0 dX13_isName_0 rfl rfl ?_
  refine J_getI (pc := 1) dX13_isName_1 fl_X13_74 (h0.lt 57 (by decide)) (h0.ty 57 rfl) rfl ?_
  refine J_iconst (pc := 4) (v := 2) dX13_isName_4 (by decide) ?_
  refine K_icmp_ne (K := (fun x => Option.bind x k)) (pc := 5) (tgt := 53) dX13_isName_5 (by decide) (fun z5 => ?_) (fun z5 => ?_)
  · refine J_iconst (pc := 53) (v := 0) dX13_isName_53 (by decide) ?_
    exact J_eqo (hk false) (J_zretB (pc := 54) dX13_isName_54 rfl)
  · refine J_aload_n (pc := 8) 0 dX13_isName_8 rfl rfl ?_
    refine J_ldcS (pc := 9) (k := 19) dX13_isName_9 (by decide) ⟨rfl, rfl⟩ ?_
    refine JC_pp_b (J_callV (mi := mi_X13_isName) (mj := mi_X13_isWord) (pc := 11) dX13_isName_11 ml_X13_113 ok_X13_isWord ov_X13_isWord ⟨Nat.le_of_ble_eq_true rfl, Nat.le_of_ble_eq_true rfl⟩ rfl (h0.lt 57 (by decide)) (h0.ty 57 rfl) rfl (s_X13_isWord g d 19 h0 (by decide)) rfl (Nat.le_of_ble_eq_true rfl)) (fun q11 => ?_)
    refine K_ifne_b (K := (fun x => Option.bind x k)) (pc := 14) (tgt := 53) dX13_isName_14 (by decide) (fun z14 => ?_) (fun z14 => ?_)
    · refine J_iconst (pc := 53) (v := 0) dX13_isName_53 (by decide) ?_
      exact J_eqo (hk false) (J_zretB (pc := 54) dX13_isName_54 rfl)
    · refine J_aload_n (pc := 17) 0 dX13_isName_17 rfl rfl ?_
      refine J_ldcS (pc := 18) (k := 22) dX13_isName_18 (by decide) ⟨rfl, rfl⟩ ?_
      refine JC_pp_b (J_callV (mi := mi_X13_isName) (mj := mi_X13_isWord) (pc := 20) dX13_isName_20 ml_X13_113 ok_X13_isWord ov_X13_isWord ⟨Nat.le_of_ble_eq_true rfl, Nat.le_of_ble_eq_true rfl⟩ rfl (h0.lt 57 (by decide)) (h0.ty 57 rfl) rfl (s_X13_isWord g d 22 h0 (by decide)) rfl (Nat.le_of_ble_eq_true rfl)) (fun q20 => ?_)
      refine K_ifne_b (K := (fun x => Option.bind x k)) (pc := 23) (tgt := 53) dX13_isName_23 (by decide) (fun z23 => ?_) (fun z23 => ?_)
      · refine J_iconst (pc := 53) (v := 0) dX13_isName_53 (by decide) ?_
        exact J_eqo (hk false) (J_zretB (pc := 54) dX13_isName_54 rfl)
      · refine J_aload_n (pc := 26) 0 dX13_isName_26 rfl rfl ?_
        refine J_ldcS (pc := 27) (k := 23) dX13_isName_27 (by decide) ⟨rfl, rfl⟩ ?_
        refine JC_pp_b (J_callV (mi := mi_X13_isName) (mj := mi_X13_isWord) (pc := 29) dX13_isName_29 ml_X13_113 ok_X13_isWord ov_X13_isWord ⟨Nat.le_of_ble_eq_true rfl, Nat.le_of_ble_eq_true rfl⟩ rfl (h0.lt 57 (by decide)) (h0.ty 57 rfl) rfl (s_X13_isWord g d 23 h0 (by decide)) rfl (Nat.le_of_ble_eq_true rfl)) (fun q29 => ?_)
        refine K_ifne_b (K := (fun x => Option.bind x k)) (pc := 32) (tgt := 53) dX13_isName_32 (by decide) (fun z32 => ?_) (fun z32 => ?_)
        · refine J_iconst (pc := 53) (v := 0) dX13_isName_53 (by decide) ?_
          exact J_eqo (hk false) (J_zretB (pc := 54) dX13_isName_54 rfl)
        · refine J_aload_n (pc := 35) 0 dX13_isName_35 rfl rfl ?_
          refine J_ldcS (pc := 36) (k := 24) dX13_isName_36 (by decide) ⟨rfl, rfl⟩ ?_
          refine JC_pp_b (J_callV (mi := mi_X13_isName) (mj := mi_X13_isWord) (pc := 38) dX13_isName_38 ml_X13_113 ok_X13_isWord ov_X13_isWord ⟨Nat.le_of_ble_eq_true rfl, Nat.le_of_ble_eq_true rfl⟩ rfl (h0.lt 57 (by decide)) (h0.ty 57 rfl) rfl (s_X13_isWord g d 24 h0 (by decide)) rfl (Nat.le_of_ble_eq_true rfl)) (fun q38 => ?_)
          refine K_ifne_b (K := (fun x => Option.bind x k)) (pc := 41) (tgt := 53) dX13_isName_41 (by decide) (fun z41 => ?_) (fun z41 => ?_)
          · refine J_iconst (pc := 53) (v := 0) dX13_isName_53 (by decide) ?_
            exact J_eqo (hk false) (J_zretB (pc := 54) dX13_isName_54 rfl)
          · refine J_aload_n (pc := 44) 0 dX13_isName_44 rfl rfl ?_
            refine J_ldcS (pc := 45) (k := 25) dX13_isName_45 (by decide) ⟨rfl, rfl⟩ ?_
            refine JC_pp_b (J_callV (mi := mi_X13_isName) (mj := mi_X13_isWord) (pc := 47) dX13_isName_47 ml_X13_113 ok_X13_isWord ov_X13_isWord ⟨Nat.le_of_ble_eq_true rfl, Nat.le_of_ble_eq_true rfl⟩ rfl (h0.lt 57 (by decide)) (h0.ty 57 rfl) rfl (s_X13_isWord g d 25 h0 (by decide)) rfl (Nat.le_of_ble_eq_true rfl)) (fun q47 => ?_)
            refine K_ifeq_b (K := (fun x => Option.bind x k)) (pc := 50) (tgt := 55) dX13_isName_50 (by decide) (fun z50 => ?_) (fun z50 => ?_)
            · refine J_aload_n (pc := 55) 0 dX13_isName_55 rfl rfl ?_
              refine J_ldcS (pc := 56) (k := 26) dX13_isName_56 (by decide) ⟨rfl, rfl⟩ ?_
              refine JC_pp_b (J_callV (mi := mi_X13_isName) (mj := mi_X13_isWord) (pc := 58) dX13_isName_58 ml_X13_113 ok_X13_isWord ov_X13_isWord ⟨Nat.le_of_ble_eq_true rfl, Nat.le_of_ble_eq_true rfl⟩ rfl (h0.lt 57 (by decide)) (h0.ty 57 rfl) rfl (s_X13_isWord g d 26 h0 (by decide)) rfl (Nat.le_of_ble_eq_true rfl)) (fun q58 => ?_)
              refine K_ifne_b (K := (fun x => Option.bind x k)) (pc := 61) (tgt := 95) dX13_isName_61 (by decide) (fun z61 => ?_) (fun z61 => ?_)
              · refine J_iconst (pc := 95) (v := 0) dX13_isName_95 (by decide) ?_
                exact J_eqo (hk false) (J_zretB (pc := 96) dX13_isName_96 rfl)
              · refine J_aload_n (pc := 64) 0 dX13_isName_64 rfl rfl ?_
                refine J_ldcS (pc := 65) (k := 27) dX13_isName_65 (by decide) ⟨rfl, rfl⟩ ?_
                refine JC_pp_b (J_callV (mi := mi_X13_isName) (mj := mi_X13_isWord) (pc := 67) dX13_isName_67 ml_X13_113 ok_X13_isWord ov_X13_isWord ⟨Nat.le_of_ble_eq_true rfl, Nat.le_of_ble_eq_true rfl⟩ rfl (h0.lt 57 (by decide)) (h0.ty 57 rfl) rfl (s_X13_isWord g d 27 h0 (by decide)) rfl (Nat.le_of_ble_eq_true rfl)) (fun q67 => ?_)
                refine K_ifne_b (K := (fun x => Option.bind x k)) (pc := 70) (tgt := 95) dX13_isName_70 (by decide) (fun z70 => ?_) (fun z70 => ?_)
                · refine J_iconst (pc := 95) (v := 0) dX13_isName_95 (by decide) ?_
                  exact J_eqo (hk false) (J_zretB (pc := 96) dX13_isName_96 rfl)
                · refine J_aload_n (pc := 73) 0 dX13_isName_73 rfl rfl ?_
                  refine J_ldcS (pc := 74) (k := 28) dX13_isName_74 (by decide) ⟨rfl, rfl⟩ ?_
                  refine JC_pp_b (J_callV (mi := mi_X13_isName) (mj := mi_X13_isWord) (pc := 76) dX13_isName_76 ml_X13_113 ok_X13_isWord ov_X13_isWord ⟨Nat.le_of_ble_eq_true rfl, Nat.le_of_ble_eq_true rfl⟩ rfl (h0.lt 57 (by decide)) (h0.ty 57 rfl) rfl (s_X13_isWord g d 28 h0 (by decide)) rfl (Nat.le_of_ble_eq_true rfl)) (fun q76 => ?_)
                  refine K_ifne_b (K := (fun x => Option.bind x k)) (pc := 79) (tgt := 95) dX13_isName_79 (by decide) (fun z79 => ?_) (fun z79 => ?_)
                  · refine J_iconst (pc := 95) (v := 0) dX13_isName_95 (by decide) ?_
                    exact J_eqo (hk false) (J_zretB (pc := 96) dX13_isName_96 rfl)
                  · refine J_aload_n (pc := 82) 0 dX13_isName_82 rfl rfl ?_
                    refine J_ldcS (pc := 83) (k := 29) dX13_isName_83 (by decide) ⟨rfl, rfl⟩ ?_
                    refine JC_pp_b (J_callV (mi := mi_X13_isName) (mj := mi_X13_isWord) (pc := 85) dX13_isName_85 ml_X13_113 ok_X13_isWord ov_X13_isWord ⟨Nat.le_of_ble_eq_true rfl, Nat.le_of_ble_eq_true rfl⟩ rfl (h0.lt 57 (by decide)) (h0.ty 57 rfl) rfl (s_X13_isWord g d 29 h0 (by decide)) rfl (Nat.le_of_ble_eq_true rfl)) (fun q85 => ?_)
                    refine K_ifne_b (K := (fun x => Option.bind x k)) (pc := 88) (tgt := 95) dX13_isName_88 (by decide) (fun z88 => ?_) (fun z88 => ?_)
                    · refine J_iconst (pc := 95) (v := 0) dX13_isName_95 (by decide) ?_
                      exact J_eqo (hk false) (J_zretB (pc := 96) dX13_isName_96 rfl)
                    · refine J_iconst (pc := 91) (v := 1) dX13_isName_91 (by decide) ?_
                      refine J_goto (pc := 92) (tgt := 96) dX13_isName_92 (by decide) ?_
                      exact J_eqo (hk true) (J_zretB (pc := 96) dX13_isName_96 rfl)
            · refine J_iconst (pc := 53) (v := 0) dX13_isName_53 (by decide) ?_
              exact J_eqo (hk false) (J_zretB (pc := 54) dX13_isName_54 rfl)
def f_X13_lineBegins_j27 (u : Nat) (d27 : JD) : Option (JD) := ((f_X13_goesOn d27).bind (fun q28 => some q28))
def f_X13_lineBegins_j10 (u : Nat) (d10 : JD) : Option (JD) := (if ((d10.1 u) 0) = (-1) then (j_let (f_X13_flaw d10 6) (fun q24 => f_X13_lineBegins_j27 u q24 )) else f_X13_lineBegins_j27 u d10 )
def f_X13_lineBegins (u : Nat) (d : JD) (pq0 : Int32) (pq1 : Int32) : Option (JD) := (if pq0 = pq1 then (j_let (f_X13_flaw d 5) (fun q7 => f_X13_lineBegins_j10 u q7 )) else f_X13_lineBegins_j10 u d )
set_option maxRecDepth 100000 in
set_option maxHeartbeats 4000000 in
theorem s_X13_lineBegins (g : JG) (d : JD) (u : Nat) (pq0 : Int32) (pq1 : Int32) (h0 : j_sh g 0 TS_W RS_W) (hu : j_sh g u TS_ML RS_ML) (hre : g.2.2.1 57 4 = some u) : JM mi_X13_lineBegins 0 0 (g, d) [.ref 57, .int pq0, .int pq1] ((f_X13_lineBegins u d pq0 pq1).bind (fun r9 => some (none, (g, r9)))) := by
  refine JM_of (by decide) rfl (Nat.le_of_ble_eq_true rfl) ?_
  refine J_loc (loc' := [(0, .ref 57), (1, .int pq0), (2, .int pq1)]) [0, 1, 2] rfl ?_
  obtain ⟨k, hk, hk2⟩ : ∃ k : JD → Option (Option Value × JH), (∀ r9, k r9 = some (none, (g, r9))) ∧ (fun r9 : JD => (some (none, (g, r9)) : Option (Option Value × JH))) = k := ⟨_, fun _ => rfl, rfl⟩
  rw [hk2]
  unfold f_X13_lineBegins
  have hX13_lineBegins_j27 : ∀ (d27 : JD) , J mi_X13_lineBegins 0 0 0 0 (g, d27) 27 [(0, .ref 57)] [] ((f_X13_lineBegins_j27 u d27 ).bind k) := by
    intro d27 
    unfold f_X13_lineBegins_j27
    refine J_aload_n (pc := 27) 0 dX13_lineBegins_27 rfl rfl ?_
    refine JC_pe_v (J_callV (mi := mi_X13_lineBegins) (mj := mi_X13_goesOn) (pc := 28) dX13_lineBegins_28 ml_X13_110 ok_X13_goesOn ov_X13_goesOn ⟨Nat.le_of_ble_eq_true rfl, Nat.le_of_ble_eq_true rfl⟩ rfl (h0.lt 57 (by decide)) (h0.ty 57 rfl) rfl (s_X13_goesOn g d27 h0) rfl (Nat.le_of_ble_eq_true rfl)) (fun q28 => ?_)
    exact J_eqo (hk q28) (J_vret (pc := 31) dX13_lineBegins_31 rfl)
  have hX13_lineBegins_j10 : ∀ (d10 : JD) , J mi_X13_lineBegins 0 0 0 0 (g, d10) 10 [(0, .ref 57)] [] ((f_X13_lineBegins_j10 u d10 ).bind k) := by
    intro d10 
    unfold f_X13_lineBegins_j10
    refine J_aload_n (pc := 10) 0 dX13_lineBegins_10 rfl rfl ?_
    refine J_getR (pc := 11) dX13_lineBegins_11 fl_X13_151 (h0.lt 57 (by decide)) (h0.ty 57 rfl) rfl hre ?_
    refine J_getI (pc := 14) dX13_lineBegins_14 fl_X13_155 (hu.lt 0 (by decide)) (hu.ty 0 rfl) rfl ?_
    refine J_iconst (pc := 17) (v := (-1)) dX13_lineBegins_17 (by decide) ?_
    refine K_icmp_ne (K := (fun x => Option.bind x k)) (pc := 18) (tgt := 27) dX13_lineBegins_18 (by decide) (fun z18 => ?_) (fun z18 => ?_)
    · exact hX13_lineBegins_j27 d10 
    · refine J_aload_n (pc := 21) 0 dX13_lineBegins_21 rfl rfl ?_
      refine J_bipush (pc := 22) (v := 6) dX13_lineBegins_22 (by decide) ?_
      refine JC_lt_v (K := (fun x => Option.bind x k)) (J_callV (mi := mi_X13_lineBegins) (mj := mi_X13_flaw) (pc := 24) dX13_lineBegins_24 ml_X13_117 ok_X13_flaw ov_X13_flaw ⟨Nat.le_of_ble_eq_true rfl, Nat.le_of_ble_eq_true rfl⟩ rfl (h0.lt 57 (by decide)) (h0.ty 57 rfl) rfl (s_X13_flaw g d10 6 h0) rfl (Nat.le_of_ble_eq_true rfl)) (fun q24 eq24 => ?_)
      exact hX13_lineBegins_j27 q24 
  refine J_iload_n (pc := 0) 1 dX13_lineBegins_0 rfl rfl ?_
  refine J_iload_n (pc := 1) 2 dX13_lineBegins_1 rfl rfl ?_
  refine K_icmp_ne (K := (fun x => Option.bind x k)) (pc := 2) (tgt := 10) dX13_lineBegins_2 (by decide) (fun z2 => ?_) (fun z2 => ?_)
  · refine J_loc (loc' := [(0, .ref 57)]) [0] rfl ?_
    exact hX13_lineBegins_j10 d 
  · refine J_aload_n (pc := 5) 0 dX13_lineBegins_5 rfl rfl ?_
    refine J_iconst (pc := 6) (v := 5) dX13_lineBegins_6 (by decide) ?_
    refine JC_lt_v (K := (fun x => Option.bind x k)) (J_callV (mi := mi_X13_lineBegins) (mj := mi_X13_flaw) (pc := 7) dX13_lineBegins_7 ml_X13_117 ok_X13_flaw ov_X13_flaw ⟨Nat.le_of_ble_eq_true rfl, Nat.le_of_ble_eq_true rfl⟩ rfl (h0.lt 57 (by decide)) (h0.ty 57 rfl) rfl (s_X13_flaw g d 5 h0) rfl (Nat.le_of_ble_eq_true rfl)) (fun q7 eq7 => ?_)
    refine J_loc (loc' := [(0, .ref 57)]) [0] rfl ?_
    exact hX13_lineBegins_j10 q7 
def f_X13_readFresh_j32 (u : Nat) (d32 : JD) : Option (Int64 × JD) := ((f_X13_goesOn d32).bind (fun q38 => some ((d32.2 57) 14, q38)))
def f_X13_readFresh_j12 (u : Nat) (d12 : JD) : Option (Int64 × JD) := ((f_X12_find (d12.1 u) (d12.2 (u + 12)) ((d12.2 57) 14)).bind (fun q20 => if q20 = (-1) then f_X13_readFresh_j32 u d12 else (j_let (f_X13_flaw d12 3) (fun q29 => f_X13_readFresh_j32 u q29 ))))
def f_X13_readFresh (u : Nat) (d : JD) : Option (Int64 × JD) := ((f_X13_isName (d.1 57) (d.2 57)).bind (fun q1 => if q1 = true then f_X13_readFresh_j12 u d else (j_let (f_X13_flaw d 1) (fun q9 => f_X13_readFresh_j12 u q9 ))))
set_option maxRecDepth 100000 in
set_option maxHeartbeats 4000000 in
theorem s_X13_readFresh (g : JG) (d : JD) (u : Nat) (h0 : j_sh g 0 TS_W RS_W) (hu : j_sh g u TS_ML RS_ML) (hre : g.2.2.1 57 4 = some u) : JM mi_X13_readFresh 0 0 (g, d) [.ref 57] ((f_X13_readFresh u d ).bind (fun r9 => some (some (.long r9.1), (g, r9.2)))) := by
  refine JM_of (by decide) rfl (Nat.le_of_ble_eq_true rfl) ?_
  refine J_loc (loc' := [(0, .ref 57)]) [0] rfl ?_
  obtain ⟨k, hk, hk2⟩ : ∃ k : Int64 × JD → Option (Option Value × JH), (∀ r9, k r9 = some (some (.long r9.1), (g, r9.2))) ∧ (fun r9 : Int64 × JD => (some (some (.long r9.1), (g, r9.2)) : Option (Option Value × JH))) = k := ⟨_, fun _ => rfl, rfl⟩
  rw [hk2]
  unfold f_X13_readFresh
  have hX13_readFresh_j32 : ∀ (d32 : JD) , J mi_X13_readFresh 0 0 0 0 (g, d32) 32 [(0, .ref 57)] [] ((f_X13_readFresh_j32 u d32 ).bind k) := by
    intro d32 
    unfold f_X13_readFresh_j32
    refine J_aload_n (pc := 32) 0 dX13_readFresh_32 rfl rfl ?_
    refine J_getL (pc := 33) dX13_readFresh_33 fl_X13_90 (h0.lt 57 (by decide)) (h0.ty 57 rfl) rfl ?_
    refine J_lstore_n (pc := 36) (loc' := [(1, .long ((d32.2 57) 14)), (0, .ref 57)]) dX13_readFresh_36 rfl (by decide) rfl ?_
    refine J_aload_n (pc := 37) 1 dX13_readFresh_37 rfl rfl ?_
    refine JC_pe_v (J_callV (mi := mi_X13_readFresh) (mj := mi_X13_goesOn) (pc := 38) dX13_readFresh_38 ml_X13_110 ok_X13_goesOn ov_X13_goesOn ⟨Nat.le_of_ble_eq_true rfl, Nat.le_of_ble_eq_true rfl⟩ rfl (h0.lt 57 (by decide)) (h0.ty 57 rfl) rfl (s_X13_goesOn g d32 h0) rfl (Nat.le_of_ble_eq_true rfl)) (fun q38 => ?_)
    refine J_lload_n (pc := 41) 0 dX13_readFresh_41 rfl rfl ?_
    exact J_eqo (hk ((d32.2 57) 14, q38)) (J_lret (pc := 42) dX13_readFresh_42 rfl)
  have hX13_readFresh_j12 : ∀ (d12 : JD) , J mi_X13_readFresh 0 0 0 0 (g, d12) 12 [(0, .ref 57)] [] ((f_X13_readFresh_j12 u d12 ).bind k) := by
    intro d12 
    unfold f_X13_readFresh_j12
    refine J_aload_n (pc := 12) 0 dX13_readFresh_12 rfl rfl ?_
    refine J_getR (pc := 13) dX13_readFresh_13 fl_X13_151 (h0.lt 57 (by decide)) (h0.ty 57 rfl) rfl hre ?_
    refine J_aload_n (pc := 16) 0 dX13_readFresh_16 rfl rfl ?_
    refine J_getL (pc := 17) dX13_readFresh_17 fl_X13_90 (h0.lt 57 (by decide)) (h0.ty 57 rfl) rfl ?_
    refine JC_pp_i (J_callV (mi := mi_X13_readFresh) (mj := mi_X12_find) (pc := 20) dX13_readFresh_20 ml_X13_164 ok_X12_find ov_X12_find ⟨Nat.le_of_ble_eq_true rfl, Nat.le_of_ble_eq_true rfl⟩ rfl (hu.lt 0 (by decide)) (hu.ty 0 rfl) rfl (s_X12_find g d12 u ((d12.2 57) 14) hu) rfl (Nat.le_of_ble_eq_true rfl)) (fun q20 => ?_)
    refine J_iconst (pc := 23) (v := (-1)) dX13_readFresh_23 (by decide) ?_
    refine K_icmp_eq (K := (fun x => Option.bind x k)) (pc := 24) (tgt := 32) dX13_readFresh_24 (by decide) (fun z24 => ?_) (fun z24 => ?_)
    · exact hX13_readFresh_j32 d12 
    · refine J_aload_n (pc := 27) 0 dX13_readFresh_27 rfl rfl ?_
      refine J_iconst (pc := 28) (v := 3) dX13_readFresh_28 (by decide) ?_
      refine JC_lt_v (K := (fun x => Option.bind x k)) (J_callV (mi := mi_X13_readFresh) (mj := mi_X13_flaw) (pc := 29) dX13_readFresh_29 ml_X13_117 ok_X13_flaw ov_X13_flaw ⟨Nat.le_of_ble_eq_true rfl, Nat.le_of_ble_eq_true rfl⟩ rfl (h0.lt 57 (by decide)) (h0.ty 57 rfl) rfl (s_X13_flaw g d12 3 h0) rfl (Nat.le_of_ble_eq_true rfl)) (fun q29 eq29 => ?_)
      exact hX13_readFresh_j32 q29 
  refine J_aload_n (pc := 0) 0 dX13_readFresh_0 rfl rfl ?_
  refine JC_pp_b (J_callV (mi := mi_X13_readFresh) (mj := mi_X13_isName) (pc := 1) dX13_readFresh_1 ml_X13_160 ok_X13_isName ov_X13_isName ⟨Nat.le_of_ble_eq_true rfl, Nat.le_of_ble_eq_true rfl⟩ rfl (h0.lt 57 (by decide)) (h0.ty 57 rfl) rfl (s_X13_isName g d h0) rfl (Nat.le_of_ble_eq_true rfl)) (fun q1 => ?_)
  refine K_ifne_b (K := (fun x => Option.bind x k)) (pc := 4) (tgt := 12) dX13_readFresh_4 (by decide) (fun z4 => ?_) (fun z4 => ?_)
  · exact hX13_readFresh_j12 d 
  · refine J_aload_n (pc := 7) 0 dX13_readFresh_7 rfl rfl ?_
    refine J_iconst (pc := 8) (v := 1) dX13_readFresh_8 (by decide) ?_
    refine JC_lt_v (K := (fun x => Option.bind x k)) (J_callV (mi := mi_X13_readFresh) (mj := mi_X13_flaw) (pc := 9) dX13_readFresh_9 ml_X13_117 ok_X13_flaw ov_X13_flaw ⟨Nat.le_of_ble_eq_true rfl, Nat.le_of_ble_eq_true rfl⟩ rfl (h0.lt 57 (by decide)) (h0.ty 57 rfl) rfl (s_X13_flaw g d 1 h0) rfl (Nat.le_of_ble_eq_true rfl)) (fun q9 eq9 => ?_)
    exact hX13_readFresh_j12 q9 
def f_X13_names (u : Nat) (d : JD) (pq0 : Int64) (pq1 : Int32) (pq2 : Int32) : Option (JD) := (if j_out ((d.1 u) 9) 15 then none else if j_out ((d.1 u) 9) 15 then none else if j_out ((d.1 u) 9) 15 then none else some (j_sI (j_sI (j_sI (j_sL d (u + 12) (((d.1 u) 9).toNatClampNeg) pq0) (u + 13) (((d.1 u) 9).toNatClampNeg) pq1) (u + 14) (((d.1 u) 9).toNatClampNeg) pq2) u 9 (((d.1 u) 9) + 1)))
set_option maxRecDepth 100000 in
set_option maxHeartbeats 4000000 in
theorem s_X13_names (g : JG) (d : JD) (u : Nat) (pq0 : Int64) (pq1 : Int32) (pq2 : Int32) (h0 : j_sh g 0 TS_W RS_W) (hu : j_sh g u TS_ML RS_ML) (hre : g.2.2.1 57 4 = some u) : JM mi_X13_names 0 0 (g, d) [.ref 57, .long pq0, .int pq1, .int pq2] ((f_X13_names u d pq0 pq1 pq2).bind (fun r9 => some (none, (g, r9)))) := by
  refine JM_of (by decide) rfl (Nat.le_of_ble_eq_true rfl) ?_
  refine J_loc (loc' := [(0, .ref 57), (1, .long pq0), (3, .int pq1), (4, .int pq2)]) [0, 1, 2, 3] rfl ?_
  obtain ⟨k, hk, hk2⟩ : ∃ k : JD → Option (Option Value × JH), (∀ r9, k r9 = some (none, (g, r9))) ∧ (fun r9 : JD => (some (none, (g, r9)) : Option (Option Value × JH))) = k := ⟨_, fun _ => rfl, rfl⟩
  rw [hk2]
  unfold f_X13_names
  refine J_aload_n (pc := 0) 0 dX13_names_0 rfl rfl ?_
  refine J_getR (pc := 1) dX13_names_1 fl_X13_151 (h0.lt 57 (by decide)) (h0.ty 57 rfl) rfl hre ?_
  refine J_getR (pc := 4) dX13_names_4 fl_X13_168 (hu.lt 0 (by decide)) (hu.ty 0 rfl) rfl (hu.rf 11 rfl) ?_
  refine J_aload_n (pc := 7) 0 dX13_names_7 rfl rfl ?_
  refine J_getR (pc := 8) dX13_names_8 fl_X13_151 (h0.lt 57 (by decide)) (h0.ty 57 rfl) rfl hre ?_
  refine J_getI (pc := 11) dX13_names_11 fl_X13_172 (hu.lt 0 (by decide)) (hu.ty 0 rfl) rfl ?_
  refine J_lload_n (pc := 14) 1 dX13_names_14 rfl rfl ?_
  refine J_guard (fun z15 => ?_)
  refine J_last (pc := 15) dX13_names_15 (hu.lt 12 (by decide)) (hu.ty 12 rfl) z15 ?_
  refine J_aload_n (pc := 16) 0 dX13_names_16 rfl rfl ?_
  refine J_getR (pc := 17) dX13_names_17 fl_X13_151 (h0.lt 57 (by decide)) (h0.ty 57 rfl) rfl hre ?_
  refine J_getR (pc := 20) dX13_names_20 fl_X13_175 (hu.lt 0 (by decide)) (hu.ty 0 rfl) rfl (hu.rf 12 rfl) ?_
  refine J_aload_n (pc := 23) 0 dX13_names_23 rfl rfl ?_
  refine J_getR (pc := 24) dX13_names_24 fl_X13_151 (h0.lt 57 (by decide)) (h0.ty 57 rfl) rfl hre ?_
  refine J_getI (pc := 27) dX13_names_27 fl_X13_172 (hu.lt 0 (by decide)) (hu.ty 0 rfl) rfl ?_
  refine J_val (y := (d.1 u) 9) (by simp [j_sI, j_sL, upd, vp_updL]) ?_
  refine J_iload_n (pc := 30) 2 dX13_names_30 rfl rfl ?_
  refine J_guard (fun z31 => ?_)
  refine J_iast (pc := 31) dX13_names_31 (hu.lt 13 (by decide)) (hu.ty 13 rfl) z31 ?_
  refine J_aload_n (pc := 32) 0 dX13_names_32 rfl rfl ?_
  refine J_getR (pc := 33) dX13_names_33 fl_X13_151 (h0.lt 57 (by decide)) (h0.ty 57 rfl) rfl hre ?_
  refine J_getR (pc := 36) dX13_names_36 fl_X13_178 (hu.lt 0 (by decide)) (hu.ty 0 rfl) rfl (hu.rf 13 rfl) ?_
  refine J_aload_n (pc := 39) 0 dX13_names_39 rfl rfl ?_
  refine J_getR (pc := 40) dX13_names_40 fl_X13_151 (h0.lt 57 (by decide)) (h0.ty 57 rfl) rfl hre ?_
  refine J_getI (pc := 43) dX13_names_43 fl_X13_172 (hu.lt 0 (by decide)) (hu.ty 0 rfl) rfl ?_
  refine J_val (y := (d.1 u) 9) (by simp [j_sI, j_sL, upd, vp_updL]) ?_
  refine J_iload (pc := 46) 3 dX13_names_46 rfl ?_
  refine J_guard (fun z48 => ?_)
  refine J_iast (pc := 48) dX13_names_48 (hu.lt 14 (by decide)) (hu.ty 14 rfl) z48 ?_
  refine J_aload_n (pc := 49) 0 dX13_names_49 rfl rfl ?_
  refine J_getR (pc := 50) dX13_names_50 fl_X13_151 (h0.lt 57 (by decide)) (h0.ty 57 rfl) rfl hre ?_
  refine J_dup (pc := 53) dX13_names_53 rfl ?_
  refine J_getI (pc := 54) dX13_names_54 fl_X13_172 (hu.lt 0 (by decide)) (hu.ty 0 rfl) rfl ?_
  refine J_val (y := (d.1 u) 9) (by simp [j_sI, j_sL, upd, vp_updL]) ?_
  refine J_iconst (pc := 57) (v := 1) dX13_names_57 (by decide) ?_
  refine J_iadd (pc := 58) dX13_names_58 ?_
  refine J_putI (pc := 59) dX13_names_59 fl_X13_172 ft_11_9 (hu.lt 0 (by decide)) (hu.ty 0 rfl) rfl rfl rfl ?_
  exact J_eqo (hk (j_sI (j_sI (j_sI (j_sL d (u + 12) (((d.1 u) 9).toNatClampNeg) pq0) (u + 13) (((d.1 u) 9).toNatClampNeg) pq1) (u + 14) (((d.1 u) 9).toNatClampNeg) pq2) u 9 (((d.1 u) 9) + 1))) (J_vret (pc := 62) dX13_names_62 rfl)
def f_X13_knownOne_j47 (u : Nat) (d47 : JD) (x2_47 : Int32) : Option (Int32 × JD) := (if ((d47.1 57) 9) = 5 then (some (0, d47)) else (if j_out x2_47 15 then none else some ((d47.1 (u + 14)) x2_47.toNatClampNeg, d47)))
def f_X13_knownOne_j42 (u : Nat) (d42 : JD) (x2_42 : Int32) : Option (Int32 × JD) := (j_let (f_X13_flaw d42 2) (fun q44 => f_X13_knownOne_j47 u q44 x2_42))
def f_X13_knownOne_j12 (u : Nat) (d12 : JD) (x1_12 : Int32) : Option (Int32 × JD) := ((f_X12_find (d12.1 u) (d12.2 (u + 12)) ((d12.2 57) 14)).bind (fun q20 => if q20 = (-1) then f_X13_knownOne_j42 u d12 q20 else (if j_out q20 15 then none else if ((d12.1 (u + 13)) q20.toNatClampNeg) = x1_12 then f_X13_knownOne_j47 u d12 q20 else f_X13_knownOne_j42 u d12 q20)))
def f_X13_knownOne (u : Nat) (d : JD) (pq0 : Int32) : Option (Int32 × JD) := ((f_X13_isName (d.1 57) (d.2 57)).bind (fun q1 => if q1 = true then f_X13_knownOne_j12 u d pq0 else (j_let (f_X13_flaw d 1) (fun q9 => f_X13_knownOne_j12 u q9 pq0))))
set_option maxRecDepth 100000 in
set_option maxHeartbeats 4000000 in
theorem s_X13_knownOne (g : JG) (d : JD) (u : Nat) (pq0 : Int32) (h0 : j_sh g 0 TS_W RS_W) (hu : j_sh g u TS_ML RS_ML) (hre : g.2.2.1 57 4 = some u) : JM mi_X13_knownOne 0 0 (g, d) [.ref 57, .int pq0] ((f_X13_knownOne u d pq0).bind (fun r9 => some (some (.int r9.1), (g, r9.2)))) := by
  refine JM_of (by decide) rfl (Nat.le_of_ble_eq_true rfl) ?_
  refine J_loc (loc' := [(0, .ref 57), (1, .int pq0)]) [0, 1] rfl ?_
  obtain ⟨k, hk, hk2⟩ : ∃ k : Int32 × JD → Option (Option Value × JH), (∀ r9, k r9 = some (some (.int r9.1), (g, r9.2))) ∧ (fun r9 : Int32 × JD => (some (some (.int r9.1), (g, r9.2)) : Option (Option Value × JH))) = k := ⟨_, fun _ => rfl, rfl⟩
  rw [hk2]
  unfold f_X13_knownOne
  have hX13_knownOne_j47 : ∀ (d47 : JD) (x2_47 : Int32), J mi_X13_knownOne 0 0 0 0 (g, d47) 47 [(0, .ref 57), (2, .int x2_47)] [] ((f_X13_knownOne_j47 u d47 x2_47).bind k) := by
    intro d47 x2_47
    unfold f_X13_knownOne_j47
    refine J_aload_n (pc := 47) 0 dX13_knownOne_47 rfl rfl ?_
    refine J_getI (pc := 48) dX13_knownOne_48 fl_X13_74 (h0.lt 57 (by decide)) (h0.ty 57 rfl) rfl ?_
    refine J_iconst (pc := 51) (v := 5) dX13_knownOne_51 (by decide) ?_
    refine K_icmp_ne (K := (fun x => Option.bind x k)) (pc := 52) (tgt := 59) dX13_knownOne_52 (by decide) (fun z52 => ?_) (fun z52 => ?_)
    · refine J_aload_n (pc := 59) 0 dX13_knownOne_59 rfl rfl ?_
      refine J_getR (pc := 60) dX13_knownOne_60 fl_X13_151 (h0.lt 57 (by decide)) (h0.ty 57 rfl) rfl hre ?_
      refine J_getR (pc := 63) dX13_knownOne_63 fl_X13_178 (hu.lt 0 (by decide)) (hu.ty 0 rfl) rfl (hu.rf 13 rfl) ?_
      refine J_iload_n (pc := 66) 1 dX13_knownOne_66 rfl rfl ?_
      refine J_guard (fun z67 => ?_)
      refine J_iald (pc := 67) dX13_knownOne_67 (hu.lt 14 (by decide)) (hu.ty 14 rfl) z67 ?_
      exact J_eqo (hk ((d47.1 (u + 14)) x2_47.toNatClampNeg, d47)) (J_iret (pc := 68) dX13_knownOne_68 rfl)
    · refine J_iconst (pc := 55) (v := 0) dX13_knownOne_55 (by decide) ?_
      refine J_goto (pc := 56) (tgt := 68) dX13_knownOne_56 (by decide) ?_
      exact J_eqo (hk (0, d47)) (J_iret (pc := 68) dX13_knownOne_68 rfl)
  have hX13_knownOne_j42 : ∀ (d42 : JD) (x2_42 : Int32), J mi_X13_knownOne 0 0 0 0 (g, d42) 42 [(0, .ref 57), (2, .int x2_42)] [] ((f_X13_knownOne_j42 u d42 x2_42).bind k) := by
    intro d42 x2_42
    unfold f_X13_knownOne_j42
    refine J_aload_n (pc := 42) 0 dX13_knownOne_42 rfl rfl ?_
    refine J_iconst (pc := 43) (v := 2) dX13_knownOne_43 (by decide) ?_
    refine JC_lt_v (K := (fun x => Option.bind x k)) (J_callV (mi := mi_X13_knownOne) (mj := mi_X13_flaw) (pc := 44) dX13_knownOne_44 ml_X13_117 ok_X13_flaw ov_X13_flaw ⟨Nat.le_of_ble_eq_true rfl, Nat.le_of_ble_eq_true rfl⟩ rfl (h0.lt 57 (by decide)) (h0.ty 57 rfl) rfl (s_X13_flaw g d42 2 h0) rfl (Nat.le_of_ble_eq_true rfl)) (fun q44 eq44 => ?_)
    exact hX13_knownOne_j47 q44 x2_42
  have hX13_knownOne_j12 : ∀ (d12 : JD) (x1_12 : Int32), J mi_X13_knownOne 0 0 0 0 (g, d12) 12 [(0, .ref 57), (1, .int x1_12)] [] ((f_X13_knownOne_j12 u d12 x1_12).bind k) := by
    intro d12 x1_12
    unfold f_X13_knownOne_j12
    refine J_aload_n (pc := 12) 0 dX13_knownOne_12 rfl rfl ?_
    refine J_getR (pc := 13) dX13_knownOne_13 fl_X13_151 (h0.lt 57 (by decide)) (h0.ty 57 rfl) rfl hre ?_
    refine J_aload_n (pc := 16) 0 dX13_knownOne_16 rfl rfl ?_
    refine J_getL (pc := 17) dX13_knownOne_17 fl_X13_90 (h0.lt 57 (by decide)) (h0.ty 57 rfl) rfl ?_
    refine JC_pp_i (J_callV (mi := mi_X13_knownOne) (mj := mi_X12_find) (pc := 20) dX13_knownOne_20 ml_X13_164 ok_X12_find ov_X12_find ⟨Nat.le_of_ble_eq_true rfl, Nat.le_of_ble_eq_true rfl⟩ rfl (hu.lt 0 (by decide)) (hu.ty 0 rfl) rfl (s_X12_find g d12 u ((d12.2 57) 14) hu) rfl (Nat.le_of_ble_eq_true rfl)) (fun q20 => ?_)
    refine J_istore_n (pc := 23) (loc' := [(2, .int q20), (0, .ref 57), (1, .int x1_12)]) dX13_knownOne_23 rfl (by decide) rfl ?_
    refine J_iload_n (pc := 24) 0 dX13_knownOne_24 rfl rfl ?_
    refine J_iconst (pc := 25) (v := (-1)) dX13_knownOne_25 (by decide) ?_
    refine K_icmp_eq (K := (fun x => Option.bind x k)) (pc := 26) (tgt := 42) dX13_knownOne_26 (by decide) (fun z26 => ?_) (fun z26 => ?_)
    · refine J_loc (loc' := [(0, .ref 57), (2, .int q20)]) [1, 0] rfl ?_
      exact hX13_knownOne_j42 d12 q20
    · refine J_aload_n (pc := 29) 1 dX13_knownOne_29 rfl rfl ?_
      refine J_getR (pc := 30) dX13_knownOne_30 fl_X13_151 (h0.lt 57 (by decide)) (h0.ty 57 rfl) rfl hre ?_
      refine J_getR (pc := 33) dX13_knownOne_33 fl_X13_175 (hu.lt 0 (by decide)) (hu.ty 0 rfl) rfl (hu.rf 12 rfl) ?_
      refine J_iload_n (pc := 36) 0 dX13_knownOne_36 rfl rfl ?_
      refine J_guard (fun z37 => ?_)
      refine J_iald (pc := 37) dX13_knownOne_37 (hu.lt 13 (by decide)) (hu.ty 13 rfl) z37 ?_
      refine J_iload_n (pc := 38) 2 dX13_knownOne_38 rfl rfl ?_
      refine K_icmp_eq (K := (fun x => Option.bind x k)) (pc := 39) (tgt := 47) dX13_knownOne_39 (by decide) (fun z39 => ?_) (fun z39 => ?_)
      · refine J_loc (loc' := [(0, .ref 57), (2, .int q20)]) [1, 0] rfl ?_
        exact hX13_knownOne_j47 d12 q20
      · refine J_loc (loc' := [(0, .ref 57), (2, .int q20)]) [1, 0] rfl ?_
        exact hX13_knownOne_j42 d12 q20
  refine J_aload_n (pc := 0) 0 dX13_knownOne_0 rfl rfl ?_
  refine JC_pp_b (J_callV (mi := mi_X13_knownOne) (mj := mi_X13_isName) (pc := 1) dX13_knownOne_1 ml_X13_160 ok_X13_isName ov_X13_isName ⟨Nat.le_of_ble_eq_true rfl, Nat.le_of_ble_eq_true rfl⟩ rfl (h0.lt 57 (by decide)) (h0.ty 57 rfl) rfl (s_X13_isName g d h0) rfl (Nat.le_of_ble_eq_true rfl)) (fun q1 => ?_)
  refine K_ifne_b (K := (fun x => Option.bind x k)) (pc := 4) (tgt := 12) dX13_knownOne_4 (by decide) (fun z4 => ?_) (fun z4 => ?_)
  · exact hX13_knownOne_j12 d pq0
  · refine J_aload_n (pc := 7) 0 dX13_knownOne_7 rfl rfl ?_
    refine J_iconst (pc := 8) (v := 1) dX13_knownOne_8 (by decide) ?_
    refine JC_lt_v (K := (fun x => Option.bind x k)) (J_callV (mi := mi_X13_knownOne) (mj := mi_X13_flaw) (pc := 9) dX13_knownOne_9 ml_X13_117 ok_X13_flaw ov_X13_flaw ⟨Nat.le_of_ble_eq_true rfl, Nat.le_of_ble_eq_true rfl⟩ rfl (h0.lt 57 (by decide)) (h0.ty 57 rfl) rfl (s_X13_flaw g d 1 h0) rfl (Nat.le_of_ble_eq_true rfl)) (fun q9 eq9 => ?_)
    exact hX13_knownOne_j12 q9 pq0
def f_X13_readKnown (u : Nat) (d : JD) (pq0 : Int32) : Option (Int32 × JD) := ((f_X13_knownOne u d pq0).bind (fun q2 => (f_X13_goesOn q2.2).bind (fun q7 => some (q2.1, q7))))
set_option maxRecDepth 100000 in
set_option maxHeartbeats 4000000 in
theorem s_X13_readKnown (g : JG) (d : JD) (u : Nat) (pq0 : Int32) (h0 : j_sh g 0 TS_W RS_W) (hu : j_sh g u TS_ML RS_ML) (hre : g.2.2.1 57 4 = some u) : JM mi_X13_readKnown 0 0 (g, d) [.ref 57, .int pq0] ((f_X13_readKnown u d pq0).bind (fun r9 => some (some (.int r9.1), (g, r9.2)))) := by
  refine JM_of (by decide) rfl (Nat.le_of_ble_eq_true rfl) ?_
  refine J_loc (loc' := [(0, .ref 57), (1, .int pq0)]) [0, 1] rfl ?_
  obtain ⟨k, hk, hk2⟩ : ∃ k : Int32 × JD → Option (Option Value × JH), (∀ r9, k r9 = some (some (.int r9.1), (g, r9.2))) ∧ (fun r9 : Int32 × JD => (some (some (.int r9.1), (g, r9.2)) : Option (Option Value × JH))) = k := ⟨_, fun _ => rfl, rfl⟩
  rw [hk2]
  unfold f_X13_readKnown
  refine J_aload_n (pc := 0) 0 dX13_readKnown_0 rfl rfl ?_
  refine J_iload_n (pc := 1) 1 dX13_readKnown_1 rfl rfl ?_
  refine JC_pe_i (J_callV (mi := mi_X13_readKnown) (mj := mi_X13_knownOne) (pc := 2) dX13_readKnown_2 ml_X13_181 ok_X13_knownOne ov_X13_knownOne ⟨Nat.le_of_ble_eq_true rfl, Nat.le_of_ble_eq_true rfl⟩ rfl (h0.lt 57 (by decide)) (h0.ty 57 rfl) rfl (s_X13_knownOne g d u pq0 h0 hu hre) rfl (Nat.le_of_ble_eq_true rfl)) (fun q2 => ?_)
  refine J_istore_n (pc := 5) (loc' := [(2, .int q2.1), (0, .ref 57), (1, .int pq0)]) dX13_readKnown_5 rfl (by decide) rfl ?_
  refine J_aload_n (pc := 6) 1 dX13_readKnown_6 rfl rfl ?_
  refine JC_pe_v (J_callV (mi := mi_X13_readKnown) (mj := mi_X13_goesOn) (pc := 7) dX13_readKnown_7 ml_X13_110 ok_X13_goesOn ov_X13_goesOn ⟨Nat.le_of_ble_eq_true rfl, Nat.le_of_ble_eq_true rfl⟩ rfl (h0.lt 57 (by decide)) (h0.ty 57 rfl) rfl (s_X13_goesOn g q2.2 h0) rfl (Nat.le_of_ble_eq_true rfl)) (fun q7 => ?_)
  refine J_iload_n (pc := 10) 0 dX13_readKnown_10 rfl rfl ?_
  exact J_eqo (hk (q2.1, q7)) (J_iret (pc := 11) dX13_readKnown_11 rfl)
def f_X13_readLand_j16 (u : Nat) (d16 : JD) : Option (JD) := ((f_X13_goesOn d16).bind (fun q17 => (f_X13_readPart q17 20 0 6).bind (fun q26 => (f_X13_readPart q26.2 21 0 100).bind (fun q36 => if ((q36.2.1 57) 9) = 5 then (some q36.2) else (some (j_sI (j_sI q36.2 u 0 q26.1) u 1 q36.1))))))
def f_X13_readLand (u : Nat) (d : JD) : Option (JD) := (if ((d.1 u) 0) = (-1) then f_X13_readLand_j16 u d else (j_let (f_X13_flaw d 3) (fun q13 => f_X13_readLand_j16 u q13 )))
set_option maxRecDepth 100000 in
set_option maxHeartbeats 4000000 in
theorem s_X13_readLand (g : JG) (d : JD) (u : Nat) (h0 : j_sh g 0 TS_W RS_W) (hu : j_sh g u TS_ML RS_ML) (hre : g.2.2.1 57 4 = some u) : JM mi_X13_readLand 0 0 (g, d) [.ref 57] ((f_X13_readLand u d ).bind (fun r9 => some (none, (g, r9)))) := by
  refine JM_of (by decide) rfl (Nat.le_of_ble_eq_true rfl) ?_
  refine J_loc (loc' := [(0, .ref 57)]) [0] rfl ?_
  obtain ⟨k, hk, hk2⟩ : ∃ k : JD → Option (Option Value × JH), (∀ r9, k r9 = some (none, (g, r9))) ∧ (fun r9 : JD => (some (none, (g, r9)) : Option (Option Value × JH))) = k := ⟨_, fun _ => rfl, rfl⟩
  rw [hk2]
  unfold f_X13_readLand
  have hX13_readLand_j16 : ∀ (d16 : JD) , J mi_X13_readLand 0 0 0 0 (g, d16) 16 [(0, .ref 57)] [] ((f_X13_readLand_j16 u d16 ).bind k) := by
    intro d16 
    unfold f_X13_readLand_j16
    refine J_aload_n (pc := 16) 0 dX13_readLand_16 rfl rfl ?_
    refine JC_pe_v (J_callV (mi := mi_X13_readLand) (mj := mi_X13_goesOn) (pc := 17) dX13_readLand_17 ml_X13_110 ok_X13_goesOn ov_X13_goesOn ⟨Nat.le_of_ble_eq_true rfl, Nat.le_of_ble_eq_true rfl⟩ rfl (h0.lt 57 (by decide)) (h0.ty 57 rfl) rfl (s_X13_goesOn g d16 h0) rfl (Nat.le_of_ble_eq_true rfl)) (fun q17 => ?_)
    refine J_aload_n (pc := 20) 0 dX13_readLand_20 rfl rfl ?_
    refine J_ldcS (pc := 21) (k := 20) dX13_readLand_21 (by decide) ⟨rfl, rfl⟩ ?_
    refine J_iconst (pc := 23) (v := 0) dX13_readLand_23 (by decide) ?_
    refine J_bipush (pc := 24) (v := 6) dX13_readLand_24 (by decide) ?_
    refine JC_pe_i (J_callV (mi := mi_X13_readLand) (mj := mi_X13_readPart) (pc := 26) dX13_readLand_26 ml_X13_221 ok_X13_readPart ov_X13_readPart ⟨Nat.le_of_ble_eq_true rfl, Nat.le_of_ble_eq_true rfl⟩ rfl (h0.lt 57 (by decide)) (h0.ty 57 rfl) rfl (s_X13_readPart g q17 20 0 6 h0 (by decide)) rfl (Nat.le_of_ble_eq_true rfl)) (fun q26 => ?_)
    refine J_istore_n (pc := 29) (loc' := [(1, .int q26.1), (0, .ref 57)]) dX13_readLand_29 rfl (by decide) rfl ?_
    refine J_aload_n (pc := 30) 1 dX13_readLand_30 rfl rfl ?_
    refine J_ldcS (pc := 31) (k := 21) dX13_readLand_31 (by decide) ⟨rfl, rfl⟩ ?_
    refine J_iconst (pc := 33) (v := 0) dX13_readLand_33 (by decide) ?_
    refine J_bipush (pc := 34) (v := 100) dX13_readLand_34 (by decide) ?_
    refine JC_pe_i (J_callV (mi := mi_X13_readLand) (mj := mi_X13_readPart) (pc := 36) dX13_readLand_36 ml_X13_221 ok_X13_readPart ov_X13_readPart ⟨Nat.le_of_ble_eq_true rfl, Nat.le_of_ble_eq_true rfl⟩ rfl (h0.lt 57 (by decide)) (h0.ty 57 rfl) rfl (s_X13_readPart g q26.2 21 0 100 h0 (by decide)) rfl (Nat.le_of_ble_eq_true rfl)) (fun q36 => ?_)
    refine J_istore_n (pc := 39) (loc' := [(2, .int q36.1), (1, .int q26.1), (0, .ref 57)]) dX13_readLand_39 rfl (by decide) rfl ?_
    refine J_aload_n (pc := 40) 2 dX13_readLand_40 rfl rfl ?_
    refine J_getI (pc := 41) dX13_readLand_41 fl_X13_74 (h0.lt 57 (by decide)) (h0.ty 57 rfl) rfl ?_
    refine J_iconst (pc := 44) (v := 5) dX13_readLand_44 (by decide) ?_
    refine K_icmp_ne (K := (fun x => Option.bind x k)) (pc := 45) (tgt := 49) dX13_readLand_45 (by decide) (fun z45 => ?_) (fun z45 => ?_)
    · refine J_aload_n (pc := 49) 2 dX13_readLand_49 rfl rfl ?_
      refine J_getR (pc := 50) dX13_readLand_50 fl_X13_151 (h0.lt 57 (by decide)) (h0.ty 57 rfl) rfl hre ?_
      refine J_iload_n (pc := 53) 1 dX13_readLand_53 rfl rfl ?_
      refine J_putI (pc := 54) dX13_readLand_54 fl_X13_155 ft_11_0 (hu.lt 0 (by decide)) (hu.ty 0 rfl) rfl rfl rfl ?_
      refine J_aload_n (pc := 57) 2 dX13_readLand_57 rfl rfl ?_
      refine J_getR (pc := 58) dX13_readLand_58 fl_X13_151 (h0.lt 57 (by decide)) (h0.ty 57 rfl) rfl hre ?_
      refine J_iload_n (pc := 61) 0 dX13_readLand_61 rfl rfl ?_
      refine J_putI (pc := 62) dX13_readLand_62 fl_X13_227 ft_11_1 (hu.lt 0 (by decide)) (hu.ty 0 rfl) rfl rfl rfl ?_
      exact J_eqo (hk (j_sI (j_sI q36.2 u 0 q26.1) u 1 q36.1)) (J_vret (pc := 65) dX13_readLand_65 rfl)
    · exact J_eqo (hk q36.2) (J_vret (pc := 48) dX13_readLand_48 rfl)
  refine J_aload_n (pc := 0) 0 dX13_readLand_0 rfl rfl ?_
  refine J_getR (pc := 1) dX13_readLand_1 fl_X13_151 (h0.lt 57 (by decide)) (h0.ty 57 rfl) rfl hre ?_
  refine J_getI (pc := 4) dX13_readLand_4 fl_X13_155 (hu.lt 0 (by decide)) (hu.ty 0 rfl) rfl ?_
  refine J_iconst (pc := 7) (v := (-1)) dX13_readLand_7 (by decide) ?_
  refine K_icmp_eq (K := (fun x => Option.bind x k)) (pc := 8) (tgt := 16) dX13_readLand_8 (by decide) (fun z8 => ?_) (fun z8 => ?_)
  · exact hX13_readLand_j16 d 
  · refine J_aload_n (pc := 11) 0 dX13_readLand_11 rfl rfl ?_
    refine J_iconst (pc := 12) (v := 3) dX13_readLand_12 (by decide) ?_
    refine JC_lt_v (K := (fun x => Option.bind x k)) (J_callV (mi := mi_X13_readLand) (mj := mi_X13_flaw) (pc := 13) dX13_readLand_13 ml_X13_117 ok_X13_flaw ov_X13_flaw ⟨Nat.le_of_ble_eq_true rfl, Nat.le_of_ble_eq_true rfl⟩ rfl (h0.lt 57 (by decide)) (h0.ty 57 rfl) rfl (s_X13_flaw g d 3 h0) rfl (Nat.le_of_ble_eq_true rfl)) (fun q13 eq13 => ?_)
    exact hX13_readLand_j16 q13 
