def f_X3_wealthiest_j38_8 (r_a0 : Nat → Int32) (r_a7 : Nat → Int32) (r_a8 : Nat → Int32) (c1_8 : Int32) (i8 : Int32) (x2_38_8 : Int32) (x3_38_8 : Int32) : Int32 × Int32 := (x2_38_8, x3_38_8)
def f_X3_wealthiest_b8 (r_a0 : Nat → Int32) (r_a7 : Nat → Int32) (r_a8 : Nat → Int32) (c1_8 : Int32) (i8 : Int32) (s8 : Int32 × Int32) : Int32 × Int32 := (j_let (f_X3_wealth r_a0 r_a7 r_a8 i8 (c1_8)) (fun v5_24_8 => if v5_24_8 ≤ s8.2 then f_X3_wealthiest_j38_8 r_a0 r_a7 r_a8 (c1_8) i8 s8.1 s8.2 else (f_X3_wealthiest_j38_8 r_a0 r_a7 r_a8 (c1_8) i8 i8 v5_24_8)))
def f_X3_wealthiest (r_a0 : Nat → Int32) (r_a7 : Nat → Int32) (r_a8 : Nat → Int32) (pq0 : Int32) : Int32 := (j_let (j_for (r_a0 2) (f_X3_wealthiest_b8 r_a0 r_a7 r_a8 pq0 ) (j_mu (r_a0 2) 0) 0 ((-2), (-1))) (fun (s8 : Int32 × Int32) => (s8.1)))
set_option maxRecDepth 100000 in
set_option maxHeartbeats 4000000 in
theorem s_X3_wealthiest (g : JG) (d : JD) (a : Nat) (pq0 : Int32) (ha : j_sh g a TS_CL RS_CL) : JM mi_X3_wealthiest 0 0 (g, d) [.ref a, .int pq0] (some (some (.int (f_X3_wealthiest (d.1 a) (d.1 (a + 7)) (d.1 (a + 8)) pq0)), (g, d))) := by
  refine JM_of (by decide) rfl (Nat.le_of_ble_eq_true rfl) ?_
  refine J_loc (loc' := [(0, .ref a), (1, .int pq0)]) [0, 1] rfl ?_
  obtain ⟨k, hk⟩ : ∃ k : Int32 → Option (Option Value × JH), ∀ r9, k r9 = some (some (.int r9), (g, d)) := ⟨_, fun _ => rfl⟩
  refine J_eqo (hk (f_X3_wealthiest (d.1 a) (d.1 (a + 7)) (d.1 (a + 8)) pq0)).symm ?_
  unfold f_X3_wealthiest
  refine J_bipush (pc := 0) (v := (-2)) dX3_wealthiest_0 (by decide) ?_
  refine J_istore_n (pc := 2) (loc' := [(2, .int (-2)), (0, .ref a), (1, .int pq0)]) dX3_wealthiest_2 rfl (by decide) rfl ?_
  refine J_iconst (pc := 3) (v := (-1)) dX3_wealthiest_3 (by decide) ?_
  refine J_istore_n (pc := 4) (loc' := [(3, .int (-1)), (2, .int (-2)), (0, .ref a), (1, .int pq0)]) dX3_wealthiest_4 rfl (by decide) rfl ?_
  refine J_iconst (pc := 5) (v := 0) dX3_wealthiest_5 (by decide) ?_
  refine J_istore (pc := 6) (loc' := [(4, .int 0), (3, .int (-1)), (2, .int (-2)), (0, .ref a), (1, .int pq0)]) dX3_wealthiest_6 (by decide) rfl ?_
  refine J_loc (loc' := [(0, .ref a), (1, .int pq0), (2, .int (-2)), (3, .int (-1)), (4, .int 0)]) [3, 4, 2, 1, 0] rfl ?_
  refine J_forL (K := k) (b := (d.1 a) 2) (G := f_X3_wealthiest_b8 (d.1 a) (d.1 (a + 7)) (d.1 (a + 8)) pq0 ) (hp := fun (s8 : Int32 × Int32) => (g, d)) (lc := fun (i8 : Int32) (s8 : Int32 × Int32) => [(0, .ref a), (1, .int (pq0)), (2, .int s8.1), (3, .int s8.2), (4, .int i8)]) (XJ := fun (i8 : Int32) (s8 : Int32 × Int32) o9 => J mi_X3_wealthiest 0 0 0 0 (g, d) 44 [(2, .int s8.1)] [] o9) (fun i8 s8 o8 Kb8 hX8 hB8 => ?_) (fun i8 s8 => ?_) _ _ ((-2), (-1)) (Nat.le_refl _)
  · show J mi_X3_wealthiest 0 0 0 0 (g, d) 8 [(0, .ref a), (1, .int (pq0)), (2, .int s8.1), (3, .int s8.2), (4, .int i8)] [] (if ((d.1 a) 2) ≤ i8 then o8 else Kb8 (f_X3_wealthiest_b8 (d.1 a) (d.1 (a + 7)) (d.1 (a + 8)) pq0 i8 s8))
    refine J_iload (pc := 8) 4 dX3_wealthiest_8 rfl ?_
    refine J_aload_n (pc := 10) 0 dX3_wealthiest_10 rfl rfl ?_
    refine J_getI (pc := 11) dX3_wealthiest_11 fl_X3_50 (ha.lt 0 (by decide)) (ha.ty 0 rfl) rfl ?_
    refine J_icmp_ge (pc := 14) (tgt := 44) dX3_wealthiest_14 (by decide) (fun z8 => ?_) (fun z8 => ?_)
    · refine J_loc (loc' := [(2, .int s8.1)]) [2] rfl ?_
      exact hX8 z8
    · unfold f_X3_wealthiest_b8
      have hX3_wealthiest_j38_8 : ∀ (x2_38_8 : Int32) (x3_38_8 : Int32), J mi_X3_wealthiest 0 0 0 0 (g, d) 38 [(0, .ref a), (1, .int (pq0)), (2, .int x2_38_8), (3, .int x3_38_8), (4, .int i8)] [] (Kb8 (f_X3_wealthiest_j38_8 (d.1 a) (d.1 (a + 7)) (d.1 (a + 8)) pq0 i8 x2_38_8 x3_38_8)) := by
        intro x2_38_8 x3_38_8
        unfold f_X3_wealthiest_j38_8
        refine J_iinc (pc := 38) (v := i8 + 1) (loc' := [(4, .int (i8 + 1)), (0, .ref a), (1, .int (pq0)), (2, .int x2_38_8), (3, .int x3_38_8)]) 4 dX3_wealthiest_38 rfl rfl (by decide) rfl ?_
        refine J_goto (pc := 41) (tgt := 8) dX3_wealthiest_41 (by decide) ?_
        refine J_loc (loc' := [(0, .ref a), (1, .int (pq0)), (2, .int x2_38_8), (3, .int x3_38_8), (4, .int (i8 + 1))]) [1, 2, 3, 4, 0] rfl ?_
        exact hB8 z8 (x2_38_8, x3_38_8)
      refine J_aload_n (pc := 17) 0 dX3_wealthiest_17 rfl rfl ?_
      refine J_iload (pc := 18) 4 dX3_wealthiest_18 rfl ?_
      refine J_iload_n (pc := 20) 1 dX3_wealthiest_20 rfl rfl ?_
      refine JC_pt_i (J_callV (mi := mi_X3_wealthiest) (mj := mi_X3_wealth) (pc := 21) dX3_wealthiest_21 ml_X3_109 ok_X3_wealth ov_X3_wealth ⟨Nat.le_of_ble_eq_true rfl, Nat.le_of_ble_eq_true rfl⟩ rfl (ha.lt 0 (by decide)) (ha.ty 0 rfl) rfl (s_X3_wealth g d a i8 pq0 ha) rfl (Nat.le_of_ble_eq_true rfl)) ?_
      refine J_let (K := Kb8) (fun v5_24_8 ev5_24_8 => ?_)
      refine J_val ev5_24_8.symm ?_
      refine J_istore (pc := 24) (loc' := [(5, .int v5_24_8), (0, .ref a), (1, .int (pq0)), (2, .int s8.1), (3, .int s8.2), (4, .int i8)]) dX3_wealthiest_24 (by decide) rfl ?_
      refine J_iload (pc := 26) 0 dX3_wealthiest_26 rfl ?_
      refine J_iload_n (pc := 28) 4 dX3_wealthiest_28 rfl rfl ?_
      refine K_icmp_le (K := Kb8) (pc := 29) (tgt := 38) dX3_wealthiest_29 (by decide) (fun z29 => ?_) (fun z29 => ?_)
      · refine J_loc (loc' := [(0, .ref a), (1, .int (pq0)), (2, .int s8.1), (3, .int s8.2), (4, .int i8)]) [1, 2, 3, 4, 5] rfl ?_
        exact hX3_wealthiest_j38_8 s8.1 s8.2
      · refine J_iload (pc := 32) 0 dX3_wealthiest_32 rfl ?_
        refine J_istore_n (pc := 34) (loc' := [(3, .int v5_24_8), (5, .int v5_24_8), (0, .ref a), (1, .int (pq0)), (2, .int s8.1), (4, .int i8)]) dX3_wealthiest_34 rfl (by decide) rfl ?_
        refine J_iload (pc := 35) 5 dX3_wealthiest_35 rfl ?_
        refine J_istore_n (pc := 37) (loc' := [(2, .int i8), (3, .int v5_24_8), (5, .int v5_24_8), (0, .ref a), (1, .int (pq0)), (4, .int i8)]) dX3_wealthiest_37 rfl (by decide) rfl ?_
        refine J_loc (loc' := [(0, .ref a), (1, .int (pq0)), (2, .int i8), (3, .int v5_24_8), (4, .int i8)]) [3, 4, 0, 1, 5] rfl ?_
        exact hX3_wealthiest_j38_8 i8 v5_24_8
  · show J mi_X3_wealthiest 0 0 0 0 (g, d) 44 [(2, .int s8.1)] [] (_)
    refine J_iload_n (pc := 44) 0 dX3_wealthiest_44 rfl rfl ?_
    exact J_eqo (hk s8.1) (J_iret (pc := 45) dX3_wealthiest_45 rfl)
def f_X3_leastWealth_b20 (r_a0 : Nat → Int32) (r_a7 : Nat → Int32) (r_a8 : Nat → Int32) (c1_20 : Int32) (i20 : Int32) (s20 : Int32) : Int32 := (if (f_X3_wealth r_a0 r_a7 r_a8 i20 (c1_20)) < s20 then f_X3_wealth r_a0 r_a7 r_a8 i20 (c1_20) else s20)
def f_X3_leastWealth_j17 (r_a0 : Nat → Int32) (r_a7 : Nat → Int32) (r_a8 : Nat → Int32) (x1_17 : Int32) (y0_17 : Int32) : Int32 := (j_let (j_for (r_a0 2) (f_X3_leastWealth_b20 r_a0 r_a7 r_a8 x1_17 ) (j_mu (r_a0 2) 1) 1 y0_17) (fun (s20 : Int32) => (s20)))
def f_X3_leastWealth (r_a0 : Nat → Int32) (r_a7 : Nat → Int32) (r_a8 : Nat → Int32) (pq0 : Int32) : Int32 := (if (r_a0 2) ≤ 0 then (f_X3_leastWealth_j17 r_a0 r_a7 r_a8 pq0 0) else (f_X3_leastWealth_j17 r_a0 r_a7 r_a8 pq0 (f_X3_wealth r_a0 r_a7 r_a8 0 pq0)))
set_option maxRecDepth 100000 in
set_option maxHeartbeats 4000000 in
theorem s_X3_leastWealth (g : JG) (d : JD) (a : Nat) (pq0 : Int32) (ha : j_sh g a TS_CL RS_CL) : JM mi_X3_leastWealth 0 0 (g, d) [.ref a, .int pq0] (some (some (.int (f_X3_leastWealth (d.1 a) (d.1 (a + 7)) (d.1 (a + 8)) pq0)), (g, d))) := by
  refine JM_of (by decide) rfl (Nat.le_of_ble_eq_true rfl) ?_
  refine J_loc (loc' := [(0, .ref a), (1, .int pq0)]) [0, 1] rfl ?_
  obtain ⟨k, hk⟩ : ∃ k : Int32 → Option (Option Value × JH), ∀ r9, k r9 = some (some (.int r9), (g, d)) := ⟨_, fun _ => rfl⟩
  refine J_eqo (hk (f_X3_leastWealth (d.1 a) (d.1 (a + 7)) (d.1 (a + 8)) pq0)).symm ?_
  unfold f_X3_leastWealth
  have hX3_leastWealth_j17 : ∀ (x1_17 : Int32) (y0_17 : Int32), J mi_X3_leastWealth 0 0 0 0 (g, d) 17 [(0, .ref a), (1, .int x1_17)] [.int y0_17] (k (f_X3_leastWealth_j17 (d.1 a) (d.1 (a + 7)) (d.1 (a + 8)) x1_17 y0_17)) := by
    intro x1_17 y0_17
    unfold f_X3_leastWealth_j17
    refine J_istore_n (pc := 17) (loc' := [(2, .int y0_17), (0, .ref a), (1, .int x1_17)]) dX3_leastWealth_17 rfl (by decide) rfl ?_
    refine J_iconst (pc := 18) (v := 1) dX3_leastWealth_18 (by decide) ?_
    refine J_istore_n (pc := 19) (loc' := [(3, .int 1), (2, .int y0_17), (0, .ref a), (1, .int x1_17)]) dX3_leastWealth_19 rfl (by decide) rfl ?_
    refine J_loc (loc' := [(0, .ref a), (1, .int x1_17), (2, .int y0_17), (3, .int 1)]) [2, 3, 1, 0] rfl ?_
    refine J_forL (K := k) (b := (d.1 a) 2) (G := f_X3_leastWealth_b20 (d.1 a) (d.1 (a + 7)) (d.1 (a + 8)) x1_17 ) (hp := fun (s20 : Int32) => (g, d)) (lc := fun (i20 : Int32) (s20 : Int32) => [(0, .ref a), (1, .int (x1_17)), (2, .int s20), (3, .int i20)]) (XJ := fun (i20 : Int32) (s20 : Int32) o9 => J mi_X3_leastWealth 0 0 0 0 (g, d) 45 [(2, .int s20)] [] o9) (fun i20 s20 o20 Kb20 hX20 hB20 => ?_) (fun i20 s20 => ?_) _ _ y0_17 (Nat.le_refl _)
    · show J mi_X3_leastWealth 0 0 0 0 (g, d) 20 [(0, .ref a), (1, .int (x1_17)), (2, .int s20), (3, .int i20)] [] (if ((d.1 a) 2) ≤ i20 then o20 else Kb20 (f_X3_leastWealth_b20 (d.1 a) (d.1 (a + 7)) (d.1 (a + 8)) x1_17 i20 s20))
      refine J_iload_n (pc := 20) 3 dX3_leastWealth_20 rfl rfl ?_
      refine J_aload_n (pc := 21) 0 dX3_leastWealth_21 rfl rfl ?_
      refine J_getI (pc := 22) dX3_leastWealth_22 fl_X3_50 (ha.lt 0 (by decide)) (ha.ty 0 rfl) rfl ?_
      refine J_icmp_ge (pc := 25) (tgt := 45) dX3_leastWealth_25 (by decide) (fun z20 => ?_) (fun z20 => ?_)
      · refine J_loc (loc' := [(2, .int s20)]) [2] rfl ?_
        exact hX20 z20
      · unfold f_X3_leastWealth_b20
        refine J_iload_n (pc := 28) 2 dX3_leastWealth_28 rfl rfl ?_
        refine J_aload_n (pc := 29) 0 dX3_leastWealth_29 rfl rfl ?_
        refine J_iload_n (pc := 30) 3 dX3_leastWealth_30 rfl rfl ?_
        refine J_iload_n (pc := 31) 1 dX3_leastWealth_31 rfl rfl ?_
        refine JC_pt_i (J_callV (mi := mi_X3_leastWealth) (mj := mi_X3_wealth) (pc := 32) dX3_leastWealth_32 ml_X3_109 ok_X3_wealth ov_X3_wealth ⟨Nat.le_of_ble_eq_true rfl, Nat.le_of_ble_eq_true rfl⟩ rfl (ha.lt 0 (by decide)) (ha.ty 0 rfl) rfl (s_X3_wealth g d a i20 x1_17 ha) rfl (Nat.le_of_ble_eq_true rfl)) ?_
        refine J_mmin (pc := 35) dX3_leastWealth_35 mm_X3_121 (Nat.le_of_ble_eq_true rfl) (Nat.le_of_ble_eq_true rfl) ?_
        refine J_istore_n (pc := 38) (loc' := [(2, .int (if (f_X3_wealth (d.1 a) (d.1 (a + 7)) (d.1 (a + 8)) i20 (x1_17)) < s20 then f_X3_wealth (d.1 a) (d.1 (a + 7)) (d.1 (a + 8)) i20 (x1_17) else s20)), (0, .ref a), (1, .int (x1_17)), (3, .int i20)]) dX3_leastWealth_38 rfl (by decide) rfl ?_
        refine J_iinc (pc := 39) (v := i20 + 1) (loc' := [(3, .int (i20 + 1)), (2, .int (if (f_X3_wealth (d.1 a) (d.1 (a + 7)) (d.1 (a + 8)) i20 (x1_17)) < s20 then f_X3_wealth (d.1 a) (d.1 (a + 7)) (d.1 (a + 8)) i20 (x1_17) else s20)), (0, .ref a), (1, .int (x1_17))]) 3 dX3_leastWealth_39 rfl rfl (by decide) rfl ?_
        refine J_goto (pc := 42) (tgt := 20) dX3_leastWealth_42 (by decide) ?_
        refine J_loc (loc' := [(0, .ref a), (1, .int (x1_17)), (2, .int (if (f_X3_wealth (d.1 a) (d.1 (a + 7)) (d.1 (a + 8)) i20 (x1_17)) < s20 then f_X3_wealth (d.1 a) (d.1 (a + 7)) (d.1 (a + 8)) i20 (x1_17) else s20)), (3, .int (i20 + 1))]) [2, 3, 1, 0] rfl ?_
        exact hB20 z20 (if (f_X3_wealth (d.1 a) (d.1 (a + 7)) (d.1 (a + 8)) i20 (x1_17)) < s20 then f_X3_wealth (d.1 a) (d.1 (a + 7)) (d.1 (a + 8)) i20 (x1_17) else s20)
    · show J mi_X3_leastWealth 0 0 0 0 (g, d) 45 [(2, .int s20)] [] (_)
      refine J_iload_n (pc := 45) 0 dX3_leastWealth_45 rfl rfl ?_
      exact J_eqo (hk s20) (J_iret (pc := 46) dX3_leastWealth_46 rfl)
  refine J_aload_n (pc := 0) 0 dX3_leastWealth_0 rfl rfl ?_
  refine J_getI (pc := 1) dX3_leastWealth_1 fl_X3_50 (ha.lt 0 (by decide)) (ha.ty 0 rfl) rfl ?_
  refine K_if_le (K := k) (pc := 4) (tgt := 16) dX3_leastWealth_4 (by decide) (fun z4 => ?_) (fun z4 => ?_)
  · refine J_iconst (pc := 16) (v := 0) dX3_leastWealth_16 (by decide) ?_
    exact hX3_leastWealth_j17 pq0 0
  · refine J_aload_n (pc := 7) 0 dX3_leastWealth_7 rfl rfl ?_
    refine J_iconst (pc := 8) (v := 0) dX3_leastWealth_8 (by decide) ?_
    refine J_iload_n (pc := 9) 1 dX3_leastWealth_9 rfl rfl ?_
    refine JC_pt_i (J_callV (mi := mi_X3_leastWealth) (mj := mi_X3_wealth) (pc := 10) dX3_leastWealth_10 ml_X3_109 ok_X3_wealth ov_X3_wealth ⟨Nat.le_of_ble_eq_true rfl, Nat.le_of_ble_eq_true rfl⟩ rfl (ha.lt 0 (by decide)) (ha.ty 0 rfl) rfl (s_X3_wealth g d a 0 pq0 ha) rfl (Nat.le_of_ble_eq_true rfl)) ?_
    refine J_goto (pc := 13) (tgt := 17) dX3_leastWealth_13 (by decide) ?_
    exact hX3_leastWealth_j17 pq0 (f_X3_wealth (d.1 a) (d.1 (a + 7)) (d.1 (a + 8)) 0 pq0)
def f_X3_beggar_j35_5 (r_a0 : Nat → Int32) (r_a7 : Nat → Int32) (r_a8 : Nat → Int32) (c1_5 : Int32) (c2_5 : Int32) (i5 : Int32) (x3_35_5 : Int32) : Int32 ⊕ (Int32) := (.inr x3_35_5)
def f_X3_beggar_b5 (r_a0 : Nat → Int32) (r_a7 : Nat → Int32) (r_a8 : Nat → Int32) (c1_5 : Int32) (c2_5 : Int32) (i5 : Int32) (s5 : Int32) : Int32 ⊕ (Int32) := (if (f_X3_wealth r_a0 r_a7 r_a8 i5 (c2_5)) = 0 then (if s5 = (c1_5) then (Sum.inl i5) else (f_X3_beggar_j35_5 r_a0 r_a7 r_a8 (c1_5) (c2_5) i5 (s5 + 1))) else f_X3_beggar_j35_5 r_a0 r_a7 r_a8 (c1_5) (c2_5) i5 s5)
def f_X3_beggar (r_a0 : Nat → Int32) (r_a7 : Nat → Int32) (r_a8 : Nat → Int32) (pq0 : Int32) (pq1 : Int32) : Int32 := (j_let (j_fo (r_a0 2) (f_X3_beggar_b5 r_a0 r_a7 r_a8 pq0 pq1 ) (j_mu (r_a0 2) 0) 0 0) (Sum.elim (fun r9 => r9) (fun (s5 : Int32) => (-1))))
set_option maxRecDepth 100000 in
set_option maxHeartbeats 4000000 in
theorem s_X3_beggar (g : JG) (d : JD) (a : Nat) (pq0 : Int32) (pq1 : Int32) (ha : j_sh g a TS_CL RS_CL) : JM mi_X3_beggar 0 0 (g, d) [.ref a, .int pq0, .int pq1] (some (some (.int (f_X3_beggar (d.1 a) (d.1 (a + 7)) (d.1 (a + 8)) pq0 pq1)), (g, d))) := by
  refine JM_of (by decide) rfl (Nat.le_of_ble_eq_true rfl) ?_
  refine J_loc (loc' := [(0, .ref a), (1, .int pq0), (2, .int pq1)]) [0, 1, 2] rfl ?_
  obtain ⟨k, hk⟩ : ∃ k : Int32 → Option (Option Value × JH), ∀ r9, k r9 = some (some (.int r9), (g, d)) := ⟨_, fun _ => rfl⟩
  refine J_eqo (hk (f_X3_beggar (d.1 a) (d.1 (a + 7)) (d.1 (a + 8)) pq0 pq1)).symm ?_
  unfold f_X3_beggar
  refine J_iconst (pc := 0) (v := 0) dX3_beggar_0 (by decide) ?_
  refine J_istore_n (pc := 1) (loc' := [(3, .int 0), (0, .ref a), (1, .int pq0), (2, .int pq1)]) dX3_beggar_1 rfl (by decide) rfl ?_
  refine J_iconst (pc := 2) (v := 0) dX3_beggar_2 (by decide) ?_
  refine J_istore (pc := 3) (loc' := [(4, .int 0), (3, .int 0), (0, .ref a), (1, .int pq0), (2, .int pq1)]) dX3_beggar_3 (by decide) rfl ?_
  refine J_loc (loc' := [(0, .ref a), (1, .int pq0), (2, .int pq1), (3, .int 0), (4, .int 0)]) [2, 3, 4, 1, 0] rfl ?_
  refine J_foL (K := k) (fr := fun r9 => r9) (b := (d.1 a) 2) (G := f_X3_beggar_b5 (d.1 a) (d.1 (a + 7)) (d.1 (a + 8)) pq0 pq1 ) (hp := fun (s5 : Int32) => (g, d)) (lc := fun (i5 : Int32) (s5 : Int32) => [(0, .ref a), (1, .int (pq0)), (2, .int (pq1)), (3, .int s5), (4, .int i5)]) (XJ := fun (i5 : Int32) (s5 : Int32) o9 => J mi_X3_beggar 0 0 0 0 (g, d) 41 [] [] o9) (RJ := fun r9 o9 => o9 = some (some (.int r9), (g, d))) (fun i5 s5 o5 Kb5 hX5 hR5 hB5 => ?_) (fun i5 s5 => ?_) (fun r9 => hk r9) _ _ 0 (Nat.le_refl _)
  · show J mi_X3_beggar 0 0 0 0 (g, d) 5 [(0, .ref a), (1, .int (pq0)), (2, .int (pq1)), (3, .int s5), (4, .int i5)] [] (if ((d.1 a) 2) ≤ i5 then o5 else Kb5 (f_X3_beggar_b5 (d.1 a) (d.1 (a + 7)) (d.1 (a + 8)) pq0 pq1 i5 s5))
    refine J_iload (pc := 5) 4 dX3_beggar_5 rfl ?_
    refine J_aload_n (pc := 7) 0 dX3_beggar_7 rfl rfl ?_
    refine J_getI (pc := 8) dX3_beggar_8 fl_X3_50 (ha.lt 0 (by decide)) (ha.ty 0 rfl) rfl ?_
    refine J_icmp_ge (pc := 11) (tgt := 41) dX3_beggar_11 (by decide) (fun z5 => ?_) (fun z5 => ?_)
    · refine J_loc (loc' := []) [] rfl ?_
      exact hX5 z5
    · unfold f_X3_beggar_b5
      have hX3_beggar_j35_5 : ∀ (x3_35_5 : Int32), J mi_X3_beggar 0 0 0 0 (g, d) 35 [(0, .ref a), (1, .int (pq0)), (2, .int (pq1)), (3, .int x3_35_5), (4, .int i5)] [] (Kb5 (f_X3_beggar_j35_5 (d.1 a) (d.1 (a + 7)) (d.1 (a + 8)) pq0 pq1 i5 x3_35_5)) := by
        intro x3_35_5
        unfold f_X3_beggar_j35_5
        refine J_iinc (pc := 35) (v := i5 + 1) (loc' := [(4, .int (i5 + 1)), (0, .ref a), (1, .int (pq0)), (2, .int (pq1)), (3, .int x3_35_5)]) 4 dX3_beggar_35 rfl rfl (by decide) rfl ?_
        refine J_goto (pc := 38) (tgt := 5) dX3_beggar_38 (by decide) ?_
        refine J_loc (loc' := [(0, .ref a), (1, .int (pq0)), (2, .int (pq1)), (3, .int x3_35_5), (4, .int (i5 + 1))]) [1, 2, 3, 4, 0] rfl ?_
        exact hB5 z5 x3_35_5
      refine J_aload_n (pc := 14) 0 dX3_beggar_14 rfl rfl ?_
      refine J_iload (pc := 15) 4 dX3_beggar_15 rfl ?_
      refine J_iload_n (pc := 17) 2 dX3_beggar_17 rfl rfl ?_
      refine JC_pt_i (J_callV (mi := mi_X3_beggar) (mj := mi_X3_wealth) (pc := 18) dX3_beggar_18 ml_X3_109 ok_X3_wealth ov_X3_wealth ⟨Nat.le_of_ble_eq_true rfl, Nat.le_of_ble_eq_true rfl⟩ rfl (ha.lt 0 (by decide)) (ha.ty 0 rfl) rfl (s_X3_wealth g d a i5 pq1 ha) rfl (Nat.le_of_ble_eq_true rfl)) ?_
      refine K_if_ne (K := Kb5) (pc := 21) (tgt := 35) dX3_beggar_21 (by decide) (fun z21 => ?_) (fun z21 => ?_)
      · exact hX3_beggar_j35_5 s5
      · refine J_iload_n (pc := 24) 3 dX3_beggar_24 rfl rfl ?_
        refine J_iload_n (pc := 25) 1 dX3_beggar_25 rfl rfl ?_
        refine K_icmp_ne (K := Kb5) (pc := 26) (tgt := 32) dX3_beggar_26 (by decide) (fun z26 => ?_) (fun z26 => ?_)
        · refine J_iinc (pc := 32) (v := s5 + 1) (loc' := [(3, .int (s5 + 1)), (0, .ref a), (1, .int (pq0)), (2, .int (pq1)), (4, .int i5)]) 3 dX3_beggar_32 rfl rfl (by decide) rfl ?_
          refine J_loc (loc' := [(0, .ref a), (1, .int (pq0)), (2, .int (pq1)), (3, .int (s5 + 1)), (4, .int i5)]) [1, 2, 3, 0, 4] rfl ?_
          exact hX3_beggar_j35_5 (s5 + 1)
        · refine J_iload (pc := 29) 4 dX3_beggar_29 rfl ?_
          exact J_eqo (hR5 i5) (J_iret (pc := 31) dX3_beggar_31 rfl)
  · show J mi_X3_beggar 0 0 0 0 (g, d) 41 [] [] (_)
    refine J_iconst (pc := 41) (v := (-1)) dX3_beggar_41 (by decide) ?_
    exact J_eqo (hk (-1)) (J_iret (pc := 42) dX3_beggar_42 rfl)
def f_X3_mayHangSo (r_a0 : Nat → Int32) (pq0 : Int32) : Bool := (if (f_X10_isWay pq0) = true then (if ((pq0 ^^^ (r_a0 6)) &&& (r_a0 7)) = 0 then (if (f_X3_hooksLying r_a0 pq0) < 0 then (false) else (true)) else (false)) else (false))
set_option maxRecDepth 100000 in
set_option maxHeartbeats 4000000 in
theorem s_X3_mayHangSo (g : JG) (d : JD) (a : Nat) (pq0 : Int32) (ha : j_sh g a TS_CL RS_CL) : JM mi_X3_mayHangSo 0 0 (g, d) [.ref a, .int pq0] (some (some (.int (j_b (f_X3_mayHangSo (d.1 a) pq0))), (g, d))) := by
  refine JM_of (by decide) rfl (Nat.le_of_ble_eq_true rfl) ?_
  refine J_loc (loc' := [(0, .ref a), (1, .int pq0)]) [0, 1] rfl ?_
  obtain ⟨k, hk⟩ : ∃ k : Bool → Option (Option Value × JH), ∀ r9, k r9 = some (some (.int (j_b r9)), (g, d)) := ⟨_, fun _ => rfl⟩
  refine J_eqo (hk (f_X3_mayHangSo (d.1 a) pq0)).symm ?_
  unfold f_X3_mayHangSo
  refine J_iload_n (pc := 0) 1 dX3_mayHangSo_0 rfl rfl ?_
  refine JC_pt_i (J_callS (mi := mi_X3_mayHangSo) (mj := mi_X10_isWay) (pc := 1) dX3_mayHangSo_1 ml_X3_129 ok_X10_isWay os_X10_isWay ⟨Nat.le_of_ble_eq_true rfl, Nat.le_of_ble_eq_true rfl⟩ rfl (s_X10_isWay g d pq0) rfl (Nat.le_of_ble_eq_true rfl)) ?_
  refine K_ifeq_b (K := k) (pc := 4) (tgt := 33) dX3_mayHangSo_4 (by decide) (fun z4 => ?_) (fun z4 => ?_)
  · refine J_iconst (pc := 33) (v := 0) dX3_mayHangSo_33 (by decide) ?_
    exact J_eqo (hk false) (J_zretB (pc := 34) dX3_mayHangSo_34 rfl)
  · refine J_iload_n (pc := 7) 1 dX3_mayHangSo_7 rfl rfl ?_
    refine J_aload_n (pc := 8) 0 dX3_mayHangSo_8 rfl rfl ?_
    refine J_getI (pc := 9) dX3_mayHangSo_9 fl_X3_62 (ha.lt 0 (by decide)) (ha.ty 0 rfl) rfl ?_
    refine J_ixor (pc := 12) dX3_mayHangSo_12 ?_
    refine J_aload_n (pc := 13) 0 dX3_mayHangSo_13 rfl rfl ?_
    refine J_getI (pc := 14) dX3_mayHangSo_14 fl_X3_65 (ha.lt 0 (by decide)) (ha.ty 0 rfl) rfl ?_
    refine J_iand (pc := 17) dX3_mayHangSo_17 ?_
    refine K_if_ne (K := k) (pc := 18) (tgt := 33) dX3_mayHangSo_18 (by decide) (fun z18 => ?_) (fun z18 => ?_)
    · refine J_iconst (pc := 33) (v := 0) dX3_mayHangSo_33 (by decide) ?_
      exact J_eqo (hk false) (J_zretB (pc := 34) dX3_mayHangSo_34 rfl)
    · refine J_aload_n (pc := 21) 0 dX3_mayHangSo_21 rfl rfl ?_
      refine J_iload_n (pc := 22) 1 dX3_mayHangSo_22 rfl rfl ?_
      refine JC_pt_i (J_callV (mi := mi_X3_mayHangSo) (mj := mi_X3_hooksLying) (pc := 23) dX3_mayHangSo_23 ml_X3_133 ok_X3_hooksLying ov_X3_hooksLying ⟨Nat.le_of_ble_eq_true rfl, Nat.le_of_ble_eq_true rfl⟩ rfl (ha.lt 0 (by decide)) (ha.ty 0 rfl) rfl (s_X3_hooksLying g d a pq0 ha) rfl (Nat.le_of_ble_eq_true rfl)) ?_
      refine K_if_lt (K := k) (pc := 26) (tgt := 33) dX3_mayHangSo_26 (by decide) (fun z26 => ?_) (fun z26 => ?_)
      · refine J_iconst (pc := 33) (v := 0) dX3_mayHangSo_33 (by decide) ?_
        exact J_eqo (hk false) (J_zretB (pc := 34) dX3_mayHangSo_34 rfl)
      · refine J_iconst (pc := 29) (v := 1) dX3_mayHangSo_29 (by decide) ?_
        refine J_goto (pc := 30) (tgt := 34) dX3_mayHangSo_30 (by decide) ?_
        exact J_eqo (hk true) (J_zretB (pc := 34) dX3_mayHangSo_34 rfl)
def f_X3_someoneGains_j58_19 (r_a0 : Nat → Int32) (r_a7 : Nat → Int32) (r_a8 : Nat → Int32) (c1_19 : Int32) (c2_19 : Int32) (c4_19 : Int32) (c5_19 : Int32) (i19 : Int32) : Bool ⊕ (Unit) := (.inr ())
def f_X3_someoneGains_b19 (r_a0 : Nat → Int32) (r_a7 : Nat → Int32) (r_a8 : Nat → Int32) (c1_19 : Int32) (c2_19 : Int32) (c4_19 : Int32) (c5_19 : Int32) (i19 : Int32) (s19 : Unit) : Bool ⊕ (Unit) := (if (f_X11_hasBit (c4_19) i19) = true then (if (f_X3_shareIn r_a7 r_a8 (c5_19) (c2_19) i19) ≤ (f_X3_portionIn r_a8 (c1_19) (c2_19)) then f_X3_someoneGains_j58_19 r_a0 r_a7 r_a8 (c1_19) (c2_19) (c4_19) (c5_19) i19 else (Sum.inl true)) else f_X3_someoneGains_j58_19 r_a0 r_a7 r_a8 (c1_19) (c2_19) (c4_19) (c5_19) i19 )
def f_X3_someoneGains (r_a0 : Nat → Int32) (r_a7 : Nat → Int32) (r_a8 : Nat → Int32) (pq0 : Int32) (pq1 : Int32) (pq2 : Int32) : Bool := (j_let (j_fo (r_a0 2) (f_X3_someoneGains_b19 r_a0 r_a7 r_a8 pq0 pq1 (f_X3_ownersIn r_a7 pq0 pq1) (f_X10_with pq0 pq1 pq2) ) (j_mu (r_a0 2) 0) 0 ()) (Sum.elim (fun r9 => r9) (fun (s19 : Unit) => (false))))
set_option maxRecDepth 100000 in
set_option maxHeartbeats 4000000 in
theorem s_X3_someoneGains (g : JG) (d : JD) (a : Nat) (pq0 : Int32) (pq1 : Int32) (pq2 : Int32) (ha : j_sh g a TS_CL RS_CL) : JM mi_X3_someoneGains 0 0 (g, d) [.ref a, .int pq0, .int pq1, .int pq2] (some (some (.int (j_b (f_X3_someoneGains (d.1 a) (d.1 (a + 7)) (d.1 (a + 8)) pq0 pq1 pq2))), (g, d))) := by
  refine JM_of (by decide) rfl (Nat.le_of_ble_eq_true rfl) ?_
  refine J_loc (loc' := [(0, .ref a), (1, .int pq0), (2, .int pq1), (3, .int pq2)]) [0, 1, 2, 3] rfl ?_
  obtain ⟨k, hk⟩ : ∃ k : Bool → Option (Option Value × JH), ∀ r9, k r9 = some (some (.int (j_b r9)), (g, d)) := ⟨_, fun _ => rfl⟩
  refine J_eqo (hk (f_X3_someoneGains (d.1 a) (d.1 (a + 7)) (d.1 (a + 8)) pq0 pq1 pq2)).symm ?_
  unfold f_X3_someoneGains
  refine J_aload_n (pc := 0) 0 dX3_someoneGains_0 rfl rfl ?_
  refine J_iload_n (pc := 1) 1 dX3_someoneGains_1 rfl rfl ?_
  refine J_iload_n (pc := 2) 2 dX3_someoneGains_2 rfl rfl ?_
  refine JC_pt_i (J_callV (mi := mi_X3_someoneGains) (mj := mi_X3_ownersIn) (pc := 3) dX3_someoneGains_3 ml_X3_112 ok_X3_ownersIn ov_X3_ownersIn ⟨Nat.le_of_ble_eq_true rfl, Nat.le_of_ble_eq_true rfl⟩ rfl (ha.lt 0 (by decide)) (ha.ty 0 rfl) rfl (s_X3_ownersIn g d a pq0 pq1 ha) rfl (Nat.le_of_ble_eq_true rfl)) ?_
  refine J_istore (pc := 6) (loc' := [(4, .int (f_X3_ownersIn (d.1 (a + 7)) pq0 pq1)), (0, .ref a), (1, .int pq0), (2, .int pq1), (3, .int pq2)]) dX3_someoneGains_6 (by decide) rfl ?_
  refine J_iload_n (pc := 8) 2 dX3_someoneGains_8 rfl rfl ?_
  refine J_iload_n (pc := 9) 3 dX3_someoneGains_9 rfl rfl ?_
  refine J_iload_n (pc := 10) 4 dX3_someoneGains_10 rfl rfl ?_
  refine JC_pt_i (J_callS (mi := mi_X3_someoneGains) (mj := mi_X10_with) (pc := 11) dX3_someoneGains_11 ml_X3_75 ok_X10_with os_X10_with ⟨Nat.le_of_ble_eq_true rfl, Nat.le_of_ble_eq_true rfl⟩ rfl (s_X10_with g d pq0 pq1 pq2) rfl (Nat.le_of_ble_eq_true rfl)) ?_
  refine J_istore (pc := 14) (loc' := [(5, .int (f_X10_with pq0 pq1 pq2)), (4, .int (f_X3_ownersIn (d.1 (a + 7)) pq0 pq1)), (0, .ref a), (1, .int pq0), (2, .int pq1), (3, .int pq2)]) dX3_someoneGains_14 (by decide) rfl ?_
  refine J_iconst (pc := 16) (v := 0) dX3_someoneGains_16 (by decide) ?_
  refine J_istore (pc := 17) (loc' := [(6, .int 0), (5, .int (f_X10_with pq0 pq1 pq2)), (4, .int (f_X3_ownersIn (d.1 (a + 7)) pq0 pq1)), (0, .ref a), (1, .int pq0), (2, .int pq1), (3, .int pq2)]) dX3_someoneGains_17 (by decide) rfl ?_
  refine J_loc (loc' := [(0, .ref a), (1, .int pq0), (2, .int pq1), (4, .int (f_X3_ownersIn (d.1 (a + 7)) pq0 pq1)), (5, .int (f_X10_with pq0 pq1 pq2)), (6, .int 0)]) [3, 4, 5, 2, 1, 0] rfl ?_
  refine J_foL (K := k) (fr := fun r9 => r9) (b := (d.1 a) 2) (G := f_X3_someoneGains_b19 (d.1 a) (d.1 (a + 7)) (d.1 (a + 8)) pq0 pq1 (f_X3_ownersIn (d.1 (a + 7)) pq0 pq1) (f_X10_with pq0 pq1 pq2) ) (hp := fun (s19 : Unit) => (g, d)) (lc := fun (i19 : Int32) (s19 : Unit) => [(0, .ref a), (1, .int (pq0)), (2, .int (pq1)), (4, .int ((f_X3_ownersIn (d.1 (a + 7)) pq0 pq1))), (5, .int ((f_X10_with pq0 pq1 pq2))), (6, .int i19)]) (XJ := fun (i19 : Int32) (s19 : Unit) o9 => J mi_X3_someoneGains 0 0 0 0 (g, d) 64 [] [] o9) (RJ := fun r9 o9 => o9 = some (some (.int (j_b r9)), (g, d))) (fun i19 s19 o19 Kb19 hX19 hR19 hB19 => ?_) (fun i19 s19 => ?_) (fun r9 => hk r9) _ _ () (Nat.le_refl _)
  · show J mi_X3_someoneGains 0 0 0 0 (g, d) 19 [(0, .ref a), (1, .int (pq0)), (2, .int (pq1)), (4, .int ((f_X3_ownersIn (d.1 (a + 7)) pq0 pq1))), (5, .int ((f_X10_with pq0 pq1 pq2))), (6, .int i19)] [] (if ((d.1 a) 2) ≤ i19 then o19 else Kb19 (f_X3_someoneGains_b19 (d.1 a) (d.1 (a + 7)) (d.1 (a + 8)) pq0 pq1 (f_X3_ownersIn (d.1 (a + 7)) pq0 pq1) (f_X10_with pq0 pq1 pq2) i19 s19))
    refine J_iload (pc := 19) 5 dX3_someoneGains_19 rfl ?_
    refine J_aload_n (pc := 21) 0 dX3_someoneGains_21 rfl rfl ?_
    refine J_getI (pc := 22) dX3_someoneGains_22 fl_X3_50 (ha.lt 0 (by decide)) (ha.ty 0 rfl) rfl ?_
    refine J_icmp_ge (pc := 25) (tgt := 64) dX3_someoneGains_25 (by decide) (fun z19 => ?_) (fun z19 => ?_)
    · refine J_loc (loc' := []) [] rfl ?_
      exact hX19 z19
    · unfold f_X3_someoneGains_b19
      have hX3_someoneGains_j58_19 : J mi_X3_someoneGains 0 0 0 0 (g, d) 58 [(0, .ref a), (1, .int (pq0)), (2, .int (pq1)), (4, .int ((f_X3_ownersIn (d.1 (a + 7)) pq0 pq1))), (5, .int ((f_X10_with pq0 pq1 pq2))), (6, .int i19)] [] (Kb19 (f_X3_someoneGains_j58_19 (d.1 a) (d.1 (a + 7)) (d.1 (a + 8)) pq0 pq1 (f_X3_ownersIn (d.1 (a + 7)) pq0 pq1) (f_X10_with pq0 pq1 pq2) i19 )) := by
        unfold f_X3_someoneGains_j58_19
        refine J_iinc (pc := 58) (v := i19 + 1) (loc' := [(6, .int (i19 + 1)), (0, .ref a), (1, .int (pq0)), (2, .int (pq1)), (4, .int ((f_X3_ownersIn (d.1 (a + 7)) pq0 pq1))), (5, .int ((f_X10_with pq0 pq1 pq2)))]) 5 dX3_someoneGains_58 rfl rfl (by decide) rfl ?_
        refine J_goto (pc := 61) (tgt := 19) dX3_someoneGains_61 (by decide) ?_
        refine J_loc (loc' := [(0, .ref a), (1, .int (pq0)), (2, .int (pq1)), (4, .int ((f_X3_ownersIn (d.1 (a + 7)) pq0 pq1))), (5, .int ((f_X10_with pq0 pq1 pq2))), (6, .int (i19 + 1))]) [1, 2, 3, 4, 5, 0] rfl ?_
        exact hB19 z19 ()
      refine J_iload (pc := 28) 3 dX3_someoneGains_28 rfl ?_
      refine J_iload (pc := 30) 5 dX3_someoneGains_30 rfl ?_
      refine JC_pt_i (J_callS (mi := mi_X3_someoneGains) (mj := mi_X11_hasBit) (pc := 32) dX3_someoneGains_32 ml_X3_102 ok_X11_hasBit os_X11_hasBit ⟨Nat.le_of_ble_eq_true rfl, Nat.le_of_ble_eq_true rfl⟩ rfl (s_X11_hasBit g d (f_X3_ownersIn (d.1 (a + 7)) pq0 pq1) i19) rfl (Nat.le_of_ble_eq_true rfl)) ?_
      refine K_ifeq_b (K := Kb19) (pc := 35) (tgt := 58) dX3_someoneGains_35 (by decide) (fun z35 => ?_) (fun z35 => ?_)
      · exact hX3_someoneGains_j58_19 
      · refine J_aload_n (pc := 38) 0 dX3_someoneGains_38 rfl rfl ?_
        refine J_iload (pc := 39) 4 dX3_someoneGains_39 rfl ?_
        refine J_iload_n (pc := 41) 2 dX3_someoneGains_41 rfl rfl ?_
        refine J_iload (pc := 42) 5 dX3_someoneGains_42 rfl ?_
        refine JC_pt_i (J_callV (mi := mi_X3_someoneGains) (mj := mi_X3_shareIn) (pc := 44) dX3_someoneGains_44 ml_X3_106 ok_X3_shareIn ov_X3_shareIn ⟨Nat.le_of_ble_eq_true rfl, Nat.le_of_ble_eq_true rfl⟩ rfl (ha.lt 0 (by decide)) (ha.ty 0 rfl) rfl (s_X3_shareIn g d a (f_X10_with pq0 pq1 pq2) pq1 i19 ha) rfl (Nat.le_of_ble_eq_true rfl)) ?_
        refine J_aload_n (pc := 47) 0 dX3_someoneGains_47 rfl rfl ?_
        refine J_iload_n (pc := 48) 1 dX3_someoneGains_48 rfl rfl ?_
        refine J_iload_n (pc := 49) 2 dX3_someoneGains_49 rfl rfl ?_
        refine JC_pt_i (J_callV (mi := mi_X3_someoneGains) (mj := mi_X3_portionIn) (pc := 50) dX3_someoneGains_50 ml_X3_115 ok_X3_portionIn ov_X3_portionIn ⟨Nat.le_of_ble_eq_true rfl, Nat.le_of_ble_eq_true rfl⟩ rfl (ha.lt 0 (by decide)) (ha.ty 0 rfl) rfl (s_X3_portionIn g d a pq0 pq1 ha) rfl (Nat.le_of_ble_eq_true rfl)) ?_
        refine K_icmp_le (K := Kb19) (pc := 53) (tgt := 58) dX3_someoneGains_53 (by decide) (fun z53 => ?_) (fun z53 => ?_)
        · exact hX3_someoneGains_j58_19 
        · refine J_iconst (pc := 56) (v := 1) dX3_someoneGains_56 (by decide) ?_
          exact J_eqo (hR19 true) (J_zretB (pc := 57) dX3_someoneGains_57 rfl)
  · show J mi_X3_someoneGains 0 0 0 0 (g, d) 64 [] [] (_)
    refine J_iconst (pc := 64) (v := 0) dX3_someoneGains_64 (by decide) ?_
    exact J_eqo (hk false) (J_zretB (pc := 65) dX3_someoneGains_65 rfl)
def f_X3_isStillWay_j53_2 (r_a0 : Nat → Int32) (r_a7 : Nat → Int32) (r_a8 : Nat → Int32) (c1_2 : Int32) (i2 : Int32) : Bool ⊕ (Unit) := (.inr ())
def f_X3_isStillWay_b2 (r_a0 : Nat → Int32) (r_a7 : Nat → Int32) (r_a8 : Nat → Int32) (c1_2 : Int32) (i2 : Int32) (s2 : Unit) : Bool ⊕ (Unit) := (if (f_X10_hungAt (c1_2) i2) = 0 then f_X3_isStillWay_j53_2 r_a0 r_a7 r_a8 (c1_2) i2 else (if (f_X3_isGuarded r_a0 i2) = true then f_X3_isStillWay_j53_2 r_a0 r_a7 r_a8 (c1_2) i2 else (if (f_X3_someoneGains r_a0 r_a7 r_a8 (c1_2) i2 0) = true then (Sum.inl false) else (if (f_X3_someoneGains r_a0 r_a7 r_a8 (c1_2) i2 (f_X3_turned (f_X10_hungAt (c1_2) i2))) = true then (Sum.inl false) else f_X3_isStillWay_j53_2 r_a0 r_a7 r_a8 (c1_2) i2 ))))
def f_X3_isStillWay (r_a0 : Nat → Int32) (r_a7 : Nat → Int32) (r_a8 : Nat → Int32) (pq0 : Int32) : Bool := (j_let (j_fo (r_a0 4) (f_X3_isStillWay_b2 r_a0 r_a7 r_a8 pq0 ) (j_mu (r_a0 4) 0) 0 ()) (Sum.elim (fun r9 => r9) (fun (s2 : Unit) => (true))))
set_option maxRecDepth 100000 in
set_option maxHeartbeats 4000000 in
theorem s_X3_isStillWay (g : JG) (d : JD) (a : Nat) (pq0 : Int32) (ha : j_sh g a TS_CL RS_CL) : JM mi_X3_isStillWay 0 0 (g, d) [.ref a, .int pq0] (some (some (.int (j_b (f_X3_isStillWay (d.1 a) (d.1 (a + 7)) (d.1 (a + 8)) pq0))), (g, d))) := by
  refine JM_of (by decide) rfl (Nat.le_of_ble_eq_true rfl) ?_
  refine J_loc (loc' := [(0, .ref a), (1, .int pq0)]) [0, 1] rfl ?_
  obtain ⟨k, hk⟩ : ∃ k : Bool → Option (Option Value × JH), ∀ r9, k r9 = some (some (.int (j_b r9)), (g, d)) := ⟨_, fun _ => rfl⟩
  refine J_eqo (hk (f_X3_isStillWay (d.1 a) (d.1 (a + 7)) (d.1 (a + 8)) pq0)).symm ?_
  unfold f_X3_isStillWay
  refine J_iconst (pc := 0) (v := 0) dX3_isStillWay_0 (by decide) ?_
  refine J_istore_n (pc := 1) (loc' := [(2, .int 0), (0, .ref a), (1, .int pq0)]) dX3_isStillWay_1 rfl (by decide) rfl ?_
  refine J_loc (loc' := [(0, .ref a), (1, .int pq0), (2, .int 0)]) [1, 2, 0] rfl ?_
  refine J_foL (K := k) (fr := fun r9 => r9) (b := (d.1 a) 4) (G := f_X3_isStillWay_b2 (d.1 a) (d.1 (a + 7)) (d.1 (a + 8)) pq0 ) (hp := fun (s2 : Unit) => (g, d)) (lc := fun (i2 : Int32) (s2 : Unit) => [(0, .ref a), (1, .int (pq0)), (2, .int i2)]) (XJ := fun (i2 : Int32) (s2 : Unit) o9 => J mi_X3_isStillWay 0 0 0 0 (g, d) 59 [] [] o9) (RJ := fun r9 o9 => o9 = some (some (.int (j_b r9)), (g, d))) (fun i2 s2 o2 Kb2 hX2 hR2 hB2 => ?_) (fun i2 s2 => ?_) (fun r9 => hk r9) _ _ () (Nat.le_refl _)
  · show J mi_X3_isStillWay 0 0 0 0 (g, d) 2 [(0, .ref a), (1, .int (pq0)), (2, .int i2)] [] (if ((d.1 a) 4) ≤ i2 then o2 else Kb2 (f_X3_isStillWay_b2 (d.1 a) (d.1 (a + 7)) (d.1 (a + 8)) pq0 i2 s2))
    refine J_iload_n (pc := 2) 2 dX3_isStillWay_2 rfl rfl ?_
    refine J_aload_n (pc := 3) 0 dX3_isStillWay_3 rfl rfl ?_
    refine J_getI (pc := 4) dX3_isStillWay_4 fl_X3_56 (ha.lt 0 (by decide)) (ha.ty 0 rfl) rfl ?_
    refine J_icmp_ge (pc := 7) (tgt := 59) dX3_isStillWay_7 (by decide) (fun z2 => ?_) (fun z2 => ?_)
    · refine J_loc (loc' := []) [] rfl ?_
      exact hX2 z2
    · unfold f_X3_isStillWay_b2
      have hX3_isStillWay_j53_2 : J mi_X3_isStillWay 0 0 0 0 (g, d) 53 [(0, .ref a), (1, .int (pq0)), (2, .int i2)] [] (Kb2 (f_X3_isStillWay_j53_2 (d.1 a) (d.1 (a + 7)) (d.1 (a + 8)) pq0 i2 )) := by
        unfold f_X3_isStillWay_j53_2
        refine J_iinc (pc := 53) (v := i2 + 1) (loc' := [(2, .int (i2 + 1)), (0, .ref a), (1, .int (pq0))]) 2 dX3_isStillWay_53 rfl rfl (by decide) rfl ?_
        refine J_goto (pc := 56) (tgt := 2) dX3_isStillWay_56 (by decide) ?_
        refine J_loc (loc' := [(0, .ref a), (1, .int (pq0)), (2, .int (i2 + 1))]) [1, 2, 0] rfl ?_
        exact hB2 z2 ()
      refine J_iload_n (pc := 10) 1 dX3_isStillWay_10 rfl rfl ?_
      refine J_iload_n (pc := 11) 2 dX3_isStillWay_11 rfl rfl ?_
      refine JC_pt_i (J_callS (mi := mi_X3_isStillWay) (mj := mi_X10_hungAt) (pc := 12) dX3_isStillWay_12 ml_X3_98 ok_X10_hungAt os_X10_hungAt ⟨Nat.le_of_ble_eq_true rfl, Nat.le_of_ble_eq_true rfl⟩ rfl (s_X10_hungAt g d pq0 i2) rfl (Nat.le_of_ble_eq_true rfl)) ?_
      refine J_istore_n (pc := 15) (loc' := [(3, .int (f_X10_hungAt (pq0) i2)), (0, .ref a), (1, .int (pq0)), (2, .int i2)]) dX3_isStillWay_15 rfl (by decide) rfl ?_
      refine J_iload_n (pc := 16) 0 dX3_isStillWay_16 rfl rfl ?_
      refine K_if_eq (K := Kb2) (pc := 17) (tgt := 53) dX3_isStillWay_17 (by decide) (fun z17 => ?_) (fun z17 => ?_)
      · refine J_loc (loc' := [(0, .ref a), (1, .int (pq0)), (2, .int i2)]) [1, 2, 3] rfl ?_
        exact hX3_isStillWay_j53_2 
      · refine J_aload_n (pc := 20) 1 dX3_isStillWay_20 rfl rfl ?_
        refine J_iload_n (pc := 21) 3 dX3_isStillWay_21 rfl rfl ?_
        refine JC_pt_i (J_callV (mi := mi_X3_isStillWay) (mj := mi_X3_isGuarded) (pc := 22) dX3_isStillWay_22 ml_X3_136 ok_X3_isGuarded ov_X3_isGuarded ⟨Nat.le_of_ble_eq_true rfl, Nat.le_of_ble_eq_true rfl⟩ rfl (ha.lt 0 (by decide)) (ha.ty 0 rfl) rfl (s_X3_isGuarded g d a i2 ha) rfl (Nat.le_of_ble_eq_true rfl)) ?_
        refine K_ifne_b (K := Kb2) (pc := 25) (tgt := 53) dX3_isStillWay_25 (by decide) (fun z25 => ?_) (fun z25 => ?_)
        · refine J_loc (loc' := [(0, .ref a), (1, .int (pq0)), (2, .int i2)]) [1, 2, 3] rfl ?_
          exact hX3_isStillWay_j53_2 
        · refine J_aload_n (pc := 28) 1 dX3_isStillWay_28 rfl rfl ?_
          refine J_iload_n (pc := 29) 2 dX3_isStillWay_29 rfl rfl ?_
          refine J_iload_n (pc := 30) 3 dX3_isStillWay_30 rfl rfl ?_
          refine J_iconst (pc := 31) (v := 0) dX3_isStillWay_31 (by decide) ?_
          refine JC_pt_i (J_callV (mi := mi_X3_isStillWay) (mj := mi_X3_someoneGains) (pc := 32) dX3_isStillWay_32 ml_X3_142 ok_X3_someoneGains ov_X3_someoneGains ⟨Nat.le_of_ble_eq_true rfl, Nat.le_of_ble_eq_true rfl⟩ rfl (ha.lt 0 (by decide)) (ha.ty 0 rfl) rfl (s_X3_someoneGains g d a pq0 i2 0 ha) rfl (Nat.le_of_ble_eq_true rfl)) ?_
          refine K_ifne_b (K := Kb2) (pc := 35) (tgt := 51) dX3_isStillWay_35 (by decide) (fun z35 => ?_) (fun z35 => ?_)
          · refine J_iconst (pc := 51) (v := 0) dX3_isStillWay_51 (by decide) ?_
            exact J_eqo (hR2 false) (J_zretB (pc := 52) dX3_isStillWay_52 rfl)
          · refine J_aload_n (pc := 38) 1 dX3_isStillWay_38 rfl rfl ?_
            refine J_iload_n (pc := 39) 2 dX3_isStillWay_39 rfl rfl ?_
            refine J_iload_n (pc := 40) 3 dX3_isStillWay_40 rfl rfl ?_
            refine J_iload_n (pc := 41) 0 dX3_isStillWay_41 rfl rfl ?_
            refine JC_pt_i (J_callS (mi := mi_X3_isStillWay) (mj := mi_X3_turned) (pc := 42) dX3_isStillWay_42 ml_X3_139 ok_X3_turned os_X3_turned ⟨Nat.le_of_ble_eq_true rfl, Nat.le_of_ble_eq_true rfl⟩ rfl (s_X3_turned g d (f_X10_hungAt (pq0) i2)) rfl (Nat.le_of_ble_eq_true rfl)) ?_
            refine JC_pt_i (J_callV (mi := mi_X3_isStillWay) (mj := mi_X3_someoneGains) (pc := 45) dX3_isStillWay_45 ml_X3_142 ok_X3_someoneGains ov_X3_someoneGains ⟨Nat.le_of_ble_eq_true rfl, Nat.le_of_ble_eq_true rfl⟩ rfl (ha.lt 0 (by decide)) (ha.ty 0 rfl) rfl (s_X3_someoneGains g d a pq0 i2 (f_X3_turned (f_X10_hungAt (pq0) i2)) ha) rfl (Nat.le_of_ble_eq_true rfl)) ?_
            refine K_ifeq_b (K := Kb2) (pc := 48) (tgt := 53) dX3_isStillWay_48 (by decide) (fun z48 => ?_) (fun z48 => ?_)
            · refine J_loc (loc' := [(0, .ref a), (1, .int (pq0)), (2, .int i2)]) [1, 2, 3] rfl ?_
              exact hX3_isStillWay_j53_2 
            · refine J_iconst (pc := 51) (v := 0) dX3_isStillWay_51 (by decide) ?_
              exact J_eqo (hR2 false) (J_zretB (pc := 52) dX3_isStillWay_52 rfl)
  · show J mi_X3_isStillWay 0 0 0 0 (g, d) 59 [] [] (_)
    refine J_iconst (pc := 59) (v := 1) dX3_isStillWay_59 (by decide) ?_
    exact J_eqo (hk true) (J_zretB (pc := 60) dX3_isStillWay_60 rfl)
def f_X3_fallingIn (r_a0 : Nat → Int32) (r_a3 : Nat → Int32) (pq0 : Int32) (pq1 : Int32) : Int32 := (if (f_X3_isGuarded r_a0 pq1) = true then (0) else (if (f_X10_hungAt pq0 pq1) = 0 then (0) else (if (f_X11_at r_a3 6 pq1) = 3 then (if ((2 : Int32) * (r_a0 1)) < 100 then (2 : Int32) * (r_a0 1) else 100) else (r_a0 1))))
set_option maxRecDepth 100000 in
set_option maxHeartbeats 4000000 in
theorem s_X3_fallingIn (g : JG) (d : JD) (a : Nat) (pq0 : Int32) (pq1 : Int32) (ha : j_sh g a TS_CL RS_CL) : JM mi_X3_fallingIn 0 0 (g, d) [.ref a, .int pq0, .int pq1] (some (some (.int (f_X3_fallingIn (d.1 a) (d.1 (a + 3)) pq0 pq1)), (g, d))) := by
  refine JM_of (by decide) rfl (Nat.le_of_ble_eq_true rfl) ?_
  refine J_loc (loc' := [(0, .ref a), (1, .int pq0), (2, .int pq1)]) [0, 1, 2] rfl ?_
  obtain ⟨k, hk⟩ : ∃ k : Int32 → Option (Option Value × JH), ∀ r9, k r9 = some (some (.int r9), (g, d)) := ⟨_, fun _ => rfl⟩
  refine J_eqo (hk (f_X3_fallingIn (d.1 a) (d.1 (a + 3)) pq0 pq1)).symm ?_
  unfold f_X3_fallingIn
  refine J_aload_n (pc := 0) 0 dX3_fallingIn_0 rfl rfl ?_
  refine J_iload_n (pc := 1) 2 dX3_fallingIn_1 rfl rfl ?_
  refine JC_pt_i (J_callV (mi := mi_X3_fallingIn) (mj := mi_X3_isGuarded) (pc := 2) dX3_fallingIn_2 ml_X3_136 ok_X3_isGuarded ov_X3_isGuarded ⟨Nat.le_of_ble_eq_true rfl, Nat.le_of_ble_eq_true rfl⟩ rfl (ha.lt 0 (by decide)) (ha.ty 0 rfl) rfl (s_X3_isGuarded g d a pq1 ha) rfl (Nat.le_of_ble_eq_true rfl)) ?_
  refine K_ifne_b (K := k) (pc := 5) (tgt := 16) dX3_fallingIn_5 (by decide) (fun z5 => ?_) (fun z5 => ?_)
  · refine J_iconst (pc := 16) (v := 0) dX3_fallingIn_16 (by decide) ?_
    exact J_eqo (hk 0) (J_iret (pc := 17) dX3_fallingIn_17 rfl)
  · refine J_iload_n (pc := 8) 1 dX3_fallingIn_8 rfl rfl ?_
    refine J_iload_n (pc := 9) 2 dX3_fallingIn_9 rfl rfl ?_
    refine JC_pt_i (J_callS (mi := mi_X3_fallingIn) (mj := mi_X10_hungAt) (pc := 10) dX3_fallingIn_10 ml_X3_98 ok_X10_hungAt os_X10_hungAt ⟨Nat.le_of_ble_eq_true rfl, Nat.le_of_ble_eq_true rfl⟩ rfl (s_X10_hungAt g d pq0 pq1) rfl (Nat.le_of_ble_eq_true rfl)) ?_
    refine K_if_ne (K := k) (pc := 13) (tgt := 18) dX3_fallingIn_13 (by decide) (fun z13 => ?_) (fun z13 => ?_)
    · refine J_aload_n (pc := 18) 0 dX3_fallingIn_18 rfl rfl ?_
      refine J_getR (pc := 19) dX3_fallingIn_19 fl_X3_18 (ha.lt 0 (by decide)) (ha.ty 0 rfl) rfl (ha.rf 2 rfl) ?_
      refine J_iload_n (pc := 22) 2 dX3_fallingIn_22 rfl rfl ?_
      refine JC_pt_i (J_callS (mi := mi_X3_fallingIn) (mj := mi_X11_at) (pc := 23) dX3_fallingIn_23 ml_X3_89 ok_X11_at os_X11_at ⟨Nat.le_of_ble_eq_true rfl, Nat.le_of_ble_eq_true rfl⟩ rfl (s_X11_at g d (a + 3) 6 pq1 (⟨(ha.lt 3 (by decide)), (ha.ty 3 rfl), by decide⟩)) rfl (Nat.le_of_ble_eq_true rfl)) ?_
      refine J_iconst (pc := 26) (v := 3) dX3_fallingIn_26 (by decide) ?_
      refine K_icmp_ne (K := k) (pc := 27) (tgt := 44) dX3_fallingIn_27 (by decide) (fun z27 => ?_) (fun z27 => ?_)
      · refine J_aload_n (pc := 44) 0 dX3_fallingIn_44 rfl rfl ?_
        refine J_getI (pc := 45) dX3_fallingIn_45 fl_X3_47 (ha.lt 0 (by decide)) (ha.ty 0 rfl) rfl ?_
        exact J_eqo (hk ((d.1 a) 1)) (J_iret (pc := 48) dX3_fallingIn_48 rfl)
      · refine J_bipush (pc := 30) (v := 100) dX3_fallingIn_30 (by decide) ?_
        refine J_iconst (pc := 32) (v := 2) dX3_fallingIn_32 (by decide) ?_
        refine J_aload_n (pc := 33) 0 dX3_fallingIn_33 rfl rfl ?_
        refine J_getI (pc := 34) dX3_fallingIn_34 fl_X3_47 (ha.lt 0 (by decide)) (ha.ty 0 rfl) rfl ?_
        refine J_imul (pc := 37) dX3_fallingIn_37 ?_
        refine J_mmin (pc := 38) dX3_fallingIn_38 mm_X3_121 (Nat.le_of_ble_eq_true rfl) (Nat.le_of_ble_eq_true rfl) ?_
        refine J_goto (pc := 41) (tgt := 48) dX3_fallingIn_41 (by decide) ?_
        exact J_eqo (hk (if ((2 : Int32) * ((d.1 a) 1)) < 100 then (2 : Int32) * ((d.1 a) 1) else 100)) (J_iret (pc := 48) dX3_fallingIn_48 rfl)
    · refine J_iconst (pc := 16) (v := 0) dX3_fallingIn_16 (by decide) ?_
      exact J_eqo (hk 0) (J_iret (pc := 17) dX3_fallingIn_17 rfl)
def f_X3_widened_j31_4 (r_a0 : Nat → Int32) (r_a6 : Nat → Int32) (c1_4 : Int32) (i4 : Int32) (x2_31_4 : Int32) : Int32 := (x2_31_4)
def f_X3_widened_b4 (r_a0 : Nat → Int32) (r_a6 : Nat → Int32) (c1_4 : Int32) (i4 : Int32) (s4 : Int32) : Int32 := (if (f_X11_hasBit (c1_4) i4) = true then (f_X3_widened_j31_4 r_a0 r_a6 (c1_4) i4 (s4 ||| (f_X11_at r_a6 6 i4))) else f_X3_widened_j31_4 r_a0 r_a6 (c1_4) i4 s4)
def f_X3_widened (r_a0 : Nat → Int32) (r_a6 : Nat → Int32) (pq0 : Int32) : Int32 := (j_let (j_for (r_a0 4) (f_X3_widened_b4 r_a0 r_a6 pq0 ) (j_mu (r_a0 4) 0) 0 pq0) (fun (s4 : Int32) => (s4)))
set_option maxRecDepth 100000 in
set_option maxHeartbeats 4000000 in
theorem s_X3_widened (g : JG) (d : JD) (a : Nat) (pq0 : Int32) (ha : j_sh g a TS_CL RS_CL) : JM mi_X3_widened 0 0 (g, d) [.ref a, .int pq0] (some (some (.int (f_X3_widened (d.1 a) (d.1 (a + 6)) pq0)), (g, d))) := by
  refine JM_of (by decide) rfl (Nat.le_of_ble_eq_true rfl) ?_
  refine J_loc (loc' := [(0, .ref a), (1, .int pq0)]) [0, 1] rfl ?_
  obtain ⟨k, hk⟩ : ∃ k : Int32 → Option (Option Value × JH), ∀ r9, k r9 = some (some (.int r9), (g, d)) := ⟨_, fun _ => rfl⟩
  refine J_eqo (hk (f_X3_widened (d.1 a) (d.1 (a + 6)) pq0)).symm ?_
  unfold f_X3_widened
  refine J_iload_n (pc := 0) 1 dX3_widened_0 rfl rfl ?_
  refine J_istore_n (pc := 1) (loc' := [(2, .int pq0), (0, .ref a), (1, .int pq0)]) dX3_widened_1 rfl (by decide) rfl ?_
  refine J_iconst (pc := 2) (v := 0) dX3_widened_2 (by decide) ?_
  refine J_istore_n (pc := 3) (loc' := [(3, .int 0), (2, .int pq0), (0, .ref a), (1, .int pq0)]) dX3_widened_3 rfl (by decide) rfl ?_
  refine J_loc (loc' := [(0, .ref a), (1, .int pq0), (2, .int pq0), (3, .int 0)]) [2, 3, 1, 0] rfl ?_
  refine J_forL (K := k) (b := (d.1 a) 4) (G := f_X3_widened_b4 (d.1 a) (d.1 (a + 6)) pq0 ) (hp := fun (s4 : Int32) => (g, d)) (lc := fun (i4 : Int32) (s4 : Int32) => [(0, .ref a), (1, .int (pq0)), (2, .int s4), (3, .int i4)]) (XJ := fun (i4 : Int32) (s4 : Int32) o9 => J mi_X3_widened 0 0 0 0 (g, d) 37 [(2, .int s4)] [] o9) (fun i4 s4 o4 Kb4 hX4 hB4 => ?_) (fun i4 s4 => ?_) _ _ pq0 (Nat.le_refl _)
  · show J mi_X3_widened 0 0 0 0 (g, d) 4 [(0, .ref a), (1, .int (pq0)), (2, .int s4), (3, .int i4)] [] (if ((d.1 a) 4) ≤ i4 then o4 else Kb4 (f_X3_widened_b4 (d.1 a) (d.1 (a + 6)) pq0 i4 s4))
    refine J_iload_n (pc := 4) 3 dX3_widened_4 rfl rfl ?_
    refine J_aload_n (pc := 5) 0 dX3_widened_5 rfl rfl ?_
    refine J_getI (pc := 6) dX3_widened_6 fl_X3_56 (ha.lt 0 (by decide)) (ha.ty 0 rfl) rfl ?_
    refine J_icmp_ge (pc := 9) (tgt := 37) dX3_widened_9 (by decide) (fun z4 => ?_) (fun z4 => ?_)
    · refine J_loc (loc' := [(2, .int s4)]) [2] rfl ?_
      exact hX4 z4
    · unfold f_X3_widened_b4
      have hX3_widened_j31_4 : ∀ (x2_31_4 : Int32), J mi_X3_widened 0 0 0 0 (g, d) 31 [(0, .ref a), (1, .int (pq0)), (2, .int x2_31_4), (3, .int i4)] [] (Kb4 (f_X3_widened_j31_4 (d.1 a) (d.1 (a + 6)) pq0 i4 x2_31_4)) := by
        intro x2_31_4
        unfold f_X3_widened_j31_4
        refine J_iinc (pc := 31) (v := i4 + 1) (loc' := [(3, .int (i4 + 1)), (0, .ref a), (1, .int (pq0)), (2, .int x2_31_4)]) 3 dX3_widened_31 rfl rfl (by decide) rfl ?_
        refine J_goto (pc := 34) (tgt := 4) dX3_widened_34 (by decide) ?_
        refine J_loc (loc' := [(0, .ref a), (1, .int (pq0)), (2, .int x2_31_4), (3, .int (i4 + 1))]) [1, 2, 3, 0] rfl ?_
        exact hB4 z4 x2_31_4
      refine J_iload_n (pc := 12) 1 dX3_widened_12 rfl rfl ?_
      refine J_iload_n (pc := 13) 3 dX3_widened_13 rfl rfl ?_
      refine JC_pt_i (J_callS (mi := mi_X3_widened) (mj := mi_X11_hasBit) (pc := 14) dX3_widened_14 ml_X3_102 ok_X11_hasBit os_X11_hasBit ⟨Nat.le_of_ble_eq_true rfl, Nat.le_of_ble_eq_true rfl⟩ rfl (s_X11_hasBit g d pq0 i4) rfl (Nat.le_of_ble_eq_true rfl)) ?_
      refine K_ifeq_b (K := Kb4) (pc := 17) (tgt := 31) dX3_widened_17 (by decide) (fun z17 => ?_) (fun z17 => ?_)
      · exact hX3_widened_j31_4 s4
      · refine J_iload_n (pc := 20) 2 dX3_widened_20 rfl rfl ?_
        refine J_aload_n (pc := 21) 0 dX3_widened_21 rfl rfl ?_
        refine J_getR (pc := 22) dX3_widened_22 fl_X3_27 (ha.lt 0 (by decide)) (ha.ty 0 rfl) rfl (ha.rf 5 rfl) ?_
        refine J_iload_n (pc := 25) 3 dX3_widened_25 rfl rfl ?_
        refine JC_pt_i (J_callS (mi := mi_X3_widened) (mj := mi_X11_at) (pc := 26) dX3_widened_26 ml_X3_89 ok_X11_at os_X11_at ⟨Nat.le_of_ble_eq_true rfl, Nat.le_of_ble_eq_true rfl⟩ rfl (s_X11_at g d (a + 6) 6 i4 (⟨(ha.lt 6 (by decide)), (ha.ty 6 rfl), by decide⟩)) rfl (Nat.le_of_ble_eq_true rfl)) ?_
        refine J_ior (pc := 29) dX3_widened_29 ?_
        refine J_istore_n (pc := 30) (loc' := [(2, .int (s4 ||| (f_X11_at (d.1 (a + 6)) 6 i4))), (0, .ref a), (1, .int (pq0)), (3, .int i4)]) dX3_widened_30 rfl (by decide) rfl ?_
        refine J_loc (loc' := [(0, .ref a), (1, .int (pq0)), (2, .int (s4 ||| (f_X11_at (d.1 (a + 6)) 6 i4))), (3, .int i4)]) [1, 2, 0, 3] rfl ?_
        exact hX3_widened_j31_4 (s4 ||| (f_X11_at (d.1 (a + 6)) 6 i4))
  · show J mi_X3_widened 0 0 0 0 (g, d) 37 [(2, .int s4)] [] (_)
    refine J_iload_n (pc := 37) 0 dX3_widened_37 rfl rfl ?_
    exact J_eqo (hk s4) (J_iret (pc := 38) dX3_widened_38 rfl)
def f_X3_fewestPaths_b7 (r_a0 : Nat → Int32) (r_a6 : Nat → Int32) (c2_7 : Int32) (i7 : Int32) (s7 : Int32) : Int32 ⊕ (Int32) := (if (f_X11_hasBit s7 (c2_7)) = true then (Sum.inl i7) else (.inr (f_X3_widened r_a0 r_a6 s7)))
def f_X3_fewestPaths (r_a0 : Nat → Int32) (r_a6 : Nat → Int32) (pq0 : Int32) (pq1 : Int32) : Int32 := (j_let (j_fo 6 (f_X3_fewestPaths_b7 r_a0 r_a6 pq1 ) (j_mu 6 0) 0 ((1 : Int32) <<< (pq0 &&& 31))) (Sum.elim (fun r9 => r9) (fun (s7 : Int32) => (-2))))
set_option maxRecDepth 100000 in
set_option maxHeartbeats 4000000 in
theorem s_X3_fewestPaths (g : JG) (d : JD) (a : Nat) (pq0 : Int32) (pq1 : Int32) (ha : j_sh g a TS_CL RS_CL) : JM mi_X3_fewestPaths 0 0 (g, d) [.ref a, .int pq0, .int pq1] (some (some (.int (f_X3_fewestPaths (d.1 a) (d.1 (a + 6)) pq0 pq1)), (g, d))) := by
  refine JM_of (by decide) rfl (Nat.le_of_ble_eq_true rfl) ?_
  refine J_loc (loc' := [(0, .ref a), (1, .int pq0), (2, .int pq1)]) [0, 1, 2] rfl ?_
  obtain ⟨k, hk⟩ : ∃ k : Int32 → Option (Option Value × JH), ∀ r9, k r9 = some (some (.int r9), (g, d)) := ⟨_, fun _ => rfl⟩
  refine J_eqo (hk (f_X3_fewestPaths (d.1 a) (d.1 (a + 6)) pq0 pq1)).symm ?_
  unfold f_X3_fewestPaths
  refine J_iconst (pc := 0) (v := 1) dX3_fewestPaths_0 (by decide) ?_
  refine J_iload_n (pc := 1) 1 dX3_fewestPaths_1 rfl rfl ?_
  refine J_ishl (pc := 2) dX3_fewestPaths_2 ?_
  refine J_istore_n (pc := 3) (loc' := [(3, .int ((1 : Int32) <<< (pq0 &&& 31))), (0, .ref a), (1, .int pq0), (2, .int pq1)]) dX3_fewestPaths_3 rfl (by decide) rfl ?_
  refine J_iconst (pc := 4) (v := 0) dX3_fewestPaths_4 (by decide) ?_
  refine J_istore (pc := 5) (loc' := [(4, .int 0), (3, .int ((1 : Int32) <<< (pq0 &&& 31))), (0, .ref a), (1, .int pq0), (2, .int pq1)]) dX3_fewestPaths_5 (by decide) rfl ?_
  refine J_loc (loc' := [(0, .ref a), (2, .int pq1), (3, .int ((1 : Int32) <<< (pq0 &&& 31))), (4, .int 0)]) [2, 4, 1, 0] rfl ?_
  refine J_foL (K := k) (fr := fun r9 => r9) (b := 6) (G := f_X3_fewestPaths_b7 (d.1 a) (d.1 (a + 6)) pq1 ) (hp := fun (s7 : Int32) => (g, d)) (lc := fun (i7 : Int32) (s7 : Int32) => [(0, .ref a), (2, .int (pq1)), (3, .int s7), (4, .int i7)]) (XJ := fun (i7 : Int32) (s7 : Int32) o9 => J mi_X3_fewestPaths 0 0 0 0 (g, d) 37 [] [] o9) (RJ := fun r9 o9 => o9 = some (some (.int r9), (g, d))) (fun i7 s7 o7 Kb7 hX7 hR7 hB7 => ?_) (fun i7 s7 => ?_) (fun r9 => hk r9) _ _ ((1 : Int32) <<< (pq0 &&& 31)) (Nat.le_refl _)
  · show J mi_X3_fewestPaths 0 0 0 0 (g, d) 7 [(0, .ref a), (2, .int (pq1)), (3, .int s7), (4, .int i7)] [] (if 6 ≤ i7 then o7 else Kb7 (f_X3_fewestPaths_b7 (d.1 a) (d.1 (a + 6)) pq1 i7 s7))
    refine J_iload (pc := 7) 3 dX3_fewestPaths_7 rfl ?_
    refine J_bipush (pc := 9) (v := 6) dX3_fewestPaths_9 (by decide) ?_
    refine J_icmp_ge (pc := 11) (tgt := 37) dX3_fewestPaths_11 (by decide) (fun z7 => ?_) (fun z7 => ?_)
    · refine J_loc (loc' := []) [] rfl ?_
      exact hX7 z7
    · unfold f_X3_fewestPaths_b7
      refine J_iload_n (pc := 14) 2 dX3_fewestPaths_14 rfl rfl ?_
      refine J_iload_n (pc := 15) 1 dX3_fewestPaths_15 rfl rfl ?_
      refine JC_pt_i (J_callS (mi := mi_X3_fewestPaths) (mj := mi_X11_hasBit) (pc := 16) dX3_fewestPaths_16 ml_X3_102 ok_X11_hasBit os_X11_hasBit ⟨Nat.le_of_ble_eq_true rfl, Nat.le_of_ble_eq_true rfl⟩ rfl (s_X11_hasBit g d s7 pq1) rfl (Nat.le_of_ble_eq_true rfl)) ?_
      refine K_ifeq_b (K := Kb7) (pc := 19) (tgt := 25) dX3_fewestPaths_19 (by decide) (fun z19 => ?_) (fun z19 => ?_)
      · refine J_aload_n (pc := 25) 0 dX3_fewestPaths_25 rfl rfl ?_
        refine J_iload_n (pc := 26) 2 dX3_fewestPaths_26 rfl rfl ?_
        refine JC_pt_i (J_callV (mi := mi_X3_fewestPaths) (mj := mi_X3_widened) (pc := 27) dX3_fewestPaths_27 ml_X3_146 ok_X3_widened ov_X3_widened ⟨Nat.le_of_ble_eq_true rfl, Nat.le_of_ble_eq_true rfl⟩ rfl (ha.lt 0 (by decide)) (ha.ty 0 rfl) rfl (s_X3_widened g d a s7 ha) rfl (Nat.le_of_ble_eq_true rfl)) ?_
        refine J_istore_n (pc := 30) (loc' := [(3, .int (f_X3_widened (d.1 a) (d.1 (a + 6)) s7)), (0, .ref a), (2, .int (pq1)), (4, .int i7)]) dX3_fewestPaths_30 rfl (by decide) rfl ?_
        refine J_iinc (pc := 31) (v := i7 + 1) (loc' := [(4, .int (i7 + 1)), (3, .int (f_X3_widened (d.1 a) (d.1 (a + 6)) s7)), (0, .ref a), (2, .int (pq1))]) 3 dX3_fewestPaths_31 rfl rfl (by decide) rfl ?_
        refine J_goto (pc := 34) (tgt := 7) dX3_fewestPaths_34 (by decide) ?_
        refine J_loc (loc' := [(0, .ref a), (2, .int (pq1)), (3, .int (f_X3_widened (d.1 a) (d.1 (a + 6)) s7)), (4, .int (i7 + 1))]) [2, 3, 1, 0] rfl ?_
        exact hB7 z7 (f_X3_widened (d.1 a) (d.1 (a + 6)) s7)
      · refine J_iload (pc := 22) 3 dX3_fewestPaths_22 rfl ?_
        exact J_eqo (hR7 i7) (J_iret (pc := 24) dX3_fewestPaths_24 rfl)
  · show J mi_X3_fewestPaths 0 0 0 0 (g, d) 37 [] [] (_)
    refine J_bipush (pc := 37) (v := (-2)) dX3_fewestPaths_37 (by decide) ?_
    exact J_eqo (hk (-2)) (J_iret (pc := 39) dX3_fewestPaths_39 rfl)
def f_X3_together_b9 (r_a0 : Nat → Int32) (r_a6 : Nat → Int32) (c2_9 : Int32) (i9 : Int32) (s9 : Int32) : Int32 := ((f_X3_widened r_a0 r_a6 s9) &&& (c2_9))
def f_X3_together (r_a0 : Nat → Int32) (r_a6 : Nat → Int32) (pq0 : Int32) (pq1 : Int32) : Int32 := (j_let (((1 : Int32) <<< (pq0 &&& 31)) &&& pq1) (fun v3_5 => j_let (j_for 6 (f_X3_together_b9 r_a0 r_a6 pq1 ) (j_mu 6 1) 1 v3_5) (fun (s9 : Int32) => (s9))))
set_option maxRecDepth 100000 in
set_option maxHeartbeats 4000000 in
theorem s_X3_together (g : JG) (d : JD) (a : Nat) (pq0 : Int32) (pq1 : Int32) (ha : j_sh g a TS_CL RS_CL) : JM mi_X3_together 0 0 (g, d) [.ref a, .int pq0, .int pq1] (some (some (.int (f_X3_together (d.1 a) (d.1 (a + 6)) pq0 pq1)), (g, d))) := by
  refine JM_of (by decide) rfl (Nat.le_of_ble_eq_true rfl) ?_
  refine J_loc (loc' := [(0, .ref a), (1, .int pq0), (2, .int pq1)]) [0, 1, 2] rfl ?_
  obtain ⟨k, hk⟩ : ∃ k : Int32 → Option (Option Value × JH), ∀ r9, k r9 = some (some (.int r9), (g, d)) := ⟨_, fun _ => rfl⟩
  refine J_eqo (hk (f_X3_together (d.1 a) (d.1 (a + 6)) pq0 pq1)).symm ?_
  unfold f_X3_together
  refine J_iconst (pc := 0) (v := 1) dX3_together_0 (by decide) ?_
  refine J_iload_n (pc := 1) 1 dX3_together_1 rfl rfl ?_
  refine J_ishl (pc := 2) dX3_together_2 ?_
  refine J_iload_n (pc := 3) 2 dX3_together_3 rfl rfl ?_
  refine J_iand (pc := 4) dX3_together_4 ?_
  refine J_let (K := k) (fun v3_5 ev3_5 => ?_)
  refine J_val ev3_5.symm ?_
  refine J_istore_n (pc := 5) (loc' := [(3, .int v3_5), (0, .ref a), (1, .int pq0), (2, .int pq1)]) dX3_together_5 rfl (by decide) rfl ?_
  refine J_iconst (pc := 6) (v := 1) dX3_together_6 (by decide) ?_
  refine J_istore (pc := 7) (loc' := [(4, .int 1), (3, .int v3_5), (0, .ref a), (1, .int pq0), (2, .int pq1)]) dX3_together_7 (by decide) rfl ?_
  refine J_loc (loc' := [(0, .ref a), (2, .int pq1), (3, .int v3_5), (4, .int 1)]) [2, 4, 1, 0] rfl ?_
  refine J_forL (K := k) (b := 6) (G := f_X3_together_b9 (d.1 a) (d.1 (a + 6)) pq1 ) (hp := fun (s9 : Int32) => (g, d)) (lc := fun (i9 : Int32) (s9 : Int32) => [(0, .ref a), (2, .int (pq1)), (3, .int s9), (4, .int i9)]) (XJ := fun (i9 : Int32) (s9 : Int32) o9 => J mi_X3_together 0 0 0 0 (g, d) 30 [(3, .int s9)] [] o9) (fun i9 s9 o9 Kb9 hX9 hB9 => ?_) (fun i9 s9 => ?_) _ _ v3_5 (Nat.le_refl _)
  · show J mi_X3_together 0 0 0 0 (g, d) 9 [(0, .ref a), (2, .int (pq1)), (3, .int s9), (4, .int i9)] [] (if 6 ≤ i9 then o9 else Kb9 (f_X3_together_b9 (d.1 a) (d.1 (a + 6)) pq1 i9 s9))
    refine J_iload (pc := 9) 3 dX3_together_9 rfl ?_
    refine J_bipush (pc := 11) (v := 6) dX3_together_11 (by decide) ?_
    refine J_icmp_ge (pc := 13) (tgt := 30) dX3_together_13 (by decide) (fun z9 => ?_) (fun z9 => ?_)
    · refine J_loc (loc' := [(3, .int s9)]) [2] rfl ?_
      exact hX9 z9
    · unfold f_X3_together_b9
      refine J_aload_n (pc := 16) 0 dX3_together_16 rfl rfl ?_
      refine J_iload_n (pc := 17) 2 dX3_together_17 rfl rfl ?_
      refine JC_pt_i (J_callV (mi := mi_X3_together) (mj := mi_X3_widened) (pc := 18) dX3_together_18 ml_X3_146 ok_X3_widened ov_X3_widened ⟨Nat.le_of_ble_eq_true rfl, Nat.le_of_ble_eq_true rfl⟩ rfl (ha.lt 0 (by decide)) (ha.ty 0 rfl) rfl (s_X3_widened g d a s9 ha) rfl (Nat.le_of_ble_eq_true rfl)) ?_
      refine J_iload_n (pc := 21) 1 dX3_together_21 rfl rfl ?_
      refine J_iand (pc := 22) dX3_together_22 ?_
      refine J_istore_n (pc := 23) (loc' := [(3, .int ((f_X3_widened (d.1 a) (d.1 (a + 6)) s9) &&& (pq1))), (0, .ref a), (2, .int (pq1)), (4, .int i9)]) dX3_together_23 rfl (by decide) rfl ?_
      refine J_iinc (pc := 24) (v := i9 + 1) (loc' := [(4, .int (i9 + 1)), (3, .int ((f_X3_widened (d.1 a) (d.1 (a + 6)) s9) &&& (pq1))), (0, .ref a), (2, .int (pq1))]) 3 dX3_together_24 rfl rfl (by decide) rfl ?_
      refine J_goto (pc := 27) (tgt := 9) dX3_together_27 (by decide) ?_
      refine J_loc (loc' := [(0, .ref a), (2, .int (pq1)), (3, .int ((f_X3_widened (d.1 a) (d.1 (a + 6)) s9) &&& (pq1))), (4, .int (i9 + 1))]) [2, 3, 1, 0] rfl ?_
      exact hB9 z9 ((f_X3_widened (d.1 a) (d.1 (a + 6)) s9) &&& (pq1))
  · show J mi_X3_together 0 0 0 0 (g, d) 30 [(3, .int s9)] [] (_)
    refine J_iload_n (pc := 30) 0 dX3_together_30 rfl rfl ?_
    exact J_eqo (hk s9) (J_iret (pc := 31) dX3_together_31 rfl)
def f_X3_countParts_j47_16 (r_a0 : Nat → Int32) (r_a6 : Nat → Int32) (c1_16 : Int32) (i16 : Int32) (x2_47_16 : Int32) (x3_47_16 : Int32) : Int32 × Int32 := (x2_47_16, x3_47_16)
def f_X3_countParts_b16 (r_a0 : Nat → Int32) (r_a6 : Nat → Int32) (c1_16 : Int32) (i16 : Int32) (s16 : Int32 × Int32) : Int32 × Int32 := (if (f_X11_hasBit s16.1 i16) = true then f_X3_countParts_j47_16 r_a0 r_a6 (c1_16) i16 s16.1 s16.2 else (f_X3_countParts_j47_16 r_a0 r_a6 (c1_16) i16 (s16.1 ||| (f_X3_together r_a0 r_a6 i16 (c1_16))) (s16.2 + 1)))
def f_X3_countParts (r_a0 : Nat → Int32) (r_a6 : Nat → Int32) : Int32 := (j_let (j_for (r_a0 4) (f_X3_countParts_b16 r_a0 r_a6 (((1 : Int32) <<< ((r_a0 4) &&& 31)) - 1) ) (j_mu (r_a0 4) 0) 0 (0, 0)) (fun (s16 : Int32 × Int32) => (s16.2)))
set_option maxRecDepth 100000 in
set_option maxHeartbeats 4000000 in
theorem s_X3_countParts (g : JG) (d : JD) (a : Nat) (ha : j_sh g a TS_CL RS_CL) : JM mi_X3_countParts 0 0 (g, d) [.ref a] (some (some (.int (f_X3_countParts (d.1 a) (d.1 (a + 6)) )), (g, d))) := by
  refine JM_of (by decide) rfl (Nat.le_of_ble_eq_true rfl) ?_
  refine J_loc (loc' := [(0, .ref a)]) [0] rfl ?_
  obtain ⟨k, hk⟩ : ∃ k : Int32 → Option (Option Value × JH), ∀ r9, k r9 = some (some (.int r9), (g, d)) := ⟨_, fun _ => rfl⟩
  refine J_eqo (hk (f_X3_countParts (d.1 a) (d.1 (a + 6)) )).symm ?_
  unfold f_X3_countParts
  refine J_iconst (pc := 0) (v := 1) dX3_countParts_0 (by decide) ?_
  refine J_aload_n (pc := 1) 0 dX3_countParts_1 rfl rfl ?_
  refine J_getI (pc := 2) dX3_countParts_2 fl_X3_56 (ha.lt 0 (by decide)) (ha.ty 0 rfl) rfl ?_
  refine J_ishl (pc := 5) dX3_countParts_5 ?_
  refine J_iconst (pc := 6) (v := 1) dX3_countParts_6 (by decide) ?_
  refine J_isub (pc := 7) dX3_countParts_7 ?_
  refine J_istore_n (pc := 8) (loc' := [(1, .int (((1 : Int32) <<< (((d.1 a) 4) &&& 31)) - 1)), (0, .ref a)]) dX3_countParts_8 rfl (by decide) rfl ?_
  refine J_iconst (pc := 9) (v := 0) dX3_countParts_9 (by decide) ?_
  refine J_istore_n (pc := 10) (loc' := [(2, .int 0), (1, .int (((1 : Int32) <<< (((d.1 a) 4) &&& 31)) - 1)), (0, .ref a)]) dX3_countParts_10 rfl (by decide) rfl ?_
  refine J_iconst (pc := 11) (v := 0) dX3_countParts_11 (by decide) ?_
  refine J_istore_n (pc := 12) (loc' := [(3, .int 0), (2, .int 0), (1, .int (((1 : Int32) <<< (((d.1 a) 4) &&& 31)) - 1)), (0, .ref a)]) dX3_countParts_12 rfl (by decide) rfl ?_
  refine J_iconst (pc := 13) (v := 0) dX3_countParts_13 (by decide) ?_
  refine J_istore (pc := 14) (loc' := [(4, .int 0), (3, .int 0), (2, .int 0), (1, .int (((1 : Int32) <<< (((d.1 a) 4) &&& 31)) - 1)), (0, .ref a)]) dX3_countParts_14 (by decide) rfl ?_
  refine J_loc (loc' := [(0, .ref a), (1, .int (((1 : Int32) <<< (((d.1 a) 4) &&& 31)) - 1)), (2, .int 0), (3, .int 0), (4, .int 0)]) [4, 3, 2, 1, 0] rfl ?_
  refine J_forL (K := k) (b := (d.1 a) 4) (G := f_X3_countParts_b16 (d.1 a) (d.1 (a + 6)) (((1 : Int32) <<< (((d.1 a) 4) &&& 31)) - 1) ) (hp := fun (s16 : Int32 × Int32) => (g, d)) (lc := fun (i16 : Int32) (s16 : Int32 × Int32) => [(0, .ref a), (1, .int ((((1 : Int32) <<< (((d.1 a) 4) &&& 31)) - 1))), (2, .int s16.1), (3, .int s16.2), (4, .int i16)]) (XJ := fun (i16 : Int32) (s16 : Int32 × Int32) o9 => J mi_X3_countParts 0 0 0 0 (g, d) 53 [(3, .int s16.2)] [] o9) (fun i16 s16 o16 Kb16 hX16 hB16 => ?_) (fun i16 s16 => ?_) _ _ (0, 0) (Nat.le_refl _)
  · show J mi_X3_countParts 0 0 0 0 (g, d) 16 [(0, .ref a), (1, .int ((((1 : Int32) <<< (((d.1 a) 4) &&& 31)) - 1))), (2, .int s16.1), (3, .int s16.2), (4, .int i16)] [] (if ((d.1 a) 4) ≤ i16 then o16 else Kb16 (f_X3_countParts_b16 (d.1 a) (d.1 (a + 6)) (((1 : Int32) <<< (((d.1 a) 4) &&& 31)) - 1) i16 s16))
    refine J_iload (pc := 16) 4 dX3_countParts_16 rfl ?_
    refine J_aload_n (pc := 18) 0 dX3_countParts_18 rfl rfl ?_
    refine J_getI (pc := 19) dX3_countParts_19 fl_X3_56 (ha.lt 0 (by decide)) (ha.ty 0 rfl) rfl ?_
    refine J_icmp_ge (pc := 22) (tgt := 53) dX3_countParts_22 (by decide) (fun z16 => ?_) (fun z16 => ?_)
    · refine J_loc (loc' := [(3, .int s16.2)]) [3] rfl ?_
      exact hX16 z16
    · unfold f_X3_countParts_b16
      have hX3_countParts_j47_16 : ∀ (x2_47_16 : Int32) (x3_47_16 : Int32), J mi_X3_countParts 0 0 0 0 (g, d) 47 [(0, .ref a), (1, .int ((((1 : Int32) <<< (((d.1 a) 4) &&& 31)) - 1))), (2, .int x2_47_16), (3, .int x3_47_16), (4, .int i16)] [] (Kb16 (f_X3_countParts_j47_16 (d.1 a) (d.1 (a + 6)) (((1 : Int32) <<< (((d.1 a) 4) &&& 31)) - 1) i16 x2_47_16 x3_47_16)) := by
        intro x2_47_16 x3_47_16
        unfold f_X3_countParts_j47_16
        refine J_iinc (pc := 47) (v := i16 + 1) (loc' := [(4, .int (i16 + 1)), (0, .ref a), (1, .int ((((1 : Int32) <<< (((d.1 a) 4) &&& 31)) - 1))), (2, .int x2_47_16), (3, .int x3_47_16)]) 4 dX3_countParts_47 rfl rfl (by decide) rfl ?_
        refine J_goto (pc := 50) (tgt := 16) dX3_countParts_50 (by decide) ?_
        refine J_loc (loc' := [(0, .ref a), (1, .int ((((1 : Int32) <<< (((d.1 a) 4) &&& 31)) - 1))), (2, .int x2_47_16), (3, .int x3_47_16), (4, .int (i16 + 1))]) [1, 2, 3, 4, 0] rfl ?_
        exact hB16 z16 (x2_47_16, x3_47_16)
      refine J_iload_n (pc := 25) 2 dX3_countParts_25 rfl rfl ?_
      refine J_iload (pc := 26) 4 dX3_countParts_26 rfl ?_
      refine JC_pt_i (J_callS (mi := mi_X3_countParts) (mj := mi_X11_hasBit) (pc := 28) dX3_countParts_28 ml_X3_102 ok_X11_hasBit os_X11_hasBit ⟨Nat.le_of_ble_eq_true rfl, Nat.le_of_ble_eq_true rfl⟩ rfl (s_X11_hasBit g d s16.1 i16) rfl (Nat.le_of_ble_eq_true rfl)) ?_
      refine K_ifne_b (K := Kb16) (pc := 31) (tgt := 47) dX3_countParts_31 (by decide) (fun z31 => ?_) (fun z31 => ?_)
      · exact hX3_countParts_j47_16 s16.1 s16.2
      · refine J_iload_n (pc := 34) 2 dX3_countParts_34 rfl rfl ?_
        refine J_aload_n (pc := 35) 0 dX3_countParts_35 rfl rfl ?_
        refine J_iload (pc := 36) 4 dX3_countParts_36 rfl ?_
        refine J_iload_n (pc := 38) 1 dX3_countParts_38 rfl rfl ?_
        refine JC_pt_i (J_callV (mi := mi_X3_countParts) (mj := mi_X3_together) (pc := 39) dX3_countParts_39 ml_X3_149 ok_X3_together ov_X3_together ⟨Nat.le_of_ble_eq_true rfl, Nat.le_of_ble_eq_true rfl⟩ rfl (ha.lt 0 (by decide)) (ha.ty 0 rfl) rfl (s_X3_together g d a i16 (((1 : Int32) <<< (((d.1 a) 4) &&& 31)) - 1) ha) rfl (Nat.le_of_ble_eq_true rfl)) ?_
        refine J_ior (pc := 42) dX3_countParts_42 ?_
        refine J_istore_n (pc := 43) (loc' := [(2, .int (s16.1 ||| (f_X3_together (d.1 a) (d.1 (a + 6)) i16 ((((1 : Int32) <<< (((d.1 a) 4) &&& 31)) - 1))))), (0, .ref a), (1, .int ((((1 : Int32) <<< (((d.1 a) 4) &&& 31)) - 1))), (3, .int s16.2), (4, .int i16)]) dX3_countParts_43 rfl (by decide) rfl ?_
        refine J_iinc (pc := 44) (v := s16.2 + 1) (loc' := [(3, .int (s16.2 + 1)), (2, .int (s16.1 ||| (f_X3_together (d.1 a) (d.1 (a + 6)) i16 ((((1 : Int32) <<< (((d.1 a) 4) &&& 31)) - 1))))), (0, .ref a), (1, .int ((((1 : Int32) <<< (((d.1 a) 4) &&& 31)) - 1))), (4, .int i16)]) 3 dX3_countParts_44 rfl rfl (by decide) rfl ?_
        refine J_loc (loc' := [(0, .ref a), (1, .int ((((1 : Int32) <<< (((d.1 a) 4) &&& 31)) - 1))), (2, .int (s16.1 ||| (f_X3_together (d.1 a) (d.1 (a + 6)) i16 ((((1 : Int32) <<< (((d.1 a) 4) &&& 31)) - 1))))), (3, .int (s16.2 + 1)), (4, .int i16)]) [2, 3, 1, 0, 4] rfl ?_
        exact hX3_countParts_j47_16 (s16.1 ||| (f_X3_together (d.1 a) (d.1 (a + 6)) i16 ((((1 : Int32) <<< (((d.1 a) 4) &&& 31)) - 1)))) (s16.2 + 1)
  · show J mi_X3_countParts 0 0 0 0 (g, d) 53 [(3, .int s16.2)] [] (_)
    refine J_iload_n (pc := 53) 0 dX3_countParts_53 rfl rfl ?_
    exact J_eqo (hk s16.2) (J_iret (pc := 54) dX3_countParts_54 rfl)
def f_X3_fewestSentries_j40_13 (r_a0 : Nat → Int32) (r_a6 : Nat → Int32) (c1_13 : Int32) (i13 : Int32) (x2_40_13 : Int32) : Int32 := (x2_40_13)
def f_X3_fewestSentries_b13 (r_a0 : Nat → Int32) (r_a6 : Nat → Int32) (c1_13 : Int32) (i13 : Int32) (s13 : Int32) : Int32 := (if (f_J6_bitCount_0f7a4 s13) ≤ (f_J6_bitCount_0f7a4 i13) then f_X3_fewestSentries_j40_13 r_a0 r_a6 (c1_13) i13 s13 else (if (f_X3_widened r_a0 r_a6 i13) = (c1_13) then (f_X3_fewestSentries_j40_13 r_a0 r_a6 (c1_13) i13 i13) else f_X3_fewestSentries_j40_13 r_a0 r_a6 (c1_13) i13 s13))
def f_X3_fewestSentries (r_a0 : Nat → Int32) (r_a6 : Nat → Int32) : Int32 := (j_let (((1 : Int32) <<< ((r_a0 4) &&& 31)) - 1) (fun v1_8 => j_let (j_for v1_8 (f_X3_fewestSentries_b13 r_a0 r_a6 v1_8 ) (j_mu v1_8 1) 1 v1_8) (fun (s13 : Int32) => (s13))))
set_option maxRecDepth 100000 in
set_option maxHeartbeats 4000000 in
theorem s_X3_fewestSentries (g : JG) (d : JD) (a : Nat) (ha : j_sh g a TS_CL RS_CL) : JM mi_X3_fewestSentries 0 0 (g, d) [.ref a] (some (some (.int (f_X3_fewestSentries (d.1 a) (d.1 (a + 6)) )), (g, d))) := by
  refine JM_of (by decide) rfl (Nat.le_of_ble_eq_true rfl) ?_
  refine J_loc (loc' := [(0, .ref a)]) [0] rfl ?_
  obtain ⟨k, hk⟩ : ∃ k : Int32 → Option (Option Value × JH), ∀ r9, k r9 = some (some (.int r9), (g, d)) := ⟨_, fun _ => rfl⟩
  refine J_eqo (hk (f_X3_fewestSentries (d.1 a) (d.1 (a + 6)) )).symm ?_
  unfold f_X3_fewestSentries
  refine J_iconst (pc := 0) (v := 1) dX3_fewestSentries_0 (by decide) ?_
  refine J_aload_n (pc := 1) 0 dX3_fewestSentries_1 rfl rfl ?_
  refine J_getI (pc := 2) dX3_fewestSentries_2 fl_X3_56 (ha.lt 0 (by decide)) (ha.ty 0 rfl) rfl ?_
  refine J_ishl (pc := 5) dX3_fewestSentries_5 ?_
  refine J_iconst (pc := 6) (v := 1) dX3_fewestSentries_6 (by decide) ?_
  refine J_isub (pc := 7) dX3_fewestSentries_7 ?_
  refine J_let (K := k) (fun v1_8 ev1_8 => ?_)
  refine J_val ev1_8.symm ?_
  refine J_istore_n (pc := 8) (loc' := [(1, .int v1_8), (0, .ref a)]) dX3_fewestSentries_8 rfl (by decide) rfl ?_
  refine J_iload_n (pc := 9) 0 dX3_fewestSentries_9 rfl rfl ?_
  refine J_istore_n (pc := 10) (loc' := [(2, .int v1_8), (1, .int v1_8), (0, .ref a)]) dX3_fewestSentries_10 rfl (by decide) rfl ?_
  refine J_iconst (pc := 11) (v := 1) dX3_fewestSentries_11 (by decide) ?_
  refine J_istore_n (pc := 12) (loc' := [(3, .int 1), (2, .int v1_8), (1, .int v1_8), (0, .ref a)]) dX3_fewestSentries_12 rfl (by decide) rfl ?_
  refine J_loc (loc' := [(0, .ref a), (1, .int v1_8), (2, .int v1_8), (3, .int 1)]) [3, 2, 1, 0] rfl ?_
  refine J_forL (K := k) (b := v1_8) (G := f_X3_fewestSentries_b13 (d.1 a) (d.1 (a + 6)) v1_8 ) (hp := fun (s13 : Int32) => (g, d)) (lc := fun (i13 : Int32) (s13 : Int32) => [(0, .ref a), (1, .int (v1_8)), (2, .int s13), (3, .int i13)]) (XJ := fun (i13 : Int32) (s13 : Int32) o9 => J mi_X3_fewestSentries 0 0 0 0 (g, d) 46 [(2, .int s13)] [] o9) (fun i13 s13 o13 Kb13 hX13 hB13 => ?_) (fun i13 s13 => ?_) _ _ v1_8 (Nat.le_refl _)
  · show J mi_X3_fewestSentries 0 0 0 0 (g, d) 13 [(0, .ref a), (1, .int (v1_8)), (2, .int s13), (3, .int i13)] [] (if v1_8 ≤ i13 then o13 else Kb13 (f_X3_fewestSentries_b13 (d.1 a) (d.1 (a + 6)) v1_8 i13 s13))
    refine J_iload_n (pc := 13) 3 dX3_fewestSentries_13 rfl rfl ?_
    refine J_iload_n (pc := 14) 1 dX3_fewestSentries_14 rfl rfl ?_
    refine J_icmp_ge (pc := 15) (tgt := 46) dX3_fewestSentries_15 (by decide) (fun z13 => ?_) (fun z13 => ?_)
    · refine J_loc (loc' := [(2, .int s13)]) [2] rfl ?_
      exact hX13 z13
    · unfold f_X3_fewestSentries_b13
      have hX3_fewestSentries_j40_13 : ∀ (x2_40_13 : Int32), J mi_X3_fewestSentries 0 0 0 0 (g, d) 40 [(0, .ref a), (1, .int (v1_8)), (2, .int x2_40_13), (3, .int i13)] [] (Kb13 (f_X3_fewestSentries_j40_13 (d.1 a) (d.1 (a + 6)) v1_8 i13 x2_40_13)) := by
        intro x2_40_13
        unfold f_X3_fewestSentries_j40_13
        refine J_iinc (pc := 40) (v := i13 + 1) (loc' := [(3, .int (i13 + 1)), (0, .ref a), (1, .int (v1_8)), (2, .int x2_40_13)]) 3 dX3_fewestSentries_40 rfl rfl (by decide) rfl ?_
        refine J_goto (pc := 43) (tgt := 13) dX3_fewestSentries_43 (by decide) ?_
        refine J_loc (loc' := [(0, .ref a), (1, .int (v1_8)), (2, .int x2_40_13), (3, .int (i13 + 1))]) [1, 2, 3, 0] rfl ?_
        exact hB13 z13 x2_40_13
      refine J_iload_n (pc := 18) 3 dX3_fewestSentries_18 rfl rfl ?_
      refine JC_pt_i (J_callS (mi := mi_X3_fewestSentries) (mj := mi_J6_bitCount_0f7a4) (pc := 19) dX3_fewestSentries_19 ml_X3_93 ok_J6_bitCount_0f7a4 os_J6_bitCount_0f7a4 ⟨Nat.le_of_ble_eq_true rfl, Nat.le_of_ble_eq_true rfl⟩ rfl (s_J6_bitCount_0f7a4 g d i13) rfl (Nat.le_of_ble_eq_true rfl)) ?_
      refine J_iload_n (pc := 22) 2 dX3_fewestSentries_22 rfl rfl ?_
      refine JC_pt_i (J_callS (mi := mi_X3_fewestSentries) (mj := mi_J6_bitCount_0f7a4) (pc := 23) dX3_fewestSentries_23 ml_X3_93 ok_J6_bitCount_0f7a4 os_J6_bitCount_0f7a4 ⟨Nat.le_of_ble_eq_true rfl, Nat.le_of_ble_eq_true rfl⟩ rfl (s_J6_bitCount_0f7a4 g d s13) rfl (Nat.le_of_ble_eq_true rfl)) ?_
      refine K_icmp_ge (K := Kb13) (pc := 26) (tgt := 40) dX3_fewestSentries_26 (by decide) (fun z26 => ?_) (fun z26 => ?_)
      · exact hX3_fewestSentries_j40_13 s13
      · refine J_aload_n (pc := 29) 0 dX3_fewestSentries_29 rfl rfl ?_
        refine J_iload_n (pc := 30) 3 dX3_fewestSentries_30 rfl rfl ?_
        refine JC_pt_i (J_callV (mi := mi_X3_fewestSentries) (mj := mi_X3_widened) (pc := 31) dX3_fewestSentries_31 ml_X3_146 ok_X3_widened ov_X3_widened ⟨Nat.le_of_ble_eq_true rfl, Nat.le_of_ble_eq_true rfl⟩ rfl (ha.lt 0 (by decide)) (ha.ty 0 rfl) rfl (s_X3_widened g d a i13 ha) rfl (Nat.le_of_ble_eq_true rfl)) ?_
        refine J_iload_n (pc := 34) 1 dX3_fewestSentries_34 rfl rfl ?_
        refine K_icmp_ne (K := Kb13) (pc := 35) (tgt := 40) dX3_fewestSentries_35 (by decide) (fun z35 => ?_) (fun z35 => ?_)
        · exact hX3_fewestSentries_j40_13 s13
        · refine J_iload_n (pc := 38) 3 dX3_fewestSentries_38 rfl rfl ?_
          refine J_istore_n (pc := 39) (loc' := [(2, .int i13), (0, .ref a), (1, .int (v1_8)), (3, .int i13)]) dX3_fewestSentries_39 rfl (by decide) rfl ?_
          refine J_loc (loc' := [(0, .ref a), (1, .int (v1_8)), (2, .int i13), (3, .int i13)]) [1, 2, 0, 3] rfl ?_
          exact hX3_fewestSentries_j40_13 i13
  · show J mi_X3_fewestSentries 0 0 0 0 (g, d) 46 [(2, .int s13)] [] (_)
    refine J_iload_n (pc := 46) 0 dX3_fewestSentries_46 rfl rfl ?_
    exact J_eqo (hk s13) (J_iret (pc := 47) dX3_fewestSentries_47 rfl)
def f_X3_peopleWithWealth_j27_4 (r_a0 : Nat → Int32) (r_a7 : Nat → Int32) (r_a8 : Nat → Int32) (c1_4 : Int32) (i4 : Int32) (x2_27_4 : Int32) : Int32 := (x2_27_4)
def f_X3_peopleWithWealth_b4 (r_a0 : Nat → Int32) (r_a7 : Nat → Int32) (r_a8 : Nat → Int32) (c1_4 : Int32) (i4 : Int32) (s4 : Int32) : Int32 := (if (f_X3_wealth r_a0 r_a7 r_a8 i4 (c1_4)) ≤ 0 then f_X3_peopleWithWealth_j27_4 r_a0 r_a7 r_a8 (c1_4) i4 s4 else (f_X3_peopleWithWealth_j27_4 r_a0 r_a7 r_a8 (c1_4) i4 (s4 ||| ((1 : Int32) <<< (i4 &&& 31)))))
def f_X3_peopleWithWealth (r_a0 : Nat → Int32) (r_a7 : Nat → Int32) (r_a8 : Nat → Int32) (pq0 : Int32) : Int32 := (j_let (j_for (r_a0 2) (f_X3_peopleWithWealth_b4 r_a0 r_a7 r_a8 pq0 ) (j_mu (r_a0 2) 0) 0 0) (fun (s4 : Int32) => (s4)))
set_option maxRecDepth 100000 in
set_option maxHeartbeats 4000000 in
theorem s_X3_peopleWithWealth (g : JG) (d : JD) (a : Nat) (pq0 : Int32) (ha : j_sh g a TS_CL RS_CL) : JM mi_X3_peopleWithWealth 0 0 (g, d) [.ref a, .int pq0] (some (some (.int (f_X3_peopleWithWealth (d.1 a) (d.1 (a + 7)) (d.1 (a + 8)) pq0)), (g, d))) := by
  refine JM_of (by decide) rfl (Nat.le_of_ble_eq_true rfl) ?_
  refine J_loc (loc' := [(0, .ref a), (1, .int pq0)]) [0, 1] rfl ?_
  obtain ⟨k, hk⟩ : ∃ k : Int32 → Option (Option Value × JH), ∀ r9, k r9 = some (some (.int r9), (g, d)) := ⟨_, fun _ => rfl⟩
  refine J_eqo (hk (f_X3_peopleWithWealth (d.1 a) (d.1 (a + 7)) (d.1 (a + 8)) pq0)).symm ?_
  unfold f_X3_peopleWithWealth
  refine J_iconst (pc := 0) (v := 0) dX3_peopleWithWealth_0 (by decide) ?_
  refine J_istore_n (pc := 1) (loc' := [(2, .int 0), (0, .ref a), (1, .int pq0)]) dX3_peopleWithWealth_1 rfl (by decide) rfl ?_
  refine J_iconst (pc := 2) (v := 0) dX3_peopleWithWealth_2 (by decide) ?_
  refine J_istore_n (pc := 3) (loc' := [(3, .int 0), (2, .int 0), (0, .ref a), (1, .int pq0)]) dX3_peopleWithWealth_3 rfl (by decide) rfl ?_
  refine J_loc (loc' := [(0, .ref a), (1, .int pq0), (2, .int 0), (3, .int 0)]) [2, 3, 1, 0] rfl ?_
  refine J_forL (K := k) (b := (d.1 a) 2) (G := f_X3_peopleWithWealth_b4 (d.1 a) (d.1 (a + 7)) (d.1 (a + 8)) pq0 ) (hp := fun (s4 : Int32) => (g, d)) (lc := fun (i4 : Int32) (s4 : Int32) => [(0, .ref a), (1, .int (pq0)), (2, .int s4), (3, .int i4)]) (XJ := fun (i4 : Int32) (s4 : Int32) o9 => J mi_X3_peopleWithWealth 0 0 0 0 (g, d) 33 [(2, .int s4)] [] o9) (fun i4 s4 o4 Kb4 hX4 hB4 => ?_) (fun i4 s4 => ?_) _ _ 0 (Nat.le_refl _)
  · show J mi_X3_peopleWithWealth 0 0 0 0 (g, d) 4 [(0, .ref a), (1, .int (pq0)), (2, .int s4), (3, .int i4)] [] (if ((d.1 a) 2) ≤ i4 then o4 else Kb4 (f_X3_peopleWithWealth_b4 (d.1 a) (d.1 (a + 7)) (d.1 (a + 8)) pq0 i4 s4))
    refine J_iload_n (pc := 4) 3 dX3_peopleWithWealth_4 rfl rfl ?_
    refine J_aload_n (pc := 5) 0 dX3_peopleWithWealth_5 rfl rfl ?_
    refine J_getI (pc := 6) dX3_peopleWithWealth_6 fl_X3_50 (ha.lt 0 (by decide)) (ha.ty 0 rfl) rfl ?_
    refine J_icmp_ge (pc := 9) (tgt := 33) dX3_peopleWithWealth_9 (by decide) (fun z4 => ?_) (fun z4 => ?_)
    · refine J_loc (loc' := [(2, .int s4)]) [2] rfl ?_
      exact hX4 z4
    · unfold f_X3_peopleWithWealth_b4
      have hX3_peopleWithWealth_j27_4 : ∀ (x2_27_4 : Int32), J mi_X3_peopleWithWealth 0 0 0 0 (g, d) 27 [(0, .ref a), (1, .int (pq0)), (2, .int x2_27_4), (3, .int i4)] [] (Kb4 (f_X3_peopleWithWealth_j27_4 (d.1 a) (d.1 (a + 7)) (d.1 (a + 8)) pq0 i4 x2_27_4)) := by
        intro x2_27_4
        unfold f_X3_peopleWithWealth_j27_4
        refine J_iinc (pc := 27) (v := i4 + 1) (loc' := [(3, .int (i4 + 1)), (0, .ref a), (1, .int (pq0)), (2, .int x2_27_4)]) 3 dX3_peopleWithWealth_27 rfl rfl (by decide) rfl ?_
        refine J_goto (pc := 30) (tgt := 4) dX3_peopleWithWealth_30 (by decide) ?_
        refine J_loc (loc' := [(0, .ref a), (1, .int (pq0)), (2, .int x2_27_4), (3, .int (i4 + 1))]) [1, 2, 3, 0] rfl ?_
        exact hB4 z4 x2_27_4
      refine J_aload_n (pc := 12) 0 dX3_peopleWithWealth_12 rfl rfl ?_
      refine J_iload_n (pc := 13) 3 dX3_peopleWithWealth_13 rfl rfl ?_
      refine J_iload_n (pc := 14) 1 dX3_peopleWithWealth_14 rfl rfl ?_
      refine JC_pt_i (J_callV (mi := mi_X3_peopleWithWealth) (mj := mi_X3_wealth) (pc := 15) dX3_peopleWithWealth_15 ml_X3_109 ok_X3_wealth ov_X3_wealth ⟨Nat.le_of_ble_eq_true rfl, Nat.le_of_ble_eq_true rfl⟩ rfl (ha.lt 0 (by decide)) (ha.ty 0 rfl) rfl (s_X3_wealth g d a i4 pq0 ha) rfl (Nat.le_of_ble_eq_true rfl)) ?_
      refine K_if_le (K := Kb4) (pc := 18) (tgt := 27) dX3_peopleWithWealth_18 (by decide) (fun z18 => ?_) (fun z18 => ?_)
      · exact hX3_peopleWithWealth_j27_4 s4
      · refine J_iload_n (pc := 21) 2 dX3_peopleWithWealth_21 rfl rfl ?_
        refine J_iconst (pc := 22) (v := 1) dX3_peopleWithWealth_22 (by decide) ?_
        refine J_iload_n (pc := 23) 3 dX3_peopleWithWealth_23 rfl rfl ?_
        refine J_ishl (pc := 24) dX3_peopleWithWealth_24 ?_
        refine J_ior (pc := 25) dX3_peopleWithWealth_25 ?_
        refine J_istore_n (pc := 26) (loc' := [(2, .int (s4 ||| ((1 : Int32) <<< (i4 &&& 31)))), (0, .ref a), (1, .int (pq0)), (3, .int i4)]) dX3_peopleWithWealth_26 rfl (by decide) rfl ?_
        refine J_loc (loc' := [(0, .ref a), (1, .int (pq0)), (2, .int (s4 ||| ((1 : Int32) <<< (i4 &&& 31)))), (3, .int i4)]) [1, 2, 0, 3] rfl ?_
        exact hX3_peopleWithWealth_j27_4 (s4 ||| ((1 : Int32) <<< (i4 &&& 31)))
  · show J mi_X3_peopleWithWealth 0 0 0 0 (g, d) 33 [(2, .int s4)] [] (_)
    refine J_iload_n (pc := 33) 0 dX3_peopleWithWealth_33 rfl rfl ?_
    exact J_eqo (hk s4) (J_iret (pc := 34) dX3_peopleWithWealth_34 rfl)
def f_X3_fewestRulers_j65_29 (r_a0 : Nat → Int32) (r_a7 : Nat → Int32) (r_a8 : Nat → Int32) (c1_29 : Int32) (c2_29 : Int32) (c3_29 : Int32) (i29 : Int32) (x4_65_29 : Int32) : Int32 := (x4_65_29)
def f_X3_fewestRulers_b29 (r_a0 : Nat → Int32) (r_a7 : Nat → Int32) (r_a8 : Nat → Int32) (c1_29 : Int32) (c2_29 : Int32) (c3_29 : Int32) (i29 : Int32) (s29 : Int32) : Int32 := (if (f_J6_bitCount_0f7a4 s29) ≤ (f_J6_bitCount_0f7a4 i29) then f_X3_fewestRulers_j65_29 r_a0 r_a7 r_a8 (c1_29) (c2_29) (c3_29) i29 s29 else (if ((2 : Int32) * (f_X3_wealthOfSet r_a0 r_a7 r_a8 i29 (c1_29))) ≤ (c3_29) then f_X3_fewestRulers_j65_29 r_a0 r_a7 r_a8 (c1_29) (c2_29) (c3_29) i29 s29 else (f_X3_fewestRulers_j65_29 r_a0 r_a7 r_a8 (c1_29) (c2_29) (c3_29) i29 i29)))
def f_X3_fewestRulers (r_a0 : Nat → Int32) (r_a7 : Nat → Int32) (r_a8 : Nat → Int32) (pq0 : Int32) : Int32 := (j_let (((1 : Int32) <<< ((r_a0 2) &&& 31)) - 1) (fun v2_8 => j_let (f_X3_wealthOfSet r_a0 r_a7 r_a8 v2_8 pq0) (fun v3_15 => if v3_15 = 0 then (-2) else (j_let (j_for v2_8 (f_X3_fewestRulers_b29 r_a0 r_a7 r_a8 pq0 v2_8 v3_15 ) (j_mu v2_8 1) 1 v2_8) (fun (s29 : Int32) => (s29))))))
set_option maxRecDepth 100000 in
set_option maxHeartbeats 4000000 in
theorem s_X3_fewestRulers (g : JG) (d : JD) (a : Nat) (pq0 : Int32) (ha : j_sh g a TS_CL RS_CL) : JM mi_X3_fewestRulers 0 0 (g, d) [.ref a, .int pq0] (some (some (.int (f_X3_fewestRulers (d.1 a) (d.1 (a + 7)) (d.1 (a + 8)) pq0)), (g, d))) := by
  refine JM_of (by decide) rfl (Nat.le_of_ble_eq_true rfl) ?_
  refine J_loc (loc' := [(0, .ref a), (1, .int pq0)]) [0, 1] rfl ?_
  obtain ⟨k, hk⟩ : ∃ k : Int32 → Option (Option Value × JH), ∀ r9, k r9 = some (some (.int r9), (g, d)) := ⟨_, fun _ => rfl⟩
  refine J_eqo (hk (f_X3_fewestRulers (d.1 a) (d.1 (a + 7)) (d.1 (a + 8)) pq0)).symm ?_
  unfold f_X3_fewestRulers
  refine J_iconst (pc := 0) (v := 1) dX3_fewestRulers_0 (by decide) ?_
  refine J_aload_n (pc := 1) 0 dX3_fewestRulers_1 rfl rfl ?_
  refine J_getI (pc := 2) dX3_fewestRulers_2 fl_X3_50 (ha.lt 0 (by decide)) (ha.ty 0 rfl) rfl ?_
  refine J_ishl (pc := 5) dX3_fewestRulers_5 ?_
  refine J_iconst (pc := 6) (v := 1) dX3_fewestRulers_6 (by decide) ?_
  refine J_isub (pc := 7) dX3_fewestRulers_7 ?_
  refine J_let (K := k) (fun v2_8 ev2_8 => ?_)
  refine J_val ev2_8.symm ?_
  refine J_istore_n (pc := 8) (loc' := [(2, .int v2_8), (0, .ref a), (1, .int pq0)]) dX3_fewestRulers_8 rfl (by decide) rfl ?_
  refine J_aload_n (pc := 9) 1 dX3_fewestRulers_9 rfl rfl ?_
  refine J_iload_n (pc := 10) 0 dX3_fewestRulers_10 rfl rfl ?_
  refine J_iload_n (pc := 11) 2 dX3_fewestRulers_11 rfl rfl ?_
  refine JC_pt_i (J_callV (mi := mi_X3_fewestRulers) (mj := mi_X3_wealthOfSet) (pc := 12) dX3_fewestRulers_12 ml_X3_152 ok_X3_wealthOfSet ov_X3_wealthOfSet ⟨Nat.le_of_ble_eq_true rfl, Nat.le_of_ble_eq_true rfl⟩ rfl (ha.lt 0 (by decide)) (ha.ty 0 rfl) rfl (s_X3_wealthOfSet g d a v2_8 pq0 ha) rfl (Nat.le_of_ble_eq_true rfl)) ?_
  refine J_let (K := k) (fun v3_15 ev3_15 => ?_)
  refine J_val ev3_15.symm ?_
  refine J_istore_n (pc := 15) (loc' := [(3, .int v3_15), (2, .int v2_8), (0, .ref a), (1, .int pq0)]) dX3_fewestRulers_15 rfl (by decide) rfl ?_
  refine J_iload_n (pc := 16) 0 dX3_fewestRulers_16 rfl rfl ?_
  refine K_if_ne (K := k) (pc := 17) (tgt := 23) dX3_fewestRulers_17 (by decide) (fun z17 => ?_) (fun z17 => ?_)
  · refine J_iload_n (pc := 23) 1 dX3_fewestRulers_23 rfl rfl ?_
    refine J_istore (pc := 24) (loc' := [(4, .int v2_8), (3, .int v3_15), (2, .int v2_8), (0, .ref a), (1, .int pq0)]) dX3_fewestRulers_24 (by decide) rfl ?_
    refine J_iconst (pc := 26) (v := 1) dX3_fewestRulers_26 (by decide) ?_
    refine J_istore (pc := 27) (loc' := [(5, .int 1), (4, .int v2_8), (3, .int v3_15), (2, .int v2_8), (0, .ref a), (1, .int pq0)]) dX3_fewestRulers_27 (by decide) rfl ?_
    refine J_loc (loc' := [(0, .ref a), (1, .int pq0), (2, .int v2_8), (3, .int v3_15), (4, .int v2_8), (5, .int 1)]) [4, 5, 3, 2, 1, 0] rfl ?_
    refine J_forL (K := k) (b := v2_8) (G := f_X3_fewestRulers_b29 (d.1 a) (d.1 (a + 7)) (d.1 (a + 8)) pq0 v2_8 v3_15 ) (hp := fun (s29 : Int32) => (g, d)) (lc := fun (i29 : Int32) (s29 : Int32) => [(0, .ref a), (1, .int (pq0)), (2, .int (v2_8)), (3, .int (v3_15)), (4, .int s29), (5, .int i29)]) (XJ := fun (i29 : Int32) (s29 : Int32) o9 => J mi_X3_fewestRulers 0 0 0 0 (g, d) 71 [(4, .int s29)] [] o9) (fun i29 s29 o29 Kb29 hX29 hB29 => ?_) (fun i29 s29 => ?_) _ _ v2_8 (Nat.le_refl _)
    · show J mi_X3_fewestRulers 0 0 0 0 (g, d) 29 [(0, .ref a), (1, .int (pq0)), (2, .int (v2_8)), (3, .int (v3_15)), (4, .int s29), (5, .int i29)] [] (if v2_8 ≤ i29 then o29 else Kb29 (f_X3_fewestRulers_b29 (d.1 a) (d.1 (a + 7)) (d.1 (a + 8)) pq0 v2_8 v3_15 i29 s29))
      refine J_iload (pc := 29) 5 dX3_fewestRulers_29 rfl ?_
      refine J_iload_n (pc := 31) 2 dX3_fewestRulers_31 rfl rfl ?_
      refine J_icmp_ge (pc := 32) (tgt := 71) dX3_fewestRulers_32 (by decide) (fun z29 => ?_) (fun z29 => ?_)
      · refine J_loc (loc' := [(4, .int s29)]) [4] rfl ?_
        exact hX29 z29
      · unfold f_X3_fewestRulers_b29
        have hX3_fewestRulers_j65_29 : ∀ (x4_65_29 : Int32), J mi_X3_fewestRulers 0 0 0 0 (g, d) 65 [(0, .ref a), (1, .int (pq0)), (2, .int (v2_8)), (3, .int (v3_15)), (4, .int x4_65_29), (5, .int i29)] [] (Kb29 (f_X3_fewestRulers_j65_29 (d.1 a) (d.1 (a + 7)) (d.1 (a + 8)) pq0 v2_8 v3_15 i29 x4_65_29)) := by
          intro x4_65_29
          unfold f_X3_fewestRulers_j65_29
          refine J_iinc (pc := 65) (v := i29 + 1) (loc' := [(5, .int (i29 + 1)), (0, .ref a), (1, .int (pq0)), (2, .int (v2_8)), (3, .int (v3_15)), (4, .int x4_65_29)]) 5 dX3_fewestRulers_65 rfl rfl (by decide) rfl ?_
          refine J_goto (pc := 68) (tgt := 29) dX3_fewestRulers_68 (by decide) ?_
          refine J_loc (loc' := [(0, .ref a), (1, .int (pq0)), (2, .int (v2_8)), (3, .int (v3_15)), (4, .int x4_65_29), (5, .int (i29 + 1))]) [1, 2, 3, 4, 5, 0] rfl ?_
          exact hB29 z29 x4_65_29
        refine J_iload (pc := 35) 5 dX3_fewestRulers_35 rfl ?_
        refine JC_pt_i (J_callS (mi := mi_X3_fewestRulers) (mj := mi_J6_bitCount_0f7a4) (pc := 37) dX3_fewestRulers_37 ml_X3_93 ok_J6_bitCount_0f7a4 os_J6_bitCount_0f7a4 ⟨Nat.le_of_ble_eq_true rfl, Nat.le_of_ble_eq_true rfl⟩ rfl (s_J6_bitCount_0f7a4 g d i29) rfl (Nat.le_of_ble_eq_true rfl)) ?_
        refine J_iload (pc := 40) 4 dX3_fewestRulers_40 rfl ?_
        refine JC_pt_i (J_callS (mi := mi_X3_fewestRulers) (mj := mi_J6_bitCount_0f7a4) (pc := 42) dX3_fewestRulers_42 ml_X3_93 ok_J6_bitCount_0f7a4 os_J6_bitCount_0f7a4 ⟨Nat.le_of_ble_eq_true rfl, Nat.le_of_ble_eq_true rfl⟩ rfl (s_J6_bitCount_0f7a4 g d s29) rfl (Nat.le_of_ble_eq_true rfl)) ?_
        refine K_icmp_ge (K := Kb29) (pc := 45) (tgt := 65) dX3_fewestRulers_45 (by decide) (fun z45 => ?_) (fun z45 => ?_)
        · exact hX3_fewestRulers_j65_29 s29
        · refine J_iconst (pc := 48) (v := 2) dX3_fewestRulers_48 (by decide) ?_
          refine J_aload_n (pc := 49) 0 dX3_fewestRulers_49 rfl rfl ?_
          refine J_iload (pc := 50) 5 dX3_fewestRulers_50 rfl ?_
          refine J_iload_n (pc := 52) 1 dX3_fewestRulers_52 rfl rfl ?_
          refine JC_pt_i (J_callV (mi := mi_X3_fewestRulers) (mj := mi_X3_wealthOfSet) (pc := 53) dX3_fewestRulers_53 ml_X3_152 ok_X3_wealthOfSet ov_X3_wealthOfSet ⟨Nat.le_of_ble_eq_true rfl, Nat.le_of_ble_eq_true rfl⟩ rfl (ha.lt 0 (by decide)) (ha.ty 0 rfl) rfl (s_X3_wealthOfSet g d a i29 pq0 ha) rfl (Nat.le_of_ble_eq_true rfl)) ?_
          refine J_imul (pc := 56) dX3_fewestRulers_56 ?_
          refine J_iload_n (pc := 57) 3 dX3_fewestRulers_57 rfl rfl ?_
          refine K_icmp_le (K := Kb29) (pc := 58) (tgt := 65) dX3_fewestRulers_58 (by decide) (fun z58 => ?_) (fun z58 => ?_)
          · exact hX3_fewestRulers_j65_29 s29
          · refine J_iload (pc := 61) 5 dX3_fewestRulers_61 rfl ?_
            refine J_istore (pc := 63) (loc' := [(4, .int i29), (0, .ref a), (1, .int (pq0)), (2, .int (v2_8)), (3, .int (v3_15)), (5, .int i29)]) dX3_fewestRulers_63 (by decide) rfl ?_
            refine J_loc (loc' := [(0, .ref a), (1, .int (pq0)), (2, .int (v2_8)), (3, .int (v3_15)), (4, .int i29), (5, .int i29)]) [1, 2, 3, 4, 0, 5] rfl ?_
            exact hX3_fewestRulers_j65_29 i29
    · show J mi_X3_fewestRulers 0 0 0 0 (g, d) 71 [(4, .int s29)] [] (_)
      refine J_iload (pc := 71) 0 dX3_fewestRulers_71 rfl ?_
      exact J_eqo (hk s29) (J_iret (pc := 73) dX3_fewestRulers_73 rfl)
  · refine J_bipush (pc := 20) (v := (-2)) dX3_fewestRulers_20 (by decide) ?_
    exact J_eqo (hk (-2)) (J_iret (pc := 22) dX3_fewestRulers_22 rfl)
def f_X4_set (m : Nat) (d : JD) (pq0 : Int32) (pq1 : Int32) (pq2 : Int32) : JD := (j_sI (j_sI (j_sI d m 0 pq0) m 1 pq1) m 2 pq2)
set_option maxRecDepth 100000 in
set_option maxHeartbeats 4000000 in
theorem s_X4_set (g : JG) (d : JD) (m : Nat) (pq0 : Int32) (pq1 : Int32) (pq2 : Int32) (hm : j_sh g m TS_MO RS_MO) : JM mi_X4_set 0 0 (g, d) [.ref m, .int pq0, .int pq1, .int pq2] (some (none, (g, (f_X4_set m d pq0 pq1 pq2)))) := by
  refine JM_of (by decide) rfl (Nat.le_of_ble_eq_true rfl) ?_
  refine J_loc (loc' := [(0, .ref m), (1, .int pq0), (2, .int pq1), (3, .int pq2)]) [0, 1, 2, 3] rfl ?_
  obtain ⟨k, hk⟩ : ∃ k : JD → Option (Option Value × JH), ∀ r9, k r9 = some (none, (g, r9)) := ⟨_, fun _ => rfl⟩
  refine J_eqo (hk (f_X4_set m d pq0 pq1 pq2)).symm ?_
  unfold f_X4_set
  refine J_aload_n (pc := 0) 0 dX4_set_0 rfl rfl ?_
  refine J_iload_n (pc := 1) 1 dX4_set_1 rfl rfl ?_
  refine J_putI (pc := 2) dX4_set_2 fl_X4_9 ft_4_0 (hm.lt 0 (by decide)) (hm.ty 0 rfl) rfl rfl rfl ?_
  refine J_aload_n (pc := 5) 0 dX4_set_5 rfl rfl ?_
  refine J_iload_n (pc := 6) 2 dX4_set_6 rfl rfl ?_
  refine J_putI (pc := 7) dX4_set_7 fl_X4_15 ft_4_1 (hm.lt 0 (by decide)) (hm.ty 0 rfl) rfl rfl rfl ?_
  refine J_aload_n (pc := 10) 0 dX4_set_10 rfl rfl ?_
  refine J_iload_n (pc := 11) 3 dX4_set_11 rfl rfl ?_
  refine J_putI (pc := 12) dX4_set_12 fl_X4_18 ft_4_2 (hm.lt 0 (by decide)) (hm.ty 0 rfl) rfl rfl rfl ?_
  exact J_eqo (hk (j_sI (j_sI (j_sI d m 0 pq0) m 1 pq1) m 2 pq2)) (J_vret (pc := 15) dX4_set_15 rfl)
def f_X4_blow_j83_4 (a : Nat) (m : Nat) (d83_4 : JD) (x2_83_4 : Int32) (x3_83_4 : Int32) : Option ((Int32 × Int32 × JD) ⊕ (Int32 × JD)) := (some (.inl (x2_83_4, x3_83_4 + 1, d83_4)))
def f_X4_blow_w4 (a : Nat) (m : Nat) (s4 : Int32 × Int32 × JD) : Option ((Int32 × Int32 × JD) ⊕ (Int32 × JD)) := (if ((s4.2.2.1 a) 4) ≤ s4.2.1 then some (.inr (s4.1, s4.2.2)) else (if (f_X3_isGuarded (s4.2.2.1 a) s4.2.1) = true then f_X4_blow_j83_4 a m s4.2.2 s4.1 s4.2.1 else (if (f_X10_hungAt ((s4.2.2.1 m) 0) s4.2.1) = 0 then f_X4_blow_j83_4 a m s4.2.2 s4.1 s4.2.1 else (if (f_X3_fallingIn ((j_sI s4.2.2 m 1 ((((75 : Int32) * ((s4.2.2.1 m) 1)) + 74) - (((75 : Int32) * ((s4.2.2.1 m) 1)) + 74) / 65537 * 65537)).1 a) ((j_sI s4.2.2 m 1 ((((75 : Int32) * ((s4.2.2.1 m) 1)) + 74) - (((75 : Int32) * ((s4.2.2.1 m) 1)) + 74) / 65537 * 65537)).1 (a + 3)) ((s4.2.2.1 m) 0) s4.2.1) ≤ (((((75 : Int32) * ((s4.2.2.1 m) 1)) + 74) - (((75 : Int32) * ((s4.2.2.1 m) 1)) + 74) / 65537 * 65537) - ((((75 : Int32) * ((s4.2.2.1 m) 1)) + 74) - (((75 : Int32) * ((s4.2.2.1 m) 1)) + 74) / 65537 * 65537) / 100 * 100) then f_X4_blow_j83_4 a m (j_sI s4.2.2 m 1 ((((75 : Int32) * ((s4.2.2.1 m) 1)) + 74) - (((75 : Int32) * ((s4.2.2.1 m) 1)) + 74) / 65537 * 65537)) s4.1 s4.2.1 else (f_X4_blow_j83_4 a m (j_sI (j_sI s4.2.2 m 1 ((((75 : Int32) * ((s4.2.2.1 m) 1)) + 74) - (((75 : Int32) * ((s4.2.2.1 m) 1)) + 74) / 65537 * 65537)) m 0 (f_X10_with ((s4.2.2.1 m) 0) s4.2.1 0)) (s4.1 + 1) s4.2.1)))))
def f_X4_blow (a : Nat) (m : Nat) (d : JD) : Option (Int32 × JD) := ((j_wh (f_X4_blow_w4 a m ) j_fuel (0, 0, d)).bind (fun (e4 : Int32 × JD) => (some (e4.1, j_sI e4.2 m 2 (((e4.2.1 m) 2) + 1)))))
set_option maxRecDepth 100000 in
set_option maxHeartbeats 4000000 in
theorem s_X4_blow (g : JG) (d : JD) (a : Nat) (m : Nat) (ha : j_sh g a TS_CL RS_CL) (hm : j_sh g m TS_MO RS_MO) : JM mi_X4_blow 0 0 (g, d) [.ref m, .ref a] ((f_X4_blow a m d ).bind (fun r9 => some (some (.int r9.1), (g, r9.2)))) := by
  refine JM_of (by decide) rfl (Nat.le_of_ble_eq_true rfl) ?_
  refine J_loc (loc' := [(0, .ref m), (1, .ref a)]) [0, 1] rfl ?_
  obtain ⟨k, hk, hk2⟩ : ∃ k : Int32 × JD → Option (Option Value × JH), (∀ r9, k r9 = some (some (.int r9.1), (g, r9.2))) ∧ (fun r9 : Int32 × JD => (some (some (.int r9.1), (g, r9.2)) : Option (Option Value × JH))) = k := ⟨_, fun _ => rfl, rfl⟩
  rw [hk2]
  unfold f_X4_blow
  refine J_iconst (pc := 0) (v := 0) dX4_blow_0 (by decide) ?_
  refine J_istore_n (pc := 1) (loc' := [(2, .int 0), (0, .ref m), (1, .ref a)]) dX4_blow_1 rfl (by decide) rfl ?_
  refine J_iconst (pc := 2) (v := 0) dX4_blow_2 (by decide) ?_
  refine J_istore_n (pc := 3) (loc' := [(3, .int 0), (2, .int 0), (0, .ref m), (1, .ref a)]) dX4_blow_3 rfl (by decide) rfl ?_
  refine J_loc (loc' := [(0, .ref m), (1, .ref a), (2, .int 0), (3, .int 0)]) [2, 3, 1, 0] rfl ?_
  refine J_whL (F := f_X4_blow_w4 a m ) (hp := fun (s4 : Int32 × Int32 × JD) => (g, s4.2.2)) (lc := fun (s4 : Int32 × Int32 × JD) => [(0, .ref m), (1, .ref a), (2, .int s4.1), (3, .int s4.2.1)]) (XJ := fun (e4 : Int32 × JD) o9 => J mi_X4_blow 0 0 0 0 (g, e4.2) 89 [(0, .ref m), (2, .int e4.1)] [] o9) (fun s4 k4 hB4 hX4 => ?_) (fun e4 => ?_) _ (0, 0, d)
  · show J mi_X4_blow 0 0 0 0 (g, s4.2.2) 4 [(0, .ref m), (1, .ref a), (2, .int s4.1), (3, .int s4.2.1)] [] ((f_X4_blow_w4 a m s4).bind k4)
    unfold f_X4_blow_w4
    have hX4_blow_j83_4 : ∀ (d83_4 : JD) (x2_83_4 : Int32) (x3_83_4 : Int32), J mi_X4_blow 0 0 0 0 (g, d83_4) 83 [(0, .ref m), (1, .ref a), (2, .int x2_83_4), (3, .int x3_83_4)] [] ((f_X4_blow_j83_4 a m d83_4 x2_83_4 x3_83_4).bind k4) := by
      intro d83_4 x2_83_4 x3_83_4
      unfold f_X4_blow_j83_4
      refine J_iinc (pc := 83) (v := x3_83_4 + 1) (loc' := [(3, .int (x3_83_4 + 1)), (0, .ref m), (1, .ref a), (2, .int x2_83_4)]) 3 dX4_blow_83 rfl rfl (by decide) rfl ?_
      refine J_goto (pc := 86) (tgt := 4) dX4_blow_86 (by decide) ?_
      refine J_loc (loc' := [(0, .ref m), (1, .ref a), (2, .int x2_83_4), (3, .int (x3_83_4 + 1))]) [1, 2, 3, 0] rfl ?_
      exact hB4 (x2_83_4, x3_83_4 + 1, d83_4)
    refine J_iload_n (pc := 4) 3 dX4_blow_4 rfl rfl ?_
    refine J_aload_n (pc := 5) 1 dX4_blow_5 rfl rfl ?_
    refine J_getI (pc := 6) dX4_blow_6 fl_X4_21 (ha.lt 0 (by decide)) (ha.ty 0 rfl) rfl ?_
    refine K_icmp_ge (K := (fun x => Option.bind x k4)) (pc := 9) (tgt := 89) dX4_blow_9 (by decide) (fun z9 => ?_) (fun z9 => ?_)
    · refine J_loc (loc' := [(0, .ref m), (2, .int s4.1)]) [0, 2] rfl ?_
      exact hX4 (s4.1, s4.2.2)
    · refine J_aload_n (pc := 12) 1 dX4_blow_12 rfl rfl ?_
      refine J_iload_n (pc := 13) 3 dX4_blow_13 rfl rfl ?_
      refine JC_pt_i (J_callV (mi := mi_X4_blow) (mj := mi_X3_isGuarded) (pc := 14) dX4_blow_14 ml_X4_26 ok_X3_isGuarded ov_X3_isGuarded ⟨Nat.le_of_ble_eq_true rfl, Nat.le_of_ble_eq_true rfl⟩ rfl (ha.lt 0 (by decide)) (ha.ty 0 rfl) rfl (s_X3_isGuarded g s4.2.2 a s4.2.1 ha) rfl (Nat.le_of_ble_eq_true rfl)) ?_
      refine K_ifne_b (K := (fun x => Option.bind x k4)) (pc := 17) (tgt := 83) dX4_blow_17 (by decide) (fun z17 => ?_) (fun z17 => ?_)
      · exact hX4_blow_j83_4 s4.2.2 s4.1 s4.2.1
      · refine J_aload_n (pc := 20) 0 dX4_blow_20 rfl rfl ?_
        refine J_getI (pc := 21) dX4_blow_21 fl_X4_9 (hm.lt 0 (by decide)) (hm.ty 0 rfl) rfl ?_
        refine J_iload_n (pc := 24) 3 dX4_blow_24 rfl rfl ?_
        refine JC_pt_i (J_callS (mi := mi_X4_blow) (mj := mi_X10_hungAt) (pc := 25) dX4_blow_25 ml_X4_30 ok_X10_hungAt os_X10_hungAt ⟨Nat.le_of_ble_eq_true rfl, Nat.le_of_ble_eq_true rfl⟩ rfl (s_X10_hungAt g s4.2.2 ((s4.2.2.1 m) 0) s4.2.1) rfl (Nat.le_of_ble_eq_true rfl)) ?_
        refine K_if_eq (K := (fun x => Option.bind x k4)) (pc := 28) (tgt := 83) dX4_blow_28 (by decide) (fun z28 => ?_) (fun z28 => ?_)
        · exact hX4_blow_j83_4 s4.2.2 s4.1 s4.2.1
        · refine J_aload_n (pc := 31) 0 dX4_blow_31 rfl rfl ?_
          refine J_bipush (pc := 32) (v := 75) dX4_blow_32 (by decide) ?_
          refine J_aload_n (pc := 34) 0 dX4_blow_34 rfl rfl ?_
          refine J_getI (pc := 35) dX4_blow_35 fl_X4_15 (hm.lt 0 (by decide)) (hm.ty 0 rfl) rfl ?_
          refine J_imul (pc := 38) dX4_blow_38 ?_
          refine J_bipush (pc := 39) (v := 74) dX4_blow_39 (by decide) ?_
          refine J_iadd (pc := 41) dX4_blow_41 ?_
          refine J_ldc (pc := 42) (v := 65537) dX4_blow_42 cn_X4_36 ?_
          refine J_irem (pc := 44) dX4_blow_44 (by decide) ?_
          refine J_putI (pc := 45) dX4_blow_45 fl_X4_15 ft_4_1 (hm.lt 0 (by decide)) (hm.ty 0 rfl) rfl rfl rfl ?_
          refine J_aload_n (pc := 48) 0 dX4_blow_48 rfl rfl ?_
          refine J_getI (pc := 49) dX4_blow_49 fl_X4_15 (hm.lt 0 (by decide)) (hm.ty 0 rfl) rfl ?_
          refine J_val (y := (((75 : Int32) * ((s4.2.2.1 m) 1)) + 74) - (((75 : Int32) * ((s4.2.2.1 m) 1)) + 74) / 65537 * 65537) (by simp [j_sI, j_sL, upd, vp_updL]) ?_
          refine J_bipush (pc := 52) (v := 100) dX4_blow_52 (by decide) ?_
          refine J_irem (pc := 54) dX4_blow_54 (by decide) ?_
          refine J_aload_n (pc := 55) 1 dX4_blow_55 rfl rfl ?_
          refine J_aload_n (pc := 56) 0 dX4_blow_56 rfl rfl ?_
          refine J_getI (pc := 57) dX4_blow_57 fl_X4_9 (hm.lt 0 (by decide)) (hm.ty 0 rfl) rfl ?_
          refine J_val (y := (s4.2.2.1 m) 0) (by simp [j_sI, j_sL, upd, vp_updL]) ?_
          refine J_iload_n (pc := 60) 3 dX4_blow_60 rfl rfl ?_
          refine JC_pt_i (J_callV (mi := mi_X4_blow) (mj := mi_X3_fallingIn) (pc := 61) dX4_blow_61 ml_X4_37 ok_X3_fallingIn ov_X3_fallingIn ⟨Nat.le_of_ble_eq_true rfl, Nat.le_of_ble_eq_true rfl⟩ rfl (ha.lt 0 (by decide)) (ha.ty 0 rfl) rfl (s_X3_fallingIn g (j_sI s4.2.2 m 1 ((((75 : Int32) * ((s4.2.2.1 m) 1)) + 74) - (((75 : Int32) * ((s4.2.2.1 m) 1)) + 74) / 65537 * 65537)) a ((s4.2.2.1 m) 0) s4.2.1 ha) rfl (Nat.le_of_ble_eq_true rfl)) ?_
          refine K_icmp_ge (K := (fun x => Option.bind x k4)) (pc := 64) (tgt := 83) dX4_blow_64 (by decide) (fun z64 => ?_) (fun z64 => ?_)
          · exact hX4_blow_j83_4 (j_sI s4.2.2 m 1 ((((75 : Int32) * ((s4.2.2.1 m) 1)) + 74) - (((75 : Int32) * ((s4.2.2.1 m) 1)) + 74) / 65537 * 65537)) s4.1 s4.2.1
          · refine J_aload_n (pc := 67) 0 dX4_blow_67 rfl rfl ?_
            refine J_aload_n (pc := 68) 0 dX4_blow_68 rfl rfl ?_
            refine J_getI (pc := 69) dX4_blow_69 fl_X4_9 (hm.lt 0 (by decide)) (hm.ty 0 rfl) rfl ?_
            refine J_val (y := (s4.2.2.1 m) 0) (by simp [j_sI, j_sL, upd, vp_updL]) ?_
            refine J_iload_n (pc := 72) 3 dX4_blow_72 rfl rfl ?_
            refine J_iconst (pc := 73) (v := 0) dX4_blow_73 (by decide) ?_
            refine JC_pt_i (J_callS (mi := mi_X4_blow) (mj := mi_X10_with) (pc := 74) dX4_blow_74 ml_X4_40 ok_X10_with os_X10_with ⟨Nat.le_of_ble_eq_true rfl, Nat.le_of_ble_eq_true rfl⟩ rfl (s_X10_with g (j_sI s4.2.2 m 1 ((((75 : Int32) * ((s4.2.2.1 m) 1)) + 74) - (((75 : Int32) * ((s4.2.2.1 m) 1)) + 74) / 65537 * 65537)) ((s4.2.2.1 m) 0) s4.2.1 0) rfl (Nat.le_of_ble_eq_true rfl)) ?_
            refine J_putI (pc := 77) dX4_blow_77 fl_X4_9 ft_4_0 (hm.lt 0 (by decide)) (hm.ty 0 rfl) rfl rfl rfl ?_
            refine J_iinc (pc := 80) (v := s4.1 + 1) (loc' := [(2, .int (s4.1 + 1)), (0, .ref m), (1, .ref a), (3, .int s4.2.1)]) 2 dX4_blow_80 rfl rfl (by decide) rfl ?_
            refine J_loc (loc' := [(0, .ref m), (1, .ref a), (2, .int (s4.1 + 1)), (3, .int s4.2.1)]) [1, 2, 0, 3] rfl ?_
            exact hX4_blow_j83_4 (j_sI (j_sI s4.2.2 m 1 ((((75 : Int32) * ((s4.2.2.1 m) 1)) + 74) - (((75 : Int32) * ((s4.2.2.1 m) 1)) + 74) / 65537 * 65537)) m 0 (f_X10_with ((s4.2.2.1 m) 0) s4.2.1 0)) (s4.1 + 1) s4.2.1
  · show J mi_X4_blow 0 0 0 0 (g, e4.2) 89 [(0, .ref m), (2, .int e4.1)] [] (_)
    refine J_aload_n (pc := 89) 0 dX4_blow_89 rfl rfl ?_
    refine J_dup (pc := 90) dX4_blow_90 rfl ?_
    refine J_getI (pc := 91) dX4_blow_91 fl_X4_18 (hm.lt 0 (by decide)) (hm.ty 0 rfl) rfl ?_
    refine J_iconst (pc := 94) (v := 1) dX4_blow_94 (by decide) ?_
    refine J_iadd (pc := 95) dX4_blow_95 ?_
    refine J_putI (pc := 96) dX4_blow_96 fl_X4_18 ft_4_2 (hm.lt 0 (by decide)) (hm.ty 0 rfl) rfl rfl rfl ?_
    refine J_iload_n (pc := 99) 1 dX4_blow_99 rfl rfl ?_
    exact J_eqo (hk (e4.1, j_sI e4.2 m 2 (((e4.2.1 m) 2) + 1))) (J_iret (pc := 100) dX4_blow_100 rfl)
def f_X5_commonDivisor_w9 (s9 : Int64 × Int64 × Int32) : Option ((Int64 × Int64 × Int32) ⊕ (Int64)) := (if 100 ≤ s9.2.2 then some (.inr s9.1) else (if (lg_cmp s9.2.1 (0 : Int64)) = 0 then some (.inr s9.1) else (if s9.2.1 = 0 then none else some (.inl (s9.2.1, s9.1 - s9.1 / s9.2.1 * s9.2.1, s9.2.2 + 1)))))
def f_X5_commonDivisor (pq0 : Int64) (pq1 : Int64) : Option (Int64) := ((j_wh (f_X5_commonDivisor_w9 ) j_fuel (pq0, pq1, 0)).bind (fun (e9 : Int64) => (some e9)))
set_option maxRecDepth 100000 in
set_option maxHeartbeats 4000000 in
theorem s_X5_commonDivisor (g : JG) (d : JD) (pq0 : Int64) (pq1 : Int64) : JM mi_X5_commonDivisor 0 0 (g, d) [.long pq0, .long pq1] ((f_X5_commonDivisor pq0 pq1).bind (fun r9 => some (some (.long r9), (g, d)))) := by
  refine JM_of (by decide) rfl (Nat.le_of_ble_eq_true rfl) ?_
  refine J_loc (loc' := [(0, .long pq0), (2, .long pq1)]) [0, 1] rfl ?_
  obtain ⟨k, hk, hk2⟩ : ∃ k : Int64 → Option (Option Value × JH), (∀ r9, k r9 = some (some (.long r9), (g, d))) ∧ (fun r9 : Int64 => (some (some (.long r9), (g, d)) : Option (Option Value × JH))) = k := ⟨_, fun _ => rfl, rfl⟩
  rw [hk2]
  unfold f_X5_commonDivisor
  refine J_lload_n (pc := 0) 0 dX5_commonDivisor_0 rfl rfl ?_
  refine J_lstore (pc := 1) (loc' := [(4, .long pq0), (0, .long pq0), (2, .long pq1)]) dX5_commonDivisor_1 (by decide) rfl ?_
  refine J_lload_n (pc := 3) 2 dX5_commonDivisor_3 rfl rfl ?_
  refine J_lstore (pc := 4) (loc' := [(6, .long pq1), (4, .long pq0), (0, .long pq0), (2, .long pq1)]) dX5_commonDivisor_4 (by decide) rfl ?_
  refine J_iconst (pc := 6) (v := 0) dX5_commonDivisor_6 (by decide) ?_
  refine J_istore (pc := 7) (loc' := [(8, .int 0), (6, .long pq1), (4, .long pq0), (0, .long pq0), (2, .long pq1)]) dX5_commonDivisor_7 (by decide) rfl ?_
  refine J_loc (loc' := [(4, .long pq0), (6, .long pq1), (8, .int 0)]) [2, 1, 0] rfl ?_
  refine J_whL (F := f_X5_commonDivisor_w9 ) (hp := fun (s9 : Int64 × Int64 × Int32) => (g, d)) (lc := fun (s9 : Int64 × Int64 × Int32) => [(4, .long s9.1), (6, .long s9.2.1), (8, .int s9.2.2)]) (XJ := fun (e9 : Int64) o9 => J mi_X5_commonDivisor 0 0 0 0 (g, d) 44 [(4, .long e9)] [] o9) (fun s9 k9 hB9 hX9 => ?_) (fun e9 => ?_) _ (pq0, pq1, 0)
  · show J mi_X5_commonDivisor 0 0 0 0 (g, d) 9 [(4, .long s9.1), (6, .long s9.2.1), (8, .int s9.2.2)] [] ((f_X5_commonDivisor_w9 s9).bind k9)
    unfold f_X5_commonDivisor_w9
    refine J_iload (pc := 9) 2 dX5_commonDivisor_9 rfl ?_
    refine J_bipush (pc := 11) (v := 100) dX5_commonDivisor_11 (by decide) ?_
    refine K_icmp_ge (K := (fun x => Option.bind x k9)) (pc := 13) (tgt := 44) dX5_commonDivisor_13 (by decide) (fun z13 => ?_) (fun z13 => ?_)
    · refine J_loc (loc' := [(4, .long s9.1)]) [0] rfl ?_
      exact hX9 s9.1
    · refine J_lload (pc := 16) 1 dX5_commonDivisor_16 rfl ?_
      refine J_lconst (pc := 18) (v := 0) dX5_commonDivisor_18 (by decide) ?_
      refine J_lcmp (pc := 19) dX5_commonDivisor_19 ?_
      refine K_if_eq (K := (fun x => Option.bind x k9)) (pc := 20) (tgt := 44) dX5_commonDivisor_20 (by decide) (fun z20 => ?_) (fun z20 => ?_)
      · refine J_loc (loc' := [(4, .long s9.1)]) [0] rfl ?_
        exact hX9 s9.1
      · refine J_lload (pc := 23) 0 dX5_commonDivisor_23 rfl ?_
        refine J_lload (pc := 25) 1 dX5_commonDivisor_25 rfl ?_
        refine J_nz (z0 := 0) (fun z27 => ?_)
        refine J_lrem (pc := 27) dX5_commonDivisor_27 z27 ?_
        refine J_lstore (pc := 28) (loc' := [(9, .long (s9.1 - s9.1 / s9.2.1 * s9.2.1)), (4, .long s9.1), (6, .long s9.2.1), (8, .int s9.2.2)]) dX5_commonDivisor_28 (by decide) rfl ?_
        refine J_lload (pc := 30) 2 dX5_commonDivisor_30 rfl ?_
        refine J_lstore (pc := 32) (loc' := [(4, .long s9.2.1), (9, .long (s9.1 - s9.1 / s9.2.1 * s9.2.1)), (6, .long s9.2.1), (8, .int s9.2.2)]) dX5_commonDivisor_32 (by decide) rfl ?_
        refine J_lload (pc := 34) 1 dX5_commonDivisor_34 rfl ?_
        refine J_lstore (pc := 36) (loc' := [(6, .long (s9.1 - s9.1 / s9.2.1 * s9.2.1)), (4, .long s9.2.1), (9, .long (s9.1 - s9.1 / s9.2.1 * s9.2.1)), (8, .int s9.2.2)]) dX5_commonDivisor_36 (by decide) rfl ?_
        refine J_iinc (pc := 38) (v := s9.2.2 + 1) (loc' := [(8, .int (s9.2.2 + 1)), (6, .long (s9.1 - s9.1 / s9.2.1 * s9.2.1)), (4, .long s9.2.1), (9, .long (s9.1 - s9.1 / s9.2.1 * s9.2.1))]) 3 dX5_commonDivisor_38 rfl rfl (by decide) rfl ?_
        refine J_goto (pc := 41) (tgt := 9) dX5_commonDivisor_41 (by decide) ?_
        refine J_loc (loc' := [(4, .long s9.2.1), (6, .long (s9.1 - s9.1 / s9.2.1 * s9.2.1)), (8, .int (s9.2.2 + 1))]) [2, 1, 0] rfl ?_
        exact hB9 (s9.2.1, s9.1 - s9.1 / s9.2.1 * s9.2.1, s9.2.2 + 1)
  · show J mi_X5_commonDivisor 0 0 0 0 (g, d) 44 [(4, .long e9)] [] (_)
    refine J_lload (pc := 44) 0 dX5_commonDivisor_44 rfl ?_
    exact J_eqo (hk e9) (J_lret (pc := 46) dX5_commonDivisor_46 rfl)
def f_X5_set_j42 (d42 : JD) (y0_42 : Int64) : Option (JD) := (some (j_sL d42 41 1 y0_42))
def f_X5_set_j23 (d23 : JD) (x3_23 : Int64) (x5_23 : Int64) (y0_23 : Int64) : Option (JD) := (if (lg_cmp x5_23 (0 : Int64)) ≤ 0 then (f_X5_set_j42 (j_sL d23 41 0 y0_23) x3_23) else (if x5_23 = 0 then none else f_X5_set_j42 (j_sL d23 41 0 y0_23) (x3_23 / x5_23)))
def f_X5_set (d : JD) (pq0 : Int64) (pq1 : Int64) : Option (JD) := ((f_X5_commonDivisor pq0 pq1).bind (fun q2 => if (lg_cmp q2 (0 : Int64)) ≤ 0 then (f_X5_set_j23 d pq1 q2 pq0) else (if q2 = 0 then none else f_X5_set_j23 d pq1 q2 (pq0 / q2))))
set_option maxRecDepth 100000 in
set_option maxHeartbeats 4000000 in
theorem s_X5_set (g : JG) (d : JD) (pq0 : Int64) (pq1 : Int64) (h0 : j_sh g 0 TS_W RS_W) : JM mi_X5_set 0 0 (g, d) [.ref 41, .long pq0, .long pq1] ((f_X5_set d pq0 pq1).bind (fun r9 => some (none, (g, r9)))) := by
  refine JM_of (by decide) rfl (Nat.le_of_ble_eq_true rfl) ?_
  refine J_loc (loc' := [(0, .ref 41), (1, .long pq0), (3, .long pq1)]) [0, 1, 2] rfl ?_
  obtain ⟨k, hk, hk2⟩ : ∃ k : JD → Option (Option Value × JH), (∀ r9, k r9 = some (none, (g, r9))) ∧ (fun r9 : JD => (some (none, (g, r9)) : Option (Option Value × JH))) = k := ⟨_, fun _ => rfl, rfl⟩
  rw [hk2]
  unfold f_X5_set
  have hX5_set_j42 : ∀ (d42 : JD) (y0_42 : Int64), J mi_X5_set 0 0 0 0 (g, d42) 42 [] [.long y0_42, .ref 41] ((f_X5_set_j42 d42 y0_42).bind k) := by
    intro d42 y0_42
    unfold f_X5_set_j42
    refine J_putL (pc := 42) dX5_set_42 fl_X5_19 ft_5_1 (h0.lt 41 (by decide)) (h0.ty 41 rfl) rfl rfl rfl ?_
    exact J_eqo (hk (j_sL d42 41 1 y0_42)) (J_vret (pc := 45) dX5_set_45 rfl)
  have hX5_set_j23 : ∀ (d23 : JD) (x3_23 : Int64) (x5_23 : Int64) (y0_23 : Int64), J mi_X5_set 0 0 0 0 (g, d23) 23 [(0, .ref 41), (3, .long x3_23), (5, .long x5_23)] [.long y0_23, .ref 41] ((f_X5_set_j23 d23 x3_23 x5_23 y0_23).bind k) := by
    intro d23 x3_23 x5_23 y0_23
    unfold f_X5_set_j23
    refine J_putL (pc := 23) dX5_set_23 fl_X5_15 ft_5_0 (h0.lt 41 (by decide)) (h0.ty 41 rfl) rfl rfl rfl ?_
    refine J_aload_n (pc := 26) 0 dX5_set_26 rfl rfl ?_
    refine J_lload (pc := 27) 2 dX5_set_27 rfl ?_
    refine J_lconst (pc := 29) (v := 0) dX5_set_29 (by decide) ?_
    refine J_lcmp (pc := 30) dX5_set_30 ?_
    refine K_if_le (K := (fun x => Option.bind x k)) (pc := 31) (tgt := 41) dX5_set_31 (by decide) (fun z31 => ?_) (fun z31 => ?_)
    · refine J_lload_n (pc := 41) 1 dX5_set_41 rfl rfl ?_
      refine J_loc (loc' := []) [] rfl ?_
      exact hX5_set_j42 (j_sL d23 41 0 y0_23) x3_23
    · refine J_lload_n (pc := 34) 1 dX5_set_34 rfl rfl ?_
      refine J_lload (pc := 35) 2 dX5_set_35 rfl ?_
      refine J_nz (z0 := 0) (fun z37 => ?_)
      refine J_ldiv (pc := 37) dX5_set_37 z37 ?_
      refine J_goto (pc := 38) (tgt := 42) dX5_set_38 (by decide) ?_
      refine J_loc (loc' := []) [] rfl ?_
      exact hX5_set_j42 (j_sL d23 41 0 y0_23) (x3_23 / x5_23)
  refine J_lload_n (pc := 0) 1 dX5_set_0 rfl rfl ?_
  refine J_lload_n (pc := 1) 2 dX5_set_1 rfl rfl ?_
  refine JC_pp_l (J_callS (mi := mi_X5_set) (mj := mi_X5_commonDivisor) (pc := 2) dX5_set_2 ml_X5_9 ok_X5_commonDivisor os_X5_commonDivisor ⟨Nat.le_of_ble_eq_true rfl, Nat.le_of_ble_eq_true rfl⟩ rfl (s_X5_commonDivisor g d pq0 pq1) rfl (Nat.le_of_ble_eq_true rfl)) (fun q2 => ?_)
  refine J_lstore (pc := 5) (loc' := [(5, .long q2), (0, .ref 41), (1, .long pq0), (3, .long pq1)]) dX5_set_5 (by decide) rfl ?_
  refine J_aload_n (pc := 7) 1 dX5_set_7 rfl rfl ?_
  refine J_lload (pc := 8) 0 dX5_set_8 rfl ?_
  refine J_lconst (pc := 10) (v := 0) dX5_set_10 (by decide) ?_
  refine J_lcmp (pc := 11) dX5_set_11 ?_
  refine K_if_le (K := (fun x => Option.bind x k)) (pc := 12) (tgt := 22) dX5_set_12 (by decide) (fun z12 => ?_) (fun z12 => ?_)
  · refine J_lload_n (pc := 22) 2 dX5_set_22 rfl rfl ?_
    refine J_loc (loc' := [(0, .ref 41), (3, .long pq1), (5, .long q2)]) [1, 3, 0] rfl ?_
    exact hX5_set_j23 d pq1 q2 pq0
  · refine J_lload_n (pc := 15) 2 dX5_set_15 rfl rfl ?_
    refine J_lload (pc := 16) 0 dX5_set_16 rfl ?_
    refine J_nz (z0 := 0) (fun z18 => ?_)
    refine J_ldiv (pc := 18) dX5_set_18 z18 ?_
    refine J_goto (pc := 19) (tgt := 23) dX5_set_19 (by decide) ?_
    refine J_loc (loc' := [(0, .ref 41), (3, .long pq1), (5, .long q2)]) [1, 3, 0] rfl ?_
    exact hX5_set_j23 d pq1 q2 (pq0 / q2)
def f_X5_setPower_j95_42 (a : Nat) (c2_42 : Int32) (c4_42 : Int32) (c5_42 : Int32) (c6_42 : Int32) (d : JD) (x7_95_42 : Int32) (x8_95_42 : Int32) (x9_95_42 : Int32) : Option ((Int32 × Int32 × Int32) ⊕ (Int32 × Int32)) := (some (.inl (x7_95_42, x8_95_42, x9_95_42 + 1)))
def f_X5_setPower_w42 (a : Nat) (c2_42 : Int32) (c4_42 : Int32) (c5_42 : Int32) (c6_42 : Int32) (d : JD) (s42 : Int32 × Int32 × Int32) : Option ((Int32 × Int32 × Int32) ⊕ (Int32 × Int32)) := (if (c5_42) < s42.2.2 then some (.inr (s42.1, s42.2.1)) else (if (s42.2.2 &&& ((c5_42) ^^^ (-1))) = 0 then (j_let (f_X3_wealthOfSet ((d).1 a) ((d).1 (a + 7)) ((d).1 (a + 8)) s42.2.2 (c2_42)) (fun v10_66_42 => if (c6_42) < ((2 : Int32) * v10_66_42) then f_X5_setPower_j95_42 a (c2_42) (c4_42) (c5_42) (c6_42) (d) (s42.1 + 1) s42.2.1 s42.2.2 else (if ((2 : Int32) * (v10_66_42 + (c4_42))) ≤ (c6_42) then f_X5_setPower_j95_42 a (c2_42) (c4_42) (c5_42) (c6_42) (d) (s42.1 + 1) s42.2.1 s42.2.2 else (f_X5_setPower_j95_42 a (c2_42) (c4_42) (c5_42) (c6_42) (d) (s42.1 + 1) (s42.2.1 + 1) s42.2.2)))) else f_X5_setPower_j95_42 a (c2_42) (c4_42) (c5_42) (c6_42) (d) s42.1 s42.2.1 s42.2.2))
def f_X5_setPower (a : Nat) (d : JD) (pq1 : Int32) (pq2 : Int32) : Option (JD) := (j_let (f_X3_wealth (d.1 a) (d.1 (a + 7)) (d.1 (a + 8)) pq2 pq1) (fun v4_6 => j_let ((f_X3_peopleWithWealth (d.1 a) (d.1 (a + 7)) (d.1 (a + 8)) pq1) &&& (((1 : Int32) <<< (pq2 &&& 31)) ^^^ (-1))) (fun v5_19 => j_let (v4_6 + (f_X3_wealthOfSet (d.1 a) (d.1 (a + 7)) (d.1 (a + 8)) v5_19 pq1)) (fun v6_31 => (j_wh (f_X5_setPower_w42 a pq1 v4_6 v5_19 v6_31 d ) j_fuel (0, 0, 0)).bind (fun (e42 : Int32 × Int32) => ((f_X5_set d e42.2.toInt64 e42.1.toInt64).bind (fun q108 => some q108)))))))
set_option maxRecDepth 100000 in
set_option maxHeartbeats 4000000 in
theorem s_X5_setPower (g : JG) (d : JD) (a : Nat) (pq1 : Int32) (pq2 : Int32) (h0 : j_sh g 0 TS_W RS_W) (ha : j_sh g a TS_CL RS_CL) : JM mi_X5_setPower 0 0 (g, d) [.ref 41, .ref a, .int pq1, .int pq2] ((f_X5_setPower a d pq1 pq2).bind (fun r9 => some (none, (g, r9)))) := by
  refine JM_of (by decide) rfl (Nat.le_of_ble_eq_true rfl) ?_
  refine J_loc (loc' := [(0, .ref 41), (1, .ref a), (2, .int pq1), (3, .int pq2)]) [0, 1, 2, 3] rfl ?_
  obtain ⟨k, hk, hk2⟩ : ∃ k : JD → Option (Option Value × JH), (∀ r9, k r9 = some (none, (g, r9))) ∧ (fun r9 : JD => (some (none, (g, r9)) : Option (Option Value × JH))) = k := ⟨_, fun _ => rfl, rfl⟩
  rw [hk2]
  unfold f_X5_setPower
  refine J_aload_n (pc := 0) 1 dX5_setPower_0 rfl rfl ?_
  refine J_iload_n (pc := 1) 3 dX5_setPower_1 rfl rfl ?_
  refine J_iload_n (pc := 2) 2 dX5_setPower_2 rfl rfl ?_
  refine JC_pt_i (J_callV (mi := mi_X5_setPower) (mj := mi_X3_wealth) (pc := 3) dX5_setPower_3 ml_X5_22 ok_X3_wealth ov_X3_wealth ⟨Nat.le_of_ble_eq_true rfl, Nat.le_of_ble_eq_true rfl⟩ rfl (ha.lt 0 (by decide)) (ha.ty 0 rfl) rfl (s_X3_wealth g d a pq2 pq1 ha) rfl (Nat.le_of_ble_eq_true rfl)) ?_
  refine J_let (K := (fun x => Option.bind x k)) (fun v4_6 ev4_6 => ?_)
  refine J_val ev4_6.symm ?_
  refine J_istore (pc := 6) (loc' := [(4, .int v4_6), (0, .ref 41), (1, .ref a), (2, .int pq1), (3, .int pq2)]) dX5_setPower_6 (by decide) rfl ?_
  refine J_aload_n (pc := 8) 2 dX5_setPower_8 rfl rfl ?_
  refine J_iload_n (pc := 9) 3 dX5_setPower_9 rfl rfl ?_
  refine JC_pt_i (J_callV (mi := mi_X5_setPower) (mj := mi_X3_peopleWithWealth) (pc := 10) dX5_setPower_10 ml_X5_28 ok_X3_peopleWithWealth ov_X3_peopleWithWealth ⟨Nat.le_of_ble_eq_true rfl, Nat.le_of_ble_eq_true rfl⟩ rfl (ha.lt 0 (by decide)) (ha.ty 0 rfl) rfl (s_X3_peopleWithWealth g d a pq1 ha) rfl (Nat.le_of_ble_eq_true rfl)) ?_
  refine J_iconst (pc := 13) (v := 1) dX5_setPower_13 (by decide) ?_
  refine J_iload_n (pc := 14) 4 dX5_setPower_14 rfl rfl ?_
  refine J_ishl (pc := 15) dX5_setPower_15 ?_
  refine J_iconst (pc := 16) (v := (-1)) dX5_setPower_16 (by decide) ?_
  refine J_ixor (pc := 17) dX5_setPower_17 ?_
  refine J_iand (pc := 18) dX5_setPower_18 ?_
  refine J_let (K := (fun x => Option.bind x k)) (fun v5_19 ev5_19 => ?_)
  refine J_val ev5_19.symm ?_
  refine J_istore (pc := 19) (loc' := [(5, .int v5_19), (4, .int v4_6), (0, .ref 41), (1, .ref a), (2, .int pq1), (3, .int pq2)]) dX5_setPower_19 (by decide) rfl ?_
  refine J_iload (pc := 21) 1 dX5_setPower_21 rfl ?_
  refine J_aload_n (pc := 23) 3 dX5_setPower_23 rfl rfl ?_
  refine J_iload (pc := 24) 0 dX5_setPower_24 rfl ?_
  refine J_iload_n (pc := 26) 4 dX5_setPower_26 rfl rfl ?_
  refine JC_pt_i (J_callV (mi := mi_X5_setPower) (mj := mi_X3_wealthOfSet) (pc := 27) dX5_setPower_27 ml_X5_32 ok_X3_wealthOfSet ov_X3_wealthOfSet ⟨Nat.le_of_ble_eq_true rfl, Nat.le_of_ble_eq_true rfl⟩ rfl (ha.lt 0 (by decide)) (ha.ty 0 rfl) rfl (s_X3_wealthOfSet g d a v5_19 pq1 ha) rfl (Nat.le_of_ble_eq_true rfl)) ?_
  refine J_iadd (pc := 30) dX5_setPower_30 ?_
  refine J_let (K := (fun x => Option.bind x k)) (fun v6_31 ev6_31 => ?_)
  refine J_val ev6_31.symm ?_
  refine J_istore (pc := 31) (loc' := [(6, .int v6_31), (5, .int v5_19), (4, .int v4_6), (0, .ref 41), (1, .ref a), (2, .int pq1), (3, .int pq2)]) dX5_setPower_31 (by decide) rfl ?_
  refine J_iconst (pc := 33) (v := 0) dX5_setPower_33 (by decide) ?_
  refine J_istore (pc := 34) (loc' := [(7, .int 0), (6, .int v6_31), (5, .int v5_19), (4, .int v4_6), (0, .ref 41), (1, .ref a), (2, .int pq1), (3, .int pq2)]) dX5_setPower_34 (by decide) rfl ?_
  refine J_iconst (pc := 36) (v := 0) dX5_setPower_36 (by decide) ?_
  refine J_istore (pc := 37) (loc' := [(8, .int 0), (7, .int 0), (6, .int v6_31), (5, .int v5_19), (4, .int v4_6), (0, .ref 41), (1, .ref a), (2, .int pq1), (3, .int pq2)]) dX5_setPower_37 (by decide) rfl ?_
  refine J_iconst (pc := 39) (v := 0) dX5_setPower_39 (by decide) ?_
  refine J_istore (pc := 40) (loc' := [(9, .int 0), (8, .int 0), (7, .int 0), (6, .int v6_31), (5, .int v5_19), (4, .int v4_6), (0, .ref 41), (1, .ref a), (2, .int pq1), (3, .int pq2)]) dX5_setPower_40 (by decide) rfl ?_
  refine J_loc (loc' := [(0, .ref 41), (1, .ref a), (2, .int pq1), (4, .int v4_6), (5, .int v5_19), (6, .int v6_31), (7, .int 0), (8, .int 0), (9, .int 0)]) [6, 7, 8, 5, 4, 3, 2, 1, 0] rfl ?_
  refine J_whL (F := f_X5_setPower_w42 a pq1 v4_6 v5_19 v6_31 d ) (hp := fun (s42 : Int32 × Int32 × Int32) => (g, d)) (lc := fun (s42 : Int32 × Int32 × Int32) => [(0, .ref 41), (1, .ref a), (2, .int (pq1)), (4, .int (v4_6)), (5, .int (v5_19)), (6, .int (v6_31)), (7, .int s42.1), (8, .int s42.2.1), (9, .int s42.2.2)]) (XJ := fun (e42 : Int32 × Int32) o9 => J mi_X5_setPower 0 0 0 0 (g, d) 101 [(0, .ref 41), (7, .int e42.1), (8, .int e42.2)] [] o9) (fun s42 k42 hB42 hX42 => ?_) (fun e42 => ?_) _ (0, 0, 0)
  · show J mi_X5_setPower 0 0 0 0 (g, d) 42 [(0, .ref 41), (1, .ref a), (2, .int (pq1)), (4, .int (v4_6)), (5, .int (v5_19)), (6, .int (v6_31)), (7, .int s42.1), (8, .int s42.2.1), (9, .int s42.2.2)] [] ((f_X5_setPower_w42 a pq1 v4_6 v5_19 v6_31 d s42).bind k42)
    unfold f_X5_setPower_w42
    have hX5_setPower_j95_42 : ∀ (x7_95_42 : Int32) (x8_95_42 : Int32) (x9_95_42 : Int32), J mi_X5_setPower 0 0 0 0 (g, d) 95 [(0, .ref 41), (1, .ref a), (2, .int (pq1)), (4, .int (v4_6)), (5, .int (v5_19)), (6, .int (v6_31)), (7, .int x7_95_42), (8, .int x8_95_42), (9, .int x9_95_42)] [] ((f_X5_setPower_j95_42 a pq1 v4_6 v5_19 v6_31 d x7_95_42 x8_95_42 x9_95_42).bind k42) := by
      intro x7_95_42 x8_95_42 x9_95_42
      unfold f_X5_setPower_j95_42
      refine J_iinc (pc := 95) (v := x9_95_42 + 1) (loc' := [(9, .int (x9_95_42 + 1)), (0, .ref 41), (1, .ref a), (2, .int (pq1)), (4, .int (v4_6)), (5, .int (v5_19)), (6, .int (v6_31)), (7, .int x7_95_42), (8, .int x8_95_42)]) 8 dX5_setPower_95 rfl rfl (by decide) rfl ?_
      refine J_goto (pc := 98) (tgt := 42) dX5_setPower_98 (by decide) ?_
      refine J_loc (loc' := [(0, .ref 41), (1, .ref a), (2, .int (pq1)), (4, .int (v4_6)), (5, .int (v5_19)), (6, .int (v6_31)), (7, .int x7_95_42), (8, .int x8_95_42), (9, .int (x9_95_42 + 1))]) [1, 2, 3, 4, 5, 6, 7, 8, 0] rfl ?_
      exact hB42 (x7_95_42, x8_95_42, x9_95_42 + 1)
    refine J_iload (pc := 42) 8 dX5_setPower_42 rfl ?_
    refine J_iload (pc := 44) 4 dX5_setPower_44 rfl ?_
    refine K_icmp_gt (K := (fun x => Option.bind x k42)) (pc := 46) (tgt := 101) dX5_setPower_46 (by decide) (fun z46 => ?_) (fun z46 => ?_)
    · refine J_loc (loc' := [(0, .ref 41), (7, .int s42.1), (8, .int s42.2.1)]) [0, 6, 7] rfl ?_
      exact hX42 (s42.1, s42.2.1)
    · refine J_iload (pc := 49) 8 dX5_setPower_49 rfl ?_
      refine J_iload (pc := 51) 4 dX5_setPower_51 rfl ?_
      refine J_iconst (pc := 53) (v := (-1)) dX5_setPower_53 (by decide) ?_
      refine J_ixor (pc := 54) dX5_setPower_54 ?_
      refine J_iand (pc := 55) dX5_setPower_55 ?_
      refine K_if_ne (K := (fun x => Option.bind x k42)) (pc := 56) (tgt := 95) dX5_setPower_56 (by decide) (fun z56 => ?_) (fun z56 => ?_)
      · exact hX5_setPower_j95_42 s42.1 s42.2.1 s42.2.2
      · refine J_aload_n (pc := 59) 1 dX5_setPower_59 rfl rfl ?_
        refine J_iload (pc := 60) 8 dX5_setPower_60 rfl ?_
        refine J_iload_n (pc := 62) 2 dX5_setPower_62 rfl rfl ?_
        refine JC_pt_i (J_callV (mi := mi_X5_setPower) (mj := mi_X3_wealthOfSet) (pc := 63) dX5_setPower_63 ml_X5_32 ok_X3_wealthOfSet ov_X3_wealthOfSet ⟨Nat.le_of_ble_eq_true rfl, Nat.le_of_ble_eq_true rfl⟩ rfl (ha.lt 0 (by decide)) (ha.ty 0 rfl) rfl (s_X3_wealthOfSet g d a s42.2.2 pq1 ha) rfl (Nat.le_of_ble_eq_true rfl)) ?_
        refine J_let (K := (fun x => Option.bind x k42)) (fun v10_66_42 ev10_66_42 => ?_)
        refine J_val ev10_66_42.symm ?_
        refine J_istore (pc := 66) (loc' := [(10, .int v10_66_42), (0, .ref 41), (1, .ref a), (2, .int (pq1)), (4, .int (v4_6)), (5, .int (v5_19)), (6, .int (v6_31)), (7, .int s42.1), (8, .int s42.2.1), (9, .int s42.2.2)]) dX5_setPower_66 (by decide) rfl ?_
        refine J_iinc (pc := 68) (v := s42.1 + 1) (loc' := [(7, .int (s42.1 + 1)), (10, .int v10_66_42), (0, .ref 41), (1, .ref a), (2, .int (pq1)), (4, .int (v4_6)), (5, .int (v5_19)), (6, .int (v6_31)), (8, .int s42.2.1), (9, .int s42.2.2)]) 7 dX5_setPower_68 rfl rfl (by decide) rfl ?_
        refine J_iconst (pc := 71) (v := 2) dX5_setPower_71 (by decide) ?_
        refine J_iload (pc := 72) 1 dX5_setPower_72 rfl ?_
        refine J_imul (pc := 74) dX5_setPower_74 ?_
        refine J_iload (pc := 75) 7 dX5_setPower_75 rfl ?_
        refine K_icmp_gt (K := (fun x => Option.bind x k42)) (pc := 77) (tgt := 95) dX5_setPower_77 (by decide) (fun z77 => ?_) (fun z77 => ?_)
        · refine J_loc (loc' := [(0, .ref 41), (1, .ref a), (2, .int (pq1)), (4, .int (v4_6)), (5, .int (v5_19)), (6, .int (v6_31)), (7, .int (s42.1 + 1)), (8, .int s42.2.1), (9, .int s42.2.2)]) [2, 3, 4, 5, 6, 7, 0, 8, 9] rfl ?_
          exact hX5_setPower_j95_42 (s42.1 + 1) s42.2.1 s42.2.2
        · refine J_iconst (pc := 80) (v := 2) dX5_setPower_80 (by decide) ?_
          refine J_iload (pc := 81) 1 dX5_setPower_81 rfl ?_
          refine J_iload (pc := 83) 5 dX5_setPower_83 rfl ?_
          refine J_iadd (pc := 85) dX5_setPower_85 ?_
          refine J_imul (pc := 86) dX5_setPower_86 ?_
          refine J_iload (pc := 87) 7 dX5_setPower_87 rfl ?_
          refine K_icmp_le (K := (fun x => Option.bind x k42)) (pc := 89) (tgt := 95) dX5_setPower_89 (by decide) (fun z89 => ?_) (fun z89 => ?_)
          · refine J_loc (loc' := [(0, .ref 41), (1, .ref a), (2, .int (pq1)), (4, .int (v4_6)), (5, .int (v5_19)), (6, .int (v6_31)), (7, .int (s42.1 + 1)), (8, .int s42.2.1), (9, .int s42.2.2)]) [2, 3, 4, 5, 6, 7, 0, 8, 9] rfl ?_
            exact hX5_setPower_j95_42 (s42.1 + 1) s42.2.1 s42.2.2
          · refine J_iinc (pc := 92) (v := s42.2.1 + 1) (loc' := [(8, .int (s42.2.1 + 1)), (7, .int (s42.1 + 1)), (10, .int v10_66_42), (0, .ref 41), (1, .ref a), (2, .int (pq1)), (4, .int (v4_6)), (5, .int (v5_19)), (6, .int (v6_31)), (9, .int s42.2.2)]) 8 dX5_setPower_92 rfl rfl (by decide) rfl ?_
            refine J_loc (loc' := [(0, .ref 41), (1, .ref a), (2, .int (pq1)), (4, .int (v4_6)), (5, .int (v5_19)), (6, .int (v6_31)), (7, .int (s42.1 + 1)), (8, .int (s42.2.1 + 1)), (9, .int s42.2.2)]) [3, 4, 5, 6, 7, 8, 1, 0, 9] rfl ?_
            exact hX5_setPower_j95_42 (s42.1 + 1) (s42.2.1 + 1) s42.2.2
  · show J mi_X5_setPower 0 0 0 0 (g, d) 101 [(0, .ref 41), (7, .int e42.1), (8, .int e42.2)] [] (_)
    refine J_aload_n (pc := 101) 0 dX5_setPower_101 rfl rfl ?_
    refine J_iload (pc := 102) 2 dX5_setPower_102 rfl ?_
    refine J_i2l (pc := 104) dX5_setPower_104 ?_
    refine J_iload (pc := 105) 1 dX5_setPower_105 rfl ?_
    refine J_i2l (pc := 107) dX5_setPower_107 ?_
    refine JC_pe_v (J_callV (mi := mi_X5_setPower) (mj := mi_X5_set) (pc := 108) dX5_setPower_108 ml_X5_35 ok_X5_set ov_X5_set ⟨Nat.le_of_ble_eq_true rfl, Nat.le_of_ble_eq_true rfl⟩ rfl (h0.lt 41 (by decide)) (h0.ty 41 rfl) rfl (s_X5_set g d e42.2.toInt64 e42.1.toInt64 h0) rfl (Nat.le_of_ble_eq_true rfl)) (fun q108 => ?_)
    exact J_eqo (hk q108) (J_vret (pc := 111) dX5_setPower_111 rfl)
