theorem J_icmp_ge_f {mi : JMI} {mc ms kc ks : Nat} {h : JH} {pc : Nat} {loc : List (Nat × Value)} {stk : List Value} {o : Option (Option Value × JH)} {x y : Int32} {off : Int} {tgt : Nat} (hd : decode mi.2.1 pc = .ok (.if_icmp .ge off, 3)) (ht : (pc : Int) + off = (tgt : Int)) (hn : ¬ y ≤ x) (kk : J mi mc ms kc ks h (pc + 3) loc stk o) : J mi mc ms kc ks h pc loc (.int y :: .int x :: stk) o := J_eqo (if_neg hn).symm (J_icmp_ge (o1 := none) hd ht (fun z => absurd z hn) (fun _ => kk))
theorem J_icmp_ge_t {mi : JMI} {mc ms kc ks : Nat} {h : JH} {pc : Nat} {loc : List (Nat × Value)} {stk : List Value} {o : Option (Option Value × JH)} {x y : Int32} {off : Int} {tgt : Nat} (hd : decode mi.2.1 pc = .ok (.if_icmp .ge off, 3)) (ht : (pc : Int) + off = (tgt : Int)) (hn : y ≤ x) (kk : J mi mc ms kc ks h tgt loc stk o) : J mi mc ms kc ks h pc loc (.int y :: .int x :: stk) o := J_eqo (if_pos hn).symm (J_icmp_ge (o2 := none) hd ht (fun _ => kk) (fun z => absurd hn z))
def c_X12_init_0 (h : JH) (u : Nat) : JH := h
def c_X12_init_1 (h : JH) (u : Nat) : JH := ((c_X12_init_0 h u).1, j_sI (c_X12_init_0 h u).2 u 0 (-1))
def c_X12_init_2 (h : JH) (u : Nat) : JH := j_mkA (c_X12_init_1 h u) u 10 (1, 4)
def c_X12_init_3 (h : JH) (u : Nat) : JH := j_mkA (c_X12_init_2 h u) u 11 (1, 4)
def c_X12_init_4 (h : JH) (u : Nat) : JH := j_mkA (c_X12_init_3 h u) u 12 (1, 6)
def c_X12_init_5 (h : JH) (u : Nat) : JH := j_mkA (c_X12_init_4 h u) u 13 (1, 6)
def c_X12_init_6 (h : JH) (u : Nat) : JH := j_mkA (c_X12_init_5 h u) u 14 (1, 6)
def c_X12_init_7 (h : JH) (u : Nat) : JH := j_mkA (c_X12_init_6 h u) u 15 (1, 6)
def c_X12_init_8 (h : JH) (u : Nat) : JH := j_mkA (c_X12_init_7 h u) u 16 (1, 6)
def c_X12_init_9 (h : JH) (u : Nat) : JH := j_mkA (c_X12_init_8 h u) u 17 (1, 4)
def c_X12_init_10 (h : JH) (u : Nat) : JH := j_mkA (c_X12_init_9 h u) u 18 (1, 4)
def c_X12_init_11 (h : JH) (u : Nat) : JH := j_mkA (c_X12_init_10 h u) u 19 (1, 4)
def c_X12_init_12 (h : JH) (u : Nat) : JH := j_mkA (c_X12_init_11 h u) u 20 (1, 5)
def c_X12_init_13 (h : JH) (u : Nat) : JH := j_mkA (c_X12_init_12 h u) u 22 (2, 15)
def c_X12_init_14 (h : JH) (u : Nat) : JH := j_mkA (c_X12_init_13 h u) u 23 (1, 15)
def c_X12_init_15 (h : JH) (u : Nat) : JH := j_mkA (c_X12_init_14 h u) u 24 (1, 15)
def c_X12_init_16 (h : JH) (u : Nat) : JH := c_X12_init_15 h u
def c_X12_init_17 (h : JH) (u : Nat) : JH := ((c_X12_init_16 h u).1, j_sI (c_X12_init_16 h u).2 (h.1.1 + 10) 0 (-1))
def c_X12_init_18 (h : JH) (u : Nat) : JH := ((c_X12_init_17 h u).1, j_sI (c_X12_init_17 h u).2 (h.1.1 + 10) 1 (-1))
def c_X12_init_19 (h : JH) (u : Nat) : JH := ((c_X12_init_18 h u).1, j_sI (c_X12_init_18 h u).2 (h.1.1 + 10) 2 (-1))
def c_X12_init_20 (h : JH) (u : Nat) : JH := ((c_X12_init_19 h u).1, j_sI (c_X12_init_19 h u).2 (h.1.1 + 10) 3 (-1))
def c_X12_init_21 (h : JH) (u : Nat) : JH := ((c_X12_init_20 h u).1, j_sI (c_X12_init_20 h u).2 (h.1.1 + 10) 4 (-1))
def c_X12_init (h : JH) (u : Nat) : JH := c_X12_init_21 h u
theorem g_X12_init (h : JH) (u : Nat) : j_gr h (c_X12_init h u) := by
  have G0 : j_gr h (c_X12_init_0 h u) := j_gr.refl h
  have G1 : j_gr h (c_X12_init_1 h u) := G0.setD _
  have G2 : j_gr h (c_X12_init_2 h u) := G1.mkA u 10 (1, 4)
  have G3 : j_gr h (c_X12_init_3 h u) := G2.mkA u 11 (1, 4)
  have G4 : j_gr h (c_X12_init_4 h u) := G3.mkA u 12 (1, 6)
  have G5 : j_gr h (c_X12_init_5 h u) := G4.mkA u 13 (1, 6)
  have G6 : j_gr h (c_X12_init_6 h u) := G5.mkA u 14 (1, 6)
  have G7 : j_gr h (c_X12_init_7 h u) := G6.mkA u 15 (1, 6)
  have G8 : j_gr h (c_X12_init_8 h u) := G7.mkA u 16 (1, 6)
  have G9 : j_gr h (c_X12_init_9 h u) := G8.mkA u 17 (1, 4)
  have G10 : j_gr h (c_X12_init_10 h u) := G9.mkA u 18 (1, 4)
  have G11 : j_gr h (c_X12_init_11 h u) := G10.mkA u 19 (1, 4)
  have G12 : j_gr h (c_X12_init_12 h u) := G11.mkA u 20 (1, 5)
  have G13 : j_gr h (c_X12_init_13 h u) := G12.mkA u 22 (2, 15)
  have G14 : j_gr h (c_X12_init_14 h u) := G13.mkA u 23 (1, 15)
  have G15 : j_gr h (c_X12_init_15 h u) := G14.mkA u 24 (1, 15)
  have G16 : j_gr h (c_X12_init_16 h u) := G15
  have G17 : j_gr h (c_X12_init_17 h u) := G16.setD _
  have G18 : j_gr h (c_X12_init_18 h u) := G17.setD _
  have G19 : j_gr h (c_X12_init_19 h u) := G18.setD _
  have G20 : j_gr h (c_X12_init_20 h u) := G19.setD _
  have G21 : j_gr h (c_X12_init_21 h u) := G20.setD _
  exact G21
theorem mkA_rf {h : JH} {u k b j : Nat} {t : Nat × Nat} (hb : b < h.1.1) (hne : j ≠ k) : (j_mkA h u k t).1.2.2.1 b j = h.1.2.2.1 b j := by
  show (if b = u ∧ j = k then _ else (if b = h.1.1 then none else h.1.2.2.1 b j)) = _
  rw [if_neg (fun z => hne z.2), if_neg (Nat.ne_of_lt hb)]
theorem mkA_rf_new {h : JH} {u k : Nat} {t : Nat × Nat} : (j_mkA h u k t).1.2.2.1 u k = some h.1.1 := if_pos ⟨rfl, rfl⟩
theorem mkA_ty_new {h : JH} {u k : Nat} {t : Nat × Nat} : (j_mkA h u k t).1.2.1 h.1.1 = t := if_pos rfl
theorem x12_had (h : JH) (u : Nat) (hu : u < h.1.1) : (c_X12_init_15 h u).1.2.2.1 u 20 = some (h.1.1 + 10) := by
  have G0 : j_gr h (c_X12_init_0 h u) := j_gr.refl h
  have G1 : j_gr h (c_X12_init_1 h u) := G0.setD _
  have G2 : j_gr h (c_X12_init_2 h u) := G1.mkA u 10 (1, 4)
  have G3 : j_gr h (c_X12_init_3 h u) := G2.mkA u 11 (1, 4)
  have G4 : j_gr h (c_X12_init_4 h u) := G3.mkA u 12 (1, 6)
  have G5 : j_gr h (c_X12_init_5 h u) := G4.mkA u 13 (1, 6)
  have G6 : j_gr h (c_X12_init_6 h u) := G5.mkA u 14 (1, 6)
  have G7 : j_gr h (c_X12_init_7 h u) := G6.mkA u 15 (1, 6)
  have G8 : j_gr h (c_X12_init_8 h u) := G7.mkA u 16 (1, 6)
  have G9 : j_gr h (c_X12_init_9 h u) := G8.mkA u 17 (1, 4)
  have G10 : j_gr h (c_X12_init_10 h u) := G9.mkA u 18 (1, 4)
  have G11 : j_gr h (c_X12_init_11 h u) := G10.mkA u 19 (1, 4)
  have G12 : j_gr h (c_X12_init_12 h u) := G11.mkA u 20 (1, 5)
  have G13 : j_gr h (c_X12_init_13 h u) := G12.mkA u 22 (2, 15)
  have G14 : j_gr h (c_X12_init_14 h u) := G13.mkA u 23 (1, 15)
  have G15 : j_gr h (c_X12_init_15 h u) := G14.mkA u 24 (1, 15)
  exact (mkA_rf (G14.lt hu) (by decide)).trans ((mkA_rf (G13.lt hu) (by decide)).trans ((mkA_rf (G12.lt hu) (by decide)).trans (mkA_rf_new)))
theorem x12_ty (h : JH) (u : Nat) : (c_X12_init_15 h u).1.2.1 (h.1.1 + 10) = (1, 5) := (mkA_ty (show h.1.1 + 10 < h.1.1 + 13 from Nat.add_lt_add_left (by decide) _)).trans ((mkA_ty (show h.1.1 + 10 < h.1.1 + 12 from Nat.add_lt_add_left (by decide) _)).trans ((mkA_ty (show h.1.1 + 10 < h.1.1 + 11 from Nat.add_lt_add_left (by decide) _)).trans (mkA_ty_new)))
theorem x12_lt (h : JH) (u : Nat) : (h.1.1 + 10) < (c_X12_init_15 h u).1.1 := show h.1.1 + 10 < h.1.1 + 14 from Nat.add_lt_add_left (by decide) _
set_option maxRecDepth 100000 in
theorem s_X12_init (h : JH) (u : Nat) (hu : u < h.1.1) (ht : h.1.2.1 u = (0, 11)) (hz : h.1.1 + 14 ≤ 1000000) : JM mi_X12_init 14 100 h [.ref u] (some (none, c_X12_init h u)) := by
  have G0 : j_gr h (c_X12_init_0 h u) := j_gr.refl h
  have G1 : j_gr h (c_X12_init_1 h u) := G0.setD _
  have G2 : j_gr h (c_X12_init_2 h u) := G1.mkA u 10 (1, 4)
  have G3 : j_gr h (c_X12_init_3 h u) := G2.mkA u 11 (1, 4)
  have G4 : j_gr h (c_X12_init_4 h u) := G3.mkA u 12 (1, 6)
  have G5 : j_gr h (c_X12_init_5 h u) := G4.mkA u 13 (1, 6)
  have G6 : j_gr h (c_X12_init_6 h u) := G5.mkA u 14 (1, 6)
  have G7 : j_gr h (c_X12_init_7 h u) := G6.mkA u 15 (1, 6)
  have G8 : j_gr h (c_X12_init_8 h u) := G7.mkA u 16 (1, 6)
  have G9 : j_gr h (c_X12_init_9 h u) := G8.mkA u 17 (1, 4)
  have G10 : j_gr h (c_X12_init_10 h u) := G9.mkA u 18 (1, 4)
  have G11 : j_gr h (c_X12_init_11 h u) := G10.mkA u 19 (1, 4)
  have G12 : j_gr h (c_X12_init_12 h u) := G11.mkA u 20 (1, 5)
  have G13 : j_gr h (c_X12_init_13 h u) := G12.mkA u 22 (2, 15)
  have G14 : j_gr h (c_X12_init_14 h u) := G13.mkA u 23 (1, 15)
  have G15 : j_gr h (c_X12_init_15 h u) := G14.mkA u 24 (1, 15)
  refine JM_of (by decide) rfl (Nat.le_of_ble_eq_true rfl) ?_
  refine J_loc (loc' := [(0, .ref u)]) [0] rfl ?_
  refine J_aload_n (pc := 0) 0 dX12_init_0 rfl rfl ?_
  refine J_objInit (pc := 1) dX12_init_1 mo_X12_3 (Nat.le_of_ble_eq_true rfl) (Nat.le_of_ble_eq_true rfl) ?_
  refine J_heap (h1 := c_X12_init_0 h u) rfl ?_
  refine J_aload_n (pc := 4) 0 dX12_init_4 rfl rfl ?_
  refine J_iconst (pc := 5) (v := (-1)) dX12_init_5 (by decide) ?_
  refine J_putI (pc := 6) dX12_init_6 fl_X12_9 ft_11_0 (G0.lt hu) (G0.ty hu ht) rfl rfl rfl ?_
  refine J_heap (h1 := c_X12_init_1 h u) rfl ?_
  refine J_aload_n (pc := 9) 0 dX12_init_9 rfl rfl ?_
  refine J_iconst (pc := 10) (v := 4) dX12_init_10 (by decide) ?_
  refine J_mkI (mi := mi_X12_init) (N := 4) (pc := 11) (kc := 13) (ks := 96) dX12_init_11 dX12_init_13 (by decide) rfl (Nat.le_of_ble_eq_true rfl) (Nat.lt_of_lt_of_le (show (c_X12_init_1 h u).1.1 < h.1.1 + 1 from Nat.le_of_eq rfl) (Nat.le_trans (Nat.add_le_add_left (Nat.le_of_ble_eq_true rfl) _) hz)) ⟨Or.inl (G1.lt hu), trivial⟩ ⟨Or.inl (G1.lt hu), trivial⟩ fl_X12_15 ft_11_10 rfl (fun q hq => by cases hq; exact ⟨rfl, (gw7 (List.mem_of_getElem? (i := 36) rfl) rfl)⟩) (G1.lt hu) (G1.ty hu ht) rfl ?_
  refine J_heap (h1 := c_X12_init_2 h u) rfl ?_
  refine J_aload_n (pc := 16) 0 dX12_init_16 rfl rfl ?_
  refine J_iconst (pc := 17) (v := 4) dX12_init_17 (by decide) ?_
  refine J_mkI (mi := mi_X12_init) (N := 4) (pc := 18) (kc := 12) (ks := 92) dX12_init_18 dX12_init_20 (by decide) rfl (Nat.le_of_ble_eq_true rfl) (Nat.lt_of_lt_of_le (show (c_X12_init_2 h u).1.1 < h.1.1 + 2 from Nat.le_of_eq rfl) (Nat.le_trans (Nat.add_le_add_left (Nat.le_of_ble_eq_true rfl) _) hz)) ⟨Or.inl (G2.lt hu), trivial⟩ ⟨Or.inl (G2.lt hu), trivial⟩ fl_X12_19 ft_11_11 rfl (fun q hq => by cases hq; exact ⟨rfl, (gw7 (List.mem_of_getElem? (i := 38) rfl) rfl)⟩) (G2.lt hu) (G2.ty hu ht) rfl ?_
  refine J_heap (h1 := c_X12_init_3 h u) rfl ?_
  refine J_aload_n (pc := 23) 0 dX12_init_23 rfl rfl ?_
  refine J_bipush (pc := 24) (v := 6) dX12_init_24 (by decide) ?_
  refine J_mkI (mi := mi_X12_init) (N := 6) (pc := 26) (kc := 11) (ks := 86) dX12_init_26 dX12_init_28 (by decide) rfl (Nat.le_of_ble_eq_true rfl) (Nat.lt_of_lt_of_le (show (c_X12_init_3 h u).1.1 < h.1.1 + 3 from Nat.le_of_eq rfl) (Nat.le_trans (Nat.add_le_add_left (Nat.le_of_ble_eq_true rfl) _) hz)) ⟨Or.inl (G3.lt hu), trivial⟩ ⟨Or.inl (G3.lt hu), trivial⟩ fl_X12_22 ft_11_12 rfl (fun q hq => by cases hq; exact ⟨rfl, (gw7 (List.mem_of_getElem? (i := 40) rfl) rfl)⟩) (G3.lt hu) (G3.ty hu ht) rfl ?_
  refine J_heap (h1 := c_X12_init_4 h u) rfl ?_
  refine J_aload_n (pc := 31) 0 dX12_init_31 rfl rfl ?_
  refine J_bipush (pc := 32) (v := 6) dX12_init_32 (by decide) ?_
  refine J_mkI (mi := mi_X12_init) (N := 6) (pc := 34) (kc := 10) (ks := 80) dX12_init_34 dX12_init_36 (by decide) rfl (Nat.le_of_ble_eq_true rfl) (Nat.lt_of_lt_of_le (show (c_X12_init_4 h u).1.1 < h.1.1 + 4 from Nat.le_of_eq rfl) (Nat.le_trans (Nat.add_le_add_left (Nat.le_of_ble_eq_true rfl) _) hz)) ⟨Or.inl (G4.lt hu), trivial⟩ ⟨Or.inl (G4.lt hu), trivial⟩ fl_X12_25 ft_11_13 rfl (fun q hq => by cases hq; exact ⟨rfl, (gw7 (List.mem_of_getElem? (i := 42) rfl) rfl)⟩) (G4.lt hu) (G4.ty hu ht) rfl ?_
  refine J_heap (h1 := c_X12_init_5 h u) rfl ?_
  refine J_aload_n (pc := 39) 0 dX12_init_39 rfl rfl ?_
  refine J_bipush (pc := 40) (v := 6) dX12_init_40 (by decide) ?_
  refine J_mkI (mi := mi_X12_init) (N := 6) (pc := 42) (kc := 9) (ks := 74) dX12_init_42 dX12_init_44 (by decide) rfl (Nat.le_of_ble_eq_true rfl) (Nat.lt_of_lt_of_le (show (c_X12_init_5 h u).1.1 < h.1.1 + 5 from Nat.le_of_eq rfl) (Nat.le_trans (Nat.add_le_add_left (Nat.le_of_ble_eq_true rfl) _) hz)) ⟨Or.inl (G5.lt hu), trivial⟩ ⟨Or.inl (G5.lt hu), trivial⟩ fl_X12_28 ft_11_14 rfl (fun q hq => by cases hq; exact ⟨rfl, (gw7 (List.mem_of_getElem? (i := 44) rfl) rfl)⟩) (G5.lt hu) (G5.ty hu ht) rfl ?_
  refine J_heap (h1 := c_X12_init_6 h u) rfl ?_
  refine J_aload_n (pc := 47) 0 dX12_init_47 rfl rfl ?_
  refine J_bipush (pc := 48) (v := 6) dX12_init_48 (by decide) ?_
  refine J_mkI (mi := mi_X12_init) (N := 6) (pc := 50) (kc := 8) (ks := 68) dX12_init_50 dX12_init_52 (by decide) rfl (Nat.le_of_ble_eq_true rfl) (Nat.lt_of_lt_of_le (show (c_X12_init_6 h u).1.1 < h.1.1 + 6 from Nat.le_of_eq rfl) (Nat.le_trans (Nat.add_le_add_left (Nat.le_of_ble_eq_true rfl) _) hz)) ⟨Or.inl (G6.lt hu), trivial⟩ ⟨Or.inl (G6.lt hu), trivial⟩ fl_X12_31 ft_11_15 rfl (fun q hq => by cases hq; exact ⟨rfl, (gw7 (List.mem_of_getElem? (i := 46) rfl) rfl)⟩) (G6.lt hu) (G6.ty hu ht) rfl ?_
  refine J_heap (h1 := c_X12_init_7 h u) rfl ?_
  refine J_aload_n (pc := 55) 0 dX12_init_55 rfl rfl ?_
  refine J_bipush (pc := 56) (v := 6) dX12_init_56 (by decide) ?_
  refine J_mkI (mi := mi_X12_init) (N := 6) (pc := 58) (kc := 7) (ks := 62) dX12_init_58 dX12_init_60 (by decide) rfl (Nat.le_of_ble_eq_true rfl) (Nat.lt_of_lt_of_le (show (c_X12_init_7 h u).1.1 < h.1.1 + 7 from Nat.le_of_eq rfl) (Nat.le_trans (Nat.add_le_add_left (Nat.le_of_ble_eq_true rfl) _) hz)) ⟨Or.inl (G7.lt hu), trivial⟩ ⟨Or.inl (G7.lt hu), trivial⟩ fl_X12_34 ft_11_16 rfl (fun q hq => by cases hq; exact ⟨rfl, (gw7 (List.mem_of_getElem? (i := 48) rfl) rfl)⟩) (G7.lt hu) (G7.ty hu ht) rfl ?_
  refine J_heap (h1 := c_X12_init_8 h u) rfl ?_
  refine J_aload_n (pc := 63) 0 dX12_init_63 rfl rfl ?_
  refine J_iconst (pc := 64) (v := 4) dX12_init_64 (by decide) ?_
  refine J_mkI (mi := mi_X12_init) (N := 4) (pc := 65) (kc := 6) (ks := 58) dX12_init_65 dX12_init_67 (by decide) rfl (Nat.le_of_ble_eq_true rfl) (Nat.lt_of_lt_of_le (show (c_X12_init_8 h u).1.1 < h.1.1 + 8 from Nat.le_of_eq rfl) (Nat.le_trans (Nat.add_le_add_left (Nat.le_of_ble_eq_true rfl) _) hz)) ⟨Or.inl (G8.lt hu), trivial⟩ ⟨Or.inl (G8.lt hu), trivial⟩ fl_X12_37 ft_11_17 rfl (fun q hq => by cases hq; exact ⟨rfl, (gw7 (List.mem_of_getElem? (i := 50) rfl) rfl)⟩) (G8.lt hu) (G8.ty hu ht) rfl ?_
  refine J_heap (h1 := c_X12_init_9 h u) rfl ?_
  refine J_aload_n (pc := 70) 0 dX12_init_70 rfl rfl ?_
  refine J_iconst (pc := 71) (v := 4) dX12_init_71 (by decide) ?_
  refine J_mkI (mi := mi_X12_init) (N := 4) (pc := 72) (kc := 5) (ks := 54) dX12_init_72 dX12_init_74 (by decide) rfl (Nat.le_of_ble_eq_true rfl) (Nat.lt_of_lt_of_le (show (c_X12_init_9 h u).1.1 < h.1.1 + 9 from Nat.le_of_eq rfl) (Nat.le_trans (Nat.add_le_add_left (Nat.le_of_ble_eq_true rfl) _) hz)) ⟨Or.inl (G9.lt hu), trivial⟩ ⟨Or.inl (G9.lt hu), trivial⟩ fl_X12_40 ft_11_18 rfl (fun q hq => by cases hq; exact ⟨rfl, (gw7 (List.mem_of_getElem? (i := 52) rfl) rfl)⟩) (G9.lt hu) (G9.ty hu ht) rfl ?_
  refine J_heap (h1 := c_X12_init_10 h u) rfl ?_
  refine J_aload_n (pc := 77) 0 dX12_init_77 rfl rfl ?_
  refine J_iconst (pc := 78) (v := 4) dX12_init_78 (by decide) ?_
  refine J_mkI (mi := mi_X12_init) (N := 4) (pc := 79) (kc := 4) (ks := 50) dX12_init_79 dX12_init_81 (by decide) rfl (Nat.le_of_ble_eq_true rfl) (Nat.lt_of_lt_of_le (show (c_X12_init_10 h u).1.1 < h.1.1 + 10 from Nat.le_of_eq rfl) (Nat.le_trans (Nat.add_le_add_left (Nat.le_of_ble_eq_true rfl) _) hz)) ⟨Or.inl (G10.lt hu), trivial⟩ ⟨Or.inl (G10.lt hu), trivial⟩ fl_X12_43 ft_11_19 rfl (fun q hq => by cases hq; exact ⟨rfl, (gw7 (List.mem_of_getElem? (i := 54) rfl) rfl)⟩) (G10.lt hu) (G10.ty hu ht) rfl ?_
  refine J_heap (h1 := c_X12_init_11 h u) rfl ?_
  refine J_aload_n (pc := 84) 0 dX12_init_84 rfl rfl ?_
  refine J_iconst (pc := 85) (v := 5) dX12_init_85 (by decide) ?_
  refine J_mkI (mi := mi_X12_init) (N := 5) (pc := 86) (kc := 3) (ks := 45) dX12_init_86 dX12_init_88 (by decide) rfl (Nat.le_of_ble_eq_true rfl) (Nat.lt_of_lt_of_le (show (c_X12_init_11 h u).1.1 < h.1.1 + 11 from Nat.le_of_eq rfl) (Nat.le_trans (Nat.add_le_add_left (Nat.le_of_ble_eq_true rfl) _) hz)) ⟨Or.inl (G11.lt hu), trivial⟩ ⟨Or.inl (G11.lt hu), trivial⟩ fl_X12_46 ft_11_20 rfl (fun q hq => by cases hq; exact ⟨rfl, (gw7 (List.mem_of_getElem? (i := 56) rfl) rfl)⟩) (G11.lt hu) (G11.ty hu ht) rfl ?_
  refine J_heap (h1 := c_X12_init_12 h u) rfl ?_
  refine J_aload_n (pc := 91) 0 dX12_init_91 rfl rfl ?_
  refine J_bipush (pc := 92) (v := 15) dX12_init_92 (by decide) ?_
  refine J_mkL (mi := mi_X12_init) (N := 15) (pc := 94) (kc := 2) (ks := 30) dX12_init_94 dX12_init_96 (by decide) rfl (Nat.le_of_ble_eq_true rfl) (Nat.lt_of_lt_of_le (show (c_X12_init_12 h u).1.1 < h.1.1 + 12 from Nat.le_of_eq rfl) (Nat.le_trans (Nat.add_le_add_left (Nat.le_of_ble_eq_true rfl) _) hz)) ⟨Or.inl (G12.lt hu), trivial⟩ ⟨Or.inl (G12.lt hu), trivial⟩ fl_X12_49 ft_11_22 rfl (fun q hq => by cases hq; exact ⟨rfl, (gw7 (List.mem_of_getElem? (i := 59) rfl) rfl)⟩) (G12.lt hu) (G12.ty hu ht) rfl ?_
  refine J_heap (h1 := c_X12_init_13 h u) rfl ?_
  refine J_aload_n (pc := 99) 0 dX12_init_99 rfl rfl ?_
  refine J_bipush (pc := 100) (v := 15) dX12_init_100 (by decide) ?_
  refine J_mkI (mi := mi_X12_init) (N := 15) (pc := 102) (kc := 1) (ks := 15) dX12_init_102 dX12_init_104 (by decide) rfl (Nat.le_of_ble_eq_true rfl) (Nat.lt_of_lt_of_le (show (c_X12_init_13 h u).1.1 < h.1.1 + 13 from Nat.le_of_eq rfl) (Nat.le_trans (Nat.add_le_add_left (Nat.le_of_ble_eq_true rfl) _) hz)) ⟨Or.inl (G13.lt hu), trivial⟩ ⟨Or.inl (G13.lt hu), trivial⟩ fl_X12_53 ft_11_23 rfl (fun q hq => by cases hq; exact ⟨rfl, (gw7 (List.mem_of_getElem? (i := 61) rfl) rfl)⟩) (G13.lt hu) (G13.ty hu ht) rfl ?_
  refine J_heap (h1 := c_X12_init_14 h u) rfl ?_
  refine J_aload_n (pc := 107) 0 dX12_init_107 rfl rfl ?_
  refine J_bipush (pc := 108) (v := 15) dX12_init_108 (by decide) ?_
  refine J_mkI (mi := mi_X12_init) (N := 15) (pc := 110) (kc := 0) (ks := 0) dX12_init_110 dX12_init_112 (by decide) rfl (Nat.le_of_ble_eq_true rfl) (Nat.lt_of_lt_of_le (show (c_X12_init_14 h u).1.1 < h.1.1 + 14 from Nat.le_of_eq rfl) (Nat.le_trans (Nat.add_le_add_left (Nat.le_of_ble_eq_true rfl) _) hz)) ⟨Or.inl (G14.lt hu), trivial⟩ ⟨Or.inl (G14.lt hu), trivial⟩ fl_X12_56 ft_11_24 rfl (fun q hq => by cases hq; exact ⟨rfl, (gw7 (List.mem_of_getElem? (i := 63) rfl) rfl)⟩) (G14.lt hu) (G14.ty hu ht) rfl ?_
  refine J_heap (h1 := c_X12_init_15 h u) rfl ?_
  refine J_iconst (pc := 115) (v := 0) dX12_init_115 (by decide) ?_
  refine J_istore_n (pc := 116) (loc' := [(1, .int 0), (0, .ref u)]) dX12_init_116 rfl (by decide) rfl ?_
  refine J_heap (h1 := c_X12_init_16 h u) rfl ?_
  refine J_iload_n (pc := 117) 0 dX12_init_117 rfl rfl ?_
  refine J_iconst (pc := 118) (v := 5) dX12_init_118 (by decide) ?_
  refine J_icmp_ge_f (pc := 119) (tgt := 135) dX12_init_119 (by decide) (by decide) ?_
  refine J_aload_n (pc := 122) 1 dX12_init_122 rfl rfl ?_
  refine J_getR (pc := 123) (b := (h.1.1 + 10)) dX12_init_123 fl_X12_46 (G15.lt hu) (G15.ty hu ht) rfl (x12_had h u hu) ?_
  refine J_iload_n (pc := 126) 0 dX12_init_126 rfl rfl ?_
  refine J_iconst (pc := 127) (v := (-1)) dX12_init_127 (by decide) ?_
  refine J_iast (pc := 128) (n := 5) dX12_init_128 (x12_lt h u) (x12_ty h u) (show ¬ ((0 : Int32) < 0 ∨ 5 ≤ (0 : Int32).toNatClampNeg) by decide) ?_
  refine J_iinc (pc := 129) (loc' := [(1, .int 1), (0, .ref u)]) 0 dX12_init_129 rfl (by decide) (by decide) rfl ?_
  refine J_goto (pc := 132) (tgt := 117) dX12_init_132 (by decide) ?_
  refine J_heap (h1 := c_X12_init_17 h u) rfl ?_
  refine J_iload_n (pc := 117) 0 dX12_init_117 rfl rfl ?_
  refine J_iconst (pc := 118) (v := 5) dX12_init_118 (by decide) ?_
  refine J_icmp_ge_f (pc := 119) (tgt := 135) dX12_init_119 (by decide) (by decide) ?_
  refine J_aload_n (pc := 122) 1 dX12_init_122 rfl rfl ?_
  refine J_getR (pc := 123) (b := (h.1.1 + 10)) dX12_init_123 fl_X12_46 (G15.lt hu) (G15.ty hu ht) rfl (x12_had h u hu) ?_
  refine J_iload_n (pc := 126) 0 dX12_init_126 rfl rfl ?_
  refine J_iconst (pc := 127) (v := (-1)) dX12_init_127 (by decide) ?_
  refine J_iast (pc := 128) (n := 5) dX12_init_128 (x12_lt h u) (x12_ty h u) (show ¬ ((1 : Int32) < 0 ∨ 5 ≤ (1 : Int32).toNatClampNeg) by decide) ?_
  refine J_iinc (pc := 129) (loc' := [(1, .int 2), (0, .ref u)]) 0 dX12_init_129 rfl (by decide) (by decide) rfl ?_
  refine J_goto (pc := 132) (tgt := 117) dX12_init_132 (by decide) ?_
  refine J_heap (h1 := c_X12_init_18 h u) rfl ?_
  refine J_iload_n (pc := 117) 0 dX12_init_117 rfl rfl ?_
  refine J_iconst (pc := 118) (v := 5) dX12_init_118 (by decide) ?_
  refine J_icmp_ge_f (pc := 119) (tgt := 135) dX12_init_119 (by decide) (by decide) ?_
  refine J_aload_n (pc := 122) 1 dX12_init_122 rfl rfl ?_
  refine J_getR (pc := 123) (b := (h.1.1 + 10)) dX12_init_123 fl_X12_46 (G15.lt hu) (G15.ty hu ht) rfl (x12_had h u hu) ?_
  refine J_iload_n (pc := 126) 0 dX12_init_126 rfl rfl ?_
  refine J_iconst (pc := 127) (v := (-1)) dX12_init_127 (by decide) ?_
  refine J_iast (pc := 128) (n := 5) dX12_init_128 (x12_lt h u) (x12_ty h u) (show ¬ ((2 : Int32) < 0 ∨ 5 ≤ (2 : Int32).toNatClampNeg) by decide) ?_
  refine J_iinc (pc := 129) (loc' := [(1, .int 3), (0, .ref u)]) 0 dX12_init_129 rfl (by decide) (by decide) rfl ?_
  refine J_goto (pc := 132) (tgt := 117) dX12_init_132 (by decide) ?_
  refine J_heap (h1 := c_X12_init_19 h u) rfl ?_
  refine J_iload_n (pc := 117) 0 dX12_init_117 rfl rfl ?_
  refine J_iconst (pc := 118) (v := 5) dX12_init_118 (by decide) ?_
  refine J_icmp_ge_f (pc := 119) (tgt := 135) dX12_init_119 (by decide) (by decide) ?_
  refine J_aload_n (pc := 122) 1 dX12_init_122 rfl rfl ?_
  refine J_getR (pc := 123) (b := (h.1.1 + 10)) dX12_init_123 fl_X12_46 (G15.lt hu) (G15.ty hu ht) rfl (x12_had h u hu) ?_
  refine J_iload_n (pc := 126) 0 dX12_init_126 rfl rfl ?_
  refine J_iconst (pc := 127) (v := (-1)) dX12_init_127 (by decide) ?_
  refine J_iast (pc := 128) (n := 5) dX12_init_128 (x12_lt h u) (x12_ty h u) (show ¬ ((3 : Int32) < 0 ∨ 5 ≤ (3 : Int32).toNatClampNeg) by decide) ?_
  refine J_iinc (pc := 129) (loc' := [(1, .int 4), (0, .ref u)]) 0 dX12_init_129 rfl (by decide) (by decide) rfl ?_
  refine J_goto (pc := 132) (tgt := 117) dX12_init_132 (by decide) ?_
  refine J_heap (h1 := c_X12_init_20 h u) rfl ?_
  refine J_iload_n (pc := 117) 0 dX12_init_117 rfl rfl ?_
  refine J_iconst (pc := 118) (v := 5) dX12_init_118 (by decide) ?_
  refine J_icmp_ge_f (pc := 119) (tgt := 135) dX12_init_119 (by decide) (by decide) ?_
  refine J_aload_n (pc := 122) 1 dX12_init_122 rfl rfl ?_
  refine J_getR (pc := 123) (b := (h.1.1 + 10)) dX12_init_123 fl_X12_46 (G15.lt hu) (G15.ty hu ht) rfl (x12_had h u hu) ?_
  refine J_iload_n (pc := 126) 0 dX12_init_126 rfl rfl ?_
  refine J_iconst (pc := 127) (v := (-1)) dX12_init_127 (by decide) ?_
  refine J_iast (pc := 128) (n := 5) dX12_init_128 (x12_lt h u) (x12_ty h u) (show ¬ ((4 : Int32) < 0 ∨ 5 ≤ (4 : Int32).toNatClampNeg) by decide) ?_
  refine J_iinc (pc := 129) (loc' := [(1, .int 5), (0, .ref u)]) 0 dX12_init_129 rfl (by decide) (by decide) rfl ?_
  refine J_goto (pc := 132) (tgt := 117) dX12_init_132 (by decide) ?_
  refine J_heap (h1 := c_X12_init_21 h u) rfl ?_
  refine J_iload_n (pc := 117) 0 dX12_init_117 rfl rfl ?_
  refine J_iconst (pc := 118) (v := 5) dX12_init_118 (by decide) ?_
  refine J_icmp_ge_t (pc := 119) (tgt := 135) dX12_init_119 (by decide) (by decide) ?_
  exact J_vret (pc := 135) dX12_init_135 rfl
