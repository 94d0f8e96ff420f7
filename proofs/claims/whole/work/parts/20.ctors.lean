/-! constructors: what grows -/
def j_gr (h h' : JH) : Prop := h.1.1 ≤ h'.1.1 ∧ (∀ b, b < h.1.1 → h'.1.2.1 b = h.1.2.1 b) ∧ h'.1.2.2.2 = h.1.2.2.2
theorem j_gr.refl (h : JH) : j_gr h h := ⟨Nat.le_refl _, fun _ _ => rfl, rfl⟩
theorem j_gr.trans {h h1 h2 : JH} (a : j_gr h h1) (b : j_gr h1 h2) : j_gr h h2 := ⟨Nat.le_trans a.1 b.1, fun x hx => (b.2.1 x (Nat.lt_of_lt_of_le hx a.1)).trans (a.2.1 x hx), b.2.2.trans a.2.2⟩
theorem j_gr.new {h h1 : JH} (a : j_gr h h1) (t : Nat × Nat) : j_gr h (j_new h1 t) := a.trans ⟨Nat.le_succ _, fun _ hb => new_ty hb, rfl⟩
theorem j_gr.setR {h h1 : JH} (a : j_gr h h1) (u k : Nat) (v : Option Nat) : j_gr h (j_sR h1.1 u k v, h1.2) := a.trans ⟨Nat.le_refl _, fun _ _ => rfl, rfl⟩
theorem j_gr.setD {h h1 : JH} (a : j_gr h h1) (d : JD) : j_gr h (h1.1, d) := a.trans ⟨Nat.le_refl _, fun _ _ => rfl, rfl⟩
theorem j_gr.mkA {h h1 : JH} (a : j_gr h h1) (u k : Nat) (t : Nat × Nat) : j_gr h (j_mkA h1 u k t) := a.trans ⟨Nat.le_succ _, fun _ hb => mkA_ty hb, rfl⟩
theorem j_gr.lt {h h' : JH} (a : j_gr h h') {b : Nat} (hb : b < h.1.1) : b < h'.1.1 := Nat.lt_of_lt_of_le hb a.1
theorem j_gr.ty {h h' : JH} (a : j_gr h h') {b : Nat} (hb : b < h.1.1) {t : Nat × Nat} (ht : h.1.2.1 b = t) : h'.1.2.1 b = t := (a.2.1 b hb).trans ht
theorem JC_i {mi : JMI} {mc ms kc ks kc' ks' : Nat} {h h' : JH} {pc : Nat} {loc : List (Nat × Value)} {st0 stk : List Value} {o : Option (Option Value × JH)} (a : j_gr h h') (h1 : j_okq h.1.1 loc) (h2 : j_okl h.1.1 stk) (c : JC mi mc ms kc ks kc' ks' h pc loc st0 stk (some (none, h'))) (kk : J mi mc ms kc' ks' h' (pc + 3) loc stk o) : J mi mc ms kc ks h pc loc st0 o := by
  have H := c (fun _ => o) (fun r hr => by cases hr; exact ⟨a.2.2, Or.inr ⟨h1, h2⟩⟩) (fun r hr => by cases hr; exact kk)
  exact H
theorem nl_X3_36 : j_NL RX3 36 0 8 := ⟨_, rfl, rfl, (gw1 (List.mem_of_getElem? (i := 82) rfl) rfl), (gw1 (List.mem_of_getElem? (i := 83) rfl) rfl), (gw1 (List.mem_of_getElem? (i := 5) rfl) rfl)⟩
theorem nl_X6_9 : j_NL RX6 9 3 17 := ⟨_, rfl, rfl, (gw1 (List.mem_of_getElem? (i := 76) rfl) rfl), (gw1 (List.mem_of_getElem? (i := 77) rfl) rfl), (gw1 (List.mem_of_getElem? (i := 4) rfl) rfl)⟩
theorem nl_X11_7 : j_NL RX11 7 9 8 := ⟨_, rfl, rfl, (gw1 (List.mem_of_getElem? (i := 33) rfl) rfl), (gw1 (List.mem_of_getElem? (i := 34) rfl) rfl), (gw1 (List.mem_of_getElem? (i := 2) rfl) rfl)⟩
theorem nl_X11_16 : j_NL RX11 16 6 9 := ⟨_, rfl, rfl, (gw1 (List.mem_of_getElem? (i := 70) rfl) rfl), (gw1 (List.mem_of_getElem? (i := 71) rfl) rfl), (gw1 (List.mem_of_getElem? (i := 3) rfl) rfl)⟩
theorem nl_X11_25 : j_NL RX11 25 4 3 := ⟨_, rfl, rfl, (gw2 (List.mem_of_getElem? (i := 0) rfl) rfl), (gw2 (List.mem_of_getElem? (i := 1) rfl) rfl), (gw1 (List.mem_of_getElem? (i := 6) rfl) rfl)⟩
theorem nl_X11_35 : j_NL RX11 35 7 5 := ⟨_, rfl, rfl, (gw2 (List.mem_of_getElem? (i := 22) rfl) rfl), (gw2 (List.mem_of_getElem? (i := 23) rfl) rfl), (gw1 (List.mem_of_getElem? (i := 7) rfl) rfl)⟩
theorem nl_X11_47 : j_NL RX11 47 1 7 := ⟨_, rfl, rfl, (gw2 (List.mem_of_getElem? (i := 45) rfl) rfl), (gw2 (List.mem_of_getElem? (i := 46) rfl) rfl), (gw1 (List.mem_of_getElem? (i := 8) rfl) rfl)⟩
theorem nl_X11_54 : j_NL RX11 54 8 5 := ⟨_, rfl, rfl, (gw2 (List.mem_of_getElem? (i := 74) rfl) rfl), (gw2 (List.mem_of_getElem? (i := 75) rfl) rfl), (gw1 (List.mem_of_getElem? (i := 9) rfl) rfl)⟩
theorem nl_X11_61 : j_NL RX11 61 2 3 := ⟨_, rfl, rfl, (gw2 (List.mem_of_getElem? (i := 100) rfl) rfl), (gw2 (List.mem_of_getElem? (i := 101) rfl) rfl), (gw1 (List.mem_of_getElem? (i := 10) rfl) rfl)⟩
theorem nl_X11_68 : j_NL RX11 68 5 2 := ⟨_, rfl, rfl, (gw2 (List.mem_of_getElem? (i := 118) rfl) rfl), (gw2 (List.mem_of_getElem? (i := 119) rfl) rfl), (gw1 (List.mem_of_getElem? (i := 11) rfl) rfl)⟩
theorem nl_X11_75 : j_NL RX11 75 3 17 := ⟨_, rfl, rfl, (gw2 (List.mem_of_getElem? (i := 133) rfl) rfl), (gw1 (List.mem_of_getElem? (i := 77) rfl) rfl), (gw1 (List.mem_of_getElem? (i := 4) rfl) rfl)⟩
def c_X0_init_0 (h : JH) (u : Nat) : JH := h
def c_X0_init_1 (h : JH) (u : Nat) : JH := j_mkA (c_X0_init_0 h u) u 1 (1, 4)
def c_X0_init_2 (h : JH) (u : Nat) : JH := j_mkA (c_X0_init_1 h u) u 2 (1, 4)
def c_X0_init_3 (h : JH) (u : Nat) : JH := j_mkA (c_X0_init_2 h u) u 3 (1, 4)
def c_X0_init_4 (h : JH) (u : Nat) : JH := j_mkA (c_X0_init_3 h u) u 5 (1, 4)
def c_X0_init_5 (h : JH) (u : Nat) : JH := j_mkA (c_X0_init_4 h u) u 7 (1, 5)
def c_X0_init (h : JH) (u : Nat) : JH := c_X0_init_5 h u
theorem g_X0_init (h : JH) (u : Nat) : j_gr h (c_X0_init h u) := by
  have G0 : j_gr h (c_X0_init_0 h u) := j_gr.refl h
  have G1 : j_gr h (c_X0_init_1 h u) := G0.mkA u 1 (1, 4)
  have G2 : j_gr h (c_X0_init_2 h u) := G1.mkA u 2 (1, 4)
  have G3 : j_gr h (c_X0_init_3 h u) := G2.mkA u 3 (1, 4)
  have G4 : j_gr h (c_X0_init_4 h u) := G3.mkA u 5 (1, 4)
  have G5 : j_gr h (c_X0_init_5 h u) := G4.mkA u 7 (1, 5)
  exact G5
set_option maxRecDepth 100000 in
theorem s_X0_init (h : JH) (u : Nat) (hu : u < h.1.1) (ht : h.1.2.1 u = (0, 0)) (hz : h.1.1 + 5 ≤ 1000000) : JM mi_X0_init 5 21 h [.ref u] (some (none, c_X0_init h u)) := by
  have G0 : j_gr h (c_X0_init_0 h u) := j_gr.refl h
  have G1 : j_gr h (c_X0_init_1 h u) := G0.mkA u 1 (1, 4)
  have G2 : j_gr h (c_X0_init_2 h u) := G1.mkA u 2 (1, 4)
  have G3 : j_gr h (c_X0_init_3 h u) := G2.mkA u 3 (1, 4)
  have G4 : j_gr h (c_X0_init_4 h u) := G3.mkA u 5 (1, 4)
  have G5 : j_gr h (c_X0_init_5 h u) := G4.mkA u 7 (1, 5)
  refine JM_of (by decide) rfl (Nat.le_of_ble_eq_true rfl) ?_
  refine J_loc (loc' := [(0, .ref u)]) [0] rfl ?_
  refine J_aload_n (pc := 0) 0 dX0_init_0 rfl rfl ?_
  refine J_objInit (pc := 1) dX0_init_1 mo_X0_3 (Nat.le_of_ble_eq_true rfl) (Nat.le_of_ble_eq_true rfl) ?_
  refine J_heap (h1 := c_X0_init_0 h u) rfl ?_
  refine J_aload_n (pc := 4) 0 dX0_init_4 rfl rfl ?_
  refine J_iconst (pc := 5) (v := 4) dX0_init_5 (by decide) ?_
  refine J_mkI (mi := mi_X0_init) (N := 4) (pc := 6) (kc := 4) (ks := 17) dX0_init_6 dX0_init_8 (by decide) rfl (Nat.le_of_ble_eq_true rfl) (Nat.lt_of_lt_of_le (show (c_X0_init_0 h u).1.1 < h.1.1 + 1 from Nat.le_of_eq rfl) (Nat.le_trans (Nat.add_le_add_left (Nat.le_of_ble_eq_true rfl) _) hz)) ⟨Or.inl (G0.lt hu), trivial⟩ ⟨Or.inl (G0.lt hu), trivial⟩ fl_X0_9 ft_0_1 rfl (fun q hq => by cases hq; exact ⟨rfl, (gw1 (List.mem_of_getElem? (i := 92) rfl) rfl)⟩) (G0.lt hu) (G0.ty hu ht) rfl ?_
  refine J_heap (h1 := c_X0_init_1 h u) rfl ?_
  refine J_aload_n (pc := 11) 0 dX0_init_11 rfl rfl ?_
  refine J_iconst (pc := 12) (v := 4) dX0_init_12 (by decide) ?_
  refine J_mkI (mi := mi_X0_init) (N := 4) (pc := 13) (kc := 3) (ks := 13) dX0_init_13 dX0_init_15 (by decide) rfl (Nat.le_of_ble_eq_true rfl) (Nat.lt_of_lt_of_le (show (c_X0_init_1 h u).1.1 < h.1.1 + 2 from Nat.le_of_eq rfl) (Nat.le_trans (Nat.add_le_add_left (Nat.le_of_ble_eq_true rfl) _) hz)) ⟨Or.inl (G1.lt hu), trivial⟩ ⟨Or.inl (G1.lt hu), trivial⟩ fl_X0_15 ft_0_2 rfl (fun q hq => by cases hq; exact ⟨rfl, (gw1 (List.mem_of_getElem? (i := 93) rfl) rfl)⟩) (G1.lt hu) (G1.ty hu ht) rfl ?_
  refine J_heap (h1 := c_X0_init_2 h u) rfl ?_
  refine J_aload_n (pc := 18) 0 dX0_init_18 rfl rfl ?_
  refine J_iconst (pc := 19) (v := 4) dX0_init_19 (by decide) ?_
  refine J_mkI (mi := mi_X0_init) (N := 4) (pc := 20) (kc := 2) (ks := 9) dX0_init_20 dX0_init_22 (by decide) rfl (Nat.le_of_ble_eq_true rfl) (Nat.lt_of_lt_of_le (show (c_X0_init_2 h u).1.1 < h.1.1 + 3 from Nat.le_of_eq rfl) (Nat.le_trans (Nat.add_le_add_left (Nat.le_of_ble_eq_true rfl) _) hz)) ⟨Or.inl (G2.lt hu), trivial⟩ ⟨Or.inl (G2.lt hu), trivial⟩ fl_X0_18 ft_0_3 rfl (fun q hq => by cases hq; exact ⟨rfl, (gw1 (List.mem_of_getElem? (i := 94) rfl) rfl)⟩) (G2.lt hu) (G2.ty hu ht) rfl ?_
  refine J_heap (h1 := c_X0_init_3 h u) rfl ?_
  refine J_aload_n (pc := 25) 0 dX0_init_25 rfl rfl ?_
  refine J_iconst (pc := 26) (v := 4) dX0_init_26 (by decide) ?_
  refine J_mkI (mi := mi_X0_init) (N := 4) (pc := 27) (kc := 1) (ks := 5) dX0_init_27 dX0_init_29 (by decide) rfl (Nat.le_of_ble_eq_true rfl) (Nat.lt_of_lt_of_le (show (c_X0_init_3 h u).1.1 < h.1.1 + 4 from Nat.le_of_eq rfl) (Nat.le_trans (Nat.add_le_add_left (Nat.le_of_ble_eq_true rfl) _) hz)) ⟨Or.inl (G3.lt hu), trivial⟩ ⟨Or.inl (G3.lt hu), trivial⟩ fl_X0_21 ft_0_5 rfl (fun q hq => by cases hq; exact ⟨rfl, (gw1 (List.mem_of_getElem? (i := 99) rfl) rfl)⟩) (G3.lt hu) (G3.ty hu ht) rfl ?_
  refine J_heap (h1 := c_X0_init_4 h u) rfl ?_
  refine J_aload_n (pc := 32) 0 dX0_init_32 rfl rfl ?_
  refine J_iconst (pc := 33) (v := 5) dX0_init_33 (by decide) ?_
  refine J_mkI (mi := mi_X0_init) (N := 5) (pc := 34) (kc := 0) (ks := 0) dX0_init_34 dX0_init_36 (by decide) rfl (Nat.le_of_ble_eq_true rfl) (Nat.lt_of_lt_of_le (show (c_X0_init_4 h u).1.1 < h.1.1 + 5 from Nat.le_of_eq rfl) (Nat.le_trans (Nat.add_le_add_left (Nat.le_of_ble_eq_true rfl) _) hz)) ⟨Or.inl (G4.lt hu), trivial⟩ ⟨Or.inl (G4.lt hu), trivial⟩ fl_X0_24 ft_0_7 rfl (fun q hq => by cases hq; exact ⟨rfl, (gw1 (List.mem_of_getElem? (i := 103) rfl) rfl)⟩) (G4.lt hu) (G4.ty hu ht) rfl ?_
  refine J_heap (h1 := c_X0_init_5 h u) rfl ?_
  exact J_vret (pc := 39) dX0_init_39 rfl
def c_X1_init_0 (h : JH) (u : Nat) : JH := h
def c_X1_init_1 (h : JH) (u : Nat) : JH := j_mkA (c_X1_init_0 h u) u 0 (1, 729)
def c_X1_init_2 (h : JH) (u : Nat) : JH := j_mkA (c_X1_init_1 h u) u 1 (1, 729)
def c_X1_init_3 (h : JH) (u : Nat) : JH := j_mkA (c_X1_init_2 h u) u 2 (1, 729)
def c_X1_init_4 (h : JH) (u : Nat) : JH := j_mkA (c_X1_init_3 h u) u 3 (1, 729)
def c_X1_init_5 (h : JH) (u : Nat) : JH := j_mkA (c_X1_init_4 h u) u 4 (1, 128)
def c_X1_init_6 (h : JH) (u : Nat) : JH := ((c_X1_init_5 h u).1, j_sI (c_X1_init_5 h u).2 u 5 (-1))
def c_X1_init (h : JH) (u : Nat) : JH := c_X1_init_6 h u
theorem g_X1_init (h : JH) (u : Nat) : j_gr h (c_X1_init h u) := by
  have G0 : j_gr h (c_X1_init_0 h u) := j_gr.refl h
  have G1 : j_gr h (c_X1_init_1 h u) := G0.mkA u 0 (1, 729)
  have G2 : j_gr h (c_X1_init_2 h u) := G1.mkA u 1 (1, 729)
  have G3 : j_gr h (c_X1_init_3 h u) := G2.mkA u 2 (1, 729)
  have G4 : j_gr h (c_X1_init_4 h u) := G3.mkA u 3 (1, 729)
  have G5 : j_gr h (c_X1_init_5 h u) := G4.mkA u 4 (1, 128)
  have G6 : j_gr h (c_X1_init_6 h u) := G5.setD _
  exact G6
set_option maxRecDepth 100000 in
theorem s_X1_init (h : JH) (u : Nat) (hu : u < h.1.1) (ht : h.1.2.1 u = (0, 1)) (hz : h.1.1 + 5 ≤ 1000000) : JM mi_X1_init 5 3044 h [.ref u] (some (none, c_X1_init h u)) := by
  have G0 : j_gr h (c_X1_init_0 h u) := j_gr.refl h
  have G1 : j_gr h (c_X1_init_1 h u) := G0.mkA u 0 (1, 729)
  have G2 : j_gr h (c_X1_init_2 h u) := G1.mkA u 1 (1, 729)
  have G3 : j_gr h (c_X1_init_3 h u) := G2.mkA u 2 (1, 729)
  have G4 : j_gr h (c_X1_init_4 h u) := G3.mkA u 3 (1, 729)
  have G5 : j_gr h (c_X1_init_5 h u) := G4.mkA u 4 (1, 128)
  have G6 : j_gr h (c_X1_init_6 h u) := G5.setD _
  refine JM_of (by decide) rfl (Nat.le_of_ble_eq_true rfl) ?_
  refine J_loc (loc' := [(0, .ref u)]) [0] rfl ?_
  refine J_aload_n (pc := 0) 0 dX1_init_0 rfl rfl ?_
  refine J_objInit (pc := 1) dX1_init_1 mo_X1_3 (Nat.le_of_ble_eq_true rfl) (Nat.le_of_ble_eq_true rfl) ?_
  refine J_heap (h1 := c_X1_init_0 h u) rfl ?_
  refine J_aload_n (pc := 4) 0 dX1_init_4 rfl rfl ?_
  refine J_sipush (pc := 5) (v := 729) dX1_init_5 (by decide) ?_
  refine J_mkI (mi := mi_X1_init) (N := 729) (pc := 8) (kc := 4) (ks := 2315) dX1_init_8 dX1_init_10 (by decide) rfl (Nat.le_of_ble_eq_true rfl) (Nat.lt_of_lt_of_le (show (c_X1_init_0 h u).1.1 < h.1.1 + 1 from Nat.le_of_eq rfl) (Nat.le_trans (Nat.add_le_add_left (Nat.le_of_ble_eq_true rfl) _) hz)) ⟨Or.inl (G0.lt hu), trivial⟩ ⟨Or.inl (G0.lt hu), trivial⟩ fl_X1_11 ft_1_0 rfl (fun q hq => by cases hq; exact ⟨rfl, (gw2 (List.mem_of_getElem? (i := 51) rfl) rfl)⟩) (G0.lt hu) (G0.ty hu ht) rfl ?_
  refine J_heap (h1 := c_X1_init_1 h u) rfl ?_
  refine J_aload_n (pc := 13) 0 dX1_init_13 rfl rfl ?_
  refine J_sipush (pc := 14) (v := 729) dX1_init_14 (by decide) ?_
  refine J_mkI (mi := mi_X1_init) (N := 729) (pc := 17) (kc := 3) (ks := 1586) dX1_init_17 dX1_init_19 (by decide) rfl (Nat.le_of_ble_eq_true rfl) (Nat.lt_of_lt_of_le (show (c_X1_init_1 h u).1.1 < h.1.1 + 2 from Nat.le_of_eq rfl) (Nat.le_trans (Nat.add_le_add_left (Nat.le_of_ble_eq_true rfl) _) hz)) ⟨Or.inl (G1.lt hu), trivial⟩ ⟨Or.inl (G1.lt hu), trivial⟩ fl_X1_15 ft_1_1 rfl (fun q hq => by cases hq; exact ⟨rfl, (gw2 (List.mem_of_getElem? (i := 52) rfl) rfl)⟩) (G1.lt hu) (G1.ty hu ht) rfl ?_
  refine J_heap (h1 := c_X1_init_2 h u) rfl ?_
  refine J_aload_n (pc := 22) 0 dX1_init_22 rfl rfl ?_
  refine J_sipush (pc := 23) (v := 729) dX1_init_23 (by decide) ?_
  refine J_mkI (mi := mi_X1_init) (N := 729) (pc := 26) (kc := 2) (ks := 857) dX1_init_26 dX1_init_28 (by decide) rfl (Nat.le_of_ble_eq_true rfl) (Nat.lt_of_lt_of_le (show (c_X1_init_2 h u).1.1 < h.1.1 + 3 from Nat.le_of_eq rfl) (Nat.le_trans (Nat.add_le_add_left (Nat.le_of_ble_eq_true rfl) _) hz)) ⟨Or.inl (G2.lt hu), trivial⟩ ⟨Or.inl (G2.lt hu), trivial⟩ fl_X1_18 ft_1_2 rfl (fun q hq => by cases hq; exact ⟨rfl, (gw2 (List.mem_of_getElem? (i := 53) rfl) rfl)⟩) (G2.lt hu) (G2.ty hu ht) rfl ?_
  refine J_heap (h1 := c_X1_init_3 h u) rfl ?_
  refine J_aload_n (pc := 31) 0 dX1_init_31 rfl rfl ?_
  refine J_sipush (pc := 32) (v := 729) dX1_init_32 (by decide) ?_
  refine J_mkI (mi := mi_X1_init) (N := 729) (pc := 35) (kc := 1) (ks := 128) dX1_init_35 dX1_init_37 (by decide) rfl (Nat.le_of_ble_eq_true rfl) (Nat.lt_of_lt_of_le (show (c_X1_init_3 h u).1.1 < h.1.1 + 4 from Nat.le_of_eq rfl) (Nat.le_trans (Nat.add_le_add_left (Nat.le_of_ble_eq_true rfl) _) hz)) ⟨Or.inl (G3.lt hu), trivial⟩ ⟨Or.inl (G3.lt hu), trivial⟩ fl_X1_21 ft_1_3 rfl (fun q hq => by cases hq; exact ⟨rfl, (gw2 (List.mem_of_getElem? (i := 54) rfl) rfl)⟩) (G3.lt hu) (G3.ty hu ht) rfl ?_
  refine J_heap (h1 := c_X1_init_4 h u) rfl ?_
  refine J_aload_n (pc := 40) 0 dX1_init_40 rfl rfl ?_
  refine J_sipush (pc := 41) (v := 128) dX1_init_41 (by decide) ?_
  refine J_mkI (mi := mi_X1_init) (N := 128) (pc := 44) (kc := 0) (ks := 0) dX1_init_44 dX1_init_46 (by decide) rfl (Nat.le_of_ble_eq_true rfl) (Nat.lt_of_lt_of_le (show (c_X1_init_4 h u).1.1 < h.1.1 + 5 from Nat.le_of_eq rfl) (Nat.le_trans (Nat.add_le_add_left (Nat.le_of_ble_eq_true rfl) _) hz)) ⟨Or.inl (G4.lt hu), trivial⟩ ⟨Or.inl (G4.lt hu), trivial⟩ fl_X1_26 ft_1_4 rfl (fun q hq => by cases hq; exact ⟨rfl, (gw2 (List.mem_of_getElem? (i := 55) rfl) rfl)⟩) (G4.lt hu) (G4.ty hu ht) rfl ?_
  refine J_heap (h1 := c_X1_init_5 h u) rfl ?_
  refine J_aload_n (pc := 49) 0 dX1_init_49 rfl rfl ?_
  refine J_iconst (pc := 50) (v := (-1)) dX1_init_50 (by decide) ?_
  refine J_putI (pc := 51) dX1_init_51 fl_X1_29 ft_1_5 (G5.lt hu) (G5.ty hu ht) rfl rfl rfl ?_
  refine J_heap (h1 := c_X1_init_6 h u) rfl ?_
  exact J_vret (pc := 54) dX1_init_54 rfl
def c_X2_init_0 (h : JH) (u : Nat) : JH := h
def c_X2_init_1 (h : JH) (u : Nat) : JH := j_mkA (c_X2_init_0 h u) u 1 (1, 81)
def c_X2_init (h : JH) (u : Nat) : JH := c_X2_init_1 h u
theorem g_X2_init (h : JH) (u : Nat) : j_gr h (c_X2_init h u) := by
  have G0 : j_gr h (c_X2_init_0 h u) := j_gr.refl h
  have G1 : j_gr h (c_X2_init_1 h u) := G0.mkA u 1 (1, 81)
  exact G1
set_option maxRecDepth 100000 in
theorem s_X2_init (h : JH) (u : Nat) (hu : u < h.1.1) (ht : h.1.2.1 u = (0, 2)) (hz : h.1.1 + 1 ≤ 1000000) : JM mi_X2_init 1 81 h [.ref u] (some (none, c_X2_init h u)) := by
  have G0 : j_gr h (c_X2_init_0 h u) := j_gr.refl h
  have G1 : j_gr h (c_X2_init_1 h u) := G0.mkA u 1 (1, 81)
  refine JM_of (by decide) rfl (Nat.le_of_ble_eq_true rfl) ?_
  refine J_loc (loc' := [(0, .ref u)]) [0] rfl ?_
  refine J_aload_n (pc := 0) 0 dX2_init_0 rfl rfl ?_
  refine J_objInit (pc := 1) dX2_init_1 mo_X2_3 (Nat.le_of_ble_eq_true rfl) (Nat.le_of_ble_eq_true rfl) ?_
  refine J_heap (h1 := c_X2_init_0 h u) rfl ?_
  refine J_aload_n (pc := 4) 0 dX2_init_4 rfl rfl ?_
  refine J_bipush (pc := 5) (v := 81) dX2_init_5 (by decide) ?_
  refine J_mkI (mi := mi_X2_init) (N := 81) (pc := 7) (kc := 0) (ks := 0) dX2_init_7 dX2_init_9 (by decide) rfl (Nat.le_of_ble_eq_true rfl) (Nat.lt_of_lt_of_le (show (c_X2_init_0 h u).1.1 < h.1.1 + 1 from Nat.le_of_eq rfl) (Nat.le_trans (Nat.add_le_add_left (Nat.le_of_ble_eq_true rfl) _) hz)) ⟨Or.inl (G0.lt hu), trivial⟩ ⟨Or.inl (G0.lt hu), trivial⟩ fl_X2_11 ft_2_1 rfl (fun q hq => by cases hq; exact ⟨rfl, (gw2 (List.mem_of_getElem? (i := 107) rfl) rfl)⟩) (G0.lt hu) (G0.ty hu ht) rfl ?_
  refine J_heap (h1 := c_X2_init_1 h u) rfl ?_
  exact J_vret (pc := 12) dX2_init_12 rfl
def c_X3_init_0 (h : JH) (u : Nat) : JH := h
def c_X3_init_1 (h : JH) (u : Nat) : JH := j_mkA (c_X3_init_0 h u) u 8 (1, 4)
def c_X3_init_2 (h : JH) (u : Nat) : JH := j_mkA (c_X3_init_1 h u) u 9 (1, 4)
def c_X3_init_3 (h : JH) (u : Nat) : JH := j_mkA (c_X3_init_2 h u) u 10 (1, 6)
def c_X3_init_4 (h : JH) (u : Nat) : JH := j_mkA (c_X3_init_3 h u) u 11 (1, 6)
def c_X3_init_5 (h : JH) (u : Nat) : JH := j_mkA (c_X3_init_4 h u) u 12 (1, 6)
def c_X3_init_6 (h : JH) (u : Nat) : JH := j_mkA (c_X3_init_5 h u) u 13 (1, 6)
def c_X3_init_7 (h : JH) (u : Nat) : JH := j_mkA (c_X3_init_6 h u) u 14 (1, 24)
def c_X3_init_8 (h : JH) (u : Nat) : JH := j_mkA (c_X3_init_7 h u) u 15 (1, 24)
def c_X3_init_9 (h : JH) (u : Nat) : JH := j_new (c_X3_init_8 h u) (0, 0)
def c_X3_init_10 (h : JH) (u : Nat) : JH := c_X0_init (c_X3_init_9 h u) (h.1.1 + 8)
def c_X3_init_11 (h : JH) (u : Nat) : JH := (j_sR (c_X3_init_10 h u).1 u 16 (some (h.1.1 + 8)), (c_X3_init_10 h u).2)
def c_X3_init (h : JH) (u : Nat) : JH := c_X3_init_11 h u
theorem g_X3_init (h : JH) (u : Nat) : j_gr h (c_X3_init h u) := by
  have G0 : j_gr h (c_X3_init_0 h u) := j_gr.refl h
  have G1 : j_gr h (c_X3_init_1 h u) := G0.mkA u 8 (1, 4)
  have G2 : j_gr h (c_X3_init_2 h u) := G1.mkA u 9 (1, 4)
  have G3 : j_gr h (c_X3_init_3 h u) := G2.mkA u 10 (1, 6)
  have G4 : j_gr h (c_X3_init_4 h u) := G3.mkA u 11 (1, 6)
  have G5 : j_gr h (c_X3_init_5 h u) := G4.mkA u 12 (1, 6)
  have G6 : j_gr h (c_X3_init_6 h u) := G5.mkA u 13 (1, 6)
  have G7 : j_gr h (c_X3_init_7 h u) := G6.mkA u 14 (1, 24)
  have G8 : j_gr h (c_X3_init_8 h u) := G7.mkA u 15 (1, 24)
  have G9 : j_gr h (c_X3_init_9 h u) := G8.new (0, 0)
  have G10 : j_gr h (c_X3_init_10 h u) := G9.trans (g_X0_init (c_X3_init_9 h u) (h.1.1 + 8))
  have G11 : j_gr h (c_X3_init_11 h u) := G10.setR u 16 _
  exact G11
set_option maxRecDepth 100000 in
theorem s_X3_init (h : JH) (u : Nat) (hu : u < h.1.1) (ht : h.1.2.1 u = (0, 3)) (hz : h.1.1 + 14 ≤ 1000000) : JM mi_X3_init 14 109 h [.ref u] (some (none, c_X3_init h u)) := by
  have G0 : j_gr h (c_X3_init_0 h u) := j_gr.refl h
  have G1 : j_gr h (c_X3_init_1 h u) := G0.mkA u 8 (1, 4)
  have G2 : j_gr h (c_X3_init_2 h u) := G1.mkA u 9 (1, 4)
  have G3 : j_gr h (c_X3_init_3 h u) := G2.mkA u 10 (1, 6)
  have G4 : j_gr h (c_X3_init_4 h u) := G3.mkA u 11 (1, 6)
  have G5 : j_gr h (c_X3_init_5 h u) := G4.mkA u 12 (1, 6)
  have G6 : j_gr h (c_X3_init_6 h u) := G5.mkA u 13 (1, 6)
  have G7 : j_gr h (c_X3_init_7 h u) := G6.mkA u 14 (1, 24)
  have G8 : j_gr h (c_X3_init_8 h u) := G7.mkA u 15 (1, 24)
  have G9 : j_gr h (c_X3_init_9 h u) := G8.new (0, 0)
  have G10 : j_gr h (c_X3_init_10 h u) := G9.trans (g_X0_init (c_X3_init_9 h u) (h.1.1 + 8))
  have G11 : j_gr h (c_X3_init_11 h u) := G10.setR u 16 _
  refine JM_of (by decide) rfl (Nat.le_of_ble_eq_true rfl) ?_
  refine J_loc (loc' := [(0, .ref u)]) [0] rfl ?_
  refine J_aload_n (pc := 0) 0 dX3_init_0 rfl rfl ?_
  refine J_objInit (pc := 1) dX3_init_1 mo_X3_3 (Nat.le_of_ble_eq_true rfl) (Nat.le_of_ble_eq_true rfl) ?_
  refine J_heap (h1 := c_X3_init_0 h u) rfl ?_
  refine J_aload_n (pc := 4) 0 dX3_init_4 rfl rfl ?_
  refine J_iconst (pc := 5) (v := 4) dX3_init_5 (by decide) ?_
  refine J_mkI (mi := mi_X3_init) (N := 4) (pc := 6) (kc := 13) (ks := 105) dX3_init_6 dX3_init_8 (by decide) rfl (Nat.le_of_ble_eq_true rfl) (Nat.lt_of_lt_of_le (show (c_X3_init_0 h u).1.1 < h.1.1 + 1 from Nat.le_of_eq rfl) (Nat.le_trans (Nat.add_le_add_left (Nat.le_of_ble_eq_true rfl) _) hz)) ⟨Or.inl (G0.lt hu), trivial⟩ ⟨Or.inl (G0.lt hu), trivial⟩ fl_X3_9 ft_3_8 rfl (fun q hq => by cases hq; exact ⟨rfl, (gw1 (List.mem_of_getElem? (i := 152) rfl) rfl)⟩) (G0.lt hu) (G0.ty hu ht) rfl ?_
  refine J_heap (h1 := c_X3_init_1 h u) rfl ?_
  refine J_aload_n (pc := 11) 0 dX3_init_11 rfl rfl ?_
  refine J_iconst (pc := 12) (v := 4) dX3_init_12 (by decide) ?_
  refine J_mkI (mi := mi_X3_init) (N := 4) (pc := 13) (kc := 12) (ks := 101) dX3_init_13 dX3_init_15 (by decide) rfl (Nat.le_of_ble_eq_true rfl) (Nat.lt_of_lt_of_le (show (c_X3_init_1 h u).1.1 < h.1.1 + 2 from Nat.le_of_eq rfl) (Nat.le_trans (Nat.add_le_add_left (Nat.le_of_ble_eq_true rfl) _) hz)) ⟨Or.inl (G1.lt hu), trivial⟩ ⟨Or.inl (G1.lt hu), trivial⟩ fl_X3_15 ft_3_9 rfl (fun q hq => by cases hq; exact ⟨rfl, (gw1 (List.mem_of_getElem? (i := 155) rfl) rfl)⟩) (G1.lt hu) (G1.ty hu ht) rfl ?_
  refine J_heap (h1 := c_X3_init_2 h u) rfl ?_
  refine J_aload_n (pc := 18) 0 dX3_init_18 rfl rfl ?_
  refine J_bipush (pc := 19) (v := 6) dX3_init_19 (by decide) ?_
  refine J_mkI (mi := mi_X3_init) (N := 6) (pc := 21) (kc := 11) (ks := 95) dX3_init_21 dX3_init_23 (by decide) rfl (Nat.le_of_ble_eq_true rfl) (Nat.lt_of_lt_of_le (show (c_X3_init_2 h u).1.1 < h.1.1 + 3 from Nat.le_of_eq rfl) (Nat.le_trans (Nat.add_le_add_left (Nat.le_of_ble_eq_true rfl) _) hz)) ⟨Or.inl (G2.lt hu), trivial⟩ ⟨Or.inl (G2.lt hu), trivial⟩ fl_X3_18 ft_3_10 rfl (fun q hq => by cases hq; exact ⟨rfl, (gw1 (List.mem_of_getElem? (i := 158) rfl) rfl)⟩) (G2.lt hu) (G2.ty hu ht) rfl ?_
  refine J_heap (h1 := c_X3_init_3 h u) rfl ?_
  refine J_aload_n (pc := 26) 0 dX3_init_26 rfl rfl ?_
  refine J_bipush (pc := 27) (v := 6) dX3_init_27 (by decide) ?_
  refine J_mkI (mi := mi_X3_init) (N := 6) (pc := 29) (kc := 10) (ks := 89) dX3_init_29 dX3_init_31 (by decide) rfl (Nat.le_of_ble_eq_true rfl) (Nat.lt_of_lt_of_le (show (c_X3_init_3 h u).1.1 < h.1.1 + 4 from Nat.le_of_eq rfl) (Nat.le_trans (Nat.add_le_add_left (Nat.le_of_ble_eq_true rfl) _) hz)) ⟨Or.inl (G3.lt hu), trivial⟩ ⟨Or.inl (G3.lt hu), trivial⟩ fl_X3_21 ft_3_11 rfl (fun q hq => by cases hq; exact ⟨rfl, (gw1 (List.mem_of_getElem? (i := 160) rfl) rfl)⟩) (G3.lt hu) (G3.ty hu ht) rfl ?_
  refine J_heap (h1 := c_X3_init_4 h u) rfl ?_
  refine J_aload_n (pc := 34) 0 dX3_init_34 rfl rfl ?_
  refine J_bipush (pc := 35) (v := 6) dX3_init_35 (by decide) ?_
  refine J_mkI (mi := mi_X3_init) (N := 6) (pc := 37) (kc := 9) (ks := 83) dX3_init_37 dX3_init_39 (by decide) rfl (Nat.le_of_ble_eq_true rfl) (Nat.lt_of_lt_of_le (show (c_X3_init_4 h u).1.1 < h.1.1 + 5 from Nat.le_of_eq rfl) (Nat.le_trans (Nat.add_le_add_left (Nat.le_of_ble_eq_true rfl) _) hz)) ⟨Or.inl (G4.lt hu), trivial⟩ ⟨Or.inl (G4.lt hu), trivial⟩ fl_X3_24 ft_3_12 rfl (fun q hq => by cases hq; exact ⟨rfl, (gw1 (List.mem_of_getElem? (i := 162) rfl) rfl)⟩) (G4.lt hu) (G4.ty hu ht) rfl ?_
  refine J_heap (h1 := c_X3_init_5 h u) rfl ?_
  refine J_aload_n (pc := 42) 0 dX3_init_42 rfl rfl ?_
  refine J_bipush (pc := 43) (v := 6) dX3_init_43 (by decide) ?_
  refine J_mkI (mi := mi_X3_init) (N := 6) (pc := 45) (kc := 8) (ks := 77) dX3_init_45 dX3_init_47 (by decide) rfl (Nat.le_of_ble_eq_true rfl) (Nat.lt_of_lt_of_le (show (c_X3_init_5 h u).1.1 < h.1.1 + 6 from Nat.le_of_eq rfl) (Nat.le_trans (Nat.add_le_add_left (Nat.le_of_ble_eq_true rfl) _) hz)) ⟨Or.inl (G5.lt hu), trivial⟩ ⟨Or.inl (G5.lt hu), trivial⟩ fl_X3_27 ft_3_13 rfl (fun q hq => by cases hq; exact ⟨rfl, (gw1 (List.mem_of_getElem? (i := 164) rfl) rfl)⟩) (G5.lt hu) (G5.ty hu ht) rfl ?_
  refine J_heap (h1 := c_X3_init_6 h u) rfl ?_
  refine J_aload_n (pc := 50) 0 dX3_init_50 rfl rfl ?_
  refine J_bipush (pc := 51) (v := 24) dX3_init_51 (by decide) ?_
  refine J_mkI (mi := mi_X3_init) (N := 24) (pc := 53) (kc := 7) (ks := 53) dX3_init_53 dX3_init_55 (by decide) rfl (Nat.le_of_ble_eq_true rfl) (Nat.lt_of_lt_of_le (show (c_X3_init_6 h u).1.1 < h.1.1 + 7 from Nat.le_of_eq rfl) (Nat.le_trans (Nat.add_le_add_left (Nat.le_of_ble_eq_true rfl) _) hz)) ⟨Or.inl (G6.lt hu), trivial⟩ ⟨Or.inl (G6.lt hu), trivial⟩ fl_X3_30 ft_3_14 rfl (fun q hq => by cases hq; exact ⟨rfl, (gw1 (List.mem_of_getElem? (i := 167) rfl) rfl)⟩) (G6.lt hu) (G6.ty hu ht) rfl ?_
  refine J_heap (h1 := c_X3_init_7 h u) rfl ?_
  refine J_aload_n (pc := 58) 0 dX3_init_58 rfl rfl ?_
  refine J_bipush (pc := 59) (v := 24) dX3_init_59 (by decide) ?_
  refine J_mkI (mi := mi_X3_init) (N := 24) (pc := 61) (kc := 6) (ks := 29) dX3_init_61 dX3_init_63 (by decide) rfl (Nat.le_of_ble_eq_true rfl) (Nat.lt_of_lt_of_le (show (c_X3_init_7 h u).1.1 < h.1.1 + 8 from Nat.le_of_eq rfl) (Nat.le_trans (Nat.add_le_add_left (Nat.le_of_ble_eq_true rfl) _) hz)) ⟨Or.inl (G7.lt hu), trivial⟩ ⟨Or.inl (G7.lt hu), trivial⟩ fl_X3_33 ft_3_15 rfl (fun q hq => by cases hq; exact ⟨rfl, (gw1 (List.mem_of_getElem? (i := 168) rfl) rfl)⟩) (G7.lt hu) (G7.ty hu ht) rfl ?_
  refine J_heap (h1 := c_X3_init_8 h u) rfl ?_
  refine J_aload_n (pc := 66) 0 dX3_init_66 rfl rfl ?_
  refine J_new (mi := mi_X3_init) (N := 8) (pc := 67) (kc := 5) (ks := 21) dX3_init_67 nl_X3_36 (Nat.lt_of_lt_of_le (show (c_X3_init_8 h u).1.1 < h.1.1 + 9 from Nat.le_of_eq rfl) (Nat.le_trans (Nat.add_le_add_left (Nat.le_of_ble_eq_true rfl) _) hz)) ⟨Or.inl (G8.lt hu), trivial⟩ ⟨Or.inl (G8.lt hu), trivial⟩ ?_
  refine J_heap (h1 := c_X3_init_9 h u) rfl ?_
  have L9 : (h.1.1 + 8) < (c_X3_init_9 h u).1.1 := Nat.lt_succ_self _
  have T9 : (c_X3_init_9 h u).1.2.1 (h.1.1 + 8) = (0, 0) := if_pos rfl
  refine J_dup (pc := 70) (v := .ref (h.1.1 + 8)) dX3_init_70 rfl ?_
  refine JC_i (stk := [.ref (h.1.1 + 8), .ref u]) (g_X0_init (c_X3_init_9 h u) (h.1.1 + 8)) ⟨Or.inl (G9.lt hu), trivial⟩ ⟨Or.inl L9, Or.inl (G9.lt hu), trivial⟩ (J_callI (mi := mi_X3_init) (mj := mi_X0_init) (kc := 0) (ks := 0) (pc := 71) dX3_init_71 ml_X3_38 ok_X0_init oi_X0_init ⟨Nat.le_of_ble_eq_true rfl, Nat.le_of_ble_eq_true rfl⟩ rfl (av := []) (s_X0_init (c_X3_init_9 h u) (h.1.1 + 8) L9 T9 (Nat.le_trans (show (c_X3_init_9 h u).1.1 + 5 ≤ h.1.1 + 14 from Nat.le_of_eq rfl) (Nat.le_trans (Nat.add_le_add_left (Nat.le_of_ble_eq_true rfl) _) hz))) rfl (Nat.le_of_ble_eq_true rfl)) ?_
  refine J_heap (h1 := c_X3_init_10 h u) rfl ?_
  refine J_putFR (mi := mi_X3_init) (pc := 74) dX3_init_74 fl_X3_39 ft_3_16 rfl (fun q hq => by cases hq; exact ⟨rfl, (gw1 (List.mem_of_getElem? (i := 169) rfl) rfl)⟩) (G10.lt hu) (G10.ty hu ht) rfl ((g_X0_init (c_X3_init_9 h u) (h.1.1 + 8)).lt L9) (fun _ => rfl) (fun _ => rfl) ?_
  refine J_heap (h1 := c_X3_init_11 h u) rfl ?_
  exact J_vret (pc := 77) dX3_init_77 rfl
def c_X4_init_0 (h : JH) (u : Nat) : JH := h
def c_X4_init (h : JH) (u : Nat) : JH := c_X4_init_0 h u
theorem g_X4_init (h : JH) (u : Nat) : j_gr h (c_X4_init h u) := by
  have G0 : j_gr h (c_X4_init_0 h u) := j_gr.refl h
  exact G0
set_option maxRecDepth 100000 in
theorem s_X4_init (h : JH) (u : Nat) (hu : u < h.1.1) (ht : h.1.2.1 u = (0, 4)) (hz : h.1.1 + 0 ≤ 1000000) : JM mi_X4_init 0 0 h [.ref u] (some (none, c_X4_init h u)) := by
  have G0 : j_gr h (c_X4_init_0 h u) := j_gr.refl h
  refine JM_of (by decide) rfl (Nat.le_of_ble_eq_true rfl) ?_
  refine J_loc (loc' := [(0, .ref u)]) [0] rfl ?_
  refine J_aload_n (pc := 0) 0 dX4_init_0 rfl rfl ?_
  refine J_objInit (pc := 1) dX4_init_1 mo_X4_3 (Nat.le_of_ble_eq_true rfl) (Nat.le_of_ble_eq_true rfl) ?_
  refine J_heap (h1 := c_X4_init_0 h u) rfl ?_
  exact J_vret (pc := 4) dX4_init_4 rfl
def c_X5_init_0 (h : JH) (u : Nat) : JH := h
def c_X5_init (h : JH) (u : Nat) : JH := c_X5_init_0 h u
theorem g_X5_init (h : JH) (u : Nat) : j_gr h (c_X5_init h u) := by
  have G0 : j_gr h (c_X5_init_0 h u) := j_gr.refl h
  exact G0
set_option maxRecDepth 100000 in
theorem s_X5_init (h : JH) (u : Nat) (hu : u < h.1.1) (ht : h.1.2.1 u = (0, 5)) (hz : h.1.1 + 0 ≤ 1000000) : JM mi_X5_init 0 0 h [.ref u] (some (none, c_X5_init h u)) := by
  have G0 : j_gr h (c_X5_init_0 h u) := j_gr.refl h
  refine JM_of (by decide) rfl (Nat.le_of_ble_eq_true rfl) ?_
  refine J_loc (loc' := [(0, .ref u)]) [0] rfl ?_
  refine J_aload_n (pc := 0) 0 dX5_init_0 rfl rfl ?_
  refine J_objInit (pc := 1) dX5_init_1 mo_X5_3 (Nat.le_of_ble_eq_true rfl) (Nat.le_of_ble_eq_true rfl) ?_
  refine J_heap (h1 := c_X5_init_0 h u) rfl ?_
  exact J_vret (pc := 4) dX5_init_4 rfl
def c_X6_init_0 (h : JH) (u : Nat) (v1 : Nat) : JH := h
def c_X6_init_1 (h : JH) (u : Nat) (v1 : Nat) : JH := j_new (c_X6_init_0 h u v1) (0, 3)
def c_X6_init_2 (h : JH) (u : Nat) (v1 : Nat) : JH := c_X3_init (c_X6_init_1 h u v1) (h.1.1 + 0)
def c_X6_init_3 (h : JH) (u : Nat) (v1 : Nat) : JH := (j_sR (c_X6_init_2 h u v1).1 u 1 (some (h.1.1 + 0)), (c_X6_init_2 h u v1).2)
def c_X6_init_4 (h : JH) (u : Nat) (v1 : Nat) : JH := j_mkA (c_X6_init_3 h u v1) u 3 (2, 15)
def c_X6_init_5 (h : JH) (u : Nat) (v1 : Nat) : JH := j_mkA (c_X6_init_4 h u v1) u 4 (1, 15)
def c_X6_init_6 (h : JH) (u : Nat) (v1 : Nat) : JH := j_mkA (c_X6_init_5 h u v1) u 5 (1, 15)
def c_X6_init_7 (h : JH) (u : Nat) (v1 : Nat) : JH := (j_sR (c_X6_init_6 h u v1).1 u 0 (some v1), (c_X6_init_6 h u v1).2)
def c_X6_init (h : JH) (u : Nat) (v1 : Nat) : JH := c_X6_init_7 h u v1
theorem g_X6_init (h : JH) (u : Nat) (v1 : Nat) : j_gr h (c_X6_init h u v1) := by
  have G0 : j_gr h (c_X6_init_0 h u v1) := j_gr.refl h
  have G1 : j_gr h (c_X6_init_1 h u v1) := G0.new (0, 3)
  have G2 : j_gr h (c_X6_init_2 h u v1) := G1.trans (g_X3_init (c_X6_init_1 h u v1) (h.1.1 + 0))
  have G3 : j_gr h (c_X6_init_3 h u v1) := G2.setR u 1 _
  have G4 : j_gr h (c_X6_init_4 h u v1) := G3.mkA u 3 (2, 15)
  have G5 : j_gr h (c_X6_init_5 h u v1) := G4.mkA u 4 (1, 15)
  have G6 : j_gr h (c_X6_init_6 h u v1) := G5.mkA u 5 (1, 15)
  have G7 : j_gr h (c_X6_init_7 h u v1) := G6.setR u 0 (some v1)
  exact G7
set_option maxRecDepth 100000 in
theorem s_X6_init (h : JH) (u : Nat) (v1 : Nat) (hu : u < h.1.1) (ht : h.1.2.1 u = (0, 6)) (hz : h.1.1 + 18 ≤ 1000000) (hv1 : v1 < h.1.1) : JM mi_X6_init 18 171 h [.ref u, .ref v1] (some (none, c_X6_init h u v1)) := by
  have G0 : j_gr h (c_X6_init_0 h u v1) := j_gr.refl h
  have G1 : j_gr h (c_X6_init_1 h u v1) := G0.new (0, 3)
  have G2 : j_gr h (c_X6_init_2 h u v1) := G1.trans (g_X3_init (c_X6_init_1 h u v1) (h.1.1 + 0))
  have G3 : j_gr h (c_X6_init_3 h u v1) := G2.setR u 1 _
  have G4 : j_gr h (c_X6_init_4 h u v1) := G3.mkA u 3 (2, 15)
  have G5 : j_gr h (c_X6_init_5 h u v1) := G4.mkA u 4 (1, 15)
  have G6 : j_gr h (c_X6_init_6 h u v1) := G5.mkA u 5 (1, 15)
  have G7 : j_gr h (c_X6_init_7 h u v1) := G6.setR u 0 (some v1)
  refine JM_of (by decide) rfl (Nat.le_of_ble_eq_true rfl) ?_
  refine J_loc (loc' := [(0, .ref u), (1, .ref v1)]) [0, 1] rfl ?_
  refine J_aload_n (pc := 0) 0 dX6_init_0 rfl rfl ?_
  refine J_objInit (pc := 1) dX6_init_1 mo_X6_3 (Nat.le_of_ble_eq_true rfl) (Nat.le_of_ble_eq_true rfl) ?_
  refine J_heap (h1 := c_X6_init_0 h u v1) rfl ?_
  refine J_aload_n (pc := 4) 0 dX6_init_4 rfl rfl ?_
  refine J_new (mi := mi_X6_init) (N := 17) (pc := 5) (kc := 17) (ks := 154) dX6_init_5 nl_X6_9 (Nat.lt_of_lt_of_le (show (c_X6_init_0 h u v1).1.1 < h.1.1 + 1 from Nat.le_of_eq rfl) (Nat.le_trans (Nat.add_le_add_left (Nat.le_of_ble_eq_true rfl) _) hz)) ⟨Or.inl (G0.lt hu), ⟨Or.inl (G0.lt hv1), trivial⟩⟩ ⟨Or.inl (G0.lt hu), trivial⟩ ?_
  refine J_heap (h1 := c_X6_init_1 h u v1) rfl ?_
  have L1 : (h.1.1 + 0) < (c_X6_init_1 h u v1).1.1 := Nat.lt_succ_self _
  have T1 : (c_X6_init_1 h u v1).1.2.1 (h.1.1 + 0) = (0, 3) := if_pos rfl
  refine J_dup (pc := 8) (v := .ref (h.1.1 + 0)) dX6_init_8 rfl ?_
  refine JC_i (stk := [.ref (h.1.1 + 0), .ref u]) (g_X3_init (c_X6_init_1 h u v1) (h.1.1 + 0)) ⟨Or.inl (G1.lt hu), ⟨Or.inl (G1.lt hv1), trivial⟩⟩ ⟨Or.inl L1, Or.inl (G1.lt hu), trivial⟩ (J_callI (mi := mi_X6_init) (mj := mi_X3_init) (kc := 3) (ks := 45) (pc := 9) dX6_init_9 ml_X6_11 ok_X3_init oi_X3_init ⟨Nat.le_of_ble_eq_true rfl, Nat.le_of_ble_eq_true rfl⟩ rfl (av := []) (s_X3_init (c_X6_init_1 h u v1) (h.1.1 + 0) L1 T1 (Nat.le_trans (show (c_X6_init_1 h u v1).1.1 + 14 ≤ h.1.1 + 15 from Nat.le_of_eq rfl) (Nat.le_trans (Nat.add_le_add_left (Nat.le_of_ble_eq_true rfl) _) hz))) rfl (Nat.le_of_ble_eq_true rfl)) ?_
  refine J_heap (h1 := c_X6_init_2 h u v1) rfl ?_
  refine J_putR (pc := 12) dX6_init_12 fl_X6_12 ft_6_1 (G2.lt hu) (G2.ty hu ht) rfl ((g_X3_init (c_X6_init_1 h u v1) (h.1.1 + 0)).lt L1) (fun _ => rfl) (fun _ => rfl) ?_
  refine J_heap (h1 := c_X6_init_3 h u v1) rfl ?_
  refine J_aload_n (pc := 15) 0 dX6_init_15 rfl rfl ?_
  refine J_bipush (pc := 16) (v := 15) dX6_init_16 (by decide) ?_
  refine J_mkL (mi := mi_X6_init) (N := 15) (pc := 18) (kc := 2) (ks := 30) dX6_init_18 dX6_init_20 (by decide) rfl (Nat.le_of_ble_eq_true rfl) (Nat.lt_of_lt_of_le (show (c_X6_init_3 h u v1).1.1 < h.1.1 + 16 from Nat.le_of_eq rfl) (Nat.le_trans (Nat.add_le_add_left (Nat.le_of_ble_eq_true rfl) _) hz)) ⟨Or.inl (G3.lt hu), ⟨Or.inl (G3.lt hv1), trivial⟩⟩ ⟨Or.inl (G3.lt hu), trivial⟩ fl_X6_18 ft_6_3 rfl (fun q hq => by cases hq; exact ⟨rfl, (gw1 (List.mem_of_getElem? (i := 212) rfl) rfl)⟩) (G3.lt hu) (G3.ty hu ht) rfl ?_
  refine J_heap (h1 := c_X6_init_4 h u v1) rfl ?_
  refine J_aload_n (pc := 23) 0 dX6_init_23 rfl rfl ?_
  refine J_bipush (pc := 24) (v := 15) dX6_init_24 (by decide) ?_
  refine J_mkI (mi := mi_X6_init) (N := 15) (pc := 26) (kc := 1) (ks := 15) dX6_init_26 dX6_init_28 (by decide) rfl (Nat.le_of_ble_eq_true rfl) (Nat.lt_of_lt_of_le (show (c_X6_init_4 h u v1).1.1 < h.1.1 + 17 from Nat.le_of_eq rfl) (Nat.le_trans (Nat.add_le_add_left (Nat.le_of_ble_eq_true rfl) _) hz)) ⟨Or.inl (G4.lt hu), ⟨Or.inl (G4.lt hv1), trivial⟩⟩ ⟨Or.inl (G4.lt hu), trivial⟩ fl_X6_22 ft_6_4 rfl (fun q hq => by cases hq; exact ⟨rfl, (gw1 (List.mem_of_getElem? (i := 213) rfl) rfl)⟩) (G4.lt hu) (G4.ty hu ht) rfl ?_
  refine J_heap (h1 := c_X6_init_5 h u v1) rfl ?_
  refine J_aload_n (pc := 31) 0 dX6_init_31 rfl rfl ?_
  refine J_bipush (pc := 32) (v := 15) dX6_init_32 (by decide) ?_
  refine J_mkI (mi := mi_X6_init) (N := 15) (pc := 34) (kc := 0) (ks := 0) dX6_init_34 dX6_init_36 (by decide) rfl (Nat.le_of_ble_eq_true rfl) (Nat.lt_of_lt_of_le (show (c_X6_init_5 h u v1).1.1 < h.1.1 + 18 from Nat.le_of_eq rfl) (Nat.le_trans (Nat.add_le_add_left (Nat.le_of_ble_eq_true rfl) _) hz)) ⟨Or.inl (G5.lt hu), ⟨Or.inl (G5.lt hv1), trivial⟩⟩ ⟨Or.inl (G5.lt hu), trivial⟩ fl_X6_26 ft_6_5 rfl (fun q hq => by cases hq; exact ⟨rfl, (gw1 (List.mem_of_getElem? (i := 214) rfl) rfl)⟩) (G5.lt hu) (G5.ty hu ht) rfl ?_
  refine J_heap (h1 := c_X6_init_6 h u v1) rfl ?_
  refine J_aload_n (pc := 39) 0 dX6_init_39 rfl rfl ?_
  refine J_aload_n (pc := 40) 1 dX6_init_40 rfl rfl ?_
  refine J_putFR (mi := mi_X6_init) (pc := 41) dX6_init_41 fl_X6_29 ft_6_0 rfl (fun q hq => by cases hq; exact ⟨rfl, (gw1 (List.mem_of_getElem? (i := 209) rfl) rfl)⟩) (G6.lt hu) (G6.ty hu ht) rfl (G6.lt hv1) (fun _ => rfl) (fun _ => rfl) ?_
  refine J_heap (h1 := c_X6_init_7 h u v1) rfl ?_
  exact J_vret (pc := 44) dX6_init_44 rfl
def c_X7_init_0 (h : JH) (u : Nat) (v1 : Int32) : JH := h
def c_X7_init_1 (h : JH) (u : Nat) (v1 : Int32) : JH := j_mkA (c_X7_init_0 h u v1) u 0 (1, 16)
def c_X7_init_2 (h : JH) (u : Nat) (v1 : Int32) : JH := j_mkA (c_X7_init_1 h u v1) u 1 (1, 16)
def c_X7_init_3 (h : JH) (u : Nat) (v1 : Int32) : JH := j_mkA (c_X7_init_2 h u v1) u 2 (1, 16)
def c_X7_init_4 (h : JH) (u : Nat) (v1 : Int32) : JH := ((c_X7_init_3 h u v1).1, j_sI (c_X7_init_3 h u v1).2 u 3 v1)
def c_X7_init (h : JH) (u : Nat) (v1 : Int32) : JH := c_X7_init_4 h u v1
theorem g_X7_init (h : JH) (u : Nat) (v1 : Int32) : j_gr h (c_X7_init h u v1) := by
  have G0 : j_gr h (c_X7_init_0 h u v1) := j_gr.refl h
  have G1 : j_gr h (c_X7_init_1 h u v1) := G0.mkA u 0 (1, 16)
  have G2 : j_gr h (c_X7_init_2 h u v1) := G1.mkA u 1 (1, 16)
  have G3 : j_gr h (c_X7_init_3 h u v1) := G2.mkA u 2 (1, 16)
  have G4 : j_gr h (c_X7_init_4 h u v1) := G3.setD _
  exact G4
set_option maxRecDepth 100000 in
theorem s_X7_init (h : JH) (u : Nat) (v1 : Int32) (hu : u < h.1.1) (ht : h.1.2.1 u = (0, 7)) (hz : h.1.1 + 3 ≤ 1000000) : JM mi_X7_init 3 48 h [.ref u, .int v1] (some (none, c_X7_init h u v1)) := by
  have G0 : j_gr h (c_X7_init_0 h u v1) := j_gr.refl h
  have G1 : j_gr h (c_X7_init_1 h u v1) := G0.mkA u 0 (1, 16)
  have G2 : j_gr h (c_X7_init_2 h u v1) := G1.mkA u 1 (1, 16)
  have G3 : j_gr h (c_X7_init_3 h u v1) := G2.mkA u 2 (1, 16)
  have G4 : j_gr h (c_X7_init_4 h u v1) := G3.setD _
  refine JM_of (by decide) rfl (Nat.le_of_ble_eq_true rfl) ?_
  refine J_loc (loc' := [(0, .ref u), (1, .int v1)]) [0, 1] rfl ?_
  refine J_aload_n (pc := 0) 0 dX7_init_0 rfl rfl ?_
  refine J_objInit (pc := 1) dX7_init_1 mo_X7_3 (Nat.le_of_ble_eq_true rfl) (Nat.le_of_ble_eq_true rfl) ?_
  refine J_heap (h1 := c_X7_init_0 h u v1) rfl ?_
  refine J_aload_n (pc := 4) 0 dX7_init_4 rfl rfl ?_
  refine J_bipush (pc := 5) (v := 16) dX7_init_5 (by decide) ?_
  refine J_mkI (mi := mi_X7_init) (N := 16) (pc := 7) (kc := 2) (ks := 32) dX7_init_7 dX7_init_9 (by decide) rfl (Nat.le_of_ble_eq_true rfl) (Nat.lt_of_lt_of_le (show (c_X7_init_0 h u v1).1.1 < h.1.1 + 1 from Nat.le_of_eq rfl) (Nat.le_trans (Nat.add_le_add_left (Nat.le_of_ble_eq_true rfl) _) hz)) ⟨Or.inl (G0.lt hu), ⟨trivial, trivial⟩⟩ ⟨Or.inl (G0.lt hu), trivial⟩ fl_X7_9 ft_7_0 rfl (fun q hq => by cases hq; exact ⟨rfl, (gw2 (List.mem_of_getElem? (i := 28) rfl) rfl)⟩) (G0.lt hu) (G0.ty hu ht) rfl ?_
  refine J_heap (h1 := c_X7_init_1 h u v1) rfl ?_
  refine J_aload_n (pc := 12) 0 dX7_init_12 rfl rfl ?_
  refine J_bipush (pc := 13) (v := 16) dX7_init_13 (by decide) ?_
  refine J_mkI (mi := mi_X7_init) (N := 16) (pc := 15) (kc := 1) (ks := 16) dX7_init_15 dX7_init_17 (by decide) rfl (Nat.le_of_ble_eq_true rfl) (Nat.lt_of_lt_of_le (show (c_X7_init_1 h u v1).1.1 < h.1.1 + 2 from Nat.le_of_eq rfl) (Nat.le_trans (Nat.add_le_add_left (Nat.le_of_ble_eq_true rfl) _) hz)) ⟨Or.inl (G1.lt hu), ⟨trivial, trivial⟩⟩ ⟨Or.inl (G1.lt hu), trivial⟩ fl_X7_15 ft_7_1 rfl (fun q hq => by cases hq; exact ⟨rfl, (gw2 (List.mem_of_getElem? (i := 29) rfl) rfl)⟩) (G1.lt hu) (G1.ty hu ht) rfl ?_
  refine J_heap (h1 := c_X7_init_2 h u v1) rfl ?_
  refine J_aload_n (pc := 20) 0 dX7_init_20 rfl rfl ?_
  refine J_bipush (pc := 21) (v := 16) dX7_init_21 (by decide) ?_
  refine J_mkI (mi := mi_X7_init) (N := 16) (pc := 23) (kc := 0) (ks := 0) dX7_init_23 dX7_init_25 (by decide) rfl (Nat.le_of_ble_eq_true rfl) (Nat.lt_of_lt_of_le (show (c_X7_init_2 h u v1).1.1 < h.1.1 + 3 from Nat.le_of_eq rfl) (Nat.le_trans (Nat.add_le_add_left (Nat.le_of_ble_eq_true rfl) _) hz)) ⟨Or.inl (G2.lt hu), ⟨trivial, trivial⟩⟩ ⟨Or.inl (G2.lt hu), trivial⟩ fl_X7_18 ft_7_2 rfl (fun q hq => by cases hq; exact ⟨rfl, (gw2 (List.mem_of_getElem? (i := 30) rfl) rfl)⟩) (G2.lt hu) (G2.ty hu ht) rfl ?_
  refine J_heap (h1 := c_X7_init_3 h u v1) rfl ?_
  refine J_aload_n (pc := 28) 0 dX7_init_28 rfl rfl ?_
  refine J_iload_n (pc := 29) 1 dX7_init_29 rfl rfl ?_
  refine J_putFI (mi := mi_X7_init) (pc := 30) dX7_init_30 fl_X7_21 ft_7_3 rfl (fun q hq => by cases hq; exact ⟨rfl, (gw2 (List.mem_of_getElem? (i := 31) rfl) rfl)⟩) (G3.lt hu) (G3.ty hu ht) rfl rfl rfl ?_
  refine J_heap (h1 := c_X7_init_4 h u v1) rfl ?_
  exact J_vret (pc := 33) dX7_init_33 rfl
def c_X8_init_0 (h : JH) (u : Nat) : JH := h
def c_X8_init (h : JH) (u : Nat) : JH := c_X8_init_0 h u
theorem g_X8_init (h : JH) (u : Nat) : j_gr h (c_X8_init h u) := by
  have G0 : j_gr h (c_X8_init_0 h u) := j_gr.refl h
  exact G0
set_option maxRecDepth 100000 in
theorem s_X8_init (h : JH) (u : Nat) (hu : u < h.1.1) (ht : h.1.2.1 u = (0, 8)) (hz : h.1.1 + 0 ≤ 1000000) : JM mi_X8_init 0 0 h [.ref u] (some (none, c_X8_init h u)) := by
  have G0 : j_gr h (c_X8_init_0 h u) := j_gr.refl h
  refine JM_of (by decide) rfl (Nat.le_of_ble_eq_true rfl) ?_
  refine J_loc (loc' := [(0, .ref u)]) [0] rfl ?_
  refine J_aload_n (pc := 0) 0 dX8_init_0 rfl rfl ?_
  refine J_objInit (pc := 1) dX8_init_1 mo_X8_3 (Nat.le_of_ble_eq_true rfl) (Nat.le_of_ble_eq_true rfl) ?_
  refine J_heap (h1 := c_X8_init_0 h u) rfl ?_
  exact J_vret (pc := 4) dX8_init_4 rfl
def c_X9_init_0 (h : JH) (u : Nat) : JH := h
def c_X9_init_1 (h : JH) (u : Nat) : JH := j_mkA (c_X9_init_0 h u) u 0 (3, 900)
def c_X9_init (h : JH) (u : Nat) : JH := c_X9_init_1 h u
theorem g_X9_init (h : JH) (u : Nat) : j_gr h (c_X9_init h u) := by
  have G0 : j_gr h (c_X9_init_0 h u) := j_gr.refl h
  have G1 : j_gr h (c_X9_init_1 h u) := G0.mkA u 0 (3, 900)
  exact G1
set_option maxRecDepth 100000 in
theorem s_X9_init (h : JH) (u : Nat) (hu : u < h.1.1) (ht : h.1.2.1 u = (0, 9)) (hz : h.1.1 + 1 ≤ 1000000) : JM mi_X9_init 1 900 h [.ref u] (some (none, c_X9_init h u)) := by
  have G0 : j_gr h (c_X9_init_0 h u) := j_gr.refl h
  have G1 : j_gr h (c_X9_init_1 h u) := G0.mkA u 0 (3, 900)
  refine JM_of (by decide) rfl (Nat.le_of_ble_eq_true rfl) ?_
  refine J_loc (loc' := [(0, .ref u)]) [0] rfl ?_
  refine J_aload_n (pc := 0) 0 dX9_init_0 rfl rfl ?_
  refine J_objInit (pc := 1) dX9_init_1 mo_X9_3 (Nat.le_of_ble_eq_true rfl) (Nat.le_of_ble_eq_true rfl) ?_
  refine J_heap (h1 := c_X9_init_0 h u) rfl ?_
  refine J_aload_n (pc := 4) 0 dX9_init_4 rfl rfl ?_
  refine J_sipush (pc := 5) (v := 900) dX9_init_5 (by decide) ?_
  refine J_mkB (mi := mi_X9_init) (N := 900) (pc := 8) (kc := 0) (ks := 0) dX9_init_8 dX9_init_10 (by decide) rfl (Nat.le_of_ble_eq_true rfl) (Nat.lt_of_lt_of_le (show (c_X9_init_0 h u).1.1 < h.1.1 + 1 from Nat.le_of_eq rfl) (Nat.le_trans (Nat.add_le_add_left (Nat.le_of_ble_eq_true rfl) _) hz)) ⟨Or.inl (G0.lt hu), trivial⟩ ⟨Or.inl (G0.lt hu), trivial⟩ fl_X9_9 ft_9_0 rfl (fun q hq => by cases hq; exact ⟨rfl, (gw1 (List.mem_of_getElem? (i := 39) rfl) rfl)⟩) (G0.lt hu) (G0.ty hu ht) rfl ?_
  refine J_heap (h1 := c_X9_init_1 h u) rfl ?_
  exact J_vret (pc := 13) dX9_init_13 rfl
def c_X11_init_0 (h : JH) (u : Nat) : JH := h
def c_X11_init_1 (h : JH) (u : Nat) : JH := j_new (c_X11_init_0 h u) (0, 9)
def c_X11_init_2 (h : JH) (u : Nat) : JH := c_X9_init (c_X11_init_1 h u) (h.1.1 + 0)
def c_X11_init_3 (h : JH) (u : Nat) : JH := (j_sR (c_X11_init_2 h u).1 u 0 (some (h.1.1 + 0)), (c_X11_init_2 h u).2)
def c_X11_init_4 (h : JH) (u : Nat) : JH := j_new (c_X11_init_3 h u) (0, 6)
def c_X11_init_5 (h : JH) (u : Nat) : JH := c_X6_init (c_X11_init_4 h u) (h.1.1 + 2) h.1.1
def c_X11_init_6 (h : JH) (u : Nat) : JH := (j_sR (c_X11_init_5 h u).1 u 1 (some (h.1.1 + 2)), (c_X11_init_5 h u).2)
def c_X11_init_7 (h : JH) (u : Nat) : JH := j_new (c_X11_init_6 h u) (0, 4)
def c_X11_init_8 (h : JH) (u : Nat) : JH := c_X4_init (c_X11_init_7 h u) (h.1.1 + 21)
def c_X11_init_9 (h : JH) (u : Nat) : JH := (j_sR (c_X11_init_8 h u).1 u 2 (some (h.1.1 + 21)), (c_X11_init_8 h u).2)
def c_X11_init_10 (h : JH) (u : Nat) : JH := j_new (c_X11_init_9 h u) (0, 4)
def c_X11_init_11 (h : JH) (u : Nat) : JH := c_X4_init (c_X11_init_10 h u) (h.1.1 + 22)
def c_X11_init_12 (h : JH) (u : Nat) : JH := (j_sR (c_X11_init_11 h u).1 u 3 (some (h.1.1 + 22)), (c_X11_init_11 h u).2)
def c_X11_init_13 (h : JH) (u : Nat) : JH := j_new (c_X11_init_12 h u) (0, 7)
def c_X11_init_14 (h : JH) (u : Nat) : JH := c_X7_init (c_X11_init_13 h u) (h.1.1 + 23) 16
def c_X11_init_15 (h : JH) (u : Nat) : JH := (j_sR (c_X11_init_14 h u).1 u 4 (some (h.1.1 + 23)), (c_X11_init_14 h u).2)
def c_X11_init_16 (h : JH) (u : Nat) : JH := j_new (c_X11_init_15 h u) (0, 7)
def c_X11_init_17 (h : JH) (u : Nat) : JH := c_X7_init (c_X11_init_16 h u) (h.1.1 + 27) 3
def c_X11_init_18 (h : JH) (u : Nat) : JH := (j_sR (c_X11_init_17 h u).1 u 5 (some (h.1.1 + 27)), (c_X11_init_17 h u).2)
def c_X11_init_19 (h : JH) (u : Nat) : JH := j_new (c_X11_init_18 h u) (0, 1)
def c_X11_init_20 (h : JH) (u : Nat) : JH := c_X1_init (c_X11_init_19 h u) (h.1.1 + 31)
def c_X11_init_21 (h : JH) (u : Nat) : JH := (j_sR (c_X11_init_20 h u).1 u 6 (some (h.1.1 + 31)), (c_X11_init_20 h u).2)
def c_X11_init_22 (h : JH) (u : Nat) : JH := j_new (c_X11_init_21 h u) (0, 8)
def c_X11_init_23 (h : JH) (u : Nat) : JH := c_X8_init (c_X11_init_22 h u) (h.1.1 + 37)
def c_X11_init_24 (h : JH) (u : Nat) : JH := (j_sR (c_X11_init_23 h u).1 u 7 (some (h.1.1 + 37)), (c_X11_init_23 h u).2)
def c_X11_init_25 (h : JH) (u : Nat) : JH := j_new (c_X11_init_24 h u) (0, 2)
def c_X11_init_26 (h : JH) (u : Nat) : JH := c_X2_init (c_X11_init_25 h u) (h.1.1 + 38)
def c_X11_init_27 (h : JH) (u : Nat) : JH := (j_sR (c_X11_init_26 h u).1 u 8 (some (h.1.1 + 38)), (c_X11_init_26 h u).2)
def c_X11_init_28 (h : JH) (u : Nat) : JH := j_new (c_X11_init_27 h u) (0, 5)
def c_X11_init_29 (h : JH) (u : Nat) : JH := c_X5_init (c_X11_init_28 h u) (h.1.1 + 40)
def c_X11_init_30 (h : JH) (u : Nat) : JH := (j_sR (c_X11_init_29 h u).1 u 9 (some (h.1.1 + 40)), (c_X11_init_29 h u).2)
def c_X11_init_31 (h : JH) (u : Nat) : JH := j_new (c_X11_init_30 h u) (0, 3)
def c_X11_init_32 (h : JH) (u : Nat) : JH := c_X3_init (c_X11_init_31 h u) (h.1.1 + 41)
def c_X11_init_33 (h : JH) (u : Nat) : JH := (j_sR (c_X11_init_32 h u).1 u 10 (some (h.1.1 + 41)), (c_X11_init_32 h u).2)
def c_X11_init_34 (h : JH) (u : Nat) : JH := ((c_X11_init_33 h u).1, j_sI (c_X11_init_33 h u).2 u 11 0)
def c_X11_init_35 (h : JH) (u : Nat) : JH := ((c_X11_init_34 h u).1, j_sI (c_X11_init_34 h u).2 u 12 0)
def c_X11_init_36 (h : JH) (u : Nat) : JH := ((c_X11_init_35 h u).1, j_sI (c_X11_init_35 h u).2 u 13 (-1))
def c_X11_init (h : JH) (u : Nat) : JH := c_X11_init_36 h u
theorem g_X11_init (h : JH) (u : Nat) : j_gr h (c_X11_init h u) := by
  have G0 : j_gr h (c_X11_init_0 h u) := j_gr.refl h
  have G1 : j_gr h (c_X11_init_1 h u) := G0.new (0, 9)
  have G2 : j_gr h (c_X11_init_2 h u) := G1.trans (g_X9_init (c_X11_init_1 h u) (h.1.1 + 0))
  have G3 : j_gr h (c_X11_init_3 h u) := G2.setR u 0 _
  have G4 : j_gr h (c_X11_init_4 h u) := G3.new (0, 6)
  have G5 : j_gr h (c_X11_init_5 h u) := G4.trans (g_X6_init (c_X11_init_4 h u) (h.1.1 + 2) h.1.1)
  have G6 : j_gr h (c_X11_init_6 h u) := G5.setR u 1 _
  have G7 : j_gr h (c_X11_init_7 h u) := G6.new (0, 4)
  have G8 : j_gr h (c_X11_init_8 h u) := G7.trans (g_X4_init (c_X11_init_7 h u) (h.1.1 + 21))
  have G9 : j_gr h (c_X11_init_9 h u) := G8.setR u 2 _
  have G10 : j_gr h (c_X11_init_10 h u) := G9.new (0, 4)
  have G11 : j_gr h (c_X11_init_11 h u) := G10.trans (g_X4_init (c_X11_init_10 h u) (h.1.1 + 22))
  have G12 : j_gr h (c_X11_init_12 h u) := G11.setR u 3 _
  have G13 : j_gr h (c_X11_init_13 h u) := G12.new (0, 7)
  have G14 : j_gr h (c_X11_init_14 h u) := G13.trans (g_X7_init (c_X11_init_13 h u) (h.1.1 + 23) 16)
  have G15 : j_gr h (c_X11_init_15 h u) := G14.setR u 4 _
  have G16 : j_gr h (c_X11_init_16 h u) := G15.new (0, 7)
  have G17 : j_gr h (c_X11_init_17 h u) := G16.trans (g_X7_init (c_X11_init_16 h u) (h.1.1 + 27) 3)
  have G18 : j_gr h (c_X11_init_18 h u) := G17.setR u 5 _
  have G19 : j_gr h (c_X11_init_19 h u) := G18.new (0, 1)
  have G20 : j_gr h (c_X11_init_20 h u) := G19.trans (g_X1_init (c_X11_init_19 h u) (h.1.1 + 31))
  have G21 : j_gr h (c_X11_init_21 h u) := G20.setR u 6 _
  have G22 : j_gr h (c_X11_init_22 h u) := G21.new (0, 8)
  have G23 : j_gr h (c_X11_init_23 h u) := G22.trans (g_X8_init (c_X11_init_22 h u) (h.1.1 + 37))
  have G24 : j_gr h (c_X11_init_24 h u) := G23.setR u 7 _
  have G25 : j_gr h (c_X11_init_25 h u) := G24.new (0, 2)
  have G26 : j_gr h (c_X11_init_26 h u) := G25.trans (g_X2_init (c_X11_init_25 h u) (h.1.1 + 38))
  have G27 : j_gr h (c_X11_init_27 h u) := G26.setR u 8 _
  have G28 : j_gr h (c_X11_init_28 h u) := G27.new (0, 5)
  have G29 : j_gr h (c_X11_init_29 h u) := G28.trans (g_X5_init (c_X11_init_28 h u) (h.1.1 + 40))
  have G30 : j_gr h (c_X11_init_30 h u) := G29.setR u 9 _
  have G31 : j_gr h (c_X11_init_31 h u) := G30.new (0, 3)
  have G32 : j_gr h (c_X11_init_32 h u) := G31.trans (g_X3_init (c_X11_init_31 h u) (h.1.1 + 41))
  have G33 : j_gr h (c_X11_init_33 h u) := G32.setR u 10 _
  have G34 : j_gr h (c_X11_init_34 h u) := G33.setD _
  have G35 : j_gr h (c_X11_init_35 h u) := G34.setD _
  have G36 : j_gr h (c_X11_init_36 h u) := G35.setD _
  exact G36
theorem hTape (h : JH) (u : Nat) (hu : u < h.1.1) : (c_X11_init_4 h u).1.2.2.1 u 0 = some h.1.1 := by
  show (if u = h.1.1 + 2 then none else _) = _
  rw [if_neg (by omega)]
  exact if_pos ⟨rfl, rfl⟩
set_option maxRecDepth 100000 in
theorem s_X11_init (h : JH) (u : Nat) (hu : u < h.1.1) (ht : h.1.2.1 u = (0, 10)) (hz : h.1.1 + 56 ≤ 1000000) : JM mi_X11_init 56 4468 h [.ref u] (some (none, c_X11_init h u)) := by
  have G0 : j_gr h (c_X11_init_0 h u) := j_gr.refl h
  have G1 : j_gr h (c_X11_init_1 h u) := G0.new (0, 9)
  have G2 : j_gr h (c_X11_init_2 h u) := G1.trans (g_X9_init (c_X11_init_1 h u) (h.1.1 + 0))
  have G3 : j_gr h (c_X11_init_3 h u) := G2.setR u 0 _
  have G4 : j_gr h (c_X11_init_4 h u) := G3.new (0, 6)
  have G5 : j_gr h (c_X11_init_5 h u) := G4.trans (g_X6_init (c_X11_init_4 h u) (h.1.1 + 2) h.1.1)
  have G6 : j_gr h (c_X11_init_6 h u) := G5.setR u 1 _
  have G7 : j_gr h (c_X11_init_7 h u) := G6.new (0, 4)
  have G8 : j_gr h (c_X11_init_8 h u) := G7.trans (g_X4_init (c_X11_init_7 h u) (h.1.1 + 21))
  have G9 : j_gr h (c_X11_init_9 h u) := G8.setR u 2 _
  have G10 : j_gr h (c_X11_init_10 h u) := G9.new (0, 4)
  have G11 : j_gr h (c_X11_init_11 h u) := G10.trans (g_X4_init (c_X11_init_10 h u) (h.1.1 + 22))
  have G12 : j_gr h (c_X11_init_12 h u) := G11.setR u 3 _
  have G13 : j_gr h (c_X11_init_13 h u) := G12.new (0, 7)
  have G14 : j_gr h (c_X11_init_14 h u) := G13.trans (g_X7_init (c_X11_init_13 h u) (h.1.1 + 23) 16)
  have G15 : j_gr h (c_X11_init_15 h u) := G14.setR u 4 _
  have G16 : j_gr h (c_X11_init_16 h u) := G15.new (0, 7)
  have G17 : j_gr h (c_X11_init_17 h u) := G16.trans (g_X7_init (c_X11_init_16 h u) (h.1.1 + 27) 3)
  have G18 : j_gr h (c_X11_init_18 h u) := G17.setR u 5 _
  have G19 : j_gr h (c_X11_init_19 h u) := G18.new (0, 1)
  have G20 : j_gr h (c_X11_init_20 h u) := G19.trans (g_X1_init (c_X11_init_19 h u) (h.1.1 + 31))
  have G21 : j_gr h (c_X11_init_21 h u) := G20.setR u 6 _
  have G22 : j_gr h (c_X11_init_22 h u) := G21.new (0, 8)
  have G23 : j_gr h (c_X11_init_23 h u) := G22.trans (g_X8_init (c_X11_init_22 h u) (h.1.1 + 37))
  have G24 : j_gr h (c_X11_init_24 h u) := G23.setR u 7 _
  have G25 : j_gr h (c_X11_init_25 h u) := G24.new (0, 2)
  have G26 : j_gr h (c_X11_init_26 h u) := G25.trans (g_X2_init (c_X11_init_25 h u) (h.1.1 + 38))
  have G27 : j_gr h (c_X11_init_27 h u) := G26.setR u 8 _
  have G28 : j_gr h (c_X11_init_28 h u) := G27.new (0, 5)
  have G29 : j_gr h (c_X11_init_29 h u) := G28.trans (g_X5_init (c_X11_init_28 h u) (h.1.1 + 40))
  have G30 : j_gr h (c_X11_init_30 h u) := G29.setR u 9 _
  have G31 : j_gr h (c_X11_init_31 h u) := G30.new (0, 3)
  have G32 : j_gr h (c_X11_init_32 h u) := G31.trans (g_X3_init (c_X11_init_31 h u) (h.1.1 + 41))
  have G33 : j_gr h (c_X11_init_33 h u) := G32.setR u 10 _
  have G34 : j_gr h (c_X11_init_34 h u) := G33.setD _
  have G35 : j_gr h (c_X11_init_35 h u) := G34.setD _
  have G36 : j_gr h (c_X11_init_36 h u) := G35.setD _
  refine JM_of (by decide) rfl (Nat.le_of_ble_eq_true rfl) ?_
  refine J_loc (loc' := [(0, .ref u)]) [0] rfl ?_
  refine J_aload_n (pc := 0) 0 dX11_init_0 rfl rfl ?_
  refine J_objInit (pc := 1) dX11_init_1 mo_X11_1 (Nat.le_of_ble_eq_true rfl) (Nat.le_of_ble_eq_true rfl) ?_
  refine J_heap (h1 := c_X11_init_0 h u) rfl ?_
  refine J_aload_n (pc := 4) 0 dX11_init_4 rfl rfl ?_
  refine J_new (mi := mi_X11_init) (N := 8) (pc := 5) (kc := 55) (ks := 4460) dX11_init_5 nl_X11_7 (Nat.lt_of_lt_of_le (show (c_X11_init_0 h u).1.1 < h.1.1 + 1 from Nat.le_of_eq rfl) (Nat.le_trans (Nat.add_le_add_left (Nat.le_of_ble_eq_true rfl) _) hz)) ⟨Or.inl (G0.lt hu), trivial⟩ ⟨Or.inl (G0.lt hu), trivial⟩ ?_
  refine J_heap (h1 := c_X11_init_1 h u) rfl ?_
  have L1 : (h.1.1 + 0) < (c_X11_init_1 h u).1.1 := Nat.lt_succ_self _
  have T1 : (c_X11_init_1 h u).1.2.1 (h.1.1 + 0) = (0, 9) := if_pos rfl
  refine J_dup (pc := 8) (v := .ref (h.1.1 + 0)) dX11_init_8 rfl ?_
  refine JC_i (stk := [.ref (h.1.1 + 0), .ref u]) (g_X9_init (c_X11_init_1 h u) (h.1.1 + 0)) ⟨Or.inl (G1.lt hu), trivial⟩ ⟨Or.inl L1, Or.inl (G1.lt hu), trivial⟩ (J_callI (mi := mi_X11_init) (mj := mi_X9_init) (kc := 54) (ks := 3560) (pc := 9) dX11_init_9 ml_X11_9 ok_X9_init oi_X9_init ⟨Nat.le_of_ble_eq_true rfl, Nat.le_of_ble_eq_true rfl⟩ rfl (av := []) (s_X9_init (c_X11_init_1 h u) (h.1.1 + 0) L1 T1 (Nat.le_trans (show (c_X11_init_1 h u).1.1 + 1 ≤ h.1.1 + 2 from Nat.le_of_eq rfl) (Nat.le_trans (Nat.add_le_add_left (Nat.le_of_ble_eq_true rfl) _) hz))) rfl (Nat.le_of_ble_eq_true rfl)) ?_
  refine J_heap (h1 := c_X11_init_2 h u) rfl ?_
  refine J_putFR (mi := mi_X11_init) (pc := 12) dX11_init_12 fl_X11_10 ft_10_0 rfl (fun q hq => by cases hq; exact ⟨rfl, (gw2 (List.mem_of_getElem? (i := 135) rfl) rfl)⟩) (G2.lt hu) (G2.ty hu ht) rfl ((g_X9_init (c_X11_init_1 h u) (h.1.1 + 0)).lt L1) (fun _ => rfl) (fun _ => rfl) ?_
  refine J_heap (h1 := c_X11_init_3 h u) rfl ?_
  refine J_aload_n (pc := 15) 0 dX11_init_15 rfl rfl ?_
  refine J_new (mi := mi_X11_init) (N := 9) (pc := 16) (kc := 53) (ks := 3551) dX11_init_16 nl_X11_16 (Nat.lt_of_lt_of_le (show (c_X11_init_3 h u).1.1 < h.1.1 + 3 from Nat.le_of_eq rfl) (Nat.le_trans (Nat.add_le_add_left (Nat.le_of_ble_eq_true rfl) _) hz)) ⟨Or.inl (G3.lt hu), trivial⟩ ⟨Or.inl (G3.lt hu), trivial⟩ ?_
  refine J_heap (h1 := c_X11_init_4 h u) rfl ?_
  have L4 : (h.1.1 + 2) < (c_X11_init_4 h u).1.1 := Nat.lt_succ_self _
  have T4 : (c_X11_init_4 h u).1.2.1 (h.1.1 + 2) = (0, 6) := if_pos rfl
  refine J_dup (pc := 19) (v := .ref (h.1.1 + 2)) dX11_init_19 rfl ?_
  refine J_aload_n (pc := 20) 0 dX11_init_20 rfl rfl ?_
  refine J_getR (pc := 21) (b := h.1.1) dX11_init_21 fl_X11_10 (G4.lt hu) (G4.ty hu ht) rfl (hTape h u hu) ?_
  refine JC_i (stk := [.ref (h.1.1 + 2), .ref u]) (g_X6_init (c_X11_init_4 h u) (h.1.1 + 2) h.1.1) ⟨Or.inl (G4.lt hu), trivial⟩ ⟨Or.inl L4, Or.inl (G4.lt hu), trivial⟩ (J_callI (mi := mi_X11_init) (mj := mi_X6_init) (kc := 35) (ks := 3380) (pc := 24) dX11_init_24 ml_X11_18 ok_X6_init oi_X6_init ⟨Nat.le_of_ble_eq_true rfl, Nat.le_of_ble_eq_true rfl⟩ rfl (av := [.ref h.1.1]) (s_X6_init (c_X11_init_4 h u) (h.1.1 + 2) h.1.1 L4 T4 (Nat.le_trans (show (c_X11_init_4 h u).1.1 + 18 ≤ h.1.1 + 21 from Nat.le_of_eq rfl) (Nat.le_trans (Nat.add_le_add_left (Nat.le_of_ble_eq_true rfl) _) hz)) (show h.1.1 < h.1.1 + 3 from Nat.lt_add_of_pos_right (by decide))) rfl (Nat.le_of_ble_eq_true rfl)) ?_
  refine J_heap (h1 := c_X11_init_5 h u) rfl ?_
  refine J_putFR (mi := mi_X11_init) (pc := 27) dX11_init_27 fl_X11_21 ft_10_1 rfl (fun q hq => by cases hq; exact ⟨rfl, (gw2 (List.mem_of_getElem? (i := 136) rfl) rfl)⟩) (G5.lt hu) (G5.ty hu ht) rfl ((g_X6_init (c_X11_init_4 h u) (h.1.1 + 2) h.1.1).lt L4) (fun _ => rfl) (fun _ => rfl) ?_
  refine J_heap (h1 := c_X11_init_6 h u) rfl ?_
  refine J_aload_n (pc := 30) 0 dX11_init_30 rfl rfl ?_
  refine J_new (mi := mi_X11_init) (N := 3) (pc := 31) (kc := 34) (ks := 3377) dX11_init_31 nl_X11_25 (Nat.lt_of_lt_of_le (show (c_X11_init_6 h u).1.1 < h.1.1 + 22 from Nat.le_of_eq rfl) (Nat.le_trans (Nat.add_le_add_left (Nat.le_of_ble_eq_true rfl) _) hz)) ⟨Or.inl (G6.lt hu), trivial⟩ ⟨Or.inl (G6.lt hu), trivial⟩ ?_
  refine J_heap (h1 := c_X11_init_7 h u) rfl ?_
  have L7 : (h.1.1 + 21) < (c_X11_init_7 h u).1.1 := Nat.lt_succ_self _
  have T7 : (c_X11_init_7 h u).1.2.1 (h.1.1 + 21) = (0, 4) := if_pos rfl
  refine J_dup (pc := 34) (v := .ref (h.1.1 + 21)) dX11_init_34 rfl ?_
  refine JC_i (stk := [.ref (h.1.1 + 21), .ref u]) (g_X4_init (c_X11_init_7 h u) (h.1.1 + 21)) ⟨Or.inl (G7.lt hu), trivial⟩ ⟨Or.inl L7, Or.inl (G7.lt hu), trivial⟩ (J_callI (mi := mi_X11_init) (mj := mi_X4_init) (kc := 34) (ks := 3377) (pc := 35) dX11_init_35 ml_X11_27 ok_X4_init oi_X4_init ⟨Nat.le_of_ble_eq_true rfl, Nat.le_of_ble_eq_true rfl⟩ rfl (av := []) (s_X4_init (c_X11_init_7 h u) (h.1.1 + 21) L7 T7 (Nat.le_trans (show (c_X11_init_7 h u).1.1 + 0 ≤ h.1.1 + 22 from Nat.le_of_eq rfl) (Nat.le_trans (Nat.add_le_add_left (Nat.le_of_ble_eq_true rfl) _) hz))) rfl (Nat.le_of_ble_eq_true rfl)) ?_
  refine J_heap (h1 := c_X11_init_8 h u) rfl ?_
  refine J_putFR (mi := mi_X11_init) (pc := 38) dX11_init_38 fl_X11_28 ft_10_2 rfl (fun q hq => by cases hq; exact ⟨rfl, (gw2 (List.mem_of_getElem? (i := 137) rfl) rfl)⟩) (G8.lt hu) (G8.ty hu ht) rfl ((g_X4_init (c_X11_init_7 h u) (h.1.1 + 21)).lt L7) (fun _ => rfl) (fun _ => rfl) ?_
  refine J_heap (h1 := c_X11_init_9 h u) rfl ?_
  refine J_aload_n (pc := 41) 0 dX11_init_41 rfl rfl ?_
  refine J_new (mi := mi_X11_init) (N := 3) (pc := 42) (kc := 33) (ks := 3374) dX11_init_42 nl_X11_25 (Nat.lt_of_lt_of_le (show (c_X11_init_9 h u).1.1 < h.1.1 + 23 from Nat.le_of_eq rfl) (Nat.le_trans (Nat.add_le_add_left (Nat.le_of_ble_eq_true rfl) _) hz)) ⟨Or.inl (G9.lt hu), trivial⟩ ⟨Or.inl (G9.lt hu), trivial⟩ ?_
  refine J_heap (h1 := c_X11_init_10 h u) rfl ?_
  have L10 : (h.1.1 + 22) < (c_X11_init_10 h u).1.1 := Nat.lt_succ_self _
  have T10 : (c_X11_init_10 h u).1.2.1 (h.1.1 + 22) = (0, 4) := if_pos rfl
  refine J_dup (pc := 45) (v := .ref (h.1.1 + 22)) dX11_init_45 rfl ?_
  refine JC_i (stk := [.ref (h.1.1 + 22), .ref u]) (g_X4_init (c_X11_init_10 h u) (h.1.1 + 22)) ⟨Or.inl (G10.lt hu), trivial⟩ ⟨Or.inl L10, Or.inl (G10.lt hu), trivial⟩ (J_callI (mi := mi_X11_init) (mj := mi_X4_init) (kc := 33) (ks := 3374) (pc := 46) dX11_init_46 ml_X11_27 ok_X4_init oi_X4_init ⟨Nat.le_of_ble_eq_true rfl, Nat.le_of_ble_eq_true rfl⟩ rfl (av := []) (s_X4_init (c_X11_init_10 h u) (h.1.1 + 22) L10 T10 (Nat.le_trans (show (c_X11_init_10 h u).1.1 + 0 ≤ h.1.1 + 23 from Nat.le_of_eq rfl) (Nat.le_trans (Nat.add_le_add_left (Nat.le_of_ble_eq_true rfl) _) hz))) rfl (Nat.le_of_ble_eq_true rfl)) ?_
  refine J_heap (h1 := c_X11_init_11 h u) rfl ?_
  refine J_putFR (mi := mi_X11_init) (pc := 49) dX11_init_49 fl_X11_32 ft_10_3 rfl (fun q hq => by cases hq; exact ⟨rfl, (gw2 (List.mem_of_getElem? (i := 138) rfl) rfl)⟩) (G11.lt hu) (G11.ty hu ht) rfl ((g_X4_init (c_X11_init_10 h u) (h.1.1 + 22)).lt L10) (fun _ => rfl) (fun _ => rfl) ?_
  refine J_heap (h1 := c_X11_init_12 h u) rfl ?_
  refine J_aload_n (pc := 52) 0 dX11_init_52 rfl rfl ?_
  refine J_new (mi := mi_X11_init) (N := 5) (pc := 53) (kc := 32) (ks := 3369) dX11_init_53 nl_X11_35 (Nat.lt_of_lt_of_le (show (c_X11_init_12 h u).1.1 < h.1.1 + 24 from Nat.le_of_eq rfl) (Nat.le_trans (Nat.add_le_add_left (Nat.le_of_ble_eq_true rfl) _) hz)) ⟨Or.inl (G12.lt hu), trivial⟩ ⟨Or.inl (G12.lt hu), trivial⟩ ?_
  refine J_heap (h1 := c_X11_init_13 h u) rfl ?_
  have L13 : (h.1.1 + 23) < (c_X11_init_13 h u).1.1 := Nat.lt_succ_self _
  have T13 : (c_X11_init_13 h u).1.2.1 (h.1.1 + 23) = (0, 7) := if_pos rfl
  refine J_dup (pc := 56) (v := .ref (h.1.1 + 23)) dX11_init_56 rfl ?_
  refine J_bipush (pc := 57) (v := 16) dX11_init_57 (by decide) ?_
  refine JC_i (stk := [.ref (h.1.1 + 23), .ref u]) (g_X7_init (c_X11_init_13 h u) (h.1.1 + 23) 16) ⟨Or.inl (G13.lt hu), trivial⟩ ⟨Or.inl L13, Or.inl (G13.lt hu), trivial⟩ (J_callI (mi := mi_X11_init) (mj := mi_X7_init) (kc := 29) (ks := 3321) (pc := 59) dX11_init_59 ml_X11_37 ok_X7_init oi_X7_init ⟨Nat.le_of_ble_eq_true rfl, Nat.le_of_ble_eq_true rfl⟩ rfl (av := [.int 16]) (s_X7_init (c_X11_init_13 h u) (h.1.1 + 23) 16 L13 T13 (Nat.le_trans (show (c_X11_init_13 h u).1.1 + 3 ≤ h.1.1 + 27 from Nat.le_of_eq rfl) (Nat.le_trans (Nat.add_le_add_left (Nat.le_of_ble_eq_true rfl) _) hz))) rfl (Nat.le_of_ble_eq_true rfl)) ?_
  refine J_heap (h1 := c_X11_init_14 h u) rfl ?_
  refine J_putFR (mi := mi_X11_init) (pc := 62) dX11_init_62 fl_X11_40 ft_10_4 rfl (fun q hq => by cases hq; exact ⟨rfl, (gw2 (List.mem_of_getElem? (i := 139) rfl) rfl)⟩) (G14.lt hu) (G14.ty hu ht) rfl ((g_X7_init (c_X11_init_13 h u) (h.1.1 + 23) 16).lt L13) (fun _ => rfl) (fun _ => rfl) ?_
  refine J_heap (h1 := c_X11_init_15 h u) rfl ?_
  refine J_aload_n (pc := 65) 0 dX11_init_65 rfl rfl ?_
  refine J_new (mi := mi_X11_init) (N := 5) (pc := 66) (kc := 28) (ks := 3316) dX11_init_66 nl_X11_35 (Nat.lt_of_lt_of_le (show (c_X11_init_15 h u).1.1 < h.1.1 + 28 from Nat.le_of_eq rfl) (Nat.le_trans (Nat.add_le_add_left (Nat.le_of_ble_eq_true rfl) _) hz)) ⟨Or.inl (G15.lt hu), trivial⟩ ⟨Or.inl (G15.lt hu), trivial⟩ ?_
  refine J_heap (h1 := c_X11_init_16 h u) rfl ?_
  have L16 : (h.1.1 + 27) < (c_X11_init_16 h u).1.1 := Nat.lt_succ_self _
  have T16 : (c_X11_init_16 h u).1.2.1 (h.1.1 + 27) = (0, 7) := if_pos rfl
  refine J_dup (pc := 69) (v := .ref (h.1.1 + 27)) dX11_init_69 rfl ?_
  refine J_iconst (pc := 70) (v := 3) dX11_init_70 (by decide) ?_
  refine JC_i (stk := [.ref (h.1.1 + 27), .ref u]) (g_X7_init (c_X11_init_16 h u) (h.1.1 + 27) 3) ⟨Or.inl (G16.lt hu), trivial⟩ ⟨Or.inl L16, Or.inl (G16.lt hu), trivial⟩ (J_callI (mi := mi_X11_init) (mj := mi_X7_init) (kc := 25) (ks := 3268) (pc := 71) dX11_init_71 ml_X11_37 ok_X7_init oi_X7_init ⟨Nat.le_of_ble_eq_true rfl, Nat.le_of_ble_eq_true rfl⟩ rfl (av := [.int 3]) (s_X7_init (c_X11_init_16 h u) (h.1.1 + 27) 3 L16 T16 (Nat.le_trans (show (c_X11_init_16 h u).1.1 + 3 ≤ h.1.1 + 31 from Nat.le_of_eq rfl) (Nat.le_trans (Nat.add_le_add_left (Nat.le_of_ble_eq_true rfl) _) hz))) rfl (Nat.le_of_ble_eq_true rfl)) ?_
  refine J_heap (h1 := c_X11_init_17 h u) rfl ?_
  refine J_putFR (mi := mi_X11_init) (pc := 74) dX11_init_74 fl_X11_44 ft_10_5 rfl (fun q hq => by cases hq; exact ⟨rfl, (gw2 (List.mem_of_getElem? (i := 140) rfl) rfl)⟩) (G17.lt hu) (G17.ty hu ht) rfl ((g_X7_init (c_X11_init_16 h u) (h.1.1 + 27) 3).lt L16) (fun _ => rfl) (fun _ => rfl) ?_
  refine J_heap (h1 := c_X11_init_18 h u) rfl ?_
  refine J_aload_n (pc := 77) 0 dX11_init_77 rfl rfl ?_
  refine J_new (mi := mi_X11_init) (N := 7) (pc := 78) (kc := 24) (ks := 3261) dX11_init_78 nl_X11_47 (Nat.lt_of_lt_of_le (show (c_X11_init_18 h u).1.1 < h.1.1 + 32 from Nat.le_of_eq rfl) (Nat.le_trans (Nat.add_le_add_left (Nat.le_of_ble_eq_true rfl) _) hz)) ⟨Or.inl (G18.lt hu), trivial⟩ ⟨Or.inl (G18.lt hu), trivial⟩ ?_
  refine J_heap (h1 := c_X11_init_19 h u) rfl ?_
  have L19 : (h.1.1 + 31) < (c_X11_init_19 h u).1.1 := Nat.lt_succ_self _
  have T19 : (c_X11_init_19 h u).1.2.1 (h.1.1 + 31) = (0, 1) := if_pos rfl
  refine J_dup (pc := 81) (v := .ref (h.1.1 + 31)) dX11_init_81 rfl ?_
  refine JC_i (stk := [.ref (h.1.1 + 31), .ref u]) (g_X1_init (c_X11_init_19 h u) (h.1.1 + 31)) ⟨Or.inl (G19.lt hu), trivial⟩ ⟨Or.inl L19, Or.inl (G19.lt hu), trivial⟩ (J_callI (mi := mi_X11_init) (mj := mi_X1_init) (kc := 19) (ks := 217) (pc := 82) dX11_init_82 ml_X11_49 ok_X1_init oi_X1_init ⟨Nat.le_of_ble_eq_true rfl, Nat.le_of_ble_eq_true rfl⟩ rfl (av := []) (s_X1_init (c_X11_init_19 h u) (h.1.1 + 31) L19 T19 (Nat.le_trans (show (c_X11_init_19 h u).1.1 + 5 ≤ h.1.1 + 37 from Nat.le_of_eq rfl) (Nat.le_trans (Nat.add_le_add_left (Nat.le_of_ble_eq_true rfl) _) hz))) rfl (Nat.le_of_ble_eq_true rfl)) ?_
  refine J_heap (h1 := c_X11_init_20 h u) rfl ?_
  refine J_putFR (mi := mi_X11_init) (pc := 85) dX11_init_85 fl_X11_50 ft_10_6 rfl (fun q hq => by cases hq; exact ⟨rfl, (gw2 (List.mem_of_getElem? (i := 141) rfl) rfl)⟩) (G20.lt hu) (G20.ty hu ht) rfl ((g_X1_init (c_X11_init_19 h u) (h.1.1 + 31)).lt L19) (fun _ => rfl) (fun _ => rfl) ?_
  refine J_heap (h1 := c_X11_init_21 h u) rfl ?_
  refine J_aload_n (pc := 88) 0 dX11_init_88 rfl rfl ?_
  refine J_new (mi := mi_X11_init) (N := 5) (pc := 89) (kc := 18) (ks := 212) dX11_init_89 nl_X11_54 (Nat.lt_of_lt_of_le (show (c_X11_init_21 h u).1.1 < h.1.1 + 38 from Nat.le_of_eq rfl) (Nat.le_trans (Nat.add_le_add_left (Nat.le_of_ble_eq_true rfl) _) hz)) ⟨Or.inl (G21.lt hu), trivial⟩ ⟨Or.inl (G21.lt hu), trivial⟩ ?_
  refine J_heap (h1 := c_X11_init_22 h u) rfl ?_
  have L22 : (h.1.1 + 37) < (c_X11_init_22 h u).1.1 := Nat.lt_succ_self _
  have T22 : (c_X11_init_22 h u).1.2.1 (h.1.1 + 37) = (0, 8) := if_pos rfl
  refine J_dup (pc := 92) (v := .ref (h.1.1 + 37)) dX11_init_92 rfl ?_
  refine JC_i (stk := [.ref (h.1.1 + 37), .ref u]) (g_X8_init (c_X11_init_22 h u) (h.1.1 + 37)) ⟨Or.inl (G22.lt hu), trivial⟩ ⟨Or.inl L22, Or.inl (G22.lt hu), trivial⟩ (J_callI (mi := mi_X11_init) (mj := mi_X8_init) (kc := 18) (ks := 212) (pc := 93) dX11_init_93 ml_X11_56 ok_X8_init oi_X8_init ⟨Nat.le_of_ble_eq_true rfl, Nat.le_of_ble_eq_true rfl⟩ rfl (av := []) (s_X8_init (c_X11_init_22 h u) (h.1.1 + 37) L22 T22 (Nat.le_trans (show (c_X11_init_22 h u).1.1 + 0 ≤ h.1.1 + 38 from Nat.le_of_eq rfl) (Nat.le_trans (Nat.add_le_add_left (Nat.le_of_ble_eq_true rfl) _) hz))) rfl (Nat.le_of_ble_eq_true rfl)) ?_
  refine J_heap (h1 := c_X11_init_23 h u) rfl ?_
  refine J_putFR (mi := mi_X11_init) (pc := 96) dX11_init_96 fl_X11_57 ft_10_7 rfl (fun q hq => by cases hq; exact ⟨rfl, (gw2 (List.mem_of_getElem? (i := 142) rfl) rfl)⟩) (G23.lt hu) (G23.ty hu ht) rfl ((g_X8_init (c_X11_init_22 h u) (h.1.1 + 37)).lt L22) (fun _ => rfl) (fun _ => rfl) ?_
  refine J_heap (h1 := c_X11_init_24 h u) rfl ?_
  refine J_aload_n (pc := 99) 0 dX11_init_99 rfl rfl ?_
  refine J_new (mi := mi_X11_init) (N := 3) (pc := 100) (kc := 17) (ks := 209) dX11_init_100 nl_X11_61 (Nat.lt_of_lt_of_le (show (c_X11_init_24 h u).1.1 < h.1.1 + 39 from Nat.le_of_eq rfl) (Nat.le_trans (Nat.add_le_add_left (Nat.le_of_ble_eq_true rfl) _) hz)) ⟨Or.inl (G24.lt hu), trivial⟩ ⟨Or.inl (G24.lt hu), trivial⟩ ?_
  refine J_heap (h1 := c_X11_init_25 h u) rfl ?_
  have L25 : (h.1.1 + 38) < (c_X11_init_25 h u).1.1 := Nat.lt_succ_self _
  have T25 : (c_X11_init_25 h u).1.2.1 (h.1.1 + 38) = (0, 2) := if_pos rfl
  refine J_dup (pc := 103) (v := .ref (h.1.1 + 38)) dX11_init_103 rfl ?_
  refine JC_i (stk := [.ref (h.1.1 + 38), .ref u]) (g_X2_init (c_X11_init_25 h u) (h.1.1 + 38)) ⟨Or.inl (G25.lt hu), trivial⟩ ⟨Or.inl L25, Or.inl (G25.lt hu), trivial⟩ (J_callI (mi := mi_X11_init) (mj := mi_X2_init) (kc := 16) (ks := 128) (pc := 104) dX11_init_104 ml_X11_63 ok_X2_init oi_X2_init ⟨Nat.le_of_ble_eq_true rfl, Nat.le_of_ble_eq_true rfl⟩ rfl (av := []) (s_X2_init (c_X11_init_25 h u) (h.1.1 + 38) L25 T25 (Nat.le_trans (show (c_X11_init_25 h u).1.1 + 1 ≤ h.1.1 + 40 from Nat.le_of_eq rfl) (Nat.le_trans (Nat.add_le_add_left (Nat.le_of_ble_eq_true rfl) _) hz))) rfl (Nat.le_of_ble_eq_true rfl)) ?_
  refine J_heap (h1 := c_X11_init_26 h u) rfl ?_
  refine J_putFR (mi := mi_X11_init) (pc := 107) dX11_init_107 fl_X11_64 ft_10_8 rfl (fun q hq => by cases hq; exact ⟨rfl, (gw2 (List.mem_of_getElem? (i := 143) rfl) rfl)⟩) (G26.lt hu) (G26.ty hu ht) rfl ((g_X2_init (c_X11_init_25 h u) (h.1.1 + 38)).lt L25) (fun _ => rfl) (fun _ => rfl) ?_
  refine J_heap (h1 := c_X11_init_27 h u) rfl ?_
  refine J_aload_n (pc := 110) 0 dX11_init_110 rfl rfl ?_
  refine J_new (mi := mi_X11_init) (N := 2) (pc := 111) (kc := 15) (ks := 126) dX11_init_111 nl_X11_68 (Nat.lt_of_lt_of_le (show (c_X11_init_27 h u).1.1 < h.1.1 + 41 from Nat.le_of_eq rfl) (Nat.le_trans (Nat.add_le_add_left (Nat.le_of_ble_eq_true rfl) _) hz)) ⟨Or.inl (G27.lt hu), trivial⟩ ⟨Or.inl (G27.lt hu), trivial⟩ ?_
  refine J_heap (h1 := c_X11_init_28 h u) rfl ?_
  have L28 : (h.1.1 + 40) < (c_X11_init_28 h u).1.1 := Nat.lt_succ_self _
  have T28 : (c_X11_init_28 h u).1.2.1 (h.1.1 + 40) = (0, 5) := if_pos rfl
  refine J_dup (pc := 114) (v := .ref (h.1.1 + 40)) dX11_init_114 rfl ?_
  refine JC_i (stk := [.ref (h.1.1 + 40), .ref u]) (g_X5_init (c_X11_init_28 h u) (h.1.1 + 40)) ⟨Or.inl (G28.lt hu), trivial⟩ ⟨Or.inl L28, Or.inl (G28.lt hu), trivial⟩ (J_callI (mi := mi_X11_init) (mj := mi_X5_init) (kc := 15) (ks := 126) (pc := 115) dX11_init_115 ml_X11_70 ok_X5_init oi_X5_init ⟨Nat.le_of_ble_eq_true rfl, Nat.le_of_ble_eq_true rfl⟩ rfl (av := []) (s_X5_init (c_X11_init_28 h u) (h.1.1 + 40) L28 T28 (Nat.le_trans (show (c_X11_init_28 h u).1.1 + 0 ≤ h.1.1 + 41 from Nat.le_of_eq rfl) (Nat.le_trans (Nat.add_le_add_left (Nat.le_of_ble_eq_true rfl) _) hz))) rfl (Nat.le_of_ble_eq_true rfl)) ?_
  refine J_heap (h1 := c_X11_init_29 h u) rfl ?_
  refine J_putFR (mi := mi_X11_init) (pc := 118) dX11_init_118 fl_X11_71 ft_10_9 rfl (fun q hq => by cases hq; exact ⟨rfl, (gw2 (List.mem_of_getElem? (i := 144) rfl) rfl)⟩) (G29.lt hu) (G29.ty hu ht) rfl ((g_X5_init (c_X11_init_28 h u) (h.1.1 + 40)).lt L28) (fun _ => rfl) (fun _ => rfl) ?_
  refine J_heap (h1 := c_X11_init_30 h u) rfl ?_
  refine J_aload_n (pc := 121) 0 dX11_init_121 rfl rfl ?_
  refine J_new (mi := mi_X11_init) (N := 17) (pc := 122) (kc := 14) (ks := 109) dX11_init_122 nl_X11_75 (Nat.lt_of_lt_of_le (show (c_X11_init_30 h u).1.1 < h.1.1 + 42 from Nat.le_of_eq rfl) (Nat.le_trans (Nat.add_le_add_left (Nat.le_of_ble_eq_true rfl) _) hz)) ⟨Or.inl (G30.lt hu), trivial⟩ ⟨Or.inl (G30.lt hu), trivial⟩ ?_
  refine J_heap (h1 := c_X11_init_31 h u) rfl ?_
  have L31 : (h.1.1 + 41) < (c_X11_init_31 h u).1.1 := Nat.lt_succ_self _
  have T31 : (c_X11_init_31 h u).1.2.1 (h.1.1 + 41) = (0, 3) := if_pos rfl
  refine J_dup (pc := 125) (v := .ref (h.1.1 + 41)) dX11_init_125 rfl ?_
  refine JC_i (stk := [.ref (h.1.1 + 41), .ref u]) (g_X3_init (c_X11_init_31 h u) (h.1.1 + 41)) ⟨Or.inl (G31.lt hu), trivial⟩ ⟨Or.inl L31, Or.inl (G31.lt hu), trivial⟩ (J_callI (mi := mi_X11_init) (mj := mi_X3_init) (kc := 0) (ks := 0) (pc := 126) dX11_init_126 ml_X11_77 ok_X3_init oi_X3_init ⟨Nat.le_of_ble_eq_true rfl, Nat.le_of_ble_eq_true rfl⟩ rfl (av := []) (s_X3_init (c_X11_init_31 h u) (h.1.1 + 41) L31 T31 (Nat.le_trans (show (c_X11_init_31 h u).1.1 + 14 ≤ h.1.1 + 56 from Nat.le_of_eq rfl) (Nat.le_trans (Nat.add_le_add_left (Nat.le_of_ble_eq_true rfl) _) hz))) rfl (Nat.le_of_ble_eq_true rfl)) ?_
  refine J_heap (h1 := c_X11_init_32 h u) rfl ?_
  refine J_putR (pc := 129) dX11_init_129 fl_X11_78 ft_10_10 (G32.lt hu) (G32.ty hu ht) rfl ((g_X3_init (c_X11_init_31 h u) (h.1.1 + 41)).lt L31) (fun _ => rfl) (fun _ => rfl) ?_
  refine J_heap (h1 := c_X11_init_33 h u) rfl ?_
  refine J_aload_n (pc := 132) 0 dX11_init_132 rfl rfl ?_
  refine J_iconst (pc := 133) (v := 0) dX11_init_133 (by decide) ?_
  refine J_putI (pc := 134) dX11_init_134 fl_X11_82 ft_10_11 (G33.lt hu) (G33.ty hu ht) rfl rfl rfl ?_
  refine J_heap (h1 := c_X11_init_34 h u) rfl ?_
  refine J_aload_n (pc := 137) 0 dX11_init_137 rfl rfl ?_
  refine J_iconst (pc := 138) (v := 0) dX11_init_138 (by decide) ?_
  refine J_putI (pc := 139) dX11_init_139 fl_X11_86 ft_10_12 (G34.lt hu) (G34.ty hu ht) rfl rfl rfl ?_
  refine J_heap (h1 := c_X11_init_35 h u) rfl ?_
  refine J_aload_n (pc := 142) 0 dX11_init_142 rfl rfl ?_
  refine J_iconst (pc := 143) (v := (-1)) dX11_init_143 (by decide) ?_
  refine J_putI (pc := 144) dX11_init_144 fl_X11_89 ft_10_13 (G35.lt hu) (G35.ty hu ht) rfl rfl rfl ?_
  refine J_heap (h1 := c_X11_init_36 h u) rfl ?_
  exact J_vret (pc := 147) dX11_init_147 rfl
def c_X13_init_0 (h : JH) (u : Nat) : JH := h
def c_X13_init_1 (h : JH) (u : Nat) : JH := ((c_X13_init_0 h u).1, j_sI (c_X13_init_0 h u).2 u 2 (-1))
def c_X13_init_2 (h : JH) (u : Nat) : JH := j_mkA (c_X13_init_1 h u) u 5 (3, 900)
def c_X13_init_3 (h : JH) (u : Nat) : JH := j_mkA (c_X13_init_2 h u) u 15 (1, 9)
def c_X13_init_4 (h : JH) (u : Nat) : JH := j_mkA (c_X13_init_3 h u) u 16 (1, 6)
def c_X13_init_5 (h : JH) (u : Nat) : JH := j_mkA (c_X13_init_4 h u) u 17 (1, 144)
def c_X13_init_6 (h : JH) (u : Nat) : JH := j_mkA (c_X13_init_5 h u) u 18 (1, 27)
def c_X13_init_7 (h : JH) (u : Nat) : JH := j_mkA (c_X13_init_6 h u) u 21 (1, 729)
def c_X13_init_8 (h : JH) (u : Nat) : JH := j_mkA (c_X13_init_7 h u) u 22 (1, 729)
def c_X13_init_9 (h : JH) (u : Nat) : JH := j_mkA (c_X13_init_8 h u) u 23 (1, 729)
def c_X13_init_10 (h : JH) (u : Nat) : JH := j_mkA (c_X13_init_9 h u) u 27 (1, 12)
def c_X13_init (h : JH) (u : Nat) : JH := c_X13_init_10 h u
theorem g_X13_init (h : JH) (u : Nat) : j_gr h (c_X13_init h u) := by
  have G0 : j_gr h (c_X13_init_0 h u) := j_gr.refl h
  have G1 : j_gr h (c_X13_init_1 h u) := G0.setD _
  have G2 : j_gr h (c_X13_init_2 h u) := G1.mkA u 5 (3, 900)
  have G3 : j_gr h (c_X13_init_3 h u) := G2.mkA u 15 (1, 9)
  have G4 : j_gr h (c_X13_init_4 h u) := G3.mkA u 16 (1, 6)
  have G5 : j_gr h (c_X13_init_5 h u) := G4.mkA u 17 (1, 144)
  have G6 : j_gr h (c_X13_init_6 h u) := G5.mkA u 18 (1, 27)
  have G7 : j_gr h (c_X13_init_7 h u) := G6.mkA u 21 (1, 729)
  have G8 : j_gr h (c_X13_init_8 h u) := G7.mkA u 22 (1, 729)
  have G9 : j_gr h (c_X13_init_9 h u) := G8.mkA u 23 (1, 729)
  have G10 : j_gr h (c_X13_init_10 h u) := G9.mkA u 27 (1, 12)
  exact G10
set_option maxRecDepth 100000 in
theorem s_X13_init (h : JH) (u : Nat) (hu : u < h.1.1) (ht : h.1.2.1 u = (0, 12)) (hz : h.1.1 + 9 ≤ 1000000) : JM mi_X13_init 9 3285 h [.ref u] (some (none, c_X13_init h u)) := by
  have G0 : j_gr h (c_X13_init_0 h u) := j_gr.refl h
  have G1 : j_gr h (c_X13_init_1 h u) := G0.setD _
  have G2 : j_gr h (c_X13_init_2 h u) := G1.mkA u 5 (3, 900)
  have G3 : j_gr h (c_X13_init_3 h u) := G2.mkA u 15 (1, 9)
  have G4 : j_gr h (c_X13_init_4 h u) := G3.mkA u 16 (1, 6)
  have G5 : j_gr h (c_X13_init_5 h u) := G4.mkA u 17 (1, 144)
  have G6 : j_gr h (c_X13_init_6 h u) := G5.mkA u 18 (1, 27)
  have G7 : j_gr h (c_X13_init_7 h u) := G6.mkA u 21 (1, 729)
  have G8 : j_gr h (c_X13_init_8 h u) := G7.mkA u 22 (1, 729)
  have G9 : j_gr h (c_X13_init_9 h u) := G8.mkA u 23 (1, 729)
  have G10 : j_gr h (c_X13_init_10 h u) := G9.mkA u 27 (1, 12)
  refine JM_of (by decide) rfl (Nat.le_of_ble_eq_true rfl) ?_
  refine J_loc (loc' := [(0, .ref u)]) [0] rfl ?_
  refine J_aload_n (pc := 0) 0 dX13_init_0 rfl rfl ?_
  refine J_objInit (pc := 1) dX13_init_1 mo_X13_3 (Nat.le_of_ble_eq_true rfl) (Nat.le_of_ble_eq_true rfl) ?_
  refine J_heap (h1 := c_X13_init_0 h u) rfl ?_
  refine J_aload_n (pc := 4) 0 dX13_init_4 rfl rfl ?_
  refine J_iconst (pc := 5) (v := (-1)) dX13_init_5 (by decide) ?_
  refine J_putI (pc := 6) dX13_init_6 fl_X13_9 ft_12_2 (G0.lt hu) (G0.ty hu ht) rfl rfl rfl ?_
  refine J_heap (h1 := c_X13_init_1 h u) rfl ?_
  refine J_aload_n (pc := 9) 0 dX13_init_9 rfl rfl ?_
  refine J_sipush (pc := 10) (v := 900) dX13_init_10 (by decide) ?_
  refine J_mkB (mi := mi_X13_init) (N := 900) (pc := 13) (kc := 8) (ks := 2385) dX13_init_13 dX13_init_15 (by decide) rfl (Nat.le_of_ble_eq_true rfl) (Nat.lt_of_lt_of_le (show (c_X13_init_1 h u).1.1 < h.1.1 + 1 from Nat.le_of_eq rfl) (Nat.le_trans (Nat.add_le_add_left (Nat.le_of_ble_eq_true rfl) _) hz)) ⟨Or.inl (G1.lt hu), trivial⟩ ⟨Or.inl (G1.lt hu), trivial⟩ fl_X13_13 ft_12_5 rfl (fun q hq => by cases hq; exact ⟨rfl, (gw6 (List.mem_of_getElem? (i := 155) rfl) rfl)⟩) (G1.lt hu) (G1.ty hu ht) rfl ?_
  refine J_heap (h1 := c_X13_init_2 h u) rfl ?_
  refine J_aload_n (pc := 18) 0 dX13_init_18 rfl rfl ?_
  refine J_bipush (pc := 19) (v := 9) dX13_init_19 (by decide) ?_
  refine J_mkI (mi := mi_X13_init) (N := 9) (pc := 21) (kc := 7) (ks := 2376) dX13_init_21 dX13_init_23 (by decide) rfl (Nat.le_of_ble_eq_true rfl) (Nat.lt_of_lt_of_le (show (c_X13_init_2 h u).1.1 < h.1.1 + 2 from Nat.le_of_eq rfl) (Nat.le_trans (Nat.add_le_add_left (Nat.le_of_ble_eq_true rfl) _) hz)) ⟨Or.inl (G2.lt hu), trivial⟩ ⟨Or.inl (G2.lt hu), trivial⟩ fl_X13_17 ft_12_15 rfl (fun q hq => by cases hq; exact ⟨rfl, (gw6 (List.mem_of_getElem? (i := 165) rfl) rfl)⟩) (G2.lt hu) (G2.ty hu ht) rfl ?_
  refine J_heap (h1 := c_X13_init_3 h u) rfl ?_
  refine J_aload_n (pc := 26) 0 dX13_init_26 rfl rfl ?_
  refine J_bipush (pc := 27) (v := 6) dX13_init_27 (by decide) ?_
  refine J_mkI (mi := mi_X13_init) (N := 6) (pc := 29) (kc := 6) (ks := 2370) dX13_init_29 dX13_init_31 (by decide) rfl (Nat.le_of_ble_eq_true rfl) (Nat.lt_of_lt_of_le (show (c_X13_init_3 h u).1.1 < h.1.1 + 3 from Nat.le_of_eq rfl) (Nat.le_trans (Nat.add_le_add_left (Nat.le_of_ble_eq_true rfl) _) hz)) ⟨Or.inl (G3.lt hu), trivial⟩ ⟨Or.inl (G3.lt hu), trivial⟩ fl_X13_21 ft_12_16 rfl (fun q hq => by cases hq; exact ⟨rfl, (gw6 (List.mem_of_getElem? (i := 166) rfl) rfl)⟩) (G3.lt hu) (G3.ty hu ht) rfl ?_
  refine J_heap (h1 := c_X13_init_4 h u) rfl ?_
  refine J_aload_n (pc := 34) 0 dX13_init_34 rfl rfl ?_
  refine J_sipush (pc := 35) (v := 144) dX13_init_35 (by decide) ?_
  refine J_mkI (mi := mi_X13_init) (N := 144) (pc := 38) (kc := 5) (ks := 2226) dX13_init_38 dX13_init_40 (by decide) rfl (Nat.le_of_ble_eq_true rfl) (Nat.lt_of_lt_of_le (show (c_X13_init_4 h u).1.1 < h.1.1 + 4 from Nat.le_of_eq rfl) (Nat.le_trans (Nat.add_le_add_left (Nat.le_of_ble_eq_true rfl) _) hz)) ⟨Or.inl (G4.lt hu), trivial⟩ ⟨Or.inl (G4.lt hu), trivial⟩ fl_X13_24 ft_12_17 rfl (fun q hq => by cases hq; exact ⟨rfl, (gw6 (List.mem_of_getElem? (i := 167) rfl) rfl)⟩) (G4.lt hu) (G4.ty hu ht) rfl ?_
  refine J_heap (h1 := c_X13_init_5 h u) rfl ?_
  refine J_aload_n (pc := 43) 0 dX13_init_43 rfl rfl ?_
  refine J_bipush (pc := 44) (v := 27) dX13_init_44 (by decide) ?_
  refine J_mkI (mi := mi_X13_init) (N := 27) (pc := 46) (kc := 4) (ks := 2199) dX13_init_46 dX13_init_48 (by decide) rfl (Nat.le_of_ble_eq_true rfl) (Nat.lt_of_lt_of_le (show (c_X13_init_5 h u).1.1 < h.1.1 + 5 from Nat.le_of_eq rfl) (Nat.le_trans (Nat.add_le_add_left (Nat.le_of_ble_eq_true rfl) _) hz)) ⟨Or.inl (G5.lt hu), trivial⟩ ⟨Or.inl (G5.lt hu), trivial⟩ fl_X13_27 ft_12_18 rfl (fun q hq => by cases hq; exact ⟨rfl, (gw6 (List.mem_of_getElem? (i := 168) rfl) rfl)⟩) (G5.lt hu) (G5.ty hu ht) rfl ?_
  refine J_heap (h1 := c_X13_init_6 h u) rfl ?_
  refine J_aload_n (pc := 51) 0 dX13_init_51 rfl rfl ?_
  refine J_sipush (pc := 52) (v := 729) dX13_init_52 (by decide) ?_
  refine J_mkI (mi := mi_X13_init) (N := 729) (pc := 55) (kc := 3) (ks := 1470) dX13_init_55 dX13_init_57 (by decide) rfl (Nat.le_of_ble_eq_true rfl) (Nat.lt_of_lt_of_le (show (c_X13_init_6 h u).1.1 < h.1.1 + 6 from Nat.le_of_eq rfl) (Nat.le_trans (Nat.add_le_add_left (Nat.le_of_ble_eq_true rfl) _) hz)) ⟨Or.inl (G6.lt hu), trivial⟩ ⟨Or.inl (G6.lt hu), trivial⟩ fl_X13_30 ft_12_21 rfl (fun q hq => by cases hq; exact ⟨rfl, (gw6 (List.mem_of_getElem? (i := 171) rfl) rfl)⟩) (G6.lt hu) (G6.ty hu ht) rfl ?_
  refine J_heap (h1 := c_X13_init_7 h u) rfl ?_
  refine J_aload_n (pc := 60) 0 dX13_init_60 rfl rfl ?_
  refine J_sipush (pc := 61) (v := 729) dX13_init_61 (by decide) ?_
  refine J_mkI (mi := mi_X13_init) (N := 729) (pc := 64) (kc := 2) (ks := 741) dX13_init_64 dX13_init_66 (by decide) rfl (Nat.le_of_ble_eq_true rfl) (Nat.lt_of_lt_of_le (show (c_X13_init_7 h u).1.1 < h.1.1 + 7 from Nat.le_of_eq rfl) (Nat.le_trans (Nat.add_le_add_left (Nat.le_of_ble_eq_true rfl) _) hz)) ⟨Or.inl (G7.lt hu), trivial⟩ ⟨Or.inl (G7.lt hu), trivial⟩ fl_X13_33 ft_12_22 rfl (fun q hq => by cases hq; exact ⟨rfl, (gw6 (List.mem_of_getElem? (i := 172) rfl) rfl)⟩) (G7.lt hu) (G7.ty hu ht) rfl ?_
  refine J_heap (h1 := c_X13_init_8 h u) rfl ?_
  refine J_aload_n (pc := 69) 0 dX13_init_69 rfl rfl ?_
  refine J_sipush (pc := 70) (v := 729) dX13_init_70 (by decide) ?_
  refine J_mkI (mi := mi_X13_init) (N := 729) (pc := 73) (kc := 1) (ks := 12) dX13_init_73 dX13_init_75 (by decide) rfl (Nat.le_of_ble_eq_true rfl) (Nat.lt_of_lt_of_le (show (c_X13_init_8 h u).1.1 < h.1.1 + 8 from Nat.le_of_eq rfl) (Nat.le_trans (Nat.add_le_add_left (Nat.le_of_ble_eq_true rfl) _) hz)) ⟨Or.inl (G8.lt hu), trivial⟩ ⟨Or.inl (G8.lt hu), trivial⟩ fl_X13_36 ft_12_23 rfl (fun q hq => by cases hq; exact ⟨rfl, (gw6 (List.mem_of_getElem? (i := 173) rfl) rfl)⟩) (G8.lt hu) (G8.ty hu ht) rfl ?_
  refine J_heap (h1 := c_X13_init_9 h u) rfl ?_
  refine J_aload_n (pc := 78) 0 dX13_init_78 rfl rfl ?_
  refine J_bipush (pc := 79) (v := 12) dX13_init_79 (by decide) ?_
  refine J_mkI (mi := mi_X13_init) (N := 12) (pc := 81) (kc := 0) (ks := 0) dX13_init_81 dX13_init_83 (by decide) rfl (Nat.le_of_ble_eq_true rfl) (Nat.lt_of_lt_of_le (show (c_X13_init_9 h u).1.1 < h.1.1 + 9 from Nat.le_of_eq rfl) (Nat.le_trans (Nat.add_le_add_left (Nat.le_of_ble_eq_true rfl) _) hz)) ⟨Or.inl (G9.lt hu), trivial⟩ ⟨Or.inl (G9.lt hu), trivial⟩ fl_X13_39 ft_12_27 rfl (fun q hq => by cases hq; exact ⟨rfl, (gw6 (List.mem_of_getElem? (i := 177) rfl) rfl)⟩) (G9.lt hu) (G9.ty hu ht) rfl ?_
  refine J_heap (h1 := c_X13_init_10 h u) rfl ?_
  exact J_vret (pc := 86) dX13_init_86 rfl
