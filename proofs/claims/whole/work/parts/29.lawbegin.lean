/-! the law's beginning -/
def hS_0 (L : Nat) (xs : Nat → Int32) : JH := ((0, (fun _ => (0, 0)), (fun _ _ => none), L, xs), ((fun _ _ => 0), (fun _ _ => 0)))
def hS_1 (L : Nat) (xs : Nat → Int32) : JH := j_new (hS_0 L xs) (0, 10)
def hS_2 (L : Nat) (xs : Nat → Int32) : JH := c_X11_init (hS_1 L xs) 0
def hS_3 (L : Nat) (xs : Nat → Int32) : JH := j_new (hS_2 L xs) (0, 12)
def hS_4 (L : Nat) (xs : Nat → Int32) : JH := c_X13_init (hS_3 L xs) 57
def hS (L : Nat) (xs : Nat → Int32) : JH := j_new (hS_4 L xs) (2, 1)
theorem hS_2n (L : Nat) (xs : Nat → Int32) : (hS_2 L xs).1.1 = 57 := rfl
theorem hS_3n (L : Nat) (xs : Nat → Int32) : (hS_3 L xs).1.1 = 58 := rfl
theorem hS_4n (L : Nat) (xs : Nat → Int32) : (hS_4 L xs).1.1 = 67 := rfl
theorem hS_n (L : Nat) (xs : Nat → Int32) : (hS L xs).1.1 = 68 := rfl
theorem hS_3t (L : Nat) (xs : Nat → Int32) : (hS_3 L xs).1.2.1 57 = (0, 12) := rfl
theorem nl_L_8 : j_NL RL 8 10 14 := ⟨_, rfl, rfl, (gw1 (List.mem_of_getElem? (i := 25) rfl) rfl), (gw1 (List.mem_of_getElem? (i := 26) rfl) rfl), (gw1 (List.mem_of_getElem? (i := 1) rfl) rfl)⟩
theorem nl_L_16 : j_NL RL 16 12 30 := ⟨_, rfl, rfl, (gw6 (List.mem_of_getElem? (i := 144) rfl) rfl), (gw6 (List.mem_of_getElem? (i := 145) rfl) rfl), (gw1 (List.mem_of_getElem? (i := 12) rfl) rfl)⟩
set_option maxRecDepth 100000 in
theorem lw_begin {kc ks L : Nat} {xs : Nat → Int32} {o : Option (Option Value × JH)} (kk : J mi_law 601024 7293034 kc ks (hS L xs) 23 (lw_loc 0) [] o) : J mi_law 601024 7293034 (kc + 68) (ks + 7798) (hS_0 L xs) 0 [(0, .ref 3000000)] [] o := by
  refine J_new (mi := mi_law) (N := 14) (pc := 0) (kc := kc + 67) (ks := ks + 7784) dL_law_0 nl_L_8 (show 0 < 1000000 by decide) ⟨Or.inr (show 1000000 ≤ 3000000 by decide), trivial⟩ trivial ?_
  refine J_heap (h1 := hS_1 L xs) rfl ?_
  refine J_dup (pc := 3) (v := .ref 0) dL_law_3 rfl ?_
  refine JC_i (stk := [.ref 0]) (g_X11_init (hS_1 L xs) 0) ⟨Or.inr (show 1000000 ≤ 3000000 by decide), trivial⟩ ⟨Or.inl (show 0 < 1 by decide), trivial⟩ (J_callI (mi := mi_law) (mj := mi_X11_init) (kc := kc + 11) (ks := ks + 3316) (pc := 4) dL_law_4 ml_L_15 ok_X11_init oi_X11_init ⟨Nat.le_of_ble_eq_true rfl, Nat.le_of_ble_eq_true rfl⟩ rfl (av := []) (s_X11_init (hS_1 L xs) 0 (show 0 < 1 by decide) rfl (show 1 + 56 ≤ 1000000 by decide)) rfl (Nat.le_of_ble_eq_true rfl)) ?_
  refine J_heap (h1 := hS_2 L xs) rfl ?_
  refine J_astore_n (pc := 7) (loc' := [(1, .ref 0), (0, .ref 3000000)]) dL_law_7 rfl (by decide) rfl ?_
  refine J_new (mi := mi_law) (N := 30) (pc := 8) (kc := kc + 10) (ks := ks + 3286) dL_law_8 nl_L_16 (show (hS_2 L xs).1.1 < 1000000 from hS_2n L xs ▸ (by decide)) ⟨Or.inl (show 0 < (hS_2 L xs).1.1 from hS_2n L xs ▸ (by decide)), Or.inr (show 1000000 ≤ 3000000 by decide), trivial⟩ trivial ?_
  refine J_heap (h1 := hS_3 L xs) rfl ?_
  rw [hS_2n]
  refine J_dup (pc := 11) (v := .ref 57) dL_law_11 rfl ?_
  refine JC_i (stk := [.ref 57]) (g_X13_init (hS_3 L xs) 57) ⟨Or.inl (show 0 < (hS_3 L xs).1.1 from hS_3n L xs ▸ (by decide)), Or.inr (show 1000000 ≤ 3000000 by decide), trivial⟩ ⟨Or.inl (show 57 < (hS_3 L xs).1.1 from hS_3n L xs ▸ (by decide)), trivial⟩ (J_callI (mi := mi_law) (mj := mi_X13_init) (kc := kc + 1) (ks := ks + 1) (pc := 12) dL_law_12 ml_L_18 ok_X13_init oi_X13_init ⟨Nat.le_of_ble_eq_true rfl, Nat.le_of_ble_eq_true rfl⟩ rfl (av := []) (s_X13_init (hS_3 L xs) 57 (hS_3n L xs ▸ (by decide)) (hS_3t L xs) (by rw [hS_3n]; decide)) rfl (Nat.le_of_ble_eq_true rfl)) ?_
  refine J_heap (h1 := hS_4 L xs) rfl ?_
  refine J_astore_n (pc := 15) (loc' := [(2, .ref 57), (1, .ref 0), (0, .ref 3000000)]) dL_law_15 rfl (by decide) rfl ?_
  refine J_iconst (pc := 16) (v := 1) dL_law_16 (by decide) ?_
  refine J_newaL (mi := mi_law) (pc := 17) (N := 1) (kc := kc) (ks := ks) dL_law_17 (by decide) rfl (Nat.le_of_ble_eq_true rfl) (show (hS_4 L xs).1.1 < 1000000 from hS_4n L xs ▸ (by decide)) ⟨Or.inl (show 57 < (hS_4 L xs).1.1 from hS_4n L xs ▸ (by decide)), Or.inl (show 0 < (hS_4 L xs).1.1 from hS_4n L xs ▸ (by decide)), Or.inr (show 1000000 ≤ 3000000 by decide), trivial⟩ trivial ?_
  refine J_heap (h1 := hS L xs) rfl ?_
  rw [hS_4n]
  refine J_astore_n (pc := 19) (loc' := [(3, .ref 67), (2, .ref 57), (1, .ref 0), (0, .ref 3000000)]) dL_law_19 rfl (by decide) rfl ?_
  refine J_iconst (pc := 20) (v := 0) dL_law_20 (by decide) ?_
  refine J_istore (pc := 21) (loc' := [(4, .int 0), (3, .ref 67), (2, .ref 57), (1, .ref 0), (0, .ref 3000000)]) dL_law_21 (by decide) rfl ?_
  exact J_loc [0, 4, 3, 2, 1] rfl kk
set_option maxRecDepth 100000 in
theorem hS_W (L : Nat) (xs : Nat → Int32) : j_sh (hS L xs).1 0 TS_W RS_W := by
  refine ⟨Nat.le_of_ble_eq_true rfl, fun j t hj => ?_, fun i q hq => ?_⟩
  · match j, hj with
    | 0, hj => cases hj; rfl
    | 1, hj => cases hj; rfl
    | 2, hj => cases hj; rfl
    | 3, hj => cases hj; rfl
    | 4, hj => cases hj; rfl
    | 5, hj => cases hj; rfl
    | 6, hj => cases hj; rfl
    | 7, hj => cases hj; rfl
    | 8, hj => cases hj; rfl
    | 9, hj => cases hj; rfl
    | 10, hj => cases hj; rfl
    | 11, hj => cases hj; rfl
    | 12, hj => cases hj; rfl
    | 13, hj => cases hj; rfl
    | 14, hj => cases hj; rfl
    | 15, hj => cases hj; rfl
    | 16, hj => cases hj; rfl
    | 17, hj => cases hj; rfl
    | 18, hj => cases hj; rfl
    | 19, hj => cases hj; rfl
    | 20, hj => cases hj; rfl
    | 21, hj => cases hj; rfl
    | 22, hj => cases hj; rfl
    | 23, hj => cases hj; rfl
    | 24, hj => cases hj; rfl
    | 25, hj => cases hj; rfl
    | 26, hj => cases hj; rfl
    | 27, hj => cases hj; rfl
    | 28, hj => cases hj; rfl
    | 29, hj => cases hj; rfl
    | 30, hj => cases hj; rfl
    | 31, hj => cases hj; rfl
    | 32, hj => cases hj; rfl
    | 33, hj => cases hj; rfl
    | 34, hj => cases hj; rfl
    | 35, hj => cases hj; rfl
    | 36, hj => cases hj; rfl
    | 37, hj => cases hj; rfl
    | 38, hj => cases hj; rfl
    | 39, hj => cases hj; rfl
    | 40, hj => cases hj; rfl
    | 41, hj => cases hj; rfl
    | 42, hj => cases hj; rfl
    | 43, hj => cases hj; rfl
    | 44, hj => cases hj; rfl
    | 45, hj => cases hj; rfl
    | 46, hj => cases hj; rfl
    | 47, hj => cases hj; rfl
    | 48, hj => cases hj; rfl
    | 49, hj => cases hj; rfl
    | 50, hj => cases hj; rfl
    | 51, hj => cases hj; rfl
    | 52, hj => cases hj; rfl
    | 53, hj => cases hj; rfl
    | 54, hj => cases hj; rfl
    | 55, hj => cases hj; rfl
    | 56, hj => cases hj; rfl
    | 57, hj => cases hj; rfl
    | 58, hj => cases hj; rfl
    | 59, hj => cases hj; rfl
    | 60, hj => cases hj; rfl
    | 61, hj => cases hj; rfl
    | 62, hj => cases hj; rfl
    | 63, hj => cases hj; rfl
    | 64, hj => cases hj; rfl
    | 65, hj => cases hj; rfl
    | 66, hj => cases hj; rfl
    | 67, hj => cases hj; rfl
    | n + 68, hj => cases hj
  · match i, hq with
    | 0, hq => cases hq; rfl
    | 1, hq => cases hq; rfl
    | 2, hq => cases hq; rfl
    | 3, hq => cases hq; rfl
    | 4, hq => cases hq; rfl
    | 5, hq => cases hq; rfl
    | 6, hq => cases hq; rfl
    | 7, hq => cases hq; rfl
    | 8, hq => cases hq; rfl
    | 9, hq => cases hq; rfl
    | 10, hq => cases hq; rfl
    | 11, hq => cases hq; rfl
    | 12, hq => cases hq; rfl
    | 13, hq => cases hq; rfl
    | 14, hq => cases hq; rfl
    | 15, hq => cases hq; rfl
    | 16, hq => cases hq; rfl
    | 17, hq => cases hq; rfl
    | 18, hq => cases hq; rfl
    | 19, hq => cases hq; rfl
    | 20, hq => cases hq; rfl
    | 21, hq => cases hq; rfl
    | 22, hq => cases hq; rfl
    | 23, hq => cases hq; rfl
    | 24, hq => cases hq; rfl
    | 25, hq => cases hq; rfl
    | 26, hq => cases hq; rfl
    | 27, hq => cases hq; rfl
    | 28, hq => cases hq; rfl
    | 29, hq => cases hq; rfl
    | 30, hq => cases hq; rfl
    | 31, hq => cases hq; rfl
    | 32, hq => cases hq; rfl
    | 33, hq => cases hq; rfl
    | 34, hq => cases hq; rfl
    | 35, hq => cases hq; rfl
    | 36, hq => cases hq; rfl
    | 37, hq => cases hq; rfl
    | 38, hq => cases hq; rfl
    | 39, hq => cases hq; rfl
    | 40, hq => cases hq; rfl
    | 41, hq => cases hq; rfl
    | 42, hq => cases hq; rfl
    | 43, hq => cases hq; rfl
    | 44, hq => cases hq; rfl
    | 45, hq => cases hq; rfl
    | 46, hq => cases hq; rfl
    | 47, hq => cases hq; rfl
    | 48, hq => cases hq; rfl
    | 49, hq => cases hq; rfl
    | 50, hq => cases hq; rfl
    | 51, hq => cases hq; rfl
    | 52, hq => cases hq; rfl
    | 53, hq => cases hq; rfl
    | 54, hq => cases hq; rfl
    | 55, hq => cases hq; rfl
    | 56, hq => cases hq; rfl
    | 57, hq => cases hq; rfl
    | 58, hq => cases hq; rfl
    | 59, hq => cases hq; rfl
    | 60, hq => cases hq; rfl
    | 61, hq => cases hq; rfl
    | 62, hq => cases hq; rfl
    | 63, hq => cases hq; rfl
    | n + 64, hq => cases hq
set_option maxRecDepth 100000 in
theorem hS_A (L : Nat) (xs : Nat → Int32) : j_sh (hS L xs).1 42 TS_CL RS_CL := by
  refine ⟨Nat.le_of_ble_eq_true rfl, fun j t hj => ?_, fun i q hq => ?_⟩
  · match j, hj with
    | 0, hj => cases hj; rfl
    | 1, hj => cases hj; rfl
    | 2, hj => cases hj; rfl
    | 3, hj => cases hj; rfl
    | 4, hj => cases hj; rfl
    | 5, hj => cases hj; rfl
    | 6, hj => cases hj; rfl
    | 7, hj => cases hj; rfl
    | 8, hj => cases hj; rfl
    | 9, hj => cases hj; rfl
    | 10, hj => cases hj; rfl
    | 11, hj => cases hj; rfl
    | 12, hj => cases hj; rfl
    | 13, hj => cases hj; rfl
    | 14, hj => cases hj; rfl
    | n + 15, hj => cases hj
  · match i, hq with
    | 0, hq => cases hq; rfl
    | 1, hq => cases hq; rfl
    | 2, hq => cases hq; rfl
    | 3, hq => cases hq; rfl
    | 4, hq => cases hq; rfl
    | 5, hq => cases hq; rfl
    | 6, hq => cases hq; rfl
    | 7, hq => cases hq; rfl
    | 8, hq => cases hq; rfl
    | 9, hq => cases hq; rfl
    | 10, hq => cases hq; rfl
    | 11, hq => cases hq; rfl
    | 12, hq => cases hq; rfl
    | 13, hq => cases hq; rfl
    | n + 14, hq => cases hq
set_option maxRecDepth 100000 in
theorem hS_B (L : Nat) (xs : Nat → Int32) : j_sh (hS L xs).1 4 TS_CL RS_CL := by
  refine ⟨Nat.le_of_ble_eq_true rfl, fun j t hj => ?_, fun i q hq => ?_⟩
  · match j, hj with
    | 0, hj => cases hj; rfl
    | 1, hj => cases hj; rfl
    | 2, hj => cases hj; rfl
    | 3, hj => cases hj; rfl
    | 4, hj => cases hj; rfl
    | 5, hj => cases hj; rfl
    | 6, hj => cases hj; rfl
    | 7, hj => cases hj; rfl
    | 8, hj => cases hj; rfl
    | 9, hj => cases hj; rfl
    | 10, hj => cases hj; rfl
    | 11, hj => cases hj; rfl
    | 12, hj => cases hj; rfl
    | 13, hj => cases hj; rfl
    | 14, hj => cases hj; rfl
    | n + 15, hj => cases hj
  · match i, hq with
    | 0, hq => cases hq; rfl
    | 1, hq => cases hq; rfl
    | 2, hq => cases hq; rfl
    | 3, hq => cases hq; rfl
    | 4, hq => cases hq; rfl
    | 5, hq => cases hq; rfl
    | 6, hq => cases hq; rfl
    | 7, hq => cases hq; rfl
    | 8, hq => cases hq; rfl
    | 9, hq => cases hq; rfl
    | 10, hq => cases hq; rfl
    | 11, hq => cases hq; rfl
    | 12, hq => cases hq; rfl
    | 13, hq => cases hq; rfl
    | n + 14, hq => cases hq
theorem hS_co (L : Nat) (xs : Nat → Int32) : (hS L xs).1.2.2.1 0 10 = some 42 := rfl
theorem hS_in (L : Nat) (xs : Nat → Int32) : (hS L xs).1.2.2.1 3 1 = some 4 := rfl
theorem hS_la (L : Nat) (xs : Nat → Int32) : (hS L xs).1.2.2.1 57 3 = none := rfl
theorem hS_s (L : Nat) (xs : Nat → Int32) : (hS L xs).1.2.2.2 = (L, xs) := rfl
