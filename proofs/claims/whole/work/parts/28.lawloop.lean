/-! case 52: led -/
set_option maxRecDepth 100000 in
theorem lc_52 {kc ks : Nat} {g : JG} {d : JD} {h2 : JH} {a : Nat} {i p0 p1 p2 p3 p4 p5 b : Int32} {o : Option (Option Value × JH)} (h0 : j_sh g 0 TS_W RS_W) (ha : j_sh g a TS_CL RS_CL) (hco : g.2.2.1 0 10 = some a) (w : j_lw (g, d)) (wc : j_lw h2) (w6 : lw_six (g, d) i p0 p1 p2 p3 p4 p5) (s2 : h2.1.2.2.2 = g.2.2.2) (hM : JM mi_X13_led 0 0 (g, d_Lled d (f_led a d p1)) [.ref 57, .int p1] (some (some (.int b), h2))) (hT : JM mi_X13_thrown 0 0 h2 [.ref 57] (some (some (.int (k_Lled (f_led a d p1))), h2))) (hv : k_Lled (f_led a d p1) = 0 → h2.2.2 67 0 = b.toInt64) (kk : J mi_law 601024 7293034 kc ks h2 1874 (lw_loc i) [] o) : J mi_law 601024 7293034 (kc + 1) (ks + 6) (g, d) 1780 (lw_loc i) [] o := by
  have wb : j_lw (g, d_Lled d (f_led a d p1)) := w
  have w6b : lw_six (g, d_Lled d (f_led a d p1)) i p0 p1 p2 p3 p4 p5 := w6
  have oq : ∀ (h : JH) (_ : j_lw h) (x : Int32), j_okq h.1.1 ((5, .int x) :: lw_loc i) := fun h w x => ⟨trivial, lwv_okq w i⟩
  refine J_aload_n (pc := 1780) 2 dL_law_1780 rfl rfl ?_
  refine J_arg (pc := 1781) (kv := 1) 1 0 dL_law_1781 dL_law_1782 dL_law_1784 dL_law_1785 dL_law_1786 rfl rfl (by decide) w6.1.1 w6.1.2 ?_
  refine J_aload_n (pc := 1787) 4 dL_law_1787 rfl rfl ?_
  refine JC_law (stk := []) (h' := (g, d_Lled d (f_led a d p1))) rfl (lwv_okq w i) trivial (J_callLed a 1788 p1 h0 ha hco dL_law_1788 rfl (Nat.le_of_ble_eq_true rfl)) ?_
  refine J_istore (pc := 1791) (loc' := (5, .int (k_Lled (f_led a d p1))) :: lw_loc i) dL_law_1791 (by decide) rfl ?_
  refine J_aload_n (pc := 1793) 4 dL_law_1793 rfl rfl ?_
  refine J_arg (pc := 1794) (kv := 1) 2 1 dL_law_1794 dL_law_1795 dL_law_1797 dL_law_1798 dL_law_1799 rfl rfl (by decide) w6b.1.1 w6b.1.2 ?_
  refine JC_law (stk := []) s2 (oq _ wb _) trivial (J_callV (mi := mi_law) (mj := mi_X13_led) (a := 57) (ci := 12) (pc := 1800) (kc := kc) (ks := ks) (stk := []) (av := [.int p1]) dL_law_1800 ml_L_242 ok_X13_led ov_X13_led ⟨Nat.le_of_ble_eq_true rfl, Nat.le_of_ble_eq_true rfl⟩ rfl (Nat.lt_of_lt_of_le (by decide) wb.1) wb.2.2.1 rfl hM rfl (Nat.le_of_ble_eq_true rfl)) ?_
  refine J_istore (pc := 1803) (loc' := (6, .int b) :: (5, .int (k_Lled (f_led a d p1))) :: lw_loc i) dL_law_1803 (by decide) rfl ?_
  refine J_aload_n (pc := 1805) 5 dL_law_1805 rfl rfl ?_
  refine JC_law (stk := []) rfl ⟨trivial, oq _ wc _⟩ trivial (J_callV (mi := mi_law) (mj := mi_X13_thrown) (a := 57) (ci := 12) (pc := 1806) (kc := kc) (ks := ks) (stk := []) (av := []) dL_law_1806 ml_L_243 ok_X13_thrown ov_X13_thrown ⟨Nat.le_of_ble_eq_true rfl, Nat.le_of_ble_eq_true rfl⟩ rfl (Nat.lt_of_lt_of_le (by decide) wc.1) wc.2.2.1 rfl hT rfl (Nat.le_of_ble_eq_true rfl)) ?_
  refine J_iload (pc := 1809) 1 dL_law_1809 rfl ?_
  refine J_same (pc := 1811) (tgt := 1816) dL_law_1811 (by decide) ?_
  refine J_iload (pc := 1816) 1 dL_law_1816 rfl ?_
  refine J_eqo (show o = if k_Lled (f_led a d p1) = 0 then o else o by split <;> rfl) (J_if_ne (pc := 1818) (tgt := 1833) dL_law_1818 (by decide) (fun z => ?_) (fun z => ?_))
  · refine J_goto (pc := 1833) (tgt := 1874) dL_law_1833 (by decide) ?_
    exact J_loc [2, 3, 4, 5, 6] rfl kk
  · refine J_aload_n (pc := 1821) 6 dL_law_1821 rfl rfl ?_
    refine J_iconst (pc := 1822) (v := 0) dL_law_1822 (by decide) ?_
    refine J_lald (pc := 1823) (n := 1) dL_law_1823 (Nat.lt_of_lt_of_le (by decide) wc.1) wc.2.2.2 (show ¬ ((0 : Int32) < 0 ∨ 1 ≤ (0 : Int32).toNatClampNeg) by decide) ?_
    refine J_iload (pc := 1824) 0 dL_law_1824 rfl ?_
    refine J_i2l (pc := 1826) dL_law_1826 ?_
    rw [show h2.2.2 67 (0 : Int32).toNatClampNeg = b.toInt64 from hv z]
    refine J_sameL (pc := 1827) (tgt := 1833) dL_law_1827 dL_law_1828 (by decide) ?_
    refine J_goto (pc := 1833) (tgt := 1874) dL_law_1833 (by decide) ?_
    exact J_loc [2, 3, 4, 5, 6] rfl kk
/-! the steps of the law, one for each call -/
def lw_st_0 (R : JH → Prop) : Prop := ∀ (h : JH) (p1 p2 p3 p4 p5 : Int32), R h → h.1.1 + 15 ≤ 1000000 → ∃ (h1 h2 : JH) (x : Int32), j_lw h1 ∧ h1.1.2.2.2 = h.1.2.2.2 ∧ h2.1.2.2.2 = h1.1.2.2.2 ∧ JM mi_X11_feed 0 0 h [.ref 0, .int p1, .int p2, .int p3, .int p4, .int p5] (some (some (.int x), h1)) ∧ JM mi_X13_feed 0 0 h1 [.ref 57, .int p1, .int p2, .int p3, .int p4, .int p5] (some (some (.int x), h2)) ∧ R h2 ∧ h2.1.1 ≤ h.1.1 + 15
def lw_st_1 (R : JH → Prop) : Prop := ∀ (h : JH) (p1 : Int32), R h → h.1.1 + 15 ≤ 1000000 → ∃ (h1 h2 : JH) (x : Int32), j_lw h1 ∧ h1.1.2.2.2 = h.1.2.2.2 ∧ h2.1.2.2.2 = h1.1.2.2.2 ∧ JM mi_X11_land 0 0 h [.ref 0, .int p1] (some (some (.int x), h1)) ∧ JM mi_X13_land 15 125 h1 [.ref 57, .int p1] (some (some (.int x), h2)) ∧ R h2 ∧ h2.1.1 ≤ h.1.1 + 15
def lw_st_2 (R : JH → Prop) : Prop := ∀ (h : JH), R h → h.1.1 + 15 ≤ 1000000 → ∃ (h1 h2 : JH) (x : Int32), j_lw h1 ∧ h1.1.2.2.2 = h.1.2.2.2 ∧ h2.1.2.2.2 = h1.1.2.2.2 ∧ JM mi_X11_fault 0 0 h [.ref 0] (some (some (.int x), h1)) ∧ JM mi_X13_fault 0 0 h1 [.ref 57] (some (some (.int x), h2)) ∧ R h2 ∧ h2.1.1 ≤ h.1.1 + 15
def lw_st_3 (R : JH → Prop) : Prop := ∀ (h : JH), R h → h.1.1 + 15 ≤ 1000000 → ∃ (h1 h2 : JH) (x : Int32), j_lw h1 ∧ h1.1.2.2.2 = h.1.2.2.2 ∧ h2.1.2.2.2 = h1.1.2.2.2 ∧ JM mi_X11_where 0 0 h [.ref 0] (some (some (.int x), h1)) ∧ JM mi_X13_where 0 0 h1 [.ref 57] (some (some (.int x), h2)) ∧ R h2 ∧ h2.1.1 ≤ h.1.1 + 15
def lw_st_4 (R : JH → Prop) : Prop := ∀ (h : JH) (p1 p2 : Int32), R h → h.1.1 + 15 ≤ 1000000 → ∃ (h1 h2 : JH) (x : Int32), j_lw h1 ∧ h1.1.2.2.2 = h.1.2.2.2 ∧ h2.1.2.2.2 = h1.1.2.2.2 ∧ JM mi_X11_gate 0 0 h [.ref 0, .int p1, .int p2] (some (some (.int x), h1)) ∧ JM mi_X13_gate 0 0 h1 [.ref 57, .int p1, .int p2] (some (some (.int x), h2)) ∧ R h2 ∧ h2.1.1 ≤ h.1.1 + 15
def lw_st_5 (R : JH → Prop) : Prop := ∀ (h : JH) (p1 p2 : Int32), R h → h.1.1 + 15 ≤ 1000000 → ∃ (h1 h2 : JH) (x : Int32), j_lw h1 ∧ h1.1.2.2.2 = h.1.2.2.2 ∧ h2.1.2.2.2 = h1.1.2.2.2 ∧ JM mi_X11_person 0 0 h [.ref 0, .int p1, .int p2] (some (some (.int x), h1)) ∧ JM mi_X13_person 0 0 h1 [.ref 57, .int p1, .int p2] (some (some (.int x), h2)) ∧ R h2 ∧ h2.1.1 ≤ h.1.1 + 15
def lw_st_6 (R : JH → Prop) : Prop := ∀ (h : JH) (p1 p2 : Int32), R h → h.1.1 + 15 ≤ 1000000 → ∃ (h1 h2 : JH) (x : Int32), j_lw h1 ∧ h1.1.2.2.2 = h.1.2.2.2 ∧ h2.1.2.2.2 = h1.1.2.2.2 ∧ JM mi_X11_firm 0 0 h [.ref 0, .int p1, .int p2] (some (some (.int x), h1)) ∧ JM mi_X13_firm 0 0 h1 [.ref 57, .int p1, .int p2] (some (some (.int x), h2)) ∧ R h2 ∧ h2.1.1 ≤ h.1.1 + 15
def lw_st_7 (R : JH → Prop) : Prop := ∀ (h : JH), R h → h.1.1 + 15 ≤ 1000000 → ∃ (h1 h2 : JH) (x : Int32), j_lw h1 ∧ h1.1.2.2.2 = h.1.2.2.2 ∧ h2.1.2.2.2 = h1.1.2.2.2 ∧ JM mi_X11_commons 0 0 h [.ref 0] (some (some (.int x), h1)) ∧ JM mi_X13_commons 0 0 h1 [.ref 57] (some (some (.int x), h2)) ∧ R h2 ∧ h2.1.1 ≤ h.1.1 + 15
def lw_st_8 (R : JH → Prop) : Prop := ∀ (h : JH), R h → h.1.1 + 15 ≤ 1000000 → ∃ (h1 h2 : JH) (x : Int32), j_lw h1 ∧ h1.1.2.2.2 = h.1.2.2.2 ∧ h2.1.2.2.2 = h1.1.2.2.2 ∧ JM mi_X11_richest 0 0 h [.ref 0] (some (some (.int x), h1)) ∧ JM mi_X13_richest 0 0 h1 [.ref 57] (some (some (.int x), h2)) ∧ R h2 ∧ h2.1.1 ≤ h.1.1 + 15
def lw_st_9 (R : JH → Prop) : Prop := ∀ (h : JH), R h → h.1.1 + 15 ≤ 1000000 → ∃ (h1 h2 : JH) (x : Int32), j_lw h1 ∧ h1.1.2.2.2 = h.1.2.2.2 ∧ h2.1.2.2.2 = h1.1.2.2.2 ∧ JM mi_X11_ground 0 0 h [.ref 0] (some (some (.int x), h1)) ∧ JM mi_X13_ground 0 0 h1 [.ref 57] (some (some (.int x), h2)) ∧ R h2 ∧ h2.1.1 ≤ h.1.1 + 15
def lw_st_10 (R : JH → Prop) : Prop := ∀ (h : JH) (p1 p2 p3 : Int32), R h → h.1.1 + 15 ≤ 1000000 → ∃ (h1 h2 : JH) (x : Int32), j_lw h1 ∧ h1.1.2.2.2 = h.1.2.2.2 ∧ h2.1.2.2.2 = h1.1.2.2.2 ∧ JM mi_X11_hasIf 0 0 h [.ref 0, .int p1, .int p2, .int p3] (some (some (.int x), h1)) ∧ JM mi_X13_hasIf 0 0 h1 [.ref 57, .int p1, .int p2, .int p3] (some (some (.int x), h2)) ∧ R h2 ∧ h2.1.1 ≤ h.1.1 + 15
def lw_st_11 (R : JH → Prop) : Prop := ∀ (h : JH) (p1 : Int32), R h → h.1.1 + 15 ≤ 1000000 → ∃ (h1 h2 : JH) (x : Int32), j_lw h1 ∧ h1.1.2.2.2 = h.1.2.2.2 ∧ h2.1.2.2.2 = h1.1.2.2.2 ∧ JM mi_X11_can 0 0 h [.ref 0, .int p1] (some (some (.int x), h1)) ∧ JM mi_X13_can 0 0 h1 [.ref 57, .int p1] (some (some (.int x), h2)) ∧ R h2 ∧ h2.1.1 ≤ h.1.1 + 15
def lw_st_12 (R : JH → Prop) : Prop := ∀ (h : JH), R h → h.1.1 + 15 ≤ 1000000 → ∃ (h1 h2 : JH) (x : Int32), j_lw h1 ∧ h1.1.2.2.2 = h.1.2.2.2 ∧ h2.1.2.2.2 = h1.1.2.2.2 ∧ JM mi_X11_errand 0 0 h [.ref 0] (some (some (.int x), h1)) ∧ JM mi_X13_errand 0 0 h1 [.ref 57] (some (some (.int x), h2)) ∧ R h2 ∧ h2.1.1 ≤ h.1.1 + 15
def lw_st_13 (R : JH → Prop) : Prop := ∀ (h : JH) (p1 : Int32), R h → h.1.1 + 15 ≤ 1000000 → ∃ (h1 h2 : JH) (x : Int32), j_lw h1 ∧ h1.1.2.2.2 = h.1.2.2.2 ∧ h2.1.2.2.2 = h1.1.2.2.2 ∧ JM mi_X11_errandAt 0 0 h [.ref 0, .int p1] (some (some (.int x), h1)) ∧ JM mi_X13_errandAt 0 0 h1 [.ref 57, .int p1] (some (some (.int x), h2)) ∧ R h2 ∧ h2.1.1 ≤ h.1.1 + 15
def lw_st_14 (R : JH → Prop) : Prop := ∀ (h : JH), R h → h.1.1 + 15 ≤ 1000000 → ∃ (h1 h2 : JH) (x : Int32), j_lw h1 ∧ h1.1.2.2.2 = h.1.2.2.2 ∧ h2.1.2.2.2 = h1.1.2.2.2 ∧ JM mi_X11_met 0 0 h [.ref 0] (some (some (.int x), h1)) ∧ JM mi_X13_met 0 0 h1 [.ref 57] (some (some (.int x), h2)) ∧ R h2 ∧ h2.1.1 ≤ h.1.1 + 15
def lw_st_15 (R : JH → Prop) : Prop := ∀ (h : JH) (p1 p2 : Int32), R h → h.1.1 + 15 ≤ 1000000 → ∃ (h1 h2 : JH) (x : Int32), j_lw h1 ∧ h1.1.2.2.2 = h.1.2.2.2 ∧ h2.1.2.2.2 = h1.1.2.2.2 ∧ JM mi_X11_movesFor 0 0 h [.ref 0, .int p1, .int p2] (some (some (.int x), h1)) ∧ JM mi_X13_movesFor 0 0 h1 [.ref 57, .int p1, .int p2] (some (some (.int x), h2)) ∧ R h2 ∧ h2.1.1 ≤ h.1.1 + 15
def lw_st_16 (R : JH → Prop) : Prop := ∀ (h : JH) (p1 p2 : Int32), R h → h.1.1 + 15 ≤ 1000000 → ∃ (h1 h2 : JH) (x : Int32), j_lw h1 ∧ h1.1.2.2.2 = h.1.2.2.2 ∧ h2.1.2.2.2 = h1.1.2.2.2 ∧ JM mi_X11_mostBy 0 0 h [.ref 0, .int p1, .int p2] (some (some (.int x), h1)) ∧ JM mi_X13_mostBy 0 0 h1 [.ref 57, .int p1, .int p2] (some (some (.int x), h2)) ∧ R h2 ∧ h2.1.1 ≤ h.1.1 + 15
def lw_st_17 (R : JH → Prop) : Prop := ∀ (h : JH), R h → h.1.1 + 15 ≤ 1000000 → ∃ (h1 h2 : JH) (x : Int32), j_lw h1 ∧ h1.1.2.2.2 = h.1.2.2.2 ∧ h2.1.2.2.2 = h1.1.2.2.2 ∧ JM mi_X11_reach 0 0 h [.ref 0] (some (some (.int x), h1)) ∧ JM mi_X13_reach 0 0 h1 [.ref 57] (some (some (.int x), h2)) ∧ R h2 ∧ h2.1.1 ≤ h.1.1 + 15
def lw_st_18 (R : JH → Prop) : Prop := ∀ (h : JH), R h → h.1.1 + 15 ≤ 1000000 → ∃ (h1 h2 : JH) (x : Int32), j_lw h1 ∧ h1.1.2.2.2 = h.1.2.2.2 ∧ h2.1.2.2.2 = h1.1.2.2.2 ∧ JM mi_X11_cover 0 0 h [.ref 0] (some (some (.int x), h1)) ∧ JM mi_X13_cover 0 0 h1 [.ref 57] (some (some (.int x), h2)) ∧ R h2 ∧ h2.1.1 ≤ h.1.1 + 15
def lw_st_19 (R : JH → Prop) : Prop := ∀ (h : JH) (p1 : Int32), R h → h.1.1 + 15 ≤ 1000000 → ∃ (h1 h2 : JH) (x : Int32), j_lw h1 ∧ h1.1.2.2.2 = h.1.2.2.2 ∧ h2.1.2.2.2 = h1.1.2.2.2 ∧ JM mi_X11_coverAt 0 0 h [.ref 0, .int p1] (some (some (.int x), h1)) ∧ JM mi_X13_coverAt 0 0 h1 [.ref 57, .int p1] (some (some (.int x), h2)) ∧ R h2 ∧ h2.1.1 ≤ h.1.1 + 15
def lw_st_20 (R : JH → Prop) : Prop := ∀ (h : JH), R h → h.1.1 + 15 ≤ 1000000 → ∃ (h1 h2 : JH) (x : Int32), j_lw h1 ∧ h1.1.2.2.2 = h.1.2.2.2 ∧ h2.1.2.2.2 = h1.1.2.2.2 ∧ JM mi_X11_stills 0 0 h [.ref 0] (some (some (.int x), h1)) ∧ JM mi_X13_stills 0 0 h1 [.ref 57] (some (some (.int x), h2)) ∧ R h2 ∧ h2.1.1 ≤ h.1.1 + 15
def lw_st_21 (R : JH → Prop) : Prop := ∀ (h : JH), R h → h.1.1 + 15 ≤ 1000000 → ∃ (h1 h2 : JH) (x : Int32), j_lw h1 ∧ h1.1.2.2.2 = h.1.2.2.2 ∧ h2.1.2.2.2 = h1.1.2.2.2 ∧ JM mi_X11_isStill 0 0 h [.ref 0] (some (some (.int x), h1)) ∧ JM mi_X13_isStill 0 0 h1 [.ref 57] (some (some (.int x), h2)) ∧ R h2 ∧ h2.1.1 ≤ h.1.1 + 15
def lw_st_22 (R : JH → Prop) : Prop := ∀ (h : JH), R h → h.1.1 + 15 ≤ 1000000 → ∃ (h1 h2 : JH) (x : Int32), j_lw h1 ∧ h1.1.2.2.2 = h.1.2.2.2 ∧ h2.1.2.2.2 = h1.1.2.2.2 ∧ JM mi_X11_fairest 0 0 h [.ref 0] (some (some (.int x), h1)) ∧ JM mi_X13_fairest 0 0 h1 [.ref 57] (some (some (.int x), h2)) ∧ R h2 ∧ h2.1.1 ≤ h.1.1 + 15
def lw_st_23 (R : JH → Prop) : Prop := ∀ (h : JH) (p1 : Int32), R h → h.1.1 + 15 ≤ 1000000 → ∃ (h1 h2 : JH) (x : Int32), j_lw h1 ∧ h1.1.2.2.2 = h.1.2.2.2 ∧ h2.1.2.2.2 = h1.1.2.2.2 ∧ JM mi_X11_fairAt 0 0 h [.ref 0, .int p1] (some (some (.int x), h1)) ∧ JM mi_X13_fairAt 0 0 h1 [.ref 57, .int p1] (some (some (.int x), h2)) ∧ R h2 ∧ h2.1.1 ≤ h.1.1 + 15
def lw_st_24 (R : JH → Prop) : Prop := ∀ (h : JH), R h → h.1.1 + 15 ≤ 1000000 → ∃ (h1 h2 : JH) (x : Int32), j_lw h1 ∧ h1.1.2.2.2 = h.1.2.2.2 ∧ h2.1.2.2.2 = h1.1.2.2.2 ∧ JM mi_X11_fits 0 0 h [.ref 0] (some (some (.int x), h1)) ∧ JM mi_X13_fits 0 0 h1 [.ref 57] (some (some (.int x), h2)) ∧ R h2 ∧ h2.1.1 ≤ h.1.1 + 15
def lw_st_25 (R : JH → Prop) : Prop := ∀ (h : JH) (p1 p2 : Int32), R h → h.1.1 + 15 ≤ 1000000 → ∃ (h1 h2 : JH) (x : Int32), j_lw h1 ∧ h1.1.2.2.2 = h.1.2.2.2 ∧ h2.1.2.2.2 = h1.1.2.2.2 ∧ JM mi_X11_fitAt 0 0 h [.ref 0, .int p1, .int p2] (some (some (.int x), h1)) ∧ JM mi_X13_fitAt 0 0 h1 [.ref 57, .int p1, .int p2] (some (some (.int x), h2)) ∧ R h2 ∧ h2.1.1 ≤ h.1.1 + 15
def lw_st_26 (R : JH → Prop) : Prop := ∀ (h : JH) (p1 p2 : Int32), R h → h.1.1 + 15 ≤ 1000000 → ∃ (h1 h2 : JH) (x : Int32), j_lw h1 ∧ h1.1.2.2.2 = h.1.2.2.2 ∧ h2.1.2.2.2 = h1.1.2.2.2 ∧ JM mi_X11_hungBy 0 0 h [.ref 0, .int p1, .int p2] (some (some (.int x), h1)) ∧ JM mi_X13_hungBy 0 0 h1 [.ref 57, .int p1, .int p2] (some (some (.int x), h2)) ∧ R h2 ∧ h2.1.1 ≤ h.1.1 + 15
def lw_st_27 (R : JH → Prop) : Prop := ∀ (h : JH), R h → h.1.1 + 15 ≤ 1000000 → ∃ (h1 h2 : JH) (x : Int32), j_lw h1 ∧ h1.1.2.2.2 = h.1.2.2.2 ∧ h2.1.2.2.2 = h1.1.2.2.2 ∧ JM mi_X11_look 0 0 h [.ref 0] (some (some (.int x), h1)) ∧ JM mi_X13_look 0 0 h1 [.ref 57] (some (some (.int x), h2)) ∧ R h2 ∧ h2.1.1 ≤ h.1.1 + 15
def lw_st_28 (R : JH → Prop) : Prop := ∀ (h : JH), R h → h.1.1 + 15 ≤ 1000000 → ∃ (h1 h2 : JH) (x : Int32), j_lw h1 ∧ h1.1.2.2.2 = h.1.2.2.2 ∧ h2.1.2.2.2 = h1.1.2.2.2 ∧ JM mi_X11_lookLeaves 0 0 h [.ref 0] (some (some (.int x), h1)) ∧ JM mi_X13_lookLeaves 0 0 h1 [.ref 57] (some (some (.int x), h2)) ∧ R h2 ∧ h2.1.1 ≤ h.1.1 + 15
def lw_st_29 (R : JH → Prop) : Prop := ∀ (h : JH), R h → h.1.1 + 15 ≤ 1000000 → ∃ (h1 h2 : JH) (x : Int32), j_lw h1 ∧ h1.1.2.2.2 = h.1.2.2.2 ∧ h2.1.2.2.2 = h1.1.2.2.2 ∧ JM mi_X11_judge 0 0 h [.ref 0] (some (some (.int x), h1)) ∧ JM mi_X13_judge 0 0 h1 [.ref 57] (some (some (.int x), h2)) ∧ R h2 ∧ h2.1.1 ≤ h.1.1 + 15
def lw_st_30 (R : JH → Prop) : Prop := ∀ (h : JH) (p1 p2 : Int32), R h → h.1.1 + 15 ≤ 1000000 → ∃ (h1 h2 : JH) (x : Int32), j_lw h1 ∧ h1.1.2.2.2 = h.1.2.2.2 ∧ h2.1.2.2.2 = h1.1.2.2.2 ∧ JM mi_X11_apart 0 0 h [.ref 0, .int p1, .int p2] (some (some (.int x), h1)) ∧ JM mi_X13_apart 0 0 h1 [.ref 57, .int p1, .int p2] (some (some (.int x), h2)) ∧ R h2 ∧ h2.1.1 ≤ h.1.1 + 15
def lw_st_31 (R : JH → Prop) : Prop := ∀ (h : JH), R h → h.1.1 + 15 ≤ 1000000 → ∃ (h1 h2 : JH) (x : Int32), j_lw h1 ∧ h1.1.2.2.2 = h.1.2.2.2 ∧ h2.1.2.2.2 = h1.1.2.2.2 ∧ JM mi_X11_sentries 0 0 h [.ref 0] (some (some (.int x), h1)) ∧ JM mi_X13_sentries 0 0 h1 [.ref 57] (some (some (.int x), h2)) ∧ R h2 ∧ h2.1.1 ≤ h.1.1 + 15
def lw_st_32 (R : JH → Prop) : Prop := ∀ (h : JH), R h → h.1.1 + 15 ≤ 1000000 → ∃ (h1 h2 : JH) (x : Int32), j_lw h1 ∧ h1.1.2.2.2 = h.1.2.2.2 ∧ h2.1.2.2.2 = h1.1.2.2.2 ∧ JM mi_X11_parts 0 0 h [.ref 0] (some (some (.int x), h1)) ∧ JM mi_X13_parts 0 0 h1 [.ref 57] (some (some (.int x), h2)) ∧ R h2 ∧ h2.1.1 ≤ h.1.1 + 15
def lw_st_33 (R : JH → Prop) : Prop := ∀ (h : JH) (p1 p2 : Int32), R h → h.1.1 + 15 ≤ 1000000 → ∃ (h1 h2 : JH) (x : Int32), j_lw h1 ∧ h1.1.2.2.2 = h.1.2.2.2 ∧ h2.1.2.2.2 = h1.1.2.2.2 ∧ JM mi_X11_estate 0 0 h [.ref 0, .int p1, .int p2] (some (some (.int x), h1)) ∧ JM mi_X13_estate 0 0 h1 [.ref 57, .int p1, .int p2] (some (some (.int x), h2)) ∧ R h2 ∧ h2.1.1 ≤ h.1.1 + 15
def lw_st_34 (R : JH → Prop) : Prop := ∀ (h : JH) (p1 p2 : Int32), R h → h.1.1 + 15 ≤ 1000000 → ∃ (h1 h2 : JH) (x : Int64), j_lw h1 ∧ h1.1.2.2.2 = h.1.2.2.2 ∧ h2.1.2.2.2 = h1.1.2.2.2 ∧ JM mi_X11_power 0 0 h [.ref 0, .int p1, .int (if p2 = 0 then 0 else 1)] (some (some (.long x), h1)) ∧ JM mi_X13_power 0 0 h1 [.ref 57, .int p1, .int (if p2 = 0 then 0 else 1)] (some (some (.long x), h2)) ∧ R h2 ∧ h2.1.1 ≤ h.1.1 + 15
def lw_st_35 (R : JH → Prop) : Prop := ∀ (h : JH), R h → h.1.1 + 15 ≤ 1000000 → ∃ (h1 h2 : JH) (x : Int32), j_lw h1 ∧ h1.1.2.2.2 = h.1.2.2.2 ∧ h2.1.2.2.2 = h1.1.2.2.2 ∧ JM mi_X11_rule 0 0 h [.ref 0] (some (some (.int x), h1)) ∧ JM mi_X13_rule 0 0 h1 [.ref 57] (some (some (.int x), h2)) ∧ R h2 ∧ h2.1.1 ≤ h.1.1 + 15
def lw_st_36 (R : JH → Prop) : Prop := ∀ (h : JH) (p1 p2 p3 p4 : Int32), R h → h.1.1 + 15 ≤ 1000000 → ∃ (h1 h2 : JH) (x : Int32), j_lw h1 ∧ h1.1.2.2.2 = h.1.2.2.2 ∧ h2.1.2.2.2 = h1.1.2.2.2 ∧ JM mi_X11_steal 0 0 h [.ref 0, .int p1, .int (if p2 = 0 then 0 else 1), .int (if p3 = 0 then 0 else 1), .int (if p4 = 0 then 0 else 1)] (some (some (.int x), h1)) ∧ JM mi_X13_steal 0 0 h1 [.ref 57, .int p1, .int (if p2 = 0 then 0 else 1), .int (if p3 = 0 then 0 else 1), .int (if p4 = 0 then 0 else 1)] (some (some (.int x), h2)) ∧ R h2 ∧ h2.1.1 ≤ h.1.1 + 15
def lw_st_37 (R : JH → Prop) : Prop := ∀ (h : JH) (p1 : Int32), R h → h.1.1 + 15 ≤ 1000000 → ∃ (h1 h2 : JH) (x : Int32), j_lw h1 ∧ h1.1.2.2.2 = h.1.2.2.2 ∧ h2.1.2.2.2 = h1.1.2.2.2 ∧ JM mi_X11_rests 0 0 h [.ref 0, .int p1] (some (some (.int x), h1)) ∧ JM mi_X13_rests 0 0 h1 [.ref 57, .int p1] (some (some (.int x), h2)) ∧ R h2 ∧ h2.1.1 ≤ h.1.1 + 15
def lw_st_38 (R : JH → Prop) : Prop := ∀ (h : JH) (p1 : Int32), R h → h.1.1 + 15 ≤ 1000000 → ∃ (h1 h2 : JH) (x : Int32), j_lw h1 ∧ h1.1.2.2.2 = h.1.2.2.2 ∧ h2.1.2.2.2 = h1.1.2.2.2 ∧ JM mi_X11_rest 0 0 h [.ref 0, .int p1] (some (some (.int x), h1)) ∧ JM mi_X13_rest 0 0 h1 [.ref 57, .int p1] (some (some (.int x), h2)) ∧ R h2 ∧ h2.1.1 ≤ h.1.1 + 15
def lw_st_39 (R : JH → Prop) : Prop := ∀ (h : JH) (p1 p2 p3 : Int32), R h → h.1.1 + 15 ≤ 1000000 → ∃ (h1 h2 : JH) (x : Int64), j_lw h1 ∧ h1.1.2.2.2 = h.1.2.2.2 ∧ h2.1.2.2.2 = h1.1.2.2.2 ∧ JM mi_X11_holds 0 0 h [.ref 0, .int p1, .int p2, .int (if p3 = 0 then 0 else 1)] (some (some (.long x), h1)) ∧ JM mi_X13_holds 0 0 h1 [.ref 57, .int p1, .int p2, .int (if p3 = 0 then 0 else 1)] (some (some (.long x), h2)) ∧ R h2 ∧ h2.1.1 ≤ h.1.1 + 15
def lw_st_40 (R : JH → Prop) : Prop := ∀ (h : JH) (p1 p2 : Int32), R h → h.1.1 + 15 ≤ 1000000 → ∃ (h1 h2 : JH) (x : Int64), j_lw h1 ∧ h1.1.2.2.2 = h.1.2.2.2 ∧ h2.1.2.2.2 = h1.1.2.2.2 ∧ JM mi_X11_mean 0 0 h [.ref 0, .int p1, .int (if p2 = 0 then 0 else 1)] (some (some (.long x), h1)) ∧ JM mi_X13_mean 0 0 h1 [.ref 57, .int p1, .int (if p2 = 0 then 0 else 1)] (some (some (.long x), h2)) ∧ R h2 ∧ h2.1.1 ≤ h.1.1 + 15
def lw_st_41 (R : JH → Prop) : Prop := ∀ (h : JH) (p1 p2 p3 : Int32), R h → h.1.1 + 15 ≤ 1000000 → ∃ (h1 h2 : JH) (x : Int64), j_lw h1 ∧ h1.1.2.2.2 = h.1.2.2.2 ∧ h2.1.2.2.2 = h1.1.2.2.2 ∧ JM mi_X11_keeps 0 0 h [.ref 0, .int p1, .int p2, .int (if p3 = 0 then 0 else 1)] (some (some (.long x), h1)) ∧ JM mi_X13_keeps 0 0 h1 [.ref 57, .int p1, .int p2, .int (if p3 = 0 then 0 else 1)] (some (some (.long x), h2)) ∧ R h2 ∧ h2.1.1 ≤ h.1.1 + 15
def lw_st_42 (R : JH → Prop) : Prop := ∀ (h : JH) (p1 p2 p3 : Int32), R h → h.1.1 + 15 ≤ 1000000 → ∃ (h1 h2 : JH) (x : Int32), j_lw h1 ∧ h1.1.2.2.2 = h.1.2.2.2 ∧ h2.1.2.2.2 = h1.1.2.2.2 ∧ JM mi_X11_century 0 0 h [.ref 0, .int p1, .int p2, .int p3] (some (some (.int x), h1)) ∧ JM mi_X13_century 0 0 h1 [.ref 57, .int p1, .int p2, .int p3] (some (some (.int x), h2)) ∧ R h2 ∧ h2.1.1 ≤ h.1.1 + 15
def lw_st_43 (R : JH → Prop) : Prop := ∀ (h : JH) (p1 p2 : Int32), R h → h.1.1 + 15 ≤ 1000000 → ∃ (h1 h2 : JH) (x : Int32), j_lw h1 ∧ h1.1.2.2.2 = h.1.2.2.2 ∧ h2.1.2.2.2 = h1.1.2.2.2 ∧ JM mi_X11_bare 0 0 h [.ref 0, .int p1, .int p2] (some (some (.int x), h1)) ∧ JM mi_X13_bare 0 0 h1 [.ref 57, .int p1, .int p2] (some (some (.int x), h2)) ∧ R h2 ∧ h2.1.1 ≤ h.1.1 + 15
def lw_st_44 (R : JH → Prop) : Prop := ∀ (h : JH) (p1 p2 : Int32), R h → h.1.1 + 15 ≤ 1000000 → ∃ (h1 h2 : JH) (x : Int32), j_lw h1 ∧ h1.1.2.2.2 = h.1.2.2.2 ∧ h2.1.2.2.2 = h1.1.2.2.2 ∧ JM mi_X11_hang 0 0 h [.ref 0, .int p1, .int (if p2 = 0 then 0 else 1)] (some (some (.int x), h1)) ∧ JM mi_X13_hang 0 0 h1 [.ref 57, .int p1, .int (if p2 = 0 then 0 else 1)] (some (some (.int x), h2)) ∧ R h2 ∧ h2.1.1 ≤ h.1.1 + 15
def lw_st_45 (R : JH → Prop) : Prop := ∀ (h : JH) (p1 : Int32), R h → h.1.1 + 15 ≤ 1000000 → ∃ (h1 h2 : JH) (x : Int32), j_lw h1 ∧ h1.1.2.2.2 = h.1.2.2.2 ∧ h2.1.2.2.2 = h1.1.2.2.2 ∧ JM mi_X11_take 0 0 h [.ref 0, .int p1] (some (some (.int x), h1)) ∧ JM mi_X13_take 0 0 h1 [.ref 57, .int p1] (some (some (.int x), h2)) ∧ R h2 ∧ h2.1.1 ≤ h.1.1 + 15
def lw_st_46 (R : JH → Prop) : Prop := ∀ (h : JH) (p1 : Int32), R h → h.1.1 + 15 ≤ 1000000 → ∃ (h1 h2 : JH) (x : Int32), j_lw h1 ∧ h1.1.2.2.2 = h.1.2.2.2 ∧ h2.1.2.2.2 = h1.1.2.2.2 ∧ JM mi_X11_turnOver 0 0 h [.ref 0, .int p1] (some (some (.int x), h1)) ∧ JM mi_X13_turnOver 0 0 h1 [.ref 57, .int p1] (some (some (.int x), h2)) ∧ R h2 ∧ h2.1.1 ≤ h.1.1 + 15
def lw_st_47 (R : JH → Prop) : Prop := ∀ (h : JH), R h → h.1.1 + 15 ≤ 1000000 → ∃ (h1 h2 : JH) (x : Int32), j_lw h1 ∧ h1.1.2.2.2 = h.1.2.2.2 ∧ h2.1.2.2.2 = h1.1.2.2.2 ∧ JM mi_X11_gust 0 0 h [.ref 0] (some (some (.int x), h1)) ∧ JM mi_X13_gust 0 0 h1 [.ref 57] (some (some (.int x), h2)) ∧ R h2 ∧ h2.1.1 ≤ h.1.1 + 15
def lw_st_48 (R : JH → Prop) : Prop := ∀ (h : JH) (p1 : Int32), R h → h.1.1 + 15 ≤ 1000000 → ∃ (h1 h2 : JH) (x : Int32), j_lw h1 ∧ h1.1.2.2.2 = h.1.2.2.2 ∧ h2.1.2.2.2 = h1.1.2.2.2 ∧ JM mi_X11_seed 0 0 h [.ref 0, .int p1] (some (some (.int x), h1)) ∧ JM mi_X13_seed 0 0 h1 [.ref 57, .int p1] (some (some (.int x), h2)) ∧ R h2 ∧ h2.1.1 ≤ h.1.1 + 15
def lw_st_49 (R : JH → Prop) : Prop := ∀ (h : JH), R h → h.1.1 + 15 ≤ 1000000 → ∃ (h1 h2 : JH) (x : Int32), j_lw h1 ∧ h1.1.2.2.2 = h.1.2.2.2 ∧ h2.1.2.2.2 = h1.1.2.2.2 ∧ JM mi_X11_undo 0 0 h [.ref 0] (some (some (.int x), h1)) ∧ JM mi_X13_undo 0 0 h1 [.ref 57] (some (some (.int x), h2)) ∧ R h2 ∧ h2.1.1 ≤ h.1.1 + 15
def lw_st_50 (R : JH → Prop) : Prop := ∀ (h : JH), R h → h.1.1 + 15 ≤ 1000000 → ∃ (h1 h2 : JH) (x : Int32), j_lw h1 ∧ h1.1.2.2.2 = h.1.2.2.2 ∧ h2.1.2.2.2 = h1.1.2.2.2 ∧ JM mi_X11_image 0 0 h [.ref 0] (some (some (.int x), h1)) ∧ JM mi_X13_image 0 0 h1 [.ref 57] (some (some (.int x), h2)) ∧ R h2 ∧ h2.1.1 ≤ h.1.1 + 15
def lw_st_51 (R : JH → Prop) : Prop := ∀ (h : JH) (p1 : Int32), R h → h.1.1 + 15 ≤ 1000000 → ∃ (h1 h2 : JH) (x : Int32), j_lw h1 ∧ h1.1.2.2.2 = h.1.2.2.2 ∧ h2.1.2.2.2 = h1.1.2.2.2 ∧ JM mi_X11_back 0 0 h [.ref 0, .int p1] (some (some (.int x), h1)) ∧ JM mi_X13_back 0 0 h1 [.ref 57, .int p1] (some (some (.int x), h2)) ∧ R h2 ∧ h2.1.1 ≤ h.1.1 + 15
def lw_st_53 (R : JH → Prop) : Prop := ∀ (h : JH) (p1 : Int32), R h → h.1.1 + 15 ≤ 1000000 → ∃ (h1 h2 : JH) (x : Int32), j_lw h1 ∧ h1.1.2.2.2 = h.1.2.2.2 ∧ h2.1.2.2.2 = h1.1.2.2.2 ∧ JM mi_X11_size 0 0 h [.ref 0, .int p1] (some (some (.int x), h1)) ∧ JM mi_X13_size 0 0 h1 [.ref 57, .int p1] (some (some (.int x), h2)) ∧ R h2 ∧ h2.1.1 ≤ h.1.1 + 15
def lw_st_54 (R : JH → Prop) : Prop := ∀ (h : JH), R h → h.1.1 + 15 ≤ 1000000 → ∃ (h1 h2 : JH) (x : Int32), j_lw h1 ∧ h1.1.2.2.2 = h.1.2.2.2 ∧ h2.1.2.2.2 = h1.1.2.2.2 ∧ JM mi_X11_trouble 0 0 h [.ref 0] (some (some (.int x), h1)) ∧ JM mi_X13_trouble 0 0 h1 [.ref 57] (some (some (.int x), h2)) ∧ R h2 ∧ h2.1.1 ≤ h.1.1 + 15
def lw_st_52 (R : JH → Prop) : Prop := ∀ (g : JG) (d : JD) (p1 : Int32), R (g, d) → ∃ (a : Nat) (b : Int32) (h2 : JH), j_sh g 0 TS_W RS_W ∧ j_sh g a TS_CL RS_CL ∧ g.2.2.1 0 10 = some a ∧ h2.1.2.2.2 = g.2.2.2 ∧ JM mi_X13_led 0 0 (g, d_Lled d (f_led a d p1)) [.ref 57, .int p1] (some (some (.int b), h2)) ∧ JM mi_X13_thrown 0 0 h2 [.ref 57] (some (some (.int (k_Lled (f_led a d p1))), h2)) ∧ (k_Lled (f_led a d p1) = 0 → h2.2.2 67 0 = b.toInt64) ∧ R h2 ∧ h2.1.1 ≤ g.1 + 15
/-- all that tier two owes -/
def lw_Next (R : JH → Prop) : Prop := lw_st_0 R ∧ lw_st_1 R ∧ lw_st_2 R ∧ lw_st_3 R ∧ lw_st_4 R ∧ lw_st_5 R ∧ lw_st_6 R ∧ lw_st_7 R ∧ lw_st_8 R ∧ lw_st_9 R ∧ lw_st_10 R ∧ lw_st_11 R ∧ lw_st_12 R ∧ lw_st_13 R ∧ lw_st_14 R ∧ lw_st_15 R ∧ lw_st_16 R ∧ lw_st_17 R ∧ lw_st_18 R ∧ lw_st_19 R ∧ lw_st_20 R ∧ lw_st_21 R ∧ lw_st_22 R ∧ lw_st_23 R ∧ lw_st_24 R ∧ lw_st_25 R ∧ lw_st_26 R ∧ lw_st_27 R ∧ lw_st_28 R ∧ lw_st_29 R ∧ lw_st_30 R ∧ lw_st_31 R ∧ lw_st_32 R ∧ lw_st_33 R ∧ lw_st_34 R ∧ lw_st_35 R ∧ lw_st_36 R ∧ lw_st_37 R ∧ lw_st_38 R ∧ lw_st_39 R ∧ lw_st_40 R ∧ lw_st_41 R ∧ lw_st_42 R ∧ lw_st_43 R ∧ lw_st_44 R ∧ lw_st_45 R ∧ lw_st_46 R ∧ lw_st_47 R ∧ lw_st_48 R ∧ lw_st_49 R ∧ lw_st_50 R ∧ lw_st_51 R ∧ lw_st_52 R ∧ lw_st_53 R ∧ lw_st_54 R
theorem lw_next_at {i : Int32} {kc ks : Nat} {h : JH} {o : Option (Option Value × JH)} (kk : J mi_law 601024 7293034 kc ks h 23 (lw_loc (i + 6)) [] o) : J mi_law 601024 7293034 kc ks h 1874 (lw_loc i) [] o := by
  refine J_iinc (pc := 1874) (v := i + 6) (loc' := lw_loc (i + 6)) 0 dL_law_1874 rfl (by rfl) (by decide) rfl ?_
  exact J_goto (pc := 1877) (tgt := 23) dL_law_1877 (by decide) kk
theorem lw_out (h : JH) (i : Int32) (kc ks : Nat) : J mi_law 601024 7293034 kc ks h 1880 (lw_loc i) [] (some (some (.int 1), h)) := by
  refine J_iconst (pc := 1880) (v := 1) dL_law_1880 (by decide) ?_
  exact J_zret (pc := 1881) dL_law_1881 rfl rfl
set_option maxRecDepth 100000 in
set_option maxHeartbeats 4000000 in
theorem lw_switch (R : JH → Prop) (hR : ∀ h, R h → j_lw h) (hN : lw_Next R) {h : JH} {i p0 p1 p2 p3 p4 p5 : Int32} {kc ks k : Nat} (hk : k < 64) (w6 : lw_six h i p0 p1 p2 p3 p4 p5) (hr : R h) (hz : h.1.1 + 15 ≤ 1000000) (kk : ∀ h2 : JH, R h2 → h2.1.1 ≤ h.1.1 + 15 → h2.1.2.2.2 = h.1.2.2.2 → ∃ hE, J mi_law 601024 7293034 kc ks h2 23 (lw_loc (i + 6)) [] (some (some (.int 1), hE))) : ∃ hE, J mi_law 601024 7293034 (kc + 15) (ks + 125) h 40 (lw_loc i) [.int (Int32.ofNat k)] (some (some (.int 1), hE)) := by
  have w := hR h hr
  match k, hk with
  | 0, _ =>
    obtain ⟨h1, h2, x, wb, s1, s2, hX, hM, r2, hn⟩ := hN.1 h p1 p2 p3 p4 p5 hr hz
    obtain ⟨hE, K⟩ := kk h2 r2 hn (s2.trans s1)
    exact ⟨hE, J_tsIn (pc := 40) (tgt := 276) (off := 236) dL_law_40 (by decide) (by decide) rfl (by decide) (J_more (kc' := kc + 0) (ks' := ks + 0) (by omega) (by omega) (lc_0 w wb w6 s1 s2 hX hM (lw_next_at K)))⟩
  | 1, _ =>
    obtain ⟨h1, h2, x, wb, s1, s2, hX, hM, r2, hn⟩ := hN.2.1 h p1 hr hz
    obtain ⟨hE, K⟩ := kk h2 r2 hn (s2.trans s1)
    exact ⟨hE, J_tsIn (pc := 40) (tgt := 349) (off := 309) dL_law_40 (by decide) (by decide) rfl (by decide) (J_more (kc' := kc + 15) (ks' := ks + 125) (by omega) (by omega) (lc_1 w wb w6 s1 s2 hX hM (lw_next_at K)))⟩
  | 2, _ =>
    obtain ⟨h1, h2, x, wb, s1, s2, hX, hM, r2, hn⟩ := hN.2.2.1 h hr hz
    obtain ⟨hE, K⟩ := kk h2 r2 hn (s2.trans s1)
    exact ⟨hE, J_tsIn (pc := 40) (tgt := 374) (off := 334) dL_law_40 (by decide) (by decide) rfl (by decide) (J_more (kc' := kc + 0) (ks' := ks + 0) (by omega) (by omega) (lc_2 w wb w6 s1 s2 hX hM (lw_next_at K)))⟩
  | 3, _ =>
    obtain ⟨h1, h2, x, wb, s1, s2, hX, hM, r2, hn⟩ := hN.2.2.2.1 h hr hz
    obtain ⟨hE, K⟩ := kk h2 r2 hn (s2.trans s1)
    exact ⟨hE, J_tsIn (pc := 40) (tgt := 387) (off := 347) dL_law_40 (by decide) (by decide) rfl (by decide) (J_more (kc' := kc + 0) (ks' := ks + 0) (by omega) (by omega) (lc_3 w wb w6 s1 s2 hX hM (lw_next_at K)))⟩
  | 4, _ =>
    obtain ⟨h1, h2, x, wb, s1, s2, hX, hM, r2, hn⟩ := hN.2.2.2.2.1 h p1 p2 hr hz
    obtain ⟨hE, K⟩ := kk h2 r2 hn (s2.trans s1)
    exact ⟨hE, J_tsIn (pc := 40) (tgt := 400) (off := 360) dL_law_40 (by decide) (by decide) rfl (by decide) (J_more (kc' := kc + 0) (ks' := ks + 0) (by omega) (by omega) (lc_4 w wb w6 s1 s2 hX hM (lw_next_at K)))⟩
  | 5, _ =>
    obtain ⟨h1, h2, x, wb, s1, s2, hX, hM, r2, hn⟩ := hN.2.2.2.2.2.1 h p1 p2 hr hz
    obtain ⟨hE, K⟩ := kk h2 r2 hn (s2.trans s1)
    exact ⟨hE, J_tsIn (pc := 40) (tgt := 437) (off := 397) dL_law_40 (by decide) (by decide) rfl (by decide) (J_more (kc' := kc + 0) (ks' := ks + 0) (by omega) (by omega) (lc_5 w wb w6 s1 s2 hX hM (lw_next_at K)))⟩
  | 6, _ =>
    obtain ⟨h1, h2, x, wb, s1, s2, hX, hM, r2, hn⟩ := hN.2.2.2.2.2.2.1 h p1 p2 hr hz
    obtain ⟨hE, K⟩ := kk h2 r2 hn (s2.trans s1)
    exact ⟨hE, J_tsIn (pc := 40) (tgt := 474) (off := 434) dL_law_40 (by decide) (by decide) rfl (by decide) (J_more (kc' := kc + 0) (ks' := ks + 0) (by omega) (by omega) (lc_6 w wb w6 s1 s2 hX hM (lw_next_at K)))⟩
  | 7, _ =>
    obtain ⟨h1, h2, x, wb, s1, s2, hX, hM, r2, hn⟩ := hN.2.2.2.2.2.2.2.1 h hr hz
    obtain ⟨hE, K⟩ := kk h2 r2 hn (s2.trans s1)
    exact ⟨hE, J_tsIn (pc := 40) (tgt := 511) (off := 471) dL_law_40 (by decide) (by decide) rfl (by decide) (J_more (kc' := kc + 0) (ks' := ks + 0) (by omega) (by omega) (lc_7 w wb w6 s1 s2 hX hM (lw_next_at K)))⟩
  | 8, _ =>
    obtain ⟨h1, h2, x, wb, s1, s2, hX, hM, r2, hn⟩ := hN.2.2.2.2.2.2.2.2.1 h hr hz
    obtain ⟨hE, K⟩ := kk h2 r2 hn (s2.trans s1)
    exact ⟨hE, J_tsIn (pc := 40) (tgt := 524) (off := 484) dL_law_40 (by decide) (by decide) rfl (by decide) (J_more (kc' := kc + 0) (ks' := ks + 0) (by omega) (by omega) (lc_8 w wb w6 s1 s2 hX hM (lw_next_at K)))⟩
  | 9, _ =>
    obtain ⟨h1, h2, x, wb, s1, s2, hX, hM, r2, hn⟩ := hN.2.2.2.2.2.2.2.2.2.1 h hr hz
    obtain ⟨hE, K⟩ := kk h2 r2 hn (s2.trans s1)
    exact ⟨hE, J_tsIn (pc := 40) (tgt := 537) (off := 497) dL_law_40 (by decide) (by decide) rfl (by decide) (J_more (kc' := kc + 0) (ks' := ks + 0) (by omega) (by omega) (lc_9 w wb w6 s1 s2 hX hM (lw_next_at K)))⟩
  | 10, _ =>
    obtain ⟨h1, h2, x, wb, s1, s2, hX, hM, r2, hn⟩ := hN.2.2.2.2.2.2.2.2.2.2.1 h p1 p2 p3 hr hz
    obtain ⟨hE, K⟩ := kk h2 r2 hn (s2.trans s1)
    exact ⟨hE, J_tsIn (pc := 40) (tgt := 550) (off := 510) dL_law_40 (by decide) (by decide) rfl (by decide) (J_more (kc' := kc + 0) (ks' := ks + 0) (by omega) (by omega) (lc_10 w wb w6 s1 s2 hX hM (lw_next_at K)))⟩
  | 11, _ =>
    obtain ⟨h1, h2, x, wb, s1, s2, hX, hM, r2, hn⟩ := hN.2.2.2.2.2.2.2.2.2.2.2.1 h p1 hr hz
    obtain ⟨hE, K⟩ := kk h2 r2 hn (s2.trans s1)
    exact ⟨hE, J_tsIn (pc := 40) (tgt := 599) (off := 559) dL_law_40 (by decide) (by decide) rfl (by decide) (J_more (kc' := kc + 0) (ks' := ks + 0) (by omega) (by omega) (lc_11 w wb w6 s1 s2 hX hM (lw_next_at K)))⟩
  | 12, _ =>
    obtain ⟨h1, h2, x, wb, s1, s2, hX, hM, r2, hn⟩ := hN.2.2.2.2.2.2.2.2.2.2.2.2.1 h hr hz
    obtain ⟨hE, K⟩ := kk h2 r2 hn (s2.trans s1)
    exact ⟨hE, J_tsIn (pc := 40) (tgt := 624) (off := 584) dL_law_40 (by decide) (by decide) rfl (by decide) (J_more (kc' := kc + 0) (ks' := ks + 0) (by omega) (by omega) (lc_12 w wb w6 s1 s2 hX hM (lw_next_at K)))⟩
  | 13, _ =>
    obtain ⟨h1, h2, x, wb, s1, s2, hX, hM, r2, hn⟩ := hN.2.2.2.2.2.2.2.2.2.2.2.2.2.1 h p1 hr hz
    obtain ⟨hE, K⟩ := kk h2 r2 hn (s2.trans s1)
    exact ⟨hE, J_tsIn (pc := 40) (tgt := 637) (off := 597) dL_law_40 (by decide) (by decide) rfl (by decide) (J_more (kc' := kc + 0) (ks' := ks + 0) (by omega) (by omega) (lc_13 w wb w6 s1 s2 hX hM (lw_next_at K)))⟩
  | 14, _ =>
    obtain ⟨h1, h2, x, wb, s1, s2, hX, hM, r2, hn⟩ := hN.2.2.2.2.2.2.2.2.2.2.2.2.2.2.1 h hr hz
    obtain ⟨hE, K⟩ := kk h2 r2 hn (s2.trans s1)
    exact ⟨hE, J_tsIn (pc := 40) (tgt := 662) (off := 622) dL_law_40 (by decide) (by decide) rfl (by decide) (J_more (kc' := kc + 0) (ks' := ks + 0) (by omega) (by omega) (lc_14 w wb w6 s1 s2 hX hM (lw_next_at K)))⟩
  | 15, _ =>
    obtain ⟨h1, h2, x, wb, s1, s2, hX, hM, r2, hn⟩ := hN.2.2.2.2.2.2.2.2.2.2.2.2.2.2.2.1 h p1 p2 hr hz
    obtain ⟨hE, K⟩ := kk h2 r2 hn (s2.trans s1)
    exact ⟨hE, J_tsIn (pc := 40) (tgt := 675) (off := 635) dL_law_40 (by decide) (by decide) rfl (by decide) (J_more (kc' := kc + 0) (ks' := ks + 0) (by omega) (by omega) (lc_15 w wb w6 s1 s2 hX hM (lw_next_at K)))⟩
  | 16, _ =>
    obtain ⟨h1, h2, x, wb, s1, s2, hX, hM, r2, hn⟩ := hN.2.2.2.2.2.2.2.2.2.2.2.2.2.2.2.2.1 h p1 p2 hr hz
    obtain ⟨hE, K⟩ := kk h2 r2 hn (s2.trans s1)
    exact ⟨hE, J_tsIn (pc := 40) (tgt := 712) (off := 672) dL_law_40 (by decide) (by decide) rfl (by decide) (J_more (kc' := kc + 0) (ks' := ks + 0) (by omega) (by omega) (lc_16 w wb w6 s1 s2 hX hM (lw_next_at K)))⟩
  | 17, _ =>
    obtain ⟨h1, h2, x, wb, s1, s2, hX, hM, r2, hn⟩ := hN.2.2.2.2.2.2.2.2.2.2.2.2.2.2.2.2.2.1 h hr hz
    obtain ⟨hE, K⟩ := kk h2 r2 hn (s2.trans s1)
    exact ⟨hE, J_tsIn (pc := 40) (tgt := 749) (off := 709) dL_law_40 (by decide) (by decide) rfl (by decide) (J_more (kc' := kc + 0) (ks' := ks + 0) (by omega) (by omega) (lc_17 w wb w6 s1 s2 hX hM (lw_next_at K)))⟩
  | 18, _ =>
    obtain ⟨h1, h2, x, wb, s1, s2, hX, hM, r2, hn⟩ := hN.2.2.2.2.2.2.2.2.2.2.2.2.2.2.2.2.2.2.1 h hr hz
    obtain ⟨hE, K⟩ := kk h2 r2 hn (s2.trans s1)
    exact ⟨hE, J_tsIn (pc := 40) (tgt := 762) (off := 722) dL_law_40 (by decide) (by decide) rfl (by decide) (J_more (kc' := kc + 0) (ks' := ks + 0) (by omega) (by omega) (lc_18 w wb w6 s1 s2 hX hM (lw_next_at K)))⟩
  | 19, _ =>
    obtain ⟨h1, h2, x, wb, s1, s2, hX, hM, r2, hn⟩ := hN.2.2.2.2.2.2.2.2.2.2.2.2.2.2.2.2.2.2.2.1 h p1 hr hz
    obtain ⟨hE, K⟩ := kk h2 r2 hn (s2.trans s1)
    exact ⟨hE, J_tsIn (pc := 40) (tgt := 775) (off := 735) dL_law_40 (by decide) (by decide) rfl (by decide) (J_more (kc' := kc + 0) (ks' := ks + 0) (by omega) (by omega) (lc_19 w wb w6 s1 s2 hX hM (lw_next_at K)))⟩
  | 20, _ =>
    obtain ⟨h1, h2, x, wb, s1, s2, hX, hM, r2, hn⟩ := hN.2.2.2.2.2.2.2.2.2.2.2.2.2.2.2.2.2.2.2.2.1 h hr hz
    obtain ⟨hE, K⟩ := kk h2 r2 hn (s2.trans s1)
    exact ⟨hE, J_tsIn (pc := 40) (tgt := 800) (off := 760) dL_law_40 (by decide) (by decide) rfl (by decide) (J_more (kc' := kc + 0) (ks' := ks + 0) (by omega) (by omega) (lc_20 w wb w6 s1 s2 hX hM (lw_next_at K)))⟩
  | 21, _ =>
    obtain ⟨h1, h2, x, wb, s1, s2, hX, hM, r2, hn⟩ := hN.2.2.2.2.2.2.2.2.2.2.2.2.2.2.2.2.2.2.2.2.2.1 h hr hz
    obtain ⟨hE, K⟩ := kk h2 r2 hn (s2.trans s1)
    exact ⟨hE, J_tsIn (pc := 40) (tgt := 813) (off := 773) dL_law_40 (by decide) (by decide) rfl (by decide) (J_more (kc' := kc + 0) (ks' := ks + 0) (by omega) (by omega) (lc_21 w wb w6 s1 s2 hX hM (lw_next_at K)))⟩
  | 22, _ =>
    obtain ⟨h1, h2, x, wb, s1, s2, hX, hM, r2, hn⟩ := hN.2.2.2.2.2.2.2.2.2.2.2.2.2.2.2.2.2.2.2.2.2.2.1 h hr hz
    obtain ⟨hE, K⟩ := kk h2 r2 hn (s2.trans s1)
    exact ⟨hE, J_tsIn (pc := 40) (tgt := 826) (off := 786) dL_law_40 (by decide) (by decide) rfl (by decide) (J_more (kc' := kc + 0) (ks' := ks + 0) (by omega) (by omega) (lc_22 w wb w6 s1 s2 hX hM (lw_next_at K)))⟩
  | 23, _ =>
    obtain ⟨h1, h2, x, wb, s1, s2, hX, hM, r2, hn⟩ := hN.2.2.2.2.2.2.2.2.2.2.2.2.2.2.2.2.2.2.2.2.2.2.2.1 h p1 hr hz
    obtain ⟨hE, K⟩ := kk h2 r2 hn (s2.trans s1)
    exact ⟨hE, J_tsIn (pc := 40) (tgt := 839) (off := 799) dL_law_40 (by decide) (by decide) rfl (by decide) (J_more (kc' := kc + 0) (ks' := ks + 0) (by omega) (by omega) (lc_23 w wb w6 s1 s2 hX hM (lw_next_at K)))⟩
  | 24, _ =>
    obtain ⟨h1, h2, x, wb, s1, s2, hX, hM, r2, hn⟩ := hN.2.2.2.2.2.2.2.2.2.2.2.2.2.2.2.2.2.2.2.2.2.2.2.2.1 h hr hz
    obtain ⟨hE, K⟩ := kk h2 r2 hn (s2.trans s1)
    exact ⟨hE, J_tsIn (pc := 40) (tgt := 864) (off := 824) dL_law_40 (by decide) (by decide) rfl (by decide) (J_more (kc' := kc + 0) (ks' := ks + 0) (by omega) (by omega) (lc_24 w wb w6 s1 s2 hX hM (lw_next_at K)))⟩
  | 25, _ =>
    obtain ⟨h1, h2, x, wb, s1, s2, hX, hM, r2, hn⟩ := hN.2.2.2.2.2.2.2.2.2.2.2.2.2.2.2.2.2.2.2.2.2.2.2.2.2.1 h p1 p2 hr hz
    obtain ⟨hE, K⟩ := kk h2 r2 hn (s2.trans s1)
    exact ⟨hE, J_tsIn (pc := 40) (tgt := 877) (off := 837) dL_law_40 (by decide) (by decide) rfl (by decide) (J_more (kc' := kc + 0) (ks' := ks + 0) (by omega) (by omega) (lc_25 w wb w6 s1 s2 hX hM (lw_next_at K)))⟩
  | 26, _ =>
    obtain ⟨h1, h2, x, wb, s1, s2, hX, hM, r2, hn⟩ := hN.2.2.2.2.2.2.2.2.2.2.2.2.2.2.2.2.2.2.2.2.2.2.2.2.2.2.1 h p1 p2 hr hz
    obtain ⟨hE, K⟩ := kk h2 r2 hn (s2.trans s1)
    exact ⟨hE, J_tsIn (pc := 40) (tgt := 914) (off := 874) dL_law_40 (by decide) (by decide) rfl (by decide) (J_more (kc' := kc + 0) (ks' := ks + 0) (by omega) (by omega) (lc_26 w wb w6 s1 s2 hX hM (lw_next_at K)))⟩
  | 27, _ =>
    obtain ⟨h1, h2, x, wb, s1, s2, hX, hM, r2, hn⟩ := hN.2.2.2.2.2.2.2.2.2.2.2.2.2.2.2.2.2.2.2.2.2.2.2.2.2.2.2.1 h hr hz
    obtain ⟨hE, K⟩ := kk h2 r2 hn (s2.trans s1)
    exact ⟨hE, J_tsIn (pc := 40) (tgt := 951) (off := 911) dL_law_40 (by decide) (by decide) rfl (by decide) (J_more (kc' := kc + 0) (ks' := ks + 0) (by omega) (by omega) (lc_27 w wb w6 s1 s2 hX hM (lw_next_at K)))⟩
  | 28, _ =>
    obtain ⟨h1, h2, x, wb, s1, s2, hX, hM, r2, hn⟩ := hN.2.2.2.2.2.2.2.2.2.2.2.2.2.2.2.2.2.2.2.2.2.2.2.2.2.2.2.2.1 h hr hz
    obtain ⟨hE, K⟩ := kk h2 r2 hn (s2.trans s1)
    exact ⟨hE, J_tsIn (pc := 40) (tgt := 964) (off := 924) dL_law_40 (by decide) (by decide) rfl (by decide) (J_more (kc' := kc + 0) (ks' := ks + 0) (by omega) (by omega) (lc_28 w wb w6 s1 s2 hX hM (lw_next_at K)))⟩
  | 29, _ =>
    obtain ⟨h1, h2, x, wb, s1, s2, hX, hM, r2, hn⟩ := hN.2.2.2.2.2.2.2.2.2.2.2.2.2.2.2.2.2.2.2.2.2.2.2.2.2.2.2.2.2.1 h hr hz
    obtain ⟨hE, K⟩ := kk h2 r2 hn (s2.trans s1)
    exact ⟨hE, J_tsIn (pc := 40) (tgt := 977) (off := 937) dL_law_40 (by decide) (by decide) rfl (by decide) (J_more (kc' := kc + 0) (ks' := ks + 0) (by omega) (by omega) (lc_29 w wb w6 s1 s2 hX hM (lw_next_at K)))⟩
  | 30, _ =>
    obtain ⟨h1, h2, x, wb, s1, s2, hX, hM, r2, hn⟩ := hN.2.2.2.2.2.2.2.2.2.2.2.2.2.2.2.2.2.2.2.2.2.2.2.2.2.2.2.2.2.2.1 h p1 p2 hr hz
    obtain ⟨hE, K⟩ := kk h2 r2 hn (s2.trans s1)
    exact ⟨hE, J_tsIn (pc := 40) (tgt := 990) (off := 950) dL_law_40 (by decide) (by decide) rfl (by decide) (J_more (kc' := kc + 0) (ks' := ks + 0) (by omega) (by omega) (lc_30 w wb w6 s1 s2 hX hM (lw_next_at K)))⟩
  | 31, _ =>
    obtain ⟨h1, h2, x, wb, s1, s2, hX, hM, r2, hn⟩ := hN.2.2.2.2.2.2.2.2.2.2.2.2.2.2.2.2.2.2.2.2.2.2.2.2.2.2.2.2.2.2.2.1 h hr hz
    obtain ⟨hE, K⟩ := kk h2 r2 hn (s2.trans s1)
    exact ⟨hE, J_tsIn (pc := 40) (tgt := 1027) (off := 987) dL_law_40 (by decide) (by decide) rfl (by decide) (J_more (kc' := kc + 0) (ks' := ks + 0) (by omega) (by omega) (lc_31 w wb w6 s1 s2 hX hM (lw_next_at K)))⟩
  | 32, _ =>
    obtain ⟨h1, h2, x, wb, s1, s2, hX, hM, r2, hn⟩ := hN.2.2.2.2.2.2.2.2.2.2.2.2.2.2.2.2.2.2.2.2.2.2.2.2.2.2.2.2.2.2.2.2.1 h hr hz
    obtain ⟨hE, K⟩ := kk h2 r2 hn (s2.trans s1)
    exact ⟨hE, J_tsIn (pc := 40) (tgt := 1040) (off := 1000) dL_law_40 (by decide) (by decide) rfl (by decide) (J_more (kc' := kc + 0) (ks' := ks + 0) (by omega) (by omega) (lc_32 w wb w6 s1 s2 hX hM (lw_next_at K)))⟩
  | 33, _ =>
    obtain ⟨h1, h2, x, wb, s1, s2, hX, hM, r2, hn⟩ := hN.2.2.2.2.2.2.2.2.2.2.2.2.2.2.2.2.2.2.2.2.2.2.2.2.2.2.2.2.2.2.2.2.2.1 h p1 p2 hr hz
    obtain ⟨hE, K⟩ := kk h2 r2 hn (s2.trans s1)
    exact ⟨hE, J_tsIn (pc := 40) (tgt := 1053) (off := 1013) dL_law_40 (by decide) (by decide) rfl (by decide) (J_more (kc' := kc + 0) (ks' := ks + 0) (by omega) (by omega) (lc_33 w wb w6 s1 s2 hX hM (lw_next_at K)))⟩
  | 34, _ =>
    obtain ⟨h1, h2, x, wb, s1, s2, hX, hM, r2, hn⟩ := hN.2.2.2.2.2.2.2.2.2.2.2.2.2.2.2.2.2.2.2.2.2.2.2.2.2.2.2.2.2.2.2.2.2.2.1 h p1 p2 hr hz
    obtain ⟨hE, K⟩ := kk h2 r2 hn (s2.trans s1)
    exact ⟨hE, J_tsIn (pc := 40) (tgt := 1090) (off := 1050) dL_law_40 (by decide) (by decide) rfl (by decide) (J_more (kc' := kc + 0) (ks' := ks + 0) (by omega) (by omega) (lc_34 w wb w6 s1 s2 hX hM (lw_next_at K)))⟩
  | 35, _ =>
    obtain ⟨h1, h2, x, wb, s1, s2, hX, hM, r2, hn⟩ := hN.2.2.2.2.2.2.2.2.2.2.2.2.2.2.2.2.2.2.2.2.2.2.2.2.2.2.2.2.2.2.2.2.2.2.2.1 h hr hz
    obtain ⟨hE, K⟩ := kk h2 r2 hn (s2.trans s1)
    exact ⟨hE, J_tsIn (pc := 40) (tgt := 1144) (off := 1104) dL_law_40 (by decide) (by decide) rfl (by decide) (J_more (kc' := kc + 0) (ks' := ks + 0) (by omega) (by omega) (lc_35 w wb w6 s1 s2 hX hM (lw_next_at K)))⟩
  | 36, _ =>
    obtain ⟨h1, h2, x, wb, s1, s2, hX, hM, r2, hn⟩ := hN.2.2.2.2.2.2.2.2.2.2.2.2.2.2.2.2.2.2.2.2.2.2.2.2.2.2.2.2.2.2.2.2.2.2.2.2.1 h p1 p2 p3 p4 hr hz
    obtain ⟨hE, K⟩ := kk h2 r2 hn (s2.trans s1)
    exact ⟨hE, J_tsIn (pc := 40) (tgt := 1157) (off := 1117) dL_law_40 (by decide) (by decide) rfl (by decide) (J_more (kc' := kc + 0) (ks' := ks + 0) (by omega) (by omega) (lc_36 w wb w6 s1 s2 hX hM (lw_next_at K)))⟩
  | 37, _ =>
    obtain ⟨h1, h2, x, wb, s1, s2, hX, hM, r2, hn⟩ := hN.2.2.2.2.2.2.2.2.2.2.2.2.2.2.2.2.2.2.2.2.2.2.2.2.2.2.2.2.2.2.2.2.2.2.2.2.2.1 h p1 hr hz
    obtain ⟨hE, K⟩ := kk h2 r2 hn (s2.trans s1)
    exact ⟨hE, J_tsIn (pc := 40) (tgt := 1266) (off := 1226) dL_law_40 (by decide) (by decide) rfl (by decide) (J_more (kc' := kc + 0) (ks' := ks + 0) (by omega) (by omega) (lc_37 w wb w6 s1 s2 hX hM (lw_next_at K)))⟩
  | 38, _ =>
    obtain ⟨h1, h2, x, wb, s1, s2, hX, hM, r2, hn⟩ := hN.2.2.2.2.2.2.2.2.2.2.2.2.2.2.2.2.2.2.2.2.2.2.2.2.2.2.2.2.2.2.2.2.2.2.2.2.2.2.1 h p1 hr hz
    obtain ⟨hE, K⟩ := kk h2 r2 hn (s2.trans s1)
    exact ⟨hE, J_tsIn (pc := 40) (tgt := 1291) (off := 1251) dL_law_40 (by decide) (by decide) rfl (by decide) (J_more (kc' := kc + 0) (ks' := ks + 0) (by omega) (by omega) (lc_38 w wb w6 s1 s2 hX hM (lw_next_at K)))⟩
  | 39, _ =>
    obtain ⟨h1, h2, x, wb, s1, s2, hX, hM, r2, hn⟩ := hN.2.2.2.2.2.2.2.2.2.2.2.2.2.2.2.2.2.2.2.2.2.2.2.2.2.2.2.2.2.2.2.2.2.2.2.2.2.2.2.1 h p1 p2 p3 hr hz
    obtain ⟨hE, K⟩ := kk h2 r2 hn (s2.trans s1)
    exact ⟨hE, J_tsIn (pc := 40) (tgt := 1316) (off := 1276) dL_law_40 (by decide) (by decide) rfl (by decide) (J_more (kc' := kc + 0) (ks' := ks + 0) (by omega) (by omega) (lc_39 w wb w6 s1 s2 hX hM (lw_next_at K)))⟩
  | 40, _ =>
    obtain ⟨h1, h2, x, wb, s1, s2, hX, hM, r2, hn⟩ := hN.2.2.2.2.2.2.2.2.2.2.2.2.2.2.2.2.2.2.2.2.2.2.2.2.2.2.2.2.2.2.2.2.2.2.2.2.2.2.2.2.1 h p1 p2 hr hz
    obtain ⟨hE, K⟩ := kk h2 r2 hn (s2.trans s1)
    exact ⟨hE, J_tsIn (pc := 40) (tgt := 1382) (off := 1342) dL_law_40 (by decide) (by decide) rfl (by decide) (J_more (kc' := kc + 0) (ks' := ks + 0) (by omega) (by omega) (lc_40 w wb w6 s1 s2 hX hM (lw_next_at K)))⟩
  | 41, _ =>
    obtain ⟨h1, h2, x, wb, s1, s2, hX, hM, r2, hn⟩ := hN.2.2.2.2.2.2.2.2.2.2.2.2.2.2.2.2.2.2.2.2.2.2.2.2.2.2.2.2.2.2.2.2.2.2.2.2.2.2.2.2.2.1 h p1 p2 p3 hr hz
    obtain ⟨hE, K⟩ := kk h2 r2 hn (s2.trans s1)
    exact ⟨hE, J_tsIn (pc := 40) (tgt := 1436) (off := 1396) dL_law_40 (by decide) (by decide) rfl (by decide) (J_more (kc' := kc + 0) (ks' := ks + 0) (by omega) (by omega) (lc_41 w wb w6 s1 s2 hX hM (lw_next_at K)))⟩
  | 42, _ =>
    obtain ⟨h1, h2, x, wb, s1, s2, hX, hM, r2, hn⟩ := hN.2.2.2.2.2.2.2.2.2.2.2.2.2.2.2.2.2.2.2.2.2.2.2.2.2.2.2.2.2.2.2.2.2.2.2.2.2.2.2.2.2.2.1 h p1 p2 p3 hr hz
    obtain ⟨hE, K⟩ := kk h2 r2 hn (s2.trans s1)
    exact ⟨hE, J_tsIn (pc := 40) (tgt := 1502) (off := 1462) dL_law_40 (by decide) (by decide) rfl (by decide) (J_more (kc' := kc + 0) (ks' := ks + 0) (by omega) (by omega) (lc_42 w wb w6 s1 s2 hX hM (lw_next_at K)))⟩
  | 43, _ =>
    obtain ⟨h1, h2, x, wb, s1, s2, hX, hM, r2, hn⟩ := hN.2.2.2.2.2.2.2.2.2.2.2.2.2.2.2.2.2.2.2.2.2.2.2.2.2.2.2.2.2.2.2.2.2.2.2.2.2.2.2.2.2.2.2.1 h p1 p2 hr hz
    obtain ⟨hE, K⟩ := kk h2 r2 hn (s2.trans s1)
    exact ⟨hE, J_tsIn (pc := 40) (tgt := 1551) (off := 1511) dL_law_40 (by decide) (by decide) rfl (by decide) (J_more (kc' := kc + 0) (ks' := ks + 0) (by omega) (by omega) (lc_43 w wb w6 s1 s2 hX hM (lw_next_at K)))⟩
  | 44, _ =>
    obtain ⟨h1, h2, x, wb, s1, s2, hX, hM, r2, hn⟩ := hN.2.2.2.2.2.2.2.2.2.2.2.2.2.2.2.2.2.2.2.2.2.2.2.2.2.2.2.2.2.2.2.2.2.2.2.2.2.2.2.2.2.2.2.2.1 h p1 p2 hr hz
    obtain ⟨hE, K⟩ := kk h2 r2 hn (s2.trans s1)
    exact ⟨hE, J_tsIn (pc := 40) (tgt := 1588) (off := 1548) dL_law_40 (by decide) (by decide) rfl (by decide) (J_more (kc' := kc + 0) (ks' := ks + 0) (by omega) (by omega) (lc_44 w wb w6 s1 s2 hX hM (lw_next_at K)))⟩
  | 45, _ =>
    obtain ⟨h1, h2, x, wb, s1, s2, hX, hM, r2, hn⟩ := hN.2.2.2.2.2.2.2.2.2.2.2.2.2.2.2.2.2.2.2.2.2.2.2.2.2.2.2.2.2.2.2.2.2.2.2.2.2.2.2.2.2.2.2.2.2.1 h p1 hr hz
    obtain ⟨hE, K⟩ := kk h2 r2 hn (s2.trans s1)
    exact ⟨hE, J_tsIn (pc := 40) (tgt := 1641) (off := 1601) dL_law_40 (by decide) (by decide) rfl (by decide) (J_more (kc' := kc + 0) (ks' := ks + 0) (by omega) (by omega) (lc_45 w wb w6 s1 s2 hX hM (lw_next_at K)))⟩
  | 46, _ =>
    obtain ⟨h1, h2, x, wb, s1, s2, hX, hM, r2, hn⟩ := hN.2.2.2.2.2.2.2.2.2.2.2.2.2.2.2.2.2.2.2.2.2.2.2.2.2.2.2.2.2.2.2.2.2.2.2.2.2.2.2.2.2.2.2.2.2.2.1 h p1 hr hz
    obtain ⟨hE, K⟩ := kk h2 r2 hn (s2.trans s1)
    exact ⟨hE, J_tsIn (pc := 40) (tgt := 1666) (off := 1626) dL_law_40 (by decide) (by decide) rfl (by decide) (J_more (kc' := kc + 0) (ks' := ks + 0) (by omega) (by omega) (lc_46 w wb w6 s1 s2 hX hM (lw_next_at K)))⟩
  | 47, _ =>
    obtain ⟨h1, h2, x, wb, s1, s2, hX, hM, r2, hn⟩ := hN.2.2.2.2.2.2.2.2.2.2.2.2.2.2.2.2.2.2.2.2.2.2.2.2.2.2.2.2.2.2.2.2.2.2.2.2.2.2.2.2.2.2.2.2.2.2.2.1 h hr hz
    obtain ⟨hE, K⟩ := kk h2 r2 hn (s2.trans s1)
    exact ⟨hE, J_tsIn (pc := 40) (tgt := 1691) (off := 1651) dL_law_40 (by decide) (by decide) rfl (by decide) (J_more (kc' := kc + 0) (ks' := ks + 0) (by omega) (by omega) (lc_47 w wb w6 s1 s2 hX hM (lw_next_at K)))⟩
  | 48, _ =>
    obtain ⟨h1, h2, x, wb, s1, s2, hX, hM, r2, hn⟩ := hN.2.2.2.2.2.2.2.2.2.2.2.2.2.2.2.2.2.2.2.2.2.2.2.2.2.2.2.2.2.2.2.2.2.2.2.2.2.2.2.2.2.2.2.2.2.2.2.2.1 h p1 hr hz
    obtain ⟨hE, K⟩ := kk h2 r2 hn (s2.trans s1)
    exact ⟨hE, J_tsIn (pc := 40) (tgt := 1704) (off := 1664) dL_law_40 (by decide) (by decide) rfl (by decide) (J_more (kc' := kc + 0) (ks' := ks + 0) (by omega) (by omega) (lc_48 w wb w6 s1 s2 hX hM (lw_next_at K)))⟩
  | 49, _ =>
    obtain ⟨h1, h2, x, wb, s1, s2, hX, hM, r2, hn⟩ := hN.2.2.2.2.2.2.2.2.2.2.2.2.2.2.2.2.2.2.2.2.2.2.2.2.2.2.2.2.2.2.2.2.2.2.2.2.2.2.2.2.2.2.2.2.2.2.2.2.2.1 h hr hz
    obtain ⟨hE, K⟩ := kk h2 r2 hn (s2.trans s1)
    exact ⟨hE, J_tsIn (pc := 40) (tgt := 1729) (off := 1689) dL_law_40 (by decide) (by decide) rfl (by decide) (J_more (kc' := kc + 0) (ks' := ks + 0) (by omega) (by omega) (lc_49 w wb w6 s1 s2 hX hM (lw_next_at K)))⟩
  | 50, _ =>
    obtain ⟨h1, h2, x, wb, s1, s2, hX, hM, r2, hn⟩ := hN.2.2.2.2.2.2.2.2.2.2.2.2.2.2.2.2.2.2.2.2.2.2.2.2.2.2.2.2.2.2.2.2.2.2.2.2.2.2.2.2.2.2.2.2.2.2.2.2.2.2.1 h hr hz
    obtain ⟨hE, K⟩ := kk h2 r2 hn (s2.trans s1)
    exact ⟨hE, J_tsIn (pc := 40) (tgt := 1742) (off := 1702) dL_law_40 (by decide) (by decide) rfl (by decide) (J_more (kc' := kc + 0) (ks' := ks + 0) (by omega) (by omega) (lc_50 w wb w6 s1 s2 hX hM (lw_next_at K)))⟩
  | 51, _ =>
    obtain ⟨h1, h2, x, wb, s1, s2, hX, hM, r2, hn⟩ := hN.2.2.2.2.2.2.2.2.2.2.2.2.2.2.2.2.2.2.2.2.2.2.2.2.2.2.2.2.2.2.2.2.2.2.2.2.2.2.2.2.2.2.2.2.2.2.2.2.2.2.2.1 h p1 hr hz
    obtain ⟨hE, K⟩ := kk h2 r2 hn (s2.trans s1)
    exact ⟨hE, J_tsIn (pc := 40) (tgt := 1755) (off := 1715) dL_law_40 (by decide) (by decide) rfl (by decide) (J_more (kc' := kc + 0) (ks' := ks + 0) (by omega) (by omega) (lc_51 w wb w6 s1 s2 hX hM (lw_next_at K)))⟩
  | 52, _ =>
    obtain ⟨a, b, h2, h0, ha, hco, s2, hM, hT, hv, r2, hn⟩ := hN.2.2.2.2.2.2.2.2.2.2.2.2.2.2.2.2.2.2.2.2.2.2.2.2.2.2.2.2.2.2.2.2.2.2.2.2.2.2.2.2.2.2.2.2.2.2.2.2.2.2.2.2.1 h.1 h.2 p1 hr
    obtain ⟨hE, K⟩ := kk h2 r2 hn s2
    exact ⟨hE, J_tsIn (pc := 40) (tgt := 1780) (off := 1740) dL_law_40 (by decide) (by decide) rfl (by decide) (J_more (kc' := kc + 1) (ks' := ks + 6) (by omega) (by omega) (lc_52 h0 ha hco w (hR h2 r2) w6 s2 hM hT hv (lw_next_at K)))⟩
  | 53, _ =>
    obtain ⟨h1, h2, x, wb, s1, s2, hX, hM, r2, hn⟩ := hN.2.2.2.2.2.2.2.2.2.2.2.2.2.2.2.2.2.2.2.2.2.2.2.2.2.2.2.2.2.2.2.2.2.2.2.2.2.2.2.2.2.2.2.2.2.2.2.2.2.2.2.2.2.1 h p1 hr hz
    obtain ⟨hE, K⟩ := kk h2 r2 hn (s2.trans s1)
    exact ⟨hE, J_tsIn (pc := 40) (tgt := 1836) (off := 1796) dL_law_40 (by decide) (by decide) rfl (by decide) (J_more (kc' := kc + 0) (ks' := ks + 0) (by omega) (by omega) (lc_53 w wb w6 s1 s2 hX hM (lw_next_at K)))⟩
  | 54, _ =>
    obtain ⟨h1, h2, x, wb, s1, s2, hX, hM, r2, hn⟩ := hN.2.2.2.2.2.2.2.2.2.2.2.2.2.2.2.2.2.2.2.2.2.2.2.2.2.2.2.2.2.2.2.2.2.2.2.2.2.2.2.2.2.2.2.2.2.2.2.2.2.2.2.2.2.2 h hr hz
    obtain ⟨hE, K⟩ := kk h2 r2 hn (s2.trans s1)
    exact ⟨hE, J_tsIn (pc := 40) (tgt := 1861) (off := 1821) dL_law_40 (by decide) (by decide) rfl (by decide) (J_more (kc' := kc + 0) (ks' := ks + 0) (by omega) (by omega) (lc_54 w wb w6 s1 s2 hX hM (lw_next_at K)))⟩
  | 55, _ =>
    obtain ⟨hE, K⟩ := kk h hr (by omega) rfl
    exact ⟨hE, J_tsOut (pc := 40) (tgt := 1874) dL_law_40 (Or.inr (by decide)) (by decide) (lw_next_at (J_more (by omega) (by omega) K))⟩
  | 56, _ =>
    obtain ⟨hE, K⟩ := kk h hr (by omega) rfl
    exact ⟨hE, J_tsOut (pc := 40) (tgt := 1874) dL_law_40 (Or.inr (by decide)) (by decide) (lw_next_at (J_more (by omega) (by omega) K))⟩
  | 57, _ =>
    obtain ⟨hE, K⟩ := kk h hr (by omega) rfl
    exact ⟨hE, J_tsOut (pc := 40) (tgt := 1874) dL_law_40 (Or.inr (by decide)) (by decide) (lw_next_at (J_more (by omega) (by omega) K))⟩
  | 58, _ =>
    obtain ⟨hE, K⟩ := kk h hr (by omega) rfl
    exact ⟨hE, J_tsOut (pc := 40) (tgt := 1874) dL_law_40 (Or.inr (by decide)) (by decide) (lw_next_at (J_more (by omega) (by omega) K))⟩
  | 59, _ =>
    obtain ⟨hE, K⟩ := kk h hr (by omega) rfl
    exact ⟨hE, J_tsOut (pc := 40) (tgt := 1874) dL_law_40 (Or.inr (by decide)) (by decide) (lw_next_at (J_more (by omega) (by omega) K))⟩
  | 60, _ =>
    obtain ⟨hE, K⟩ := kk h hr (by omega) rfl
    exact ⟨hE, J_tsOut (pc := 40) (tgt := 1874) dL_law_40 (Or.inr (by decide)) (by decide) (lw_next_at (J_more (by omega) (by omega) K))⟩
  | 61, _ =>
    obtain ⟨hE, K⟩ := kk h hr (by omega) rfl
    exact ⟨hE, J_tsOut (pc := 40) (tgt := 1874) dL_law_40 (Or.inr (by decide)) (by decide) (lw_next_at (J_more (by omega) (by omega) K))⟩
  | 62, _ =>
    obtain ⟨hE, K⟩ := kk h hr (by omega) rfl
    exact ⟨hE, J_tsOut (pc := 40) (tgt := 1874) dL_law_40 (Or.inr (by decide)) (by decide) (lw_next_at (J_more (by omega) (by omega) K))⟩
  | 63, _ =>
    obtain ⟨hE, K⟩ := kk h hr (by omega) rfl
    exact ⟨hE, J_tsOut (pc := 40) (tgt := 1874) dL_law_40 (Or.inr (by decide)) (by decide) (lw_next_at (J_more (by omega) (by omega) K))⟩
  | n + 64, hk => exact absurd hk (by omega)
theorem lw_and63 (x : Int32) : ∃ k, k < 64 ∧ x &&& 63 = Int32.ofNat k := by
  refine ⟨(x.toBitVec &&& 63#32).toNat, ?_, ?_⟩
  · rw [BitVec.toNat_and]
    exact Nat.lt_of_le_of_lt Nat.and_le_right (by decide)
  · apply Int32.toBitVec_inj.mp
    rw [Int32.toBitVec_and, Int32.toBitVec_ofNat', BitVec.ofNat_toNat, BitVec.setWidth_eq]
    rfl
theorem lw_small {n : Nat} (h : n < 2147483648) : (Int32.ofNat n).toInt = n := Int32.toInt_ofNat_of_lt h
theorem lw_inx {t k L : Nat} (h : t + k < L) (hL : L ≤ 3072) : vp_in (Int32.ofNat t + Int32.ofNat k) L ∧ (Int32.ofNat t + Int32.ofNat k).toNatClampNeg = t + k := by
  rw [← Int32.ofNat_add]
  have e : (Int32.ofNat (t + k)).toNatClampNeg = t + k := Int32.toNatClampNeg_ofNat_of_lt (by omega)
  refine ⟨fun z => ?_, e⟩
  rcases z with z | z
  · rw [Int32.lt_iff_toInt_lt, lw_small (by omega)] at z
    have : (0 : Int32).toInt = 0 := rfl
    omega
  · omega
theorem lw_cmp {t L : Nat} (ht : t ≤ 3078) (hL : L ≤ 3072) : (Int32.ofNat L - 6 < Int32.ofNat t) ↔ L < t + 6 := by
  rw [Int32.lt_iff_toInt_lt, lw_small (n := t) (by omega), Int32.toInt_sub, lw_small (n := L) (by omega)]
  have h6 : (6 : Int32).toInt = 6 := rfl
  rw [h6, Int.bmod_eq_of_le (by omega) (by omega)]
  omega
set_option maxRecDepth 100000 in
theorem lw_loop (R : JH → Prop) (hR : ∀ h, R h → j_lw h) (hN : lw_Next R) (L : Nat) (hL : L ≤ 3072) : ∀ (n t : Nat) (h : JH), R h → h.1.2.2.2.1 = L → t ≤ L + 6 → L < t + 6 * n + 6 → h.1.1 + 15 * n ≤ 1000000 → ∃ hE, J mi_law 601024 7293034 (15 * n) (125 * n) h 23 (lw_loc (Int32.ofNat t)) [] (some (some (.int 1), hE))
  | n, t, h, hr, hl, ht, hn, hz => by
    have head : ∀ (hE : JH), ((L < t + 6 → J mi_law 601024 7293034 (15 * n) (125 * n) h 1880 (lw_loc (Int32.ofNat t)) [] (some (some (.int 1), hE))) ∧ (¬ L < t + 6 → J mi_law 601024 7293034 (15 * n) (125 * n) h 33 (lw_loc (Int32.ofNat t)) [] (some (some (.int 1), hE)))) → J mi_law 601024 7293034 (15 * n) (125 * n) h 23 (lw_loc (Int32.ofNat t)) [] (some (some (.int 1), hE)) := by
      intro hE ⟨k1, k2⟩
      refine J_iload (pc := 23) 0 dL_law_23 rfl ?_
      refine J_aload_n (pc := 25) 1 dL_law_25 rfl rfl ?_
      refine J_slen (pc := 26) (v := Int32.ofNat L) dL_law_26 (by rw [hl]) ?_
      refine J_bipush (pc := 27) (v := 6) dL_law_27 (by decide) ?_
      refine J_isub (pc := 29) dL_law_29 ?_
      refine J_eqo (show (some (some (.int 1), hE) : Option (Option Value × JH)) = if Int32.ofNat L - 6 < Int32.ofNat t then some (some (.int 1), hE) else some (some (.int 1), hE) by split <;> rfl) (J_icmp_gt (pc := 30) (tgt := 1880) dL_law_30 (by decide) (fun z => k1 ((lw_cmp (by omega) hL).mp z)) (fun z => k2 (fun y => z ((lw_cmp (by omega) hL).mpr y))))
    by_cases hq : L < t + 6
    · exact ⟨h, head h ⟨fun _ => lw_out h _ _ _, fun z => absurd hq z⟩⟩
    · match n, hn, hz, head with
      | 0, hn, _, _ => exact absurd hn (by omega)
      | n + 1, hn, hz, head =>
        have six : lw_six h (Int32.ofNat t) (h.1.2.2.2.2 t) (h.1.2.2.2.2 (t + 1)) (h.1.2.2.2.2 (t + 2)) (h.1.2.2.2.2 (t + 3)) (h.1.2.2.2.2 (t + 4)) (h.1.2.2.2.2 (t + 5)) := by
          unfold lw_six
          rw [hl]
          have q0 := lw_inx (t := t) (k := 0) (L := L) (by omega) hL
          have q1 := lw_inx (t := t) (k := 1) (L := L) (by omega) hL
          have q2 := lw_inx (t := t) (k := 2) (L := L) (by omega) hL
          have q3 := lw_inx (t := t) (k := 3) (L := L) (by omega) hL
          have q4 := lw_inx (t := t) (k := 4) (L := L) (by omega) hL
          have q5 := lw_inx (t := t) (k := 5) (L := L) (by omega) hL
          rw [show Int32.ofNat t + Int32.ofNat 0 = Int32.ofNat t by rw [← Int32.ofNat_add]; rfl] at q0
          exact ⟨⟨q1.1, congrArg _ q1.2⟩, ⟨q2.1, congrArg _ q2.2⟩, ⟨q3.1, congrArg _ q3.2⟩, ⟨q4.1, congrArg _ q4.2⟩, ⟨q5.1, congrArg _ q5.2⟩, ⟨q0.1, congrArg _ q0.2⟩⟩
        obtain ⟨k, hk, hx⟩ := lw_and63 (h.1.2.2.2.2 t)
        obtain ⟨hE, K⟩ := lw_switch R hR hN (kc := 15 * n) (ks := 125 * n) hk six hr (by omega) (fun h2 r2 hn2 hs2 => by
          have e6 : Int32.ofNat t + 6 = Int32.ofNat (t + 6) := by rw [Int32.ofNat_add]; rfl
          rw [e6]
          exact lw_loop R hR hN L hL n (t + 6) h2 r2 (by rw [hs2]; exact hl) (by omega) (by omega) (by omega))
        refine ⟨hE, head hE ⟨fun z => absurd z hq, fun _ => ?_⟩⟩
        refine J_aload_n (pc := 33) 1 dL_law_33 rfl rfl ?_
        refine J_iload (pc := 34) 0 dL_law_34 rfl ?_
        refine J_sld (pc := 36) (v := h.1.2.2.2.2 t) dL_law_36 six.2.2.2.2.2.1 six.2.2.2.2.2.2 ?_
        refine J_bipush (pc := 37) (v := 63) dL_law_37 (by decide) ?_
        refine J_iand (pc := 39) dL_law_39 ?_
        rw [hx]
        exact K
