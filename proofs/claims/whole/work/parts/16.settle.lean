/-! handOver, settle: the class's references change -/
theorem JC_g {mi : JMI} {mc ms kc ks kc' ks' : Nat} {h h' : JH} {pc : Nat} {loc : List (Nat × Value)} {st0 stk : List Value} {o : Option (Option Value × JH)} {v : Option Value} (hs : h'.1.2.2.2 = h.1.2.2.2) (hn : h'.1.1 = h.1.1) (c : JC mi mc ms kc ks kc' ks' h pc loc st0 stk (some (v, h'))) (kk : J mi mc ms kc' ks' h' (pc + 3) loc (v.toList ++ stk) o) : J mi mc ms kc ks h pc loc st0 o := by
  have H := c (fun _ => o) (fun r hr => by cases hr; exact ⟨hs, Or.inl hn⟩) (fun r hr => by cases hr; exact kk)
  exact H
theorem j_sh.setR {g : JG} {a : Nat} {ts : List (Nat × Nat)} {rs : List (Nat × Nat × Nat)} (h : j_sh g a ts rs) {o k : Nat} {v : Option Nat} (hne : ∀ q ∈ rs, ¬ (a + q.1 = o ∧ q.2.1 = k)) : j_sh (j_sR g o k v) a ts rs := by
  refine ⟨h.1, h.2.1, fun i q hq => ?_⟩
  show (if a + q.1 = o ∧ q.2.1 = k then v else g.2.2.1 (a + q.1) q.2.1) = _
  rw [if_neg (hne q (List.mem_of_getElem? hq))]
  exact h.2.2 i q hq
theorem sh0_set {g : JG} (h0 : j_sh g 0 TS_W RS_W) {v : Option Nat} : j_sh (j_sR g 3 1 v) 0 TS_W RS_W ∧ j_sh (j_sR g 0 10 v) 0 TS_W RS_W := ⟨h0.setR (by decide), h0.setR (by decide)⟩
theorem shL_set {g : JG} {a o k : Nat} (ha : j_sh g a TS_CL RS_CL) (h4 : 4 ≤ a) (ho : o < 4) {v : Option Nat} : j_sh (j_sR g o k v) a TS_CL RS_CL := ha.setR (fun q _ z => by have := z.1; omega)
set_option maxRecDepth 100000 in
theorem s_X6_handOver (g : JG) (d : JD) (a b : Nat) (h0 : j_sh g 0 TS_W RS_W) (ha : a < g.1) (hin : g.2.2.1 3 1 = some b) : JM mi_X6_handOver 0 0 (g, d) [.ref 3, .ref a] (some (some (.ref b), (j_sR g 3 1 (some a), d))) := by
  refine JM_of (by decide) rfl (Nat.le_of_ble_eq_true rfl) ?_
  refine J_loc (loc' := [(0, .ref 3), (1, .ref a)]) [0, 1] rfl ?_
  refine J_aload_n (pc := 0) 0 dX6_handOver_0 rfl rfl ?_
  refine J_getR (pc := 1) dX6_handOver_1 fl_X6_12 (h0.lt 3 (by decide)) (h0.ty 3 rfl) rfl hin ?_
  refine J_astore_n (pc := 4) (loc' := [(2, .ref b), (0, .ref 3), (1, .ref a)]) dX6_handOver_4 rfl (by decide) rfl ?_
  refine J_aload_n (pc := 5) 1 dX6_handOver_5 rfl rfl ?_
  refine J_aload_n (pc := 6) 2 dX6_handOver_6 rfl rfl ?_
  refine J_putR (pc := 7) dX6_handOver_7 fl_X6_12 ft_6_1 (h0.lt 3 (by decide)) (h0.ty 3 rfl) rfl ha (fun _ => rfl) (fun _ => rfl) ?_
  refine J_aload_n (pc := 10) 0 dX6_handOver_10 rfl rfl ?_
  exact J_aret (pc := 11) dX6_handOver_11 rfl
/-- the class's references once the country and the spare land are changed -/
def gSw (g : JG) (a b : Nat) : JG := j_sR (j_sR g 3 1 (some a)) 0 10 (some b)
theorem gSw_co (g : JG) (a b : Nat) : (gSw g a b).2.2.1 0 10 = some b := rfl
theorem gSw_in (g : JG) (a b : Nat) : (gSw g a b).2.2.1 3 1 = some a := rfl
theorem gSw_0 {g : JG} {a b : Nat} (h0 : j_sh g 0 TS_W RS_W) : j_sh (gSw g a b) 0 TS_W RS_W := (sh0_set (sh0_set h0).1).2
theorem gSw_L {g : JG} {a b x : Nat} (hx : j_sh g x TS_CL RS_CL) (h4 : 4 ≤ x) : j_sh (gSw g a b) x TS_CL RS_CL := shL_set (shL_set hx h4 (by decide)) h4 (by decide)
def f_X11_settle (b : Nat) (d : JD) : JD := f_X2_forget (f_X8_forget (f_X1_forget (j_sI (j_sI (f_X4_set 22 d (d.1 b 6) 0 0) 24 4 0) 28 4 0)))
