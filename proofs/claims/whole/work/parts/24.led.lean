/-! led: the class throws, the law's led catches -/
def j_EX : String := "java/util/NoSuchElementException"
def mi_ledX : JMI := (yX11_led, cX11_led, 3, (some .int), RX11, 7, 110)
def mi_Lled : JMI := (yL_led, cL_led, 4, (some .int), RL, 8, 140)
def j_XC (h : JH) (b : Int32) (D : va_G) (cI cJ cB : ClassId) (α : Nat → Nat) (sz : Nat) : String → State → State → Prop := fun E st t => E = j_EX ∧ b = -1 ∧ va_P D vwCl (j_ws cI cJ cB α h) t.heap ∧ va_F (va_A (j_ws cI cJ cB α h) sz) st t
def j_QcX (h : JH) (b : Int32) (D : va_G) (cI cJ cB : ClassId) (α : Nat → Nat) (sz : Nat) : Array Value → State → Outcome → State → Prop := fun a9 st oc t => b ≠ -1 ∧ j_Qc h (some (.int b), h) D cI cJ cB α sz a9 st oc t
def j_exw : List Cond := Cond.classLink RX11 401 j_EX :: Cond.initialized j_EX :: vx_at0 RX11 403 j_EX ["java/lang/RuntimeException", "java/lang/Exception"]
theorem j_exw_tbl : ∀ w ∈ j_exw, w ∈ lw_tbl := by decide +kernel
theorem j_exw_ok : ∀ w ∈ j_exw, (goodWord w || (j_nest w && w.onTables)) = true := by decide +kernel
theorem j_exw_ot : ∀ w ∈ j_exw, vx_ot w = true := by decide +kernel
section WG
variable {mi : JMI} {h : JH} {p : Program} {l : Launch} {e : Env} {s : State} {m : MethodId} {args : Array Value} {below : List Frame} {meth : Method} {c : Code} {D : va_G} {cI cJ cB : ClassId} {A : Nat → Prop} {α : Nat → Nat} {H : Heap} {locs : List Loc} {cells slots : Nat} {ls : Array Slot} {Q : State → Prop} {st : List Value}
theorem j_exw_at (C : j_C mi p s m args meth c D cI cJ cB A) (V : j_V h s D cI cJ cB A α H locs) : ∀ w ∈ j_exw, w.before args s = true := by
  intro w hw
  have h1 := j_exw_tbl w hw
  have h2 := j_exw_ok w hw
  simp only [Bool.or_eq_true, Bool.and_eq_true] at h2
  rcases h2 with h2 | ⟨h2, h3⟩
  · exact C.2.2.2.2.2.1 w (List.mem_filter.mpr ⟨h1, h2⟩)
  · exact va_Nw.use h3 (V.2.2.2.1.2.2.2.2 w (List.mem_filter.mpr ⟨h1, h2⟩))
theorem w_get {R : Room} {pc a k ci idx kd : Nat} {v : Value} (C : j_C mi p s m args meth c D cI cJ cB A) (V : j_V h s D cI cJ cB A α H locs) (hd : decode mi.2.1 pc = .ok (.getfield idx, 3)) (hf : j_FL mi.2.2.2.2.1 idx ci k) (ha : a < h.1.1) (ht : h.1.2.1 a = (0, ci)) (hk : (j_kd ci)[k]? = some kd) (hv : j_fv α h a k kd = v) (kk : W p l e R s m args below meth c H locs cells slots Q (F0 m (pc + 3) ls (v :: st))) : W p l e R s m args below meth c H locs cells slots Q (F0 m pc ls (.ref (α a) :: st)) := by
  obtain ⟨⟨C0, T0, N0⟩, hq, hkN, hlink⟩ := hf
  have hfv : (j_fs α h a 0 (j_kd ci))[k]? = some v := by rw [j_fs_at, hk]; simp [hv]
  rcases hlink with hlink | ⟨host, hlink⟩
  · exact va_get C.1 C.2.1 C.2.2.2.2.2.1 (j_cls_in ci _ hq) C.2.2.2.2.1 C.2.2.2.2.2.2.2.2.1 V.1 a (j_obj ha ht) hq k hkN (C.2.2.2.2.2.1 _ hlink) (fun _ h9 => h9) hfv hd kk
  · exact va_getN C.1 C.2.1 C.2.2.2.2.2.1 (j_cls_in ci _ hq) C.2.2.2.2.1 C.2.2.2.2.2.2.2.2.1 V.1 a (j_obj ha ht) hq k hkN (va_Nw.use rfl (V.2.2.2.1.2.2.2.2 _ hlink)) (fun _ h9 => h9) hfv hd kk
theorem w_callV {mj : JMI} {l : JLa} {mc ms pc a ci n idx : Nat} {av st0 stk : List Value} {b : Int32} (C : j_C mi p s m args meth c D cI cJ cB A) (V : j_V h s D cI cJ cB A α H locs) (hl1 : ls.size = mi.2.2.1) (hd : decode mi.2.1 pc = .ok (.invokevirtual idx, 3)) (hlink : Cond.methodLink mi.2.2.2.2.1 idx mj.1 ∈ j_gw) (hok : j_OK mj n) (hov : j_OV mj) (hR : j_RM mi mj) (hn : av.length = n) (ha : a < h.1.1) (ht : h.1.2.1 a = (0, ci)) (hcl : (vwCl[ci]?).map (fun q => q.1) = some mj.1.cls) (hM : JM mj 0 0 h (.ref a :: av) (some (some (.int b), h))) (hst : st0 = av.reverse ++ .ref a :: stk) (hcat : (stk.map fun v => v.category).sum ≤ 8) (hcs : cells ≤ mc ∧ slots ≤ ms)
    (kk : ∀ (H1 : Heap) (locs1 : List Loc), j_V h s D cI cJ cB A α H1 locs1 → W p l.1 e (j_rm mi mc ms) s m args below meth c H1 locs1 (cells + 0) (slots + 0) Q (F0 m (pc + 3) ls (.int b :: stk.map (j_tv α)))) : W p l.1 e (j_rm mi mc ms) s m args below meth c H locs cells slots Q (F0 m pc ls (st0.map (j_tv α))) := by
  have hMet := hM _ rfl l D cI cJ cB α H.size
  obtain ⟨q, hq⟩ : ∃ q, vwCl[ci]? = some q := by
    cases hz : vwCl[ci]? with
    | none => rw [hz] at hcl; cases hcl
    | some q => exact ⟨q, rfl⟩
  rw [hq] at hcl
  have hcls : q.1 = mj.1.cls := Option.some.inj hcl
  have hrecv := va_recv (s := s) (H := H) C.2.2.2.2.2.2.2.2.1 V.1 hq (j_obj (cI := cI) (cJ := cJ) (cB := cB) (α := α) ha ht)
  rw [hcls] at hrecv
  have hpre : PreV s H mj.1.cls (α a) (j_Pc h (.ref a :: av) D cI cJ cB α H.size) (av.map (j_tv α)) := ⟨j_blind, hrecv, j_pre V C.2.2.2.2.2.2.2.2.1 C.2.2.2.2.2.2.2.2.2⟩
  have hst' : (F0 m pc ls (st0.map (j_tv α))).stack = (av.map (j_tv α)).reverse ++ .ref (α a) :: stk.map (j_tv α) := by
    show st0.map (j_tv α) = _
    rw [hst, List.map_append, List.map_reverse, List.map_cons]
    rfl
  have hn' : (av.map (j_tv α)).length = n := by rw [List.length_map]; exact hn
  have hcat' : 2 * (F0 m pc ls (st0.map (j_tv α))).monitorRoom + ((stk.map (j_tv α)).map fun v => v.category).sum ≤ 8 := lv_room (by rw [j_cats]; exact hcat)
  have run := va_runV (p := p) (l := l.1) (e := e) (R := j_rm mi mc ms) (below := below) (meth := meth) (locs := locs) (cells := cells) (slots := slots) (cc := mi.2.1) (nL := mi.2.2.1) (Ts := j_gw) (own := mi.2.2.2.2.1) ⟨C.1, C.2.1, C.2.2.1, C.2.2.2.2.1, C.2.2.2.2.2.1⟩ hMet ⟨callB_of n C.2.2.2.2.2.1 (j_good hok) rfl rfl rfl (C.2.2.2.2.2.1 _ hok.2.1) (C.2.2.2.2.2.1 _ hlink) hok.2.2 hR, C.2.2.2.2.2.1 _ hov.1, C.2.2.2.2.2.1 _ hov.2⟩ hpre rfl hn' hl1 hst' hcat' hd ⟨show cells + 0 ≤ mc from hcs.1, show slots + 0 ≤ ms from hcs.2⟩
  refine j_cont (a := (Value.ref (α a) :: av.map (j_tv α)).toArray) V C.2.2.2.2.2.2.2.2.2 run (fun α' H1 locs1 g1 g3 hV => ?_)
  have ea : α' = α := by
    funext k
    exact g3 k (by show k < h.1.1 ∨ h.1.1 ≤ k; omega)
  subst ea
  exact kk H1 locs1 (hV rfl)
theorem j_contX {R : Room} {pc mc ms : Nat} {st0 rest : List Value} {b : Int32} {a : Array Value} (V : j_V h s D cI cJ cB A α H locs) (hA : ∀ q, s.heap.size ≤ q → A q)
    (hr : vx_Run p l e R s m args below meth c H locs cells slots mc ms (F0 m pc ls st0) rest (j_QcX h b D cI cJ cB α H.size a) (j_XC h b D cI cJ cB α H.size) (va_A (j_ws cI cJ cB α h) H.size))
    (kk : ∀ (H1 : Heap) (locs1 : List Loc), b ≠ -1 → j_V h s D cI cJ cB A α H1 locs1 → W p l e R s m args below meth c H1 locs1 (cells + mc) (slots + ms) Q (F0 m (pc + 3) ls (.int b :: rest)))
    (kx : ∀ (H1 : Heap) (locs1 : List Loc) (q : Addr) (ce : Cell), b = -1 → j_V h s D cI cJ cB A α H1 locs1 → H1[q]? = some ce → ce.vm = .none → s.vm.findClass j_EX = some ce.cls → vx_W p l e R s m args below meth c H1 locs1 (cells + mc) (slots + ms) Q (F0 m pc ls rest) q) : W p l e R s m args below meth c H locs cells slots Q (F0 m pc ls st0) := by
  intro T hT X
  have hsub := j_sub V hA
  rcases hr T hT X with ⟨v, st₀, t, T', L, h0, X', hL, e1, e2, ⟨hb, ⟨α', g1, g2, g3, g4, g5, g6, g7, g8⟩, hF⟩, stp⟩ | ⟨q, st₀, t, T', L, E, ce, h0, X', hL, e1, e2, ⟨hE, hb, hP, hF⟩, hce, hcv, hcl, stp⟩
  · cases g4
    have ea : α' = α := by
      funext k
      exact g3 k (by show k < h.1.1 ∨ h.1.1 ≤ k; omega)
    subst ea
    obtain ⟨hz, hk⟩ := hF
    rw [h0] at hz hk
    have hS : va_S A s.heap T'.heap (locs ++ L) :=
      ⟨Nat.le_trans V.2.2.1.1 (by rw [e1]; exact hz), fun q h1 h2 => by rw [e1, hk q (Nat.lt_of_lt_of_le h1 V.2.2.1.1) (fun z => h2 (hsub q z))]; exact V.2.2.1.2.1 q h1 h2, fun q hq => by
        rcases List.mem_append.mp hq with h | h
        · exact V.2.2.1.2.2 q h
        · exact hsub _ (hL q h)⟩
    obtain ⟨t2, a1, b1⟩ := kk T'.heap (locs ++ L) hb ⟨by rw [e1]; exact g5, g7.weaken (fun _ q _ z => hsub q.1 z), hS, V.2.2.2.1, g8, g2⟩ T' rfl X'
    exact ⟨t2, stp t2 a1, b1⟩
  · obtain ⟨hz, hk⟩ := hF
    rw [h0] at hz hk
    subst hE
    have hS : va_S A s.heap T'.heap (locs ++ L) :=
      ⟨Nat.le_trans V.2.2.1.1 (by rw [e1]; exact hz), fun q h1 h2 => by rw [e1, hk q (Nat.lt_of_lt_of_le h1 V.2.2.1.1) (fun z => h2 (hsub q z))]; exact V.2.2.1.2.1 q h1 h2, fun q hq => by
        rcases List.mem_append.mp hq with h | h
        · exact V.2.2.1.2.2 q h
        · exact hsub _ (hL q h)⟩
    obtain ⟨t2, a1, b1⟩ := kx T'.heap (locs ++ L) q ce hb ⟨by rw [e1]; exact hP, V.2.1, hS, V.2.2.2.1, V.2.2.2.2.1, V.2.2.2.2.2⟩ (by rw [e1]; exact hce) hcv hcl T' rfl X'
    exact ⟨t2, stp.trans a1, b1⟩
theorem Met_ofWH {l : Launch} {y : MethodName} {ws ws' : List Cond} {rm : Room} {Pc : Array Value → State → Prop} {Qc : Array Value → State → Outcome → State → Prop} {mc ms : Nat} {free : Addr → Prop} {cc : ByteArray} {maxL : Nat} {ret : Option FieldType} {hh : List (Nat × Nat × Nat × Nat)}
    (hy : plainName y.cls = true) (hw : ws = Cond.codeWith y cc maxL ret hh :: ws')
    (body : ∀ p e s m args below meth c s₁, BodyLoose p l y (headSpec ws rm) cc maxL ret e s m args below meth c s₁ → c.maxLocals = maxL → Pc args s →
      W p l e (headSpec ws rm).room s m args below meth c s.heap [] 0 0 (MQ below Qc args s mc ms free) (entryFrame m args maxL)) : Met l y ws rm Pc Qc mc ms free := by
  refine MetFree.of_bodyS (code := cc) (maxLocals := maxL) (ret := ret) hy ?_ ?_
  · intro args s m h hn
    obtain ⟨m9, meth, c, hn9, h1, h2, h3, h4, -, h5, h6, -⟩ := Cond.codeWith_spec (atoms_spec (ws := ws) h _ (by rw [hw]; exact List.mem_cons_self))
    cases hn.symm.trans hn9
    exact ⟨meth, c, h1, h2, h3, h4, h5, h6⟩
  · intro p e s m args below meth c s₁ B hml hP _
    have hh0 : s₁.heap = s.heap := by rw [B.state]; rfl
    obtain ⟨t, a1, o, b1, b2, b3⟩ := body p e s m args below meth c s₁ B hml hP s₁ hh0 (Stand.of_body B)
    exact ⟨t, o, a1, b1, b2, b3⟩
end WG
/-- what led answers -/
def f_led (a : Nat) (d : JD) (i : Int32) : Int32 := f_X3_beggar (d.1 a) (d.1 (a + 7)) (d.1 (a + 8)) i (d.1 22 0)
set_option maxRecDepth 100000 in
theorem J_led_ret (g : JG) (d : JD) (a : Nat) (i : Int32) (h0 : j_sh g 0 TS_W RS_W) (ha : j_sh g a TS_CL RS_CL) (hco : g.2.2.1 0 10 = some a) (hb : f_led a d i ≠ -1) : J mi_ledX 1 6 1 6 (g, d) 0 [(0, .ref 0), (1, .int i)] [] (some (some (.int (f_led a d i)), (g, d))) := by
  refine J_aload_n (pc := 0) 0 dX11_led_0 rfl rfl ?_
  refine J_getR (pc := 1) (b := a) dX11_led_1 fl_X11_78 (h0.lt 0 (by decide)) (h0.ty 0 rfl) rfl hco ?_
  refine J_iload_n (pc := 4) 1 dX11_led_4 rfl rfl ?_
  refine J_aload_n (pc := 5) 0 dX11_led_5 rfl rfl ?_
  refine J_getR (pc := 6) (b := 22) dX11_led_6 fl_X11_28 (h0.lt 0 (by decide)) (h0.ty 0 rfl) rfl (h0.rf 2 rfl) ?_
  refine J_getI (pc := 9) dX11_led_9 fl_X11_159 (h0.lt 22 (by decide)) (h0.ty 22 rfl) rfl ?_
  refine JC_t rfl (J_callV (mi := mi_ledX) (mj := mi_X3_beggar) (kc := 1) (ks := 6) (pc := 12) dX11_led_12 ml_X11_398 ok_X3_beggar ov_X3_beggar ⟨Nat.le_of_ble_eq_true rfl, Nat.le_of_ble_eq_true rfl⟩ rfl (ha.lt 0 (by decide)) (ha.ty 0 rfl) rfl (s_X3_beggar g d a i (d.1 22 0) ha) rfl (Nat.le_of_ble_eq_true rfl)) ?_
  refine J_istore_n (pc := 15) (loc' := [(2, .int (f_led a d i)), (0, .ref 0), (1, .int i)]) dX11_led_15 rfl (by decide) rfl ?_
  refine J_iload_n (pc := 16) 0 dX11_led_16 rfl rfl ?_
  refine J_iconst (pc := 17) (v := (-1)) dX11_led_17 (by decide) ?_
  refine J_eqo (if_neg hb).symm (J_icmp_ne (o2 := none) (pc := 18) (tgt := 29) dX11_led_18 (by decide) (fun _ => ?_) (fun z => absurd z hb))
  refine J_iload_n (pc := 29) 0 dX11_led_29 rfl rfl ?_
  exact J_iret (pc := 30) dX11_led_30 rfl
set_option maxRecDepth 100000 in
set_option maxHeartbeats 4000000 in
theorem s_X11_led (g : JG) (d : JD) (a : Nat) (i : Int32) (h0 : j_sh g 0 TS_W RS_W) (ha : j_sh g a TS_CL RS_CL) (hco : g.2.2.1 0 10 = some a) (l : JLa) (D : va_G) (cI cJ cB : ClassId) (α : Nat → Nat) (sz : Nat) :
    vx_Met l.1 yX11_led (j_w0 mi_ledX) (j_rm mi_ledX 1 6) (j_Pc (g, d) [.ref 0, .int i] D cI cJ cB α sz) (j_QcX (g, d) (f_led a d i) D cI cJ cB α sz) (j_XC (g, d) (f_led a d i) D cI cJ cB α sz) 1 6 (va_A (j_ws cI cJ cB α (g, d)) sz) := by
  refine vx_ofW (cc := cX11_led) (maxL := 3) (ret := some .int) (by decide) rfl ?_
  intro p e s m args below meth c s₁ B hml htab hv
  obtain ⟨rfl, hsz, hP, hK, hD0, hX, hcl, hm⟩ := hv
  have hts := atoms_spec (ws := j_w0 mi_ledX) B.pre
  have hown' : s.vm.findClass RX11 = some m.cls := findClass_of_methodNamed B.named
  subst hsz
  have hD := hD0.self (sz := s.heap.size)
  have hl := lv_entry ([Value.ref 0, .int i].map (j_tv α)) (n := 3) (by rw [j_sl_len]; exact Nat.le_of_ble_eq_true rfl)
  rw [j_args] at hl
  rw [lg_entry_eq]
  have C : j_C mi_ledX p s m ([Value.ref 0, .int i].map (j_tv α)).toArray meth c D cI cJ cB (va_A (j_ws cI cJ cB α (g, d)) s.heap.size) := ⟨B.exec, B.bytes, hml, B.returns, hown', fun w hw => hts w (List.mem_cons_of_mem _ hw), B.notSynchronized, (name_of_methodNamed B.named B.method).1, hK, fun q hq => Or.inr hq⟩
  have V : j_V (g, d) s D cI cJ cB (va_A (j_ws cI cJ cB α (g, d)) s.heap.size) α s.heap [] := ⟨hP, hD, va_S.rf, hX, hcl, hm⟩
  by_cases hb : f_led a d i = -1
  · refine lv_aload_n C.1 C.2.1 dX11_led_0 rfl (lv_at hl 0 rfl) ?_
    refine w_get (mi := mi_ledX) (a := 0) (k := 10) (ci := 10) (kd := 2) (v := .ref (α a)) C V dX11_led_1 fl_X11_78 (h0.lt 0 (by decide)) (h0.ty 0 rfl) rfl (by simp [j_fv, hco, va_rf]) ?_
    refine lv_iload_n C.1 C.2.1 dX11_led_4 rfl (lv_at hl 1 rfl) ?_
    refine lv_aload_n C.1 C.2.1 dX11_led_5 rfl (lv_at hl 0 rfl) ?_
    refine w_get (mi := mi_ledX) (a := 0) (k := 2) (ci := 10) (kd := 2) (v := .ref (α 22)) C V dX11_led_6 fl_X11_28 (h0.lt 0 (by decide)) (h0.ty 0 rfl) rfl (by have h9 : g.2.2.1 0 2 = some 22 := h0.rf 2 rfl; simp [j_fv, h9, va_rf]) ?_
    refine w_get (mi := mi_ledX) (a := 22) (k := 0) (ci := 4) (kd := 0) (v := .int (d.1 22 0)) C V dX11_led_9 fl_X11_159 (h0.lt 22 (by decide)) (h0.ty 22 rfl) rfl rfl ?_
    refine w_callV (mi := mi_ledX) (mj := mi_X3_beggar) (l := l) (st0 := [.int (d.1 22 0), .int i, .ref a]) (stk := []) (av := [.int i, .int (d.1 22 0)]) (b := f_led a d i) C V hl.1 dX11_led_12 (gw6 (List.mem_of_getElem? (i := 79) rfl) rfl) ok_X3_beggar ov_X3_beggar ⟨Nat.le_of_ble_eq_true rfl, Nat.le_of_ble_eq_true rfl⟩ rfl (ha.lt 0 (by decide)) (ha.ty 0 rfl) rfl (s_X3_beggar g d a i (d.1 22 0) ha) rfl (Nat.le_of_ble_eq_true rfl) ⟨Nat.zero_le _, Nat.zero_le _⟩ (fun H1 locs1 V1 => ?_)
    refine lv_istore_n C.1 C.2.1 dX11_led_15 rfl hl (by decide) rfl (fun ls1 hl1 => ?_)
    refine lv_iload_n C.1 C.2.1 dX11_led_16 rfl (lv_at hl1 0 rfl) ?_
    refine lv_iconst C.1 C.2.1 dX11_led_17 (v := (-1)) (by decide) ?_
    refine lv_icmp_ne C.1 C.2.1 dX11_led_18 (tgt := 29) (by decide) (fun z => absurd hb z) (fun _ => ?_)
    have hw : ∀ w ∈ Cond.classLink RX11 401 j_EX :: Cond.initialized j_EX :: vx_at0 RX11 403 j_EX ["java/lang/RuntimeException", "java/lang/Exception"], w.before ([Value.ref 0, .int i].map (j_tv α)).toArray s = true := j_exw_at C V1
    refine vx_throw0 (cc := cX11_led) (pc := 21) (own := RX11) (cls := j_EX) (names := ["java/lang/RuntimeException", "java/lang/Exception"]) (ik := 401) (ic := 403) (A := va_A (j_ws cI cJ cB α (g, d)) s.heap.size) C.1 C.2.1 l.2 C.2.2.2.2.1 (by decide +kernel) (by decide +kernel) (hw _ List.mem_cons_self) (hw _ (List.mem_cons_of_mem _ List.mem_cons_self)) (fun w h9 => hw w (List.mem_cons_of_mem _ (List.mem_cons_of_mem _ h9))) j_exw_ot V1.2.2.2.1.2.1.2.1 V1.2.2.2.1.2.1.2.2 V1.2.2.1 (hl1.1.trans C.2.2.1.symm) dX11_led_21 dX11_led_24 dX11_led_25 dX11_led_28 (fun x h9 => (htab x h9).elim) (show 2 + 3 < 7 from Nat.le_of_ble_eq_true rfl) (show 0 + (13 * (2 + 1) + 42) ≤ 110 from Nat.le_of_ble_eq_true rfl) (show 0 + 0 + 1 ≤ 1 from Nat.le_refl _) (show 0 + 0 + 6 ≤ 6 from Nat.le_refl _) C.2.2.2.2.2.2.1 ?_ V1.2.2.1.2.2 (Nat.le_refl _) (Nat.le_refl _)
    intro t h1 h2 h3
    exact ⟨rfl, hb, V1.1.kept (fun k q hk => h3 q.1 (vx_lt V1.1 hk)), Nat.le_trans V1.2.2.1.1 h2, fun q h4 h5 => (h3 q (Nat.lt_of_lt_of_le h4 V1.2.2.1.1)).trans (V1.2.2.1.2.1 q h4 h5)⟩
  · refine vx_ret ?_
    exact J_led_ret g d a i h0 ha hco hb _ rfl l p e s m _ below meth c D cI cJ cB _ α s.heap [] 0 0 _ _ C V (by decide) (by decide) hl (fun α' t h1 h2 h3 h4 h5 h6 h7 h8 => ⟨hb, ⟨α', h1, h2, h3, rfl, h4, va_K.moved h7.alike hK, h5, h8⟩, h6⟩)
