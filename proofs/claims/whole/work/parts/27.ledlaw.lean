/-- the law's led: 1 and nothing written where the class throws, else 0 and the answer in the row -/
def d_Lled (d : JD) (b : Int32) : JD := if b = -1 then d else j_sL d 67 0 b.toInt64
def k_Lled (b : Int32) : Int32 := if b = -1 then 1 else 0
def ws_Lled : List Cond := Cond.codeWith yL_led cL_led 4 (some .int) [(0, 9, 12, 13)] :: j_gw
set_option maxRecDepth 100000 in
theorem J_Lled_ret (g : JG) (d : JD) (i b : Int32) (h0 : j_sh g 0 TS_W RS_W) (hb : b ≠ -1) : J mi_Lled 1 6 0 0 (g, d) 7 [(0, .ref 0), (1, .int i), (2, .ref 67)] [.int b, .int 0, .ref 67] (some (some (.int (k_Lled b)), (g, d_Lled d b))) := by
  unfold k_Lled d_Lled
  rw [if_neg hb, if_neg hb]
  refine J_i2l (pc := 7) dL_led_7 ?_
  refine J_last (pc := 8) (n := 1) dL_led_8 (h0.lt 67 (by decide)) (h0.ty 67 rfl) (show ¬ ((0 : Int32) < 0 ∨ 1 ≤ (0 : Int32).toNatClampNeg) by decide) ?_
  refine J_goto (pc := 9) (tgt := 15) dL_led_9 (by decide) ?_
  refine J_iconst (pc := 15) (v := 0) dL_led_15 (by decide) ?_
  exact J_iret (pc := 16) dL_led_16 rfl
theorem J_Lled_thr (g : JG) (d : JD) (i b : Int32) (hb : b = -1) : J mi_Lled 1 6 0 0 (g, d) 13 [(0, .ref 0), (1, .int i), (2, .ref 67)] [] (some (some (.int (k_Lled b)), (g, d_Lled d b))) := by
  unfold k_Lled d_Lled
  rw [if_pos hb, if_pos hb]
  refine J_iconst (pc := 13) (v := 1) dL_led_13 (by decide) ?_
  exact J_iret (pc := 14) dL_led_14 rfl
set_option maxRecDepth 100000 in
set_option maxHeartbeats 4000000 in
theorem s_L_led (g : JG) (d : JD) (a : Nat) (i : Int32) (h0 : j_sh g 0 TS_W RS_W) (ha : j_sh g a TS_CL RS_CL) (hco : g.2.2.1 0 10 = some a) (l : JLa) (D : va_G) (cI cJ cB : ClassId) (α : Nat → Nat) (sz : Nat) :
    Met l.1 yL_led ws_Lled (j_rm mi_Lled 1 6) (j_Pc (g, d) [.ref 0, .int i, .ref 67] D cI cJ cB α sz) (j_Qc (g, d) (some (.int (k_Lled (f_led a d i))), (g, d_Lled d (f_led a d i))) D cI cJ cB α sz) 1 6 (va_A (j_ws cI cJ cB α (g, d)) sz) := by
  refine Met_ofWH (cc := cL_led) (maxL := 4) (ret := some .int) (hh := [(0, 9, 12, 13)]) (by decide) rfl ?_
  intro p e s m args below meth c s₁ B hml hv
  obtain ⟨rfl, hsz, hP, hK, hD0, hX, hcl, hm⟩ := hv
  have hts := atoms_spec (ws := ws_Lled) B.pre
  have hown' : s.vm.findClass RL = some m.cls := findClass_of_methodNamed B.named
  subst hsz
  have hD := hD0.self (sz := s.heap.size)
  have hl := lv_entry ([Value.ref 0, .int i, .ref 67].map (j_tv α)) (n := 4) (by rw [j_sl_len]; exact Nat.le_of_ble_eq_true rfl)
  rw [j_args] at hl
  rw [lg_entry_eq]
  have htab : c.exceptionTable.toList = [⟨0, 9, 12, 13⟩] := vx_table (x := yL_led) B (hts _ List.mem_cons_self)
  have C : j_C mi_Lled p s m ([Value.ref 0, .int i, .ref 67].map (j_tv α)).toArray meth c D cI cJ cB (va_A (j_ws cI cJ cB α (g, d)) s.heap.size) := ⟨B.exec, B.bytes, hml, B.returns, hown', fun w hw => hts w (List.mem_cons_of_mem _ hw), B.notSynchronized, (name_of_methodNamed B.named B.method).1, hK, fun q hq => Or.inr hq⟩
  have V : j_V (g, d) s D cI cJ cB (va_A (j_ws cI cJ cB α (g, d)) s.heap.size) α s.heap [] := ⟨hP, hD, va_S.rf, hX, hcl, hm⟩
  have E : j_E (g, d) (some (.int (k_Lled (f_led a d i))), (g, d_Lled d (f_led a d i))) s ([Value.ref 0, .int i, .ref 67].map (j_tv α)).toArray D cI cJ cB (va_A (j_ws cI cJ cB α (g, d)) s.heap.size) α (j_Qc (g, d) (some (.int (k_Lled (f_led a d i))), (g, d_Lled d (f_led a d i))) D cI cJ cB α s.heap.size) := fun α' t h1 h2 h3 h4 h5 h6 h7 h8 => ⟨⟨α', h1, h2, h3, rfl, h4, va_K.moved h7.alike hK, h5, h8⟩, h6⟩
  refine lv_aload_n C.1 C.2.1 dL_led_0 rfl (lv_at hl 2 rfl) ?_
  refine lv_iconst C.1 C.2.1 dL_led_1 (v := 0) (by decide) ?_
  refine lv_aload_n C.1 C.2.1 dL_led_2 rfl (lv_at hl 0 rfl) ?_
  refine lv_iload_n C.1 C.2.1 dL_led_3 rfl (lv_at hl 1 rfl) ?_
  have hrecv := va_recv (s := s) (H := s.heap) C.2.2.2.2.2.2.2.2.1 V.1 (show vwCl[10]? = some _ from rfl) (j_obj (cI := cI) (cJ := cJ) (cB := cB) (α := α) (h := (g, d)) (h0.lt 0 (by decide)) (h0.ty 0 rfl))
  have hpre : PreV s s.heap RX11 (α 0) (j_Pc (g, d) [.ref 0, .int i] D cI cJ cB α s.heap.size) [.int i] := ⟨j_blind, hrecv, j_pre (av := [.ref 0, .int i]) V C.2.2.2.2.2.2.2.2.1 C.2.2.2.2.2.2.2.2.2⟩
  have run := vx_runV (p := p) (l := l.1) (e := e) (R := j_rm mi_Lled 1 6) (below := below) (meth := meth) (locs := []) (cells := 0) (slots := 0) (cc := cL_led) (nL := 4) (Ts := j_gw) (own := RL) (g := F0 m 4 _ [.int i, .ref (α 0), .int 0, .ref (α 67)]) (rest := [.int 0, .ref (α 67)]) (As := [.int i]) (b := α 0) ⟨C.1, C.2.1, C.2.2.1, C.2.2.2.2.1, C.2.2.2.2.2.1⟩ (s_X11_led g d a i h0 ha hco l D cI cJ cB α s.heap.size) ⟨callB_of 1 C.2.2.2.2.2.1 (j_good (mj := mi_ledX) (n := 1) ok_X11_led) rfl rfl rfl (C.2.2.2.2.2.1 _ ok_X11_led.2.1) (C.2.2.2.2.2.1 _ (gw6 (List.mem_of_getElem? (i := 75) rfl) rfl)) ok_X11_led.2.2 ⟨Nat.le_of_ble_eq_true rfl, Nat.le_of_ble_eq_true rfl⟩, C.2.2.2.2.2.1 _ ov_X11_led.1, C.2.2.2.2.2.1 _ ov_X11_led.2⟩ hpre rfl rfl hl.1 rfl (lv_room (Nat.le_of_ble_eq_true rfl)) dL_led_4 ⟨by decide, by decide⟩
  refine j_contX V C.2.2.2.2.2.2.2.2.2 run (fun H1 locs1 hb V1 => ?_) (fun H1 locs1 q ce hb V1 hce hcv hcl9 => ?_)
  · exact J_Lled_ret g d i _ h0 hb _ rfl l p e s m _ below meth c D cI cJ cB _ α H1 locs1 1 6 _ _ C V1 (by decide) (by decide) hl E
  · refine vx_catch (name := j_EX) C.2.2.2.2.1 [] ⟨0, 9, 12, 13⟩ [] htab (fun z hz => nomatch hz) (by decide) (by decide) (C.2.2.2.2.2.1 _ (gw6 (List.mem_of_getElem? (i := 74) rfl) rfl)) (va_Nw.use rfl (V1.2.2.2.1.2.2.2.2 _ (nw6 (List.mem_of_getElem? (i := 85) rfl) rfl))) hce hcv hcl9 ?_
    refine lv_astore_n C.1 C.2.1 dL_led_12 rfl hl (by decide) rfl (fun ls1 hl1 => ?_)
    exact J_Lled_thr g d i _ hb _ rfl l p e s m _ below meth c D cI cJ cB _ α H1 locs1 1 6 ls1 _ C V1 (by decide) (by decide) (lv_sub hl1 [1, 2, 3] rfl) E
set_option maxRecDepth 100000 in
theorem J_callLed {mc ms kc ks : Nat} {g : JG} {d : JD} {loc : List (Nat × Value)} {st0 stk : List Value} (a pc : Nat) (i : Int32) (h0 : j_sh g 0 TS_W RS_W) (ha : j_sh g a TS_CL RS_CL) (hco : g.2.2.1 0 10 = some a) (hd : decode cL_law pc = .ok (.invokestatic 237, 3)) (hst : st0 = .ref 67 :: .int i :: .ref 0 :: stk) (hcat : (stk.map fun v => v.category).sum ≤ 8) : JC mi_law mc ms (kc + 1) (ks + 6) kc ks (g, d) pc loc st0 stk (some (some (.int (k_Lled (f_led a d i))), (g, d_Lled d (f_led a d i)))) := by
  intro k hx kk r hr l p e s m args below meth c D cI cJ cB A α H locs cells slots ls Qc C V hc hs hl E
  have hMet := s_L_led g d a i h0 ha hco l D cI cJ cB α H.size
  have hpre : PreS s H (j_Pc (g, d) [.ref 0, .int i, .ref 67] D cI cJ cB α H.size) ([Value.ref 0, .int i, .ref 67].map (j_tv α)) := ⟨j_blind, j_pre V C.2.2.2.2.2.2.2.2.1 C.2.2.2.2.2.2.2.2.2⟩
  have hst' : (F0 m pc ls (st0.map (j_tv α))).stack = ([Value.ref 0, .int i, .ref 67].map (j_tv α)).reverse ++ stk.map (j_tv α) := by
    show st0.map (j_tv α) = _
    rw [hst]
    rfl
  have hcat' : 2 * (F0 m pc ls (st0.map (j_tv α))).monitorRoom + ((stk.map (j_tv α)).map fun v => v.category).sum ≤ 8 := lv_room (by rw [j_cats]; exact hcat)
  refine j_run (mc' := 1) (ms' := 6) (k := k) (r0 := (some (.int (k_Lled (f_led a d i))), (g, d_Lled d (f_led a d i)))) hr (hx _ rfl) (kk _ rfl) C V hc hs hl E (a := ([Value.ref 0, .int i, .ref 67].map (j_tv α)).toArray) ?_
  have hgood : GoodIn j_gw (va_wsS RL 237 yL_led ws_Lled) := by
    intro w hw
    have hm : w ∈ j_gw := by
      unfold va_wsS ws_Lled at hw
      rcases List.mem_append.mp hw with hw | hw
      · rcases List.mem_cons.mp hw with rfl | hw
        · exact (gw6 (List.mem_of_getElem? (i := 71) rfl) rfl)
        · rcases List.mem_cons.mp hw with rfl | hw
          · exact (gw6 (List.mem_of_getElem? (i := 72) rfl) rfl)
          · rcases List.mem_cons.mp hw with rfl | hw
            · exact (gw1 (List.mem_of_getElem? (i := 0) rfl) rfl)
            · cases hw
      · rcases List.mem_cons.mp hw with rfl | hw
        · exact (gw6 (List.mem_of_getElem? (i := 73) rfl) rfl)
        · exact hw
    exact ⟨hm, j_gw_good w hm⟩
  exact vx_runSW (cc := cL_law) (nL := 7) (Ts := j_gw) (own := RL) ⟨C.1, C.2.1, C.2.2.1, C.2.2.2.2.1, C.2.2.2.2.2.1⟩ hMet (vx_cwSW 3 C.2.2.2.2.2.1 hgood rfl rfl rfl ⟨by decide, by decide, by decide +kernel⟩ ⟨Nat.le_of_ble_eq_true rfl, Nat.le_of_ble_eq_true rfl⟩) hpre rfl rfl hl.1 hst' hcat' hd ⟨show cells + 1 ≤ mc by omega, show slots + 6 ≤ ms by omega⟩
