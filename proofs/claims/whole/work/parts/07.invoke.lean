/-! rules of calls -/
def j_ML (own : String) (idx : Nat) (y : MethodName) : Prop := Cond.methodLink own idx y ∈ j_gw ∨ ∃ host, Cond.methodLinkNest own idx y host ∈ j_nw
/-- what is known of a method that is called: its code, its class, how many arguments -/
def j_OK (mj : JMI) (n : Nat) : Prop := Cond.code mj.1 mj.2.1 mj.2.2.1 mj.2.2.2.1 ∈ j_gw ∧ Cond.initialized mj.1.cls ∈ j_gw ∧ mj.1.cls ≠ "java/lang/invoke/MethodHandle" ∧ mj.1.cls ≠ "java/lang/invoke/VarHandle" ∧ (parseMethodDescriptor mj.1.desc).map (fun d => d.parameters.length) = some n
def j_OV (mj : JMI) : Prop := Cond.instanceMethod mj.1 ∈ j_gw ∧ Cond.selects mj.1.cls mj.1 mj.1 ∈ j_gw
def j_OS (mj : JMI) : Prop := Cond.static mj.1 ∈ j_gw
def j_OI (mj : JMI) : Prop := mj.1.name = "<init>" ∧ Cond.instanceMethod mj.1 ∈ j_gw ∧ mj.2.2.2.1 = none
def j_RM (mi mj : JMI) : Prop := mj.2.2.2.2.2.1 + 1 ≤ mi.2.2.2.2.2.1 ∧ 8 + (mj.2.2.1 + 11) + mj.2.2.2.2.2.2 ≤ mi.2.2.2.2.2.2
theorem j_good {mj : JMI} {n : Nat} (h : j_OK mj n) : GoodIn j_gw (j_w0 mj) := by
  intro w hw
  have hm : w ∈ j_gw := by
    rcases List.mem_cons.mp hw with rfl | h2
    · exact h.1
    · exact h2
  exact ⟨hm, j_gw_good w hm⟩
/-- a contract's start and end, at a heap -/
def j_Pc (h : JH) (av : List Value) (D : va_G) (cI cJ cB : ClassId) (α : Nat → Nat) (sz : Nat) : Array Value → State → Prop :=
  va_Pc (av.map (j_tv α)) (fun U => U.heap.size = sz ∧ va_P D vwCl (j_ws cI cJ cB α h) U.heap ∧ va_K D vwCl (j_tys cI cJ cB) U ∧ va_D (fun _ => True) (j_ws cI cJ cB α h) ∧ j_X h.1 α (va_A (j_ws cI cJ cB α h) sz) U U.heap ∧ j_cl h ∧ h.1.1 ≤ 1000000)
def j_Qc (h : JH) (r : Option Value × JH) (D : va_G) (cI cJ cB : ClassId) (α : Nat → Nat) (sz : Nat) : Array Value → State → Outcome → State → Prop :=
  fun _ st oc t => (∃ α' : Nat → Nat, h.1.1 ≤ r.2.1.1 ∧ r.2.1.1 ≤ 1000000 ∧ j_ext h.1.1 r.2.1.1 α α' ∧ oc = .returned (r.1.map (j_tv α')) ∧ va_P D vwCl (j_ws cI cJ cB α' r.2) t.heap ∧ va_K D vwCl (j_tys cI cJ cB) t ∧ va_D (va_A (j_ws cI cJ cB α h) sz) (j_ws cI cJ cB α' r.2) ∧ j_cl r.2) ∧ va_F (va_A (j_ws cI cJ cB α h) sz) st t
theorem j_blind {h : JH} {av : List Value} {D : va_G} {cI cJ cB : ClassId} {α : Nat → Nat} {sz : Nat} : FrameBlind (j_Pc h av D cI cJ cB α sz) := by
  intro a U g mk q
  obtain ⟨q0, q1, qP, qK, qD, qX, qc, qn⟩ := q
  exact ⟨q0, q1, qP, va_K.moved (u := U) (U := U.calling g mk a) (Vm.Alike.refl U.vm) qK, qD, j_X.warm (s := U) (U := U.calling g mk a) (State.WarmedH.refl U) qX, qc, qn⟩
theorem j_sub {h : JH} {s : State} {D : va_G} {cI cJ cB : ClassId} {A : Nat → Prop} {α : Nat → Nat} {H : Heap} {locs : List Loc} (V : j_V h s D cI cJ cB A α H locs) (hA : ∀ q, s.heap.size ≤ q → A q) : ∀ q, va_A (j_ws cI cJ cB α h) H.size q → A q := by
  intro q hq
  rcases hq with ⟨k, e, hk⟩ | hq
  · exact V.2.1.2 k (q, e) hk
  · exact hA q (Nat.le_trans V.2.2.1.1 hq)
theorem j_pre {h : JH} {av : List Value} {s : State} {D : va_G} {cI cJ cB : ClassId} {A : Nat → Prop} {α : Nat → Nat} {H : Heap} {locs : List Loc} (V : j_V h s D cI cJ cB A α H locs) (hK : va_K D vwCl (j_tys cI cJ cB) s) (hA : ∀ q, s.heap.size ≤ q → A q) :
    ∀ U : State, U.heap = H → s.WarmedH U.vm → j_Pc h av D cI cJ cB α H.size (av.map (j_tv α)).toArray U := by
  intro U hU hW
  refine ⟨rfl, by rw [hU], by rw [hU]; exact V.1, va_K.moved hW.alike hK, V.2.1.weaken (fun _ _ _ _ => trivial), ?_, V.2.2.2.2.1, V.2.2.2.2.2⟩
  rw [hU]
  exact ((V.2.2.2.1.kept V.2.2.1.1 V.2.2.1.2.1).narrow (j_sub V hA)).warm hW
section JI
variable {p : Program} {l : Launch} {e : Env} {R : Room} {s : State} {m : MethodId} {args : Array Value} {below : List Frame} {meth : Method} {c : Code} {H : Heap} {locs : List Loc} {cells slots : Nat} {Q : State → Prop}
theorem j_cont {pc mc ms : Nat} {ls : Array Slot} {st0 rest : List Value} {h : JH} {r : Option Value × JH} {D : va_G} {cI cJ cB : ClassId} {A : Nat → Prop} {α : Nat → Nat} {a : Array Value} (V : j_V h s D cI cJ cB A α H locs) (hA : ∀ q, s.heap.size ≤ q → A q)
    (hr : va_Run p l e R s m args below meth c H locs cells slots mc ms (F0 m pc ls st0) rest (j_Qc h r D cI cJ cB α H.size a) (va_A (j_ws cI cJ cB α h) H.size))
    (kk : ∀ (α' : Nat → Nat) (H1 : Heap) (locs1 : List Loc), h.1.1 ≤ r.2.1.1 → j_ext h.1.1 r.2.1.1 α α' → (r.2.1.2.2.2 = h.1.2.2.2 → j_V r.2 s D cI cJ cB A α' H1 locs1) → W p l e R s m args below meth c H1 locs1 (cells + mc) (slots + ms) Q (F0 m (pc + 3) ls ((r.1.map (j_tv α')).toList ++ rest))) :
    W p l e R s m args below meth c H locs cells slots Q (F0 m pc ls st0) := by
  intro T hT X
  obtain ⟨v, st₀, t, T', L, h0, X', hL, e1, e2, ⟨⟨α', g1, g2, g3, g4, g5, g6, g7, g8⟩, hF⟩, st⟩ := hr T hT X
  cases g4
  have hsub := j_sub V hA
  obtain ⟨hz, hk⟩ := hF
  rw [h0] at hz hk
  have hS : va_S A s.heap T'.heap (locs ++ L) :=
    ⟨Nat.le_trans V.2.2.1.1 (by rw [e1]; exact hz), fun q h1 h2 => by rw [e1, hk q (Nat.lt_of_lt_of_le h1 V.2.2.1.1) (fun z => h2 (hsub q z))]; exact V.2.2.1.2.1 q h1 h2, fun q hq => by
      rcases List.mem_append.mp hq with h | h
      · exact V.2.2.1.2.2 q h
      · exact hsub _ (hL q h)⟩
  obtain ⟨t2, a1, b1⟩ := kk α' T'.heap (locs ++ L) g1 g3 (fun hx => ⟨by rw [e1]; exact g5, g7.weaken (fun _ q _ z => hsub q.1 z), hS, (V.2.2.2.1.other (fun k hk => g3 k (Or.inr (Nat.le_trans g2 hk)))).shape hx, g8, g2⟩) T' rfl X'
  exact ⟨t2, st t2 a1, b1⟩
end JI
/-- A CALL at a place: its outcome oc, then what follows -/
def JC (mi : JMI) (mc ms kc ks kc' ks' : Nat) (h : JH) (pc : Nat) (loc : List (Nat × Value)) (st0 stk : List Value) (oc : Option (Option Value × JH)) : Prop :=
  ∀ k : Option Value × JH → Option (Option Value × JH), (∀ r, oc = some r → r.2.1.2.2.2 = h.1.2.2.2 ∧ (r.2.1.1 = h.1.1 ∨ (j_okq h.1.1 loc ∧ j_okl h.1.1 stk))) → (∀ r, oc = some r → J mi mc ms kc' ks' r.2 (pc + 3) loc (r.1.toList ++ stk) (k r)) → J mi mc ms kc ks h pc loc st0 (oc.bind k)
section JK
variable {mi mj : JMI} {mc ms kc ks mc' ms' : Nat} {h : JH} {pc : Nat} {loc : List (Nat × Value)} {st0 stk : List Value} {oc : Option (Option Value × JH)}
theorem j_cats (α : Nat → Nat) (stk : List Value) : ((stk.map (j_tv α)).map fun v => v.category) = stk.map fun v => v.category := by
  rw [List.map_map]
  apply List.map_congr_left
  intro v _
  exact j_tv_cat α v
theorem j_toList (α : Nat → Nat) (v : Option Value) (stk : List Value) : (v.map (j_tv α)).toList ++ stk.map (j_tv α) = (v.toList ++ stk).map (j_tv α) := by cases v <;> rfl
theorem j_run {p : Program} {l : JLa} {e : Env} {s : State} {m : MethodId} {args : Array Value} {below : List Frame} {meth : Method} {c : Code} {D : va_G} {cI cJ cB : ClassId} {A : Nat → Prop} {α : Nat → Nat} {H : Heap} {locs : List Loc} {cells slots : Nat} {ls : Array Slot} {Qc : Array Value → State → Outcome → State → Prop} {a : Array Value}
    {k : Option Value × JH → Option (Option Value × JH)} {r0 r : Option Value × JH} (hr : k r0 = some r)
    (hx : r0.2.1.2.2.2 = h.1.2.2.2 ∧ (r0.2.1.1 = h.1.1 ∨ (j_okq h.1.1 loc ∧ j_okl h.1.1 stk)))
    (kk : J mi mc ms kc ks r0.2 (pc + 3) loc (r0.1.toList ++ stk) (k r0))
    (C : j_C mi p s m args meth c D cI cJ cB A) (V : j_V h s D cI cJ cB A α H locs) (hc : cells + (kc + mc') ≤ mc) (hs : slots + (ks + ms') ≤ ms) (hl : lv_has ls mi.2.2.1 (loc.map (j_tq α))) (E : j_E h r s args D cI cJ cB A α Qc)
    (run : va_Run p l.1 e (j_rm mi mc ms) s m args below meth c H locs cells slots mc' ms' (F0 m pc ls st0) (stk.map (j_tv α)) (j_Qc h r0 D cI cJ cB α H.size a) (va_A (j_ws cI cJ cB α h) H.size)) :
    W p l.1 e (j_rm mi mc ms) s m args below meth c H locs cells slots (MQ below Qc args s mc ms A) (F0 m pc ls st0) := by
  refine j_cont V C.2.2.2.2.2.2.2.2.2 run (fun α' H1 locs1 g1 g3 hV => ?_)
  have V' := hV hx.1
  have hm : r0.2.1.1 ≤ 1000000 := V'.2.2.2.2.2
  have e1 : loc.map (j_tq α') = loc.map (j_tq α) ∧ stk.map (j_tv α') = stk.map (j_tv α) := by
    rcases hx.2 with e0 | ⟨o1, o2⟩
    · have : α' = α := by
        funext k
        rw [e0] at g3
        exact g3 k (by omega)
      rw [this]
      exact ⟨rfl, rfl⟩
    · exact ⟨j_okq_tq g3 hm o1, j_okl_tv g3 hm o2⟩
  have E' : j_E r0.2 r s args D cI cJ cB A α' Qc := by
    intro α2 t f1 f2 f3 f4 f5 f6 f7 f8
    refine E α2 t (Nat.le_trans g1 f1) f2 (fun k hk => ?_) f4 f5 f6 f7 f8
    rcases hk with hk | hk
    · rw [f3 k (Or.inl (Nat.lt_of_lt_of_le hk g1)), g3 k (Or.inl hk)]
    · rw [f3 k (Or.inr hk), g3 k (Or.inr (Nat.le_trans f1 hk))]
  have K := kk r hr l p e s m args below meth c D cI cJ cB A α' H1 locs1 (cells + mc') (slots + ms') ls Qc C V' (by omega) (by omega) (by rw [e1.1]; exact hl) E'
  rw [← j_toList, e1.2] at K
  exact K
theorem J_callV {a ci n idx : Nat} {av : List Value} (hd : decode mi.2.1 pc = .ok (.invokevirtual idx, 3)) (hlink : j_ML mi.2.2.2.2.1 idx mj.1) (hok : j_OK mj n) (hov : j_OV mj) (hR : j_RM mi mj) (hn : av.length = n) (ha : a < h.1.1) (ht : h.1.2.1 a = (0, ci)) (hcl : (vwCl[ci]?).map (fun q => q.1) = some mj.1.cls) (hM : JM mj mc' ms' h (.ref a :: av) oc) (hst : st0 = av.reverse ++ .ref a :: stk) (hcat : (stk.map fun v => v.category).sum ≤ 8) : JC mi mc ms (kc + mc') (ks + ms') kc ks h pc loc st0 stk oc := by
  intro k hx kk r hr l p e s m args below meth c D cI cJ cB A α H locs cells slots ls Qc C V hc hs hl E
  cases hoc : oc with
  | none => rw [hoc] at hr; cases hr
  | some r0 =>
    rw [hoc] at hr
    have hr' : k r0 = some r := hr
    have hMet := hM r0 hoc l D cI cJ cB α H.size
    obtain ⟨q, hq⟩ : ∃ q, vwCl[ci]? = some q := by
      cases hz : vwCl[ci]? with
      | none => rw [hz] at hcl; cases hcl
      | some q => exact ⟨q, rfl⟩
    rw [hq] at hcl
    have hcls : q.1 = mj.1.cls := Option.some.inj hcl
    have hrecv := va_recv (s := s) (H := H) C.2.2.2.2.2.2.2.2.1 V.1 hq (j_obj (cI := cI) (cJ := cJ) (cB := cB) (α := α) ha ht)
    rw [hcls] at hrecv
    have hpre : PreV s H mj.1.cls (α a) (j_Pc h (.ref a :: av) D cI cJ cB α H.size) (av.map (j_tv α)) := ⟨j_blind, hrecv, j_pre V C.2.2.2.2.2.2.2.2.1 C.2.2.2.2.2.2.2.2.2⟩
    have hst' : (F0 m pc ls (st0.map (j_tv α))).stack = (av.map (j_tv α)).reverse ++ .ref (α a) :: stk.map (j_tv α) := by
      show st0.map (j_tv α) = _
      rw [hst, List.map_append, List.map_reverse, List.map_cons]
      rfl
    have hn' : (av.map (j_tv α)).length = n := by rw [List.length_map]; exact hn
    have hcat' : 2 * (F0 m pc ls (st0.map (j_tv α))).monitorRoom + ((stk.map (j_tv α)).map fun v => v.category).sum ≤ 8 := lv_room (by rw [j_cats]; exact hcat)
    refine j_run (mc' := mc') (ms' := ms') hr' (hx r0 hoc) (kk r0 hoc) C V hc hs hl E (a := (Value.ref (α a) :: av.map (j_tv α)).toArray) ?_
    rcases hlink with hlink | ⟨host, hlink⟩
    · exact va_runV (cc := mi.2.1) (nL := mi.2.2.1) (Ts := j_gw) (own := mi.2.2.2.2.1) ⟨C.1, C.2.1, C.2.2.1, C.2.2.2.2.1, C.2.2.2.2.2.1⟩ hMet ⟨callB_of n C.2.2.2.2.2.1 (j_good hok) rfl rfl rfl (C.2.2.2.2.2.1 _ hok.2.1) (C.2.2.2.2.2.1 _ hlink) hok.2.2 hR, C.2.2.2.2.2.1 _ hov.1, C.2.2.2.2.2.1 _ hov.2⟩ hpre rfl hn' hl.1 hst' hcat' hd ⟨show cells + mc' ≤ mc by omega, show slots + ms' ≤ ms by omega⟩
    · exact va_runVN (cc := mi.2.1) (nL := mi.2.2.1) (Ts := j_gw) (own := mi.2.2.2.2.1) ⟨C.1, C.2.1, C.2.2.1, C.2.2.2.2.1, C.2.2.2.2.2.1⟩ hMet ⟨va_cnB n C.2.2.2.2.2.1 (j_good hok) rfl rfl rfl (V.2.2.2.1.2.2.2.2 _ hlink) (C.2.2.2.2.2.1 _ hok.2.1) hok.2.2 hR, C.2.2.2.2.2.1 _ hov.1, C.2.2.2.2.2.1 _ hov.2⟩ hpre rfl hn' hl.1 hst' hcat' hd ⟨show cells + mc' ≤ mc by omega, show slots + ms' ≤ ms by omega⟩
theorem J_callS {n idx : Nat} {av : List Value} (hd : decode mi.2.1 pc = .ok (.invokestatic idx, 3)) (hlink : j_ML mi.2.2.2.2.1 idx mj.1) (hok : j_OK mj n) (hov : j_OS mj) (hR : j_RM mi mj) (hn : av.length = n) (hM : JM mj mc' ms' h av oc) (hst : st0 = av.reverse ++ stk) (hcat : (stk.map fun v => v.category).sum ≤ 8) : JC mi mc ms (kc + mc') (ks + ms') kc ks h pc loc st0 stk oc := by
  intro k hx kk r hr l p e s m args below meth c D cI cJ cB A α H locs cells slots ls Qc C V hc hs hl E
  cases hoc : oc with
  | none => rw [hoc] at hr; cases hr
  | some r0 =>
    rw [hoc] at hr
    have hr' : k r0 = some r := hr
    have hMet := hM r0 hoc l D cI cJ cB α H.size
    have hpre : PreS s H (j_Pc h av D cI cJ cB α H.size) (av.map (j_tv α)) := ⟨j_blind, j_pre V C.2.2.2.2.2.2.2.2.1 C.2.2.2.2.2.2.2.2.2⟩
    have hst' : (F0 m pc ls (st0.map (j_tv α))).stack = (av.map (j_tv α)).reverse ++ stk.map (j_tv α) := by
      show st0.map (j_tv α) = _
      rw [hst, List.map_append, List.map_reverse]
    have hn' : (av.map (j_tv α)).length = n := by rw [List.length_map]; exact hn
    have hcat' : 2 * (F0 m pc ls (st0.map (j_tv α))).monitorRoom + ((stk.map (j_tv α)).map fun v => v.category).sum ≤ 8 := lv_room (by rw [j_cats]; exact hcat)
    refine j_run (mc' := mc') (ms' := ms') hr' (hx r0 hoc) (kk r0 hoc) C V hc hs hl E (a := (av.map (j_tv α)).toArray) ?_
    rcases hlink with hlink | ⟨host, hlink⟩
    · exact va_runS (cc := mi.2.1) (nL := mi.2.2.1) (Ts := j_gw) (own := mi.2.2.2.2.1) ⟨C.1, C.2.1, C.2.2.1, C.2.2.2.2.1, C.2.2.2.2.2.1⟩ hMet ⟨callB_of n C.2.2.2.2.2.1 (j_good hok) rfl rfl rfl (C.2.2.2.2.2.1 _ hok.2.1) (C.2.2.2.2.2.1 _ hlink) hok.2.2 hR, C.2.2.2.2.2.1 _ hov⟩ hpre rfl hn' hl.1 hst' hcat' hd ⟨show cells + mc' ≤ mc by omega, show slots + ms' ≤ ms by omega⟩
    · exact va_runSN (cc := mi.2.1) (nL := mi.2.2.1) (Ts := j_gw) (own := mi.2.2.2.2.1) ⟨C.1, C.2.1, C.2.2.1, C.2.2.2.2.1, C.2.2.2.2.2.1⟩ hMet ⟨va_cnB n C.2.2.2.2.2.1 (j_good hok) rfl rfl rfl (V.2.2.2.1.2.2.2.2 _ hlink) (C.2.2.2.2.2.1 _ hok.2.1) hok.2.2 hR, C.2.2.2.2.2.1 _ hov, trivial⟩ hpre rfl hn' hl.1 hst' hcat' hd ⟨show cells + mc' ≤ mc by omega, show slots + ms' ≤ ms by omega⟩
theorem J_callI {a n idx : Nat} {av : List Value} (hd : decode mi.2.1 pc = .ok (.invokespecial idx, 3)) (hlink : j_ML mi.2.2.2.2.1 idx mj.1) (hok : j_OK mj n) (hov : j_OI mj) (hR : j_RM mi mj) (hn : av.length = n) (hM : JM mj mc' ms' h (.ref a :: av) oc) (hst : st0 = av.reverse ++ .ref a :: stk) (hcat : (stk.map fun v => v.category).sum ≤ 8) : JC mi mc ms (kc + mc') (ks + ms') kc ks h pc loc st0 stk oc := by
  intro k hx kk r hr l p e s m args below meth c D cI cJ cB A α H locs cells slots ls Qc C V hc hs hl E
  cases hoc : oc with
  | none => rw [hoc] at hr; cases hr
  | some r0 =>
    rw [hoc] at hr
    have hr' : k r0 = some r := hr
    have hMet := hM r0 hoc l D cI cJ cB α H.size
    have hpre : PreS s H (j_Pc h (.ref a :: av) D cI cJ cB α H.size) (.ref (α a) :: av.map (j_tv α)) := ⟨j_blind, j_pre V C.2.2.2.2.2.2.2.2.1 C.2.2.2.2.2.2.2.2.2⟩
    have hst' : (F0 m pc ls (st0.map (j_tv α))).stack = (av.map (j_tv α)).reverse ++ .ref (α a) :: stk.map (j_tv α) := by
      show st0.map (j_tv α) = _
      rw [hst, List.map_append, List.map_reverse, List.map_cons]
      rfl
    have hn' : (av.map (j_tv α)).length = n := by rw [List.length_map]; exact hn
    have hcat' : 2 * (F0 m pc ls (st0.map (j_tv α))).monitorRoom + ((stk.map (j_tv α)).map fun v => v.category).sum ≤ 8 := lv_room (by rw [j_cats]; exact hcat)
    have hw0 : j_w0 mj = Cond.code mj.1 mj.2.1 mj.2.2.1 none :: j_gw := by unfold j_w0; rw [hov.2.2]
    refine j_run (mc' := mc') (ms' := ms') hr' (hx r0 hoc) (kk r0 hoc) C V hc hs hl E (a := (Value.ref (α a) :: av.map (j_tv α)).toArray) ?_
    rcases hlink with hlink | ⟨host, hlink⟩
    · exact va_runI (cc := mi.2.1) (nL := mi.2.2.1) (Ts := j_gw) (own := mi.2.2.2.2.1) ⟨C.1, C.2.1, C.2.2.1, C.2.2.2.2.1, C.2.2.2.2.2.1⟩ hMet ⟨callB_of n C.2.2.2.2.2.1 (j_good hok) hw0 rfl rfl (C.2.2.2.2.2.1 _ hok.2.1) (C.2.2.2.2.2.1 _ hlink) hok.2.2 hR, hov.1, C.2.2.2.2.2.1 _ hov.2.1⟩ hpre rfl hn' hl.1 hst' hcat' hd ⟨show cells + mc' ≤ mc by omega, show slots + ms' ≤ ms by omega⟩
    · exact va_runIN (cc := mi.2.1) (nL := mi.2.2.1) (Ts := j_gw) (own := mi.2.2.2.2.1) ⟨C.1, C.2.1, C.2.2.1, C.2.2.2.2.1, C.2.2.2.2.2.1⟩ hMet ⟨va_cnB n C.2.2.2.2.2.1 (j_good hok) hw0 rfl rfl (V.2.2.2.1.2.2.2.2 _ hlink) (C.2.2.2.2.2.1 _ hok.2.1) hok.2.2 hR, hov.1, C.2.2.2.2.2.1 _ hov.2.1⟩ hpre rfl hn' hl.1 hst' hcat' hd ⟨show cells + mc' ≤ mc by omega, show slots + ms' ≤ ms by omega⟩
end JK
