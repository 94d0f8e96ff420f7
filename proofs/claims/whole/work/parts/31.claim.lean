theorem nest_tab : ∀ w : Cond, j_nest w = true → w.onTables = true := by
  intro w h
  cases w <;> first | rfl | (simp [j_nest] at h)
theorem eq_int_eval {args : Array Value} {s : State} {t : Term} {v : Int32} (h : (Cond.eq t (.int v)).before args s = true) : t.eval args s none [] s = some (.int v) := by
  simp only [Cond.before, Cond.holds, Cond.value] at h
  have e : (Term.int v).eval args s none [] s = some (.int v) := rfl
  rw [e] at h
  cases ht : t.eval args s none [] s with
  | none => rw [ht] at h; simp at h
  | some w =>
    rw [ht] at h
    cases w <;> simp_all
/-! the claim out of tier two -/
theorem Zset {A : Nat → Prop} {U : State} {H : Heap} {C n d : String} (h : va_Zq C n d A U H) : ∃ t : Nat, va_Z C n d .null A U H ∨ va_Z C n d (.ref t) A U H := by
  rcases h with h | ⟨t, h⟩
  · exact ⟨0, Or.inl h⟩
  · exact ⟨t, Or.inr h⟩
def R_law : String := "HookGatesLaw"
def lw_P (b : Addr) (xs : List Int32) (args : Array Value) (s : State) : Prop := args = #[.ref b] ∧ s.IntsAt b xs ∧ xs.length ≤ 3072 ∧ (Jvm.Cond.and given_1 narrow_1).before args s = true
def lw_Q (_ : Array Value) (s : State) (o : Outcome) (t : State) : Prop := o = .returned (some (.int 1)) ∧ Framed s o t [] 601024 7293034
def lw_Z (below : List Frame) (a : Array Value) (s : State) : State → Prop := fun t => ∃ o, t.status = .running ∧ Ended t below o ∧ lw_Q a s o t
def lw_At (p : Program) (s : State) (m : MethodId) (meth : Method) (c : Code) (b L : Nat) (xs : Nat → Int32) : Prop :=
  p.tables.exec = Jvm.exec ∧ c.code = code ∧ meth.sig.returnType = ret ∧ c.maxLocals = 7 ∧ s.vm.findClass R_law = some m.cls ∧ (∀ w ∈ lw_tbl, w.before #[Value.ref b] s = true) ∧ va_X b L xs s s.heap ∧ b < s.heap.size ∧ meth.locks = false ∧ (Jvm.Cond.and given_1 narrow_1).before #[Value.ref b] s = true ∧ meth.name = x.name
theorem lw_framed {s t : State} {o : Outcome} {L : List Loc} {k n : Nat} (h : FrameEnd s o t L k n) (hL : ∀ q ∈ L, s.heap.size ≤ q.base) : Framed s o t [] k n := by
  obtain ⟨v, hW, a1, a2, a3, a4, a5, a6⟩ := h
  refine ⟨v, hW, a1, a2, a3, a4, a5, fun a c hc => ?_⟩
  obtain ⟨c', e1, e2, e3, e4⟩ := a6 a c hc
  refine ⟨c', e1, e2, e3, fun i _ => e4 i (fun hm => ?_)⟩
  have h1 := hL _ hm
  have h2 := (Array.getElem?_eq_some_iff.mp hc).1
  exact absurd (Nat.lt_of_lt_of_le h2 h1) (Nat.lt_irrefl _)
def lw_al (b t : Nat) (f : Nat → Nat × Nat) (k : Nat) : Nat := if k = 3000000 then b else if k = 4000000 then t else if 2000000 ≤ k then (f (k - 2000000)).2 else (f (k - 1000000)).1
theorem lw_al1 (b t : Nat) (f : Nat → Nat × Nat) {k : Nat} (hk : k < 38) : lw_al b t f (1000000 + k) = (f k).1 := by
  unfold lw_al
  rw [if_neg (by omega), if_neg (by omega), if_neg (by omega), Nat.add_sub_cancel_left]
theorem lw_al2 (b t : Nat) (f : Nat → Nat × Nat) {k : Nat} (hk : k < 38) : lw_al b t f (2000000 + k) = (f k).2 := by
  unfold lw_al
  rw [if_neg (by omega), if_neg (by omega), if_pos (by omega), Nat.add_sub_cancel_left]
theorem lw_al3 (b t : Nat) (f : Nat → Nat × Nat) : lw_al b t f 3000000 = b := if_pos rfl
theorem lw_al4 (b t : Nat) (f : Nat → Nat × Nat) : lw_al b t f 4000000 = t := by
  unfold lw_al
  rw [if_neg (by omega), if_pos rfl]
set_option maxRecDepth 100000 in
theorem whole_from (R : JH → Prop) (hR : ∀ h, R h → j_lw h) (hN : lw_Next R) (hB : ∀ (L : Nat) (xs : Nat → Int32), R (hS L xs)) {p : Program} {e : Env} {s : State} {m : MethodId} {below : List Frame} {meth : Method} {c : Code} (l : JLa) {b L : Nat} {xs : Nat → Int32} (hL : L ≤ 3072) (C0 : lw_At p s m meth c b L xs) : W p l.1 e room_1 s m #[Value.ref b] below meth c s.heap [] 0 0 (lw_Z below #[Value.ref b] s) (entryFrame m ([Value.ref b] : List Value).toArray 7) := by
  obtain ⟨hx, hc, hr, hml, hown, hts, hX, hbl, hlk, hgv, hnm⟩ := C0
  obtain ⟨D, cI, cJ, cB, hK⟩ := lw_known hts
  obtain ⟨A, hAe⟩ : ∃ A : Nat → Prop, A = (fun q => s.heap.size ≤ q) := ⟨_, rfl⟩
  have hA : ∀ a : Nat, a < s.heap.size → ¬ A a := fun a ha z => by rw [hAe] at z; exact absurd (Nat.lt_of_lt_of_le ha z) (Nat.lt_irrefl _)
  obtain ⟨f, hf⟩ := Classical.skolem.mp (lw_site hts hgv hA)
  have fl := flat_of_before _ hgv
  obtain ⟨t, hZ⟩ := Zset (va_Zqof (A := A) (hts (.laysStatic "jdk/internal/util/Preconditions" "SIOOBE_FORMATTER" "Ljava/util/function/BiFunction;") (by decide +kernel)) (hts (.initialized "jdk/internal/util/Preconditions") (by decide +kernel)) (fl _ (by decide +kernel)) hA)
  have hU : vx_Zq Bundle.tN "UNASSIGNED_STACK" Bundle.steD A s s.heap := vx_Zqof (hts (.laysStatic Bundle.tN "UNASSIGNED_STACK" Bundle.steD) (by decide +kernel)) (hts (.initialized Bundle.tN) (by decide +kernel)) (fl (.isRef (.static Bundle.tN "UNASSIGNED_STACK" Bundle.steD)) (by decide +kernel)) hA
  have hV : vx_Zq Bundle.tN "SUPPRESSED_SENTINEL" Bundle.listD A s s.heap := vx_Zqof (hts (.laysStatic Bundle.tN "SUPPRESSED_SENTINEL" Bundle.listD) (by decide +kernel)) (hts (.initialized Bundle.tN) (by decide +kernel)) (fl (.isRef (.static Bundle.tN "SUPPRESSED_SENTINEL" Bundle.listD)) (by decide +kernel)) hA
  have hCS : va_Z "java/lang/String" "COMPACT_STRINGS" "Z" (.int 1) A s s.heap := va_Zof (hts (.laysStatic "java/lang/String" "COMPACT_STRINGS" "Z") (by decide +kernel)) (hts (.initialized "java/lang/String") (by decide +kernel)) (eq_int_eval (fl (.eq (.static "java/lang/String" "COMPACT_STRINGS" "Z") (.int 1)) (by decide +kernel))) hA
  have hXX : j_X (hS_0 L xs).1 (lw_al b t f) A s s.heap := by
    refine ⟨fun k hk => ?_, ⟨hCS, hU, hV⟩, by rw [lw_al4]; exact hZ, by rw [lw_al3]; exact ⟨hX, hA b hbl, hbl⟩, fun w hw => va_Nw.of (nest_tab w (List.mem_filter.mp hw).2) (hts w (List.mem_filter.mp hw).1)⟩
    rw [lw_al1 b t f hk, lw_al2 b t f hk]
    exact hf k hk
  have C : j_C mi_law p s m #[Value.ref b] meth c D cI cJ cB A := ⟨hx, hc, hml, hr, hown, fun w hw => hts w (List.mem_filter.mp hw).1, hlk, hnm, hK, fun q hq => by rw [hAe]; exact hq⟩
  have V : j_V (hS_0 L xs) s D cI cJ cB A (lw_al b t f) s.heap [] := ⟨fun k q hk => (by cases hk), ⟨fun i j p q hi => (by cases hi), fun k q hk => (by cases hk)⟩, va_S.rf, hXX, fun a k b ha => absurd ha (Nat.not_lt_zero _), Nat.zero_le _⟩
  obtain ⟨hE, K⟩ := lw_loop R hR hN L hL 512 0 (hS L xs) (hB L xs) rfl (by omega) (by omega) (by rw [hS_n]; decide)
  have K0 := lw_begin (L := L) (xs := xs) K
  have hl := lv_entry [Value.ref b] (n := 7) (Nat.le_of_ble_eq_true rfl)
  rw [lg_entry_eq]
  have WW := K0 _ rfl l p e s m #[Value.ref b] below meth c D cI cJ cB A (lw_al b t f) s.heap [] 0 0 _ (fun _ _ o _ => o = .returned (some (.int 1))) C V (by decide) (by decide) (by rw [show ([(0, Value.ref 3000000)] : List (Nat × Value)).map (j_tq (lw_al b t f)) = [(0, .ref b)] by simp [j_tq, j_tv, lw_al3]]; exact hl) (fun α' t _ _ _ _ _ _ _ _ => rfl)
  intro T hT X
  obtain ⟨t9, st, o, h1, h2, h3, Lc, h4, h5⟩ := WW T hT X
  exact ⟨t9, st, o, h1, h2, h3, lw_framed h4 (fun q hq => by have := h5 q hq; rw [hAe] at this; exact this)⟩
theorem lw_flags {l : Launch} (h : l.flags = flags0) : l.stackTraces = false := by
  unfold Launch.stackTraces
  rw [h]
  decide +kernel
set_option maxHeartbeats 4000000 in
theorem lw_walk (R : JH → Prop) (hR : ∀ h, R h → j_lw h) (hN : lw_Next R) (hB : ∀ (L : Nat) (xs : Nat → Int32), R (hS L xs)) (l : JLa) (b : Addr) (xs : List Int32) : MetFree l.1 x (headSpec (Jvm.Cond.code x code maxLocals ret :: tables_1) room_1) (lw_P b xs) (fun _ _ _ _ _ => True) lw_Q := by
  refine MetFree.of_bodyS (code := code) (maxLocals := maxLocals) (ret := ret) (by decide) ?_ ?_
  · intro args s m h hn
    obtain ⟨meth, c, h1, h2, h3, h4, h5, h6, -, -⟩ := Cond.code_spec hn (atoms_spec (ws := Jvm.Cond.code x code maxLocals ret :: tables_1) h _ List.mem_cons_self)
    exact ⟨meth, c, h1, h2, h3, h4, h5, h6⟩
  · intro p e s m args below meth c s₁ B hml0 hP _
    obtain ⟨rfl, hx, hbd, hgv⟩ := hP
    obtain ⟨scr, harrAt, hlist, hof, hsmall⟩ := hx
    obtain ⟨hcb, hkn, -, -⟩ := State.arrayAt?_spec harrAt
    have hown : s.vm.findClass R_law = some m.cls := findClass_of_methodNamed B.named
    have hts0 : ∀ c ∈ (Jvm.Cond.code x code maxLocals ret :: tables_1), c.before #[Value.ref b] s = true := atoms_spec (ws := Jvm.Cond.code x code maxLocals ret :: tables_1) B.pre
    have hts : ∀ w ∈ lw_tbl, w.before #[Value.ref b] s = true := k2_hts_sels lw_privs (fun w hw => hts0 w (List.mem_cons_of_mem _ hw)) lw_privs_ok
    have hml : c.maxLocals = 7 := B.maxLocals_eq (hts0 _ List.mem_cons_self)
    have X₀ : Stand p l.1 e room_1 s m #[Value.ref b] below meth c s₁ [] 0 0 := Stand.of_body B
    have hh0 : s₁.heap = s.heap := by rw [B.state]; rfl
    have hsz : scr.slots.size = xs.length := by rw [← Array.length_toList, hlist, List.length_map]
    have hval : ∀ j : Nat, j < xs.length → scr.slots[j]? = some (.int (xs.getD j 0)) := fun j hj => by
      rw [← Array.getElem?_toList, hlist]
      simp [hj]
    have hbl : b < s.heap.size := (Array.getElem?_eq_some_iff.mp hcb).1
    have hX : va_X b xs.length (fun j => xs.getD j 0) s s.heap := ⟨scr, hcb, hof, hkn, hsz, hval⟩
    have K : W p l.1 e room_1 s m #[Value.ref b] below meth c s₁.heap [] 0 0 (lw_Z below #[Value.ref b] s) (entryFrame m ([Value.ref b] : List Value).toArray 7) := by
      rw [hh0]
      exact whole_from R hR hN hB l hbd ⟨B.exec, B.bytes, B.returns, hml, hown, hts, hX, hbl, B.notSynchronized, hgv, (name_of_methodNamed B.named B.method).1⟩
    obtain ⟨t, a1, o, b1, b2, b3⟩ := K s₁ rfl X₀
    exact ⟨t, o, a1, b1, b2, b3⟩
theorem lw_pre_spec {args : Array Value} {s : State} (h : (Jvm.Cond.and given_1 narrow_1).before args s = true) (hr : rest_1_c.before args s = true) : ∃ (b : Addr) (xs : List Int32), lw_P b xs args s := by
  have hs := flat_of_before _ h
  have hq := flat_of_before _ hr
  have hc : (Cond.count 1).before args s = true := hs _ (by decide +kernel)
  have harr : (Cond.arrayOf (.arg 0) .int).before args s = true := hs _ (by decide +kernel)
  have hle : (Cond.le (.length (.arg 0)) (.int 3072)).before args s = true := hs _ (by decide +kernel)
  have hlen : (Cond.isInt (.length (.arg 0))).before args s = true := hq _ (by decide +kernel)
  have hall : (Cond.all (.arg 0) (.isInt (.elem (.arg 0) (.index 0)))).before args s = true := hq _ (by decide +kernel)
  obtain ⟨b, xs, hb, hx⟩ := State.ints_of_pre rfl harr hlen hall
  have hsm : xs.length < 2 ^ 31 := hx.choose_spec.2.2.2
  have hev : (Term.length (.arg 0)).eval args s none [] s = some (.int xs.length.toInt32) := hx.length_eval hb
  have hv := Cond.le_ints hev (show (Term.int 3072).eval args s none [] s = some (.int 3072) from rfl)
  have hd : xs.length.toInt32 ≤ 3072 := by
    simpa [Cond.before, Cond.holds, hv] using hle
  have hN : xs.length ≤ 3072 := (Int32.ofNat_le_ofNat hsm (by decide)).mp (show Int32.ofNat xs.length ≤ Int32.ofNat 3072 from hd)
  exact ⟨b, xs, Cond.one_arg hc (show args[0]? = some (.ref b) from hb), hx, hN, h⟩
theorem lw_comes (R : JH → Prop) (hR : ∀ h, R h → j_lw h) (hN : lw_Next R) (hB : ∀ (L : Nat) (xs : Nat → Int32), R (hS L xs)) (l : JLa) : Comes l.1 x (Jvm.Cond.code x code maxLocals ret :: tables_1) room_1 (fun tb e args s => Calls_1 tb e args s ∧ rest_1 tb e args s ∧ Pre_1 tb e args s)
    (fun _ _ args s o t => lw_Q args s o t) := by
  intro p e ha hc hk s m args below hf hfit hheap happ hpre
  obtain ⟨b, xs, hP⟩ := lw_pre_spec hpre.2.2 hpre.2.1
  obtain ⟨k, o, h1, h2, h3, hQ⟩ := lw_walk R hR hN hB l b xs p e ha hc hk s m args below hf ((Spec.applies_iff_loose hf).mp happ).1 hP trivial
  exact ⟨k, o, h1, h2, h3, hQ⟩
theorem lw_frame {s t : State} {o : Outcome} {args : Array Value} (h : Framed s o t [] 601024 7293034) :
    Framed s o t (fieldLocs frame_1_writes args s ++ arrayLocs frame_1_arrays args s ++ staticLocs frame_1_statics s) 601024 7293034 := h
theorem lw_limb (R : JH → Prop) (hR : ∀ h, R h → j_lw h) (hN : lw_Next R) (hB : ∀ (L : Nat) (xs : Nat → Int32), R (hS L xs)) (L : Cond) (hL : ∀ (args : Array Value) (s t : State), L.after args s (.returned (some (.int 1))) t = true) :
    ArmFor flags0 classFile x code maxLocals ret World_1 tables_1 room_1 Calls_1 rest_1 Pre_1
      (fun tb e a s o t => postC L tb e a s o t ∧ Framed s o t (fieldLocs frame_1_writes a s ++ arrayLocs frame_1_arrays a s ++ staticLocs frame_1_statics s) 601024 7293034) := by
  intro l hfl _ _ p e ha hc hk s m args below hf hfit hheap happ hpre
  obtain ⟨k, o, h1, h2, h3, rfl, hF⟩ := lw_comes R hR hN hB ⟨l, lw_flags hfl⟩ p e ha hc hk s m args below hf hfit hheap happ hpre
  exact ⟨k, _, h1, h2, h3, hL args s _, lw_frame hF⟩
theorem vc_of (R : JH → Prop) (hR : ∀ h, R h → j_lw h) (hN : lw_Next R) (hB : ∀ (L : Nat) (xs : Nat → Int32), R (hS L xs)) : Claimed_1_1 ∧ Claimed_1_2 := ⟨lw_limb R hR hN hB limb_1_1 (fun args s t => by simp [limb_1_1, Cond.after, Cond.holds, Cond.value]), lw_limb R hR hN hB limb_1_2 (fun args s t => Cond.after_iff.mpr (by
  first | (rw [show limb_1_2 = Cond.eq .result (.int 1) from rfl, Cond.eq_ints (x := 1) (y := 1) rfl rfl]; simp; done) | (simp [limb_1_2, Cond.value, Term.eval]; done)))⟩
