/-! the heap of a walk: how many cells, of what kind each is, its references, the script; its ints and longs -/
abbrev JG : Type := Nat × (Nat → Nat × Nat) × (Nat → Nat → Option Nat) × Nat × (Nat → Int32)
abbrev JD : Type := (Nat → Nat → Int32) × (Nat → Nat → Int64)
abbrev JH : Type := JG × JD
/-- launches without stack traces -/
abbrev JLa : Type := { l : Launch // l.stackTraces = false }
/-- a method: its name, code, locals, what it returns, the class that its pool is of, frames and words of room -/
abbrev JMI : Type := MethodName × ByteArray × Nat × Option FieldType × String × Nat × Nat
def j_kd (ci : Nat) : List Nat := match ci with
  | 0 => [0, 2, 2, 2, 0, 2, 0, 2]
  | 1 => [2, 2, 2, 2, 2, 0, 0]
  | 2 => [0, 2, 0]
  | 3 => [0, 0, 0, 0, 0, 0, 0, 0, 2, 2, 2, 2, 2, 2, 2, 2, 2]
  | 4 => [0, 0, 0]
  | 5 => [1, 1]
  | 6 => [2, 2, 0, 2, 2, 2, 0, 0, 0]
  | 7 => [2, 2, 2, 0, 0]
  | 8 => [0, 0, 0, 0, 0]
  | 9 => [2, 0, 0, 0, 0, 0, 1, 0]
  | 10 => [2, 2, 2, 2, 2, 2, 2, 2, 2, 2, 2, 0, 0, 0]
  | 11 => [0, 0, 0, 0, 0, 0, 0, 0, 0, 0, 2, 2, 2, 2, 2, 2, 2, 2, 2, 2, 2, 0, 2, 2, 2]
  | 12 => [0, 0, 0, 2, 2, 2, 0, 0, 0, 0, 0, 0, 0, 0, 1, 2, 2, 2, 2, 0, 0, 2, 2, 2, 0, 0, 0, 2, 0, 0]
  | _ => []
def j_fv (α : Nat → Nat) (h : JH) (a k kd : Nat) : Value := match kd with
  | 0 => .int (h.2.1 a k)
  | 1 => .long (h.2.2 a k)
  | _ => va_rf ((h.1.2.2.1 a k).map α)
def j_fs (α : Nat → Nat) (h : JH) (a : Nat) : Nat → List Nat → List Value
  | _, [] => []
  | k, kd :: l => j_fv α h a k kd :: j_fs α h a (k + 1) l
theorem j_fs_at (α : Nat → Nat) (h : JH) (a : Nat) : ∀ (l : List Nat) (j k : Nat), (j_fs α h a j l)[k]? = (l[k]?).map (fun kd => j_fv α h a (j + k) kd)
  | [], j, k => by simp [j_fs]
  | kd :: l, j, 0 => by simp [j_fs]
  | kd :: l, j, k + 1 => by
    simp only [j_fs, List.getElem?_cons_succ]
    rw [j_fs_at α h a l (j + 1) k]
    rw [show j + 1 + k = j + (k + 1) by omega]
theorem j_fs_len (α : Nat → Nat) (h : JH) (a : Nat) : ∀ (l : List Nat) (j : Nat), (j_fs α h a j l).length = l.length
  | [], j => rfl
  | kd :: l, j => by simp only [j_fs, List.length_cons]; rw [j_fs_len α h a l (j + 1)]
def j_cell (cI cJ cB : ClassId) (α : Nat → Nat) (h : JH) (a : Nat) : va_E := match h.1.2.1 a with
  | (0, ci) => .inr (ci, j_fs α h a 0 (j_kd ci))
  | (1, n) => .inl (cI, n, .inl (h.2.1 a))
  | (2, n) => .inl (cJ, n, .inr (.inl (h.2.2 a)))
  | (_, n) => .inl (cB, n, .inl (h.2.1 a))
def j_ws (cI cJ cB : ClassId) (α : Nat → Nat) (h : JH) : va_W := (List.range h.1.1).map (fun a => (α a, j_cell cI cJ cB α h a))
theorem j_ws_at {cI cJ cB : ClassId} {α : Nat → Nat} {h : JH} {a : Nat} (ha : a < h.1.1) : (j_ws cI cJ cB α h)[a]? = some (α a, j_cell cI cJ cB α h a) := by
  simp [j_ws, List.getElem?_map, ha]
theorem j_ws_len {cI cJ cB : ClassId} {α : Nat → Nat} {h : JH} : (j_ws cI cJ cB α h).length = h.1.1 := by simp [j_ws]
theorem j_ws_set {cI cJ cB : ClassId} {α : Nat → Nat} {h h' : JH} {a : Nat} (hn : h'.1.1 = h.1.1) (ho : ∀ b, b ≠ a → j_cell cI cJ cB α h' b = j_cell cI cJ cB α h b) :
    (j_ws cI cJ cB α h).set a (α a, j_cell cI cJ cB α h' a) = j_ws cI cJ cB α h' := by
  apply List.ext_getElem?
  intro k
  rw [List.getElem?_set, j_ws_len]
  by_cases hk : k < h.1.1
  · rw [j_ws_at (h := h') (by omega)]
    by_cases e : a = k
    · subst e
      rw [if_pos rfl, if_pos hk]
    · rw [if_neg e, j_ws_at hk, ho k (fun z => e z.symm)]
  · rw [List.getElem?_eq_none (l := j_ws cI cJ cB α h') (by rw [j_ws_len]; omega)]
    by_cases e : a = k
    · subst e
      rw [if_pos rfl, if_neg hk]
    · rw [if_neg e, List.getElem?_eq_none (by rw [j_ws_len]; omega)]
/-- what a value of the walk is on the machine -/
def j_tv (α : Nat → Nat) (v : Value) : Value := match v with
  | .ref a => .ref (α a)
  | v => v
def j_tq (α : Nat → Nat) (q : Nat × Value) : Nat × Value := (q.1, j_tv α q.2)
theorem j_tv_cat (α : Nat → Nat) (v : Value) : (j_tv α v).category = v.category := by cases v <;> rfl
def j_nest : Cond → Bool
  | .fieldLinkNest .. => true
  | .methodLinkNest .. => true
  | .declares .. => true
  | .castable .. => true
  | _ => false
def j_gw : List Cond := lw_tbl.filter goodWord
def j_nw : List Cond := lw_tbl.filter j_nest
def j_w0 (mi : JMI) : List Cond := .code mi.1 mi.2.1 mi.2.2.1 mi.2.2.2.1 :: j_gw
def j_rm (mi : JMI) (mc ms : Nat) : Room := { frames := mi.2.2.2.2.2.1, cells := mc, slots := ms, locals := mi.2.2.2.2.2.2 }
abbrev j_tys (cI cJ cB : ClassId) : List (ClassId × FieldType) := [(cI, .int), (cJ, .long), (cB, .byte)]
theorem j_gw_good : ∀ w ∈ j_gw, (w.onTables && w.keeps) = true ∨ ∃ ty, w = .arrayClass ty := fun _ h => good_of_word (List.mem_filter.mp h).2
/-- what lies outside: the texts of the pools, a static, the script, the links of nest mates -/
def j_site (k : Nat) : String × Nat × String × List Int32 := match k with
  | 0 => ("HookGates$Reader", 104, "land", [108, 97, 110, 100])
  | 1 => ("HookGates$Reader", 110, "person", [112, 101, 114, 115, 111, 110])
  | 2 => ("HookGates$Reader", 112, "firm", [102, 105, 114, 109])
  | 3 => ("HookGates$Reader", 114, "gate", [103, 97, 116, 101])
  | 4 => ("HookGates$Reader", 116, "path", [112, 97, 116, 104])
  | 5 => ("HookGates$Reader", 118, "wants", [119, 97, 110, 116, 115])
  | 6 => ("HookGates$Reader", 120, "alone", [97, 108, 111, 110, 101])
  | 7 => ("HookGates$Reader", 122, "lost", [108, 111, 115, 116])
  | 8 => ("HookGates$Reader", 124, "had", [104, 97, 100])
  | 9 => ("HookGates$Reader", 145, "hooks", [104, 111, 111, 107, 115])
  | 10 => ("HookGates$Reader", 158, "gust", [103, 117, 115, 116])
  | 11 => ("HookGates$Reader", 196, "plain", [112, 108, 97, 105, 110])
  | 12 => ("HookGates$Reader", 198, "odd", [111, 100, 100])
  | 13 => ("HookGates$Reader", 200, "guarded", [103, 117, 97, 114, 100, 101, 100])
  | 14 => ("HookGates$Reader", 202, "loose", [108, 111, 111, 115, 101])
  | 15 => ("HookGates$Reader", 187, "worth", [119, 111, 114, 116, 104])
  | 16 => ("HookGates$Reader", 204, "none", [110, 111, 110, 101])
  | 17 => ("HookGates$Reader", 206, "ahead", [97, 104, 101, 97, 100])
  | 18 => ("HookGates$Reader", 208, "behind", [98, 101, 104, 105, 110, 100])
  | 19 => ("HookGatesModel", 133, "land", [108, 97, 110, 100])
  | 20 => ("HookGatesModel", 219, "hooks", [104, 111, 111, 107, 115])
  | 21 => ("HookGatesModel", 225, "gust", [103, 117, 115, 116])
  | 22 => ("HookGatesModel", 135, "person", [112, 101, 114, 115, 111, 110])
  | 23 => ("HookGatesModel", 137, "firm", [102, 105, 114, 109])
  | 24 => ("HookGatesModel", 139, "gate", [103, 97, 116, 101])
  | 25 => ("HookGatesModel", 141, "path", [112, 97, 116, 104])
  | 26 => ("HookGatesModel", 143, "wants", [119, 97, 110, 116, 115])
  | 27 => ("HookGatesModel", 145, "alone", [97, 108, 111, 110, 101])
  | 28 => ("HookGatesModel", 147, "lost", [108, 111, 115, 116])
  | 29 => ("HookGatesModel", 149, "had", [104, 97, 100])
  | 30 => ("HookGatesModel", 259, "plain", [112, 108, 97, 105, 110])
  | 31 => ("HookGatesModel", 261, "odd", [111, 100, 100])
  | 32 => ("HookGatesModel", 263, "guarded", [103, 117, 97, 114, 100, 101, 100])
  | 33 => ("HookGatesModel", 265, "loose", [108, 111, 111, 115, 101])
  | 34 => ("HookGatesModel", 267, "worth", [119, 111, 114, 116, 104])
  | 35 => ("HookGatesModel", 269, "none", [110, 111, 110, 101])
  | 36 => ("HookGatesModel", 271, "ahead", [97, 104, 101, 97, 100])
  | 37 => ("HookGatesModel", 273, "behind", [98, 101, 104, 105, 110, 100])
  | _ => ("", 0, "", [])
def j_X (g : JG) (α : Nat → Nat) (A : Nat → Prop) (U : State) (H : Heap) : Prop :=
  (∀ k : Nat, k < 38 → vk_R (j_site k).1 (j_site k).2.1 (j_site k).2.2.1 (α (1000000 + k)) U ∧ va_O "java/lang/String" (α (1000000 + k)) A U H ∧ va_OF "java/lang/String" "coder" "B" (.int 0) (α (1000000 + k)) A U H ∧ va_OF "java/lang/String" "value" "[B" (.ref (α (2000000 + k))) (α (1000000 + k)) A U H ∧ va_T .byte (α (2000000 + k)) (j_site k).2.2.2.length (fun j => .int ((j_site k).2.2.2.getD j 0)) A U H) ∧
  (va_Z "java/lang/String" "COMPACT_STRINGS" "Z" (.int 1) A U H ∧ vx_Zq Bundle.tN "UNASSIGNED_STACK" Bundle.steD A U H ∧ vx_Zq Bundle.tN "SUPPRESSED_SENTINEL" Bundle.listD A U H) ∧ (va_Z "jdk/internal/util/Preconditions" "SIOOBE_FORMATTER" "Ljava/util/function/BiFunction;" .null A U H ∨ va_Z "jdk/internal/util/Preconditions" "SIOOBE_FORMATTER" "Ljava/util/function/BiFunction;" (.ref (α 4000000)) A U H) ∧
  (va_X (α 3000000) g.2.2.2.1 g.2.2.2.2 U H ∧ ¬ A (α 3000000) ∧ α 3000000 < H.size) ∧ (∀ w ∈ j_nw, va_Nw w U)
theorem j_nw_warm {s U : State} (hW : s.WarmedH U.vm) (h : ∀ w ∈ j_nw, va_Nw w s) : ∀ w ∈ j_nw, va_Nw w U := by
  intro w hw
  have h1 := h w hw
  have h2 := (List.mem_filter.mp hw).2
  cases w with
  | fieldLinkNest => exact va_Nw.warmF hW h1
  | methodLinkNest => exact va_Nw.warmM hW h1
  | declares => exact va_Nw.warmD hW h1
  | castable => exact va_Nw.warmC hW h1
  | _ => simp [j_nest] at h2
theorem j_X.warm {g : JG} {α : Nat → Nat} {A : Nat → Prop} {s U : State} {H : Heap} (hW : s.WarmedH U.vm) (h : j_X g α A s H) : j_X g α A U H := by
  obtain ⟨h1, h2, h3, ⟨h4, h5, h6⟩, h7⟩ := h
  refine ⟨fun k hk => ?_, ⟨h2.1.moved hW.alike, vx_Zq.moved hW.alike h2.2.1, vx_Zq.moved hW.alike h2.2.2⟩, ?_, ⟨h4.moved hW.alike, h5, h6⟩, j_nw_warm hW h7⟩
  · obtain ⟨a, b, c, d, e⟩ := h1 k hk
    exact ⟨a.warm hW, b.moved hW.alike, c.moved hW.alike, d.moved hW.alike, e.moved hW.alike⟩
  · rcases h3 with h3 | h3
    · exact Or.inl (h3.moved hW.alike)
    · exact Or.inr (h3.moved hW.alike)
theorem j_X.kept {g : JG} {α : Nat → Nat} {A : Nat → Prop} {s : State} {H H1 : Heap} (hz : H.size ≤ H1.size) (hq : ∀ a : Nat, a < H.size → ¬ A a → H1[a]? = H[a]?) (h : j_X g α A s H) : j_X g α A s H1 := by
  obtain ⟨h1, h2, h3, ⟨h4, h5, h6⟩, h7⟩ := h
  refine ⟨fun k hk => ?_, ⟨h2.1.kept hq, h2.2.1.kept hq, h2.2.2.kept hq⟩, ?_, ⟨h4.kept (hq _ h6 h5), h5, Nat.lt_of_lt_of_le h6 hz⟩, h7⟩
  · obtain ⟨a, b, c, d, e⟩ := h1 k hk
    exact ⟨a, b.kept hq, c.kept hq, d.kept hq, e.kept hq⟩
  · rcases h3 with h3 | h3
    · exact Or.inl (h3.kept hq)
    · exact Or.inr (h3.kept hq)
theorem j_X.narrow {g : JG} {α : Nat → Nat} {A B : Nat → Prop} {s : State} {H : Heap} (hAB : ∀ q, B q → A q) (h : j_X g α A s H) : j_X g α B s H := by
  obtain ⟨h1, h2, h3, ⟨h4, h5, h6⟩, h7⟩ := h
  refine ⟨fun k hk => ?_, ⟨h2.1.narrow hAB, h2.2.1.narrow hAB, h2.2.2.narrow hAB⟩, ?_, ⟨h4, fun z => h5 (hAB _ z), h6⟩, h7⟩
  · obtain ⟨a, b, c, d, e⟩ := h1 k hk
    exact ⟨a, b.narrow hAB, c.narrow hAB, d.narrow hAB, e.narrow hAB⟩
  · rcases h3 with h3 | h3
    · exact Or.inl (h3.narrow hAB)
    · exact Or.inr (h3.narrow hAB)
theorem j_X.shape {g g' : JG} {α : Nat → Nat} {A : Nat → Prop} {s : State} {H : Heap} (e : g'.2.2.2 = g.2.2.2) (h : j_X g α A s H) : j_X g' α A s H := by
  unfold j_X at h ⊢
  rw [e]
  exact h
theorem j_X.other {g : JG} {α β : Nat → Nat} {A : Nat → Prop} {s : State} {H : Heap} (e : ∀ k, 1000000 ≤ k → β k = α k) (h : j_X g α A s H) : j_X g β A s H := by
  obtain ⟨h1, h2, h3, ⟨h4, h5, h6⟩, h7⟩ := h
  refine ⟨fun k hk => ?_, h2, by rw [e _ (by omega)]; exact h3, ⟨by rw [e _ (by omega)]; exact h4, by rw [e _ (by omega)]; exact h5, by rw [e _ (by omega)]; exact h6⟩, h7⟩
  rw [e (1000000 + k) (by omega), e (2000000 + k) (by omega)]
  exact h1 k hk
/-- references lead to cells that there are -/
def j_cl (h : JH) : Prop := ∀ a k b, a < h.1.1 → h.1.2.2.1 a k = some b → b < h.1.1
def j_ext (n n' : Nat) (α α' : Nat → Nat) : Prop := ∀ k, (k < n ∨ n' ≤ k) → α' k = α k
/-- what stays through a method's walk -/
def j_C (mi : JMI) (p : Program) (s : State) (m : MethodId) (args : Array Value) (meth : Method) (c : Code) (D : va_G) (cI cJ cB : ClassId) (A : Nat → Prop) : Prop :=
  p.tables.exec = Jvm.exec ∧ c.code = mi.2.1 ∧ c.maxLocals = mi.2.2.1 ∧ meth.sig.returnType = mi.2.2.2.1 ∧ s.vm.findClass mi.2.2.2.2.1 = some m.cls ∧ (∀ w ∈ j_gw, w.before args s = true) ∧ meth.locks = false ∧ meth.name = mi.1.name ∧ va_K D vwCl (j_tys cI cJ cB) s ∧ (∀ q, s.heap.size ≤ q → A q)
/-- what a place of the walk has -/
def j_V (h : JH) (s : State) (D : va_G) (cI cJ cB : ClassId) (A : Nat → Prop) (α : Nat → Nat) (H : Heap) (locs : List Loc) : Prop :=
  va_P D vwCl (j_ws cI cJ cB α h) H ∧ va_D A (j_ws cI cJ cB α h) ∧ va_S A s.heap H locs ∧ j_X h.1 α A s s.heap ∧ j_cl h ∧ h.1.1 ≤ 1000000
/-- what is owed at the end -/
def j_E (h : JH) (r : Option Value × JH) (s : State) (args : Array Value) (D : va_G) (cI cJ cB : ClassId) (A : Nat → Prop) (α : Nat → Nat) (Qc : Array Value → State → Outcome → State → Prop) : Prop :=
  ∀ (α' : Nat → Nat) (t : State), h.1.1 ≤ r.2.1.1 → r.2.1.1 ≤ 1000000 → j_ext h.1.1 r.2.1.1 α α' → va_P D vwCl (j_ws cI cJ cB α' r.2) t.heap → va_D A (j_ws cI cJ cB α' r.2) → va_F A s t → s.WarmedH t.vm → j_cl r.2 → Qc args s (.returned (r.1.map (j_tv α'))) t
/-- THE WALK: from this place the method ends as 'o' says, if 'o' says anything -/
def J (mi : JMI) (mc ms kc ks : Nat) (h : JH) (pc : Nat) (loc : List (Nat × Value)) (stk : List Value) (o : Option (Option Value × JH)) : Prop :=
  ∀ r, o = some r → ∀ (l : JLa) (p : Program) (e : Env) (s : State) (m : MethodId) (args : Array Value) (below : List Frame) (meth : Method) (c : Code) (D : va_G) (cI cJ cB : ClassId) (A : Nat → Prop) (α : Nat → Nat) (H : Heap) (locs : List Loc) (cells slots : Nat) (ls : Array Slot) (Qc : Array Value → State → Outcome → State → Prop),
    j_C mi p s m args meth c D cI cJ cB A → j_V h s D cI cJ cB A α H locs → cells + kc ≤ mc → slots + ks ≤ ms → lv_has ls mi.2.2.1 (loc.map (j_tq α)) → j_E h r s args D cI cJ cB A α Qc →
    W p l.1 e (j_rm mi mc ms) s m args below meth c H locs cells slots (MQ below Qc args s mc ms A) (F0 m pc ls (stk.map (j_tv α)))
/-- THE CONTRACT of a method -/
def JM (mi : JMI) (mc ms : Nat) (h : JH) (av : List Value) (o : Option (Option Value × JH)) : Prop :=
  ∀ r, o = some r → ∀ (l : JLa) (D : va_G) (cI cJ cB : ClassId) (α : Nat → Nat) (sz : Nat),
    Met l.1 mi.1 (j_w0 mi) (j_rm mi mc ms)
      (va_Pc (av.map (j_tv α)) (fun U => U.heap.size = sz ∧ va_P D vwCl (j_ws cI cJ cB α h) U.heap ∧ va_K D vwCl (j_tys cI cJ cB) U ∧ va_D (fun _ => True) (j_ws cI cJ cB α h) ∧ j_X h.1 α (va_A (j_ws cI cJ cB α h) sz) U U.heap ∧ j_cl h ∧ h.1.1 ≤ 1000000))
      (fun _ st oc t => (∃ α' : Nat → Nat, h.1.1 ≤ r.2.1.1 ∧ r.2.1.1 ≤ 1000000 ∧ j_ext h.1.1 r.2.1.1 α α' ∧ oc = .returned (r.1.map (j_tv α')) ∧ va_P D vwCl (j_ws cI cJ cB α' r.2) t.heap ∧ va_K D vwCl (j_tys cI cJ cB) t ∧ va_D (va_A (j_ws cI cJ cB α h) sz) (j_ws cI cJ cB α' r.2) ∧ j_cl r.2) ∧ va_F (va_A (j_ws cI cJ cB α h) sz) st t)
      mc ms (va_A (j_ws cI cJ cB α h) sz)
