/-! ldc_w of a text -/
theorem j_ldcwS {p : Program} {l : Launch} {e : Env} {R : Room} {s : State} {m : MethodId} {args : Array Value} {below : List Frame} {meth : Method} {c : Code} {T : State} {locs : List Loc} {cells slots : Nat}
    (X : Stand p l e R s m args below meth c T locs cells slots) (hexec : p.tables.exec = Jvm.exec) {own text : String} {index : Nat} {a : Addr} (hown : s.vm.findClass own = some m.cls)
    (hZ : vk_R own index text a s) {g : JFrame} (hg : g.method = m) (hdg : decode c.code g.pc = .ok (.ldc_w index, 3)) :
    ∀ target, Steps p.tables e below (T.setTop { g with pc := g.pc + 3, stack := .ref a :: g.stack }) target → Steps p.tables e below (T.setTop g) target := by
  obtain ⟨k, cf, i, a', hk, hcf, hcp, -, hr, hev'⟩ := Cond.stringRef_spec hown hZ.1
  cases hZ.2.symm.trans hev'
  obtain ⟨k', hk', he⟩ := X.warmed.alike.2.2 _ _ hk
  have hr' : k'.resolved[index]? = some (some (.string a)) := by
    rcases X.warmed.entry hk hk' index with h | ⟨h, -⟩
    · rw [h]; exact hr
    · rw [hr] at h; cases h
  intro target hrest
  subst hg
  jvm_step X.here [hexec, hdg, ldc_w.wp_string (e := e) (s := T) (f := g) X.here.top hk' (by rw [he]; exact hcf) hcp hr']
  exact hrest
theorem J_ldcSw {mi : JMI} {mc ms kc ks : Nat} {g : JG} {d : JD} {pc : Nat} {loc : List (Nat × Value)} {stk : List Value} {o : Option (Option Value × JH)} {idx k : Nat} (hd : decode mi.2.1 pc = .ok (.ldc_w idx, 3)) (hk : k < 38) (hs : (j_site k).1 = mi.2.2.2.2.1 ∧ (j_site k).2.1 = idx) (kk : J mi mc ms kc ks (g, d) (pc + 3) loc (.ref (1000000 + k) :: stk) o) : J mi mc ms kc ks (g, d) pc loc stk o := by
  intro r hr l p e s m args below meth c D cI cJ cB A α H locs cells slots ls Qc C V hc hs' hl E
  have hz := (V.2.2.2.1.1 k hk).1
  rw [hs.1, hs.2] at hz
  intro T hT X
  obtain ⟨t, a1, b1⟩ := kk r hr l p e s m args below meth c D cI cJ cB A α H locs cells slots ls Qc C V hc hs' hl E T hT X
  exact ⟨t, j_ldcwS X C.1 C.2.2.2.2.1 hz (g := F0 m pc ls (stk.map (j_tv α))) rfl (by rw [C.2.1]; exact hd) t a1, b1⟩
