section JV
variable {mi : JMI} {mc ms kc ks kc' ks' : Nat} {g : JG} {d : JD} {pc : Nat} {loc : List (Nat × Value)} {st0 stk : List Value} {o : Option (Option Value × JH)}
theorem JC_pt_i {x : Int32} (c : JC mi mc ms kc ks kc' ks' (g, d) pc loc st0 stk (some (some (.int x), (g, d)))) (kk : J mi mc ms kc' ks' (g, d) (pc + 3) loc (.int x :: stk) o) : J mi mc ms kc ks (g, d) pc loc st0 o := JC_pure c kk
theorem JC_pt_l {x : Int64} (c : JC mi mc ms kc ks kc' ks' (g, d) pc loc st0 stk (some (some (.long x), (g, d)))) (kk : J mi mc ms kc' ks' (g, d) (pc + 3) loc (.long x :: stk) o) : J mi mc ms kc ks (g, d) pc loc st0 o := JC_pure c kk
theorem JC_lt_i {X : Type} (K : X → Option (Option Value × JH)) {x : Int32 × JD} {F : Int32 × JD → X} (c : JC mi mc ms kc ks kc' ks' (g, d) pc loc st0 stk (some (some (.int x.1), (g, x.2)))) (kk : ∀ q, q = x → J mi mc ms kc' ks' (g, q.2) (pc + 3) loc (.int q.1 :: stk) (K (F q))) : J mi mc ms kc ks (g, d) pc loc st0 (K (j_let x F)) := JC_let K (fun q => some (.int q.1)) (fun q => q.2) c kk
theorem JC_lt_b {X : Type} (K : X → Option (Option Value × JH)) {x : Bool × JD} {F : Bool × JD → X} (c : JC mi mc ms kc ks kc' ks' (g, d) pc loc st0 stk (some (some (.int (j_b x.1)), (g, x.2)))) (kk : ∀ q, q = x → J mi mc ms kc' ks' (g, q.2) (pc + 3) loc (.int (j_b q.1) :: stk) (K (F q))) : J mi mc ms kc ks (g, d) pc loc st0 (K (j_let x F)) := JC_let K (fun q => some (.int (j_b q.1))) (fun q => q.2) c kk
theorem JC_lt_l {X : Type} (K : X → Option (Option Value × JH)) {x : Int64 × JD} {F : Int64 × JD → X} (c : JC mi mc ms kc ks kc' ks' (g, d) pc loc st0 stk (some (some (.long x.1), (g, x.2)))) (kk : ∀ q, q = x → J mi mc ms kc' ks' (g, q.2) (pc + 3) loc (.long q.1 :: stk) (K (F q))) : J mi mc ms kc ks (g, d) pc loc st0 (K (j_let x F)) := JC_let K (fun q => some (.long q.1)) (fun q => q.2) c kk
theorem JC_lt_v {X : Type} (K : X → Option (Option Value × JH)) {x : JD} {F : JD → X} (c : JC mi mc ms kc ks kc' ks' (g, d) pc loc st0 stk (some (none, (g, x)))) (kk : ∀ q, q = x → J mi mc ms kc' ks' (g, q) (pc + 3) loc stk (K (F q))) : J mi mc ms kc ks (g, d) pc loc st0 (K (j_let x F)) := JC_let K (fun _ => none) (fun q => q) c kk
theorem JC_pp_i {X : Type} {x : Option Int32} {kx : Int32 → Option X} {k : X → Option (Option Value × JH)} (c : JC mi mc ms kc ks kc' ks' (g, d) pc loc st0 stk (x.bind (fun r9 => some (some (.int r9), (g, d))))) (kk : ∀ q, J mi mc ms kc' ks' (g, d) (pc + 3) loc (.int q :: stk) ((kx q).bind k)) : J mi mc ms kc ks (g, d) pc loc st0 ((x.bind kx).bind k) := JC_par (fun q => some (.int q)) (fun _ => d) c kk
theorem JC_pp_b {X : Type} {x : Option Bool} {kx : Bool → Option X} {k : X → Option (Option Value × JH)} (c : JC mi mc ms kc ks kc' ks' (g, d) pc loc st0 stk (x.bind (fun r9 => some (some (.int (j_b r9)), (g, d))))) (kk : ∀ q, J mi mc ms kc' ks' (g, d) (pc + 3) loc (.int (j_b q) :: stk) ((kx q).bind k)) : J mi mc ms kc ks (g, d) pc loc st0 ((x.bind kx).bind k) := JC_par (fun q => some (.int (j_b q))) (fun _ => d) c kk
theorem JC_pp_l {X : Type} {x : Option Int64} {kx : Int64 → Option X} {k : X → Option (Option Value × JH)} (c : JC mi mc ms kc ks kc' ks' (g, d) pc loc st0 stk (x.bind (fun r9 => some (some (.long r9), (g, d))))) (kk : ∀ q, J mi mc ms kc' ks' (g, d) (pc + 3) loc (.long q :: stk) ((kx q).bind k)) : J mi mc ms kc ks (g, d) pc loc st0 ((x.bind kx).bind k) := JC_par (fun q => some (.long q)) (fun _ => d) c kk
theorem JC_pe_i {X : Type} {x : Option (Int32 × JD)} {kx : Int32 × JD → Option X} {k : X → Option (Option Value × JH)} (c : JC mi mc ms kc ks kc' ks' (g, d) pc loc st0 stk (x.bind (fun r9 => some (some (.int r9.1), (g, r9.2))))) (kk : ∀ q, J mi mc ms kc' ks' (g, q.2) (pc + 3) loc (.int q.1 :: stk) ((kx q).bind k)) : J mi mc ms kc ks (g, d) pc loc st0 ((x.bind kx).bind k) := JC_par (fun q => some (.int q.1)) (fun q => q.2) c kk
theorem JC_pe_b {X : Type} {x : Option (Bool × JD)} {kx : Bool × JD → Option X} {k : X → Option (Option Value × JH)} (c : JC mi mc ms kc ks kc' ks' (g, d) pc loc st0 stk (x.bind (fun r9 => some (some (.int (j_b r9.1)), (g, r9.2))))) (kk : ∀ q, J mi mc ms kc' ks' (g, q.2) (pc + 3) loc (.int (j_b q.1) :: stk) ((kx q).bind k)) : J mi mc ms kc ks (g, d) pc loc st0 ((x.bind kx).bind k) := JC_par (fun q => some (.int (j_b q.1))) (fun q => q.2) c kk
theorem JC_pe_l {X : Type} {x : Option (Int64 × JD)} {kx : Int64 × JD → Option X} {k : X → Option (Option Value × JH)} (c : JC mi mc ms kc ks kc' ks' (g, d) pc loc st0 stk (x.bind (fun r9 => some (some (.long r9.1), (g, r9.2))))) (kk : ∀ q, J mi mc ms kc' ks' (g, q.2) (pc + 3) loc (.long q.1 :: stk) ((kx q).bind k)) : J mi mc ms kc ks (g, d) pc loc st0 ((x.bind kx).bind k) := JC_par (fun q => some (.long q.1)) (fun q => q.2) c kk
theorem JC_pe_v {X : Type} {x : Option JD} {kx : JD → Option X} {k : X → Option (Option Value × JH)} (c : JC mi mc ms kc ks kc' ks' (g, d) pc loc st0 stk (x.bind (fun r9 => some (none, (g, r9))))) (kk : ∀ q, J mi mc ms kc' ks' (g, q) (pc + 3) loc stk ((kx q).bind k)) : J mi mc ms kc ks (g, d) pc loc st0 ((x.bind kx).bind k) := JC_par (fun _ => none) (fun q => q) c kk
theorem J_mmax {idx : Nat} {x y : Int32} (hd : decode mi.2.1 pc = .ok (.invokestatic idx, 3)) (hw : Cond.methodLink mi.2.2.2.2.1 idx Lib.Math.max.name ∈ j_gw) (hfr : 1 ≤ mi.2.2.2.2.2.1) (hlo : (stk.map fun v => v.category).sum + 13 ≤ mi.2.2.2.2.2.2) (kk : J mi mc ms kc ks (g, d) (pc + 3) loc (.int (if x < y then y else x) :: stk) o) : J mi mc ms kc ks (g, d) pc loc (.int y :: .int x :: stk) o := by
  intro r hr l p e s m args below meth c D cI cJ cB A α H locs cells slots ls Qc C V hc hs hl E
  exact va_mmax C.1 C.2.1 (by rw [C.2.2.1]; exact hl.1.symm) C.2.2.2.2.1 (C.2.2.2.2.2.1 _ hw) (C.2.2.2.2.2.1 _ (by decide +kernel)) (C.2.2.2.2.2.1 _ (by decide +kernel)) (C.2.2.2.2.2.1 _ (by decide +kernel)) hfr (by rw [j_cats]; exact hlo) (show cells ≤ mc by omega) (show slots ≤ ms by omega) hd (kk r hr l p e s m args below meth c D cI cJ cB A α H locs cells slots ls Qc C V hc hs hl E)
theorem J_mmin {idx : Nat} {x y : Int32} (hd : decode mi.2.1 pc = .ok (.invokestatic idx, 3)) (hw : Cond.methodLink mi.2.2.2.2.1 idx Lib.Math.min.name ∈ j_gw) (hfr : 1 ≤ mi.2.2.2.2.2.1) (hlo : (stk.map fun v => v.category).sum + 13 ≤ mi.2.2.2.2.2.2) (kk : J mi mc ms kc ks (g, d) (pc + 3) loc (.int (if y < x then y else x) :: stk) o) : J mi mc ms kc ks (g, d) pc loc (.int y :: .int x :: stk) o := by
  intro r hr l p e s m args below meth c D cI cJ cB A α H locs cells slots ls Qc C V hc hs hl E
  exact va_mmin C.1 C.2.1 (by rw [C.2.2.1]; exact hl.1.symm) C.2.2.2.2.1 (C.2.2.2.2.2.1 _ hw) (C.2.2.2.2.2.1 _ (by decide +kernel)) (C.2.2.2.2.2.1 _ (by decide +kernel)) (C.2.2.2.2.2.1 _ (by decide +kernel)) hfr (by rw [j_cats]; exact hlo) (show cells ≤ mc by omega) (show slots ≤ ms by omega) hd (kk r hr l p e s m args below meth c D cI cJ cB A α H locs cells slots ls Qc C V hc hs hl E)
theorem J_ldcS {idx k : Nat} (hd : decode mi.2.1 pc = .ok (.ldc idx, 2)) (hk : k < 38) (hs : (j_site k).1 = mi.2.2.2.2.1 ∧ (j_site k).2.1 = idx) (kk : J mi mc ms kc ks (g, d) (pc + 2) loc (.ref (1000000 + k) :: stk) o) : J mi mc ms kc ks (g, d) pc loc stk o := by
  intro r hr l p e s m args below meth c D cI cJ cB A α H locs cells slots ls Qc C V hc hs' hl E
  have hz := (V.2.2.2.1.1 k hk).1
  rw [hs.1, hs.2] at hz
  exact va_ldcS C.1 C.2.1 C.2.2.2.2.1 hz hd (kk r hr l p e s m args below meth c D cI cJ cB A α H locs cells slots ls Qc C V hc hs' hl E)
end JV
theorem j_sh.at {g : JG} {a : Nat} {ts ts' : List (Nat × Nat)} {rs rs' : List (Nat × Nat × Nat)} (h : j_sh g a ts rs) (o : Nat) (h1 : o + ts'.length ≤ ts.length) (h2 : ∀ j, j < ts'.length → ts[o + j]? = ts'[j]?) (h3 : ∀ q ∈ rs', (o + q.1, q.2.1, o + q.2.2) ∈ rs) : j_sh g (a + o) ts' rs' := by
  refine ⟨by have := h.1; omega, fun j t hj => ?_, fun i q hq => ?_⟩
  · have hl := (List.getElem?_eq_some_iff.mp hj).1
    rw [Nat.add_assoc]
    exact h.2.1 (o + j) t (by rw [h2 j hl]; exact hj)
  · obtain ⟨i', hi'⟩ := List.getElem?_of_mem (h3 q (List.mem_of_getElem? hq))
    have := h.2.2 i' _ hi'
    rw [Nat.add_assoc, Nat.add_assoc]
    exact this
theorem tb1 {w : Cond} (h : w ∈ tables_1_1) : w ∈ lw_tbl := List.mem_append_right _ (List.mem_append_left _ h)
theorem gw1 {w : Cond} (h : w ∈ tables_1_1) (hg : goodWord w = true) : w ∈ j_gw := List.mem_filter.mpr ⟨tb1 h, hg⟩
theorem nw1 {w : Cond} (h : w ∈ tables_1_1) (hg : j_nest w = true) : w ∈ j_nw := List.mem_filter.mpr ⟨tb1 h, hg⟩
theorem tb2 {w : Cond} (h : w ∈ tables_1_2) : w ∈ lw_tbl := List.mem_append_right _ (List.mem_append_right _ (List.mem_append_left _ h))
theorem gw2 {w : Cond} (h : w ∈ tables_1_2) (hg : goodWord w = true) : w ∈ j_gw := List.mem_filter.mpr ⟨tb2 h, hg⟩
theorem nw2 {w : Cond} (h : w ∈ tables_1_2) (hg : j_nest w = true) : w ∈ j_nw := List.mem_filter.mpr ⟨tb2 h, hg⟩
theorem tb3 {w : Cond} (h : w ∈ tables_1_3) : w ∈ lw_tbl := List.mem_append_right _ (List.mem_append_right _ (List.mem_append_right _ (List.mem_append_left _ h)))
theorem gw3 {w : Cond} (h : w ∈ tables_1_3) (hg : goodWord w = true) : w ∈ j_gw := List.mem_filter.mpr ⟨tb3 h, hg⟩
theorem nw3 {w : Cond} (h : w ∈ tables_1_3) (hg : j_nest w = true) : w ∈ j_nw := List.mem_filter.mpr ⟨tb3 h, hg⟩
theorem tb4 {w : Cond} (h : w ∈ tables_1_4) : w ∈ lw_tbl := List.mem_append_right _ (List.mem_append_right _ (List.mem_append_right _ (List.mem_append_right _ (List.mem_append_left _ h))))
theorem gw4 {w : Cond} (h : w ∈ tables_1_4) (hg : goodWord w = true) : w ∈ j_gw := List.mem_filter.mpr ⟨tb4 h, hg⟩
theorem nw4 {w : Cond} (h : w ∈ tables_1_4) (hg : j_nest w = true) : w ∈ j_nw := List.mem_filter.mpr ⟨tb4 h, hg⟩
theorem tb5 {w : Cond} (h : w ∈ tables_1_5) : w ∈ lw_tbl := List.mem_append_right _ (List.mem_append_right _ (List.mem_append_right _ (List.mem_append_right _ (List.mem_append_right _ (List.mem_append_left _ h)))))
theorem gw5 {w : Cond} (h : w ∈ tables_1_5) (hg : goodWord w = true) : w ∈ j_gw := List.mem_filter.mpr ⟨tb5 h, hg⟩
theorem nw5 {w : Cond} (h : w ∈ tables_1_5) (hg : j_nest w = true) : w ∈ j_nw := List.mem_filter.mpr ⟨tb5 h, hg⟩
theorem tb6 {w : Cond} (h : w ∈ tables_1_6) : w ∈ lw_tbl := List.mem_append_right _ (List.mem_append_right _ (List.mem_append_right _ (List.mem_append_right _ (List.mem_append_right _ (List.mem_append_right _ (List.mem_append_left _ h))))))
theorem gw6 {w : Cond} (h : w ∈ tables_1_6) (hg : goodWord w = true) : w ∈ j_gw := List.mem_filter.mpr ⟨tb6 h, hg⟩
theorem nw6 {w : Cond} (h : w ∈ tables_1_6) (hg : j_nest w = true) : w ∈ j_nw := List.mem_filter.mpr ⟨tb6 h, hg⟩
theorem tb7 {w : Cond} (h : w ∈ tables_1_7) : w ∈ lw_tbl := List.mem_append_right _ (List.mem_append_right _ (List.mem_append_right _ (List.mem_append_right _ (List.mem_append_right _ (List.mem_append_right _ (List.mem_append_right _ (List.mem_append_left _ h)))))))
theorem gw7 {w : Cond} (h : w ∈ tables_1_7) (hg : goodWord w = true) : w ∈ j_gw := List.mem_filter.mpr ⟨tb7 h, hg⟩
theorem nw7 {w : Cond} (h : w ∈ tables_1_7) (hg : j_nest w = true) : w ∈ j_nw := List.mem_filter.mpr ⟨tb7 h, hg⟩
theorem tb8 {w : Cond} (h : w ∈ tables_1_8) : w ∈ lw_tbl := List.mem_append_right _ (List.mem_append_right _ (List.mem_append_right _ (List.mem_append_right _ (List.mem_append_right _ (List.mem_append_right _ (List.mem_append_right _ (List.mem_append_right _ (List.mem_append_left _ h))))))))
theorem gw8 {w : Cond} (h : w ∈ tables_1_8) (hg : goodWord w = true) : w ∈ j_gw := List.mem_filter.mpr ⟨tb8 h, hg⟩
theorem nw8 {w : Cond} (h : w ∈ tables_1_8) (hg : j_nest w = true) : w ∈ j_nw := List.mem_filter.mpr ⟨tb8 h, hg⟩
theorem tb9 {w : Cond} (h : w ∈ tables_1_9) : w ∈ lw_tbl := List.mem_append_right _ (List.mem_append_right _ (List.mem_append_right _ (List.mem_append_right _ (List.mem_append_right _ (List.mem_append_right _ (List.mem_append_right _ (List.mem_append_right _ (List.mem_append_right _ (h)))))))))
theorem gw9 {w : Cond} (h : w ∈ tables_1_9) (hg : goodWord w = true) : w ∈ j_gw := List.mem_filter.mpr ⟨tb9 h, hg⟩
theorem nw9 {w : Cond} (h : w ∈ tables_1_9) (hg : j_nest w = true) : w ∈ j_nw := List.mem_filter.mpr ⟨tb9 h, hg⟩
theorem gp1 {q : MethodName × Nat} (h : q ∈ lw_privs_1) : Cond.selects q.1.cls q.1 q.1 ∈ j_gw := List.mem_filter.mpr ⟨List.mem_append_left _ (List.mem_map.mpr ⟨q, (List.mem_append_left _ h), rfl⟩), rfl⟩
theorem gp2 {q : MethodName × Nat} (h : q ∈ lw_privs_2) : Cond.selects q.1.cls q.1 q.1 ∈ j_gw := List.mem_filter.mpr ⟨List.mem_append_left _ (List.mem_map.mpr ⟨q, (List.mem_append_right _ (List.mem_append_left _ h)), rfl⟩), rfl⟩
theorem gp3 {q : MethodName × Nat} (h : q ∈ lw_privs_3) : Cond.selects q.1.cls q.1 q.1 ∈ j_gw := List.mem_filter.mpr ⟨List.mem_append_left _ (List.mem_map.mpr ⟨q, (List.mem_append_right _ (List.mem_append_right _ (List.mem_append_left _ h))), rfl⟩), rfl⟩
theorem gp4 {q : MethodName × Nat} (h : q ∈ lw_privs_4) : Cond.selects q.1.cls q.1 q.1 ∈ j_gw := List.mem_filter.mpr ⟨List.mem_append_left _ (List.mem_map.mpr ⟨q, (List.mem_append_right _ (List.mem_append_right _ (List.mem_append_right _ (List.mem_append_left _ h)))), rfl⟩), rfl⟩
theorem gp5 {q : MethodName × Nat} (h : q ∈ lw_privs_5) : Cond.selects q.1.cls q.1 q.1 ∈ j_gw := List.mem_filter.mpr ⟨List.mem_append_left _ (List.mem_map.mpr ⟨q, (List.mem_append_right _ (List.mem_append_right _ (List.mem_append_right _ (List.mem_append_right _ (List.mem_append_left _ h))))), rfl⟩), rfl⟩
theorem gp6 {q : MethodName × Nat} (h : q ∈ lw_privs_6) : Cond.selects q.1.cls q.1 q.1 ∈ j_gw := List.mem_filter.mpr ⟨List.mem_append_left _ (List.mem_map.mpr ⟨q, (List.mem_append_right _ (List.mem_append_right _ (List.mem_append_right _ (List.mem_append_right _ (List.mem_append_right _ (List.mem_append_left _ h)))))), rfl⟩), rfl⟩
theorem gp7 {q : MethodName × Nat} (h : q ∈ lw_privs_7) : Cond.selects q.1.cls q.1 q.1 ∈ j_gw := List.mem_filter.mpr ⟨List.mem_append_left _ (List.mem_map.mpr ⟨q, (List.mem_append_right _ (List.mem_append_right _ (List.mem_append_right _ (List.mem_append_right _ (List.mem_append_right _ (List.mem_append_right _ (List.mem_append_left _ h))))))), rfl⟩), rfl⟩
theorem gp8 {q : MethodName × Nat} (h : q ∈ lw_privs_8) : Cond.selects q.1.cls q.1 q.1 ∈ j_gw := List.mem_filter.mpr ⟨List.mem_append_left _ (List.mem_map.mpr ⟨q, (List.mem_append_right _ (List.mem_append_right _ (List.mem_append_right _ (List.mem_append_right _ (List.mem_append_right _ (List.mem_append_right _ (List.mem_append_right _ (h)))))))), rfl⟩), rfl⟩
def TS_W : List (Nat × Nat) := [(0, 10), (0, 9), (3, 900), (0, 6), (0, 3), (1, 4), (1, 4), (1, 6), (1, 6), (1, 6), (1, 6), (1, 24), (1, 24), (0, 0), (1, 4), (1, 4), (1, 4), (1, 4), (1, 5), (2, 15), (1, 15), (1, 15), (0, 4), (0, 4), (0, 7), (1, 16), (1, 16), (1, 16), (0, 7), (1, 16), (1, 16), (1, 16), (0, 1), (1, 729), (1, 729), (1, 729), (1, 729), (1, 128), (0, 8), (0, 2), (1, 81), (0, 5), (0, 3), (1, 4), (1, 4), (1, 6), (1, 6), (1, 6), (1, 6), (1, 24), (1, 24), (0, 0), (1, 4), (1, 4), (1, 4), (1, 4), (1, 5), (0, 12), (3, 900), (1, 9), (1, 6), (1, 144), (1, 27), (1, 729), (1, 729), (1, 729), (1, 12), (2, 1)]
def RS_W : List (Nat × Nat × Nat) := [(0, 0, 1), (0, 1, 3), (0, 2, 22), (0, 3, 23), (0, 4, 24), (0, 5, 28), (0, 6, 32), (0, 7, 38), (0, 8, 39), (0, 9, 41), (1, 0, 2), (3, 0, 1), (3, 3, 19), (3, 4, 20), (3, 5, 21), (4, 8, 5), (4, 9, 6), (4, 10, 7), (4, 11, 8), (4, 12, 9), (4, 13, 10), (4, 14, 11), (4, 15, 12), (4, 16, 13), (13, 1, 14), (13, 2, 15), (13, 3, 16), (13, 5, 17), (13, 7, 18), (24, 0, 25), (24, 1, 26), (24, 2, 27), (28, 0, 29), (28, 1, 30), (28, 2, 31), (32, 0, 33), (32, 1, 34), (32, 2, 35), (32, 3, 36), (32, 4, 37), (39, 1, 40), (42, 8, 43), (42, 9, 44), (42, 10, 45), (42, 11, 46), (42, 12, 47), (42, 13, 48), (42, 14, 49), (42, 15, 50), (42, 16, 51), (51, 1, 52), (51, 2, 53), (51, 3, 54), (51, 5, 55), (51, 7, 56), (57, 5, 58), (57, 15, 59), (57, 16, 60), (57, 17, 61), (57, 18, 62), (57, 21, 63), (57, 22, 64), (57, 23, 65), (57, 27, 66)]
def TS_CL : List (Nat × Nat) := [(0, 3), (1, 4), (1, 4), (1, 6), (1, 6), (1, 6), (1, 6), (1, 24), (1, 24), (0, 0), (1, 4), (1, 4), (1, 4), (1, 4), (1, 5)]
def RS_CL : List (Nat × Nat × Nat) := [(0, 8, 1), (0, 9, 2), (0, 10, 3), (0, 11, 4), (0, 12, 5), (0, 13, 6), (0, 14, 7), (0, 15, 8), (0, 16, 9), (9, 1, 10), (9, 2, 11), (9, 3, 12), (9, 5, 13), (9, 7, 14)]
def TS_CC : List (Nat × Nat) := [(0, 0), (1, 4), (1, 4), (1, 4), (1, 4), (1, 5)]
def RS_CC : List (Nat × Nat × Nat) := [(0, 1, 1), (0, 2, 2), (0, 3, 3), (0, 5, 4), (0, 7, 5)]
def TS_MO : List (Nat × Nat) := [(0, 4)]
def RS_MO : List (Nat × Nat × Nat) := []
def TS_SH : List (Nat × Nat) := [(0, 7), (1, 16), (1, 16), (1, 16)]
def RS_SH : List (Nat × Nat × Nat) := [(0, 0, 1), (0, 1, 2), (0, 2, 3)]
def TS_ML : List (Nat × Nat) := [(0, 11), (1, 4), (1, 4), (1, 6), (1, 6), (1, 6), (1, 6), (1, 6), (1, 4), (1, 4), (1, 4), (1, 5), (2, 15), (1, 15), (1, 15)]
def RS_ML : List (Nat × Nat × Nat) := [(0, 10, 1), (0, 11, 2), (0, 12, 3), (0, 13, 4), (0, 14, 5), (0, 15, 6), (0, 16, 7), (0, 17, 8), (0, 18, 9), (0, 19, 10), (0, 20, 11), (0, 22, 12), (0, 23, 13), (0, 24, 14)]
theorem sh_CC_CL9 {g : JG} {a : Nat} (ha : j_sh g a TS_CL RS_CL) : j_sh g (a + 9) TS_CC RS_CC := ha.at 9 (by decide) (by decide) (by decide)
theorem sh_MO_22 {g : JG} (h0 : j_sh g 0 TS_W RS_W) : j_sh g 22 TS_MO RS_MO := by
  have h := h0.at (ts' := TS_MO) (rs' := RS_MO) 22 (by decide) (by decide) (by decide)
  rw [Nat.zero_add] at h
  exact h
theorem sh_MO_23 {g : JG} (h0 : j_sh g 0 TS_W RS_W) : j_sh g 23 TS_MO RS_MO := by
  have h := h0.at (ts' := TS_MO) (rs' := RS_MO) 23 (by decide) (by decide) (by decide)
  rw [Nat.zero_add] at h
  exact h
theorem sh_SH_24 {g : JG} (h0 : j_sh g 0 TS_W RS_W) : j_sh g 24 TS_SH RS_SH := by
  have h := h0.at (ts' := TS_SH) (rs' := RS_SH) 24 (by decide) (by decide) (by decide)
  rw [Nat.zero_add] at h
  exact h
theorem sh_SH_28 {g : JG} (h0 : j_sh g 0 TS_W RS_W) : j_sh g 28 TS_SH RS_SH := by
  have h := h0.at (ts' := TS_SH) (rs' := RS_SH) 28 (by decide) (by decide) (by decide)
  rw [Nat.zero_add] at h
  exact h
theorem sh_CL_4 {g : JG} (h0 : j_sh g 0 TS_W RS_W) : j_sh g 4 TS_CL RS_CL := by
  have h := h0.at (ts' := TS_CL) (rs' := RS_CL) 4 (by decide) (by decide) (by decide)
  rw [Nat.zero_add] at h
  exact h
theorem sh_CL_42 {g : JG} (h0 : j_sh g 0 TS_W RS_W) : j_sh g 42 TS_CL RS_CL := by
  have h := h0.at (ts' := TS_CL) (rs' := RS_CL) 42 (by decide) (by decide) (by decide)
  rw [Nat.zero_add] at h
  exact h
theorem fl_X0_9 : j_FL RX0 9 0 1 := ⟨_, rfl, by decide, Or.inl (gw1 (List.mem_of_getElem? (i := 92) rfl) rfl)⟩
theorem fl_X0_15 : j_FL RX0 15 0 2 := ⟨_, rfl, by decide, Or.inl (gw1 (List.mem_of_getElem? (i := 93) rfl) rfl)⟩
theorem fl_X0_18 : j_FL RX0 18 0 3 := ⟨_, rfl, by decide, Or.inl (gw1 (List.mem_of_getElem? (i := 94) rfl) rfl)⟩
theorem fl_X0_21 : j_FL RX0 21 0 5 := ⟨_, rfl, by decide, Or.inl (gw1 (List.mem_of_getElem? (i := 99) rfl) rfl)⟩
theorem fl_X0_24 : j_FL RX0 24 0 7 := ⟨_, rfl, by decide, Or.inl (gw1 (List.mem_of_getElem? (i := 103) rfl) rfl)⟩
theorem fl_X0_27 : j_FL RX0 27 0 0 := ⟨_, rfl, by decide, Or.inl (gw1 (List.mem_of_getElem? (i := 88) rfl) rfl)⟩
theorem fl_X0_31 : j_FL RX0 31 0 4 := ⟨_, rfl, by decide, Or.inl (gw1 (List.mem_of_getElem? (i := 95) rfl) rfl)⟩
theorem fl_X0_34 : j_FL RX0 34 0 6 := ⟨_, rfl, by decide, Or.inl (gw1 (List.mem_of_getElem? (i := 101) rfl) rfl)⟩
theorem fl_X0_55 : j_FL RX0 55 3 2 := ⟨_, rfl, by decide, Or.inl (gw1 (List.mem_of_getElem? (i := 131) rfl) rfl)⟩
theorem fl_X1_11 : j_FL RX1 11 1 0 := ⟨_, rfl, by decide, Or.inl (gw2 (List.mem_of_getElem? (i := 51) rfl) rfl)⟩
theorem fl_X1_15 : j_FL RX1 15 1 1 := ⟨_, rfl, by decide, Or.inl (gw2 (List.mem_of_getElem? (i := 52) rfl) rfl)⟩
theorem fl_X1_18 : j_FL RX1 18 1 2 := ⟨_, rfl, by decide, Or.inl (gw2 (List.mem_of_getElem? (i := 53) rfl) rfl)⟩
theorem fl_X1_21 : j_FL RX1 21 1 3 := ⟨_, rfl, by decide, Or.inl (gw2 (List.mem_of_getElem? (i := 54) rfl) rfl)⟩
theorem fl_X1_26 : j_FL RX1 26 1 4 := ⟨_, rfl, by decide, Or.inl (gw2 (List.mem_of_getElem? (i := 55) rfl) rfl)⟩
theorem fl_X1_29 : j_FL RX1 29 1 5 := ⟨_, rfl, by decide, Or.inl (gw2 (List.mem_of_getElem? (i := 56) rfl) rfl)⟩
theorem fl_X1_33 : j_FL RX1 33 1 6 := ⟨_, rfl, by decide, Or.inl (gw2 (List.mem_of_getElem? (i := 57) rfl) rfl)⟩
theorem fl_X1_44 : j_FL RX1 44 3 4 := ⟨_, rfl, by decide, Or.inl (gw1 (List.mem_of_getElem? (i := 141) rfl) rfl)⟩
theorem fl_X1_69 : j_FL RX1 69 3 16 := ⟨_, rfl, by decide, Or.inl (gw1 (List.mem_of_getElem? (i := 171) rfl) rfl)⟩
theorem fl_X1_73 : j_FL RX1 73 0 0 := ⟨_, rfl, by decide, Or.inl (gw1 (List.mem_of_getElem? (i := 89) rfl) rfl)⟩
theorem fl_X11_10 : j_FL RX11 10 10 0 := ⟨_, rfl, by decide, Or.inl (gw2 (List.mem_of_getElem? (i := 135) rfl) rfl)⟩
theorem fl_X11_21 : j_FL RX11 21 10 1 := ⟨_, rfl, by decide, Or.inl (gw2 (List.mem_of_getElem? (i := 136) rfl) rfl)⟩
theorem fl_X11_28 : j_FL RX11 28 10 2 := ⟨_, rfl, by decide, Or.inl (gw2 (List.mem_of_getElem? (i := 137) rfl) rfl)⟩
theorem fl_X11_32 : j_FL RX11 32 10 3 := ⟨_, rfl, by decide, Or.inl (gw2 (List.mem_of_getElem? (i := 138) rfl) rfl)⟩
theorem fl_X11_40 : j_FL RX11 40 10 4 := ⟨_, rfl, by decide, Or.inl (gw2 (List.mem_of_getElem? (i := 139) rfl) rfl)⟩
theorem fl_X11_44 : j_FL RX11 44 10 5 := ⟨_, rfl, by decide, Or.inl (gw2 (List.mem_of_getElem? (i := 140) rfl) rfl)⟩
theorem fl_X11_50 : j_FL RX11 50 10 6 := ⟨_, rfl, by decide, Or.inl (gw2 (List.mem_of_getElem? (i := 141) rfl) rfl)⟩
theorem fl_X11_57 : j_FL RX11 57 10 7 := ⟨_, rfl, by decide, Or.inl (gw2 (List.mem_of_getElem? (i := 142) rfl) rfl)⟩
theorem fl_X11_64 : j_FL RX11 64 10 8 := ⟨_, rfl, by decide, Or.inl (gw2 (List.mem_of_getElem? (i := 143) rfl) rfl)⟩
theorem fl_X11_71 : j_FL RX11 71 10 9 := ⟨_, rfl, by decide, Or.inl (gw2 (List.mem_of_getElem? (i := 144) rfl) rfl)⟩
theorem fl_X11_78 : j_FL RX11 78 10 10 := ⟨_, rfl, by decide, Or.inl (gw2 (List.mem_of_getElem? (i := 145) rfl) rfl)⟩
theorem fl_X11_82 : j_FL RX11 82 10 11 := ⟨_, rfl, by decide, Or.inl (gw2 (List.mem_of_getElem? (i := 146) rfl) rfl)⟩
theorem fl_X11_86 : j_FL RX11 86 10 12 := ⟨_, rfl, by decide, Or.inl (gw2 (List.mem_of_getElem? (i := 147) rfl) rfl)⟩
theorem fl_X11_89 : j_FL RX11 89 10 13 := ⟨_, rfl, by decide, Or.inl (gw2 (List.mem_of_getElem? (i := 148) rfl) rfl)⟩
theorem fl_X11_99 : j_FL RX11 99 9 1 := ⟨_, rfl, by decide, Or.inl (gw1 (List.mem_of_getElem? (i := 41) rfl) rfl)⟩
theorem fl_X11_110 : j_FL RX11 110 6 7 := ⟨_, rfl, by decide, Or.inl (gw1 (List.mem_of_getElem? (i := 217) rfl) rfl)⟩
theorem fl_X11_113 : j_FL RX11 113 6 8 := ⟨_, rfl, by decide, Or.inl (gw1 (List.mem_of_getElem? (i := 219) rfl) rfl)⟩
theorem fl_X11_117 : j_FL RX11 117 3 4 := ⟨_, rfl, by decide, Or.inl (gw1 (List.mem_of_getElem? (i := 140) rfl) rfl)⟩
theorem fl_X11_127 : j_FL RX11 127 3 6 := ⟨_, rfl, by decide, Or.inl (gw1 (List.mem_of_getElem? (i := 149) rfl) rfl)⟩
theorem fl_X11_134 : j_FL RX11 134 7 4 := ⟨_, rfl, by decide, Or.inl (gw2 (List.mem_of_getElem? (i := 33) rfl) rfl)⟩
theorem fl_X11_145 : j_FL RX11 145 3 10 := ⟨_, rfl, by decide, Or.inl (gw1 (List.mem_of_getElem? (i := 159) rfl) rfl)⟩
theorem fl_X11_153 : j_FL RX11 153 3 11 := ⟨_, rfl, by decide, Or.inl (gw1 (List.mem_of_getElem? (i := 161) rfl) rfl)⟩
theorem fl_X11_156 : j_FL RX11 156 3 12 := ⟨_, rfl, by decide, Or.inl (gw1 (List.mem_of_getElem? (i := 163) rfl) rfl)⟩
theorem fl_X11_159 : j_FL RX11 159 4 0 := ⟨_, rfl, by decide, Or.inl (gw2 (List.mem_of_getElem? (i := 8) rfl) rfl)⟩
theorem fl_X11_171 : j_FL RX11 171 3 13 := ⟨_, rfl, by decide, Or.inl (gw1 (List.mem_of_getElem? (i := 165) rfl) rfl)⟩
theorem fl_X11_189 : j_FL RX11 189 3 3 := ⟨_, rfl, by decide, Or.inl (gw1 (List.mem_of_getElem? (i := 135) rfl) rfl)⟩
theorem fl_X11_192 : j_FL RX11 192 3 8 := ⟨_, rfl, by decide, Or.inl (gw1 (List.mem_of_getElem? (i := 153) rfl) rfl)⟩
theorem fl_X11_195 : j_FL RX11 195 3 9 := ⟨_, rfl, by decide, Or.inl (gw1 (List.mem_of_getElem? (i := 156) rfl) rfl)⟩
theorem fl_X11_237 : j_FL RX11 237 3 16 := ⟨_, rfl, by decide, Or.inl (gw1 (List.mem_of_getElem? (i := 173) rfl) rfl)⟩
theorem fl_X11_257 : j_FL RX11 257 1 6 := ⟨_, rfl, by decide, Or.inl (gw2 (List.mem_of_getElem? (i := 58) rfl) rfl)⟩
theorem fl_X11_262 : j_FL RX11 262 8 1 := ⟨_, rfl, by decide, Or.inl (gw2 (List.mem_of_getElem? (i := 82) rfl) rfl)⟩
theorem fl_X11_268 : j_FL RX11 268 8 2 := ⟨_, rfl, by decide, Or.inl (gw2 (List.mem_of_getElem? (i := 84) rfl) rfl)⟩
theorem fl_X11_274 : j_FL RX11 274 8 4 := ⟨_, rfl, by decide, Or.inl (gw2 (List.mem_of_getElem? (i := 88) rfl) rfl)⟩
theorem fl_X11_277 : j_FL RX11 277 8 3 := ⟨_, rfl, by decide, Or.inl (gw2 (List.mem_of_getElem? (i := 86) rfl) rfl)⟩
theorem fl_X11_283 : j_FL RX11 283 2 2 := ⟨_, rfl, by decide, Or.inl (gw2 (List.mem_of_getElem? (i := 110) rfl) rfl)⟩
theorem fl_X11_287 : j_FL RX11 287 2 1 := ⟨_, rfl, by decide, Or.inl (gw2 (List.mem_of_getElem? (i := 108) rfl) rfl)⟩
theorem fl_X11_293 : j_FL RX11 293 0 4 := ⟨_, rfl, by decide, Or.inl (gw1 (List.mem_of_getElem? (i := 98) rfl) rfl)⟩
theorem fl_X11_375 : j_FL RX11 375 3 7 := ⟨_, rfl, by decide, Or.inl (gw1 (List.mem_of_getElem? (i := 151) rfl) rfl)⟩
theorem fl_X11_388 : j_FL RX11 388 4 1 := ⟨_, rfl, by decide, Or.inl (gw2 (List.mem_of_getElem? (i := 11) rfl) rfl)⟩
theorem fl_X11_391 : j_FL RX11 391 4 2 := ⟨_, rfl, by decide, Or.inl (gw2 (List.mem_of_getElem? (i := 14) rfl) rfl)⟩
theorem fl_X11_404 : j_FL RX11 404 3 0 := ⟨_, rfl, by decide, Or.inl (gw1 (List.mem_of_getElem? (i := 125) rfl) rfl)⟩
theorem fl_X11_407 : j_FL RX11 407 3 1 := ⟨_, rfl, by decide, Or.inl (gw1 (List.mem_of_getElem? (i := 128) rfl) rfl)⟩
theorem fl_X11_410 : j_FL RX11 410 3 2 := ⟨_, rfl, by decide, Or.inl (gw1 (List.mem_of_getElem? (i := 132) rfl) rfl)⟩
theorem fl_X11_413 : j_FL RX11 413 3 5 := ⟨_, rfl, by decide, Or.inl (gw1 (List.mem_of_getElem? (i := 145) rfl) rfl)⟩
theorem fl_X11_416 : j_FL RX11 416 0 0 := ⟨_, rfl, by decide, Or.inl (gw1 (List.mem_of_getElem? (i := 91) rfl) rfl)⟩
theorem fl_X11_419 : j_FL RX11 419 0 6 := ⟨_, rfl, by decide, Or.inl (gw1 (List.mem_of_getElem? (i := 102) rfl) rfl)⟩
theorem fl_X11_422 : j_FL RX11 422 5 1 := ⟨_, rfl, by decide, Or.inl (gw2 (List.mem_of_getElem? (i := 127) rfl) rfl)⟩
theorem fl_X11_426 : j_FL RX11 426 5 0 := ⟨_, rfl, by decide, Or.inl (gw2 (List.mem_of_getElem? (i := 125) rfl) rfl)⟩
theorem fl_X12_9 : j_FL RX12 9 11 0 := ⟨_, rfl, by decide, Or.inl (gw7 (List.mem_of_getElem? (i := 23) rfl) rfl)⟩
theorem fl_X12_15 : j_FL RX12 15 11 10 := ⟨_, rfl, by decide, Or.inl (gw7 (List.mem_of_getElem? (i := 36) rfl) rfl)⟩
theorem fl_X12_19 : j_FL RX12 19 11 11 := ⟨_, rfl, by decide, Or.inl (gw7 (List.mem_of_getElem? (i := 38) rfl) rfl)⟩
theorem fl_X12_22 : j_FL RX12 22 11 12 := ⟨_, rfl, by decide, Or.inl (gw7 (List.mem_of_getElem? (i := 40) rfl) rfl)⟩
theorem fl_X12_25 : j_FL RX12 25 11 13 := ⟨_, rfl, by decide, Or.inl (gw7 (List.mem_of_getElem? (i := 42) rfl) rfl)⟩
theorem fl_X12_28 : j_FL RX12 28 11 14 := ⟨_, rfl, by decide, Or.inl (gw7 (List.mem_of_getElem? (i := 44) rfl) rfl)⟩
theorem fl_X12_31 : j_FL RX12 31 11 15 := ⟨_, rfl, by decide, Or.inl (gw7 (List.mem_of_getElem? (i := 46) rfl) rfl)⟩
theorem fl_X12_34 : j_FL RX12 34 11 16 := ⟨_, rfl, by decide, Or.inl (gw7 (List.mem_of_getElem? (i := 48) rfl) rfl)⟩
theorem fl_X12_37 : j_FL RX12 37 11 17 := ⟨_, rfl, by decide, Or.inl (gw7 (List.mem_of_getElem? (i := 50) rfl) rfl)⟩
theorem fl_X12_40 : j_FL RX12 40 11 18 := ⟨_, rfl, by decide, Or.inl (gw7 (List.mem_of_getElem? (i := 52) rfl) rfl)⟩
theorem fl_X12_43 : j_FL RX12 43 11 19 := ⟨_, rfl, by decide, Or.inl (gw7 (List.mem_of_getElem? (i := 54) rfl) rfl)⟩
theorem fl_X12_46 : j_FL RX12 46 11 20 := ⟨_, rfl, by decide, Or.inl (gw7 (List.mem_of_getElem? (i := 56) rfl) rfl)⟩
theorem fl_X12_49 : j_FL RX12 49 11 22 := ⟨_, rfl, by decide, Or.inl (gw7 (List.mem_of_getElem? (i := 59) rfl) rfl)⟩
theorem fl_X12_53 : j_FL RX12 53 11 23 := ⟨_, rfl, by decide, Or.inl (gw7 (List.mem_of_getElem? (i := 61) rfl) rfl)⟩
theorem fl_X12_56 : j_FL RX12 56 11 24 := ⟨_, rfl, by decide, Or.inl (gw7 (List.mem_of_getElem? (i := 63) rfl) rfl)⟩
theorem fl_X12_59 : j_FL RX12 59 11 9 := ⟨_, rfl, by decide, Or.inl (gw7 (List.mem_of_getElem? (i := 34) rfl) rfl)⟩
theorem fl_X12_62 : j_FL RX12 62 11 7 := ⟨_, rfl, by decide, Or.inl (gw7 (List.mem_of_getElem? (i := 31) rfl) rfl)⟩
theorem fl_X13_9 : j_FL RX13 9 12 2 := ⟨_, rfl, by decide, Or.inl (gw6 (List.mem_of_getElem? (i := 152) rfl) rfl)⟩
theorem fl_X13_13 : j_FL RX13 13 12 5 := ⟨_, rfl, by decide, Or.inl (gw6 (List.mem_of_getElem? (i := 155) rfl) rfl)⟩
theorem fl_X13_17 : j_FL RX13 17 12 15 := ⟨_, rfl, by decide, Or.inl (gw6 (List.mem_of_getElem? (i := 165) rfl) rfl)⟩
theorem fl_X13_21 : j_FL RX13 21 12 16 := ⟨_, rfl, by decide, Or.inl (gw6 (List.mem_of_getElem? (i := 166) rfl) rfl)⟩
theorem fl_X13_24 : j_FL RX13 24 12 17 := ⟨_, rfl, by decide, Or.inl (gw6 (List.mem_of_getElem? (i := 167) rfl) rfl)⟩
theorem fl_X13_27 : j_FL RX13 27 12 18 := ⟨_, rfl, by decide, Or.inl (gw6 (List.mem_of_getElem? (i := 168) rfl) rfl)⟩
theorem fl_X13_30 : j_FL RX13 30 12 21 := ⟨_, rfl, by decide, Or.inl (gw6 (List.mem_of_getElem? (i := 171) rfl) rfl)⟩
theorem fl_X13_33 : j_FL RX13 33 12 22 := ⟨_, rfl, by decide, Or.inl (gw6 (List.mem_of_getElem? (i := 172) rfl) rfl)⟩
theorem fl_X13_36 : j_FL RX13 36 12 23 := ⟨_, rfl, by decide, Or.inl (gw6 (List.mem_of_getElem? (i := 173) rfl) rfl)⟩
theorem fl_X13_39 : j_FL RX13 39 12 27 := ⟨_, rfl, by decide, Or.inl (gw6 (List.mem_of_getElem? (i := 177) rfl) rfl)⟩
theorem fl_X13_42 : j_FL RX13 42 12 0 := ⟨_, rfl, by decide, Or.inl (gw6 (List.mem_of_getElem? (i := 150) rfl) rfl)⟩
theorem fl_X13_45 : j_FL RX13 45 12 1 := ⟨_, rfl, by decide, Or.inl (gw6 (List.mem_of_getElem? (i := 151) rfl) rfl)⟩
theorem fl_X13_59 : j_FL RX13 59 12 7 := ⟨_, rfl, by decide, Or.inl (gw6 (List.mem_of_getElem? (i := 157) rfl) rfl)⟩
theorem fl_X13_74 : j_FL RX13 74 12 9 := ⟨_, rfl, by decide, Or.inl (gw6 (List.mem_of_getElem? (i := 159) rfl) rfl)⟩
theorem fl_X13_77 : j_FL RX13 77 12 8 := ⟨_, rfl, by decide, Or.inl (gw6 (List.mem_of_getElem? (i := 158) rfl) rfl)⟩
theorem fl_X13_83 : j_FL RX13 83 12 10 := ⟨_, rfl, by decide, Or.inl (gw6 (List.mem_of_getElem? (i := 160) rfl) rfl)⟩
theorem fl_X13_90 : j_FL RX13 90 12 14 := ⟨_, rfl, by decide, Or.inl (gw6 (List.mem_of_getElem? (i := 164) rfl) rfl)⟩
theorem fl_X13_97 : j_FL RX13 97 12 11 := ⟨_, rfl, by decide, Or.inl (gw6 (List.mem_of_getElem? (i := 161) rfl) rfl)⟩
theorem fl_X13_100 : j_FL RX13 100 12 12 := ⟨_, rfl, by decide, Or.inl (gw6 (List.mem_of_getElem? (i := 162) rfl) rfl)⟩
theorem fl_X13_103 : j_FL RX13 103 12 13 := ⟨_, rfl, by decide, Or.inl (gw6 (List.mem_of_getElem? (i := 163) rfl) rfl)⟩
theorem fl_X13_151 : j_FL RX13 151 12 4 := ⟨_, rfl, by decide, Or.inl (gw6 (List.mem_of_getElem? (i := 154) rfl) rfl)⟩
theorem fl_X13_155 : j_FL RX13 155 11 0 := ⟨_, rfl, by decide, Or.inr ⟨"HookGatesModel", (nw7 (List.mem_of_getElem? (i := 24) rfl) rfl)⟩⟩
theorem fl_X13_168 : j_FL RX13 168 11 22 := ⟨_, rfl, by decide, Or.inr ⟨"HookGatesModel", (nw7 (List.mem_of_getElem? (i := 60) rfl) rfl)⟩⟩
theorem fl_X13_172 : j_FL RX13 172 11 9 := ⟨_, rfl, by decide, Or.inr ⟨"HookGatesModel", (nw7 (List.mem_of_getElem? (i := 35) rfl) rfl)⟩⟩
theorem fl_X13_175 : j_FL RX13 175 11 23 := ⟨_, rfl, by decide, Or.inr ⟨"HookGatesModel", (nw7 (List.mem_of_getElem? (i := 62) rfl) rfl)⟩⟩
theorem fl_X13_178 : j_FL RX13 178 11 24 := ⟨_, rfl, by decide, Or.inr ⟨"HookGatesModel", (nw7 (List.mem_of_getElem? (i := 64) rfl) rfl)⟩⟩
theorem fl_X13_191 : j_FL RX13 191 11 4 := ⟨_, rfl, by decide, Or.inr ⟨"HookGatesModel", (nw7 (List.mem_of_getElem? (i := 28) rfl) rfl)⟩⟩
theorem fl_X13_227 : j_FL RX13 227 11 1 := ⟨_, rfl, by decide, Or.inr ⟨"HookGatesModel", (nw7 (List.mem_of_getElem? (i := 25) rfl) rfl)⟩⟩
theorem fl_X13_229 : j_FL RX13 229 11 2 := ⟨_, rfl, by decide, Or.inr ⟨"HookGatesModel", (nw7 (List.mem_of_getElem? (i := 26) rfl) rfl)⟩⟩
theorem fl_X13_243 : j_FL RX13 243 11 3 := ⟨_, rfl, by decide, Or.inr ⟨"HookGatesModel", (nw7 (List.mem_of_getElem? (i := 27) rfl) rfl)⟩⟩
theorem fl_X13_253 : j_FL RX13 253 11 10 := ⟨_, rfl, by decide, Or.inr ⟨"HookGatesModel", (nw7 (List.mem_of_getElem? (i := 37) rfl) rfl)⟩⟩
theorem fl_X13_256 : j_FL RX13 256 11 11 := ⟨_, rfl, by decide, Or.inr ⟨"HookGatesModel", (nw7 (List.mem_of_getElem? (i := 39) rfl) rfl)⟩⟩
theorem fl_X13_275 : j_FL RX13 275 11 12 := ⟨_, rfl, by decide, Or.inr ⟨"HookGatesModel", (nw7 (List.mem_of_getElem? (i := 41) rfl) rfl)⟩⟩
theorem fl_X13_278 : j_FL RX13 278 11 13 := ⟨_, rfl, by decide, Or.inr ⟨"HookGatesModel", (nw7 (List.mem_of_getElem? (i := 43) rfl) rfl)⟩⟩
theorem fl_X13_280 : j_FL RX13 280 11 14 := ⟨_, rfl, by decide, Or.inr ⟨"HookGatesModel", (nw7 (List.mem_of_getElem? (i := 45) rfl) rfl)⟩⟩
theorem fl_X13_282 : j_FL RX13 282 11 15 := ⟨_, rfl, by decide, Or.inr ⟨"HookGatesModel", (nw7 (List.mem_of_getElem? (i := 47) rfl) rfl)⟩⟩
theorem fl_X13_285 : j_FL RX13 285 11 5 := ⟨_, rfl, by decide, Or.inr ⟨"HookGatesModel", (nw7 (List.mem_of_getElem? (i := 29) rfl) rfl)⟩⟩
theorem fl_X13_288 : j_FL RX13 288 11 16 := ⟨_, rfl, by decide, Or.inr ⟨"HookGatesModel", (nw7 (List.mem_of_getElem? (i := 49) rfl) rfl)⟩⟩
theorem fl_X13_291 : j_FL RX13 291 11 6 := ⟨_, rfl, by decide, Or.inr ⟨"HookGatesModel", (nw7 (List.mem_of_getElem? (i := 30) rfl) rfl)⟩⟩
theorem fl_X13_293 : j_FL RX13 293 11 17 := ⟨_, rfl, by decide, Or.inr ⟨"HookGatesModel", (nw7 (List.mem_of_getElem? (i := 51) rfl) rfl)⟩⟩
theorem fl_X13_296 : j_FL RX13 296 11 18 := ⟨_, rfl, by decide, Or.inr ⟨"HookGatesModel", (nw7 (List.mem_of_getElem? (i := 53) rfl) rfl)⟩⟩
theorem fl_X13_299 : j_FL RX13 299 11 21 := ⟨_, rfl, by decide, Or.inr ⟨"HookGatesModel", (nw7 (List.mem_of_getElem? (i := 58) rfl) rfl)⟩⟩
theorem fl_X13_301 : j_FL RX13 301 11 7 := ⟨_, rfl, by decide, Or.inr ⟨"HookGatesModel", (nw7 (List.mem_of_getElem? (i := 32) rfl) rfl)⟩⟩
theorem fl_X13_307 : j_FL RX13 307 11 19 := ⟨_, rfl, by decide, Or.inr ⟨"HookGatesModel", (nw7 (List.mem_of_getElem? (i := 55) rfl) rfl)⟩⟩
theorem fl_X13_309 : j_FL RX13 309 11 20 := ⟨_, rfl, by decide, Or.inr ⟨"HookGatesModel", (nw7 (List.mem_of_getElem? (i := 57) rfl) rfl)⟩⟩
theorem fl_X13_311 : j_FL RX13 311 11 8 := ⟨_, rfl, by decide, Or.inr ⟨"HookGatesModel", (nw7 (List.mem_of_getElem? (i := 33) rfl) rfl)⟩⟩
theorem fl_X13_314 : j_FL RX13 314 12 6 := ⟨_, rfl, by decide, Or.inl (gw6 (List.mem_of_getElem? (i := 156) rfl) rfl)⟩
theorem fl_X13_321 : j_FL RX13 321 12 3 := ⟨_, rfl, by decide, Or.inl (gw6 (List.mem_of_getElem? (i := 153) rfl) rfl)⟩
theorem fl_X13_326 : j_FL RX13 326 12 19 := ⟨_, rfl, by decide, Or.inl (gw6 (List.mem_of_getElem? (i := 169) rfl) rfl)⟩
theorem fl_X13_329 : j_FL RX13 329 12 20 := ⟨_, rfl, by decide, Or.inl (gw6 (List.mem_of_getElem? (i := 170) rfl) rfl)⟩
theorem fl_X13_380 : j_FL RX13 380 12 24 := ⟨_, rfl, by decide, Or.inl (gw6 (List.mem_of_getElem? (i := 174) rfl) rfl)⟩
theorem fl_X13_423 : j_FL RX13 423 12 25 := ⟨_, rfl, by decide, Or.inl (gw6 (List.mem_of_getElem? (i := 175) rfl) rfl)⟩
theorem fl_X13_426 : j_FL RX13 426 12 26 := ⟨_, rfl, by decide, Or.inl (gw6 (List.mem_of_getElem? (i := 176) rfl) rfl)⟩
theorem fl_X13_444 : j_FL RX13 444 12 28 := ⟨_, rfl, by decide, Or.inl (gw6 (List.mem_of_getElem? (i := 178) rfl) rfl)⟩
theorem fl_X13_494 : j_FL RX13 494 12 29 := ⟨_, rfl, by decide, Or.inl (gw6 (List.mem_of_getElem? (i := 179) rfl) rfl)⟩
theorem fl_X2_11 : j_FL RX2 11 2 1 := ⟨_, rfl, by decide, Or.inl (gw2 (List.mem_of_getElem? (i := 107) rfl) rfl)⟩
theorem fl_X2_15 : j_FL RX2 15 2 0 := ⟨_, rfl, by decide, Or.inl (gw2 (List.mem_of_getElem? (i := 106) rfl) rfl)⟩
theorem fl_X2_19 : j_FL RX2 19 2 2 := ⟨_, rfl, by decide, Or.inl (gw2 (List.mem_of_getElem? (i := 109) rfl) rfl)⟩
theorem fl_X2_23 : j_FL RX2 23 3 16 := ⟨_, rfl, by decide, Or.inl (gw1 (List.mem_of_getElem? (i := 170) rfl) rfl)⟩
theorem fl_X2_29 : j_FL RX2 29 0 4 := ⟨_, rfl, by decide, Or.inl (gw1 (List.mem_of_getElem? (i := 96) rfl) rfl)⟩
theorem fl_X2_56 : j_FL RX2 56 3 6 := ⟨_, rfl, by decide, Or.inl (gw1 (List.mem_of_getElem? (i := 148) rfl) rfl)⟩
theorem fl_X2_59 : j_FL RX2 59 0 5 := ⟨_, rfl, by decide, Or.inl (gw1 (List.mem_of_getElem? (i := 100) rfl) rfl)⟩
theorem fl_X3_9 : j_FL RX3 9 3 8 := ⟨_, rfl, by decide, Or.inl (gw1 (List.mem_of_getElem? (i := 152) rfl) rfl)⟩
theorem fl_X3_15 : j_FL RX3 15 3 9 := ⟨_, rfl, by decide, Or.inl (gw1 (List.mem_of_getElem? (i := 155) rfl) rfl)⟩
theorem fl_X3_18 : j_FL RX3 18 3 10 := ⟨_, rfl, by decide, Or.inl (gw1 (List.mem_of_getElem? (i := 158) rfl) rfl)⟩
theorem fl_X3_21 : j_FL RX3 21 3 11 := ⟨_, rfl, by decide, Or.inl (gw1 (List.mem_of_getElem? (i := 160) rfl) rfl)⟩
theorem fl_X3_24 : j_FL RX3 24 3 12 := ⟨_, rfl, by decide, Or.inl (gw1 (List.mem_of_getElem? (i := 162) rfl) rfl)⟩
theorem fl_X3_27 : j_FL RX3 27 3 13 := ⟨_, rfl, by decide, Or.inl (gw1 (List.mem_of_getElem? (i := 164) rfl) rfl)⟩
theorem fl_X3_30 : j_FL RX3 30 3 14 := ⟨_, rfl, by decide, Or.inl (gw1 (List.mem_of_getElem? (i := 167) rfl) rfl)⟩
theorem fl_X3_33 : j_FL RX3 33 3 15 := ⟨_, rfl, by decide, Or.inl (gw1 (List.mem_of_getElem? (i := 168) rfl) rfl)⟩
theorem fl_X3_39 : j_FL RX3 39 3 16 := ⟨_, rfl, by decide, Or.inl (gw1 (List.mem_of_getElem? (i := 169) rfl) rfl)⟩
theorem fl_X3_43 : j_FL RX3 43 3 0 := ⟨_, rfl, by decide, Or.inl (gw1 (List.mem_of_getElem? (i := 123) rfl) rfl)⟩
theorem fl_X3_47 : j_FL RX3 47 3 1 := ⟨_, rfl, by decide, Or.inl (gw1 (List.mem_of_getElem? (i := 126) rfl) rfl)⟩
theorem fl_X3_50 : j_FL RX3 50 3 2 := ⟨_, rfl, by decide, Or.inl (gw1 (List.mem_of_getElem? (i := 129) rfl) rfl)⟩
theorem fl_X3_53 : j_FL RX3 53 3 3 := ⟨_, rfl, by decide, Or.inl (gw1 (List.mem_of_getElem? (i := 133) rfl) rfl)⟩
theorem fl_X3_56 : j_FL RX3 56 3 4 := ⟨_, rfl, by decide, Or.inl (gw1 (List.mem_of_getElem? (i := 136) rfl) rfl)⟩
theorem fl_X3_59 : j_FL RX3 59 3 5 := ⟨_, rfl, by decide, Or.inl (gw1 (List.mem_of_getElem? (i := 143) rfl) rfl)⟩
theorem fl_X3_62 : j_FL RX3 62 3 6 := ⟨_, rfl, by decide, Or.inl (gw1 (List.mem_of_getElem? (i := 146) rfl) rfl)⟩
theorem fl_X3_65 : j_FL RX3 65 3 7 := ⟨_, rfl, by decide, Or.inl (gw1 (List.mem_of_getElem? (i := 150) rfl) rfl)⟩
theorem fl_X4_9 : j_FL RX4 9 4 0 := ⟨_, rfl, by decide, Or.inl (gw2 (List.mem_of_getElem? (i := 6) rfl) rfl)⟩
theorem fl_X4_15 : j_FL RX4 15 4 1 := ⟨_, rfl, by decide, Or.inl (gw2 (List.mem_of_getElem? (i := 9) rfl) rfl)⟩
theorem fl_X4_18 : j_FL RX4 18 4 2 := ⟨_, rfl, by decide, Or.inl (gw2 (List.mem_of_getElem? (i := 12) rfl) rfl)⟩
theorem fl_X4_21 : j_FL RX4 21 3 4 := ⟨_, rfl, by decide, Or.inl (gw1 (List.mem_of_getElem? (i := 137) rfl) rfl)⟩
theorem fl_X5_15 : j_FL RX5 15 5 0 := ⟨_, rfl, by decide, Or.inl (gw2 (List.mem_of_getElem? (i := 124) rfl) rfl)⟩
theorem fl_X5_19 : j_FL RX5 19 5 1 := ⟨_, rfl, by decide, Or.inl (gw2 (List.mem_of_getElem? (i := 126) rfl) rfl)⟩
theorem fl_X5_41 : j_FL RX5 41 3 4 := ⟨_, rfl, by decide, Or.inl (gw1 (List.mem_of_getElem? (i := 142) rfl) rfl)⟩
theorem fl_X6_12 : j_FL RX6 12 6 1 := ⟨_, rfl, by decide, Or.inl (gw1 (List.mem_of_getElem? (i := 210) rfl) rfl)⟩
theorem fl_X6_18 : j_FL RX6 18 6 3 := ⟨_, rfl, by decide, Or.inl (gw1 (List.mem_of_getElem? (i := 212) rfl) rfl)⟩
theorem fl_X6_22 : j_FL RX6 22 6 4 := ⟨_, rfl, by decide, Or.inl (gw1 (List.mem_of_getElem? (i := 213) rfl) rfl)⟩
theorem fl_X6_26 : j_FL RX6 26 6 5 := ⟨_, rfl, by decide, Or.inl (gw1 (List.mem_of_getElem? (i := 214) rfl) rfl)⟩
theorem fl_X6_29 : j_FL RX6 29 6 0 := ⟨_, rfl, by decide, Or.inl (gw1 (List.mem_of_getElem? (i := 209) rfl) rfl)⟩
theorem fl_X6_36 : j_FL RX6 36 6 2 := ⟨_, rfl, by decide, Or.inl (gw1 (List.mem_of_getElem? (i := 211) rfl) rfl)⟩
theorem fl_X6_40 : j_FL RX6 40 6 6 := ⟨_, rfl, by decide, Or.inl (gw1 (List.mem_of_getElem? (i := 215) rfl) rfl)⟩
theorem fl_X6_44 : j_FL RX6 44 6 7 := ⟨_, rfl, by decide, Or.inl (gw1 (List.mem_of_getElem? (i := 216) rfl) rfl)⟩
theorem fl_X6_47 : j_FL RX6 47 6 8 := ⟨_, rfl, by decide, Or.inl (gw1 (List.mem_of_getElem? (i := 218) rfl) rfl)⟩
theorem fl_X6_60 : j_FL RX6 60 9 4 := ⟨_, rfl, by decide, Or.inl (gw1 (List.mem_of_getElem? (i := 44) rfl) rfl)⟩
theorem fl_X6_63 : j_FL RX6 63 3 4 := ⟨_, rfl, by decide, Or.inl (gw1 (List.mem_of_getElem? (i := 139) rfl) rfl)⟩
theorem fl_X6_126 : j_FL RX6 126 3 2 := ⟨_, rfl, by decide, Or.inl (gw1 (List.mem_of_getElem? (i := 130) rfl) rfl)⟩
theorem fl_X6_129 : j_FL RX6 129 3 3 := ⟨_, rfl, by decide, Or.inl (gw1 (List.mem_of_getElem? (i := 134) rfl) rfl)⟩
theorem fl_X6_132 : j_FL RX6 132 3 5 := ⟨_, rfl, by decide, Or.inl (gw1 (List.mem_of_getElem? (i := 144) rfl) rfl)⟩
theorem fl_X6_135 : j_FL RX6 135 3 16 := ⟨_, rfl, by decide, Or.inl (gw1 (List.mem_of_getElem? (i := 172) rfl) rfl)⟩
theorem fl_X6_139 : j_FL RX6 139 0 0 := ⟨_, rfl, by decide, Or.inl (gw1 (List.mem_of_getElem? (i := 90) rfl) rfl)⟩
theorem fl_X6_143 : j_FL RX6 143 0 4 := ⟨_, rfl, by decide, Or.inl (gw1 (List.mem_of_getElem? (i := 97) rfl) rfl)⟩
theorem fl_X6_153 : j_FL RX6 153 9 7 := ⟨_, rfl, by decide, Or.inl (gw1 (List.mem_of_getElem? (i := 51) rfl) rfl)⟩
theorem fl_X6_156 : j_FL RX6 156 3 0 := ⟨_, rfl, by decide, Or.inl (gw1 (List.mem_of_getElem? (i := 124) rfl) rfl)⟩
theorem fl_X6_160 : j_FL RX6 160 3 1 := ⟨_, rfl, by decide, Or.inl (gw1 (List.mem_of_getElem? (i := 127) rfl) rfl)⟩
theorem fl_X6_174 : j_FL RX6 174 3 8 := ⟨_, rfl, by decide, Or.inl (gw1 (List.mem_of_getElem? (i := 154) rfl) rfl)⟩
theorem fl_X6_181 : j_FL RX6 181 3 9 := ⟨_, rfl, by decide, Or.inl (gw1 (List.mem_of_getElem? (i := 157) rfl) rfl)⟩
theorem fl_X6_210 : j_FL RX6 210 3 13 := ⟨_, rfl, by decide, Or.inl (gw1 (List.mem_of_getElem? (i := 166) rfl) rfl)⟩
theorem fl_X6_231 : j_FL RX6 231 0 7 := ⟨_, rfl, by decide, Or.inl (gw1 (List.mem_of_getElem? (i := 104) rfl) rfl)⟩
theorem fl_X6_239 : j_FL RX6 239 9 6 := ⟨_, rfl, by decide, Or.inl (gw1 (List.mem_of_getElem? (i := 49) rfl) rfl)⟩
theorem fl_X6_243 : j_FL RX6 243 9 5 := ⟨_, rfl, by decide, Or.inl (gw1 (List.mem_of_getElem? (i := 47) rfl) rfl)⟩
theorem fl_X7_9 : j_FL RX7 9 7 0 := ⟨_, rfl, by decide, Or.inl (gw2 (List.mem_of_getElem? (i := 28) rfl) rfl)⟩
theorem fl_X7_15 : j_FL RX7 15 7 1 := ⟨_, rfl, by decide, Or.inl (gw2 (List.mem_of_getElem? (i := 29) rfl) rfl)⟩
theorem fl_X7_18 : j_FL RX7 18 7 2 := ⟨_, rfl, by decide, Or.inl (gw2 (List.mem_of_getElem? (i := 30) rfl) rfl)⟩
theorem fl_X7_21 : j_FL RX7 21 7 3 := ⟨_, rfl, by decide, Or.inl (gw2 (List.mem_of_getElem? (i := 31) rfl) rfl)⟩
theorem fl_X7_25 : j_FL RX7 25 7 4 := ⟨_, rfl, by decide, Or.inl (gw2 (List.mem_of_getElem? (i := 32) rfl) rfl)⟩
theorem fl_X7_31 : j_FL RX7 31 4 0 := ⟨_, rfl, by decide, Or.inl (gw2 (List.mem_of_getElem? (i := 7) rfl) rfl)⟩
theorem fl_X7_40 : j_FL RX7 40 4 1 := ⟨_, rfl, by decide, Or.inl (gw2 (List.mem_of_getElem? (i := 10) rfl) rfl)⟩
theorem fl_X7_43 : j_FL RX7 43 4 2 := ⟨_, rfl, by decide, Or.inl (gw2 (List.mem_of_getElem? (i := 13) rfl) rfl)⟩
theorem fl_X8_9 : j_FL RX8 9 8 0 := ⟨_, rfl, by decide, Or.inl (gw2 (List.mem_of_getElem? (i := 80) rfl) rfl)⟩
theorem fl_X8_15 : j_FL RX8 15 8 1 := ⟨_, rfl, by decide, Or.inl (gw2 (List.mem_of_getElem? (i := 81) rfl) rfl)⟩
theorem fl_X8_19 : j_FL RX8 19 8 2 := ⟨_, rfl, by decide, Or.inl (gw2 (List.mem_of_getElem? (i := 83) rfl) rfl)⟩
theorem fl_X8_22 : j_FL RX8 22 3 6 := ⟨_, rfl, by decide, Or.inl (gw1 (List.mem_of_getElem? (i := 147) rfl) rfl)⟩
theorem fl_X8_27 : j_FL RX8 27 8 3 := ⟨_, rfl, by decide, Or.inl (gw2 (List.mem_of_getElem? (i := 85) rfl) rfl)⟩
theorem fl_X8_30 : j_FL RX8 30 8 4 := ⟨_, rfl, by decide, Or.inl (gw2 (List.mem_of_getElem? (i := 87) rfl) rfl)⟩
theorem fl_X8_33 : j_FL RX8 33 3 4 := ⟨_, rfl, by decide, Or.inl (gw1 (List.mem_of_getElem? (i := 138) rfl) rfl)⟩
theorem fl_X9_9 : j_FL RX9 9 9 0 := ⟨_, rfl, by decide, Or.inl (gw1 (List.mem_of_getElem? (i := 39) rfl) rfl)⟩
theorem fl_X9_15 : j_FL RX9 15 9 1 := ⟨_, rfl, by decide, Or.inl (gw1 (List.mem_of_getElem? (i := 40) rfl) rfl)⟩
theorem fl_X9_19 : j_FL RX9 19 9 2 := ⟨_, rfl, by decide, Or.inl (gw1 (List.mem_of_getElem? (i := 42) rfl) rfl)⟩
theorem fl_X9_22 : j_FL RX9 22 9 3 := ⟨_, rfl, by decide, Or.inl (gw1 (List.mem_of_getElem? (i := 43) rfl) rfl)⟩
theorem fl_X9_32 : j_FL RX9 32 9 5 := ⟨_, rfl, by decide, Or.inl (gw1 (List.mem_of_getElem? (i := 46) rfl) rfl)⟩
theorem fl_X9_35 : j_FL RX9 35 9 4 := ⟨_, rfl, by decide, Or.inl (gw1 (List.mem_of_getElem? (i := 45) rfl) rfl)⟩
theorem fl_X9_51 : j_FL RX9 51 9 6 := ⟨_, rfl, by decide, Or.inl (gw1 (List.mem_of_getElem? (i := 48) rfl) rfl)⟩
theorem fl_X9_55 : j_FL RX9 55 9 7 := ⟨_, rfl, by decide, Or.inl (gw1 (List.mem_of_getElem? (i := 50) rfl) rfl)⟩
theorem ft_0_0 : j_FT 0 0 .int false := ⟨_, rfl, by decide +kernel, rfl, rfl⟩
theorem ft_0_1 : j_FT 0 1 (.array .int) true := ⟨_, rfl, by decide +kernel, rfl, rfl⟩
theorem ft_0_2 : j_FT 0 2 (.array .int) true := ⟨_, rfl, by decide +kernel, rfl, rfl⟩
theorem ft_0_3 : j_FT 0 3 (.array .int) true := ⟨_, rfl, by decide +kernel, rfl, rfl⟩
theorem ft_0_4 : j_FT 0 4 .int false := ⟨_, rfl, by decide +kernel, rfl, rfl⟩
theorem ft_0_5 : j_FT 0 5 (.array .int) true := ⟨_, rfl, by decide +kernel, rfl, rfl⟩
theorem ft_0_6 : j_FT 0 6 .int false := ⟨_, rfl, by decide +kernel, rfl, rfl⟩
theorem ft_0_7 : j_FT 0 7 (.array .int) true := ⟨_, rfl, by decide +kernel, rfl, rfl⟩
theorem ft_1_0 : j_FT 1 0 (.array .int) true := ⟨_, rfl, by decide +kernel, rfl, rfl⟩
theorem ft_1_1 : j_FT 1 1 (.array .int) true := ⟨_, rfl, by decide +kernel, rfl, rfl⟩
theorem ft_1_2 : j_FT 1 2 (.array .int) true := ⟨_, rfl, by decide +kernel, rfl, rfl⟩
theorem ft_1_3 : j_FT 1 3 (.array .int) true := ⟨_, rfl, by decide +kernel, rfl, rfl⟩
theorem ft_1_4 : j_FT 1 4 (.array .int) true := ⟨_, rfl, by decide +kernel, rfl, rfl⟩
theorem ft_1_5 : j_FT 1 5 .int false := ⟨_, rfl, by decide +kernel, rfl, rfl⟩
theorem ft_1_6 : j_FT 1 6 .int false := ⟨_, rfl, by decide +kernel, rfl, rfl⟩
theorem ft_2_0 : j_FT 2 0 .boolean false := ⟨_, rfl, by decide +kernel, rfl, rfl⟩
theorem ft_2_1 : j_FT 2 1 (.array .int) true := ⟨_, rfl, by decide +kernel, rfl, rfl⟩
theorem ft_2_2 : j_FT 2 2 .int false := ⟨_, rfl, by decide +kernel, rfl, rfl⟩
theorem ft_3_0 : j_FT 3 0 .int false := ⟨_, rfl, by decide +kernel, rfl, rfl⟩
theorem ft_3_1 : j_FT 3 1 .int false := ⟨_, rfl, by decide +kernel, rfl, rfl⟩
theorem ft_3_2 : j_FT 3 2 .int false := ⟨_, rfl, by decide +kernel, rfl, rfl⟩
theorem ft_3_3 : j_FT 3 3 .int false := ⟨_, rfl, by decide +kernel, rfl, rfl⟩
theorem ft_3_4 : j_FT 3 4 .int false := ⟨_, rfl, by decide +kernel, rfl, rfl⟩
theorem ft_3_5 : j_FT 3 5 .int false := ⟨_, rfl, by decide +kernel, rfl, rfl⟩
theorem ft_3_6 : j_FT 3 6 .int false := ⟨_, rfl, by decide +kernel, rfl, rfl⟩
theorem ft_3_7 : j_FT 3 7 .int false := ⟨_, rfl, by decide +kernel, rfl, rfl⟩
theorem ft_3_8 : j_FT 3 8 (.array .int) true := ⟨_, rfl, by decide +kernel, rfl, rfl⟩
theorem ft_3_9 : j_FT 3 9 (.array .int) true := ⟨_, rfl, by decide +kernel, rfl, rfl⟩
theorem ft_3_10 : j_FT 3 10 (.array .int) true := ⟨_, rfl, by decide +kernel, rfl, rfl⟩
theorem ft_3_11 : j_FT 3 11 (.array .int) true := ⟨_, rfl, by decide +kernel, rfl, rfl⟩
theorem ft_3_12 : j_FT 3 12 (.array .int) true := ⟨_, rfl, by decide +kernel, rfl, rfl⟩
theorem ft_3_13 : j_FT 3 13 (.array .int) true := ⟨_, rfl, by decide +kernel, rfl, rfl⟩
theorem ft_3_14 : j_FT 3 14 (.array .int) true := ⟨_, rfl, by decide +kernel, rfl, rfl⟩
theorem ft_3_15 : j_FT 3 15 (.array .int) true := ⟨_, rfl, by decide +kernel, rfl, rfl⟩
theorem ft_3_16 : j_FT 3 16 (.object "HookGates$Claims") true := ⟨_, rfl, by decide +kernel, rfl, rfl⟩
theorem ft_4_0 : j_FT 4 0 .int false := ⟨_, rfl, by decide +kernel, rfl, rfl⟩
theorem ft_4_1 : j_FT 4 1 .int false := ⟨_, rfl, by decide +kernel, rfl, rfl⟩
theorem ft_4_2 : j_FT 4 2 .int false := ⟨_, rfl, by decide +kernel, rfl, rfl⟩
theorem ft_5_0 : j_FT 5 0 .long false := ⟨_, rfl, by decide +kernel, rfl, rfl⟩
theorem ft_5_1 : j_FT 5 1 .long false := ⟨_, rfl, by decide +kernel, rfl, rfl⟩
theorem ft_6_0 : j_FT 6 0 (.object "HookGates$Tape") true := ⟨_, rfl, by decide +kernel, rfl, rfl⟩
theorem ft_6_1 : j_FT 6 1 (.object "HookGates$Land") false := ⟨_, rfl, by decide +kernel, rfl, rfl⟩
theorem ft_6_2 : j_FT 6 2 .boolean false := ⟨_, rfl, by decide +kernel, rfl, rfl⟩
theorem ft_6_3 : j_FT 6 3 (.array .long) true := ⟨_, rfl, by decide +kernel, rfl, rfl⟩
theorem ft_6_4 : j_FT 6 4 (.array .int) true := ⟨_, rfl, by decide +kernel, rfl, rfl⟩
theorem ft_6_5 : j_FT 6 5 (.array .int) true := ⟨_, rfl, by decide +kernel, rfl, rfl⟩
theorem ft_6_6 : j_FT 6 6 .int false := ⟨_, rfl, by decide +kernel, rfl, rfl⟩
theorem ft_6_7 : j_FT 6 7 .int false := ⟨_, rfl, by decide +kernel, rfl, rfl⟩
theorem ft_6_8 : j_FT 6 8 .int false := ⟨_, rfl, by decide +kernel, rfl, rfl⟩
theorem ft_7_0 : j_FT 7 0 (.array .int) true := ⟨_, rfl, by decide +kernel, rfl, rfl⟩
theorem ft_7_1 : j_FT 7 1 (.array .int) true := ⟨_, rfl, by decide +kernel, rfl, rfl⟩
theorem ft_7_2 : j_FT 7 2 (.array .int) true := ⟨_, rfl, by decide +kernel, rfl, rfl⟩
theorem ft_7_3 : j_FT 7 3 .int true := ⟨_, rfl, by decide +kernel, rfl, rfl⟩
theorem ft_7_4 : j_FT 7 4 .int false := ⟨_, rfl, by decide +kernel, rfl, rfl⟩
theorem ft_8_0 : j_FT 8 0 .boolean false := ⟨_, rfl, by decide +kernel, rfl, rfl⟩
theorem ft_8_1 : j_FT 8 1 .int false := ⟨_, rfl, by decide +kernel, rfl, rfl⟩
theorem ft_8_2 : j_FT 8 2 .int false := ⟨_, rfl, by decide +kernel, rfl, rfl⟩
theorem ft_8_3 : j_FT 8 3 .int false := ⟨_, rfl, by decide +kernel, rfl, rfl⟩
theorem ft_8_4 : j_FT 8 4 .int false := ⟨_, rfl, by decide +kernel, rfl, rfl⟩
theorem ft_9_0 : j_FT 9 0 (.array .byte) true := ⟨_, rfl, by decide +kernel, rfl, rfl⟩
theorem ft_9_1 : j_FT 9 1 .int false := ⟨_, rfl, by decide +kernel, rfl, rfl⟩
theorem ft_9_2 : j_FT 9 2 .int false := ⟨_, rfl, by decide +kernel, rfl, rfl⟩
theorem ft_9_3 : j_FT 9 3 .int false := ⟨_, rfl, by decide +kernel, rfl, rfl⟩
theorem ft_9_4 : j_FT 9 4 .int false := ⟨_, rfl, by decide +kernel, rfl, rfl⟩
theorem ft_9_5 : j_FT 9 5 .int false := ⟨_, rfl, by decide +kernel, rfl, rfl⟩
theorem ft_9_6 : j_FT 9 6 .long false := ⟨_, rfl, by decide +kernel, rfl, rfl⟩
theorem ft_9_7 : j_FT 9 7 .int false := ⟨_, rfl, by decide +kernel, rfl, rfl⟩
theorem ft_10_0 : j_FT 10 0 (.object "HookGates$Tape") true := ⟨_, rfl, by decide +kernel, rfl, rfl⟩
theorem ft_10_1 : j_FT 10 1 (.object "HookGates$Reader") true := ⟨_, rfl, by decide +kernel, rfl, rfl⟩
theorem ft_10_2 : j_FT 10 2 (.object "HookGates$Moment") true := ⟨_, rfl, by decide +kernel, rfl, rfl⟩
theorem ft_10_3 : j_FT 10 3 (.object "HookGates$Moment") true := ⟨_, rfl, by decide +kernel, rfl, rfl⟩
theorem ft_10_4 : j_FT 10 4 (.object "HookGates$Shelf") true := ⟨_, rfl, by decide +kernel, rfl, rfl⟩
theorem ft_10_5 : j_FT 10 5 (.object "HookGates$Shelf") true := ⟨_, rfl, by decide +kernel, rfl, rfl⟩
theorem ft_10_6 : j_FT 10 6 (.object "HookGates$Errands") true := ⟨_, rfl, by decide +kernel, rfl, rfl⟩
theorem ft_10_7 : j_FT 10 7 (.object "HookGates$Survey") true := ⟨_, rfl, by decide +kernel, rfl, rfl⟩
theorem ft_10_8 : j_FT 10 8 (.object "HookGates$Fits") true := ⟨_, rfl, by decide +kernel, rfl, rfl⟩
theorem ft_10_9 : j_FT 10 9 (.object "HookGates$Ratio") true := ⟨_, rfl, by decide +kernel, rfl, rfl⟩
theorem ft_10_10 : j_FT 10 10 (.object "HookGates$Land") false := ⟨_, rfl, by decide +kernel, rfl, rfl⟩
theorem ft_10_11 : j_FT 10 11 .int false := ⟨_, rfl, by decide +kernel, rfl, rfl⟩
theorem ft_10_12 : j_FT 10 12 .int false := ⟨_, rfl, by decide +kernel, rfl, rfl⟩
theorem ft_10_13 : j_FT 10 13 .int false := ⟨_, rfl, by decide +kernel, rfl, rfl⟩
theorem ft_11_0 : j_FT 11 0 .int false := ⟨_, rfl, by decide +kernel, rfl, rfl⟩
theorem ft_11_1 : j_FT 11 1 .int false := ⟨_, rfl, by decide +kernel, rfl, rfl⟩
theorem ft_11_2 : j_FT 11 2 .int false := ⟨_, rfl, by decide +kernel, rfl, rfl⟩
theorem ft_11_3 : j_FT 11 3 .int false := ⟨_, rfl, by decide +kernel, rfl, rfl⟩
theorem ft_11_4 : j_FT 11 4 .int false := ⟨_, rfl, by decide +kernel, rfl, rfl⟩
theorem ft_11_5 : j_FT 11 5 .int false := ⟨_, rfl, by decide +kernel, rfl, rfl⟩
theorem ft_11_6 : j_FT 11 6 .int false := ⟨_, rfl, by decide +kernel, rfl, rfl⟩
theorem ft_11_7 : j_FT 11 7 .int false := ⟨_, rfl, by decide +kernel, rfl, rfl⟩
theorem ft_11_8 : j_FT 11 8 .int false := ⟨_, rfl, by decide +kernel, rfl, rfl⟩
theorem ft_11_9 : j_FT 11 9 .int false := ⟨_, rfl, by decide +kernel, rfl, rfl⟩
theorem ft_11_10 : j_FT 11 10 (.array .int) true := ⟨_, rfl, by decide +kernel, rfl, rfl⟩
theorem ft_11_11 : j_FT 11 11 (.array .int) true := ⟨_, rfl, by decide +kernel, rfl, rfl⟩
theorem ft_11_12 : j_FT 11 12 (.array .int) true := ⟨_, rfl, by decide +kernel, rfl, rfl⟩
theorem ft_11_13 : j_FT 11 13 (.array .int) true := ⟨_, rfl, by decide +kernel, rfl, rfl⟩
theorem ft_11_14 : j_FT 11 14 (.array .int) true := ⟨_, rfl, by decide +kernel, rfl, rfl⟩
theorem ft_11_15 : j_FT 11 15 (.array .int) true := ⟨_, rfl, by decide +kernel, rfl, rfl⟩
theorem ft_11_16 : j_FT 11 16 (.array .int) true := ⟨_, rfl, by decide +kernel, rfl, rfl⟩
theorem ft_11_17 : j_FT 11 17 (.array .int) true := ⟨_, rfl, by decide +kernel, rfl, rfl⟩
theorem ft_11_18 : j_FT 11 18 (.array .int) true := ⟨_, rfl, by decide +kernel, rfl, rfl⟩
theorem ft_11_19 : j_FT 11 19 (.array .int) true := ⟨_, rfl, by decide +kernel, rfl, rfl⟩
theorem ft_11_20 : j_FT 11 20 (.array .int) true := ⟨_, rfl, by decide +kernel, rfl, rfl⟩
theorem ft_11_21 : j_FT 11 21 .int false := ⟨_, rfl, by decide +kernel, rfl, rfl⟩
theorem ft_11_22 : j_FT 11 22 (.array .long) true := ⟨_, rfl, by decide +kernel, rfl, rfl⟩
theorem ft_11_23 : j_FT 11 23 (.array .int) true := ⟨_, rfl, by decide +kernel, rfl, rfl⟩
theorem ft_11_24 : j_FT 11 24 (.array .int) true := ⟨_, rfl, by decide +kernel, rfl, rfl⟩
theorem ft_12_0 : j_FT 12 0 .int false := ⟨_, rfl, by decide +kernel, rfl, rfl⟩
theorem ft_12_1 : j_FT 12 1 .int false := ⟨_, rfl, by decide +kernel, rfl, rfl⟩
theorem ft_12_2 : j_FT 12 2 .int false := ⟨_, rfl, by decide +kernel, rfl, rfl⟩
theorem ft_12_3 : j_FT 12 3 (.object "HookGatesModel$Land") false := ⟨_, rfl, by decide +kernel, rfl, rfl⟩
theorem ft_12_4 : j_FT 12 4 (.object "HookGatesModel$Land") false := ⟨_, rfl, by decide +kernel, rfl, rfl⟩
theorem ft_12_5 : j_FT 12 5 (.array .byte) true := ⟨_, rfl, by decide +kernel, rfl, rfl⟩
theorem ft_12_6 : j_FT 12 6 .int false := ⟨_, rfl, by decide +kernel, rfl, rfl⟩
theorem ft_12_7 : j_FT 12 7 .int false := ⟨_, rfl, by decide +kernel, rfl, rfl⟩
theorem ft_12_8 : j_FT 12 8 .int false := ⟨_, rfl, by decide +kernel, rfl, rfl⟩
theorem ft_12_9 : j_FT 12 9 .int false := ⟨_, rfl, by decide +kernel, rfl, rfl⟩
theorem ft_12_10 : j_FT 12 10 .int false := ⟨_, rfl, by decide +kernel, rfl, rfl⟩
theorem ft_12_11 : j_FT 12 11 .int false := ⟨_, rfl, by decide +kernel, rfl, rfl⟩
theorem ft_12_12 : j_FT 12 12 .int false := ⟨_, rfl, by decide +kernel, rfl, rfl⟩
theorem ft_12_13 : j_FT 12 13 .int false := ⟨_, rfl, by decide +kernel, rfl, rfl⟩
theorem ft_12_14 : j_FT 12 14 .long false := ⟨_, rfl, by decide +kernel, rfl, rfl⟩
theorem ft_12_15 : j_FT 12 15 (.array .int) true := ⟨_, rfl, by decide +kernel, rfl, rfl⟩
theorem ft_12_16 : j_FT 12 16 (.array .int) true := ⟨_, rfl, by decide +kernel, rfl, rfl⟩
theorem ft_12_17 : j_FT 12 17 (.array .int) true := ⟨_, rfl, by decide +kernel, rfl, rfl⟩
theorem ft_12_18 : j_FT 12 18 (.array .int) true := ⟨_, rfl, by decide +kernel, rfl, rfl⟩
theorem ft_12_19 : j_FT 12 19 .int false := ⟨_, rfl, by decide +kernel, rfl, rfl⟩
theorem ft_12_20 : j_FT 12 20 .int false := ⟨_, rfl, by decide +kernel, rfl, rfl⟩
theorem ft_12_21 : j_FT 12 21 (.array .int) true := ⟨_, rfl, by decide +kernel, rfl, rfl⟩
theorem ft_12_22 : j_FT 12 22 (.array .int) true := ⟨_, rfl, by decide +kernel, rfl, rfl⟩
theorem ft_12_23 : j_FT 12 23 (.array .int) true := ⟨_, rfl, by decide +kernel, rfl, rfl⟩
theorem ft_12_24 : j_FT 12 24 .int false := ⟨_, rfl, by decide +kernel, rfl, rfl⟩
theorem ft_12_25 : j_FT 12 25 .int false := ⟨_, rfl, by decide +kernel, rfl, rfl⟩
theorem ft_12_26 : j_FT 12 26 .int false := ⟨_, rfl, by decide +kernel, rfl, rfl⟩
theorem ft_12_27 : j_FT 12 27 (.array .int) true := ⟨_, rfl, by decide +kernel, rfl, rfl⟩
theorem ft_12_28 : j_FT 12 28 .int false := ⟨_, rfl, by decide +kernel, rfl, rfl⟩
theorem ft_12_29 : j_FT 12 29 .int false := ⟨_, rfl, by decide +kernel, rfl, rfl⟩
theorem ml_J0_335 : j_ML RJ0 335 yJ0_coder_7d493 := Or.inl (gw3 (List.mem_of_getElem? (i := 13) rfl) rfl)
theorem ml_J0_492 : j_ML RJ0 492 yJ0_isLatin1_aae02 := Or.inl (gw3 (List.mem_of_getElem? (i := 23) rfl) rfl)
theorem ml_J0_495 : j_ML RJ0 495 yJ1_charAt_3b067 := Or.inl (gw3 (List.mem_of_getElem? (i := 27) rfl) rfl)
theorem ml_J0_498 : j_ML RJ0 498 yJ2_charAt_3b067 := Or.inl (gw3 (List.mem_of_getElem? (i := 38) rfl) rfl)
theorem ml_J0_1059 : j_ML RJ0 1059 yJ3_checkIndex_8e157 := Or.inl (gw3 (List.mem_of_getElem? (i := 35) rfl) rfl)
theorem ml_J1_9 : j_ML RJ1 9 yJ0_checkIndex_df160 := Or.inl (gw3 (List.mem_of_getElem? (i := 30) rfl) rfl)
theorem ml_J2_48 : j_ML RJ2 48 yJ2_length_9d52b := Or.inl (gw3 (List.mem_of_getElem? (i := 44) rfl) rfl)
theorem ml_J2_67 : j_ML RJ2 67 yJ2_checkIndex_2214a := Or.inl (gw3 (List.mem_of_getElem? (i := 41) rfl) rfl)
theorem ml_J2_71 : j_ML RJ2 71 yJ2_getChar_3b067 := Or.inl (gw3 (List.mem_of_getElem? (i := 48) rfl) rfl)
theorem ml_J2_414 : j_ML RJ2 414 yJ0_checkIndex_df160 := Or.inl (gw3 (List.mem_of_getElem? (i := 47) rfl) rfl)
theorem mo_X0_3 : Cond.methodLink RX0 3 Lib.objectInit ∈ j_gw := (gw1 (List.mem_of_getElem? (i := 87) rfl) rfl)
theorem ml_X0_37 : j_ML RX0 37 yX11_put := Or.inr ⟨"HookGates", (nw3 (List.mem_of_getElem? (i := 176) rfl) rfl)⟩
theorem ml_X0_41 : j_ML RX0 41 yX11_at := Or.inr ⟨"HookGates", (nw3 (List.mem_of_getElem? (i := 185) rfl) rfl)⟩
theorem ml_X0_45 : j_ML RX0 45 yX3_ownersIn := Or.inl (gw4 (List.mem_of_getElem? (i := 146) rfl) rfl)
theorem ml_X0_51 : j_ML RX0 51 yX11_hasBit := Or.inr ⟨"HookGates", (nw4 (List.mem_of_getElem? (i := 147) rfl) rfl)⟩
theorem ml_X0_58 : j_ML RX0 58 yX3_wealth := Or.inl (gw5 (List.mem_of_getElem? (i := 33) rfl) rfl)
theorem mo_X1_3 : Cond.methodLink RX1 3 Lib.objectInit ∈ j_gw := (gw2 (List.mem_of_getElem? (i := 50) rfl) rfl)
theorem ml_X1_36 : j_ML RX1 36 yX1_add := Or.inl (gw4 (List.mem_of_getElem? (i := 122) rfl) rfl)
theorem ml_X1_40 : j_ML RX1 40 yX1_exploreFrom := Or.inl (gw4 (List.mem_of_getElem? (i := 133) rfl) rfl)
theorem ml_X1_49 : j_ML RX1 49 yX11_at := Or.inr ⟨"HookGates", (nw4 (List.mem_of_getElem? (i := 126) rfl) rfl)⟩
theorem ml_X1_53 : j_ML RX1 53 yX3_wayAfter := Or.inl (gw4 (List.mem_of_getElem? (i := 137) rfl) rfl)
theorem ml_X1_57 : j_ML RX1 57 yX11_hasBit := Or.inr ⟨"HookGates", (nw4 (List.mem_of_getElem? (i := 127) rfl) rfl)⟩
theorem ml_X1_61 : j_ML RX1 61 yX11_put := Or.inr ⟨"HookGates", (nw4 (List.mem_of_getElem? (i := 128) rfl) rfl)⟩
theorem ml_X1_65 : j_ML RX1 65 yX1_movesTo := Or.inl (gw4 (List.mem_of_getElem? (i := 129) rfl) rfl)
theorem ml_X1_78 : j_ML RX1 78 yX0_wantsMet := Or.inl (gw4 (List.mem_of_getElem? (i := 142) rfl) rfl)
theorem ml_X1_82 : j_ML RX1 82 yX3_wealth := Or.inl (gw4 (List.mem_of_getElem? (i := 173) rfl) rfl)
theorem mm_X1_86 : Cond.methodLink RX1 86 Lib.Math.max.name ∈ j_gw := (gw4 (List.mem_of_getElem? (i := 182) rfl) rfl)
theorem ml_X10_9 : j_ML RX10 9 yX10_bitsOf := Or.inl (gw3 (List.mem_of_getElem? (i := 145) rfl) rfl)
theorem ml_X10_15 : j_ML RX10 15 yJ6_bitCount_0f7a4 := Or.inl (gw4 (List.mem_of_getElem? (i := 89) rfl) rfl)
theorem mo_X11_1 : Cond.methodLink RX11 1 Lib.objectInit ∈ j_gw := (gw1 (List.mem_of_getElem? (i := 30) rfl) rfl)
theorem ml_X11_9 : j_ML RX11 9 yX9_init := Or.inr ⟨"HookGates", (nw1 (List.mem_of_getElem? (i := 35) rfl) rfl)⟩
theorem ml_X11_18 : j_ML RX11 18 yX6_init := Or.inl (gw1 (List.mem_of_getElem? (i := 72) rfl) rfl)
theorem ml_X11_27 : j_ML RX11 27 yX4_init := Or.inr ⟨"HookGates", (nw2 (List.mem_of_getElem? (i := 2) rfl) rfl)⟩
theorem ml_X11_37 : j_ML RX11 37 yX7_init := Or.inl (gw2 (List.mem_of_getElem? (i := 24) rfl) rfl)
theorem ml_X11_49 : j_ML RX11 49 yX1_init := Or.inr ⟨"HookGates", (nw2 (List.mem_of_getElem? (i := 47) rfl) rfl)⟩
theorem ml_X11_56 : j_ML RX11 56 yX8_init := Or.inr ⟨"HookGates", (nw2 (List.mem_of_getElem? (i := 76) rfl) rfl)⟩
theorem ml_X11_63 : j_ML RX11 63 yX2_init := Or.inr ⟨"HookGates", (nw2 (List.mem_of_getElem? (i := 102) rfl) rfl)⟩
theorem ml_X11_70 : j_ML RX11 70 yX5_init := Or.inr ⟨"HookGates", (nw2 (List.mem_of_getElem? (i := 120) rfl) rfl)⟩
theorem ml_X11_77 : j_ML RX11 77 yX3_init := Or.inr ⟨"HookGates", (nw2 (List.mem_of_getElem? (i := 134) rfl) rfl)⟩
theorem ml_X11_92 : j_ML RX11 92 yX9_hasRoomForFive := Or.inl (gw2 (List.mem_of_getElem? (i := 182) rfl) rfl)
theorem ml_X11_96 : j_ML RX11 96 yX9_addNumber := Or.inl (gw2 (List.mem_of_getElem? (i := 186) rfl) rfl)
theorem ml_X11_102 : j_ML RX11 102 yX11_refused := Or.inl (gw2 (List.mem_of_getElem? (i := 194) rfl) rfl)
theorem ml_X11_106 : j_ML RX11 106 yX6_readText := Or.inl (gw2 (List.mem_of_getElem? (i := 198) rfl) rfl)
theorem ml_X11_114 : j_ML RX11 114 yX11_settle := Or.inl (gw3 (List.mem_of_getElem? (i := 198) rfl) rfl)
theorem ml_X11_120 : j_ML RX11 120 yX11_answered := Or.inl (gw3 (List.mem_of_getElem? (i := 222) rfl) rfl)
theorem ml_X11_123 : j_ML RX11 123 yX6_handOver := Or.inl (gw3 (List.mem_of_getElem? (i := 202) rfl) rfl)
theorem ml_X11_130 : j_ML RX11 130 yX4_set := Or.inl (gw3 (List.mem_of_getElem? (i := 206) rfl) rfl)
theorem ml_X11_137 : j_ML RX11 137 yX1_forget := Or.inl (gw3 (List.mem_of_getElem? (i := 210) rfl) rfl)
theorem ml_X11_140 : j_ML RX11 140 yX8_forget := Or.inl (gw3 (List.mem_of_getElem? (i := 214) rfl) rfl)
theorem ml_X11_141 : j_ML RX11 141 yX2_forget := Or.inl (gw3 (List.mem_of_getElem? (i := 218) rfl) rfl)
theorem ml_X11_142 : j_ML RX11 142 yX11_isGate := Or.inl (gw3 (List.mem_of_getElem? (i := 238) rfl) rfl)
theorem ml_X11_149 : j_ML RX11 149 yX11_at := Or.inl (gw4 (List.mem_of_getElem? (i := 2) rfl) rfl)
theorem ml_X11_162 : j_ML RX11 162 yX10_hungAt := Or.inl (gw4 (List.mem_of_getElem? (i := 3) rfl) rfl)
theorem ml_X11_168 : j_ML RX11 168 yX3_ownersIn := Or.inl (gw4 (List.mem_of_getElem? (i := 6) rfl) rfl)
theorem ml_X11_174 : j_ML RX11 174 yX11_isPerson := Or.inl (gw4 (List.mem_of_getElem? (i := 15) rfl) rfl)
theorem ml_X11_177 : j_ML RX11 177 yX3_wealth := Or.inl (gw4 (List.mem_of_getElem? (i := 19) rfl) rfl)
theorem ml_X11_180 : j_ML RX11 180 yX3_gatesOwned := Or.inl (gw4 (List.mem_of_getElem? (i := 28) rfl) rfl)
theorem ml_X11_183 : j_ML RX11 183 yX3_gatesOwnedAlone := Or.inl (gw4 (List.mem_of_getElem? (i := 33) rfl) rfl)
theorem ml_X11_186 : j_ML RX11 186 yX3_firmsWith := Or.inl (gw4 (List.mem_of_getElem? (i := 41) rfl) rfl)
theorem ml_X11_198 : j_ML RX11 198 yX3_wealthOfFirm := Or.inl (gw4 (List.mem_of_getElem? (i := 49) rfl) rfl)
theorem ml_X11_201 : j_ML RX11 201 yX11_hasLand := Or.inl (gw4 (List.mem_of_getElem? (i := 61) rfl) rfl)
theorem ml_X11_204 : j_ML RX11 204 yX3_gatesUnowned := Or.inl (gw4 (List.mem_of_getElem? (i := 65) rfl) rfl)
theorem ml_X11_207 : j_ML RX11 207 yX3_wealthiest := Or.inl (gw4 (List.mem_of_getElem? (i := 73) rfl) rfl)
theorem ml_X11_210 : j_ML RX11 210 yX3_hooksLying := Or.inl (gw4 (List.mem_of_getElem? (i := 82) rfl) rfl)
theorem ml_X11_213 : j_ML RX11 213 yX11_isHung := Or.inl (gw4 (List.mem_of_getElem? (i := 94) rfl) rfl)
theorem ml_X11_216 : j_ML RX11 216 yX10_with := Or.inl (gw4 (List.mem_of_getElem? (i := 97) rfl) rfl)
theorem ml_X11_220 : j_ML RX11 220 yX3_wayAfter := Or.inl (gw4 (List.mem_of_getElem? (i := 102) rfl) rfl)
theorem ml_X11_223 : j_ML RX11 223 yX1_explore := Or.inl (gw4 (List.mem_of_getElem? (i := 118) rfl) rfl)
theorem ml_X11_227 : j_ML RX11 227 yX1_firstMeetingWants := Or.inl (gw4 (List.mem_of_getElem? (i := 138) rfl) rfl)
theorem ml_X11_231 : j_ML RX11 231 yX1_movesTo := Or.inl (gw4 (List.mem_of_getElem? (i := 148) rfl) rfl)
theorem ml_X11_234 : j_ML RX11 234 yX1_moveTowards := Or.inl (gw4 (List.mem_of_getElem? (i := 153) rfl) rfl)
theorem ml_X11_241 : j_ML RX11 241 yX0_wantsMet := Or.inl (gw4 (List.mem_of_getElem? (i := 161) rfl) rfl)
theorem ml_X11_247 : j_ML RX11 247 yX11_isMuch := Or.inl (gw4 (List.mem_of_getElem? (i := 166) rfl) rfl)
theorem ml_X11_250 : j_ML RX11 250 yX1_firstWithWealth := Or.inl (gw4 (List.mem_of_getElem? (i := 169) rfl) rfl)
theorem ml_X11_254 : j_ML RX11 254 yX1_mostWealthWithin := Or.inl (gw4 (List.mem_of_getElem? (i := 178) rfl) rfl)
theorem ml_X11_258 : j_ML RX11 258 yX8_make := Or.inl (gw4 (List.mem_of_getElem? (i := 193) rfl) rfl)
theorem ml_X11_265 : j_ML RX11 265 yX10_hooksIn := Or.inl (gw4 (List.mem_of_getElem? (i := 230) rfl) rfl)
theorem ml_X11_271 : j_ML RX11 271 yX3_isStillWay := Or.inl (gw5 (List.mem_of_getElem? (i := 3) rfl) rfl)
theorem ml_X11_280 : j_ML RX11 280 yX2_find := Or.inl (gw5 (List.mem_of_getElem? (i := 16) rfl) rfl)
theorem ml_X11_284 : j_ML RX11 284 yX11_isLost := Or.inl (gw5 (List.mem_of_getElem? (i := 39) rfl) rfl)
theorem ml_X11_290 : j_ML RX11 290 yX2_countHung := Or.inl (gw5 (List.mem_of_getElem? (i := 47) rfl) rfl)
theorem ml_X11_296 : j_ML RX11 296 yX2_bestToLookAt := Or.inl (gw5 (List.mem_of_getElem? (i := 55) rfl) rfl)
theorem ml_X11_299 : j_ML RX11 299 yX2_mostLeft := Or.inl (gw5 (List.mem_of_getElem? (i := 69) rfl) rfl)
theorem ml_X11_302 : j_ML RX11 302 yX0_firstBelied := Or.inl (gw5 (List.mem_of_getElem? (i := 74) rfl) rfl)
theorem ml_X11_305 : j_ML RX11 305 yX3_fewestPaths := Or.inl (gw5 (List.mem_of_getElem? (i := 79) rfl) rfl)
theorem ml_X11_308 : j_ML RX11 308 yX3_fewestSentries := Or.inl (gw5 (List.mem_of_getElem? (i := 91) rfl) rfl)
theorem ml_X11_312 : j_ML RX11 312 yX3_countParts := Or.inl (gw5 (List.mem_of_getElem? (i := 99) rfl) rfl)
theorem ml_X11_315 : j_ML RX11 315 yX3_together := Or.inl (gw5 (List.mem_of_getElem? (i := 111) rfl) rfl)
theorem ml_X11_318 : j_ML RX11 318 yX3_wealthAt := Or.inl (gw5 (List.mem_of_getElem? (i := 112) rfl) rfl)
theorem ml_X11_321 : j_ML RX11 321 yX5_setPower := Or.inl (gw5 (List.mem_of_getElem? (i := 120) rfl) rfl)
theorem ml_X11_325 : j_ML RX11 325 yX11_told := Or.inl (gw5 (List.mem_of_getElem? (i := 140) rfl) rfl)
theorem ml_X11_329 : j_ML RX11 329 yX3_fewestRulers := Or.inl (gw5 (List.mem_of_getElem? (i := 148) rfl) rfl)
theorem ml_X11_332 : j_ML RX11 332 yX11_mayPlay := Or.inl (gw5 (List.mem_of_getElem? (i := 157) rfl) rfl)
theorem ml_X11_335 : j_ML RX11 335 yX11_payOf := Or.inl (gw5 (List.mem_of_getElem? (i := 165) rfl) rfl)
theorem ml_X11_339 : j_ML RX11 339 yX11_countRests := Or.inl (gw5 (List.mem_of_getElem? (i := 172) rfl) rfl)
theorem ml_X11_342 : j_ML RX11 342 yX11_firstRest := Or.inl (gw5 (List.mem_of_getElem? (i := 182) rfl) rfl)
theorem ml_X11_345 : j_ML RX11 345 yX11_denied := Or.inl (gw5 (List.mem_of_getElem? (i := 161) rfl) rfl)
theorem ml_X11_348 : j_ML RX11 348 yX11_isRestPair := Or.inl (gw5 (List.mem_of_getElem? (i := 175) rfl) rfl)
theorem ml_X11_352 : j_ML RX11 352 yX3_fallingIn := Or.inl (gw5 (List.mem_of_getElem? (i := 189) rfl) rfl)
theorem ml_X11_355 : j_ML RX11 355 yX5_setHolding := Or.inl (gw5 (List.mem_of_getElem? (i := 193) rfl) rfl)
theorem ml_X11_359 : j_ML RX11 359 yX5_setMean := Or.inl (gw5 (List.mem_of_getElem? (i := 202) rfl) rfl)
theorem ml_X11_362 : j_ML RX11 362 yX5_setKeeping := Or.inl (gw5 (List.mem_of_getElem? (i := 213) rfl) rfl)
theorem ml_X11_366 : j_ML RX11 366 yX11_isSeed := Or.inl (gw5 (List.mem_of_getElem? (i := 228) rfl) rfl)
theorem ml_X11_369 : j_ML RX11 369 yX11_isDrawnYears := Or.inl (gw5 (List.mem_of_getElem? (i := 232) rfl) rfl)
theorem ml_X11_372 : j_ML RX11 372 yX4_blow := Or.inl (gw5 (List.mem_of_getElem? (i := 235) rfl) rfl)
theorem ml_X11_378 : j_ML RX11 378 yX11_act := Or.inl (gw6 (List.mem_of_getElem? (i := 12) rfl) rfl)
theorem ml_X11_381 : j_ML RX11 381 yX11_mayAlter := Or.inl (gw6 (List.mem_of_getElem? (i := 29) rfl) rfl)
theorem ml_X11_384 : j_ML RX11 384 yX7_addLatest := Or.inl (gw6 (List.mem_of_getElem? (i := 16) rfl) rfl)
theorem ml_X11_394 : j_ML RX11 394 yX7_bringBack := Or.inl (gw6 (List.mem_of_getElem? (i := 49) rfl) rfl)
theorem ml_X11_398 : j_ML RX11 398 yX3_beggar := Or.inl (gw6 (List.mem_of_getElem? (i := 79) rfl) rfl)
theorem mo_X12_3 : Cond.methodLink RX12 3 Lib.objectInit ∈ j_gw := (gw7 (List.mem_of_getElem? (i := 22) rfl) rfl)
theorem mo_X13_3 : Cond.methodLink RX13 3 Lib.objectInit ∈ j_gw := (gw6 (List.mem_of_getElem? (i := 149) rfl) rfl)
theorem ml_X13_48 : j_ML RX13 48 yX13_refused := Or.inl (gw7 (List.mem_of_getElem? (i := 13) rfl) rfl)
theorem ml_X13_52 : j_ML RX13 52 yX13_good := Or.inl (gw8 (List.mem_of_getElem? (i := 21) rfl) rfl)
theorem ml_X13_55 : j_ML RX13 55 yX13_common := Or.inl (gw9 (List.mem_of_getElem? (i := 68) rfl) rfl)
theorem ml_X13_62 : j_ML RX13 62 yJ0_length_8abf5 := Or.inl (gw7 (List.mem_of_getElem? (i := 147) rfl) rfl)
theorem ml_X13_70 : j_ML RX13 70 yJ0_charAt_5068e := Or.inl (gw7 (List.mem_of_getElem? (i := 148) rfl) rfl)
theorem ml_X13_80 : j_ML RX13 80 yX13_byteAt := Or.inl (gw7 (List.mem_of_getElem? (i := 120) rfl) rfl)
theorem ml_X13_86 : j_ML RX13 86 yX13_isLetter := Or.inl (gw7 (List.mem_of_getElem? (i := 124) rfl) rfl)
theorem ml_X13_94 : j_ML RX13 94 yX13_isDigit := Or.inl (gw7 (List.mem_of_getElem? (i := 128) rfl) rfl)
theorem ml_X13_106 : j_ML RX13 106 yX13_packed := Or.inl (gw7 (List.mem_of_getElem? (i := 144) rfl) rfl)
theorem ml_X13_110 : j_ML RX13 110 yX13_goesOn := Or.inl (gw7 (List.mem_of_getElem? (i := 116) rfl) rfl)
theorem ml_X13_113 : j_ML RX13 113 yX13_isWord := Or.inl (gw7 (List.mem_of_getElem? (i := 140) rfl) rfl)
theorem ml_X13_117 : j_ML RX13 117 yX13_flaw := Or.inl (gw7 (List.mem_of_getElem? (i := 153) rfl) rfl)
theorem ml_X13_121 : j_ML RX13 121 yX13_in := Or.inl (gw7 (List.mem_of_getElem? (i := 170) rfl) rfl)
theorem ml_X13_125 : j_ML RX13 125 yX13_needs := Or.inl (gw7 (List.mem_of_getElem? (i := 162) rfl) rfl)
theorem ml_X13_129 : j_ML RX13 129 yX13_readWhole := Or.inl (gw7 (List.mem_of_getElem? (i := 166) rfl) rfl)
theorem ml_X13_160 : j_ML RX13 160 yX13_isName := Or.inl (gw7 (List.mem_of_getElem? (i := 187) rfl) rfl)
theorem ml_X13_164 : j_ML RX13 164 yX12_find := Or.inl (gw7 (List.mem_of_getElem? (i := 198) rfl) rfl)
theorem ml_X13_181 : j_ML RX13 181 yX13_knownOne := Or.inl (gw7 (List.mem_of_getElem? (i := 214) rfl) rfl)
theorem ml_X13_184 : j_ML RX13 184 yX13_readLine := Or.inl (gw7 (List.mem_of_getElem? (i := 135) rfl) rfl)
theorem ml_X13_187 : j_ML RX13 187 yX13_eats := Or.inl (gw7 (List.mem_of_getElem? (i := 218) rfl) rfl)
theorem ml_X13_194 : j_ML RX13 194 yX13_readLand := Or.inl (gw7 (List.mem_of_getElem? (i := 149) rfl) rfl)
theorem ml_X13_197 : j_ML RX13 197 yX13_readPerson := Or.inl (gw7 (List.mem_of_getElem? (i := 175) rfl) rfl)
theorem ml_X13_200 : j_ML RX13 200 yX13_readFirm := Or.inl (gw7 (List.mem_of_getElem? (i := 206) rfl) rfl)
theorem ml_X13_203 : j_ML RX13 203 yX13_readGate := Or.inl (gw7 (List.mem_of_getElem? (i := 225) rfl) rfl)
theorem ml_X13_206 : j_ML RX13 206 yX13_readPath := Or.inl (gw7 (List.mem_of_getElem? (i := 237) rfl) rfl)
theorem ml_X13_209 : j_ML RX13 209 yX13_readWants := Or.inl (gw8 (List.mem_of_getElem? (i := 1) rfl) rfl)
theorem ml_X13_213 : j_ML RX13 213 yX13_readLost := Or.inl (gw8 (List.mem_of_getElem? (i := 5) rfl) rfl)
theorem ml_X13_216 : j_ML RX13 216 yX13_readHad := Or.inl (gw8 (List.mem_of_getElem? (i := 13) rfl) rfl)
theorem ml_X13_221 : j_ML RX13 221 yX13_readPart := Or.inl (gw7 (List.mem_of_getElem? (i := 158) rfl) rfl)
theorem ml_X13_232 : j_ML RX13 232 yX13_lineBegins := Or.inl (gw7 (List.mem_of_getElem? (i := 179) rfl) rfl)
theorem ml_X13_236 : j_ML RX13 236 yX13_readFresh := Or.inl (gw7 (List.mem_of_getElem? (i := 183) rfl) rfl)
theorem ml_X13_240 : j_ML RX13 240 yX13_names := Or.inl (gw7 (List.mem_of_getElem? (i := 202) rfl) rfl)
theorem ml_X13_246 : j_ML RX13 246 yX13_readKnown := Or.inl (gw7 (List.mem_of_getElem? (i := 210) rfl) rfl)
theorem ml_X13_249 : j_ML RX13 249 yX13_bit := Or.inl (gw7 (List.mem_of_getElem? (i := 222) rfl) rfl)
theorem ml_X13_304 : j_ML RX13 304 yX12_isLost := Or.inl (gw8 (List.mem_of_getElem? (i := 9) rfl) rfl)
theorem ml_X13_317 : j_ML RX13 317 yX12_init := Or.inl (gw7 (List.mem_of_getElem? (i := 19) rfl) rfl)
theorem ml_X13_318 : j_ML RX13 318 yX13_readAll := Or.inl (gw7 (List.mem_of_getElem? (i := 131) rfl) rfl)
theorem ml_X13_323 : j_ML RX13 323 yX13_asTold := Or.inl (gw8 (List.mem_of_getElem? (i := 17) rfl) rfl)
theorem ml_X13_332 : j_ML RX13 332 yX13_ownersIf := Or.inl (gw8 (List.mem_of_getElem? (i := 49) rfl) rfl)
theorem ml_X13_335 : j_ML RX13 335 yX13_bits := Or.inl (gw8 (List.mem_of_getElem? (i := 69) rfl) rfl)
theorem ml_X13_338 : j_ML RX13 338 yX13_shareIf := Or.inl (gw8 (List.mem_of_getElem? (i := 65) rfl) rfl)
theorem ml_X13_342 : j_ML RX13 342 yX13_owners := Or.inl (gw8 (List.mem_of_getElem? (i := 45) rfl) rfl)
theorem ml_X13_345 : j_ML RX13 345 yX13_isGate := Or.inl (gw8 (List.mem_of_getElem? (i := 37) rfl) rfl)
theorem ml_X13_348 : j_ML RX13 348 yX13_works := Or.inl (gw8 (List.mem_of_getElem? (i := 41) rfl) rfl)
theorem ml_X13_351 : j_ML RX13 351 yX13_isPerson := Or.inl (gw8 (List.mem_of_getElem? (i := 57) rfl) rfl)
theorem ml_X13_354 : j_ML RX13 354 yX13_has := Or.inl (gw8 (List.mem_of_getElem? (i := 61) rfl) rfl)
theorem ml_X13_357 : j_ML RX13 357 yX13_owned := Or.inl (gw8 (List.mem_of_getElem? (i := 72) rfl) rfl)
theorem ml_X13_360 : j_ML RX13 360 yX13_ownedAlone := Or.inl (gw8 (List.mem_of_getElem? (i := 76) rfl) rfl)
theorem ml_X13_363 : j_ML RX13 363 yX13_firmsOf := Or.inl (gw8 (List.mem_of_getElem? (i := 80) rfl) rfl)
theorem ml_X13_366 : j_ML RX13 366 yX13_isFirm := Or.inl (gw8 (List.mem_of_getElem? (i := 88) rfl) rfl)
theorem ml_X13_369 : j_ML RX13 369 yX13_hung := Or.inl (gw8 (List.mem_of_getElem? (i := 116) rfl) rfl)
theorem ml_X13_372 : j_ML RX13 372 yX13_hooks := Or.inl (gw8 (List.mem_of_getElem? (i := 120) rfl) rfl)
theorem ml_X13_374 : j_ML RX13 374 yX13_canMove := Or.inl (gw8 (List.mem_of_getElem? (i := 112) rfl) rfl)
theorem ml_X13_377 : j_ML RX13 377 yX13_numbered := Or.inl (gw8 (List.mem_of_getElem? (i := 136) rfl) rfl)
theorem ml_X13_383 : j_ML RX13 383 yX13_lays := Or.inl (gw8 (List.mem_of_getElem? (i := 140) rfl) rfl)
theorem ml_X13_386 : j_ML RX13 386 yX13_moves := Or.inl (gw8 (List.mem_of_getElem? (i := 144) rfl) rfl)
theorem ml_X13_389 : j_ML RX13 389 yX13_isMet := Or.inl (gw8 (List.mem_of_getElem? (i := 152) rfl) rfl)
theorem ml_X13_392 : j_ML RX13 392 yX13_reaches := Or.inl (gw8 (List.mem_of_getElem? (i := 132) rfl) rfl)
theorem ml_X13_395 : j_ML RX13 395 yX13_metNow := Or.inl (gw8 (List.mem_of_getElem? (i := 148) rfl) rfl)
theorem ml_X13_398 : j_ML RX13 398 yX13_errandEnd := Or.inl (gw8 (List.mem_of_getElem? (i := 128) rfl) rfl)
theorem ml_X13_401 : j_ML RX13 401 yX13_refusesMuch := Or.inl (gw8 (List.mem_of_getElem? (i := 168) rfl) rfl)
theorem ml_X13_405 : j_ML RX13 405 yX13_ways := Or.inl (gw8 (List.mem_of_getElem? (i := 188) rfl) rfl)
theorem ml_X13_408 : j_ML RX13 408 yX13_may := Or.inl (gw8 (List.mem_of_getElem? (i := 192) rfl) rfl)
theorem ml_X13_411 : j_ML RX13 411 yX13_least := Or.inl (gw8 (List.mem_of_getElem? (i := 196) rfl) rfl)
theorem ml_X13_414 : j_ML RX13 414 yX13_coverWay := Or.inl (gw8 (List.mem_of_getElem? (i := 184) rfl) rfl)
theorem ml_X13_417 : j_ML RX13 417 yX13_isCalm := Or.inl (gw8 (List.mem_of_getElem? (i := 208) rfl) rfl)
theorem ml_X13_420 : j_ML RX13 420 yX13_fairWay := Or.inl (gw8 (List.mem_of_getElem? (i := 220) rfl) rfl)
theorem ml_X13_429 : j_ML RX13 429 yX13_guesses := Or.inl (gw8 (List.mem_of_getElem? (i := 236) rfl) rfl)
theorem ml_X13_432 : j_ML RX13 432 yX13_guess := Or.inl (gw9 (List.mem_of_getElem? (i := 0) rfl) rfl)
theorem ml_X13_435 : j_ML RX13 435 yX13_wrong := Or.inl (gw9 (List.mem_of_getElem? (i := 4) rfl) rfl)
theorem ml_X13_438 : j_ML RX13 438 yX13_fitting := Or.inl (gw8 (List.mem_of_getElem? (i := 232) rfl) rfl)
theorem ml_X13_441 : j_ML RX13 441 yX13_isLostOne := Or.inl (gw9 (List.mem_of_getElem? (i := 12) rfl) rfl)
theorem ml_X13_447 : j_ML RX13 447 yX13_looks := Or.inl (gw9 (List.mem_of_getElem? (i := 24) rfl) rfl)
theorem ml_X13_450 : j_ML RX13 450 yX13_around := Or.inl (gw9 (List.mem_of_getElem? (i := 44) rfl) rfl)
theorem ml_X13_453 : j_ML RX13 453 yX13_steps := Or.inl (gw9 (List.mem_of_getElem? (i := 40) rfl) rfl)
theorem ml_X13_456 : j_ML RX13 456 yX13_votes := Or.inl (gw9 (List.mem_of_getElem? (i := 79) rfl) rfl)
theorem ml_X13_459 : j_ML RX13 459 yX13_everybody := Or.inl (gw9 (List.mem_of_getElem? (i := 83) rfl) rfl)
theorem ml_X13_462 : j_ML RX13 462 yX13_fraction := Or.inl (gw9 (List.mem_of_getElem? (i := 64) rfl) rfl)
theorem ml_X13_466 : j_ML RX13 466 yX13_voters := Or.inl (gw9 (List.mem_of_getElem? (i := 71) rfl) rfl)
theorem ml_X13_469 : j_ML RX13 469 yX13_isMore := Or.inl (gw9 (List.mem_of_getElem? (i := 75) rfl) rfl)
theorem ml_X13_472 : j_ML RX13 472 yX13_refusesWorth := Or.inl (gw9 (List.mem_of_getElem? (i := 95) rfl) rfl)
theorem ml_X13_475 : j_ML RX13 475 yX13_lost := Or.inl (gw9 (List.mem_of_getElem? (i := 99) rfl) rfl)
theorem ml_X13_477 : j_ML RX13 477 yX13_sentrys := Or.inl (gw9 (List.mem_of_getElem? (i := 103) rfl) rfl)
theorem ml_X13_481 : j_ML RX13 481 yX13_thiefs := Or.inl (gw9 (List.mem_of_getElem? (i := 106) rfl) rfl)
theorem ml_X13_484 : j_ML RX13 484 yX13_isRest := Or.inl (gw9 (List.mem_of_getElem? (i := 113) rfl) rfl)
theorem ml_X13_487 : j_ML RX13 487 yX13_falls := Or.inl (gw9 (List.mem_of_getElem? (i := 124) rfl) rfl)
theorem ml_X13_502 : j_ML RX13 502 yX13_refusesSeed := Or.inl (gw9 (List.mem_of_getElem? (i := 141) rfl) rfl)
theorem ml_X13_506 : j_ML RX13 506 yX13_aYear := Or.inl (gw9 (List.mem_of_getElem? (i := 146) rfl) rfl)
theorem ml_X13_509 : j_ML RX13 509 yX13_isBare := Or.inl (gw9 (List.mem_of_getElem? (i := 157) rfl) rfl)
theorem ml_X13_512 : j_ML RX13 512 yX13_denied := Or.inl (gw9 (List.mem_of_getElem? (i := 165) rfl) rfl)
theorem ml_X13_515 : j_ML RX13 515 yX13_remembers := Or.inl (gw9 (List.mem_of_getElem? (i := 169) rfl) rfl)
theorem ml_X13_518 : j_ML RX13 518 yX13_granted := Or.inl (gw9 (List.mem_of_getElem? (i := 173) rfl) rfl)
theorem ml_X13_521 : j_ML RX13 521 yX13_refusesHung := Or.inl (gw9 (List.mem_of_getElem? (i := 181) rfl) rfl)
theorem mo_X2_3 : Cond.methodLink RX2 3 Lib.objectInit ∈ j_gw := (gw2 (List.mem_of_getElem? (i := 105) rfl) rfl)
theorem ml_X2_34 : j_ML RX2 34 yX10_codesOf := Or.inl (gw5 (List.mem_of_getElem? (i := 20) rfl) rfl)
theorem ml_X2_40 : j_ML RX2 40 yX10_fromCode := Or.inl (gw5 (List.mem_of_getElem? (i := 21) rfl) rfl)
theorem ml_X2_44 : j_ML RX2 44 yX10_isWay := Or.inl (gw5 (List.mem_of_getElem? (i := 22) rfl) rfl)
theorem ml_X2_48 : j_ML RX2 48 yX2_isFit := Or.inl (gw5 (List.mem_of_getElem? (i := 23) rfl) rfl)
theorem ml_X2_52 : j_ML RX2 52 yX11_put := Or.inr ⟨"HookGates", (nw5 (List.mem_of_getElem? (i := 34) rfl) rfl)⟩
theorem ml_X2_62 : j_ML RX2 62 yX11_at := Or.inr ⟨"HookGates", (nw5 (List.mem_of_getElem? (i := 26) rfl) rfl)⟩
theorem ml_X2_66 : j_ML RX2 66 yX10_hungAt := Or.inl (gw5 (List.mem_of_getElem? (i := 27) rfl) rfl)
theorem ml_X2_69 : j_ML RX2 69 yX10_with := Or.inl (gw5 (List.mem_of_getElem? (i := 28) rfl) rfl)
theorem ml_X2_73 : j_ML RX2 73 yX0_firstBelied := Or.inl (gw5 (List.mem_of_getElem? (i := 29) rfl) rfl)
theorem ml_X2_77 : j_ML RX2 77 yX2_countHung := Or.inl (gw5 (List.mem_of_getElem? (i := 63) rfl) rfl)
theorem mm_X2_80 : Cond.methodLink RX2 80 Lib.Math.max.name ∈ j_gw := (gw5 (List.mem_of_getElem? (i := 64) rfl) rfl)
theorem ml_X2_85 : j_ML RX2 85 yX2_mostLeft := Or.inl (gw5 (List.mem_of_getElem? (i := 59) rfl) rfl)
theorem mo_X3_3 : Cond.methodLink RX3 3 Lib.objectInit ∈ j_gw := (gw1 (List.mem_of_getElem? (i := 81) rfl) rfl)
theorem ml_X3_38 : j_ML RX3 38 yX0_init := Or.inr ⟨"HookGates", (nw1 (List.mem_of_getElem? (i := 84) rfl) rfl)⟩
theorem ml_X3_68 : j_ML RX3 68 yX0_clear := Or.inl (gw2 (List.mem_of_getElem? (i := 206) rfl) rfl)
theorem ml_X3_71 : j_ML RX3 71 yX11_put := Or.inr ⟨"HookGates", (nw3 (List.mem_of_getElem? (i := 141) rfl) rfl)⟩
theorem ml_X3_75 : j_ML RX3 75 yX10_with := Or.inl (gw3 (List.mem_of_getElem? (i := 142) rfl) rfl)
theorem ml_X3_81 : j_ML RX3 81 yX10_bitsOf := Or.inl (gw3 (List.mem_of_getElem? (i := 148) rfl) rfl)
theorem ml_X3_85 : j_ML RX3 85 yX3_reckonOwners := Or.inl (gw3 (List.mem_of_getElem? (i := 149) rfl) rfl)
theorem ml_X3_89 : j_ML RX3 89 yX11_at := Or.inr ⟨"HookGates", (nw3 (List.mem_of_getElem? (i := 153) rfl) rfl)⟩
theorem ml_X3_93 : j_ML RX3 93 yJ6_bitCount_0f7a4 := Or.inl (gw3 (List.mem_of_getElem? (i := 154) rfl) rfl)
theorem ml_X3_98 : j_ML RX3 98 yX10_hungAt := Or.inl (gw4 (List.mem_of_getElem? (i := 10) rfl) rfl)
theorem ml_X3_102 : j_ML RX3 102 yX11_hasBit := Or.inr ⟨"HookGates", (nw4 (List.mem_of_getElem? (i := 27) rfl) rfl)⟩
theorem ml_X3_106 : j_ML RX3 106 yX3_shareIn := Or.inl (gw4 (List.mem_of_getElem? (i := 23) rfl) rfl)
theorem ml_X3_109 : j_ML RX3 109 yX3_wealth := Or.inl (gw4 (List.mem_of_getElem? (i := 77) rfl) rfl)
theorem ml_X3_112 : j_ML RX3 112 yX3_ownersIn := Or.inl (gw4 (List.mem_of_getElem? (i := 32) rfl) rfl)
theorem ml_X3_115 : j_ML RX3 115 yX3_portionIn := Or.inl (gw4 (List.mem_of_getElem? (i := 53) rfl) rfl)
theorem ml_X3_118 : j_ML RX3 118 yX3_gatesOwnedJustBy := Or.inl (gw4 (List.mem_of_getElem? (i := 37) rfl) rfl)
theorem mm_X3_121 : Cond.methodLink RX3 121 Lib.Math.min.name ∈ j_gw := (gw4 (List.mem_of_getElem? (i := 218) rfl) rfl)
theorem ml_X3_126 : j_ML RX3 126 yX10_hooksIn := Or.inl (gw4 (List.mem_of_getElem? (i := 86) rfl) rfl)
theorem ml_X3_129 : j_ML RX3 129 yX10_isWay := Or.inl (gw4 (List.mem_of_getElem? (i := 207) rfl) rfl)
theorem ml_X3_133 : j_ML RX3 133 yX3_hooksLying := Or.inl (gw4 (List.mem_of_getElem? (i := 110) rfl) rfl)
theorem ml_X3_136 : j_ML RX3 136 yX3_isGuarded := Or.inl (gw4 (List.mem_of_getElem? (i := 106) rfl) rfl)
theorem ml_X3_139 : j_ML RX3 139 yX3_turned := Or.inl (gw4 (List.mem_of_getElem? (i := 111) rfl) rfl)
theorem ml_X3_142 : j_ML RX3 142 yX3_someoneGains := Or.inl (gw4 (List.mem_of_getElem? (i := 226) rfl) rfl)
theorem ml_X3_146 : j_ML RX3 146 yX3_widened := Or.inl (gw5 (List.mem_of_getElem? (i := 83) rfl) rfl)
theorem ml_X3_149 : j_ML RX3 149 yX3_together := Or.inl (gw5 (List.mem_of_getElem? (i := 103) rfl) rfl)
theorem ml_X3_152 : j_ML RX3 152 yX3_wealthOfSet := Or.inl (gw5 (List.mem_of_getElem? (i := 152) rfl) rfl)
theorem mo_X4_3 : Cond.methodLink RX4 3 Lib.objectInit ∈ j_gw := (gw2 (List.mem_of_getElem? (i := 5) rfl) rfl)
theorem ml_X4_26 : j_ML RX4 26 yX3_isGuarded := Or.inl (gw5 (List.mem_of_getElem? (i := 239) rfl) rfl)
theorem ml_X4_30 : j_ML RX4 30 yX10_hungAt := Or.inl (gw6 (List.mem_of_getElem? (i := 0) rfl) rfl)
theorem ml_X4_37 : j_ML RX4 37 yX3_fallingIn := Or.inl (gw6 (List.mem_of_getElem? (i := 2) rfl) rfl)
theorem ml_X4_40 : j_ML RX4 40 yX10_with := Or.inl (gw6 (List.mem_of_getElem? (i := 3) rfl) rfl)
theorem mo_X5_3 : Cond.methodLink RX5 3 Lib.objectInit ∈ j_gw := (gw2 (List.mem_of_getElem? (i := 123) rfl) rfl)
theorem ml_X5_9 : j_ML RX5 9 yX5_commonDivisor := Or.inl (gw5 (List.mem_of_getElem? (i := 137) rfl) rfl)
theorem ml_X5_22 : j_ML RX5 22 yX3_wealth := Or.inl (gw5 (List.mem_of_getElem? (i := 124) rfl) rfl)
theorem ml_X5_28 : j_ML RX5 28 yX3_peopleWithWealth := Or.inl (gw5 (List.mem_of_getElem? (i := 125) rfl) rfl)
theorem ml_X5_32 : j_ML RX5 32 yX3_wealthOfSet := Or.inl (gw5 (List.mem_of_getElem? (i := 129) rfl) rfl)
theorem ml_X5_35 : j_ML RX5 35 yX5_set := Or.inl (gw5 (List.mem_of_getElem? (i := 133) rfl) rfl)
theorem ml_X5_45 : j_ML RX5 45 yX3_fallingIn := Or.inl (gw5 (List.mem_of_getElem? (i := 206) rfl) rfl)
theorem ml_X5_48 : j_ML RX5 48 yX10_with := Or.inl (gw5 (List.mem_of_getElem? (i := 207) rfl) rfl)
theorem ml_X5_54 : j_ML RX5 54 yX3_shareIn := Or.inl (gw5 (List.mem_of_getElem? (i := 208) rfl) rfl)
theorem ml_X5_57 : j_ML RX5 57 yX5_wayWithout := Or.inl (gw5 (List.mem_of_getElem? (i := 217) rfl) rfl)
theorem ml_X5_60 : j_ML RX5 60 yX5_likelihood := Or.inl (gw5 (List.mem_of_getElem? (i := 221) rfl) rfl)
theorem ml_X5_64 : j_ML RX5 64 yX11_hasBit := Or.inr ⟨"HookGates", (nw5 (List.mem_of_getElem? (i := 220) rfl) rfl)⟩
theorem mo_X6_3 : Cond.methodLink RX6 3 Lib.objectInit ∈ j_gw := (gw1 (List.mem_of_getElem? (i := 75) rfl) rfl)
theorem ml_X6_11 : j_ML RX6 11 yX3_init := Or.inr ⟨"HookGates", (nw1 (List.mem_of_getElem? (i := 78) rfl) rfl)⟩
theorem ml_X6_33 : j_ML RX6 33 yX3_clear := Or.inl (gw2 (List.mem_of_getElem? (i := 202) rfl) rfl)
theorem ml_X6_50 : j_ML RX6 50 yX9_startReading := Or.inl (gw2 (List.mem_of_getElem? (i := 210) rfl) rfl)
theorem ml_X6_56 : j_ML RX6 56 yX6_readLine := Or.inl (gw2 (List.mem_of_getElem? (i := 236) rfl) rfl)
theorem ml_X6_66 : j_ML RX6 66 yX6_fail := Or.inl (gw3 (List.mem_of_getElem? (i := 65) rfl) rfl)
theorem ml_X6_70 : j_ML RX6 70 yX9_advance := Or.inl (gw3 (List.mem_of_getElem? (i := 73) rfl) rfl)
theorem ml_X6_73 : j_ML RX6 73 yX6_lineOf := Or.inl (gw3 (List.mem_of_getElem? (i := 0) rfl) rfl)
theorem ml_X6_77 : j_ML RX6 77 yX6_readLandLine := Or.inl (gw3 (List.mem_of_getElem? (i := 69) rfl) rfl)
theorem ml_X6_80 : j_ML RX6 80 yX6_isFull := Or.inl (gw3 (List.mem_of_getElem? (i := 84) rfl) rfl)
theorem ml_X6_83 : j_ML RX6 83 yX6_readPerson := Or.inl (gw3 (List.mem_of_getElem? (i := 88) rfl) rfl)
theorem ml_X6_86 : j_ML RX6 86 yX6_readFirm := Or.inl (gw3 (List.mem_of_getElem? (i := 100) rfl) rfl)
theorem ml_X6_89 : j_ML RX6 89 yX6_readGate := Or.inl (gw3 (List.mem_of_getElem? (i := 117) rfl) rfl)
theorem ml_X6_92 : j_ML RX6 92 yX6_readPath := Or.inl (gw3 (List.mem_of_getElem? (i := 160) rfl) rfl)
theorem ml_X6_95 : j_ML RX6 95 yX6_readWant := Or.inl (gw3 (List.mem_of_getElem? (i := 168) rfl) rfl)
theorem ml_X6_98 : j_ML RX6 98 yX6_readLost := Or.inl (gw3 (List.mem_of_getElem? (i := 177) rfl) rfl)
theorem ml_X6_101 : j_ML RX6 101 yX6_readHad := Or.inl (gw3 (List.mem_of_getElem? (i := 190) rfl) rfl)
theorem ml_X6_106 : j_ML RX6 106 yX9_spells := Or.inl (gw3 (List.mem_of_getElem? (i := 5) rfl) rfl)
theorem ml_X6_147 : j_ML RX6 147 yX6_readWord := Or.inl (gw3 (List.mem_of_getElem? (i := 75) rfl) rfl)
theorem ml_X6_150 : j_ML RX6 150 yX6_isWholeUpTo := Or.inl (gw3 (List.mem_of_getElem? (i := 79) rfl) rfl)
theorem ml_X6_163 : j_ML RX6 163 yX6_readNewName := Or.inl (gw3 (List.mem_of_getElem? (i := 92) rfl) rfl)
theorem ml_X6_167 : j_ML RX6 167 yX6_toldNumber := Or.inl (gw3 (List.mem_of_getElem? (i := 104) rfl) rfl)
theorem ml_X6_171 : j_ML RX6 171 yX11_hasBit := Or.inr ⟨"HookGates", (nw3 (List.mem_of_getElem? (i := 111) rfl) rfl)⟩
theorem ml_X6_177 : j_ML RX6 177 yX11_put := Or.inr ⟨"HookGates", (nw3 (List.mem_of_getElem? (i := 114) rfl) rfl)⟩
theorem ml_X6_184 : j_ML RX6 184 yX6_kindOf := Or.inl (gw3 (List.mem_of_getElem? (i := 121) rfl) rfl)
theorem ml_X6_189 : j_ML RX6 189 yX6_hungOf := Or.inl (gw3 (List.mem_of_getElem? (i := 130) rfl) rfl)
theorem ml_X6_192 : j_ML RX6 192 yX3_addGate := Or.inl (gw3 (List.mem_of_getElem? (i := 137) rfl) rfl)
theorem ml_X6_213 : j_ML RX6 213 yX11_at := Or.inr ⟨"HookGates", (nw3 (List.mem_of_getElem? (i := 108) rfl) rfl)⟩
theorem ml_X6_217 : j_ML RX6 217 yX3_addPath := Or.inl (gw3 (List.mem_of_getElem? (i := 164) rfl) rfl)
theorem ml_X6_221 : j_ML RX6 221 yX0_addWant := Or.inl (gw3 (List.mem_of_getElem? (i := 172) rfl) rfl)
theorem ml_X6_225 : j_ML RX6 225 yX0_isLostGate := Or.inl (gw3 (List.mem_of_getElem? (i := 181) rfl) rfl)
theorem ml_X6_228 : j_ML RX6 228 yX0_addLost := Or.inl (gw3 (List.mem_of_getElem? (i := 186) rfl) rfl)
theorem ml_X6_233 : j_ML RX6 233 yX0_addHad := Or.inl (gw3 (List.mem_of_getElem? (i := 194) rfl) rfl)
theorem ml_X6_236 : j_ML RX6 236 yX6_nameIndex := Or.inl (gw3 (List.mem_of_getElem? (i := 96) rfl) rfl)
theorem mo_X7_3 : Cond.methodLink RX7 3 Lib.objectInit ∈ j_gw := (gw2 (List.mem_of_getElem? (i := 27) rfl) rfl)
theorem ml_X7_28 : j_ML RX7 28 yX7_dropFirst := Or.inl (gw6 (List.mem_of_getElem? (i := 20) rfl) rfl)
theorem ml_X7_36 : j_ML RX7 36 yX11_put := Or.inr ⟨"HookGates", (nw6 (List.mem_of_getElem? (i := 24) rfl) rfl)⟩
theorem ml_X7_46 : j_ML RX7 46 yX11_at := Or.inr ⟨"HookGates", (nw6 (List.mem_of_getElem? (i := 53) rfl) rfl)⟩
theorem ml_X7_50 : j_ML RX7 50 yX4_set := Or.inl (gw6 (List.mem_of_getElem? (i := 54) rfl) rfl)
theorem mo_X8_3 : Cond.methodLink RX8 3 Lib.objectInit ∈ j_gw := (gw2 (List.mem_of_getElem? (i := 79) rfl) rfl)
theorem ml_X8_36 : j_ML RX8 36 yX10_codesOf := Or.inl (gw4 (List.mem_of_getElem? (i := 197) rfl) rfl)
theorem ml_X8_42 : j_ML RX8 42 yX10_fromCode := Or.inl (gw4 (List.mem_of_getElem? (i := 200) rfl) rfl)
theorem ml_X8_46 : j_ML RX8 46 yX3_mayHangSo := Or.inl (gw4 (List.mem_of_getElem? (i := 203) rfl) rfl)
theorem ml_X8_50 : j_ML RX8 50 yX8_lookAt := Or.inl (gw4 (List.mem_of_getElem? (i := 210) rfl) rfl)
theorem ml_X8_54 : j_ML RX8 54 yX3_leastWealth := Or.inl (gw4 (List.mem_of_getElem? (i := 214) rfl) rfl)
theorem ml_X8_57 : j_ML RX8 57 yX10_hooksIn := Or.inl (gw4 (List.mem_of_getElem? (i := 221) rfl) rfl)
theorem ml_X8_60 : j_ML RX8 60 yX3_isStillWay := Or.inl (gw4 (List.mem_of_getElem? (i := 222) rfl) rfl)
theorem mo_X9_3 : Cond.methodLink RX9 3 Lib.objectInit ∈ j_gw := (gw1 (List.mem_of_getElem? (i := 38) rfl) rfl)
theorem ml_X9_25 : j_ML RX9 25 yX9_advance := Or.inl (gw2 (List.mem_of_getElem? (i := 214) rfl) rfl)
theorem ml_X9_28 : j_ML RX9 28 yX9_byteAt := Or.inl (gw2 (List.mem_of_getElem? (i := 218) rfl) rfl)
theorem ml_X9_38 : j_ML RX9 38 yX9_isLetter := Or.inl (gw2 (List.mem_of_getElem? (i := 222) rfl) rfl)
theorem ml_X9_42 : j_ML RX9 42 yX9_scanWord := Or.inl (gw2 (List.mem_of_getElem? (i := 225) rfl) rfl)
theorem ml_X9_45 : j_ML RX9 45 yX9_isDigit := Or.inl (gw2 (List.mem_of_getElem? (i := 229) rfl) rfl)
theorem ml_X9_48 : j_ML RX9 48 yX9_scanWhole := Or.inl (gw2 (List.mem_of_getElem? (i := 232) rfl) rfl)
theorem ml_X9_58 : j_ML RX9 58 yJ0_length_8abf5 := Or.inl (gw3 (List.mem_of_getElem? (i := 9) rfl) rfl)
theorem ml_X9_63 : j_ML RX9 63 yJ0_charAt_5068e := Or.inl (gw3 (List.mem_of_getElem? (i := 19) rfl) rfl)
theorem cn_J6_265 : Jvm.Cond.constant RJ6 265 (1431655765) ∈ j_gw := (gw3 (List.mem_of_getElem? (i := 157) rfl) rfl)
theorem cn_J6_266 : Jvm.Cond.constant RJ6 266 (858993459) ∈ j_gw := (gw3 (List.mem_of_getElem? (i := 158) rfl) rfl)
theorem cn_J6_267 : Jvm.Cond.constant RJ6 267 (252645135) ∈ j_gw := (gw3 (List.mem_of_getElem? (i := 159) rfl) rfl)
theorem cn_X11_429 : Jvm.Cond.constant RX11 429 (65537) ∈ j_gw := (gw5 (List.mem_of_getElem? (i := 231) rfl) rfl)
theorem cn_X13_68 : Jvm.Cond.constantLong RX13 68 (32) ∈ j_gw := (gw7 (List.mem_of_getElem? (i := 127) rfl) rfl)
theorem cn_X13_490 : Jvm.Cond.constantLong RX13 490 (100) ∈ j_gw := (gw9 (List.mem_of_getElem? (i := 128) rfl) rfl)
theorem cn_X13_492 : Jvm.Cond.constantLong RX13 492 (75) ∈ j_gw := (gw9 (List.mem_of_getElem? (i := 150) rfl) rfl)
theorem cn_X13_497 : Jvm.Cond.constantLong RX13 497 (74) ∈ j_gw := (gw9 (List.mem_of_getElem? (i := 151) rfl) rfl)
theorem cn_X13_499 : Jvm.Cond.constantLong RX13 499 (65537) ∈ j_gw := (gw9 (List.mem_of_getElem? (i := 152) rfl) rfl)
theorem cn_X13_501 : Jvm.Cond.constant RX13 501 (65536) ∈ j_gw := (gw9 (List.mem_of_getElem? (i := 145) rfl) rfl)
theorem cn_X4_36 : Jvm.Cond.constant RX4 36 (65537) ∈ j_gw := (gw6 (List.mem_of_getElem? (i := 1) rfl) rfl)
theorem cn_X5_39 : Jvm.Cond.constantLong RX5 39 (100) ∈ j_gw := (gw5 (List.mem_of_getElem? (i := 197) rfl) rfl)
def mi_X0_init : JMI := (yX0_init, cX0_init, 1, none, RX0, 1, 18)
theorem ok_X0_init : j_OK mi_X0_init 0 := ⟨(gw1 (List.mem_of_getElem? (i := 86) rfl) rfl), (gw1 (List.mem_of_getElem? (i := 5) rfl) rfl), by decide, by decide, by decide +kernel⟩
theorem oi_X0_init : j_OI mi_X0_init := ⟨rfl, (gw1 (List.mem_of_getElem? (i := 85) rfl) rfl), rfl⟩
def mi_X0_clear : JMI := (yX0_clear, cX0_clear, 2, none, RX0, 0, 0)
theorem ok_X0_clear : j_OK mi_X0_clear 0 := ⟨(gw2 (List.mem_of_getElem? (i := 209) rfl) rfl), (gw1 (List.mem_of_getElem? (i := 5) rfl) rfl), by decide, by decide, by decide +kernel⟩
theorem ov_X0_clear : j_OV mi_X0_clear := ⟨(gw2 (List.mem_of_getElem? (i := 207) rfl) rfl), (gw2 (List.mem_of_getElem? (i := 208) rfl) rfl)⟩
def mi_X0_addWant : JMI := (yX0_addWant, cX0_addWant, 4, none, RX0, 1, 22)
theorem ok_X0_addWant : j_OK mi_X0_addWant 3 := ⟨(gw3 (List.mem_of_getElem? (i := 175) rfl) rfl), (gw1 (List.mem_of_getElem? (i := 5) rfl) rfl), by decide, by decide, by decide +kernel⟩
theorem ov_X0_addWant : j_OV mi_X0_addWant := ⟨(gw3 (List.mem_of_getElem? (i := 173) rfl) rfl), (gw3 (List.mem_of_getElem? (i := 174) rfl) rfl)⟩
def mi_X0_isLostGate : JMI := (yX0_isLostGate, cX0_isLostGate, 3, (some .boolean), RX0, 1, 21)
theorem ok_X0_isLostGate : j_OK mi_X0_isLostGate 1 := ⟨(gw3 (List.mem_of_getElem? (i := 184) rfl) rfl), (gw1 (List.mem_of_getElem? (i := 5) rfl) rfl), by decide, by decide, by decide +kernel⟩
theorem ov_X0_isLostGate : j_OV mi_X0_isLostGate := ⟨(gw3 (List.mem_of_getElem? (i := 182) rfl) rfl), (gw3 (List.mem_of_getElem? (i := 183) rfl) rfl)⟩
def mi_X0_addLost : JMI := (yX0_addLost, cX0_addLost, 2, none, RX0, 1, 22)
theorem ok_X0_addLost : j_OK mi_X0_addLost 1 := ⟨(gw3 (List.mem_of_getElem? (i := 189) rfl) rfl), (gw1 (List.mem_of_getElem? (i := 5) rfl) rfl), by decide, by decide, by decide +kernel⟩
theorem ov_X0_addLost : j_OV mi_X0_addLost := ⟨(gw3 (List.mem_of_getElem? (i := 187) rfl) rfl), (gw3 (List.mem_of_getElem? (i := 188) rfl) rfl)⟩
def mi_X0_addHad : JMI := (yX0_addHad, cX0_addHad, 3, none, RX0, 1, 22)
theorem ok_X0_addHad : j_OK mi_X0_addHad 2 := ⟨(gw3 (List.mem_of_getElem? (i := 197) rfl) rfl), (gw1 (List.mem_of_getElem? (i := 5) rfl) rfl), by decide, by decide, by decide +kernel⟩
theorem ov_X0_addHad : j_OV mi_X0_addHad := ⟨(gw3 (List.mem_of_getElem? (i := 195) rfl) rfl), (gw3 (List.mem_of_getElem? (i := 196) rfl) rfl)⟩
def mi_X0_wantsMet : JMI := (yX0_wantsMet, cX0_wantsMet, 7, (some .int), RX0, 2, 43)
theorem ok_X0_wantsMet : j_OK mi_X0_wantsMet 2 := ⟨(gw4 (List.mem_of_getElem? (i := 145) rfl) rfl), (gw1 (List.mem_of_getElem? (i := 5) rfl) rfl), by decide, by decide, by decide +kernel⟩
theorem ov_X0_wantsMet : j_OV mi_X0_wantsMet := ⟨(gw4 (List.mem_of_getElem? (i := 143) rfl) rfl), (gw4 (List.mem_of_getElem? (i := 144) rfl) rfl)⟩
def mi_X0_firstBelied : JMI := (yX0_firstBelied, cX0_firstBelied, 5, (some .int), RX0, 3, 69)
theorem ok_X0_firstBelied : j_OK mi_X0_firstBelied 2 := ⟨(gw5 (List.mem_of_getElem? (i := 32) rfl) rfl), (gw1 (List.mem_of_getElem? (i := 5) rfl) rfl), by decide, by decide, by decide +kernel⟩
theorem ov_X0_firstBelied : j_OV mi_X0_firstBelied := ⟨(gw5 (List.mem_of_getElem? (i := 30) rfl) rfl), (gw5 (List.mem_of_getElem? (i := 31) rfl) rfl)⟩
def mi_X1_init : JMI := (yX1_init, cX1_init, 1, none, RX1, 1, 18)
theorem ok_X1_init : j_OK mi_X1_init 0 := ⟨(gw2 (List.mem_of_getElem? (i := 49) rfl) rfl), (gw1 (List.mem_of_getElem? (i := 8) rfl) rfl), by decide, by decide, by decide +kernel⟩
theorem oi_X1_init : j_OI mi_X1_init := ⟨rfl, (gw2 (List.mem_of_getElem? (i := 48) rfl) rfl), rfl⟩
def mi_X1_forget : JMI := (yX1_forget, cX1_forget, 1, none, RX1, 0, 0)
theorem ok_X1_forget : j_OK mi_X1_forget 0 := ⟨(gw3 (List.mem_of_getElem? (i := 213) rfl) rfl), (gw1 (List.mem_of_getElem? (i := 8) rfl) rfl), by decide, by decide, by decide +kernel⟩
theorem ov_X1_forget : j_OV mi_X1_forget := ⟨(gw3 (List.mem_of_getElem? (i := 211) rfl) rfl), (gw3 (List.mem_of_getElem? (i := 212) rfl) rfl)⟩
def mi_X1_explore : JMI := (yX1_explore, cX1_explore, 4, none, RX1, 5, 111)
theorem ok_X1_explore : j_OK mi_X1_explore 2 := ⟨(gw4 (List.mem_of_getElem? (i := 121) rfl) rfl), (gw1 (List.mem_of_getElem? (i := 8) rfl) rfl), by decide, by decide, by decide +kernel⟩
theorem ov_X1_explore : j_OV mi_X1_explore := ⟨(gw4 (List.mem_of_getElem? (i := 119) rfl) rfl), (gw4 (List.mem_of_getElem? (i := 120) rfl) rfl)⟩
def mi_X1_exploreFrom : JMI := (yX1_exploreFrom, cX1_exploreFrom, 6, none, RX1, 4, 86)
theorem ok_X1_exploreFrom : j_OK mi_X1_exploreFrom 2 := ⟨(gw4 (List.mem_of_getElem? (i := 136) rfl) rfl), (gw1 (List.mem_of_getElem? (i := 8) rfl) rfl), by decide, by decide, by decide +kernel⟩
theorem ov_X1_exploreFrom : j_OV mi_X1_exploreFrom := ⟨(gw4 (List.mem_of_getElem? (i := 135) rfl) rfl), (gp2 (List.mem_of_getElem? (i := 15) rfl))⟩
def mi_X1_add : JMI := (yX1_add, cX1_add, 5, none, RX1, 2, 42)
theorem ok_X1_add : j_OK mi_X1_add 3 := ⟨(gw4 (List.mem_of_getElem? (i := 125) rfl) rfl), (gw1 (List.mem_of_getElem? (i := 8) rfl) rfl), by decide, by decide, by decide +kernel⟩
theorem ov_X1_add : j_OV mi_X1_add := ⟨(gw4 (List.mem_of_getElem? (i := 124) rfl) rfl), (gp2 (List.mem_of_getElem? (i := 14) rfl))⟩
def mi_X1_firstMeetingWants : JMI := (yX1_firstMeetingWants, cX1_firstMeetingWants, 4, (some .int), RX1, 3, 69)
theorem ok_X1_firstMeetingWants : j_OK mi_X1_firstMeetingWants 1 := ⟨(gw4 (List.mem_of_getElem? (i := 141) rfl) rfl), (gw1 (List.mem_of_getElem? (i := 8) rfl) rfl), by decide, by decide, by decide +kernel⟩
theorem ov_X1_firstMeetingWants : j_OV mi_X1_firstMeetingWants := ⟨(gw4 (List.mem_of_getElem? (i := 139) rfl) rfl), (gw4 (List.mem_of_getElem? (i := 140) rfl) rfl)⟩
def mi_X1_firstWithWealth : JMI := (yX1_firstWithWealth, cX1_firstWithWealth, 5, (some .int), RX1, 3, 69)
theorem ok_X1_firstWithWealth : j_OK mi_X1_firstWithWealth 3 := ⟨(gw4 (List.mem_of_getElem? (i := 172) rfl) rfl), (gw1 (List.mem_of_getElem? (i := 8) rfl) rfl), by decide, by decide, by decide +kernel⟩
theorem ov_X1_firstWithWealth : j_OV mi_X1_firstWithWealth := ⟨(gw4 (List.mem_of_getElem? (i := 170) rfl) rfl), (gw4 (List.mem_of_getElem? (i := 171) rfl) rfl)⟩
def mi_X1_mostWealthWithin : JMI := (yX1_mostWealthWithin, cX1_mostWealthWithin, 6, (some .int), RX1, 3, 69)
theorem ok_X1_mostWealthWithin : j_OK mi_X1_mostWealthWithin 3 := ⟨(gw4 (List.mem_of_getElem? (i := 181) rfl) rfl), (gw1 (List.mem_of_getElem? (i := 8) rfl) rfl), by decide, by decide, by decide +kernel⟩
theorem ov_X1_mostWealthWithin : j_OV mi_X1_mostWealthWithin := ⟨(gw4 (List.mem_of_getElem? (i := 179) rfl) rfl), (gw4 (List.mem_of_getElem? (i := 180) rfl) rfl)⟩
def mi_X1_movesTo : JMI := (yX1_movesTo, cX1_movesTo, 2, (some .int), RX1, 1, 21)
theorem ok_X1_movesTo : j_OK mi_X1_movesTo 1 := ⟨(gw4 (List.mem_of_getElem? (i := 132) rfl) rfl), (gw1 (List.mem_of_getElem? (i := 8) rfl) rfl), by decide, by decide, by decide +kernel⟩
theorem ov_X1_movesTo : j_OV mi_X1_movesTo := ⟨(gw4 (List.mem_of_getElem? (i := 130) rfl) rfl), (gw4 (List.mem_of_getElem? (i := 131) rfl) rfl)⟩
def mi_X1_moveTowards : JMI := (yX1_moveTowards, cX1_moveTowards, 5, (some .int), RX1, 2, 42)
theorem ok_X1_moveTowards : j_OK mi_X1_moveTowards 2 := ⟨(gw4 (List.mem_of_getElem? (i := 156) rfl) rfl), (gw1 (List.mem_of_getElem? (i := 8) rfl) rfl), by decide, by decide, by decide +kernel⟩
theorem ov_X1_moveTowards : j_OV mi_X1_moveTowards := ⟨(gw4 (List.mem_of_getElem? (i := 154) rfl) rfl), (gw4 (List.mem_of_getElem? (i := 155) rfl) rfl)⟩
def mi_X2_init : JMI := (yX2_init, cX2_init, 1, none, RX2, 1, 18)
theorem ok_X2_init : j_OK mi_X2_init 0 := ⟨(gw2 (List.mem_of_getElem? (i := 104) rfl) rfl), (gw1 (List.mem_of_getElem? (i := 10) rfl) rfl), by decide, by decide, by decide +kernel⟩
theorem oi_X2_init : j_OI mi_X2_init := ⟨rfl, (gw2 (List.mem_of_getElem? (i := 103) rfl) rfl), rfl⟩
def mi_X2_forget : JMI := (yX2_forget, cX2_forget, 1, none, RX2, 0, 0)
theorem ok_X2_forget : j_OK mi_X2_forget 0 := ⟨(gw3 (List.mem_of_getElem? (i := 221) rfl) rfl), (gw1 (List.mem_of_getElem? (i := 10) rfl) rfl), by decide, by decide, by decide +kernel⟩
theorem ov_X2_forget : j_OV mi_X2_forget := ⟨(gw3 (List.mem_of_getElem? (i := 219) rfl) rfl), (gw3 (List.mem_of_getElem? (i := 220) rfl) rfl)⟩
def mi_X2_find : JMI := (yX2_find, cX2_find, 5, none, RX2, 5, 116)
theorem ok_X2_find : j_OK mi_X2_find 1 := ⟨(gw5 (List.mem_of_getElem? (i := 19) rfl) rfl), (gw1 (List.mem_of_getElem? (i := 10) rfl) rfl), by decide, by decide, by decide +kernel⟩
theorem ov_X2_find : j_OV mi_X2_find := ⟨(gw5 (List.mem_of_getElem? (i := 17) rfl) rfl), (gw5 (List.mem_of_getElem? (i := 18) rfl) rfl)⟩
def mi_X2_isFit : JMI := (yX2_isFit, cX2_isFit, 4, (some .boolean), RX2, 4, 93)
theorem ok_X2_isFit : j_OK mi_X2_isFit 2 := ⟨(gw5 (List.mem_of_getElem? (i := 25) rfl) rfl), (gw1 (List.mem_of_getElem? (i := 10) rfl) rfl), by decide, by decide, by decide +kernel⟩
theorem os_X2_isFit : j_OS mi_X2_isFit := (gw5 (List.mem_of_getElem? (i := 24) rfl) rfl)
def mi_X2_countHung : JMI := (yX2_countHung, cX2_countHung, 5, (some .int), RX2, 1, 21)
theorem ok_X2_countHung : j_OK mi_X2_countHung 2 := ⟨(gw5 (List.mem_of_getElem? (i := 50) rfl) rfl), (gw1 (List.mem_of_getElem? (i := 10) rfl) rfl), by decide, by decide, by decide +kernel⟩
theorem ov_X2_countHung : j_OV mi_X2_countHung := ⟨(gw5 (List.mem_of_getElem? (i := 48) rfl) rfl), (gw5 (List.mem_of_getElem? (i := 49) rfl) rfl)⟩
def mi_X2_mostLeft : JMI := (yX2_mostLeft, cX2_mostLeft, 4, (some .int), RX2, 2, 45)
theorem ok_X2_mostLeft : j_OK mi_X2_mostLeft 1 := ⟨(gw5 (List.mem_of_getElem? (i := 62) rfl) rfl), (gw1 (List.mem_of_getElem? (i := 10) rfl) rfl), by decide, by decide, by decide +kernel⟩
theorem ov_X2_mostLeft : j_OV mi_X2_mostLeft := ⟨(gw5 (List.mem_of_getElem? (i := 60) rfl) rfl), (gw5 (List.mem_of_getElem? (i := 61) rfl) rfl)⟩
def mi_X2_bestToLookAt : JMI := (yX2_bestToLookAt, cX2_bestToLookAt, 6, (some .int), RX2, 3, 68)
theorem ok_X2_bestToLookAt : j_OK mi_X2_bestToLookAt 1 := ⟨(gw5 (List.mem_of_getElem? (i := 58) rfl) rfl), (gw1 (List.mem_of_getElem? (i := 10) rfl) rfl), by decide, by decide, by decide +kernel⟩
theorem ov_X2_bestToLookAt : j_OV mi_X2_bestToLookAt := ⟨(gw5 (List.mem_of_getElem? (i := 56) rfl) rfl), (gw5 (List.mem_of_getElem? (i := 57) rfl) rfl)⟩
def mi_X3_init : JMI := (yX3_init, cX3_init, 1, none, RX3, 2, 38)
theorem ok_X3_init : j_OK mi_X3_init 0 := ⟨(gw1 (List.mem_of_getElem? (i := 80) rfl) rfl), (gw1 (List.mem_of_getElem? (i := 4) rfl) rfl), by decide, by decide, by decide +kernel⟩
theorem oi_X3_init : j_OI mi_X3_init := ⟨rfl, (gw1 (List.mem_of_getElem? (i := 79) rfl) rfl), rfl⟩
def mi_X3_clear : JMI := (yX3_clear, cX3_clear, 2, none, RX3, 1, 21)
theorem ok_X3_clear : j_OK mi_X3_clear 0 := ⟨(gw2 (List.mem_of_getElem? (i := 205) rfl) rfl), (gw1 (List.mem_of_getElem? (i := 4) rfl) rfl), by decide, by decide, by decide +kernel⟩
theorem ov_X3_clear : j_OV mi_X3_clear := ⟨(gw2 (List.mem_of_getElem? (i := 203) rfl) rfl), (gw2 (List.mem_of_getElem? (i := 204) rfl) rfl)⟩
def mi_X3_addGate : JMI := (yX3_addGate, cX3_addGate, 7, none, RX3, 2, 48)
theorem ok_X3_addGate : j_OK mi_X3_addGate 4 := ⟨(gw3 (List.mem_of_getElem? (i := 140) rfl) rfl), (gw1 (List.mem_of_getElem? (i := 4) rfl) rfl), by decide, by decide, by decide +kernel⟩
theorem ov_X3_addGate : j_OV mi_X3_addGate := ⟨(gw3 (List.mem_of_getElem? (i := 138) rfl) rfl), (gw3 (List.mem_of_getElem? (i := 139) rfl) rfl)⟩
def mi_X3_reckonOwners : JMI := (yX3_reckonOwners, cX3_reckonOwners, 7, none, RX3, 1, 22)
theorem ok_X3_reckonOwners : j_OK mi_X3_reckonOwners 2 := ⟨(gw3 (List.mem_of_getElem? (i := 152) rfl) rfl), (gw1 (List.mem_of_getElem? (i := 4) rfl) rfl), by decide, by decide, by decide +kernel⟩
theorem ov_X3_reckonOwners : j_OV mi_X3_reckonOwners := ⟨(gw3 (List.mem_of_getElem? (i := 151) rfl) rfl), (gp2 (List.mem_of_getElem? (i := 3) rfl))⟩
def mi_X3_addPath : JMI := (yX3_addPath, cX3_addPath, 3, none, RX3, 1, 22)
theorem ok_X3_addPath : j_OK mi_X3_addPath 2 := ⟨(gw3 (List.mem_of_getElem? (i := 167) rfl) rfl), (gw1 (List.mem_of_getElem? (i := 4) rfl) rfl), by decide, by decide, by decide +kernel⟩
theorem ov_X3_addPath : j_OV mi_X3_addPath := ⟨(gw3 (List.mem_of_getElem? (i := 165) rfl) rfl), (gw3 (List.mem_of_getElem? (i := 166) rfl) rfl)⟩
def mi_X3_ownersIn : JMI := (yX3_ownersIn, cX3_ownersIn, 3, (some .int), RX3, 1, 21)
theorem ok_X3_ownersIn : j_OK mi_X3_ownersIn 2 := ⟨(gw4 (List.mem_of_getElem? (i := 9) rfl) rfl), (gw1 (List.mem_of_getElem? (i := 4) rfl) rfl), by decide, by decide, by decide +kernel⟩
theorem ov_X3_ownersIn : j_OV mi_X3_ownersIn := ⟨(gw4 (List.mem_of_getElem? (i := 7) rfl) rfl), (gw4 (List.mem_of_getElem? (i := 8) rfl) rfl)⟩
def mi_X3_portionIn : JMI := (yX3_portionIn, cX3_portionIn, 3, (some .int), RX3, 1, 21)
theorem ok_X3_portionIn : j_OK mi_X3_portionIn 2 := ⟨(gw4 (List.mem_of_getElem? (i := 56) rfl) rfl), (gw1 (List.mem_of_getElem? (i := 4) rfl) rfl), by decide, by decide, by decide +kernel⟩
theorem ov_X3_portionIn : j_OV mi_X3_portionIn := ⟨(gw4 (List.mem_of_getElem? (i := 54) rfl) rfl), (gw4 (List.mem_of_getElem? (i := 55) rfl) rfl)⟩
def mi_X3_shareIn : JMI := (yX3_shareIn, cX3_shareIn, 5, (some .int), RX3, 1, 21)
theorem ok_X3_shareIn : j_OK mi_X3_shareIn 3 := ⟨(gw4 (List.mem_of_getElem? (i := 26) rfl) rfl), (gw1 (List.mem_of_getElem? (i := 4) rfl) rfl), by decide, by decide, by decide +kernel⟩
theorem ov_X3_shareIn : j_OV mi_X3_shareIn := ⟨(gw4 (List.mem_of_getElem? (i := 24) rfl) rfl), (gw4 (List.mem_of_getElem? (i := 25) rfl) rfl)⟩
def mi_X3_wealth : JMI := (yX3_wealth, cX3_wealth, 5, (some .int), RX3, 2, 45)
theorem ok_X3_wealth : j_OK mi_X3_wealth 2 := ⟨(gw4 (List.mem_of_getElem? (i := 22) rfl) rfl), (gw1 (List.mem_of_getElem? (i := 4) rfl) rfl), by decide, by decide, by decide +kernel⟩
theorem ov_X3_wealth : j_OV mi_X3_wealth := ⟨(gw4 (List.mem_of_getElem? (i := 20) rfl) rfl), (gw4 (List.mem_of_getElem? (i := 21) rfl) rfl)⟩
def mi_X3_wealthOfSet : JMI := (yX3_wealthOfSet, cX3_wealthOfSet, 5, (some .int), RX3, 3, 69)
theorem ok_X3_wealthOfSet : j_OK mi_X3_wealthOfSet 2 := ⟨(gw5 (List.mem_of_getElem? (i := 132) rfl) rfl), (gw1 (List.mem_of_getElem? (i := 4) rfl) rfl), by decide, by decide, by decide +kernel⟩
theorem ov_X3_wealthOfSet : j_OV mi_X3_wealthOfSet := ⟨(gw5 (List.mem_of_getElem? (i := 130) rfl) rfl), (gw5 (List.mem_of_getElem? (i := 131) rfl) rfl)⟩
def mi_X3_wealthAt : JMI := (yX3_wealthAt, cX3_wealthAt, 6, (some .int), RX3, 2, 45)
theorem ok_X3_wealthAt : j_OK mi_X3_wealthAt 3 := ⟨(gw5 (List.mem_of_getElem? (i := 115) rfl) rfl), (gw1 (List.mem_of_getElem? (i := 4) rfl) rfl), by decide, by decide, by decide +kernel⟩
theorem ov_X3_wealthAt : j_OV mi_X3_wealthAt := ⟨(gw5 (List.mem_of_getElem? (i := 113) rfl) rfl), (gw5 (List.mem_of_getElem? (i := 114) rfl) rfl)⟩
def mi_X3_wealthOfFirm : JMI := (yX3_wealthOfFirm, cX3_wealthOfFirm, 5, (some .int), RX3, 2, 43)
theorem ok_X3_wealthOfFirm : j_OK mi_X3_wealthOfFirm 2 := ⟨(gw4 (List.mem_of_getElem? (i := 52) rfl) rfl), (gw1 (List.mem_of_getElem? (i := 4) rfl) rfl), by decide, by decide, by decide +kernel⟩
theorem ov_X3_wealthOfFirm : j_OV mi_X3_wealthOfFirm := ⟨(gw4 (List.mem_of_getElem? (i := 50) rfl) rfl), (gw4 (List.mem_of_getElem? (i := 51) rfl) rfl)⟩
def mi_X3_gatesOwned : JMI := (yX3_gatesOwned, cX3_gatesOwned, 5, (some .int), RX3, 2, 43)
theorem ok_X3_gatesOwned : j_OK mi_X3_gatesOwned 2 := ⟨(gw4 (List.mem_of_getElem? (i := 31) rfl) rfl), (gw1 (List.mem_of_getElem? (i := 4) rfl) rfl), by decide, by decide, by decide +kernel⟩
theorem ov_X3_gatesOwned : j_OV mi_X3_gatesOwned := ⟨(gw4 (List.mem_of_getElem? (i := 29) rfl) rfl), (gw4 (List.mem_of_getElem? (i := 30) rfl) rfl)⟩
def mi_X3_gatesOwnedAlone : JMI := (yX3_gatesOwnedAlone, cX3_gatesOwnedAlone, 3, (some .int), RX3, 3, 67)
theorem ok_X3_gatesOwnedAlone : j_OK mi_X3_gatesOwnedAlone 2 := ⟨(gw4 (List.mem_of_getElem? (i := 36) rfl) rfl), (gw1 (List.mem_of_getElem? (i := 4) rfl) rfl), by decide, by decide, by decide +kernel⟩
theorem ov_X3_gatesOwnedAlone : j_OV mi_X3_gatesOwnedAlone := ⟨(gw4 (List.mem_of_getElem? (i := 34) rfl) rfl), (gw4 (List.mem_of_getElem? (i := 35) rfl) rfl)⟩
def mi_X3_gatesUnowned : JMI := (yX3_gatesUnowned, cX3_gatesUnowned, 2, (some .int), RX3, 3, 67)
theorem ok_X3_gatesUnowned : j_OK mi_X3_gatesUnowned 1 := ⟨(gw4 (List.mem_of_getElem? (i := 68) rfl) rfl), (gw1 (List.mem_of_getElem? (i := 4) rfl) rfl), by decide, by decide, by decide +kernel⟩
theorem ov_X3_gatesUnowned : j_OV mi_X3_gatesUnowned := ⟨(gw4 (List.mem_of_getElem? (i := 66) rfl) rfl), (gw4 (List.mem_of_getElem? (i := 67) rfl) rfl)⟩
def mi_X3_gatesOwnedJustBy : JMI := (yX3_gatesOwnedJustBy, cX3_gatesOwnedJustBy, 5, (some .int), RX3, 2, 43)
theorem ok_X3_gatesOwnedJustBy : j_OK mi_X3_gatesOwnedJustBy 2 := ⟨(gw4 (List.mem_of_getElem? (i := 40) rfl) rfl), (gw1 (List.mem_of_getElem? (i := 4) rfl) rfl), by decide, by decide, by decide +kernel⟩
theorem ov_X3_gatesOwnedJustBy : j_OV mi_X3_gatesOwnedJustBy := ⟨(gw4 (List.mem_of_getElem? (i := 39) rfl) rfl), (gp2 (List.mem_of_getElem? (i := 12) rfl))⟩
def mi_X3_firmsWith : JMI := (yX3_firmsWith, cX3_firmsWith, 4, (some .int), RX3, 1, 21)
theorem ok_X3_firmsWith : j_OK mi_X3_firmsWith 1 := ⟨(gw4 (List.mem_of_getElem? (i := 44) rfl) rfl), (gw1 (List.mem_of_getElem? (i := 4) rfl) rfl), by decide, by decide, by decide +kernel⟩
theorem ov_X3_firmsWith : j_OV mi_X3_firmsWith := ⟨(gw4 (List.mem_of_getElem? (i := 42) rfl) rfl), (gw4 (List.mem_of_getElem? (i := 43) rfl) rfl)⟩
def mi_X3_wealthiest : JMI := (yX3_wealthiest, cX3_wealthiest, 6, (some .int), RX3, 3, 69)
theorem ok_X3_wealthiest : j_OK mi_X3_wealthiest 1 := ⟨(gw4 (List.mem_of_getElem? (i := 76) rfl) rfl), (gw1 (List.mem_of_getElem? (i := 4) rfl) rfl), by decide, by decide, by decide +kernel⟩
theorem ov_X3_wealthiest : j_OV mi_X3_wealthiest := ⟨(gw4 (List.mem_of_getElem? (i := 74) rfl) rfl), (gw4 (List.mem_of_getElem? (i := 75) rfl) rfl)⟩
def mi_X3_leastWealth : JMI := (yX3_leastWealth, cX3_leastWealth, 4, (some .int), RX3, 3, 69)
theorem ok_X3_leastWealth : j_OK mi_X3_leastWealth 1 := ⟨(gw4 (List.mem_of_getElem? (i := 217) rfl) rfl), (gw1 (List.mem_of_getElem? (i := 4) rfl) rfl), by decide, by decide, by decide +kernel⟩
theorem ov_X3_leastWealth : j_OV mi_X3_leastWealth := ⟨(gw4 (List.mem_of_getElem? (i := 215) rfl) rfl), (gw4 (List.mem_of_getElem? (i := 216) rfl) rfl)⟩
def mi_X3_beggar : JMI := (yX3_beggar, cX3_beggar, 5, (some .int), RX3, 3, 69)
theorem ok_X3_beggar : j_OK mi_X3_beggar 2 := ⟨(gw6 (List.mem_of_getElem? (i := 82) rfl) rfl), (gw1 (List.mem_of_getElem? (i := 4) rfl) rfl), by decide, by decide, by decide +kernel⟩
theorem ov_X3_beggar : j_OV mi_X3_beggar := ⟨(gw6 (List.mem_of_getElem? (i := 80) rfl) rfl), (gw6 (List.mem_of_getElem? (i := 81) rfl) rfl)⟩
def mi_X3_hooksLying : JMI := (yX3_hooksLying, cX3_hooksLying, 2, (some .int), RX3, 2, 40)
theorem ok_X3_hooksLying : j_OK mi_X3_hooksLying 1 := ⟨(gw4 (List.mem_of_getElem? (i := 85) rfl) rfl), (gw1 (List.mem_of_getElem? (i := 4) rfl) rfl), by decide, by decide, by decide +kernel⟩
theorem ov_X3_hooksLying : j_OV mi_X3_hooksLying := ⟨(gw4 (List.mem_of_getElem? (i := 83) rfl) rfl), (gw4 (List.mem_of_getElem? (i := 84) rfl) rfl)⟩
def mi_X3_isGuarded : JMI := (yX3_isGuarded, cX3_isGuarded, 2, (some .boolean), RX3, 1, 20)
theorem ok_X3_isGuarded : j_OK mi_X3_isGuarded 1 := ⟨(gw4 (List.mem_of_getElem? (i := 109) rfl) rfl), (gw1 (List.mem_of_getElem? (i := 4) rfl) rfl), by decide, by decide, by decide +kernel⟩
theorem ov_X3_isGuarded : j_OV mi_X3_isGuarded := ⟨(gw4 (List.mem_of_getElem? (i := 107) rfl) rfl), (gw4 (List.mem_of_getElem? (i := 108) rfl) rfl)⟩
def mi_X3_mayHangSo : JMI := (yX3_mayHangSo, cX3_mayHangSo, 2, (some .boolean), RX3, 3, 61)
theorem ok_X3_mayHangSo : j_OK mi_X3_mayHangSo 1 := ⟨(gw4 (List.mem_of_getElem? (i := 206) rfl) rfl), (gw1 (List.mem_of_getElem? (i := 4) rfl) rfl), by decide, by decide, by decide +kernel⟩
theorem ov_X3_mayHangSo : j_OV mi_X3_mayHangSo := ⟨(gw4 (List.mem_of_getElem? (i := 204) rfl) rfl), (gw4 (List.mem_of_getElem? (i := 205) rfl) rfl)⟩
def mi_X3_wayAfter : JMI := (yX3_wayAfter, cX3_wayAfter, 6, (some .int), RX3, 3, 61)
theorem ok_X3_wayAfter : j_OK mi_X3_wayAfter 3 := ⟨(gw4 (List.mem_of_getElem? (i := 105) rfl) rfl), (gw1 (List.mem_of_getElem? (i := 4) rfl) rfl), by decide, by decide, by decide +kernel⟩
theorem ov_X3_wayAfter : j_OV mi_X3_wayAfter := ⟨(gw4 (List.mem_of_getElem? (i := 103) rfl) rfl), (gw4 (List.mem_of_getElem? (i := 104) rfl) rfl)⟩
def mi_X3_turned : JMI := (yX3_turned, cX3_turned, 1, (some .int), RX3, 0, 0)
theorem ok_X3_turned : j_OK mi_X3_turned 1 := ⟨(gw4 (List.mem_of_getElem? (i := 113) rfl) rfl), (gw1 (List.mem_of_getElem? (i := 4) rfl) rfl), by decide, by decide, by decide +kernel⟩
theorem os_X3_turned : j_OS mi_X3_turned := (gw4 (List.mem_of_getElem? (i := 112) rfl) rfl)
def mi_X3_isStillWay : JMI := (yX3_isStillWay, cX3_isStillWay, 4, (some .boolean), RX3, 3, 71)
theorem ok_X3_isStillWay : j_OK mi_X3_isStillWay 1 := ⟨(gw4 (List.mem_of_getElem? (i := 225) rfl) rfl), (gw1 (List.mem_of_getElem? (i := 4) rfl) rfl), by decide, by decide, by decide +kernel⟩
theorem ov_X3_isStillWay : j_OV mi_X3_isStillWay := ⟨(gw4 (List.mem_of_getElem? (i := 223) rfl) rfl), (gw4 (List.mem_of_getElem? (i := 224) rfl) rfl)⟩
def mi_X3_someoneGains : JMI := (yX3_someoneGains, cX3_someoneGains, 7, (some .boolean), RX3, 2, 45)
theorem ok_X3_someoneGains : j_OK mi_X3_someoneGains 3 := ⟨(gw4 (List.mem_of_getElem? (i := 229) rfl) rfl), (gw1 (List.mem_of_getElem? (i := 4) rfl) rfl), by decide, by decide, by decide +kernel⟩
theorem ov_X3_someoneGains : j_OV mi_X3_someoneGains := ⟨(gw4 (List.mem_of_getElem? (i := 228) rfl) rfl), (gp3 (List.mem_of_getElem? (i := 1) rfl))⟩
def mi_X3_fallingIn : JMI := (yX3_fallingIn, cX3_fallingIn, 3, (some .int), RX3, 2, 41)
theorem ok_X3_fallingIn : j_OK mi_X3_fallingIn 2 := ⟨(gw5 (List.mem_of_getElem? (i := 192) rfl) rfl), (gw1 (List.mem_of_getElem? (i := 4) rfl) rfl), by decide, by decide, by decide +kernel⟩
theorem ov_X3_fallingIn : j_OV mi_X3_fallingIn := ⟨(gw5 (List.mem_of_getElem? (i := 190) rfl) rfl), (gw5 (List.mem_of_getElem? (i := 191) rfl) rfl)⟩
def mi_X3_fewestPaths : JMI := (yX3_fewestPaths, cX3_fewestPaths, 5, (some .int), RX3, 2, 44)
theorem ok_X3_fewestPaths : j_OK mi_X3_fewestPaths 2 := ⟨(gw5 (List.mem_of_getElem? (i := 82) rfl) rfl), (gw1 (List.mem_of_getElem? (i := 4) rfl) rfl), by decide, by decide, by decide +kernel⟩
theorem ov_X3_fewestPaths : j_OV mi_X3_fewestPaths := ⟨(gw5 (List.mem_of_getElem? (i := 80) rfl) rfl), (gw5 (List.mem_of_getElem? (i := 81) rfl) rfl)⟩
def mi_X3_widened : JMI := (yX3_widened, cX3_widened, 4, (some .int), RX3, 1, 21)
theorem ok_X3_widened : j_OK mi_X3_widened 1 := ⟨(gw5 (List.mem_of_getElem? (i := 86) rfl) rfl), (gw1 (List.mem_of_getElem? (i := 4) rfl) rfl), by decide, by decide, by decide +kernel⟩
theorem ov_X3_widened : j_OV mi_X3_widened := ⟨(gw5 (List.mem_of_getElem? (i := 85) rfl) rfl), (gp3 (List.mem_of_getElem? (i := 3) rfl))⟩
def mi_X3_together : JMI := (yX3_together, cX3_together, 5, (some .int), RX3, 2, 44)
theorem ok_X3_together : j_OK mi_X3_together 2 := ⟨(gw5 (List.mem_of_getElem? (i := 106) rfl) rfl), (gw1 (List.mem_of_getElem? (i := 4) rfl) rfl), by decide, by decide, by decide +kernel⟩
theorem ov_X3_together : j_OV mi_X3_together := ⟨(gw5 (List.mem_of_getElem? (i := 104) rfl) rfl), (gw5 (List.mem_of_getElem? (i := 105) rfl) rfl)⟩
def mi_X3_countParts : JMI := (yX3_countParts, cX3_countParts, 5, (some .int), RX3, 3, 68)
theorem ok_X3_countParts : j_OK mi_X3_countParts 0 := ⟨(gw5 (List.mem_of_getElem? (i := 102) rfl) rfl), (gw1 (List.mem_of_getElem? (i := 4) rfl) rfl), by decide, by decide, by decide +kernel⟩
theorem ov_X3_countParts : j_OV mi_X3_countParts := ⟨(gw5 (List.mem_of_getElem? (i := 100) rfl) rfl), (gw5 (List.mem_of_getElem? (i := 101) rfl) rfl)⟩
def mi_X3_fewestSentries : JMI := (yX3_fewestSentries, cX3_fewestSentries, 4, (some .int), RX3, 2, 44)
theorem ok_X3_fewestSentries : j_OK mi_X3_fewestSentries 0 := ⟨(gw5 (List.mem_of_getElem? (i := 94) rfl) rfl), (gw1 (List.mem_of_getElem? (i := 4) rfl) rfl), by decide, by decide, by decide +kernel⟩
theorem ov_X3_fewestSentries : j_OV mi_X3_fewestSentries := ⟨(gw5 (List.mem_of_getElem? (i := 92) rfl) rfl), (gw5 (List.mem_of_getElem? (i := 93) rfl) rfl)⟩
def mi_X3_peopleWithWealth : JMI := (yX3_peopleWithWealth, cX3_peopleWithWealth, 4, (some .int), RX3, 3, 69)
theorem ok_X3_peopleWithWealth : j_OK mi_X3_peopleWithWealth 1 := ⟨(gw5 (List.mem_of_getElem? (i := 128) rfl) rfl), (gw1 (List.mem_of_getElem? (i := 4) rfl) rfl), by decide, by decide, by decide +kernel⟩
theorem ov_X3_peopleWithWealth : j_OV mi_X3_peopleWithWealth := ⟨(gw5 (List.mem_of_getElem? (i := 126) rfl) rfl), (gw5 (List.mem_of_getElem? (i := 127) rfl) rfl)⟩
def mi_X3_fewestRulers : JMI := (yX3_fewestRulers, cX3_fewestRulers, 6, (some .int), RX3, 4, 93)
theorem ok_X3_fewestRulers : j_OK mi_X3_fewestRulers 1 := ⟨(gw5 (List.mem_of_getElem? (i := 151) rfl) rfl), (gw1 (List.mem_of_getElem? (i := 4) rfl) rfl), by decide, by decide, by decide +kernel⟩
theorem ov_X3_fewestRulers : j_OV mi_X3_fewestRulers := ⟨(gw5 (List.mem_of_getElem? (i := 149) rfl) rfl), (gw5 (List.mem_of_getElem? (i := 150) rfl) rfl)⟩
def mi_X4_init : JMI := (yX4_init, cX4_init, 1, none, RX4, 1, 18)
theorem ok_X4_init : j_OK mi_X4_init 0 := ⟨(gw2 (List.mem_of_getElem? (i := 4) rfl) rfl), (gw1 (List.mem_of_getElem? (i := 6) rfl) rfl), by decide, by decide, by decide +kernel⟩
theorem oi_X4_init : j_OI mi_X4_init := ⟨rfl, (gw2 (List.mem_of_getElem? (i := 3) rfl) rfl), rfl⟩
def mi_X4_set : JMI := (yX4_set, cX4_set, 4, none, RX4, 0, 0)
theorem ok_X4_set : j_OK mi_X4_set 3 := ⟨(gw3 (List.mem_of_getElem? (i := 209) rfl) rfl), (gw1 (List.mem_of_getElem? (i := 6) rfl) rfl), by decide, by decide, by decide +kernel⟩
theorem ov_X4_set : j_OV mi_X4_set := ⟨(gw3 (List.mem_of_getElem? (i := 207) rfl) rfl), (gw3 (List.mem_of_getElem? (i := 208) rfl) rfl)⟩
def mi_X4_blow : JMI := (yX4_blow, cX4_blow, 4, (some .int), RX4, 3, 63)
theorem ok_X4_blow : j_OK mi_X4_blow 1 := ⟨(gw5 (List.mem_of_getElem? (i := 238) rfl) rfl), (gw1 (List.mem_of_getElem? (i := 6) rfl) rfl), by decide, by decide, by decide +kernel⟩
theorem ov_X4_blow : j_OV mi_X4_blow := ⟨(gw5 (List.mem_of_getElem? (i := 236) rfl) rfl), (gw5 (List.mem_of_getElem? (i := 237) rfl) rfl)⟩
def mi_X5_init : JMI := (yX5_init, cX5_init, 1, none, RX5, 1, 18)
theorem ok_X5_init : j_OK mi_X5_init 0 := ⟨(gw2 (List.mem_of_getElem? (i := 122) rfl) rfl), (gw1 (List.mem_of_getElem? (i := 11) rfl) rfl), by decide, by decide, by decide +kernel⟩
theorem oi_X5_init : j_OI mi_X5_init := ⟨rfl, (gw2 (List.mem_of_getElem? (i := 121) rfl) rfl), rfl⟩
def mi_X5_set : JMI := (yX5_set, cX5_set, 7, none, RX5, 1, 30)
theorem ok_X5_set : j_OK mi_X5_set 2 := ⟨(gw5 (List.mem_of_getElem? (i := 136) rfl) rfl), (gw1 (List.mem_of_getElem? (i := 11) rfl) rfl), by decide, by decide, by decide +kernel⟩
theorem ov_X5_set : j_OV mi_X5_set := ⟨(gw5 (List.mem_of_getElem? (i := 135) rfl) rfl), (gp3 (List.mem_of_getElem? (i := 4) rfl))⟩
def mi_X5_commonDivisor : JMI := (yX5_commonDivisor, cX5_commonDivisor, 11, (some .long), RX5, 0, 0)
theorem ok_X5_commonDivisor : j_OK mi_X5_commonDivisor 2 := ⟨(gw5 (List.mem_of_getElem? (i := 139) rfl) rfl), (gw1 (List.mem_of_getElem? (i := 11) rfl) rfl), by decide, by decide, by decide +kernel⟩
theorem os_X5_commonDivisor : j_OS mi_X5_commonDivisor := (gw5 (List.mem_of_getElem? (i := 138) rfl) rfl)
def mi_X5_setPower : JMI := (yX5_setPower, cX5_setPower, 11, none, RX5, 4, 93)
theorem ok_X5_setPower : j_OK mi_X5_setPower 3 := ⟨(gw5 (List.mem_of_getElem? (i := 123) rfl) rfl), (gw1 (List.mem_of_getElem? (i := 11) rfl) rfl), by decide, by decide, by decide +kernel⟩
theorem ov_X5_setPower : j_OV mi_X5_setPower := ⟨(gw5 (List.mem_of_getElem? (i := 121) rfl) rfl), (gw5 (List.mem_of_getElem? (i := 122) rfl) rfl)⟩
def mi_X5_setHolding : JMI := (yX5_setHolding, cX5_setHolding, 8, none, RX5, 2, 56)
theorem ok_X5_setHolding : j_OK mi_X5_setHolding 2 := ⟨(gw5 (List.mem_of_getElem? (i := 196) rfl) rfl), (gw1 (List.mem_of_getElem? (i := 11) rfl) rfl), by decide, by decide, by decide +kernel⟩
theorem ov_X5_setHolding : j_OV mi_X5_setHolding := ⟨(gw5 (List.mem_of_getElem? (i := 194) rfl) rfl), (gw5 (List.mem_of_getElem? (i := 195) rfl) rfl)⟩
def mi_X5_setMean : JMI := (yX5_setMean, cX5_setMean, 9, none, RX5, 3, 63)
theorem ok_X5_setMean : j_OK mi_X5_setMean 3 := ⟨(gw5 (List.mem_of_getElem? (i := 205) rfl) rfl), (gw1 (List.mem_of_getElem? (i := 11) rfl) rfl), by decide, by decide, by decide +kernel⟩
theorem ov_X5_setMean : j_OV mi_X5_setMean := ⟨(gw5 (List.mem_of_getElem? (i := 203) rfl) rfl), (gw5 (List.mem_of_getElem? (i := 204) rfl) rfl)⟩
def mi_X5_setKeeping : JMI := (yX5_setKeeping, cX5_setKeeping, 10, none, RX5, 4, 89)
theorem ok_X5_setKeeping : j_OK mi_X5_setKeeping 4 := ⟨(gw5 (List.mem_of_getElem? (i := 216) rfl) rfl), (gw1 (List.mem_of_getElem? (i := 11) rfl) rfl), by decide, by decide, by decide +kernel⟩
theorem ov_X5_setKeeping : j_OV mi_X5_setKeeping := ⟨(gw5 (List.mem_of_getElem? (i := 214) rfl) rfl), (gw5 (List.mem_of_getElem? (i := 215) rfl) rfl)⟩
def mi_X5_likelihood : JMI := (yX5_likelihood, cX5_likelihood, 7, (some .long), RX5, 3, 63)
theorem ok_X5_likelihood : j_OK mi_X5_likelihood 3 := ⟨(gw5 (List.mem_of_getElem? (i := 223) rfl) rfl), (gw1 (List.mem_of_getElem? (i := 11) rfl) rfl), by decide, by decide, by decide +kernel⟩
theorem os_X5_likelihood : j_OS mi_X5_likelihood := (gw5 (List.mem_of_getElem? (i := 222) rfl) rfl)
def mi_X5_wayWithout : JMI := (yX5_wayWithout, cX5_wayWithout, 4, (some .int), RX5, 2, 42)
theorem ok_X5_wayWithout : j_OK mi_X5_wayWithout 2 := ⟨(gw5 (List.mem_of_getElem? (i := 219) rfl) rfl), (gw1 (List.mem_of_getElem? (i := 11) rfl) rfl), by decide, by decide, by decide +kernel⟩
theorem os_X5_wayWithout : j_OS mi_X5_wayWithout := (gw5 (List.mem_of_getElem? (i := 218) rfl) rfl)
def mi_X6_init : JMI := (yX6_init, cX6_init, 2, none, RX6, 3, 58)
theorem ok_X6_init : j_OK mi_X6_init 1 := ⟨(gw1 (List.mem_of_getElem? (i := 74) rfl) rfl), (gw1 (List.mem_of_getElem? (i := 3) rfl) rfl), by decide, by decide, by decide +kernel⟩
theorem oi_X6_init : j_OI mi_X6_init := ⟨rfl, (gw1 (List.mem_of_getElem? (i := 73) rfl) rfl), rfl⟩
def mi_X6_handOver : JMI := (yX6_handOver, cX6_handOver, 3, (some (.object "HookGates$Land")), RX6, 0, 0)
theorem ok_X6_handOver : j_OK mi_X6_handOver 1 := ⟨(gw3 (List.mem_of_getElem? (i := 205) rfl) rfl), (gw1 (List.mem_of_getElem? (i := 3) rfl) rfl), by decide, by decide, by decide +kernel⟩
theorem ov_X6_handOver : j_OV mi_X6_handOver := ⟨(gw3 (List.mem_of_getElem? (i := 203) rfl) rfl), (gw3 (List.mem_of_getElem? (i := 204) rfl) rfl)⟩
def mi_X6_readText : JMI := (yX6_readText, cX6_readText, 3, (some .boolean), RX6, 10, 215)
theorem ok_X6_readText : j_OK mi_X6_readText 1 := ⟨(gw2 (List.mem_of_getElem? (i := 201) rfl) rfl), (gw1 (List.mem_of_getElem? (i := 3) rfl) rfl), by decide, by decide, by decide +kernel⟩
theorem ov_X6_readText : j_OV mi_X6_readText := ⟨(gw2 (List.mem_of_getElem? (i := 199) rfl) rfl), (gw2 (List.mem_of_getElem? (i := 200) rfl) rfl)⟩
def mi_X6_readLine : JMI := (yX6_readLine, cX6_readLine, 2, (some .boolean), RX6, 9, 194)
theorem ok_X6_readLine : j_OK mi_X6_readLine 0 := ⟨(gw2 (List.mem_of_getElem? (i := 239) rfl) rfl), (gw1 (List.mem_of_getElem? (i := 3) rfl) rfl), by decide, by decide, by decide +kernel⟩
theorem ov_X6_readLine : j_OV mi_X6_readLine := ⟨(gw2 (List.mem_of_getElem? (i := 238) rfl) rfl), (gp1 (List.mem_of_getElem? (i := 4) rfl))⟩
def mi_X6_lineOf : JMI := (yX6_lineOf, cX6_lineOf, 1, (some .int), RX6, 6, 128)
theorem ok_X6_lineOf : j_OK mi_X6_lineOf 0 := ⟨(gw3 (List.mem_of_getElem? (i := 3) rfl) rfl), (gw1 (List.mem_of_getElem? (i := 3) rfl) rfl), by decide, by decide, by decide +kernel⟩
theorem ov_X6_lineOf : j_OV mi_X6_lineOf := ⟨(gw3 (List.mem_of_getElem? (i := 2) rfl) rfl), (gp1 (List.mem_of_getElem? (i := 5) rfl))⟩
def mi_X6_isFull : JMI := (yX6_isFull, cX6_isFull, 2, (some .boolean), RX6, 0, 0)
theorem ok_X6_isFull : j_OK mi_X6_isFull 1 := ⟨(gw3 (List.mem_of_getElem? (i := 87) rfl) rfl), (gw1 (List.mem_of_getElem? (i := 3) rfl) rfl), by decide, by decide, by decide +kernel⟩
theorem ov_X6_isFull : j_OV mi_X6_isFull := ⟨(gw3 (List.mem_of_getElem? (i := 86) rfl) rfl), (gp1 (List.mem_of_getElem? (i := 10) rfl))⟩
def mi_X6_readLandLine : JMI := (yX6_readLandLine, cX6_readLandLine, 1, (some .boolean), RX6, 7, 149)
theorem ok_X6_readLandLine : j_OK mi_X6_readLandLine 0 := ⟨(gw3 (List.mem_of_getElem? (i := 72) rfl) rfl), (gw1 (List.mem_of_getElem? (i := 3) rfl) rfl), by decide, by decide, by decide +kernel⟩
theorem ov_X6_readLandLine : j_OV mi_X6_readLandLine := ⟨(gw3 (List.mem_of_getElem? (i := 71) rfl) rfl), (gp1 (List.mem_of_getElem? (i := 7) rfl))⟩
def mi_X6_readPerson : JMI := (yX6_readPerson, cX6_readPerson, 1, (some .boolean), RX6, 8, 170)
theorem ok_X6_readPerson : j_OK mi_X6_readPerson 0 := ⟨(gw3 (List.mem_of_getElem? (i := 91) rfl) rfl), (gw1 (List.mem_of_getElem? (i := 3) rfl) rfl), by decide, by decide, by decide +kernel⟩
theorem ov_X6_readPerson : j_OV mi_X6_readPerson := ⟨(gw3 (List.mem_of_getElem? (i := 90) rfl) rfl), (gp1 (List.mem_of_getElem? (i := 11) rfl))⟩
def mi_X6_readFirm : JMI := (yX6_readFirm, cX6_readFirm, 5, (some .boolean), RX6, 8, 170)
theorem ok_X6_readFirm : j_OK mi_X6_readFirm 0 := ⟨(gw3 (List.mem_of_getElem? (i := 103) rfl) rfl), (gw1 (List.mem_of_getElem? (i := 3) rfl) rfl), by decide, by decide, by decide +kernel⟩
theorem ov_X6_readFirm : j_OV mi_X6_readFirm := ⟨(gw3 (List.mem_of_getElem? (i := 102) rfl) rfl), (gp1 (List.mem_of_getElem? (i := 14) rfl))⟩
def mi_X6_readGate : JMI := (yX6_readGate, cX6_readGate, 5, (some .boolean), RX6, 8, 170)
theorem ok_X6_readGate : j_OK mi_X6_readGate 0 := ⟨(gw3 (List.mem_of_getElem? (i := 120) rfl) rfl), (gw1 (List.mem_of_getElem? (i := 3) rfl) rfl), by decide, by decide, by decide +kernel⟩
theorem ov_X6_readGate : j_OV mi_X6_readGate := ⟨(gw3 (List.mem_of_getElem? (i := 119) rfl) rfl), (gp2 (List.mem_of_getElem? (i := 0) rfl))⟩
def mi_X6_kindOf : JMI := (yX6_kindOf, cX6_kindOf, 1, (some .int), RX6, 6, 128)
theorem ok_X6_kindOf : j_OK mi_X6_kindOf 0 := ⟨(gw3 (List.mem_of_getElem? (i := 124) rfl) rfl), (gw1 (List.mem_of_getElem? (i := 3) rfl) rfl), by decide, by decide, by decide +kernel⟩
theorem ov_X6_kindOf : j_OV mi_X6_kindOf := ⟨(gw3 (List.mem_of_getElem? (i := 123) rfl) rfl), (gp2 (List.mem_of_getElem? (i := 1) rfl))⟩
def mi_X6_hungOf : JMI := (yX6_hungOf, cX6_hungOf, 1, (some .int), RX6, 6, 128)
theorem ok_X6_hungOf : j_OK mi_X6_hungOf 0 := ⟨(gw3 (List.mem_of_getElem? (i := 133) rfl) rfl), (gw1 (List.mem_of_getElem? (i := 3) rfl) rfl), by decide, by decide, by decide +kernel⟩
theorem ov_X6_hungOf : j_OV mi_X6_hungOf := ⟨(gw3 (List.mem_of_getElem? (i := 132) rfl) rfl), (gp2 (List.mem_of_getElem? (i := 2) rfl))⟩
def mi_X6_readPath : JMI := (yX6_readPath, cX6_readPath, 3, (some .boolean), RX6, 8, 170)
theorem ok_X6_readPath : j_OK mi_X6_readPath 0 := ⟨(gw3 (List.mem_of_getElem? (i := 163) rfl) rfl), (gw1 (List.mem_of_getElem? (i := 3) rfl) rfl), by decide, by decide, by decide +kernel⟩
theorem ov_X6_readPath : j_OV mi_X6_readPath := ⟨(gw3 (List.mem_of_getElem? (i := 162) rfl) rfl), (gp2 (List.mem_of_getElem? (i := 4) rfl))⟩
def mi_X6_readWant : JMI := (yX6_readWant, cX6_readWant, 4, (some .boolean), RX6, 8, 170)
theorem ok_X6_readWant : j_OK mi_X6_readWant 1 := ⟨(gw3 (List.mem_of_getElem? (i := 171) rfl) rfl), (gw1 (List.mem_of_getElem? (i := 3) rfl) rfl), by decide, by decide, by decide +kernel⟩
theorem ov_X6_readWant : j_OV mi_X6_readWant := ⟨(gw3 (List.mem_of_getElem? (i := 170) rfl) rfl), (gp2 (List.mem_of_getElem? (i := 5) rfl))⟩
def mi_X6_readLost : JMI := (yX6_readLost, cX6_readLost, 2, (some .boolean), RX6, 8, 170)
theorem ok_X6_readLost : j_OK mi_X6_readLost 0 := ⟨(gw3 (List.mem_of_getElem? (i := 180) rfl) rfl), (gw1 (List.mem_of_getElem? (i := 3) rfl) rfl), by decide, by decide, by decide +kernel⟩
theorem ov_X6_readLost : j_OV mi_X6_readLost := ⟨(gw3 (List.mem_of_getElem? (i := 179) rfl) rfl), (gp2 (List.mem_of_getElem? (i := 6) rfl))⟩
def mi_X6_readHad : JMI := (yX6_readHad, cX6_readHad, 2, (some .boolean), RX6, 8, 170)
theorem ok_X6_readHad : j_OK mi_X6_readHad 0 := ⟨(gw3 (List.mem_of_getElem? (i := 193) rfl) rfl), (gw1 (List.mem_of_getElem? (i := 3) rfl) rfl), by decide, by decide, by decide +kernel⟩
theorem ov_X6_readHad : j_OV mi_X6_readHad := ⟨(gw3 (List.mem_of_getElem? (i := 192) rfl) rfl), (gp2 (List.mem_of_getElem? (i := 7) rfl))⟩
def mi_X6_readWord : JMI := (yX6_readWord, cX6_readWord, 2, (some .boolean), RX6, 6, 128)
theorem ok_X6_readWord : j_OK mi_X6_readWord 1 := ⟨(gw3 (List.mem_of_getElem? (i := 78) rfl) rfl), (gw1 (List.mem_of_getElem? (i := 3) rfl) rfl), by decide, by decide, by decide +kernel⟩
theorem ov_X6_readWord : j_OV mi_X6_readWord := ⟨(gw3 (List.mem_of_getElem? (i := 77) rfl) rfl), (gp1 (List.mem_of_getElem? (i := 8) rfl))⟩
def mi_X6_isWholeUpTo : JMI := (yX6_isWholeUpTo, cX6_isWholeUpTo, 2, (some .boolean), RX6, 1, 21)
theorem ok_X6_isWholeUpTo : j_OK mi_X6_isWholeUpTo 1 := ⟨(gw3 (List.mem_of_getElem? (i := 82) rfl) rfl), (gw1 (List.mem_of_getElem? (i := 3) rfl) rfl), by decide, by decide, by decide +kernel⟩
theorem ov_X6_isWholeUpTo : j_OV mi_X6_isWholeUpTo := ⟨(gw3 (List.mem_of_getElem? (i := 81) rfl) rfl), (gp1 (List.mem_of_getElem? (i := 9) rfl))⟩
def mi_X6_readNewName : JMI := (yX6_readNewName, cX6_readNewName, 3, (some .boolean), RX6, 7, 148)
theorem ok_X6_readNewName : j_OK mi_X6_readNewName 2 := ⟨(gw3 (List.mem_of_getElem? (i := 95) rfl) rfl), (gw1 (List.mem_of_getElem? (i := 3) rfl) rfl), by decide, by decide, by decide +kernel⟩
theorem ov_X6_readNewName : j_OV mi_X6_readNewName := ⟨(gw3 (List.mem_of_getElem? (i := 94) rfl) rfl), (gp1 (List.mem_of_getElem? (i := 12) rfl))⟩
def mi_X6_toldNumber : JMI := (yX6_toldNumber, cX6_toldNumber, 3, (some .int), RX6, 7, 148)
theorem ok_X6_toldNumber : j_OK mi_X6_toldNumber 1 := ⟨(gw3 (List.mem_of_getElem? (i := 107) rfl) rfl), (gw1 (List.mem_of_getElem? (i := 3) rfl) rfl), by decide, by decide, by decide +kernel⟩
theorem ov_X6_toldNumber : j_OV mi_X6_toldNumber := ⟨(gw3 (List.mem_of_getElem? (i := 106) rfl) rfl), (gp1 (List.mem_of_getElem? (i := 15) rfl))⟩
def mi_X6_nameIndex : JMI := (yX6_nameIndex, cX6_nameIndex, 2, (some .int), RX6, 0, 0)
theorem ok_X6_nameIndex : j_OK mi_X6_nameIndex 0 := ⟨(gw3 (List.mem_of_getElem? (i := 99) rfl) rfl), (gw1 (List.mem_of_getElem? (i := 3) rfl) rfl), by decide, by decide, by decide +kernel⟩
theorem ov_X6_nameIndex : j_OV mi_X6_nameIndex := ⟨(gw3 (List.mem_of_getElem? (i := 98) rfl) rfl), (gp1 (List.mem_of_getElem? (i := 13) rfl))⟩
def mi_X6_fail : JMI := (yX6_fail, cX6_fail, 2, (some .boolean), RX6, 0, 0)
theorem ok_X6_fail : j_OK mi_X6_fail 1 := ⟨(gw3 (List.mem_of_getElem? (i := 68) rfl) rfl), (gw1 (List.mem_of_getElem? (i := 3) rfl) rfl), by decide, by decide, by decide +kernel⟩
theorem ov_X6_fail : j_OV mi_X6_fail := ⟨(gw3 (List.mem_of_getElem? (i := 67) rfl) rfl), (gp1 (List.mem_of_getElem? (i := 6) rfl))⟩
def mi_X7_init : JMI := (yX7_init, cX7_init, 2, none, RX7, 1, 18)
theorem ok_X7_init : j_OK mi_X7_init 1 := ⟨(gw2 (List.mem_of_getElem? (i := 26) rfl) rfl), (gw1 (List.mem_of_getElem? (i := 7) rfl) rfl), by decide, by decide, by decide +kernel⟩
theorem oi_X7_init : j_OI mi_X7_init := ⟨rfl, (gw2 (List.mem_of_getElem? (i := 25) rfl) rfl), rfl⟩
def mi_X7_addLatest : JMI := (yX7_addLatest, cX7_addLatest, 2, none, RX7, 1, 22)
theorem ok_X7_addLatest : j_OK mi_X7_addLatest 1 := ⟨(gw6 (List.mem_of_getElem? (i := 19) rfl) rfl), (gw1 (List.mem_of_getElem? (i := 7) rfl) rfl), by decide, by decide, by decide +kernel⟩
theorem ov_X7_addLatest : j_OV mi_X7_addLatest := ⟨(gw6 (List.mem_of_getElem? (i := 17) rfl) rfl), (gw6 (List.mem_of_getElem? (i := 18) rfl) rfl)⟩
def mi_X7_bringBack : JMI := (yX7_bringBack, cX7_bringBack, 3, none, RX7, 1, 23)
theorem ok_X7_bringBack : j_OK mi_X7_bringBack 2 := ⟨(gw6 (List.mem_of_getElem? (i := 52) rfl) rfl), (gw1 (List.mem_of_getElem? (i := 7) rfl) rfl), by decide, by decide, by decide +kernel⟩
theorem ov_X7_bringBack : j_OV mi_X7_bringBack := ⟨(gw6 (List.mem_of_getElem? (i := 50) rfl) rfl), (gw6 (List.mem_of_getElem? (i := 51) rfl) rfl)⟩
def mi_X7_dropFirst : JMI := (yX7_dropFirst, cX7_dropFirst, 2, none, RX7, 0, 0)
theorem ok_X7_dropFirst : j_OK mi_X7_dropFirst 0 := ⟨(gw6 (List.mem_of_getElem? (i := 23) rfl) rfl), (gw1 (List.mem_of_getElem? (i := 7) rfl) rfl), by decide, by decide, by decide +kernel⟩
theorem ov_X7_dropFirst : j_OV mi_X7_dropFirst := ⟨(gw6 (List.mem_of_getElem? (i := 22) rfl) rfl), (gp3 (List.mem_of_getElem? (i := 9) rfl))⟩
def mi_X8_init : JMI := (yX8_init, cX8_init, 1, none, RX8, 1, 18)
theorem ok_X8_init : j_OK mi_X8_init 0 := ⟨(gw2 (List.mem_of_getElem? (i := 78) rfl) rfl), (gw1 (List.mem_of_getElem? (i := 9) rfl) rfl), by decide, by decide, by decide +kernel⟩
theorem oi_X8_init : j_OI mi_X8_init := ⟨rfl, (gw2 (List.mem_of_getElem? (i := 77) rfl) rfl), rfl⟩
def mi_X8_forget : JMI := (yX8_forget, cX8_forget, 1, none, RX8, 0, 0)
theorem ok_X8_forget : j_OK mi_X8_forget 0 := ⟨(gw3 (List.mem_of_getElem? (i := 217) rfl) rfl), (gw1 (List.mem_of_getElem? (i := 9) rfl) rfl), by decide, by decide, by decide +kernel⟩
theorem ov_X8_forget : j_OV mi_X8_forget := ⟨(gw3 (List.mem_of_getElem? (i := 215) rfl) rfl), (gw3 (List.mem_of_getElem? (i := 216) rfl) rfl)⟩
def mi_X8_make : JMI := (yX8_make, cX8_make, 4, none, RX8, 5, 117)
theorem ok_X8_make : j_OK mi_X8_make 1 := ⟨(gw4 (List.mem_of_getElem? (i := 196) rfl) rfl), (gw1 (List.mem_of_getElem? (i := 9) rfl) rfl), by decide, by decide, by decide +kernel⟩
theorem ov_X8_make : j_OV mi_X8_make := ⟨(gw4 (List.mem_of_getElem? (i := 194) rfl) rfl), (gw4 (List.mem_of_getElem? (i := 195) rfl) rfl)⟩
def mi_X8_lookAt : JMI := (yX8_lookAt, cX8_lookAt, 4, none, RX8, 4, 94)
theorem ok_X8_lookAt : j_OK mi_X8_lookAt 2 := ⟨(gw4 (List.mem_of_getElem? (i := 213) rfl) rfl), (gw1 (List.mem_of_getElem? (i := 9) rfl) rfl), by decide, by decide, by decide +kernel⟩
theorem ov_X8_lookAt : j_OV mi_X8_lookAt := ⟨(gw4 (List.mem_of_getElem? (i := 212) rfl) rfl), (gp3 (List.mem_of_getElem? (i := 0) rfl))⟩
def mi_X9_init : JMI := (yX9_init, cX9_init, 1, none, RX9, 1, 18)
theorem ok_X9_init : j_OK mi_X9_init 0 := ⟨(gw1 (List.mem_of_getElem? (i := 37) rfl) rfl), (gw1 (List.mem_of_getElem? (i := 2) rfl) rfl), by decide, by decide, by decide +kernel⟩
theorem oi_X9_init : j_OI mi_X9_init := ⟨rfl, (gw1 (List.mem_of_getElem? (i := 36) rfl) rfl), rfl⟩
def mi_X9_hasRoomForFive : JMI := (yX9_hasRoomForFive, cX9_hasRoomForFive, 1, (some .boolean), RX9, 0, 0)
theorem ok_X9_hasRoomForFive : j_OK mi_X9_hasRoomForFive 0 := ⟨(gw2 (List.mem_of_getElem? (i := 185) rfl) rfl), (gw1 (List.mem_of_getElem? (i := 2) rfl) rfl), by decide, by decide, by decide +kernel⟩
theorem ov_X9_hasRoomForFive : j_OV mi_X9_hasRoomForFive := ⟨(gw2 (List.mem_of_getElem? (i := 183) rfl) rfl), (gw2 (List.mem_of_getElem? (i := 184) rfl) rfl)⟩
def mi_X9_addNumber : JMI := (yX9_addNumber, cX9_addNumber, 3, none, RX9, 0, 0)
theorem ok_X9_addNumber : j_OK mi_X9_addNumber 1 := ⟨(gw2 (List.mem_of_getElem? (i := 189) rfl) rfl), (gw1 (List.mem_of_getElem? (i := 2) rfl) rfl), by decide, by decide, by decide +kernel⟩
theorem ov_X9_addNumber : j_OV mi_X9_addNumber := ⟨(gw2 (List.mem_of_getElem? (i := 187) rfl) rfl), (gw2 (List.mem_of_getElem? (i := 188) rfl) rfl)⟩
def mi_X9_startReading : JMI := (yX9_startReading, cX9_startReading, 2, none, RX9, 3, 62)
theorem ok_X9_startReading : j_OK mi_X9_startReading 1 := ⟨(gw2 (List.mem_of_getElem? (i := 213) rfl) rfl), (gw1 (List.mem_of_getElem? (i := 2) rfl) rfl), by decide, by decide, by decide +kernel⟩
theorem ov_X9_startReading : j_OV mi_X9_startReading := ⟨(gw2 (List.mem_of_getElem? (i := 211) rfl) rfl), (gw2 (List.mem_of_getElem? (i := 212) rfl) rfl)⟩
def mi_X9_advance : JMI := (yX9_advance, cX9_advance, 2, none, RX9, 2, 41)
theorem ok_X9_advance : j_OK mi_X9_advance 0 := ⟨(gw2 (List.mem_of_getElem? (i := 217) rfl) rfl), (gw1 (List.mem_of_getElem? (i := 2) rfl) rfl), by decide, by decide, by decide +kernel⟩
theorem ov_X9_advance : j_OV mi_X9_advance := ⟨(gw2 (List.mem_of_getElem? (i := 215) rfl) rfl), (gw2 (List.mem_of_getElem? (i := 216) rfl) rfl)⟩
def mi_X9_scanWord : JMI := (yX9_scanWord, cX9_scanWord, 1, none, RX9, 1, 21)
theorem ok_X9_scanWord : j_OK mi_X9_scanWord 0 := ⟨(gw2 (List.mem_of_getElem? (i := 228) rfl) rfl), (gw1 (List.mem_of_getElem? (i := 2) rfl) rfl), by decide, by decide, by decide +kernel⟩
theorem ov_X9_scanWord : j_OV mi_X9_scanWord := ⟨(gw2 (List.mem_of_getElem? (i := 227) rfl) rfl), (gp1 (List.mem_of_getElem? (i := 2) rfl))⟩
def mi_X9_scanWhole : JMI := (yX9_scanWhole, cX9_scanWhole, 1, none, RX9, 1, 21)
theorem ok_X9_scanWhole : j_OK mi_X9_scanWhole 0 := ⟨(gw2 (List.mem_of_getElem? (i := 235) rfl) rfl), (gw1 (List.mem_of_getElem? (i := 2) rfl) rfl), by decide, by decide, by decide +kernel⟩
theorem ov_X9_scanWhole : j_OV mi_X9_scanWhole := ⟨(gw2 (List.mem_of_getElem? (i := 234) rfl) rfl), (gp1 (List.mem_of_getElem? (i := 3) rfl))⟩
def mi_X9_spells : JMI := (yX9_spells, cX9_spells, 3, (some .boolean), RX9, 5, 106)
theorem ok_X9_spells : j_OK mi_X9_spells 1 := ⟨(gw3 (List.mem_of_getElem? (i := 8) rfl) rfl), (gw1 (List.mem_of_getElem? (i := 2) rfl) rfl), by decide, by decide, by decide +kernel⟩
theorem ov_X9_spells : j_OV mi_X9_spells := ⟨(gw3 (List.mem_of_getElem? (i := 6) rfl) rfl), (gw3 (List.mem_of_getElem? (i := 7) rfl) rfl)⟩
def mi_X9_byteAt : JMI := (yX9_byteAt, cX9_byteAt, 2, (some .int), RX9, 0, 0)
theorem ok_X9_byteAt : j_OK mi_X9_byteAt 1 := ⟨(gw2 (List.mem_of_getElem? (i := 221) rfl) rfl), (gw1 (List.mem_of_getElem? (i := 2) rfl) rfl), by decide, by decide, by decide +kernel⟩
theorem ov_X9_byteAt : j_OV mi_X9_byteAt := ⟨(gw2 (List.mem_of_getElem? (i := 220) rfl) rfl), (gp1 (List.mem_of_getElem? (i := 1) rfl))⟩
def mi_X9_isLetter : JMI := (yX9_isLetter, cX9_isLetter, 1, (some .boolean), RX9, 0, 0)
theorem ok_X9_isLetter : j_OK mi_X9_isLetter 1 := ⟨(gw2 (List.mem_of_getElem? (i := 224) rfl) rfl), (gw1 (List.mem_of_getElem? (i := 2) rfl) rfl), by decide, by decide, by decide +kernel⟩
theorem os_X9_isLetter : j_OS mi_X9_isLetter := (gw2 (List.mem_of_getElem? (i := 223) rfl) rfl)
def mi_X9_isDigit : JMI := (yX9_isDigit, cX9_isDigit, 1, (some .boolean), RX9, 0, 0)
theorem ok_X9_isDigit : j_OK mi_X9_isDigit 1 := ⟨(gw2 (List.mem_of_getElem? (i := 231) rfl) rfl), (gw1 (List.mem_of_getElem? (i := 2) rfl) rfl), by decide, by decide, by decide +kernel⟩
theorem os_X9_isDigit : j_OS mi_X9_isDigit := (gw2 (List.mem_of_getElem? (i := 230) rfl) rfl)
def mi_X10_hungAt : JMI := (yX10_hungAt, cX10_hungAt, 2, (some .int), RX10, 0, 0)
theorem ok_X10_hungAt : j_OK mi_X10_hungAt 2 := ⟨(gw4 (List.mem_of_getElem? (i := 5) rfl) rfl), (gw1 (List.mem_of_getElem? (i := 17) rfl) rfl), by decide, by decide, by decide +kernel⟩
theorem os_X10_hungAt : j_OS mi_X10_hungAt := (gw4 (List.mem_of_getElem? (i := 4) rfl) rfl)
def mi_X10_with : JMI := (yX10_with, cX10_with, 3, (some .int), RX10, 1, 20)
theorem ok_X10_with : j_OK mi_X10_with 3 := ⟨(gw3 (List.mem_of_getElem? (i := 144) rfl) rfl), (gw1 (List.mem_of_getElem? (i := 17) rfl) rfl), by decide, by decide, by decide +kernel⟩
theorem os_X10_with : j_OS mi_X10_with := (gw3 (List.mem_of_getElem? (i := 143) rfl) rfl)
def mi_X10_bitsOf : JMI := (yX10_bitsOf, cX10_bitsOf, 1, (some .int), RX10, 0, 0)
theorem ok_X10_bitsOf : j_OK mi_X10_bitsOf 1 := ⟨(gw3 (List.mem_of_getElem? (i := 147) rfl) rfl), (gw1 (List.mem_of_getElem? (i := 17) rfl) rfl), by decide, by decide, by decide +kernel⟩
theorem os_X10_bitsOf : j_OS mi_X10_bitsOf := (gw3 (List.mem_of_getElem? (i := 146) rfl) rfl)
def mi_X10_hooksIn : JMI := (yX10_hooksIn, cX10_hooksIn, 1, (some .int), RX10, 1, 20)
theorem ok_X10_hooksIn : j_OK mi_X10_hooksIn 1 := ⟨(gw4 (List.mem_of_getElem? (i := 88) rfl) rfl), (gw1 (List.mem_of_getElem? (i := 17) rfl) rfl), by decide, by decide, by decide +kernel⟩
theorem os_X10_hooksIn : j_OS mi_X10_hooksIn := (gw4 (List.mem_of_getElem? (i := 87) rfl) rfl)
def mi_X10_codesOf : JMI := (yX10_codesOf, cX10_codesOf, 1, (some .int), RX10, 0, 0)
theorem ok_X10_codesOf : j_OK mi_X10_codesOf 1 := ⟨(gw4 (List.mem_of_getElem? (i := 199) rfl) rfl), (gw1 (List.mem_of_getElem? (i := 17) rfl) rfl), by decide, by decide, by decide +kernel⟩
theorem os_X10_codesOf : j_OS mi_X10_codesOf := (gw4 (List.mem_of_getElem? (i := 198) rfl) rfl)
def mi_X10_fromCode : JMI := (yX10_fromCode, cX10_fromCode, 2, (some .int), RX10, 0, 0)
theorem ok_X10_fromCode : j_OK mi_X10_fromCode 2 := ⟨(gw4 (List.mem_of_getElem? (i := 202) rfl) rfl), (gw1 (List.mem_of_getElem? (i := 17) rfl) rfl), by decide, by decide, by decide +kernel⟩
theorem os_X10_fromCode : j_OS mi_X10_fromCode := (gw4 (List.mem_of_getElem? (i := 201) rfl) rfl)
def mi_X10_isWay : JMI := (yX10_isWay, cX10_isWay, 1, (some .boolean), RX10, 0, 0)
theorem ok_X10_isWay : j_OK mi_X10_isWay 1 := ⟨(gw4 (List.mem_of_getElem? (i := 209) rfl) rfl), (gw1 (List.mem_of_getElem? (i := 17) rfl) rfl), by decide, by decide, by decide +kernel⟩
theorem os_X10_isWay : j_OS mi_X10_isWay := (gw4 (List.mem_of_getElem? (i := 208) rfl) rfl)
def mi_X11_init : JMI := (yX11_init, cX11_init, 1, none, RX11, 4, 79)
theorem ok_X11_init : j_OK mi_X11_init 0 := ⟨(gw1 (List.mem_of_getElem? (i := 29) rfl) rfl), (gw1 (List.mem_of_getElem? (i := 1) rfl) rfl), by decide, by decide, by decide +kernel⟩
theorem oi_X11_init : j_OI mi_X11_init := ⟨rfl, (gw1 (List.mem_of_getElem? (i := 28) rfl) rfl), rfl⟩
def mi_X11_feed : JMI := (yX11_feed, cX11_feed, 6, (some .int), RX11, 1, 22)
theorem ok_X11_feed : j_OK mi_X11_feed 5 := ⟨(gw2 (List.mem_of_getElem? (i := 181) rfl) rfl), (gw1 (List.mem_of_getElem? (i := 1) rfl) rfl), by decide, by decide, by decide +kernel⟩
theorem ov_X11_feed : j_OV mi_X11_feed := ⟨(gw2 (List.mem_of_getElem? (i := 179) rfl) rfl), (gw2 (List.mem_of_getElem? (i := 180) rfl) rfl)⟩
def mi_X11_land : JMI := (yX11_land, cX11_land, 3, (some .int), RX11, 11, 237)
theorem ok_X11_land : j_OK mi_X11_land 1 := ⟨(gw2 (List.mem_of_getElem? (i := 193) rfl) rfl), (gw1 (List.mem_of_getElem? (i := 1) rfl) rfl), by decide, by decide, by decide +kernel⟩
theorem ov_X11_land : j_OV mi_X11_land := ⟨(gw2 (List.mem_of_getElem? (i := 191) rfl) rfl), (gw2 (List.mem_of_getElem? (i := 192) rfl) rfl)⟩
def mi_X11_settle : JMI := (yX11_settle, cX11_settle, 1, none, RX11, 1, 23)
theorem ok_X11_settle : j_OK mi_X11_settle 0 := ⟨(gw3 (List.mem_of_getElem? (i := 201) rfl) rfl), (gw1 (List.mem_of_getElem? (i := 1) rfl) rfl), by decide, by decide, by decide +kernel⟩
theorem ov_X11_settle : j_OV mi_X11_settle := ⟨(gw3 (List.mem_of_getElem? (i := 200) rfl) rfl), (gp2 (List.mem_of_getElem? (i := 8) rfl))⟩
def mi_X11_fault : JMI := (yX11_fault, cX11_fault, 1, (some .int), RX11, 0, 0)
theorem ok_X11_fault : j_OK mi_X11_fault 0 := ⟨(gw3 (List.mem_of_getElem? (i := 229) rfl) rfl), (gw1 (List.mem_of_getElem? (i := 1) rfl) rfl), by decide, by decide, by decide +kernel⟩
theorem ov_X11_fault : j_OV mi_X11_fault := ⟨(gw3 (List.mem_of_getElem? (i := 227) rfl) rfl), (gw3 (List.mem_of_getElem? (i := 228) rfl) rfl)⟩
def mi_X11_where : JMI := (yX11_where, cX11_where, 1, (some .int), RX11, 0, 0)
theorem ok_X11_where : j_OK mi_X11_where 0 := ⟨(gw3 (List.mem_of_getElem? (i := 233) rfl) rfl), (gw1 (List.mem_of_getElem? (i := 1) rfl) rfl), by decide, by decide, by decide +kernel⟩
theorem ov_X11_where : j_OV mi_X11_where := ⟨(gw3 (List.mem_of_getElem? (i := 231) rfl) rfl), (gw3 (List.mem_of_getElem? (i := 232) rfl) rfl)⟩
def mi_X11_gate : JMI := (yX11_gate, cX11_gate, 3, (some .int), RX11, 2, 43)
theorem ok_X11_gate : j_OK mi_X11_gate 2 := ⟨(gw3 (List.mem_of_getElem? (i := 237) rfl) rfl), (gw1 (List.mem_of_getElem? (i := 1) rfl) rfl), by decide, by decide, by decide +kernel⟩
theorem ov_X11_gate : j_OV mi_X11_gate := ⟨(gw3 (List.mem_of_getElem? (i := 235) rfl) rfl), (gw3 (List.mem_of_getElem? (i := 236) rfl) rfl)⟩
def mi_X11_person : JMI := (yX11_person, cX11_person, 3, (some .int), RX11, 4, 89)
theorem ok_X11_person : j_OK mi_X11_person 2 := ⟨(gw4 (List.mem_of_getElem? (i := 14) rfl) rfl), (gw1 (List.mem_of_getElem? (i := 1) rfl) rfl), by decide, by decide, by decide +kernel⟩
theorem ov_X11_person : j_OV mi_X11_person := ⟨(gw4 (List.mem_of_getElem? (i := 12) rfl) rfl), (gw4 (List.mem_of_getElem? (i := 13) rfl) rfl)⟩
def mi_X11_firm : JMI := (yX11_firm, cX11_firm, 3, (some .int), RX11, 3, 67)
theorem ok_X11_firm : j_OK mi_X11_firm 2 := ⟨(gw4 (List.mem_of_getElem? (i := 48) rfl) rfl), (gw1 (List.mem_of_getElem? (i := 1) rfl) rfl), by decide, by decide, by decide +kernel⟩
theorem ov_X11_firm : j_OV mi_X11_firm := ⟨(gw4 (List.mem_of_getElem? (i := 46) rfl) rfl), (gw4 (List.mem_of_getElem? (i := 47) rfl) rfl)⟩
def mi_X11_commons : JMI := (yX11_commons, cX11_commons, 1, (some .int), RX11, 4, 88)
theorem ok_X11_commons : j_OK mi_X11_commons 0 := ⟨(gw4 (List.mem_of_getElem? (i := 60) rfl) rfl), (gw1 (List.mem_of_getElem? (i := 1) rfl) rfl), by decide, by decide, by decide +kernel⟩
theorem ov_X11_commons : j_OV mi_X11_commons := ⟨(gw4 (List.mem_of_getElem? (i := 58) rfl) rfl), (gw4 (List.mem_of_getElem? (i := 59) rfl) rfl)⟩
def mi_X11_richest : JMI := (yX11_richest, cX11_richest, 1, (some .int), RX11, 4, 94)
theorem ok_X11_richest : j_OK mi_X11_richest 0 := ⟨(gw4 (List.mem_of_getElem? (i := 72) rfl) rfl), (gw1 (List.mem_of_getElem? (i := 1) rfl) rfl), by decide, by decide, by decide +kernel⟩
theorem ov_X11_richest : j_OV mi_X11_richest := ⟨(gw4 (List.mem_of_getElem? (i := 70) rfl) rfl), (gw4 (List.mem_of_getElem? (i := 71) rfl) rfl)⟩
def mi_X11_ground : JMI := (yX11_ground, cX11_ground, 1, (some .int), RX11, 3, 61)
theorem ok_X11_ground : j_OK mi_X11_ground 0 := ⟨(gw4 (List.mem_of_getElem? (i := 81) rfl) rfl), (gw1 (List.mem_of_getElem? (i := 1) rfl) rfl), by decide, by decide, by decide +kernel⟩
theorem ov_X11_ground : j_OV mi_X11_ground := ⟨(gw4 (List.mem_of_getElem? (i := 79) rfl) rfl), (gw4 (List.mem_of_getElem? (i := 80) rfl) rfl)⟩
def mi_X11_hasIf : JMI := (yX11_hasIf, cX11_hasIf, 4, (some .int), RX11, 3, 69)
theorem ok_X11_hasIf : j_OK mi_X11_hasIf 3 := ⟨(gw4 (List.mem_of_getElem? (i := 93) rfl) rfl), (gw1 (List.mem_of_getElem? (i := 1) rfl) rfl), by decide, by decide, by decide +kernel⟩
theorem ov_X11_hasIf : j_OV mi_X11_hasIf := ⟨(gw4 (List.mem_of_getElem? (i := 91) rfl) rfl), (gw4 (List.mem_of_getElem? (i := 92) rfl) rfl)⟩
def mi_X11_can : JMI := (yX11_can, cX11_can, 4, (some .int), RX11, 4, 86)
theorem ok_X11_can : j_OK mi_X11_can 1 := ⟨(gw4 (List.mem_of_getElem? (i := 101) rfl) rfl), (gw1 (List.mem_of_getElem? (i := 1) rfl) rfl), by decide, by decide, by decide +kernel⟩
theorem ov_X11_can : j_OV mi_X11_can := ⟨(gw4 (List.mem_of_getElem? (i := 99) rfl) rfl), (gw4 (List.mem_of_getElem? (i := 100) rfl) rfl)⟩
def mi_X11_errand : JMI := (yX11_errand, cX11_errand, 2, (some .int), RX11, 6, 134)
theorem ok_X11_errand : j_OK mi_X11_errand 0 := ⟨(gw4 (List.mem_of_getElem? (i := 117) rfl) rfl), (gw1 (List.mem_of_getElem? (i := 1) rfl) rfl), by decide, by decide, by decide +kernel⟩
theorem ov_X11_errand : j_OV mi_X11_errand := ⟨(gw4 (List.mem_of_getElem? (i := 115) rfl) rfl), (gw4 (List.mem_of_getElem? (i := 116) rfl) rfl)⟩
def mi_X11_errandAt : JMI := (yX11_errandAt, cX11_errandAt, 3, (some .int), RX11, 6, 134)
theorem ok_X11_errandAt : j_OK mi_X11_errandAt 1 := ⟨(gw4 (List.mem_of_getElem? (i := 152) rfl) rfl), (gw1 (List.mem_of_getElem? (i := 1) rfl) rfl), by decide, by decide, by decide +kernel⟩
theorem ov_X11_errandAt : j_OV mi_X11_errandAt := ⟨(gw4 (List.mem_of_getElem? (i := 150) rfl) rfl), (gw4 (List.mem_of_getElem? (i := 151) rfl) rfl)⟩
def mi_X11_met : JMI := (yX11_met, cX11_met, 1, (some .int), RX11, 3, 69)
theorem ok_X11_met : j_OK mi_X11_met 0 := ⟨(gw4 (List.mem_of_getElem? (i := 160) rfl) rfl), (gw1 (List.mem_of_getElem? (i := 1) rfl) rfl), by decide, by decide, by decide +kernel⟩
theorem ov_X11_met : j_OV mi_X11_met := ⟨(gw4 (List.mem_of_getElem? (i := 158) rfl) rfl), (gw4 (List.mem_of_getElem? (i := 159) rfl) rfl)⟩
def mi_X11_movesFor : JMI := (yX11_movesFor, cX11_movesFor, 4, (some .int), RX11, 6, 134)
theorem ok_X11_movesFor : j_OK mi_X11_movesFor 2 := ⟨(gw4 (List.mem_of_getElem? (i := 165) rfl) rfl), (gw1 (List.mem_of_getElem? (i := 1) rfl) rfl), by decide, by decide, by decide +kernel⟩
theorem ov_X11_movesFor : j_OV mi_X11_movesFor := ⟨(gw4 (List.mem_of_getElem? (i := 163) rfl) rfl), (gw4 (List.mem_of_getElem? (i := 164) rfl) rfl)⟩
def mi_X11_mostBy : JMI := (yX11_mostBy, cX11_mostBy, 3, (some .int), RX11, 6, 134)
theorem ok_X11_mostBy : j_OK mi_X11_mostBy 2 := ⟨(gw4 (List.mem_of_getElem? (i := 177) rfl) rfl), (gw1 (List.mem_of_getElem? (i := 1) rfl) rfl), by decide, by decide, by decide +kernel⟩
theorem ov_X11_mostBy : j_OV mi_X11_mostBy := ⟨(gw4 (List.mem_of_getElem? (i := 175) rfl) rfl), (gw4 (List.mem_of_getElem? (i := 176) rfl) rfl)⟩
def mi_X11_reach : JMI := (yX11_reach, cX11_reach, 1, (some .int), RX11, 6, 134)
theorem ok_X11_reach : j_OK mi_X11_reach 0 := ⟨(gw4 (List.mem_of_getElem? (i := 188) rfl) rfl), (gw1 (List.mem_of_getElem? (i := 1) rfl) rfl), by decide, by decide, by decide +kernel⟩
theorem ov_X11_reach : j_OV mi_X11_reach := ⟨(gw4 (List.mem_of_getElem? (i := 186) rfl) rfl), (gw4 (List.mem_of_getElem? (i := 187) rfl) rfl)⟩
def mi_X11_cover : JMI := (yX11_cover, cX11_cover, 1, (some .int), RX11, 6, 140)
theorem ok_X11_cover : j_OK mi_X11_cover 0 := ⟨(gw4 (List.mem_of_getElem? (i := 192) rfl) rfl), (gw1 (List.mem_of_getElem? (i := 1) rfl) rfl), by decide, by decide, by decide +kernel⟩
theorem ov_X11_cover : j_OV mi_X11_cover := ⟨(gw4 (List.mem_of_getElem? (i := 190) rfl) rfl), (gw4 (List.mem_of_getElem? (i := 191) rfl) rfl)⟩
def mi_X11_coverAt : JMI := (yX11_coverAt, cX11_coverAt, 2, (some .int), RX11, 6, 140)
theorem ok_X11_coverAt : j_OK mi_X11_coverAt 1 := ⟨(gw4 (List.mem_of_getElem? (i := 234) rfl) rfl), (gw1 (List.mem_of_getElem? (i := 1) rfl) rfl), by decide, by decide, by decide +kernel⟩
theorem ov_X11_coverAt : j_OV mi_X11_coverAt := ⟨(gw4 (List.mem_of_getElem? (i := 232) rfl) rfl), (gw4 (List.mem_of_getElem? (i := 233) rfl) rfl)⟩
def mi_X11_stills : JMI := (yX11_stills, cX11_stills, 1, (some .int), RX11, 6, 140)
theorem ok_X11_stills : j_OK mi_X11_stills 0 := ⟨(gw4 (List.mem_of_getElem? (i := 238) rfl) rfl), (gw1 (List.mem_of_getElem? (i := 1) rfl) rfl), by decide, by decide, by decide +kernel⟩
theorem ov_X11_stills : j_OV mi_X11_stills := ⟨(gw4 (List.mem_of_getElem? (i := 236) rfl) rfl), (gw4 (List.mem_of_getElem? (i := 237) rfl) rfl)⟩
def mi_X11_isStill : JMI := (yX11_isStill, cX11_isStill, 1, (some .int), RX11, 4, 94)
theorem ok_X11_isStill : j_OK mi_X11_isStill 0 := ⟨(gw5 (List.mem_of_getElem? (i := 2) rfl) rfl), (gw1 (List.mem_of_getElem? (i := 1) rfl) rfl), by decide, by decide, by decide +kernel⟩
theorem ov_X11_isStill : j_OV mi_X11_isStill := ⟨(gw5 (List.mem_of_getElem? (i := 0) rfl) rfl), (gw5 (List.mem_of_getElem? (i := 1) rfl) rfl)⟩
def mi_X11_fairest : JMI := (yX11_fairest, cX11_fairest, 1, (some .int), RX11, 6, 140)
theorem ok_X11_fairest : j_OK mi_X11_fairest 0 := ⟨(gw5 (List.mem_of_getElem? (i := 7) rfl) rfl), (gw1 (List.mem_of_getElem? (i := 1) rfl) rfl), by decide, by decide, by decide +kernel⟩
theorem ov_X11_fairest : j_OV mi_X11_fairest := ⟨(gw5 (List.mem_of_getElem? (i := 5) rfl) rfl), (gw5 (List.mem_of_getElem? (i := 6) rfl) rfl)⟩
def mi_X11_fairAt : JMI := (yX11_fairAt, cX11_fairAt, 2, (some .int), RX11, 6, 140)
theorem ok_X11_fairAt : j_OK mi_X11_fairAt 1 := ⟨(gw5 (List.mem_of_getElem? (i := 11) rfl) rfl), (gw1 (List.mem_of_getElem? (i := 1) rfl) rfl), by decide, by decide, by decide +kernel⟩
theorem ov_X11_fairAt : j_OV mi_X11_fairAt := ⟨(gw5 (List.mem_of_getElem? (i := 9) rfl) rfl), (gw5 (List.mem_of_getElem? (i := 10) rfl) rfl)⟩
def mi_X11_fits : JMI := (yX11_fits, cX11_fits, 1, (some .int), RX11, 6, 140)
theorem ok_X11_fits : j_OK mi_X11_fits 0 := ⟨(gw5 (List.mem_of_getElem? (i := 15) rfl) rfl), (gw1 (List.mem_of_getElem? (i := 1) rfl) rfl), by decide, by decide, by decide +kernel⟩
theorem ov_X11_fits : j_OV mi_X11_fits := ⟨(gw5 (List.mem_of_getElem? (i := 13) rfl) rfl), (gw5 (List.mem_of_getElem? (i := 14) rfl) rfl)⟩
def mi_X11_fitAt : JMI := (yX11_fitAt, cX11_fitAt, 3, (some .int), RX11, 6, 140)
theorem ok_X11_fitAt : j_OK mi_X11_fitAt 2 := ⟨(gw5 (List.mem_of_getElem? (i := 38) rfl) rfl), (gw1 (List.mem_of_getElem? (i := 1) rfl) rfl), by decide, by decide, by decide +kernel⟩
theorem ov_X11_fitAt : j_OV mi_X11_fitAt := ⟨(gw5 (List.mem_of_getElem? (i := 36) rfl) rfl), (gw5 (List.mem_of_getElem? (i := 37) rfl) rfl)⟩
def mi_X11_hungBy : JMI := (yX11_hungBy, cX11_hungBy, 3, (some .int), RX11, 6, 140)
theorem ok_X11_hungBy : j_OK mi_X11_hungBy 2 := ⟨(gw5 (List.mem_of_getElem? (i := 46) rfl) rfl), (gw1 (List.mem_of_getElem? (i := 1) rfl) rfl), by decide, by decide, by decide +kernel⟩
theorem ov_X11_hungBy : j_OV mi_X11_hungBy := ⟨(gw5 (List.mem_of_getElem? (i := 44) rfl) rfl), (gw5 (List.mem_of_getElem? (i := 45) rfl) rfl)⟩
def mi_X11_look : JMI := (yX11_look, cX11_look, 1, (some .int), RX11, 6, 140)
theorem ok_X11_look : j_OK mi_X11_look 0 := ⟨(gw5 (List.mem_of_getElem? (i := 54) rfl) rfl), (gw1 (List.mem_of_getElem? (i := 1) rfl) rfl), by decide, by decide, by decide +kernel⟩
theorem ov_X11_look : j_OV mi_X11_look := ⟨(gw5 (List.mem_of_getElem? (i := 52) rfl) rfl), (gw5 (List.mem_of_getElem? (i := 53) rfl) rfl)⟩
def mi_X11_lookLeaves : JMI := (yX11_lookLeaves, cX11_lookLeaves, 2, (some .int), RX11, 6, 140)
theorem ok_X11_lookLeaves : j_OK mi_X11_lookLeaves 0 := ⟨(gw5 (List.mem_of_getElem? (i := 68) rfl) rfl), (gw1 (List.mem_of_getElem? (i := 1) rfl) rfl), by decide, by decide, by decide +kernel⟩
theorem ov_X11_lookLeaves : j_OV mi_X11_lookLeaves := ⟨(gw5 (List.mem_of_getElem? (i := 66) rfl) rfl), (gw5 (List.mem_of_getElem? (i := 67) rfl) rfl)⟩
def mi_X11_judge : JMI := (yX11_judge, cX11_judge, 1, (some .int), RX11, 4, 93)
theorem ok_X11_judge : j_OK mi_X11_judge 0 := ⟨(gw5 (List.mem_of_getElem? (i := 73) rfl) rfl), (gw1 (List.mem_of_getElem? (i := 1) rfl) rfl), by decide, by decide, by decide +kernel⟩
theorem ov_X11_judge : j_OV mi_X11_judge := ⟨(gw5 (List.mem_of_getElem? (i := 71) rfl) rfl), (gw5 (List.mem_of_getElem? (i := 72) rfl) rfl)⟩
def mi_X11_apart : JMI := (yX11_apart, cX11_apart, 3, (some .int), RX11, 3, 68)
theorem ok_X11_apart : j_OK mi_X11_apart 2 := ⟨(gw5 (List.mem_of_getElem? (i := 78) rfl) rfl), (gw1 (List.mem_of_getElem? (i := 1) rfl) rfl), by decide, by decide, by decide +kernel⟩
theorem ov_X11_apart : j_OV mi_X11_apart := ⟨(gw5 (List.mem_of_getElem? (i := 76) rfl) rfl), (gw5 (List.mem_of_getElem? (i := 77) rfl) rfl)⟩
def mi_X11_sentries : JMI := (yX11_sentries, cX11_sentries, 1, (some .int), RX11, 3, 67)
theorem ok_X11_sentries : j_OK mi_X11_sentries 0 := ⟨(gw5 (List.mem_of_getElem? (i := 90) rfl) rfl), (gw1 (List.mem_of_getElem? (i := 1) rfl) rfl), by decide, by decide, by decide +kernel⟩
theorem ov_X11_sentries : j_OV mi_X11_sentries := ⟨(gw5 (List.mem_of_getElem? (i := 88) rfl) rfl), (gw5 (List.mem_of_getElem? (i := 89) rfl) rfl)⟩
def mi_X11_parts : JMI := (yX11_parts, cX11_parts, 1, (some .int), RX11, 4, 92)
theorem ok_X11_parts : j_OK mi_X11_parts 0 := ⟨(gw5 (List.mem_of_getElem? (i := 98) rfl) rfl), (gw1 (List.mem_of_getElem? (i := 1) rfl) rfl), by decide, by decide, by decide +kernel⟩
theorem ov_X11_parts : j_OV mi_X11_parts := ⟨(gw5 (List.mem_of_getElem? (i := 96) rfl) rfl), (gw5 (List.mem_of_getElem? (i := 97) rfl) rfl)⟩
def mi_X11_estate : JMI := (yX11_estate, cX11_estate, 4, (some .int), RX11, 3, 70)
theorem ok_X11_estate : j_OK mi_X11_estate 2 := ⟨(gw5 (List.mem_of_getElem? (i := 110) rfl) rfl), (gw1 (List.mem_of_getElem? (i := 1) rfl) rfl), by decide, by decide, by decide +kernel⟩
theorem ov_X11_estate : j_OV mi_X11_estate := ⟨(gw5 (List.mem_of_getElem? (i := 108) rfl) rfl), (gw5 (List.mem_of_getElem? (i := 109) rfl) rfl)⟩
def mi_X11_power : JMI := (yX11_power, cX11_power, 3, (some .long), RX11, 5, 123)
theorem ok_X11_power : j_OK mi_X11_power 2 := ⟨(gw5 (List.mem_of_getElem? (i := 119) rfl) rfl), (gw1 (List.mem_of_getElem? (i := 1) rfl) rfl), by decide, by decide, by decide +kernel⟩
theorem ov_X11_power : j_OV mi_X11_power := ⟨(gw5 (List.mem_of_getElem? (i := 117) rfl) rfl), (gw5 (List.mem_of_getElem? (i := 118) rfl) rfl)⟩
def mi_X11_rule : JMI := (yX11_rule, cX11_rule, 1, (some .int), RX11, 5, 118)
theorem ok_X11_rule : j_OK mi_X11_rule 0 := ⟨(gw5 (List.mem_of_getElem? (i := 147) rfl) rfl), (gw1 (List.mem_of_getElem? (i := 1) rfl) rfl), by decide, by decide, by decide +kernel⟩
theorem ov_X11_rule : j_OV mi_X11_rule := ⟨(gw5 (List.mem_of_getElem? (i := 145) rfl) rfl), (gw5 (List.mem_of_getElem? (i := 146) rfl) rfl)⟩
def mi_X11_steal : JMI := (yX11_steal, cX11_steal, 5, (some .int), RX11, 2, 42)
theorem ok_X11_steal : j_OK mi_X11_steal 4 := ⟨(gw5 (List.mem_of_getElem? (i := 156) rfl) rfl), (gw1 (List.mem_of_getElem? (i := 1) rfl) rfl), by decide, by decide, by decide +kernel⟩
theorem ov_X11_steal : j_OV mi_X11_steal := ⟨(gw5 (List.mem_of_getElem? (i := 154) rfl) rfl), (gw5 (List.mem_of_getElem? (i := 155) rfl) rfl)⟩
def mi_X11_rests : JMI := (yX11_rests, cX11_rests, 2, (some .int), RX11, 3, 68)
theorem ok_X11_rests : j_OK mi_X11_rests 1 := ⟨(gw5 (List.mem_of_getElem? (i := 171) rfl) rfl), (gw1 (List.mem_of_getElem? (i := 1) rfl) rfl), by decide, by decide, by decide +kernel⟩
theorem ov_X11_rests : j_OV mi_X11_rests := ⟨(gw5 (List.mem_of_getElem? (i := 169) rfl) rfl), (gw5 (List.mem_of_getElem? (i := 170) rfl) rfl)⟩
def mi_X11_rest : JMI := (yX11_rest, cX11_rest, 2, (some .int), RX11, 3, 67)
theorem ok_X11_rest : j_OK mi_X11_rest 1 := ⟨(gw5 (List.mem_of_getElem? (i := 181) rfl) rfl), (gw1 (List.mem_of_getElem? (i := 1) rfl) rfl), by decide, by decide, by decide +kernel⟩
theorem ov_X11_rest : j_OV mi_X11_rest := ⟨(gw5 (List.mem_of_getElem? (i := 179) rfl) rfl), (gw5 (List.mem_of_getElem? (i := 180) rfl) rfl)⟩
def mi_X11_mayPlay : JMI := (yX11_mayPlay, cX11_mayPlay, 2, (some .boolean), RX11, 1, 21)
theorem ok_X11_mayPlay : j_OK mi_X11_mayPlay 1 := ⟨(gw5 (List.mem_of_getElem? (i := 160) rfl) rfl), (gw1 (List.mem_of_getElem? (i := 1) rfl) rfl), by decide, by decide, by decide +kernel⟩
theorem ov_X11_mayPlay : j_OV mi_X11_mayPlay := ⟨(gw5 (List.mem_of_getElem? (i := 159) rfl) rfl), (gp3 (List.mem_of_getElem? (i := 6) rfl))⟩
def mi_X11_payOf : JMI := (yX11_payOf, cX11_payOf, 4, (some .int), RX11, 0, 0)
theorem ok_X11_payOf : j_OK mi_X11_payOf 4 := ⟨(gw5 (List.mem_of_getElem? (i := 167) rfl) rfl), (gw1 (List.mem_of_getElem? (i := 1) rfl) rfl), by decide, by decide, by decide +kernel⟩
theorem os_X11_payOf : j_OS mi_X11_payOf := (gw5 (List.mem_of_getElem? (i := 166) rfl) rfl)
def mi_X11_countRests : JMI := (yX11_countRests, cX11_countRests, 3, (some .int), RX11, 2, 46)
theorem ok_X11_countRests : j_OK mi_X11_countRests 1 := ⟨(gw5 (List.mem_of_getElem? (i := 174) rfl) rfl), (gw1 (List.mem_of_getElem? (i := 1) rfl) rfl), by decide, by decide, by decide +kernel⟩
theorem os_X11_countRests : j_OS mi_X11_countRests := (gw5 (List.mem_of_getElem? (i := 173) rfl) rfl)
def mi_X11_firstRest : JMI := (yX11_firstRest, cX11_firstRest, 2, (some .int), RX11, 2, 46)
theorem ok_X11_firstRest : j_OK mi_X11_firstRest 1 := ⟨(gw5 (List.mem_of_getElem? (i := 184) rfl) rfl), (gw1 (List.mem_of_getElem? (i := 1) rfl) rfl), by decide, by decide, by decide +kernel⟩
theorem os_X11_firstRest : j_OS mi_X11_firstRest := (gw5 (List.mem_of_getElem? (i := 183) rfl) rfl)
def mi_X11_isRestPair : JMI := (yX11_isRestPair, cX11_isRestPair, 4, (some .boolean), RX11, 1, 23)
theorem ok_X11_isRestPair : j_OK mi_X11_isRestPair 2 := ⟨(gw5 (List.mem_of_getElem? (i := 177) rfl) rfl), (gw1 (List.mem_of_getElem? (i := 1) rfl) rfl), by decide, by decide, by decide +kernel⟩
theorem os_X11_isRestPair : j_OS mi_X11_isRestPair := (gw5 (List.mem_of_getElem? (i := 176) rfl) rfl)
def mi_X11_holds : JMI := (yX11_holds, cX11_holds, 4, (some .long), RX11, 3, 83)
theorem ok_X11_holds : j_OK mi_X11_holds 3 := ⟨(gw5 (List.mem_of_getElem? (i := 188) rfl) rfl), (gw1 (List.mem_of_getElem? (i := 1) rfl) rfl), by decide, by decide, by decide +kernel⟩
theorem ov_X11_holds : j_OV mi_X11_holds := ⟨(gw5 (List.mem_of_getElem? (i := 186) rfl) rfl), (gw5 (List.mem_of_getElem? (i := 187) rfl) rfl)⟩
def mi_X11_mean : JMI := (yX11_mean, cX11_mean, 3, (some .long), RX11, 4, 91)
theorem ok_X11_mean : j_OK mi_X11_mean 2 := ⟨(gw5 (List.mem_of_getElem? (i := 201) rfl) rfl), (gw1 (List.mem_of_getElem? (i := 1) rfl) rfl), by decide, by decide, by decide +kernel⟩
theorem ov_X11_mean : j_OV mi_X11_mean := ⟨(gw5 (List.mem_of_getElem? (i := 199) rfl) rfl), (gw5 (List.mem_of_getElem? (i := 200) rfl) rfl)⟩
def mi_X11_keeps : JMI := (yX11_keeps, cX11_keeps, 4, (some .long), RX11, 5, 118)
theorem ok_X11_keeps : j_OK mi_X11_keeps 3 := ⟨(gw5 (List.mem_of_getElem? (i := 212) rfl) rfl), (gw1 (List.mem_of_getElem? (i := 1) rfl) rfl), by decide, by decide, by decide +kernel⟩
theorem ov_X11_keeps : j_OV mi_X11_keeps := ⟨(gw5 (List.mem_of_getElem? (i := 210) rfl) rfl), (gw5 (List.mem_of_getElem? (i := 211) rfl) rfl)⟩
def mi_X11_century : JMI := (yX11_century, cX11_century, 5, (some .int), RX11, 4, 86)
theorem ok_X11_century : j_OK mi_X11_century 3 := ⟨(gw5 (List.mem_of_getElem? (i := 227) rfl) rfl), (gw1 (List.mem_of_getElem? (i := 1) rfl) rfl), by decide, by decide, by decide +kernel⟩
theorem ov_X11_century : j_OV mi_X11_century := ⟨(gw5 (List.mem_of_getElem? (i := 225) rfl) rfl), (gw5 (List.mem_of_getElem? (i := 226) rfl) rfl)⟩
def mi_X11_bare : JMI := (yX11_bare, cX11_bare, 4, (some .int), RX11, 4, 86)
theorem ok_X11_bare : j_OK mi_X11_bare 2 := ⟨(gw6 (List.mem_of_getElem? (i := 7) rfl) rfl), (gw1 (List.mem_of_getElem? (i := 1) rfl) rfl), by decide, by decide, by decide +kernel⟩
theorem ov_X11_bare : j_OV mi_X11_bare := ⟨(gw6 (List.mem_of_getElem? (i := 5) rfl) rfl), (gw6 (List.mem_of_getElem? (i := 6) rfl) rfl)⟩
def mi_X11_hang : JMI := (yX11_hang, cX11_hang, 3, (some .boolean), RX11, 4, 86)
theorem ok_X11_hang : j_OK mi_X11_hang 2 := ⟨(gw6 (List.mem_of_getElem? (i := 11) rfl) rfl), (gw1 (List.mem_of_getElem? (i := 1) rfl) rfl), by decide, by decide, by decide +kernel⟩
theorem ov_X11_hang : j_OV mi_X11_hang := ⟨(gw6 (List.mem_of_getElem? (i := 9) rfl) rfl), (gw6 (List.mem_of_getElem? (i := 10) rfl) rfl)⟩
def mi_X11_take : JMI := (yX11_take, cX11_take, 2, (some .boolean), RX11, 4, 86)
theorem ok_X11_take : j_OK mi_X11_take 1 := ⟨(gw6 (List.mem_of_getElem? (i := 28) rfl) rfl), (gw1 (List.mem_of_getElem? (i := 1) rfl) rfl), by decide, by decide, by decide +kernel⟩
theorem ov_X11_take : j_OV mi_X11_take := ⟨(gw6 (List.mem_of_getElem? (i := 26) rfl) rfl), (gw6 (List.mem_of_getElem? (i := 27) rfl) rfl)⟩
def mi_X11_turnOver : JMI := (yX11_turnOver, cX11_turnOver, 3, (some .int), RX11, 4, 86)
theorem ok_X11_turnOver : j_OK mi_X11_turnOver 1 := ⟨(gw6 (List.mem_of_getElem? (i := 36) rfl) rfl), (gw1 (List.mem_of_getElem? (i := 1) rfl) rfl), by decide, by decide, by decide +kernel⟩
theorem ov_X11_turnOver : j_OV mi_X11_turnOver := ⟨(gw6 (List.mem_of_getElem? (i := 34) rfl) rfl), (gw6 (List.mem_of_getElem? (i := 35) rfl) rfl)⟩
def mi_X11_mayAlter : JMI := (yX11_mayAlter, cX11_mayAlter, 2, (some .boolean), RX11, 1, 21)
theorem ok_X11_mayAlter : j_OK mi_X11_mayAlter 1 := ⟨(gw6 (List.mem_of_getElem? (i := 32) rfl) rfl), (gw1 (List.mem_of_getElem? (i := 1) rfl) rfl), by decide, by decide, by decide +kernel⟩
theorem ov_X11_mayAlter : j_OV mi_X11_mayAlter := ⟨(gw6 (List.mem_of_getElem? (i := 31) rfl) rfl), (gp3 (List.mem_of_getElem? (i := 10) rfl))⟩
def mi_X11_act : JMI := (yX11_act, cX11_act, 2, (some .boolean), RX11, 2, 43)
theorem ok_X11_act : j_OK mi_X11_act 1 := ⟨(gw6 (List.mem_of_getElem? (i := 15) rfl) rfl), (gw1 (List.mem_of_getElem? (i := 1) rfl) rfl), by decide, by decide, by decide +kernel⟩
theorem ov_X11_act : j_OV mi_X11_act := ⟨(gw6 (List.mem_of_getElem? (i := 14) rfl) rfl), (gp3 (List.mem_of_getElem? (i := 8) rfl))⟩
def mi_X11_gust : JMI := (yX11_gust, cX11_gust, 1, (some .int), RX11, 4, 86)
theorem ok_X11_gust : j_OK mi_X11_gust 0 := ⟨(gw6 (List.mem_of_getElem? (i := 40) rfl) rfl), (gw1 (List.mem_of_getElem? (i := 1) rfl) rfl), by decide, by decide, by decide +kernel⟩
theorem ov_X11_gust : j_OV mi_X11_gust := ⟨(gw6 (List.mem_of_getElem? (i := 38) rfl) rfl), (gw6 (List.mem_of_getElem? (i := 39) rfl) rfl)⟩
def mi_X11_seed : JMI := (yX11_seed, cX11_seed, 2, (some .boolean), RX11, 1, 23)
theorem ok_X11_seed : j_OK mi_X11_seed 1 := ⟨(gw6 (List.mem_of_getElem? (i := 44) rfl) rfl), (gw1 (List.mem_of_getElem? (i := 1) rfl) rfl), by decide, by decide, by decide +kernel⟩
theorem ov_X11_seed : j_OV mi_X11_seed := ⟨(gw6 (List.mem_of_getElem? (i := 42) rfl) rfl), (gw6 (List.mem_of_getElem? (i := 43) rfl) rfl)⟩
def mi_X11_undo : JMI := (yX11_undo, cX11_undo, 1, (some .boolean), RX11, 2, 45)
theorem ok_X11_undo : j_OK mi_X11_undo 0 := ⟨(gw6 (List.mem_of_getElem? (i := 48) rfl) rfl), (gw1 (List.mem_of_getElem? (i := 1) rfl) rfl), by decide, by decide, by decide +kernel⟩
theorem ov_X11_undo : j_OV mi_X11_undo := ⟨(gw6 (List.mem_of_getElem? (i := 46) rfl) rfl), (gw6 (List.mem_of_getElem? (i := 47) rfl) rfl)⟩
def mi_X11_image : JMI := (yX11_image, cX11_image, 1, (some .int), RX11, 2, 43)
theorem ok_X11_image : j_OK mi_X11_image 0 := ⟨(gw6 (List.mem_of_getElem? (i := 58) rfl) rfl), (gw1 (List.mem_of_getElem? (i := 1) rfl) rfl), by decide, by decide, by decide +kernel⟩
theorem ov_X11_image : j_OV mi_X11_image := ⟨(gw6 (List.mem_of_getElem? (i := 56) rfl) rfl), (gw6 (List.mem_of_getElem? (i := 57) rfl) rfl)⟩
def mi_X11_back : JMI := (yX11_back, cX11_back, 2, (some .boolean), RX11, 2, 45)
theorem ok_X11_back : j_OK mi_X11_back 1 := ⟨(gw6 (List.mem_of_getElem? (i := 62) rfl) rfl), (gw1 (List.mem_of_getElem? (i := 1) rfl) rfl), by decide, by decide, by decide +kernel⟩
theorem ov_X11_back : j_OV mi_X11_back := ⟨(gw6 (List.mem_of_getElem? (i := 60) rfl) rfl), (gw6 (List.mem_of_getElem? (i := 61) rfl) rfl)⟩
def mi_X11_led : JMI := (yX11_led, cX11_led, 3, (some .int), RX11, 4, 93)
theorem ok_X11_led : j_OK mi_X11_led 1 := ⟨(gw6 (List.mem_of_getElem? (i := 78) rfl) rfl), (gw1 (List.mem_of_getElem? (i := 1) rfl) rfl), by decide, by decide, by decide +kernel⟩
theorem ov_X11_led : j_OV mi_X11_led := ⟨(gw6 (List.mem_of_getElem? (i := 76) rfl) rfl), (gw6 (List.mem_of_getElem? (i := 77) rfl) rfl)⟩
def mi_X11_size : JMI := (yX11_size, cX11_size, 2, (some .int), RX11, 0, 0)
theorem ok_X11_size : j_OK mi_X11_size 1 := ⟨(gw6 (List.mem_of_getElem? (i := 66) rfl) rfl), (gw1 (List.mem_of_getElem? (i := 1) rfl) rfl), by decide, by decide, by decide +kernel⟩
theorem ov_X11_size : j_OV mi_X11_size := ⟨(gw6 (List.mem_of_getElem? (i := 64) rfl) rfl), (gw6 (List.mem_of_getElem? (i := 65) rfl) rfl)⟩
def mi_X11_trouble : JMI := (yX11_trouble, cX11_trouble, 1, (some .int), RX11, 0, 0)
theorem ok_X11_trouble : j_OK mi_X11_trouble 0 := ⟨(gw6 (List.mem_of_getElem? (i := 70) rfl) rfl), (gw1 (List.mem_of_getElem? (i := 1) rfl) rfl), by decide, by decide, by decide +kernel⟩
theorem ov_X11_trouble : j_OV mi_X11_trouble := ⟨(gw6 (List.mem_of_getElem? (i := 68) rfl) rfl), (gw6 (List.mem_of_getElem? (i := 69) rfl) rfl)⟩
def mi_X11_answered : JMI := (yX11_answered, cX11_answered, 2, (some .int), RX11, 0, 0)
theorem ok_X11_answered : j_OK mi_X11_answered 1 := ⟨(gw3 (List.mem_of_getElem? (i := 225) rfl) rfl), (gw1 (List.mem_of_getElem? (i := 1) rfl) rfl), by decide, by decide, by decide +kernel⟩
theorem ov_X11_answered : j_OV mi_X11_answered := ⟨(gw3 (List.mem_of_getElem? (i := 224) rfl) rfl), (gp2 (List.mem_of_getElem? (i := 9) rfl))⟩
def mi_X11_told : JMI := (yX11_told, cX11_told, 2, (some .long), RX11, 0, 0)
theorem ok_X11_told : j_OK mi_X11_told 1 := ⟨(gw5 (List.mem_of_getElem? (i := 143) rfl) rfl), (gw1 (List.mem_of_getElem? (i := 1) rfl) rfl), by decide, by decide, by decide +kernel⟩
theorem ov_X11_told : j_OV mi_X11_told := ⟨(gw5 (List.mem_of_getElem? (i := 142) rfl) rfl), (gp3 (List.mem_of_getElem? (i := 5) rfl))⟩
def mi_X11_refused : JMI := (yX11_refused, cX11_refused, 2, (some .int), RX11, 0, 0)
theorem ok_X11_refused : j_OK mi_X11_refused 1 := ⟨(gw2 (List.mem_of_getElem? (i := 197) rfl) rfl), (gw1 (List.mem_of_getElem? (i := 1) rfl) rfl), by decide, by decide, by decide +kernel⟩
theorem ov_X11_refused : j_OV mi_X11_refused := ⟨(gw2 (List.mem_of_getElem? (i := 196) rfl) rfl), (gp1 (List.mem_of_getElem? (i := 0) rfl))⟩
def mi_X11_denied : JMI := (yX11_denied, cX11_denied, 2, (some .boolean), RX11, 0, 0)
theorem ok_X11_denied : j_OK mi_X11_denied 1 := ⟨(gw5 (List.mem_of_getElem? (i := 164) rfl) rfl), (gw1 (List.mem_of_getElem? (i := 1) rfl) rfl), by decide, by decide, by decide +kernel⟩
theorem ov_X11_denied : j_OV mi_X11_denied := ⟨(gw5 (List.mem_of_getElem? (i := 163) rfl) rfl), (gp3 (List.mem_of_getElem? (i := 7) rfl))⟩
def mi_X11_hasLand : JMI := (yX11_hasLand, cX11_hasLand, 1, (some .boolean), RX11, 0, 0)
theorem ok_X11_hasLand : j_OK mi_X11_hasLand 0 := ⟨(gw4 (List.mem_of_getElem? (i := 64) rfl) rfl), (gw1 (List.mem_of_getElem? (i := 1) rfl) rfl), by decide, by decide, by decide +kernel⟩
theorem ov_X11_hasLand : j_OV mi_X11_hasLand := ⟨(gw4 (List.mem_of_getElem? (i := 63) rfl) rfl), (gp2 (List.mem_of_getElem? (i := 13) rfl))⟩
def mi_X11_isGate : JMI := (yX11_isGate, cX11_isGate, 2, (some .boolean), RX11, 0, 0)
theorem ok_X11_isGate : j_OK mi_X11_isGate 1 := ⟨(gw4 (List.mem_of_getElem? (i := 1) rfl) rfl), (gw1 (List.mem_of_getElem? (i := 1) rfl) rfl), by decide, by decide, by decide +kernel⟩
theorem ov_X11_isGate : j_OV mi_X11_isGate := ⟨(gw4 (List.mem_of_getElem? (i := 0) rfl) rfl), (gp2 (List.mem_of_getElem? (i := 10) rfl))⟩
def mi_X11_isPerson : JMI := (yX11_isPerson, cX11_isPerson, 2, (some .boolean), RX11, 0, 0)
theorem ok_X11_isPerson : j_OK mi_X11_isPerson 1 := ⟨(gw4 (List.mem_of_getElem? (i := 18) rfl) rfl), (gw1 (List.mem_of_getElem? (i := 1) rfl) rfl), by decide, by decide, by decide +kernel⟩
theorem ov_X11_isPerson : j_OV mi_X11_isPerson := ⟨(gw4 (List.mem_of_getElem? (i := 17) rfl) rfl), (gp2 (List.mem_of_getElem? (i := 11) rfl))⟩
def mi_X11_isLost : JMI := (yX11_isLost, cX11_isLost, 2, (some .boolean), RX11, 0, 0)
theorem ok_X11_isLost : j_OK mi_X11_isLost 1 := ⟨(gw5 (List.mem_of_getElem? (i := 42) rfl) rfl), (gw1 (List.mem_of_getElem? (i := 1) rfl) rfl), by decide, by decide, by decide +kernel⟩
theorem ov_X11_isLost : j_OV mi_X11_isLost := ⟨(gw5 (List.mem_of_getElem? (i := 41) rfl) rfl), (gp3 (List.mem_of_getElem? (i := 2) rfl))⟩
def mi_X11_isHung : JMI := (yX11_isHung, cX11_isHung, 1, (some .boolean), RX11, 0, 0)
theorem ok_X11_isHung : j_OK mi_X11_isHung 1 := ⟨(gw4 (List.mem_of_getElem? (i := 96) rfl) rfl), (gw1 (List.mem_of_getElem? (i := 1) rfl) rfl), by decide, by decide, by decide +kernel⟩
theorem os_X11_isHung : j_OS mi_X11_isHung := (gw4 (List.mem_of_getElem? (i := 95) rfl) rfl)
def mi_X11_isMuch : JMI := (yX11_isMuch, cX11_isMuch, 1, (some .boolean), RX11, 0, 0)
theorem ok_X11_isMuch : j_OK mi_X11_isMuch 1 := ⟨(gw4 (List.mem_of_getElem? (i := 168) rfl) rfl), (gw1 (List.mem_of_getElem? (i := 1) rfl) rfl), by decide, by decide, by decide +kernel⟩
theorem os_X11_isMuch : j_OS mi_X11_isMuch := (gw4 (List.mem_of_getElem? (i := 167) rfl) rfl)
def mi_X11_isSeed : JMI := (yX11_isSeed, cX11_isSeed, 1, (some .boolean), RX11, 0, 0)
theorem ok_X11_isSeed : j_OK mi_X11_isSeed 1 := ⟨(gw5 (List.mem_of_getElem? (i := 230) rfl) rfl), (gw1 (List.mem_of_getElem? (i := 1) rfl) rfl), by decide, by decide, by decide +kernel⟩
theorem os_X11_isSeed : j_OS mi_X11_isSeed := (gw5 (List.mem_of_getElem? (i := 229) rfl) rfl)
def mi_X11_isDrawnYears : JMI := (yX11_isDrawnYears, cX11_isDrawnYears, 1, (some .boolean), RX11, 0, 0)
theorem ok_X11_isDrawnYears : j_OK mi_X11_isDrawnYears 1 := ⟨(gw5 (List.mem_of_getElem? (i := 234) rfl) rfl), (gw1 (List.mem_of_getElem? (i := 1) rfl) rfl), by decide, by decide, by decide +kernel⟩
theorem os_X11_isDrawnYears : j_OS mi_X11_isDrawnYears := (gw5 (List.mem_of_getElem? (i := 233) rfl) rfl)
def mi_X11_at : JMI := (yX11_at, cX11_at, 2, (some .int), RX11, 0, 0)
theorem ok_X11_at : j_OK mi_X11_at 2 := ⟨(gw3 (List.mem_of_getElem? (i := 110) rfl) rfl), (gw1 (List.mem_of_getElem? (i := 1) rfl) rfl), by decide, by decide, by decide +kernel⟩
theorem os_X11_at : j_OS mi_X11_at := (gw3 (List.mem_of_getElem? (i := 109) rfl) rfl)
def mi_X11_put : JMI := (yX11_put, cX11_put, 3, none, RX11, 0, 0)
theorem ok_X11_put : j_OK mi_X11_put 3 := ⟨(gw3 (List.mem_of_getElem? (i := 116) rfl) rfl), (gw1 (List.mem_of_getElem? (i := 1) rfl) rfl), by decide, by decide, by decide +kernel⟩
theorem os_X11_put : j_OS mi_X11_put := (gw3 (List.mem_of_getElem? (i := 115) rfl) rfl)
def mi_X11_hasBit : JMI := (yX11_hasBit, cX11_hasBit, 2, (some .boolean), RX11, 0, 0)
theorem ok_X11_hasBit : j_OK mi_X11_hasBit 2 := ⟨(gw3 (List.mem_of_getElem? (i := 113) rfl) rfl), (gw1 (List.mem_of_getElem? (i := 1) rfl) rfl), by decide, by decide, by decide +kernel⟩
theorem os_X11_hasBit : j_OS mi_X11_hasBit := (gw3 (List.mem_of_getElem? (i := 112) rfl) rfl)
def mi_X12_init : JMI := (yX12_init, cX12_init, 2, none, RX12, 1, 18)
theorem ok_X12_init : j_OK mi_X12_init 0 := ⟨(gw7 (List.mem_of_getElem? (i := 21) rfl) rfl), (gw1 (List.mem_of_getElem? (i := 19) rfl) rfl), by decide, by decide, by decide +kernel⟩
theorem oi_X12_init : j_OI mi_X12_init := ⟨rfl, (gw7 (List.mem_of_getElem? (i := 20) rfl) rfl), rfl⟩
def mi_X12_find : JMI := (yX12_find, cX12_find, 4, (some .int), RX12, 0, 0)
theorem ok_X12_find : j_OK mi_X12_find 1 := ⟨(gw7 (List.mem_of_getElem? (i := 201) rfl) rfl), (gw1 (List.mem_of_getElem? (i := 19) rfl) rfl), by decide, by decide, by decide +kernel⟩
theorem ov_X12_find : j_OV mi_X12_find := ⟨(gw7 (List.mem_of_getElem? (i := 199) rfl) rfl), (gw7 (List.mem_of_getElem? (i := 200) rfl) rfl)⟩
def mi_X12_isLost : JMI := (yX12_isLost, cX12_isLost, 3, (some .boolean), RX12, 0, 0)
theorem ok_X12_isLost : j_OK mi_X12_isLost 1 := ⟨(gw8 (List.mem_of_getElem? (i := 12) rfl) rfl), (gw1 (List.mem_of_getElem? (i := 19) rfl) rfl), by decide, by decide, by decide +kernel⟩
theorem ov_X12_isLost : j_OV mi_X12_isLost := ⟨(gw8 (List.mem_of_getElem? (i := 10) rfl) rfl), (gw8 (List.mem_of_getElem? (i := 11) rfl) rfl)⟩
def mi_X13_init : JMI := (yX13_init, cX13_init, 1, none, RX13, 1, 18)
theorem ok_X13_init : j_OK mi_X13_init 0 := ⟨(gw6 (List.mem_of_getElem? (i := 148) rfl) rfl), (gw1 (List.mem_of_getElem? (i := 12) rfl) rfl), by decide, by decide, by decide +kernel⟩
theorem oi_X13_init : j_OI mi_X13_init := ⟨rfl, (gw6 (List.mem_of_getElem? (i := 147) rfl) rfl), rfl⟩
def mi_X13_thrown : JMI := (yX13_thrown, cX13_thrown, 1, (some .int), RX13, 0, 0)
theorem ok_X13_thrown : j_OK mi_X13_thrown 0 := ⟨(gw7 (List.mem_of_getElem? (i := 4) rfl) rfl), (gw1 (List.mem_of_getElem? (i := 12) rfl) rfl), by decide, by decide, by decide +kernel⟩
theorem ov_X13_thrown : j_OV mi_X13_thrown := ⟨(gw7 (List.mem_of_getElem? (i := 2) rfl) rfl), (gw7 (List.mem_of_getElem? (i := 3) rfl) rfl)⟩
def mi_X13_refused : JMI := (yX13_refused, cX13_refused, 2, (some .int), RX13, 0, 0)
theorem ok_X13_refused : j_OK mi_X13_refused 1 := ⟨(gw7 (List.mem_of_getElem? (i := 16) rfl) rfl), (gw1 (List.mem_of_getElem? (i := 12) rfl) rfl), by decide, by decide, by decide +kernel⟩
theorem ov_X13_refused : j_OV mi_X13_refused := ⟨(gw7 (List.mem_of_getElem? (i := 15) rfl) rfl), (gp3 (List.mem_of_getElem? (i := 12) rfl))⟩
def mi_X13_lost : JMI := (yX13_lost, cX13_lost, 2, (some .int), RX13, 1, 21)
theorem ok_X13_lost : j_OK mi_X13_lost 1 := ⟨(gw9 (List.mem_of_getElem? (i := 102) rfl) rfl), (gw1 (List.mem_of_getElem? (i := 12) rfl) rfl), by decide, by decide, by decide +kernel⟩
theorem ov_X13_lost : j_OV mi_X13_lost := ⟨(gw9 (List.mem_of_getElem? (i := 101) rfl) rfl), (gp8 (List.mem_of_getElem? (i := 1) rfl))⟩
def mi_X13_denied : JMI := (yX13_denied, cX13_denied, 2, (some .boolean), RX13, 1, 21)
theorem ok_X13_denied : j_OK mi_X13_denied 1 := ⟨(gw9 (List.mem_of_getElem? (i := 168) rfl) rfl), (gw1 (List.mem_of_getElem? (i := 12) rfl) rfl), by decide, by decide, by decide +kernel⟩
theorem ov_X13_denied : j_OV mi_X13_denied := ⟨(gw9 (List.mem_of_getElem? (i := 167) rfl) rfl), (gp8 (List.mem_of_getElem? (i := 6) rfl))⟩
def mi_X13_good : JMI := (yX13_good, cX13_good, 2, (some .int), RX13, 0, 0)
theorem ok_X13_good : j_OK mi_X13_good 1 := ⟨(gw8 (List.mem_of_getElem? (i := 24) rfl) rfl), (gw1 (List.mem_of_getElem? (i := 12) rfl) rfl), by decide, by decide, by decide +kernel⟩
theorem ov_X13_good : j_OV mi_X13_good := ⟨(gw8 (List.mem_of_getElem? (i := 23) rfl) rfl), (gp5 (List.mem_of_getElem? (i := 6) rfl))⟩
def mi_X13_granted : JMI := (yX13_granted, cX13_granted, 1, (some .boolean), RX13, 1, 21)
theorem ok_X13_granted : j_OK mi_X13_granted 0 := ⟨(gw9 (List.mem_of_getElem? (i := 176) rfl) rfl), (gw1 (List.mem_of_getElem? (i := 12) rfl) rfl), by decide, by decide, by decide +kernel⟩
theorem ov_X13_granted : j_OV mi_X13_granted := ⟨(gw9 (List.mem_of_getElem? (i := 175) rfl) rfl), (gp8 (List.mem_of_getElem? (i := 8) rfl))⟩
def mi_X13_in : JMI := (yX13_in, cX13_in, 3, (some .boolean), RX13, 0, 0)
theorem ok_X13_in : j_OK mi_X13_in 3 := ⟨(gw7 (List.mem_of_getElem? (i := 172) rfl) rfl), (gw1 (List.mem_of_getElem? (i := 12) rfl) rfl), by decide, by decide, by decide +kernel⟩
theorem os_X13_in : j_OS mi_X13_in := (gw7 (List.mem_of_getElem? (i := 171) rfl) rfl)
def mi_X13_bit : JMI := (yX13_bit, cX13_bit, 2, (some .boolean), RX13, 0, 0)
theorem ok_X13_bit : j_OK mi_X13_bit 2 := ⟨(gw7 (List.mem_of_getElem? (i := 224) rfl) rfl), (gw1 (List.mem_of_getElem? (i := 12) rfl) rfl), by decide, by decide, by decide +kernel⟩
theorem os_X13_bit : j_OS mi_X13_bit := (gw7 (List.mem_of_getElem? (i := 223) rfl) rfl)
def mi_X13_bits : JMI := (yX13_bits, cX13_bits, 3, (some .int), RX13, 0, 0)
theorem ok_X13_bits : j_OK mi_X13_bits 1 := ⟨(gw8 (List.mem_of_getElem? (i := 71) rfl) rfl), (gw1 (List.mem_of_getElem? (i := 12) rfl) rfl), by decide, by decide, by decide +kernel⟩
theorem os_X13_bits : j_OS mi_X13_bits := (gw8 (List.mem_of_getElem? (i := 70) rfl) rfl)
def mi_X13_common : JMI := (yX13_common, cX13_common, 10, (some .long), RX13, 0, 0)
theorem ok_X13_common : j_OK mi_X13_common 2 := ⟨(gw9 (List.mem_of_getElem? (i := 70) rfl) rfl), (gw1 (List.mem_of_getElem? (i := 12) rfl) rfl), by decide, by decide, by decide +kernel⟩
theorem os_X13_common : j_OS mi_X13_common := (gw9 (List.mem_of_getElem? (i := 69) rfl) rfl)
def mi_X13_fraction : JMI := (yX13_fraction, cX13_fraction, 6, (some .long), RX13, 1, 29)
theorem ok_X13_fraction : j_OK mi_X13_fraction 3 := ⟨(gw9 (List.mem_of_getElem? (i := 67) rfl) rfl), (gw1 (List.mem_of_getElem? (i := 12) rfl) rfl), by decide, by decide, by decide +kernel⟩
theorem ov_X13_fraction : j_OV mi_X13_fraction := ⟨(gw9 (List.mem_of_getElem? (i := 66) rfl) rfl), (gp7 (List.mem_of_getElem? (i := 11) rfl))⟩
def mi_X13_byteAt : JMI := (yX13_byteAt, cX13_byteAt, 2, (some .int), RX13, 0, 0)
theorem ok_X13_byteAt : j_OK mi_X13_byteAt 1 := ⟨(gw7 (List.mem_of_getElem? (i := 123) rfl) rfl), (gw1 (List.mem_of_getElem? (i := 12) rfl) rfl), by decide, by decide, by decide +kernel⟩
theorem ov_X13_byteAt : j_OV mi_X13_byteAt := ⟨(gw7 (List.mem_of_getElem? (i := 122) rfl) rfl), (gp3 (List.mem_of_getElem? (i := 14) rfl))⟩
def mi_X13_isLetter : JMI := (yX13_isLetter, cX13_isLetter, 1, (some .boolean), RX13, 0, 0)
theorem ok_X13_isLetter : j_OK mi_X13_isLetter 1 := ⟨(gw7 (List.mem_of_getElem? (i := 126) rfl) rfl), (gw1 (List.mem_of_getElem? (i := 12) rfl) rfl), by decide, by decide, by decide +kernel⟩
theorem os_X13_isLetter : j_OS mi_X13_isLetter := (gw7 (List.mem_of_getElem? (i := 125) rfl) rfl)
def mi_X13_isDigit : JMI := (yX13_isDigit, cX13_isDigit, 1, (some .boolean), RX13, 0, 0)
theorem ok_X13_isDigit : j_OK mi_X13_isDigit 1 := ⟨(gw7 (List.mem_of_getElem? (i := 130) rfl) rfl), (gw1 (List.mem_of_getElem? (i := 12) rfl) rfl), by decide, by decide, by decide +kernel⟩
theorem os_X13_isDigit : j_OS mi_X13_isDigit := (gw7 (List.mem_of_getElem? (i := 129) rfl) rfl)
def mi_X13_packed : JMI := (yX13_packed, cX13_packed, 4, (some .long), RX13, 5, 106)
theorem ok_X13_packed : j_OK mi_X13_packed 1 := ⟨(gw7 (List.mem_of_getElem? (i := 146) rfl) rfl), (gw1 (List.mem_of_getElem? (i := 12) rfl) rfl), by decide, by decide, by decide +kernel⟩
theorem os_X13_packed : j_OS mi_X13_packed := (gw7 (List.mem_of_getElem? (i := 145) rfl) rfl)
def mi_X13_goesOn : JMI := (yX13_goesOn, cX13_goesOn, 3, none, RX13, 1, 21)
theorem ok_X13_goesOn : j_OK mi_X13_goesOn 0 := ⟨(gw7 (List.mem_of_getElem? (i := 119) rfl) rfl), (gw1 (List.mem_of_getElem? (i := 12) rfl) rfl), by decide, by decide, by decide +kernel⟩
theorem ov_X13_goesOn : j_OV mi_X13_goesOn := ⟨(gw7 (List.mem_of_getElem? (i := 118) rfl) rfl), (gp3 (List.mem_of_getElem? (i := 13) rfl))⟩
def mi_X13_flaw : JMI := (yX13_flaw, cX13_flaw, 2, none, RX13, 0, 0)
theorem ok_X13_flaw : j_OK mi_X13_flaw 1 := ⟨(gw7 (List.mem_of_getElem? (i := 156) rfl) rfl), (gw1 (List.mem_of_getElem? (i := 12) rfl) rfl), by decide, by decide, by decide +kernel⟩
theorem ov_X13_flaw : j_OV mi_X13_flaw := ⟨(gw7 (List.mem_of_getElem? (i := 155) rfl) rfl), (gp4 (List.mem_of_getElem? (i := 3) rfl))⟩
def mi_X13_isWord : JMI := (yX13_isWord, cX13_isWord, 2, (some .boolean), RX13, 6, 129)
theorem ok_X13_isWord : j_OK mi_X13_isWord 1 := ⟨(gw7 (List.mem_of_getElem? (i := 143) rfl) rfl), (gw1 (List.mem_of_getElem? (i := 12) rfl) rfl), by decide, by decide, by decide +kernel⟩
theorem ov_X13_isWord : j_OV mi_X13_isWord := ⟨(gw7 (List.mem_of_getElem? (i := 142) rfl) rfl), (gp4 (List.mem_of_getElem? (i := 1) rfl))⟩
def mi_X13_eats : JMI := (yX13_eats, cX13_eats, 3, (some .boolean), RX13, 2, 43)
theorem ok_X13_eats : j_OK mi_X13_eats 1 := ⟨(gw7 (List.mem_of_getElem? (i := 221) rfl) rfl), (gw1 (List.mem_of_getElem? (i := 12) rfl) rfl), by decide, by decide, by decide +kernel⟩
theorem ov_X13_eats : j_OV mi_X13_eats := ⟨(gw7 (List.mem_of_getElem? (i := 220) rfl) rfl), (gp4 (List.mem_of_getElem? (i := 15) rfl))⟩
def mi_X13_needs : JMI := (yX13_needs, cX13_needs, 2, none, RX13, 7, 150)
theorem ok_X13_needs : j_OK mi_X13_needs 1 := ⟨(gw7 (List.mem_of_getElem? (i := 165) rfl) rfl), (gw1 (List.mem_of_getElem? (i := 12) rfl) rfl), by decide, by decide, by decide +kernel⟩
theorem ov_X13_needs : j_OV mi_X13_needs := ⟨(gw7 (List.mem_of_getElem? (i := 164) rfl) rfl), (gp4 (List.mem_of_getElem? (i := 5) rfl))⟩
def mi_X13_readWhole : JMI := (yX13_readWhole, cX13_readWhole, 4, (some .int), RX13, 2, 43)
theorem ok_X13_readWhole : j_OK mi_X13_readWhole 2 := ⟨(gw7 (List.mem_of_getElem? (i := 169) rfl) rfl), (gw1 (List.mem_of_getElem? (i := 12) rfl) rfl), by decide, by decide, by decide +kernel⟩
theorem ov_X13_readWhole : j_OV mi_X13_readWhole := ⟨(gw7 (List.mem_of_getElem? (i := 168) rfl) rfl), (gp4 (List.mem_of_getElem? (i := 6) rfl))⟩
def mi_X13_readPart : JMI := (yX13_readPart, cX13_readPart, 4, (some .int), RX13, 8, 171)
theorem ok_X13_readPart : j_OK mi_X13_readPart 3 := ⟨(gw7 (List.mem_of_getElem? (i := 161) rfl) rfl), (gw1 (List.mem_of_getElem? (i := 12) rfl) rfl), by decide, by decide, by decide +kernel⟩
theorem ov_X13_readPart : j_OV mi_X13_readPart := ⟨(gw7 (List.mem_of_getElem? (i := 160) rfl) rfl), (gp4 (List.mem_of_getElem? (i := 4) rfl))⟩
def mi_X13_isName : JMI := (yX13_isName, cX13_isName, 1, (some .boolean), RX13, 7, 150)
theorem ok_X13_isName : j_OK mi_X13_isName 0 := ⟨(gw7 (List.mem_of_getElem? (i := 190) rfl) rfl), (gw1 (List.mem_of_getElem? (i := 12) rfl) rfl), by decide, by decide, by decide +kernel⟩
theorem ov_X13_isName : j_OV mi_X13_isName := ⟨(gw7 (List.mem_of_getElem? (i := 189) rfl) rfl), (gp4 (List.mem_of_getElem? (i := 10) rfl))⟩
def mi_X13_lineBegins : JMI := (yX13_lineBegins, cX13_lineBegins, 3, none, RX13, 2, 43)
theorem ok_X13_lineBegins : j_OK mi_X13_lineBegins 2 := ⟨(gw7 (List.mem_of_getElem? (i := 182) rfl) rfl), (gw1 (List.mem_of_getElem? (i := 12) rfl) rfl), by decide, by decide, by decide +kernel⟩
theorem ov_X13_lineBegins : j_OV mi_X13_lineBegins := ⟨(gw7 (List.mem_of_getElem? (i := 181) rfl) rfl), (gp4 (List.mem_of_getElem? (i := 8) rfl))⟩
def mi_X13_readFresh : JMI := (yX13_readFresh, cX13_readFresh, 3, (some .long), RX13, 8, 170)
theorem ok_X13_readFresh : j_OK mi_X13_readFresh 0 := ⟨(gw7 (List.mem_of_getElem? (i := 186) rfl) rfl), (gw1 (List.mem_of_getElem? (i := 12) rfl) rfl), by decide, by decide, by decide +kernel⟩
theorem ov_X13_readFresh : j_OV mi_X13_readFresh := ⟨(gw7 (List.mem_of_getElem? (i := 185) rfl) rfl), (gp4 (List.mem_of_getElem? (i := 9) rfl))⟩
def mi_X13_names : JMI := (yX13_names, cX13_names, 5, none, RX13, 0, 0)
theorem ok_X13_names : j_OK mi_X13_names 3 := ⟨(gw7 (List.mem_of_getElem? (i := 205) rfl) rfl), (gw1 (List.mem_of_getElem? (i := 12) rfl) rfl), by decide, by decide, by decide +kernel⟩
theorem ov_X13_names : j_OV mi_X13_names := ⟨(gw7 (List.mem_of_getElem? (i := 204) rfl) rfl), (gp4 (List.mem_of_getElem? (i := 11) rfl))⟩
def mi_X13_knownOne : JMI := (yX13_knownOne, cX13_knownOne, 3, (some .int), RX13, 8, 170)
theorem ok_X13_knownOne : j_OK mi_X13_knownOne 1 := ⟨(gw7 (List.mem_of_getElem? (i := 217) rfl) rfl), (gw1 (List.mem_of_getElem? (i := 12) rfl) rfl), by decide, by decide, by decide +kernel⟩
theorem ov_X13_knownOne : j_OV mi_X13_knownOne := ⟨(gw7 (List.mem_of_getElem? (i := 216) rfl) rfl), (gp4 (List.mem_of_getElem? (i := 14) rfl))⟩
def mi_X13_readKnown : JMI := (yX13_readKnown, cX13_readKnown, 3, (some .int), RX13, 9, 192)
theorem ok_X13_readKnown : j_OK mi_X13_readKnown 1 := ⟨(gw7 (List.mem_of_getElem? (i := 213) rfl) rfl), (gw1 (List.mem_of_getElem? (i := 12) rfl) rfl), by decide, by decide, by decide +kernel⟩
theorem ov_X13_readKnown : j_OV mi_X13_readKnown := ⟨(gw7 (List.mem_of_getElem? (i := 212) rfl) rfl), (gp4 (List.mem_of_getElem? (i := 13) rfl))⟩
def mi_X13_readAll : JMI := (yX13_readAll, cX13_readAll, 2, none, RX13, 12, 261)
theorem ok_X13_readAll : j_OK mi_X13_readAll 0 := ⟨(gw7 (List.mem_of_getElem? (i := 134) rfl) rfl), (gw1 (List.mem_of_getElem? (i := 12) rfl) rfl), by decide, by decide, by decide +kernel⟩
theorem ov_X13_readAll : j_OV mi_X13_readAll := ⟨(gw7 (List.mem_of_getElem? (i := 133) rfl) rfl), (gp3 (List.mem_of_getElem? (i := 15) rfl))⟩
def mi_X13_readLine : JMI := (yX13_readLine, cX13_readLine, 1, none, RX13, 11, 241)
theorem ok_X13_readLine : j_OK mi_X13_readLine 0 := ⟨(gw7 (List.mem_of_getElem? (i := 138) rfl) rfl), (gw1 (List.mem_of_getElem? (i := 12) rfl) rfl), by decide, by decide, by decide +kernel⟩
theorem ov_X13_readLine : j_OV mi_X13_readLine := ⟨(gw7 (List.mem_of_getElem? (i := 137) rfl) rfl), (gp4 (List.mem_of_getElem? (i := 0) rfl))⟩
def mi_X13_readLand : JMI := (yX13_readLand, cX13_readLand, 3, none, RX13, 9, 194)
theorem ok_X13_readLand : j_OK mi_X13_readLand 0 := ⟨(gw7 (List.mem_of_getElem? (i := 152) rfl) rfl), (gw1 (List.mem_of_getElem? (i := 12) rfl) rfl), by decide, by decide, by decide +kernel⟩
theorem ov_X13_readLand : j_OV mi_X13_readLand := ⟨(gw7 (List.mem_of_getElem? (i := 151) rfl) rfl), (gp4 (List.mem_of_getElem? (i := 2) rfl))⟩
def mi_X13_readPerson : JMI := (yX13_readPerson, cX13_readPerson, 3, none, RX13, 9, 192)
theorem ok_X13_readPerson : j_OK mi_X13_readPerson 0 := ⟨(gw7 (List.mem_of_getElem? (i := 178) rfl) rfl), (gw1 (List.mem_of_getElem? (i := 12) rfl) rfl), by decide, by decide, by decide +kernel⟩
theorem ov_X13_readPerson : j_OV mi_X13_readPerson := ⟨(gw7 (List.mem_of_getElem? (i := 177) rfl) rfl), (gp4 (List.mem_of_getElem? (i := 7) rfl))⟩
def mi_X13_readFirm : JMI := (yX13_readFirm, cX13_readFirm, 6, none, RX13, 10, 214)
theorem ok_X13_readFirm : j_OK mi_X13_readFirm 0 := ⟨(gw7 (List.mem_of_getElem? (i := 209) rfl) rfl), (gw1 (List.mem_of_getElem? (i := 12) rfl) rfl), by decide, by decide, by decide +kernel⟩
theorem ov_X13_readFirm : j_OV mi_X13_readFirm := ⟨(gw7 (List.mem_of_getElem? (i := 208) rfl) rfl), (gp4 (List.mem_of_getElem? (i := 12) rfl))⟩
def mi_X13_readGate : JMI := (yX13_readGate, cX13_readGate, 8, none, RX13, 10, 214)
theorem ok_X13_readGate : j_OK mi_X13_readGate 0 := ⟨(gw7 (List.mem_of_getElem? (i := 228) rfl) rfl), (gw1 (List.mem_of_getElem? (i := 12) rfl) rfl), by decide, by decide, by decide +kernel⟩
theorem ov_X13_readGate : j_OV mi_X13_readGate := ⟨(gw7 (List.mem_of_getElem? (i := 227) rfl) rfl), (gp5 (List.mem_of_getElem? (i := 0) rfl))⟩
def mi_X13_readPath : JMI := (yX13_readPath, cX13_readPath, 3, none, RX13, 10, 214)
theorem ok_X13_readPath : j_OK mi_X13_readPath 0 := ⟨(gw8 (List.mem_of_getElem? (i := 0) rfl) rfl), (gw1 (List.mem_of_getElem? (i := 12) rfl) rfl), by decide, by decide, by decide +kernel⟩
theorem ov_X13_readPath : j_OV mi_X13_readPath := ⟨(gw7 (List.mem_of_getElem? (i := 239) rfl) rfl), (gp5 (List.mem_of_getElem? (i := 1) rfl))⟩
def mi_X13_readWants : JMI := (yX13_readWants, cX13_readWants, 4, none, RX13, 10, 214)
theorem ok_X13_readWants : j_OK mi_X13_readWants 1 := ⟨(gw8 (List.mem_of_getElem? (i := 4) rfl) rfl), (gw1 (List.mem_of_getElem? (i := 12) rfl) rfl), by decide, by decide, by decide +kernel⟩
theorem ov_X13_readWants : j_OV mi_X13_readWants := ⟨(gw8 (List.mem_of_getElem? (i := 3) rfl) rfl), (gp5 (List.mem_of_getElem? (i := 2) rfl))⟩
def mi_X13_readLost : JMI := (yX13_readLost, cX13_readLost, 2, none, RX13, 9, 192)
theorem ok_X13_readLost : j_OK mi_X13_readLost 0 := ⟨(gw8 (List.mem_of_getElem? (i := 8) rfl) rfl), (gw1 (List.mem_of_getElem? (i := 12) rfl) rfl), by decide, by decide, by decide +kernel⟩
theorem ov_X13_readLost : j_OV mi_X13_readLost := ⟨(gw8 (List.mem_of_getElem? (i := 7) rfl) rfl), (gp5 (List.mem_of_getElem? (i := 3) rfl))⟩
def mi_X13_readHad : JMI := (yX13_readHad, cX13_readHad, 3, none, RX13, 9, 192)
theorem ok_X13_readHad : j_OK mi_X13_readHad 0 := ⟨(gw8 (List.mem_of_getElem? (i := 16) rfl) rfl), (gw1 (List.mem_of_getElem? (i := 12) rfl) rfl), by decide, by decide, by decide +kernel⟩
theorem ov_X13_readHad : j_OV mi_X13_readHad := ⟨(gw8 (List.mem_of_getElem? (i := 15) rfl) rfl), (gp5 (List.mem_of_getElem? (i := 4) rfl))⟩
def mi_X13_feed : JMI := (yX13_feed, cX13_feed, 8, (some .int), RX13, 0, 0)
theorem ok_X13_feed : j_OK mi_X13_feed 5 := ⟨(gw7 (List.mem_of_getElem? (i := 8) rfl) rfl), (gw1 (List.mem_of_getElem? (i := 12) rfl) rfl), by decide, by decide, by decide +kernel⟩
theorem ov_X13_feed : j_OV mi_X13_feed := ⟨(gw7 (List.mem_of_getElem? (i := 6) rfl) rfl), (gw7 (List.mem_of_getElem? (i := 7) rfl) rfl)⟩
def mi_X13_land : JMI := (yX13_land, cX13_land, 3, (some .int), RX13, 13, 282)
theorem ok_X13_land : j_OK mi_X13_land 1 := ⟨(gw7 (List.mem_of_getElem? (i := 12) rfl) rfl), (gw1 (List.mem_of_getElem? (i := 12) rfl) rfl), by decide, by decide, by decide +kernel⟩
theorem ov_X13_land : j_OV mi_X13_land := ⟨(gw7 (List.mem_of_getElem? (i := 10) rfl) rfl), (gw7 (List.mem_of_getElem? (i := 11) rfl) rfl)⟩
def mi_X13_fault : JMI := (yX13_fault, cX13_fault, 1, (some .int), RX13, 0, 0)
theorem ok_X13_fault : j_OK mi_X13_fault 0 := ⟨(gw8 (List.mem_of_getElem? (i := 28) rfl) rfl), (gw1 (List.mem_of_getElem? (i := 12) rfl) rfl), by decide, by decide, by decide +kernel⟩
theorem ov_X13_fault : j_OV mi_X13_fault := ⟨(gw8 (List.mem_of_getElem? (i := 26) rfl) rfl), (gw8 (List.mem_of_getElem? (i := 27) rfl) rfl)⟩
def mi_X13_where : JMI := (yX13_where, cX13_where, 1, (some .int), RX13, 0, 0)
theorem ok_X13_where : j_OK mi_X13_where 0 := ⟨(gw8 (List.mem_of_getElem? (i := 32) rfl) rfl), (gw1 (List.mem_of_getElem? (i := 12) rfl) rfl), by decide, by decide, by decide +kernel⟩
theorem ov_X13_where : j_OV mi_X13_where := ⟨(gw8 (List.mem_of_getElem? (i := 30) rfl) rfl), (gw8 (List.mem_of_getElem? (i := 31) rfl) rfl)⟩
def mi_X13_isGate : JMI := (yX13_isGate, cX13_isGate, 2, (some .boolean), RX13, 0, 0)
theorem ok_X13_isGate : j_OK mi_X13_isGate 1 := ⟨(gw8 (List.mem_of_getElem? (i := 40) rfl) rfl), (gw1 (List.mem_of_getElem? (i := 12) rfl) rfl), by decide, by decide, by decide +kernel⟩
theorem ov_X13_isGate : j_OV mi_X13_isGate := ⟨(gw8 (List.mem_of_getElem? (i := 39) rfl) rfl), (gp5 (List.mem_of_getElem? (i := 7) rfl))⟩
def mi_X13_isPerson : JMI := (yX13_isPerson, cX13_isPerson, 2, (some .boolean), RX13, 0, 0)
theorem ok_X13_isPerson : j_OK mi_X13_isPerson 1 := ⟨(gw8 (List.mem_of_getElem? (i := 60) rfl) rfl), (gw1 (List.mem_of_getElem? (i := 12) rfl) rfl), by decide, by decide, by decide +kernel⟩
theorem ov_X13_isPerson : j_OV mi_X13_isPerson := ⟨(gw8 (List.mem_of_getElem? (i := 59) rfl) rfl), (gp5 (List.mem_of_getElem? (i := 11) rfl))⟩
def mi_X13_isFirm : JMI := (yX13_isFirm, cX13_isFirm, 2, (some .boolean), RX13, 0, 0)
theorem ok_X13_isFirm : j_OK mi_X13_isFirm 1 := ⟨(gw8 (List.mem_of_getElem? (i := 91) rfl) rfl), (gw1 (List.mem_of_getElem? (i := 12) rfl) rfl), by decide, by decide, by decide +kernel⟩
theorem ov_X13_isFirm : j_OV mi_X13_isFirm := ⟨(gw8 (List.mem_of_getElem? (i := 90) rfl) rfl), (gp6 (List.mem_of_getElem? (i := 1) rfl))⟩
def mi_X13_works : JMI := (yX13_works, cX13_works, 2, none, RX13, 0, 0)
theorem ok_X13_works : j_OK mi_X13_works 0 := ⟨(gw8 (List.mem_of_getElem? (i := 44) rfl) rfl), (gw1 (List.mem_of_getElem? (i := 12) rfl) rfl), by decide, by decide, by decide +kernel⟩
theorem ov_X13_works : j_OV mi_X13_works := ⟨(gw8 (List.mem_of_getElem? (i := 43) rfl) rfl), (gp5 (List.mem_of_getElem? (i := 8) rfl))⟩
def mi_X13_asTold : JMI := (yX13_asTold, cX13_asTold, 2, none, RX13, 0, 0)
theorem ok_X13_asTold : j_OK mi_X13_asTold 0 := ⟨(gw8 (List.mem_of_getElem? (i := 20) rfl) rfl), (gw1 (List.mem_of_getElem? (i := 12) rfl) rfl), by decide, by decide, by decide +kernel⟩
theorem ov_X13_asTold : j_OV mi_X13_asTold := ⟨(gw8 (List.mem_of_getElem? (i := 19) rfl) rfl), (gp5 (List.mem_of_getElem? (i := 5) rfl))⟩
def mi_X13_ownersIf : JMI := (yX13_ownersIf, cX13_ownersIf, 4, (some .int), RX13, 0, 0)
theorem ok_X13_ownersIf : j_OK mi_X13_ownersIf 2 := ⟨(gw8 (List.mem_of_getElem? (i := 52) rfl) rfl), (gw1 (List.mem_of_getElem? (i := 12) rfl) rfl), by decide, by decide, by decide +kernel⟩
theorem ov_X13_ownersIf : j_OV mi_X13_ownersIf := ⟨(gw8 (List.mem_of_getElem? (i := 51) rfl) rfl), (gp5 (List.mem_of_getElem? (i := 10) rfl))⟩
def mi_X13_owners : JMI := (yX13_owners, cX13_owners, 2, (some .int), RX13, 1, 23)
theorem ok_X13_owners : j_OK mi_X13_owners 1 := ⟨(gw8 (List.mem_of_getElem? (i := 48) rfl) rfl), (gw1 (List.mem_of_getElem? (i := 12) rfl) rfl), by decide, by decide, by decide +kernel⟩
theorem ov_X13_owners : j_OV mi_X13_owners := ⟨(gw8 (List.mem_of_getElem? (i := 47) rfl) rfl), (gp5 (List.mem_of_getElem? (i := 9) rfl))⟩
def mi_X13_shareIf : JMI := (yX13_shareIf, cX13_shareIf, 5, (some .int), RX13, 1, 23)
theorem ok_X13_shareIf : j_OK mi_X13_shareIf 3 := ⟨(gw8 (List.mem_of_getElem? (i := 68) rfl) rfl), (gw1 (List.mem_of_getElem? (i := 12) rfl) rfl), by decide, by decide, by decide +kernel⟩
theorem ov_X13_shareIf : j_OV mi_X13_shareIf := ⟨(gw8 (List.mem_of_getElem? (i := 67) rfl) rfl), (gp5 (List.mem_of_getElem? (i := 13) rfl))⟩
def mi_X13_has : JMI := (yX13_has, cX13_has, 4, (some .int), RX13, 2, 47)
theorem ok_X13_has : j_OK mi_X13_has 1 := ⟨(gw8 (List.mem_of_getElem? (i := 64) rfl) rfl), (gw1 (List.mem_of_getElem? (i := 12) rfl) rfl), by decide, by decide, by decide +kernel⟩
theorem ov_X13_has : j_OV mi_X13_has := ⟨(gw8 (List.mem_of_getElem? (i := 63) rfl) rfl), (gp5 (List.mem_of_getElem? (i := 12) rfl))⟩
def mi_X13_owned : JMI := (yX13_owned, cX13_owned, 4, (some .int), RX13, 2, 44)
theorem ok_X13_owned : j_OK mi_X13_owned 1 := ⟨(gw8 (List.mem_of_getElem? (i := 75) rfl) rfl), (gw1 (List.mem_of_getElem? (i := 12) rfl) rfl), by decide, by decide, by decide +kernel⟩
theorem ov_X13_owned : j_OV mi_X13_owned := ⟨(gw8 (List.mem_of_getElem? (i := 74) rfl) rfl), (gp5 (List.mem_of_getElem? (i := 14) rfl))⟩
def mi_X13_hung : JMI := (yX13_hung, cX13_hung, 3, (some .int), RX13, 0, 0)
theorem ok_X13_hung : j_OK mi_X13_hung 0 := ⟨(gw8 (List.mem_of_getElem? (i := 119) rfl) rfl), (gw1 (List.mem_of_getElem? (i := 12) rfl) rfl), by decide, by decide, by decide +kernel⟩
theorem ov_X13_hung : j_OV mi_X13_hung := ⟨(gw8 (List.mem_of_getElem? (i := 118) rfl) rfl), (gp6 (List.mem_of_getElem? (i := 3) rfl))⟩
def mi_X13_hooks : JMI := (yX13_hooks, cX13_hooks, 3, (some .int), RX13, 0, 0)
theorem ok_X13_hooks : j_OK mi_X13_hooks 0 := ⟨(gw8 (List.mem_of_getElem? (i := 123) rfl) rfl), (gw1 (List.mem_of_getElem? (i := 12) rfl) rfl), by decide, by decide, by decide +kernel⟩
theorem ov_X13_hooks : j_OV mi_X13_hooks := ⟨(gw8 (List.mem_of_getElem? (i := 122) rfl) rfl), (gp6 (List.mem_of_getElem? (i := 4) rfl))⟩
def mi_X13_gate : JMI := (yX13_gate, cX13_gate, 3, (some .int), RX13, 2, 44)
theorem ok_X13_gate : j_OK mi_X13_gate 2 := ⟨(gw8 (List.mem_of_getElem? (i := 36) rfl) rfl), (gw1 (List.mem_of_getElem? (i := 12) rfl) rfl), by decide, by decide, by decide +kernel⟩
theorem ov_X13_gate : j_OV mi_X13_gate := ⟨(gw8 (List.mem_of_getElem? (i := 34) rfl) rfl), (gw8 (List.mem_of_getElem? (i := 35) rfl) rfl)⟩
def mi_X13_ownedAlone : JMI := (yX13_ownedAlone, cX13_ownedAlone, 4, (some .int), RX13, 2, 44)
theorem ok_X13_ownedAlone : j_OK mi_X13_ownedAlone 1 := ⟨(gw8 (List.mem_of_getElem? (i := 79) rfl) rfl), (gw1 (List.mem_of_getElem? (i := 12) rfl) rfl), by decide, by decide, by decide +kernel⟩
theorem ov_X13_ownedAlone : j_OV mi_X13_ownedAlone := ⟨(gw8 (List.mem_of_getElem? (i := 78) rfl) rfl), (gp5 (List.mem_of_getElem? (i := 15) rfl))⟩
def mi_X13_firmsOf : JMI := (yX13_firmsOf, cX13_firmsOf, 4, (some .int), RX13, 1, 21)
theorem ok_X13_firmsOf : j_OK mi_X13_firmsOf 1 := ⟨(gw8 (List.mem_of_getElem? (i := 83) rfl) rfl), (gw1 (List.mem_of_getElem? (i := 12) rfl) rfl), by decide, by decide, by decide +kernel⟩
theorem ov_X13_firmsOf : j_OV mi_X13_firmsOf := ⟨(gw8 (List.mem_of_getElem? (i := 82) rfl) rfl), (gp6 (List.mem_of_getElem? (i := 0) rfl))⟩
def mi_X13_person : JMI := (yX13_person, cX13_person, 3, (some .int), RX13, 3, 70)
theorem ok_X13_person : j_OK mi_X13_person 2 := ⟨(gw8 (List.mem_of_getElem? (i := 56) rfl) rfl), (gw1 (List.mem_of_getElem? (i := 12) rfl) rfl), by decide, by decide, by decide +kernel⟩
theorem ov_X13_person : j_OV mi_X13_person := ⟨(gw8 (List.mem_of_getElem? (i := 54) rfl) rfl), (gw8 (List.mem_of_getElem? (i := 55) rfl) rfl)⟩
def mi_X13_firm : JMI := (yX13_firm, cX13_firm, 6, (some .int), RX13, 2, 47)
theorem ok_X13_firm : j_OK mi_X13_firm 2 := ⟨(gw8 (List.mem_of_getElem? (i := 87) rfl) rfl), (gw1 (List.mem_of_getElem? (i := 12) rfl) rfl), by decide, by decide, by decide +kernel⟩
theorem ov_X13_firm : j_OV mi_X13_firm := ⟨(gw8 (List.mem_of_getElem? (i := 85) rfl) rfl), (gw8 (List.mem_of_getElem? (i := 86) rfl) rfl)⟩
def mi_X13_commons : JMI := (yX13_commons, cX13_commons, 3, (some .int), RX13, 2, 44)
theorem ok_X13_commons : j_OK mi_X13_commons 0 := ⟨(gw8 (List.mem_of_getElem? (i := 95) rfl) rfl), (gw1 (List.mem_of_getElem? (i := 12) rfl) rfl), by decide, by decide, by decide +kernel⟩
theorem ov_X13_commons : j_OV mi_X13_commons := ⟨(gw8 (List.mem_of_getElem? (i := 93) rfl) rfl), (gw8 (List.mem_of_getElem? (i := 94) rfl) rfl)⟩
def mi_X13_richest : JMI := (yX13_richest, cX13_richest, 3, (some .int), RX13, 3, 70)
theorem ok_X13_richest : j_OK mi_X13_richest 0 := ⟨(gw8 (List.mem_of_getElem? (i := 99) rfl) rfl), (gw1 (List.mem_of_getElem? (i := 12) rfl) rfl), by decide, by decide, by decide +kernel⟩
theorem ov_X13_richest : j_OV mi_X13_richest := ⟨(gw8 (List.mem_of_getElem? (i := 97) rfl) rfl), (gw8 (List.mem_of_getElem? (i := 98) rfl) rfl)⟩
def mi_X13_ground : JMI := (yX13_ground, cX13_ground, 1, (some .int), RX13, 1, 21)
theorem ok_X13_ground : j_OK mi_X13_ground 0 := ⟨(gw8 (List.mem_of_getElem? (i := 103) rfl) rfl), (gw1 (List.mem_of_getElem? (i := 12) rfl) rfl), by decide, by decide, by decide +kernel⟩
theorem ov_X13_ground : j_OV mi_X13_ground := ⟨(gw8 (List.mem_of_getElem? (i := 101) rfl) rfl), (gw8 (List.mem_of_getElem? (i := 102) rfl) rfl)⟩
def mi_X13_hasIf : JMI := (yX13_hasIf, cX13_hasIf, 4, (some .int), RX13, 3, 70)
theorem ok_X13_hasIf : j_OK mi_X13_hasIf 3 := ⟨(gw8 (List.mem_of_getElem? (i := 107) rfl) rfl), (gw1 (List.mem_of_getElem? (i := 12) rfl) rfl), by decide, by decide, by decide +kernel⟩
theorem ov_X13_hasIf : j_OV mi_X13_hasIf := ⟨(gw8 (List.mem_of_getElem? (i := 105) rfl) rfl), (gw8 (List.mem_of_getElem? (i := 106) rfl) rfl)⟩
def mi_X13_canMove : JMI := (yX13_canMove, cX13_canMove, 3, (some .boolean), RX13, 1, 22)
theorem ok_X13_canMove : j_OK mi_X13_canMove 1 := ⟨(gw8 (List.mem_of_getElem? (i := 115) rfl) rfl), (gw1 (List.mem_of_getElem? (i := 12) rfl) rfl), by decide, by decide, by decide +kernel⟩
theorem ov_X13_canMove : j_OV mi_X13_canMove := ⟨(gw8 (List.mem_of_getElem? (i := 114) rfl) rfl), (gp6 (List.mem_of_getElem? (i := 2) rfl))⟩
def mi_X13_moves : JMI := (yX13_moves, cX13_moves, 4, none, RX13, 0, 0)
theorem ok_X13_moves : j_OK mi_X13_moves 1 := ⟨(gw8 (List.mem_of_getElem? (i := 147) rfl) rfl), (gw1 (List.mem_of_getElem? (i := 12) rfl) rfl), by decide, by decide, by decide +kernel⟩
theorem ov_X13_moves : j_OV mi_X13_moves := ⟨(gw8 (List.mem_of_getElem? (i := 146) rfl) rfl), (gp6 (List.mem_of_getElem? (i := 9) rfl))⟩
def mi_X13_can : JMI := (yX13_can, cX13_can, 2, (some .int), RX13, 2, 44)
theorem ok_X13_can : j_OK mi_X13_can 1 := ⟨(gw8 (List.mem_of_getElem? (i := 111) rfl) rfl), (gw1 (List.mem_of_getElem? (i := 12) rfl) rfl), by decide, by decide, by decide +kernel⟩
theorem ov_X13_can : j_OV mi_X13_can := ⟨(gw8 (List.mem_of_getElem? (i := 109) rfl) rfl), (gw8 (List.mem_of_getElem? (i := 110) rfl) rfl)⟩
def mi_X13_ways : JMI := (yX13_ways, cX13_ways, 3, (some .int), RX13, 0, 0)
theorem ok_X13_ways : j_OK mi_X13_ways 0 := ⟨(gw8 (List.mem_of_getElem? (i := 191) rfl) rfl), (gw1 (List.mem_of_getElem? (i := 12) rfl) rfl), by decide, by decide, by decide +kernel⟩
theorem ov_X13_ways : j_OV mi_X13_ways := ⟨(gw8 (List.mem_of_getElem? (i := 190) rfl) rfl), (gp6 (List.mem_of_getElem? (i := 14) rfl))⟩
def mi_X13_numbered : JMI := (yX13_numbered, cX13_numbered, 3, (some .int), RX13, 0, 0)
theorem ok_X13_numbered : j_OK mi_X13_numbered 0 := ⟨(gw8 (List.mem_of_getElem? (i := 139) rfl) rfl), (gw1 (List.mem_of_getElem? (i := 12) rfl) rfl), by decide, by decide, by decide +kernel⟩
theorem ov_X13_numbered : j_OV mi_X13_numbered := ⟨(gw8 (List.mem_of_getElem? (i := 138) rfl) rfl), (gp6 (List.mem_of_getElem? (i := 7) rfl))⟩
def mi_X13_lays : JMI := (yX13_lays, cX13_lays, 4, none, RX13, 0, 0)
theorem ok_X13_lays : j_OK mi_X13_lays 1 := ⟨(gw8 (List.mem_of_getElem? (i := 143) rfl) rfl), (gw1 (List.mem_of_getElem? (i := 12) rfl) rfl), by decide, by decide, by decide +kernel⟩
theorem ov_X13_lays : j_OV mi_X13_lays := ⟨(gw8 (List.mem_of_getElem? (i := 142) rfl) rfl), (gp6 (List.mem_of_getElem? (i := 8) rfl))⟩
def mi_X13_reaches : JMI := (yX13_reaches, cX13_reaches, 4, none, RX13, 2, 44)
theorem ok_X13_reaches : j_OK mi_X13_reaches 0 := ⟨(gw8 (List.mem_of_getElem? (i := 135) rfl) rfl), (gw1 (List.mem_of_getElem? (i := 12) rfl) rfl), by decide, by decide, by decide +kernel⟩
theorem ov_X13_reaches : j_OV mi_X13_reaches := ⟨(gw8 (List.mem_of_getElem? (i := 134) rfl) rfl), (gp6 (List.mem_of_getElem? (i := 6) rfl))⟩
def mi_X13_isMet : JMI := (yX13_isMet, cX13_isMet, 3, (some .boolean), RX13, 2, 44)
theorem ok_X13_isMet : j_OK mi_X13_isMet 1 := ⟨(gw8 (List.mem_of_getElem? (i := 155) rfl) rfl), (gw1 (List.mem_of_getElem? (i := 12) rfl) rfl), by decide, by decide, by decide +kernel⟩
theorem ov_X13_isMet : j_OV mi_X13_isMet := ⟨(gw8 (List.mem_of_getElem? (i := 154) rfl) rfl), (gp6 (List.mem_of_getElem? (i := 11) rfl))⟩
def mi_X13_metNow : JMI := (yX13_metNow, cX13_metNow, 3, (some .int), RX13, 3, 66)
theorem ok_X13_metNow : j_OK mi_X13_metNow 0 := ⟨(gw8 (List.mem_of_getElem? (i := 151) rfl) rfl), (gw1 (List.mem_of_getElem? (i := 12) rfl) rfl), by decide, by decide, by decide +kernel⟩
theorem ov_X13_metNow : j_OV mi_X13_metNow := ⟨(gw8 (List.mem_of_getElem? (i := 150) rfl) rfl), (gp6 (List.mem_of_getElem? (i := 10) rfl))⟩
def mi_X13_errandEnd : JMI := (yX13_errandEnd, cX13_errandEnd, 2, (some .int), RX13, 4, 88)
theorem ok_X13_errandEnd : j_OK mi_X13_errandEnd 0 := ⟨(gw8 (List.mem_of_getElem? (i := 131) rfl) rfl), (gw1 (List.mem_of_getElem? (i := 12) rfl) rfl), by decide, by decide, by decide +kernel⟩
theorem ov_X13_errandEnd : j_OV mi_X13_errandEnd := ⟨(gw8 (List.mem_of_getElem? (i := 130) rfl) rfl), (gp6 (List.mem_of_getElem? (i := 5) rfl))⟩
def mi_X13_errand : JMI := (yX13_errand, cX13_errand, 2, (some .int), RX13, 5, 109)
theorem ok_X13_errand : j_OK mi_X13_errand 0 := ⟨(gw8 (List.mem_of_getElem? (i := 127) rfl) rfl), (gw1 (List.mem_of_getElem? (i := 12) rfl) rfl), by decide, by decide, by decide +kernel⟩
theorem ov_X13_errand : j_OV mi_X13_errand := ⟨(gw8 (List.mem_of_getElem? (i := 125) rfl) rfl), (gw8 (List.mem_of_getElem? (i := 126) rfl) rfl)⟩
def mi_X13_errandAt : JMI := (yX13_errandAt, cX13_errandAt, 3, (some .int), RX13, 5, 109)
theorem ok_X13_errandAt : j_OK mi_X13_errandAt 1 := ⟨(gw8 (List.mem_of_getElem? (i := 159) rfl) rfl), (gw1 (List.mem_of_getElem? (i := 12) rfl) rfl), by decide, by decide, by decide +kernel⟩
theorem ov_X13_errandAt : j_OV mi_X13_errandAt := ⟨(gw8 (List.mem_of_getElem? (i := 157) rfl) rfl), (gw8 (List.mem_of_getElem? (i := 158) rfl) rfl)⟩
def mi_X13_met : JMI := (yX13_met, cX13_met, 1, (some .int), RX13, 4, 88)
theorem ok_X13_met : j_OK mi_X13_met 0 := ⟨(gw8 (List.mem_of_getElem? (i := 163) rfl) rfl), (gw1 (List.mem_of_getElem? (i := 12) rfl) rfl), by decide, by decide, by decide +kernel⟩
theorem ov_X13_met : j_OV mi_X13_met := ⟨(gw8 (List.mem_of_getElem? (i := 161) rfl) rfl), (gw8 (List.mem_of_getElem? (i := 162) rfl) rfl)⟩
def mi_X13_refusesMuch : JMI := (yX13_refusesMuch, cX13_refusesMuch, 3, (some .int), RX13, 1, 22)
theorem ok_X13_refusesMuch : j_OK mi_X13_refusesMuch 2 := ⟨(gw8 (List.mem_of_getElem? (i := 171) rfl) rfl), (gw1 (List.mem_of_getElem? (i := 12) rfl) rfl), by decide, by decide, by decide +kernel⟩
theorem ov_X13_refusesMuch : j_OV mi_X13_refusesMuch := ⟨(gw8 (List.mem_of_getElem? (i := 170) rfl) rfl), (gp6 (List.mem_of_getElem? (i := 12) rfl))⟩
def mi_X13_movesFor : JMI := (yX13_movesFor, cX13_movesFor, 5, (some .int), RX13, 3, 70)
theorem ok_X13_movesFor : j_OK mi_X13_movesFor 2 := ⟨(gw8 (List.mem_of_getElem? (i := 167) rfl) rfl), (gw1 (List.mem_of_getElem? (i := 12) rfl) rfl), by decide, by decide, by decide +kernel⟩
theorem ov_X13_movesFor : j_OV mi_X13_movesFor := ⟨(gw8 (List.mem_of_getElem? (i := 165) rfl) rfl), (gw8 (List.mem_of_getElem? (i := 166) rfl) rfl)⟩
def mi_X13_mostBy : JMI := (yX13_mostBy, cX13_mostBy, 5, (some .int), RX13, 3, 70)
theorem ok_X13_mostBy : j_OK mi_X13_mostBy 2 := ⟨(gw8 (List.mem_of_getElem? (i := 175) rfl) rfl), (gw1 (List.mem_of_getElem? (i := 12) rfl) rfl), by decide, by decide, by decide +kernel⟩
theorem ov_X13_mostBy : j_OV mi_X13_mostBy := ⟨(gw8 (List.mem_of_getElem? (i := 173) rfl) rfl), (gw8 (List.mem_of_getElem? (i := 174) rfl) rfl)⟩
def mi_X13_reach : JMI := (yX13_reach, cX13_reach, 1, (some .int), RX13, 3, 67)
theorem ok_X13_reach : j_OK mi_X13_reach 0 := ⟨(gw8 (List.mem_of_getElem? (i := 179) rfl) rfl), (gw1 (List.mem_of_getElem? (i := 12) rfl) rfl), by decide, by decide, by decide +kernel⟩
theorem ov_X13_reach : j_OV mi_X13_reach := ⟨(gw8 (List.mem_of_getElem? (i := 177) rfl) rfl), (gw8 (List.mem_of_getElem? (i := 178) rfl) rfl)⟩
def mi_X13_may : JMI := (yX13_may, cX13_may, 3, (some .boolean), RX13, 1, 23)
theorem ok_X13_may : j_OK mi_X13_may 1 := ⟨(gw8 (List.mem_of_getElem? (i := 195) rfl) rfl), (gw1 (List.mem_of_getElem? (i := 12) rfl) rfl), by decide, by decide, by decide +kernel⟩
theorem ov_X13_may : j_OV mi_X13_may := ⟨(gw8 (List.mem_of_getElem? (i := 194) rfl) rfl), (gp6 (List.mem_of_getElem? (i := 15) rfl))⟩
def mi_X13_least : JMI := (yX13_least, cX13_least, 3, (some .int), RX13, 3, 70)
theorem ok_X13_least : j_OK mi_X13_least 0 := ⟨(gw8 (List.mem_of_getElem? (i := 199) rfl) rfl), (gw1 (List.mem_of_getElem? (i := 12) rfl) rfl), by decide, by decide, by decide +kernel⟩
theorem ov_X13_least : j_OV mi_X13_least := ⟨(gw8 (List.mem_of_getElem? (i := 198) rfl) rfl), (gp7 (List.mem_of_getElem? (i := 0) rfl))⟩
def mi_X13_coverWay : JMI := (yX13_coverWay, cX13_coverWay, 4, (some .int), RX13, 4, 92)
theorem ok_X13_coverWay : j_OK mi_X13_coverWay 0 := ⟨(gw8 (List.mem_of_getElem? (i := 187) rfl) rfl), (gw1 (List.mem_of_getElem? (i := 12) rfl) rfl), by decide, by decide, by decide +kernel⟩
theorem ov_X13_coverWay : j_OV mi_X13_coverWay := ⟨(gw8 (List.mem_of_getElem? (i := 186) rfl) rfl), (gp6 (List.mem_of_getElem? (i := 13) rfl))⟩
def mi_X13_cover : JMI := (yX13_cover, cX13_cover, 2, (some .int), RX13, 5, 115)
theorem ok_X13_cover : j_OK mi_X13_cover 0 := ⟨(gw8 (List.mem_of_getElem? (i := 183) rfl) rfl), (gw1 (List.mem_of_getElem? (i := 12) rfl) rfl), by decide, by decide, by decide +kernel⟩
theorem ov_X13_cover : j_OV mi_X13_cover := ⟨(gw8 (List.mem_of_getElem? (i := 181) rfl) rfl), (gw8 (List.mem_of_getElem? (i := 182) rfl) rfl)⟩
def mi_X13_coverAt : JMI := (yX13_coverAt, cX13_coverAt, 3, (some .int), RX13, 5, 115)
theorem ok_X13_coverAt : j_OK mi_X13_coverAt 1 := ⟨(gw8 (List.mem_of_getElem? (i := 203) rfl) rfl), (gw1 (List.mem_of_getElem? (i := 12) rfl) rfl), by decide, by decide, by decide +kernel⟩
theorem ov_X13_coverAt : j_OV mi_X13_coverAt := ⟨(gw8 (List.mem_of_getElem? (i := 201) rfl) rfl), (gw8 (List.mem_of_getElem? (i := 202) rfl) rfl)⟩
def mi_X13_isCalm : JMI := (yX13_isCalm, cX13_isCalm, 4, (some .boolean), RX13, 2, 47)
theorem ok_X13_isCalm : j_OK mi_X13_isCalm 0 := ⟨(gw8 (List.mem_of_getElem? (i := 211) rfl) rfl), (gw1 (List.mem_of_getElem? (i := 12) rfl) rfl), by decide, by decide, by decide +kernel⟩
theorem ov_X13_isCalm : j_OV mi_X13_isCalm := ⟨(gw8 (List.mem_of_getElem? (i := 210) rfl) rfl), (gp7 (List.mem_of_getElem? (i := 1) rfl))⟩
def mi_X13_stills : JMI := (yX13_stills, cX13_stills, 3, (some .int), RX13, 3, 70)
theorem ok_X13_stills : j_OK mi_X13_stills 0 := ⟨(gw8 (List.mem_of_getElem? (i := 207) rfl) rfl), (gw1 (List.mem_of_getElem? (i := 12) rfl) rfl), by decide, by decide, by decide +kernel⟩
theorem ov_X13_stills : j_OV mi_X13_stills := ⟨(gw8 (List.mem_of_getElem? (i := 205) rfl) rfl), (gw8 (List.mem_of_getElem? (i := 206) rfl) rfl)⟩
def mi_X13_isStill : JMI := (yX13_isStill, cX13_isStill, 1, (some .int), RX13, 3, 70)
theorem ok_X13_isStill : j_OK mi_X13_isStill 0 := ⟨(gw8 (List.mem_of_getElem? (i := 215) rfl) rfl), (gw1 (List.mem_of_getElem? (i := 12) rfl) rfl), by decide, by decide, by decide +kernel⟩
theorem ov_X13_isStill : j_OV mi_X13_isStill := ⟨(gw8 (List.mem_of_getElem? (i := 213) rfl) rfl), (gw8 (List.mem_of_getElem? (i := 214) rfl) rfl)⟩
def mi_X13_fairWay : JMI := (yX13_fairWay, cX13_fairWay, 4, (some .int), RX13, 4, 92)
theorem ok_X13_fairWay : j_OK mi_X13_fairWay 0 := ⟨(gw8 (List.mem_of_getElem? (i := 223) rfl) rfl), (gw1 (List.mem_of_getElem? (i := 12) rfl) rfl), by decide, by decide, by decide +kernel⟩
theorem ov_X13_fairWay : j_OV mi_X13_fairWay := ⟨(gw8 (List.mem_of_getElem? (i := 222) rfl) rfl), (gp7 (List.mem_of_getElem? (i := 2) rfl))⟩
def mi_X13_fairest : JMI := (yX13_fairest, cX13_fairest, 1, (some .int), RX13, 5, 115)
theorem ok_X13_fairest : j_OK mi_X13_fairest 0 := ⟨(gw8 (List.mem_of_getElem? (i := 219) rfl) rfl), (gw1 (List.mem_of_getElem? (i := 12) rfl) rfl), by decide, by decide, by decide +kernel⟩
theorem ov_X13_fairest : j_OV mi_X13_fairest := ⟨(gw8 (List.mem_of_getElem? (i := 217) rfl) rfl), (gw8 (List.mem_of_getElem? (i := 218) rfl) rfl)⟩
def mi_X13_fairAt : JMI := (yX13_fairAt, cX13_fairAt, 2, (some .int), RX13, 5, 115)
theorem ok_X13_fairAt : j_OK mi_X13_fairAt 1 := ⟨(gw8 (List.mem_of_getElem? (i := 227) rfl) rfl), (gw1 (List.mem_of_getElem? (i := 12) rfl) rfl), by decide, by decide, by decide +kernel⟩
theorem ov_X13_fairAt : j_OV mi_X13_fairAt := ⟨(gw8 (List.mem_of_getElem? (i := 225) rfl) rfl), (gw8 (List.mem_of_getElem? (i := 226) rfl) rfl)⟩
def mi_X13_guesses : JMI := (yX13_guesses, cX13_guesses, 3, (some .int), RX13, 0, 0)
theorem ok_X13_guesses : j_OK mi_X13_guesses 0 := ⟨(gw8 (List.mem_of_getElem? (i := 239) rfl) rfl), (gw1 (List.mem_of_getElem? (i := 12) rfl) rfl), by decide, by decide, by decide +kernel⟩
theorem ov_X13_guesses : j_OV mi_X13_guesses := ⟨(gw8 (List.mem_of_getElem? (i := 238) rfl) rfl), (gp7 (List.mem_of_getElem? (i := 4) rfl))⟩
def mi_X13_guess : JMI := (yX13_guess, cX13_guess, 5, (some .int), RX13, 0, 0)
theorem ok_X13_guess : j_OK mi_X13_guess 2 := ⟨(gw9 (List.mem_of_getElem? (i := 3) rfl) rfl), (gw1 (List.mem_of_getElem? (i := 12) rfl) rfl), by decide, by decide, by decide +kernel⟩
theorem ov_X13_guess : j_OV mi_X13_guess := ⟨(gw9 (List.mem_of_getElem? (i := 2) rfl) rfl), (gp7 (List.mem_of_getElem? (i := 5) rfl))⟩
def mi_X13_wrong : JMI := (yX13_wrong, cX13_wrong, 2, (some .int), RX13, 3, 70)
theorem ok_X13_wrong : j_OK mi_X13_wrong 0 := ⟨(gw9 (List.mem_of_getElem? (i := 7) rfl) rfl), (gw1 (List.mem_of_getElem? (i := 12) rfl) rfl), by decide, by decide, by decide +kernel⟩
theorem ov_X13_wrong : j_OV mi_X13_wrong := ⟨(gw9 (List.mem_of_getElem? (i := 6) rfl) rfl), (gp7 (List.mem_of_getElem? (i := 6) rfl))⟩
def mi_X13_fitting : JMI := (yX13_fitting, cX13_fitting, 4, none, RX13, 4, 91)
theorem ok_X13_fitting : j_OK mi_X13_fitting 1 := ⟨(gw8 (List.mem_of_getElem? (i := 235) rfl) rfl), (gw1 (List.mem_of_getElem? (i := 12) rfl) rfl), by decide, by decide, by decide +kernel⟩
theorem ov_X13_fitting : j_OV mi_X13_fitting := ⟨(gw8 (List.mem_of_getElem? (i := 234) rfl) rfl), (gp7 (List.mem_of_getElem? (i := 3) rfl))⟩
def mi_X13_fits : JMI := (yX13_fits, cX13_fits, 1, (some .int), RX13, 5, 114)
theorem ok_X13_fits : j_OK mi_X13_fits 0 := ⟨(gw8 (List.mem_of_getElem? (i := 231) rfl) rfl), (gw1 (List.mem_of_getElem? (i := 12) rfl) rfl), by decide, by decide, by decide +kernel⟩
theorem ov_X13_fits : j_OV mi_X13_fits := ⟨(gw8 (List.mem_of_getElem? (i := 229) rfl) rfl), (gw8 (List.mem_of_getElem? (i := 230) rfl) rfl)⟩
def mi_X13_isLostOne : JMI := (yX13_isLostOne, cX13_isLostOne, 2, (some .boolean), RX13, 0, 0)
theorem ok_X13_isLostOne : j_OK mi_X13_isLostOne 1 := ⟨(gw9 (List.mem_of_getElem? (i := 15) rfl) rfl), (gw1 (List.mem_of_getElem? (i := 12) rfl) rfl), by decide, by decide, by decide +kernel⟩
theorem ov_X13_isLostOne : j_OV mi_X13_isLostOne := ⟨(gw9 (List.mem_of_getElem? (i := 14) rfl) rfl), (gp7 (List.mem_of_getElem? (i := 7) rfl))⟩
def mi_X13_fitAt : JMI := (yX13_fitAt, cX13_fitAt, 3, (some .int), RX13, 5, 114)
theorem ok_X13_fitAt : j_OK mi_X13_fitAt 2 := ⟨(gw9 (List.mem_of_getElem? (i := 11) rfl) rfl), (gw1 (List.mem_of_getElem? (i := 12) rfl) rfl), by decide, by decide, by decide +kernel⟩
theorem ov_X13_fitAt : j_OV mi_X13_fitAt := ⟨(gw9 (List.mem_of_getElem? (i := 9) rfl) rfl), (gw9 (List.mem_of_getElem? (i := 10) rfl) rfl)⟩
def mi_X13_hungBy : JMI := (yX13_hungBy, cX13_hungBy, 3, (some .int), RX13, 5, 114)
theorem ok_X13_hungBy : j_OK mi_X13_hungBy 2 := ⟨(gw9 (List.mem_of_getElem? (i := 19) rfl) rfl), (gw1 (List.mem_of_getElem? (i := 12) rfl) rfl), by decide, by decide, by decide +kernel⟩
theorem ov_X13_hungBy : j_OV mi_X13_hungBy := ⟨(gw9 (List.mem_of_getElem? (i := 17) rfl) rfl), (gw9 (List.mem_of_getElem? (i := 18) rfl) rfl)⟩
def mi_X13_looks : JMI := (yX13_looks, cX13_looks, 5, (some .int), RX13, 5, 114)
theorem ok_X13_looks : j_OK mi_X13_looks 0 := ⟨(gw9 (List.mem_of_getElem? (i := 27) rfl) rfl), (gw1 (List.mem_of_getElem? (i := 12) rfl) rfl), by decide, by decide, by decide +kernel⟩
theorem ov_X13_looks : j_OV mi_X13_looks := ⟨(gw9 (List.mem_of_getElem? (i := 26) rfl) rfl), (gp7 (List.mem_of_getElem? (i := 8) rfl))⟩
def mi_X13_look : JMI := (yX13_look, cX13_look, 1, (some .int), RX13, 6, 138)
theorem ok_X13_look : j_OK mi_X13_look 0 := ⟨(gw9 (List.mem_of_getElem? (i := 23) rfl) rfl), (gw1 (List.mem_of_getElem? (i := 12) rfl) rfl), by decide, by decide, by decide +kernel⟩
theorem ov_X13_look : j_OV mi_X13_look := ⟨(gw9 (List.mem_of_getElem? (i := 21) rfl) rfl), (gw9 (List.mem_of_getElem? (i := 22) rfl) rfl)⟩
def mi_X13_lookLeaves : JMI := (yX13_lookLeaves, cX13_lookLeaves, 1, (some .int), RX13, 6, 138)
theorem ok_X13_lookLeaves : j_OK mi_X13_lookLeaves 0 := ⟨(gw9 (List.mem_of_getElem? (i := 31) rfl) rfl), (gw1 (List.mem_of_getElem? (i := 12) rfl) rfl), by decide, by decide, by decide +kernel⟩
theorem ov_X13_lookLeaves : j_OV mi_X13_lookLeaves := ⟨(gw9 (List.mem_of_getElem? (i := 29) rfl) rfl), (gw9 (List.mem_of_getElem? (i := 30) rfl) rfl)⟩
def mi_X13_judge : JMI := (yX13_judge, cX13_judge, 1, (some .int), RX13, 4, 91)
theorem ok_X13_judge : j_OK mi_X13_judge 0 := ⟨(gw9 (List.mem_of_getElem? (i := 35) rfl) rfl), (gw1 (List.mem_of_getElem? (i := 12) rfl) rfl), by decide, by decide, by decide +kernel⟩
theorem ov_X13_judge : j_OV mi_X13_judge := ⟨(gw9 (List.mem_of_getElem? (i := 33) rfl) rfl), (gw9 (List.mem_of_getElem? (i := 34) rfl) rfl)⟩
def mi_X13_around : JMI := (yX13_around, cX13_around, 4, (some .int), RX13, 1, 21)
theorem ok_X13_around : j_OK mi_X13_around 1 := ⟨(gw9 (List.mem_of_getElem? (i := 47) rfl) rfl), (gw1 (List.mem_of_getElem? (i := 12) rfl) rfl), by decide, by decide, by decide +kernel⟩
theorem ov_X13_around : j_OV mi_X13_around := ⟨(gw9 (List.mem_of_getElem? (i := 46) rfl) rfl), (gp7 (List.mem_of_getElem? (i := 10) rfl))⟩
def mi_X13_steps : JMI := (yX13_steps, cX13_steps, 5, (some .int), RX13, 2, 44)
theorem ok_X13_steps : j_OK mi_X13_steps 2 := ⟨(gw9 (List.mem_of_getElem? (i := 43) rfl) rfl), (gw1 (List.mem_of_getElem? (i := 12) rfl) rfl), by decide, by decide, by decide +kernel⟩
theorem ov_X13_steps : j_OV mi_X13_steps := ⟨(gw9 (List.mem_of_getElem? (i := 42) rfl) rfl), (gp7 (List.mem_of_getElem? (i := 9) rfl))⟩
def mi_X13_apart : JMI := (yX13_apart, cX13_apart, 3, (some .int), RX13, 3, 68)
theorem ok_X13_apart : j_OK mi_X13_apart 2 := ⟨(gw9 (List.mem_of_getElem? (i := 39) rfl) rfl), (gw1 (List.mem_of_getElem? (i := 12) rfl) rfl), by decide, by decide, by decide +kernel⟩
theorem ov_X13_apart : j_OV mi_X13_apart := ⟨(gw9 (List.mem_of_getElem? (i := 37) rfl) rfl), (gw9 (List.mem_of_getElem? (i := 38) rfl) rfl)⟩
def mi_X13_sentries : JMI := (yX13_sentries, cX13_sentries, 4, (some .int), RX13, 2, 44)
theorem ok_X13_sentries : j_OK mi_X13_sentries 0 := ⟨(gw9 (List.mem_of_getElem? (i := 51) rfl) rfl), (gw1 (List.mem_of_getElem? (i := 12) rfl) rfl), by decide, by decide, by decide +kernel⟩
theorem ov_X13_sentries : j_OV mi_X13_sentries := ⟨(gw9 (List.mem_of_getElem? (i := 49) rfl) rfl), (gw9 (List.mem_of_getElem? (i := 50) rfl) rfl)⟩
def mi_X13_parts : JMI := (yX13_parts, cX13_parts, 5, (some .int), RX13, 3, 68)
theorem ok_X13_parts : j_OK mi_X13_parts 0 := ⟨(gw9 (List.mem_of_getElem? (i := 55) rfl) rfl), (gw1 (List.mem_of_getElem? (i := 12) rfl) rfl), by decide, by decide, by decide +kernel⟩
theorem ov_X13_parts : j_OV mi_X13_parts := ⟨(gw9 (List.mem_of_getElem? (i := 53) rfl) rfl), (gw9 (List.mem_of_getElem? (i := 54) rfl) rfl)⟩
def mi_X13_estate : JMI := (yX13_estate, cX13_estate, 7, (some .int), RX13, 3, 67)
theorem ok_X13_estate : j_OK mi_X13_estate 2 := ⟨(gw9 (List.mem_of_getElem? (i := 59) rfl) rfl), (gw1 (List.mem_of_getElem? (i := 12) rfl) rfl), by decide, by decide, by decide +kernel⟩
theorem ov_X13_estate : j_OV mi_X13_estate := ⟨(gw9 (List.mem_of_getElem? (i := 57) rfl) rfl), (gw9 (List.mem_of_getElem? (i := 58) rfl) rfl)⟩
def mi_X13_votes : JMI := (yX13_votes, cX13_votes, 4, (some .int), RX13, 3, 70)
theorem ok_X13_votes : j_OK mi_X13_votes 1 := ⟨(gw9 (List.mem_of_getElem? (i := 82) rfl) rfl), (gw1 (List.mem_of_getElem? (i := 12) rfl) rfl), by decide, by decide, by decide +kernel⟩
theorem ov_X13_votes : j_OV mi_X13_votes := ⟨(gw9 (List.mem_of_getElem? (i := 81) rfl) rfl), (gp7 (List.mem_of_getElem? (i := 14) rfl))⟩
def mi_X13_everybody : JMI := (yX13_everybody, cX13_everybody, 1, (some .int), RX13, 0, 0)
theorem ok_X13_everybody : j_OK mi_X13_everybody 0 := ⟨(gw9 (List.mem_of_getElem? (i := 86) rfl) rfl), (gw1 (List.mem_of_getElem? (i := 12) rfl) rfl), by decide, by decide, by decide +kernel⟩
theorem ov_X13_everybody : j_OV mi_X13_everybody := ⟨(gw9 (List.mem_of_getElem? (i := 85) rfl) rfl), (gp7 (List.mem_of_getElem? (i := 15) rfl))⟩
def mi_X13_voters : JMI := (yX13_voters, cX13_voters, 3, (some .int), RX13, 3, 70)
theorem ok_X13_voters : j_OK mi_X13_voters 0 := ⟨(gw9 (List.mem_of_getElem? (i := 74) rfl) rfl), (gw1 (List.mem_of_getElem? (i := 12) rfl) rfl), by decide, by decide, by decide +kernel⟩
theorem ov_X13_voters : j_OV mi_X13_voters := ⟨(gw9 (List.mem_of_getElem? (i := 73) rfl) rfl), (gp7 (List.mem_of_getElem? (i := 12) rfl))⟩
def mi_X13_isMore : JMI := (yX13_isMore, cX13_isMore, 2, (some .boolean), RX13, 4, 93)
theorem ok_X13_isMore : j_OK mi_X13_isMore 1 := ⟨(gw9 (List.mem_of_getElem? (i := 78) rfl) rfl), (gw1 (List.mem_of_getElem? (i := 12) rfl) rfl), by decide, by decide, by decide +kernel⟩
theorem ov_X13_isMore : j_OV mi_X13_isMore := ⟨(gw9 (List.mem_of_getElem? (i := 77) rfl) rfl), (gp7 (List.mem_of_getElem? (i := 13) rfl))⟩
def mi_X13_power : JMI := (yX13_power, cX13_power, 6, (some .long), RX13, 5, 114)
theorem ok_X13_power : j_OK mi_X13_power 2 := ⟨(gw9 (List.mem_of_getElem? (i := 63) rfl) rfl), (gw1 (List.mem_of_getElem? (i := 12) rfl) rfl), by decide, by decide, by decide +kernel⟩
theorem ov_X13_power : j_OV mi_X13_power := ⟨(gw9 (List.mem_of_getElem? (i := 61) rfl) rfl), (gw9 (List.mem_of_getElem? (i := 62) rfl) rfl)⟩
def mi_X13_rule : JMI := (yX13_rule, cX13_rule, 3, (some .int), RX13, 5, 114)
theorem ok_X13_rule : j_OK mi_X13_rule 0 := ⟨(gw9 (List.mem_of_getElem? (i := 90) rfl) rfl), (gw1 (List.mem_of_getElem? (i := 12) rfl) rfl), by decide, by decide, by decide +kernel⟩
theorem ov_X13_rule : j_OV mi_X13_rule := ⟨(gw9 (List.mem_of_getElem? (i := 88) rfl) rfl), (gw9 (List.mem_of_getElem? (i := 89) rfl) rfl)⟩
def mi_X13_thiefs : JMI := (yX13_thiefs, cX13_thiefs, 3, (some .int), RX13, 0, 0)
theorem ok_X13_thiefs : j_OK mi_X13_thiefs 3 := ⟨(gw9 (List.mem_of_getElem? (i := 108) rfl) rfl), (gw1 (List.mem_of_getElem? (i := 12) rfl) rfl), by decide, by decide, by decide +kernel⟩
theorem os_X13_thiefs : j_OS mi_X13_thiefs := (gw9 (List.mem_of_getElem? (i := 107) rfl) rfl)
def mi_X13_sentrys : JMI := (yX13_sentrys, cX13_sentrys, 3, (some .int), RX13, 0, 0)
theorem ok_X13_sentrys : j_OK mi_X13_sentrys 3 := ⟨(gw9 (List.mem_of_getElem? (i := 105) rfl) rfl), (gw1 (List.mem_of_getElem? (i := 12) rfl) rfl), by decide, by decide, by decide +kernel⟩
theorem os_X13_sentrys : j_OS mi_X13_sentrys := (gw9 (List.mem_of_getElem? (i := 104) rfl) rfl)
def mi_X13_refusesWorth : JMI := (yX13_refusesWorth, cX13_refusesWorth, 2, (some .int), RX13, 1, 22)
theorem ok_X13_refusesWorth : j_OK mi_X13_refusesWorth 1 := ⟨(gw9 (List.mem_of_getElem? (i := 98) rfl) rfl), (gw1 (List.mem_of_getElem? (i := 12) rfl) rfl), by decide, by decide, by decide +kernel⟩
theorem ov_X13_refusesWorth : j_OV mi_X13_refusesWorth := ⟨(gw9 (List.mem_of_getElem? (i := 97) rfl) rfl), (gp8 (List.mem_of_getElem? (i := 0) rfl))⟩
def mi_X13_steal : JMI := (yX13_steal, cX13_steal, 6, (some .int), RX13, 2, 43)
theorem ok_X13_steal : j_OK mi_X13_steal 4 := ⟨(gw9 (List.mem_of_getElem? (i := 94) rfl) rfl), (gw1 (List.mem_of_getElem? (i := 12) rfl) rfl), by decide, by decide, by decide +kernel⟩
theorem ov_X13_steal : j_OV mi_X13_steal := ⟨(gw9 (List.mem_of_getElem? (i := 92) rfl) rfl), (gw9 (List.mem_of_getElem? (i := 93) rfl) rfl)⟩
def mi_X13_isRest : JMI := (yX13_isRest, cX13_isRest, 4, (some .boolean), RX13, 1, 22)
theorem ok_X13_isRest : j_OK mi_X13_isRest 2 := ⟨(gw9 (List.mem_of_getElem? (i := 115) rfl) rfl), (gw1 (List.mem_of_getElem? (i := 12) rfl) rfl), by decide, by decide, by decide +kernel⟩
theorem os_X13_isRest : j_OS mi_X13_isRest := (gw9 (List.mem_of_getElem? (i := 114) rfl) rfl)
def mi_X13_rests : JMI := (yX13_rests, cX13_rests, 5, (some .int), RX13, 2, 45)
theorem ok_X13_rests : j_OK mi_X13_rests 1 := ⟨(gw9 (List.mem_of_getElem? (i := 112) rfl) rfl), (gw1 (List.mem_of_getElem? (i := 12) rfl) rfl), by decide, by decide, by decide +kernel⟩
theorem ov_X13_rests : j_OV mi_X13_rests := ⟨(gw9 (List.mem_of_getElem? (i := 110) rfl) rfl), (gw9 (List.mem_of_getElem? (i := 111) rfl) rfl)⟩
def mi_X13_rest : JMI := (yX13_rest, cX13_rest, 4, (some .int), RX13, 2, 45)
theorem ok_X13_rest : j_OK mi_X13_rest 1 := ⟨(gw9 (List.mem_of_getElem? (i := 119) rfl) rfl), (gw1 (List.mem_of_getElem? (i := 12) rfl) rfl), by decide, by decide, by decide +kernel⟩
theorem ov_X13_rest : j_OV mi_X13_rest := ⟨(gw9 (List.mem_of_getElem? (i := 117) rfl) rfl), (gw9 (List.mem_of_getElem? (i := 118) rfl) rfl)⟩
def mi_X13_falls : JMI := (yX13_falls, cX13_falls, 3, (some .int), RX13, 0, 0)
theorem ok_X13_falls : j_OK mi_X13_falls 1 := ⟨(gw9 (List.mem_of_getElem? (i := 127) rfl) rfl), (gw1 (List.mem_of_getElem? (i := 12) rfl) rfl), by decide, by decide, by decide +kernel⟩
theorem ov_X13_falls : j_OV mi_X13_falls := ⟨(gw9 (List.mem_of_getElem? (i := 126) rfl) rfl), (gp8 (List.mem_of_getElem? (i := 2) rfl))⟩
def mi_X13_holds : JMI := (yX13_holds, cX13_holds, 9, (some .long), RX13, 2, 54)
theorem ok_X13_holds : j_OK mi_X13_holds 3 := ⟨(gw9 (List.mem_of_getElem? (i := 123) rfl) rfl), (gw1 (List.mem_of_getElem? (i := 12) rfl) rfl), by decide, by decide, by decide +kernel⟩
theorem ov_X13_holds : j_OV mi_X13_holds := ⟨(gw9 (List.mem_of_getElem? (i := 121) rfl) rfl), (gw9 (List.mem_of_getElem? (i := 122) rfl) rfl)⟩
def mi_X13_mean : JMI := (yX13_mean, cX13_mean, 6, (some .long), RX13, 2, 54)
theorem ok_X13_mean : j_OK mi_X13_mean 2 := ⟨(gw9 (List.mem_of_getElem? (i := 132) rfl) rfl), (gw1 (List.mem_of_getElem? (i := 12) rfl) rfl), by decide, by decide, by decide +kernel⟩
theorem ov_X13_mean : j_OV mi_X13_mean := ⟨(gw9 (List.mem_of_getElem? (i := 130) rfl) rfl), (gw9 (List.mem_of_getElem? (i := 131) rfl) rfl)⟩
def mi_X13_keeps : JMI := (yX13_keeps, cX13_keeps, 13, (some .long), RX13, 3, 70)
theorem ok_X13_keeps : j_OK mi_X13_keeps 3 := ⟨(gw9 (List.mem_of_getElem? (i := 136) rfl) rfl), (gw1 (List.mem_of_getElem? (i := 12) rfl) rfl), by decide, by decide, by decide +kernel⟩
theorem ov_X13_keeps : j_OV mi_X13_keeps := ⟨(gw9 (List.mem_of_getElem? (i := 134) rfl) rfl), (gw9 (List.mem_of_getElem? (i := 135) rfl) rfl)⟩
def mi_X13_aYear : JMI := (yX13_aYear, cX13_aYear, 3, (some .int), RX13, 1, 22)
theorem ok_X13_aYear : j_OK mi_X13_aYear 0 := ⟨(gw9 (List.mem_of_getElem? (i := 149) rfl) rfl), (gw1 (List.mem_of_getElem? (i := 12) rfl) rfl), by decide, by decide, by decide +kernel⟩
theorem ov_X13_aYear : j_OV mi_X13_aYear := ⟨(gw9 (List.mem_of_getElem? (i := 148) rfl) rfl), (gp8 (List.mem_of_getElem? (i := 4) rfl))⟩
def mi_X13_refusesSeed : JMI := (yX13_refusesSeed, cX13_refusesSeed, 4, (some .int), RX13, 1, 22)
theorem ok_X13_refusesSeed : j_OK mi_X13_refusesSeed 3 := ⟨(gw9 (List.mem_of_getElem? (i := 144) rfl) rfl), (gw1 (List.mem_of_getElem? (i := 12) rfl) rfl), by decide, by decide, by decide +kernel⟩
theorem ov_X13_refusesSeed : j_OV mi_X13_refusesSeed := ⟨(gw9 (List.mem_of_getElem? (i := 143) rfl) rfl), (gp8 (List.mem_of_getElem? (i := 3) rfl))⟩
def mi_X13_century : JMI := (yX13_century, cX13_century, 6, (some .int), RX13, 3, 70)
theorem ok_X13_century : j_OK mi_X13_century 3 := ⟨(gw9 (List.mem_of_getElem? (i := 140) rfl) rfl), (gw1 (List.mem_of_getElem? (i := 12) rfl) rfl), by decide, by decide, by decide +kernel⟩
theorem ov_X13_century : j_OV mi_X13_century := ⟨(gw9 (List.mem_of_getElem? (i := 138) rfl) rfl), (gw9 (List.mem_of_getElem? (i := 139) rfl) rfl)⟩
def mi_X13_isBare : JMI := (yX13_isBare, cX13_isBare, 2, (some .boolean), RX13, 0, 0)
theorem ok_X13_isBare : j_OK mi_X13_isBare 0 := ⟨(gw9 (List.mem_of_getElem? (i := 160) rfl) rfl), (gw1 (List.mem_of_getElem? (i := 12) rfl) rfl), by decide, by decide, by decide +kernel⟩
theorem ov_X13_isBare : j_OV mi_X13_isBare := ⟨(gw9 (List.mem_of_getElem? (i := 159) rfl) rfl), (gp8 (List.mem_of_getElem? (i := 5) rfl))⟩
def mi_X13_bare : JMI := (yX13_bare, cX13_bare, 5, (some .int), RX13, 2, 45)
theorem ok_X13_bare : j_OK mi_X13_bare 2 := ⟨(gw9 (List.mem_of_getElem? (i := 156) rfl) rfl), (gw1 (List.mem_of_getElem? (i := 12) rfl) rfl), by decide, by decide, by decide +kernel⟩
theorem ov_X13_bare : j_OV mi_X13_bare := ⟨(gw9 (List.mem_of_getElem? (i := 154) rfl) rfl), (gw9 (List.mem_of_getElem? (i := 155) rfl) rfl)⟩
def mi_X13_remembers : JMI := (yX13_remembers, cX13_remembers, 2, none, RX13, 0, 0)
theorem ok_X13_remembers : j_OK mi_X13_remembers 0 := ⟨(gw9 (List.mem_of_getElem? (i := 172) rfl) rfl), (gw1 (List.mem_of_getElem? (i := 12) rfl) rfl), by decide, by decide, by decide +kernel⟩
theorem ov_X13_remembers : j_OV mi_X13_remembers := ⟨(gw9 (List.mem_of_getElem? (i := 171) rfl) rfl), (gp8 (List.mem_of_getElem? (i := 7) rfl))⟩
def mi_X13_hang : JMI := (yX13_hang, cX13_hang, 3, (some .boolean), RX13, 2, 42)
theorem ok_X13_hang : j_OK mi_X13_hang 2 := ⟨(gw9 (List.mem_of_getElem? (i := 164) rfl) rfl), (gw1 (List.mem_of_getElem? (i := 12) rfl) rfl), by decide, by decide, by decide +kernel⟩
theorem ov_X13_hang : j_OV mi_X13_hang := ⟨(gw9 (List.mem_of_getElem? (i := 162) rfl) rfl), (gw9 (List.mem_of_getElem? (i := 163) rfl) rfl)⟩
def mi_X13_refusesHung : JMI := (yX13_refusesHung, cX13_refusesHung, 2, (some .int), RX13, 1, 21)
theorem ok_X13_refusesHung : j_OK mi_X13_refusesHung 1 := ⟨(gw9 (List.mem_of_getElem? (i := 184) rfl) rfl), (gw1 (List.mem_of_getElem? (i := 12) rfl) rfl), by decide, by decide, by decide +kernel⟩
theorem ov_X13_refusesHung : j_OV mi_X13_refusesHung := ⟨(gw9 (List.mem_of_getElem? (i := 183) rfl) rfl), (gp8 (List.mem_of_getElem? (i := 9) rfl))⟩
def mi_X13_take : JMI := (yX13_take, cX13_take, 3, (some .boolean), RX13, 2, 42)
theorem ok_X13_take : j_OK mi_X13_take 1 := ⟨(gw9 (List.mem_of_getElem? (i := 180) rfl) rfl), (gw1 (List.mem_of_getElem? (i := 12) rfl) rfl), by decide, by decide, by decide +kernel⟩
theorem ov_X13_take : j_OV mi_X13_take := ⟨(gw9 (List.mem_of_getElem? (i := 178) rfl) rfl), (gw9 (List.mem_of_getElem? (i := 179) rfl) rfl)⟩
def mi_X13_turnOver : JMI := (yX13_turnOver, cX13_turnOver, 3, (some .int), RX13, 2, 42)
theorem ok_X13_turnOver : j_OK mi_X13_turnOver 1 := ⟨(gw9 (List.mem_of_getElem? (i := 188) rfl) rfl), (gw1 (List.mem_of_getElem? (i := 12) rfl) rfl), by decide, by decide, by decide +kernel⟩
theorem ov_X13_turnOver : j_OV mi_X13_turnOver := ⟨(gw9 (List.mem_of_getElem? (i := 186) rfl) rfl), (gw9 (List.mem_of_getElem? (i := 187) rfl) rfl)⟩
def mi_X13_gust : JMI := (yX13_gust, cX13_gust, 3, (some .int), RX13, 2, 44)
theorem ok_X13_gust : j_OK mi_X13_gust 0 := ⟨(gw9 (List.mem_of_getElem? (i := 192) rfl) rfl), (gw1 (List.mem_of_getElem? (i := 12) rfl) rfl), by decide, by decide, by decide +kernel⟩
theorem ov_X13_gust : j_OV mi_X13_gust := ⟨(gw9 (List.mem_of_getElem? (i := 190) rfl) rfl), (gw9 (List.mem_of_getElem? (i := 191) rfl) rfl)⟩
def mi_X13_seed : JMI := (yX13_seed, cX13_seed, 2, (some .boolean), RX13, 2, 42)
theorem ok_X13_seed : j_OK mi_X13_seed 1 := ⟨(gw9 (List.mem_of_getElem? (i := 196) rfl) rfl), (gw1 (List.mem_of_getElem? (i := 12) rfl) rfl), by decide, by decide, by decide +kernel⟩
theorem ov_X13_seed : j_OV mi_X13_seed := ⟨(gw9 (List.mem_of_getElem? (i := 194) rfl) rfl), (gw9 (List.mem_of_getElem? (i := 195) rfl) rfl)⟩
def mi_X13_undo : JMI := (yX13_undo, cX13_undo, 2, (some .boolean), RX13, 2, 42)
theorem ok_X13_undo : j_OK mi_X13_undo 0 := ⟨(gw9 (List.mem_of_getElem? (i := 200) rfl) rfl), (gw1 (List.mem_of_getElem? (i := 12) rfl) rfl), by decide, by decide, by decide +kernel⟩
theorem ov_X13_undo : j_OV mi_X13_undo := ⟨(gw9 (List.mem_of_getElem? (i := 198) rfl) rfl), (gw9 (List.mem_of_getElem? (i := 199) rfl) rfl)⟩
def mi_X13_image : JMI := (yX13_image, cX13_image, 2, (some .int), RX13, 1, 21)
theorem ok_X13_image : j_OK mi_X13_image 0 := ⟨(gw9 (List.mem_of_getElem? (i := 204) rfl) rfl), (gw1 (List.mem_of_getElem? (i := 12) rfl) rfl), by decide, by decide, by decide +kernel⟩
theorem ov_X13_image : j_OV mi_X13_image := ⟨(gw9 (List.mem_of_getElem? (i := 202) rfl) rfl), (gw9 (List.mem_of_getElem? (i := 203) rfl) rfl)⟩
def mi_X13_back : JMI := (yX13_back, cX13_back, 3, (some .boolean), RX13, 2, 42)
theorem ok_X13_back : j_OK mi_X13_back 1 := ⟨(gw9 (List.mem_of_getElem? (i := 208) rfl) rfl), (gw1 (List.mem_of_getElem? (i := 12) rfl) rfl), by decide, by decide, by decide +kernel⟩
theorem ov_X13_back : j_OV mi_X13_back := ⟨(gw9 (List.mem_of_getElem? (i := 206) rfl) rfl), (gw9 (List.mem_of_getElem? (i := 207) rfl) rfl)⟩
def mi_X13_led : JMI := (yX13_led, cX13_led, 4, (some .int), RX13, 3, 70)
theorem ok_X13_led : j_OK mi_X13_led 1 := ⟨(gw9 (List.mem_of_getElem? (i := 212) rfl) rfl), (gw1 (List.mem_of_getElem? (i := 12) rfl) rfl), by decide, by decide, by decide +kernel⟩
theorem ov_X13_led : j_OV mi_X13_led := ⟨(gw9 (List.mem_of_getElem? (i := 210) rfl) rfl), (gw9 (List.mem_of_getElem? (i := 211) rfl) rfl)⟩
def mi_X13_size : JMI := (yX13_size, cX13_size, 2, (some .int), RX13, 1, 22)
theorem ok_X13_size : j_OK mi_X13_size 1 := ⟨(gw9 (List.mem_of_getElem? (i := 216) rfl) rfl), (gw1 (List.mem_of_getElem? (i := 12) rfl) rfl), by decide, by decide, by decide +kernel⟩
theorem ov_X13_size : j_OV mi_X13_size := ⟨(gw9 (List.mem_of_getElem? (i := 214) rfl) rfl), (gw9 (List.mem_of_getElem? (i := 215) rfl) rfl)⟩
def mi_X13_trouble : JMI := (yX13_trouble, cX13_trouble, 1, (some .int), RX13, 0, 0)
theorem ok_X13_trouble : j_OK mi_X13_trouble 0 := ⟨(gw9 (List.mem_of_getElem? (i := 220) rfl) rfl), (gw1 (List.mem_of_getElem? (i := 12) rfl) rfl), by decide, by decide, by decide +kernel⟩
theorem ov_X13_trouble : j_OV mi_X13_trouble := ⟨(gw9 (List.mem_of_getElem? (i := 218) rfl) rfl), (gw9 (List.mem_of_getElem? (i := 219) rfl) rfl)⟩
def mi_J6_bitCount_0f7a4 : JMI := (yJ6_bitCount_0f7a4, cJ6_bitCount_0f7a4, 1, (some .int), RJ6, 0, 0)
theorem ok_J6_bitCount_0f7a4 : j_OK mi_J6_bitCount_0f7a4 1 := ⟨(gw3 (List.mem_of_getElem? (i := 156) rfl) rfl), (gw1 (List.mem_of_getElem? (i := 18) rfl) rfl), by decide, by decide, by decide +kernel⟩
theorem os_J6_bitCount_0f7a4 : j_OS mi_J6_bitCount_0f7a4 := (gw3 (List.mem_of_getElem? (i := 155) rfl) rfl)
def mi_J9_max_7cf53 : JMI := (yJ9_max_7cf53, cJ9_max_7cf53, 2, (some .int), RJ9, 0, 0)
theorem ok_J9_max_7cf53 : j_OK mi_J9_max_7cf53 2 := ⟨(gw4 (List.mem_of_getElem? (i := 184) rfl) rfl), (gw1 (List.mem_of_getElem? (i := 20) rfl) rfl), by decide, by decide, by decide +kernel⟩
theorem os_J9_max_7cf53 : j_OS mi_J9_max_7cf53 := (gw4 (List.mem_of_getElem? (i := 183) rfl) rfl)
def mi_J9_min_7cf53 : JMI := (yJ9_min_7cf53, cJ9_min_7cf53, 2, (some .int), RJ9, 0, 0)
theorem ok_J9_min_7cf53 : j_OK mi_J9_min_7cf53 2 := ⟨(gw4 (List.mem_of_getElem? (i := 220) rfl) rfl), (gw1 (List.mem_of_getElem? (i := 20) rfl) rfl), by decide, by decide, by decide +kernel⟩
theorem os_J9_min_7cf53 : j_OS mi_J9_min_7cf53 := (gw4 (List.mem_of_getElem? (i := 219) rfl) rfl)
def mi_J0_length_8abf5 : JMI := (yJ0_length_8abf5, cJ0_length_8abf5, 1, (some .int), RJ0, 1, 20)
theorem ok_J0_length_8abf5 : j_OK mi_J0_length_8abf5 0 := ⟨(gw3 (List.mem_of_getElem? (i := 12) rfl) rfl), (gw1 (List.mem_of_getElem? (i := 13) rfl) rfl), by decide, by decide, by decide +kernel⟩
theorem ov_J0_length_8abf5 : j_OV mi_J0_length_8abf5 := ⟨(gw3 (List.mem_of_getElem? (i := 10) rfl) rfl), (gw3 (List.mem_of_getElem? (i := 11) rfl) rfl)⟩
def mi_J0_charAt_5068e : JMI := (yJ0_charAt_5068e, cJ0_charAt_5068e, 2, (some .char), RJ0, 4, 85)
theorem ok_J0_charAt_5068e : j_OK mi_J0_charAt_5068e 1 := ⟨(gw3 (List.mem_of_getElem? (i := 22) rfl) rfl), (gw1 (List.mem_of_getElem? (i := 13) rfl) rfl), by decide, by decide, by decide +kernel⟩
theorem ov_J0_charAt_5068e : j_OV mi_J0_charAt_5068e := ⟨(gw3 (List.mem_of_getElem? (i := 20) rfl) rfl), (gw3 (List.mem_of_getElem? (i := 21) rfl) rfl)⟩
def mi_J0_coder_7d493 : JMI := (yJ0_coder_7d493, cJ0_coder_7d493, 1, (some .byte), RJ0, 0, 0)
theorem ok_J0_coder_7d493 : j_OK mi_J0_coder_7d493 0 := ⟨(gw3 (List.mem_of_getElem? (i := 16) rfl) rfl), (gw1 (List.mem_of_getElem? (i := 13) rfl) rfl), by decide, by decide, by decide +kernel⟩
theorem ov_J0_coder_7d493 : j_OV mi_J0_coder_7d493 := ⟨(gw3 (List.mem_of_getElem? (i := 14) rfl) rfl), (gw3 (List.mem_of_getElem? (i := 15) rfl) rfl)⟩
def mi_J0_isLatin1_aae02 : JMI := (yJ0_isLatin1_aae02, cJ0_isLatin1_aae02, 1, (some .boolean), RJ0, 0, 0)
theorem ok_J0_isLatin1_aae02 : j_OK mi_J0_isLatin1_aae02 0 := ⟨(gw3 (List.mem_of_getElem? (i := 26) rfl) rfl), (gw1 (List.mem_of_getElem? (i := 13) rfl) rfl), by decide, by decide, by decide +kernel⟩
theorem ov_J0_isLatin1_aae02 : j_OV mi_J0_isLatin1_aae02 := ⟨(gw3 (List.mem_of_getElem? (i := 24) rfl) rfl), (gw3 (List.mem_of_getElem? (i := 25) rfl) rfl)⟩
def mi_J0_checkIndex_df160 : JMI := (yJ0_checkIndex_df160, cJ0_checkIndex_df160, 2, none, RJ0, 1, 22)
theorem ok_J0_checkIndex_df160 : j_OK mi_J0_checkIndex_df160 2 := ⟨(gw3 (List.mem_of_getElem? (i := 32) rfl) rfl), (gw1 (List.mem_of_getElem? (i := 13) rfl) rfl), by decide, by decide, by decide +kernel⟩
theorem os_J0_checkIndex_df160 : j_OS mi_J0_checkIndex_df160 := (gw3 (List.mem_of_getElem? (i := 31) rfl) rfl)
def mi_J1_charAt_3b067 : JMI := (yJ1_charAt_3b067, cJ1_charAt_3b067, 2, (some .char), RJ1, 2, 43)
theorem ok_J1_charAt_3b067 : j_OK mi_J1_charAt_3b067 2 := ⟨(gw3 (List.mem_of_getElem? (i := 29) rfl) rfl), (gw1 (List.mem_of_getElem? (i := 14) rfl) rfl), by decide, by decide, by decide +kernel⟩
theorem os_J1_charAt_3b067 : j_OS mi_J1_charAt_3b067 := (gw3 (List.mem_of_getElem? (i := 28) rfl) rfl)
def mi_J2_getChar_3b067 : JMI := (yJ2_getChar_3b067, cJ2_getChar_3b067, 2, (some .char), RJ2, 1, 20)
theorem ok_J2_getChar_3b067 : j_OK mi_J2_getChar_3b067 2 := ⟨(gw3 (List.mem_of_getElem? (i := 50) rfl) rfl), (gw1 (List.mem_of_getElem? (i := 16) rfl) rfl), by decide, by decide, by decide +kernel⟩
theorem os_J2_getChar_3b067 : j_OS mi_J2_getChar_3b067 := (gw3 (List.mem_of_getElem? (i := 49) rfl) rfl)
def mi_J2_length_9d52b : JMI := (yJ2_length_9d52b, cJ2_length_9d52b, 1, (some .int), RJ2, 0, 0)
theorem ok_J2_length_9d52b : j_OK mi_J2_length_9d52b 1 := ⟨(gw3 (List.mem_of_getElem? (i := 46) rfl) rfl), (gw1 (List.mem_of_getElem? (i := 16) rfl) rfl), by decide, by decide, by decide +kernel⟩
theorem os_J2_length_9d52b : j_OS mi_J2_length_9d52b := (gw3 (List.mem_of_getElem? (i := 45) rfl) rfl)
def mi_J2_charAt_3b067 : JMI := (yJ2_charAt_3b067, cJ2_charAt_3b067, 2, (some .char), RJ2, 3, 64)
theorem ok_J2_charAt_3b067 : j_OK mi_J2_charAt_3b067 2 := ⟨(gw3 (List.mem_of_getElem? (i := 40) rfl) rfl), (gw1 (List.mem_of_getElem? (i := 16) rfl) rfl), by decide, by decide, by decide +kernel⟩
theorem os_J2_charAt_3b067 : j_OS mi_J2_charAt_3b067 := (gw3 (List.mem_of_getElem? (i := 39) rfl) rfl)
def mi_J2_checkIndex_2214a : JMI := (yJ2_checkIndex_2214a, cJ2_checkIndex_2214a, 2, none, RJ2, 2, 43)
theorem ok_J2_checkIndex_2214a : j_OK mi_J2_checkIndex_2214a 2 := ⟨(gw3 (List.mem_of_getElem? (i := 43) rfl) rfl), (gw1 (List.mem_of_getElem? (i := 16) rfl) rfl), by decide, by decide, by decide +kernel⟩
theorem os_J2_checkIndex_2214a : j_OS mi_J2_checkIndex_2214a := (gw3 (List.mem_of_getElem? (i := 42) rfl) rfl)
def mi_J3_checkIndex_8e157 : JMI := (yJ3_checkIndex_8e157, cJ3_checkIndex_8e157, 3, (some .int), RJ3, 0, 0)
theorem ok_J3_checkIndex_8e157 : j_OK mi_J3_checkIndex_8e157 3 := ⟨(gw3 (List.mem_of_getElem? (i := 37) rfl) rfl), (gw1 (List.mem_of_getElem? (i := 15) rfl) rfl), by decide, by decide, by decide +kernel⟩
theorem os_J3_checkIndex_8e157 : j_OS mi_J3_checkIndex_8e157 := (gw3 (List.mem_of_getElem? (i := 36) rfl) rfl)
