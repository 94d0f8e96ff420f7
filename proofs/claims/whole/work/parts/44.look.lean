/-! tier two: calls that look and answer -/
theorem q_stI {K : q_K} {mx mm : JMI} {ax am : List Value} {g : JG} {d d1 d2 : JD} {x : Int32} (r : q_R K (g, d)) (hX : JM mx 0 0 (g, d) ax (some (some (.int x), (g, d1)))) (hM : JM mm 0 0 (g, d1) am (some (some (.int x), (g, d2)))) (r2 : q_R K (g, d2)) : ∃ (h1 h2 : JH) (x : Int32), j_lw h1 ∧ h1.1.2.2.2 = (g, d).1.2.2.2 ∧ h2.1.2.2.2 = h1.1.2.2.2 ∧ JM mx 0 0 (g, d) ax (some (some (.int x), h1)) ∧ JM mm 0 0 h1 am (some (some (.int x), h2)) ∧ q_R K h2 ∧ h2.1.1 ≤ (g, d).1.1 + 15 :=
  have w : j_lw (g, d) := q_lw r
  ⟨(g, d1), (g, d2), x, w, rfl, rfl, hX, hM, r2, Nat.le_add_right _ _⟩
theorem q_stL {K : q_K} {mx mm : JMI} {ax am : List Value} {g : JG} {d d1 d2 : JD} {x : Int64} (r : q_R K (g, d)) (hX : JM mx 0 0 (g, d) ax (some (some (.long x), (g, d1)))) (hM : JM mm 0 0 (g, d1) am (some (some (.long x), (g, d2)))) (r2 : q_R K (g, d2)) : ∃ (h1 h2 : JH) (x : Int64), j_lw h1 ∧ h1.1.2.2.2 = (g, d).1.2.2.2 ∧ h2.1.2.2.2 = h1.1.2.2.2 ∧ JM mx 0 0 (g, d) ax (some (some (.long x), h1)) ∧ JM mm 0 0 h1 am (some (some (.long x), h2)) ∧ q_R K h2 ∧ h2.1.1 ≤ (g, d).1.1 + 15 :=
  have w : j_lw (g, d) := q_lw r
  ⟨(g, d1), (g, d2), x, w, rfl, rfl, hX, hM, r2, Nat.le_add_right _ _⟩
/-- forms of contracts at a known answer -/
theorem q_jT {m : JMI} {g : JG} {d d1 : JD} {av : List Value} {f : Int32 × JD} {x : Int32} (h : JM m 0 0 (g, d) av (some (some (.int f.1), (g, f.2)))) (e : f = (x, d1)) : JM m 0 0 (g, d) av (some (some (.int x), (g, d1))) := by rw [e] at h; exact h
theorem q_jP {m : JMI} {g : JG} {d d1 : JD} {av : List Value} {f : Option (Int32 × JD)} {x : Int32} (h : JM m 0 0 (g, d) av (f.bind (fun r9 => some (some (.int r9.1), (g, r9.2))))) (e : f = some (x, d1)) : JM m 0 0 (g, d) av (some (some (.int x), (g, d1))) := by rw [e] at h; exact h
theorem q_jTL {m : JMI} {g : JG} {d d1 : JD} {av : List Value} {f : Int64 × JD} {x : Int64} (h : JM m 0 0 (g, d) av (some (some (.long f.1), (g, f.2)))) (e : f = (x, d1)) : JM m 0 0 (g, d) av (some (some (.long x), (g, d1))) := by rw [e] at h; exact h
theorem q_jPL {m : JMI} {g : JG} {d d1 : JD} {av : List Value} {f : Option (Int64 × JD)} {x : Int64} (h : JM m 0 0 (g, d) av (f.bind (fun r9 => some (some (.long r9.1), (g, r9.2))))) (e : f = some (x, d1)) : JM m 0 0 (g, d) av (some (some (.long x), (g, d1))) := by rw [e] at h; exact h
theorem q_jTB {m : JMI} {g : JG} {d d1 : JD} {av : List Value} {f : Bool × JD} {x : Bool} (h : JM m 0 0 (g, d) av (some (some (.int (j_b f.1)), (g, f.2)))) (e : f = (x, d1)) : JM m 0 0 (g, d) av (some (some (.int (j_b x)), (g, d1))) := by rw [e] at h; exact h
theorem q_jPB {m : JMI} {g : JG} {d d1 : JD} {av : List Value} {f : Option (Bool × JD)} {x : Bool} (h : JM m 0 0 (g, d) av (f.bind (fun r9 => some (some (.int (j_b r9.1)), (g, r9.2))))) (e : f = some (x, d1)) : JM m 0 0 (g, d) av (some (some (.int (j_b x)), (g, d1))) := by rw [e] at h; exact h
/-- the heap at which the reference works: the class has told its trouble, 'thrown' is 0 -/
def q_dM (d : JD) (w : Int32) : JD := j_sI (j_sI d 0 11 w) 57 0 0
theorem q_dM_o {d : JD} {w : Int32} {b : Nat} (h0 : b ≠ 0) (h57 : b ≠ 57) : (q_dM d w).1 b = d.1 b := by
  unfold q_dM
  rw [q_sI_o h57, q_sI_o h0]
theorem q_dM_sm (d : JD) (w : Int32) : q_sm d (q_dM d w) := ((q_sm.refl d).f0 w).f57 rfl 0
theorem q_dM_11 (d : JD) (w : Int32) : (q_dM d w).1 0 11 = w := by
  unfold q_dM
  rw [q_sI_o (by decide), q_sI_a]
  rfl
theorem q_dM_57 {d : JD} {w : Int32} {k : Nat} (h : k ≠ 0) : (q_dM d w).1 57 k = d.1 57 k := by
  unfold q_dM
  rw [q_sI_a]
  show (if k = 0 then 0 else (j_sI d 0 11 w).1 57 k) = _
  rw [if_neg h, q_sI_o (by decide)]
theorem q_good (d : JD) (x : Int32) : f_X13_good d x = (x, q_fin d 0) := rfl
theorem q_ref (d : JD) (x : Int32) : f_X13_refused d x = (-1, q_fin d x) := rfl
theorem q_ansd (d : JD) {w : Int32} (hw : w ≠ 4) : q_ans d (q_fin (q_dM d w) w) w := q_fin_ans (q_dM_sm d w) (q_dM_11 d w) hw
/-- works -/
theorem q_wk (d : JD) (w : Int32) : ∃ d3 : JD, f_X13_works (q_dM d w) = some d3 ∧ q_sm d d3 ∧ d3.1 0 11 = w ∧ (∀ b, b ≠ 0 → b ≠ 57 → b ≠ 60 → d3.1 b = d.1 b) ∧ (∀ k, k ≠ 0 → d3.1 57 k = d.1 57 k) ∧ ∀ k, k < 6 → d3.1 60 k = d.1 59 k := by
  refine ⟨_, q_works _, (q_dM_sm d w).row rfl (by decide) (by decide) _, ?_, fun b h0 h57 h60 => ?_, fun k hk => ?_, fun k hk => ?_⟩
  · rw [q_row_o (by decide)]; exact q_dM_11 d w
  · rw [q_row_o h60]; exact q_dM_o h0 h57
  · rw [q_row_o (by decide)]; exact q_dM_57 hk
  · rw [q_row_a]
    show (if k < 6 then _ else _) = _
    rw [if_pos hk, q_dM_o (by decide) (by decide)]
theorem q_lying {G : Nat} {A T : Nat → Nat → Int32} {w s y : Int32} {v : Nat → Int32} (h : q_NR G A T w s y v) (h6 : A 0 6 = q_cod (T 6)) (hd : q_dg (T 6)) : f_X3_hooksLying (A 0) w = v 6 := by
  obtain ⟨⟨hv, -⟩, hw, ⟨n, H, e1, e2, e3, e4⟩, -⟩ := h
  unfold f_X3_hooksLying
  rw [h6, hw, q_hooks hd, q_hooks hv, e3, e1, ← Int32.ofNat_add, ← e4, Int32.ofNat_add]
  exact Int32.add_sub_cancel _ _
section QS
variable {K : q_K}
theorem q_54 (hK : q_Kok K) : lw_st_54 (q_R K) := by
  intro h r hz
  obtain ⟨g, d⟩ := h
  have hr := r
  obtain ⟨a, b, hg, ht, -⟩ := r
  have e : f_X13_trouble d = (d.1 57 1, j_sI d 57 0 0) := rfl
  exact q_stI hr (s_X11_trouble g d hg.2.1) (by rw [show f_X11_trouble (d.1 0) = d.1 57 1 from ht.1]; exact q_jT (s_X13_trouble g d hg.2.1) e) (hr.sm hK ((q_sm.refl d).f57 rfl 0) (ht.sm ((q_sm.refl d).f57 rfl 0) (by rw [q_sI_o (by decide)]) (by rw [q_sI_a]; rfl) (by rw [q_sI_a]; rfl)))
theorem q_2 (hK : q_Kok K) : lw_st_2 (q_R K) := by
  intro h r hz
  obtain ⟨g, d⟩ := h
  have hr := r
  obtain ⟨a, b, hg, ht, -⟩ := r
  have e : f_X13_fault d = (d.1 57 12, j_sI d 57 0 0) := rfl
  exact q_stI hr (s_X11_fault g d hg.2.1) (by rw [show f_X11_fault (d.1 0) = d.1 57 12 from ht.2.1]; exact q_jT (s_X13_fault g d hg.2.1) e) (hr.sm hK ((q_sm.refl d).f57 rfl 0) (ht.sm ((q_sm.refl d).f57 rfl 0) (by rw [q_sI_o (by decide)]) (by rw [q_sI_a]; rfl) (by rw [q_sI_a]; rfl)))
theorem q_3 (hK : q_Kok K) : lw_st_3 (q_R K) := by
  intro h r hz
  obtain ⟨g, d⟩ := h
  have hr := r
  obtain ⟨a, b, hg, ht, -⟩ := r
  have e : f_X13_where d = (d.1 57 2, j_sI d 57 0 0) := rfl
  have e1 : f_X11_where (d.1 0) = d.1 57 2 := by rw [← ht.2.2.1]; rfl
  exact q_stI hr (s_X11_where g d hg.2.1) (by rw [e1]; exact q_jT (s_X13_where g d hg.2.1) e) (hr.sm hK ((q_sm.refl d).f57 rfl 0) (ht.sm ((q_sm.refl d).f57 rfl 0) (by rw [q_sI_o (by decide)]) (by rw [q_sI_a]; rfl) (by rw [q_sI_a]; rfl)))
end QS
