/-! tier two: size -/
theorem q_not12 {p : Int32} (h : ∀ k, k < 13 → ¬ p = Int32.ofNat k) : f_X13_in p 0 12 = false := by
  cases e : f_X13_in p 0 12 with
  | false => rfl
  | true =>
    obtain ⟨i, hi, z⟩ := q_inr (n := 12) (by decide) e
    exact absurd z (h i hi)
theorem q_53 {K : q_K} (hK : q_Kok K) : lw_st_53 (q_R K) := by
  intro h p1 r hz
  obtain ⟨g, d⟩ := h
  have hr := r
  obtain ⟨a, b, hg, ht, -, -, hl⟩ := r
  have r2 : q_R K (g, j_sI d 57 0 0) := hr.sm hK ((q_sm.refl d).f57 rfl 0) (ht.sm ((q_sm.refl d).f57 rfl 0) (by rw [q_sI_o (by decide)]) (by rw [q_sI_a]; rfl) (by rw [q_sI_a]; rfl))
  rcases hl with ⟨hla, hn⟩ | ⟨t, h68, hla, hts, G, P, F, W, L, hL, hN, hS1, hS2⟩
  · have key : f_X13_sizen d p1 = (f_X11_size (d.1 1) (d.1 22) (d.1 24) (d.1 28) (d.1 a) (d.1 (a + 9)) p1, j_sI d 57 0 0) := by
      unfold f_X13_sizen f_X11_size
      by_cases c0 : p1 = 0
      · have e : d.1 a 0 = 0 := hn.1 0 (by decide)
        subst c0
        simp only [e, show ¬ ((0 : Int32) = 13) by decide, if_true, if_false, show f_X13_in 0 0 12 = true by decide]
      by_cases c1 : p1 = 1
      · have e : d.1 a 1 = 0 := hn.1 1 (by decide)
        subst c1
        simp only [e, show ¬ ((1 : Int32) = 13) by decide, show ¬ ((1 : Int32) = 0) by decide, if_true, if_false, show f_X13_in 1 0 12 = true by decide]
      by_cases c2 : p1 = 2
      · have e : d.1 a 2 = 0 := hn.1 2 (by decide)
        subst c2
        simp only [e, show ¬ ((2 : Int32) = 13) by decide, show ¬ ((2 : Int32) = 0) by decide, show ¬ ((2 : Int32) = 1) by decide, if_true, if_false, show f_X13_in 2 0 12 = true by decide]
      by_cases c3 : p1 = 3
      · have e : d.1 a 3 = 0 := hn.1 3 (by decide)
        subst c3
        simp only [e, show ¬ ((3 : Int32) = 13) by decide, show ¬ ((3 : Int32) = 0) by decide, show ¬ ((3 : Int32) = 1) by decide, show ¬ ((3 : Int32) = 2) by decide, if_true, if_false, show f_X13_in 3 0 12 = true by decide]
      by_cases c4 : p1 = 4
      · have e : d.1 a 4 = 0 := hn.1 4 (by decide)
        subst c4
        simp only [e, show ¬ ((4 : Int32) = 13) by decide, show ¬ ((4 : Int32) = 0) by decide, show ¬ ((4 : Int32) = 1) by decide, show ¬ ((4 : Int32) = 2) by decide, show ¬ ((4 : Int32) = 3) by decide, if_true, if_false, show f_X13_in 4 0 12 = true by decide]
      by_cases c5 : p1 = 5
      · have e : d.1 a 5 = 0 := hn.1 5 (by decide)
        subst c5
        simp only [e, show ¬ ((5 : Int32) = 13) by decide, show ¬ ((5 : Int32) = 0) by decide, show ¬ ((5 : Int32) = 1) by decide, show ¬ ((5 : Int32) = 2) by decide, show ¬ ((5 : Int32) = 3) by decide, show ¬ ((5 : Int32) = 4) by decide, if_true, if_false, show f_X13_in 5 0 12 = true by decide]
      by_cases c6 : p1 = 6
      · have e : d.1 (a + 9) 0 = 0 := hn.2.1 0 (by decide)
        subst c6
        simp only [e, show ¬ ((6 : Int32) = 13) by decide, show ¬ ((6 : Int32) = 0) by decide, show ¬ ((6 : Int32) = 1) by decide, show ¬ ((6 : Int32) = 2) by decide, show ¬ ((6 : Int32) = 3) by decide, show ¬ ((6 : Int32) = 4) by decide, show ¬ ((6 : Int32) = 5) by decide, if_true, if_false, show f_X13_in 6 0 12 = true by decide]
      by_cases c7 : p1 = 7
      · have e : d.1 (a + 9) 4 = 0 := hn.2.1 4 (by decide)
        subst c7
        simp only [e, show ¬ ((7 : Int32) = 13) by decide, show ¬ ((7 : Int32) = 0) by decide, show ¬ ((7 : Int32) = 1) by decide, show ¬ ((7 : Int32) = 2) by decide, show ¬ ((7 : Int32) = 3) by decide, show ¬ ((7 : Int32) = 4) by decide, show ¬ ((7 : Int32) = 5) by decide, show ¬ ((7 : Int32) = 6) by decide, if_true, if_false, show f_X13_in 7 0 12 = true by decide]
      by_cases c8 : p1 = 8
      · have e : d.1 (a + 9) 6 = 0 := hn.2.1 6 (by decide)
        subst c8
        simp only [e, show ¬ ((8 : Int32) = 13) by decide, show ¬ ((8 : Int32) = 0) by decide, show ¬ ((8 : Int32) = 1) by decide, show ¬ ((8 : Int32) = 2) by decide, show ¬ ((8 : Int32) = 3) by decide, show ¬ ((8 : Int32) = 4) by decide, show ¬ ((8 : Int32) = 5) by decide, show ¬ ((8 : Int32) = 6) by decide, show ¬ ((8 : Int32) = 7) by decide, if_true, if_false, show f_X13_in 8 0 12 = true by decide]
      by_cases c9 : p1 = 9
      · have e : d.1 22 2 = 0 := hn.2.2.1 2 (by decide)
        subst c9
        simp only [e, show ¬ ((9 : Int32) = 13) by decide, show ¬ ((9 : Int32) = 0) by decide, show ¬ ((9 : Int32) = 1) by decide, show ¬ ((9 : Int32) = 2) by decide, show ¬ ((9 : Int32) = 3) by decide, show ¬ ((9 : Int32) = 4) by decide, show ¬ ((9 : Int32) = 5) by decide, show ¬ ((9 : Int32) = 6) by decide, show ¬ ((9 : Int32) = 7) by decide, show ¬ ((9 : Int32) = 8) by decide, if_true, if_false, show f_X13_in 9 0 12 = true by decide]
      by_cases c10 : p1 = 10
      · have e : d.1 22 1 = 0 := hn.2.2.1 1 (by decide)
        subst c10
        simp only [e, show ¬ ((10 : Int32) = 13) by decide, show ¬ ((10 : Int32) = 0) by decide, show ¬ ((10 : Int32) = 1) by decide, show ¬ ((10 : Int32) = 2) by decide, show ¬ ((10 : Int32) = 3) by decide, show ¬ ((10 : Int32) = 4) by decide, show ¬ ((10 : Int32) = 5) by decide, show ¬ ((10 : Int32) = 6) by decide, show ¬ ((10 : Int32) = 7) by decide, show ¬ ((10 : Int32) = 8) by decide, show ¬ ((10 : Int32) = 9) by decide, if_true, if_false, show f_X13_in 10 0 12 = true by decide]
      by_cases c11 : p1 = 11
      · have e : d.1 24 4 = 0 := hn.2.2.2.1
        subst c11
        simp only [e, show ¬ ((11 : Int32) = 13) by decide, show ¬ ((11 : Int32) = 0) by decide, show ¬ ((11 : Int32) = 1) by decide, show ¬ ((11 : Int32) = 2) by decide, show ¬ ((11 : Int32) = 3) by decide, show ¬ ((11 : Int32) = 4) by decide, show ¬ ((11 : Int32) = 5) by decide, show ¬ ((11 : Int32) = 6) by decide, show ¬ ((11 : Int32) = 7) by decide, show ¬ ((11 : Int32) = 8) by decide, show ¬ ((11 : Int32) = 9) by decide, show ¬ ((11 : Int32) = 10) by decide, if_true, if_false, show f_X13_in 11 0 12 = true by decide]
      by_cases c12 : p1 = 12
      · have e : d.1 28 4 = 0 := hn.2.2.2.2
        subst c12
        simp only [e, show ¬ ((12 : Int32) = 13) by decide, show ¬ ((12 : Int32) = 0) by decide, show ¬ ((12 : Int32) = 1) by decide, show ¬ ((12 : Int32) = 2) by decide, show ¬ ((12 : Int32) = 3) by decide, show ¬ ((12 : Int32) = 4) by decide, show ¬ ((12 : Int32) = 5) by decide, show ¬ ((12 : Int32) = 6) by decide, show ¬ ((12 : Int32) = 7) by decide, show ¬ ((12 : Int32) = 8) by decide, show ¬ ((12 : Int32) = 9) by decide, show ¬ ((12 : Int32) = 10) by decide, show ¬ ((12 : Int32) = 11) by decide, if_true, if_false, show f_X13_in 12 0 12 = true by decide]
      by_cases c13 : p1 = 13
      · have e : d.1 57 6 = d.1 1 1 := ht.2.2.2.2.1
        subst c13
        simp only [e, show ¬ ((13 : Int32) = 0) by decide, show ¬ ((13 : Int32) = 1) by decide, show ¬ ((13 : Int32) = 2) by decide, show ¬ ((13 : Int32) = 3) by decide, show ¬ ((13 : Int32) = 4) by decide, show ¬ ((13 : Int32) = 5) by decide, show ¬ ((13 : Int32) = 6) by decide, show ¬ ((13 : Int32) = 7) by decide, show ¬ ((13 : Int32) = 8) by decide, show ¬ ((13 : Int32) = 9) by decide, show ¬ ((13 : Int32) = 10) by decide, show ¬ ((13 : Int32) = 11) by decide, show ¬ ((13 : Int32) = 12) by decide, if_true, if_false]
      have e := q_not12 (p := p1) (fun k hk => match k, hk with
        | 0, _ => c0
        | 1, _ => c1
        | 2, _ => c2
        | 3, _ => c3
        | 4, _ => c4
        | 5, _ => c5
        | 6, _ => c6
        | 7, _ => c7
        | 8, _ => c8
        | 9, _ => c9
        | 10, _ => c10
        | 11, _ => c11
        | 12, _ => c12
        | n + 13, h => absurd h (by omega))
      simp only [c0, c1, c2, c3, c4, c5, c6, c7, c8, c9, c10, c11, c12, c13, e, if_false, Bool.false_eq_true]
    exact q_stI hr (s_X11_size g d a p1 hg.2.1 hg.2.2.1 hg.2.2.2.2.1) (q_jT (s_X13_sizen g d p1 hg.2.1 hla) key) r2
  · have key : f_X13_size t d p1 = (f_X11_size (d.1 1) (d.1 22) (d.1 24) (d.1 28) (d.1 a) (d.1 (a + 9)) p1, j_sI d 57 0 0) := by
      have rt : (j_sI d 57 0 0).1 t = d.1 t := q_sI_o (by omega)
      unfold f_X13_size f_X11_size
      by_cases c0 : p1 = 0
      · have e : d.1 t 0 = d.1 a 0 := hL.1.2.2.2.2.2.2.1.1
        subst c0
        simp only [rt, e, show ¬ ((0 : Int32) = 13) by decide, if_true, if_false, show f_X13_in 0 0 12 = true by decide]
      by_cases c1 : p1 = 1
      · have e : d.1 t 1 = d.1 a 1 := hL.1.2.2.2.2.2.2.1.2.1
        subst c1
        simp only [rt, e, show ¬ ((1 : Int32) = 13) by decide, show ¬ ((1 : Int32) = 0) by decide, if_true, if_false, show f_X13_in 1 0 12 = true by decide]
      by_cases c2 : p1 = 2
      · have e : d.1 t 2 = d.1 a 2 := (hL.1.2.2.1.2.trans hL.1.2.2.1.1.symm)
        subst c2
        simp only [rt, e, show ¬ ((2 : Int32) = 13) by decide, show ¬ ((2 : Int32) = 0) by decide, show ¬ ((2 : Int32) = 1) by decide, if_true, if_false, show f_X13_in 2 0 12 = true by decide]
      by_cases c3 : p1 = 3
      · have e : d.1 t 3 = d.1 a 3 := (hL.1.2.2.2.1.2.trans hL.1.2.2.2.1.1.symm)
        subst c3
        simp only [rt, e, show ¬ ((3 : Int32) = 13) by decide, show ¬ ((3 : Int32) = 0) by decide, show ¬ ((3 : Int32) = 1) by decide, show ¬ ((3 : Int32) = 2) by decide, if_true, if_false, show f_X13_in 3 0 12 = true by decide]
      by_cases c4 : p1 = 4
      · have e : d.1 t 4 = d.1 a 4 := (hL.1.2.1.2.trans hL.1.2.1.1.symm)
        subst c4
        simp only [rt, e, show ¬ ((4 : Int32) = 13) by decide, show ¬ ((4 : Int32) = 0) by decide, show ¬ ((4 : Int32) = 1) by decide, show ¬ ((4 : Int32) = 2) by decide, show ¬ ((4 : Int32) = 3) by decide, if_true, if_false, show f_X13_in 4 0 12 = true by decide]
      by_cases c5 : p1 = 5
      · have e : d.1 t 5 = d.1 a 5 := hL.1.2.2.2.2.2.2.1.2.2.1
        subst c5
        simp only [rt, e, show ¬ ((5 : Int32) = 13) by decide, show ¬ ((5 : Int32) = 0) by decide, show ¬ ((5 : Int32) = 1) by decide, show ¬ ((5 : Int32) = 2) by decide, show ¬ ((5 : Int32) = 3) by decide, show ¬ ((5 : Int32) = 4) by decide, if_true, if_false, show f_X13_in 5 0 12 = true by decide]
      by_cases c6 : p1 = 6
      · have e : d.1 t 6 = d.1 (a + 9) 0 := (hL.1.2.2.2.2.1.2.trans hL.1.2.2.2.2.1.1.symm)
        subst c6
        simp only [rt, e, show ¬ ((6 : Int32) = 13) by decide, show ¬ ((6 : Int32) = 0) by decide, show ¬ ((6 : Int32) = 1) by decide, show ¬ ((6 : Int32) = 2) by decide, show ¬ ((6 : Int32) = 3) by decide, show ¬ ((6 : Int32) = 4) by decide, show ¬ ((6 : Int32) = 5) by decide, if_true, if_false, show f_X13_in 6 0 12 = true by decide]
      by_cases c7 : p1 = 7
      · have e : d.1 t 7 = d.1 (a + 9) 4 := (hL.1.2.2.2.2.2.1.2.trans hL.1.2.2.2.2.2.1.1.symm)
        subst c7
        simp only [rt, e, show ¬ ((7 : Int32) = 13) by decide, show ¬ ((7 : Int32) = 0) by decide, show ¬ ((7 : Int32) = 1) by decide, show ¬ ((7 : Int32) = 2) by decide, show ¬ ((7 : Int32) = 3) by decide, show ¬ ((7 : Int32) = 4) by decide, show ¬ ((7 : Int32) = 5) by decide, show ¬ ((7 : Int32) = 6) by decide, if_true, if_false, show f_X13_in 7 0 12 = true by decide]
      by_cases c8 : p1 = 8
      · have e : d.1 t 8 = d.1 (a + 9) 6 := hL.1.2.2.2.2.2.2.1.2.2.2
        subst c8
        simp only [rt, e, show ¬ ((8 : Int32) = 13) by decide, show ¬ ((8 : Int32) = 0) by decide, show ¬ ((8 : Int32) = 1) by decide, show ¬ ((8 : Int32) = 2) by decide, show ¬ ((8 : Int32) = 3) by decide, show ¬ ((8 : Int32) = 4) by decide, show ¬ ((8 : Int32) = 5) by decide, show ¬ ((8 : Int32) = 6) by decide, show ¬ ((8 : Int32) = 7) by decide, if_true, if_false, show f_X13_in 8 0 12 = true by decide]
      by_cases c9 : p1 = 9
      · have e : d.1 59 7 = d.1 22 2 := hN.2.2.2.1
        subst c9
        simp only [rt, e, show ¬ ((9 : Int32) = 13) by decide, show ¬ ((9 : Int32) = 0) by decide, show ¬ ((9 : Int32) = 1) by decide, show ¬ ((9 : Int32) = 2) by decide, show ¬ ((9 : Int32) = 3) by decide, show ¬ ((9 : Int32) = 4) by decide, show ¬ ((9 : Int32) = 5) by decide, show ¬ ((9 : Int32) = 6) by decide, show ¬ ((9 : Int32) = 7) by decide, show ¬ ((9 : Int32) = 8) by decide, if_true, if_false, show f_X13_in 9 0 12 = true by decide]
      by_cases c10 : p1 = 10
      · have e : d.1 59 8 = d.1 22 1 := hN.2.2.2.2.1
        subst c10
        simp only [rt, e, show ¬ ((10 : Int32) = 13) by decide, show ¬ ((10 : Int32) = 0) by decide, show ¬ ((10 : Int32) = 1) by decide, show ¬ ((10 : Int32) = 2) by decide, show ¬ ((10 : Int32) = 3) by decide, show ¬ ((10 : Int32) = 4) by decide, show ¬ ((10 : Int32) = 5) by decide, show ¬ ((10 : Int32) = 6) by decide, show ¬ ((10 : Int32) = 7) by decide, show ¬ ((10 : Int32) = 8) by decide, show ¬ ((10 : Int32) = 9) by decide, if_true, if_false, show f_X13_in 10 0 12 = true by decide]
      by_cases c11 : p1 = 11
      · have e : d.1 57 19 = d.1 24 4 := (by obtain ⟨c, _, s1, s2, _⟩ := hS1; exact s2.trans s1.symm)
        subst c11
        simp only [rt, e, show ¬ ((11 : Int32) = 13) by decide, show ¬ ((11 : Int32) = 0) by decide, show ¬ ((11 : Int32) = 1) by decide, show ¬ ((11 : Int32) = 2) by decide, show ¬ ((11 : Int32) = 3) by decide, show ¬ ((11 : Int32) = 4) by decide, show ¬ ((11 : Int32) = 5) by decide, show ¬ ((11 : Int32) = 6) by decide, show ¬ ((11 : Int32) = 7) by decide, show ¬ ((11 : Int32) = 8) by decide, show ¬ ((11 : Int32) = 9) by decide, show ¬ ((11 : Int32) = 10) by decide, if_true, if_false, show f_X13_in 11 0 12 = true by decide]
      by_cases c12 : p1 = 12
      · have e : d.1 57 20 = d.1 28 4 := (by obtain ⟨c, _, s1, s2, _⟩ := hS2; exact s2.trans s1.symm)
        subst c12
        simp only [rt, e, show ¬ ((12 : Int32) = 13) by decide, show ¬ ((12 : Int32) = 0) by decide, show ¬ ((12 : Int32) = 1) by decide, show ¬ ((12 : Int32) = 2) by decide, show ¬ ((12 : Int32) = 3) by decide, show ¬ ((12 : Int32) = 4) by decide, show ¬ ((12 : Int32) = 5) by decide, show ¬ ((12 : Int32) = 6) by decide, show ¬ ((12 : Int32) = 7) by decide, show ¬ ((12 : Int32) = 8) by decide, show ¬ ((12 : Int32) = 9) by decide, show ¬ ((12 : Int32) = 10) by decide, show ¬ ((12 : Int32) = 11) by decide, if_true, if_false, show f_X13_in 12 0 12 = true by decide]
      by_cases c13 : p1 = 13
      · have e : d.1 57 6 = d.1 1 1 := ht.2.2.2.2.1
        subst c13
        simp only [e, show ¬ ((13 : Int32) = 0) by decide, show ¬ ((13 : Int32) = 1) by decide, show ¬ ((13 : Int32) = 2) by decide, show ¬ ((13 : Int32) = 3) by decide, show ¬ ((13 : Int32) = 4) by decide, show ¬ ((13 : Int32) = 5) by decide, show ¬ ((13 : Int32) = 6) by decide, show ¬ ((13 : Int32) = 7) by decide, show ¬ ((13 : Int32) = 8) by decide, show ¬ ((13 : Int32) = 9) by decide, show ¬ ((13 : Int32) = 10) by decide, show ¬ ((13 : Int32) = 11) by decide, show ¬ ((13 : Int32) = 12) by decide, if_true, if_false]
      have e := q_not12 (p := p1) (fun k hk => match k, hk with
        | 0, _ => c0
        | 1, _ => c1
        | 2, _ => c2
        | 3, _ => c3
        | 4, _ => c4
        | 5, _ => c5
        | 6, _ => c6
        | 7, _ => c7
        | 8, _ => c8
        | 9, _ => c9
        | 10, _ => c10
        | 11, _ => c11
        | 12, _ => c12
        | n + 13, h => absurd h (by omega))
      simp only [c0, c1, c2, c3, c4, c5, c6, c7, c8, c9, c10, c11, c12, c13, e, if_false, Bool.false_eq_true]
    exact q_stI hr (s_X11_size g d a p1 hg.2.1 hg.2.2.1 hg.2.2.2.2.1) (q_jT (s_X13_size g d t p1 hg.2.1 hts hla) key) r2
