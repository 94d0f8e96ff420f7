theorem q_4 {K : q_K} (hK : q_Kok K) : lw_st_4 (q_R K) := by
  intro h p1 p2 r hz
  obtain ⟨g, d⟩ := h
  have hr := r
  obtain ⟨a, b, hg, ht, -, -, hl⟩ := r
  rcases hl with ⟨hla, hn⟩ | ⟨t, h68, hla, hts, G, P, F, W, L, hL, hN, -⟩
  · have e0 := q_isg0 hn p1
    have e1 : f_X11_gate a d p1 p2 = (-1, j_sI d 0 11 1) := by
      unfold f_X11_gate j_let
      simp only [e0, q_xre, Bool.false_eq_true, if_false]
    have e2 : f_X13_gaten (j_sI d 0 11 1) p1 p2 = (-1, q_fin (q_dM d 1) 1) := by
      unfold f_X13_gaten j_let
      simp only [q_dMe, q_ref]
    exact q_stI hr (q_jT (s_X11_gate g d a p1 p2 hg.2.1 hg.2.2.1 hg.2.2.2.2.1) e1) (q_jT (s_X13_gaten g _ p1 p2 hg.2.1 hla) e2) (hr.ans hK (q_ansd d (by decide)))
  · have key : ∃ (x w : Int32) (d2 : JD), f_X11_gate a d p1 p2 = (x, j_sI d 0 11 w) ∧ f_X13_gate t (j_sI d 0 11 w) p1 p2 = some (x, d2) ∧ q_ans d d2 w := by
      have hG := hL.1.1.2.1
      have eT : ∀ w, (q_dM d w).1 t = d.1 t := fun w => q_dM_o (by omega) (by omega)
      have eg : ∀ w, f_X13_isGate ((q_dM d w).1 t) p1 = f_X11_isGate (d.1 a) p1 := fun w => by rw [eT]; exact q_isg (A := q_rows d a) (T := q_rows d t) hL p1
      by_cases h1 : f_X11_isGate (d.1 a) p1 = true
      · obtain ⟨i, hi, rfl⟩ := q_isg' (A := q_rows d a) (T := q_rows d t) hL h1
        by_cases h2 : f_X13_in p2 0 5 = true
        · obtain ⟨d3, k1, k2, k3, k4, k5, k6⟩ := q_wk d 0
          have kt : ∀ j, d3.1 (t + j) = d.1 (t + j) := fun j => k4 _ (by omega) (by omega) (by omega)
          have k59 := k4 59 (by decide) (by decide) (by decide)
          have hx : q_dg (d3.1 60) := fun k hk => by rw [k6 k hk]; exact hN.1.1 k hk
          have ho6 : ¬ j_out (Int32.ofNat i) 6 := q_in (by omega) (by decide)
          have ho9 : ¬ j_out (Int32.ofNat i) 9 := q_in (by omega) (by decide)
          have hni : (Int32.ofNat i).toNatClampNeg = i := q_n (by omega)
          have row := hL.2.1.2.1 i hi
          have fin : q_ans d (q_fin d3 0) 0 := q_fin_ans k2 k3 (by decide)
          rcases q_in05.mp h2 with rfl | rfl | rfl | rfl | rfl | rfl
          · refine ⟨d.1 (t + 3) i, 0, q_fin d3 0, ?_, ?_, fin⟩
            · have e : f_X11_at (d.1 (a + 3)) 6 (Int32.ofNat i) = d.1 (t + 3) i := (q_at (by omega) (by decide)).trans row.1.symm
              unfold f_X11_gate j_let
              simp only [h1, e, q_xan, if_true]
            · unfold f_X13_gate j_let
              simp only [q_dMe, eg, h1, h2, k1, Option.bind_some, if_true, ho6, if_false, hni, kt, q_good]
          · refine ⟨d.1 (t + 4) i, 0, q_fin d3 0, ?_, ?_, fin⟩
            · have e : f_X11_at (d.1 (a + 4)) 6 (Int32.ofNat i) = d.1 (t + 4) i := (q_at (by omega) (by decide)).trans row.2.1.symm
              unfold f_X11_gate j_let
              simp only [h1, e, q_xan, if_true, show ¬ ((1 : Int32) = 0) by decide, if_false]
            · unfold f_X13_gate j_let
              simp only [q_dMe, eg, h1, h2, k1, Option.bind_some, if_true, ho6, if_false, hni, kt, q_good, show ¬ ((1 : Int32) = 0) by decide]
          · refine ⟨d.1 (t + 5) i, 0, q_fin d3 0, ?_, ?_, fin⟩
            · have e : f_X11_at (d.1 (a + 5)) 6 (Int32.ofNat i) = d.1 (t + 5) i := (q_at (by omega) (by decide)).trans row.2.2.1.symm
              unfold f_X11_gate j_let
              simp only [h1, e, q_xan, if_true, show ¬ ((2 : Int32) = 0) by decide, show ¬ ((2 : Int32) = 1) by decide, if_false]
            · unfold f_X13_gate j_let
              simp only [q_dMe, eg, h1, h2, k1, Option.bind_some, if_true, ho6, if_false, hni, kt, q_good, show ¬ ((2 : Int32) = 0) by decide, show ¬ ((2 : Int32) = 1) by decide]
          · refine ⟨d.1 59 i, 0, q_fin d3 0, ?_, ?_, fin⟩
            · have e : f_X10_hungAt (d.1 22 0) (Int32.ofNat i) = d.1 59 i := by rw [hN.2.1]; exact q_hung hN.1.1 (by omega)
              unfold f_X11_gate j_let
              simp only [h1, e, q_xan, if_true, show ¬ ((3 : Int32) = 0) by decide, show ¬ ((3 : Int32) = 1) by decide, show ¬ ((3 : Int32) = 2) by decide, if_false]
            · unfold f_X13_gate j_let
              simp only [q_dMe, eg, h1, h2, k1, Option.bind_some, if_true, ho9, if_false, hni, k59, q_good, show ¬ ((3 : Int32) = 0) by decide, show ¬ ((3 : Int32) = 1) by decide, show ¬ ((3 : Int32) = 2) by decide]
          · refine ⟨d.1 (a + 7) (4 * i + (d.1 59 i).toNatClampNeg), 0, q_fin d3 0, ?_, ?_, fin⟩
            · have e : f_X3_ownersIn (d.1 (a + 7)) (d.1 22 0) (Int32.ofNat i) = d.1 (a + 7) (4 * i + (d.1 59 i).toNatClampNeg) := by rw [hN.2.1]; exact q_own hN.1.1 (by omega) _
              unfold f_X11_gate j_let
              simp only [h1, e, q_xan, if_true, show ¬ ((4 : Int32) = 0) by decide, show ¬ ((4 : Int32) = 1) by decide, show ¬ ((4 : Int32) = 2) by decide, show ¬ ((4 : Int32) = 3) by decide, if_false]
            · have e : f_X13_owners (d3.1 60) (d.1 (t + 1)) (d.1 (t + 2)) (d.1 (t + 3)) (d.1 (t + 4)) (Int32.ofNat i) = some (d.1 (a + 7) (4 * i + (d.1 59 i).toNatClampNeg)) := by
                rw [← k6 i (by omega)]
                exact q_owners (A := q_rows d a) (T := q_rows d t) hL hx hi
              unfold f_X13_gate j_let
              simp only [q_dMe, eg, h1, h2, k1, Option.bind_some, if_true, if_false, kt, e, q_good, show ¬ ((4 : Int32) = 0) by decide, show ¬ ((4 : Int32) = 1) by decide, show ¬ ((4 : Int32) = 2) by decide, show ¬ ((4 : Int32) = 3) by decide]
          · refine ⟨d.1 (t + 7) i, 0, q_fin d3 0, ?_, ?_, fin⟩
            · have e : f_X11_at (d.1 (a + 6)) 6 (Int32.ofNat i) = d.1 (t + 7) i := (q_at (by omega) (by decide)).trans row.2.2.2.1.symm
              unfold f_X11_gate j_let
              simp only [h1, e, q_xan, if_true, show ¬ ((5 : Int32) = 0) by decide, show ¬ ((5 : Int32) = 1) by decide, show ¬ ((5 : Int32) = 2) by decide, show ¬ ((5 : Int32) = 3) by decide, show ¬ ((5 : Int32) = 4) by decide, if_false]
            · unfold f_X13_gate j_let
              simp only [q_dMe, eg, h1, h2, k1, Option.bind_some, if_true, ho6, if_false, hni, kt, q_good, show ¬ ((5 : Int32) = 0) by decide, show ¬ ((5 : Int32) = 1) by decide, show ¬ ((5 : Int32) = 2) by decide, show ¬ ((5 : Int32) = 3) by decide, show ¬ ((5 : Int32) = 4) by decide]
        · refine ⟨-1, 1, q_fin (q_dM d 1) 1, ?_, ?_, q_ansd d (by decide)⟩
          · have hne : ¬ (p2 = 0 ∨ p2 = 1 ∨ p2 = 2 ∨ p2 = 3 ∨ p2 = 4 ∨ p2 = 5) := fun z => h2 (q_in05.mpr z)
            simp only [not_or] at hne
            unfold f_X11_gate j_let
            simp only [h1, hne, q_xre, if_true, if_false]
          · unfold f_X13_gate f_X13_gate_j22 j_let
            simp only [q_dMe, eg, h1, h2, if_true, if_false, q_ref, Bool.false_eq_true]
      · refine ⟨-1, 1, q_fin (q_dM d 1) 1, ?_, ?_, q_ansd d (by decide)⟩
        · unfold f_X11_gate j_let
          simp only [h1, q_xre, if_false, Bool.false_eq_true]
        · unfold f_X13_gate f_X13_gate_j22 j_let
          simp only [q_dMe, eg, h1, if_false, q_ref, Bool.false_eq_true]
    obtain ⟨x, w, d2, e1, e2, e3⟩ := key
    exact q_stI hr (q_jT (s_X11_gate g d a p1 p2 hg.2.1 hg.2.2.1 hg.2.2.2.2.1) e1) (q_jP (s_X13_gate g _ t p1 p2 hg.2.1 hts hla) e2) (hr.ans hK e3)
