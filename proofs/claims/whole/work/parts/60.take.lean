theorem q_45 {K : q_K} (hK : q_Kok K) : lw_st_45 (q_R K) := by
  intro h p1 r hz
  obtain ⟨g, d⟩ := h
  have hr := r
  obtain ⟨a, b, hg, ht, hrm, -, hl⟩ := r
  rcases hl with ⟨hla, hn⟩ | ⟨t, h68, hla, hts, G, P, F, W, L, hL, hN, hS1, hS2⟩
  · obtain ⟨x, w, d2, e1, e2, e3⟩ := qn_take (a := a) (d := d) hn p1
    exact q_stI hr (q_jPB (s_X11_take g d a p1 hg.2.1 hg.2.2.1 hg.2.2.2.2.1) e1) (q_jTB (s_X13_taken g _ p1 hg.2.1 hla) e2) (hr.ans hK e3)
  · have hG := hL.1.1.2.1
    have eT : ∀ w, (q_dM d w).1 t = d.1 t := fun w => q_dM_o (by omega) (by omega)
    have eT3 : ∀ w, (q_dM d w).1 (t + 3) = d.1 (t + 3) := fun w => q_dM_o (by omega) (by omega)
    have eg : f_X13_isGate (d.1 t) p1 = f_X11_isGate (d.1 a) p1 := q_isg (A := q_rows d a) (T := q_rows d t) hL p1
    have e59 : ∀ w, (j_sI d 0 11 w).1 59 = d.1 59 := fun w => q_sI_o (by decide)
    have refuse : ∀ w : Int32, w ≠ 4 → f_X11_take a d p1 = some (false, j_sI d 0 11 w) → f_X13_take t (j_sI d 0 11 w) p1 = some (false, q_fin (q_dM d w) w) → ∃ (h1 h2 : JH) (x : Int32), j_lw h1 ∧ h1.1.2.2.2 = (g, d).1.2.2.2 ∧ h2.1.2.2.2 = h1.1.2.2.2 ∧ JM mi_X11_take 0 0 (g, d) [.ref 0, .int p1] (some (some (.int x), h1)) ∧ JM mi_X13_take 0 0 h1 [.ref 57, .int p1] (some (some (.int x), h2)) ∧ q_R K h2 ∧ h2.1.1 ≤ (g, d).1.1 + 15 := fun w hw e1 e2 => q_stI hr (q_jPB (s_X11_take g d a p1 hg.2.1 hg.2.2.1 hg.2.2.2.2.1) e1) (q_jPB (s_X13_take g _ t p1 hg.2.1 hts hla) e2) (hr.ans hK (q_ansd d hw))
    by_cases h1 : f_X11_isGate (d.1 a) p1 = true
    · obtain ⟨i, hi, rfl⟩ := q_isg' (A := q_rows d a) (T := q_rows d t) hL h1
      have ho9 : ¬ j_out (Int32.ofNat i) 9 := q_in (by omega) (by decide)
      have ho6 : ¬ j_out (Int32.ofNat i) 6 := q_in (by omega) (by decide)
      have hni : (Int32.ofNat i).toNatClampNeg = i := q_n (by omega)
      have hv : q_dg (d.1 59) := hN.1.1
      have hu : f_X10_hungAt (d.1 22 0) (Int32.ofNat i) = d.1 59 i := by rw [hN.2.1]; exact q_hung hv (by omega)
      obtain ⟨n, hn12, h6⟩ := q_ground hN
      have wayc : d.1 22 0 = q_cod (d.1 59) := hN.2.1
      by_cases h2 : d.1 59 i = 0
      · refine refuse 5 (by decide) ?_ ?_
        · unfold f_X11_take  f_X11_mayAlter j_let
          simp only [h1, hu, h2, if_true, if_false, q_xde, Bool.false_eq_true]
        · unfold f_X13_take f_X13_refusesHung j_let
          simp only [q_dMe, eT, eg, h1, if_true, ho9, if_false, hni, e59, h2, Option.bind_some, show ¬ ((5 : Int32) ≤ 0) by decide, q_mde]
      · have gd' : f_X3_isGuarded (d.1 a) (Int32.ofNat i) = true ↔ d.1 (t + 3) i = 2 := q_grd (A := q_rows d a) (T := q_rows d t) hL hi
        by_cases h3 : d.1 (t + 3) i = 2
        · have g3 := gd'.mpr h3
          refine refuse 6 (by decide) ?_ ?_
          · unfold f_X11_take  f_X11_mayAlter f_X11_act f_X3_wayAfter j_let
            simp only [h1, hu, h2, g3, if_true, if_false, q_xde, Option.bind_some, Bool.false_eq_true]
          · unfold f_X13_take f_X13_refusesHung j_let
            simp only [q_dMe, eT, eT3, eg, h1, if_true, ho9, ho6, if_false, hni, e59, h2, h3, Option.bind_some, show ¬ ((6 : Int32) ≤ 0) by decide, q_mde]
        · have g3 : f_X3_isGuarded (d.1 a) (Int32.ofNat i) = false := by
            cases z : f_X3_isGuarded (d.1 a) (Int32.ofNat i) with
            | false => rfl
            | true => exact absurd (gd'.mp z) h3
          obtain ⟨k, hk⟩ : ∃ k : Int32, k = 0 := ⟨_, rfl⟩
          have hk' : k = 0 ∨ k = 1 ∨ k = 2 := Or.inl hk
          have hx2 : q_dg (upd (d.1 59) i k) := by
            intro j hj
            by_cases c : j = i
            · rw [c, q_upd_a]; exact hk'
            · rw [q_upd_o c]; exact hv j hj
          have wA : f_X3_wayAfter (d.1 a) (d.1 22 0) 2 (Int32.ofNat i) = q_cod (upd (d.1 59) i k) := by
            have w1 := q_with hv (g := i) (by omega) (h := 0) (Or.inl rfl)
            rw [← wayc] at w1
            rw [hk]
            unfold f_X3_wayAfter f_X3_wayAfter_j93
            simp only [g3, hu, h2, if_false, if_true, Bool.false_eq_true, show ¬ ((2 : Int32) = 0) by decide, show ¬ ((2 : Int32) = 1) by decide, show ¬ ((2 : Int32) = 3) by decide, w1]
          have hcn : (n + 1) + q_cnt (upd (d.1 59) i k) 6 = n + q_cnt (d.1 59) 6 := by
            have := q_cnt_dn (x := d.1 59) (g := i) h2 (n := 6) (by omega)
            rw [hk]
            omega
          have hN' := q_NRupd hN hG hi h3 hk' h6 hn12 hcn (v' := upd (upd (d.1 59) i k) 6 (Int32.ofNat (n + 1))) (fun j hj => by
            unfold upd
            by_cases c6 : j = 6
            · rw [if_pos c6, if_neg (by omega), if_pos c6]
            · rw [if_neg c6]
              by_cases ci : j = i
              · rw [if_pos ci, if_pos ci]
              · rw [if_neg ci, if_neg ci, if_neg c6])
          obtain ⟨dc, dR, f1, f2, f3, f4, f5, f6⟩ := q_act_go hK hr hg hrm h68 hla hts hL hN hS1 hS2 (q_codne hx2) hN'
          have c59 : dc.1 59 = d.1 59 := f5 59 (by decide) (by decide) (by decide) (by decide) (by decide) (by decide)
          have ct : ∀ j, (j_sI dc 57 0 0).1 (t + j) = d.1 (t + j) := fun j => (q_sI_o (by omega)).trans (f5 (t + j) (by omega) (by omega) (by omega) (by omega) (by omega) (by omega))
          have ct0 : (j_sI dc 57 0 0).1 t = d.1 t := ct 0
          have eg2 : f_X13_isGate (d.1 t) (Int32.ofNat i) = true := eg.trans h1
          have e1 : f_X11_take a d (Int32.ofNat i) = some (true, dc) := by
            unfold f_X11_take f_X11_mayAlter j_let
            simp only [h1, hu, h2, wA, f1, if_true, if_false, Option.bind_some]
          have r6 : (j_sI dR 59 i 0).1 59 6 = Int32.ofNat n := by rw [q_sI_a, q_upd_o (by omega), f3]; exact h6
          obtain ⟨dm, hdm⟩ : ∃ dm, dm = j_sI (j_sI dR 59 i 0) 59 6 (Int32.ofNat (n + 1)) := ⟨_, rfl⟩
          have e2 : f_X13_take t dc (Int32.ofNat i) = some (true, q_fin dm 0) := by
            unfold f_X13_take f_X13_refusesHung j_let
            simp only [ct0, ct, c59, eg2, if_true, ho9, ho6, if_false, hni, h2, h3, f2, Option.bind_some, show (0 : Int32) ≤ 0 by decide, q_mgr]
            rw [r6, q_s, ← hdm]
          have r2 := f6 dm (fun b hb => by rw [hdm, q_sI_o hb, q_sI_o hb]) (fun j hj => by rw [hdm, q_sI_a, q_sI_a, f3, hk])
          exact q_stI hr (q_jPB (s_X11_take g d a _ hg.2.1 hg.2.2.1 hg.2.2.2.2.1) e1) (q_jPB (s_X13_take g _ t _ hg.2.1 hts hla) e2) r2
    · refine refuse 1 (by decide) ?_ ?_
      · unfold f_X11_take  f_X11_mayAlter j_let
        simp only [h1, if_false, q_xde, Bool.false_eq_true, if_true]
      · unfold f_X13_take f_X13_refusesHung j_let
        simp only [q_dMe, eT, eg, h1, if_false, Bool.false_eq_true, Option.bind_some, show ¬ ((1 : Int32) ≤ 0) by decide, q_mde]
theorem q_46 {K : q_K} (hK : q_Kok K) : lw_st_46 (q_R K) := by
  intro h p1 r hz
  obtain ⟨g, d⟩ := h
  have hr := r
  obtain ⟨a, b, hg, ht, hrm, -, hl⟩ := r
  rcases hl with ⟨hla, hn⟩ | ⟨t, h68, hla, hts, G, P, F, W, L, hL, hN, hS1, hS2⟩
  · obtain ⟨x, w, d2, e1, e2, e3⟩ := qn_turnOver (a := a) (d := d) hn p1
    exact q_stI hr (q_jP (s_X11_turnOver g d a p1 hg.2.1 hg.2.2.1 hg.2.2.2.2.1) e1) (q_jT (s_X13_turnOvern g _ p1 hg.2.1 hla) e2) (hr.ans hK e3)
  · have hG := hL.1.1.2.1
    have eT : ∀ w, (q_dM d w).1 t = d.1 t := fun w => q_dM_o (by omega) (by omega)
    have eT3 : ∀ w, (q_dM d w).1 (t + 3) = d.1 (t + 3) := fun w => q_dM_o (by omega) (by omega)
    have eg : f_X13_isGate (d.1 t) p1 = f_X11_isGate (d.1 a) p1 := q_isg (A := q_rows d a) (T := q_rows d t) hL p1
    have e59 : ∀ w, (j_sI d 0 11 w).1 59 = d.1 59 := fun w => q_sI_o (by decide)
    have refuse : ∀ w : Int32, w ≠ 4 → f_X11_turnOver a d p1 = some (-1, j_sI d 0 11 w) → f_X13_turnOver t (j_sI d 0 11 w) p1 = some (-1, q_fin (q_dM d w) w) → ∃ (h1 h2 : JH) (x : Int32), j_lw h1 ∧ h1.1.2.2.2 = (g, d).1.2.2.2 ∧ h2.1.2.2.2 = h1.1.2.2.2 ∧ JM mi_X11_turnOver 0 0 (g, d) [.ref 0, .int p1] (some (some (.int x), h1)) ∧ JM mi_X13_turnOver 0 0 h1 [.ref 57, .int p1] (some (some (.int x), h2)) ∧ q_R K h2 ∧ h2.1.1 ≤ (g, d).1.1 + 15 := fun w hw e1 e2 => q_stI hr (q_jP (s_X11_turnOver g d a p1 hg.2.1 hg.2.2.1 hg.2.2.2.2.1) e1) (q_jP (s_X13_turnOver g _ t p1 hg.2.1 hts hla) e2) (hr.ans hK (q_ansd d hw))
    by_cases h1 : f_X11_isGate (d.1 a) p1 = true
    · obtain ⟨i, hi, rfl⟩ := q_isg' (A := q_rows d a) (T := q_rows d t) hL h1
      have ho9 : ¬ j_out (Int32.ofNat i) 9 := q_in (by omega) (by decide)
      have ho6 : ¬ j_out (Int32.ofNat i) 6 := q_in (by omega) (by decide)
      have hni : (Int32.ofNat i).toNatClampNeg = i := q_n (by omega)
      have hv : q_dg (d.1 59) := hN.1.1
      have hu : f_X10_hungAt (d.1 22 0) (Int32.ofNat i) = d.1 59 i := by rw [hN.2.1]; exact q_hung hv (by omega)
      obtain ⟨n, hn12, h6⟩ := q_ground hN
      have wayc : d.1 22 0 = q_cod (d.1 59) := hN.2.1
      by_cases h2 : d.1 59 i = 0
      · refine refuse 5 (by decide) ?_ ?_
        · unfold f_X11_turnOver f_X11_turnOver_j35 f_X11_turnOver_j36 f_X11_mayAlter j_let
          simp only [h1, hu, h2, if_true, if_false, q_xde, Bool.false_eq_true]
        · unfold f_X13_turnOver f_X13_refusesHung j_let
          simp only [q_dMe, eT, eg, h1, if_true, ho9, if_false, hni, e59, h2, Option.bind_some, show ¬ ((5 : Int32) ≤ 0) by decide, q_ref]
      · have gd' : f_X3_isGuarded (d.1 a) (Int32.ofNat i) = true ↔ d.1 (t + 3) i = 2 := q_grd (A := q_rows d a) (T := q_rows d t) hL hi
        by_cases h3 : d.1 (t + 3) i = 2
        · have g3 := gd'.mpr h3
          refine refuse 6 (by decide) ?_ ?_
          · unfold f_X11_turnOver f_X11_turnOver_j35 f_X11_turnOver_j36 f_X11_mayAlter f_X11_act f_X3_wayAfter j_let
            simp only [h1, hu, h2, g3, if_true, if_false, q_xde, Option.bind_some, Bool.false_eq_true]
          · unfold f_X13_turnOver f_X13_refusesHung j_let
            simp only [q_dMe, eT, eT3, eg, h1, if_true, ho9, ho6, if_false, hni, e59, h2, h3, Option.bind_some, show ¬ ((6 : Int32) ≤ 0) by decide, q_ref]
        · have g3 : f_X3_isGuarded (d.1 a) (Int32.ofNat i) = false := by
            cases z : f_X3_isGuarded (d.1 a) (Int32.ofNat i) with
            | false => rfl
            | true => exact absurd (gd'.mp z) h3
          obtain ⟨k, hk⟩ : ∃ k : Int32, k = (3 - d.1 59 i) := ⟨_, rfl⟩
          have hk' : k = 0 ∨ k = 1 ∨ k = 2 := by
            rw [hk]
            rcases hv i (by omega) with z | z | z
            · exact absurd z h2
            · rw [z]; exact Or.inr (Or.inr rfl)
            · rw [z]; exact Or.inr (Or.inl rfl)
          have hk0 : k ≠ 0 := by
            rw [hk]
            rcases hv i (by omega) with z | z | z
            · exact absurd z h2
            · rw [z]; decide
            · rw [z]; decide
          have hkt : f_X3_turned (d.1 59 i) = k := by
            rw [hk]
            unfold f_X3_turned
            rcases hv i (by omega) with z | z | z
            · exact absurd z h2
            · rw [z]; rfl
            · rw [z]; rfl
          have hx2 : q_dg (upd (d.1 59) i k) := by
            intro j hj
            by_cases c : j = i
            · rw [c, q_upd_a]; exact hk'
            · rw [q_upd_o c]; exact hv j hj
          have wA : f_X3_wayAfter (d.1 a) (d.1 22 0) 3 (Int32.ofNat i) = q_cod (upd (d.1 59) i k) := by
            have w1 := q_with hv (g := i) (by omega) hk'
            rw [← wayc] at w1
            unfold f_X3_wayAfter f_X3_wayAfter_j93
            simp only [g3, hu, h2, if_false, if_true, Bool.false_eq_true, show ¬ ((3 : Int32) = 0) by decide, show ¬ ((3 : Int32) = 1) by decide, hkt, w1]
          have hcn : n + q_cnt (upd (d.1 59) i k) 6 = n + q_cnt (d.1 59) 6 := by rw [q_cnt_eq h2 hk0 6]
          have hN' := q_NRupd hN hG hi h3 hk' h6 hn12 hcn (v' := upd (d.1 59) i k) (fun j hj => by
            unfold upd
            by_cases ci : j = i
            · rw [if_pos ci, if_pos ci]
            · rw [if_neg ci, if_neg ci]
              by_cases c6 : j = 6
              · rw [if_pos c6, c6]; exact h6
              · rw [if_neg c6])
          obtain ⟨dc, dR, f1, f2, f3, f4, f5, f6⟩ := q_act_go hK hr hg hrm h68 hla hts hL hN hS1 hS2 (q_codne hx2) hN'
          have c59 : dc.1 59 = d.1 59 := f5 59 (by decide) (by decide) (by decide) (by decide) (by decide) (by decide)
          have ct : ∀ j, (j_sI dc 57 0 0).1 (t + j) = d.1 (t + j) := fun j => (q_sI_o (by omega)).trans (f5 (t + j) (by omega) (by omega) (by omega) (by omega) (by omega) (by omega))
          have ct0 : (j_sI dc 57 0 0).1 t = d.1 t := ct 0
          have eg2 : f_X13_isGate (d.1 t) (Int32.ofNat i) = true := eg.trans h1
          have uk : f_X10_hungAt (dc.1 22 0) (Int32.ofNat i) = k := by rw [f4, q_hung hx2 (by omega)]; exact q_upd_a _ _ _
          have e1 : f_X11_turnOver a d (Int32.ofNat i) = some (k, dc) := by
            unfold f_X11_turnOver f_X11_turnOver_j36 f_X11_mayAlter j_let
            simp only [h1, hu, h2, wA, f1, uk, if_true, if_false, Option.bind_some, show ¬ ((1 : Int32) = 0) by decide]
          obtain ⟨dm, hdm⟩ : ∃ dm, dm = j_sI dR 59 i k := ⟨_, rfl⟩
          have m59 : dm.1 59 i = k := by rw [hdm, q_sI_a]; exact q_upd_a _ _ _
          have e2 : f_X13_turnOver t dc (Int32.ofNat i) = some (k, q_fin dm 0) := by
            unfold f_X13_turnOver f_X13_refusesHung j_let
            simp only [ct0, ct, c59, eg2, if_true, ho9, ho6, if_false, hni, h2, h3, f2, f3, Option.bind_some, show (0 : Int32) ≤ 0 by decide, q_good, ← hk, ← hdm, m59]
          have r2 := f6 dm (fun b hb => by rw [hdm, q_sI_o hb]) (fun j hj => by rw [hdm, q_sI_a, f3])
          exact q_stI hr (q_jP (s_X11_turnOver g d a _ hg.2.1 hg.2.2.1 hg.2.2.2.2.1) e1) (q_jP (s_X13_turnOver g _ t _ hg.2.1 hts hla) e2) r2
    · refine refuse 1 (by decide) ?_ ?_
      · unfold f_X11_turnOver f_X11_turnOver_j35 f_X11_turnOver_j36 f_X11_mayAlter j_let
        simp only [h1, if_false, q_xde, Bool.false_eq_true, if_true]
      · unfold f_X13_turnOver f_X13_refusesHung j_let
        simp only [q_dMe, eT, eg, h1, if_false, Bool.false_eq_true, Option.bind_some, show ¬ ((1 : Int32) ≤ 0) by decide, q_ref]
