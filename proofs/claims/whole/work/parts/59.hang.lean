theorem q_44 {K : q_K} (hK : q_Kok K) : lw_st_44 (q_R K) := by
  intro h p1 p2 r hz
  obtain ⟨g, d⟩ := h
  have hr := r
  obtain ⟨a, b, hg, ht, hrm, -, hl⟩ := r
  obtain ⟨q, hq⟩ : ∃ q : Int32, q = (if p2 = 0 then 0 else 1) := ⟨_, rfl⟩
  have hq01 : q = 0 ∨ q = 1 := by rw [hq]; split; exact Or.inl rfl; exact Or.inr rfl
  rw [← hq]
  rcases hl with ⟨hla, hn⟩ | ⟨t, h68, hla, hts, G, P, F, W, L, hL, hN, hS1, hS2⟩
  · obtain ⟨x, w, d2, e1, e2, e3⟩ := qn_hang (a := a) (d := d) hn p1 q
    exact q_stI hr (q_jPB (s_X11_hang g d a p1 q hg.2.1 hg.2.2.1 hg.2.2.2.2.1) e1) (q_jTB (s_X13_hangn g _ p1 q hg.2.1 hla) e2) (hr.ans hK e3)
  · have hG := hL.1.1.2.1
    have eT : ∀ w, (q_dM d w).1 t = d.1 t := fun w => q_dM_o (by omega) (by omega)
    have eT3 : ∀ w, (q_dM d w).1 (t + 3) = d.1 (t + 3) := fun w => q_dM_o (by omega) (by omega)
    have eg : ∀ w, f_X13_isGate ((q_dM d w).1 t) p1 = f_X11_isGate (d.1 a) p1 := fun w => by rw [eT]; exact q_isg (A := q_rows d a) (T := q_rows d t) hL p1
    have e59 : ∀ w, (j_sI d 0 11 w).1 59 = d.1 59 := fun w => q_sI_o (by decide)
    have refuse : ∀ w : Int32, w ≠ 4 → f_X11_hang a d p1 q = some (false, j_sI d 0 11 w) → f_X13_hang t (j_sI d 0 11 w) p1 q = some (false, q_fin (q_dM d w) w) → ∃ (h1 h2 : JH) (x : Int32), j_lw h1 ∧ h1.1.2.2.2 = (g, d).1.2.2.2 ∧ h2.1.2.2.2 = h1.1.2.2.2 ∧ JM mi_X11_hang 0 0 (g, d) [.ref 0, .int p1, .int q] (some (some (.int x), h1)) ∧ JM mi_X13_hang 0 0 h1 [.ref 57, .int p1, .int q] (some (some (.int x), h2)) ∧ q_R K h2 ∧ h2.1.1 ≤ (g, d).1.1 + 15 := fun w hw e1 e2 => q_stI hr (q_jPB (s_X11_hang g d a p1 q hg.2.1 hg.2.2.1 hg.2.2.2.2.1) e1) (q_jPB (s_X13_hang g _ t p1 q hg.2.1 hts hla) e2) (hr.ans hK (q_ansd d hw))
    by_cases h1 : f_X11_isGate (d.1 a) p1 = true
    · obtain ⟨i, hi, rfl⟩ := q_isg' (A := q_rows d a) (T := q_rows d t) hL h1
      have ho9 : ¬ j_out (Int32.ofNat i) 9 := q_in (by omega) (by decide)
      have ho6 : ¬ j_out (Int32.ofNat i) 6 := q_in (by omega) (by decide)
      have hni : (Int32.ofNat i).toNatClampNeg = i := q_n (by omega)
      have hv : q_dg (d.1 59) := hN.1.1
      have hu : f_X10_hungAt (d.1 22 0) (Int32.ofNat i) = d.1 59 i := by rw [hN.2.1]; exact q_hung hv (by omega)
      obtain ⟨n, hn12, h6⟩ := q_ground hN
      have lie : f_X3_hooksLying (d.1 a) (d.1 22 0) = Int32.ofNat n := (q_lying (A := q_rows d a) (T := q_rows d t) hN hL.2.2.1.1 hL.2.2.1.2.1.1).trans h6
      have wayc : d.1 22 0 = q_cod (d.1 59) := hN.2.1
      by_cases h2 : d.1 59 i = 0
      · have h2' : d.1 59 i ≤ 0 := by rw [h2]; decide
        have gd := q_grd (A := q_rows d a) (T := q_rows d t) hL hi
        have gd' : f_X3_isGuarded (d.1 a) (Int32.ofNat i) = true ↔ d.1 (t + 3) i = 2 := gd
        by_cases h3 : d.1 (t + 3) i = 2
        · have g3 := gd'.mpr h3
          refine refuse 6 (by decide) ?_ ?_
          · unfold f_X11_hang f_X11_hang_j55 f_X11_act f_X3_wayAfter j_let
            rcases hq01 with rfl | rfl <;> simp only [h1, hu, h2, g3, if_true, if_false, q_xde, Option.bind_some, show ¬ ((1 : Int32) = 0) by decide]
          · unfold f_X13_hang f_X13_hang_j57 j_let
            simp only [q_dMe, eg, h1, if_true, ho9, ho6, if_false, hni, e59, h2', eT3, h3, q_mde]
        · have g3 : f_X3_isGuarded (d.1 a) (Int32.ofNat i) = false := by
            cases z : f_X3_isGuarded (d.1 a) (Int32.ofNat i) with
            | false => rfl
            | true => exact absurd (gd'.mp z) h3
          by_cases h4 : n = 0
          · have l0 : f_X3_hooksLying (d.1 a) (d.1 22 0) ≤ 0 := by rw [lie, h4]; decide
            have v60 : d.1 59 6 = 0 := by rw [h6, h4]; rfl
            refine refuse 6 (by decide) ?_ ?_
            · unfold f_X11_hang f_X11_hang_j55 f_X11_act f_X3_wayAfter f_X3_wayAfter_j26 f_X3_wayAfter_j43 f_X3_wayAfter_j44 j_let
              rcases hq01 with rfl | rfl <;> simp only [h1, hu, h2, g3, l0, if_true, if_false, q_xde, Option.bind_some, show ¬ ((1 : Int32) = 0) by decide, Bool.false_eq_true]
            · unfold f_X13_hang f_X13_hang_j57 j_let
              simp only [q_dMe, eg, h1, if_true, ho9, ho6, if_false, hni, e59, h2', eT3, h3, v60, q_mde]
          · have l1 : ¬ (f_X3_hooksLying (d.1 a) (d.1 22 0) ≤ 0) := by
              rw [lie]
              exact q_go (i := 0) (by omega) (by omega)
            have v60 : ¬ (d.1 59 6 = 0) := by
              rw [h6]
              exact fun z => h4 ((q_eq (i := 0) (by omega) (by decide)).mp z)
            obtain ⟨k, hk⟩ : ∃ k : Int32, k = if q = 0 then 1 else 2 := ⟨_, rfl⟩
            have hk' : k = 0 ∨ k = 1 ∨ k = 2 := by rw [hk]; split; exact Or.inr (Or.inl rfl); exact Or.inr (Or.inr rfl)
            have hk0 : k ≠ 0 := by rw [hk]; split <;> decide
            have wA : f_X3_wayAfter (d.1 a) (d.1 22 0) q (Int32.ofNat i) = q_cod (upd (d.1 59) i k) := by
              rw [wayc] at l1 ⊢
              rw [hk]
              exact q_wA hv (by omega) g3 hq01 h2 l1
            have hx2 : q_dg (upd (d.1 59) i k) := by
              intro j hj
              by_cases c : j = i
              · rw [c, q_upd_a]; exact hk'
              · rw [q_upd_o c]; exact hv j hj
            have hcn : (n - 1) + q_cnt (upd (d.1 59) i k) 6 = n + q_cnt (d.1 59) 6 := by
              have := q_cnt_up (x := d.1 59) (g := i) (h := k) h2 hk0 6
              rw [if_pos (by omega)] at this
              omega
            have hN' := q_NRupd hN hG hi h3 hk' h6 hn12 hcn (v' := upd (upd (d.1 59) i k) 6 (Int32.ofNat (n - 1))) (fun j hj => by
              unfold upd
              by_cases c6 : j = 6
              · rw [if_pos c6, if_neg (by omega), if_pos c6]
              · rw [if_neg c6]
                by_cases ci : j = i
                · rw [if_pos ci, if_pos ci]
                · rw [if_neg ci, if_neg ci, if_neg c6])
            obtain ⟨dc, dR, f1, f2, f3, f4, f5, f6⟩ := q_act_go hK hr hg hrm h68 hla hts hL hN hS1 hS2 (q_codne hx2) hN'
            have c59 : dc.1 59 = d.1 59 := f5 59 (by decide) (by decide) (by decide) (by decide) (by decide) (by decide)
            have ct : ∀ j, (j_sI dc 57 0 0).1 (t + j) = d.1 (t + j) := fun j => (q_sI_o (by omega)).trans (f5 (t + j) (by omega) (by omega) (by omega) (by omega) (by omega) (by omega))
            have ct0 : (j_sI dc 57 0 0).1 t = d.1 t := ct 0
            have eg2 : f_X13_isGate (d.1 t) (Int32.ofNat i) = true := (q_isg (A := q_rows d a) (T := q_rows d t) hL _).trans h1
            have e1 : f_X11_hang a d (Int32.ofNat i) q = some (true, dc) := by
              unfold f_X11_hang f_X11_hang_j55
              rcases hq01 with rfl | rfl <;> simp only [h1, hu, h2, wA, f1, if_true, if_false, Option.bind_some, show ¬ ((1 : Int32) = 0) by decide]
            have r6 : (j_sI dR 59 i k).1 59 6 = Int32.ofNat n := by rw [q_sI_a, q_upd_o (by omega), f3]; exact h6
            obtain ⟨dm, hdm⟩ : ∃ dm, dm = j_sI (j_sI dR 59 i k) 59 6 (Int32.ofNat (n - 1)) := ⟨_, rfl⟩
            have pr : Int32.ofNat n - 1 = Int32.ofNat (n - 1) := q_pred (by omega)
            have e2 : f_X13_hang t dc (Int32.ofNat i) q = some (true, q_fin dm 0) := by
              unfold f_X13_hang f_X13_hang_j82 j_let
              rw [hk] at r6 hdm
              rcases hq01 with rfl | rfl
              · simp only [ct0, ct, c59, eg2, if_true, ho9, ho6, if_false, hni, h2', h3, v60, f2, Option.bind_some, q_mgr]
                rw [show (if (0 : Int32) = 0 then (1 : Int32) else 2) = 1 from rfl] at r6 hdm
                rw [r6, pr, ← hdm]
              · simp only [ct0, ct, c59, eg2, if_true, ho9, ho6, if_false, hni, h2', h3, v60, f2, Option.bind_some, q_mgr, show ¬ ((1 : Int32) = 0) by decide]
                rw [show (if (1 : Int32) = 0 then (1 : Int32) else 2) = 2 from rfl] at r6 hdm
                rw [r6, pr, ← hdm]
            have r2 := f6 dm (fun b hb => by rw [hdm, q_sI_o hb, q_sI_o hb]) (fun j hj => by rw [hdm, q_sI_a, q_sI_a, f3])
            exact q_stI hr (q_jPB (s_X11_hang g d a _ q hg.2.1 hg.2.2.1 hg.2.2.2.2.1) e1) (q_jPB (s_X13_hang g _ t _ q hg.2.1 hts hla) e2) r2
      · have h2' : ¬ (d.1 59 i ≤ 0) := by
          rcases hv i (by omega) with z | z | z
          · exact absurd z h2
          · rw [z]; decide
          · rw [z]; decide
        refine refuse 5 (by decide) ?_ ?_
        · unfold f_X11_hang j_let
          simp only [h1, hu, h2, if_true, if_false, q_xde]
        · unfold f_X13_hang j_let
          simp only [q_dMe, eg, h1, if_true, ho9, if_false, hni, e59, h2', q_mde]
    · refine refuse 1 (by decide) ?_ ?_
      · unfold f_X11_hang j_let
        simp only [h1, if_false, q_xde, Bool.false_eq_true]
      · unfold f_X13_hang j_let
        simp only [q_dMe, eg, h1, if_false, q_mde, Bool.false_eq_true]
