/-! tier two: hasIf, judge, isStill -/
theorem q_hungIn (p : Int32) : f_X11_isHung p = f_X13_in p 0 2 := rfl
theorem q_told (t : Nat) (ht : 68 ≤ t) (d : JD) : f_X13_asTold t d = some (q_row d 60 (q_mix 6 (d.1 (t + 6)) (d.1 60))) := by
  unfold f_X13_asTold
  have h := q_run (F := f_X13_asTold_w2 t) (fun i => (Int32.ofNat i, q_row d 60 (q_mix i (d.1 (t + 6)) (d.1 60)))) 6 (by decide) (e := q_row d 60 (q_mix 6 (d.1 (t + 6)) (d.1 60)))
    (fun i hi => by
      have k1 : ¬ ((6 : Int32) ≤ Int32.ofNat i) := q_go (n := 6) (by decide) hi
      have k2 : ¬ j_out (Int32.ofNat i) 6 := q_in (by omega) (by decide)
      have k3 : (Int32.ofNat i).toNatClampNeg = i := q_n (by omega)
      have k4 : (q_row d 60 (q_mix i (d.1 (t + 6)) (d.1 60))).1 (t + 6) = d.1 (t + 6) := q_row_o (by omega)
      unfold f_X13_asTold_w2
      simp only [k1, k2, k3, k4, if_false, q_s, q_sI_row, q_row_row, q_row_a, q_mix_upd])
    (by
      have k1 : (6 : Int32) ≤ Int32.ofNat 6 := by decide
      unfold f_X13_asTold_w2
      simp only [k1, if_true])
  have e0 : (Int32.ofNat 0, q_row d 60 (q_mix 0 (d.1 (t + 6)) (d.1 60))) = (0, d) := by rw [q_mix_0, q_row_self]; rfl
  rw [e0] at h
  rw [h]; rfl
theorem q_tk (t : Nat) (ht : 68 ≤ t) (d : JD) (w : Int32) : ∃ d3 : JD, f_X13_asTold t (q_dM d w) = some d3 ∧ q_sm d d3 ∧ d3.1 0 11 = w ∧ (∀ b, b ≠ 0 → b ≠ 57 → b ≠ 60 → d3.1 b = d.1 b) ∧ (∀ k, k ≠ 0 → d3.1 57 k = d.1 57 k) ∧ ∀ k, k < 6 → d3.1 60 k = d.1 (t + 6) k := by
  refine ⟨_, q_told t ht _, (q_dM_sm d w).row rfl (by decide) (by decide) _, ?_, fun b h0 h57 h60 => ?_, fun k hk => ?_, fun k hk => ?_⟩
  · rw [q_row_o (by decide)]; exact q_dM_11 d w
  · rw [q_row_o h60]; exact q_dM_o h0 h57
  · rw [q_row_o (by decide)]; exact q_dM_57 hk
  · rw [q_row_a]
    show (if k < 6 then _ else _) = _
    rw [if_pos hk, q_dM_o (by omega) (by omega)]
section QM
variable {G P F W L : Nat} {A T : Nat → Nat → Int32}
theorem q_wrongM (h : q_LR G P F W L A T) {x : Nat → Int32} (hx : q_dg x) : f_X13_wrong x (T 0) (T 1) (T 2) (T 3) (T 4) (T 5) (T 11) = some (f_X0_firstBelied (A 0) (A 7) (A 8) (A 14) (q_cod x)) := by
  have hP := h.1.1.2.2.1
  unfold f_X13_wrong f_X0_firstBelied j_let
  obtain ⟨e, h1, h2⟩ := q_fo_wh (τ := fun i (_ : Unit) t => t = Int32.ofNat i) (ρ := fun (r : Int32) (e : Int32 ⊕ Unit) => e = .inl r) (ρ' := fun (_ : Unit) (e : Int32 ⊕ Unit) => e = .inr ()) (n := P) (by omega) (G := f_X0_firstBelied_b2 (A 0) (A 7) (A 8) (A 14) (q_cod x)) (F := f_X13_wrong_w2 x (T 0) (T 1) (T 2) (T 3) (T 4) (T 5) (T 11))
    (fun i hi s t ht => by
      subst ht
      have k1 := h.1.2.2.1.2
      have k2 := q_go (n := P) (by omega) hi
      have k3 : ¬ j_out (Int32.ofNat i) 5 := q_in (by omega) (by decide)
      have k4 : (Int32.ofNat i).toNatClampNeg = i := q_n (by omega)
      have k5 := q_hasM h hx (Int32.ofNat i)
      have k6 : f_X11_at (A 14) 5 (Int32.ofNat i) = A 14 i := q_at (by omega) (by decide)
      have k7 := h.2.1.2.2.2.2 i (by omega)
      unfold f_X0_firstBelied_b2 f_X0_firstBelied_j39_2 f_X13_wrong_w2 f_X13_wrong_j45_2
      simp only [k1, k2, k3, k4, k5, k6, k7, if_false, Option.bind_some]
      by_cases c1 : A 14 i = -1
      · simp only [c1, if_true]
        exact Or.inr ⟨(), _, trivial, rfl, (q_s i)⟩
      · simp only [c1, if_false]
        by_cases c2 : A 14 i = f_X3_wealth (A 0) (A 7) (A 8) (Int32.ofNat i) (q_cod x)
        · simp only [c2, if_true]
          exact Or.inr ⟨(), _, trivial, rfl, (q_s i)⟩
        · have c3 : ¬ f_X3_wealth (A 0) (A 7) (A 8) (Int32.ofNat i) (q_cod x) = A 14 i := fun z => c2 z.symm
          simp only [c2, c3, if_false]
          exact Or.inl ⟨_, _, rfl, rfl, rfl⟩)
    (fun s t ht => by
      subst ht
      have k1 := h.1.2.2.1.2
      have k2 := q_end (n := P) (by omega)
      unfold f_X13_wrong_w2
      simp only [k1, k2, if_true]
      exact ⟨_, rfl, rfl⟩) (s := ()) (t := 0) rfl
  rw [h1, h.1.2.2.1.1]
  cases e9 : j_fo (Int32.ofNat P) (f_X0_firstBelied_b2 (A 0) (A 7) (A 8) (A 14) (q_cod x)) (j_mu (Int32.ofNat P) 0) 0 () with
  | inl r => rw [e9] at h2; rw [show e = .inl r from h2]; rfl
  | inr r => rw [e9] at h2; rw [show e = .inr () from h2]; rfl
end QM
theorem qk_judge {G P F W L a t : Nat} {d : JD} (hL : q_LR G P F W L (q_rows d a) (q_rows d t)) (hN : q_NR G (q_rows d a) (q_rows d t) (d.1 22 0) (d.1 22 1) (d.1 22 2) (d.1 59)) (h68 : 68 ≤ t) : ∃ (x : Int32) (w : Int32) (d2 : JD), f_X11_judge a d = (x, j_sI d 0 11 w) ∧ f_X13_judge t (j_sI d 0 11 w) = some (x, d2) ∧ q_ans d d2 w := by
  have k1 : f_X11_hasLand (d.1 a) = true := q_hl1 (A := q_rows d a) (T := q_rows d t) hL
  obtain ⟨d3, w1, w2, w3, w4, w5, w6⟩ := q_tk t h68 d 0
  have kt : ∀ j, d3.1 (t + j) = d.1 (t + j) := fun j => w4 _ (by omega) (by omega) (by omega)
  have kt0 : d3.1 t = d.1 t := kt 0
  have hd6 : q_dg (d.1 (t + 6)) := hL.2.2.1.2.1.1
  have hx : q_dg (d3.1 60) := fun k hk => by rw [w6 k hk]; exact hd6 k hk
  have hc : q_cod (d3.1 60) = d.1 a 6 := (q_cod_congr w6).trans (show q_cod (d.1 (t + 6)) = d.1 a 6 from hL.2.2.1.1.symm)
  have hm := q_wrongM (A := q_rows d a) (T := q_rows d t) hL hx
  rw [hc] at hm
  have hm' : f_X13_wrong (d3.1 60) (d.1 t) (d.1 (t + 1)) (d.1 (t + 2)) (d.1 (t + 3)) (d.1 (t + 4)) (d.1 (t + 5)) (d.1 (t + 11)) = some (f_X0_firstBelied (d.1 a) (d.1 (a + 7)) (d.1 (a + 8)) (d.1 (a + 14)) (d.1 a 6)) := hm
  refine ⟨f_X0_firstBelied (d.1 a) (d.1 (a + 7)) (d.1 (a + 8)) (d.1 (a + 14)) (d.1 a 6), 0, q_fin d3 0, ?_, ?_, q_fin_ans w2 w3 (by decide)⟩
  · unfold f_X11_judge j_let
    simp only [k1, q_xan, if_true]
  · unfold f_X13_judge j_let
    simp only [q_dMe, w1, Option.bind_some, kt, kt0, hm', q_good]
theorem qk_hasIf {G P F W L a t : Nat} {d : JD} (hL : q_LR G P F W L (q_rows d a) (q_rows d t)) (hN : q_NR G (q_rows d a) (q_rows d t) (d.1 22 0) (d.1 22 1) (d.1 22 2) (d.1 59)) (h68 : 68 ≤ t) (pq0 pq1 pq2 : Int32) : ∃ (x : Int32) (w : Int32) (d2 : JD), f_X11_hasIf a d pq0 pq1 pq2 = (x, j_sI d 0 11 w) ∧ f_X13_hasIf t (j_sI d 0 11 w) pq0 pq1 pq2 = some (x, d2) ∧ q_ans d d2 w := by
  have hG := hL.1.1.2.1
  have eT : ∀ w, (q_dM d w).1 t = d.1 t := fun w => q_dM_o (by omega) (by omega)
  have ep : ∀ w, f_X13_isPerson ((q_dM d w).1 t) pq0 = f_X11_isPerson (d.1 a) pq0 := fun w => by rw [eT]; exact q_isp (A := q_rows d a) (T := q_rows d t) hL pq0
  have eg : ∀ w, f_X13_isGate ((q_dM d w).1 t) pq1 = f_X11_isGate (d.1 a) pq1 := fun w => by rw [eT]; exact q_isg (A := q_rows d a) (T := q_rows d t) hL pq1
  by_cases h1 : f_X11_isPerson (d.1 a) pq0 = true
  · by_cases h2 : f_X11_isGate (d.1 a) pq1 = true
    · obtain ⟨i, hi, rfl⟩ := q_isg' (A := q_rows d a) (T := q_rows d t) hL h2
      by_cases h3 : f_X13_in pq2 0 2 = true
      · obtain ⟨d3, w1, w2, w3, w4, w5, w6⟩ := q_wk d 0
        have kt : ∀ j, d3.1 (t + j) = d.1 (t + j) := fun j => w4 _ (by omega) (by omega) (by omega)
        obtain ⟨hx, hc⟩ := q_way hN w6
        have ho6 : ¬ j_out (Int32.ofNat i) 6 := q_in (by omega) (by decide)
        have hni : (Int32.ofNat i).toNatClampNeg = i := q_n (by omega)
        have hh : pq2 = 0 ∨ pq2 = 1 ∨ pq2 = 2 := by
          obtain ⟨k, hk, rfl⟩ := q_inr (n := 2) (by decide) h3
          match k, hk with
          | 0, _ => exact Or.inl rfl
          | 1, _ => exact Or.inr (Or.inl rfl)
          | 2, _ => exact Or.inr (Or.inr rfl)
          | n + 3, hk => exact absurd hk (by omega)
        have hw := q_with hx (g := i) (by omega) hh
        rw [hc] at hw
        have hx2 : q_dg (upd (d3.1 60) i pq2) := by
          intro k hk
          unfold upd
          by_cases c : k = i
          · rw [if_pos c]; exact hh
          · rw [if_neg c]; exact hx k hk
        have hm := q_hasM (A := q_rows d a) (T := q_rows d t) hL hx2 pq0
        rw [← hw] at hm
        have hm' : f_X13_has (upd (d3.1 60) i pq2) (d.1 t) (d.1 (t + 1)) (d.1 (t + 2)) (d.1 (t + 3)) (d.1 (t + 4)) (d.1 (t + 5)) pq0 = some (f_X3_wealth (d.1 a) (d.1 (a + 7)) (d.1 (a + 8)) pq0 (f_X10_with (d.1 22 0) (Int32.ofNat i) pq2)) := hm
        have r60 : (j_sI d3 60 i pq2).1 60 = upd (d3.1 60) i pq2 := q_sI_a _ _ _ _
        have rt : ∀ j, (j_sI d3 60 i pq2).1 (t + j) = d.1 (t + j) := fun j => (q_sI_o (by omega)).trans (kt j)
        have rt0 : (j_sI d3 60 i pq2).1 t = d.1 t := rt 0
        refine ⟨f_X3_wealth (d.1 a) (d.1 (a + 7)) (d.1 (a + 8)) pq0 (f_X10_with (d.1 22 0) (Int32.ofNat i) pq2), 0, q_fin (j_sI d3 60 i pq2) 0, ?_, ?_, q_fin_ans (w2.sI rfl (by decide) (by decide) i pq2) ((congrFun (q_sI_o (by decide)) 11).trans w3) (by decide)⟩
        · unfold f_X11_hasIf j_let
          simp only [h1, h2, h3, q_hungIn, q_xan, if_true]
        · unfold f_X13_hasIf j_let
          simp only [q_dMe, ep, eg, h1, h2, h3, if_true, w1, Option.bind_some, ho6, if_false, hni, r60, rt, rt0, hm', q_good]
      · refine ⟨-1, 2, q_fin (q_dM d 2) 2, ?_, ?_, q_ansd d (by decide)⟩
        · unfold f_X11_hasIf j_let
          simp only [h1, h2, h3, q_hungIn, q_xre, if_true, if_false, Bool.false_eq_true]
        · unfold f_X13_hasIf j_let
          simp only [q_dMe, ep, eg, h1, h2, h3, if_true, if_false, q_ref, Bool.false_eq_true]
    · refine ⟨-1, 1, q_fin (q_dM d 1) 1, ?_, ?_, q_ansd d (by decide)⟩
      · unfold f_X11_hasIf f_X11_hasIf_j16 j_let
        simp only [h1, h2, q_xre, if_true, if_false, Bool.false_eq_true]
      · unfold f_X13_hasIf f_X13_hasIf_j21 j_let
        simp only [q_dMe, ep, eg, h1, h2, if_true, if_false, q_ref, Bool.false_eq_true]
  · refine ⟨-1, 1, q_fin (q_dM d 1) 1, ?_, ?_, q_ansd d (by decide)⟩
    · unfold f_X11_hasIf f_X11_hasIf_j16 j_let
      simp only [h1, q_xre, if_false, Bool.false_eq_true]
    · unfold f_X13_hasIf f_X13_hasIf_j21 j_let
      simp only [q_dMe, ep, h1, if_false, q_ref, Bool.false_eq_true]
theorem q_29 {K : q_K} (hK : q_Kok K) : lw_st_29 (q_R K) := by
  intro h r hz
  obtain ⟨g, d⟩ := h
  have hr := r
  obtain ⟨a, b, hg, ht, -, -, hl⟩ := r
  rcases hl with ⟨hla, hn⟩ | ⟨t, h68, hla, hts, G, P, F, W, L, hL, hN, -⟩
  · obtain ⟨x, w, d2, e1, e2, e3⟩ := qn_judge (a := a) (d := d) hn
    exact q_stI hr (q_jT (s_X11_judge g d a hg.2.1 hg.2.2.1 hg.2.2.2.2.1) e1) (q_jT (s_X13_judgen g _ hg.2.1 hla) e2) (hr.ans hK e3)
  · obtain ⟨x, w, d2, e1, e2, e3⟩ := qk_judge (a := a) (t := t) (d := d) hL hN h68
    exact q_stI hr (q_jT (s_X11_judge g d a hg.2.1 hg.2.2.1 hg.2.2.2.2.1) e1) (q_jP (s_X13_judge g _ t hg.2.1 hts hla) e2) (hr.ans hK e3)
theorem q_10 {K : q_K} (hK : q_Kok K) : lw_st_10 (q_R K) := by
  intro h p1 p2 p3 r hz
  obtain ⟨g, d⟩ := h
  have hr := r
  obtain ⟨a, b, hg, ht, -, -, hl⟩ := r
  rcases hl with ⟨hla, hn⟩ | ⟨t, h68, hla, hts, G, P, F, W, L, hL, hN, -⟩
  · obtain ⟨x, w, d2, e1, e2, e3⟩ := qn_hasIf (a := a) (d := d) hn p1 p2 p3
    exact q_stI hr (q_jT (s_X11_hasIf g d a p1 p2 p3 hg.2.1 hg.2.2.1 hg.2.2.2.2.1) e1) (q_jT (s_X13_hasIfn g _ p1 p2 p3 hg.2.1 hla) e2) (hr.ans hK e3)
  · obtain ⟨x, w, d2, e1, e2, e3⟩ := qk_hasIf (a := a) (t := t) (d := d) hL hN h68 p1 p2 p3
    exact q_stI hr (q_jT (s_X11_hasIf g d a p1 p2 p3 hg.2.1 hg.2.2.1 hg.2.2.2.2.1) e1) (q_jP (s_X13_hasIf g _ t p1 p2 p3 hg.2.1 hts hla) e2) (hr.ans hK e3)
