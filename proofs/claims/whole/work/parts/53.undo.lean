/-! tier two: undo, back, image -/
theorem q_NR.cv {G : Nat} (hG : G ≤ 6) {A T : Nat → Nat → Int32} {w s y : Int32} {v v' : Nat → Int32} (h : q_NR G A T w s y v) (e : ∀ k, k < 9 → v' k = v k) : q_NR G A T w s y v' := by
  obtain ⟨⟨h1, h2⟩, h3, ⟨n', H, h4, h5, h6, h7⟩, h8, h9, h10, h11, h12⟩ := h
  exact ⟨⟨fun g hg => by rw [e g (by omega)]; exact h1 g hg, fun g hg hg6 => by rw [e g (by omega)]; exact h2 g hg hg6⟩, h3.trans (q_cod_congr (fun k hk => (e k (by omega)).symm)), ⟨n', H, by rw [e 6 (by decide)]; exact h4, h5, h6, by rw [q_cnt_congr 6 (fun k hk => e k (by omega))]; exact h7⟩, by rw [e 7 (by decide)]; exact h8, by rw [e 8 (by decide)]; exact h9, h10, h11, fun g hg hk => by rw [e g (by omega)]; exact h12 g hg hk⟩
theorem q_ix9 (c i : Nat) : (9 : Int32) * Int32.ofNat c + Int32.ofNat i = Int32.ofNat (9 * c + i) := by
  rw [Int32.ofNat_add, Int32.ofNat_mul]; rfl
theorem q_pred {c : Nat} (h : 0 < c) : Int32.ofNat c - 1 = Int32.ofNat (c - 1) := by
  have : Int32.ofNat c = Int32.ofNat (c - 1) + 1 := by rw [q_s]; congr 1; omega
  rw [this]
  exact Int32.add_sub_cancel _ _
theorem q_undoL (t : Nat) (d : JD) {c : Nat} (hc : c < 16) (h19 : d.1 57 19 = Int32.ofNat c) : j_wh (f_X13_undo_w38 t) j_fuel (0, d) = some (q_row d 59 (q_mix 9 (fun k => d.1 61 (9 * c + k)) (d.1 59))) := by
  have h := q_run (F := f_X13_undo_w38 t) (fun i => (Int32.ofNat i, q_row d 59 (q_mix i (fun k => d.1 61 (9 * c + k)) (d.1 59)))) 9 (by decide) (e := q_row d 59 (q_mix 9 (fun k => d.1 61 (9 * c + k)) (d.1 59)))
    (fun i hi => by
      have k1 : ¬ ((9 : Int32) ≤ Int32.ofNat i) := q_go (n := 9) (by decide) hi
      have k2 : ¬ j_out (Int32.ofNat i) 9 := q_in (by omega) (by decide)
      have k3 : (Int32.ofNat i).toNatClampNeg = i := q_n (by omega)
      have k4 : (q_row d 59 (q_mix i (fun k => d.1 61 (9 * c + k)) (d.1 59))).1 61 = d.1 61 := q_row_o (by decide)
      have k5 : (q_row d 59 (q_mix i (fun k => d.1 61 (9 * c + k)) (d.1 59))).1 57 = d.1 57 := q_row_o (by decide)
      have k6 : ¬ j_out (Int32.ofNat (9 * c + i)) 144 := q_in (by omega) (by decide)
      have k7 : (Int32.ofNat (9 * c + i)).toNatClampNeg = 9 * c + i := q_n (by omega)
      unfold f_X13_undo_w38
      simp only [k1, k2, k3, k4, k5, h19, q_ix9, k6, k7, if_false, q_s, q_sI_row, q_row_row, q_row_a]
      rw [q_mix_upd i (fun k => d.1 61 (9 * c + k)) (d.1 59)])
    (by
      have k1 : (9 : Int32) ≤ Int32.ofNat 9 := by decide
      unfold f_X13_undo_w38
      simp only [k1, if_true])
  have e0 : (Int32.ofNat 0, q_row d 59 (q_mix 0 (fun k => d.1 61 (9 * c + k)) (d.1 59))) = (0, d) := by rw [q_mix_0, q_row_self]; rfl
  rw [e0] at h
  exact h
theorem q_backL (t : Nat) (d : JD) {c : Nat} (hc : c < 3) : j_wh (f_X13_back_w32 t (Int32.ofNat c)) j_fuel (0, d) = some (q_row d 59 (q_mix 9 (fun k => d.1 62 (9 * c + k)) (d.1 59))) := by
  have h := q_run (F := f_X13_back_w32 t (Int32.ofNat c)) (fun i => (Int32.ofNat i, q_row d 59 (q_mix i (fun k => d.1 62 (9 * c + k)) (d.1 59)))) 9 (by decide) (e := q_row d 59 (q_mix 9 (fun k => d.1 62 (9 * c + k)) (d.1 59)))
    (fun i hi => by
      have k1 : ¬ ((9 : Int32) ≤ Int32.ofNat i) := q_go (n := 9) (by decide) hi
      have k2 : ¬ j_out (Int32.ofNat i) 9 := q_in (by omega) (by decide)
      have k3 : (Int32.ofNat i).toNatClampNeg = i := q_n (by omega)
      have k4 : (q_row d 59 (q_mix i (fun k => d.1 62 (9 * c + k)) (d.1 59))).1 62 = d.1 62 := q_row_o (by decide)
      have k6 : ¬ j_out (Int32.ofNat (9 * c + i)) 27 := q_in (by omega) (by decide)
      have k7 : (Int32.ofNat (9 * c + i)).toNatClampNeg = 9 * c + i := q_n (by omega)
      unfold f_X13_back_w32
      simp only [k1, k2, k3, k4, q_ix9, k6, k7, if_false, q_s, q_sI_row, q_row_row, q_row_a]
      rw [q_mix_upd i (fun k => d.1 62 (9 * c + k)) (d.1 59)])
    (by
      have k1 : (9 : Int32) ≤ Int32.ofNat 9 := by decide
      unfold f_X13_back_w32
      simp only [k1, if_true])
  have e0 : (Int32.ofNat 0, q_row d 59 (q_mix 0 (fun k => d.1 62 (9 * c + k)) (d.1 59))) = (0, d) := by rw [q_mix_0, q_row_self]; rfl
  rw [e0] at h
  exact h
theorem q_49 {K : q_K} (hK : q_Kok K) : lw_st_49 (q_R K) := by
  intro h r hz
  obtain ⟨g, d⟩ := h
  have hr := r
  obtain ⟨a, b, hg, ht, hrm, -, hl⟩ := r
  rcases hl with ⟨hla, hn⟩ | ⟨t, h68, hla, hts, G, P, F, W, L, hL, hN, hS1, hS2⟩
  · obtain ⟨x, w, d2, e1, e2, e3⟩ := qn_undo (a := a) (d := d) hn
    exact q_stI hr (q_jTB (s_X11_undo g d hg.2.1) e1) (q_jTB (s_X13_undon g _ hg.2.1 hla) e2) (hr.ans hK e3)
  · obtain ⟨c, hc16, c1, c2, hS⟩ := hS1
    dsimp only at c1 c2 hS
    by_cases c0 : c = 0
    · subst c0
      have z1 : d.1 24 4 = 0 := c1
      have z2 : (j_sI d 0 11 6).1 57 19 = 0 := by rw [q_sI_o (by decide)]; exact c2
      have e1 : f_X11_undo d = (false, j_sI d 0 11 6) := by
        unfold f_X11_undo j_let
        simp only [z1, if_true, q_xde]
      have e2 : f_X13_undo t (j_sI d 0 11 6) = some (false, q_fin (q_dM d 6) 6) := by
        unfold f_X13_undo f_X13_undo_j19 j_let
        simp only [z2, if_true, q_mde, q_dMe]
      exact q_stI hr (q_jTB (s_X11_undo g d hg.2.1) e1) (q_jPB (s_X13_undo g _ t hg.2.1 hts hla) e2) (hr.ans hK (q_ansd d (by decide)))
    · have z1 : ¬ (Int32.ofNat c = 0) := fun z => c0 ((q_eq (by omega) (by decide)).mp (z.trans rfl))
      have hp : Int32.ofNat c - 1 = Int32.ofNat (c - 1) := q_pred (by omega)
      obtain ⟨dc, hdc⟩ : ∃ dc, dc = j_sI (f_X4_set 22 (j_sI d 24 4 (Int32.ofNat (c - 1))) (d.1 25 (c - 1)) (d.1 26 (c - 1)) (d.1 27 (c - 1))) 0 11 0 := ⟨_, rfl⟩
      have e1 : f_X11_undo d = (true, dc) := by
        have a1 : f_X11_at ((j_sI d 24 4 (Int32.ofNat (c - 1))).1 (24 + 1)) 16 (Int32.ofNat (c - 1)) = d.1 25 (c - 1) := by rw [q_at (by omega) (by decide), q_sI_o (by decide)]
        have a2 : f_X11_at ((j_sI d 24 4 (Int32.ofNat (c - 1))).1 (24 + 2)) 16 (Int32.ofNat (c - 1)) = d.1 26 (c - 1) := by rw [q_at (by omega) (by decide), q_sI_o (by decide)]
        have a3 : f_X11_at ((j_sI d 24 4 (Int32.ofNat (c - 1))).1 (24 + 3)) 16 (Int32.ofNat (c - 1)) = d.1 27 (c - 1) := by rw [q_at (by omega) (by decide), q_sI_o (by decide)]
        unfold f_X11_undo f_X7_bringBack j_let
        simp only [c1, z1, hp, a1, a2, a3, if_false, hdc]
      have co : ∀ b, b ≠ 0 → b ≠ 22 → b ≠ 24 → dc.1 b = d.1 b := fun b h0 h22 h24 => by rw [hdc, q_sI_o h0, q_set_o h22, q_sI_o h24]
      have c24 : dc.1 24 = upd (d.1 24) 4 (Int32.ofNat (c - 1)) := by rw [hdc, q_sI_o (by decide), q_set_o (by decide), q_sI_a]
      have c22 : dc.1 22 = upd (upd (upd (d.1 22) 0 (d.1 25 (c - 1))) 1 (d.1 26 (c - 1))) 2 (d.1 27 (c - 1)) := by rw [hdc, q_sI_o (by decide), q_set_a, q_sI_o (by decide)]
      obtain ⟨d0, hd0⟩ : ∃ d0, d0 = j_sI (j_sI dc 57 0 0) 57 19 (Int32.ofNat (c - 1)) := ⟨_, rfl⟩
      have d19 : d0.1 57 19 = Int32.ofNat (c - 1) := by rw [hd0, q_sI_a]; rfl
      have d57 : ∀ k, k ≠ 0 → k ≠ 19 → d0.1 57 k = d.1 57 k := fun k k0 k19 => by rw [hd0, q_sI_a, q_upd_o k19, q_sI_a, q_upd_o k0, co 57 (by decide) (by decide) (by decide)]
      have d0o : ∀ b, b ≠ 57 → d0.1 b = dc.1 b := fun b h57 => by rw [hd0, q_sI_o h57, q_sI_o h57]
      obtain ⟨dm, hdm⟩ : ∃ dm, dm = q_row d0 59 (q_mix 9 (fun k => d0.1 61 (9 * (c - 1) + k)) (d0.1 59)) := ⟨_, rfl⟩
      have e2 : f_X13_undo t dc = some (true, q_fin dm 0) := by
        have z2 : dc.1 57 19 = Int32.ofNat c := by rw [co 57 (by decide) (by decide) (by decide)]; exact c2
        have lp := q_undoL t d0 (c := c - 1) (by omega) d19
        rw [← hdm] at lp
        unfold f_X13_undo j_let
        simp only [z2, z1, hp, ← hd0, lp, if_false, Option.bind_some, q_mgr]
      have mo : ∀ b, b ≠ 0 → b ≠ 22 → b ≠ 24 → b ≠ 59 → b ≠ 57 → dm.1 b = d.1 b := fun b h0 h22 h24 h59 h57 => by rw [hdm, q_row_o h59, d0o b h57, co b h0 h22 h24]
      have s2 : q_sm2 d dm := by
        rw [hdm, hd0, hdc]
        unfold f_X4_set
        exact (((((((((q_sm2.refl d).sI rfl (by decide) (by decide) 4 _).sI rfl (by decide) (by decide) 0 _).sI rfl (by decide) (by decide) 1 _).sI rfl (by decide) (by decide) 2 _).f0 0).f57 rfl 0).f57 rfl _).row rfl (by decide) (by decide) _)
      have m011 : dm.1 0 11 = 0 := by rw [hdm, q_row_o (by decide), d0o 0 (by decide), hdc, q_sI_a]; rfl
      have m57 : ∀ k, k ≠ 0 → k ≠ 19 → dm.1 57 k = d.1 57 k := fun k k0 k19 => by rw [hdm, q_row_o (by decide)]; exact d57 k k0 k19
      have m24 : dm.1 24 = upd (d.1 24) 4 (Int32.ofNat (c - 1)) := by rw [hdm, q_row_o (by decide), d0o 24 (by decide), c24]
      have r2 : q_R K (g, q_fin dm 0) := by
        refine hr.up hK (q_fin_ans2 s2 m011 (by decide)) hg h68 hla hts hL ?_ ?_ ?_ ?_
        · rw [q_fin_o (b := 24) (by decide), q_fin_o (b := 28) (by decide), m24, mo 28 (by decide) (by decide) (by decide) (by decide) (by decide)]
          exact ⟨(q_upd_o (by decide)).trans hrm.1, hrm.2⟩
        · have m22 : dm.1 22 = dc.1 22 := by rw [hdm, q_row_o (by decide), d0o 22 (by decide)]
          have m59 : ∀ k, k < 9 → dm.1 59 k = d.1 61 (9 * (c - 1) + k) := fun k hk => by
            rw [hdm, q_row_a]
            show (if k < 9 then d0.1 61 (9 * (c - 1) + k) else _) = _
            rw [if_pos hk, d0o 61 (by decide), co 61 (by decide) (by decide) (by decide)]
          rw [q_fin_o (b := 22) (by decide), q_fin_o (b := 59) (by decide), m22, c22]
          exact (hS (c - 1) (by omega)).cv hL.1.1.2.1 m59
        · have m19 : dm.1 57 19 = Int32.ofNat (c - 1) := by rw [hdm, q_row_o (by decide)]; exact d19
          rw [q_fin_o (b := 24) (by decide), q_fin_o (b := 25) (by decide), q_fin_o (b := 26) (by decide), q_fin_o (b := 27) (by decide), q_fin_o (b := 61) (by decide), q_fin_57 (by decide) (by decide), m19, m24, mo 25 (by decide) (by decide) (by decide) (by decide) (by decide), mo 26 (by decide) (by decide) (by decide) (by decide) (by decide), mo 27 (by decide) (by decide) (by decide) (by decide) (by decide), mo 61 (by decide) (by decide) (by decide) (by decide) (by decide)]
          exact ⟨c - 1, by omega, q_upd_a _ _ _, rfl, fun i hi => hS i (by omega)⟩
        · rw [q_fin_o (b := 28) (by decide), q_fin_o (b := 29) (by decide), q_fin_o (b := 30) (by decide), q_fin_o (b := 31) (by decide), q_fin_o (b := 62) (by decide), q_fin_57 (by decide) (by decide), m57 20 (by decide) (by decide), mo 28 (by decide) (by decide) (by decide) (by decide) (by decide), mo 29 (by decide) (by decide) (by decide) (by decide) (by decide), mo 30 (by decide) (by decide) (by decide) (by decide) (by decide), mo 31 (by decide) (by decide) (by decide) (by decide) (by decide), mo 62 (by decide) (by decide) (by decide) (by decide) (by decide)]
          exact hS2
      exact q_stI hr (q_jTB (s_X11_undo g d hg.2.1) e1) (q_jPB (s_X13_undo g _ t hg.2.1 hts hla) e2) r2
