theorem q_51 {K : q_K} (hK : q_Kok K) : lw_st_51 (q_R K) := by
  intro h p1 r hz
  obtain ⟨g, d⟩ := h
  have hr := r
  obtain ⟨a, b, hg, ht, hrm, -, hl⟩ := r
  rcases hl with ⟨hla, hn⟩ | ⟨t, h68, hla, hts, G, P, F, W, L, hL, hN, hS1, hS2⟩
  · obtain ⟨x, w, d2, e1, e2, e3⟩ := qn_back (a := a) (d := d) hn p1
    exact q_stI hr (q_jTB (s_X11_back g d p1 hg.2.1) e1) (q_jTB (s_X13_backn g _ p1 hg.2.1 hla) e2) (hr.ans hK e3)
  · obtain ⟨n, hn3, c1, c2, hS⟩ := hS2
    dsimp only at c1 c2 hS
    have no : ((p1 < 0) ∨ ¬ (p1 < Int32.ofNat n)) → ∃ (h1 h2 : JH) (x : Int32), j_lw h1 ∧ h1.1.2.2.2 = (g, d).1.2.2.2 ∧ h2.1.2.2.2 = h1.1.2.2.2 ∧ JM mi_X11_back 0 0 (g, d) [.ref 0, .int p1] (some (some (.int x), h1)) ∧ JM mi_X13_back 0 0 h1 [.ref 57, .int p1] (some (some (.int x), h2)) ∧ q_R K h2 ∧ h2.1.1 ≤ (g, d).1.1 + 15 := by
      intro hno
      have z2 : (j_sI d 0 11 1).1 57 20 = Int32.ofNat n := by rw [q_sI_o (by decide)]; exact c2
      have e1 : f_X11_back d p1 = (false, j_sI d 0 11 1) := by
        unfold f_X11_back f_X11_back_j15 j_let
        rcases hno with h | h
        · simp only [h, if_true, q_xde]
        · by_cases h0 : p1 < 0
          · simp only [h0, if_true, q_xde]
          · simp only [h0, c1, h, if_false, q_xde]
      have e2 : f_X13_back t (j_sI d 0 11 1) p1 = some (false, q_fin (q_dM d 1) 1) := by
        unfold f_X13_back f_X13_back_j24 j_let
        rcases hno with h | h
        · simp only [h, if_true, q_mde, q_dMe]
        · by_cases h0 : p1 < 0
          · simp only [h0, if_true, q_mde, q_dMe]
          · simp only [h0, z2, h, if_false, q_mde, q_dMe]
      exact q_stI hr (q_jTB (s_X11_back g d p1 hg.2.1) e1) (q_jPB (s_X13_back g _ t p1 hg.2.1 hts hla) e2) (hr.ans hK (q_ansd d (by decide)))
    by_cases h0 : p1 < 0
    · exact no (Or.inl h0)
    · by_cases h1 : p1 < Int32.ofNat n
      · obtain ⟨c, hc, rfl⟩ : ∃ c, c < n ∧ p1 = Int32.ofNat c := q_idx h0 (fun z => by
          rw [Int32.lt_iff_toInt_lt] at h1
          rw [Int32.le_iff_toInt_le] at z
          omega) (by omega)
        obtain ⟨dc, hdc⟩ : ∃ dc, dc = j_sI (j_sI (f_X4_set 22 d (d.1 29 c) (d.1 30 c) (d.1 31 c)) 24 4 0) 0 11 0 := ⟨_, rfl⟩
        have e1 : f_X11_back d (Int32.ofNat c) = (true, dc) := by
          have a1 : f_X11_at (d.1 (28 + 1)) 16 (Int32.ofNat c) = d.1 29 c := q_at (by omega) (by decide)
          have a2 : f_X11_at (d.1 (28 + 2)) 16 (Int32.ofNat c) = d.1 30 c := q_at (by omega) (by decide)
          have a3 : f_X11_at (d.1 (28 + 3)) 16 (Int32.ofNat c) = d.1 31 c := q_at (by omega) (by decide)
          unfold f_X11_back f_X7_bringBack j_let
          simp only [h0, c1, h1, a1, a2, a3, if_false, if_true, hdc]
        have co : ∀ b, b ≠ 0 → b ≠ 22 → b ≠ 24 → dc.1 b = d.1 b := fun b h0 h22 h24 => by rw [hdc, q_sI_o h0, q_sI_o h24, q_set_o h22]
        have c24 : dc.1 24 = upd (d.1 24) 4 0 := by rw [hdc, q_sI_o (by decide), q_sI_a, q_set_o (by decide)]
        have c22 : dc.1 22 = upd (upd (upd (d.1 22) 0 (d.1 29 c)) 1 (d.1 30 c)) 2 (d.1 31 c) := by rw [hdc, q_sI_o (by decide), q_sI_o (by decide), q_set_a]
        obtain ⟨d0, hd0⟩ : ∃ d0, d0 = j_sI dc 57 0 0 := ⟨_, rfl⟩
        have d0o : ∀ b, b ≠ 57 → d0.1 b = dc.1 b := fun b h57 => by rw [hd0, q_sI_o h57]
        obtain ⟨dl, hdl⟩ : ∃ dl, dl = q_row d0 59 (q_mix 9 (fun k => d0.1 62 (9 * c + k)) (d0.1 59)) := ⟨_, rfl⟩
        obtain ⟨dm, hdm⟩ : ∃ dm, dm = j_sI dl 57 19 0 := ⟨_, rfl⟩
        have e2 : f_X13_back t dc (Int32.ofNat c) = some (true, q_fin dm 0) := by
          have z2 : dc.1 57 20 = Int32.ofNat n := by rw [co 57 (by decide) (by decide) (by decide)]; exact c2
          have lp := q_backL t d0 (c := c) (by omega)
          rw [← hdl] at lp
          unfold f_X13_back j_let
          simp only [h0, z2, h1, ← hd0, lp, if_false, if_true, Option.bind_some, q_mgr, ← hdm]
        have mo : ∀ b, b ≠ 0 → b ≠ 22 → b ≠ 24 → b ≠ 59 → b ≠ 57 → dm.1 b = d.1 b := fun b h0 h22 h24 h59 h57 => by rw [hdm, q_sI_o h57, hdl, q_row_o h59, d0o b h57, co b h0 h22 h24]
        have s2 : q_sm2 d dm := by
          rw [hdm, hdl, hd0, hdc]
          unfold f_X4_set
          exact (((((((((q_sm2.refl d).sI rfl (by decide) (by decide) 0 _).sI rfl (by decide) (by decide) 1 _).sI rfl (by decide) (by decide) 2 _).sI rfl (by decide) (by decide) 4 _).f0 0).f57 rfl 0).row rfl (by decide) (by decide) _).f57 rfl 0)
        have m011 : dm.1 0 11 = 0 := by rw [hdm, q_sI_o (by decide), hdl, q_row_o (by decide), d0o 0 (by decide), hdc, q_sI_a]; rfl
        have m57 : ∀ k, k ≠ 0 → k ≠ 19 → dm.1 57 k = d.1 57 k := fun k k0 k19 => by rw [hdm, q_sI_a, q_upd_o k19, hdl, q_row_o (by decide), hd0, q_sI_a, q_upd_o k0, co 57 (by decide) (by decide) (by decide)]
        have m24 : dm.1 24 = upd (d.1 24) 4 0 := by rw [hdm, q_sI_o (by decide), hdl, q_row_o (by decide), d0o 24 (by decide), c24]
        have r2 : q_R K (g, q_fin dm 0) := by
          refine hr.up hK (q_fin_ans2 s2 m011 (by decide)) hg h68 hla hts hL ?_ ?_ ?_ ?_
          · rw [q_fin_o (b := 24) (by decide), q_fin_o (b := 28) (by decide), m24, mo 28 (by decide) (by decide) (by decide) (by decide) (by decide)]
            exact ⟨(q_upd_o (by decide)).trans hrm.1, hrm.2⟩
          · have m22 : dm.1 22 = dc.1 22 := by rw [hdm, q_sI_o (by decide), hdl, q_row_o (by decide), d0o 22 (by decide)]
            have m59 : ∀ k, k < 9 → dm.1 59 k = d.1 62 (9 * c + k) := fun k hk => by
              rw [hdm, q_sI_o (by decide), hdl, q_row_a]
              show (if k < 9 then d0.1 62 (9 * c + k) else _) = _
              rw [if_pos hk, d0o 62 (by decide), co 62 (by decide) (by decide) (by decide)]
            rw [q_fin_o (b := 22) (by decide), q_fin_o (b := 59) (by decide), m22, c22]
            exact (hS c hc).cv hL.1.1.2.1 m59
          · have m19 : dm.1 57 19 = 0 := by rw [hdm, q_sI_a]; rfl
            rw [q_fin_o (b := 24) (by decide), q_fin_57 (by decide) (by decide), m19, m24]
            exact ⟨0, by omega, q_upd_a _ _ _, rfl, fun i hi => absurd hi (by omega)⟩
          · rw [q_fin_o (b := 28) (by decide), q_fin_o (b := 29) (by decide), q_fin_o (b := 30) (by decide), q_fin_o (b := 31) (by decide), q_fin_o (b := 62) (by decide), q_fin_57 (by decide) (by decide), m57 20 (by decide) (by decide), mo 28 (by decide) (by decide) (by decide) (by decide) (by decide), mo 29 (by decide) (by decide) (by decide) (by decide) (by decide), mo 30 (by decide) (by decide) (by decide) (by decide) (by decide), mo 31 (by decide) (by decide) (by decide) (by decide) (by decide), mo 62 (by decide) (by decide) (by decide) (by decide) (by decide)]
            exact ⟨n, hn3, c1, c2, hS⟩
        exact q_stI hr (q_jTB (s_X11_back g d _ hg.2.1) e1) (q_jPB (s_X13_back g _ t _ hg.2.1 hts hla) e2) r2
      · exact no (Or.inr h1)
/-! image -/
def q_put9 (r v : Nat → Int32) (c n : Nat) (j : Nat) : Int32 := if 9 * c ≤ j ∧ j < 9 * c + n then v (j - 9 * c) else r j
theorem q_put9_0 (r v : Nat → Int32) (c : Nat) : q_put9 r v c 0 = r := by
  funext j
  exact if_neg (by omega)
theorem q_put9_s (r v : Nat → Int32) (c n : Nat) : upd (q_put9 r v c n) (9 * c + n) (v n) = q_put9 r v c (n + 1) := by
  funext j
  unfold upd q_put9
  by_cases h : j = 9 * c + n
  · rw [if_pos h, if_pos (by omega)]; congr 1; omega
  · rw [if_neg h]
    by_cases h2 : 9 * c ≤ j ∧ j < 9 * c + n
    · rw [if_pos h2, if_pos (by omega)]
    · rw [if_neg h2, if_neg (by omega)]
theorem q_imageL (t : Nat) (d : JD) {c : Nat} (hc : c < 3) (h20 : d.1 57 20 = Int32.ofNat c) : j_wh (f_X13_image_w34 t) j_fuel (0, d) = some (q_row d 62 (q_put9 (d.1 62) (d.1 59) c 9)) := by
  have h := q_run (F := f_X13_image_w34 t) (fun i => (Int32.ofNat i, q_row d 62 (q_put9 (d.1 62) (d.1 59) c i))) 9 (by decide) (e := q_row d 62 (q_put9 (d.1 62) (d.1 59) c 9))
    (fun i hi => by
      have k1 : ¬ ((9 : Int32) ≤ Int32.ofNat i) := q_go (n := 9) (by decide) hi
      have k2 : ¬ j_out (Int32.ofNat i) 9 := q_in (by omega) (by decide)
      have k3 : (Int32.ofNat i).toNatClampNeg = i := q_n (by omega)
      have k4 : (q_row d 62 (q_put9 (d.1 62) (d.1 59) c i)).1 59 = d.1 59 := q_row_o (by decide)
      have k5 : (q_row d 62 (q_put9 (d.1 62) (d.1 59) c i)).1 57 = d.1 57 := q_row_o (by decide)
      have k6 : ¬ j_out (Int32.ofNat (9 * c + i)) 27 := q_in (by omega) (by decide)
      have k7 : (Int32.ofNat (9 * c + i)).toNatClampNeg = 9 * c + i := q_n (by omega)
      unfold f_X13_image_w34
      simp only [k1, k2, k3, k4, k5, h20, q_ix9, k6, k7, if_false, q_s, q_sI_row, q_row_row, q_row_a, q_put9_s])
    (by
      have k1 : (9 : Int32) ≤ Int32.ofNat 9 := by decide
      unfold f_X13_image_w34
      simp only [k1, if_true])
  have e0 : (Int32.ofNat 0, q_row d 62 (q_put9 (d.1 62) (d.1 59) c 0)) = (0, d) := by rw [q_put9_0, q_row_self]; rfl
  rw [e0] at h
  exact h
theorem q_put_in {d : JD} {r c n : Nat} {v : Int32} (h : c < n) (hn : n < 2147483648) : f_X11_put r n d (Int32.ofNat c) v = j_sI d r c v := by
  unfold f_X11_put
  rw [if_neg (q_neg (by omega)), if_neg (by rw [q_le hn (by omega)]; omega), q_n (by omega)]
/-- a moment laid on a shelf that has room -/
theorem q_addL {s : Nat} (hs : s = 24 ∨ s = 28) {d : JD} {c n : Nat} (hc : c < n) (hn : n ≤ 16) (h4 : d.1 s 4 = Int32.ofNat c) (h3 : d.1 s 3 = Int32.ofNat n) : f_X7_addLatest 22 s d = some (j_sI (j_sI (j_sI (j_sI d (s + 1) c (d.1 22 0)) (s + 2) c (d.1 22 1)) (s + 3) c (d.1 22 2)) s 4 (Int32.ofNat (c + 1))) := by
  have k1 : Int32.ofNat c < Int32.ofNat n := by rw [q_lt (by omega) (by omega)]; exact hc
  have r1 : ∀ v b, (j_sI d (s + 1) c v).1 b = if b = s + 1 then upd (d.1 b) c v else d.1 b := fun v b => rfl
  have a1 : (j_sI d (s + 1) c (d.1 22 0)).1 s = d.1 s := q_sI_o (by omega)
  have a2 : (j_sI d (s + 1) c (d.1 22 0)).1 22 = d.1 22 := q_sI_o (by omega)
  have a3 : (j_sI (j_sI d (s + 1) c (d.1 22 0)) (s + 2) c (d.1 22 1)).1 s = d.1 s := (q_sI_o (by omega)).trans a1
  have a4 : (j_sI (j_sI d (s + 1) c (d.1 22 0)) (s + 2) c (d.1 22 1)).1 22 = d.1 22 := (q_sI_o (by omega)).trans a2
  have a5 : (j_sI (j_sI (j_sI d (s + 1) c (d.1 22 0)) (s + 2) c (d.1 22 1)) (s + 3) c (d.1 22 2)).1 s = d.1 s := (q_sI_o (by omega)).trans a3
  have p : ∀ (d : JD) (r : Nat) (v : Int32), f_X11_put r 16 d (Int32.ofNat c) v = j_sI d r c v := fun d r v => q_put_in (by omega) (by decide)
  unfold f_X7_addLatest f_X7_addLatest_j15 j_let
  simp only [h4, h3, k1, if_true, p, a1, a2, a3, a4, a5, q_s]
