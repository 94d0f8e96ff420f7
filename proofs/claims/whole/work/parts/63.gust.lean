/-! tier two: gust -/
theorem q_yr_cnt {K3 fl : Nat → Int32} {x : Nat → Int32} {s : Nat} : ∀ n, n ≤ 6 → ∃ k, (q_yr K3 fl n x s).1 = Int32.ofNat k ∧ k + q_cnt (q_yr K3 fl n x s).2.1 6 = q_cnt x 6 ∧ (∀ g, K3 g = 2 → (q_yr K3 fl n x s).2.1 g = x g) ∧ ∀ g, n ≤ g → (q_yr K3 fl n x s).2.1 g = x g
  | 0, _ => ⟨0, rfl, Nat.zero_add _, fun _ _ => rfl, fun _ _ => rfl⟩
  | n + 1, hn => by
    obtain ⟨k, h1, h2, h3, h4⟩ := q_yr_cnt (K3 := K3) (fl := fl) (x := x) (s := s) n (by omega)
    rw [q_yr_s]
    generalize q_yr K3 fl n x s = q at h1 h2 h3 h4 ⊢
    unfold q_yr1
    by_cases c1 : K3 n = 2
    · rw [if_pos c1]; exact ⟨k, h1, h2, h3, fun g hg => h4 g (by omega)⟩
    · by_cases c2 : q.2.1 n = 0
      · rw [if_neg c1, if_pos c2]; exact ⟨k, h1, h2, h3, fun g hg => h4 g (by omega)⟩
      · by_cases c3 : fl n ≤ Int32.ofNat ((75 * q.2.2 + 74) % 65537 % 100)
        · rw [if_neg c1, if_neg c2, if_pos c3]; exact ⟨k, h1, h2, h3, fun g hg => h4 g (by omega)⟩
        · rw [if_neg c1, if_neg c2, if_neg c3]
          have hd := q_cnt_dn (x := q.2.1) (g := n) c2 (n := 6) (by omega)
          refine ⟨k + 1, by rw [h1]; exact q_s k, ?_, fun g hg => ?_, fun g hg => ?_⟩
          · show k + 1 + q_cnt (upd q.2.1 n 0) 6 = _
            omega
          · show upd q.2.1 n 0 g = _
            rw [q_upd_o (fun z => c1 (by rw [← z]; exact hg))]; exact h3 g hg
          · show upd q.2.1 n 0 g = _
            rw [q_upd_o (by omega)]; exact h4 g (by omega)
theorem q_gustL {t G : Nat} (h68 : 68 ≤ t) (hG : G ≤ 6) (c : Int32) {d : JD} (h4 : d.1 t 4 = Int32.ofNat G) : j_wh (f_X13_gust_w63 t c) j_fuel (0, d) = some (q_row d 59 (q_mix G (d.1 60) (d.1 59))) := by
  have h := q_run (F := f_X13_gust_w63 t c) (fun i => (Int32.ofNat i, q_row d 59 (q_mix i (d.1 60) (d.1 59)))) G (by omega) (e := q_row d 59 (q_mix G (d.1 60) (d.1 59)))
    (fun i hi => by
      have k1 := q_go (n := G) (by omega) hi
      have k2 : ¬ j_out (Int32.ofNat i) 6 := q_in (by omega) (by decide)
      have k3 : ¬ j_out (Int32.ofNat i) 9 := q_in (by omega) (by decide)
      have k4 : (Int32.ofNat i).toNatClampNeg = i := q_n (by omega)
      have k5 : (q_row d 59 (q_mix i (d.1 60) (d.1 59))).1 60 = d.1 60 := q_row_o (by decide)
      have k6 : (q_row d 59 (q_mix i (d.1 60) (d.1 59))).1 t = d.1 t := q_row_o (by omega)
      unfold f_X13_gust_w63
      simp only [k6, h4, k1, k2, k3, k4, k5, if_false, q_s, q_sI_row, q_row_row, q_row_a, q_mix_upd])
    (by
      have k1 := q_end (n := G) (by omega)
      have k6 : (q_row d 59 (q_mix G (d.1 60) (d.1 59))).1 t = d.1 t := q_row_o (by omega)
      unfold f_X13_gust_w63
      simp only [k6, h4, k1, if_true])
  have e0 : (Int32.ofNat 0, q_row d 59 (q_mix 0 (d.1 60) (d.1 59))) = (0, d) := by rw [q_mix_0, q_row_self]; rfl
  rw [e0] at h
  exact h
theorem q_999 : Int32.ofNat 999 = 999 := by decide
theorem q_999a : ¬ ((999 : Int32) < 999) := by decide
theorem q_999b {y : Nat} (h : y < 999) : Int32.ofNat y < 999 := q_999 ▸ (q_lt (i := 999) (by omega) (by decide)).mpr h
theorem q_999c {y : Nat} (hy : y ≤ 999) (h : ¬ y = 999) : ¬ (Int32.ofNat y = 999) := fun z => h ((q_eq (i := 999) (by omega) (by decide)).mp (z.trans q_999.symm))
theorem q_47 {K : q_K} (hK : q_Kok K) : lw_st_47 (q_R K) := by
  intro h r hz
  obtain ⟨g, d⟩ := h
  have hr := r
  obtain ⟨a, b, hg, ht, hrm, -, hl⟩ := r
  rcases hl with ⟨hla, hn⟩ | ⟨t, h68, hla, hts, G, P, F, W, L, hL, hN, hS1, hS2⟩
  · obtain ⟨x, w, d2, e1, e2, e3⟩ := qn_gust (a := a) (d := d) hn
    exact q_stI hr (q_jP (s_X11_gust g d a hg.2.1 hg.2.2.1 hg.2.2.2.2.1) e1) (q_jT (s_X13_gustn g _ hg.2.1 hla) e2) (hr.ans hK e3)
  · have hG := hL.1.1.2.1
    have k1 : f_X11_hasLand (d.1 a) = true := q_hl1 (A := q_rows d a) (T := q_rows d t) hL
    obtain ⟨⟨hv, hvz⟩, hw, ⟨n0, H, v6, hH, eH, ecnt⟩, v7, v8, ⟨yy, hyy, ey⟩, ⟨ss, hss, es⟩, hgd⟩ := hN
    dsimp only at hv hvz hw v6 eH ecnt v7 v8 ey es hgd hrm
    by_cases h9 : yy = 999
    · have z1 : ¬ (d.1 22 2 < 999) := by rw [ey, h9, q_999]; exact q_999a
      have z2 : (j_sI d 0 11 3).1 59 7 = 999 := by rw [q_sI_o (by decide), v7, ey, h9]; exact q_999
      have e1 : f_X11_gust a d = some (-1, j_sI d 0 11 3) := by
        unfold f_X11_gust j_let
        simp only [k1, z1, if_true, if_false, q_xre]
      have e2 : f_X13_gust t (j_sI d 0 11 3) = some (-1, q_fin (q_dM d 3) 3) := by
        unfold f_X13_gust j_let
        simp only [z2, if_true, q_ref, q_dMe]
      exact q_stI hr (q_jP (s_X11_gust g d a hg.2.1 hg.2.2.1 hg.2.2.2.2.1) e1) (q_jP (s_X13_gust g _ t hg.2.1 hts hla) e2) (hr.ans hK (q_ansd d (by decide)))
    · have hN : q_NR G (q_rows d a) (q_rows d t) (d.1 22 0) (d.1 22 1) (d.1 22 2) (d.1 59) := ⟨⟨hv, hvz⟩, hw, ⟨n0, H, v6, hH, eH, ecnt⟩, v7, v8, ⟨yy, hyy, ey⟩, ⟨ss, hss, es⟩, hgd⟩
      have z1 : d.1 22 2 < 999 := by rw [ey]; exact q_999b (by omega)
      have z3 : ¬ (Int32.ofNat yy = 999) := q_999c hyy h9
      obtain ⟨c, hc, c1, c2, hS⟩ := hS1
      obtain ⟨d1, a1, C1⟩ := q_remC hc c1 hrm.1
      have co := C1.2.2.2.2.2
      have d22 : d1.1 22 = d.1 22 := co 22 (by decide) (by decide) (by decide) (by decide)
      obtain ⟨dx, hdx⟩ : ∃ dx, dx = q_mix 6 (d.1 59) (d.1 60) := ⟨_, rfl⟩
      have xk : ∀ k, k < 6 → dx k = d.1 59 k := fun k hk => by rw [hdx]; exact if_pos hk
      obtain ⟨hx, hcx⟩ := q_way hN xk
      have hA1 : ∀ j, j < 15 → d1.1 (a + j) = d.1 (a + j) := fun j hj => co _ (by have := hg.a; omega) (by have := hg.a; omega) (by have := hg.a; omega) (by have := hg.a; omega)
      have hT1 : ∀ j, j < 15 → d1.1 (t + j) = d.1 (t + j) := fun j hj => co _ (by omega) (by omega) (by omega) (by omega)
      have bl := q_blow (a := a) (t := t) (m := 22) (d := d1) (q_L_congr hA1 hT1 hL) hg.a (Or.inl rfl) hx hss (by rw [d22]; exact hcx.symm) (by rw [d22]; exact es)
      rw [hT1 3 (by decide), q_fl_eq hA1, d22] at bl
      obtain ⟨Y, hY⟩ : ∃ Y, Y = q_yr (d.1 (t + 3)) (q_fl (q_rows d a)) G dx ss := ⟨_, rfl⟩
      have yok : q_dg Y.2.1 ∧ Y.2.2 < 65537 := by rw [hY]; exact q_yr_ok hx hss G
      obtain ⟨kf, y1, y2, y3, y4⟩ : ∃ k, Y.1 = Int32.ofNat k ∧ k + q_cnt Y.2.1 6 = q_cnt dx 6 ∧ (∀ g, d.1 (t + 3) g = 2 → Y.2.1 g = dx g) ∧ ∀ g, G ≤ g → Y.2.1 g = dx g := by rw [hY]; exact q_yr_cnt G hG
      rw [← hY] at bl
      obtain ⟨db, hdb⟩ : ∃ db, db = q_row d1 22 (upd (q_mr (d.1 22) Y.2.1 Y.2.2) 2 (d.1 22 2 + 1)) := ⟨_, rfl⟩
      rw [← hdb] at bl
      obtain ⟨dc, hdc⟩ : ∃ dc, dc = j_sI db 0 11 0 := ⟨_, rfl⟩
      have e1 : f_X11_gust a d = some (Y.1, dc) := by
        unfold f_X11_gust j_let
        simp only [k1, z1, if_true, a1, Option.bind_some, bl, q_xan, ← hdc]
      have Cc : dc.1 0 11 = 0 ∧ (∀ k, k ≠ 11 → dc.1 0 k = d1.1 0 k) ∧ ∀ b, b ≠ 0 → b ≠ 22 → b ≠ 23 → dc.1 b = d1.1 b := by
        refine ⟨by rw [hdc, q_sI_a]; rfl, fun k hk => by rw [hdc, q_sI_a, q_upd_o hk, hdb, q_row_o (by decide)], fun b b0 b22 _ => by rw [hdc, q_sI_o b0, hdb, q_row_o b22]⟩
      have dcr : ∀ b, b ≠ 0 → b ≠ 22 → b ≠ 23 → b ≠ 24 → b ≠ 25 → b ≠ 26 → b ≠ 27 → dc.1 b = d.1 b := fun b b0 b22 b23 e1 e2 e3 e4 => (Cc.2.2 b b0 b22 b23).trans (co b e1 e2 e3 e4)
      have dc57 : dc.1 57 = d.1 57 := dcr 57 (by decide) (by decide) (by decide) (by decide) (by decide) (by decide) (by decide)
      have dc22 : dc.1 22 = upd (q_mr (d.1 22) Y.2.1 Y.2.2) 2 (d.1 22 2 + 1) := by rw [hdc, q_sI_o (by decide), hdb, q_row_a]
      obtain ⟨d0, hd0⟩ : ∃ d0, d0 = j_sI dc 57 0 0 := ⟨_, rfl⟩
      have d019 : d0.1 57 19 = Int32.ofNat c := by rw [hd0, q_sI_a, q_upd_o (by decide), dc57]; exact c2
      have d0o : ∀ b, b ≠ 57 → d0.1 b = dc.1 b := fun b hb => by rw [hd0, q_sI_o hb]
      obtain ⟨dR, b1, b2, b3, b4, b5⟩ := q_remM hc d019
      have r61 : d0.1 61 = d.1 61 := (d0o 61 (by decide)).trans (dcr 61 (by decide) (by decide) (by decide) (by decide) (by decide) (by decide) (by decide))
      have r59 : d0.1 59 = d.1 59 := (d0o 59 (by decide)).trans (dcr 59 (by decide) (by decide) (by decide) (by decide) (by decide) (by decide) (by decide))
      have r60 : d0.1 60 = d.1 60 := (d0o 60 (by decide)).trans (dcr 60 (by decide) (by decide) (by decide) (by decide) (by decide) (by decide) (by decide))
      rw [r61, r59] at b2
      have R59 : dR.1 59 = d.1 59 := (b5 59 (by decide) (by decide)).trans r59
      have R60 : dR.1 60 = d.1 60 := (b5 60 (by decide) (by decide)).trans r60
      have wk : f_X13_works dR = some (q_row dR 60 dx) := by rw [q_works dR, R59, R60, hdx]
      have w59 : (q_row dR 60 dx).1 59 = d.1 59 := by rw [q_row_o (by decide)]; exact R59
      obtain ⟨d4, hd4⟩ : ∃ d4, d4 = j_sI (q_row dR 60 dx) 57 29 (Int32.ofNat ss) := ⟨_, rfl⟩
      have o4 : ∀ b, b ≠ 57 → b ≠ 60 → d4.1 b = dR.1 b := fun b b57 b60 => by rw [hd4, q_sI_o b57, q_row_o b60]
      have d460 : d4.1 60 = dx := by rw [hd4, q_sI_o (by decide), q_row_a]
      have d429 : d4.1 57 29 = Int32.ofNat ss := by rw [hd4, q_sI_a]; rfl
      have oR : ∀ b, b ≠ 57 → b ≠ 61 → b ≠ 0 → b ≠ 22 → b ≠ 23 → b ≠ 24 → b ≠ 25 → b ≠ 26 → b ≠ 27 → dR.1 b = d.1 b := fun b b57 b61 b0 b22 b23 e1 e2 e3 e4 => (b5 b b57 b61).trans ((d0o b b57).trans (dcr b b0 b22 b23 e1 e2 e3 e4))
      have hA4 : ∀ j, j < 15 → d4.1 (a + j) = d.1 (a + j) := fun j hj => by
        have := hg.a
        rw [o4 _ (by omega) (by omega), oR _ (by omega) (by omega) (by omega) (by omega) (by omega) (by omega) (by omega) (by omega) (by omega)]
      have hT4 : ∀ j, j < 15 → d4.1 (t + j) = d.1 (t + j) := fun j hj => by rw [o4 _ (by omega) (by omega), oR _ (by omega) (by omega) (by omega) (by omega) (by omega) (by omega) (by omega) (by omega) (by omega)]
      have yr := q_year (a := a) (t := t) (d := d4) h68 (q_L_congr hA4 hT4 hL) hx hss d460 d429
      rw [hT4 3 (by decide), q_fl_eq hA4, ← hY] at yr
      obtain ⟨d5, hd5⟩ : ∃ d5, d5 = q_m2 d4 Y.2.1 (Int32.ofNat Y.2.2) := ⟨_, rfl⟩
      rw [← hd5] at yr
      have d5t : d5.1 t 4 = Int32.ofNat G := by
        rw [hd5, q_m2_o (by omega) (by omega)]
        have := hT4 0 (by decide)
        rw [show d4.1 t = d.1 t from this]
        exact hL.1.2.1.2
      have d559 : d5.1 59 = d.1 59 := by rw [hd5, q_m2_o (by decide) (by decide), o4 59 (by decide) (by decide)]; exact R59
      have d560 : d5.1 60 = Y.2.1 := by rw [hd5]; exact q_m2_x _ _ _
      have gl := q_gustL h68 hG Y.1 d5t
      rw [d559, d560] at gl
      obtain ⟨d6, hd6⟩ : ∃ d6, d6 = q_row d5 59 (q_mix G Y.2.1 (d.1 59)) := ⟨_, rfl⟩
      rw [← hd6] at gl
      have g59 : d6.1 59 = q_mix G Y.2.1 (d.1 59) := by rw [hd6, q_row_a]
      have g6 : d6.1 59 6 = Int32.ofNat n0 := by rw [g59]; exact (if_neg (by omega)).trans v6
      have g7 : d6.1 59 7 = Int32.ofNat yy := by rw [g59]; exact (if_neg (by omega)).trans (v7.trans ey)
      have g29 : d6.1 57 29 = Int32.ofNat Y.2.2 := by rw [hd6, q_row_o (by decide), hd5]; exact q_m2_s _ _ _
      obtain ⟨dm, hdm⟩ : ∃ dm, dm = j_sI (j_sI (j_sI d6 59 6 (Int32.ofNat n0 + Y.1)) 59 7 (Int32.ofNat (yy + 1))) 59 8 (Int32.ofNat Y.2.2) := ⟨_, rfl⟩
      have e2 : f_X13_gust t dc = some (Y.1, q_fin dm 0) := by
        have z4 : dc.1 59 7 = Int32.ofNat yy := by rw [dcr 59 (by decide) (by decide) (by decide) (by decide) (by decide) (by decide) (by decide), v7, ey]
        have z5 : (q_row dR 60 dx).1 59 8 = Int32.ofNat ss := by rw [w59, v8, es]
        unfold f_X13_gust
        rw [if_neg (by rw [z4]; exact z3), ← hd0, b1, Option.bind_some, wk, Option.bind_some, z5, ← hd4, yr, Option.bind_some]
        dsimp only
        rw [gl, Option.bind_some, g6, g7, g29, q_s, ← hdm]
        unfold j_let
        rw [q_good]
      have CR : dR.1 61 = q_put9 (q_ov c (d.1 61)) (d.1 59) (q_c0 c) 9 ∧ dR.1 57 19 = Int32.ofNat (q_c0 c + 1) ∧ (∀ k, k ≠ 0 → k ≠ 19 → dR.1 57 k = dc.1 57 k) ∧ ∀ b, b ≠ 57 → b ≠ 61 → dR.1 b = dc.1 b :=
        ⟨b2, b3, fun k k0 k19 => by rw [b4 k k19, hd0, q_sI_a, q_upd_o k0], fun b x1 x2 => (b5 b x1 x2).trans (d0o b x1)⟩
      have mo : ∀ b, b ≠ 57 → b ≠ 59 → b ≠ 60 → dm.1 b = dR.1 b := fun b b57 b59 b60 => by rw [hdm, q_sI_o b59, q_sI_o b59, q_sI_o b59, hd6, q_row_o b59, hd5, q_m2_o b57 b60, o4 b b57 b60]
      have m57 : ∀ k, q_f57 k = false → dm.1 57 k = dR.1 57 k := fun k hk => by
        have ne : k ≠ 29 := fun z => by rw [z] at hk; cases hk
        rw [hdm, q_sI_o (by decide), q_sI_o (by decide), q_sI_o (by decide), hd6, q_row_o (by decide), hd5, q_m2_k ne, hd4, q_sI_a, q_upd_o ne, q_row_o (by decide)]
      have m59 : dm.1 59 = upd (upd (upd (q_mix G Y.2.1 (d.1 59)) 6 (Int32.ofNat n0 + Y.1)) 7 (Int32.ofNat (yy + 1))) 8 (Int32.ofNat Y.2.2) := by rw [hdm, q_sI_a, q_sI_a, q_sI_a, g59]
      have m22 : dm.1 22 = upd (q_mr (d.1 22) Y.2.1 Y.2.2) 2 (d.1 22 2 + 1) := by rw [mo 22 (by decide) (by decide) (by decide), CR.2.2.2 22 (by decide) (by decide), dc22]
      have lowv : ∀ k, k < 6 → dm.1 59 k = Y.2.1 k := fun k hk => by
        rw [m59, q_upd_o (by omega), q_upd_o (by omega), q_upd_o (by omega)]
        by_cases ck : k < G
        · exact if_pos ck
        · rw [y4 k (by omega), xk k hk]; exact if_neg ck
      have hN' : q_NR G (q_rows d a) (q_rows d t) (dm.1 22 0) (dm.1 22 1) (dm.1 22 2) (dm.1 59) := by
        rw [m22]
        refine ⟨⟨fun j hj => by rw [lowv j hj]; exact yok.1 j hj, fun j hj hj6 => by rw [lowv j hj6, y4 j hj, xk j hj6]; exact hvz j hj hj6⟩, (q_cod_congr lowv).symm, ⟨n0 + kf, H, ?_, hH, eH, ?_⟩, ?_, ?_, ⟨yy + 1, by omega, ?_⟩, ⟨Y.2.2, yok.2, rfl⟩, fun j hj hk => ?_⟩
        · rw [m59, q_upd_o (by decide), q_upd_o (by decide), q_upd_a, y1, Int32.ofNat_add]
        · rw [q_cnt_congr 6 lowv]
          have := q_cnt_congr 6 xk
          omega
        · rw [m59, q_upd_o (by decide), q_upd_a, q_upd_a, ey, q_s]
        · rw [m59, q_upd_a]; rfl
        · rw [q_upd_a, ey, q_s]
        · rw [lowv j (by omega), y3 j hk, xk j (by omega)]; exact hgd j hj hk
      have r2 := hr.act hK hg hrm.2 h68 hla hts hL hN hc hS hS2 C1 Cc CR ⟨mo, m57⟩ hN'
      exact q_stI hr (q_jP (s_X11_gust g d a hg.2.1 hg.2.2.1 hg.2.2.2.2.1) e1) (q_jP (s_X13_gust g _ t hg.2.1 hts hla) e2) r2
