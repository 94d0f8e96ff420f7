/-! tier two: the call land: a text without a fault; the step -/
theorem qp_settle (b : Nat) (d : JD) : (∀ x, x ≠ 22 → x ≠ 24 → x ≠ 28 → x ≠ 32 → x ≠ 38 → x ≠ 39 → (f_X11_settle b d).1 x = d.1 x) ∧ ((f_X11_settle b d).1 22 0 = d.1 b 6 ∧ (f_X11_settle b d).1 22 1 = 0 ∧ (f_X11_settle b d).1 22 2 = 0) ∧ ((f_X11_settle b d).1 24 4 = 0 ∧ (f_X11_settle b d).1 24 3 = d.1 24 3) ∧ ((f_X11_settle b d).1 28 4 = 0 ∧ (f_X11_settle b d).1 28 3 = d.1 28 3) ∧ (f_X11_settle b d).1 32 5 = -1 ∧ (f_X11_settle b d).1 38 0 = 0 ∧ (f_X11_settle b d).1 39 0 = 0 := by
  unfold f_X11_settle f_X2_forget f_X8_forget f_X1_forget f_X4_set
  refine ⟨fun x h22 h24 h28 h32 h38 h39 => ?_, ⟨?_, ?_, ?_⟩, ⟨?_, ?_⟩, ⟨?_, ?_⟩, ?_, ?_, ?_⟩
  · rw [q_sI_o h39, q_sI_o h38, q_sI_o h32, q_sI_o h28, q_sI_o h24, q_sI_o h22, q_sI_o h22, q_sI_o h22]
  · rw [q_sI_o (by decide), q_sI_o (by decide), q_sI_o (by decide), q_sI_o (by decide), q_sI_o (by decide), q_sI_ao _ _ _ (by decide), q_sI_ao _ _ _ (by decide), q_sI_aa]
  · rw [q_sI_o (by decide), q_sI_o (by decide), q_sI_o (by decide), q_sI_o (by decide), q_sI_o (by decide), q_sI_ao _ _ _ (by decide), q_sI_aa]
  · rw [q_sI_o (by decide), q_sI_o (by decide), q_sI_o (by decide), q_sI_o (by decide), q_sI_o (by decide), q_sI_aa]
  · rw [q_sI_o (by decide), q_sI_o (by decide), q_sI_o (by decide), q_sI_o (by decide), q_sI_aa]
  · rw [q_sI_o (by decide), q_sI_o (by decide), q_sI_o (by decide), q_sI_o (by decide), q_sI_ao _ _ _ (by decide), q_sI_o (by decide), q_sI_o (by decide), q_sI_o (by decide)]
  · rw [q_sI_o (by decide), q_sI_o (by decide), q_sI_o (by decide), q_sI_aa]
  · rw [q_sI_o (by decide), q_sI_o (by decide), q_sI_o (by decide), q_sI_ao _ _ _ (by decide), q_sI_o (by decide), q_sI_o (by decide), q_sI_o (by decide), q_sI_o (by decide)]
  · rw [q_sI_o (by decide), q_sI_o (by decide), q_sI_aa]
  · rw [q_sI_o (by decide), q_sI_aa]
  · rw [q_sI_aa]
theorem qp_landv {u : Nat} (hu : 68 ≤ u) (E : JD) : ∃ d2 : JD, (f_X13_asTold u E).bind (fun q => some (f_X13_good (f_X13_land_v u q) ((f_X13_land_v u q).1 u 4), (2 : Nat))) = some ((E.1 u 4, d2), 2) ∧ (∀ x, x ≠ 57 → x ≠ 59 → x ≠ 60 → d2.1 x = E.1 x) ∧ (∀ k, k < 6 → d2.1 59 k = E.1 (u + 6) k) ∧ (d2.1 59 6 = E.1 u 0 ∧ d2.1 59 7 = 0 ∧ d2.1 59 8 = 0) ∧ (d2.1 57 1 = 0 ∧ d2.1 57 2 = -1 ∧ d2.1 57 19 = 0 ∧ d2.1 57 20 = 0) ∧ ∀ k, k ≠ 1 → k ≠ 2 → k ≠ 19 → k ≠ 20 → d2.1 57 k = E.1 57 k := by
  rw [q_told u hu, Option.bind_some]
  generalize hq : q_row E 60 (q_mix 6 (E.1 (u + 6)) (E.1 60)) = q
  have o1 : ∀ x, x ≠ 60 → q.1 x = E.1 x := fun x hx => by rw [← hq, q_row_o hx]
  have o60 : ∀ k, k < 6 → q.1 60 k = E.1 (u + 6) k := fun k hk => by
    rw [← hq, q_row_a]
    exact if_pos hk
  have v1 : ∀ x, x ≠ 57 → x ≠ 59 → (f_X13_land_v u q).1 x = q.1 x := fun x h57 h59 => by
    unfold f_X13_land_v f_X13_land_x
    rw [q_sI_o h57, q_sI_o h57, q_sI_o h59, q_sI_o h59, q_sI_o h59, q_sI_o h59, q_sI_o h59, q_sI_o h59, q_sI_o h59, q_sI_o h59, q_sI_o h59]
  have v57 : (f_X13_land_v u q).1 57 = upd (upd (q.1 57) 19 0) 20 0 := by
    unfold f_X13_land_v f_X13_land_x
    rw [q_sI_a, q_sI_a, q_sI_o (by decide), q_sI_o (by decide), q_sI_o (by decide), q_sI_o (by decide), q_sI_o (by decide), q_sI_o (by decide), q_sI_o (by decide), q_sI_o (by decide), q_sI_o (by decide)]
  have v59 : (f_X13_land_v u q).1 59 = upd (upd (upd (upd (upd (upd (upd (upd (upd (q.1 59) 6 (q.1 u 0)) 7 0) 8 0) 0 (q.1 60 0)) 1 (q.1 60 1)) 2 (q.1 60 2)) 3 (q.1 60 3)) 4 (q.1 60 4)) 5 (q.1 60 5) := by
    unfold f_X13_land_v f_X13_land_x
    rw [q_sI_o (by decide), q_sI_o (by decide), q_sI_a, q_sI_a, q_sI_a, q_sI_a, q_sI_a, q_sI_a, q_sI_a, q_sI_a, q_sI_a, q_sI_o (show 60 ≠ 59 by decide), q_sI_o (show 60 ≠ 59 by decide), q_sI_o (show 60 ≠ 59 by decide)]
  refine ⟨(f_X13_good (f_X13_land_v u q) ((f_X13_land_v u q).1 u 4)).2, ?_, fun x h57 h59 h60 => ?_, fun k hk => ?_, ⟨?_, ?_, ?_⟩, ⟨?_, ?_, ?_, ?_⟩, fun k h1 h2 h19 h20 => ?_⟩
  · have : (f_X13_land_v u q).1 u 4 = E.1 u 4 := by rw [v1 u (by omega) (by omega), o1 u (by omega)]
    rw [← this]
    rfl
  · unfold f_X13_good
    dsimp only
    rw [q_sI_o h57, q_sI_o h57, v1 x h57 h59, o1 x h60]
  · unfold f_X13_good
    dsimp only
    rw [q_sI_o (by decide), q_sI_o (by decide), v59, ← o60 k hk]
    match k, hk with
    | 0, _ => rfl
    | 1, _ => rfl
    | 2, _ => rfl
    | 3, _ => rfl
    | 4, _ => rfl
    | 5, _ => rfl
    | n + 6, h => exact absurd h (by omega)
  · unfold f_X13_good
    dsimp only
    rw [q_sI_o (by decide), q_sI_o (by decide), v59, ← o1 u (by omega)]; rfl
  · unfold f_X13_good
    dsimp only
    rw [q_sI_o (by decide), q_sI_o (by decide), v59]; rfl
  · unfold f_X13_good
    dsimp only
    rw [q_sI_o (by decide), q_sI_o (by decide), v59]; rfl
  · unfold f_X13_good
    dsimp only
    rw [q_sI_ao _ _ _ (by decide), q_sI_aa]
  · unfold f_X13_good
    dsimp only
    rw [q_sI_aa]
  · unfold f_X13_good
    dsimp only
    rw [q_sI_ao _ _ _ (by decide), q_sI_ao _ _ _ (by decide), v57]; rfl
  · unfold f_X13_good
    dsimp only
    rw [q_sI_ao _ _ _ (by decide), q_sI_ao _ _ _ (by decide), v57]; rfl
  · unfold f_X13_good
    dsimp only
    rw [q_sI_ao _ _ _ h2, q_sI_ao _ _ _ h1, v57, q_upd_o h20, q_upd_o h19, o1 57 (by decide)]
/-- a text without a fault -/
theorem qp_landgood {g : JG} {d D e E d2 : JD} {a b : Nat} (r : q_R q_K0 (g, d)) (hg : q_G g a b) (f1 : ∀ x, x ≠ 1 → x ≠ 3 → x ≠ 19 → x ≠ 20 → x ≠ 21 → (x < b ∨ b + 14 < x) → D.1 x = d.1 x) (he : e = j_sI (j_sI (f_X11_settle b (f_X11_land_w D)) 0 11 0) 57 0 0) (f2 : ∀ x, x ≠ 57 → x < g.1 → E.1 x = e.1 x) (f6 : E.1 57 6 = 0) {G P F W L : Nat} (hL : q_LR G P F W L (q_rows D b) (q_rows E g.1)) (z7 : D.1 3 7 = 0) (z12 : E.1 57 12 = 0) (v1 : ∀ x, x ≠ 57 → x ≠ 59 → x ≠ 60 → d2.1 x = E.1 x) (v59 : ∀ k, k < 6 → d2.1 59 k = E.1 (g.1 + 6) k) (v6 : d2.1 59 6 = E.1 g.1 0 ∧ d2.1 59 7 = 0 ∧ d2.1 59 8 = 0) (v57 : d2.1 57 1 = 0 ∧ d2.1 57 2 = -1 ∧ d2.1 57 19 = 0 ∧ d2.1 57 20 = 0) (v5 : ∀ k, k ≠ 1 → k ≠ 2 → k ≠ 19 → k ≠ 20 → d2.1 57 k = E.1 57 k) : q_R q_K0 (gLn (gSw g a b), d2) := by
  obtain ⟨hab, g0, ga, gb, gco, gin⟩ := hg
  obtain ⟨a', b', hg', ht, hr, -, -⟩ := r
  dsimp only at ht hr
  have n68 : 67 < g.1 := by
    have := g0.lt 67 (by decide)
    omega
  obtain ⟨w1, w2, w3, w4⟩ := qp_wrow D
  obtain ⟨s1, s22, s24, s28, s32, s38, s39⟩ := qp_settle b (f_X11_land_w D)
  have ex : ∀ x, x ≠ 0 → x ≠ 57 → e.1 x = (f_X11_settle b (f_X11_land_w D)).1 x := fun x h0 h57 => by rw [he, q_sI_o h57, q_sI_o h0]
  have e0 : e.1 0 = upd ((f_X11_land_w D).1 0) 11 0 := by rw [he, q_sI_o (by decide), q_sI_a, s1 0 (by decide) (by decide) (by decide) (by decide) (by decide) (by decide)]
  have xe : ∀ x, x ≠ 57 → x ≠ 59 → x ≠ 60 → x < g.1 → d2.1 x = e.1 x := fun x h57 h59 h60 hx => by rw [v1 x h57 h59 h60, f2 x h57 hx]
  have xs : ∀ x, x ≠ 0 → x ≠ 57 → x ≠ 59 → x ≠ 60 → x < g.1 → d2.1 x = (f_X11_settle b (f_X11_land_w D)).1 x := fun x h0 h57 h59 h60 hx => by rw [xe x h57 h59 h60 hx, ex x h0 h57]
  have y0 : d2.1 0 = upd ((f_X11_land_w D).1 0) 11 0 := by rw [xe 0 (by decide) (by decide) (by decide) (by omega), e0]
  have x1 : d2.1 1 1 = 0 := by rw [xs 1 (by decide) (by decide) (by decide) (by decide) (by omega), s1 1 (by decide) (by decide) (by decide) (by decide) (by decide) (by decide)]; exact w2
  have x2 : d2.1 2 = d.1 2 := by rw [xs 2 (by decide) (by decide) (by decide) (by decide) (by omega), s1 2 (by decide) (by decide) (by decide) (by decide) (by decide) (by decide), w1 2 (by decide) (by decide), f1 2 (by decide) (by decide) (by decide) (by decide) (by decide) (by omega)]
  have x58 : d2.1 58 = d.1 58 := by rw [xs 58 (by decide) (by decide) (by decide) (by decide) (by omega), s1 58 (by decide) (by decide) (by decide) (by decide) (by decide) (by decide), w1 58 (by decide) (by decide), f1 58 (by decide) (by decide) (by decide) (by decide) (by decide) (by omega)]
  have rA : ∀ j, j < 15 → q_rows d2 b j = q_rows D b j := fun j hj => by
    show d2.1 (b + j) = D.1 (b + j)
    rw [xs (b + j) (by omega) (by omega) (by omega) (by omega) (by omega), s1 (b + j) (by omega) (by omega) (by omega) (by omega) (by omega) (by omega), w1 (b + j) (by omega) (by omega)]
  have rT : ∀ j, j < 15 → q_rows d2 g.1 j = q_rows E g.1 j := fun j hj => v1 (g.1 + j) (by omega) (by omega) (by omega)
  have hL2 := q_L_congr rA rT hL
  have k22 : d2.1 22 = (f_X11_settle b (f_X11_land_w D)).1 22 := xs 22 (by decide) (by decide) (by decide) (by decide) (by omega)
  have k24 : d2.1 24 = (f_X11_settle b (f_X11_land_w D)).1 24 := xs 24 (by decide) (by decide) (by decide) (by decide) (by omega)
  have k28 : d2.1 28 = (f_X11_settle b (f_X11_land_w D)).1 28 := xs 28 (by decide) (by decide) (by decide) (by decide) (by omega)
  have wD : ∀ x, x ≠ 0 → x ≠ 1 → x ≠ 3 → x ≠ 19 → x ≠ 20 → x ≠ 21 → (x < b ∨ b + 14 < x) → (f_X11_land_w D).1 x = d.1 x := fun x h0 h1 h3 h19 h20 h21 hb => by rw [w1 x h0 h1, f1 x h1 h3 h19 h20 h21 hb]
  have G0 := gSw_0 (a := a) (b := b) g0
  have GA := gSw_L (a := a) (b := b) ga (by omega)
  have GB := gSw_L (a := a) (b := b) gb (by omega)
  have sn : (gSw g a b).1 = g.1 := rfl
  refine ⟨b, a, ⟨by omega, gLn_0 G0, (qp_gCL (by omega) GB).2, (qp_gCL (by omega) GA).2, (qp_gLn_rf (gSw g a b) (by rw [sn]; omega) (by decide)).trans (gSw_co g a b), (qp_gLn_rf (gSw g a b) (by rw [sn]; omega) (by decide)).trans (gSw_in g a b)⟩, ?_, ?_, ?_, Or.inr ⟨g.1, by omega, gLn_la (gSw g a b), gLn_sh (g := gSw g a b) (by rw [sn]; omega), G, P, F, W, L, hL2, ?_, ⟨0, by decide, ?_, v57.2.2.1, fun i hi => absurd hi (by omega)⟩, ⟨0, by decide, ?_, v57.2.2.2, fun i hi => absurd hi (by omega)⟩⟩⟩
  · refine ⟨?_, ?_, ?_, ⟨0, by decide, x1⟩, ?_, ?_, ?_⟩
    · show d2.1 0 11 = d2.1 57 1
      rw [y0, q_upd_a, v57.1]
    · show d2.1 0 12 = d2.1 57 12
      rw [y0, q_upd_o (by decide), w3, z7, v5 12 (by decide) (by decide) (by decide) (by decide), z12]
    · show (if d2.1 0 11 = 4 then d2.1 0 13 else -1) = d2.1 57 2
      rw [y0, q_upd_a, if_neg (by decide), v57.2.1]
    · show d2.1 57 6 = d2.1 1 1
      rw [v5 6 (by decide) (by decide) (by decide) (by decide), f6, x1]
    · show d2.1 58 = d2.1 2
      rw [x58, x2]
      exact ht.2.2.2.2.2.1
    · show ∀ k, q_isb (d2.1 2 k)
      rw [x2]
      exact ht.2.2.2.2.2.2
  · show d2.1 24 3 = 16 ∧ d2.1 28 3 = 3
    rw [k24, k28, s24.2, s28.2, wD 24 (by decide) (by decide) (by decide) (by decide) (by decide) (by decide) (by omega), wD 28 (by decide) (by decide) (by decide) (by decide) (by decide) (by decide) (by omega)]
    exact hr
  · refine ⟨Or.inl ?_, Or.inl ?_, Or.inl ?_⟩
    · show d2.1 32 5 = -1
      rw [xs 32 (by decide) (by decide) (by decide) (by decide) (by omega)]; exact s32
    · show d2.1 38 0 = 0
      rw [xs 38 (by decide) (by decide) (by decide) (by decide) (by omega)]; exact s38
    · show d2.1 39 0 = 0
      rw [xs 39 (by decide) (by decide) (by decide) (by decide) (by omega)]; exact s39
  · show q_NR G (q_rows d2 b) (q_rows d2 g.1) (d2.1 22 0) (d2.1 22 1) (d2.1 22 2) (d2.1 59)
    obtain ⟨c1, c2, c3, c4⟩ := hL2
    have e6 : ∀ k, k < 6 → d2.1 59 k = q_rows d2 g.1 6 k := fun k hk => by rw [v59 k hk, rT 6 (by decide)]; rfl
    obtain ⟨H, hH, a0⟩ := c1.2.2.2.2.2.2.2.1
    have t0 := c1.2.2.2.2.2.2.1.1
    refine ⟨⟨fun k hk => by rw [e6 k hk]; exact c3.2.1.1 k hk, fun k h1 h2 => by rw [e6 k h2]; exact c3.2.1.2 k h1 h2⟩, ?_, ⟨H, H, ?_, hH, a0, ?_⟩, ?_, ?_, ⟨0, by decide, ?_⟩, ⟨0, by decide, ?_⟩, fun k hk _ => e6 k (by have := c1.1; omega)⟩
    · rw [k22, s22.1, w1 b (by omega) (by omega), q_cod_congr e6, ← c3.1, rA 0 (by decide)]
      rfl
    · rw [v6.1, ← a0, ← t0, rT 0 (by decide)]
      rfl
    · rw [q_cnt_congr 6 e6]
    · rw [v6.2.1, k22, s22.2.2]
    · rw [v6.2.2, k22, s22.2.1]
    · rw [k22, s22.2.2]; rfl
    · rw [k22, s22.2.1]; rfl
  · show d2.1 24 4 = _
    rw [k24, s24.1]; rfl
  · show d2.1 28 4 = _
    rw [k28, s28.1]; rfl
/-- the call land -/
theorem q_1 : lw_st_1 (q_R q_K0) := by
  intro h p1 r hz
  obtain ⟨g, d⟩ := h
  have hr := r
  obtain ⟨a, b, hg, ht, -, -, -⟩ := r
  dsimp only at ht hz
  have gb : b = 42 ∨ b = 4 := by have := hg.1; omega
  have n68 : 67 < g.1 := by
    have := hg.2.1.lt 67 (by decide)
    omega
  have J1 := s_X11_land g d a b p1 hg.2.1 hg.2.2.1 hg.2.2.2.1 (by omega) hg.2.2.2.2.1 hg.2.2.2.2.2
  have no : f_X11_land b d p1 = some (f_X11_refused d 2, false) → f_X13_land g.1 (j_sI d 0 11 2) p1 = some (f_X13_refused (j_sI (j_sI d 0 11 2) 57 0 0) 2, 0) → ∃ (h1 h2 : JH) (x : Int32), j_lw h1 ∧ h1.1.2.2.2 = g.2.2.2 ∧ h2.1.2.2.2 = h1.1.2.2.2 ∧ JM mi_X11_land 0 0 (g, d) [.ref 0, .int p1] (some (some (.int x), h1)) ∧ JM mi_X13_land 15 125 h1 [.ref 57, .int p1] (some (some (.int x), h2)) ∧ q_R q_K0 h2 ∧ h2.1.1 ≤ g.1 + 15 := by
    intro e1 e2
    have J2 := s_X13_land g (j_sI d 0 11 2) p1 hg.2.1 hz
    rw [e1] at J1
    rw [e2] at J2
    exact ⟨(g, j_sI d 0 11 2), (g, q_fin (j_sI (j_sI d 0 11 2) 57 0 0) 2), -1, ⟨hg.2.1.1, hg.2.1.ty 0 rfl, hg.2.1.ty 57 rfl, hg.2.1.ty 67 rfl⟩, rfl, rfl, J1, J2, qp_landno (n := p1) q_K0ok hr, Nat.le_add_right _ _⟩
  by_cases c1 : p1 < 0
  · refine no ?_ ?_
    · unfold f_X11_land; rw [if_pos c1]
    · unfold f_X13_land; rw [if_pos c1]
  · have e6 : (j_sI (j_sI d 0 11 2) 57 0 0).1 57 6 = d.1 1 1 := by rw [q_sI_ao _ _ _ (by decide), q_sI_o (by decide)]; exact ht.2.2.2.2.1
    by_cases c2 : p1 ≤ d.1 1 1
    · obtain ⟨nn, n9, en⟩ := ht.2.2.2.1
      have hin : f_X13_in p1 0 (Int32.ofNat nn) = true := by
        unfold f_X13_in
        rw [if_neg c1, if_neg (fun z => by
          rw [en] at c2
          exact absurd (Int32.lt_of_lt_of_le z c2) Int32.lt_irrefl)]
      obtain ⟨N, hN, eN⟩ := q_inr (by omega) hin
      subst eN
      have hB := ht.2.2.2.2.2.2
      obtain ⟨c, D, E, r1, -⟩ := qp_read (u := g.1) (N := N) gb (by omega) (d := d) (e := d) (by omega) hB ht.2.2.2.2.2.1
      have eX : f_X11_land b d (Int32.ofNat N) = if c = true then some (f_X11_land_t b (f_X11_land_w D)) else some (f_X11_refused (f_X11_land_w D) 4, false) := by
        unfold f_X11_land
        rw [if_neg c1, if_pos c2, r1, Option.bind_some]
      cases c
      · rw [if_neg (by decide)] at eX
        rw [eX] at J1
        have J2 := s_X13_land g (j_sI (f_X11_land_w D) 0 11 4) (Int32.ofNat N) hg.2.1 hz
        obtain ⟨w1, w2, w3, w4⟩ := qp_wrow D
        have D58 : D.1 58 = d.1 2 := by
          obtain ⟨c', D', E', r1', -, f1, -⟩ := qp_read (u := g.1) (N := N) gb (by omega) (d := d) (e := d) (by omega) hB ht.2.2.2.2.2.1
          rw [r1] at r1'
          cases r1'
          rw [f1 58 (by decide) (by decide) (by decide) (by decide) (by decide) (by omega)]
          exact ht.2.2.2.2.2.1
        obtain ⟨c', D', E', r1', r2, f1, f2, f3, f6, fin⟩ := qp_read (u := g.1) (N := N) gb (by omega) (d := d) (e := j_sI (j_sI (f_X11_land_w D) 0 11 4) 57 0 0) (by omega) hB (by rw [q_sI_o (by decide), q_sI_o (by decide), w1 58 (by decide) (by decide)]; exact D58)
        rw [r1] at r1'
        cases r1'
        rcases fin with ⟨z, -⟩ | ⟨-, hF⟩
        · cases z
        · have t6 : (j_sI (j_sI (f_X11_land_w D) 0 11 4) 57 0 0).1 57 6 = d.1 1 1 := by
            rw [q_sI_ao _ _ _ (by decide), q_sI_o (by decide), w1 57 (by decide) (by decide), f1 57 (by decide) (by decide) (by decide) (by decide) (by decide) (by omega)]
            exact ht.2.2.2.2.1
          obtain ⟨fn, q1, q6, qe⟩ := hF.2.2.2
          have eY : f_X13_land g.1 (j_sI (f_X11_land_w D) 0 11 4) (Int32.ofNat N) = some ((-1, j_sI (j_sI E' 57 1 4) 57 2 (E'.1 57 13)), 1) := by
            unfold f_X13_land
            rw [if_neg c1, t6, if_pos c2]
            have := congrArg (fun o => Option.bind o (fun q => f_X13_land_e g.1 q)) r2
            rw [Option.bind_assoc] at this
            refine this.trans ?_
            rw [Option.bind_some]
            unfold f_X13_land_e
            rw [if_neg (show ¬ (E'.1 57 12 ≤ 0) from fun z => by
              rw [← hF.2.1, qe] at z
              have := (q_le (i := 0) (by omega) (by decide)).mp z
              omega)]
          rw [eY] at J2
          exact ⟨(g, j_sI (f_X11_land_w D) 0 11 4), (gRd g, j_sI (j_sI E' 57 1 4) 57 2 (E'.1 57 13)), -1, ⟨hg.2.1.1, hg.2.1.ty 0 rfl, hg.2.1.ty 57 rfl, hg.2.1.ty 67 rfl⟩, rfl, rfl, J1, J2, qp_landbad hr hg f1 rfl f2 f3 f6 hF, Nat.le_refl _⟩
      · rw [if_pos rfl] at eX
        rw [eX] at J1
        obtain ⟨w1, w2, w3, w4⟩ := qp_wrow D
        obtain ⟨s1, -⟩ := qp_settle b (f_X11_land_w D)
        have G0 := gSw_0 (a := a) (b := b) hg.2.1
        have J2 := s_X13_land (gSw g a b) (j_sI (f_X11_settle b (f_X11_land_w D)) 0 11 0) (Int32.ofNat N) G0 hz
        have D58 : D.1 58 = d.1 2 := by
          obtain ⟨c', D', E', r1', -, f1, -⟩ := qp_read (u := g.1) (N := N) gb (by omega) (d := d) (e := d) (by omega) hB ht.2.2.2.2.2.1
          rw [r1] at r1'
          cases r1'
          rw [f1 58 (by decide) (by decide) (by decide) (by decide) (by decide) (by omega)]
          exact ht.2.2.2.2.2.1
        obtain ⟨c', D', E', r1', r2, f1, f2, f3, f6, fin⟩ := qp_read (u := g.1) (N := N) gb (by omega) (d := d) (e := j_sI (j_sI (f_X11_settle b (f_X11_land_w D)) 0 11 0) 57 0 0) (by omega) hB (by rw [q_sI_o (by decide), q_sI_o (by decide), s1 58 (by decide) (by decide) (by decide) (by decide) (by decide) (by decide), w1 58 (by decide) (by decide)]; exact D58)
        rw [r1] at r1'
        cases r1'
        rcases fin with ⟨-, ⟨G, P, F, W, L, hL⟩, z7, z12⟩ | ⟨z, -⟩
        · have t6 : (j_sI (j_sI (f_X11_settle b (f_X11_land_w D)) 0 11 0) 57 0 0).1 57 6 = d.1 1 1 := by
            rw [q_sI_ao _ _ _ (by decide), q_sI_o (by decide), s1 57 (by decide) (by decide) (by decide) (by decide) (by decide) (by decide), w1 57 (by decide) (by decide), f1 57 (by decide) (by decide) (by decide) (by decide) (by decide) (by omega)]
            exact ht.2.2.2.2.1
          obtain ⟨d2, y1, y2, y3, y4, y5, y6⟩ := qp_landv (u := g.1) (by omega) E'
          have eY : f_X13_land g.1 (j_sI (f_X11_settle b (f_X11_land_w D)) 0 11 0) (Int32.ofNat N) = some ((E'.1 g.1 4, d2), 2) := by
            unfold f_X13_land
            rw [if_neg c1, t6, if_pos c2]
            have := congrArg (fun o => Option.bind o (fun q => f_X13_land_e g.1 q)) r2
            rw [Option.bind_assoc] at this
            refine this.trans ?_
            rw [Option.bind_some]
            unfold f_X13_land_e
            rw [if_pos (by rw [z12]; decide)]
            exact y1
          have J2' : JM mi_X13_land 15 125 (gSw g a b, j_sI (f_X11_settle b (f_X11_land_w D)) 0 11 0) [.ref 57, .int (Int32.ofNat N)] (some (some (.int (E'.1 g.1 4)), (gLn (gSw g a b), d2))) := by
            have e : f_X13_land (gSw g a b).1 (j_sI (f_X11_settle b (f_X11_land_w D)) 0 11 0) (Int32.ofNat N) = some ((E'.1 g.1 4, d2), 2) := eY
            rw [e] at J2
            exact J2
          have ev : (f_X11_settle b (f_X11_land_w D)).1 b 4 = E'.1 g.1 4 := by
            rw [s1 b (by omega) (by omega) (by omega) (by omega) (by omega) (by omega), w1 b (by omega) (by omega)]
            exact hL.1.2.1.1.trans hL.1.2.1.2.symm
          have J1' : JM mi_X11_land 0 0 (g, d) [.ref 0, .int (Int32.ofNat N)] (some (some (.int (E'.1 g.1 4)), (gSw g a b, j_sI (f_X11_settle b (f_X11_land_w D)) 0 11 0))) := by
            rw [← ev]
            exact J1
          exact ⟨(gSw g a b, j_sI (f_X11_settle b (f_X11_land_w D)) 0 11 0), (gLn (gSw g a b), d2), _, ⟨G0.1, G0.ty 0 rfl, G0.ty 57 rfl, G0.ty 67 rfl⟩, rfl, rfl, J1', J2', qp_landgood hr hg f1 rfl f2 f6 hL z7 z12 y2 y3 y4 y5 y6, Nat.le_refl _⟩
        · cases z
    · refine no ?_ ?_
      · unfold f_X11_land; rw [if_neg c1, if_neg c2]
      · unfold f_X13_land; rw [if_neg c1, e6, if_neg c2]
