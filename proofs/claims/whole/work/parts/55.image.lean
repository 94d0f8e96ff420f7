/-! tier two: image; the past remembered -/
theorem q_SH.push {G : Nat} (hG : G ≤ 6) {A T : Nat → Nat → Int32} {most c : Nat} {r0 r1 r2 r0' r1' r2' v v' : Nat → Int32} {w s y : Int32} {x : Nat → Int32} (hc : c < most) (h : ∀ i, i < c → q_NR G A T (r0 i) (r1 i) (r2 i) (fun k => v (9 * i + k))) (hN : q_NR G A T w s y x) (e0 : ∀ i, i < c → r0' i = r0 i ∧ r1' i = r1 i ∧ r2' i = r2 i) (ec : r0' c = w ∧ r1' c = s ∧ r2' c = y) (ev : ∀ i, i < c → ∀ k, k < 9 → v' (9 * i + k) = v (9 * i + k)) (evc : ∀ k, k < 9 → v' (9 * c + k) = x k) {n1 n2 : Int32} (h1 : n1 = Int32.ofNat (c + 1)) (h2 : n2 = Int32.ofNat (c + 1)) : q_SH G A T most n1 n2 r0' r1' r2' v' := by
  refine ⟨c + 1, hc, h1, h2, fun i hi => ?_⟩
  by_cases e : i = c
  · subst e
    rw [ec.1, ec.2.1, ec.2.2]
    exact hN.cv hG (fun k hk => evc k hk)
  · have hi' : i < c := by omega
    rw [(e0 i hi').1, (e0 i hi').2.1, (e0 i hi').2.2]
    exact (h i hi').cv hG (fun k hk => ev i hi' k hk)
theorem q_put9_old {r v : Nat → Int32} {c i k : Nat} (hi : i < c) (hk : k < 9) : q_put9 r v c 9 (9 * i + k) = r (9 * i + k) := if_neg (by omega)
theorem q_put9_new {r v : Nat → Int32} {c k : Nat} (hk : k < 9) : q_put9 r v c 9 (9 * c + k) = v k := by
  unfold q_put9
  rw [if_pos (by omega)]
  congr 1
  omega
theorem q_50 {K : q_K} (hK : q_Kok K) : lw_st_50 (q_R K) := by
  intro h r hz
  obtain ⟨g, d⟩ := h
  have hr := r
  obtain ⟨a, b, hg, ht, hrm, -, hl⟩ := r
  rcases hl with ⟨hla, hn⟩ | ⟨t, h68, hla, hts, G, P, F, W, L, hL, hN, hS1, hS2⟩
  · obtain ⟨x, w, d2, e1, e2, e3⟩ := qn_image (a := a) (d := d) hn
    exact q_stI hr (q_jP (s_X11_image g d a hg.2.1 hg.2.2.1 hg.2.2.2.2.1) e1) (q_jT (s_X13_imagen g _ hg.2.1 hla) e2) (hr.ans hK e3)
  · have k1 : f_X11_hasLand (d.1 a) = true := q_hl1 (A := q_rows d a) (T := q_rows d t) hL
    obtain ⟨c, hc3, c1, c2, hS⟩ := hS2
    dsimp only at c1 c2 hS hrm
    by_cases c0 : c = 3
    · subst c0
      have z1 : ¬ (d.1 28 4 < 3) := by rw [c1]; decide
      have z2 : (j_sI d 0 11 3).1 57 20 = 3 := by rw [q_sI_o (by decide)]; exact c2
      have e1 : f_X11_image a d = some (-1, j_sI d 0 11 3) := by
        unfold f_X11_image j_let
        simp only [k1, z1, if_true, if_false, q_xre]
      have e2 : f_X13_image t (j_sI d 0 11 3) = some (-1, q_fin (q_dM d 3) 3) := by
        unfold f_X13_image j_let
        simp only [z2, if_true, q_ref, q_dMe]
      exact q_stI hr (q_jP (s_X11_image g d a hg.2.1 hg.2.2.1 hg.2.2.2.2.1) e1) (q_jP (s_X13_image g _ t hg.2.1 hts hla) e2) (hr.ans hK (q_ansd d (by decide)))
    · have z1 : d.1 28 4 < 3 := by rw [c1]; exact (q_lt (i := 3) (by omega) (by decide)).mpr (by omega)
      have z3 : ¬ (Int32.ofNat c = 3) := fun z => c0 ((q_eq (i := 3) (by omega) (by decide)).mp z)
      have hm : Int32.ofNat (c + 1) - 1 = Int32.ofNat c := q_pred (by omega)
      obtain ⟨d1, hd1⟩ : ∃ d1, d1 = j_sI (j_sI (j_sI (j_sI d 29 c (d.1 22 0)) 30 c (d.1 22 1)) 31 c (d.1 22 2)) 28 4 (Int32.ofNat (c + 1)) := ⟨_, rfl⟩
      have ad : f_X7_addLatest 22 28 d = some d1 := by rw [hd1]; exact q_addL (Or.inr rfl) (n := 3) (by omega) (by decide) c1 hrm.2
      have l28 : d1.1 28 = upd (d.1 28) 4 (Int32.ofNat (c + 1)) := by rw [hd1, q_sI_a, q_sI_o (by decide), q_sI_o (by decide), q_sI_o (by decide)]
      have l29 : d1.1 29 = upd (d.1 29) c (d.1 22 0) := by rw [hd1, q_sI_o (by decide), q_sI_o (by decide), q_sI_o (by decide), q_sI_a]
      have l30 : d1.1 30 = upd (d.1 30) c (d.1 22 1) := by rw [hd1, q_sI_o (by decide), q_sI_o (by decide), q_sI_a, q_sI_o (by decide)]
      have l31 : d1.1 31 = upd (d.1 31) c (d.1 22 2) := by rw [hd1, q_sI_o (by decide), q_sI_a, q_sI_o (by decide), q_sI_o (by decide)]
      have lo : ∀ b, b ≠ 28 → b ≠ 29 → b ≠ 30 → b ≠ 31 → d1.1 b = d.1 b := fun b b1 b2 b3 b4 => by rw [hd1, q_sI_o b1, q_sI_o b4, q_sI_o b3, q_sI_o b2]
      obtain ⟨dc, hdc⟩ : ∃ dc, dc = j_sI d1 0 11 0 := ⟨_, rfl⟩
      have e1 : f_X11_image a d = some (Int32.ofNat c, dc) := by
        have l284 : d1.1 28 4 = Int32.ofNat (c + 1) := by rw [l28]; exact q_upd_a _ _ _
        unfold f_X11_image j_let
        simp only [k1, z1, if_true, ad, Option.bind_some, q_xan, l284, hm, ← hdc]
      obtain ⟨d0, hd0⟩ : ∃ d0, d0 = j_sI dc 57 0 0 := ⟨_, rfl⟩
      have o0 : ∀ b, b ≠ 0 → b ≠ 57 → d0.1 b = d1.1 b := fun b b0 b57 => by rw [hd0, q_sI_o b57, hdc, q_sI_o b0]
      have c57 : ∀ k, k ≠ 0 → d0.1 57 k = d.1 57 k := fun k hk => by rw [hd0, q_sI_a, q_upd_o hk, hdc, q_sI_o (by decide), lo 57 (by decide) (by decide) (by decide) (by decide)]
      obtain ⟨dl, hdl⟩ : ∃ dl, dl = q_row d0 62 (q_put9 (d0.1 62) (d0.1 59) c 9) := ⟨_, rfl⟩
      obtain ⟨dm, hdm⟩ : ∃ dm, dm = j_sI dl 57 20 (Int32.ofNat (c + 1)) := ⟨_, rfl⟩
      have e2 : f_X13_image t dc = some (Int32.ofNat c, q_fin dm 0) := by
        have z2 : dc.1 57 20 = Int32.ofNat c := by rw [hdc, q_sI_o (by decide), lo 57 (by decide) (by decide) (by decide) (by decide)]; exact c2
        have lp := q_imageL t d0 (c := c) (by omega) ((c57 20 (by decide)).trans c2)
        rw [← hdl] at lp
        have z4 : dl.1 57 20 = Int32.ofNat c := by rw [hdl, q_row_o (by decide), c57 20 (by decide)]; exact c2
        unfold f_X13_image j_let
        simp only [z2, z3, ← hd0, lp, if_false, Option.bind_some, q_good, z4, q_s, hm, ← hdm]
      have mo : ∀ b, b ≠ 0 → b ≠ 57 → b ≠ 62 → dm.1 b = d1.1 b := fun b b0 b57 b62 => by rw [hdm, q_sI_o b57, hdl, q_row_o b62, o0 b b0 b57]
      have s2 : q_sm2 d dm := by
        rw [hdm, hdl, hd0, hdc, hd1]
        exact (((((((((q_sm2.refl d).sI rfl (by decide) (by decide) c _).sI rfl (by decide) (by decide) c _).sI rfl (by decide) (by decide) c _).sI rfl (by decide) (by decide) 4 _).f0 0).f57 rfl 0).row rfl (by decide) (by decide) _).f57 rfl _)
      have m011 : dm.1 0 11 = 0 := by rw [hdm, q_sI_o (by decide), hdl, q_row_o (by decide), hd0, q_sI_o (by decide), hdc, q_sI_a]; rfl
      have m57 : ∀ k, k ≠ 0 → k ≠ 20 → dm.1 57 k = d.1 57 k := fun k k0 k20 => by rw [hdm, q_sI_a, q_upd_o k20, hdl, q_row_o (by decide), c57 k k0]
      have m62 : dm.1 62 = q_put9 (d.1 62) (d.1 59) c 9 := by rw [hdm, q_sI_o (by decide), hdl, q_row_a, o0 62 (by decide) (by decide), o0 59 (by decide) (by decide), lo 62 (by decide) (by decide) (by decide) (by decide), lo 59 (by decide) (by decide) (by decide) (by decide)]
      have m20 : dm.1 57 20 = Int32.ofNat (c + 1) := by rw [hdm, q_sI_a]; rfl
      have mm : ∀ b, b ≠ 0 → b ≠ 57 → b ≠ 62 → b ≠ 28 → b ≠ 29 → b ≠ 30 → b ≠ 31 → dm.1 b = d.1 b := fun b b0 b57 b62 b1 b2 b3 b4 => (mo b b0 b57 b62).trans (lo b b1 b2 b3 b4)
      have r2 : q_R K (g, q_fin dm 0) := by
        refine hr.up hK (q_fin_ans2 s2 m011 (by decide)) hg h68 hla hts hL ?_ ?_ ?_ ?_
        · rw [q_fin_o (b := 24) (by decide), q_fin_o (b := 28) (by decide), mo 28 (by decide) (by decide) (by decide), l28, mm 24 (by decide) (by decide) (by decide) (by decide) (by decide) (by decide) (by decide)]
          exact ⟨hrm.1, (q_upd_o (by decide)).trans hrm.2⟩
        · rw [q_fin_o (b := 22) (by decide), q_fin_o (b := 59) (by decide), mm 22 (by decide) (by decide) (by decide) (by decide) (by decide) (by decide) (by decide), mm 59 (by decide) (by decide) (by decide) (by decide) (by decide) (by decide) (by decide)]
          exact hN
        · rw [q_fin_o (b := 24) (by decide), q_fin_o (b := 25) (by decide), q_fin_o (b := 26) (by decide), q_fin_o (b := 27) (by decide), q_fin_o (b := 61) (by decide), q_fin_57 (by decide) (by decide), m57 19 (by decide) (by decide), mm 24 (by decide) (by decide) (by decide) (by decide) (by decide) (by decide) (by decide), mm 25 (by decide) (by decide) (by decide) (by decide) (by decide) (by decide) (by decide), mm 26 (by decide) (by decide) (by decide) (by decide) (by decide) (by decide) (by decide), mm 27 (by decide) (by decide) (by decide) (by decide) (by decide) (by decide) (by decide), mm 61 (by decide) (by decide) (by decide) (by decide) (by decide) (by decide) (by decide)]
          exact hS1
        · rw [q_fin_o (b := 28) (by decide), q_fin_o (b := 29) (by decide), q_fin_o (b := 30) (by decide), q_fin_o (b := 31) (by decide), q_fin_o (b := 62) (by decide), q_fin_57 (by decide) (by decide), m20, m62, mo 28 (by decide) (by decide) (by decide), mo 29 (by decide) (by decide) (by decide), mo 30 (by decide) (by decide) (by decide), mo 31 (by decide) (by decide) (by decide), l28, l29, l30, l31]
          exact q_SH.push hL.1.1.2.1 (by omega) hS hN (fun i hi => ⟨q_upd_o (by omega), q_upd_o (by omega), q_upd_o (by omega)⟩) ⟨q_upd_a _ _ _, q_upd_a _ _ _, q_upd_a _ _ _⟩ (fun i hi k hk => q_put9_old hi hk) (fun k hk => q_put9_new hk) (q_upd_a _ _ _) rfl
      exact q_stI hr (q_jP (s_X11_image g d a hg.2.1 hg.2.2.1 hg.2.2.2.2.1) e1) (q_jP (s_X13_image g _ t hg.2.1 hts hla) e2) r2
