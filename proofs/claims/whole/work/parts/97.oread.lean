/-! tier two: land: a text read by both -/
theorem qp_mk_o {n x : Nat} {d : JD} (h : x ≠ n) : (mkD n d).1 x = d.1 x := if_neg h
theorem qp_mk_a (n : Nat) (d : JD) : (mkD n d).1 n = fun _ => 0 := if_pos rfl
theorem qp_new_lt (u : Nat) (d : JD) {x : Nat} (hx : x < u) : (dNew u d).1 x = d.1 x := (kpNew (u, (fun _ => (0, 0)), (fun _ _ => none), 0, (fun _ => 0)) d).2.2.1 x hx
theorem qp_new_0 (u : Nat) (d : JD) : (dNew u d).1 u = upd (fun _ => 0) 0 (-1) := by
  unfold dNew dN_21 dN_20 dN_19 dN_18 dN_17 dN_16 dN_15 dN_14 dN_13 dN_12 dN_11 dN_10 dN_9 dN_8 dN_7 dN_6 dN_5 dN_4 dN_3 dN_2 dN_1 dN_0
  rw [q_sI_o (by omega), q_sI_o (by omega), q_sI_o (by omega), q_sI_o (by omega), q_sI_o (by omega), qp_mk_o (by omega), qp_mk_o (by omega), qp_mk_o (by omega), qp_mk_o (by omega), qp_mk_o (by omega), qp_mk_o (by omega), qp_mk_o (by omega), qp_mk_o (by omega), qp_mk_o (by omega), qp_mk_o (by omega), qp_mk_o (by omega), qp_mk_o (by omega), qp_mk_o (by omega), qp_mk_o (by omega), q_sI_a, qp_mk_a]
theorem qp_new_6 (u : Nat) (d : JD) : (dNew u d).1 (u + 6) = fun _ => 0 := by
  unfold dNew dN_21 dN_20 dN_19 dN_18 dN_17 dN_16 dN_15 dN_14 dN_13 dN_12 dN_11 dN_10 dN_9 dN_8 dN_7
  rw [q_sI_o (by omega), q_sI_o (by omega), q_sI_o (by omega), q_sI_o (by omega), q_sI_o (by omega), qp_mk_o (by omega), qp_mk_o (by omega), qp_mk_o (by omega), qp_mk_o (by omega), qp_mk_o (by omega), qp_mk_o (by omega), qp_mk_o (by omega), qp_mk_o (by omega), qp_mk_a]
theorem qp_new_7 (u : Nat) (d : JD) : (dNew u d).1 (u + 7) = fun _ => 0 := by
  unfold dNew dN_21 dN_20 dN_19 dN_18 dN_17 dN_16 dN_15 dN_14 dN_13 dN_12 dN_11 dN_10 dN_9 dN_8
  rw [q_sI_o (by omega), q_sI_o (by omega), q_sI_o (by omega), q_sI_o (by omega), q_sI_o (by omega), qp_mk_o (by omega), qp_mk_o (by omega), qp_mk_o (by omega), qp_mk_o (by omega), qp_mk_o (by omega), qp_mk_o (by omega), qp_mk_o (by omega), qp_mk_a]
theorem qp_new_11 (u : Nat) (d : JD) : ∀ p, p < 5 → (dNew u d).1 (u + 11) p = -1 := by
  intro p hp
  unfold dNew dN_21 dN_20 dN_19 dN_18 dN_17
  rw [q_sI_a, q_sI_a, q_sI_a, q_sI_a, q_sI_a]
  match p, hp with
  | 0, _ => rfl
  | 1, _ => rfl
  | 2, _ => rfl
  | 3, _ => rfl
  | 4, _ => rfl
  | n + 5, h => exact absurd h (by omega)
theorem qp_LR {G P F W L Q : Nat} {A T : Nat → Nat → Int32} (h : qp_LL G P F W L Q A T) (hG : 1 ≤ G) {H U : Nat} (hH : H ≤ 6) (hU : U ≤ 100) (a0 : A 0 0 = Int32.ofNat H) (t0 : T 0 0 = Int32.ofNat H) (a1 : A 0 1 = Int32.ofNat U) (t1 : T 0 1 = Int32.ofNat U) : q_LR G P F W L A T := by
  obtain ⟨⟨x0, x1, x2, x3, x4, x5, x6, x7⟩, h2, h3, h4, h5, h6, h7, h8, h9⟩ := h
  refine ⟨⟨by omega, x1, x2, x3, x4, x5, ⟨t0.trans a0.symm, t1.trans a1.symm, x6.2.trans x6.1.symm, x7⟩, ⟨H, hH, a0⟩, U, hU, a1⟩, ⟨fun f hf => ⟨(h2 f hf).1, (h2 f hf).2.1⟩, fun g hg => ?_, h5.2, h6.1, h6.2⟩, h7, h8, h9, fun g k hg hk => h4.2 g k (by omega) (by omega)⟩
  obtain ⟨y1, y2, y3, -⟩ := h3 g hg
  obtain ⟨y4, y5⟩ := h4.1 g (by omega)
  exact ⟨y1, y2, y3, y4, y5⟩
theorem qp_cod0 {x : Nat → Int32} (h : ∀ k, k < 6 → x k = 0) : q_cod x = 0 := (q_cod_congr (y := fun _ => 0) h).trans (by decide)
theorem qp_start {B : Nat → Int32} {N b u : Nat} {D E : JD} (bx : q_byx B N D E) (z12 : E.1 57 12 = 0) (d3 : D.1 3 2 = 0 ∧ D.1 3 6 = 0 ∧ D.1 3 7 = 0) (db : ∀ k, k < 8 → D.1 b k = 0) (d6 : ∀ g, g < 6 → D.1 (b + 6) g = 0) (d9 : D.1 (b + 9) 0 = 0 ∧ D.1 (b + 9) 4 = 0 ∧ D.1 (b + 9) 6 = 0) (d14 : ∀ p, p < 5 → D.1 (b + 14) p = -1) (eu : E.1 u = upd (fun _ => 0) 0 (-1)) (e6 : E.1 (u + 6) = fun _ => 0) (e7 : E.1 (u + 7) = fun _ => 0) (e11 : ∀ p, p < 5 → E.1 (u + 11) p = -1) : qp_M B N b u D E 0 0 0 0 0 0 0 D E := by
  have ez : ∀ k, k ≠ 0 → E.1 u k = 0 := fun k hk => by rw [eu, q_upd_o hk]
  have t6 : ∀ k, q_rows E u 6 k = 0 := fun k => by
    show E.1 (u + 6) k = 0
    rw [e6]
  refine ⟨⟨qp_cF.refl b D, qp_mF.refl u E⟩, bx, ⟨z12, d3.2.2⟩, ⟨⟨by omega, ⟨db 4 (by decide), ez 4 (by decide)⟩, ⟨db 2 (by decide), ez 2 (by decide)⟩, ⟨db 3 (by decide), ez 3 (by decide)⟩, ⟨d9.1, ez 6 (by decide)⟩, ⟨d9.2.1, ez 7 (by decide)⟩, ⟨db 5 (by decide), ez 5 (by decide)⟩, (ez 8 (by decide)).trans d9.2.2.symm⟩, fun f hf => absurd hf (by omega), fun g hg => absurd hg (by omega), ⟨fun g hg => ⟨?_, 0, by decide, d6 g hg⟩, fun g k hg hk => ?_⟩, ⟨⟨0, by decide, ez 21 (by decide)⟩, fun i hi => absurd hi (by omega)⟩, ⟨fun k hk => absurd hk (by omega), fun p hp => (e11 p hp).trans (d14 p hp).symm⟩, ⟨?_, ⟨fun k hk => Or.inl (t6 k), fun k _ _ => t6 k⟩, ?_, fun g hg => absurd hg (by omega)⟩, fun g hg => absurd hg (by omega), fun g hg => absurd hg (by omega)⟩, ⟨d3.2.1, ez 9 (by decide), fun i hi => absurd hi (by omega)⟩, Or.inl ⟨d3.1, by rw [eu, q_upd_a], rfl, rfl, rfl, rfl, rfl, rfl⟩⟩
  · show E.1 (u + 7) g = D.1 (b + 6) g
    rw [e7, d6 g hg]
  · show f_X11_hasBit (D.1 (b + 6) g) _ = f_X11_hasBit (D.1 (b + 6) k) _
    rw [d6 g hg, d6 k hk, q_hb0, q_hb0]
  · show D.1 b 6 = _
    rw [db 6 (by decide), qp_cod0 (fun k _ => t6 k)]
  · show D.1 b 7 = _
    rw [db 7 (by decide), qp_cod0 (fun k _ => by unfold q_gd; rw [if_neg (by omega)])]
theorem qp_read {b u N : Nat} (hb : b = 42 ∨ b = 4) (hu : 68 ≤ u) {d e : JD} (hN : N ≤ 900) (hB : ∀ i, q_isb (d.1 2 i)) (h58 : e.1 58 = d.1 2) : ∃ (c : Bool) (D' E' : JD), f_X6_readText b d (Int32.ofNat N) = some (c, D') ∧ (f_X13_goesOn (j_sI (dNew u (f_X13_land_a e (Int32.ofNat N))) 57 9 0)).bind (fun q => f_X13_readAll u q) = some E' ∧ (∀ x, x ≠ 1 → x ≠ 3 → x ≠ 19 → x ≠ 20 → x ≠ 21 → (x < b ∨ b + 14 < x) → D'.1 x = d.1 x) ∧ (∀ x, x ≠ 57 → x < u → E'.1 x = e.1 x) ∧ (∀ k, k < 6 ∨ 13 < k → E'.1 57 k = e.1 57 k) ∧ E'.1 57 6 = 0 ∧ ((c = true ∧ (∃ G P F W L, q_LR G P F W L (q_rows D' b) (q_rows E' u)) ∧ D'.1 3 7 = 0 ∧ E'.1 57 12 = 0) ∨ (c = false ∧ qp_F D' E')) := by
  obtain ⟨D1, c1, c2, c3, c4, c5, c6, c7⟩ := qp_clear hb d
  generalize hD2 : j_sI (j_sI (j_sI (j_sI (j_sI (j_sI D1 3 2 0) 3 6 0) 3 7 0) 3 8 (-1)) 1 2 (Int32.ofNat N)) 1 3 0 = D2
  generalize hE2 : j_sI (dNew u (f_X13_land_a e (Int32.ofNat N))) 57 9 0 = E2
  have o1 : ∀ x, x ≠ 1 → x ≠ 3 → D2.1 x = D1.1 x := fun x h1 h3 => by rw [← hD2, q_sI_o h1, q_sI_o h1, q_sI_o h3, q_sI_o h3, q_sI_o h3, q_sI_o h3]
  have o3 : D2.1 3 2 = 0 ∧ D2.1 3 6 = 0 ∧ D2.1 3 7 = 0 := by
    rw [← hD2, q_sI_o (by decide), q_sI_o (by decide), q_sI_a, q_sI_a, q_sI_a, q_sI_a]
    exact ⟨rfl, rfl, rfl⟩
  have o12 : D2.1 1 2 = Int32.ofNat N := by rw [← hD2, q_sI_ao _ _ _ (by decide), q_sI_aa]
  have o13 : D2.1 1 3 = Int32.ofNat 0 := by rw [← hD2, q_sI_aa]; rfl
  have la : ∀ x, x ≠ 57 → (f_X13_land_a e (Int32.ofNat N)).1 x = e.1 x := fun x hx => by
    unfold f_X13_land_a
    rw [q_sI_o hx, q_sI_o hx, q_sI_o hx, q_sI_o hx]
  have n1 : ∀ x, x ≠ 57 → x < u → E2.1 x = e.1 x := fun x hx hl => by rw [← hE2, q_sI_o hx, qp_new_lt u _ hl, la x hx]
  have n57 : E2.1 57 = upd (upd (upd (upd (upd (e.1 57) 7 (Int32.ofNat N)) 6 0) 8 0) 12 0) 9 0 := by
    rw [← hE2, q_sI_a, qp_new_lt u _ (show 57 < u by omega)]
    unfold f_X13_land_a
    rw [q_sI_a, q_sI_a, q_sI_a, q_sI_a]
  have nu : ∀ j, E2.1 (u + j) = (dNew u (f_X13_land_a e (Int32.ofNat N))).1 (u + j) := fun j => by rw [← hE2, q_sI_o (by omega)]
  have e7 : E2.1 57 7 = Int32.ofNat N := by rw [n57]; rfl
  have e8 : E2.1 57 8 = Int32.ofNat 0 := by rw [n57]; rfl
  have e9 : E2.1 57 9 = 0 := by rw [n57]; rfl
  have e12 : E2.1 57 12 = 0 := by rw [n57]; rfl
  have bx : q_byx (d.1 2) N D2 E2 := ⟨(o1 2 (by decide) (by decide)).trans (c2 2 (by omega)), (n1 58 (by decide) (by omega)).trans h58, o12, e7, hN⟩
  have M0 : qp_M (d.1 2) N b u D2 E2 0 0 0 0 0 0 0 D2 E2 := by
    refine qp_start bx e12 o3 (fun k hk => ?_) (fun g hg => ?_) ?_ (fun p hp => ?_) ?_ ?_ ?_ (fun p hp => ?_)
    · rw [o1 b (by omega) (by omega)]; exact c3 k hk
    · rw [o1 _ (by omega) (by omega)]; exact c4 g hg
    · rw [o1 _ (by omega) (by omega)]; exact c5
    · rw [o1 _ (by omega) (by omega)]; exact c6 p hp
    · rw [show E2.1 u = (dNew u (f_X13_land_a e (Int32.ofNat N))).1 u from nu 0]; exact qp_new_0 u _
    · rw [nu]; exact qp_new_6 u _
    · rw [nu]; exact qp_new_7 u _
    · rw [nu]; exact qp_new_11 u _ p hp
  obtain ⟨D3, E3, a1, a2, f3, g3, M3, t3⟩ := qp_go hB (by omega) hu M0 (lo := 0) ⟨0, Nat.le_refl _, Nat.zero_le _, o13, e8, by rw [e9]; decide⟩
  obtain ⟨fu, hfu⟩ := qp_fuel
  obtain ⟨c, D4, E4, E5, r1, r2, r3, r4, r5, r6⟩ := qp_textL hB hb hu hN 901 0 (fu + 5000) (fu + 5000) D3 E3 (by omega) (by omega) (by omega) ⟨0, 0, 0, 0, 0, 0, M3, t3⟩
  refine ⟨c, D4, E5, ?_, ?_, fun x h1 h3 h19 h20 h21 hx => ?_, fun x hx hl => ?_, fun k hk => ?_, ?_, ?_⟩
  · unfold f_X6_readText f_X9_startReading
    rw [c1, Option.bind_some, hD2, a1, Option.bind_some, Option.bind_some, hfu, show (0 : Int32) = Int32.ofNat 0 from rfl, r1, Option.bind_some]
    rfl
  · rw [a2, Option.bind_some]
    unfold f_X13_readAll
    rw [hfu, r2, Option.bind_some]
    exact r3
  · rw [r4.1 x h1 h3 h19 h20 h21 hx, o1 x h1 h3, c2 x hx]
  · rw [r5.1 x hx (Or.inl hl), n1 x hx hl]
  · rw [r5.2 k (by omega) (by omega) (by omega) (by omega) (by omega) (by omega), n57, q_upd_o (by omega), q_upd_o (by omega), q_upd_o (by omega), q_upd_o (by omega), q_upd_o (by omega)]
  · rw [r5.2 6 (by decide) (by decide) (by decide) (by decide) (by decide) (by decide), n57]; rfl
  · rcases r6 with ⟨rc, G, P, F, W, L, Q, hG, M⟩ | r6
    · refine Or.inl ⟨rc, ⟨G, P, F, W, L, ?_⟩, M.2.2.1.2, M.2.2.1.1⟩
      rcases M.2.2.2.2.2 with z | ⟨-, H, U, z2, z3, z4, z5, z6, z7⟩
      · omega
      · exact qp_LR M.2.2.2.1 hG z2 z3 z4 z5 z6 z7
    · exact Or.inr r6
