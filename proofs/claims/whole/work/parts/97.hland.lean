/-! tier two: land: the land's own line -/
section QS
variable {B : Nat → Int32} {N lo b u G P F W L Q m : Nat} {D0 E0 D E : JD}
theorem qp_need0 (hB : ∀ i, q_isb (B i)) (bx : q_byx B N D E) (t : qp_T B N lo D E) {k k' : Nat} (hk : k < 19) (hp : qp_pr k = k') : (∃ D' E', f_X6_readWord D k = some (true, D') ∧ f_X13_needs E k' = some E' ∧ qp_cf D D' ∧ qp_mf E E' ∧ qp_T B N lo D' E') ∨ (f_X6_readWord D k = some (false, (f_X6_fail D (Int32.ofNat 1)).2) ∧ f_X13_needs E k' = some (f_X13_flaw E (Int32.ofNat 1))) := by
  obtain ⟨β, b1, b2, b3⟩ := qp_word hB bx.2.2.2.2 bx.1 t hk hp
  unfold f_X6_readWord f_X13_needs j_let
  rw [b1, b2, Option.bind_some, Option.bind_some]
  cases β
  · rw [if_neg (by decide), if_neg (by decide)]
    refine Or.inr ⟨rfl, ?_⟩
    show f_X13_needs_j13 k' (f_X13_flaw E 1) = _
    unfold f_X13_needs_j13
    rw [qo_go (qp_fl9 _ _)]
    rfl
  · rw [if_pos rfl, if_pos rfl]
    unfold f_X13_needs_j13
    obtain ⟨q, q1, q2, q3, q4, q5⟩ := t.X (by rw [b3 rfl]; decide)
    obtain ⟨D', E', a1, a2, f, g, t2⟩ := qp_adv hB bx q3 q4 q2 q5
    rw [a1, a2]
    exact Or.inl ⟨D', E', rfl, rfl, f, g, t2.lo q1⟩
theorem qp_Lland {A A' T T' : Nat → Nat → Int32} (h : qp_LL G P F W L Q A T) (a0 : ∀ k, k ≠ 0 → k ≠ 1 → A' 0 k = A 0 k) (aj : ∀ j, 0 < j → j < 15 → A' j = A j) (t0 : ∀ k, k ≠ 0 → k ≠ 1 → T' 0 k = T 0 k) (tj : ∀ j, 0 < j → j < 12 → T' j = T j) : qp_LL G P F W L Q A' T' := by
  unfold qp_LL qp_l1 qp_l2 qp_l3 qp_l4 qp_l5 qp_l6 qp_l8 q_L3 q_L4 at h ⊢
  rw [a0 2 (by decide) (by decide), a0 3 (by decide) (by decide), a0 4 (by decide) (by decide), a0 5 (by decide) (by decide), a0 6 (by decide) (by decide), a0 7 (by decide) (by decide), aj 1 (by decide) (by decide), aj 2 (by decide) (by decide), aj 3 (by decide) (by decide), aj 4 (by decide) (by decide), aj 5 (by decide) (by decide), aj 6 (by decide) (by decide), aj 7 (by decide) (by decide), aj 8 (by decide) (by decide), aj 9 (by decide) (by decide), aj 10 (by decide) (by decide), aj 11 (by decide) (by decide), aj 12 (by decide) (by decide), aj 13 (by decide) (by decide), aj 14 (by decide) (by decide), t0 2 (by decide) (by decide), t0 3 (by decide) (by decide), t0 4 (by decide) (by decide), t0 5 (by decide) (by decide), t0 6 (by decide) (by decide), t0 7 (by decide) (by decide), t0 8 (by decide) (by decide), t0 21 (by decide) (by decide), tj 1 (by decide) (by decide), tj 2 (by decide) (by decide), tj 3 (by decide) (by decide), tj 4 (by decide) (by decide), tj 5 (by decide) (by decide), tj 6 (by decide) (by decide), tj 7 (by decide) (by decide), tj 8 (by decide) (by decide), tj 9 (by decide) (by decide), tj 10 (by decide) (by decide), tj 11 (by decide) (by decide)]
  exact h
theorem qp_landL (hB : ∀ i, q_isb (B i)) (hb : b = 42 ∨ b = 4) (hu : 68 ≤ u) (h : qp_M B N b u D0 E0 G P F W L Q (P + F + G) D E) (ht : E.1 u 0 = -1) (t : qp_T B N lo D E) (h4 : D.1 1 4 = 1) : qp_O b u D0 E0 (qp_ST B N lo b u D0 E0) (f_X6_readLandLine b D) (f_X13_readLand u E) := by
  unfold f_X6_readLandLine f_X13_readLand f_X13_readLand_j16 f_X13_readPart j_let
  rw [if_pos ht]
  obtain ⟨⟨F0, H0⟩, bx, ⟨z12, z7⟩, hL, ⟨hn1, hn2, hn3⟩, -⟩ := h
  have bx1 : q_byx B N (j_sI D 3 2 1) E := by
    unfold q_byx
    rw [q_sI_o (by decide), q_sI_o (by decide)]
    exact bx
  have F1 : qp_cF b D0 (j_sI D 3 2 1) := F0.sI (by decide) (by omega) _ _
  obtain ⟨q, q1, q2, q3, q4, q5⟩ := t.X (by rw [h4]; decide)
  obtain ⟨D1, E1, a1, a2, f1, g1, t1⟩ := qp_adv hB bx1 (by rw [q_sI_o (by decide)]; exact q3) q4 q2 q5
  replace t1 := t1.lo q1
  rw [a1, a2, Option.bind_some, Option.bind_some]
  have bx2 := (bx1.c f1).m g1
  rcases qp_need0 hB bx2 t1 (k := 9) (k' := 20) (by decide) rfl with ⟨D2, E2, b1, b2, f2, g2, t2⟩ | ⟨b1, b2⟩
  · rw [b1, b2, Option.bind_some, Option.bind_some]
    dsimp only
    rw [if_pos rfl]
    have bx3 := (bx2.c f2).m g2
    rcases qp_whole t2 6 (by decide) with ⟨v, v1, v2, v3, x2, v4⟩ | ⟨c, c1, c6, v2, v4⟩
    · rw [show f_X6_isWholeUpTo D2 6 = _ from v2, show f_X13_readWhole E2 0 6 = _ from v4]
      dsimp only
      rw [if_pos rfl, v3]
      have bx4 : q_byx B N (j_sI D2 b 0 (Int32.ofNat v)) E2 := by
        unfold q_byx
        rw [q_sI_o (by omega), q_sI_o (by omega)]
        exact bx3
      have f12 : qp_cF b D0 D2 := (F1.trans f1.F).trans f2.F
      have F4 : qp_cF b D0 (j_sI D2 b 0 (Int32.ofNat v)) := f12.sI (by omega) (by omega) _ _
      obtain ⟨r, r1, r2, r3, r4, r5⟩ := x2
      obtain ⟨D3, E3, d1, d2, f3, g3, t3⟩ := qp_adv hB bx4 (by rw [q_sI_o (by omega)]; exact r3) r4 r2 r5
      replace t3 := t3.lo r1
      rw [d1, d2, Option.bind_some, Option.bind_some, Option.bind_some, Option.bind_some]
      dsimp only
      have bx5 := (bx4.c f3).m g3
      have G3 : qp_mF u E0 E3 := ((H0.trans g1.F).trans g2.F).trans g3.F
      rcases qp_need0 hB bx5 t3 (k := 10) (k' := 21) (by decide) rfl with ⟨D4, E4, e1, e2, f4, g4, t4⟩ | ⟨e1, e2⟩
      · rw [e1, e2, Option.bind_some, Option.bind_some]
        dsimp only
        rw [if_pos rfl]
        have bx6 := (bx5.c f4).m g4
        rcases qp_whole t4 100 (by decide) with ⟨y, y1, y2, y3, x4, y4⟩ | ⟨c, c1, c6, y2, y4⟩
        · rw [show f_X6_isWholeUpTo D4 100 = _ from y2, show f_X13_readWhole E4 0 100 = _ from y4]
          dsimp only
          rw [if_pos rfl, y3]
          have bx7 : q_byx B N (j_sI D4 b 1 (Int32.ofNat y)) E4 := by
            unfold q_byx
            rw [q_sI_o (by omega), q_sI_o (by omega)]
            exact bx6
          obtain ⟨s, s1, s2, s3, s4, s5⟩ := x4
          obtain ⟨D5, E5, j1, j2, f5, g5, t5⟩ := qp_adv hB bx7 (by rw [q_sI_o (by omega)]; exact s3) s4 s2 s5
          replace t5 := t5.lo s1
          rw [j1, j2, Option.bind_some, Option.bind_some, Option.bind_some, Option.bind_some]
          dsimp only
          rw [if_neg t5.pl.2]
          have bx8 := (bx7.c f5).m g5
          have F5 : qp_cF b D0 D5 := (((F4.trans f3.F).trans f4.F).sI (by omega) (by omega) _ _).trans f5.F
          have G5 : qp_mF u E0 E5 := (G3.trans g4.F).trans g5.F
          have G6 : qp_mF u E0 (j_sI (j_sI E5 u 0 (Int32.ofNat v)) u 1 (Int32.ofNat y)) := (G5.sI (by omega) (by omega) _ _).sI (by omega) (by omega) _ _
          have rc : ∀ x, x ≠ 1 → x ≠ 3 → x ≠ b → D5.1 x = D.1 x := fun x o1 o3 ob => by rw [f5.1 x o1, q_sI_o ob, f4.1 x o1, f3.1 x o1, q_sI_o ob, f2.1 x o1, f1.1 x o1, q_sI_o o3]
          have rb : ∀ k, k ≠ 0 → k ≠ 1 → D5.1 b k = D.1 b k := fun k o0 o1 => by rw [f5.1 b (by omega), q_sI_ao _ _ _ o1, f4.1 b (by omega), f3.1 b (by omega), q_sI_ao _ _ _ o0, f2.1 b (by omega), f1.1 b (by omega), q_sI_o (by omega)]
          have rb0 : D5.1 b 0 = Int32.ofNat v := by rw [f5.1 b (by omega), q_sI_ao _ _ _ (by decide), f4.1 b (by omega), f3.1 b (by omega), q_sI_aa]
          have rb1 : D5.1 b 1 = Int32.ofNat y := by rw [f5.1 b (by omega), q_sI_aa]
          have r3' : D5.1 3 = upd (D.1 3) 2 1 := by rw [f5.1 3 (by decide), q_sI_o (by omega), f4.1 3 (by decide), f3.1 3 (by decide), q_sI_o (by omega), f2.1 3 (by decide), f1.1 3 (by decide), q_sI_a]
          have rl : D5.2 19 = D.2 19 := by
            rw [f5.2.2 19 (by decide), q_sI_2, f4.2.2 19 (by decide), f3.2.2 19 (by decide), q_sI_2, f2.2.2 19 (by decide), f1.2.2 19 (by decide), q_sI_2]
          have sc : ∀ x, x ≠ 57 → x ≠ u → (j_sI (j_sI E5 u 0 (Int32.ofNat v)) u 1 (Int32.ofNat y)).1 x = E.1 x := fun x o1 o2 => by rw [q_sI_o o2, q_sI_o o2, g5.1 x o1, g4.1 x o1, g3.1 x o1, g2.1 x o1, g1.1 x o1]
          have su : ∀ k, k ≠ 0 → k ≠ 1 → (j_sI (j_sI E5 u 0 (Int32.ofNat v)) u 1 (Int32.ofNat y)).1 u k = E.1 u k := fun k o0 o1 => by rw [q_sI_ao _ _ _ o1, q_sI_ao _ _ _ o0, g5.1 u (by omega), g4.1 u (by omega), g3.1 u (by omega), g2.1 u (by omega), g1.1 u (by omega)]
          have e57 : (j_sI (j_sI E5 u 0 (Int32.ofNat v)) u 1 (Int32.ofNat y)).1 57 = E5.1 57 := by rw [q_sI_o (by omega), q_sI_o (by omega)]
          have sl : E5.2 (u + 12) = E.2 (u + 12) := by rw [g5.2.2 _ (by omega), g4.2.2 _ (by omega), g3.2.2 _ (by omega), g2.2.2 _ (by omega), g1.2.2 _ (by omega)]
          refine ⟨true, _, _, rfl, rfl, F5, G6, Or.inl ⟨rfl, G, P, F, W, L, Q, ⟨⟨F5, G6⟩, ?_, ⟨?_, ?_⟩, ?_, ⟨?_, ?_, ?_⟩, Or.inr ⟨?_, v, y, v1, y1, rb0, ?_, rb1, ?_⟩⟩, t5.congr rfl rfl e57 rfl⟩⟩
          · unfold q_byx
            rw [e57, q_sI_o (show 58 ≠ u by omega), q_sI_o (show 58 ≠ u by omega)]
            exact bx8
          · rw [e57, g5.2.1 12 (by decide) (by decide) (by decide) (by decide), g4.2.1 12 (by decide) (by decide) (by decide) (by decide), g3.2.1 12 (by decide) (by decide) (by decide) (by decide), g2.2.1 12 (by decide) (by decide) (by decide) (by decide), g1.2.1 12 (by decide) (by decide) (by decide) (by decide)]
            exact z12
          · rw [r3', q_upd_o (by decide)]; exact z7
          · exact qp_Lland (A := q_rows D b) (T := q_rows E u) hL rb (fun j o1 o2 => rc (b + j) (by omega) (by omega) (by omega)) su (fun j o1 o2 => sc (u + j) (by omega) (by omega))
          · rw [r3', q_upd_o (by decide)]; exact hn1
          · rw [su 9 (by decide) (by decide)]; exact hn2
          · rw [rc 20 (by omega) (by omega) (by omega), rc 21 (by omega) (by omega) (by omega), rl, sc (u + 13) (by omega) (by omega), sc (u + 14) (by omega) (by omega)]
            show qp_NM P F G (D.1 20) (D.1 21) (D.2 19) (E5.2 (u + 12)) (E.1 (u + 13)) (E.1 (u + 14))
            rw [sl]
            exact hn3
          · rw [r3', q_upd_a]
          · rw [q_sI_ao _ _ _ (by decide), q_sI_aa]
          · rw [q_sI_aa]
        · rw [show f_X6_isWholeUpTo D4 100 = _ from y2, show f_X13_readWhole E4 0 100 = _ from y4]
          dsimp only
          rw [if_neg (by decide), Option.bind_some, Option.bind_some]
          dsimp only
          rw [if_pos (qp_fl9 _ _)]
          exact qp_O.bad t4 ((F4.trans f3.F).trans f4.F) (G3.trans g4.F) c1 c6 rfl rfl
      · rw [e1, e2, Option.bind_some, Option.bind_some]
        dsimp only
        rw [if_neg (by decide), qo_wh (qp_fl9 _ _), Option.bind_some, Option.bind_some]
        dsimp only
        rw [if_pos (qp_fl9 _ _)]
        exact qp_O.bad t3 (F4.trans f3.F) G3 (by decide) (by decide) rfl rfl
    · rw [show f_X6_isWholeUpTo D2 6 = _ from v2, show f_X13_readWhole E2 0 6 = _ from v4]
      dsimp only
      rw [if_neg (by decide), Option.bind_some, Option.bind_some]
      dsimp only
      rw [qo_needs (qp_fl9 _ _), Option.bind_some, qo_wh (qp_fl9 _ _), Option.bind_some, Option.bind_some]
      dsimp only
      rw [if_pos (qp_fl9 _ _)]
      exact qp_O.bad t2 ((F1.trans f1.F).trans f2.F) ((H0.trans g1.F).trans g2.F) c1 c6 rfl rfl
  · rw [b1, b2, Option.bind_some, Option.bind_some]
    dsimp only
    rw [if_neg (by decide), qo_wh (qp_fl9 _ _), Option.bind_some, Option.bind_some]
    dsimp only
    rw [qo_needs (qp_fl9 _ _), Option.bind_some, qo_wh (qp_fl9 _ _), Option.bind_some, Option.bind_some]
    dsimp only
    rw [if_pos (qp_fl9 _ _)]
    exact qp_O.bad t1 (F1.trans f1.F) (H0.trans g1.F) (by decide) (by decide) rfl rfl
end QS
