/-! tier two: land: paths, gates lost, what was had -/
theorem qp_isLost {r9 r13 t0 t10 : Nat → Int32} {L : Nat} (hL : L ≤ 4) (h4 : r9 4 = Int32.ofNat L) (h7 : t0 7 = Int32.ofNat L) (e : ∀ k, k < L → t10 k = r13 k) (g : Int32) : f_X12_isLost t0 t10 g = some (f_X0_isLostGate r9 r13 g) := by
  unfold f_X12_isLost f_X0_isLostGate j_let
  rw [h4]
  obtain ⟨y, y1, y2⟩ := q_fo_wh (R := Bool) (S := Unit) (E := Bool ⊕ Unit) (Tt := Int32) (ρ := fun r e => e = .inl r) (ρ' := fun _ e => e = .inr ()) (fun i _ t => t = Int32.ofNat i) (n := L) (by omega) (G := f_X0_isLostGate_b2 r9 r13 g) (F := f_X12_isLost_w2 t0 t10 g) (by
    intro i hi s t ht
    subst ht
    unfold f_X12_isLost_w2 f_X0_isLostGate_b2
    rw [h7, if_neg (q_go (by omega) hi), if_neg (q_in (show i < 4 by omega) (by decide)), q_n (by omega), e i hi, q_at (show i < 4 by omega) (by decide)]
    by_cases c : r13 i = g
    · rw [if_pos c, if_pos c]
      exact Or.inl ⟨_, _, rfl, rfl, rfl⟩
    · rw [if_neg c, if_neg c]
      exact Or.inr ⟨_, _, rfl, rfl, q_s i⟩) (by
    intro s t ht
    subst ht
    unfold f_X12_isLost_w2
    rw [h7, if_pos (q_end (by omega))]
    exact ⟨_, rfl, rfl⟩) (s := ()) (t := 0) rfl
  rw [y1, Option.bind_some]
  revert y2
  generalize j_fo (Int32.ofNat L) (f_X0_isLostGate_b2 r9 r13 g) (j_mu (Int32.ofNat L) 0) 0 () = z
  intro y2
  cases z with
  | inl r => rw [show y = .inl r from y2]; rfl
  | inr s => rw [show y = .inr () from y2]; rfl
section QS
variable {B : Nat → Int32} {N lo b u G P F W L Q m G' P' F' W' L' Q' : Nat} {D0 E0 D E D' E' : JD}
theorem qp_path (hB : ∀ i, q_isb (B i)) (hb : b = 42 ∨ b = 4) (hu : 68 ≤ u) (h : qp_M B N b u D0 E0 G P F W L Q (P + F + G) D E) (ht : D.1 3 2 = 1) (hQ : Q < 8) (t : qp_T B N lo D E) {Ex : JD} (hl : f_X13_lineBegins u Ex (Ex.1 u 5) 8 = some E) : qp_O b u D0 E0 (qp_ST B N lo b u D0 E0) (f_X6_readPath b D) (f_X13_readPath u Ex) := by
  unfold f_X6_readPath f_X13_readPath f_X13_readKnown
  rw [hl, Option.bind_some]
  have n15 := h.n15
  have hn : ∀ c : Int32, (f_X13_flaw E c).1 u 9 = Int32.ofNat (P + F + G) := fun c => by rw [qp_flo _ _ (by omega)]; exact h.2.2.2.2.1.2.1
  have bd := h.2.2.2.1.1.1
  rcases qp_told hB hu h t (s := 2) (by omega) (Or.inl rfl) with ⟨p, p1, a1, a2, x1⟩ | ⟨c, c1, c6, a1, a2⟩
  · rw [show f_X6_toldNumber D 3 = _ from a1, show f_X13_knownOne u E 2 = _ from a2, Option.bind_some, Option.bind_some]
    dsimp only
    rw [if_neg (q_nem1 (by omega))]
    obtain ⟨D1, E1, b1, b2, f1, g1, M1, t1⟩ := qp_go hB (by omega) hu h x1
    rw [b1, b2, Option.bind_some, Option.bind_some, Option.bind_some]
    dsimp only
    rcases qp_told hB hu M1 t1 (s := 2) (by omega) (Or.inl rfl) with ⟨g, p2, a3, a4, x2⟩ | ⟨c, c1, c6, a3, a4⟩
    · rw [show f_X6_toldNumber D1 3 = _ from a3, show f_X13_knownOne u E1 2 = _ from a4, Option.bind_some, Option.bind_some]
      dsimp only
      rw [if_neg (q_nem1 (by omega)), if_neg t1.pl.2]
      have bad : qp_O b u D0 E0 (qp_ST B N lo b u D0 E0) (f_X6_readPath_j56 b D1) (f_X13_readPath_j54 u E1 (Int32.ofNat p) (Int32.ofNat g)) := qp_O.bad (n := 3) t1 M1.1.1 M1.1.2 (by decide) (by decide) rfl (qo_p59 (qp_fl9 _ _) _ _)
      by_cases eg : g = p
      · rw [if_pos (by rw [eg]), if_pos (by rw [eg])]
        exact bad
      · rw [if_neg (fun z => eg ((q_eq (by omega) (by omega)).mp z)), if_neg (fun z => eg ((q_eq (by omega) (by omega)).mp z).symm), if_neg (q_in (show p < 6 by omega) (by decide)), q_at (show p < 6 by omega) (by decide), q_n (by omega)]
        have l4 := M1.2.2.2.1.2.2.2.1
        have e7 : E1.1 (u + 7) p = D1.1 (b + 6) p := (l4.1 p (by omega)).1
        rw [q_bit, e7]
        by_cases hb1 : f_X11_hasBit (D1.1 (b + 6) p) (Int32.ofNat g) = true
        · rw [if_pos hb1, if_pos hb1]
          exact bad
        · rw [if_neg hb1, if_neg hb1]
          unfold f_X3_addPath j_let f_X13_readPath_j59
          dsimp only
          have cQ := M1.2.2.2.1.1.2.2.2.2.2.2.1
          have cQ1 : D1.1 b 5 = Int32.ofNat Q := cQ.1
          have cQ2 : E1.1 u 5 = Int32.ofNat Q := cQ.2
          rw [q_at (show p < 6 by omega) (by decide), q_put_in (show p < 6 by omega) (by decide), q_at (show g < 6 by omega) (by decide), q_put_in (show g < 6 by omega) (by decide), q_sI_a, q_upd_o eg]
          generalize hD2 : j_sI (j_sI D1 (b + 6) p (D1.1 (b + 6) p ||| ((1 : Int32) <<< (Int32.ofNat g &&& 31)))) (b + 6) g (D1.1 (b + 6) g ||| ((1 : Int32) <<< (Int32.ofNat p &&& 31))) = D2
          have k5 : D2.1 b 5 = Int32.ofNat Q := by rw [← hD2, q_sI_o (by omega), q_sI_o (by omega)]; exact cQ1
          rw [k5, q_s]
          have c2 : qp_cF b D1 (j_sI D2 b 5 (Int32.ofNat (Q + 1))) := by
            rw [← hD2]
            exact (((qp_cF.refl b D1).sI (by omega) (by omega) _ _).sI (by omega) (by omega) _ _).sI (by omega) (by omega) _ _
          have r1 : ∀ x, x ≠ b → x ≠ b + 6 → (j_sI D2 b 5 (Int32.ofNat (Q + 1))).1 x = D1.1 x := fun x z1 z2 => by rw [q_sI_o z1, ← hD2, q_sI_o z2, q_sI_o z2]
          have r0 : ∀ k, k ≠ 5 → (j_sI D2 b 5 (Int32.ofNat (Q + 1))).1 b k = D1.1 b k := fun k hk => by rw [q_sI_ao _ _ _ hk, ← hD2, q_sI_o (by omega), q_sI_o (by omega)]
          have r6 : (j_sI D2 b 5 (Int32.ofNat (Q + 1))).1 (b + 6) = upd (upd (D1.1 (b + 6)) p (D1.1 (b + 6) p ||| ((1 : Int32) <<< (Int32.ofNat g &&& 31)))) g (D1.1 (b + 6) g ||| ((1 : Int32) <<< (Int32.ofNat p &&& 31))) := by rw [q_sI_o (by omega), ← hD2, q_sI_a, q_sI_a]
          have rl : (j_sI D2 b 5 (Int32.ofNat (Q + 1))).2 = D1.2 := by rw [← hD2]; rfl
          obtain ⟨D3, E2, z1, z2, z3, z4, z5, z6⟩ := qp_tail hB hb hu M1 ((by rw [f1.1 3 (by decide)]; exact ht)) x2 c2 (r1 1 (by omega) (by omega)) (r1 3 (by omega) (by omega)) (r0 0 (by decide)) (r0 1 (by decide))
          rw [z1, z2, Option.bind_some, Option.bind_some]
          rw [if_neg z3, if_neg (q_in (show p < 6 by omega) (by decide)), if_neg (q_in (show p < 6 by omega) (by decide)), if_neg (q_in (show g < 6 by omega) (by decide)), if_neg (q_in (show g < 6 by omega) (by decide)), q_n (by omega), q_n (by omega), q_sI_a, q_upd_o eg, z4 u (by omega), z4 (u + 7) (by omega), cQ2, q_s]
          have s1 : ∀ y, y ≠ 57 → y ≠ u → y ≠ u + 7 → (j_sI (j_sI (j_sI E2 (u + 7) p (E1.1 (u + 7) p ||| ((1 : Int32) <<< (Int32.ofNat g &&& 31)))) (u + 7) g (E1.1 (u + 7) g ||| ((1 : Int32) <<< (Int32.ofNat p &&& 31)))) u 5 (Int32.ofNat (Q + 1))).1 y = E1.1 y := fun y y0 y1 y2 => by rw [q_sI_o y1, q_sI_o y2, q_sI_o y2, z4 y y0]
          have s0 : ∀ k, k ≠ 5 → (j_sI (j_sI (j_sI E2 (u + 7) p (E1.1 (u + 7) p ||| ((1 : Int32) <<< (Int32.ofNat g &&& 31)))) (u + 7) g (E1.1 (u + 7) g ||| ((1 : Int32) <<< (Int32.ofNat p &&& 31)))) u 5 (Int32.ofNat (Q + 1))).1 u k = E1.1 u k := fun k hk => by rw [q_sI_ao _ _ _ hk, q_sI_o (by omega), q_sI_o (by omega), z4 u (by omega)]
          refine z6 _ G P F W L (Q + 1) ((((qp_mF.refl u E2).sI (by omega) (by omega) _ _).sI (by omega) (by omega) _ _).sI (by omega) (by omega) _ _) (by rw [q_sI_o (by omega), q_sI_o (by omega), q_sI_o (by omega)]) rfl ?_ rfl ?_ ?_ (s0 0 (by decide)) (s0 1 (by decide))
          · refine qp_Lpath (A := q_rows D1 b) (T := q_rows E1 u) M1.2.2.2.1 hQ (g := p) (o := g) (by omega) (by omega) (Ne.symm eg) r0 (q_sI_aa _ _ _ _) r6 (fun j h1 h2 h3 => r1 (b + j) (by omega) (by omega)) (fun k h1 h2 => s0 k h1) (q_sI_aa _ _ _ _) ?_ (fun j h1 h2 h3 => s1 (u + j) (by omega) (by omega) (by omega))
            show (j_sI _ u 5 _).1 (u + 7) = _
            rw [q_sI_o (by omega), q_sI_a, q_sI_a, z4 (u + 7) (by omega)]
            rfl
          · rw [s0 9 (by decide)]; exact M1.2.2.2.2.1.2.1
          · rw [r1 20 (by omega) (by omega), r1 21 (by omega) (by omega), rl, s1 (u + 13) (by omega) (by omega) (by omega), s1 (u + 14) (by omega) (by omega) (by omega)]
            show qp_NM P F G (D1.1 20) (D1.1 21) (D1.2 19) (E2.2 (u + 12)) (E1.1 (u + 13)) (E1.1 (u + 14))
            rw [z5 (u + 12) (by omega)]
            exact M1.2.2.2.2.1.2.2
    · rw [show f_X6_toldNumber D1 3 = _ from a3, show f_X13_knownOne u E1 2 = _ from a4, Option.bind_some, Option.bind_some]
      dsimp only
      rw [if_pos rfl, if_pos (qp_fl9 _ _), qo_p59 (qp_fl9 _ _)]
      exact qp_O.bad t1 M1.1.1 M1.1.2 c1 c6 rfl rfl
  · rw [show f_X6_toldNumber D 3 = _ from a1, show f_X13_knownOne u E 2 = _ from a2, Option.bind_some, Option.bind_some]
    dsimp only
    rw [if_pos rfl, qo_go (qp_fl9 _ _), Option.bind_some, Option.bind_some]
    dsimp only
    rw [qo_known (qp_fl9 _ _) (hn _) n15, Option.bind_some]
    dsimp only
    rw [if_pos (qp_fl9 _ _), qo_p59 (qp_fl9 _ _)]
    exact qp_O.bad t h.1.1 h.1.2 c1 c6 rfl rfl
theorem qp_lost (hB : ∀ i, q_isb (B i)) (hb : b = 42 ∨ b = 4) (hu : 68 ≤ u) (h : qp_M B N b u D0 E0 G P F W L Q (P + F + G) D E) (ht : D.1 3 2 = 1) (hL : L < 4) (t : qp_T B N lo D E) {Ex : JD} (hl : f_X13_lineBegins u Ex (Ex.1 u 7) 4 = some E) : qp_O b u D0 E0 (qp_ST B N lo b u D0 E0) (f_X6_readLost b D) (f_X13_readLost u Ex) := by
  unfold f_X6_readLost f_X13_readLost
  rw [hl, Option.bind_some]
  have bd := h.2.2.2.1.1.1
  have cL := h.2.2.2.1.1.2.2.2.2.2.1
  have cL1 : D.1 (b + 9) 4 = Int32.ofNat L := cL.1
  have cL2 : E.1 u 7 = Int32.ofNat L := cL.2
  rcases qp_told hB hu h t (s := 2) (by omega) (Or.inl rfl) with ⟨g, p1, a1, a2, x1⟩ | ⟨c, c1, c6, a1, a2⟩
  · rw [show f_X6_toldNumber D 3 = _ from a1, show f_X13_knownOne u E 2 = _ from a2, Option.bind_some, Option.bind_some]
    dsimp only
    have il := qp_isLost (r9 := D.1 (b + 9)) (r13 := D.1 (b + 13)) (t0 := E.1 u) (t10 := E.1 (u + 10)) (show L ≤ 4 by omega) cL1 cL2 (fun k hk => (h.2.2.2.1.2.2.2.2.2.1.1 k hk).1) (Int32.ofNat g)
    rw [if_neg (q_nem1 (by omega)), if_neg t.pl.2, il, Option.bind_some]
    by_cases c : f_X0_isLostGate (D.1 (b + 9)) (D.1 (b + 13)) (Int32.ofNat g) = true
    · rw [if_pos c, if_pos c]
      exact qp_O.bad (n := 3) t h.1.1 h.1.2 (by decide) (by decide) rfl (qo_l42 (qp_fl9 _ _) _)
    · rw [if_neg c, if_neg c]
      unfold f_X0_addLost j_let f_X13_readLost_j42
      dsimp only
      rw [cL1, q_put_in (show L < 4 by omega) (by decide)]
      have y1 : (j_sI D (b + 9 + 4) L (Int32.ofNat g)).1 (b + 9) 4 = Int32.ofNat L := by rw [q_sI_o (by omega)]; exact cL1
      rw [y1, q_s]
      generalize hD2 : j_sI (j_sI D (b + 9 + 4) L (Int32.ofNat g)) (b + 9) 4 (Int32.ofNat (L + 1)) = D2
      have c2 : qp_cF b D D2 := by
        rw [← hD2]
        exact ((qp_cF.refl b D).sI (by omega) (by omega) _ _).sI (by omega) (by omega) _ _
      have r1 : ∀ x, x ≠ b + 9 → x ≠ b + 13 → D2.1 x = D.1 x := fun x z1 z2 => by rw [← hD2, q_sI_o z1, q_sI_o (by omega)]
      have r9 : ∀ k, k ≠ 4 → D2.1 (b + 9) k = D.1 (b + 9) k := fun k hk => by rw [← hD2, q_sI_ao _ _ _ hk, q_sI_o (by omega)]
      have r94 : D2.1 (b + 9) 4 = Int32.ofNat (L + 1) := by rw [← hD2, q_sI_aa]
      have r13 : D2.1 (b + 13) = upd (D.1 (b + 13)) L (Int32.ofNat g) := by rw [← hD2, q_sI_o (by omega), q_sI_a]
      have rl : D2.2 = D.2 := by rw [← hD2]; rfl
      obtain ⟨D3, E2, z1, z2, z3, z4, z5, z6⟩ := qp_tail hB hb hu h ht x1 c2 (r1 1 (by omega) (by omega)) (r1 3 (by omega) (by omega)) (by rw [r1 b (by omega) (by omega)]) (by rw [r1 b (by omega) (by omega)])
      have w7 : E2.1 u 7 = Int32.ofNat L := by rw [z4 u (by omega)]; exact cL2
      rw [z1, z2, Option.bind_some, Option.bind_some, if_neg z3, w7, if_neg (q_in hL (by decide)), q_n (by omega), q_s]
      have s1 : ∀ y, y ≠ 57 → y ≠ u → y ≠ u + 10 → (j_sI (j_sI E2 (u + 10) L (Int32.ofNat g)) u 7 (Int32.ofNat (L + 1))).1 y = E.1 y := fun y y0 y1 y2 => by rw [q_sI_o y1, q_sI_o y2, z4 y y0]
      have s0 : ∀ k, k ≠ 7 → (j_sI (j_sI E2 (u + 10) L (Int32.ofNat g)) u 7 (Int32.ofNat (L + 1))).1 u k = E.1 u k := fun k hk => by rw [q_sI_ao _ _ _ hk, q_sI_o (by omega), z4 u (by omega)]
      refine z6 _ G P F W (L + 1) Q (((qp_mF.refl u E2).sI (by omega) (by omega) _ _).sI (by omega) (by omega) _ _) (by rw [q_sI_o (by omega), q_sI_o (by omega)]) rfl ?_ rfl ?_ ?_ (s0 0 (by decide)) (s0 1 (by decide))
      · refine qp_Llost (A := q_rows D b) (T := q_rows E u) h.2.2.2.1 hL (g := g) (by omega) r9 r94 r13 (fun j h1 h2 h3 => r1 (b + j) (by omega) (by omega)) (fun k h1 h2 => s0 k h1) (q_sI_aa _ _ _ _) ?_ (fun j h1 h2 h3 => s1 (u + j) (by omega) (by omega) (by omega))
        show (j_sI _ u 7 _).1 (u + 10) = _
        rw [q_sI_o (by omega), q_sI_a, z4 (u + 10) (by omega)]
        rfl
      · rw [s0 9 (by decide)]; exact h.2.2.2.2.1.2.1
      · rw [r1 20 (by omega) (by omega), r1 21 (by omega) (by omega), rl, s1 (u + 13) (by omega) (by omega) (by omega), s1 (u + 14) (by omega) (by omega) (by omega)]
        show qp_NM P F G (D.1 20) (D.1 21) (D.2 19) (E2.2 (u + 12)) (E.1 (u + 13)) (E.1 (u + 14))
        rw [z5 (u + 12) (by omega)]
        exact h.2.2.2.2.1.2.2
  · rw [show f_X6_toldNumber D 3 = _ from a1, show f_X13_knownOne u E 2 = _ from a2, Option.bind_some, Option.bind_some]
    dsimp only
    rw [if_pos rfl, if_pos (qp_fl9 _ _), qo_l42 (qp_fl9 _ _)]
    exact qp_O.bad t h.1.1 h.1.2 c1 c6 rfl rfl
theorem qp_had (hB : ∀ i, q_isb (B i)) (hb : b = 42 ∨ b = 4) (hu : 68 ≤ u) (h : qp_M B N b u D0 E0 G P F W L Q (P + F + G) D E) (ht : D.1 3 2 = 1) (t : qp_T B N lo D E) {Ex : JD} (hl : f_X13_lineBegins u Ex 0 1 = some E) : qp_O b u D0 E0 (qp_ST B N lo b u D0 E0) (f_X6_readHad b D) (f_X13_readHad u Ex) := by
  unfold f_X6_readHad f_X13_readHad
  rw [hl, Option.bind_some]
  have bd := h.2.2.2.1.1.1
  rcases qp_told hB hu h t (s := 0) (by omega) (Or.inl rfl) with ⟨p, p1, a1, a2, x1⟩ | ⟨c, c1, c6, a1, a2⟩
  · rw [show f_X6_toldNumber D 1 = _ from a1, show f_X13_knownOne u E 0 = _ from a2, Option.bind_some, Option.bind_some]
    dsimp only
    have e11 : E.1 (u + 11) p = D.1 (b + 14) p := h.2.2.2.1.2.2.2.2.2.1.2 p (by omega)
    rw [if_neg (q_nem1 (by omega)), if_neg t.pl.2, if_neg (q_in (show p < 5 by omega) (by decide)), q_at (show p < 5 by omega) (by decide), q_n (by omega), e11]
    by_cases c : D.1 (b + 14) p = -1
    · rw [if_pos c, if_pos c]
      unfold f_X13_readHad_j38
      obtain ⟨D1, E1, b1, b2, f1, g1, M1, t1⟩ := qp_go hB (by omega) hu h x1
      rw [b1, b2, Option.bind_some, Option.bind_some]
      unfold j_let
      dsimp only
      rcases qp_whole t1 599 (by decide) with ⟨v, v1, v2, v3, x2, v4⟩ | ⟨c, c1, c6, v2, v4⟩
      · rw [show f_X6_isWholeUpTo D1 599 = _ from v2, show f_X13_readWhole E1 0 599 = _ from v4]
        dsimp only
        rw [if_pos rfl, v3]
        unfold f_X0_addHad j_let
        dsimp only
        rw [q_put_in (show p < 5 by omega) (by decide), q_sI_o (show b + 9 ≠ b + 9 + 5 by omega)]
        generalize hD2 : j_sI (j_sI D1 (b + 9 + 5) p (Int32.ofNat v)) (b + 9) 6 (D1.1 (b + 9) 6 + 1) = D2
        have c2 : qp_cF b D1 D2 := by
          rw [← hD2]
          exact ((qp_cF.refl b D1).sI (by omega) (by omega) _ _).sI (by omega) (by omega) _ _
        have r1 : ∀ x, x ≠ b + 9 → x ≠ b + 14 → D2.1 x = D1.1 x := fun x z1 z2 => by rw [← hD2, q_sI_o z1, q_sI_o (by omega)]
        have r9 : ∀ k, k ≠ 6 → D2.1 (b + 9) k = D1.1 (b + 9) k := fun k hk => by rw [← hD2, q_sI_ao _ _ _ hk, q_sI_o (by omega)]
        have r96 : D2.1 (b + 9) 6 = D1.1 (b + 9) 6 + 1 := by rw [← hD2, q_sI_aa]
        have r14 : D2.1 (b + 14) = upd (D1.1 (b + 14)) p (Int32.ofNat v) := by rw [← hD2, q_sI_o (by omega), q_sI_a]
        have rl : D2.2 = D1.2 := by rw [← hD2]; rfl
        obtain ⟨D3, E2, z1, z2, z3, z4, z5, z6⟩ := qp_tail hB hb hu M1 (by rw [f1.1 3 (by decide)]; exact ht) x2 c2 (r1 1 (by omega) (by omega)) (r1 3 (by omega) (by omega)) (by rw [r1 b (by omega) (by omega)]) (by rw [r1 b (by omega) (by omega)])
        rw [z1, z2, Option.bind_some, Option.bind_some, Option.bind_some]
        dsimp only
        rw [if_neg z3, if_neg (q_in (show p < 5 by omega) (by decide)), q_n (by omega)]
        have s1 : ∀ y, y ≠ 57 → y ≠ u → y ≠ u + 11 → (j_sI (j_sI E2 (u + 11) p (Int32.ofNat v)) u 8 (E2.1 u 8 + 1)).1 y = E1.1 y := fun y y0 y1 y2 => by rw [q_sI_o y1, q_sI_o y2, z4 y y0]
        have s0 : ∀ k, k ≠ 8 → (j_sI (j_sI E2 (u + 11) p (Int32.ofNat v)) u 8 (E2.1 u 8 + 1)).1 u k = E1.1 u k := fun k hk => by rw [q_sI_ao _ _ _ hk, q_sI_o (by omega), z4 u (by omega)]
        refine z6 _ G P F W L Q (((qp_mF.refl u E2).sI (by omega) (by omega) _ _).sI (by omega) (by omega) _ _) (by rw [q_sI_o (by omega), q_sI_o (by omega)]) rfl ?_ rfl ?_ ?_ (s0 0 (by decide)) (s0 1 (by decide))
        · refine qp_Lhad (A := q_rows D1 b) (T := q_rows E1 u) (p := p) (v := Int32.ofNat v) M1.2.2.2.1 r9 ?_ r14 (fun j h1 h2 => r1 (b + j) (by omega) (by omega)) (fun k h1 h2 => s0 k h1) ?_ (fun j h1 h2 => s1 (u + j) (by omega) (by omega) (by omega))
          · show D2.1 (b + 9) 6 = (j_sI _ u 8 _).1 u 8
            rw [r96, q_sI_aa, z4 u (by omega), show E1.1 u 8 = D1.1 (b + 9) 6 from M1.2.2.2.1.1.2.2.2.2.2.2.2]
          · show (j_sI _ u 8 _).1 (u + 11) = _
            rw [q_sI_o (by omega), q_sI_a, z4 (u + 11) (by omega)]
            rfl
        · rw [s0 9 (by decide)]; exact M1.2.2.2.2.1.2.1
        · rw [r1 20 (by omega) (by omega), r1 21 (by omega) (by omega), rl, s1 (u + 13) (by omega) (by omega) (by omega), s1 (u + 14) (by omega) (by omega) (by omega)]
          show qp_NM P F G (D1.1 20) (D1.1 21) (D1.2 19) (E2.2 (u + 12)) (E1.1 (u + 13)) (E1.1 (u + 14))
          rw [z5 (u + 12) (by omega)]
          exact M1.2.2.2.2.1.2.2
      · rw [show f_X6_isWholeUpTo D1 599 = _ from v2, show f_X13_readWhole E1 0 599 = _ from v4]
        dsimp only
        rw [if_neg (by decide), Option.bind_some, if_pos (qp_fl9 _ _)]
        exact qp_O.bad t1 M1.1.1 M1.1.2 c1 c6 rfl rfl
    · rw [if_neg c, if_neg c]
      exact qp_O.bad (n := 3) t h.1.1 h.1.2 (by decide) (by decide) rfl (qo_h38 (qp_fl9 _ _) _)
  · rw [show f_X6_toldNumber D 1 = _ from a1, show f_X13_knownOne u E 0 = _ from a2, Option.bind_some, Option.bind_some]
    dsimp only
    rw [if_pos rfl, if_pos (qp_fl9 _ _), qo_h38 (qp_fl9 _ _)]
    exact qp_O.bad t h.1.1 h.1.2 c1 c6 rfl rfl
end QS
