/-! tier two: fits of the reference -/
def q_fiv (A : Nat → Nat → Int32) (L : Nat) (i : Int32) (D0 : JD) (c : Nat) (D : JD) : Prop := (∀ b, b ≠ 57 → b ≠ 60 → b ≠ 66 → D.1 b = D0.1 b) ∧ (∀ k, k ≠ 25 → k ≠ 26 → D.1 57 k = D0.1 57 k) ∧ D.1 57 25 = Int32.ofNat (q_rk (q_ft A L) c) ∧ q_nth A L i c (D.1 57 26) ∧ ∀ k, k < L → ∀ h, h < 3 → D.1 66 (3 * k + h) = Int32.ofNat (q_hk A L k h c)
theorem q_hk_s (A : Nat → Nat → Int32) (L k h c : Nat) : q_hk A L k h (c + 1) = if q_ft A L c = true ∧ q_dig L c k = Int32.ofNat h then q_hk A L k h c + 1 else q_hk A L k h c := by
  show (if (q_ft A L c && decide (q_dig L c k = Int32.ofNat h)) = true then q_hk A L k h c + 1 else q_hk A L k h c) = _
  by_cases z : q_ft A L c = true ∧ q_dig L c k = Int32.ofNat h
  · rw [if_pos z, if_pos (by rw [z.1, decide_eq_true z.2]; rfl)]
  · rw [if_neg z, if_neg (fun y => z (by
      rw [Bool.and_eq_true] at y
      exact ⟨y.1, of_decide_eq_true y.2⟩))]
theorem q_fitM {G P F W L a t : Nat} {d D0 : JD} (hL : q_LR G P F W L (q_rows d a) (q_rows d t)) (h68 : 68 ≤ t) (et : ∀ j, D0.1 (t + j) = d.1 (t + j)) (i : Int32) : ∃ D, f_X13_fitting t D0 i = some D ∧ q_fiv (q_rows d a) L i D0 (3 ^ L) D := by
  have hL4 := hL.1.1.2.2.2.2.2
  have hG := hL.1.1.2.1
  obtain ⟨p4, p3, p1⟩ := q_L81 hL4
  have e7 : d.1 t 7 = Int32.ofNat L := hL.1.2.2.2.2.2.1.2
  -- the counts are made 0
  obtain ⟨D1, l1, r1, r2, r3, r4⟩ := q_inv (n := 12) (by decide) (τ := fun j (q : Int32 × JD) => ∃ D, q = (Int32.ofNat j, D) ∧ (∀ b, b ≠ 57 → b ≠ 66 → D.1 b = D0.1 b) ∧ D.1 57 = (j_sI (j_sI D0 57 25 0) 57 26 (-1)).1 57 ∧ ∀ k, k < j → D.1 66 k = 0) (ρ := fun (D : JD) => (∀ b, b ≠ 57 → b ≠ 66 → D.1 b = D0.1 b) ∧ D.1 57 = (j_sI (j_sI D0 57 25 0) 57 26 (-1)).1 57 ∧ (∀ k, k < 12 → D.1 66 k = 0) ∧ True) (F := f_X13_fitting_w12 t i) (t := (0, j_sI (j_sI D0 57 25 0) 57 26 (-1)))
    (fun j hj q hq => by
      obtain ⟨D, rfl, h1, h2, h3⟩ := hq
      refine ⟨(Int32.ofNat (j + 1), j_sI D 66 j 0), ?_, _, rfl, fun b hb1 hb2 => by rw [q_sI_o hb2, h1 b hb1 hb2], by rw [q_sI_o (by decide), h2], fun k hk => ?_⟩
      · unfold f_X13_fitting_w12
        dsimp only
        rw [if_neg (show ¬ ((12 : Int32) ≤ Int32.ofNat j) from q_go (n := 12) (by decide) hj), if_neg (q_in (by omega) (by decide)), q_s, q_n (by omega)]
      · rw [q_sI_a]
        unfold upd
        by_cases y : k = j
        · rw [if_pos y]
        · rw [if_neg y]; exact h3 k (by omega))
    (fun q hq => by
      obtain ⟨D, rfl, h1, h2, h3⟩ := hq
      refine ⟨D, ?_, h1, h2, h3, trivial⟩
      unfold f_X13_fitting_w12
      dsimp only
      rw [if_pos (show (12 : Int32) ≤ Int32.ofNat 12 from q_end (n := 12) (by decide))])
    ⟨_, rfl, fun b hb1 hb2 => by rw [q_sI_o hb1, q_sI_o hb1], rfl, fun k hk => absurd hk (by omega)⟩
  have start : q_fiv (q_rows d a) L i D0 0 D1 := by
    refine ⟨fun b h1 h2 h3 => r1 b h1 h3, fun k h1 h2 => ?_, ?_, ?_, fun k hk h hh => ?_⟩
    · rw [r2, q_sI_a, q_sI_a]
      unfold upd
      rw [if_neg h2, if_neg h1]
    · rw [r2, q_sI_a, q_sI_a]; rfl
    · refine Or.inr ⟨fun c' hc' => absurd hc' (by omega), ?_⟩
      rw [r2, q_sI_a]; rfl
    · rw [r3 _ (by omega)]; rfl
  obtain ⟨D, l2, l3⟩ := q_inv (n := 3 ^ L) (by omega) (τ := fun c (q : Int32 × JD) => ∃ D, q = (Int32.ofNat c, D) ∧ q_fiv (q_rows d a) L i D0 c D) (ρ := fun (D : JD) => q_fiv (q_rows d a) L i D0 (3 ^ L) D) (F := f_X13_fitting_w33 t i) (t := (0, D1))
    (fun c hc q hq => by
      obtain ⟨D, rfl, h1, h2, h3, h4, h5⟩ := hq
      have Dt : ∀ j, D.1 (t + j) = d.1 (t + j) := fun j => by rw [h1 _ (by omega) (by omega) (by omega), et]
      have Dt0 : D.1 t = d.1 t := Dt 0
      have gs : f_X13_guesses (d.1 t) = Int32.ofNat (3 ^ L) := q_guesses hL4 e7
      have k2 := q_go (n := 3 ^ L) (by omega) hc
      -- the lost ones are hung as guessed
      obtain ⟨E, m1, m2, m3, m4⟩ := q_inv (n := L) (by omega) (τ := fun k (q : Int32 × JD) => ∃ E, q = (Int32.ofNat k, E) ∧ (∀ b, b ≠ 60 → E.1 b = D.1 b) ∧ q_dg (E.1 60) ∧ q_cod (E.1 60) = q_it (fun k w => f_X10_with w (d.1 (a + 13) k) (q_dig L c k)) k (d.1 a 6)) (ρ := fun (E : JD) => (∀ b, b ≠ 60 → E.1 b = D.1 b) ∧ q_dg (E.1 60) ∧ q_cod (E.1 60) = q_fitw (d.1 (a + 13)) (d.1 a 6) L c) (F := f_X13_fitting_w47_33 t i (Int32.ofNat c)) (t := (0, q_row D 60 (q_mix 6 (D.1 (t + 6)) (D.1 60))))
        (fun k hk q hq => by
          obtain ⟨E, rfl, y1, y2, y3⟩ := hq
          have Et : ∀ j, E.1 (t + j) = d.1 (t + j) := fun j => by rw [y1 _ (by omega), Dt]
          have Et0 : E.1 t = d.1 t := Et 0
          have k3 := q_go (n := L) (by omega) hk
          obtain ⟨z1, g, hg, z2⟩ := hL.2.1.2.2.2.1 k hk
          have z1' : d.1 (t + 10) k = d.1 (a + 13) k := z1
          have z2' : d.1 (a + 13) k = Int32.ofNat g := z2
          have gu : f_X13_guess (d.1 t) (Int32.ofNat c) (Int32.ofNat k) = some (q_dig L c k) := q_guess hL4 e7 (by omega) hk
          have dg := (q_dig_WY L c).1 k (by omega)
          refine ⟨(Int32.ofNat (k + 1), j_sI E 60 g (q_dig L c k)), ?_, _, rfl, fun b hb => by rw [q_sI_o hb, y1 b hb], ?_, ?_⟩
          · unfold f_X13_fitting_w47_33
            dsimp only
            rw [Et0, e7, if_neg k3, if_neg (q_in (by omega) (by decide)), gu, Option.bind_some, Et, q_n (by omega), z1', z2', if_neg (q_in (by omega) (by decide)), q_s, q_n (by omega)]
          · rw [q_sI_a]; exact q_dgu y2 g dg
          · rw [q_sI_a]
            show _ = f_X10_with (q_it (fun k w => f_X10_with w (d.1 (a + 13) k) (q_dig L c k)) k (d.1 a 6)) (d.1 (a + 13) k) (q_dig L c k)
            rw [← y3, z2', q_with y2 (by omega) dg])
        (fun q hq => by
          obtain ⟨E, rfl, y1, y2, y3⟩ := hq
          have Et0 : E.1 t = d.1 t := by rw [y1 _ (by omega), Dt0]
          refine ⟨E, ?_, y1, y2, y3⟩
          unfold f_X13_fitting_w47_33
          dsimp only
          rw [Et0, e7, if_pos (q_end (by omega))])
        (by
          have x6 : ∀ k, k < 6 → (q_row D 60 (q_mix 6 (D.1 (t + 6)) (D.1 60))).1 60 k = d.1 (t + 6) k := fun k hk => by
            rw [q_row_a]
            unfold q_mix
            rw [if_pos hk, Dt]
          have w6 : q_WY G (d.1 (t + 6)) := hL.2.2.1.2.1
          refine ⟨_, rfl, fun b hb => q_row_o hb, fun k hk => by rw [x6 k hk]; exact w6.1 k hk, ?_⟩
          rw [q_cod_congr x6]
          exact hL.2.2.1.1.symm)
      have Et : ∀ j, E.1 (t + j) = d.1 (t + j) := fun j => by rw [m2 _ (by omega), Dt]
      have Et0 : E.1 t = d.1 t := Et 0
      have wr := q_wrongM (A := q_rows d a) (T := q_rows d t) hL m3
      rw [m4] at wr
      have wr' : f_X13_wrong (E.1 60) (d.1 t) (d.1 (t + 1)) (d.1 (t + 2)) (d.1 (t + 3)) (d.1 (t + 4)) (d.1 (t + 5)) (d.1 (t + 11)) = some (f_X0_firstBelied (d.1 a) (d.1 (a + 7)) (d.1 (a + 8)) (d.1 (a + 14)) (q_fitw (d.1 (a + 13)) (d.1 a 6) L c)) := wr
      have body : f_X13_fitting_w33 t i (Int32.ofNat c, D) = if f_X0_firstBelied (d.1 a) (d.1 (a + 7)) (d.1 (a + 8)) (d.1 (a + 14)) (q_fitw (d.1 (a + 13)) (d.1 a 6) L c) = -2 then (if E.1 57 25 = i then f_X13_fitting_j109_33 t i (j_sI E 57 26 (Int32.ofNat c)) (Int32.ofNat c) else f_X13_fitting_j109_33 t i E (Int32.ofNat c)) else f_X13_fitting_j157_33 t i E (Int32.ofNat c) := by
        unfold f_X13_fitting_w33
        dsimp only
        rw [Dt0, gs, if_neg k2, q_told t h68, Option.bind_some, m1, Option.bind_some, Et0, Et, Et, Et, Et, Et, Et, wr', Option.bind_some]
      rw [body]
      have E57 : ∀ k, E.1 57 k = D.1 57 k := fun k => by rw [m2 57 (by decide)]
      have E66 : ∀ k, E.1 66 k = D.1 66 k := fun k => by rw [m2 66 (by decide)]
      by_cases ft : f_X0_firstBelied (d.1 a) (d.1 (a + 7)) (d.1 (a + 8)) (d.1 (a + 14)) (q_fitw (d.1 (a + 13)) (d.1 a 6) L c) = -2
      · have ftb : q_ft (q_rows d a) L c = true := decide_eq_true ft
        rw [if_pos ft]
        -- the counting
        have cnt : ∀ E0 : JD, (∀ j, E0.1 (t + j) = d.1 (t + j)) → (∀ k, E0.1 66 k = D.1 66 k) → ∃ E', f_X13_fitting_j109_33 t i E0 (Int32.ofNat c) = some (.inl (Int32.ofNat (c + 1), E')) ∧ (∀ b, b ≠ 57 → b ≠ 66 → E'.1 b = E0.1 b) ∧ (∀ k, k ≠ 25 → E'.1 57 k = E0.1 57 k) ∧ E'.1 57 25 = E0.1 57 25 + 1 ∧ ∀ k, k < L → ∀ h, h < 3 → E'.1 66 (3 * k + h) = Int32.ofNat (q_hk (q_rows d a) L k h (c + 1)) := by
          intro E0 hE hE66
          obtain ⟨E', n1, n2, n3⟩ := q_inv (n := L) (by omega) (τ := fun k (q : Int32 × JD) => ∃ E', q = (Int32.ofNat k, E') ∧ (∀ b, b ≠ 66 → E'.1 b = (j_sI E0 57 25 (E0.1 57 25 + 1)).1 b) ∧ ∀ k', k' < L → ∀ h, h < 3 → E'.1 66 (3 * k' + h) = if k' < k then Int32.ofNat (q_hk (q_rows d a) L k' h (c + 1)) else Int32.ofNat (q_hk (q_rows d a) L k' h c)) (ρ := fun (E' : JD) => (∀ b, b ≠ 66 → E'.1 b = (j_sI E0 57 25 (E0.1 57 25 + 1)).1 b) ∧ ∀ k', k' < L → ∀ h, h < 3 → E'.1 66 (3 * k' + h) = Int32.ofNat (q_hk (q_rows d a) L k' h (c + 1))) (F := f_X13_fitting_w121_33 t i (Int32.ofNat c)) (t := (0, j_sI E0 57 25 (E0.1 57 25 + 1)))
            (fun k hk q hq => by
              obtain ⟨E', rfl, y1, y2⟩ := hq
              have Et0 : E'.1 t = d.1 t := by
                rw [y1 _ (by omega), q_sI_o (by omega)]
                exact hE 0
              have k3 := q_go (n := L) (by omega) hk
              have gu : f_X13_guess (d.1 t) (Int32.ofNat c) (Int32.ofNat k) = some (q_dig L c k) := q_guess hL4 e7 (by omega) hk
              obtain ⟨h, hh, eh⟩ := q_dig3 (L := L) (c := c) hk
              have ix : (3 : Int32) * Int32.ofNat k + Int32.ofNat h = Int32.ofNat (3 * k + h) := by
                rw [show (3 : Int32) = Int32.ofNat 3 from rfl, q_mul, ← Int32.ofNat_add]
              refine ⟨(Int32.ofNat (k + 1), j_sI E' 66 (3 * k + h) (E'.1 66 (3 * k + h) + 1)), ?_, _, rfl, fun b hb => by rw [q_sI_o hb, y1 b hb], fun k' hk' h' hh' => ?_⟩
              · unfold f_X13_fitting_w121_33
                dsimp only
                rw [Et0, e7, if_neg k3, gu, Option.bind_some, eh, ix, if_neg (q_in (by omega) (by decide)), if_neg (q_in (by omega) (by decide)), q_s, q_n (by omega)]
              · rw [q_sI_a]
                unfold upd
                by_cases y : k' = k
                · subst y
                  by_cases y2' : h' = h
                  · subst y2'
                    rw [if_pos rfl, if_pos (by omega), y2 k' hk' h' hh', if_neg (by omega), q_hk_s, if_pos ⟨ftb, eh⟩, q_s]
                  · rw [if_neg (by omega), if_pos (by omega), y2 k' hk' h' hh', if_neg (by omega), q_hk_s, if_neg (fun u => y2' (by
                      have := u.2
                      rw [eh] at this
                      exact ((q_eq (by omega) (by omega)).mp this).symm))]
                · rw [if_neg (by omega), y2 k' hk' h' hh']
                  by_cases y3 : k' < k
                  · rw [if_pos y3, if_pos (by omega)]
                  · rw [if_neg y3, if_neg (by omega)])
            (fun q hq => by
              obtain ⟨E', rfl, y1, y2⟩ := hq
              have Et0 : E'.1 t = d.1 t := by
                rw [y1 _ (by omega), q_sI_o (by omega)]
                exact hE 0
              refine ⟨E', ?_, y1, fun k' hk' h hh => by rw [y2 k' hk' h hh, if_pos hk']⟩
              unfold f_X13_fitting_w121_33
              dsimp only
              rw [Et0, e7, if_pos (q_end (by omega))])
            ⟨_, rfl, fun _ _ => rfl, fun k' hk' h hh => by
              rw [if_neg (by omega), q_sI_o (by decide), hE66, h5 k' hk' h hh]⟩
          refine ⟨E', ?_, fun b h1 h2 => by rw [n2 b h2, q_sI_o h1], fun k hk => ?_, ?_, n3⟩
          · unfold f_X13_fitting_j109_33 f_X13_fitting_j157_33
            rw [n1, Option.bind_some, q_s]
          · rw [n2 57 (by decide), q_sI_a]
            unfold upd
            rw [if_neg hk]
          · rw [n2 57 (by decide), q_sI_a, q_upd_a]
        have rks := q_rk_s ftb
        by_cases ci : E.1 57 25 = i
        · rw [if_pos ci]
          obtain ⟨E', c1, c2, c3, c4, c5⟩ := cnt (j_sI E 57 26 (Int32.ofNat c)) (fun j => by rw [q_sI_o (by omega), Et]) (fun k => by rw [q_sI_o (by decide), E66])
          refine ⟨_, c1, E', rfl, fun b z1 z2 z3 => ?_, fun k z1 z2 => ?_, ?_, ?_, c5⟩
          · rw [c2 b z1 z3, q_sI_o z1, m2 b z2, h1 b z1 z2 z3]
          · rw [c3 k z1, q_sI_a]
            unfold upd
            rw [if_neg z2, E57, h2 k z1 z2]
          · rw [c4, q_sI_a]
            show (if 25 = 26 then _ else E.1 57 25) + 1 = _
            rw [if_neg (by decide), E57, h3, rks, q_s]
          · refine Or.inl ⟨c, by omega, ftb, ?_, ?_⟩
            · rw [← ci, E57, h3]
            · rw [c3 26 (by decide), q_sI_a, q_upd_a]
        · rw [if_neg ci]
          obtain ⟨E', c1, c2, c3, c4, c5⟩ := cnt E Et E66
          refine ⟨_, c1, E', rfl, fun b z1 z2 z3 => ?_, fun k z1 z2 => ?_, ?_, ?_, c5⟩
          · rw [c2 b z1 z3, m2 b z2, h1 b z1 z2 z3]
          · rw [c3 k z1, E57, h2 k z1 z2]
          · rw [c4, E57, h3, rks, q_s]
          · rw [c3 26 (by decide), E57]
            rcases h4 with ⟨c', x1, x2, x3, x4⟩ | ⟨x1, x2⟩
            · exact Or.inl ⟨c', by omega, x2, x3, x4⟩
            · refine Or.inr ⟨fun c' hc' hf => ?_, x2⟩
              by_cases y : c' = c
              · rw [y]
                rw [E57, h3] at ci
                exact ci
              · exact x1 c' (by omega) hf
      · have ftb : ¬ q_ft (q_rows d a) L c = true := fun y => ft (of_decide_eq_true y)
        rw [if_neg ft]
        have rks : q_rk (q_ft (q_rows d a) L) (c + 1) = q_rk (q_ft (q_rows d a) L) c := if_neg ftb
        refine ⟨(Int32.ofNat (c + 1), E), ?_, E, rfl, fun b z1 z2 z3 => ?_, fun k z1 z2 => ?_, ?_, ?_, fun k hk h hh => ?_⟩
        · unfold f_X13_fitting_j157_33
          rw [q_s]
        · rw [m2 b z2, h1 b z1 z2 z3]
        · rw [E57, h2 k z1 z2]
        · rw [E57, h3, rks]
        · rw [E57]
          rcases h4 with ⟨c', x1, x2, x3, x4⟩ | ⟨x1, x2⟩
          · exact Or.inl ⟨c', by omega, x2, x3, x4⟩
          · refine Or.inr ⟨fun c' hc' hf => ?_, x2⟩
            by_cases y : c' = c
            · rw [y] at hf; exact absurd hf ftb
            · exact x1 c' (by omega) hf
        · rw [E66, h5 k hk h hh, q_hk_s, if_neg (fun y => ftb y.1)])
    (fun q hq => by
      obtain ⟨D, rfl, hD⟩ := hq
      refine ⟨D, ?_, hD⟩
      have Dt0 : D.1 t = d.1 t := by
        rw [hD.1 _ (by omega) (by omega) (by omega)]
        exact et 0
      unfold f_X13_fitting_w33
      dsimp only
      rw [Dt0, q_guesses hL4 e7, if_pos (q_end (by omega))])
    ⟨D1, rfl, start⟩
  refine ⟨D, ?_, l3⟩
  unfold f_X13_fitting
  rw [l1, Option.bind_some, l2, Option.bind_some]
