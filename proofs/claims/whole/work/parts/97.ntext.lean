/-! tier two: land: all lines -/
section QS
variable {B : Nat → Int32} {N lo b u G P F W L Q m : Nat} {D0 E0 D E : JD}
theorem qp_T.X3 (t : qp_T B N lo D E) (h : D.1 1 4 = 3) : qp_X N (lo + 1) D E := by
  have h9 := t.pl.2
  obtain ⟨p, r, h1, h2, h3, e3, e5, e10, t⟩ := t
  rcases t with ⟨t4, t9, -⟩ | ⟨t4, t9, -⟩ | ⟨t4, t9, -⟩ | ⟨t4, t9, t8, -, hr⟩ | ⟨t4, t9, -⟩ | ⟨t4, t9⟩
  · rw [t4] at h; exact absurd h (by decide)
  · rw [t4] at h; exact absurd h (by decide)
  · rw [t4] at h; exact absurd h (by decide)
  · exact ⟨r, by omega, h3, e3, t8, h9⟩
  · rw [t4] at h; exact absurd h (by decide)
  · rw [t4] at h; exact absurd h (by decide)
theorem qp_T.s0 (t : qp_T B N lo D E) : D.1 1 4 = 0 ↔ E.1 57 9 = 1 := by
  obtain ⟨p, r, h1, h2, h3, e3, e5, e10, t⟩ := t
  rcases t with ⟨t4, t9, -⟩ | ⟨t4, t9, -⟩ | ⟨t4, t9, -⟩ | ⟨t4, t9, -⟩ | ⟨t4, t9, -⟩ | ⟨t4, t9⟩ <;> (rw [t4, t9]; decide)
theorem qp_T.bd (t : qp_T B N lo D E) : lo ≤ N := by
  obtain ⟨p, r, h1, h2, h3, -⟩ := t
  omega
/-- what the reference does behind the last line -/
def qp_tl (u : Nat) (e2 : JD) : Option JD := if e2.1 57 9 = 1 then f_X13_readAll_j33 u e2 else (j_let (f_X13_flaw e2 1) (fun q30 => f_X13_readAll_j33 u q30))
theorem qp_tlo (hv : E.1 57 9 = 5) : f_X13_readAll_j33 u E = some E := by
  unfold f_X13_readAll_j33 j_let
  dsimp only
  split
  · rw [qo_fl hv]
  · rfl
theorem qp_tl5 (hv : E.1 57 9 = 5) : qp_tl u E = some E := by
  unfold qp_tl j_let
  rw [if_neg (by rw [hv]; decide), qo_fl hv]
  exact qp_tlo hv
def qp_FIN (B : Nat → Int32) (N b u : Nat) (D0 E0 D E : JD) : Prop := ∃ G P F W L Q, 1 ≤ G ∧ qp_M B N b u D0 E0 G P F W L Q (P + F + G) D E
theorem qp_r2 {fr : Nat} (hf : 1 < fr) {E' : JD} (h : f_X13_readLine u E = some E') (e : f_X13_eats E' 59 = some (false, E')) : j_wh (f_X13_readAll_w2 u) fr (1, E) = some E' := by
  obtain ⟨fr, rfl⟩ : ∃ n, fr = n + 1 + 1 := ⟨fr - 2, by omega⟩
  refine (qp_whl (s' := (0, E')) ?_).trans (qp_whr ?_)
  · unfold f_X13_readAll_w2
    dsimp only
    rw [if_neg (by decide), h, Option.bind_some, e, Option.bind_some]
    rfl
  · unfold f_X13_readAll_w2
    dsimp only
    rw [if_pos rfl]
theorem qp_textL (hB : ∀ i, q_isb (B i)) (hb : b = 42 ∨ b = 4) (hu : 68 ≤ u) (hN : N ≤ 900) : ∀ (k i fc fr : Nat) (D E : JD), i + k = 901 → k + 3 < fc → k + 3 < fr → qp_ST B N i b u D0 E0 D E → ∃ (c : Bool) (D' E1 E' : JD), j_wh (f_X6_readText_w37 b) fc (Int32.ofNat i, D) = some (.inl (c, D')) ∧ j_wh (f_X13_readAll_w2 u) fr (1, E) = some E1 ∧ qp_tl u E1 = some E' ∧ qp_cF b D0 D' ∧ qp_mF u E0 E' ∧ ((c = true ∧ qp_FIN B N b u D0 E0 D' E') ∨ (c = false ∧ qp_F D' E')) := by
  intro k
  induction k with
  | zero =>
    intro i fc fr D E hk hfc hfr h
    obtain ⟨-, -, -, -, -, -, -, t⟩ := h
    have := t.bd
    omega
  | succ k ih =>
    intro i fc fr D E hk hfc hfr h
    have i9 : ¬ ((900 : Int32) < Int32.ofNat i) := fun z => by
      have := (q_lt (n := 900) (by decide) (by omega)).mp z
      omega
    obtain ⟨fc, rfl⟩ : ∃ n, fc = n + 1 := ⟨fc - 1, by omega⟩
    obtain ⟨c, D1, E1, a1, a2, F1, G1, z⟩ := qp_rline hB hb hu h
    have cs : ∀ r, f_X6_readText_w37 b (Int32.ofNat i, D) = some (.inr (.inl r)) → j_wh (f_X6_readText_w37 b) (fc + 1) (Int32.ofNat i, D) = some (.inl r) := fun r hr => qp_whr hr
    rcases z with ⟨rfl, G, P, F, W, L, Q, M1, t1⟩ | ⟨rfl, z⟩
    · rcases (qp_eats t1).2 with ⟨e3, ea⟩ | ⟨e3, ea⟩
      · obtain ⟨D2, E2, b1, b2, f2, g2, M2, t2⟩ := qp_go hB (by omega) hu M1 (t1.X3 e3)
        rw [b2, Option.bind_some] at ea
        obtain ⟨fr, rfl⟩ : ∃ n, fr = n + 1 := ⟨fr - 1, by omega⟩
        obtain ⟨c, D3, E3, E4, r1, r2, r3⟩ := ih (i + 1) fc fr D2 E2 (by omega) (by omega) (by omega) ⟨G, P, F, W, L, Q, M2, t2⟩
        refine ⟨c, D3, E3, E4, (qp_whl ?_).trans r1, (qp_whl ?_).trans r2, r3⟩
        · unfold f_X6_readText_w37
          dsimp only
          rw [if_neg i9, a1, Option.bind_some]
          dsimp only
          rw [if_pos rfl, if_neg (by rw [e3]; decide), if_pos e3, b1, Option.bind_some, q_s]
        · unfold f_X13_readAll_w2
          dsimp only
          rw [if_neg (by decide), a2, Option.bind_some, ea, Option.bind_some]
          rfl
      · have rr := qp_r2 (fr := fr) (by omega) a2 ea
        by_cases e0 : D1.1 1 4 = 0
        · have e9 := t1.s0.mp e0
          have cG := M1.2.2.2.1.1.2.1
          have bd := M1.2.2.2.1.1.1
          have cG1 : D1.1 b 4 = Int32.ofNat G := cG.1
          have cG2 : E1.1 u 4 = Int32.ofNat G := cG.2
          by_cases g0 : G = 0
          · refine ⟨false, (f_X6_fail D1 (Int32.ofNat 6)).2, E1, f_X13_flaw E1 (Int32.ofNat 6), cs _ ?_, rr, ?_, F1.fail _, G1.flaw _, Or.inr ⟨rfl, qp_fl t1.pl.1 t1.pl.2 (by decide) (by decide)⟩⟩
            · unfold f_X6_readText_w37 j_let
              dsimp only
              rw [if_neg i9, a1, Option.bind_some]
              dsimp only
              rw [if_pos rfl, if_pos e0, cG1, g0, if_neg (by decide), if_neg (by rw [qp_fl1]; decide)]
              rfl
            · unfold qp_tl f_X13_readAll_j33
              rw [if_pos e9, cG2, g0, if_pos (by decide)]
              rfl
          · refine ⟨true, D1, E1, E1, cs _ ?_, rr, ?_, F1, G1, Or.inl ⟨rfl, G, P, F, W, L, Q, by omega, M1⟩⟩
            · unfold f_X6_readText_w37
              dsimp only
              rw [if_neg i9, a1, Option.bind_some]
              dsimp only
              rw [if_pos rfl, if_pos e0, cG1, if_pos (show (0 : Int32) < Int32.ofNat G from (q_lt (n := 0) (by decide) (by omega)).mpr (by omega))]
            · unfold qp_tl f_X13_readAll_j33
              rw [if_pos e9, cG2, if_neg (show ¬ (Int32.ofNat G = 0) from fun y => g0 ((q_eq (i := 0) (by omega) (by decide)).mp y))]
        · refine ⟨false, (f_X6_fail D1 (Int32.ofNat 1)).2, E1, f_X13_flaw E1 (Int32.ofNat 1), cs _ ?_, rr, ?_, F1.fail _, G1.flaw _, Or.inr ⟨rfl, qp_fl t1.pl.1 t1.pl.2 (by decide) (by decide)⟩⟩
          · unfold f_X6_readText_w37 j_let
            dsimp only
            rw [if_neg i9, a1, Option.bind_some]
            dsimp only
            rw [if_pos rfl, if_neg e0, if_neg e3]
            rfl
          · unfold qp_tl j_let
            rw [if_neg (fun y => e0 (t1.s0.mpr y))]
            exact qp_tlo (qp_fl9 _ _)
    · refine ⟨false, D1, E1, E1, cs _ ?_, qp_r2 (by omega) a2 (qo_eats z.1 _), qp_tl5 z.1, F1, G1, Or.inr ⟨rfl, z⟩⟩
      unfold f_X6_readText_w37
      dsimp only
      rw [if_neg i9, a1, Option.bind_some]
      dsimp only
      rw [if_neg (by decide)]
/-- the class's land is emptied -/
theorem qp_clear (hb : b = 42 ∨ b = 4) (d : JD) : ∃ D', f_X3_clear b d = some D' ∧ (∀ x, (x < b ∨ b + 14 < x) → D'.1 x = d.1 x) ∧ (∀ k, k < 8 → D'.1 b k = 0) ∧ (∀ g, g < 6 → D'.1 (b + 6) g = 0) ∧ (D'.1 (b + 9) 0 = 0 ∧ D'.1 (b + 9) 4 = 0 ∧ D'.1 (b + 9) 6 = 0) ∧ (∀ p, p < 5 → D'.1 (b + 14) p = -1) ∧ D'.2 = d.2 := by
  unfold f_X3_clear f_X0_clear
  generalize hd1 : j_sI (j_sI (j_sI (j_sI (j_sI (j_sI (j_sI (j_sI d b 0 0) b 1 0) b 2 0) b 3 0) b 4 0) b 5 0) b 6 0) b 7 0 = d1
  have o1 : ∀ x, x ≠ b → d1.1 x = d.1 x := fun x hx => by rw [← hd1, q_sI_o hx, q_sI_o hx, q_sI_o hx, q_sI_o hx, q_sI_o hx, q_sI_o hx, q_sI_o hx, q_sI_o hx]
  have o0 : ∀ k, k < 8 → d1.1 b k = 0 := by
    intro k hk
    rw [← hd1, q_sI_a, q_sI_a, q_sI_a, q_sI_a, q_sI_a, q_sI_a, q_sI_a, q_sI_a]
    match k, hk with
    | 0, _ => rfl
    | 1, _ => rfl
    | 2, _ => rfl
    | 3, _ => rfl
    | 4, _ => rfl
    | 5, _ => rfl
    | 6, _ => rfl
    | 7, _ => rfl
    | n + 8, h => exact absurd h (by omega)
  have ol : d1.2 = d.2 := by rw [← hd1]; rfl
  obtain ⟨d2, w1, p1, p2, p3⟩ := q_inv (F := f_X3_clear_w42 b) (τ := fun i (S : Int32 × JD) => S.1 = Int32.ofNat i ∧ (∀ x, x ≠ b + 6 → S.2.1 x = d1.1 x) ∧ (∀ g, g < i → S.2.1 (b + 6) g = 0) ∧ S.2.2 = d1.2) (ρ := fun S => (∀ x, x ≠ b + 6 → S.1 x = d1.1 x) ∧ (∀ g, g < 6 → S.1 (b + 6) g = 0) ∧ S.2 = d1.2) (n := 6) (by decide) (by
    intro i hi S hS
    obtain ⟨c, S⟩ := S
    obtain ⟨h1, h2, h3, h4⟩ := hS
    dsimp only at h1 h2 h3 h4
    subst h1
    unfold f_X3_clear_w42
    dsimp only
    rw [if_neg (show ¬ ((6 : Int32) ≤ Int32.ofNat i) from q_go (n := 6) (by decide) hi), if_neg (q_in hi (by decide)), q_n (by omega), q_s]
    refine ⟨_, rfl, rfl, fun x hx => ?_, fun g hg => ?_, h4⟩
    · rw [q_sI_o hx]; exact h2 x hx
    · by_cases e : g = i
      · subst e; rw [q_sI_aa]
      · rw [q_sI_ao _ _ _ e]; exact h3 g (by omega)) (by
    intro S hS
    obtain ⟨c, S⟩ := S
    obtain ⟨h1, h2, h3, h4⟩ := hS
    dsimp only at h1 h2 h3 h4
    subst h1
    unfold f_X3_clear_w42
    dsimp only
    rw [if_pos (by decide)]
    exact ⟨_, rfl, h2, h3, h4⟩) (t := (0, d1)) ⟨rfl, fun _ _ => rfl, fun g hg => absurd hg (by omega), rfl⟩
  rw [w1, Option.bind_some]
  generalize hd3 : j_sI (j_sI (j_sI d2 (b + 9) 0 0) (b + 9) 4 0) (b + 9) 6 0 = d3
  have n1 : ∀ x, x ≠ b + 9 → d3.1 x = d2.1 x := fun x hx => by rw [← hd3, q_sI_o hx, q_sI_o hx, q_sI_o hx]
  have n9 : d3.1 (b + 9) 0 = 0 ∧ d3.1 (b + 9) 4 = 0 ∧ d3.1 (b + 9) 6 = 0 := by
    rw [← hd3, q_sI_a, q_sI_a, q_sI_a]
    exact ⟨rfl, rfl, rfl⟩
  have nl : d3.2 = d2.2 := by rw [← hd3]; rfl
  obtain ⟨d4, w2, y1, y2, y3⟩ := q_inv (F := f_X0_clear_w17 (b + 9)) (τ := fun i (S : Int32 × JD) => S.1 = Int32.ofNat i ∧ (∀ x, x ≠ b + 14 → S.2.1 x = d3.1 x) ∧ (∀ g, g < i → S.2.1 (b + 14) g = -1) ∧ S.2.2 = d3.2) (ρ := fun S => (∀ x, x ≠ b + 14 → S.1 x = d3.1 x) ∧ (∀ g, g < 5 → S.1 (b + 14) g = -1) ∧ S.2 = d3.2) (n := 5) (by decide) (by
    intro i hi S hS
    obtain ⟨c, S⟩ := S
    obtain ⟨h1, h2, h3, h4⟩ := hS
    dsimp only at h1 h2 h3 h4
    subst h1
    unfold f_X0_clear_w17
    dsimp only
    rw [if_neg (show ¬ ((5 : Int32) ≤ Int32.ofNat i) from q_go (n := 5) (by decide) hi), if_neg (q_in hi (by decide)), q_n (by omega), q_s]
    refine ⟨_, rfl, rfl, fun x hx => ?_, fun g hg => ?_, h4⟩
    · rw [q_sI_o hx]; exact h2 x hx
    · by_cases e : g = i
      · subst e; rw [q_sI_aa]
      · rw [q_sI_ao _ _ _ e]; exact h3 g (by omega)) (by
    intro S hS
    obtain ⟨c, S⟩ := S
    obtain ⟨h1, h2, h3, h4⟩ := hS
    dsimp only at h1 h2 h3 h4
    subst h1
    unfold f_X0_clear_w17
    dsimp only
    rw [if_pos (by decide)]
    exact ⟨_, rfl, h2, h3, h4⟩) (t := (0, d3)) ⟨rfl, fun _ _ => rfl, fun g hg => absurd hg (by omega), rfl⟩
  rw [w2]
  refine ⟨d4, rfl, fun x hx => ?_, fun k hk => ?_, fun g hg => ?_, ?_, y2, y3.trans (nl.trans (p3.trans ol))⟩
  · rw [y1 x (by omega), n1 x (by omega), p1 x (by omega), o1 x (by omega)]
  · rw [y1 b (by omega), n1 b (by omega), p1 b (by omega)]; exact o0 k hk
  · rw [y1 _ (by omega), n1 _ (by omega)]; exact p2 g hg
  · rw [y1 _ (by omega)]; exact n9
end QS
