/-! tier two: both at a token -/
def qp_T (B : Nat → Int32) (N lo : Nat) (D E : JD) : Prop := ∃ p r : Nat, lo ≤ p ∧ p ≤ r ∧ r ≤ N ∧ D.1 1 3 = Int32.ofNat r ∧ D.1 1 5 = Int32.ofNat p ∧ E.1 57 10 = Int32.ofNat p ∧ ((D.1 1 4 = 0 ∧ E.1 57 9 = 1 ∧ E.1 57 8 = Int32.ofNat r) ∨ (D.1 1 4 = 1 ∧ E.1 57 9 = 2 ∧ E.1 57 8 = Int32.ofNat r ∧ r - p ≤ 8 ∧ (∀ i, p ≤ i → i < r → f_X9_isLetter (B i) = true) ∧ D.2 1 6 = q_lwd B p (r - p) ∧ E.2 57 14 = q_lwd B p (r - p)) ∨ (D.1 1 4 = 2 ∧ E.1 57 9 = 3 ∧ E.1 57 8 = Int32.ofNat r ∧ ∃ v, v ≤ 999 ∧ D.1 1 7 = Int32.ofNat v ∧ E.1 57 11 = Int32.ofNat v) ∨ (D.1 1 4 = 3 ∧ E.1 57 9 = 4 ∧ E.1 57 8 = Int32.ofNat r ∧ E.1 57 11 = 59 ∧ p < r) ∨ (D.1 1 4 = 4 ∧ E.1 57 9 = 4 ∧ E.1 57 8 = Int32.ofNat r ∧ E.1 57 11 = 44 ∧ p < r) ∨ (D.1 1 4 = 5 ∧ E.1 57 9 = 0))
theorem qp_T.lo {B : Nat → Int32} {N lo lo' : Nat} {D E : JD} (h : qp_T B N lo D E) (hl : lo' ≤ lo) : qp_T B N lo' D E := by
  obtain ⟨p, r, h1, h2⟩ := h
  exact ⟨p, r, Nat.le_trans hl h1, h2⟩
section QA
variable {B : Nat → Int32} {N q : Nat} {D E : JD}
theorem qp_adv (hb : ∀ i, q_isb (B i)) (x : q_byx B N D E) (e3 : D.1 1 3 = Int32.ofNat q) (e8 : E.1 57 8 = Int32.ofNat q) (hq : q ≤ N) (h9 : E.1 57 9 ≠ 5) : ∃ D' E', f_X9_advance D = some D' ∧ f_X13_goesOn E = some E' ∧ qp_cf D D' ∧ qp_mf E E' ∧ qp_T B N q D' E' := by
  have hN := x.2.2.2.2
  obtain ⟨p, h1, h2, h3, h4⟩ := q_stop (fun i => B i = 32) q N hq
  obtain ⟨D1, a1, f1, s3⟩ := q_skC hN x.1 x.2.2.1 e3 h1 h2 h3 h4
  obtain ⟨E1, b1, g1, t8⟩ := q_skM hN x.2.1 hb x.2.2.2.1 e8 h1 h2 h3 h4
  have y := (x.c f1).m g1
  obtain ⟨yB, yM, y2, y7, -⟩ := y
  have f2 : qp_cf D (j_sI D1 1 5 (Int32.ofNat p)) := f1.sI (Or.inr (Or.inr (Or.inl rfl))) _
  have g2 : qp_mf E (j_sI (j_sI E1 57 10 (Int32.ofNat p)) 57 9 0) := (g1.sI (Or.inr (Or.inr (Or.inl rfl))) _).sI (Or.inr (Or.inl rfl)) _
  have z5 : (j_sI D1 1 5 (Int32.ofNat p)).1 1 5 = Int32.ofNat p := q_sI_aa _ _ _ _
  have z3 : (j_sI D1 1 5 (Int32.ofNat p)).1 1 3 = Int32.ofNat p := by rw [q_sI_ao _ _ _ (by decide)]; exact s3
  have w9 : (j_sI (j_sI E1 57 10 (Int32.ofNat p)) 57 9 0).1 57 9 = 0 := q_sI_aa _ _ _ _
  have w10 : (j_sI (j_sI E1 57 10 (Int32.ofNat p)) 57 9 0).1 57 10 = Int32.ofNat p := by rw [q_sI_ao _ _ _ (by decide), q_sI_aa]
  have w8 : (j_sI (j_sI E1 57 10 (Int32.ofNat p)) 57 9 0).1 57 8 = Int32.ofNat p := by rw [q_sI_ao _ _ _ (by decide), q_sI_ao _ _ _ (by decide)]; exact t8
  have w7 : (j_sI (j_sI E1 57 10 (Int32.ofNat p)) 57 9 0).1 57 7 = Int32.ofNat N := by rw [q_sI_ao _ _ _ (by decide), q_sI_ao _ _ _ (by decide)]; exact y7
  have z2 : (j_sI D1 1 5 (Int32.ofNat p)).1 1 2 = Int32.ofNat N := by rw [q_sI_ao _ _ _ (by decide)]; exact y2
  have zB : (j_sI D1 1 5 (Int32.ofNat p)).1 2 = B := by rw [q_sI_o (by decide)]; exact yB
  have wB : (j_sI (j_sI E1 57 10 (Int32.ofNat p)) 57 9 0).1 58 = B := by rw [q_sI_o (by decide), q_sI_o (by decide)]; exact yM
  unfold f_X9_advance f_X13_goesOn j_let
  rw [if_neg h9, a1, b1, Option.bind_some, Option.bind_some]
  dsimp only
  rw [s3, y2, yB, t8, yM]
  generalize hD2 : j_sI D1 1 5 (Int32.ofNat p) = D2 at *
  generalize hE2 : j_sI (j_sI E1 57 10 (Int32.ofNat p)) 57 9 0 = E2 at *
  by_cases c : p = N
  · subst c
    rw [if_neg (show ¬ (Int32.ofNat p < Int32.ofNat p) from fun u => by
      have := (q_lt (by omega) (by omega)).mp u
      omega), q_bMe hN w7, Option.bind_some, if_pos rfl]
    refine ⟨_, _, rfl, rfl, f2.sI (Or.inr (Or.inl rfl)) _, g2.sI (Or.inr (Or.inl rfl)) _, p, p, h1, Nat.le_refl _, Nat.le_refl _, ?_, ?_, ?_, Or.inl ⟨?_, ?_, ?_⟩⟩
    · rw [q_sI_ao _ _ _ (by decide)]; exact z3
    · rw [q_sI_ao _ _ _ (by decide)]; exact z5
    · rw [q_sI_ao _ _ _ (by decide)]; exact w10
    · rw [q_sI_aa]
    · rw [q_sI_aa]
    · rw [q_sI_ao _ _ _ (by decide)]; exact w8
  · have hp : p < N := by omega
    obtain ⟨k1, k2, k3, k4, k5, k6, k7, k8⟩ := q_byt (hb p)
    rw [if_pos (show Int32.ofNat p < Int32.ofNat N from (q_lt (by omega) (by omega)).mpr hp), q_bC (by omega), q_bM hN w7 hp, Option.bind_some, if_neg k6, k1, k2]
    by_cases l : f_X9_isLetter (B p) = true
    · rw [if_pos l, if_pos l]
      obtain ⟨r, r1, r2, r3, r4⟩ := q_stop (fun i => f_X9_isLetter (B i) = true) p N h2
      obtain ⟨D', a2, f3, s1, s5, s4, s6⟩ := qp_wdC hN hb zB z2 z3 z5 r1 r2 r3 r4
      obtain ⟨E', b2, g3, u8, uo, u14⟩ := qp_wdM (E := j_sL E2 57 14 0) hN hb wB w7 w8 r1 r2 r3 r4 (q_sL_a E2 57 14 0)
      have u10 : E'.1 57 10 = Int32.ofNat p := (uo 10 (by decide)).trans w10
      have u9 : E'.1 57 9 = 0 := (uo 9 (by decide)).trans w9
      have g4 : qp_mf E E' := (g2.sL 14 0).trans g3
      rw [a2, b2, Option.bind_some, Option.bind_some]
      dsimp only
      by_cases n8 : r - p ≤ 8
      · rw [if_neg (show ¬ ((8 : Int32) < Int32.ofNat (r - p)) from fun y => by
          have := (q_lt (n := 8) (by decide) (by omega)).mp y
          omega)]
        refine ⟨_, _, rfl, rfl, f2.trans f3, g4.sI (Or.inr (Or.inl rfl)) _, p, r, h1, r1, r2, s1, s5, ?_, Or.inr (Or.inl ⟨?_, ?_, ?_, n8, r3, s6 n8, u14 n8⟩)⟩
        · rw [q_sI_ao _ _ _ (by decide)]; exact u10
        · rw [s4, if_pos n8]
        · rw [q_sI_aa]
        · rw [q_sI_ao _ _ _ (by decide)]; exact u8
      · rw [if_pos (show (8 : Int32) < Int32.ofNat (r - p) from (q_lt (n := 8) (by decide) (by omega)).mpr (by omega))]
        exact ⟨_, _, rfl, rfl, f2.trans f3, g4, p, r, h1, r1, r2, s1, s5, u10, Or.inr (Or.inr (Or.inr (Or.inr (Or.inr ⟨by rw [s4, if_neg n8], u9⟩))))⟩
    · rw [if_neg l, if_neg l]
      by_cases dg : f_X9_isDigit (B p) = true
      · rw [if_pos dg, if_pos dg]
        obtain ⟨r, r1, r2, r3, r4⟩ := q_stop (fun i => f_X9_isDigit (B i) = true) p N h2
        obtain ⟨D', a2, f3, s1, s5, s4, s7⟩ := qp_whC hN hb zB z2 z3 z5 r1 r2 r3 r4
        have v8 : (j_sI E2 57 11 0).1 57 8 = Int32.ofNat p := by rw [q_sI_ao _ _ _ (by decide)]; exact w8
        have v7 : (j_sI E2 57 11 0).1 57 7 = Int32.ofNat N := by rw [q_sI_ao _ _ _ (by decide)]; exact w7
        have vB : (j_sI E2 57 11 0).1 58 = B := by rw [q_sI_o (by decide)]; exact wB
        have v9 : (j_sI E2 57 11 0).1 57 9 = 0 := by rw [q_sI_ao _ _ _ (by decide)]; exact w9
        have v10 : (j_sI E2 57 11 0).1 57 10 = Int32.ofNat p := by rw [q_sI_ao _ _ _ (by decide)]; exact w10
        obtain ⟨E', b2, g3, u8, uo, u11⟩ := qp_whM (E := j_sI E2 57 11 0) hN hb vB v7 v8 r1 r2 r3 r4 (q_sI_aa E2 57 11 0)
        have u10 : E'.1 57 10 = Int32.ofNat p := (uo 10 (by decide) (by decide)).trans v10
        have u9 : E'.1 57 9 = 0 := (uo 9 (by decide) (by decide)).trans v9
        have g4 : qp_mf E E' := (g2.sI (Or.inr (Or.inr (Or.inr rfl))) 0).trans g3
        have dl : ∀ i, i < r - p → (B (p + i)).toNatClampNeg - 48 ≤ 9 := fun i hi => (qp_dig (a := 0) (hb _) (r3 (p + i) (by omega) (by omega)) (by decide)).2
        rw [a2, b2, Option.bind_some, Option.bind_some]
        dsimp only
        by_cases n8 : r - p ≤ 3
        · rw [if_neg (show ¬ ((3 : Int32) < Int32.ofNat (r - p)) from fun y => by
            have := (q_lt (n := 3) (by decide) (by omega)).mp y
            omega)]
          refine ⟨_, _, rfl, rfl, f2.trans f3, g4.sI (Or.inr (Or.inl rfl)) _, p, r, h1, r1, r2, s1, s5, ?_, Or.inr (Or.inr (Or.inl ⟨?_, ?_, ?_, qp_dv B p (r - p), qp_dv_b dl (r - p) (Nat.le_refl _) n8, s7 n8, ?_⟩))⟩
          · rw [q_sI_ao _ _ _ (by decide)]; exact u10
          · rw [s4, if_pos n8]
          · rw [q_sI_aa]
          · rw [q_sI_ao _ _ _ (by decide)]; exact u8
          · rw [q_sI_ao _ _ _ (by decide)]; exact u11 n8
        · rw [if_pos (show (3 : Int32) < Int32.ofNat (r - p) from (q_lt (n := 3) (by decide) (by omega)).mpr (by omega))]
          exact ⟨_, _, rfl, rfl, f2.trans f3, g4, p, r, h1, r1, r2, s1, s5, u10, Or.inr (Or.inr (Or.inr (Or.inr (Or.inr ⟨by rw [s4, if_neg n8], u9⟩))))⟩
      · rw [if_neg dg, if_neg dg]
        unfold f_X9_advance_j123 f_X13_goesOn_j256
        have fz : ∀ v w, qp_cf D (j_sI (j_sI D2 1 4 v) 1 3 w) := fun v w => (f2.sI (Or.inr (Or.inl rfl)) v).sI (Or.inl rfl) w
        have gz : ∀ v w o, qp_mf E (j_sI (j_sI (j_sI E2 57 9 v) 57 11 w) 57 8 o) := fun v w o => ((g2.sI (Or.inr (Or.inl rfl)) v).sI (Or.inr (Or.inr (Or.inr rfl))) w).sI (Or.inl rfl) o
        rw [z3, w8, q_s]
        by_cases s59 : B p = 59
        · rw [if_pos s59, if_pos (k4.mpr s59)]
          refine ⟨_, _, rfl, rfl, fz _ _, gz _ _ _, p, p + 1, h1, by omega, by omega, ?_, ?_, ?_, Or.inr (Or.inr (Or.inr (Or.inl ⟨?_, ?_, ?_, ?_, by omega⟩)))⟩
          · rw [q_sI_aa]
          · rw [q_sI_ao _ _ _ (by decide), q_sI_ao _ _ _ (by decide)]; exact z5
          · rw [q_sI_ao _ _ _ (by decide), q_sI_ao _ _ _ (by decide), q_sI_ao _ _ _ (by decide)]; exact w10
          · rw [q_sI_ao _ _ _ (by decide), q_sI_aa]
          · rw [q_sI_ao _ _ _ (by decide), q_sI_ao _ _ _ (by decide), q_sI_aa]
          · rw [q_sI_aa]
          · rw [q_sI_ao _ _ _ (by decide), q_sI_aa]; exact k4.mpr s59
        · rw [if_neg s59, if_neg (fun u => s59 (k4.mp u))]
          by_cases s44 : B p = 44
          · rw [if_pos s44, if_pos (k5.mpr s44)]
            refine ⟨_, _, rfl, rfl, fz _ _, gz _ _ _, p, p + 1, h1, by omega, by omega, ?_, ?_, ?_, Or.inr (Or.inr (Or.inr (Or.inr (Or.inl ⟨?_, ?_, ?_, ?_, by omega⟩))))⟩
            · rw [q_sI_aa]
            · rw [q_sI_ao _ _ _ (by decide), q_sI_ao _ _ _ (by decide)]; exact z5
            · rw [q_sI_ao _ _ _ (by decide), q_sI_ao _ _ _ (by decide), q_sI_ao _ _ _ (by decide)]; exact w10
            · rw [q_sI_ao _ _ _ (by decide), q_sI_aa]
            · rw [q_sI_ao _ _ _ (by decide), q_sI_ao _ _ _ (by decide), q_sI_aa]
            · rw [q_sI_aa]
            · rw [q_sI_ao _ _ _ (by decide), q_sI_aa]; exact k5.mpr s44
          · rw [if_neg s44, if_neg (fun u => s44 (k5.mp u))]
            refine ⟨_, _, rfl, rfl, fz _ _, g2, p, p + 1, h1, by omega, by omega, ?_, ?_, w10, Or.inr (Or.inr (Or.inr (Or.inr (Or.inr ⟨?_, w9⟩))))⟩
            · rw [q_sI_aa]
            · rw [q_sI_ao _ _ _ (by decide), q_sI_ao _ _ _ (by decide)]; exact z5
            · rw [q_sI_ao _ _ _ (by decide), q_sI_aa]
end QA
