/-! tier two: led -/
theorem q_dL1 (d : JD) (b : Int32) : (d_Lled d b).1 = d.1 := by
  unfold d_Lled
  by_cases c : b = -1
  · rw [if_pos c]
  · rw [if_neg c]; rfl
theorem q_nem1 {j : Nat} (h : j < 2147483648) : ¬ (Int32.ofNat j = -1) := by
  intro z
  have := congrArg Int32.toInt z
  rw [q_i h] at this
  have e : (-1 : Int32).toInt = -1 := rfl
  omega
theorem q_smL {d d' : JD} (h : d'.1 = d.1) : q_sm d d' := ⟨fun b _ _ _ => by rw [h], fun k _ => by rw [h], fun k _ => by rw [h]⟩
theorem q_52 {K : q_K} (hK : q_Kok K) : lw_st_52 (q_R K) := by
  intro g d p1 r
  have hr := r
  obtain ⟨a, b, hg, ht, hrm, -, hl⟩ := r
  dsimp only at ht
  have fin : ∀ (b' : Int32) (d3 : JD), q_sm d d3 → d3.1 0 11 = d.1 0 11 → d3.1 57 1 = d.1 57 1 → d3.1 57 2 = d.1 57 2 → d3.1 57 0 = k_Lled (f_led a d p1) → JM mi_X13_led 0 0 (g, d_Lled d (f_led a d p1)) [.ref 57, .int p1] (some (some (.int b'), (g, d3))) → (k_Lled (f_led a d p1) = 0 → d3.2 67 0 = b'.toInt64) → ∃ (a : Nat) (b : Int32) (h2 : JH), j_sh g 0 TS_W RS_W ∧ j_sh g a TS_CL RS_CL ∧ g.2.2.1 0 10 = some a ∧ h2.1.2.2.2 = g.2.2.2 ∧ JM mi_X13_led 0 0 (g, d_Lled d (f_led a d p1)) [.ref 57, .int p1] (some (some (.int b), h2)) ∧ JM mi_X13_thrown 0 0 h2 [.ref 57] (some (some (.int (k_Lled (f_led a d p1))), h2)) ∧ (k_Lled (f_led a d p1) = 0 → h2.2.2 67 0 = b.toInt64) ∧ q_R K h2 ∧ h2.1.1 ≤ g.1 + 15 := by
    intro b' d3 s1 s2 s3 s4 s5 hj hv
    refine ⟨a, b', (g, d3), hg.2.1, hg.2.2.1, hg.2.2.2.2.1, rfl, hj, ?_, hv, hr.sm hK s1 (ht.sm s1 s2 s3 s4), Nat.le_add_right _ _⟩
    have h := s_X13_thrown g d3 hg.2.1
    rw [show f_X13_thrown (d3.1 57) = k_Lled (f_led a d p1) from s5] at h
    exact h
  obtain ⟨fb, hfb⟩ : ∃ fb, fb = f_led a d p1 := ⟨_, rfl⟩
  obtain ⟨dL, hdL⟩ : ∃ dL, dL = d_Lled d fb := ⟨_, rfl⟩
  have L1 : dL.1 = d.1 := by rw [hdL]; exact q_dL1 d fb
  have s0 : q_sm d (j_sI dL 57 0 0) := (q_smL L1).f57 rfl 0
  rcases hl with ⟨hla, hn⟩ | ⟨t, h68, hla, hts, G, P, F, W, L, hL, hN, -⟩
  · dsimp only at hla hn
    have p0 : d.1 a 2 = 0 := hn.1 2 (by decide)
    have em : fb = -1 := by
      rw [hfb]
      unfold f_led f_X3_beggar j_let
      rw [p0]
      rfl
    have lp : j_wh (f_X13_ledn_w20 p1 (j_sI dL 57 0 0)) j_fuel (0, 0) = some (.inr ()) := q_run (F := f_X13_ledn_w20 p1 (j_sI dL 57 0 0)) (fun _ => (0, 0)) 0 (by decide) (fun i hi => absurd hi (by omega)) rfl
    have e2 : f_X13_ledn dL p1 = some (0, j_sI (j_sI dL 57 0 0) 57 0 1) := by
      unfold f_X13_ledn
      rw [lp, Option.bind_some]
      rfl
    have kl : k_Lled fb = 1 := by unfold k_Lled; rw [if_pos em]
    have hj := q_jP (s_X13_ledn g dL p1 hg.2.1 hla) e2
    rw [hdL, hfb] at hj
    refine fin 0 _ (s0.f57 rfl 1) ?_ ?_ ?_ ?_ (by rw [hdL, hfb]; exact hj) ?_
    · rw [q_sI_o (by decide), q_sI_o (by decide), L1]
    · rw [q_sI_a, q_upd_o (by decide), q_sI_a, q_upd_o (by decide), L1]
    · rw [q_sI_a, q_upd_o (by decide), q_sI_a, q_upd_o (by decide), L1]
    · rw [q_sI_a, q_upd_a, ← hfb, kl]
    · intro z
      rw [← hfb, kl] at z
      exact absurd z (by decide)
  · dsimp only at hla hts hL hN
    have hP := hL.1.1.2.2.1
    obtain ⟨d3, hd3⟩ : ∃ d3, d3 = q_row (j_sI dL 57 0 0) 60 (q_mix 6 (d.1 59) (d.1 60)) := ⟨_, rfl⟩
    have w1 : f_X13_works (j_sI dL 57 0 0) = some d3 := by
      rw [q_works, hd3, q_sI_o (by decide), q_sI_o (by decide), L1]
    have o3 : ∀ b, b ≠ 57 → b ≠ 60 → d3.1 b = d.1 b := fun b b57 b60 => by rw [hd3, q_row_o b60, q_sI_o b57, L1]
    have kt : ∀ j, d3.1 (t + j) = d.1 (t + j) := fun j => o3 _ (by omega) (by omega)
    have kt0 : d3.1 t = d.1 t := kt 0
    have w6 : ∀ k, k < 6 → d3.1 60 k = d.1 59 k := fun k hk => by rw [hd3, q_row_a]; exact if_pos hk
    obtain ⟨hx, hc⟩ := q_way hN w6
    have hm : ∀ p, f_X13_has (d3.1 60) (d.1 t) (d.1 (t + 1)) (d.1 (t + 2)) (d.1 (t + 3)) (d.1 (t + 4)) (d.1 (t + 5)) p = some (f_X3_wealth (d.1 a) (d.1 (a + 7)) (d.1 (a + 8)) p (d.1 22 0)) := fun p => by
      have := q_hasM (A := q_rows d a) (T := q_rows d t) hL hx p
      rw [hc] at this
      exact this
    have hw : ∀ p, ∃ k, k ≤ 594 ∧ f_X3_wealth (d.1 a) (d.1 (a + 7)) (d.1 (a + 8)) p (d.1 22 0) = Int32.ofNat k := fun p => by
      have := q_weN (A := q_rows d a) (T := q_rows d t) hL hx p
      rw [hc] at this
      exact this
    have e2' : d.1 t 2 = Int32.ofNat P := hL.1.2.2.1.2
    have e2 : d.1 a 2 = Int32.ofNat P := hL.1.2.2.1.1
    obtain ⟨e, l1, l2⟩ := q_fo_wh (τ := fun i (s : Int32) (q : Int32 × Int32) => q = (s, Int32.ofNat i)) (ρ := fun (rr : Int32) (e : (Int32 × JD) ⊕ Unit) => e = .inl (rr, d3) ∧ ∃ j, j < P ∧ rr = Int32.ofNat j) (ρ' := fun (_ : Int32) (e : (Int32 × JD) ⊕ Unit) => e = .inr ()) (n := P) (by omega) (G := f_X3_beggar_b5 (d.1 a) (d.1 (a + 7)) (d.1 (a + 8)) p1 (d.1 22 0)) (F := f_X13_led_w20 t p1 d3)
      (fun i hi s q hq => by
        subst hq
        have k2 := q_go (n := P) (by omega) hi
        obtain ⟨k, hk, ek⟩ := hw (Int32.ofNat i)
        unfold f_X3_beggar_b5 f_X3_beggar_j35_5 f_X13_led_w20 f_X13_led_j59_20
        simp only [kt, kt0, e2', k2, if_false, hm, Option.bind_some]
        by_cases c : f_X3_wealth (d.1 a) (d.1 (a + 7)) (d.1 (a + 8)) (Int32.ofNat i) (d.1 22 0) = 0
        · have c' : f_X3_wealth (d.1 a) (d.1 (a + 7)) (d.1 (a + 8)) (Int32.ofNat i) (d.1 22 0) ≤ 0 := by rw [c]; decide
          simp only [c, show (0 : Int32) ≤ 0 by decide, if_true]
          by_cases c2 : s = p1
          · simp only [c2, if_true]
            exact Or.inl ⟨_, _, rfl, rfl, rfl, i, hi, rfl⟩
          · simp only [c2, if_false]
            exact Or.inr ⟨_, _, rfl, rfl, by rw [q_s]⟩
        · have c' : ¬ (f_X3_wealth (d.1 a) (d.1 (a + 7)) (d.1 (a + 8)) (Int32.ofNat i) (d.1 22 0) ≤ 0) := by
            rw [ek] at c ⊢
            exact q_go (n := k) (i := 0) (by omega) (by
              rcases Nat.eq_zero_or_pos k with z | z
              · exact absurd (by rw [z]; rfl) c
              · exact z)
          simp only [c, c', if_false]
          exact Or.inr ⟨_, _, rfl, rfl, by rw [q_s]⟩)
      (fun s q hq => by
        subst hq
        have k2 := q_end (n := P) (by omega)
        refine ⟨.inr (), ?_, rfl⟩
        unfold f_X13_led_w20
        simp only [kt0, e2', k2, if_true]) (s := 0) (t := (0, 0)) rfl
    have fbe : fb = Sum.elim (fun r9 => r9) (fun (_ : Int32) => (-1)) (j_fo (Int32.ofNat P) (f_X3_beggar_b5 (d.1 a) (d.1 (a + 7)) (d.1 (a + 8)) p1 (d.1 22 0)) (j_mu (Int32.ofNat P) 0) 0 0) := by
      rw [hfb]
      unfold f_led f_X3_beggar j_let
      rw [e2]
    have s3 : q_sm d d3 := by rw [hd3]; exact s0.row rfl (by decide) (by decide) _
    have b0 : d3.1 0 11 = d.1 0 11 := by rw [o3 0 (by decide) (by decide)]
    have b57 : ∀ k, k ≠ 0 → d3.1 57 k = d.1 57 k := fun k hk => by rw [hd3, q_row_o (by decide), q_sI_a, q_upd_o hk, L1]
    have b570 : d3.1 57 0 = 0 := by rw [hd3, q_row_o (by decide), q_sI_a]; rfl
    cases e9 : j_fo (Int32.ofNat P) (f_X3_beggar_b5 (d.1 a) (d.1 (a + 7)) (d.1 (a + 8)) p1 (d.1 22 0)) (j_mu (Int32.ofNat P) 0) 0 0 with
    | inl rr =>
      rw [e9] at l2 fbe
      obtain ⟨ee, j, hj, ej⟩ : e = .inl (rr, d3) ∧ ∃ j, j < P ∧ rr = Int32.ofNat j := l2
      have fr : fb = rr := fbe
      have ne : ¬ (fb = -1) := by rw [fr, ej]; exact q_nem1 (by omega)
      have kl : k_Lled fb = 0 := by unfold k_Lled; rw [if_neg ne]
      have em : f_X13_led t dL p1 = some (rr, d3) := by
        unfold f_X13_led f_X13_led_j18
        rw [w1, Option.bind_some, l1, ee, Option.bind_some]
        rfl
      have hj2 := q_jP (s_X13_led g dL t p1 hg.2.1 hts hla) em
      rw [hdL, hfb] at hj2
      refine fin rr d3 s3 b0 (b57 1 (by decide)) (b57 2 (by decide)) (by rw [b570, ← hfb, kl]) hj2 (fun _ => ?_)
      have : d3.2 = dL.2 := by rw [hd3]; rfl
      rw [this, hdL]
      unfold d_Lled
      rw [if_neg ne, fr]
      rfl
    | inr s9 =>
      rw [e9] at l2 fbe
      have ee : e = .inr () := l2
      have fr : fb = -1 := fbe
      have kl : k_Lled fb = 1 := by unfold k_Lled; rw [if_pos fr]
      have em : f_X13_led t dL p1 = some (0, j_sI d3 57 0 1) := by
        unfold f_X13_led f_X13_led_j18
        rw [w1, Option.bind_some, l1, ee, Option.bind_some]
        rfl
      have hj2 := q_jP (s_X13_led g dL t p1 hg.2.1 hts hla) em
      rw [hdL, hfb] at hj2
      refine fin 0 (j_sI d3 57 0 1) (s3.f57 rfl 1) ?_ ?_ ?_ ?_ hj2 ?_
      · rw [q_sI_o (by decide)]; exact b0
      · rw [q_sI_a, q_upd_o (by decide)]; exact b57 1 (by decide)
      · rw [q_sI_a, q_upd_o (by decide)]; exact b57 2 (by decide)
      · rw [q_sI_a, q_upd_a, ← hfb, kl]
      · intro z
        rw [← hfb, kl] at z
        exact absurd z (by decide)
