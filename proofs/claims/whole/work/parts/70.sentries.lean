/-! tier two: sentries -/
theorem q_forX' {S E : Type} {Tt : Type} {τ : Nat → S → Tt → Prop} {n : Nat} (hn : n < 2147483648) {G : Int32 → S → S} {F : Tt → Option (Tt ⊕ E)} (h : ∀ i, i < n → ∀ s t, τ i s t → ∃ t', F t = some (.inl t') ∧ τ (i + 1) (G (Int32.ofNat i) s) t') {ρ' : S → E → Prop} (hend : ∀ s t, τ n s t → ∀ u, 2 < u → ∃ e, j_wh F u t = some e ∧ ρ' s e) : ∀ (k m : Nat), m + k = n → ∀ s t, τ m s t → ∀ u, k + 2 < u → ∃ e, j_wh F u t = some e ∧ ρ' (j_for (Int32.ofNat n) G k (Int32.ofNat m) s) e
  | 0, m, hm, s, t, ht, u, hu => by
    rw [Nat.add_zero] at hm
    subst hm
    exact hend s t ht u (by omega)
  | k + 1, m, hm, s, t, ht, u + 1, hu => by
    have hne : ¬ (Int32.ofNat n ≤ Int32.ofNat m) := by rw [q_le hn (by omega)]; omega
    obtain ⟨t', h2, h3⟩ := h m (by omega) s t ht
    obtain ⟨e, h4, h5⟩ := q_forX' hn h hend k (m + 1) (by omega) (G (Int32.ofNat m) s) t' h3 u (by omega)
    refine ⟨e, ?_, ?_⟩
    · show (F t).bind _ = _
      rw [h2]; exact h4
    · show ρ' (if Int32.ofNat n ≤ Int32.ofNat m then _ else _) e
      rw [if_neg hne, q_s]
      exact h5
theorem q_mu1 {n : Nat} (hn : n < 2147483648) : j_mu (Int32.ofNat n) 1 = n - 1 := by
  unfold j_mu
  rw [q_i hn]
  have : (1 : Int32).toInt = 1 := rfl
  omega
/-- a class loop from 1 to n - 1, a reference loop from 0 to n -/
theorem q_for1 {S E : Type} {Tt : Type} (τ : Nat → S → Tt → Prop) {n : Nat} (hn1 : 1 ≤ n) (hn : n < 2147483648) {G : Int32 → S → S} {F : Tt → Option (Tt ⊕ E)} {t0 t1 : Tt} (h0 : F t0 = some (.inl t1)) {s : S} (h1 : τ 1 s t1) (h : ∀ i, 1 ≤ i → i < n → ∀ s t, τ i s t → ∃ t', F t = some (.inl t') ∧ τ (i + 1) (G (Int32.ofNat i) s) t') {ρ' : S → E → Prop} (hend : ∀ s t, τ n s t → ∃ t' e, F t = some (.inl t') ∧ F t' = some (.inr e) ∧ ρ' s e) : ∃ e, j_wh F j_fuel t0 = some e ∧ ρ' (j_for (Int32.ofNat n) G (j_mu (Int32.ofNat n) 1) 1 s) e := by
  obtain ⟨u0, hu1, hu2⟩ : ∃ u0, j_fuel = u0 + 1 ∧ n - 1 + 2 < u0 := ⟨j_fuel - 1, by unfold j_fuel; omega, by unfold j_fuel; omega⟩
  obtain ⟨e, h4, h5⟩ := q_forX' (τ := fun i s t => 1 ≤ i ∧ τ i s t) (ρ' := ρ') hn (G := G) (F := F) (fun i hi s t ht => by
    obtain ⟨t', a1, a2⟩ := h i ht.1 hi s t ht.2
    exact ⟨t', a1, by omega, a2⟩) (fun s t ht u hu => by
    obtain ⟨t', e, a1, a2, a3⟩ := hend s t ht.2
    refine ⟨e, ?_, a3⟩
    match u, hu with
    | v + 2, _ =>
      show (F t).bind _ = _
      rw [a1]
      show (F t').bind _ = _
      rw [a2]; rfl) (n - 1) 1 (by omega) s t1 ⟨Nat.le_refl 1, h1⟩ u0 hu2
  refine ⟨e, ?_, ?_⟩
  · rw [hu1]
    show (F t0).bind _ = _
    rw [h0]; exact h4
  · rw [q_mu1 hn]; exact h5
theorem q_pow1 {G : Nat} (h1 : 1 ≤ G) (h : G ≤ 6) : 1 ≤ 2 ^ G - 1 ∧ 2 ^ G - 1 < 2 ^ G ∧ 2 ^ G - 1 < 64 := by
  have := (by decide : ∀ G : Fin 7, 1 ≤ G.val → 1 ≤ 2 ^ G.val - 1 ∧ 2 ^ G.val - 1 < 2 ^ G.val ∧ 2 ^ G.val - 1 < 64) ⟨G, by omega⟩ h1
  exact this
theorem q_wd0 (G : Nat) (e : Nat → Nat) : q_wd G e 0 = 0 := by
  apply Nat.eq_of_testBit_eq
  intro k
  rw [Nat.zero_testBit]
  cases c : (q_wd G e 0).testBit k with
  | false => rfl
  | true =>
    rcases q_wd_bit.mp c with z | ⟨g, -, z, -⟩
    · rw [Nat.zero_testBit] at z; cases z
    · rw [Nat.zero_testBit] at z; cases z
theorem qk_sentries {G P F W L a t : Nat} {d : JD} (hL : q_LR G P F W L (q_rows d a) (q_rows d t)) (hN : q_NR G (q_rows d a) (q_rows d t) (d.1 22 0) (d.1 22 1) (d.1 22 2) (d.1 59)) (h68 : 68 ≤ t) : ∃ (x : Int32) (w : Int32) (d2 : JD), f_X11_sentries a d = (x, j_sI d 0 11 w) ∧ f_X13_sentries t (j_sI d 0 11 w) = some (x, d2) ∧ q_ans d d2 w := by
  have hG1 := hL.1.1.1
  have hG := hL.1.1.2.1
  have e4 : d.1 a 4 = Int32.ofNat G := hL.1.2.1.1
  have e4' : d.1 t 4 = Int32.ofNat G := hL.1.2.1.2
  have k1 : f_X11_hasLand (d.1 a) = true := q_hl1 (A := q_rows d a) (T := q_rows d t) hL
  have et : (q_dM d 0).1 t = d.1 t := q_dM_o (by omega) (by omega)
  have et7 : (q_dM d 0).1 (t + 7) = d.1 (t + 7) := q_dM_o (by omega) (by omega)
  have wm : ∀ x, f_X13_around (d.1 t) (d.1 (t + 7)) x = some (f_X3_widened (d.1 a) (d.1 (a + 6)) x) := q_wdM (A := q_rows d a) (T := q_rows d t) hL
  have wc : ∀ m, m < 2 ^ G → f_X3_widened (d.1 a) (d.1 (a + 6)) (Int32.ofNat m) = Int32.ofNat (q_wd G (q_ed (d.1 (a + 6))) m) := fun m hm => q_wdC (A := q_rows d a) (T := q_rows d t) hL hm
  obtain ⟨f1, f2, f3⟩ := q_pow1 hG1 hG
  have pcG := q_pcfull hG
  generalize hfull : 2 ^ G - 1 = U at f1 f2 f3 pcG
  have hU : U + 1 = 2 ^ G := by omega
  have bU : f_X13_bits (Int32.ofNat U) = some (Int32.ofNat (q_pc U)) := q_bits f3
  obtain ⟨e, l1, l2⟩ := q_for1 (τ := fun i (s : Int32) (q : Int32 × Int32) => q = (s, Int32.ofNat i) ∧ ∃ m, m < 2 ^ G ∧ s = Int32.ofNat m) (ρ' := fun (s e : Int32) => e = s) (n := U) f1 (by omega) (G := f_X3_fewestSentries_b13 (d.1 a) (d.1 (a + 6)) (Int32.ofNat U)) (F := f_X13_sentries_w34 t (Int32.ofNat U) (q_dM d 0)) (t0 := (Int32.ofNat U, 0)) (t1 := (Int32.ofNat U, Int32.ofNat 1)) (s := Int32.ofNat U)
    (by
      have z1 : ¬ (Int32.ofNat U < 0) := q_neg (by omega)
      have z2 : f_X13_bits 0 = some 0 := q_bits (m := 0) (by decide)
      have z3 : ¬ (Int32.ofNat (q_pc U) ≤ 0) := q_go (n := q_pc U) (i := 0) (by omega) (by omega)
      have z4 : f_X3_widened (d.1 a) (d.1 (a + 6)) 0 = 0 := by
        have := wc 0 (by omega)
        rw [q_wd0] at this
        exact this
      have z5 : ¬ ((0 : Int32) = Int32.ofNat U) := fun z => by
        have := (q_eq (n := 0) (by decide) (by omega)).mp z
        omega
      unfold f_X13_sentries_w34 f_X13_sentries_j61_34
      simp only [z1, z2, bU, z3, et, et7, wm, z4, z5, Option.bind_some, if_false]
      rfl)
    ⟨rfl, U, f2, rfl⟩
    (fun i hi1 hi s q hq => by
      obtain ⟨rfl, m, hm, rfl⟩ := hq
      have z1 : ¬ (Int32.ofNat U < Int32.ofNat i) := q_le_go (by omega) (by omega)
      have z2 : f_X13_bits (Int32.ofNat i) = some (Int32.ofNat (q_pc i)) := q_bits (by omega)
      have h64 := q_26 hG hm
      have z3 : f_X13_bits (Int32.ofNat m) = some (Int32.ofNat (q_pc m)) := q_bits h64
      have z2' : f_J6_bitCount_0f7a4 (Int32.ofNat i) = Int32.ofNat (q_pc i) := q_bcnt (by omega)
      have z3' : f_J6_bitCount_0f7a4 (Int32.ofNat m) = Int32.ofNat (q_pc m) := q_bcnt h64
      unfold f_X13_sentries_w34 f_X13_sentries_j61_34 f_X3_fewestSentries_b13 f_X3_fewestSentries_j40_13
      by_cases c : Int32.ofNat (q_pc m) ≤ Int32.ofNat (q_pc i)
      · refine ⟨(Int32.ofNat m, Int32.ofNat (i + 1)), ?_, ?_⟩
        · simp only [z1, z2, z3, c, Option.bind_some, if_false, if_true, q_s]
        · simp only [z2', z3', c, if_true]
          exact ⟨trivial, m, hm, rfl⟩
      · by_cases c2 : f_X3_widened (d.1 a) (d.1 (a + 6)) (Int32.ofNat i) = Int32.ofNat U
        · refine ⟨(Int32.ofNat i, Int32.ofNat (i + 1)), ?_, ?_⟩
          · simp only [z1, z2, z3, c, et, et7, wm, c2, Option.bind_some, if_false, if_true, q_s]
          · simp only [z2', z3', c, c2, if_false, if_true]
            exact ⟨trivial, i, by omega, rfl⟩
        · refine ⟨(Int32.ofNat m, Int32.ofNat (i + 1)), ?_, ?_⟩
          · simp only [z1, z2, z3, c, et, et7, wm, c2, Option.bind_some, if_false, q_s]
          · simp only [z2', z3', c, c2, if_false]
            exact ⟨trivial, m, hm, rfl⟩)
    (fun s q hq => by
      obtain ⟨rfl, m, hm, rfl⟩ := hq
      have z1 : ¬ (Int32.ofNat U < Int32.ofNat U) := q_le_go (by omega) (by omega)
      have z1' : Int32.ofNat U < Int32.ofNat (U + 1) := q_le_end (by omega)
      have h64 := q_26 hG hm
      have z3 : f_X13_bits (Int32.ofNat m) = some (Int32.ofNat (q_pc m)) := q_bits h64
      have z4 : Int32.ofNat (q_pc m) ≤ Int32.ofNat (q_pc U) := by
        have := (q_pcf hG hm).1
        rw [q_le (by omega) (by omega)]; omega
      refine ⟨(Int32.ofNat m, Int32.ofNat (U + 1)), Int32.ofNat m, ?_, ?_, rfl⟩
      · unfold f_X13_sentries_w34 f_X13_sentries_j61_34
        simp only [z1, bU, z3, z4, Option.bind_some, if_false, if_true, q_s]
      · unfold f_X13_sentries_w34
        simp only [z1', if_true])
  refine ⟨e, 0, q_fin (q_dM d 0) 0, ?_, ?_, q_ansd d (by decide)⟩
  · have e9 : f_X3_fewestSentries (d.1 a) (d.1 (a + 6)) = e := by
      unfold f_X3_fewestSentries j_let
      rw [e4, q_full hG, hfull]
      exact l2.symm
    unfold f_X11_sentries j_let
    simp only [k1, e9, q_xan, if_true]
  · unfold f_X13_sentries j_let
    rw [q_dMe, et, e4', q_full hG, hfull]
    dsimp only
    rw [l1, Option.bind_some, q_good]
theorem q_31 {K : q_K} (hK : q_Kok K) : lw_st_31 (q_R K) := by
  intro h r hz
  obtain ⟨g, d⟩ := h
  have hr := r
  obtain ⟨a, b, hg, ht, -, -, hl⟩ := r
  rcases hl with ⟨hla, hn⟩ | ⟨t, h68, hla, hts, G, P, F, W, L, hL, hN, -⟩
  · obtain ⟨x, w, d2, e1, e2, e3⟩ := qn_sentries (a := a) (d := d) hn
    exact q_stI hr (q_jT (s_X11_sentries g d a hg.2.1 hg.2.2.1 hg.2.2.2.2.1) e1) (q_jT (s_X13_sentriesn g _ hg.2.1 hla) e2) (hr.ans hK e3)
  · obtain ⟨x, w, d2, e1, e2, e3⟩ := qk_sentries (a := a) (t := t) (d := d) hL hN h68
    exact q_stI hr (q_jT (s_X11_sentries g d a hg.2.1 hg.2.2.1 hg.2.2.2.2.1) e1) (q_jP (s_X13_sentries g _ t hg.2.1 hts hla) e2) (hr.ans hK e3)
