/-! tier two: richest -/
theorem q_weN {G P F W L : Nat} {A T : Nat → Nat → Int32} (h : q_LR G P F W L A T) {x : Nat → Int32} (hx : q_dg x) (p : Int32) : ∃ k, k ≤ 594 ∧ f_X3_wealth (A 0) (A 7) (A 8) p (q_cod x) = Int32.ofNat k := by
  have hG := h.1.1.2.1
  rw [q_wealth hx hG h.1.2.1.1]
  have key : ∀ n, n ≤ G → ∃ k, k ≤ 99 * n ∧ q_it (fun g s => s + q_sh (A 7) (A 8) p g (x g).toNatClampNeg) n 0 = Int32.ofNat k := by
    intro n
    induction n with
    | zero => exact fun _ => ⟨0, by omega, rfl⟩
    | succ n ih =>
      intro hn
      obtain ⟨k, hk, e⟩ := ih (by omega)
      obtain ⟨k2, hk2, e2⟩ : ∃ k2, k2 ≤ 99 ∧ q_sh (A 7) (A 8) p n (x n).toNatClampNeg = Int32.ofNat k2 := by
        obtain ⟨k3, hk3, e3⟩ := h.2.2.2.2.1 n (by omega) _ (q_d3 hx (g := n) (by omega)).2
        unfold q_sh
        by_cases c : f_X11_hasBit (A 7 (4 * n + (x n).toNatClampNeg)) p = true
        · rw [if_pos c]; exact ⟨k3, hk3, e3⟩
        · rw [if_neg c]; exact ⟨0, by omega, rfl⟩
      refine ⟨k + k2, by omega, ?_⟩
      show q_it (fun g s => s + q_sh (A 7) (A 8) p g (x g).toNatClampNeg) n 0 + q_sh (A 7) (A 8) p n (x n).toNatClampNeg = _
      rw [e, e2, Int32.ofNat_add]
  obtain ⟨k, hk, e⟩ := key G (Nat.le_refl _)
  exact ⟨k, by omega, e⟩
theorem q_ne2 {j : Nat} (h : j < 2147483648) : ¬ (Int32.ofNat j = -2) := by
  intro z
  have := congrArg Int32.toInt z
  rw [q_i h] at this
  have e : (-2 : Int32).toInt = -2 := rfl
  omega
theorem q_gtm1 {k : Nat} (h : k < 2147483648) : ¬ (Int32.ofNat k ≤ -1) := by
  rw [Int32.le_iff_toInt_le, q_i h]
  have e : (-1 : Int32).toInt = -1 := rfl
  omega
theorem qk_richest {G P F W L a t : Nat} {d : JD} (hL : q_LR G P F W L (q_rows d a) (q_rows d t)) (hN : q_NR G (q_rows d a) (q_rows d t) (d.1 22 0) (d.1 22 1) (d.1 22 2) (d.1 59)) (h68 : 68 ≤ t) : ∃ (x : Int32) (w : Int32) (d2 : JD), f_X11_richest a d = (x, j_sI d 0 11 w) ∧ f_X13_richest t (j_sI d 0 11 w) = some (x, d2) ∧ q_ans d d2 w := by
  have hP := hL.1.1.2.2.1
  have k1 : f_X11_hasLand (d.1 a) = true := q_hl1 (A := q_rows d a) (T := q_rows d t) hL
  obtain ⟨d3, w1, w2, w3, w4, w5, w6⟩ := q_wk d 0
  have kt : ∀ j, d3.1 (t + j) = d.1 (t + j) := fun j => w4 _ (by omega) (by omega) (by omega)
  have kt0 : d3.1 t = d.1 t := kt 0
  obtain ⟨hx, hc⟩ := q_way hN w6
  have hm : ∀ p, f_X13_has (d3.1 60) (d.1 t) (d.1 (t + 1)) (d.1 (t + 2)) (d.1 (t + 3)) (d.1 (t + 4)) (d.1 (t + 5)) p = some (f_X3_wealth (d.1 a) (d.1 (a + 7)) (d.1 (a + 8)) p (d.1 22 0)) := fun p => by
    have := q_hasM (A := q_rows d a) (T := q_rows d t) hL hx p
    rw [hc] at this
    exact this
  have hw : ∀ p, ∃ k, k ≤ 594 ∧ f_X3_wealth (d.1 a) (d.1 (a + 7)) (d.1 (a + 8)) p (d.1 22 0) = Int32.ofNat k := fun p => by
    have := q_weN (A := q_rows d a) (T := q_rows d t) hL hx p
    rw [hc] at this
    exact this
  have e2' : d.1 t 2 = Int32.ofNat P := hL.1.2.2.1.2
  have e2 : d.1 a 2 = Int32.ofNat P := hL.1.2.2.1.1
  obtain ⟨e, l1, l2⟩ := q_for_wh (τ := fun i (s : Int32 × Int32) (q : Int32 × Int32) => q = (s.1, Int32.ofNat i) ∧ ((s.1 = -2 ∧ s.2 = -1 ∧ i = 0) ∨ ∃ j, j < i ∧ s.1 = Int32.ofNat j ∧ s.2 = f_X3_wealth (d.1 a) (d.1 (a + 7)) (d.1 (a + 8)) (Int32.ofNat j) (d.1 22 0))) (ρ' := fun (s : Int32 × Int32) (e : Int32) => e = s.1) (n := P) (by omega) (G := f_X3_wealthiest_b8 (d.1 a) (d.1 (a + 7)) (d.1 (a + 8)) (d.1 22 0)) (F := f_X13_richest_w27 t d3)
    (fun i hi s q hq => by
      obtain ⟨rfl, hs⟩ := hq
      have k2 := q_go (n := P) (by omega) hi
      obtain ⟨k, hk, ek⟩ := hw (Int32.ofNat i)
      unfold f_X13_richest_w27 f_X13_richest_j57_27 f_X13_richest_j59_27 f_X3_wealthiest_b8 f_X3_wealthiest_j38_8 j_let
      rcases hs with ⟨s1, s2, s3⟩ | ⟨j, hj, s1, s2⟩
      · have z := q_gtm1 (k := k) (by omega)
        refine ⟨(Int32.ofNat i, Int32.ofNat (i + 1)), ?_, ?_⟩
        · simp only [kt0, e2', k2, s1, if_true, if_false, q_s]
        · simp only [s2, ek, z, if_false]
          exact ⟨trivial, Or.inr ⟨i, by omega, rfl, ek.symm⟩⟩
      · have z := q_ne2 (j := j) (by omega)
        by_cases c : f_X3_wealth (d.1 a) (d.1 (a + 7)) (d.1 (a + 8)) (Int32.ofNat i) (d.1 22 0) ≤ f_X3_wealth (d.1 a) (d.1 (a + 7)) (d.1 (a + 8)) (Int32.ofNat j) (d.1 22 0)
        · refine ⟨(Int32.ofNat j, Int32.ofNat (i + 1)), ?_, ?_⟩
          · simp only [kt, kt0, e2', k2, s1, z, hm, Option.bind_some, c, if_true, if_false, q_s]
          · simp only [s2, c, if_true]
            exact ⟨by rw [s1], Or.inr ⟨j, by omega, s1, rfl⟩⟩
        · refine ⟨(Int32.ofNat i, Int32.ofNat (i + 1)), ?_, ?_⟩
          · simp only [kt, kt0, e2', k2, s1, z, hm, Option.bind_some, c, if_false, q_s]
          · simp only [s2, c, if_false]
            exact ⟨trivial, Or.inr ⟨i, by omega, rfl, rfl⟩⟩)
    (fun s q hq => by
      obtain ⟨rfl, -⟩ := hq
      have k2 := q_end (n := P) (by omega)
      refine ⟨s.1, ?_, rfl⟩
      unfold f_X13_richest_w27
      simp only [kt0, e2', k2, if_true]) (s := ((-2), (-1))) (t := ((-2), 0)) ⟨rfl, Or.inl ⟨rfl, rfl, rfl⟩⟩
  refine ⟨e, 0, q_fin d3 0, ?_, ?_, q_fin_ans w2 w3 (by decide)⟩
  · have e9 : f_X3_wealthiest (d.1 a) (d.1 (a + 7)) (d.1 (a + 8)) (d.1 22 0) = e := by
      unfold f_X3_wealthiest j_let
      rw [e2]
      exact l2.symm
    unfold f_X11_richest j_let
    simp only [k1, e9, q_xan, if_true]
  · unfold f_X13_richest
    rw [q_dMe, w1, Option.bind_some, l1, Option.bind_some]
    unfold j_let
    rw [q_good]
theorem q_8 {K : q_K} (hK : q_Kok K) : lw_st_8 (q_R K) := by
  intro h r hz
  obtain ⟨g, d⟩ := h
  have hr := r
  obtain ⟨a, b, hg, ht, -, -, hl⟩ := r
  rcases hl with ⟨hla, hn⟩ | ⟨t, h68, hla, hts, G, P, F, W, L, hL, hN, -⟩
  · obtain ⟨x, w, d2, e1, e2, e3⟩ := qn_richest (a := a) (d := d) hn
    exact q_stI hr (q_jT (s_X11_richest g d a hg.2.1 hg.2.2.1 hg.2.2.2.2.1) e1) (q_jT (s_X13_richestn g _ hg.2.1 hla) e2) (hr.ans hK e3)
  · obtain ⟨x, w, d2, e1, e2, e3⟩ := qk_richest (a := a) (t := t) (d := d) hL hN h68
    exact q_stI hr (q_jT (s_X11_richest g d a hg.2.1 hg.2.2.1 hg.2.2.2.2.1) e1) (q_jP (s_X13_richest g _ t hg.2.1 hts hla) e2) (hr.ans hK e3)
