/-! tier two: can -/
theorem q_fcnt {x : Nat → Int32} (c : Nat) : ∀ n, q_it (fun i (s : Int32) => if x i = 0 then s else s + 1) n (Int32.ofNat c) = Int32.ofNat (c + q_cnt x n)
  | 0 => rfl
  | n + 1 => by
    show (if x n = 0 then q_it _ n _ else q_it _ n _ + 1) = Int32.ofNat (c + (if x n = 0 then q_cnt x n else q_cnt x n + 1))
    rw [q_fcnt c n]
    by_cases h : x n = 0
    · rw [if_pos h, if_pos h]
    · rw [if_neg h, if_neg h, q_s]; rfl
theorem q_pos {x : Nat → Int32} (hx : q_dg x) {i : Nat} (hi : i < 6) : x i ≤ 0 ↔ x i = 0 := by
  rcases hx i hi with h | h | h <;> rw [h] <;> decide
section QC
variable {G P F W L : Nat} {A T : Nat → Nat → Int32}
theorem q_hungM (h : q_LR G P F W L A T) {x : Nat → Int32} (hx : q_dg x) : f_X13_hung x (T 0) = some (Int32.ofNat (q_cnt x G)) := by
  have hG := h.1.1.2.1
  unfold f_X13_hung
  rw [q_loop (G := fun i (s : Int32) => if x i.toNatClampNeg = 0 then s else s + 1) (n := G) (by omega)]
  · rw [q_for _ (by omega), Option.bind_some]
    have e := q_fcnt (x := x) 0 G
    rw [Nat.zero_add] at e
    rw [← e]
    congr 1
    refine q_it_congr G _ (fun i hi s => ?_)
    rw [q_n (by omega)]
  · intro i hi s
    have k1 := h.1.2.1.2
    have k2 := q_go (n := G) (by omega) hi
    have k3 : ¬ j_out (Int32.ofNat i) 6 := q_in (by omega) (by decide)
    have k4 : (Int32.ofNat i).toNatClampNeg = i := q_n (by omega)
    have k5 := q_pos hx (i := i) (by omega)
    unfold f_X13_hung_w4 f_X13_hung_j30_4
    simp only [k1, k2, k3, k4, k5, if_false, q_s]
    by_cases c : x i = 0
    · simp only [c, if_true, Int32.add_zero]
    · simp only [c, if_false]
  · intro s
    have k1 := h.1.2.1.2
    have k2 := q_end (n := G) (by omega)
    unfold f_X13_hung_w4
    simp only [k1, k2, if_true]
theorem q_hooksM (h : q_LR G P F W L A T) {v : Nat → Int32} (hx : q_dg v) {n : Nat} (h6 : v 6 = Int32.ofNat n) : f_X13_hooks v (T 0) = some (Int32.ofNat (n + q_cnt v G)) := by
  have hG := h.1.1.2.1
  unfold f_X13_hooks
  rw [q_loop (G := fun i (s : Int32) => if v i.toNatClampNeg = 0 then s else s + 1) (n := G) (by omega)]
  · rw [q_for _ (by omega), Option.bind_some, h6, ← q_fcnt (x := v) n G]
    congr 1
    refine q_it_congr G _ (fun i hi s => ?_)
    rw [q_n (by omega)]
  · intro i hi s
    have k1 := h.1.2.1.2
    have k2 := q_go (n := G) (by omega) hi
    have k3 : ¬ j_out (Int32.ofNat i) 9 := q_in (by omega) (by decide)
    have k4 : (Int32.ofNat i).toNatClampNeg = i := q_n (by omega)
    have k5 := q_pos hx (i := i) (by omega)
    unfold f_X13_hooks_w10 f_X13_hooks_j36_10
    simp only [k1, k2, k3, k4, k5, if_false, q_s]
    by_cases c : v i = 0
    · simp only [c, if_true, Int32.add_zero]
    · simp only [c, if_false]
  · intro s
    have k1 := h.1.2.1.2
    have k2 := q_end (n := G) (by omega)
    unfold f_X13_hooks_w10
    simp only [k1, k2, if_true]
end QC
theorem q_canW (a : Nat) (d : JD) {G m : Nat} (hG : 1 ≤ G ∧ G ≤ 6) (hm : m < 4 * G) (h4 : d.1 a 4 = Int32.ofNat G) : j_wh (f_X11_can_w27 a d) j_fuel (0, Int32.ofNat m) = some (Int32.ofNat (m / G), Int32.ofNat (m % G)) := by
  have hq : m / G < 4 := by
    rw [Nat.div_lt_iff_lt_mul (by omega)]
    omega
  have hdm : G * (m / G) + m % G = m := Nat.div_add_mod m G
  have hmod : m % G < G := Nat.mod_lt _ (by omega)
  generalize m / G = q at hq hdm ⊢
  generalize m % G = e at hdm hmod ⊢
  have hle : ∀ i, i ≤ q → G * i ≤ G * q := fun i hi => Nat.mul_le_mul_left G hi
  have h := q_run (F := f_X11_can_w27 a d) (fun i => (Int32.ofNat i, Int32.ofNat (m - G * i))) q (by omega) (e := (Int32.ofNat q, Int32.ofNat e))
    (fun i hi => by
      have hs : G * (i + 1) = G * i + G := Nat.mul_succ G i
      have h2 := hle (i + 1) (by omega)
      have k1 : ¬ ((3 : Int32) ≤ Int32.ofNat i) := q_go (n := 3) (by decide) (by omega)
      have k2 : ¬ (Int32.ofNat (m - G * i) < Int32.ofNat G) := by rw [q_lt (by omega) (by omega)]; omega
      have k3 : Int32.ofNat (m - G * i) - Int32.ofNat G = Int32.ofNat (m - G * (i + 1)) := by rw [q_sub (by omega)]; congr 1; omega
      unfold f_X11_can_w27
      simp only [h4, k1, k2, k3, if_false, q_s])
    (by
      have k0 : m - G * q = e := by omega
      have k2 : Int32.ofNat e < Int32.ofNat G := by rw [q_lt (by omega) (by omega)]; exact hmod
      unfold f_X11_can_w27
      simp only [h4, k0, k2, if_true, ite_self])
  have e0 : (Int32.ofNat 0, Int32.ofNat (m - G * 0)) = (0, Int32.ofNat m) := by rw [Nat.mul_zero]; rfl
  rw [e0] at h
  exact h
theorem qk_can {G P F W L a t : Nat} {d : JD} (hL : q_LR G P F W L (q_rows d a) (q_rows d t)) (hN : q_NR G (q_rows d a) (q_rows d t) (d.1 22 0) (d.1 22 1) (d.1 22 2) (d.1 59)) (h68 : 68 ≤ t) (pq0 : Int32) : ∃ (x : Int32) (w : Int32) (d2 : JD), f_X11_can a d pq0 = some (x, j_sI d 0 11 w) ∧ f_X13_can t (j_sI d 0 11 w) pq0 = some (x, d2) ∧ q_ans d d2 w := by
  have hG1 := hL.1.1.1
  have hG := hL.1.1.2.1
  have e4 : d.1 a 4 = Int32.ofNat G := hL.1.2.1.1
  have e4' : d.1 t 4 = Int32.ofNat G := hL.1.2.1.2
  have m4 : (4 : Int32) * Int32.ofNat G = Int32.ofNat (4 * G) := by rw [Int32.ofNat_mul]; rfl
  have eT : ∀ w, (q_dM d w).1 t = d.1 t := fun w => q_dM_o (by omega) (by omega)
  by_cases h0 : pq0 < 0
  · refine ⟨-1, 1, q_fin (q_dM d 1) 1, ?_, ?_, q_ansd d (by decide)⟩
    · unfold f_X11_can f_X11_can_j17 j_let
      simp only [h0, if_true, q_xre]
    · unfold f_X13_can f_X13_can_j29 j_let
      simp only [q_dMe, h0, if_true, q_ref]
  · by_cases h1 : pq0 < Int32.ofNat (4 * G)
    · obtain ⟨m, hm, rfl⟩ : ∃ m, m < 4 * G ∧ pq0 = Int32.ofNat m := q_idx h0 (fun z => by
        rw [Int32.lt_iff_toInt_lt] at h1
        rw [Int32.le_iff_toInt_le] at z
        omega) (by omega)
      have lp := q_canW a d (G := G) (m := m) ⟨hG1, hG⟩ hm e4
      have hq : m / G < 4 := by rw [Nat.div_lt_iff_lt_mul (by omega)]; omega
      have hmod : m % G < G := Nat.mod_lt _ (by omega)
      have kdiv : Int32.ofNat m / Int32.ofNat G = Int32.ofNat (m / G) := q_div (by omega) (by omega)
      have kmod : Int32.ofNat m - Int32.ofNat m / Int32.ofNat G * Int32.ofNat G = Int32.ofNat (m % G) := q_mod (by omega) (by omega)
      generalize m / G = q at lp hq kdiv
      generalize m % G = e at lp hmod kmod
      have kmod2 : Int32.ofNat m - Int32.ofNat q * Int32.ofNat G = Int32.ofNat e := by rw [← kdiv]; exact kmod
      obtain ⟨d3, w1, w2, w3, w4, w5, w6⟩ := q_wk d 0
      have kt : ∀ j, d3.1 (t + j) = d.1 (t + j) := fun j => w4 _ (by omega) (by omega) (by omega)
      have kt0 : d3.1 t = d.1 t := kt 0
      have k59 := w4 59 (by decide) (by decide) (by decide)
      obtain ⟨hx, hc⟩ := q_way hN w6
      have hv : q_dg (d.1 59) := hN.1.1
      obtain ⟨n, hn12, h6⟩ := q_ground hN
      have hh := q_hungM (A := q_rows d a) (T := q_rows d t) hL hx
      have hk := q_hooksM (A := q_rows d a) (T := q_rows d t) hL hv h6
      have cG : q_cnt (d3.1 60) G = q_cnt (d.1 59) G := q_cnt_congr G (fun k hk => w6 k (by omega))
      have cle := q_cnt_le (d.1 59) G
      have hh' : f_X13_hung (d3.1 60) (d.1 t) = some (Int32.ofNat (q_cnt (d.1 59) G)) := by rw [← cG]; exact hh
      have hk' : f_X13_hooks (d.1 59) (d.1 t) = some (Int32.ofNat (n + q_cnt (d.1 59) G)) := hk
      have xe : d3.1 60 e = d.1 59 e := w6 e (by omega)
      have gz : ¬ (Int32.ofNat G = 0) := fun z => by
        have := (q_eq (i := 0) (by omega) (by decide)).mp z
        omega
      have ho6 : ¬ j_out (Int32.ofNat e) 6 := q_in (by omega) (by decide)
      have hne : (Int32.ofNat e).toNatClampNeg = e := q_n (by omega)
      have gd' : f_X3_isGuarded (d.1 a) (Int32.ofNat e) = true ↔ d.1 (t + 3) e = 2 := q_grd (A := q_rows d a) (T := q_rows d t) hL hmod
      have hu : f_X10_hungAt (d.1 22 0) (Int32.ofNat e) = d.1 59 e := by rw [hN.2.1]; exact q_hung hv (by omega)
      have wayc : d.1 22 0 = q_cod (d.1 59) := hN.2.1
      have lie : f_X3_hooksLying (d.1 a) (d.1 22 0) = Int32.ofNat n := (q_lying (A := q_rows d a) (T := q_rows d t) hN hL.2.2.1.1 hL.2.2.1.2.1.1).trans h6
      have px := q_pos hv (i := e) (by omega)
      have wne : ∀ k : Int32, (k = 0 ∨ k = 1 ∨ k = 2) → ¬ (f_X10_with (d.1 22 0) (Int32.ofNat e) k = -1) := fun k hk => by
        rw [wayc, q_with hv (by omega) hk]
        refine q_codne (fun j hj => ?_)
        by_cases c : j = e
        · rw [c, q_upd_a]; exact hk
        · rw [q_upd_o c]; exact hv j hj
      have key : ∃ B : Bool, (f_X3_wayAfter (d.1 a) (d.1 22 0) (Int32.ofNat q) (Int32.ofNat e) = -1 ↔ B = false) ∧ f_X13_canMove (d.1 59) (d3.1 60) (d.1 t) (d.1 (t + 3)) (Int32.ofNat m) = some B := by
        by_cases c1 : d.1 (t + 3) e = 2
        · refine ⟨false, ⟨fun _ => rfl, fun _ => ?_⟩, ?_⟩
          · unfold f_X3_wayAfter
            rw [if_pos (gd'.mpr c1)]
          · unfold f_X13_canMove j_let
            simp only [e4', gz, if_false, kmod, ho6, hne, c1, if_true]
        · have g3 : f_X3_isGuarded (d.1 a) (Int32.ofNat e) = false := by
            cases z : f_X3_isGuarded (d.1 a) (Int32.ofNat e) with
            | false => rfl
            | true => exact absurd (gd'.mp z) c1
          by_cases cq : q < 2
          · have q2 : ¬ ((2 : Int32) ≤ Int32.ofNat q) := q_go (n := 2) (by decide) cq
            have q01 : Int32.ofNat q = 0 ∨ Int32.ofNat q = 1 := by
              match q, cq with
              | 0, _ => exact Or.inl rfl
              | 1, _ => exact Or.inr rfl
              | z + 2, h => exact absurd h (by omega)
            by_cases c2 : d.1 59 e = 0
            · by_cases c3 : n = 0
              · have l0 : f_X3_hooksLying (d.1 a) (d.1 22 0) ≤ 0 := by rw [lie, c3]; decide
                have hle : Int32.ofNat (n + q_cnt (d.1 59) G) ≤ Int32.ofNat (q_cnt (d.1 59) G) := by rw [q_le (by omega) (by omega)]; omega
                refine ⟨false, ⟨fun _ => rfl, fun _ => ?_⟩, ?_⟩
                · unfold f_X3_wayAfter f_X3_wayAfter_j26 f_X3_wayAfter_j43 f_X3_wayAfter_j44
                  rcases q01 with z | z <;> simp only [z, g3, hu, c2, l0, if_true, if_false, Bool.false_eq_true, show ¬ ((1 : Int32) = 0) by decide]
                · unfold f_X13_canMove j_let
                  simp only [e4', gz, if_false, kdiv, kmod2, ho6, hne, c1, q2, xe, c2, if_true, hh', hk', Option.bind_some, hle]
              · have l1 : ¬ (f_X3_hooksLying (d.1 a) (d.1 22 0) ≤ 0) := by rw [lie]; exact q_go (i := 0) (by omega) (by omega)
                have hle : ¬ (Int32.ofNat (n + q_cnt (d.1 59) G) ≤ Int32.ofNat (q_cnt (d.1 59) G)) := by rw [q_le (by omega) (by omega)]; omega
                refine ⟨true, ⟨fun z => ?_, fun z => (by cases z)⟩, ?_⟩
                · unfold f_X3_wayAfter f_X3_wayAfter_j26 f_X3_wayAfter_j44 f_X3_wayAfter_j62 at z
                  rcases q01 with y | y
                  · simp only [y, g3, hu, c2, l1, if_true, if_false, Bool.false_eq_true, show ¬ ((1 : Int32) = 0) by decide] at z
                    exact absurd z (wne 1 (Or.inr (Or.inl rfl)))
                  · simp only [y, g3, hu, c2, l1, if_true, if_false, Bool.false_eq_true, show ¬ ((1 : Int32) = 0) by decide] at z
                    exact absurd z (wne 2 (Or.inr (Or.inr rfl)))
                · unfold f_X13_canMove j_let
                  simp only [e4', gz, if_false, kdiv, kmod2, ho6, hne, c1, q2, xe, c2, if_true, hh', hk', Option.bind_some, hle]
            · refine ⟨false, ⟨fun _ => rfl, fun _ => ?_⟩, ?_⟩
              · unfold f_X3_wayAfter f_X3_wayAfter_j26 f_X3_wayAfter_j43 f_X3_wayAfter_j44
                rcases q01 with z | z <;> simp only [z, g3, hu, c2, if_true, if_false, Bool.false_eq_true, show ¬ ((1 : Int32) = 0) by decide]
              · unfold f_X13_canMove j_let
                simp only [e4', gz, if_false, kdiv, kmod2, ho6, hne, c1, q2, xe, c2]
          · have q2 : (2 : Int32) ≤ Int32.ofNat q := (q_le (n := 2) (by decide) (by omega)).mpr (by omega)
            have q23 : Int32.ofNat q = 2 ∨ Int32.ofNat q = 3 := by
              match q, hq, cq with
              | 0, _, h => exact absurd h (by omega)
              | 1, _, h => exact absurd h (by omega)
              | 2, _, _ => exact Or.inl rfl
              | 3, _, _ => exact Or.inr rfl
              | z + 4, h, _ => exact absurd h (by omega)
            by_cases c2 : d.1 59 e = 0
            · have c2' : d.1 59 e ≤ 0 := px.mpr c2
              refine ⟨false, ⟨fun _ => rfl, fun _ => ?_⟩, ?_⟩
              · unfold f_X3_wayAfter
                rcases q23 with z | z <;> simp only [z, g3, hu, c2, if_true, if_false, Bool.false_eq_true, show ¬ ((2 : Int32) = 0) by decide, show ¬ ((2 : Int32) = 1) by decide, show ¬ ((3 : Int32) = 0) by decide, show ¬ ((3 : Int32) = 1) by decide]
              · unfold f_X13_canMove j_let
                simp only [e4', gz, if_false, kdiv, kmod2, ho6, hne, c1, q2, xe, c2', if_true]
            · have c2' : ¬ (d.1 59 e ≤ 0) := fun z => c2 (px.mp z)
              have ht3 : f_X3_turned (d.1 59 e) = 0 ∨ f_X3_turned (d.1 59 e) = 1 ∨ f_X3_turned (d.1 59 e) = 2 := by
                unfold f_X3_turned
                split
                · exact Or.inr (Or.inr rfl)
                · exact Or.inr (Or.inl rfl)
              refine ⟨true, ⟨fun z => ?_, fun z => (by cases z)⟩, ?_⟩
              · unfold f_X3_wayAfter f_X3_wayAfter_j93 at z
                rcases q23 with y | y
                · simp only [y, g3, hu, c2, if_false, Bool.false_eq_true, show ¬ ((2 : Int32) = 0) by decide, show ¬ ((2 : Int32) = 1) by decide, show ¬ ((2 : Int32) = 3) by decide] at z
                  exact absurd z (wne 0 (Or.inl rfl))
                · simp only [y, g3, hu, c2, if_false, if_true, Bool.false_eq_true, show ¬ ((3 : Int32) = 0) by decide, show ¬ ((3 : Int32) = 1) by decide] at z
                  exact absurd z (wne _ ht3)
              · unfold f_X13_canMove j_let
                simp only [e4', gz, if_false, kdiv, kmod2, ho6, hne, c1, q2, xe, c2', if_true]
      obtain ⟨B, b1, b2⟩ := key
      have fin : q_ans d (q_fin d3 0) 0 := q_fin_ans w2 w3 (by decide)
      have h1' : Int32.ofNat m < (4 : Int32) * Int32.ofNat G := by rw [m4]; exact h1
      cases B with
      | false =>
        have b1' := b1.mpr rfl
        refine ⟨0, 0, q_fin d3 0, ?_, ?_, fin⟩
        · unfold f_X11_can f_X11_can_j85 j_let
          simp only [h0, e4, h1', if_false, if_true, lp, Option.bind_some, b1', q_xan]
        · unfold f_X13_can f_X13_can_j53 j_let
          simp only [q_dMe, h0, eT, e4', h1', if_false, if_true, w1, Option.bind_some, k59, kt, kt0, b2, q_good, Bool.false_eq_true]
      | true =>
        have b1' : ¬ _ := fun z => (by cases b1.mp z : False)
        refine ⟨1, 0, q_fin d3 0, ?_, ?_, fin⟩
        · unfold f_X11_can f_X11_can_j85 j_let
          simp only [h0, e4, h1', if_false, if_true, lp, Option.bind_some, b1', q_xan]
        · unfold f_X13_can f_X13_can_j53 j_let
          simp only [q_dMe, h0, eT, e4', h1', if_false, if_true, w1, Option.bind_some, k59, kt, kt0, b2, q_good]
    · have h1' : ¬ (pq0 < (4 : Int32) * Int32.ofNat G) := by rw [m4]; exact h1
      refine ⟨-1, 1, q_fin (q_dM d 1) 1, ?_, ?_, q_ansd d (by decide)⟩
      · unfold f_X11_can f_X11_can_j17 j_let
        simp only [h0, e4, h1', if_false, q_xre]
      · unfold f_X13_can f_X13_can_j29 j_let
        simp only [q_dMe, h0, eT, e4', h1', if_false, q_ref]
theorem q_11 {K : q_K} (hK : q_Kok K) : lw_st_11 (q_R K) := by
  intro h p1 r hz
  obtain ⟨g, d⟩ := h
  have hr := r
  obtain ⟨a, b, hg, ht, -, -, hl⟩ := r
  rcases hl with ⟨hla, hn⟩ | ⟨t, h68, hla, hts, G, P, F, W, L, hL, hN, -⟩
  · obtain ⟨x, w, d2, e1, e2, e3⟩ := qn_can (a := a) (d := d) hn p1
    exact q_stI hr (q_jP (s_X11_can g d a p1 hg.2.1 hg.2.2.1 hg.2.2.2.2.1) e1) (q_jT (s_X13_cann g _ p1 hg.2.1 hla) e2) (hr.ans hK e3)
  · obtain ⟨x, w, d2, e1, e2, e3⟩ := qk_can (a := a) (t := t) (d := d) hL hN h68 p1
    exact q_stI hr (q_jP (s_X11_can g d a p1 hg.2.1 hg.2.2.1 hg.2.2.2.2.1) e1) (q_jP (s_X13_can g _ t p1 hg.2.1 hts hla) e2) (hr.ans hK e3)
