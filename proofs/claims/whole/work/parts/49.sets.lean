/-! tier two: sets of gates and firms, what one has, what is met -/
theorem q_loop {S : Type} {F : S × Int32 → Option ((S × Int32) ⊕ S)} {G : Int32 → S → S} {n : Nat} {s0 : S} (hn : n < 2147483648) (h : ∀ i, i < n → ∀ s, F (s, Int32.ofNat i) = some (.inl (G (Int32.ofNat i) s, Int32.ofNat (i + 1)))) (he : ∀ s, F (s, Int32.ofNat n) = some (.inr s)) : j_wh F j_fuel (s0, 0) = some (j_for (Int32.ofNat n) G (j_mu (Int32.ofNat n) 0) 0 s0) := by
  obtain ⟨e, h1, h2⟩ := q_for_wh (τ := fun i s t => t = (s, Int32.ofNat i)) (ρ' := fun s e => e = s) hn (G := G) (F := F) (fun i hi s t ht => ⟨_, by rw [ht]; exact h i hi s, rfl⟩) (fun s t ht => ⟨s, by rw [ht]; exact he s, rfl⟩) (s := s0) (t := (s0, 0)) rfl
  rw [h1, h2]
theorem q_end {n : Nat} (hn : n < 2147483648) : Int32.ofNat n ≤ Int32.ofNat n := by rw [q_le hn hn]; exact Nat.le_refl n
theorem q_go {n i : Nat} (hn : n < 2147483648) (hi : i < n) : ¬ (Int32.ofNat n ≤ Int32.ofNat i) := by rw [q_le hn (by omega)]; omega
section QM
variable {G P F W L : Nat} {A T : Nat → Nat → Int32}
theorem q_hasM (h : q_LR G P F W L A T) {x : Nat → Int32} (hx : q_dg x) (p : Int32) : f_X13_has x (T 0) (T 1) (T 2) (T 3) (T 4) (T 5) p = some (f_X3_wealth (A 0) (A 7) (A 8) p (q_cod x)) := by
  rw [q_has h hx, q_wealth hx h.1.1.2.1 h.1.2.1.1]
theorem q_ownM (h : q_LR G P F W L A T) {x : Nat → Int32} (hx : q_dg x) {g : Nat} (hg : g < G) : f_X13_owners x (T 1) (T 2) (T 3) (T 4) (Int32.ofNat g) = some (f_X3_ownersIn (A 7) (q_cod x) (Int32.ofNat g)) := by
  have hG := h.1.1.2.1
  rw [q_owners h hx hg, q_own hx (by omega)]
theorem q_ownedM (h : q_LR G P F W L A T) {x : Nat → Int32} (hx : q_dg x) (p : Int32) : f_X13_owned x (T 0) (T 1) (T 2) (T 3) (T 4) p = some (f_X3_gatesOwned (A 0) (A 7) p (q_cod x)) := by
  have hG := h.1.1.2.1
  unfold f_X13_owned f_X3_gatesOwned j_let
  rw [h.1.2.1.1, q_loop (G := f_X3_gatesOwned_b5 (A 0) (A 7) p (q_cod x)) (n := G) (by omega)]
  · rfl
  · intro i hi s
    have k1 := h.1.2.1.2
    have k2 := q_go (n := G) (by omega) hi
    have k3 := q_ownM h hx hi
    have k4 := q_s i
    unfold f_X13_owned_w4 f_X13_owned_j35_4 f_X3_gatesOwned_b5 f_X3_gatesOwned_j35_5
    simp only [k1, k2, k3, k4, if_false, Option.bind_some, q_bit]
    by_cases c : f_X11_hasBit (f_X3_ownersIn (A 7) (q_cod x) (Int32.ofNat i)) p = true
    · simp only [c, if_true]
    · simp only [c, if_false, Int32.or_zero, Bool.false_eq_true]
  · intro s
    have k1 := h.1.2.1.2
    have k2 := q_end (n := G) (by omega)
    unfold f_X13_owned_w4
    simp only [k1, k2, if_true]
theorem q_justM (h : q_LR G P F W L A T) {x : Nat → Int32} (hx : q_dg x) (p : Int32) : f_X13_ownedAlone x (T 0) (T 1) (T 2) (T 3) (T 4) p = some (f_X3_gatesOwnedAlone (A 0) (A 7) p (q_cod x)) := by
  have hG := h.1.1.2.1
  unfold f_X13_ownedAlone f_X3_gatesOwnedAlone f_X3_gatesOwnedJustBy j_let
  rw [h.1.2.1.1, q_loop (G := f_X3_gatesOwnedJustBy_b5 (A 0) (A 7) ((1 : Int32) <<< (p &&& 31)) (q_cod x)) (n := G) (by omega)]
  · rfl
  · intro i hi s
    have k1 := h.1.2.1.2
    have k2 := q_go (n := G) (by omega) hi
    have k3 := q_ownM h hx hi
    have k4 := q_s i
    unfold f_X13_ownedAlone_w4 f_X13_ownedAlone_j34_4 f_X3_gatesOwnedJustBy_b5 f_X3_gatesOwnedJustBy_j32_5
    simp only [k1, k2, k3, k4, if_false, Option.bind_some]
    by_cases c : f_X3_ownersIn (A 7) (q_cod x) (Int32.ofNat i) = (1 : Int32) <<< (p &&& 31)
    · simp only [c, if_true]
    · simp only [c, if_false, Int32.or_zero]
  · intro s
    have k1 := h.1.2.1.2
    have k2 := q_end (n := G) (by omega)
    unfold f_X13_ownedAlone_w4
    simp only [k1, k2, if_true]
theorem q_firmsM (h : q_LR G P F W L A T) (p : Int32) : f_X13_firmsOf (T 0) (T 2) p = some (f_X3_firmsWith (A 0) (A 2) p) := by
  have hF := h.1.1.2.2.2.1
  unfold f_X13_firmsOf f_X3_firmsWith j_let
  rw [h.1.2.2.2.1.1, q_loop (G := f_X3_firmsWith_b4 (A 0) (A 2) p) (n := F) (by omega)]
  · rfl
  · intro i hi s
    have k1 := h.1.2.2.2.1.2
    have k2 := q_go (n := F) (by omega) hi
    have k3 : ¬ j_out (Int32.ofNat i) 4 := q_in (by omega) (by decide)
    have k4 := q_s i
    have k5 : (Int32.ofNat i).toNatClampNeg = i := q_n (by omega)
    have k6 := (h.2.1.1 i hi).2
    have k7 : f_X11_at (A 2) 4 (Int32.ofNat i) = A 2 i := q_at (by omega) (by decide)
    unfold f_X13_firmsOf_w4 f_X13_firmsOf_j39_4 f_X3_firmsWith_b4 f_X3_firmsWith_j33_4
    simp only [k1, k2, k3, k4, k5, k6, k7, if_false, q_bit]
    by_cases c : f_X11_hasBit (A 2 i) p = true
    · simp only [c, if_true]
    · simp only [c, if_false, Int32.or_zero, Bool.false_eq_true]
  · intro s
    have k1 := h.1.2.2.2.1.2
    have k2 := q_end (n := F) (by omega)
    unfold f_X13_firmsOf_w4
    simp only [k1, k2, if_true]
theorem q_metM (h : q_LR G P F W L A T) {x : Nat → Int32} (hx : q_dg x) : f_X13_metNow x (T 0) (T 1) (T 2) (T 3) (T 4) (T 8) (T 9) = some (f_X0_wantsMet (A 7) (A 9) (A 10) (A 11) (A 12) (q_cod x)) := by
  have hW := h.1.1.2.2.2.2.1
  unfold f_X13_metNow f_X0_wantsMet j_let
  rw [h.1.2.2.2.2.1.1, q_loop (G := f_X0_wantsMet_b5 (A 7) (A 9) (A 10) (A 11) (A 12) (q_cod x)) (n := W) (by omega)]
  · rfl
  · intro i hi s
    obtain ⟨r1, r2, r3, ⟨p, -, r4⟩, ⟨g, hg, r5⟩⟩ := h.2.1.2.2.1 i hi
    have k1 := h.1.2.2.2.2.1.2
    have k2 := q_go (n := W) (by omega) hi
    have k3 : ¬ j_out (Int32.ofNat i) 4 := q_in (by omega) (by decide)
    have k4 := q_s i
    have k5 : (Int32.ofNat i).toNatClampNeg = i := q_n (by omega)
    have k6 := q_ownM h hx hg
    have e1 : f_X11_at (A 10) 4 (Int32.ofNat i) = A 10 i := q_at (by omega) (by decide)
    have e2 : f_X11_at (A 11) 4 (Int32.ofNat i) = A 11 i := q_at (by omega) (by decide)
    have e3 : f_X11_at (A 12) 4 (Int32.ofNat i) = A 12 i := q_at (by omega) (by decide)
    unfold f_X13_metNow_w4 f_X13_metNow_j31_4 f_X13_isMet f_X0_wantsMet_b5 f_X0_wantsMet_j76_5 f_X0_wantsMet_j83_5 j_let
    simp only [k1, k2, k3, k4, k5, r1, r2, r5, k6, e1, e2, e3, if_false, Option.bind_some]
    by_cases c : A 12 i = 1
    · have c' := r3.mpr c
      simp only [c, c', if_true]
      by_cases c2 : f_X3_ownersIn (A 7) (q_cod x) (Int32.ofNat g) = (1 : Int32) <<< (A 10 i &&& 31)
      · simp only [c2, if_true, Option.bind_some]
      · simp only [c2, if_false, Option.bind_some, Bool.false_eq_true, Int32.or_zero]
    · have c' : ¬ f_X13_bit (T 0 21) (Int32.ofNat i) = true := fun z => c (r3.mp z)
      simp only [c, c', if_false, Option.bind_some, Bool.false_eq_true, q_bit]
      by_cases c2 : f_X11_hasBit (f_X3_ownersIn (A 7) (q_cod x) (Int32.ofNat g)) (A 10 i) = true
      · simp only [c2, if_true]
      · simp only [c2, if_false, Bool.false_eq_true, Int32.or_zero]
  · intro s
    have k1 := h.1.2.2.2.2.1.2
    have k2 := q_end (n := W) (by omega)
    unfold f_X13_metNow_w4
    simp only [k1, k2, if_true]
end QM
theorem q_way {G : Nat} {A T : Nat → Nat → Int32} {w s y : Int32} {v x : Nat → Int32} (h : q_NR G A T w s y v) (e : ∀ k, k < 6 → x k = v k) : q_dg x ∧ q_cod x = w := ⟨fun k hk => by rw [e k hk]; exact h.1.1 k hk, (q_cod_congr e).trans h.2.1.symm⟩
theorem qk_met {G P F W L a t : Nat} {d : JD} (hL : q_LR G P F W L (q_rows d a) (q_rows d t)) (hN : q_NR G (q_rows d a) (q_rows d t) (d.1 22 0) (d.1 22 1) (d.1 22 2) (d.1 59)) (h68 : 68 ≤ t) : ∃ (x : Int32) (w : Int32) (d2 : JD), f_X11_met a d = (x, j_sI d 0 11 w) ∧ f_X13_met t (j_sI d 0 11 w) = some (x, d2) ∧ q_ans d d2 w := by
  have k1 : f_X11_hasLand (d.1 a) = true := q_hl1 (A := q_rows d a) (T := q_rows d t) hL
  obtain ⟨d3, w1, w2, w3, w4, w5, w6⟩ := q_wk d 0
  have kt : ∀ j, d3.1 (t + j) = d.1 (t + j) := fun j => w4 _ (by omega) (by omega) (by omega)
  have kt0 : d3.1 t = d.1 t := kt 0
  obtain ⟨hx, hc⟩ := q_way hN w6
  have hm := q_metM (A := q_rows d a) (T := q_rows d t) hL hx
  rw [hc] at hm
  have hm' : f_X13_metNow (d3.1 60) (d.1 t) (d.1 (t + 1)) (d.1 (t + 2)) (d.1 (t + 3)) (d.1 (t + 4)) (d.1 (t + 8)) (d.1 (t + 9)) = some (f_X0_wantsMet (d.1 (a + 7)) (d.1 (a + 9)) (d.1 (a + 10)) (d.1 (a + 11)) (d.1 (a + 12)) (d.1 22 0)) := hm
  refine ⟨f_X0_wantsMet (d.1 (a + 7)) (d.1 (a + 9)) (d.1 (a + 10)) (d.1 (a + 11)) (d.1 (a + 12)) (d.1 22 0), 0, q_fin d3 0, ?_, ?_, q_fin_ans w2 w3 (by decide)⟩
  · unfold f_X11_met j_let
    simp only [k1, q_xan, if_true]
  · unfold f_X13_met j_let
    simp only [q_dMe, w1, Option.bind_some, kt, kt0, hm', q_good]
theorem qk_person {G P F W L a t : Nat} {d : JD} (hL : q_LR G P F W L (q_rows d a) (q_rows d t)) (hN : q_NR G (q_rows d a) (q_rows d t) (d.1 22 0) (d.1 22 1) (d.1 22 2) (d.1 59)) (h68 : 68 ≤ t) (pq0 pq1 : Int32) : ∃ (x : Int32) (w : Int32) (d2 : JD), f_X11_person a d pq0 pq1 = (x, j_sI d 0 11 w) ∧ f_X13_person t (j_sI d 0 11 w) pq0 pq1 = some (x, d2) ∧ q_ans d d2 w := by
  obtain ⟨d3, w1, w2, w3, w4, w5, w6⟩ := q_wk d 0
  have kt : ∀ j, d3.1 (t + j) = d.1 (t + j) := fun j => w4 _ (by omega) (by omega) (by omega)
  have kt0 : d3.1 t = d.1 t := kt 0
  obtain ⟨hx, hc⟩ := q_way hN w6
  have eT : ∀ w, (q_dM d w).1 t = d.1 t := fun w => q_dM_o (by omega) (by omega)
  have ep : ∀ w, f_X13_isPerson ((q_dM d w).1 t) pq0 = f_X11_isPerson (d.1 a) pq0 := fun w => by rw [eT]; exact q_isp (A := q_rows d a) (T := q_rows d t) hL pq0
  have fin : q_ans d (q_fin d3 0) 0 := q_fin_ans w2 w3 (by decide)
  have ha := q_hasM (A := q_rows d a) (T := q_rows d t) hL hx pq0
  have hb := q_ownedM (A := q_rows d a) (T := q_rows d t) hL hx pq0
  have hd := q_justM (A := q_rows d a) (T := q_rows d t) hL hx pq0
  have he := q_firmsM (A := q_rows d a) (T := q_rows d t) hL pq0
  rw [hc] at ha hb hd
  have ha' : f_X13_has (d3.1 60) (d.1 t) (d.1 (t + 1)) (d.1 (t + 2)) (d.1 (t + 3)) (d.1 (t + 4)) (d.1 (t + 5)) pq0 = some (f_X3_wealth (d.1 a) (d.1 (a + 7)) (d.1 (a + 8)) pq0 (d.1 22 0)) := ha
  have hb' : f_X13_owned (d3.1 60) (d.1 t) (d.1 (t + 1)) (d.1 (t + 2)) (d.1 (t + 3)) (d.1 (t + 4)) pq0 = some (f_X3_gatesOwned (d.1 a) (d.1 (a + 7)) pq0 (d.1 22 0)) := hb
  have hd' : f_X13_ownedAlone (d3.1 60) (d.1 t) (d.1 (t + 1)) (d.1 (t + 2)) (d.1 (t + 3)) (d.1 (t + 4)) pq0 = some (f_X3_gatesOwnedAlone (d.1 a) (d.1 (a + 7)) pq0 (d.1 22 0)) := hd
  have he' : f_X13_firmsOf (d.1 t) (d.1 (t + 2)) pq0 = some (f_X3_firmsWith (d.1 a) (d.1 (a + 2)) pq0) := he
  by_cases h1 : f_X11_isPerson (d.1 a) pq0 = true
  · by_cases h2 : f_X13_in pq1 0 3 = true
    · obtain ⟨i, hi, rfl⟩ := q_inr (n := 3) (by decide) h2
      match i, hi with
      | 0, _ =>
        refine ⟨f_X3_wealth (d.1 a) (d.1 (a + 7)) (d.1 (a + 8)) pq0 (d.1 22 0), 0, q_fin d3 0, ?_, ?_, fin⟩
        · unfold f_X11_person j_let
          simp only [h1, if_true, show Int32.ofNat 0 = 0 from rfl, q_xan]
        · unfold f_X13_person f_X13_person_j76 j_let
          simp only [q_dMe, ep, h1, h2, if_true, w1, Option.bind_some, kt, kt0, show Int32.ofNat 0 = 0 from rfl, show f_X13_in 0 0 3 = true by decide, ha', q_good]
      | 1, _ =>
        refine ⟨f_X3_gatesOwned (d.1 a) (d.1 (a + 7)) pq0 (d.1 22 0), 0, q_fin d3 0, ?_, ?_, fin⟩
        · unfold f_X11_person j_let
          simp only [h1, if_true, show Int32.ofNat 1 = 1 from rfl, show ¬ ((1 : Int32) = 0) by decide, if_false, q_xan]
        · unfold f_X13_person f_X13_person_j76 j_let
          simp only [q_dMe, ep, h1, h2, if_true, w1, Option.bind_some, kt, kt0, show Int32.ofNat 1 = 1 from rfl, show f_X13_in 1 0 3 = true by decide, show ¬ ((1 : Int32) = 0) by decide, if_false, hb', q_good]
      | 2, _ =>
        refine ⟨f_X3_gatesOwnedAlone (d.1 a) (d.1 (a + 7)) pq0 (d.1 22 0), 0, q_fin d3 0, ?_, ?_, fin⟩
        · unfold f_X11_person j_let
          simp only [h1, if_true, show Int32.ofNat 2 = 2 from rfl, show ¬ ((2 : Int32) = 0) by decide, show ¬ ((2 : Int32) = 1) by decide, if_false, q_xan]
        · unfold f_X13_person f_X13_person_j76 j_let
          simp only [q_dMe, ep, h1, h2, if_true, w1, Option.bind_some, kt, kt0, show Int32.ofNat 2 = 2 from rfl, show f_X13_in 2 0 3 = true by decide, show ¬ ((2 : Int32) = 0) by decide, show ¬ ((2 : Int32) = 1) by decide, if_false, hd', q_good]
      | 3, _ =>
        refine ⟨f_X3_firmsWith (d.1 a) (d.1 (a + 2)) pq0, 0, q_fin d3 0, ?_, ?_, fin⟩
        · unfold f_X11_person j_let
          simp only [h1, if_true, show Int32.ofNat 3 = 3 from rfl, show ¬ ((3 : Int32) = 0) by decide, show ¬ ((3 : Int32) = 1) by decide, show ¬ ((3 : Int32) = 2) by decide, if_false, q_xan]
        · unfold f_X13_person f_X13_person_j76 j_let
          simp only [q_dMe, ep, h1, h2, if_true, w1, Option.bind_some, kt, kt0, show Int32.ofNat 3 = 3 from rfl, show f_X13_in 3 0 3 = true by decide, show ¬ ((3 : Int32) = 0) by decide, show ¬ ((3 : Int32) = 1) by decide, show ¬ ((3 : Int32) = 2) by decide, if_false, he', q_good]
      | n + 4, hi => exact absurd hi (by omega)
    · refine ⟨-1, 1, q_fin (q_dM d 1) 1, ?_, ?_, q_ansd d (by decide)⟩
      · have n0 : ¬ pq1 = 0 := fun z => h2 (by rw [z]; decide)
        have n1 : ¬ pq1 = 1 := fun z => h2 (by rw [z]; decide)
        have n2 : ¬ pq1 = 2 := fun z => h2 (by rw [z]; decide)
        have n3 : ¬ pq1 = 3 := fun z => h2 (by rw [z]; decide)
        unfold f_X11_person j_let
        simp only [h1, n0, n1, n2, n3, if_true, if_false, q_xre]
      · unfold f_X13_person f_X13_person_j22 j_let
        simp only [q_dMe, ep, h1, h2, if_true, if_false, q_ref, Bool.false_eq_true]
  · refine ⟨-1, 1, q_fin (q_dM d 1) 1, ?_, ?_, q_ansd d (by decide)⟩
    · unfold f_X11_person j_let
      simp only [h1, q_xre, if_false, Bool.false_eq_true]
    · unfold f_X13_person f_X13_person_j22 j_let
      simp only [q_dMe, ep, h1, if_false, q_ref, Bool.false_eq_true]
theorem qk_commons {G P F W L a t : Nat} {d : JD} (hL : q_LR G P F W L (q_rows d a) (q_rows d t)) (hN : q_NR G (q_rows d a) (q_rows d t) (d.1 22 0) (d.1 22 1) (d.1 22 2) (d.1 59)) (h68 : 68 ≤ t) : ∃ (x : Int32) (w : Int32) (d2 : JD), f_X11_commons a d = (x, j_sI d 0 11 w) ∧ f_X13_commons t (j_sI d 0 11 w) = some (x, d2) ∧ q_ans d d2 w := by
  have hG := hL.1.1.2.1
  have k1 : f_X11_hasLand (d.1 a) = true := q_hl1 (A := q_rows d a) (T := q_rows d t) hL
  obtain ⟨d3, w1, w2, w3, w4, w5, w6⟩ := q_wk d 0
  have kt : ∀ j, d3.1 (t + j) = d.1 (t + j) := fun j => w4 _ (by omega) (by omega) (by omega)
  have kt0 : d3.1 t = d.1 t := kt 0
  obtain ⟨hx, hc⟩ := q_way hN w6
  have hl : j_wh (f_X13_commons_w26 t d3) j_fuel (0, 0) = some (j_for (Int32.ofNat G) (f_X3_gatesOwnedJustBy_b5 (d.1 a) (d.1 (a + 7)) 0 (d.1 22 0)) (j_mu (Int32.ofNat G) 0) 0 0) := by
    have e4 : d.1 t 4 = Int32.ofNat G := hL.1.2.1.2
    refine q_loop (n := G) (by omega) ?_ ?_
    · intro i hi s
      have k2 := q_go (n := G) (by omega) hi
      have k3 := q_ownM (A := q_rows d a) (T := q_rows d t) hL hx hi
      rw [hc] at k3
      have k3' : f_X13_owners (d3.1 60) (d.1 (t + 1)) (d.1 (t + 2)) (d.1 (t + 3)) (d.1 (t + 4)) (Int32.ofNat i) = some (f_X3_ownersIn (d.1 (a + 7)) (d.1 22 0) (Int32.ofNat i)) := k3
      have k4 := q_s i
      unfold f_X13_commons_w26 f_X13_commons_j53_26 f_X3_gatesOwnedJustBy_b5 f_X3_gatesOwnedJustBy_j32_5
      simp only [kt, kt0, e4, k2, k3', k4, if_false, Option.bind_some]
      by_cases c : f_X3_ownersIn (d.1 (a + 7)) (d.1 22 0) (Int32.ofNat i) = 0
      · simp only [c, if_true]
      · simp only [c, if_false, Int32.or_zero]
    · intro s
      have k2 := q_end (n := G) (by omega)
      unfold f_X13_commons_w26
      simp only [kt0, e4, k2, if_true]
  have e4 : d.1 a 4 = Int32.ofNat G := hL.1.2.1.1
  refine ⟨j_for (Int32.ofNat G) (f_X3_gatesOwnedJustBy_b5 (d.1 a) (d.1 (a + 7)) 0 (d.1 22 0)) (j_mu (Int32.ofNat G) 0) 0 0, 0, q_fin d3 0, ?_, ?_, q_fin_ans w2 w3 (by decide)⟩
  · unfold f_X11_commons f_X3_gatesUnowned f_X3_gatesOwnedJustBy j_let
    simp only [k1, e4, q_xan, if_true]
  · unfold f_X13_commons j_let
    simp only [q_dMe, w1, Option.bind_some, hl, q_good]
theorem q_14 {K : q_K} (hK : q_Kok K) : lw_st_14 (q_R K) := by
  intro h r hz
  obtain ⟨g, d⟩ := h
  have hr := r
  obtain ⟨a, b, hg, ht, -, -, hl⟩ := r
  rcases hl with ⟨hla, hn⟩ | ⟨t, h68, hla, hts, G, P, F, W, L, hL, hN, -⟩
  · obtain ⟨x, w, d2, e1, e2, e3⟩ := qn_met (a := a) (d := d) hn
    exact q_stI hr (q_jT (s_X11_met g d a hg.2.1 hg.2.2.1 hg.2.2.2.2.1) e1) (q_jT (s_X13_metn g _ hg.2.1 hla) e2) (hr.ans hK e3)
  · obtain ⟨x, w, d2, e1, e2, e3⟩ := qk_met (a := a) (t := t) (d := d) hL hN h68
    exact q_stI hr (q_jT (s_X11_met g d a hg.2.1 hg.2.2.1 hg.2.2.2.2.1) e1) (q_jP (s_X13_met g _ t hg.2.1 hts hla) e2) (hr.ans hK e3)
theorem q_5 {K : q_K} (hK : q_Kok K) : lw_st_5 (q_R K) := by
  intro h p1 p2 r hz
  obtain ⟨g, d⟩ := h
  have hr := r
  obtain ⟨a, b, hg, ht, -, -, hl⟩ := r
  rcases hl with ⟨hla, hn⟩ | ⟨t, h68, hla, hts, G, P, F, W, L, hL, hN, -⟩
  · obtain ⟨x, w, d2, e1, e2, e3⟩ := qn_person (a := a) (d := d) hn p1 p2
    exact q_stI hr (q_jT (s_X11_person g d a p1 p2 hg.2.1 hg.2.2.1 hg.2.2.2.2.1) e1) (q_jT (s_X13_personn g _ p1 p2 hg.2.1 hla) e2) (hr.ans hK e3)
  · obtain ⟨x, w, d2, e1, e2, e3⟩ := qk_person (a := a) (t := t) (d := d) hL hN h68 p1 p2
    exact q_stI hr (q_jT (s_X11_person g d a p1 p2 hg.2.1 hg.2.2.1 hg.2.2.2.2.1) e1) (q_jP (s_X13_person g _ t p1 p2 hg.2.1 hts hla) e2) (hr.ans hK e3)
theorem q_7 {K : q_K} (hK : q_Kok K) : lw_st_7 (q_R K) := by
  intro h r hz
  obtain ⟨g, d⟩ := h
  have hr := r
  obtain ⟨a, b, hg, ht, -, -, hl⟩ := r
  rcases hl with ⟨hla, hn⟩ | ⟨t, h68, hla, hts, G, P, F, W, L, hL, hN, -⟩
  · obtain ⟨x, w, d2, e1, e2, e3⟩ := qn_commons (a := a) (d := d) hn
    exact q_stI hr (q_jT (s_X11_commons g d a hg.2.1 hg.2.2.1 hg.2.2.2.2.1) e1) (q_jT (s_X13_commonsn g _ hg.2.1 hla) e2) (hr.ans hK e3)
  · obtain ⟨x, w, d2, e1, e2, e3⟩ := qk_commons (a := a) (t := t) (d := d) hL hN h68
    exact q_stI hr (q_jT (s_X11_commons g d a hg.2.1 hg.2.2.1 hg.2.2.2.2.1) e1) (q_jP (s_X13_commons g _ t hg.2.1 hts hla) e2) (hr.ans hK e3)
