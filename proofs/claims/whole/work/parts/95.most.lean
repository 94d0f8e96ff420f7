/-! tier two: movesFor, mostBy -/
section QE
variable {G P F W L a t : Nat} {d d1 B : JD} {s : q_S}
theorem q_fwwC (hL : q_LR G P F W L (q_rows d a) (q_rows d t)) (hs : q_SI (3 ^ G) (4 * G) s) (hc : q_eqB G s (d1.1 32 6) (d1.1 33) (d1.1 34) (d1.1 35) (d1.1 36)) (ha : ∀ j, j < 15 → d1.1 (a + j) = d.1 (a + j)) (p u : Int32) : ((∀ i, i < s.1 → f_X3_wealth (d.1 a) (d.1 (a + 7)) (d.1 (a + 8)) p (q_cod (q_dig G (s.2.1 i))) < u) → f_X1_firstWithWealth (d1.1 32) (d1.1 33) (d1.1 a) (d1.1 (a + 7)) (d1.1 (a + 8)) p u = -1) ∧ ∀ j, j < s.1 → ¬ (f_X3_wealth (d.1 a) (d.1 (a + 7)) (d.1 (a + 8)) p (q_cod (q_dig G (s.2.1 j))) < u) → (∀ i, i < j → f_X3_wealth (d.1 a) (d.1 (a + 7)) (d.1 (a + 8)) p (q_cod (q_dig G (s.2.1 i))) < u) → f_X1_firstWithWealth (d1.1 32) (d1.1 33) (d1.1 a) (d1.1 (a + 7)) (d1.1 (a + 8)) p u = Int32.ofNat j := by
  have hG := hL.1.1.2.1
  have pw := q_pw43 ⟨G, by omega⟩
  dsimp only at pw
  have hle := hs.le
  have a0 : d1.1 a = d.1 a := ha 0 (by decide)
  rw [a0, ha 7 (by decide), ha 8 (by decide)]
  unfold f_X1_firstWithWealth j_let
  rw [hc.1]
  have ev : ∀ i, i < s.1 → f_X11_at (d1.1 33) 729 (Int32.ofNat i) = q_cod (q_dig G (s.2.1 i)) := fun i hi => by
    rw [q_at (by omega) (by decide), (hc.2 i hi).1]
  refine ⟨fun h => ?_, fun j hj h1 h2 => ?_⟩
  · rw [q_fo_miss (fun _ => ()) (by omega) (fun i hi => by
      unfold f_X1_firstWithWealth_b3
      rw [ev i hi]
      exact if_pos (h i hi))]
    rfl
  · rw [q_fo_hit (fun _ => ()) (by omega) hj (r := Int32.ofNat j) (fun i hi => by
      unfold f_X1_firstWithWealth_b3
      rw [ev i (by omega)]
      exact if_pos (h2 i hi)) (by
      unfold f_X1_firstWithWealth_b3
      rw [ev j hj]
      exact if_neg h1)]
    rfl
theorem q_hasE (hL : q_LR G P F W L (q_rows d a) (q_rows d t)) (h68 : 68 ≤ t) (et : ∀ j, B.1 (t + j) = d.1 (t + j)) (hs : q_SI (3 ^ G) (4 * G) s) {E : JD} (hE : q_MR (3 ^ G) B E s) {i : Nat} (hi : i < s.1) (p : Int32) : ∃ E1, q_MR (3 ^ G) B E1 s ∧ f_X13_lays t E (E.1 65 (Int32.ofNat i).toNatClampNeg) = some E1 ∧ f_X13_has (E1.1 60) (E1.1 t) (E1.1 (t + 1)) (E1.1 (t + 2)) (E1.1 (t + 3)) (E1.1 (t + 4)) (E1.1 (t + 5)) p = some (f_X3_wealth (d.1 a) (d.1 (a + 7)) (d.1 (a + 8)) p (q_cod (q_dig G (s.2.1 i)))) := by
  have hG1 := hL.1.1.1
  have hG := hL.1.1.2.1
  have e4' : d.1 t 4 = Int32.ofNat G := hL.1.2.1.2
  have pw := q_pw43 ⟨G, by omega⟩
  dsimp only at pw
  have hle := hs.le
  have hwi := hs.way i hi
  have Et : ∀ j, E.1 (t + j) = d.1 (t + j) := fun j => (hE.1 _ (by omega) (by omega) (by omega) (by omega) (by omega)).trans (et j)
  have Et0 : E.1 t = d.1 t := Et 0
  obtain ⟨E1, l1, l2, l3, -⟩ := q_laysM (D := E) h68 hG1 hG (by rw [Et0, e4']) (c := s.2.1 i) (by omega)
  have hE1 := hE.o60 l2
  have E1t : ∀ j, E1.1 (t + j) = d.1 (t + j) := fun j => (l2 _ (by omega)).trans (Et j)
  have E1t0 : E1.1 t = d.1 t := E1t 0
  have hn : (Int32.ofNat i).toNatClampNeg = i := q_n (by omega)
  refine ⟨E1, hE1, by rw [hn, hE.2.2.2.1 i hi, l1], ?_⟩
  rw [E1t0, E1t 1, E1t 2, E1t 3, E1t 4, E1t 5]
  exact (q_has_c (A := q_rows d a) (T := q_rows d t) hL l3 p).trans (q_hasM (A := q_rows d a) (T := q_rows d t) hL (q_dig_WY G (s.2.1 i)).1 p)
theorem q_mfS (hL : q_LR G P F W L (q_rows d a) (q_rows d t)) (h68 : 68 ≤ t) (et : ∀ j, B.1 (t + j) = d.1 (t + j)) (hs : q_SI (3 ^ G) (4 * G) s) {E : JD} (hE : q_MR (3 ^ G) B E s) {i : Nat} (hi : i < s.1) (p u : Int32) : ∃ E1, q_MR (3 ^ G) B E1 s ∧ (f_X3_wealth (d.1 a) (d.1 (a + 7)) (d.1 (a + 8)) p (q_cod (q_dig G (s.2.1 i))) < u → f_X13_movesFor_w33 t p u (Int32.ofNat i, E) = some (.inl (Int32.ofNat (i + 1), E1))) ∧ (¬ (f_X3_wealth (d.1 a) (d.1 (a + 7)) (d.1 (a + 8)) p (q_cod (q_dig G (s.2.1 i))) < u) → f_X13_movesFor_w33 t p u (Int32.ofNat i, E) = some (.inr (.inl (Int32.ofNat (s.2.2.2.2 i), q_fin E1 0)))) := by
  have hG := hL.1.1.2.1
  have pw := q_pw43 ⟨G, by omega⟩
  dsimp only at pw
  have hle := hs.le
  have hwi := hs.way i hi
  obtain ⟨E1, hE1, l1, l2⟩ := q_hasE hL h68 et hs hE hi p
  have ho : ¬ j_out (Int32.ofNat i) 729 := q_in (by omega) (by decide)
  have hn : (Int32.ofNat i).toNatClampNeg = i := q_n (by omega)
  have h65 : E1.1 65 (Int32.ofNat i).toNatClampNeg = Int32.ofNat (s.2.1 i) := by rw [hn, hE1.2.2.2.1 i hi]
  have k2 := q_go (n := s.1) (by omega) hi
  have ho2 : ¬ j_out (Int32.ofNat (s.2.1 i)) 729 := q_in (by omega) (by decide)
  have hn2 : (Int32.ofNat (s.2.1 i)).toNatClampNeg = s.2.1 i := q_n (by omega)
  refine ⟨E1, hE1, fun c => ?_, fun c => ?_⟩
  · unfold f_X13_movesFor_w33
    dsimp only
    rw [hE.2.2.1, if_neg k2, if_neg ho, l1, Option.bind_some, l2, Option.bind_some, if_pos c, q_s]
  · unfold f_X13_movesFor_w33 j_let
    dsimp only
    rw [hE.2.2.1, if_neg k2, if_neg ho, l1, Option.bind_some, l2, Option.bind_some, if_neg c, if_neg ho, h65, if_neg ho2, hn2, hE1.2.2.2.2.2.1 i hi, q_good]
theorem q_mfM (hL : q_LR G P F W L (q_rows d a) (q_rows d t)) (h68 : 68 ≤ t) (et : ∀ j, B.1 (t + j) = d.1 (t + j)) (hs : q_SI (3 ^ G) (4 * G) s) {D : JD} (hD : q_MR (3 ^ G) B D s) (p u : Int32) : ((∀ i, i < s.1 → f_X3_wealth (d.1 a) (d.1 (a + 7)) (d.1 (a + 8)) p (q_cod (q_dig G (s.2.1 i))) < u) → ∃ E, j_wh (f_X13_movesFor_w33 t p u) j_fuel (0, D) = some (.inr E) ∧ q_MR (3 ^ G) B E s) ∧ ∀ j, j < s.1 → ¬ (f_X3_wealth (d.1 a) (d.1 (a + 7)) (d.1 (a + 8)) p (q_cod (q_dig G (s.2.1 j))) < u) → (∀ i, i < j → f_X3_wealth (d.1 a) (d.1 (a + 7)) (d.1 (a + 8)) p (q_cod (q_dig G (s.2.1 i))) < u) → ∃ E, j_wh (f_X13_movesFor_w33 t p u) j_fuel (0, D) = some (.inl (Int32.ofNat (s.2.2.2.2 j), q_fin E 0)) ∧ q_MR (3 ^ G) B E s := by
  have hG := hL.1.1.2.1
  have pw := q_pw43 ⟨G, by omega⟩
  dsimp only at pw
  have hle := hs.le
  have step : ∀ n, n ≤ s.1 → (∀ i, i < n → f_X3_wealth (d.1 a) (d.1 (a + 7)) (d.1 (a + 8)) p (q_cod (q_dig G (s.2.1 i))) < u) → ∀ i, i < n → ∀ v : Int32 × JD, (v.1 = Int32.ofNat i ∧ q_MR (3 ^ G) B v.2 s) → ∃ v', f_X13_movesFor_w33 t p u v = some (.inl v') ∧ (v'.1 = Int32.ofNat (i + 1) ∧ q_MR (3 ^ G) B v'.2 s) := by
    intro n hn h i hi v hv
    obtain ⟨v1, E⟩ := v
    obtain ⟨e1, hE⟩ := hv
    dsimp only at e1 hE
    subst e1
    obtain ⟨E1, x1, x2, -⟩ := q_mfS hL h68 et hs hE (i := i) (by omega) p u
    exact ⟨_, x2 (h i hi), rfl, x1⟩
  refine ⟨fun h => ?_, fun j hj h1 h2 => ?_⟩
  · obtain ⟨e, k1, k2⟩ := q_inv (F := f_X13_movesFor_w33 t p u) (τ := fun i (v : Int32 × JD) => v.1 = Int32.ofNat i ∧ q_MR (3 ^ G) B v.2 s) (ρ := fun e => ∃ E, e = .inr E ∧ q_MR (3 ^ G) B E s) (n := s.1) (by omega) (step s.1 (Nat.le_refl _) h) (by
      intro v hv
      obtain ⟨v1, E⟩ := v
      obtain ⟨e1, hE⟩ := hv
      dsimp only at e1 hE
      subst e1
      unfold f_X13_movesFor_w33
      dsimp only
      rw [hE.2.2.1, if_pos (q_end (by omega))]
      exact ⟨_, rfl, E, rfl, hE⟩) (t := (0, D)) ⟨rfl, hD⟩
    obtain ⟨E, rfl, hE⟩ := k2
    exact ⟨E, k1, hE⟩
  · obtain ⟨e, k1, k2⟩ := q_inv (F := f_X13_movesFor_w33 t p u) (τ := fun i (v : Int32 × JD) => v.1 = Int32.ofNat i ∧ q_MR (3 ^ G) B v.2 s) (ρ := fun e => ∃ E, e = .inl (Int32.ofNat (s.2.2.2.2 j), q_fin E 0) ∧ q_MR (3 ^ G) B E s) (n := j) (by omega) (step j (by omega) h2) (by
      intro v hv
      obtain ⟨v1, E⟩ := v
      obtain ⟨e1, hE⟩ := hv
      dsimp only at e1 hE
      subst e1
      obtain ⟨E1, x1, -, x3⟩ := q_mfS hL h68 et hs hE hj p u
      exact ⟨_, x3 h1, E1, rfl, x1⟩) (t := (0, D)) ⟨rfl, hD⟩
    obtain ⟨E, rfl, hE⟩ := k2
    exact ⟨E, k1, hE⟩
/-- the most within so many moves -/
theorem q_mbC (hL : q_LR G P F W L (q_rows d a) (q_rows d t)) (hs : q_SI (3 ^ G) (4 * G) s) (hc : q_eqB G s (d1.1 32 6) (d1.1 33) (d1.1 34) (d1.1 35) (d1.1 36)) (ha : ∀ j, j < 15 → d1.1 (a + j) = d.1 (a + j)) (p u : Int32) {J : Nat} (hJ : J ≤ s.1) (h1 : ∀ i, i < J → ¬ (u < Int32.ofNat (s.2.2.2.2 i))) (h2 : J = s.1 ∨ (J < s.1 ∧ u < Int32.ofNat (s.2.2.2.2 J))) : f_X1_mostWealthWithin (d1.1 32) (d1.1 33) (d1.1 36) (d1.1 a) (d1.1 (a + 7)) (d1.1 (a + 8)) p u = some (q_it (fun i b => if b < f_X3_wealth (d.1 a) (d.1 (a + 7)) (d.1 (a + 8)) p (q_cod (q_dig G (s.2.1 i))) then f_X3_wealth (d.1 a) (d.1 (a + 7)) (d.1 (a + 8)) p (q_cod (q_dig G (s.2.1 i))) else b) J 0) := by
  have hG := hL.1.1.2.1
  have pw := q_pw43 ⟨G, by omega⟩
  dsimp only at pw
  have hle := hs.le
  have a0 : d1.1 a = d.1 a := ha 0 (by decide)
  rw [a0, ha 7 (by decide), ha 8 (by decide)]
  have l := q_run (F := f_X1_mostWealthWithin_w6 (d1.1 32) (d1.1 33) (d1.1 36) (d.1 a) (d.1 (a + 7)) (d.1 (a + 8)) p u) (fun k => (q_it (fun i b => if b < f_X3_wealth (d.1 a) (d.1 (a + 7)) (d.1 (a + 8)) p (q_cod (q_dig G (s.2.1 i))) then f_X3_wealth (d.1 a) (d.1 (a + 7)) (d.1 (a + 8)) p (q_cod (q_dig G (s.2.1 i))) else b) k 0, Int32.ofNat k)) (e := q_it (fun i b => if b < f_X3_wealth (d.1 a) (d.1 (a + 7)) (d.1 (a + 8)) p (q_cod (q_dig G (s.2.1 i))) then f_X3_wealth (d.1 a) (d.1 (a + 7)) (d.1 (a + 8)) p (q_cod (q_dig G (s.2.1 i))) else b) J 0) J (by omega) (fun i hi => by
    unfold f_X1_mostWealthWithin_w6 f_X1_movesTo
    dsimp only
    rw [hc.1, if_neg (q_go (by omega) (by omega)), q_at (by omega) (by decide), q_at (by omega) (by decide), (hc.2 i (by omega)).1, (hc.2 i (by omega)).2.1, if_neg (h1 i hi), q_s]
    rfl) (by
    unfold f_X1_mostWealthWithin_w6 f_X1_movesTo
    dsimp only
    rw [hc.1]
    rcases h2 with z | ⟨z1, z2⟩
    · rw [← z, if_pos (q_end (by omega))]
    · rw [if_neg (q_go (by omega) z1), q_at (by omega) (by decide), (hc.2 J z1).2.1, if_pos z2])
  unfold f_X1_mostWealthWithin
  have l' : j_wh (f_X1_mostWealthWithin_w6 (d1.1 32) (d1.1 33) (d1.1 36) (d.1 a) (d.1 (a + 7)) (d.1 (a + 8)) p u) j_fuel (0, 0) = some (q_it (fun i b => if b < f_X3_wealth (d.1 a) (d.1 (a + 7)) (d.1 (a + 8)) p (q_cod (q_dig G (s.2.1 i))) then f_X3_wealth (d.1 a) (d.1 (a + 7)) (d.1 (a + 8)) p (q_cod (q_dig G (s.2.1 i))) else b) J 0) := l
  rw [l', Option.bind_some]
theorem q_mbM (hL : q_LR G P F W L (q_rows d a) (q_rows d t)) (h68 : 68 ≤ t) (et : ∀ j, B.1 (t + j) = d.1 (t + j)) (hs : q_SI (3 ^ G) (4 * G) s) {D : JD} (hD : q_MR (3 ^ G) B D s) (p u : Int32) {J : Nat} (hJ : J ≤ s.1) (h1 : ∀ i, i < J → ¬ (u < Int32.ofNat (s.2.2.2.2 i))) (h2 : J = s.1 ∨ (J < s.1 ∧ u < Int32.ofNat (s.2.2.2.2 J))) : ∃ E, j_wh (f_X13_mostBy_w44 t p u) j_fuel (0, 0, D) = some (q_it (fun i b => if b < f_X3_wealth (d.1 a) (d.1 (a + 7)) (d.1 (a + 8)) p (q_cod (q_dig G (s.2.1 i))) then f_X3_wealth (d.1 a) (d.1 (a + 7)) (d.1 (a + 8)) p (q_cod (q_dig G (s.2.1 i))) else b) J 0, E) ∧ q_MR (3 ^ G) B E s := by
  have hG := hL.1.1.2.1
  have pw := q_pw43 ⟨G, by omega⟩
  dsimp only at pw
  have hle := hs.le
  have f63 : ∀ (E : JD), q_MR (3 ^ G) B E s → ∀ i, i < s.1 → E.1 63 (E.1 65 (Int32.ofNat i).toNatClampNeg).toNatClampNeg = Int32.ofNat (s.2.2.2.2 i) ∧ ¬ j_out (E.1 65 (Int32.ofNat i).toNatClampNeg) 729 := fun E hE i hi => by
    have hwi := hs.way i hi
    rw [q_n (by omega), hE.2.2.2.1 i hi, q_n (by omega)]
    exact ⟨hE.2.2.2.2.2.1 i hi, q_in (by omega) (by decide)⟩
  obtain ⟨e, k1, k2⟩ := q_inv (F := f_X13_mostBy_w44 t p u) (τ := fun i (v : Int32 × Int32 × JD) => v.1 = q_it (fun i b => if b < f_X3_wealth (d.1 a) (d.1 (a + 7)) (d.1 (a + 8)) p (q_cod (q_dig G (s.2.1 i))) then f_X3_wealth (d.1 a) (d.1 (a + 7)) (d.1 (a + 8)) p (q_cod (q_dig G (s.2.1 i))) else b) i 0 ∧ v.2.1 = Int32.ofNat i ∧ q_MR (3 ^ G) B v.2.2 s) (ρ := fun e => e.1 = q_it (fun i b => if b < f_X3_wealth (d.1 a) (d.1 (a + 7)) (d.1 (a + 8)) p (q_cod (q_dig G (s.2.1 i))) then f_X3_wealth (d.1 a) (d.1 (a + 7)) (d.1 (a + 8)) p (q_cod (q_dig G (s.2.1 i))) else b) J 0 ∧ q_MR (3 ^ G) B e.2 s) (n := J) (by omega) (by
    intro i hi v hv
    obtain ⟨v1, v2, E⟩ := v
    obtain ⟨e1, e2, hE⟩ := hv
    dsimp only at e1 e2 hE
    subst e1 e2
    have st : q_it (fun i b => if b < f_X3_wealth (d.1 a) (d.1 (a + 7)) (d.1 (a + 8)) p (q_cod (q_dig G (s.2.1 i))) then f_X3_wealth (d.1 a) (d.1 (a + 7)) (d.1 (a + 8)) p (q_cod (q_dig G (s.2.1 i))) else b) (i + 1) 0 = if q_it (fun i b => if b < f_X3_wealth (d.1 a) (d.1 (a + 7)) (d.1 (a + 8)) p (q_cod (q_dig G (s.2.1 i))) then f_X3_wealth (d.1 a) (d.1 (a + 7)) (d.1 (a + 8)) p (q_cod (q_dig G (s.2.1 i))) else b) i 0 < f_X3_wealth (d.1 a) (d.1 (a + 7)) (d.1 (a + 8)) p (q_cod (q_dig G (s.2.1 i))) then f_X3_wealth (d.1 a) (d.1 (a + 7)) (d.1 (a + 8)) p (q_cod (q_dig G (s.2.1 i))) else q_it (fun i b => if b < f_X3_wealth (d.1 a) (d.1 (a + 7)) (d.1 (a + 8)) p (q_cod (q_dig G (s.2.1 i))) then f_X3_wealth (d.1 a) (d.1 (a + 7)) (d.1 (a + 8)) p (q_cod (q_dig G (s.2.1 i))) else b) i 0 := rfl
    rw [st]
    obtain ⟨E1, hE1, l1, l2⟩ := q_hasE hL h68 et hs hE (show i < s.1 by omega) p
    generalize q_it (fun i b => if b < f_X3_wealth (d.1 a) (d.1 (a + 7)) (d.1 (a + 8)) p (q_cod (q_dig G (s.2.1 i))) then f_X3_wealth (d.1 a) (d.1 (a + 7)) (d.1 (a + 8)) p (q_cod (q_dig G (s.2.1 i))) else b) i 0 = bb
    generalize f_X3_wealth (d.1 a) (d.1 (a + 7)) (d.1 (a + 8)) p (q_cod (q_dig G (s.2.1 i))) = ww at l2
    have k2 := q_go (n := s.1) (i := i) (by omega) (by omega)
    have ho : ¬ j_out (Int32.ofNat i) 729 := q_in (by omega) (by decide)
    obtain ⟨y1, y2⟩ := f63 E hE i (by omega)
    have ule : Int32.ofNat (s.2.2.2.2 i) ≤ u := Classical.not_not.mp (fun y => h1 i hi (q_nle.mp y))
    unfold f_X13_mostBy_w44 f_X13_mostBy_j98_44
    dsimp only
    rw [hE.2.2.1, if_neg k2, if_neg ho, if_neg y2, y1, if_pos ule, if_neg ho, l1, Option.bind_some, l2, Option.bind_some, Option.bind_some, q_s]
    by_cases c : bb < ww
    · rw [if_neg (fun y => q_nle.mpr c y), if_pos c]
      exact ⟨_, rfl, rfl, rfl, hE1⟩
    · rw [if_pos (Classical.not_not.mp (fun y => c (q_nle.mp y))), if_neg c]
      exact ⟨_, rfl, rfl, rfl, hE1⟩) (by
    intro v hv
    obtain ⟨v1, v2, E⟩ := v
    obtain ⟨e1, e2, hE⟩ := hv
    dsimp only at e1 e2 hE
    subst e1 e2
    unfold f_X13_mostBy_w44
    dsimp only
    rw [hE.2.2.1]
    rcases h2 with z | ⟨z1, z2⟩
    · rw [← z, if_pos (q_end (by omega))]
      exact ⟨_, rfl, rfl, hE⟩
    · have ho : ¬ j_out (Int32.ofNat J) 729 := q_in (by omega) (by decide)
      obtain ⟨y1, y2⟩ := f63 E hE J z1
      rw [if_neg (q_go (by omega) z1), if_neg ho, if_neg y2, y1, if_neg (fun y => q_nle.mpr z2 y)]
      exact ⟨_, rfl, rfl, hE⟩) (t := (0, 0, D)) ⟨rfl, rfl, hD⟩
  obtain ⟨e1, e2⟩ := e
  dsimp only at k2
  exact ⟨e2, by rw [k1, k2.1], k2.2⟩
end QE
theorem q_15 : lw_st_15 (q_R q_K0) := by
  intro h p u r hz
  obtain ⟨g, d⟩ := h
  have hr := r
  obtain ⟨a, b, hg, ht, -, hk, hl⟩ := r
  rcases hl with ⟨hla, hn⟩ | ⟨t, h68, hla, hts, G, P, F, W, L, hL, hN, -⟩
  · obtain ⟨x, w, d2, e1, e2, e3⟩ := qn_movesFor (a := a) (d := d) hn p u
    exact q_stI hr (q_jP (s_X11_movesFor g d a p u hg.2.1 hg.2.2.1 hg.2.2.2.2.1) e1) (q_jT (s_X13_movesForn g _ p u hg.2.1 hla) e2) (hr.ans q_K0ok e3)
  · dsimp only at hk hL hN
    have hG := hL.1.1.2.1
    have pw := q_pw43 ⟨G, by omega⟩
    dsimp only at pw
    have ip : f_X13_isPerson (d.1 t) p = f_X11_isPerson (d.1 a) p := q_isp (A := q_rows d a) (T := q_rows d t) hL p
    have im : f_X13_in u 0 599 = f_X11_isMuch u := rfl
    have e0 : ∀ w, (q_dM d w).1 t = d.1 t := fun w => q_dM_o (by omega) (by omega)
    cases h1 : f_X11_isPerson (d.1 a) p with
    | false =>
      refine q_stI hr (q_jP (s_X11_movesFor g d a p u hg.2.1 hg.2.2.1 hg.2.2.2.2.1) (x := -1) (d1 := j_sI d 0 11 1) ?_) (q_jP (s_X13_movesFor g _ t p u hg.2.1 hts hla) (d1 := q_fin (q_dM d 1) 1) ?_) (hr.ans q_K0ok (q_ansd d (by decide)))
      · unfold f_X11_movesFor j_let
        rw [h1, if_neg (by decide), q_xre]
      · unfold f_X13_movesFor f_X13_refusesMuch j_let
        rw [q_dMe, e0, ip, h1]
        rfl
    | true =>
      cases h2 : f_X11_isMuch u with
      | false =>
        refine q_stI hr (q_jP (s_X11_movesFor g d a p u hg.2.1 hg.2.2.1 hg.2.2.2.2.1) (x := -1) (d1 := j_sI d 0 11 2) ?_) (q_jP (s_X13_movesFor g _ t p u hg.2.1 hts hla) (d1 := q_fin (q_dM d 2) 2) ?_) (hr.ans q_K0ok (q_ansd d (by decide)))
        · unfold f_X11_movesFor j_let
          rw [h1, if_pos rfl, h2, if_neg (by decide), q_xre]
        · unfold f_X13_movesFor f_X13_refusesMuch j_let
          rw [q_dMe, e0, ip, h1, im, h2]
          rfl
      | true =>
        obtain ⟨d1, s, D, c1, rr, c2, si, m1, m2, co⟩ := q_errs hr hg h68 hL hN hk
        have hle := si.le
        have e1' : (q_dM d1 0).1 t = d.1 t := (q_dM_o (by omega) (by omega)).trans (co t (by omega))
        obtain ⟨f1, f2⟩ := q_fwwC (d1 := d1) hL si c2 (fun j hj => co _ (by rcases hg.a with z | z <;> omega)) p u
        obtain ⟨g1, g2⟩ := q_mfM (B := q_dM d1 0) hL h68 (fun j => by rw [q_dM_o (by omega) (by omega), co _ (by omega)]) si m2 p u
        rcases q_least (p := fun i => f_X3_wealth (d.1 a) (d.1 (a + 7)) (d.1 (a + 8)) p (q_cod (q_dig G (s.2.1 i))) < u) s.1 with hall | ⟨j, hj, hnj, hlt⟩
        · have fe := f1 hall
          obtain ⟨E, ge, gm⟩ := g1 hall
          obtain ⟨s1, s2⟩ := q_MRsm gm
          refine q_stI hr (q_jP (s_X11_movesFor g d a p u hg.2.1 hg.2.2.1 hg.2.2.2.2.1) (x := -2) (d1 := j_sI d1 0 11 0) ?_) (q_jP (s_X13_movesFor g _ t p u hg.2.1 hts hla) (d1 := q_fin E 0) ?_) (rr.ans q_K0ok (q_fin_ans s1 s2 (by decide)))
          · unfold f_X11_movesFor f_X11_movesFor_j78 j_let
            rw [h1, if_pos rfl, h2, if_pos rfl, c1, Option.bind_some]
            dsimp only
            rw [fe, if_pos rfl]
            rfl
          · have rm : f_X13_refusesMuch (j_b (f_X13_isPerson (d.1 t) p)) u = 0 := by
              unfold f_X13_refusesMuch
              rw [ip, h1, im, h2]
              rfl
            unfold f_X13_movesFor j_let
            rw [q_dMe, e1', rm]
            dsimp only
            rw [if_pos (by decide), m1, Option.bind_some, ge, Option.bind_some]
            rfl
        · have fe := f2 j hj hnj hlt
          obtain ⟨E, ge, gm⟩ := g2 j hj hnj hlt
          obtain ⟨s1, s2⟩ := q_MRsm gm
          refine q_stI hr (q_jP (s_X11_movesFor g d a p u hg.2.1 hg.2.2.1 hg.2.2.2.2.1) (x := Int32.ofNat (s.2.2.2.2 j)) (d1 := j_sI d1 0 11 0) ?_) (q_jP (s_X13_movesFor g _ t p u hg.2.1 hts hla) (d1 := q_fin E 0) ?_) (rr.ans q_K0ok (q_fin_ans s1 s2 (by decide)))
          · unfold f_X11_movesFor f_X11_movesFor_j78 f_X1_movesTo j_let
            rw [h1, if_pos rfl, h2, if_pos rfl, c1, Option.bind_some]
            dsimp only
            rw [fe, if_neg (q_nem1 (by omega)), q_at (by omega) (by decide), (c2.2 j hj).2.1]
            rfl
          · have rm : f_X13_refusesMuch (j_b (f_X13_isPerson (d.1 t) p)) u = 0 := by
              unfold f_X13_refusesMuch
              rw [ip, h1, im, h2]
              rfl
            unfold f_X13_movesFor j_let
            rw [q_dMe, e1', rm]
            dsimp only
            rw [if_pos (by decide), m1, Option.bind_some, ge, Option.bind_some]
            rfl
theorem q_16 : lw_st_16 (q_R q_K0) := by
  intro h p u r hz
  obtain ⟨g, d⟩ := h
  have hr := r
  obtain ⟨a, b, hg, ht, -, hk, hl⟩ := r
  rcases hl with ⟨hla, hn⟩ | ⟨t, h68, hla, hts, G, P, F, W, L, hL, hN, -⟩
  · obtain ⟨x, w, d2, e1, e2, e3⟩ := qn_mostBy (a := a) (d := d) hn p u
    exact q_stI hr (q_jP (s_X11_mostBy g d a p u hg.2.1 hg.2.2.1 hg.2.2.2.2.1) e1) (q_jT (s_X13_mostByn g _ p u hg.2.1 hla) e2) (hr.ans q_K0ok e3)
  · dsimp only at hk hL hN
    have hG := hL.1.1.2.1
    have pw := q_pw43 ⟨G, by omega⟩
    dsimp only at pw
    have ip : f_X13_isPerson (d.1 t) p = f_X11_isPerson (d.1 a) p := q_isp (A := q_rows d a) (T := q_rows d t) hL p
    have e0 : ∀ w, (q_dM d w).1 t = d.1 t := fun w => q_dM_o (by omega) (by omega)
    cases h1 : f_X11_isPerson (d.1 a) p with
    | false =>
      refine q_stI hr (q_jP (s_X11_mostBy g d a p u hg.2.1 hg.2.2.1 hg.2.2.2.2.1) (x := -1) (d1 := j_sI d 0 11 1) ?_) (q_jP (s_X13_mostBy g _ t p u hg.2.1 hts hla) (d1 := q_fin (q_dM d 1) 1) ?_) (hr.ans q_K0ok (q_ansd d (by decide)))
      · unfold f_X11_mostBy j_let
        rw [h1, if_neg (by decide), q_xre]
      · unfold f_X13_mostBy j_let
        rw [q_dMe, e0, ip, h1, if_neg (by decide), q_ref]
    | true =>
      by_cases hu : u < 0 ∨ ¬ (u ≤ 20)
      · have inf : f_X13_in u 0 20 = false := by
          unfold f_X13_in
          rcases hu with y | y
          · rw [if_pos y]
          · rw [if_pos (q_nle.mp y), ite_self]
        refine q_stI hr (q_jP (s_X11_mostBy g d a p u hg.2.1 hg.2.2.1 hg.2.2.2.2.1) (x := -1) (d1 := j_sI d 0 11 2) ?_) (q_jP (s_X13_mostBy g _ t p u hg.2.1 hts hla) (d1 := q_fin (q_dM d 2) 2) ?_) (hr.ans q_K0ok (q_ansd d (by decide)))
        · unfold f_X11_mostBy f_X11_mostBy_j24 j_let
          rw [h1, if_pos rfl]
          rcases hu with y | y
          · rw [if_pos y, q_xre]
          · rw [if_neg y, ite_self, q_xre]
        · unfold f_X13_mostBy j_let
          rw [q_dMe, e0, ip, h1, if_pos rfl, inf, if_neg (by decide), q_ref]
      · have u0 : ¬ (u < 0) := fun y => hu (Or.inl y)
        have u1 : u ≤ 20 := Classical.not_not.mp (fun y => hu (Or.inr y))
        have int : f_X13_in u 0 20 = true := by
          unfold f_X13_in
          rw [if_neg u0, if_neg (fun y => q_nle.mpr y u1)]
        obtain ⟨d1, s, D, c1, rr, c2, si, m1, m2, co⟩ := q_errs hr hg h68 hL hN hk
        have hle := si.le
        have e1' : (q_dM d1 0).1 t = d.1 t := (q_dM_o (by omega) (by omega)).trans (co t (by omega))
        have key : ∃ J, J ≤ s.1 ∧ (∀ i, i < J → ¬ (u < Int32.ofNat (s.2.2.2.2 i))) ∧ (J = s.1 ∨ (J < s.1 ∧ u < Int32.ofNat (s.2.2.2.2 J))) := by
          rcases q_least (p := fun i => ¬ (u < Int32.ofNat (s.2.2.2.2 i))) s.1 with hall | ⟨j, hj, hnj, hlt⟩
          · exact ⟨s.1, Nat.le_refl _, hall, Or.inl rfl⟩
          · exact ⟨j, by omega, hlt, Or.inr ⟨hj, Classical.not_not.mp hnj⟩⟩
        obtain ⟨J, j1, j2, j3⟩ := key
        have fe := q_mbC (d1 := d1) hL si c2 (fun j hj => co _ (by rcases hg.a with z | z <;> omega)) p u j1 j2 j3
        obtain ⟨E, ge, gm⟩ := q_mbM (B := q_dM d1 0) hL h68 (fun j => by rw [q_dM_o (by omega) (by omega), co _ (by omega)]) si m2 p u j1 j2 j3
        obtain ⟨s1, s2⟩ := q_MRsm gm
        generalize q_it (fun i b => if b < f_X3_wealth (d.1 a) (d.1 (a + 7)) (d.1 (a + 8)) p (q_cod (q_dig G (s.2.1 i))) then f_X3_wealth (d.1 a) (d.1 (a + 7)) (d.1 (a + 8)) p (q_cod (q_dig G (s.2.1 i))) else b) J 0 = xx at fe ge
        refine q_stI hr (q_jP (s_X11_mostBy g d a p u hg.2.1 hg.2.2.1 hg.2.2.2.2.1) (x := xx) (d1 := j_sI d1 0 11 0) ?_) (q_jP (s_X13_mostBy g _ t p u hg.2.1 hts hla) (d1 := q_fin E 0) ?_) (rr.ans q_K0ok (q_fin_ans s1 s2 (by decide)))
        · unfold f_X11_mostBy j_let
          rw [h1, if_pos rfl, if_neg u0, if_pos u1, c1, Option.bind_some, fe, Option.bind_some]
          rfl
        · unfold f_X13_mostBy j_let
          rw [q_dMe, e1', ip, h1, if_pos rfl, int, if_pos rfl, m1, Option.bind_some, ge, Option.bind_some, q_good]
