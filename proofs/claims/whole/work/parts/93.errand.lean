/-! tier two: errand, errandAt -/
section QX
variable {G P F W L : Nat} {A T : Nat → Nat → Int32}
theorem q_met_c (h : q_LR G P F W L A T) {x x' : Nat → Int32} (hx : ∀ k, k < G → x k = x' k) : f_X13_metNow x (T 0) (T 1) (T 2) (T 3) (T 4) (T 8) (T 9) = f_X13_metNow x' (T 0) (T 1) (T 2) (T 3) (T 4) (T 8) (T 9) := by
  have hG := h.1.1.2.1
  have hW := h.1.1.2.2.2.2.1
  have e6 := h.1.2.2.2.2.1.2
  unfold f_X13_metNow
  rw [q_wh_congr (F := f_X13_metNow_w4 x (T 0) (T 1) (T 2) (T 3) (T 4) (T 8) (T 9)) (F' := f_X13_metNow_w4 x' (T 0) (T 1) (T 2) (T 3) (T 4) (T 8) (T 9)) (Q := fun s => ∃ n, n ≤ W ∧ s.2 = Int32.ofNat n) (fun s hs => by
    obtain ⟨n, hn, e⟩ := hs
    obtain ⟨s1, s2⟩ := s
    dsimp only at e
    subst e
    unfold f_X13_metNow_w4 f_X13_metNow_j31_4
    dsimp only
    by_cases z : n = W
    · rw [z, e6, if_pos (q_end (by omega)), if_pos (q_end (by omega))]
      exact ⟨rfl, fun s' u => by cases u⟩
    · have k2 := q_go (n := W) (i := n) (by omega) (by omega)
      obtain ⟨r1, r2, r3, -, ⟨g, hg, r5⟩⟩ := h.2.1.2.2.1 n (by omega)
      have kn : (Int32.ofNat n).toNatClampNeg = n := q_n (by omega)
      have t9 : T 9 (Int32.ofNat n).toNatClampNeg = Int32.ofNat g := by rw [kn, r2, r5]
      have hxn : x (Int32.ofNat g).toNatClampNeg = x' (Int32.ofNat g).toNatClampNeg := by rw [q_n (by omega)]; exact hx g (by omega)
      have ow : f_X13_owners x (T 1) (T 2) (T 3) (T 4) (Int32.ofNat g) = f_X13_owners x' (T 1) (T 2) (T 3) (T 4) (Int32.ofNat g) := by
        unfold f_X13_owners
        rw [hxn]
      have im : f_X13_isMet x (T 0) (T 1) (T 2) (T 3) (T 4) (T 8) (T 9) (Int32.ofNat n) = f_X13_isMet x' (T 0) (T 1) (T 2) (T 3) (T 4) (T 8) (T 9) (Int32.ofNat n) := by
        unfold f_X13_isMet
        rw [t9, ow]
      rw [e6, if_neg k2, if_neg k2, im]
      refine ⟨rfl, fun s' u => ?_⟩
      cases v : f_X13_isMet x' (T 0) (T 1) (T 2) (T 3) (T 4) (T 8) (T 9) (Int32.ofNat n) with
      | none => rw [v] at u; cases u
      | some r =>
        rw [v, Option.bind_some] at u
        split at u
        · have u' := Sum.inl.inj (Option.some.inj u)
          rw [← u']
          exact ⟨n + 1, by omega, q_s n⟩
        · have u' := Sum.inl.inj (Option.some.inj u)
          rw [← u']
          exact ⟨n + 1, by omega, q_s n⟩) j_fuel (0, 0) ⟨0, by omega, rfl⟩]
theorem q_or16 : ∀ i : Fin 4, ∀ m : Fin 16, m.val < 2 ^ i.val → Int32.ofNat m.val ||| ((1 : Int32) <<< (Int32.ofNat i.val &&& 31)) = Int32.ofNat (m.val + 2 ^ i.val) := by decide +kernel
theorem q_wm (h : q_LR G P F W L A T) (w : Int32) : ∃ m, m < 2 ^ W ∧ f_X0_wantsMet (A 7) (A 9) (A 10) (A 11) (A 12) w = Int32.ofNat m := by
  have hW := h.1.1.2.2.2.2.1
  unfold f_X0_wantsMet j_let
  rw [h.1.2.2.2.2.1.1, q_for _ (by omega)]
  dsimp only
  have : ∀ n, n ≤ W → ∃ m, m < 2 ^ n ∧ q_it (fun i s => f_X0_wantsMet_b5 (A 7) (A 9) (A 10) (A 11) (A 12) w (Int32.ofNat i) s) n 0 = Int32.ofNat m := by
    intro n
    induction n with
    | zero => exact fun _ => ⟨0, by decide, rfl⟩
    | succ n ih =>
      intro hn
      obtain ⟨m, m1, m2⟩ := ih (by omega)
      have p2 : 2 ^ (n + 1) = 2 ^ n + 2 ^ n := by rw [Nat.pow_succ]; omega
      have p3 : 2 ^ n ≤ 8 := by
        match n, hn with
        | 0, _ => decide
        | 1, _ => decide
        | 2, _ => decide
        | 3, _ => decide
        | z + 4, h => exact absurd h (by omega)
      have o := q_or16 ⟨n, by omega⟩ ⟨m, by omega⟩ m1
      dsimp only at o
      show ∃ m, m < 2 ^ (n + 1) ∧ f_X0_wantsMet_b5 (A 7) (A 9) (A 10) (A 11) (A 12) w (Int32.ofNat n) (q_it (fun i s => f_X0_wantsMet_b5 (A 7) (A 9) (A 10) (A 11) (A 12) w (Int32.ofNat i) s) n 0) = Int32.ofNat m
      rw [m2]
      unfold f_X0_wantsMet_b5 f_X0_wantsMet_j76_5 f_X0_wantsMet_j83_5 j_let
      have y : ∃ m', m' < 2 ^ (n + 1) ∧ Int32.ofNat m ||| ((1 : Int32) <<< (Int32.ofNat n &&& 31)) = Int32.ofNat m' := ⟨_, by omega, o⟩
      have z : ∃ m', m' < 2 ^ (n + 1) ∧ Int32.ofNat m = Int32.ofNat m' := ⟨m, by omega, rfl⟩
      dsimp only
      split
      · split
        · exact y
        · exact z
      · split
        · exact y
        · exact z
  exact this W (Nat.le_refl _)
theorem q_fulw : ∀ W : Fin 5, ∀ m : Fin 16, m.val < 2 ^ W.val → (Int32.ofNat (q_pc m.val) = Int32.ofNat W.val ↔ Int32.ofNat m.val = ((1 : Int32) <<< (Int32.ofNat W.val &&& 31)) - 1) := by decide +kernel
end QX
/-- the ways that meet all wants -/
def q_hit (A : Nat → Nat → Int32) (G W c : Nat) : Prop := f_X0_wantsMet (A 7) (A 9) (A 10) (A 11) (A 12) (q_cod (q_dig G c)) = ((1 : Int32) <<< (Int32.ofNat W &&& 31)) - 1
section QE
variable {G P F W L a t : Nat} {d d1 B : JD} {s : q_S}
theorem q_fmwC (hL : q_LR G P F W L (q_rows d a) (q_rows d t)) (hs : q_SI (3 ^ G) (4 * G) s) (hc : q_eqB G s (d1.1 32 6) (d1.1 33) (d1.1 34) (d1.1 35) (d1.1 36)) (ha : ∀ j, j < 15 → d1.1 (a + j) = d.1 (a + j)) : ((∀ i, i < s.1 → ¬ q_hit (q_rows d a) G W (s.2.1 i)) → f_X1_firstMeetingWants (d1.1 32) (d1.1 33) (d1.1 (a + 7)) (d1.1 (a + 9)) (d1.1 (a + 10)) (d1.1 (a + 11)) (d1.1 (a + 12)) = -1) ∧ ∀ j, j < s.1 → q_hit (q_rows d a) G W (s.2.1 j) → (∀ i, i < j → ¬ q_hit (q_rows d a) G W (s.2.1 i)) → f_X1_firstMeetingWants (d1.1 32) (d1.1 33) (d1.1 (a + 7)) (d1.1 (a + 9)) (d1.1 (a + 10)) (d1.1 (a + 11)) (d1.1 (a + 12)) = Int32.ofNat j := by
  have hG := hL.1.1.2.1
  have pw := q_pw43 ⟨G, by omega⟩
  dsimp only at pw
  have hle := hs.le
  have w0 : d.1 (a + 9) 0 = Int32.ofNat W := hL.1.2.2.2.2.1.1
  rw [ha 7 (by decide), ha 9 (by decide), ha 10 (by decide), ha 11 (by decide), ha 12 (by decide)]
  unfold f_X1_firstMeetingWants j_let
  rw [hc.1, w0]
  have ev : ∀ i, i < s.1 → f_X11_at (d1.1 33) 729 (Int32.ofNat i) = q_cod (q_dig G (s.2.1 i)) := fun i hi => by
    rw [q_at (by omega) (by decide), (hc.2 i hi).1]
  refine ⟨fun h => ?_, fun j hj h1 h2 => ?_⟩
  · rw [q_fo_miss (fun _ => ()) (by omega) (fun i hi => by
      unfold f_X1_firstMeetingWants_b14
      rw [ev i hi]
      exact if_neg (h i hi))]
    rfl
  · rw [q_fo_hit (fun _ => ()) (by omega) hj (r := Int32.ofNat j) (fun i hi => by
      unfold f_X1_firstMeetingWants_b14
      rw [ev i (by omega)]
      exact if_neg (h2 i hi)) (by
      unfold f_X1_firstMeetingWants_b14
      rw [ev j hj]
      exact if_pos h1)]
    rfl
theorem q_endS (hL : q_LR G P F W L (q_rows d a) (q_rows d t)) (h68 : 68 ≤ t) (et : ∀ j, B.1 (t + j) = d.1 (t + j)) (hs : q_SI (3 ^ G) (4 * G) s) {E : JD} (hE : q_MR (3 ^ G) B E s) {i : Nat} (hi : i < s.1) : ∃ E1, q_MR (3 ^ G) B E1 s ∧ (¬ q_hit (q_rows d a) G W (s.2.1 i) → f_X13_errandEnd_w6 t (Int32.ofNat i, E) = some (.inl (Int32.ofNat (i + 1), E1))) ∧ (q_hit (q_rows d a) G W (s.2.1 i) → f_X13_errandEnd_w6 t (Int32.ofNat i, E) = some (.inr (.inl (Int32.ofNat (s.2.1 i), E1)))) := by
  have hG1 := hL.1.1.1
  have hG := hL.1.1.2.1
  have hW := hL.1.1.2.2.2.2.1
  have e4' : d.1 t 4 = Int32.ofNat G := hL.1.2.1.2
  have e6 : d.1 t 6 = Int32.ofNat W := hL.1.2.2.2.2.1.2
  have pw := q_pw43 ⟨G, by omega⟩
  dsimp only at pw
  have hle := hs.le
  have hwi := hs.way i hi
  have Et : ∀ j, E.1 (t + j) = d.1 (t + j) := fun j => (hE.1 _ (by omega) (by omega) (by omega) (by omega) (by omega)).trans (et j)
  have Et0 : E.1 t = d.1 t := Et 0
  obtain ⟨E1, l1, l2, l3, -⟩ := q_laysM (D := E) h68 hG1 hG (by rw [Et0, e4']) (c := s.2.1 i) (by omega)
  have hE1 := hE.o60 l2
  have E1t : ∀ j, E1.1 (t + j) = d.1 (t + j) := fun j => (l2 _ (by omega)).trans (Et j)
  have E1t0 : E1.1 t = d.1 t := E1t 0
  have ho : ¬ j_out (Int32.ofNat i) 729 := q_in (by omega) (by decide)
  have hn : (Int32.ofNat i).toNatClampNeg = i := q_n (by omega)
  have l1' : f_X13_lays t E (E.1 65 (Int32.ofNat i).toNatClampNeg) = some E1 := by rw [hn, hE.2.2.2.1 i hi, l1]
  have h65 : E1.1 65 (Int32.ofNat i).toNatClampNeg = Int32.ofNat (s.2.1 i) := by rw [hn, hE1.2.2.2.1 i hi]
  have k2 := q_go (n := s.1) (by omega) hi
  obtain ⟨m, m1, m2⟩ := q_wm (A := q_rows d a) (T := q_rows d t) hL (q_cod (q_dig G (s.2.1 i)))
  have mt : f_X13_metNow (E1.1 60) (E1.1 t) (E1.1 (t + 1)) (E1.1 (t + 2)) (E1.1 (t + 3)) (E1.1 (t + 4)) (E1.1 (t + 8)) (E1.1 (t + 9)) = some (Int32.ofNat m) := by
    rw [E1t0, E1t 1, E1t 2, E1t 3, E1t 4, E1t 8, E1t 9, ← m2]
    exact (q_met_c (A := q_rows d a) (T := q_rows d t) hL l3).trans (q_metM (A := q_rows d a) (T := q_rows d t) hL (q_dig_WY G (s.2.1 i)).1)
  have p16 : 2 ^ W ≤ 16 := by
    match W, hW with
    | 0, _ => decide
    | 1, _ => decide
    | 2, _ => decide
    | 3, _ => decide
    | 4, _ => decide
    | z + 5, h => exact absurd h (by omega)
  have bt := q_bits (m := m) (by omega)
  have fl := q_fulw ⟨W, by omega⟩ ⟨m, by omega⟩ m1
  dsimp only at fl
  have hh : q_hit (q_rows d a) G W (s.2.1 i) ↔ Int32.ofNat (q_pc m) = Int32.ofNat W := by
    unfold q_hit
    rw [m2]
    exact fl.symm
  refine ⟨E1, hE1, fun c => ?_, fun c => ?_⟩
  · unfold f_X13_errandEnd_w6
    dsimp only
    rw [hE.2.2.1, if_neg k2, if_neg ho, l1', Option.bind_some, mt, Option.bind_some, bt, Option.bind_some, E1t0, e6, if_neg (fun y => c (hh.mpr y)), q_s]
  · unfold f_X13_errandEnd_w6
    dsimp only
    rw [hE.2.2.1, if_neg k2, if_neg ho, l1', Option.bind_some, mt, Option.bind_some, bt, Option.bind_some, E1t0, e6, if_pos (hh.mp c), if_neg ho, h65]
theorem q_endM (hL : q_LR G P F W L (q_rows d a) (q_rows d t)) (h68 : 68 ≤ t) (et : ∀ j, B.1 (t + j) = d.1 (t + j)) (hs : q_SI (3 ^ G) (4 * G) s) {D : JD} (hr : f_X13_reaches t B = some D) (hD : q_MR (3 ^ G) B D s) : ((∀ i, i < s.1 → ¬ q_hit (q_rows d a) G W (s.2.1 i)) → ∃ E, f_X13_errandEnd t B = some (-1, E) ∧ q_MR (3 ^ G) B E s) ∧ ∀ j, j < s.1 → q_hit (q_rows d a) G W (s.2.1 j) → (∀ i, i < j → ¬ q_hit (q_rows d a) G W (s.2.1 i)) → ∃ E, f_X13_errandEnd t B = some (Int32.ofNat (s.2.1 j), E) ∧ q_MR (3 ^ G) B E s := by
  have hG := hL.1.1.2.1
  have pw := q_pw43 ⟨G, by omega⟩
  dsimp only at pw
  have hle := hs.le
  have step : ∀ n, n ≤ s.1 → (∀ i, i < n → ¬ q_hit (q_rows d a) G W (s.2.1 i)) → ∀ i, i < n → ∀ u : Int32 × JD, (u.1 = Int32.ofNat i ∧ q_MR (3 ^ G) B u.2 s) → ∃ u', f_X13_errandEnd_w6 t u = some (.inl u') ∧ (u'.1 = Int32.ofNat (i + 1) ∧ q_MR (3 ^ G) B u'.2 s) := by
    intro n hn h i hi u hu
    obtain ⟨u1, E⟩ := u
    obtain ⟨e1, hE⟩ := hu
    dsimp only at e1 hE
    subst e1
    obtain ⟨E1, x1, x2, -⟩ := q_endS hL h68 et hs hE (i := i) (by omega)
    exact ⟨_, x2 (h i hi), rfl, x1⟩
  refine ⟨fun h => ?_, fun j hj h1 h2 => ?_⟩
  · obtain ⟨e, k1, k2⟩ := q_inv (F := f_X13_errandEnd_w6 t) (τ := fun i (u : Int32 × JD) => u.1 = Int32.ofNat i ∧ q_MR (3 ^ G) B u.2 s) (ρ := fun e => ∃ E, e = .inr E ∧ q_MR (3 ^ G) B E s) (n := s.1) (by omega) (step s.1 (Nat.le_refl _) h) (by
      intro u hu
      obtain ⟨u1, E⟩ := u
      obtain ⟨e1, hE⟩ := hu
      dsimp only at e1 hE
      subst e1
      unfold f_X13_errandEnd_w6
      dsimp only
      rw [hE.2.2.1, if_pos (q_end (by omega))]
      exact ⟨_, rfl, E, rfl, hE⟩) (t := (0, D)) ⟨rfl, hD⟩
    obtain ⟨E, rfl, hE⟩ := k2
    refine ⟨E, ?_, hE⟩
    unfold f_X13_errandEnd
    rw [hr, Option.bind_some, k1, Option.bind_some]
    rfl
  · obtain ⟨e, k1, k2⟩ := q_inv (F := f_X13_errandEnd_w6 t) (τ := fun i (u : Int32 × JD) => u.1 = Int32.ofNat i ∧ q_MR (3 ^ G) B u.2 s) (ρ := fun e => ∃ E, e = .inl (Int32.ofNat (s.2.1 j), E) ∧ q_MR (3 ^ G) B E s) (n := j) (by omega) (step j (by omega) h2) (by
      intro u hu
      obtain ⟨u1, E⟩ := u
      obtain ⟨e1, hE⟩ := hu
      dsimp only at e1 hE
      subst e1
      obtain ⟨E1, x1, -, x3⟩ := q_endS hL h68 et hs hE hj
      exact ⟨_, x3 h1, E1, rfl, x1⟩) (t := (0, D)) ⟨rfl, hD⟩
    obtain ⟨E, rfl, hE⟩ := k2
    refine ⟨E, ?_, hE⟩
    unfold f_X13_errandEnd
    rw [hr, Option.bind_some, k1, Option.bind_some]
    rfl
end QE
theorem q_12 : lw_st_12 (q_R q_K0) := by
  intro h r hz
  obtain ⟨g, d⟩ := h
  have hr := r
  obtain ⟨a, b, hg, ht, -, hk, hl⟩ := r
  rcases hl with ⟨hla, hn⟩ | ⟨t, h68, hla, hts, G, P, F, W, L, hL, hN, -⟩
  · obtain ⟨x, w, d2, e1, e2, e3⟩ := qn_errand (a := a) (d := d) hn
    exact q_stI hr (q_jP (s_X11_errand g d a hg.2.1 hg.2.2.1 hg.2.2.2.2.1) e1) (q_jT (s_X13_errandn g _ hg.2.1 hla) e2) (hr.ans q_K0ok e3)
  · dsimp only at hk hL hN
    have hG := hL.1.1.2.1
    have pw := q_pw43 ⟨G, by omega⟩
    dsimp only at pw
    have k1 : f_X11_hasLand (d.1 a) = true := q_hl1 (A := q_rows d a) (T := q_rows d t) hL
    obtain ⟨d1, s, D, c1, rr, c2, si, m1, m2, co⟩ := q_errs hr hg h68 hL hN hk
    have hle := si.le
    obtain ⟨f1, f2⟩ := q_fmwC (d1 := d1) hL si c2 (fun j hj => co _ (by rcases hg.a with z | z <;> omega))
    obtain ⟨g1, g2⟩ := q_endM (B := q_dM d1 0) hL h68 (fun j => by rw [q_dM_o (by omega) (by omega), co _ (by omega)]) si m1 m2
    rcases q_least (p := fun i => ¬ q_hit (q_rows d a) G W (s.2.1 i)) s.1 with hall | ⟨j, hj, hnj, hlt⟩
    · have fe := f1 hall
      obtain ⟨E, ge, gm⟩ := g1 hall
      obtain ⟨s1, s2⟩ := q_MRsm gm
      refine q_stI hr (q_jP (s_X11_errand g d a hg.2.1 hg.2.2.1 hg.2.2.2.2.1) (x := -2) (d1 := j_sI d1 0 11 0) ?_) (q_jP (s_X13_errand g _ t hg.2.1 hts hla) (d1 := q_fin E 0) ?_) (rr.ans q_K0ok (q_fin_ans s1 s2 (by decide)))
      · unfold f_X11_errand f_X11_errand_j62 j_let
        rw [if_pos k1, c1, Option.bind_some]
        dsimp only
        rw [fe, if_pos rfl]
        rfl
      · unfold f_X13_errand f_X13_errand_j40 j_let
        rw [q_dMe, ge, Option.bind_some]
        dsimp only
        rw [if_pos rfl, q_good]
    · have hnj := Classical.not_not.mp hnj
      have fe := f2 j hj hnj hlt
      obtain ⟨E, ge, gm⟩ := g2 j hj hnj hlt
      obtain ⟨s1, s2⟩ := q_MRsm gm
      have hw := si.way j hj
      refine q_stI hr (q_jP (s_X11_errand g d a hg.2.1 hg.2.2.1 hg.2.2.2.2.1) (x := Int32.ofNat (s.2.2.2.2 j)) (d1 := j_sI d1 0 11 0) ?_) (q_jP (s_X13_errand g _ t hg.2.1 hts hla) (d1 := q_fin E 0) ?_) (rr.ans q_K0ok (q_fin_ans s1 s2 (by decide)))
      · unfold f_X11_errand f_X11_errand_j62 f_X1_movesTo j_let
        rw [if_pos k1, c1, Option.bind_some]
        dsimp only
        rw [fe, if_neg (q_nem1 (by omega)), q_at (by omega) (by decide), (c2.2 j hj).2.1]
        rfl
      · unfold f_X13_errand f_X13_errand_j40 j_let
        rw [q_dMe, ge, Option.bind_some]
        dsimp only
        rw [if_neg (q_nem1 (by omega)), if_neg (q_in (i := s.2.1 j) (n := 729) (by omega) (by decide)), q_n (by omega), gm.2.2.2.2.2.1 j hj, q_good]
