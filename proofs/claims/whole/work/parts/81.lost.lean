/-! tier two: the calls on lost ones -/
theorem q_KE_c {A A' C C' : Nat → Nat → Int32} (a0 : A' 0 = A 0) (hC : ∀ j, j < 5 → C' j = C j) (h : q_KE A C) : q_KE A' C' := by
  unfold q_KE at h ⊢
  rw [hC 0 (by decide), hC 1 (by decide), hC 2 (by decide), hC 3 (by decide), hC 4 (by decide), a0]
  exact h
theorem q_ft_c {A A' : Nat → Nat → Int32} (hA : ∀ j, j < 15 → A' j = A j) (L : Nat) : q_ft A' L = q_ft A L := by
  funext c
  unfold q_ft
  rw [hA 0 (by decide), hA 7 (by decide), hA 8 (by decide), hA 13 (by decide), hA 14 (by decide)]
theorem q_sv_c {A A' : Nat → Nat → Int32} (hA : ∀ j, j < 15 → A' j = A j) (G : Nat) : q_sv A' G = q_sv A G := by
  have s1 : q_sv1 A' = q_sv1 A := by
    funext w s
    unfold q_sv1
    rw [hA 0 (by decide), hA 7 (by decide), hA 8 (by decide)]
  funext n
  unfold q_sv q_svb
  rw [hA 0 (by decide), s1]
theorem q_KS_c {A A' C C' : Nat → Nat → Int32} (hA : ∀ j, j < 15 → A' j = A j) (h6 : C' 6 = C 6) (h : q_KS A C) : q_KS A' C' := by
  unfold q_KS at h ⊢
  rw [h6, hA 0 (by decide)]
  simp only [q_sv_c hA]
  exact h
theorem q_KF_c {A A' C C' : Nat → Nat → Int32} (hA : ∀ j, j < 15 → A' j = A j) (h7 : C' 7 = C 7) (h8 : C' 8 = C 8) (h : q_KF A C) : q_KF A' C' := by
  unfold q_KF at h ⊢
  rw [h7, h8, hA 9 (by decide)]
  simp only [q_ft_c hA]
  exact h
theorem q_findK {G P F W L a t : Nat} {d : JD} (hL : q_LR G P F W L (q_rows d a) (q_rows d t)) (ha : a = 42 ∨ a = 4) (hk : q_K0 (q_rows d a) (q_rows d 32)) : q_K0 (q_rows (f_X2_find a d) a) (q_rows (f_X2_find a d) 32) := by
  have hL4 := hL.1.1.2.2.2.2.2
  obtain ⟨f1, f2, f3⟩ := q_findC hL ha hk.2.2
  have hA : ∀ j, j < 15 → q_rows (f_X2_find a d) a j = q_rows d a j := fun j hj => f1 _ (by rcases ha with z | z <;> omega) (by rcases ha with z | z <;> omega)
  refine ⟨q_KE_c (hA 0 (by decide)) (fun j hj => f1 _ (by omega) (by omega)) hk.1, q_KS_c (C := q_rows d 32) hA (f1 38 (by decide) (by decide)) hk.2.1, ?_⟩
  refine Or.inr ⟨L, hL4, ?_, ?_, fun c hc hf => ?_⟩
  · rw [hA 9 (by decide)]
    exact hL.1.2.2.2.2.2.1.1
  · rw [q_ft_c hA]; exact f2
  · rw [q_ft_c hA] at hf ⊢
    exact f3 c hc hf
theorem q_findR {g : JG} {G P F W L a b t : Nat} {d : JD} (r : q_R q_K0 (g, d)) (hg : q_G g a b) (hL : q_LR G P F W L (q_rows d a) (q_rows d t)) (hk : q_K0 (q_rows d a) (q_rows d 32)) : q_R q_K0 (g, f_X2_find a d) := by
  refine r.ca (fun b hb => (q_findC hL hg.a hk.2.2).1 b (by omega) (by omega)) (fun a' ha' hk' => ?_)
  have e : a' = a := by
    have := ha'.symm.trans hg.2.2.2.2.1
    exact Option.some.inj this
  subst e
  exact q_findK hL hg.a hk
theorem q_rk_ex {f : Nat → Bool} : ∀ {n j : Nat}, j < q_rk f n → ∃ c, c < n ∧ f c = true ∧ q_rk f c = j
  | 0, j, h => absurd h (by show ¬ j < 0; omega)
  | n + 1, j, h => by
    by_cases c : f n = true
    · rw [q_rk_s c] at h
      by_cases z : j = q_rk f n
      · exact ⟨n, by omega, c, z.symm⟩
      · obtain ⟨c', h1, h2, h3⟩ := q_rk_ex (f := f) (n := n) (j := j) (by omega)
        exact ⟨c', by omega, h2, h3⟩
    · have e : q_rk f (n + 1) = q_rk f n := if_neg c
      rw [e] at h
      obtain ⟨c', h1, h2, h3⟩ := q_rk_ex h
      exact ⟨c', by omega, h2, h3⟩
theorem q_fivsm {A : Nat → Nat → Int32} {L c : Nat} {i : Int32} {d1 D : JD} (h : q_fiv A L i (q_dM d1 0) c D) : q_sm d1 D ∧ D.1 0 11 = 0 := by
  refine ⟨(q_dM_sm d1 0).trans ⟨fun b h0 h57 hf => h.1 b h57 (fun z => by rw [z] at hf; cases hf) (fun z => by rw [z] at hf; cases hf), fun k hf => h.2.1 k (fun z => by rw [z] at hf; cases hf) (fun z => by rw [z] at hf; cases hf), fun k _ => by rw [h.1 0 (by decide) (by decide) (by decide)]⟩, ?_⟩
  rw [h.1 0 (by decide) (by decide) (by decide)]
  exact q_dM_11 d1 0
theorem q_isl {G P F W L : Nat} {A T : Nat → Nat → Int32} (h : q_LR G P F W L A T) (p : Int32) : f_X13_isLostOne (T 0) p = f_X11_isLost (A 9) p := by
  unfold f_X13_isLostOne f_X11_isLost
  rw [h.1.2.2.2.2.2.1.1, h.1.2.2.2.2.2.1.2]
theorem q_isl' {G P F W L : Nat} {A T : Nat → Nat → Int32} (h : q_LR G P F W L A T) {p : Int32} (e : f_X11_isLost (A 9) p = true) : ∃ i, i < L ∧ p = Int32.ofNat i := by
  have h1 := h.1.1
  unfold f_X11_isLost at e
  by_cases h2 : p < 0
  · rw [if_pos h2] at e; cases e
  · rw [if_neg h2, h.1.2.2.2.2.2.1.1] at e
    by_cases h3 : Int32.ofNat L ≤ p
    · rw [if_pos h3] at e; cases e
    · exact q_idx h2 h3 (by omega)
theorem q_24 : lw_st_24 (q_R q_K0) := by
  intro h r hz
  obtain ⟨g, d⟩ := h
  have hr := r
  obtain ⟨a, b, hg, ht, -, hk, hl⟩ := r
  rcases hl with ⟨hla, hn⟩ | ⟨t, h68, hla, hts, G, P, F, W, L, hL, hN, -⟩
  · obtain ⟨x, w, d2, e1, e2, e3⟩ := qn_fits (a := a) (d := d) hn
    exact q_stI hr (q_jT (s_X11_fits g d a hg.2.1 hg.2.2.1 hg.2.2.2.2.1) e1) (q_jT (s_X13_fitsn g _ hg.2.1 hla) e2) (hr.ans q_K0ok e3)
  · dsimp only at hk hL hN
    have k1 : f_X11_hasLand (d.1 a) = true := q_hl1 (A := q_rows d a) (T := q_rows d t) hL
    obtain ⟨f1, f2, f3⟩ := q_findC hL hg.a hk.2.2
    have rr := q_findR hr hg hL hk
    generalize hd1 : f_X2_find a d = d1 at f1 f2 f3 rr
    obtain ⟨D, m1, m2⟩ := q_fitM (D0 := q_dM d1 0) hL h68 (fun j => by rw [q_dM_o (by omega) (by omega), f1 _ (by omega) (by omega)]) (-1)
    obtain ⟨s1, s2⟩ := q_fivsm m2
    refine q_stI hr (q_jT (s_X11_fits g d a hg.2.1 hg.2.2.1 hg.2.2.2.2.1) (x := d1.1 39 2) (d1 := j_sI d1 0 11 0) ?_) (q_jP (s_X13_fits g _ t hg.2.1 hts hla) (d1 := q_fin D 0) ?_) (rr.ans q_K0ok (q_fin_ans s1 s2 (by decide)))
    · unfold f_X11_fits j_let
      rw [if_pos k1, hd1]
      rfl
    · unfold f_X13_fits j_let
      rw [q_dMe, m1, Option.bind_some, q_good, m2.2.2.1, f2]
theorem q_25 : lw_st_25 (q_R q_K0) := by
  intro h p1 p2 r hz
  obtain ⟨g, d⟩ := h
  have hr := r
  obtain ⟨a, b, hg, ht, -, hk, hl⟩ := r
  rcases hl with ⟨hla, hn⟩ | ⟨t, h68, hla, hts, G, P, F, W, L, hL, hN, -⟩
  · obtain ⟨x, w, d2, e1, e2, e3⟩ := qn_fitAt (a := a) (d := d) hn p1 p2
    exact q_stI hr (q_jT (s_X11_fitAt g d a p1 p2 hg.2.1 hg.2.2.1 hg.2.2.2.2.1) e1) (q_jT (s_X13_fitAtn g _ p1 p2 hg.2.1 hla) e2) (hr.ans q_K0ok e3)
  · dsimp only at hk hL hN
    have hL4 := hL.1.1.2.2.2.2.2
    have il : ∀ p, f_X13_isLostOne (d.1 t) p = f_X11_isLost (d.1 (a + 9)) p := fun p => q_isl (A := q_rows d a) (T := q_rows d t) hL p
    by_cases h1 : f_X11_isLost (d.1 (a + 9)) p2 = true
    · obtain ⟨k, hkL, ek⟩ := q_isl' (A := q_rows d a) (T := q_rows d t) hL h1
      obtain ⟨f1, f2, f3⟩ := q_findC hL hg.a hk.2.2
      have rr := q_findR hr hg hL hk
      obtain ⟨q4, q3, q1⟩ := q_L81 hL4
      have rle := q_rk_le (q_ft (q_rows d a) L) (3 ^ L)
      generalize hd1 : f_X2_find a d = d1 at f1 f2 f3 rr
      have et : ∀ w j, (q_dM d1 w).1 (t + j) = d.1 (t + j) := fun w j => by rw [q_dM_o (by omega) (by omega), f1 _ (by omega) (by omega)]
      have et0 : ∀ w, (q_dM d1 w).1 t = d.1 t := fun w => et w 0
      by_cases c1 : p1 < 0
      · have c1' : ¬ ((0 : Int32) ≤ p1) := fun y => q_nle.mpr c1 y
        refine q_stI hr (q_jT (s_X11_fitAt g d a p1 p2 hg.2.1 hg.2.2.1 hg.2.2.2.2.1) (x := -1) (d1 := j_sI d1 0 11 1) ?_) (q_jP (s_X13_fitAt g _ t p1 p2 hg.2.1 hts hla) (d1 := q_fin (q_dM d1 1) 1) ?_) (rr.ans q_K0ok (q_ansd d1 (by decide)))
        · unfold f_X11_fitAt f_X11_fitAt_j40 j_let
          rw [if_pos h1, hd1]
          dsimp only
          rw [if_pos c1, q_xre]
        · unfold f_X13_fitAt f_X13_fitAt_j17 j_let
          rw [q_dMe, et0, il, if_pos h1, if_neg c1', q_ref]
      · have c1' : (0 : Int32) ≤ p1 := q_le0 c1
        by_cases c2 : p1 < Int32.ofNat (q_rk (q_ft (q_rows d a) L) (3 ^ L))
        · obtain ⟨j, hj, ej⟩ := q_idx c1 (fun y => q_nle.mpr c2 y) (n := q_rk (q_ft (q_rows d a) L) (3 ^ L)) (by omega)
          obtain ⟨c0, x1, x2, x3⟩ := q_rk_ex hj
          obtain ⟨D, m1, m2⟩ := q_fitM (D0 := q_dM d1 0) hL h68 (et 0) p1
          obtain ⟨s1, s2⟩ := q_fivsm m2
          have nth : ∃ c', c' < 3 ^ L ∧ q_ft (q_rows d a) L c' = true ∧ q_rk (q_ft (q_rows d a) L) c' = j ∧ D.1 57 26 = Int32.ofNat c' := by
            rcases m2.2.2.2.1 with ⟨c', y1, y2, y3, y4⟩ | ⟨y1, y2⟩
            · have b1 := q_rk_le (q_ft (q_rows d a) L) c'
              exact ⟨c', y1, y2, (q_eq (by omega) (by omega)).mp (y3.trans ej), y4⟩
            · exact absurd (by rw [x3, ej]) (y1 c0 x1 x2)
          obtain ⟨c', y1, y2, y3, y4⟩ := nth
          have fd := f3 c' y1 y2
          rw [y3] at fd
          refine q_stI hr (q_jT (s_X11_fitAt g d a p1 p2 hg.2.1 hg.2.2.1 hg.2.2.2.2.1) (x := q_dig L c' k) (d1 := j_sI d1 0 11 0) ?_) (q_jP (s_X13_fitAt g _ t p1 p2 hg.2.1 hts hla) (d1 := q_fin D 0) ?_) (rr.ans q_K0ok (q_fin_ans s1 s2 (by decide)))
          · unfold f_X11_fitAt j_let
            rw [if_pos h1, hd1]
            dsimp only
            rw [if_neg c1, f2, if_pos c2, ej, q_at (by omega) (by decide), fd, ek, q_hung (q_dig_WY L c').1 (by omega), q_xan]
          · have Dt0 : D.1 t = d.1 t := by rw [m2.1 _ (by omega) (by omega) (by omega), et0]
            have gu : f_X13_guess (d.1 t) (Int32.ofNat c') (Int32.ofNat k) = some (q_dig L c' k) := q_guess hL4 hL.1.2.2.2.2.2.1.2 (by omega) hkL
            unfold f_X13_fitAt j_let
            rw [q_dMe, et0, il, if_pos h1, if_pos c1', m1, Option.bind_some, y4, if_neg (q_nem1 (by omega)), Dt0, ek, gu, Option.bind_some, q_good]
        · obtain ⟨D, m1, m2⟩ := q_fitM (D0 := q_dM d1 1) hL h68 (et 1) p1
          have nth : D.1 57 26 = -1 := by
            rcases m2.2.2.2.1 with ⟨c', y1, y2, y3, y4⟩ | ⟨y1, y2⟩
            · have b1 := q_rk_lt y1 y2
              exact absurd ((q_lt (by omega) (by omega)).mpr b1) (by rw [y3]; exact c2)
            · exact y2
          have s1 : q_sm d1 D := (q_dM_sm d1 1).trans ⟨fun b h0 h57 hf => m2.1 b h57 (fun z => by rw [z] at hf; cases hf) (fun z => by rw [z] at hf; cases hf), fun k hf => m2.2.1 k (fun z => by rw [z] at hf; cases hf) (fun z => by rw [z] at hf; cases hf), fun k _ => by rw [m2.1 0 (by decide) (by decide) (by decide)]⟩
          have s2 : D.1 0 11 = 1 := by
            rw [m2.1 0 (by decide) (by decide) (by decide)]
            exact q_dM_11 d1 1
          refine q_stI hr (q_jT (s_X11_fitAt g d a p1 p2 hg.2.1 hg.2.2.1 hg.2.2.2.2.1) (x := -1) (d1 := j_sI d1 0 11 1) ?_) (q_jP (s_X13_fitAt g _ t p1 p2 hg.2.1 hts hla) (d1 := q_fin D 1) ?_) (rr.ans q_K0ok (q_fin_ans s1 s2 (by decide)))
          · unfold f_X11_fitAt f_X11_fitAt_j40 j_let
            rw [if_pos h1, hd1]
            dsimp only
            rw [if_neg c1, f2, if_neg c2, q_xre]
          · unfold f_X13_fitAt j_let
            rw [q_dMe, et0, il, if_pos h1, if_pos c1', m1, Option.bind_some, if_pos nth, q_ref]
    · refine q_stI hr (q_jT (s_X11_fitAt g d a p1 p2 hg.2.1 hg.2.2.1 hg.2.2.2.2.1) (x := -1) (d1 := j_sI d 0 11 1) ?_) (q_jP (s_X13_fitAt g _ t p1 p2 hg.2.1 hts hla) (d1 := q_fin (q_dM d 1) 1) ?_) (hr.ans q_K0ok (q_ansd d (by decide)))
      · unfold f_X11_fitAt j_let
        rw [if_neg h1, q_xre]
      · have et0 : (q_dM d 1).1 t = d.1 t := q_dM_o (by omega) (by omega)
        unfold f_X13_fitAt f_X13_fitAt_j17 j_let
        rw [q_dMe, et0, il, if_neg h1, q_ref]
/-- how often a hook hangs so in what is found -/
theorem q_chC {A : Nat → Nat → Int32} {L k h : Nat} (hL : L ≤ 4) (hk : k < L) {r39 r40 : Nat → Int32} (e2 : r39 2 = Int32.ofNat (q_rk (q_ft A L) (3 ^ L))) (e40 : ∀ c, c < 3 ^ L → q_ft A L c = true → r40 (q_rk (q_ft A L) c) = q_cod (q_dig L c)) : f_X2_countHung r39 r40 (Int32.ofNat k) (Int32.ofNat h) = Int32.ofNat (q_hk A L k h (3 ^ L)) := by
  obtain ⟨p4, p3, p1⟩ := q_L81 hL
  have rle := q_rk_le (q_ft A L) (3 ^ L)
  unfold f_X2_countHung j_let
  dsimp only
  rw [e2, q_for _ (by omega)]
  have : ∀ n, n ≤ 3 ^ L → q_it (fun i s => f_X2_countHung_b5 r39 r40 (Int32.ofNat k) (Int32.ofNat h) (Int32.ofNat i) s) (q_rk (q_ft A L) n) 0 = Int32.ofNat (q_hk A L k h n) := by
    intro n
    induction n with
    | zero => exact fun _ => rfl
    | succ n ih =>
      intro hn
      have i1 := ih (by omega)
      have rl := q_rk_le (q_ft A L) n
      rw [q_hk_s]
      by_cases c : q_ft A L n = true
      · rw [q_rk_s c]
        show f_X2_countHung_b5 r39 r40 (Int32.ofNat k) (Int32.ofNat h) (Int32.ofNat (q_rk (q_ft A L) n)) (q_it _ _ 0) = _
        rw [i1]
        unfold f_X2_countHung_b5 f_X2_countHung_j34_5
        rw [q_at (by omega) (by decide), e40 n (by omega) c, q_hung (q_dig_WY L n).1 (by omega)]
        by_cases z : q_dig L n k = Int32.ofNat h
        · rw [if_pos z, if_pos ⟨c, z⟩, q_s]
        · rw [if_neg z, if_neg (fun y => z y.2)]
      · have e : q_rk (q_ft A L) (n + 1) = q_rk (q_ft A L) n := if_neg c
        rw [e, i1, if_neg (fun y => c y.1)]
  exact this (3 ^ L) (Nat.le_refl _)
theorem q_hk_le (A : Nat → Nat → Int32) (L k h : Nat) : ∀ n, q_hk A L k h n ≤ q_rk (q_ft A L) n
  | 0 => Nat.le_refl _
  | n + 1 => by
    have := q_hk_le A L k h n
    rw [q_hk_s]
    by_cases c : q_ft A L n = true
    · rw [q_rk_s c]
      split <;> omega
    · have e : q_rk (q_ft A L) (n + 1) = q_rk (q_ft A L) n := if_neg c
      rw [e, if_neg (fun y => c y.1)]
      exact this
theorem q_s26 : lw_st_26 (q_R q_K0) := by
  intro h p1 p2 r hz
  obtain ⟨g, d⟩ := h
  have hr := r
  obtain ⟨a, b, hg, ht, -, hk, hl⟩ := r
  rcases hl with ⟨hla, hn⟩ | ⟨t, h68, hla, hts, G, P, F, W, L, hL, hN, -⟩
  · obtain ⟨x, w, d2, e1, e2, e3⟩ := qn_hungBy (a := a) (d := d) hn p1 p2
    exact q_stI hr (q_jT (s_X11_hungBy g d a p1 p2 hg.2.1 hg.2.2.1 hg.2.2.2.2.1) e1) (q_jT (s_X13_hungByn g _ p1 p2 hg.2.1 hla) e2) (hr.ans q_K0ok e3)
  · dsimp only at hk hL hN
    have hL4 := hL.1.1.2.2.2.2.2
    have il : ∀ p, f_X13_isLostOne (d.1 t) p = f_X11_isLost (d.1 (a + 9)) p := fun p => q_isl (A := q_rows d a) (T := q_rows d t) hL p
    by_cases h1 : f_X11_isLost (d.1 (a + 9)) p1 = true
    · by_cases h2 : f_X13_in p2 0 2 = true
      · obtain ⟨k, hkL, ek⟩ := q_isl' (A := q_rows d a) (T := q_rows d t) hL h1
        obtain ⟨hh, h3, eh⟩ := q_inr (n := 2) (by decide) h2
        obtain ⟨f1, f2, f3⟩ := q_findC hL hg.a hk.2.2
        have rr := q_findR hr hg hL hk
        generalize hd1 : f_X2_find a d = d1 at f1 f2 f3 rr
        have et : ∀ w j, (q_dM d1 w).1 (t + j) = d.1 (t + j) := fun w j => by rw [q_dM_o (by omega) (by omega), f1 _ (by omega) (by omega)]
        have et0 : ∀ w, (q_dM d1 w).1 t = d.1 t := fun w => et w 0
        obtain ⟨D, m1, m2⟩ := q_fitM (D0 := q_dM d1 0) hL h68 (et 0) (-1)
        obtain ⟨s1, s2⟩ := q_fivsm m2
        refine q_stI hr (q_jT (s_X11_hungBy g d a p1 p2 hg.2.1 hg.2.2.1 hg.2.2.2.2.1) (x := Int32.ofNat (q_hk (q_rows d a) L k hh (3 ^ L))) (d1 := j_sI d1 0 11 0) ?_) (q_jP (s_X13_hungBy g _ t p1 p2 hg.2.1 hts hla) (d1 := q_fin D 0) ?_) (rr.ans q_K0ok (q_fin_ans s1 s2 (by decide)))
        · unfold f_X11_hungBy j_let
          rw [if_pos h1, q_hungIn, if_pos h2, hd1, ek, eh]
          dsimp only
          rw [q_chC hL4 hkL f2 f3, q_xan]
        · have ix : (3 : Int32) * Int32.ofNat k + Int32.ofNat hh = Int32.ofNat (3 * k + hh) := by
            rw [show (3 : Int32) = Int32.ofNat 3 from rfl, q_mul, ← Int32.ofNat_add]
          unfold f_X13_hungBy j_let
          rw [q_dMe, et0, il, if_pos h1, if_pos h2, m1, Option.bind_some, ek, eh, ix, if_neg (q_in (by omega) (by decide)), q_n (by omega), m2.2.2.2.2 k hkL hh (by omega), q_good]
      · refine q_stI hr (q_jT (s_X11_hungBy g d a p1 p2 hg.2.1 hg.2.2.1 hg.2.2.2.2.1) (x := -1) (d1 := j_sI d 0 11 2) ?_) (q_jP (s_X13_hungBy g _ t p1 p2 hg.2.1 hts hla) (d1 := q_fin (q_dM d 2) 2) ?_) (hr.ans q_K0ok (q_ansd d (by decide)))
        · unfold f_X11_hungBy j_let
          rw [if_pos h1, q_hungIn, if_neg h2, q_xre]
        · have et0 : (q_dM d 2).1 t = d.1 t := q_dM_o (by omega) (by omega)
          unfold f_X13_hungBy j_let
          rw [q_dMe, et0, il, if_pos h1, if_neg h2, q_ref]
    · refine q_stI hr (q_jT (s_X11_hungBy g d a p1 p2 hg.2.1 hg.2.2.1 hg.2.2.2.2.1) (x := -1) (d1 := j_sI d 0 11 1) ?_) (q_jP (s_X13_hungBy g _ t p1 p2 hg.2.1 hts hla) (d1 := q_fin (q_dM d 1) 1) ?_) (hr.ans q_K0ok (q_ansd d (by decide)))
      · unfold f_X11_hungBy j_let
        rw [if_neg h1, q_xre]
      · have et0 : (q_dM d 1).1 t = d.1 t := q_dM_o (by omega) (by omega)
        unfold f_X13_hungBy j_let
        rw [q_dMe, et0, il, if_neg h1, q_ref]
