/-! tier two: both have searched -/
section QE
variable {G P F W L a t : Nat} {d B : JD}
theorem q_reaM (hL : q_LR G P F W L (q_rows d a) (q_rows d t)) (hN : q_NR G (q_rows d a) (q_rows d t) (d.1 22 0) (d.1 22 1) (d.1 22 2) (d.1 59)) (h68 : 68 ≤ t) (et : ∀ j, B.1 (t + j) = d.1 (t + j)) (e59 : B.1 59 = d.1 59) : ∃ D, f_X13_reaches t B = some D ∧ q_MR (3 ^ G) B D (q_bf (q_nx (d.1 a) G) (4 * G) (q_num (d.1 59) G) 729) := by
  have hG1 := hL.1.1.1
  have hG := hL.1.1.2.1
  have e4' : d.1 t 4 = Int32.ofNat G := hL.1.2.1.2
  have pw := q_pw43 ⟨G, by omega⟩
  dsimp only at pw
  have hx := q_nxlt hL hN
  have hc0 := q_num_lt hN.1.1 G hG
  obtain ⟨D1, l1, l2, l3⟩ := q_inv (F := f_X13_reaches_w2 t) (τ := fun i (u : Int32 × JD) => u.1 = Int32.ofNat i ∧ (∀ b, b ≠ 63 → u.2.1 b = B.1 b) ∧ ∀ k, k < i → u.2.1 63 k = 9999) (ρ := fun e => (∀ b, b ≠ 63 → e.1 b = B.1 b) ∧ ∀ k, k < 729 → e.1 63 k = 9999) (n := 729) (by omega) (by
    intro i hi u hu
    obtain ⟨u1, E⟩ := u
    obtain ⟨e1, h1, h2⟩ := hu
    dsimp only at e1 h1 h2
    subst e1
    unfold f_X13_reaches_w2
    dsimp only
    rw [if_neg (show ¬ ((729 : Int32) ≤ Int32.ofNat i) from q_go (n := 729) (by decide) hi), if_neg (q_in hi (by decide)), q_n (by omega), q_s]
    refine ⟨_, rfl, rfl, fun b hb => by rw [q_sI_o hb, h1 b hb], fun k hk => ?_⟩
    dsimp only
    rw [q_sI_a]
    by_cases y : k = i
    · rw [y, q_upd_a]
    · rw [q_upd_o y]; exact h2 k (by omega)) (by
    intro u hu
    obtain ⟨u1, E⟩ := u
    obtain ⟨e1, h1, h2⟩ := hu
    dsimp only at e1 h1 h2
    subst e1
    unfold f_X13_reaches_w2
    dsimp only
    rw [if_pos (show (729 : Int32) ≤ Int32.ofNat 729 from q_end (n := 729) (by decide))]
    exact ⟨_, rfl, h1, h2⟩) (t := (0, B)) ⟨rfl, fun _ _ => rfl, fun k hk => absurd hk (by omega)⟩
  unfold f_X13_reaches
  rw [l1, Option.bind_some, q_works, Option.bind_some]
  have v59 : D1.1 59 = d.1 59 := (l2 59 (by decide)).trans e59
  generalize hD2 : q_row D1 60 (q_mix 6 (D1.1 59) (D1.1 60)) = D2
  have o2 : ∀ b, b ≠ 60 → D2.1 b = D1.1 b := fun b hb => by rw [← hD2, q_row_o hb]
  have x2 : ∀ k, k < G → D2.1 60 k = d.1 59 k := fun k hk => by
    rw [← hD2, q_row_a, ← v59]
    exact if_pos (by omega)
  have t2 : D2.1 t 4 = Int32.ofNat G := by
    have : D2.1 t = d.1 t := (o2 t (by omega)).trans ((l2 t (by omega)).trans (et 0))
    rw [this, e4']
  rw [q_numX hG t2 hN.1.1 x2, Option.bind_some]
  generalize q_num (d.1 59) G = c0 at hc0
  rw [if_neg (q_in (i := c0) (n := 729) (by omega) (by decide)), q_n (by omega)]
  have first : q_MR (3 ^ G) B (j_sI (j_sI (j_sI D2 65 0 (Int32.ofNat c0)) 63 c0 0) 57 24 1) (q_b0 c0) := by
    have r57 : (j_sI (j_sI (j_sI D2 65 0 (Int32.ofNat c0)) 63 c0 0) 57 24 1).1 57 = upd (B.1 57) 24 1 := by
      rw [q_sI_a, q_sI_o (by decide), q_sI_o (by decide), o2 57 (by decide), l2 57 (by decide)]
    have r63 : (j_sI (j_sI (j_sI D2 65 0 (Int32.ofNat c0)) 63 c0 0) 57 24 1).1 63 = upd (D1.1 63) c0 0 := by
      rw [q_sI_o (by decide), q_sI_a, q_sI_o (by decide), o2 63 (by decide)]
    have r65 : (j_sI (j_sI (j_sI D2 65 0 (Int32.ofNat c0)) 63 c0 0) 57 24 1).1 65 = upd (D2.1 65) 0 (Int32.ofNat c0) := by
      rw [q_sI_o (by decide), q_sI_o (by decide), q_sI_a]
    refine ⟨fun b b1 b2 b3 b4 b5 => by rw [q_sI_o b1, q_sI_o b3, q_sI_o b5, o2 b b2, l2 b b3], fun k hk => by rw [r57, q_upd_o hk], by rw [r57, q_upd_a]; rfl, fun j hj => ?_, fun c hc hn => ?_, fun j hj => ?_, fun j h0 hj => ?_⟩
    · have hj' : j < 1 := hj
      have : j = 0 := by omega
      subst this
      rw [r65, q_upd_a]
      rfl
    · have ne : c ≠ c0 := fun e => hn ((q_mem_i _).mpr ⟨0, Nat.one_pos, e.symm⟩)
      rw [r63, q_upd_o ne]
      exact l3 c (by omega)
    · have hj' : j < 1 := hj
      rw [r63]
      show upd (D1.1 63) c0 0 c0 = _
      rw [q_upd_a]
      rfl
    · have hj' : j < 1 := hj
      omega
  generalize j_sI (j_sI (j_sI D2 65 0 (Int32.ofNat c0)) 63 c0 0) 57 24 1 = D3 at first
  obtain ⟨j, j1, j2, j3, j4⟩ := q_bf_end (K := 4 * G) hx pw.2.1 hc0
  obtain ⟨D4, w1, w2⟩ := q_inv (F := f_X13_reaches_w57 t) (τ := fun i (u : Int32 × JD) => u.1 = Int32.ofNat i ∧ q_MR (3 ^ G) B u.2 (q_bf (q_nx (d.1 a) G) (4 * G) c0 i)) (ρ := fun e => q_MR (3 ^ G) B e (q_bf (q_nx (d.1 a) G) (4 * G) c0 j)) (n := j) (by omega) (by
    intro i hi u hu
    obtain ⟨u1, E⟩ := u
    obtain ⟨e1, hE⟩ := hu
    dsimp only at e1 hE
    subst e1
    have hin := j3 i hi
    have si := q_SI.bf (K := 4 * G) hx hc0 i
    have hle := si.le
    obtain ⟨E', x1, x2⟩ := q_reS hL hN h68 et e59 hE si hin
    have st : q_bf (q_nx (d.1 a) G) (4 * G) c0 (i + 1) = q_it (fun k s => q_bst (q_nx (d.1 a) G) i k s) (4 * G) (q_bf (q_nx (d.1 a) G) (4 * G) c0 i) := by
      show q_bfr (q_nx (d.1 a) G) (4 * G) i (q_bf (q_nx (d.1 a) G) (4 * G) c0 i) = _
      unfold q_bfr
      rw [if_pos hin]
    rw [st]
    unfold f_X13_reaches_w57
    dsimp only
    rw [hE.2.2.1, if_neg (q_go (by omega) hin), x1, Option.bind_some, q_s]
    exact ⟨_, rfl, rfl, x2⟩) (by
    intro u hu
    obtain ⟨u1, E⟩ := u
    obtain ⟨e1, hE⟩ := hu
    dsimp only at e1 hE
    subst e1
    unfold f_X13_reaches_w57
    dsimp only
    rw [hE.2.2.1, j2, if_pos (q_end (by omega))]
    exact ⟨_, rfl, hE⟩) (t := (0, D3)) ⟨rfl, first⟩
  rw [w1, Option.bind_some, j4]
  exact ⟨D4, rfl, w2⟩
end QE
theorem q_MRsm {N : Nat} {d1 D : JD} {s : q_S} {w : Int32} (h : q_MR N (q_dM d1 w) D s) : q_sm d1 D ∧ D.1 0 11 = w := by
  obtain ⟨h1, h2, -⟩ := h
  refine ⟨(q_dM_sm d1 w).trans ⟨fun b b0 b57 hf => ?_, fun k hk => h2 k (fun z => by rw [z] at hk; exact absurd hk (by decide)), fun k _ => by rw [h1 0 (by decide) (by decide) (by decide) (by decide) (by decide)]⟩, ?_⟩
  · exact h1 b b57 (fun z => by rw [z] at hf; exact absurd hf (by decide)) (fun z => by rw [z] at hf; exact absurd hf (by decide)) (fun z => by rw [z] at hf; exact absurd hf (by decide)) (fun z => by rw [z] at hf; exact absurd hf (by decide))
  · rw [h1 0 (by decide) (by decide) (by decide) (by decide) (by decide)]
    exact q_dM_11 d1 w
theorem q_errsw {g : JG} {G P F W L a b t : Nat} {d : JD} (hr : q_R q_K0 (g, d)) (hg : q_G g a b) (h68 : 68 ≤ t) (hL : q_LR G P F W L (q_rows d a) (q_rows d t)) (hN : q_NR G (q_rows d a) (q_rows d t) (d.1 22 0) (d.1 22 1) (d.1 22 2) (d.1 59)) (hk : q_K0 (q_rows d a) (q_rows d 32)) : ∃ (d1 : JD) (s : q_S), f_X1_explore a d (d.1 22 0) = some d1 ∧ q_R q_K0 (g, d1) ∧ q_eqB G s (d1.1 32 6) (d1.1 33) (d1.1 34) (d1.1 35) (d1.1 36) ∧ q_SI (3 ^ G) (4 * G) s ∧ (∀ w, ∃ D, f_X13_reaches t (q_dM d1 w) = some D ∧ q_MR (3 ^ G) (q_dM d1 w) D s) ∧ ∀ b, b < 32 ∨ 37 < b → d1.1 b = d.1 b := by
  have hG := hL.1.1.2.1
  have hx := q_nxlt hL hN
  have hc0 := q_num_lt hN.1.1 G hG
  obtain ⟨d1, c1, c2, c3, c4⟩ := q_explC hL hN hg.a hk.1
  have mm := fun w => q_reaM (B := q_dM d1 w) hL hN h68 (fun j => by rw [q_dM_o (by omega) (by omega), c2 _ (by omega)]) (by rw [q_dM_o (by decide) (by decide), c2 59 (by decide)])
  have si := q_SI.bf (K := 4 * G) hx hc0 729
  refine ⟨d1, _, c1, ?_, c4, si, mm, c2⟩
  refine hr.ca (fun b hb => c2 b (by omega)) (fun a' ha' hk' => ?_)
  have e : a' = a := by
    have := ha'.symm.trans hg.2.2.2.2.1
    exact Option.some.inj this
  subst e
  have hA : ∀ j, j < 15 → q_rows d1 a' j = q_rows d a' j := fun j hj => c2 _ (by rcases hg.a with z | z <;> omega)
  refine ⟨Or.inr ⟨G, q_num (d.1 59) G, hG, ?_, hc0, c3, ?_⟩, q_KS_c (C := q_rows d 32) hA (c2 38 (by decide)) hk.2.1, q_KF_c (C := q_rows d 32) hA (c2 39 (by decide)) (c2 40 (by decide)) hk.2.2⟩
  · rw [hA 0 (by decide)]
    exact hL.1.2.1.1
  · rw [hA 0 (by decide)]
    exact c4
theorem q_errs {g : JG} {G P F W L a b t : Nat} {d : JD} (hr : q_R q_K0 (g, d)) (hg : q_G g a b) (h68 : 68 ≤ t) (hL : q_LR G P F W L (q_rows d a) (q_rows d t)) (hN : q_NR G (q_rows d a) (q_rows d t) (d.1 22 0) (d.1 22 1) (d.1 22 2) (d.1 59)) (hk : q_K0 (q_rows d a) (q_rows d 32)) : ∃ (d1 : JD) (s : q_S) (D : JD), f_X1_explore a d (d.1 22 0) = some d1 ∧ q_R q_K0 (g, d1) ∧ q_eqB G s (d1.1 32 6) (d1.1 33) (d1.1 34) (d1.1 35) (d1.1 36) ∧ q_SI (3 ^ G) (4 * G) s ∧ f_X13_reaches t (q_dM d1 0) = some D ∧ q_MR (3 ^ G) (q_dM d1 0) D s ∧ ∀ b, b < 32 ∨ 37 < b → d1.1 b = d.1 b := by
  obtain ⟨d1, s, c1, rr, c2, si, mm, co⟩ := q_errsw hr hg h68 hL hN hk
  obtain ⟨D, m1, m2⟩ := mm 0
  exact ⟨d1, s, D, c1, rr, c2, si, m1, m2, co⟩
theorem q_17 : lw_st_17 (q_R q_K0) := by
  intro h r hz
  obtain ⟨g, d⟩ := h
  have hr := r
  obtain ⟨a, b, hg, ht, -, hk, hl⟩ := r
  rcases hl with ⟨hla, hn⟩ | ⟨t, h68, hla, hts, G, P, F, W, L, hL, hN, -⟩
  · obtain ⟨x, w, d2, e1, e2, e3⟩ := qn_reach (a := a) (d := d) hn
    exact q_stI hr (q_jP (s_X11_reach g d a hg.2.1 hg.2.2.1 hg.2.2.2.2.1) e1) (q_jT (s_X13_reachn g _ hg.2.1 hla) e2) (hr.ans q_K0ok e3)
  · dsimp only at hk hL hN
    have k1 : f_X11_hasLand (d.1 a) = true := q_hl1 (A := q_rows d a) (T := q_rows d t) hL
    obtain ⟨d1, s, D, c1, rr, c2, si, m1, m2, co⟩ := q_errs hr hg h68 hL hN hk
    obtain ⟨s1, s2⟩ := q_MRsm m2
    refine q_stI hr (q_jP (s_X11_reach g d a hg.2.1 hg.2.2.1 hg.2.2.2.2.1) (x := Int32.ofNat s.1) (d1 := j_sI d1 0 11 0) ?_) (q_jP (s_X13_reach g _ t hg.2.1 hts hla) (d1 := q_fin D 0) ?_) (rr.ans q_K0ok (q_fin_ans s1 s2 (by decide)))
    · unfold f_X11_reach j_let
      rw [if_pos k1, c1, Option.bind_some, c2.1]
      rfl
    · unfold f_X13_reach j_let
      rw [q_dMe, m1, Option.bind_some, m2.2.2.1, q_good]
