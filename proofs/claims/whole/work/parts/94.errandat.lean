/-! tier two: errandAt, movesFor, mostBy -/
def q_up (s : q_S) (j k : Nat) : Nat := q_it (fun _ i => s.2.2.1 i) k j
theorem q_upS {N K : Nat} {s : q_S} (hs : q_SI N K s) {j : Nat} (hj : j < s.1) : ∀ k, k ≤ s.2.2.2.2 j → q_up s j k < s.1 ∧ s.2.2.2.2 (q_up s j k) = s.2.2.2.2 j - k
  | 0, _ => ⟨hj, rfl⟩
  | k + 1, h => by
    obtain ⟨i1, i2⟩ := q_upS hs hj k (by omega)
    have nz : q_up s j k ≠ 0 := fun e => by
      rw [e, hs.zero] at i2
      omega
    obtain ⟨p1, p2, p3⟩ := hs.par _ (by omega) i1
    show s.2.2.1 (q_up s j k) < s.1 ∧ s.2.2.2.2 (s.2.2.1 (q_up s j k)) = _
    exact ⟨by omega, by omega⟩
theorem q_div24 {c m : Nat} (hc : c < 729) (hm : m < 24) : Int32.ofNat (24 * c + m) / 24 = Int32.ofNat c ∧ Int32.ofNat (24 * c + m) - Int32.ofNat (24 * c + m) / 24 * 24 = Int32.ofNat m := by
  have e1 : Int32.ofNat (24 * c + m) / Int32.ofNat 24 = Int32.ofNat ((24 * c + m) / 24) := q_div (by omega) (by decide)
  have e2 : Int32.ofNat (24 * c + m) - Int32.ofNat (24 * c + m) / Int32.ofNat 24 * Int32.ofNat 24 = Int32.ofNat ((24 * c + m) % 24) := q_mod (by omega) (by decide)
  rw [show (24 * c + m) / 24 = c by omega] at e1
  rw [show (24 * c + m) % 24 = m by omega] at e2
  exact ⟨e1, e2⟩
theorem q_mvtC {G : Nat} (hG : G ≤ 6) {s : q_S} {d1 : JD} (hs : q_SI (3 ^ G) (4 * G) s) (hc : q_eqB G s (d1.1 32 6) (d1.1 33) (d1.1 34) (d1.1 35) (d1.1 36)) {j q : Nat} (hj : j < s.1) (hq : q < s.2.2.2.2 j) : f_X1_moveTowards (d1.1 34) (d1.1 35) (d1.1 36) (Int32.ofNat j) (Int32.ofNat q) = some (Int32.ofNat (s.2.2.2.1 (q_up s j (s.2.2.2.2 j - 1 - q)))) := by
  have pw := q_pw43 ⟨G, by omega⟩
  dsimp only at pw
  have hle := hs.le
  have hd := hs.dep j j (Nat.le_refl _) hj
  have u := fun k hk => q_upS hs hj k hk
  have pos : ∀ k, k < s.2.2.2.2 j → 0 < q_up s j k := fun k hk => by
    have i2 := (u k (by omega)).2
    by_cases z : q_up s j k = 0
    · rw [z, hs.zero] at i2
      omega
    · omega
  have l := q_run (F := f_X1_moveTowards_w11 (d1.1 34) (d1.1 35) (d1.1 36) (Int32.ofNat q)) (fun k => (Int32.ofNat (q_up s j k), Int32.ofNat (s.2.2.2.2 j - 1 - k))) (e := Int32.ofNat (q_up s j (s.2.2.2.2 j - 1 - q))) (s.2.2.2.2 j - 1 - q) (by omega) (fun k hk => by
    have i1 := u k (by omega)
    have i0 := pos k (by omega)
    have mm : Int32.ofNat (s.2.2.2.2 j - 1 - k) + (-1) = Int32.ofNat (s.2.2.2.2 j - 1 - (k + 1)) := by
      have : Int32.ofNat (s.2.2.2.2 j - 1 - k) - Int32.ofNat 1 = Int32.ofNat (s.2.2.2.2 j - 1 - k - 1) := q_sub (by omega)
      rw [show s.2.2.2.2 j - 1 - (k + 1) = s.2.2.2.2 j - 1 - k - 1 by omega, ← this, Int32.sub_eq_add_neg]
      rfl
    unfold f_X1_moveTowards_w11
    dsimp only
    rw [if_neg (q_go (by omega) (by omega)), q_at (by omega) (by decide), ((hc.2 _ i1.1).2.2 i0).1, mm]
    rfl) (by
    unfold f_X1_moveTowards_w11
    dsimp only
    rw [if_pos ((q_le (by omega) (by omega)).mpr (by omega))])
  have e1 : Int32.ofNat (s.2.2.2.2 j) - 1 = Int32.ofNat (s.2.2.2.2 j - 1) := q_sub (b := 1) (by omega)
  have l' : j_wh (f_X1_moveTowards_w11 (d1.1 34) (d1.1 35) (d1.1 36) (Int32.ofNat q)) j_fuel (Int32.ofNat j, Int32.ofNat (s.2.2.2.2 j - 1)) = some (Int32.ofNat (q_up s j (s.2.2.2.2 j - 1 - q))) := l
  unfold f_X1_moveTowards f_X1_movesTo j_let
  have iN := u (s.2.2.2.2 j - 1 - q) (by omega)
  have i0 := pos (s.2.2.2.2 j - 1 - q) (by omega)
  rw [q_at (j := j) (by omega) (by decide), (hc.2 j hj).2.1, e1]
  dsimp only
  rw [l', Option.bind_some, q_at (by omega) (by decide), ((hc.2 _ iN.1).2.2 i0).2]
theorem q_mvtM {G t : Nat} (hG : G ≤ 6) {s : q_S} {B E : JD} (hs : q_SI (3 ^ G) (4 * G) s) (hE : q_MR (3 ^ G) B E s) {j q : Nat} (hj : j < s.1) (hq : q < s.2.2.2.2 j) : ∃ c, j_wh (f_X13_errandAt_w48 t (Int32.ofNat q) E) j_fuel (Int32.ofNat (s.2.1 j)) = some (Int32.ofNat c) ∧ c < 729 ∧ E.1 64 c - E.1 64 c / 24 * 24 = Int32.ofNat (s.2.2.2.1 (q_up s j (s.2.2.2.2 j - 1 - q))) := by
  have pw := q_pw43 ⟨G, by omega⟩
  dsimp only at pw
  have hle := hs.le
  have hd := hs.dep j j (Nat.le_refl _) hj
  have u := fun k hk => q_upS hs hj k hk
  have pos : ∀ k, k < s.2.2.2.2 j → 0 < q_up s j k := fun k hk => by
    have i2 := (u k (by omega)).2
    by_cases z : q_up s j k = 0
    · rw [z, hs.zero] at i2
      omega
    · omega
  have l := q_run (F := f_X13_errandAt_w48 t (Int32.ofNat q) E) (fun k => Int32.ofNat (s.2.1 (q_up s j k))) (e := Int32.ofNat (s.2.1 (q_up s j (s.2.2.2.2 j - 1 - q)))) (s.2.2.2.2 j - 1 - q) (by omega) (fun k hk => by
    have i1 := u k (by omega)
    have i0 := pos k (by omega)
    have hw := hs.way _ i1.1
    have pp := hs.par _ i0 i1.1
    have hwp := hs.way _ (show s.2.2.1 (q_up s j k) < s.1 by omega)
    have ho : ¬ j_out (Int32.ofNat (s.2.1 (q_up s j k))) 729 := q_in (by omega) (by decide)
    unfold f_X13_errandAt_w48
    rw [if_neg ho, if_neg ho, q_n (by omega), hE.2.2.2.2.2.1 _ i1.1, hE.2.2.2.2.2.2 _ i0 i1.1, q_s, if_neg (q_go (by omega) (by omega)), (q_div24 (by omega) (by omega)).1]
    rfl) (by
    have i1 := u (s.2.2.2.2 j - 1 - q) (by omega)
    have hw := hs.way _ i1.1
    have ho : ¬ j_out (Int32.ofNat (s.2.1 (q_up s j (s.2.2.2.2 j - 1 - q)))) 729 := q_in (by omega) (by decide)
    unfold f_X13_errandAt_w48
    rw [if_neg ho, if_neg ho, q_n (by omega), hE.2.2.2.2.2.1 _ i1.1, q_s, if_pos ((q_le (by omega) (by omega)).mpr (by omega))])
  have iN := u (s.2.2.2.2 j - 1 - q) (by omega)
  have i0 := pos (s.2.2.2.2 j - 1 - q) (by omega)
  have hw := hs.way _ iN.1
  have pp := hs.par _ i0 iN.1
  have hwp := hs.way _ (show s.2.2.1 (q_up s j (s.2.2.2.2 j - 1 - q)) < s.1 by omega)
  refine ⟨_, l, by omega, ?_⟩
  rw [hE.2.2.2.2.2.2 _ i0 iN.1]
  exact (q_div24 (by omega) (by omega)).2
theorem q_13 : lw_st_13 (q_R q_K0) := by
  intro h p r hz
  obtain ⟨g, d⟩ := h
  have hr := r
  obtain ⟨a, b, hg, ht, -, hk, hl⟩ := r
  rcases hl with ⟨hla, hn⟩ | ⟨t, h68, hla, hts, G, P, F, W, L, hL, hN, -⟩
  · obtain ⟨x, w, d2, e1, e2, e3⟩ := qn_errandAt (a := a) (d := d) hn p
    exact q_stI hr (q_jP (s_X11_errandAt g d a p hg.2.1 hg.2.2.1 hg.2.2.2.2.1) e1) (q_jT (s_X13_errandAtn g _ p hg.2.1 hla) e2) (hr.ans q_K0ok e3)
  · dsimp only at hk hL hN
    have hG := hL.1.1.2.1
    have pw := q_pw43 ⟨G, by omega⟩
    dsimp only at pw
    have k1 : f_X11_hasLand (d.1 a) = true := q_hl1 (A := q_rows d a) (T := q_rows d t) hL
    obtain ⟨d1, s, c1, rr, c2, si, mm, co⟩ := q_errsw hr hg h68 hL hN hk
    obtain ⟨D, m1, m2⟩ := mm 0
    obtain ⟨D', m1', m2'⟩ := mm 1
    have hle := si.le
    obtain ⟨f1, f2⟩ := q_fmwC (d1 := d1) hL si c2 (fun j hj => co _ (by rcases hg.a with z | z <;> omega))
    obtain ⟨g1, g2⟩ := q_endM (B := q_dM d1 0) hL h68 (fun j => by rw [q_dM_o (by omega) (by omega), co _ (by omega)]) si m1 m2
    obtain ⟨g1', g2'⟩ := q_endM (B := q_dM d1 1) hL h68 (fun j => by rw [q_dM_o (by omega) (by omega), co _ (by omega)]) si m1' m2'
    rcases q_least (p := fun i => ¬ q_hit (q_rows d a) G W (s.2.1 i)) s.1 with hall | ⟨j, hj, hnj, hlt⟩
    · have fe := f1 hall
      obtain ⟨E, ge, gm⟩ := g1' hall
      obtain ⟨s1, s2⟩ := q_MRsm gm
      refine q_stI hr (q_jP (s_X11_errandAt g d a p hg.2.1 hg.2.2.1 hg.2.2.2.2.1) (x := -1) (d1 := j_sI d1 0 11 1) ?_) (q_jP (s_X13_errandAt g _ t p hg.2.1 hts hla) (d1 := q_fin E 1) ?_) (rr.ans q_K0ok (q_fin_ans s1 s2 (by decide)))
      · unfold f_X11_errandAt f_X11_errandAt_j64 j_let
        rw [if_pos k1, c1, Option.bind_some]
        dsimp only
        rw [fe, if_pos rfl, q_xre]
      · unfold f_X13_errandAt f_X13_errandAt_j42 j_let
        rw [q_dMe, ge, Option.bind_some]
        dsimp only
        rw [if_pos rfl, q_ref]
    · have hnj := Classical.not_not.mp hnj
      have fe := f2 j hj hnj hlt
      have hw := si.way j hj
      have hd := si.dep j j (Nat.le_refl _) hj
      have dj : f_X11_at (d1.1 36) 729 (Int32.ofNat j) = Int32.ofNat (s.2.2.2.2 j) := by rw [q_at (by omega) (by decide), (c2.2 j hj).2.1]
      have ho : ¬ j_out (Int32.ofNat (s.2.1 j)) 729 := q_in (by omega) (by decide)
      have hn : (Int32.ofNat (s.2.1 j)).toNatClampNeg = s.2.1 j := q_n (by omega)
      by_cases hp : p < 0 ∨ ¬ (p < Int32.ofNat (s.2.2.2.2 j))
      · obtain ⟨E, ge, gm⟩ := g2' j hj hnj hlt
        obtain ⟨s1, s2⟩ := q_MRsm gm
        have fj : E.1 63 (s.2.1 j) = Int32.ofNat (s.2.2.2.2 j) := gm.2.2.2.2.2.1 j hj
        exact q_stI hr (q_jP (s_X11_errandAt g d a p hg.2.1 hg.2.2.1 hg.2.2.2.2.1) (x := -1) (d1 := j_sI d1 0 11 1) (by
          unfold f_X11_errandAt f_X11_errandAt_j64 f_X1_movesTo j_let
          rw [if_pos k1, c1, Option.bind_some]
          dsimp only
          rw [fe, if_neg (q_nem1 (by omega)), dj]
          rcases hp with hp | hp
          · rw [if_pos hp, q_xre]
          · rw [if_neg hp, ite_self, q_xre])) (q_jP (s_X13_errandAt g _ t p hg.2.1 hts hla) (d1 := q_fin E 1) (by
          unfold f_X13_errandAt f_X13_errandAt_j42 j_let
          rw [q_dMe, ge, Option.bind_some]
          dsimp only
          rw [if_neg (q_nem1 (by omega)), if_neg ho, hn, fj]
          rcases hp with hp | hp
          · rw [if_pos hp, q_ref]
          · rw [if_neg hp, ite_self, q_ref])) (rr.ans q_K0ok (q_fin_ans s1 s2 (by decide)))
      · have h0 : ¬ (p < 0) := fun y => hp (Or.inl y)
        have h1 : p < Int32.ofNat (s.2.2.2.2 j) := Classical.not_not.mp (fun y => hp (Or.inr y))
        obtain ⟨q, hq, rfl⟩ := q_idx h0 (fun y => q_nle.mpr h1 y) (n := s.2.2.2.2 j) (by omega)
        obtain ⟨E, ge, gm⟩ := g2 j hj hnj hlt
        obtain ⟨s1, s2⟩ := q_MRsm gm
        have fj : E.1 63 (s.2.1 j) = Int32.ofNat (s.2.2.2.2 j) := gm.2.2.2.2.2.1 j hj
        have mc := q_mvtC hG si c2 hj hq
        obtain ⟨c, x1, x2, x3⟩ := q_mvtM (t := t) hG si gm hj hq
        refine q_stI hr (q_jP (s_X11_errandAt g d a _ hg.2.1 hg.2.2.1 hg.2.2.2.2.1) (x := Int32.ofNat (s.2.2.2.1 (q_up s j (s.2.2.2.2 j - 1 - q)))) (d1 := j_sI d1 0 11 0) ?_) (q_jP (s_X13_errandAt g _ t _ hg.2.1 hts hla) (d1 := q_fin E 0) ?_) (rr.ans q_K0ok (q_fin_ans s1 s2 (by decide)))
        · unfold f_X11_errandAt f_X1_movesTo j_let
          rw [if_pos k1, c1, Option.bind_some]
          dsimp only
          rw [fe, if_neg (q_nem1 (by omega)), dj, if_neg h0, if_pos h1, mc, Option.bind_some]
          rfl
        · unfold f_X13_errandAt j_let
          rw [q_dMe, ge, Option.bind_some]
          dsimp only
          rw [if_neg (q_nem1 (by omega)), if_neg h0, if_neg ho, hn, fj, if_pos h1, x1, Option.bind_some, if_neg (q_in (i := c) (n := 729) x2 (by decide)), q_n (by omega), x3, q_good]
