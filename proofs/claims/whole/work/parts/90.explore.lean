/-! tier two: the class's errands explored -/
section QE
variable {G P F W L a t : Nat} {d : JD} {ws : Int32}
theorem q_nxlt (hL : q_LR G P F W L (q_rows d a) (q_rows d t)) (hN : q_NR G (q_rows d a) (q_rows d t) (d.1 22 0) (d.1 22 1) (d.1 22 2) (d.1 59)) : ∀ c k c', c < 3 ^ G → k < 4 * G → q_nx (d.1 a) G c k = some c' → c' < 3 ^ G := by
  intro c k c' hc hk e
  rcases q_nxX hL hN (c := c) (x' := q_dig G c) (fun _ _ => rfl) hk with ⟨-, -, h⟩ | ⟨c1, h1, -, -, h2, -⟩
  · rw [h] at e; cases e
  · rw [h2] at e; cases e; exact h1
theorem q_exf (hL : q_LR G P F W L (q_rows d a) (q_rows d t)) (hN : q_NR G (q_rows d a) (q_rows d t) (d.1 22 0) (d.1 22 1) (d.1 22 2) (d.1 59)) (ha : a = 42 ∨ a = 4) {D : JD} {s : q_S} (h : q_CR G d ws D s) (hs : q_SI (3 ^ G) (4 * G) s) {i : Nat} (hi : i < s.1) : ∃ D', f_X1_exploreFrom a D (Int32.ofNat i) = some D' ∧ q_CR G d ws D' (q_it (fun k s => q_bst (q_nx (d.1 a) G) i k s) (4 * G) s) := by
  have hG1 := hL.1.1.1
  have hG := hL.1.1.2.1
  have e4 : d.1 a 4 = Int32.ofNat G := hL.1.2.1.1
  have hle := hs.le
  have pw := q_pw43 ⟨G, by omega⟩
  dsimp only at pw
  have hx := q_nxlt hL hN
  have key := q_inv (F := f_X1_exploreFrom_w2 a (Int32.ofNat i)) (τ := fun q (u : Int32 × JD) => u.1 = Int32.ofNat q ∧ q_CR G d ws u.2 (q_it (fun k s => q_bst (q_nx (d.1 a) G) i k s) (q * G) s)) (ρ := fun e => q_CR G d ws e (q_it (fun k s => q_bst (q_nx (d.1 a) G) i k s) (4 * G) s)) (n := 4) (by omega) (by
    intro q hq u hu
    obtain ⟨u1, E⟩ := u
    obtain ⟨e1, hE⟩ := hu
    dsimp only at e1 hE
    subst e1
    have inner := q_inv (F := f_X1_exploreFrom_w10_2 a (Int32.ofNat i) (Int32.ofNat q)) (τ := fun g (u : Int32 × JD) => u.1 = Int32.ofNat g ∧ q_CR G d ws u.2 (q_it (fun k s => q_bst (q_nx (d.1 a) G) i k s) (q * G + g) s)) (ρ := fun e => q_CR G d ws e (q_it (fun k s => q_bst (q_nx (d.1 a) G) i k s) (q * G + G) s)) (n := G) (by omega) (by
      intro g hg u hu
      obtain ⟨u1, E⟩ := u
      obtain ⟨e1, hE⟩ := hu
      dsimp only at e1 hE
      subst e1
      have hq4 : q * G ≤ 3 * G := Nat.mul_le_mul_right G (by omega)
      have hk : q * G + g < 4 * G := by omega
      obtain ⟨si, sl⟩ := hs.its hx hi (q * G + g) (by omega)
      have st : q_it (fun k s => q_bst (q_nx (d.1 a) G) i k s) (q * G + (g + 1)) s = q_bst (q_nx (d.1 a) G) i (q * G + g) (q_it (fun k s => q_bst (q_nx (d.1 a) G) i k s) (q * G + g) s) := rfl
      rw [st]
      generalize q_it (fun k s => q_bst (q_nx (d.1 a) G) i k s) (q * G + g) s = s' at hE si sl
      have Ea : E.1 a = d.1 a := hE.1 a (by omega)
      have k2 := q_go (n := G) (by omega) hg
      have hi' : i < s'.1 := by omega
      have hle' := si.le
      have eqd : (q * G + g) / G = q := by
        rw [Nat.add_comm, Nat.add_mul_div_right _ _ (by omega), Nat.div_eq_of_lt hg, Nat.zero_add]
      have eqm : (q * G + g) % G = g := by
        rw [Nat.add_comm, Nat.add_mul_mod_self_right, Nat.mod_eq_of_lt hg]
      have mv : Int32.ofNat q * Int32.ofNat G + Int32.ofNat g = Int32.ofNat (q * G + g) := by rw [Int32.ofNat_add, Int32.ofNat_mul]
      unfold f_X1_exploreFrom_w10_2 f_X1_exploreFrom_j58_2_10 j_let
      dsimp only
      rw [Ea, e4, if_neg k2, q_at (by omega) (by decide), (hE.2.2.1.2 i hi').1, q_s, mv]
      have nx := q_nxX hL hN (c := s'.2.1 i) (x' := q_dig G (s'.2.1 i)) (fun _ _ => rfl) hk
      rw [eqd, eqm] at nx
      unfold q_bst
      rcases nx with ⟨-, n1, n2⟩ | ⟨c', n0, -, n1, n2, -⟩
      · rw [n1, if_pos rfl, n2]
        exact ⟨_, rfl, rfl, hE⟩
      · rw [n1, if_neg (q_codne (q_dig_WY G c').1), n2]
        exact ⟨_, rfl, rfl, q_addC hG n0 hE si hi' hk⟩) (by
      intro u hu
      obtain ⟨u1, E⟩ := u
      obtain ⟨e1, hE⟩ := hu
      dsimp only at e1 hE
      subst e1
      have Ea : E.1 a = d.1 a := hE.1 a (by omega)
      unfold f_X1_exploreFrom_w10_2
      dsimp only
      rw [Ea, e4, if_pos (q_end (by omega))]
      exact ⟨_, rfl, hE⟩) (t := (0, E)) ⟨rfl, hE⟩
    obtain ⟨E', i1, i2⟩ := inner
    have k3 : ¬ ((3 : Int32) < Int32.ofNat q) := fun z => by
      have := (q_lt (n := 3) (by decide) (by omega)).mp z
      omega
    unfold f_X1_exploreFrom_w2
    dsimp only
    rw [if_neg k3, i1, Option.bind_some, q_s]
    refine ⟨_, rfl, rfl, ?_⟩
    have : (q + 1) * G = q * G + G := Nat.succ_mul q G
    rw [this]
    exact i2) (by
    intro u hu
    obtain ⟨u1, E⟩ := u
    obtain ⟨e1, hE⟩ := hu
    dsimp only at e1 hE
    subst e1
    unfold f_X1_exploreFrom_w2
    dsimp only
    rw [if_pos (show (3 : Int32) < Int32.ofNat 4 by decide)]
    exact ⟨_, rfl, hE⟩) (t := (0, D)) ⟨rfl, by rw [Nat.zero_mul]; exact h⟩
  obtain ⟨E, k1, k2⟩ := key
  refine ⟨E, ?_, k2⟩
  unfold f_X1_exploreFrom
  rw [k1, Option.bind_some]
theorem q_explC (hL : q_LR G P F W L (q_rows d a) (q_rows d t)) (hN : q_NR G (q_rows d a) (q_rows d t) (d.1 22 0) (d.1 22 1) (d.1 22 2) (d.1 59)) (ha : a = 42 ∨ a = 4) (hk : q_KE (q_rows d a) (q_rows d 32)) : ∃ d1, f_X1_explore a d (d.1 22 0) = some d1 ∧ (∀ b, b < 32 ∨ 37 < b → d1.1 b = d.1 b) ∧ d1.1 32 5 = q_cod (q_dig G (q_num (d.1 59) G)) ∧ q_eqB G (q_bf (q_nx (d.1 a) G) (4 * G) (q_num (d.1 59) G) 729) (d1.1 32 6) (d1.1 33) (d1.1 34) (d1.1 35) (d1.1 36) := by
  have hG1 := hL.1.1.1
  have hG := hL.1.1.2.1
  have e4 : d.1 a 4 = Int32.ofNat G := hL.1.2.1.1
  have pw := q_pw43 ⟨G, by omega⟩
  dsimp only at pw
  have hx := q_nxlt hL hN
  have hc0 := q_num_lt hN.1.1 G hG
  have ew : d.1 22 0 = q_cod (q_dig G (q_num (d.1 59) G)) := hN.2.1.trans (q_num_w hG hN.1).2
  rw [ew]
  generalize q_num (d.1 59) G = c0 at hc0
  unfold f_X1_explore j_let
  by_cases z : d.1 32 5 = q_cod (q_dig G c0)
  · rw [if_pos z]
    refine ⟨d, rfl, fun _ _ => rfl, z, ?_⟩
    rcases hk with hk | ⟨G', c, g1, g2, g3, g4, g5⟩
    · have : d.1 32 5 = -1 := hk
      exact absurd (z.symm.trans this) (q_codne (q_dig_WY G c0).1)
    · have : G' = G := by
        have e : Int32.ofNat G = Int32.ofNat G' := e4.symm.trans g2
        exact ((q_eq (by omega) (by omega)).mp e).symm
      subst this
      have : c = c0 := q_wj hG g3 hc0 (g4.symm.trans z)
      subst this
      exact g5
  · rw [if_neg z]
    generalize hD0 : j_sI (j_sI d 32 5 (q_cod (q_dig G c0))) 32 6 0 = D0
    have o0 : ∀ b, b ≠ 32 → D0.1 b = d.1 b := fun b hb => by rw [← hD0, q_sI_o hb, q_sI_o hb]
    have a5 : D0.1 32 5 = q_cod (q_dig G c0) := by rw [← hD0, q_sI_a, q_upd_o (by decide), q_sI_a, q_upd_a]
    have a6 : D0.1 32 6 = Int32.ofNat 0 := by rw [← hD0, q_sI_a, q_upd_a]; rfl
    obtain ⟨D1, l1, l2, l3⟩ := q_inv (F := f_X1_explore_w21 a (q_cod (q_dig G c0))) (τ := fun i (u : Int32 × JD) => u.1 = Int32.ofNat i ∧ (∀ b, b ≠ 37 → u.2.1 b = D0.1 b) ∧ ∀ k, k < i → u.2.1 37 k = 0) (ρ := fun e => (∀ b, b ≠ 37 → e.1 b = D0.1 b) ∧ ∀ k, k < 128 → e.1 37 k = 0) (n := 128) (by omega) (by
      intro i hi u hu
      obtain ⟨u1, E⟩ := u
      obtain ⟨e1, h1, h2⟩ := hu
      dsimp only at e1 h1 h2
      subst e1
      unfold f_X1_explore_w21
      dsimp only
      rw [if_neg (show ¬ ((128 : Int32) ≤ Int32.ofNat i) from q_go (n := 128) (by decide) hi), if_neg (q_in hi (by decide)), q_n (by omega), q_s]
      refine ⟨_, rfl, rfl, fun b hb => by rw [q_sI_o hb, h1 b hb], fun k hk => ?_⟩
      dsimp only
      rw [q_sI_a]
      by_cases y : k = i
      · rw [y, q_upd_a]
      · rw [q_upd_o y]; exact h2 k (by omega)) (by
      intro u hu
      obtain ⟨u1, E⟩ := u
      obtain ⟨e1, h1, h2⟩ := hu
      dsimp only at e1 h1 h2
      subst e1
      unfold f_X1_explore_w21
      dsimp only
      rw [if_pos (show (128 : Int32) ≤ Int32.ofNat 128 from q_end (n := 128) (by decide))]
      exact ⟨_, rfl, h1, h2⟩) (t := (0, D0)) ⟨rfl, fun _ _ => rfl, fun k hk => absurd hk (by omega)⟩
    rw [l1, Option.bind_some]
    have wi : ∀ c, c < 3 ^ G → q_wc G c / 32 < 128 := fun c hc => by
      have := (q_wi hG hc).1
      omega
    have D16 : D1.1 32 6 = Int32.ofNat 0 := by rw [l2 32 (by decide), a6]
    have z37 : ∀ c, c < 3 ^ G → D1.1 37 (q_wc G c / 32) = 0 := fun c hc => l3 _ (wi c hc)
    have first : q_CR G d (q_cod (q_dig G c0)) (f_X1_add D1 (q_cod (q_dig G c0)) (-1) (-1)) (q_b0 c0) := by
      rw [q_addE hG hc0 D16, z37 c0 hc0, q_hb0, if_neg (by decide), if_pos (by decide), if_pos rfl]
      obtain ⟨r32, r33, r34, r35, r36, r37⟩ := q_ad_r D1 (q_wc G c0 / 32) (0 ||| ((1 : Int32) <<< ((Int32.ofNat (q_wc G c0 % 32)) &&& 31))) 0 (q_cod (q_dig G c0)) (-1) (-1) 0 (Int32.ofNat (0 + 1))
      refine ⟨fun b hb => (q_ad_o _ _ _ _ _ _ _ _ _ hb).trans ((l2 b (by omega)).trans (o0 b (by omega))), ?_, ⟨?_, fun j hj => ?_⟩, fun c' hc' => ?_⟩
      · rw [r32, q_upd_o (by decide), l2 32 (by decide), a5]
      · rw [r32, q_upd_a]; rfl
      · have hj' : j < 1 := hj
        have : j = 0 := by omega
        subst this
        rw [r33, r36, q_upd_a, q_upd_a]
        exact ⟨rfl, rfl, fun y => absurd y (by omega)⟩
      · rw [r37]
        show _ = (decide (c0 = c') || false)
        rw [Bool.or_false]
        by_cases y : q_wc G c' / 32 = q_wc G c0 / 32
        · rw [y, q_upd_a, q_hbor _ (Nat.mod_lt _ (by decide)) (Nat.mod_lt _ (by decide)), q_hb0, Bool.false_or]
          by_cases x : q_wc G c0 % 32 = q_wc G c' % 32
          · have := q_wcj hG hc0 hc' y.symm x
            rw [this, decide_eq_true rfl, decide_eq_true rfl]
          · rw [decide_eq_false x, decide_eq_false (fun e => x (by rw [e]))]
        · rw [q_upd_o y, z37 c' hc', q_hb0, decide_eq_false (fun e => y (by rw [e]))]
    dsimp only
    generalize f_X1_add D1 (q_cod (q_dig G c0)) (-1) (-1) = D2 at first
    obtain ⟨j, j1, j2, j3, j4⟩ := q_bf_end (K := 4 * G) hx pw.2.1 hc0
    obtain ⟨D3, w1, w2⟩ := q_inv (F := f_X1_explore_w52 a) (τ := fun i (u : Int32 × JD) => u.1 = Int32.ofNat i ∧ q_CR G d (q_cod (q_dig G c0)) u.2 (q_bf (q_nx (d.1 a) G) (4 * G) c0 i)) (ρ := fun e => q_CR G d (q_cod (q_dig G c0)) e (q_bf (q_nx (d.1 a) G) (4 * G) c0 j)) (n := j) (by omega) (by
      intro i hi u hu
      obtain ⟨u1, E⟩ := u
      obtain ⟨e1, hE⟩ := hu
      dsimp only at e1 hE
      subst e1
      have hin := j3 i hi
      have si := q_SI.bf (K := 4 * G) hx hc0 i
      have hle := si.le
      obtain ⟨E', x1, x2⟩ := q_exf hL hN ha hE si hin
      have st : q_bf (q_nx (d.1 a) G) (4 * G) c0 (i + 1) = q_it (fun k s => q_bst (q_nx (d.1 a) G) i k s) (4 * G) (q_bf (q_nx (d.1 a) G) (4 * G) c0 i) := by
        show q_bfr (q_nx (d.1 a) G) (4 * G) i (q_bf (q_nx (d.1 a) G) (4 * G) c0 i) = _
        unfold q_bfr
        rw [if_pos hin]
      rw [st]
      unfold f_X1_explore_w52
      dsimp only
      rw [hE.2.2.1.1, if_neg (q_go (by omega) hin), if_neg (show ¬ ((729 : Int32) ≤ Int32.ofNat i) from q_go (n := 729) (by decide) (by omega)), x1, Option.bind_some, q_s]
      exact ⟨_, rfl, rfl, x2⟩) (by
      intro u hu
      obtain ⟨u1, E⟩ := u
      obtain ⟨e1, hE⟩ := hu
      dsimp only at e1 hE
      subst e1
      unfold f_X1_explore_w52
      dsimp only
      rw [hE.2.2.1.1, j2, if_pos (q_end (by omega))]
      exact ⟨_, rfl, hE⟩) (t := (0, D2)) ⟨rfl, first⟩
    rw [w1, Option.bind_some]
    refine ⟨D3, rfl, w2.1, w2.2.1, ?_⟩
    rw [j4]
    exact w2.2.2.1
end QE
