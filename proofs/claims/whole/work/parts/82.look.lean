/-! tier two: where to look -/
def q_mlx (A : Nat → Nat → Int32) (L k n : Nat) : Nat := q_it (fun h s => if s < q_hk A L k h (3 ^ L) then q_hk A L k h (3 ^ L) else s) n 0
theorem q_mlx_le (A : Nat → Nat → Int32) (L k : Nat) : ∀ n, q_mlx A L k n ≤ q_rk (q_ft A L) (3 ^ L)
  | 0 => Nat.zero_le _
  | n + 1 => by
    have h1 := q_mlx_le A L k n
    have h2 := q_hk_le A L k n (3 ^ L)
    show (if q_mlx A L k n < q_hk A L k n (3 ^ L) then q_hk A L k n (3 ^ L) else q_mlx A L k n) ≤ _
    split <;> omega
theorem q_mlC {A : Nat → Nat → Int32} {L k : Nat} (hL : L ≤ 4) (hk : k < L) {r39 r40 : Nat → Int32} (e2 : r39 2 = Int32.ofNat (q_rk (q_ft A L) (3 ^ L))) (e40 : ∀ c, c < 3 ^ L → q_ft A L c = true → r40 (q_rk (q_ft A L) c) = q_cod (q_dig L c)) : f_X2_mostLeft r39 r40 (Int32.ofNat k) = some (Int32.ofNat (q_mlx A L k 3)) := by
  obtain ⟨p4, p3, p1⟩ := q_L81 hL
  have rle := q_rk_le (q_ft A L) (3 ^ L)
  unfold f_X2_mostLeft
  have l := q_run (F := f_X2_mostLeft_w4 r39 r40 (Int32.ofNat k)) (fun i => (Int32.ofNat (q_mlx A L k i), Int32.ofNat i)) (e := Int32.ofNat (q_mlx A L k 3)) 3 (by decide) (fun i hi => by
    have b1 := q_mlx_le A L k i
    have b2 := q_hk_le A L k i (3 ^ L)
    have z1 : ¬ ((2 : Int32) < Int32.ofNat i) := q_le_go (n := 2) (by decide) (by omega)
    show f_X2_mostLeft_w4 r39 r40 (Int32.ofNat k) (Int32.ofNat (q_mlx A L k i), Int32.ofNat i) = some (Sum.inl (Int32.ofNat (if q_mlx A L k i < q_hk A L k i (3 ^ L) then q_hk A L k i (3 ^ L) else q_mlx A L k i), Int32.ofNat (i + 1)))
    unfold f_X2_mostLeft_w4
    dsimp only
    rw [if_neg z1, q_chC hL hk e2 e40, q_s]
    by_cases c : q_mlx A L k i < q_hk A L k i (3 ^ L)
    · rw [if_pos c, if_pos ((q_lt (by omega) (by omega)).mpr c)]
    · rw [if_neg c, if_neg (fun y => c ((q_lt (by omega) (by omega)).mp y))]) (by
    unfold f_X2_mostLeft_w4
    dsimp only
    rw [if_pos (show (2 : Int32) < Int32.ofNat 3 from q_le_end (n := 2) (by decide))])
  have l' : j_wh (f_X2_mostLeft_w4 r39 r40 (Int32.ofNat k)) j_fuel (0, 0) = some (Int32.ofNat (q_mlx A L k 3)) := l
  rw [l']
  rfl
/-- where to look, and what it leaves -/
def q_lkv (A : Nat → Nat → Int32) (L k : Nat) (x y : Int32) : Prop := (x = -2 ∧ y = -2 ∧ k = 0) ∨ ∃ b, b < k ∧ x = Int32.ofNat b ∧ y = Int32.ofNat (q_mlx A L b 3)
theorem q_bestCM {G P F W L a t : Nat} {d d1 D0 : JD} (hL : q_LR G P F W L (q_rows d a) (q_rows d t)) (h68 : 68 ≤ t) (f2 : d1.1 39 2 = Int32.ofNat (q_rk (q_ft (q_rows d a) L) (3 ^ L))) (f3 : ∀ c, c < 3 ^ L → q_ft (q_rows d a) L c = true → d1.1 40 (q_rk (q_ft (q_rows d a) L) c) = q_cod (q_dig L c)) (et : ∀ j, D0.1 (t + j) = d.1 (t + j)) : ∃ (x y : Int32) (D : JD), f_X2_bestToLookAt (d1.1 39) (d1.1 40) (Int32.ofNat L) = some x ∧ f_X13_looks t D0 = some (x, D) ∧ D.1 57 28 = y ∧ (∀ b, b ≠ 57 → b ≠ 60 → b ≠ 66 → D.1 b = D0.1 b) ∧ (∀ k, k ≠ 25 → k ≠ 26 → k ≠ 28 → D.1 57 k = D0.1 57 k) ∧ ((x = -2 ∧ y = -2) ∨ ∃ b, b < L ∧ x = Int32.ofNat b ∧ y = Int32.ofNat (q_mlx (q_rows d a) L b 3)) := by
  have hL4 := hL.1.1.2.2.2.2.2
  have e7 : d.1 t 7 = Int32.ofNat L := hL.1.2.2.2.2.2.1.2
  obtain ⟨p4, p3, p1⟩ := q_L81 hL4
  have rle := q_rk_le (q_ft (q_rows d a) L) (3 ^ L)
  obtain ⟨D1, m1, m2, m3, m4, m5, m6⟩ := q_fitM (D0 := D0) hL h68 et (-1)
  have mlM : ∀ (E : JD) (x : Int32) (k : Nat), k < L → (∀ j, E.1 66 j = D1.1 66 j) → j_wh (f_X13_looks_w39_16 t x (Int32.ofNat k) E) j_fuel (0, 0) = some (Int32.ofNat (q_mlx (q_rows d a) L k 3)) := by
    intro E x k hk hE
    exact q_run (F := f_X13_looks_w39_16 t x (Int32.ofNat k) E) (fun i => (Int32.ofNat (q_mlx (q_rows d a) L k i), Int32.ofNat i)) (e := Int32.ofNat (q_mlx (q_rows d a) L k 3)) 3 (by decide) (fun i hi => by
      have b1 := q_mlx_le (q_rows d a) L k i
      have b2 := q_hk_le (q_rows d a) L k i (3 ^ L)
      have z1 : ¬ ((3 : Int32) ≤ Int32.ofNat i) := q_go (n := 3) (by decide) hi
      have ix : (3 : Int32) * Int32.ofNat k + Int32.ofNat i = Int32.ofNat (3 * k + i) := by
        rw [show (3 : Int32) = Int32.ofNat 3 from rfl, q_mul, ← Int32.ofNat_add]
      have no : ¬ j_out (Int32.ofNat (3 * k + i)) 12 := q_in (by omega) (by decide)
      show f_X13_looks_w39_16 t x (Int32.ofNat k) E (Int32.ofNat (q_mlx (q_rows d a) L k i), Int32.ofNat i) = some (Sum.inl (Int32.ofNat (if q_mlx (q_rows d a) L k i < q_hk (q_rows d a) L k i (3 ^ L) then q_hk (q_rows d a) L k i (3 ^ L) else q_mlx (q_rows d a) L k i), Int32.ofNat (i + 1)))
      unfold f_X13_looks_w39_16 f_X13_looks_j72_16_39
      dsimp only
      rw [if_neg z1, ix, if_neg no, if_neg no, q_n (by omega), hE, m6 k hk i hi, q_s]
      by_cases c : q_mlx (q_rows d a) L k i < q_hk (q_rows d a) L k i (3 ^ L)
      · rw [if_pos c, if_neg (q_go (by omega) c)]
      · rw [if_neg c, if_pos ((q_le (by omega) (by omega)).mpr (by omega))]) (by
      unfold f_X13_looks_w39_16
      dsimp only
      rw [if_pos (show (3 : Int32) ≤ Int32.ofNat 3 from q_end (n := 3) (by decide))])
  by_cases z : q_rk (q_ft (q_rows d a) L) (3 ^ L) = 0
  · refine ⟨-2, -2, j_sI D1 57 28 (-2), ?_, ?_, ?_, ?_, ?_, Or.inl ⟨rfl, rfl⟩⟩
    · unfold f_X2_bestToLookAt
      rw [f2, z, if_pos (by rfl)]
    · unfold f_X13_looks
      rw [m1, Option.bind_some]
      have l := q_run (F := f_X13_looks_w16 t) (fun i => ((-2 : Int32), Int32.ofNat i, j_sI D1 57 28 (-2))) (e := (-2, j_sI D1 57 28 (-2))) 0 (by decide) (fun i hi => absurd hi (by omega)) (by
        have q25 : (j_sI D1 57 28 (-2)).1 57 25 ≤ 0 := by
          rw [q_sI_a]
          show (if 25 = 28 then _ else D1.1 57 25) ≤ 0
          rw [if_neg (by decide), m4, z]
          decide
        unfold f_X13_looks_w16
        dsimp only
        rw [if_pos q25]
        split <;> rfl)
      have l' : j_wh (f_X13_looks_w16 t) j_fuel (-2, 0, j_sI D1 57 28 (-2)) = some (-2, j_sI D1 57 28 (-2)) := l
      rw [l']
      rfl
    · rw [q_sI_a, q_upd_a]
    · intro b h1 h2 h3
      rw [q_sI_o h1, m2 b h1 h2 h3]
    · intro k h1 h2 h3
      rw [q_sI_a]
      unfold upd
      rw [if_neg h3, m3 k h1 h2]
  · have nz : ¬ (Int32.ofNat (q_rk (q_ft (q_rows d a) L) (3 ^ L)) = 0) := fun y => z ((q_eq (i := 0) (by omega) (by decide)).mp y)
    obtain ⟨x, l1, y, l2⟩ := q_inv (n := L) (by omega) (τ := fun k (q : Int32 × Int32 × Int32) => ∃ x f, q = (x, f, Int32.ofNat k) ∧ ((k = 0 ∧ x = -2 ∧ f = Int32.ofNat (q_rk (q_ft (q_rows d a) L) (3 ^ L)) + 1 ∧ ∃ D, j_wh (f_X13_looks_w16 t) j_fuel (-2, 0, j_sI D1 57 28 (-2)) = j_wh (f_X13_looks_w16 t) (j_fuel - k) (x, Int32.ofNat k, D) ∧ (∀ b, b ≠ 57 → D.1 b = D1.1 b) ∧ (∀ j, j ≠ 28 → D.1 57 j = D1.1 57 j) ∧ D.1 57 28 = -2) ∨ ∃ b, b < k ∧ x = Int32.ofNat b ∧ f = Int32.ofNat (q_mlx (q_rows d a) L b 3) ∧ ∃ D, j_wh (f_X13_looks_w16 t) j_fuel (-2, 0, j_sI D1 57 28 (-2)) = j_wh (f_X13_looks_w16 t) (j_fuel - k) (x, Int32.ofNat k, D) ∧ (∀ b, b ≠ 57 → D.1 b = D1.1 b) ∧ (∀ j, j ≠ 28 → D.1 57 j = D1.1 57 j) ∧ D.1 57 28 = f)) (ρ := fun x => ∃ y, ((x = -2 ∧ y = -2) ∨ ∃ b, b < L ∧ x = Int32.ofNat b ∧ y = Int32.ofNat (q_mlx (q_rows d a) L b 3)) ∧ ∃ D, j_wh (f_X13_looks_w16 t) j_fuel (-2, 0, j_sI D1 57 28 (-2)) = some (x, D) ∧ (∀ b, b ≠ 57 → D.1 b = D1.1 b) ∧ (∀ j, j ≠ 28 → D.1 57 j = D1.1 57 j) ∧ D.1 57 28 = y) (F := f_X2_bestToLookAt_w23 (d1.1 39) (d1.1 40) (Int32.ofNat L)) (t := (-2, Int32.ofNat (q_rk (q_ft (q_rows d a) L) (3 ^ L)) + 1, 0))
      (fun k hk q hq => by
        obtain ⟨x, f, rfl, hq⟩ := hq
        have k2 := q_go (n := L) (by omega) hk
        have mc := q_mlC hL4 hk f2 f3
        have mle := q_mlx_le (q_rows d a) L k 3
        have fu : j_fuel - k = (j_fuel - (k + 1)) + 1 := by unfold j_fuel; omega
        -- one step of the reference
        have stepM : ∀ (x : Int32) (D : JD), (∀ b, b ≠ 57 → D.1 b = D1.1 b) → (∀ j, j ≠ 28 → D.1 57 j = D1.1 57 j) → f_X13_looks_w16 t (x, Int32.ofNat k, D) = if x = -2 then some (Sum.inl (Int32.ofNat k, Int32.ofNat (k + 1), j_sI D 57 28 (Int32.ofNat (q_mlx (q_rows d a) L k 3)))) else if Int32.ofNat (q_mlx (q_rows d a) L k 3) < D.1 57 28 then some (Sum.inl (Int32.ofNat k, Int32.ofNat (k + 1), j_sI D 57 28 (Int32.ofNat (q_mlx (q_rows d a) L k 3)))) else some (Sum.inl (x, Int32.ofNat (k + 1), D)) := by
          intro x D h1 h2
          have Dt0 : D.1 t = d.1 t := by
            rw [h1 _ (by omega), m2 _ (by omega) (by omega) (by omega)]
            exact et 0
          have q25 : ¬ (D.1 57 25 ≤ 0) := by
            rw [h2 25 (by decide), m4]
            exact q_go (n := q_rk (q_ft (q_rows d a) L) (3 ^ L)) (i := 0) (by omega) (by omega)
          unfold f_X13_looks_w16 f_X13_looks_j95_16 f_X13_looks_j102_16
          dsimp only
          rw [Dt0, e7, if_neg k2, if_neg q25, mlM D x k hk (fun j => by rw [h1 66 (by decide)]), Option.bind_some, q_s]
        have after : ∀ (x : Int32) (D D' : JD) (x' : Int32), f_X13_looks_w16 t (x, Int32.ofNat k, D) = some (Sum.inl (x', Int32.ofNat (k + 1), D')) → j_wh (f_X13_looks_w16 t) (j_fuel - k) (x, Int32.ofNat k, D) = j_wh (f_X13_looks_w16 t) (j_fuel - (k + 1)) (x', Int32.ofNat (k + 1), D') := by
          intro x D D' x' e
          rw [fu]
          show (f_X13_looks_w16 t (x, Int32.ofNat k, D)).bind _ = _
          rw [e]
          rfl
        have up : ∀ D : JD, (∀ b, b ≠ 57 → D.1 b = D1.1 b) → (∀ j, j ≠ 28 → D.1 57 j = D1.1 57 j) → (∀ b, b ≠ 57 → (j_sI D 57 28 (Int32.ofNat (q_mlx (q_rows d a) L k 3))).1 b = D1.1 b) ∧ (∀ j, j ≠ 28 → (j_sI D 57 28 (Int32.ofNat (q_mlx (q_rows d a) L k 3))).1 57 j = D1.1 57 j) ∧ (j_sI D 57 28 (Int32.ofNat (q_mlx (q_rows d a) L k 3))).1 57 28 = Int32.ofNat (q_mlx (q_rows d a) L k 3) := by
          intro D h1 h2
          refine ⟨fun b hb => by rw [q_sI_o hb, h1 b hb], fun j hj => ?_, by rw [q_sI_a, q_upd_a]⟩
          rw [q_sI_a]
          unfold upd
          rw [if_neg hj, h2 j hj]
        rcases hq with ⟨k0, rfl, rfl, D, w1, w2, w3, w4⟩ | ⟨b, hb, rfl, rfl, D, w1, w2, w3, w4⟩
        · have hlt : ¬ (Int32.ofNat (q_rk (q_ft (q_rows d a) L) (3 ^ L)) + 1 ≤ Int32.ofNat (q_mlx (q_rows d a) L k 3)) := by
            rw [q_s, q_le (by omega) (by omega)]; omega
          refine ⟨(Int32.ofNat k, Int32.ofNat (q_mlx (q_rows d a) L k 3), Int32.ofNat (k + 1)), ?_, _, _, rfl, Or.inr ⟨k, by omega, rfl, rfl, j_sI D 57 28 (Int32.ofNat (q_mlx (q_rows d a) L k 3)), ?_, up D w2 w3⟩⟩
          · unfold f_X2_bestToLookAt_w23 f_X2_bestToLookAt_j49_23
            dsimp only
            rw [if_neg k2, mc, Option.bind_some, if_neg hlt, q_s]
          · rw [w1]
            exact after _ _ _ _ (by rw [stepM _ D w2 w3, if_pos rfl])
        · have b2 : ¬ (Int32.ofNat b = -2) := q_ne2 (by omega)
          have mle2 := q_mlx_le (q_rows d a) L b 3
          by_cases c : q_mlx (q_rows d a) L k 3 < q_mlx (q_rows d a) L b 3
          · refine ⟨(Int32.ofNat k, Int32.ofNat (q_mlx (q_rows d a) L k 3), Int32.ofNat (k + 1)), ?_, _, _, rfl, Or.inr ⟨k, by omega, rfl, rfl, j_sI D 57 28 (Int32.ofNat (q_mlx (q_rows d a) L k 3)), ?_, up D w2 w3⟩⟩
            · unfold f_X2_bestToLookAt_w23 f_X2_bestToLookAt_j49_23
              dsimp only
              rw [if_neg k2, mc, Option.bind_some, if_neg (q_go (by omega) c), q_s]
            · rw [w1]
              exact after _ _ _ _ (by rw [stepM _ D w2 w3, if_neg b2, w4, if_pos ((q_lt (by omega) (by omega)).mpr c)])
          · refine ⟨(Int32.ofNat b, Int32.ofNat (q_mlx (q_rows d a) L b 3), Int32.ofNat (k + 1)), ?_, _, _, rfl, Or.inr ⟨b, by omega, rfl, rfl, D, ?_, w2, w3, w4⟩⟩
            · unfold f_X2_bestToLookAt_w23 f_X2_bestToLookAt_j49_23
              dsimp only
              rw [if_neg k2, mc, Option.bind_some, if_pos ((q_le (by omega) (by omega)).mpr (by omega)), q_s]
            · rw [w1]
              exact after _ _ _ _ (by rw [stepM _ D w2 w3, if_neg b2, w4, if_neg (fun y => c ((q_lt (by omega) (by omega)).mp y))]))
      (fun q hq => by
        obtain ⟨x, f, rfl, hq⟩ := hq
        have fin : ∀ (D : JD), (∀ b, b ≠ 57 → D.1 b = D1.1 b) → j_wh (f_X13_looks_w16 t) (j_fuel - L) (x, Int32.ofNat L, D) = some (x, D) := by
          intro D h1
          have Dt0 : D.1 t = d.1 t := by
            rw [h1 _ (by omega), m2 _ (by omega) (by omega) (by omega)]
            exact et 0
          have fu : j_fuel - L = (j_fuel - L - 1) + 1 := by unfold j_fuel; omega
          rw [fu]
          show (f_X13_looks_w16 t (x, Int32.ofNat L, D)).bind _ = _
          unfold f_X13_looks_w16
          dsimp only
          rw [Dt0, e7, if_pos (q_end (by omega))]
          rfl
        refine ⟨x, ?_, ?_⟩
        · unfold f_X2_bestToLookAt_w23
          dsimp only
          rw [if_pos (q_end (by omega))]
        · rcases hq with ⟨-, h2, -, D, w1, w2, w3, w4⟩ | ⟨b, hb, h2, h3, D, w1, w2, w3, w4⟩
          · exact ⟨-2, Or.inl ⟨h2, rfl⟩, D, w1.trans (fin D w2), w2, w3, w4⟩
          · exact ⟨f, Or.inr ⟨b, hb, h2, h3⟩, D, w1.trans (fin D w2), w2, w3, w4⟩)
      ⟨_, _, rfl, Or.inl ⟨rfl, rfl, rfl, j_sI D1 57 28 (-2), rfl, fun b hb => q_sI_o hb, fun j hj => by
        rw [q_sI_a]
        unfold upd
        rw [if_neg hj], by rw [q_sI_a, q_upd_a]⟩⟩
    obtain ⟨l2, D, l3, l4, l5, l6⟩ := l2
    refine ⟨x, y, D, ?_, ?_, l6, fun b h1 h2 h3 => by rw [l4 b h1, m2 b h1 h2 h3], fun k h1 h2 h3 => by rw [l5 k h3, m3 k h1 h2], l2⟩
    · unfold f_X2_bestToLookAt
      rw [f2, if_neg nz, l1]
      rfl
    · unfold f_X13_looks
      rw [m1, Option.bind_some, l3]
      rfl
theorem q_27 : lw_st_27 (q_R q_K0) := by
  intro h r hz
  obtain ⟨g, d⟩ := h
  have hr := r
  obtain ⟨a, b, hg, ht, -, hk, hl⟩ := r
  rcases hl with ⟨hla, hn⟩ | ⟨t, h68, hla, hts, G, P, F, W, L, hL, hN, -⟩
  · obtain ⟨x, w, d2, e1, e2, e3⟩ := qn_look (a := a) (d := d) hn
    exact q_stI hr (q_jP (s_X11_look g d a hg.2.1 hg.2.2.1 hg.2.2.2.2.1) e1) (q_jT (s_X13_lookn g _ hg.2.1 hla) e2) (hr.ans q_K0ok e3)
  · dsimp only at hk hL hN
    have k1 : f_X11_hasLand (d.1 a) = true := q_hl1 (A := q_rows d a) (T := q_rows d t) hL
    obtain ⟨f1, f2, f3⟩ := q_findC hL hg.a hk.2.2
    have rr := q_findR hr hg hL hk
    have e9 : (f_X2_find a d).1 (a + 9) 4 = Int32.ofNat L := by
      rw [f1 _ (by rcases hg.a with z | z <;> omega) (by rcases hg.a with z | z <;> omega)]
      exact hL.1.2.2.2.2.2.1.1
    generalize hd1 : f_X2_find a d = d1 at f1 f2 f3 rr e9
    obtain ⟨x, y, D, m1, m2, m3, m4, m5, -⟩ := q_bestCM (d1 := d1) (D0 := q_dM d1 0) hL h68 f2 f3 (fun j => by rw [q_dM_o (by omega) (by omega), f1 _ (by omega) (by omega)])
    have s1 : q_sm d1 D := (q_dM_sm d1 0).trans ⟨fun b h0 h57 hf => m4 b h57 (fun z => by rw [z] at hf; cases hf) (fun z => by rw [z] at hf; cases hf), fun k hf => m5 k (fun z => by rw [z] at hf; cases hf) (fun z => by rw [z] at hf; cases hf) (fun z => by rw [z] at hf; cases hf), fun k _ => by rw [m4 0 (by decide) (by decide) (by decide)]⟩
    have s2 : D.1 0 11 = 0 := by
      rw [m4 0 (by decide) (by decide) (by decide)]
      exact q_dM_11 d1 0
    refine q_stI hr (q_jP (s_X11_look g d a hg.2.1 hg.2.2.1 hg.2.2.2.2.1) (x := x) (d1 := j_sI d1 0 11 0) ?_) (q_jP (s_X13_look g _ t hg.2.1 hts hla) (d1 := q_fin D 0) ?_) (rr.ans q_K0ok (q_fin_ans s1 s2 (by decide)))
    · unfold f_X11_look j_let
      rw [if_pos k1, hd1]
      dsimp only
      rw [e9, m1, Option.bind_some, q_xan]
    · unfold f_X13_look j_let
      rw [q_dMe, m2, Option.bind_some, q_good]
theorem q_28 : lw_st_28 (q_R q_K0) := by
  intro h r hz
  obtain ⟨g, d⟩ := h
  have hr := r
  obtain ⟨a, b, hg, ht, -, hk, hl⟩ := r
  rcases hl with ⟨hla, hn⟩ | ⟨t, h68, hla, hts, G, P, F, W, L, hL, hN, -⟩
  · obtain ⟨x, w, d2, e1, e2, e3⟩ := qn_lookLeaves (a := a) (d := d) hn
    exact q_stI hr (q_jP (s_X11_lookLeaves g d a hg.2.1 hg.2.2.1 hg.2.2.2.2.1) e1) (q_jT (s_X13_lookLeavesn g _ hg.2.1 hla) e2) (hr.ans q_K0ok e3)
  · dsimp only at hk hL hN
    have hL4 := hL.1.1.2.2.2.2.2
    have k1 : f_X11_hasLand (d.1 a) = true := q_hl1 (A := q_rows d a) (T := q_rows d t) hL
    obtain ⟨f1, f2, f3⟩ := q_findC hL hg.a hk.2.2
    have rr := q_findR hr hg hL hk
    have e9 : (f_X2_find a d).1 (a + 9) 4 = Int32.ofNat L := by
      rw [f1 _ (by rcases hg.a with z | z <;> omega) (by rcases hg.a with z | z <;> omega)]
      exact hL.1.2.2.2.2.2.1.1
    generalize hd1 : f_X2_find a d = d1 at f1 f2 f3 rr e9
    obtain ⟨x, y, D, m1, m2, m3, m4, m5, m6⟩ := q_bestCM (d1 := d1) (D0 := q_dM d1 0) hL h68 f2 f3 (fun j => by rw [q_dM_o (by omega) (by omega), f1 _ (by omega) (by omega)])
    have s1 : q_sm d1 D := (q_dM_sm d1 0).trans ⟨fun b h0 h57 hf => m4 b h57 (fun z => by rw [z] at hf; cases hf) (fun z => by rw [z] at hf; cases hf), fun k hf => m5 k (fun z => by rw [z] at hf; cases hf) (fun z => by rw [z] at hf; cases hf) (fun z => by rw [z] at hf; cases hf), fun k _ => by rw [m4 0 (by decide) (by decide) (by decide)]⟩
    have s2 : D.1 0 11 = 0 := by
      rw [m4 0 (by decide) (by decide) (by decide)]
      exact q_dM_11 d1 0
    refine q_stI hr (q_jP (s_X11_lookLeaves g d a hg.2.1 hg.2.2.1 hg.2.2.2.2.1) (x := y) (d1 := j_sI d1 0 11 0) ?_) (q_jP (s_X13_lookLeaves g _ t hg.2.1 hts hla) (d1 := q_fin D 0) ?_) (rr.ans q_K0ok (q_fin_ans s1 s2 (by decide)))
    · unfold f_X11_lookLeaves f_X11_lookLeaves_j62 j_let
      rw [if_pos k1, hd1]
      dsimp only
      rw [e9, m1, Option.bind_some]
      rcases m6 with ⟨z1, z2⟩ | ⟨b, hb, z1, z2⟩
      · rw [if_pos z1, q_xan, z2]
      · rw [z1, if_neg (q_ne2 (by omega)), q_mlC hL4 hb f2 f3, Option.bind_some, q_xan, z2]
    · unfold f_X13_lookLeaves j_let
      rw [q_dMe, m2, Option.bind_some, q_good, m3]
