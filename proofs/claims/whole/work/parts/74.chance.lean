/-! tier two: holds, mean -/
theorem q_ansX {d d1 d2 : JD} {w : Int32} (e : d1.1 = d.1) (h : q_ans d1 d2 w) : q_ans d d2 w := ⟨(q_smL e).trans h.1, h.2⟩
section QF
variable {G P F W L : Nat} {A T : Nat → Nat → Int32}
theorem q_flN (h : q_LR G P F W L A T) (g : Nat) : ∃ n, n ≤ 100 ∧ q_fl A g = Int32.ofNat n := by
  obtain ⟨U, hU, eU⟩ := h.1.2.2.2.2.2.2.2.2
  have e2 : (2 : Int32) * Int32.ofNat U = Int32.ofNat (2 * U) := by rw [Int32.ofNat_mul]; rfl
  unfold q_fl
  rw [eU, e2]
  by_cases c : A 3 g = 3
  · rw [if_pos c]
    by_cases c2 : 2 * U < 100
    · have z1 : Int32.ofNat (2 * U) < 100 := (q_lt (i := 100) (by omega) (by decide)).mpr c2
      rw [if_pos z1]
      exact ⟨2 * U, by omega, rfl⟩
    · have z1 : ¬ Int32.ofNat (2 * U) < 100 := fun z => c2 ((q_lt (i := 100) (by omega) (by decide)).mp z)
      rw [if_neg z1]
      exact ⟨100, by omega, rfl⟩
  · rw [if_neg c]
    exact ⟨U, hU, rfl⟩
theorem q_fallN (h : q_LR G P F W L A T) {g : Nat} (hg : g < G) : ∃ n, n ≤ 100 ∧ f_X13_falls (T 0) (T 3) (Int32.ofNat g) = some (Int32.ofNat n) ∧ ∀ x, q_dg x → f_X3_fallingIn (A 0) (A 3) (q_cod x) (Int32.ofNat g) = Int32.ofNat (if x g = 0 then 0 else n) := by
  have hG := h.1.1.2.1
  have k1 : ¬ j_out (Int32.ofNat g) 6 := q_in (by omega) (by decide)
  have k2 : (Int32.ofNat g).toNatClampNeg = g := q_n (by omega)
  by_cases c : T 3 g = 2
  · refine ⟨0, by omega, ?_, fun x hx => ?_⟩
    · unfold f_X13_falls
      simp only [k1, k2, c, if_false, if_true]
      rfl
    · unfold f_X3_fallingIn
      rw [if_pos ((q_grd h hg).mpr c), ite_self]
      rfl
  · obtain ⟨n, hn, en⟩ := q_flN h g
    refine ⟨n, hn, ?_, fun x hx => ?_⟩
    · rw [q_fallM h hg c, en]
    · by_cases z : x g = 0
      · unfold f_X3_fallingIn
        rw [if_neg (fun y => c ((q_grd h hg).mp y)), q_hung hx (by omega), if_pos z, if_pos z]
        rfl
      · rw [q_fallC h hx hg c z, if_neg z, en]
theorem q_shN (h : q_LR G P F W L A T) {g k : Nat} (hg : g < G) (hk : k < 3) (p : Int32) : ∃ s, s ≤ 99 ∧ q_sh (A 7) (A 8) p g k = Int32.ofNat s := by
  obtain ⟨s, hs, es⟩ := h.2.2.2.2.1 g hg k hk
  unfold q_sh
  split
  · exact ⟨s, hs, es⟩
  · exact ⟨0, by omega, rfl⟩
end QF
theorem q_m64 (a b : Nat) : Int64.ofNat a * Int64.ofNat b = Int64.ofNat (a * b) := (Int64.ofNat_mul a b).symm
theorem q_a64 (a b : Nat) : Int64.ofNat a + Int64.ofNat b = Int64.ofNat (a + b) := (Int64.ofNat_add a b).symm
theorem q_h100 {n : Nat} (h : n ≤ 100) : ((100 : Int32) - Int32.ofNat n).toInt64 = Int64.ofNat (100 - n) := by
  rw [show (100 : Int32) - Int32.ofNat n = Int32.ofNat (100 - n) from q_sub (a := 100) h, q_to64 (by omega)]
theorem q_pow100 {a n : Nat} (ha : a ≤ 100) (hn : n ≤ 4) : a ^ n ≤ 100000000 := Nat.le_trans (Nat.pow_le_pow_left ha n) (Nat.le_trans (Nat.pow_le_pow_right (n := 100) (by decide) hn) (by decide))
theorem q_holdC {n N : Nat} (hn : n ≤ 100) (hN : N ≤ 4) (p : Int32) (d : JD) : j_for (Int32.ofNat N) (f_X5_setHolding_b8 (Int32.ofNat n) p d) (j_mu (Int32.ofNat N) 0) 0 (1, 1) = (Int64.ofNat ((100 - n) ^ N), Int64.ofNat (100 ^ N)) := by
  rw [q_for _ (by omega)]
  have : ∀ k, q_it (fun i s => f_X5_setHolding_b8 (Int32.ofNat n) p d (Int32.ofNat i) s) k (1, 1) = (Int64.ofNat ((100 - n) ^ k), Int64.ofNat (100 ^ k)) := by
    intro k
    induction k with
    | zero => rfl
    | succ k ih =>
      show f_X5_setHolding_b8 (Int32.ofNat n) p d (Int32.ofNat k) (q_it _ k (1, 1)) = _
      rw [ih]
      unfold f_X5_setHolding_b8
      dsimp only
      rw [q_h100 hn, q_m64, show (100 : Int64) = Int64.ofNat 100 from rfl, q_m64, Nat.pow_succ, Nat.pow_succ]
  exact this N
theorem qk_holds {G P F W L a t : Nat} {d : JD} (hL : q_LR G P F W L (q_rows d a) (q_rows d t)) (hN : q_NR G (q_rows d a) (q_rows d t) (d.1 22 0) (d.1 22 1) (d.1 22 2) (d.1 59)) (h68 : 68 ≤ t) (pq0 pq1 pq2 : Int32) : ∃ (x : Int64) (w : Int32) (d1 d2 : JD), f_X11_holds a d pq0 pq1 pq2 = some (x, j_sI d1 0 11 w) ∧ f_X13_holds t (j_sI d1 0 11 w) pq0 pq1 pq2 = some (x, d2) ∧ q_ans d d2 w := by
  have hG := hL.1.1.2.1
  have eg' : ∀ p, f_X13_isGate (d.1 t) p = f_X11_isGate (d.1 a) p := fun p => q_isg (A := q_rows d a) (T := q_rows d t) hL p
  have eT : ∀ (d1 : JD) w, d1.1 = d.1 → (q_dM d1 w).1 t = d.1 t := fun d1 w e => by rw [q_dM_o (by omega) (by omega), e]
  by_cases h1 : f_X11_isGate (d.1 a) pq0 = true
  · by_cases h2 : f_X13_in pq1 0 4 = true
    · obtain ⟨g, hg, eg⟩ := q_isg' (A := q_rows d a) (T := q_rows d t) hL h1
      obtain ⟨N, hN4, eN⟩ := q_inr (n := 4) (by decide) h2
      obtain ⟨n, hn, n1, n2⟩ := q_fallN (A := q_rows d a) (T := q_rows d t) hL hg
      have hx : q_dg (d.1 59) := hN.1.1
      have n2' : f_X3_fallingIn (d.1 a) (d.1 (a + 3)) (d.1 22 0) (Int32.ofNat g) = Int32.ofNat (if d.1 59 g = 0 then 0 else n) := by
        have := n2 (d.1 59) hx
        rw [← hN.2.1] at this
        exact this
      have hn' : (if d.1 59 g = 0 then 0 else n) ≤ 100 := by split <;> omega
      have hp : 0 < 100 ^ N := Nat.pow_pos (by decide)
      have hp2 := q_pow100 (a := 100) (n := N) (by omega) (by omega)
      have hp3 := q_pow100 (a := 100 - (if d.1 59 g = 0 then 0 else n)) (n := N) (by omega) (by omega)
      obtain ⟨d1, s1, s2, s3, s4⟩ := q_setC d (u := (100 - (if d.1 59 g = 0 then 0 else n)) ^ N) (l := 100 ^ N) (by omega) (by omega) hp
      have i2 : pq1 ≤ 4 ∧ ¬ (pq1 < 0) := by
        rw [eN]
        exact ⟨(q_le (i := 4) (by omega) (by decide)).mpr (by omega), q_neg (by omega)⟩
      have eC : f_X11_holds a d pq0 pq1 pq2 = some (if pq2 = 0 then Int64.ofNat ((100 - (if d.1 59 g = 0 then 0 else n)) ^ N / Nat.gcd ((100 - (if d.1 59 g = 0 then 0 else n)) ^ N) (100 ^ N)) else Int64.ofNat (100 ^ N / Nat.gcd ((100 - (if d.1 59 g = 0 then 0 else n)) ^ N) (100 ^ N)), j_sI d1 0 11 0) := by
        unfold f_X11_holds f_X5_setHolding j_let
        rw [if_pos h1, if_neg i2.2, if_pos i2.1, eg, n2', eN, q_holdC hn' (by omega)]
        dsimp only
        rw [s1, Option.bind_some, Option.bind_some, q_told2 s3 s4]
      have e59 : (q_dM d1 0).1 59 = d.1 59 := by rw [q_dM_o (by decide) (by decide), s2]
      have et : (q_dM d1 0).1 t = d.1 t := eT d1 0 s2
      have et3 : (q_dM d1 0).1 (t + 3) = d.1 (t + 3) := by rw [q_dM_o (by omega) (by omega), s2]
      have kg : ¬ j_out (Int32.ofNat g) 9 := q_in (by omega) (by decide)
      have kn : (Int32.ofNat g).toNatClampNeg = g := q_n (by omega)
      have n1' : f_X13_falls (d.1 t) (d.1 (t + 3)) (Int32.ofNat g) = some (Int32.ofNat n) := n1
      by_cases z : d.1 59 g = 0
      · have l1 : j_wh (f_X13_holds_w45 t (Int32.ofNat g) (Int32.ofNat N) pq2 (q_dM d1 0)) j_fuel (1, 1, 0) = some (1, 1) := by
          refine q_run (F := f_X13_holds_w45 t (Int32.ofNat g) (Int32.ofNat N) pq2 (q_dM d1 0)) (fun i => ((1 : Int64), (1 : Int64), Int32.ofNat i)) (e := (1, 1)) 0 (by omega) (fun i hi => absurd hi (by omega)) ?_
          have zz : d.1 59 g ≤ 0 := by rw [z]; decide
          unfold f_X13_holds_w45
          dsimp only
          rw [e59, if_neg kg, kn, if_pos zz]
          split <;> rfl
        refine ⟨_, 0, d1, q_fin (q_dM d1 0) 0, eC, ?_, q_ansX s2 (q_ansd d1 (by decide))⟩
        unfold f_X13_holds
        rw [q_dMe, et, eg', if_pos h1, if_pos h2, eg, eN, l1, Option.bind_some]
        dsimp only
        have fr := q_fracM (q_dM d1 0) (u := 1) (l := 1) (by omega) (by omega) (by omega) pq2
        rw [show (1 : Int64) = Int64.ofNat 1 from rfl, fr, Option.bind_some]
        have pr := q_pair (u := 1) (l := 1) (u' := 100 ^ N) (l' := 100 ^ N) (100 ^ N) hp (by omega) (by omega)
        rw [if_pos z, Nat.sub_zero, pr.1]
        split <;> rfl
      · have l1 : j_wh (f_X13_holds_w45 t (Int32.ofNat g) (Int32.ofNat N) pq2 (q_dM d1 0)) j_fuel (1, 1, 0) = some (Int64.ofNat ((100 - n) ^ N), Int64.ofNat (100 ^ N)) := by
          refine q_run (F := f_X13_holds_w45 t (Int32.ofNat g) (Int32.ofNat N) pq2 (q_dM d1 0)) (fun i => (Int64.ofNat ((100 - n) ^ i), Int64.ofNat (100 ^ i), Int32.ofNat i)) (e := (Int64.ofNat ((100 - n) ^ N), Int64.ofNat (100 ^ N))) N (by omega) (fun i hi => ?_) ?_
          · have zz : ¬ (d.1 59 g ≤ 0) := fun y => z ((q_pos hx (by omega)).mp y)
            have k2 := q_go (n := N) (by omega) hi
            unfold f_X13_holds_w45
            dsimp only
            rw [if_neg k2, if_neg kg, e59, kn, if_neg zz, et, et3, n1', Option.bind_some, q_h100 hn, q_m64, show (100 : Int64) = Int64.ofNat 100 from rfl, q_m64, q_s, Nat.pow_succ, Nat.pow_succ]
          · unfold f_X13_holds_w45
            dsimp only
            rw [if_pos (q_end (by omega))]
        refine ⟨_, 0, d1, q_fin (q_dM d1 0) 0, eC, ?_, q_ansX s2 (q_ansd d1 (by decide))⟩
        rw [if_neg z] at hp3 ⊢
        unfold f_X13_holds
        rw [q_dMe, et, eg', if_pos h1, if_pos h2, eg, eN, l1, Option.bind_some]
        dsimp only
        rw [q_fracM (q_dM d1 0) (u := (100 - n) ^ N) (l := 100 ^ N) (by omega) (by omega) hp pq2, Option.bind_some]
        split <;> rfl
    · refine ⟨-1, 2, d, q_fin (q_dM d 2) 2, ?_, ?_, q_ansd d (by decide)⟩
      · unfold f_X11_holds f_X11_holds_j24 j_let
        simp only [h1, q_xre, if_true]
        unfold f_X13_in at h2
        by_cases c1 : pq1 < 0
        · simp only [c1, if_true]; rfl
        · by_cases c2 : pq1 ≤ 4
          · rw [if_neg c1, if_neg (fun z => q_nle.mpr z c2)] at h2
            exact absurd rfl h2
          · simp only [c1, c2, if_false]; rfl
      · unfold f_X13_holds j_let
        rw [q_dMe, eT d 2 rfl, eg', if_pos h1, if_neg h2, q_ref]
        rfl
  · refine ⟨-1, 1, d, q_fin (q_dM d 1) 1, ?_, ?_, q_ansd d (by decide)⟩
    · unfold f_X11_holds j_let
      rw [if_neg h1, q_xre]
      rfl
    · unfold f_X13_holds j_let
      rw [q_dMe, eT d 1 rfl, eg', if_neg h1, q_ref]
      rfl
theorem qk_mean {G P F W L a t : Nat} {d : JD} (hL : q_LR G P F W L (q_rows d a) (q_rows d t)) (hN : q_NR G (q_rows d a) (q_rows d t) (d.1 22 0) (d.1 22 1) (d.1 22 2) (d.1 59)) (h68 : 68 ≤ t) (pq0 pq1 : Int32) : ∃ (x : Int64) (w : Int32) (d1 d2 : JD), f_X11_mean a d pq0 pq1 = some (x, j_sI d1 0 11 w) ∧ f_X13_mean t (j_sI d1 0 11 w) pq0 pq1 = some (x, d2) ∧ q_ans d d2 w := by
  have hG := hL.1.1.2.1
  have ep' : ∀ p, f_X13_isPerson (d.1 t) p = f_X11_isPerson (d.1 a) p := fun p => q_isp (A := q_rows d a) (T := q_rows d t) hL p
  have eT : ∀ (d1 : JD) w, d1.1 = d.1 → ∀ j, (q_dM d1 w).1 (t + j) = d.1 (t + j) := fun d1 w e j => by rw [q_dM_o (by omega) (by omega), e]
  have e4 : d.1 a 4 = Int32.ofNat G := hL.1.2.1.1
  have e4' : d.1 t 4 = Int32.ofNat G := hL.1.2.1.2
  have hx : q_dg (d.1 59) := hN.1.1
  by_cases h1 : f_X11_isPerson (d.1 a) pq0 = true
  · have term : ∀ g, g < G → ∃ c, c ≤ 9900 ∧ (∀ s : Int64, f_X5_setMean_b6 a (d.1 22 0) pq0 d (Int32.ofNat g) s = s + Int64.ofNat c) ∧ ∀ (d1 : JD) (s : Int64), d1.1 = d.1 → f_X13_mean_w25 t pq0 pq1 (q_dM d1 0) (s, Int32.ofNat g) = some (.inl (s + Int64.ofNat c, Int32.ofNat (g + 1))) := by
      intro g hg
      obtain ⟨n, hn, n1, n2⟩ := q_fallN (A := q_rows d a) (T := q_rows d t) hL hg
      have n1' : f_X13_falls (d.1 t) (d.1 (t + 3)) (Int32.ofNat g) = some (Int32.ofNat n) := n1
      have n2' : f_X3_fallingIn (d.1 a) (d.1 (a + 3)) (d.1 22 0) (Int32.ofNat g) = Int32.ofNat (if d.1 59 g = 0 then 0 else n) := by
        have := n2 (d.1 59) hx
        rw [← hN.2.1] at this
        exact this
      obtain ⟨h3, h4⟩ := q_d3 hx (g := g) (by omega)
      obtain ⟨s, hs, es⟩ := q_shN (A := q_rows d a) (T := q_rows d t) hL hg h4 pq0
      obtain ⟨s0, hs0, es0⟩ := q_shN (A := q_rows d a) (T := q_rows d t) hL hg (k := 0) (by decide) pq0
      have m1 : f_X13_shareIf (d.1 (t + 1)) (d.1 (t + 2)) (d.1 (t + 3)) (d.1 (t + 4)) (d.1 (t + 5)) pq0 (Int32.ofNat g) (d.1 59 g) = some (Int32.ofNat s) := by
        have := q_shIf (A := q_rows d a) (T := q_rows d t) hL hg h4 pq0
        rw [← h3, es] at this
        exact this
      have m2 : f_X13_shareIf (d.1 (t + 1)) (d.1 (t + 2)) (d.1 (t + 3)) (d.1 (t + 4)) (d.1 (t + 5)) pq0 (Int32.ofNat g) 0 = some (Int32.ofNat s0) := by
        have := q_shIf (A := q_rows d a) (T := q_rows d t) hL hg (k := 0) (by decide) pq0
        rw [es0] at this
        exact this
      have c1 : f_X3_shareIn (d.1 (a + 7)) (d.1 (a + 8)) (d.1 22 0) (Int32.ofNat g) pq0 = Int32.ofNat s := by
        have := q_share hx (g := g) (by omega) (d.1 (a + 7)) (d.1 (a + 8)) pq0
        rw [← hN.2.1] at this
        exact this.trans es
      have c2 : f_X3_shareIn (d.1 (a + 7)) (d.1 (a + 8)) (f_X10_with (d.1 22 0) (Int32.ofNat g) 0) (Int32.ofNat g) pq0 = Int32.ofNat s0 := by
        rw [hN.2.1, q_with hx (by omega) (Or.inl rfl), q_share (q_dgu hx g (Or.inl rfl)) (by omega), q_upd_a]
        exact es0
      have kg : ¬ j_out (Int32.ofNat g) 9 := q_in (by omega) (by decide)
      have kn : (Int32.ofNat g).toNatClampNeg = g := q_n (by omega)
      have eq : (100 - (if d.1 59 g = 0 then 0 else n)) * s + (if d.1 59 g = 0 then 0 else n) * s0 = (100 - n) * s + n * s0 := by
        by_cases z : d.1 59 g = 0
        · have : s = s0 := by
            have e0 : (d.1 59 g).toNatClampNeg = 0 := by rw [z]; rfl
            rw [e0, es0] at es
            exact ((q_eq (by omega) (by omega)).mp es).symm
          rw [if_pos z, this, ← Nat.add_mul, ← Nat.add_mul]
          congr 1
          omega
        · rw [if_neg z]
      have hn' : (if d.1 59 g = 0 then 0 else n) ≤ 100 := by split <;> omega
      have hb : (100 - n) * s + n * s0 ≤ 9900 := by
        have b1 : (100 - n) * s ≤ (100 - n) * 99 := Nat.mul_le_mul_left _ hs
        have b2 : n * s0 ≤ n * 99 := Nat.mul_le_mul_left _ hs0
        omega
      refine ⟨(100 - n) * s + n * s0, hb, fun S => ?_, fun d1 S e => ?_⟩
      · generalize (if d.1 59 g = 0 then 0 else n) = f at n2' eq hn'
        have b1 : (100 - f) * s ≤ 100 * 99 := Nat.mul_le_mul (by omega) hs
        have b2 : f * s0 ≤ 100 * 99 := Nat.mul_le_mul hn' hs0
        unfold f_X5_setMean_b6 j_let
        rw [n2']
        dsimp only
        rw [c1, c2, show (100 : Int32) - Int32.ofNat f = Int32.ofNat (100 - f) from q_sub (a := 100) hn', q_mul, q_mul, q_to64 (by omega), q_to64 (by omega), Int64.add_assoc, q_a64, eq]
      · have k2 := q_go (n := G) (by omega) hg
        have e59 : (q_dM d1 0).1 59 = d.1 59 := by rw [q_dM_o (by decide) (by decide), e]
        have et := eT d1 0 e
        have et0 : (q_dM d1 0).1 t = d.1 t := et 0
        unfold f_X13_mean_w25
        dsimp only
        rw [et0, e4', if_neg k2, et, n1', Option.bind_some, if_neg kg, et, et, et, et, e59, kn, m1, Option.bind_some, Option.bind_some, m2, Option.bind_some, q_h100 hn, q_to64 (by omega), q_to64 (by omega), q_to64 (by omega), q_m64, q_m64, q_a64, q_s]
    have C : ∀ n, n ≤ G → ∃ S, S ≤ 9900 * n ∧ q_it (fun i s => f_X5_setMean_b6 a (d.1 22 0) pq0 d (Int32.ofNat i) s) n 0 = Int64.ofNat S := by
      intro n
      induction n with
      | zero => exact fun _ => ⟨0, by omega, rfl⟩
      | succ n ih =>
        intro hn
        obtain ⟨S, hS, eS⟩ := ih (by omega)
        obtain ⟨c, hc, e1, -⟩ := term n (by omega)
        refine ⟨S + c, by omega, ?_⟩
        show f_X5_setMean_b6 a (d.1 22 0) pq0 d (Int32.ofNat n) (q_it _ n 0) = _
        rw [eS, e1, q_a64]
    obtain ⟨S, hS, eS⟩ := C G (Nat.le_refl G)
    obtain ⟨d1, s1, s2, s3, s4⟩ := q_setC d (u := S) (l := 100) (by omega) (by omega) (by omega)
    refine ⟨if pq1 = 0 then Int64.ofNat (S / Nat.gcd S 100) else Int64.ofNat (100 / Nat.gcd S 100), 0, d1, q_fin (q_dM d1 0) 0, ?_, ?_, q_ansX s2 (q_ansd d1 (by decide))⟩
    · unfold f_X11_mean f_X5_setMean j_let
      rw [if_pos h1, e4, q_for _ (by omega), eS]
      dsimp only
      rw [show (100 : Int64) = Int64.ofNat 100 from rfl, s1, Option.bind_some, Option.bind_some, q_told2 s3 s4]
    · have l1 := q_run (F := f_X13_mean_w25 t pq0 pq1 (q_dM d1 0)) (fun n => (q_it (fun i s => f_X5_setMean_b6 a (d.1 22 0) pq0 d (Int32.ofNat i) s) n 0, Int32.ofNat n)) (e := q_it (fun i s => f_X5_setMean_b6 a (d.1 22 0) pq0 d (Int32.ofNat i) s) G 0) G (by omega) (fun i hi => by
        obtain ⟨c, -, e1, e2⟩ := term i hi
        rw [e2 d1 _ s2]
        show _ = some (Sum.inl (f_X5_setMean_b6 a (d.1 22 0) pq0 d (Int32.ofNat i) (q_it (fun i s => f_X5_setMean_b6 a (d.1 22 0) pq0 d (Int32.ofNat i) s) i 0), Int32.ofNat (i + 1)))
        rw [e1]) (by
        unfold f_X13_mean_w25
        dsimp only
        have et0 : (q_dM d1 0).1 t = d.1 t := eT d1 0 s2 0
        rw [et0, e4', if_pos (q_end (by omega))])
      rw [eS] at l1
      have l1' : j_wh (f_X13_mean_w25 t pq0 pq1 (q_dM d1 0)) j_fuel (0, 0) = some (Int64.ofNat S) := l1
      have et0 : (q_dM d1 0).1 t = d.1 t := eT d1 0 s2 0
      unfold f_X13_mean
      rw [q_dMe, et0, ep', if_pos h1, l1', Option.bind_some, show (100 : Int64) = Int64.ofNat 100 from rfl, q_fracM (q_dM d1 0) (u := S) (l := 100) (by omega) (by omega) (by omega) pq1, Option.bind_some]
      split <;> rfl
  · refine ⟨-1, 1, d, q_fin (q_dM d 1) 1, ?_, ?_, q_ansd d (by decide)⟩
    · unfold f_X11_mean j_let
      rw [if_neg h1, q_xre]
      rfl
    · have et0 : (q_dM d 1).1 t = d.1 t := eT d 1 rfl 0
      unfold f_X13_mean j_let
      rw [q_dMe, et0, ep', if_neg h1, q_ref]
      rfl
theorem q_39 {K : q_K} (hK : q_Kok K) : lw_st_39 (q_R K) := by
  intro h p1 p2 p3 r hz
  obtain ⟨g, d⟩ := h
  have hr := r
  obtain ⟨a, b, hg, ht, -, -, hl⟩ := r
  rcases hl with ⟨hla, hn⟩ | ⟨t, h68, hla, hts, G, P, F, W, L, hL, hN, -⟩
  · obtain ⟨x, w, d2, e1, e2, e3⟩ := qn_holds (a := a) (d := d) hn p1 p2 (if p3 = 0 then 0 else 1)
    exact q_stL hr (q_jPL (s_X11_holds g d a p1 p2 (if p3 = 0 then 0 else 1) hg.2.1 hg.2.2.1 hg.2.2.2.2.1) e1) (q_jTL (s_X13_holdsn g _ p1 p2 (if p3 = 0 then 0 else 1) hg.2.1 hla) e2) (hr.ans hK e3)
  · obtain ⟨x, w, d1, d2, e1, e2, e3⟩ := qk_holds (a := a) (t := t) (d := d) hL hN h68 p1 p2 (if p3 = 0 then 0 else 1)
    exact q_stL hr (q_jPL (s_X11_holds g d a p1 p2 (if p3 = 0 then 0 else 1) hg.2.1 hg.2.2.1 hg.2.2.2.2.1) e1) (q_jPL (s_X13_holds g _ t p1 p2 (if p3 = 0 then 0 else 1) hg.2.1 hts hla) e2) (hr.ans hK e3)
theorem q_40 {K : q_K} (hK : q_Kok K) : lw_st_40 (q_R K) := by
  intro h p1 p2 r hz
  obtain ⟨g, d⟩ := h
  have hr := r
  obtain ⟨a, b, hg, ht, -, -, hl⟩ := r
  rcases hl with ⟨hla, hn⟩ | ⟨t, h68, hla, hts, G, P, F, W, L, hL, hN, -⟩
  · obtain ⟨x, w, d2, e1, e2, e3⟩ := qn_mean (a := a) (d := d) hn p1 (if p2 = 0 then 0 else 1)
    exact q_stL hr (q_jPL (s_X11_mean g d a p1 (if p2 = 0 then 0 else 1) hg.2.1 hg.2.2.1 hg.2.2.2.2.1) e1) (q_jTL (s_X13_meann g _ p1 (if p2 = 0 then 0 else 1) hg.2.1 hla) e2) (hr.ans hK e3)
  · obtain ⟨x, w, d1, d2, e1, e2, e3⟩ := qk_mean (a := a) (t := t) (d := d) hL hN h68 p1 (if p2 = 0 then 0 else 1)
    exact q_stL hr (q_jPL (s_X11_mean g d a p1 (if p2 = 0 then 0 else 1) hg.2.1 hg.2.2.1 hg.2.2.2.2.1) e1) (q_jPL (s_X13_mean g _ t p1 (if p2 = 0 then 0 else 1) hg.2.1 hts hla) e2) (hr.ans hK e3)
