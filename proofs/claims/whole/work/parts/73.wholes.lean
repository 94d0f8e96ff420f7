/-! tier two: answers of two wholes -/
theorem q_lc0 {b : Nat} (hb : b < 9223372036854775808) : (lg_cmp (Int64.ofNat b) 0 = 0) ↔ b = 0 := by
  unfold lg_cmp
  have h0 : (0 : Int64).toInt = 0 := rfl
  constructor
  · intro h
    by_cases c : Int64.ofNat b > 0
    · rw [if_pos c] at h; exact absurd h (by decide)
    · by_cases z : b = 0
      · exact z
      · exact absurd (by
          show (0 : Int64) < Int64.ofNat b
          rw [Int64.lt_iff_toInt_lt, q_i64 hb, h0]; omega) c
  · intro h; subst h; decide
theorem q_lc1 {b : Nat} (hb : b < 9223372036854775808) : (lg_cmp (Int64.ofNat b) 0 ≤ 0) ↔ b = 0 := by
  rw [lg_cmp_le, Int64.le_iff_toInt_le, q_i64 hb]
  have h0 : (0 : Int64).toInt = 0 := rfl
  omega
theorem q_nz64 {b : Nat} (hb : b < 9223372036854775808) (h : b ≠ 0) : ¬ (Int64.ofNat b = 0) := fun z => by
  have := congrArg Int64.toInt z
  rw [q_i64 hb] at this
  have h0 : (0 : Int64).toInt = 0 := rfl
  omega
theorem q_gcdm (a b : Nat) : Nat.gcd b (a % b) = Nat.gcd a b := by
  rw [Nat.gcd_comm a b, Nat.gcd_rec b a, Nat.gcd_comm]
theorem q_half {b r : Nat} (h0 : r ≠ 0) (h : r < b) : 2 * (b % r) < b := by
  have h1 : b % r < r := Nat.mod_lt _ (by omega)
  have h2 : b % r ≤ b - r := by
    rw [Nat.mod_eq_sub_mod (by omega)]
    exact Nat.mod_le _ _
  omega
theorem q_eucM : ∀ (k a b : Nat), a < 9223372036854775808 → b < 9223372036854775808 → b < 2 ^ k → ∀ u, 2 * k < u → j_wh f_X13_common_w6 u (Int64.ofNat a, Int64.ofNat b) = some (Int64.ofNat (Nat.gcd a b))
  | k, a, 0, ha, hb, hk, u + 1, hu => by
    show (f_X13_common_w6 (Int64.ofNat a, Int64.ofNat 0)).bind _ = _
    unfold f_X13_common_w6
    dsimp only
    rw [if_pos ((q_lc0 (by decide)).mpr rfl), Nat.gcd_zero_right]
    rfl
  | 0, a, b + 1, ha, hb, hk, u, hu => absurd hk (by omega)
  | k + 1, a, b + 1, ha, hb, hk, u + 2, hu => by
    have hr : a % (b + 1) < b + 1 := Nat.mod_lt _ (by omega)
    have e1 : f_X13_common_w6 (Int64.ofNat a, Int64.ofNat (b + 1)) = some (.inl (Int64.ofNat (b + 1), Int64.ofNat (a % (b + 1)))) := by
      unfold f_X13_common_w6
      dsimp only
      rw [if_neg (fun z => by have := (q_lc0 hb).mp z; omega), if_neg (q_nz64 hb (by omega)), q_mod64 ha hb]
    show (f_X13_common_w6 (Int64.ofNat a, Int64.ofNat (b + 1))).bind _ = _
    rw [e1]
    show j_wh f_X13_common_w6 (u + 1) (Int64.ofNat (b + 1), Int64.ofNat (a % (b + 1))) = _
    by_cases z : a % (b + 1) = 0
    · show (f_X13_common_w6 (Int64.ofNat (b + 1), Int64.ofNat (a % (b + 1)))).bind _ = _
      rw [z]
      unfold f_X13_common_w6
      dsimp only
      rw [if_pos ((q_lc0 (by decide)).mpr rfl), ← q_gcdm a (b + 1), z, Nat.gcd_zero_right]
      rfl
    · have e2 : f_X13_common_w6 (Int64.ofNat (b + 1), Int64.ofNat (a % (b + 1))) = some (.inl (Int64.ofNat (a % (b + 1)), Int64.ofNat ((b + 1) % (a % (b + 1))))) := by
        unfold f_X13_common_w6
        dsimp only
        rw [if_neg (fun y => z ((q_lc0 (by omega)).mp y)), if_neg (q_nz64 (by omega) z), q_mod64 hb (by omega)]
      show (f_X13_common_w6 (Int64.ofNat (b + 1), Int64.ofNat (a % (b + 1)))).bind _ = _
      rw [e2]
      show j_wh f_X13_common_w6 u (Int64.ofNat (a % (b + 1)), Int64.ofNat ((b + 1) % (a % (b + 1)))) = _
      have hh := q_half z hr
      rw [Nat.pow_succ] at hk
      rw [q_eucM k _ _ (by omega) (by omega) (by omega) u (by omega), q_gcdm, q_gcdm]
theorem q_go100 {i : Nat} (h : i < 100) : ¬ ((100 : Int32) ≤ Int32.ofNat i) := q_go (n := 100) (by decide) h
theorem q_eucC : ∀ (k a b i : Nat), a < 9223372036854775808 → b < 9223372036854775808 → b < 2 ^ k → i + 2 * k < 100 → ∀ u, 2 * k < u → j_wh f_X5_commonDivisor_w9 u (Int64.ofNat a, Int64.ofNat b, Int32.ofNat i) = some (Int64.ofNat (Nat.gcd a b))
  | k, a, 0, i, ha, hb, hk, hi, u + 1, hu => by
    show (f_X5_commonDivisor_w9 (Int64.ofNat a, Int64.ofNat 0, Int32.ofNat i)).bind _ = _
    unfold f_X5_commonDivisor_w9
    dsimp only
    rw [if_neg (q_go100 (by omega)), if_pos ((q_lc0 (by decide)).mpr rfl), Nat.gcd_zero_right]
    rfl
  | 0, a, b + 1, i, ha, hb, hk, hi, u, hu => absurd hk (by omega)
  | k + 1, a, b + 1, i, ha, hb, hk, hi, u + 2, hu => by
    have hr : a % (b + 1) < b + 1 := Nat.mod_lt _ (by omega)
    have e1 : f_X5_commonDivisor_w9 (Int64.ofNat a, Int64.ofNat (b + 1), Int32.ofNat i) = some (.inl (Int64.ofNat (b + 1), Int64.ofNat (a % (b + 1)), Int32.ofNat (i + 1))) := by
      unfold f_X5_commonDivisor_w9
      dsimp only
      rw [if_neg (q_go100 (by omega)), if_neg (fun z => by have := (q_lc0 hb).mp z; omega), if_neg (q_nz64 hb (by omega)), q_mod64 ha hb, q_s]
    show (f_X5_commonDivisor_w9 (Int64.ofNat a, Int64.ofNat (b + 1), Int32.ofNat i)).bind _ = _
    rw [e1]
    show j_wh f_X5_commonDivisor_w9 (u + 1) (Int64.ofNat (b + 1), Int64.ofNat (a % (b + 1)), Int32.ofNat (i + 1)) = _
    by_cases z : a % (b + 1) = 0
    · show (f_X5_commonDivisor_w9 (Int64.ofNat (b + 1), Int64.ofNat (a % (b + 1)), Int32.ofNat (i + 1))).bind _ = _
      rw [z]
      unfold f_X5_commonDivisor_w9
      dsimp only
      rw [if_neg (q_go100 (by omega)), if_pos ((q_lc0 (by decide)).mpr rfl), ← q_gcdm a (b + 1), z, Nat.gcd_zero_right]
      rfl
    · have e2 : f_X5_commonDivisor_w9 (Int64.ofNat (b + 1), Int64.ofNat (a % (b + 1)), Int32.ofNat (i + 1)) = some (.inl (Int64.ofNat (a % (b + 1)), Int64.ofNat ((b + 1) % (a % (b + 1))), Int32.ofNat (i + 2))) := by
        unfold f_X5_commonDivisor_w9
        dsimp only
        rw [if_neg (q_go100 (by omega)), if_neg (fun y => z ((q_lc0 (by omega)).mp y)), if_neg (q_nz64 (by omega) z), q_mod64 hb (by omega), q_s]
      show (f_X5_commonDivisor_w9 (Int64.ofNat (b + 1), Int64.ofNat (a % (b + 1)), Int32.ofNat (i + 1))).bind _ = _
      rw [e2]
      show j_wh f_X5_commonDivisor_w9 u (Int64.ofNat (a % (b + 1)), Int64.ofNat ((b + 1) % (a % (b + 1))), Int32.ofNat (i + 2)) = _
      have hh := q_half z hr
      rw [Nat.pow_succ] at hk
      rw [q_eucC k _ _ (i + 2) (by omega) (by omega) (by omega) (by omega) u (by omega), q_gcdm, q_gcdm]
theorem q_t40 : (2 : Nat) ^ 40 = 1099511627776 := by decide
/-- the class keeps both wholes in lowest terms -/
theorem q_setC (d : JD) {u l : Nat} (hu : u < 9223372036854775808) (hl : l < 1099511627776) (h0 : 0 < l) : ∃ d1 : JD, f_X5_set d (Int64.ofNat u) (Int64.ofNat l) = some d1 ∧ d1.1 = d.1 ∧ d1.2 41 0 = Int64.ofNat (u / Nat.gcd u l) ∧ d1.2 41 1 = Int64.ofNat (l / Nat.gcd u l) := by
  have hg : 0 < Nat.gcd u l := Nat.gcd_pos_of_pos_right u h0
  have hgl : Nat.gcd u l ≤ l := Nat.gcd_le_right u h0
  have e : f_X5_commonDivisor (Int64.ofNat u) (Int64.ofNat l) = some (Int64.ofNat (Nat.gcd u l)) := by
    unfold f_X5_commonDivisor
    rw [show ((Int64.ofNat u, Int64.ofNat l, 0) : Int64 × Int64 × Int32) = (Int64.ofNat u, Int64.ofNat l, Int32.ofNat 0) from rfl, q_eucC 40 u l 0 (by omega) (by omega) (by rw [q_t40]; exact hl) (by omega) j_fuel (by unfold j_fuel; omega)]
    rfl
  generalize Nat.gcd u l = c at hg hgl e ⊢
  have n1 : ¬ (lg_cmp (Int64.ofNat c) 0 ≤ 0) := fun z => by have := (q_lc1 (by omega)).mp z; omega
  have n2 : ¬ (Int64.ofNat c = 0) := q_nz64 (by omega) (by omega)
  refine ⟨j_sL (j_sL d 41 0 (Int64.ofNat (u / c))) 41 1 (Int64.ofNat (l / c)), ?_, rfl, ?_, ?_⟩
  · unfold f_X5_set f_X5_set_j23 f_X5_set_j42
    rw [e, Option.bind_some, if_neg n1, if_neg n2, if_neg n1, if_neg n2, q_div64 (by omega) (by omega), q_div64 (by omega) (by omega)]
  · rw [j_sL_a, j_sL_a]
    rfl
  · rw [j_sL_a]
    rfl
theorem q_fracM (d : JD) {u l : Nat} (hu : u < 9223372036854775808) (hl : l < 1099511627776) (h0 : 0 < l) (p : Int32) : f_X13_fraction d (Int64.ofNat u) (Int64.ofNat l) p = some (Int64.ofNat ((if p = 0 then u else l) / Nat.gcd u l), q_fin d 0) := by
  have hg : 0 < Nat.gcd u l := Nat.gcd_pos_of_pos_right u h0
  have hgl : Nat.gcd u l ≤ l := Nat.gcd_le_right u h0
  have e : f_X13_common (Int64.ofNat u) (Int64.ofNat l) = some (Int64.ofNat (Nat.gcd u l)) := by
    unfold f_X13_common
    rw [q_eucM 40 u l (by omega) (by omega) (by rw [q_t40]; exact hl) j_fuel (by unfold j_fuel; omega)]
    rfl
  generalize Nat.gcd u l = c at hg hgl e ⊢
  have n2 : ¬ (Int64.ofNat c = 0) := q_nz64 (by omega) (by omega)
  unfold f_X13_fraction f_X13_fraction_j16 j_let
  dsimp only
  rw [q_good, e, Option.bind_some, Option.bind_some, if_neg n2, if_neg n2]
  by_cases z : p = 0
  · rw [if_pos z, if_pos z, q_div64 (by omega) (by omega)]
  · rw [if_neg z, if_neg z, q_div64 (by omega) (by omega)]
theorem q_told2 {d : JD} {a b : Int64} (h0 : d.2 41 0 = a) (h1 : d.2 41 1 = b) (p : Int32) : f_X11_told d p = (if p = 0 then a else b, j_sI d 0 11 0) := by
  unfold f_X11_told
  rw [h0, h1]
  by_cases z : p = 0
  · rw [if_pos z, if_pos z]
  · rw [if_neg z, if_neg z]
theorem q_pair {u l u' l' : Nat} (c : Nat) (hc : 0 < c) (hu : u' = u * c) (hl : l' = l * c) : u' / Nat.gcd u' l' = u / Nat.gcd u l ∧ l' / Nat.gcd u' l' = l / Nat.gcd u l := by
  rw [hu, hl, Nat.gcd_mul_right]
  exact ⟨Nat.mul_div_mul_right _ _ hc, Nat.mul_div_mul_right _ _ hc⟩
theorem q_same {d d1 : JD} (e : d1.1 = d.1) (a : Nat) : q_rows d1 a = q_rows d a := by
  unfold q_rows
  rw [e]
