/-! tier two: a token, on both sides -/
theorem q_i64n {n : Nat} (h : n < 9223372036854775808) : (Int64.ofNat n).toInt = n := by
  rw [Int64.toInt_ofNat_of_lt h]
theorem q_64inj {a b : Nat} (ha : a < 9223372036854775808) (hb : b < 9223372036854775808) : Int64.ofNat a = Int64.ofNat b ↔ a = b := by
  constructor
  · intro h
    have := congrArg Int64.toInt h
    rw [q_i64n ha, q_i64n hb] at this
    omega
  · intro h; rw [h]
theorem q_3264 {n : Nat} (h : n < 2147483648) : (Int32.ofNat n).toInt64 = Int64.ofNat n := by
  apply Int64.toInt_inj.mp
  rw [Int32.toInt_toInt64, q_i h, q_i64n (by omega)]
theorem q_5sh : ((5 : Int32).toInt64 &&& 63).toBitVec.smod 64 = 5#64 := by decide +kernel
theorem q_shor {a x : Nat} (ha : a < 1099511627776) (hx : x < 32) : (Int64.ofNat a <<< ((5 : Int32).toInt64 &&& 63)) ||| Int64.ofNat x = Int64.ofNat (32 * a + x) := by
  apply Int64.toBitVec_inj.mp
  show ((Int64.ofNat a).toBitVec <<< (((5 : Int32).toInt64 &&& 63).toBitVec.smod 64)) ||| (Int64.ofNat x).toBitVec = (Int64.ofNat (32 * a + x)).toBitVec
  rw [q_5sh]
  show (BitVec.ofNat 64 a <<< 5#64) ||| BitVec.ofNat 64 x = BitVec.ofNat 64 (32 * a + x)
  apply BitVec.eq_of_toNat_eq
  have e5 : (5#64).toNat = 5 := rfl
  rw [BitVec.toNat_or, BitVec.shiftLeft_eq', BitVec.toNat_shiftLeft, e5, BitVec.toNat_ofNat, BitVec.toNat_ofNat, BitVec.toNat_ofNat]
  have p : (2 : Nat) ^ 64 = 18446744073709551616 := by decide
  rw [p, Nat.mod_eq_of_lt (show a < 18446744073709551616 by omega), Nat.mod_eq_of_lt (show x < 18446744073709551616 by omega), Nat.mod_eq_of_lt (show 32 * a + x < 18446744073709551616 by omega)]
  have s : a <<< 5 = 32 * a := by rw [Nat.shiftLeft_eq]; omega
  rw [s, Nat.mod_eq_of_lt (show 32 * a < 18446744073709551616 by omega), ← s, ← Nat.shiftLeft_add_eq_or_of_lt (i := 5) hx]
theorem q_mulad {a x : Nat} : (32 : Int64) * Int64.ofNat a + Int64.ofNat x = Int64.ofNat (32 * a + x) := by
  rw [Int64.ofNat_add, Int64.ofNat_mul]
  rfl
/-- where a run of signs ends -/
theorem q_stop (P : Nat → Prop) (q N : Nat) (h : q ≤ N) : ∃ p, q ≤ p ∧ p ≤ N ∧ (∀ i, q ≤ i → i < p → P i) ∧ (p = N ∨ ¬ P p) := by
  rcases q_least (p := fun i => P (q + i)) (N - q) with hall | ⟨j, hj, hnj, hlt⟩
  · refine ⟨N, h, Nat.le_refl _, fun i h1 h2 => ?_, Or.inl rfl⟩
    have := hall (i - q) (by omega)
    rw [show q + (i - q) = i by omega] at this
    exact this
  · refine ⟨q + j, by omega, by omega, fun i h1 h2 => ?_, Or.inr hnj⟩
    have := hlt (i - q) (by omega)
    rw [show q + (i - q) = i by omega] at this
    exact this
