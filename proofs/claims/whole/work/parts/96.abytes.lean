/-! tier two: bytes, words -/
theorem q_by256 : ∀ n : Fin 256, (let v := (Int8.ofNat n.val).toInt32; f_X13_isLetter (v &&& 255) = f_X9_isLetter v ∧ f_X13_isDigit (v &&& 255) = f_X9_isDigit v ∧ (v &&& 255 = 32 ↔ v = 32) ∧ (v &&& 255 = 59 ↔ v = 59) ∧ (v &&& 255 = 44 ↔ v = 44) ∧ ¬ (v &&& 255 = -1) ∧ (f_X9_isLetter v = true → v &&& 255 = v ∧ 97 ≤ v.toNatClampNeg ∧ v.toNatClampNeg ≤ 122 ∧ v = Int32.ofNat v.toNatClampNeg) ∧ (f_X9_isDigit v = true → v &&& 255 = v ∧ 48 ≤ v.toNatClampNeg ∧ v.toNatClampNeg ≤ 57 ∧ v = Int32.ofNat v.toNatClampNeg)) := by decide +kernel
theorem q_i8 (x : Int8) : ∃ n : Fin 256, x = Int8.ofNat n.val := by
  refine ⟨⟨x.toBitVec.toNat, x.toBitVec.isLt⟩, ?_⟩
  apply Int8.toBitVec_inj.mp
  show x.toBitVec = BitVec.ofNat 8 x.toBitVec.toNat
  rw [BitVec.ofNat_toNat, BitVec.setWidth_eq]

theorem q_byt {v : Int32} (h : q_isb v) : f_X13_isLetter (v &&& 255) = f_X9_isLetter v ∧ f_X13_isDigit (v &&& 255) = f_X9_isDigit v ∧ (v &&& 255 = 32 ↔ v = 32) ∧ (v &&& 255 = 59 ↔ v = 59) ∧ (v &&& 255 = 44 ↔ v = 44) ∧ ¬ (v &&& 255 = -1) ∧ (f_X9_isLetter v = true → v &&& 255 = v ∧ 97 ≤ v.toNatClampNeg ∧ v.toNatClampNeg ≤ 122 ∧ v = Int32.ofNat v.toNatClampNeg) ∧ (f_X9_isDigit v = true → v &&& 255 = v ∧ 48 ≤ v.toNatClampNeg ∧ v.toNatClampNeg ≤ 57 ∧ v = Int32.ofNat v.toNatClampNeg) := by
  obtain ⟨n, e⟩ := q_i8 v.toInt8
  have h' : v = (Int8.ofNat n.val).toInt32 := by rw [← e]; exact h.symm
  rw [h']
  exact q_by256 n
/-- letters packed -/
def q_pk (x : Nat → Nat) : Nat → Nat
  | 0 => 0
  | n + 1 => 32 * q_pk x n + x n
theorem q_pk_lt {x : Nat → Nat} : ∀ n, (∀ i, i < n → x i < 32) → q_pk x n < 32 ^ n
  | 0, _ => Nat.one_pos
  | n + 1, h => by
    have i := q_pk_lt n (fun i hi => h i (by omega))
    have j := h n (by omega)
    show 32 * q_pk x n + x n < 32 ^ (n + 1)
    rw [Nat.pow_succ]
    omega
theorem q_pk_inj {x y : Nat → Nat} : ∀ m n, (∀ i, i < m → 1 ≤ x i ∧ x i < 32) → (∀ i, i < n → 1 ≤ y i ∧ y i < 32) → (q_pk x m = q_pk y n ↔ m = n ∧ ∀ i, i < n → x i = y i)
  | 0, 0, _, _ => ⟨fun _ => ⟨rfl, fun i hi => absurd hi (by omega)⟩, fun _ => rfl⟩
  | 0, n + 1, _, hy => by
    have := hy n (by omega)
    constructor
    · intro h
      have h' : 0 = 32 * q_pk y n + y n := h
      omega
    · rintro ⟨h, -⟩
      omega
  | m + 1, 0, hx, _ => by
    have := hx m (by omega)
    constructor
    · intro h
      have h' : 32 * q_pk x m + x m = 0 := h
      omega
    · rintro ⟨h, -⟩
      omega
  | m + 1, n + 1, hx, hy => by
    have hxm := hx m (by omega)
    have hyn := hy n (by omega)
    have ih := q_pk_inj m n (fun i hi => hx i (by omega)) (fun i hi => hy i (by omega))
    constructor
    · intro h
      have h' : 32 * q_pk x m + x m = 32 * q_pk y n + y n := h
      have e1 : q_pk x m = q_pk y n := by omega
      obtain ⟨e2, e3⟩ := ih.mp e1
      subst e2
      refine ⟨rfl, fun i hi => ?_⟩
      by_cases z : i = m
      · subst z; omega
      · exact e3 i (by omega)
    · rintro ⟨h, h2⟩
      have e2 : m = n := by omega
      subst e2
      have e1 := ih.mpr ⟨rfl, fun i hi => h2 i (by omega)⟩
      have e3 := h2 m (by omega)
      show 32 * q_pk x m + x m = 32 * q_pk y m + y m
      omega
