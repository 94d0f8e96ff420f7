/-! tier two: a whole number, a token -/
section QT
variable {B : Nat → Int32} {N q p r : Nat} {D E : JD}
def qp_dv (B : Nat → Int32) (p : Nat) : Nat → Nat
  | 0 => 0
  | n + 1 => 10 * qp_dv B p n + ((B (p + n)).toNatClampNeg - 48)
theorem qp_dig {v : Int32} (hb : q_isb v) (h : f_X9_isDigit v = true) {a : Nat} (ha : a < 100000000) : ((10 : Int32) * Int32.ofNat a + v) - 48 = Int32.ofNat (10 * a + (v.toNatClampNeg - 48)) ∧ v.toNatClampNeg - 48 ≤ 9 := by
  obtain ⟨-, x, y, c⟩ := (q_byt hb).2.2.2.2.2.2.2 h
  refine ⟨?_, by omega⟩
  have e1 : (10 : Int32) * Int32.ofNat a + Int32.ofNat v.toNatClampNeg = Int32.ofNat (10 * a + v.toNatClampNeg) := by rw [Int32.ofNat_add, Int32.ofNat_mul]; rfl
  have e2 : Int32.ofNat (10 * a + v.toNatClampNeg) - Int32.ofNat 48 = Int32.ofNat (10 * a + v.toNatClampNeg - 48) := q_sub (by omega)
  conv => lhs; rw [c, e1]
  refine e2.trans ?_
  congr 1
  omega
theorem qp_dv_le (h : ∀ i, i < 3 → (B (p + i)).toNatClampNeg - 48 ≤ 9) : ∀ n, n ≤ 3 → qp_dv B p n < 10 ^ n
  | 0, _ => Nat.one_pos
  | n + 1, hn => by
    have i := qp_dv_le h n (by omega)
    have j := h n (by omega)
    show 10 * qp_dv B p n + ((B (p + n)).toNatClampNeg - 48) < 10 ^ (n + 1)
    rw [Nat.pow_succ]
    omega
theorem qp_dv_b (h : ∀ i, i < r → (B (p + i)).toNatClampNeg - 48 ≤ 9) : ∀ n, n ≤ r → n ≤ 3 → qp_dv B p n ≤ 999 := by
  have g : ∀ n, n ≤ r → qp_dv B p n < 10 ^ n := by
    intro n
    induction n with
    | zero => exact fun _ => Nat.one_pos
    | succ n ih =>
      intro hn
      have i := ih (by omega)
      have j := h n (by omega)
      show 10 * qp_dv B p n + ((B (p + n)).toNatClampNeg - 48) < 10 ^ (n + 1)
      rw [Nat.pow_succ]
      omega
  intro n h1 h2
  have h3 := g n h1
  have h4 : 10 ^ n ≤ 10 ^ 3 := Nat.pow_le_pow_right (by decide) h2
  omega
theorem qp_whC (hN : N ≤ 900) (hb : ∀ i, q_isb (B i)) (hB : D.1 2 = B) (e2 : D.1 1 2 = Int32.ofNat N) (e3 : D.1 1 3 = Int32.ofNat p) (e5 : D.1 1 5 = Int32.ofNat p) (h1 : p ≤ r) (h2 : r ≤ N) (h3 : ∀ i, p ≤ i → i < r → f_X9_isDigit (B i) = true) (h4 : r = N ∨ ¬ (f_X9_isDigit (B r) = true)) : ∃ D', f_X9_scanWhole D = some D' ∧ qp_cf D D' ∧ D'.1 1 3 = Int32.ofNat r ∧ D'.1 1 5 = Int32.ofNat p ∧ D'.1 1 4 = (if r - p ≤ 3 then 2 else 5) ∧ (r - p ≤ 3 → D'.1 1 7 = Int32.ofNat (qp_dv B p (r - p))) := by
  have dl : ∀ i, i < r - p → (B (p + i)).toNatClampNeg - 48 ≤ 9 := fun i hi => (qp_dig (a := 0) (hb _) (h3 (p + i) (by omega) (by omega)) (by decide)).2
  obtain ⟨D1, w1, f, s3, s5, s7⟩ := q_inv (F := f_X9_scanWhole_w5) (τ := fun i S => qp_cf D S ∧ S.1 1 3 = Int32.ofNat (p + i) ∧ S.1 1 5 = Int32.ofNat p ∧ (i ≤ 3 → S.1 1 7 = Int32.ofNat (qp_dv B p i))) (ρ := fun S => qp_cf D S ∧ S.1 1 3 = Int32.ofNat r ∧ S.1 1 5 = Int32.ofNat p ∧ (r - p ≤ 3 → S.1 1 7 = Int32.ofNat (qp_dv B p (r - p)))) (n := r - p) (by omega) (by
    intro i hi S hS
    obtain ⟨f, s3, s5, s7⟩ := hS
    have s2 : S.1 1 2 = Int32.ofNat N := (f.2.1 2 (by decide) (by decide) (by decide) (by decide)).trans e2
    have sB : S.1 2 = B := (f.1 2 (by decide)).trans hB
    have hl := h3 (p + i) (by omega) (by omega)
    unfold f_X9_scanWhole_w5
    rw [s2, s3, if_neg (q_go (by omega) (by omega)), sB, q_bC (by omega), if_pos hl, q_s]
    refine ⟨_, rfl, (f.sI (Or.inr (Or.inr (Or.inr rfl))) _).sI (Or.inl rfl) _, ?_, ?_, fun h8 => ?_⟩
    · rw [q_sI_aa]; rfl
    · rw [q_sI_ao _ _ _ (by decide), q_sI_ao _ _ _ (by decide)]; exact s5
    · have b := qp_dv_b dl i (by omega) (by omega)
      rw [q_sI_ao _ _ _ (by decide), q_sI_aa, s7 (by omega), (qp_dig (hb _) hl (by omega)).1]
      rfl) (by
    intro S hS
    obtain ⟨f, s3, s5, s7⟩ := hS
    have s2 : S.1 1 2 = Int32.ofNat N := (f.2.1 2 (by decide) (by decide) (by decide) (by decide)).trans e2
    have sB : S.1 2 = B := (f.1 2 (by decide)).trans hB
    rw [show p + (r - p) = r by omega] at s3
    unfold f_X9_scanWhole_w5
    rw [s2, s3]
    by_cases y : r = N
    · rw [y, if_pos (q_end (by omega))]
      exact ⟨_, rfl, f, by rw [s3, y], s5, by rw [← y]; exact s7⟩
    · have z : ¬ (f_X9_isDigit (B r) = true) := by
        rcases h4 with z | z
        · exact absurd z y
        · exact z
      rw [if_neg (q_go (by omega) (by omega)), sB, q_bC (by omega), if_neg z]
      exact ⟨_, rfl, f, s3, s5, s7⟩) (t := j_sI D 1 7 0) ⟨(qp_cf.refl D).sI (Or.inr (Or.inr (Or.inr rfl))) 0, by rw [q_sI_ao _ _ _ (by decide)]; exact e3, by rw [q_sI_ao _ _ _ (by decide)]; exact e5, fun _ => by rw [q_sI_aa]; rfl⟩
  have df : D1.1 1 3 - D1.1 1 5 = Int32.ofNat (r - p) := by rw [s3, s5]; exact q_sub h1
  unfold f_X9_scanWhole f_X9_scanWhole_j85
  rw [w1, Option.bind_some, df]
  by_cases c : r - p ≤ 3
  · rw [if_neg (show ¬ ((3 : Int32) < Int32.ofNat (r - p)) from fun y => by
      have := (q_lt (n := 3) (by decide) (by omega)).mp y
      omega), if_pos c]
    refine ⟨_, rfl, f.sI (Or.inr (Or.inl rfl)) _, ?_, ?_, ?_, fun h => ?_⟩
    · rw [q_sI_ao _ _ _ (by decide)]; exact s3
    · rw [q_sI_ao _ _ _ (by decide)]; exact s5
    · rw [q_sI_aa]
    · rw [q_sI_ao _ _ _ (by decide)]; exact s7 h
  · rw [if_pos (show (3 : Int32) < Int32.ofNat (r - p) from (q_lt (n := 3) (by decide) (by omega)).mpr (by omega)), if_neg c]
    refine ⟨_, rfl, f.sI (Or.inr (Or.inl rfl)) _, ?_, ?_, ?_, fun h => absurd h c⟩
    · rw [q_sI_ao _ _ _ (by decide)]; exact s3
    · rw [q_sI_ao _ _ _ (by decide)]; exact s5
    · rw [q_sI_aa]
theorem qp_whM (hN : N ≤ 900) (hb : ∀ i, q_isb (B i)) (hB : E.1 58 = B) (e7 : E.1 57 7 = Int32.ofNat N) (e8 : E.1 57 8 = Int32.ofNat p) (h1 : p ≤ r) (h2 : r ≤ N) (h3 : ∀ i, p ≤ i → i < r → f_X9_isDigit (B i) = true) (h4 : r = N ∨ ¬ (f_X9_isDigit (B r) = true)) (h0 : E.1 57 11 = 0) : ∃ E', j_wh f_X13_goesOn_w173 j_fuel (0, E) = some (Int32.ofNat (r - p), E') ∧ qp_mf E E' ∧ E'.1 57 8 = Int32.ofNat r ∧ (∀ k, k ≠ 8 → k ≠ 11 → E'.1 57 k = E.1 57 k) ∧ (r - p ≤ 3 → E'.1 57 11 = Int32.ofNat (qp_dv B p (r - p))) := by
  have dl : ∀ i, i < r - p → (B (p + i)).toNatClampNeg - 48 ≤ 9 := fun i hi => (qp_dig (a := 0) (hb _) (h3 (p + i) (by omega) (by omega)) (by decide)).2
  obtain ⟨⟨n1, E1⟩, w1, hn, f, s8, so, s14⟩ := q_inv (F := f_X13_goesOn_w173) (τ := fun i (S : Int32 × JD) => S.1 = Int32.ofNat i ∧ qp_mf E S.2 ∧ S.2.1 57 8 = Int32.ofNat (p + i) ∧ (∀ k, k ≠ 8 → k ≠ 11 → S.2.1 57 k = E.1 57 k) ∧ (i ≤ 3 → S.2.1 57 11 = Int32.ofNat (qp_dv B p i))) (ρ := fun S => S.1 = Int32.ofNat (r - p) ∧ qp_mf E S.2 ∧ S.2.1 57 8 = Int32.ofNat r ∧ (∀ k, k ≠ 8 → k ≠ 11 → S.2.1 57 k = E.1 57 k) ∧ (r - p ≤ 3 → S.2.1 57 11 = Int32.ofNat (qp_dv B p (r - p)))) (n := r - p) (by omega) (by
    intro i hi S hS
    obtain ⟨c1, S⟩ := S
    obtain ⟨hc, f, s8, so, s14⟩ := hS
    dsimp only at hc f s8 so s14
    subst hc
    have s7 : S.1 57 7 = Int32.ofNat N := (so 7 (by decide) (by decide)).trans e7
    have sB : S.1 58 = B := (f.1 58 (by decide)).trans hB
    have hl := h3 (p + i) (by omega) (by omega)
    have am := ((q_byt (hb (p + i))).2.2.2.2.2.2.2 hl).1
    have il : f_X13_isDigit (B (p + i)) = true := by
      have := (q_byt (hb (p + i))).2.1
      rw [am] at this
      rw [this, hl]
    unfold f_X13_goesOn_w173 f_X13_goesOn_j215_173
    dsimp only
    rw [s8, sB, q_bM hN s7 (by omega), Option.bind_some, Option.bind_some, am, if_pos il, q_s]
    by_cases c : 3 ≤ i
    · rw [if_pos (show (3 : Int32) ≤ Int32.ofNat i from (q_le (n := 3) (by decide) (by omega)).mpr c), q_s]
      refine ⟨_, rfl, rfl, f.sI (Or.inl rfl) _, ?_, fun k hk hk' => ?_, fun h8 => absurd h8 (by omega)⟩
      · dsimp only
        rw [q_sI_aa]; rfl
      · dsimp only
        rw [q_sI_ao _ _ _ hk]; exact so k hk hk'
    · have b := qp_dv_b dl i (by omega) (by omega)
      rw [if_neg (show ¬ ((3 : Int32) ≤ Int32.ofNat i) from q_go (n := 3) (by decide) (by omega)), q_sI_ao _ _ _ (show (8 : Nat) ≠ 11 by decide), s8, q_s]
      refine ⟨_, rfl, rfl, (f.sI (Or.inr (Or.inr (Or.inr rfl))) _).sI (Or.inl rfl) _, ?_, fun k hk hk' => ?_, fun h8 => ?_⟩
      · dsimp only
        rw [q_sI_aa]; rfl
      · dsimp only
        rw [q_sI_ao _ _ _ hk, q_sI_ao _ _ _ hk']; exact so k hk hk'
      · dsimp only
        rw [q_sI_ao _ _ _ (by decide), q_sI_aa, s14 (by omega), (qp_dig (hb _) hl (by omega)).1]
        rfl) (by
    intro S hS
    obtain ⟨c1, S⟩ := S
    obtain ⟨hc, f, s8, so, s14⟩ := hS
    dsimp only at hc f s8 so s14
    subst hc
    have s7 : S.1 57 7 = Int32.ofNat N := (so 7 (by decide) (by decide)).trans e7
    have sB : S.1 58 = B := (f.1 58 (by decide)).trans hB
    rw [show p + (r - p) = r by omega] at s8
    unfold f_X13_goesOn_w173
    dsimp only
    rw [s8, sB]
    by_cases y : r = N
    · have bm : f_X13_byteAt (S.1 57) B (Int32.ofNat r) = some (-1) := by rw [y]; exact q_bMe hN s7
      rw [bm, Option.bind_some, if_neg (by decide)]
      exact ⟨_, rfl, rfl, f, s8, so, s14⟩
    · have z : ¬ (f_X9_isDigit (B r) = true) := by
        rcases h4 with z | z
        · exact absurd z y
        · exact z
      rw [q_bM hN s7 (by omega), Option.bind_some, (q_byt (hb r)).2.1, if_neg z]
      exact ⟨_, rfl, rfl, f, s8, so, s14⟩) (t := (0, E)) ⟨rfl, qp_mf.refl E, e8, fun _ _ _ => rfl, fun _ => h0⟩
  dsimp only at hn f s8 so s14
  subst hn
  exact ⟨E1, w1, f, s8, so, s14⟩
end QT
