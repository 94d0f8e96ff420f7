/-! tier two: both read a token -/
def qp_cf (D D' : JD) : Prop := (∀ b, b ≠ 1 → D'.1 b = D.1 b) ∧ (∀ k, k ≠ 3 → k ≠ 4 → k ≠ 5 → k ≠ 7 → D'.1 1 k = D.1 1 k) ∧ ∀ b, b ≠ 1 → D'.2 b = D.2 b
def qp_mf (E E' : JD) : Prop := (∀ b, b ≠ 57 → E'.1 b = E.1 b) ∧ (∀ k, k ≠ 8 → k ≠ 9 → k ≠ 10 → k ≠ 11 → E'.1 57 k = E.1 57 k) ∧ ∀ b, b ≠ 57 → E'.2 b = E.2 b
theorem qp_cf.refl (D : JD) : qp_cf D D := ⟨fun _ _ => rfl, fun _ _ _ _ _ => rfl, fun _ _ => rfl⟩
theorem qp_mf.refl (D : JD) : qp_mf D D := ⟨fun _ _ => rfl, fun _ _ _ _ _ => rfl, fun _ _ => rfl⟩
theorem qp_cf.trans {A B C : JD} (h : qp_cf A B) (k : qp_cf B C) : qp_cf A C := ⟨fun b hb => (k.1 b hb).trans (h.1 b hb), fun j a b c d => (k.2.1 j a b c d).trans (h.2.1 j a b c d), fun b hb => (k.2.2 b hb).trans (h.2.2 b hb)⟩
theorem qp_mf.trans {A B C : JD} (h : qp_mf A B) (k : qp_mf B C) : qp_mf A C := ⟨fun b hb => (k.1 b hb).trans (h.1 b hb), fun j a b c d => (k.2.1 j a b c d).trans (h.2.1 j a b c d), fun b hb => (k.2.2 b hb).trans (h.2.2 b hb)⟩
theorem qp_cf.sI {D D' : JD} (h : qp_cf D D') {k : Nat} (hk : k = 3 ∨ k = 4 ∨ k = 5 ∨ k = 7) (v : Int32) : qp_cf D (j_sI D' 1 k v) := h.trans ⟨fun b hb => q_sI_o hb, fun j a b c d => by rw [q_sI_a, q_upd_o (by omega)], fun _ _ => rfl⟩
theorem qp_mf.sI {D D' : JD} (h : qp_mf D D') {k : Nat} (hk : k = 8 ∨ k = 9 ∨ k = 10 ∨ k = 11) (v : Int32) : qp_mf D (j_sI D' 57 k v) := h.trans ⟨fun b hb => q_sI_o hb, fun j a b c d => by rw [q_sI_a, q_upd_o (by omega)], fun _ _ => rfl⟩
theorem qp_cf.sL {D D' : JD} (h : qp_cf D D') (k : Nat) (v : Int64) : qp_cf D (j_sL D' 1 k v) := h.trans ⟨fun _ _ => rfl, fun _ _ _ _ _ => rfl, fun b hb => if_neg hb⟩
theorem qp_mf.sL {D D' : JD} (h : qp_mf D D') (k : Nat) (v : Int64) : qp_mf D (j_sL D' 57 k v) := h.trans ⟨fun _ _ => rfl, fun _ _ _ _ _ => rfl, fun b hb => if_neg hb⟩
theorem q_sL_1 (D : JD) (a k : Nat) (v : Int64) : (j_sL D a k v).1 = D.1 := rfl
theorem q_sL_a (D : JD) (a k : Nat) (v : Int64) : (j_sL D a k v).2 a k = v := by
  show (if a = a then vp_updL (D.2 a) k v else D.2 a) k = v
  rw [if_pos rfl]
  exact if_pos rfl
theorem q_sI_aa (D : JD) (a k : Nat) (v : Int32) : (j_sI D a k v).1 a k = v := by rw [q_sI_a, q_upd_a]
theorem q_sI_ao (D : JD) (a : Nat) {k j : Nat} (v : Int32) (h : j ≠ k) : (j_sI D a k v).1 a j = D.1 a j := by rw [q_sI_a, q_upd_o h]
/-- what both find at a place -/
def q_byx (B : Nat → Int32) (N : Nat) (D E : JD) : Prop := D.1 2 = B ∧ E.1 58 = B ∧ D.1 1 2 = Int32.ofNat N ∧ E.1 57 7 = Int32.ofNat N ∧ N ≤ 900
theorem q_byx.c {B : Nat → Int32} {N : Nat} {D E D' : JD} (h : q_byx B N D E) (k : qp_cf D D') : q_byx B N D' E := ⟨(k.1 2 (by decide)).trans h.1, h.2.1, (k.2.1 2 (by decide) (by decide) (by decide) (by decide)).trans h.2.2.1, h.2.2.2.1, h.2.2.2.2⟩
theorem q_byx.m {B : Nat → Int32} {N : Nat} {D E E' : JD} (h : q_byx B N D E) (k : qp_mf E E') : q_byx B N D E' := ⟨h.1, (k.1 58 (by decide)).trans h.2.1, h.2.2.1, (k.2.1 7 (by decide) (by decide) (by decide) (by decide)).trans h.2.2.2.1, h.2.2.2.2⟩
theorem q_bC {B : Nat → Int32} {i : Nat} (h : i < 900) : f_X9_byteAt B (Int32.ofNat i) = B i := by
  unfold f_X9_byteAt
  rw [if_neg (q_neg (by omega)), if_neg (show ¬ ((900 : Int32) ≤ Int32.ofNat i) from q_go (n := 900) (by decide) h), q_n (by omega)]
theorem q_bM {r57 B : Nat → Int32} {N i : Nat} (hN : N ≤ 900) (e : r57 7 = Int32.ofNat N) (h : i < N) : f_X13_byteAt r57 B (Int32.ofNat i) = some (B i &&& 255) := by
  unfold f_X13_byteAt
  rw [e, if_neg (q_go (by omega) h), if_neg (q_in (n := 900) (by omega) (by decide)), q_n (by omega)]
theorem q_bMe {r57 B : Nat → Int32} {N : Nat} (hN : N ≤ 900) (e : r57 7 = Int32.ofNat N) : f_X13_byteAt r57 B (Int32.ofNat N) = some (-1) := by
  unfold f_X13_byteAt
  rw [e, if_pos (q_end (by omega))]
section QT
variable {B : Nat → Int32} {N q p r : Nat} {D E : JD}
/-- spaces passed over -/
theorem q_skC (hN : N ≤ 900) (hB : D.1 2 = B) (e2 : D.1 1 2 = Int32.ofNat N) (e3 : D.1 1 3 = Int32.ofNat q) (h1 : q ≤ p) (h2 : p ≤ N) (h3 : ∀ i, q ≤ i → i < p → B i = 32) (h4 : p = N ∨ ¬ (B p = 32)) : ∃ D', j_wh f_X9_advance_w0 j_fuel D = some D' ∧ qp_cf D D' ∧ D'.1 1 3 = Int32.ofNat p := by
  refine q_inv (F := f_X9_advance_w0) (τ := fun i S => qp_cf D S ∧ S.1 1 3 = Int32.ofNat (q + i)) (ρ := fun S => qp_cf D S ∧ S.1 1 3 = Int32.ofNat p) (n := p - q) (by omega) ?_ ?_ (t := D) ⟨qp_cf.refl D, e3⟩
  · intro i hi S hS
    obtain ⟨f, s3⟩ := hS
    have s2 : S.1 1 2 = Int32.ofNat N := (f.2.1 2 (by decide) (by decide) (by decide) (by decide)).trans e2
    have sB : S.1 2 = B := (f.1 2 (by decide)).trans hB
    unfold f_X9_advance_w0
    rw [s2, s3, if_neg (q_go (by omega) (by omega)), sB, q_bC (by omega), if_pos (h3 _ (by omega) (by omega)), q_s]
    refine ⟨_, rfl, f.sI (Or.inl rfl) _, ?_⟩
    rw [q_sI_aa]
    rfl
  · intro S hS
    obtain ⟨f, s3⟩ := hS
    have s2 : S.1 1 2 = Int32.ofNat N := (f.2.1 2 (by decide) (by decide) (by decide) (by decide)).trans e2
    have sB : S.1 2 = B := (f.1 2 (by decide)).trans hB
    rw [show q + (p - q) = p by omega] at s3
    unfold f_X9_advance_w0
    rw [s2, s3]
    rcases h4 with z | z
    · rw [z, if_pos (q_end (by omega))]
      exact ⟨_, rfl, f, by rw [s3, z]⟩
    · by_cases y : p = N
      · rw [y, if_pos (q_end (by omega))]
        exact ⟨_, rfl, f, by rw [s3, y]⟩
      · rw [if_neg (q_go (by omega) (by omega)), sB, q_bC (by omega), if_neg z]
        exact ⟨_, rfl, f, s3⟩
theorem q_skM (hN : N ≤ 900) (hB : E.1 58 = B) (hb : ∀ i, q_isb (B i)) (e7 : E.1 57 7 = Int32.ofNat N) (e8 : E.1 57 8 = Int32.ofNat q) (h1 : q ≤ p) (h2 : p ≤ N) (h3 : ∀ i, q ≤ i → i < p → B i = 32) (h4 : p = N ∨ ¬ (B p = 32)) : ∃ E', j_wh f_X13_goesOn_w9 j_fuel E = some E' ∧ qp_mf E E' ∧ E'.1 57 8 = Int32.ofNat p := by
  refine q_inv (F := f_X13_goesOn_w9) (τ := fun i S => qp_mf E S ∧ S.1 57 8 = Int32.ofNat (q + i)) (ρ := fun S => qp_mf E S ∧ S.1 57 8 = Int32.ofNat p) (n := p - q) (by omega) ?_ ?_ (t := E) ⟨qp_mf.refl E, e8⟩
  · intro i hi S hS
    obtain ⟨f, s3⟩ := hS
    have s2 : S.1 57 7 = Int32.ofNat N := (f.2.1 7 (by decide) (by decide) (by decide) (by decide)).trans e7
    have sB : S.1 58 = B := (f.1 58 (by decide)).trans hB
    unfold f_X13_goesOn_w9
    rw [s3, sB, q_bM hN s2 (by omega), Option.bind_some, if_pos ((q_byt (hb _)).2.2.1.mpr (h3 _ (by omega) (by omega))), q_s]
    refine ⟨_, rfl, f.sI (Or.inl rfl) _, ?_⟩
    rw [q_sI_aa]
    rfl
  · intro S hS
    obtain ⟨f, s3⟩ := hS
    have s2 : S.1 57 7 = Int32.ofNat N := (f.2.1 7 (by decide) (by decide) (by decide) (by decide)).trans e7
    have sB : S.1 58 = B := (f.1 58 (by decide)).trans hB
    rw [show q + (p - q) = p by omega] at s3
    unfold f_X13_goesOn_w9
    rw [s3, sB]
    by_cases y : p = N
    · rw [y, q_bMe hN s2, Option.bind_some, if_neg (by decide)]
      exact ⟨_, rfl, f, by rw [s3, y]⟩
    · have z : ¬ (B p = 32) := by
        rcases h4 with z | z
        · exact absurd z y
        · exact z
      rw [q_bM hN s2 (by omega), Option.bind_some, if_neg (fun u => z ((q_byt (hb _)).2.2.1.mp u))]
      exact ⟨_, rfl, f, s3⟩
/-- a run of letters -/
def q_lwd (B : Nat → Int32) (p n : Nat) : Int64 := Int64.ofNat (q_pk (fun i => (B (p + i)).toNatClampNeg - 96) n)
theorem q_pk8 {x : Nat → Nat} {n : Nat} (hn : n ≤ 7) (h : ∀ i, i < n → x i < 32) : q_pk x n < 1099511627776 := by
  have h1 := q_pk_lt n h
  have h2 : 32 ^ n ≤ 32 ^ 7 := Nat.pow_le_pow_right (by decide) hn
  have h3 : (32 : Nat) ^ 7 = 34359738368 := by decide
  omega
theorem q_let {v : Int32} (hb : q_isb v) (h : f_X9_isLetter v = true) : (v - 97) + 1 = Int32.ofNat (v.toNatClampNeg - 96) ∧ 1 ≤ v.toNatClampNeg - 96 ∧ v.toNatClampNeg - 96 < 32 := by
  obtain ⟨-, a, b, c⟩ := (q_byt hb).2.2.2.2.2.2.1 h
  refine ⟨?_, by omega, by omega⟩
  have e1 : Int32.ofNat v.toNatClampNeg - Int32.ofNat 97 = Int32.ofNat (v.toNatClampNeg - 97) := q_sub a
  have e2 : v - 97 = Int32.ofNat (v.toNatClampNeg - 97) := by
    conv => lhs; rw [c]
    exact e1
  rw [e2, q_s]
  congr 1
  omega
theorem qp_wdC (hN : N ≤ 900) (hb : ∀ i, q_isb (B i)) (hB : D.1 2 = B) (e2 : D.1 1 2 = Int32.ofNat N) (e3 : D.1 1 3 = Int32.ofNat p) (e5 : D.1 1 5 = Int32.ofNat p) (h1 : p ≤ r) (h2 : r ≤ N) (h3 : ∀ i, p ≤ i → i < r → f_X9_isLetter (B i) = true) (h4 : r = N ∨ ¬ (f_X9_isLetter (B r) = true)) : ∃ D', f_X9_scanWord D = some D' ∧ qp_cf D D' ∧ D'.1 1 3 = Int32.ofNat r ∧ D'.1 1 5 = Int32.ofNat p ∧ D'.1 1 4 = (if r - p ≤ 8 then 1 else 5) ∧ (r - p ≤ 8 → D'.2 1 6 = q_lwd B p (r - p)) := by
  obtain ⟨D1, w1, f, s3, s5, s6⟩ := q_inv (F := f_X9_scanWord_w5) (τ := fun i S => qp_cf D S ∧ S.1 1 3 = Int32.ofNat (p + i) ∧ S.1 1 5 = Int32.ofNat p ∧ (i ≤ 8 → S.2 1 6 = q_lwd B p i)) (ρ := fun S => qp_cf D S ∧ S.1 1 3 = Int32.ofNat r ∧ S.1 1 5 = Int32.ofNat p ∧ (r - p ≤ 8 → S.2 1 6 = q_lwd B p (r - p))) (n := r - p) (by omega) (by
    intro i hi S hS
    obtain ⟨f, s3, s5, s6⟩ := hS
    have s2 : S.1 1 2 = Int32.ofNat N := (f.2.1 2 (by decide) (by decide) (by decide) (by decide)).trans e2
    have sB : S.1 2 = B := (f.1 2 (by decide)).trans hB
    have hl := h3 (p + i) (by omega) (by omega)
    obtain ⟨l1, l2, l3⟩ := q_let (hb (p + i)) hl
    unfold f_X9_scanWord_w5
    rw [s2, s3, if_neg (q_go (by omega) (by omega)), sB, q_bC (by omega), if_pos hl, q_s, l1]
    refine ⟨_, rfl, (f.sL 6 _).sI (Or.inl rfl) _, ?_, ?_, fun h8 => ?_⟩
    · rw [q_sI_aa]; rfl
    · rw [q_sI_ao _ _ _ (by decide)]; exact s5
    · show (j_sL S 1 6 _).2 1 6 = _
      rw [q_sL_a, s6 (by omega), q_to64 (by omega)]
      exact q_shor (q_pk8 (by omega) (fun j hj => (q_let (hb (p + j)) (h3 _ (by omega) (by omega))).2.2)) l3) (by
    intro S hS
    obtain ⟨f, s3, s5, s6⟩ := hS
    have s2 : S.1 1 2 = Int32.ofNat N := (f.2.1 2 (by decide) (by decide) (by decide) (by decide)).trans e2
    have sB : S.1 2 = B := (f.1 2 (by decide)).trans hB
    rw [show p + (r - p) = r by omega] at s3
    unfold f_X9_scanWord_w5
    rw [s2, s3]
    by_cases y : r = N
    · rw [y, if_pos (q_end (by omega))]
      exact ⟨_, rfl, f, by rw [s3, y], s5, by rw [← y]; exact s6⟩
    · have z : ¬ (f_X9_isLetter (B r) = true) := by
        rcases h4 with z | z
        · exact absurd z y
        · exact z
      rw [if_neg (q_go (by omega) (by omega)), sB, q_bC (by omega), if_neg z]
      exact ⟨_, rfl, f, s3, s5, s6⟩) (t := j_sL D 1 6 0) ⟨(qp_cf.refl D).sL 6 0, e3, e5, fun _ => q_sL_a D 1 6 0⟩
  have df : D1.1 1 3 - D1.1 1 5 = Int32.ofNat (r - p) := by rw [s3, s5]; exact q_sub h1
  unfold f_X9_scanWord f_X9_scanWord_j88
  rw [w1, Option.bind_some, df]
  by_cases c : r - p ≤ 8
  · rw [if_neg (show ¬ ((8 : Int32) < Int32.ofNat (r - p)) from fun y => by
      have := (q_lt (n := 8) (by decide) (by omega)).mp y
      omega), if_pos c]
    refine ⟨_, rfl, f.sI (Or.inr (Or.inl rfl)) _, ?_, ?_, ?_, s6⟩
    · rw [q_sI_ao _ _ _ (by decide)]; exact s3
    · rw [q_sI_ao _ _ _ (by decide)]; exact s5
    · rw [q_sI_aa]
  · rw [if_pos (show (8 : Int32) < Int32.ofNat (r - p) from (q_lt (n := 8) (by decide) (by omega)).mpr (by omega)), if_neg c]
    refine ⟨_, rfl, f.sI (Or.inr (Or.inl rfl)) _, ?_, ?_, ?_, s6⟩
    · rw [q_sI_ao _ _ _ (by decide)]; exact s3
    · rw [q_sI_ao _ _ _ (by decide)]; exact s5
    · rw [q_sI_aa]
theorem qp_wdM (hN : N ≤ 900) (hb : ∀ i, q_isb (B i)) (hB : E.1 58 = B) (e7 : E.1 57 7 = Int32.ofNat N) (e8 : E.1 57 8 = Int32.ofNat p) (h1 : p ≤ r) (h2 : r ≤ N) (h3 : ∀ i, p ≤ i → i < r → f_X9_isLetter (B i) = true) (h4 : r = N ∨ ¬ (f_X9_isLetter (B r) = true)) (h0 : E.2 57 14 = 0) : ∃ E', j_wh f_X13_goesOn_w84 j_fuel (0, E) = some (Int32.ofNat (r - p), E') ∧ qp_mf E E' ∧ E'.1 57 8 = Int32.ofNat r ∧ (∀ k, k ≠ 8 → E'.1 57 k = E.1 57 k) ∧ (r - p ≤ 8 → E'.2 57 14 = q_lwd B p (r - p)) := by
  obtain ⟨⟨n1, E1⟩, w1, hn, f, s8, so, s14⟩ := q_inv (F := f_X13_goesOn_w84) (τ := fun i (S : Int32 × JD) => S.1 = Int32.ofNat i ∧ qp_mf E S.2 ∧ S.2.1 57 8 = Int32.ofNat (p + i) ∧ (∀ k, k ≠ 8 → S.2.1 57 k = E.1 57 k) ∧ (i ≤ 8 → S.2.2 57 14 = q_lwd B p i)) (ρ := fun S => S.1 = Int32.ofNat (r - p) ∧ qp_mf E S.2 ∧ S.2.1 57 8 = Int32.ofNat r ∧ (∀ k, k ≠ 8 → S.2.1 57 k = E.1 57 k) ∧ (r - p ≤ 8 → S.2.2 57 14 = q_lwd B p (r - p))) (n := r - p) (by omega) (by
    intro i hi S hS
    obtain ⟨c1, S⟩ := S
    obtain ⟨hc, f, s8, so, s14⟩ := hS
    dsimp only at hc f s8 so s14
    subst hc
    have s7 : S.1 57 7 = Int32.ofNat N := (so 7 (by decide)).trans e7
    have sB : S.1 58 = B := (f.1 58 (by decide)).trans hB
    have hl := h3 (p + i) (by omega) (by omega)
    obtain ⟨l1, l2, l3⟩ := q_let (hb (p + i)) hl
    have am := ((q_byt (hb (p + i))).2.2.2.2.2.2.1 hl).1
    have il : f_X13_isLetter (B (p + i)) = true := by
      have := (q_byt (hb (p + i))).1
      rw [am] at this
      rw [this, hl]
    unfold f_X13_goesOn_w84 f_X13_goesOn_j131_84
    dsimp only
    rw [s8, sB, q_bM hN s7 (by omega), Option.bind_some, Option.bind_some, am, if_pos il, q_s, l1]
    by_cases c : 8 ≤ i
    · rw [if_pos (show (8 : Int32) ≤ Int32.ofNat i from (q_le (n := 8) (by decide) (by omega)).mpr c), q_s]
      refine ⟨_, rfl, rfl, f.sI (Or.inl rfl) _, ?_, fun k hk => ?_, fun h8 => absurd h8 (by omega)⟩
      · dsimp only
        rw [q_sI_aa]; rfl
      · dsimp only
        rw [q_sI_ao _ _ _ hk]; exact so k hk
    · rw [if_neg (show ¬ ((8 : Int32) ≤ Int32.ofNat i) from q_go (n := 8) (by decide) (by omega)), q_sL_1, s8, q_s]
      refine ⟨_, rfl, rfl, (f.sL 14 _).sI (Or.inl rfl) _, ?_, fun k hk => ?_, fun h8 => ?_⟩
      · dsimp only
        rw [q_sI_aa]; rfl
      · dsimp only
        rw [q_sI_ao _ _ _ hk]; exact so k hk
      · show (j_sL S 57 14 _).2 57 14 = _
        rw [q_sL_a, s14 (by omega), q_to64 (by omega)]
        exact q_mulad) (by
    intro S hS
    obtain ⟨c1, S⟩ := S
    obtain ⟨hc, f, s8, so, s14⟩ := hS
    dsimp only at hc f s8 so s14
    subst hc
    have s7 : S.1 57 7 = Int32.ofNat N := (so 7 (by decide)).trans e7
    have sB : S.1 58 = B := (f.1 58 (by decide)).trans hB
    rw [show p + (r - p) = r by omega] at s8
    unfold f_X13_goesOn_w84
    dsimp only
    rw [s8, sB]
    by_cases y : r = N
    · have bm : f_X13_byteAt (S.1 57) B (Int32.ofNat r) = some (-1) := by rw [y]; exact q_bMe hN s7
      rw [bm, Option.bind_some, if_neg (by decide)]
      exact ⟨_, rfl, rfl, f, s8, so, s14⟩
    · have z : ¬ (f_X9_isLetter (B r) = true) := by
        rcases h4 with z | z
        · exact absurd z y
        · exact z
      rw [q_bM hN s7 (by omega), Option.bind_some, (q_byt (hb r)).1, if_neg z]
      exact ⟨_, rfl, rfl, f, s8, so, s14⟩) (t := (0, E)) ⟨rfl, qp_mf.refl E, e8, fun _ _ => rfl, fun _ => h0⟩
  dsimp only at hn f s8 so s14
  subst hn
  exact ⟨E1, w1, f, s8, so, s14⟩
end QT
