/-! tier two: land: a gate is added -/
def qp_b3 (a : Fin 2) : Int32 := if a.val = 0 then 0 else 3
theorem qp_gb : (∀ b c d e f : Fin 2, q_c6 0 (qp_b3 b) (qp_b3 c) (qp_b3 d) (qp_b3 e) (qp_b3 f) ||| f_X10_bitsOf (Int32.ofNat 0) = q_c6 3 (qp_b3 b) (qp_b3 c) (qp_b3 d) (qp_b3 e) (qp_b3 f)) ∧ (∀ a c d e f : Fin 2, q_c6 (qp_b3 a) 0 (qp_b3 c) (qp_b3 d) (qp_b3 e) (qp_b3 f) ||| f_X10_bitsOf (Int32.ofNat 1) = q_c6 (qp_b3 a) 3 (qp_b3 c) (qp_b3 d) (qp_b3 e) (qp_b3 f)) ∧ (∀ a b d e f : Fin 2, q_c6 (qp_b3 a) (qp_b3 b) 0 (qp_b3 d) (qp_b3 e) (qp_b3 f) ||| f_X10_bitsOf (Int32.ofNat 2) = q_c6 (qp_b3 a) (qp_b3 b) 3 (qp_b3 d) (qp_b3 e) (qp_b3 f)) ∧ (∀ a b c e f : Fin 2, q_c6 (qp_b3 a) (qp_b3 b) (qp_b3 c) 0 (qp_b3 e) (qp_b3 f) ||| f_X10_bitsOf (Int32.ofNat 3) = q_c6 (qp_b3 a) (qp_b3 b) (qp_b3 c) 3 (qp_b3 e) (qp_b3 f)) ∧ (∀ a b c d f : Fin 2, q_c6 (qp_b3 a) (qp_b3 b) (qp_b3 c) (qp_b3 d) 0 (qp_b3 f) ||| f_X10_bitsOf (Int32.ofNat 4) = q_c6 (qp_b3 a) (qp_b3 b) (qp_b3 c) (qp_b3 d) 3 (qp_b3 f)) ∧ (∀ a b c d e : Fin 2, q_c6 (qp_b3 a) (qp_b3 b) (qp_b3 c) (qp_b3 d) (qp_b3 e) 0 ||| f_X10_bitsOf (Int32.ofNat 5) = q_c6 (qp_b3 a) (qp_b3 b) (qp_b3 c) (qp_b3 d) (qp_b3 e) 3) := by decide +kernel
theorem qp_gb1 (G : Nat) (K : Nat → Int32) (g : Nat) : ∃ a : Fin 2, q_gd G K g = qp_b3 a := by
  unfold q_gd
  split
  · split
    · exact ⟨1, rfl⟩
    · exact ⟨0, rfl⟩
  · exact ⟨0, rfl⟩
theorem qp_gd1 {G : Nat} {K : Nat → Int32} {κ : Int32} {g : Nat} (h : g ≠ G) : q_gd (G + 1) (upd K G κ) g = q_gd G K g := by
  unfold q_gd
  rw [q_upd_o h]
  by_cases c : g < G
  · rw [if_pos c, if_pos (by omega)]
  · rw [if_neg c, if_neg (by omega)]
theorem qp_gd0 (G : Nat) (K : Nat → Int32) : q_gd G K G = 0 := by
  unfold q_gd
  rw [if_neg (by omega)]
theorem qp_gd2 (G : Nat) (K : Nat → Int32) (κ : Int32) : q_gd (G + 1) (upd K G κ) G = if κ = 2 then 3 else 0 := by
  unfold q_gd
  rw [q_upd_a, if_pos (by omega)]
theorem qp_guard {G : Nat} (hG : G < 6) (K : Nat → Int32) (κ : Int32) : (if κ = 2 then q_cod (q_gd G K) ||| f_X10_bitsOf (Int32.ofNat G) else q_cod (q_gd G K)) = q_cod (q_gd (G + 1) (upd K G κ)) := by
  by_cases c : κ = 2
  · subst c
    rw [if_pos rfl]
    have e2 := qp_gd2 G K 2
    rw [if_pos rfl] at e2
    have e0 := qp_gd0 G K
    have e1 : ∀ g, g ≠ G → q_gd (G + 1) (upd K G 2) g = q_gd G K g := fun g h => qp_gd1 h
    obtain ⟨a0, w0⟩ := qp_gb1 G K 0
    obtain ⟨a1, w1⟩ := qp_gb1 G K 1
    obtain ⟨a2, w2⟩ := qp_gb1 G K 2
    obtain ⟨a3, w3⟩ := qp_gb1 G K 3
    obtain ⟨a4, w4⟩ := qp_gb1 G K 4
    obtain ⟨a5, w5⟩ := qp_gb1 G K 5
    obtain ⟨k0, k1, k2, k3, k4, k5⟩ := qp_gb
    generalize q_gd (G + 1) (upd K G 2) = x at *
    generalize q_gd G K = y at *
    show q_c6 (y 0) (y 1) (y 2) (y 3) (y 4) (y 5) ||| _ = q_c6 (x 0) (x 1) (x 2) (x 3) (x 4) (x 5)
    match G, hG with
    | 0, _ => rw [e2, e0, e1 1 (by decide), e1 2 (by decide), e1 3 (by decide), e1 4 (by decide), e1 5 (by decide), w1, w2, w3, w4, w5]; exact k0 _ _ _ _ _
    | 1, _ => rw [e2, e0, e1 0 (by decide), e1 2 (by decide), e1 3 (by decide), e1 4 (by decide), e1 5 (by decide), w0, w2, w3, w4, w5]; exact k1 _ _ _ _ _
    | 2, _ => rw [e2, e0, e1 0 (by decide), e1 1 (by decide), e1 3 (by decide), e1 4 (by decide), e1 5 (by decide), w0, w1, w3, w4, w5]; exact k2 _ _ _ _ _
    | 3, _ => rw [e2, e0, e1 0 (by decide), e1 1 (by decide), e1 2 (by decide), e1 4 (by decide), e1 5 (by decide), w0, w1, w2, w4, w5]; exact k3 _ _ _ _ _
    | 4, _ => rw [e2, e0, e1 0 (by decide), e1 1 (by decide), e1 2 (by decide), e1 3 (by decide), e1 5 (by decide), w0, w1, w2, w3, w5]; exact k4 _ _ _ _ _
    | 5, _ => rw [e2, e0, e1 0 (by decide), e1 1 (by decide), e1 2 (by decide), e1 3 (by decide), e1 4 (by decide), w0, w1, w2, w3, w4]; exact k5 _ _ _ _ _
    | n + 6, h => exact absurd h (by omega)
  · rw [if_neg c]
    refine q_cod_congr (fun k hk => ?_)
    by_cases e : k = G
    · subst e
      rw [qp_gd0, qp_gd2, if_neg c]
    · rw [qp_gd1 e]
theorem qp_Lgate {G P F W L Q : Nat} {A A' T T' : Nat → Nat → Int32} (h : qp_LL G P F W L Q A T) (hG : G < 6) {κ η : Int32} (hκ : κ = 0 ∨ κ = 1 ∨ κ = 2 ∨ κ = 3) (hη : η = 0 ∨ η = 1 ∨ η = 2) {f w : Nat} (hf : f < F) (hw : w ≤ 99) (a0 : ∀ k, k ≠ 4 → k ≠ 6 → k ≠ 7 → A' 0 k = A 0 k) (a04 : A' 0 4 = Int32.ofNat (G + 1)) (a06 : A' 0 6 = f_X10_with (A 0 6) (Int32.ofNat G) η) (a07 : A' 0 7 = if κ = 2 then A 0 7 ||| f_X10_bitsOf (Int32.ofNat G) else A 0 7) (a3 : A' 3 = upd (A 3) G κ) (a4 : A' 4 = upd (A 4) G (Int32.ofNat f)) (a5 : A' 5 = upd (A 5) G (Int32.ofNat w)) (a7 : ∀ k, k < 4 * G → A' 7 k = A 7 k) (a8 : ∀ k, k < 4 * G → A' 8 k = A 8 k) (own : ∀ h, h < 3 → ∃ m, m < 2 ^ P ∧ A' 7 (4 * G + h) = Int32.ofNat m ∧ f_X13_ownersIf (T' 1) (T' 2) (T' 3) (T' 4) (Int32.ofNat G) (Int32.ofNat h) = some (Int32.ofNat m) ∧ A' 8 (4 * G + h) = if m = 0 then 0 else Int32.ofNat w / Int32.ofNat (q_pc m)) (aj : ∀ j, j = 1 ∨ j = 2 ∨ j = 6 ∨ 9 ≤ j → j < 15 → A' j = A j) (t0 : ∀ k, k ≠ 4 → k ≠ 9 → T' 0 k = T 0 k) (t04 : T' 0 4 = Int32.ofNat (G + 1)) (t3 : T' 3 = upd (T 3) G κ) (t4 : T' 4 = upd (T 4) G (Int32.ofNat f)) (t5 : T' 5 = upd (T 5) G (Int32.ofNat w)) (t6 : T' 6 = upd (T 6) G η) (tj : ∀ j, j = 1 ∨ j = 2 ∨ 7 ≤ j → j < 12 → T' j = T j) : qp_LL (G + 1) P F W L Q A' T' := by
  obtain ⟨⟨x0, x1, x2, x3, x4, x5, x6, x7⟩, h2, h3, h4, h5, h6, h7, h8, h9⟩ := h
  refine ⟨⟨by omega, ⟨a04, t04⟩, ?_, ?_, ?_, ?_, ?_, ?_⟩, qp_c2 h2 (by omega) (aj 1 (by decide) (by decide)) (aj 2 (by decide) (by decide)) (tj 1 (by decide) (by decide)) (tj 2 (by decide) (by decide)), fun g hg => ?_, qp_c4 h4 (by omega) (aj 6 (by decide) (by decide)) (tj 7 (by decide) (by decide)), qp_c5 h5 (by omega) (by omega) (aj 10 (by decide) (by decide)) (aj 11 (by decide) (by decide)) (aj 12 (by decide) (by decide)) (tj 8 (by decide) (by decide)) (tj 9 (by decide) (by decide)) (t0 21 (by decide) (by decide)), qp_c6 h6 (by omega) (aj 13 (by decide) (by decide)) (aj 14 (by decide) (by decide)) (tj 10 (by decide) (by decide)) (tj 11 (by decide) (by decide)), ⟨?_, ⟨fun k hk => ?_, fun k k1 k2 => ?_⟩, ?_, fun g hg => ?_⟩, fun g hg k hk => ?_, fun g hg k hk => ?_⟩
  · rw [a0 2 (by decide) (by decide) (by decide), t0 2 (by decide) (by decide)]; exact x2
  · rw [a0 3 (by decide) (by decide) (by decide), t0 3 (by decide) (by decide)]; exact x3
  · rw [aj 9 (by decide) (by decide), t0 6 (by decide) (by decide)]; exact x4
  · rw [aj 9 (by decide) (by decide), t0 7 (by decide) (by decide)]; exact x5
  · rw [a0 5 (by decide) (by decide) (by decide), t0 5 (by decide) (by decide)]; exact x6
  · rw [aj 9 (by decide) (by decide), t0 8 (by decide) (by decide)]; exact x7
  · rw [a3, a4, a5, t3, t4, t5]
    by_cases e : g = G
    · subst e
      rw [q_upd_a, q_upd_a, q_upd_a, q_upd_a, q_upd_a, q_upd_a]
      exact ⟨rfl, rfl, rfl, ⟨f, hf, rfl⟩, w, hw, rfl⟩
    · rw [q_upd_o e, q_upd_o e, q_upd_o e, q_upd_o e, q_upd_o e, q_upd_o e]
      exact h3 g (by omega)
  · rw [a06, t6, h7.1]
    exact q_with h7.2.1.1 hG hη
  · rw [t6]
    by_cases e : k = G
    · subst e; rw [q_upd_a]; exact hη
    · rw [q_upd_o e]; exact h7.2.1.1 k hk
  · rw [t6, q_upd_o (by omega)]
    exact h7.2.1.2 k (by omega) k2
  · rw [a07, h7.2.2.1, t3]
    exact qp_guard hG _ _
  · rw [t3]
    by_cases e : g = G
    · subst e; rw [q_upd_a]; exact hκ
    · rw [q_upd_o e]; exact h7.2.2.2 g (by omega)
  · by_cases e : g = G
    · subst e
      obtain ⟨m, m1, m2, m3, m4⟩ := own k hk
      exact ⟨m, m1, m2, m3, by rw [t5, q_upd_a]; exact m4⟩
    · obtain ⟨m, m1, m2, m3, m4⟩ := h8 g (by omega) k hk
      obtain ⟨y1, y2, y3, ⟨f', f1, f2⟩, y5⟩ := h3 g (by omega)
      refine ⟨m, m1, by rw [a7 _ (by omega)]; exact m2, ?_, by rw [a8 _ (by omega), t5, q_upd_o e]; exact m4⟩
      rw [qp_ownc (t1 := T 1) (t2 := T 2) (t3 := T 3) (t4 := T 4) (by omega) (by rw [t3, q_upd_o e]) (by rw [t4, q_upd_o e]) (y2.trans f2) (by omega) (by rw [tj 1 (by decide) (by decide)]) (by rw [tj 2 (by decide) (by decide)])]
      exact m3
  · by_cases e : g = G
    · subst e
      obtain ⟨m, m1, m2, m3, m4⟩ := own k hk
      rw [m4]
      split
      · exact ⟨0, by decide, rfl⟩
      · have pm : q_pc m < 2147483648 := by unfold q_pc; omega
        rw [q_div (by omega) pm]
        exact ⟨_, Nat.le_trans (Nat.div_le_self _ _) hw, rfl⟩
    · rw [a8 _ (by omega)]
      exact h9 g (by omega) k hk
/-- who owns a gate whose hook hangs so -/
def qp_ow (κ : Int32) (p mm h : Nat) : Nat := if κ = 1 then (if h = 1 then mm else if h = 2 then 0 else 2 ^ p) else if h = 1 then 2 ^ p else if h = 2 then mm else 0
theorem qp_j72 {a g h m : Nat} {d : JD} (hg : g < 6) (hh : h < 3) (hm : m < 64) : f_X3_reckonOwners_j72 a d (Int32.ofNat g) (Int32.ofNat h) (Int32.ofNat m) = some (j_sI (j_sI d (a + 7) (4 * g + h) (Int32.ofNat m)) (a + 8) (4 * g + h) (if m = 0 then 0 else d.1 (a + 5) g / Int32.ofNat (q_pc m))) := by
  unfold f_X3_reckonOwners_j72 j_let
  dsimp only
  rw [q_ix hg hh, q_put_in (show 4 * g + h < 24 by omega) (by decide), q_bcnt hm]
  have pm : q_pc m < 2147483648 := by unfold q_pc; omega
  by_cases c : m = 0
  · subst c
    rw [if_pos (by decide), if_pos rfl]
    unfold f_X3_reckonOwners_j122 j_let
    dsimp only
    rw [q_put_in (show 4 * g + h < 24 by omega) (by decide)]
  · have nz := q_pcz hm c
    rw [if_neg (show ¬ (Int32.ofNat (q_pc m) ≤ 0) from fun z => nz (by
      have := (q_le (i := 0) pm (by decide)).mp z
      rw [Nat.le_zero.mp this]
      rfl)), if_neg nz, if_neg c]
    unfold f_X3_reckonOwners_j122 j_let
    dsimp only
    rw [q_put_in (show 4 * g + h < 24 by omega) (by decide), q_at (show g < 6 by omega) (by decide), q_sI_o (by omega)]
theorem qp_r3 : ((Int32.ofNat 0 + 1) - (Int32.ofNat 0 + 1) / 3 * 3 = 1) ∧ ((Int32.ofNat 1 + 1) - (Int32.ofNat 1 + 1) / 3 * 3 = 2) ∧ ((Int32.ofNat 2 + 1) - (Int32.ofNat 2 + 1) / 3 * 3 = 0) := by decide
theorem qp_reck {a g h f p mm : Nat} {d : JD} {κ : Int32} (hg : g < 6) (hh : h < 3) (hp : p < 5) (hmm : mm < 32) (hf : f < 4) (e3 : d.1 (a + 3) g = κ) (e4 : d.1 (a + 4) g = Int32.ofNat f) (e1 : d.1 (a + 1) f = Int32.ofNat p) (e2 : d.1 (a + 2) f = Int32.ofNat mm) : f_X3_reckonOwners a d (Int32.ofNat g) (Int32.ofNat h) = some (j_sI (j_sI d (a + 7) (4 * g + h) (Int32.ofNat (qp_ow κ p mm h))) (a + 8) (4 * g + h) (if qp_ow κ p mm h = 0 then 0 else d.1 (a + 5) g / Int32.ofNat (q_pc (qp_ow κ p mm h)))) := by
  have pp : 2 ^ p < 64 := Nat.lt_of_le_of_lt (Nat.pow_le_pow_right (by decide) (by omega : p ≤ 5)) (by decide)
  have jh : f_X3_reckonOwners_j30 a d (Int32.ofNat g) (Int32.ofNat h) (Int32.ofNat f) 1 = some (j_sI (j_sI d (a + 7) (4 * g + h) (Int32.ofNat (2 ^ p))) (a + 8) (4 * g + h) (if 2 ^ p = 0 then 0 else d.1 (a + 5) g / Int32.ofNat (q_pc (2 ^ p)))) := by
    unfold f_X3_reckonOwners_j30 j_let
    dsimp only
    rw [if_pos rfl, q_at (show f < 4 by omega) (by decide), e1, q_one (by omega)]
    exact qp_j72 hg hh pp
  have js : f_X3_reckonOwners_j30 a d (Int32.ofNat g) (Int32.ofNat h) (Int32.ofNat f) 2 = some (j_sI (j_sI d (a + 7) (4 * g + h) (Int32.ofNat mm)) (a + 8) (4 * g + h) (if mm = 0 then 0 else d.1 (a + 5) g / Int32.ofNat (q_pc mm))) := by
    unfold f_X3_reckonOwners_j30 j_let
    dsimp only
    rw [if_neg (by decide), if_pos rfl, q_at (show f < 4 by omega) (by decide), e2]
    exact qp_j72 hg hh (by omega)
  have j0 : f_X3_reckonOwners_j30 a d (Int32.ofNat g) (Int32.ofNat h) (Int32.ofNat f) 0 = some (j_sI (j_sI d (a + 7) (4 * g + h) (Int32.ofNat 0)) (a + 8) (4 * g + h) (if 0 = 0 then 0 else d.1 (a + 5) g / Int32.ofNat (q_pc 0))) := by
    unfold f_X3_reckonOwners_j30
    rw [if_neg (by decide), if_neg (by decide)]
    exact qp_j72 hg hh (by decide)
  unfold f_X3_reckonOwners qp_ow
  rw [q_at hg (by decide), q_at hg (by decide), e3, e4]
  obtain ⟨k0, k1, k2⟩ := qp_r3
  have h3 : h = 0 ∨ h = 1 ∨ h = 2 := by omega
  by_cases c : κ = 1
  · rw [if_pos c, if_pos c]
    rcases h3 with rfl | rfl | rfl
    · rw [k0, if_neg (by decide), if_neg (by decide)]; exact jh
    · rw [k1, if_pos rfl]; exact js
    · rw [k2, if_neg (by decide), if_pos rfl]; exact j0
  · rw [if_neg c, if_neg c]
    rcases h3 with rfl | rfl | rfl
    · rw [if_neg (by decide), if_neg (by decide)]; exact j0
    · rw [if_pos rfl]; exact jh
    · rw [if_neg (by decide), if_pos rfl]; exact js
theorem qp_owM {t1 t2 t3 t4 : Nat → Int32} {g f p mm h : Nat} (hg : g < 6) (hp : p < 5) (hf : t4 g = Int32.ofNat f) (hf4 : f < 4) (e1 : t1 f = Int32.ofNat p) (e2 : t2 f = Int32.ofNat mm) (hh : h < 3) : f_X13_ownersIf t1 t2 t3 t4 (Int32.ofNat g) (Int32.ofNat h) = some (Int32.ofNat (qp_ow (t3 g) p mm h)) := by
  rw [qp_ownv hg hf hf4, e1, e2, q_one (by omega)]
  unfold qp_ow
  match h, hh with
  | 0, _ => by_cases c : t3 g = 1 <;> simp [c] <;> decide
  | 1, _ => by_cases c : t3 g = 1 <;> simp [c]
  | 2, _ => by_cases c : t3 g = 1 <;> simp [c] <;> decide
  | n + 3, z => exact absurd z (by omega)
