/-! tier two: the land on both sides -/
def q_pc (m : Nat) : Nat := m % 2 + m / 2 % 2 + m / 4 % 2 + m / 8 % 2 + m / 16 % 2 + m / 32 % 2
def q_L1 (G P F W L : Nat) (A T : Nat → Nat → Int32) : Prop := (1 ≤ G ∧ G ≤ 6 ∧ P ≤ 5 ∧ F ≤ 4 ∧ W ≤ 4 ∧ L ≤ 4) ∧ (A 0 4 = Int32.ofNat G ∧ T 0 4 = Int32.ofNat G) ∧ (A 0 2 = Int32.ofNat P ∧ T 0 2 = Int32.ofNat P) ∧ (A 0 3 = Int32.ofNat F ∧ T 0 3 = Int32.ofNat F) ∧ (A 9 0 = Int32.ofNat W ∧ T 0 6 = Int32.ofNat W) ∧ (A 9 4 = Int32.ofNat L ∧ T 0 7 = Int32.ofNat L) ∧ (T 0 0 = A 0 0 ∧ T 0 1 = A 0 1 ∧ T 0 5 = A 0 5 ∧ T 0 8 = A 9 6) ∧ (∃ H, H ≤ 6 ∧ A 0 0 = Int32.ofNat H) ∧ ∃ U, U ≤ 100 ∧ A 0 1 = Int32.ofNat U
def q_L2 (G P F W L : Nat) (A T : Nat → Nat → Int32) : Prop := (∀ f, f < F → T 1 f = A 1 f ∧ T 2 f = A 2 f) ∧ (∀ g, g < G → T 3 g = A 3 g ∧ T 4 g = A 4 g ∧ T 5 g = A 5 g ∧ T 7 g = A 6 g ∧ ∃ m, m < 2 ^ G ∧ A 6 g = Int32.ofNat m) ∧ (∀ i, i < W → T 8 i = A 10 i ∧ T 9 i = A 11 i ∧ (f_X13_bit (T 0 21) (Int32.ofNat i) = true ↔ A 12 i = 1) ∧ (∃ p, p < P ∧ A 10 i = Int32.ofNat p) ∧ ∃ g, g < G ∧ A 11 i = Int32.ofNat g) ∧ (∀ k, k < L → T 10 k = A 13 k ∧ ∃ g, g < G ∧ A 13 k = Int32.ofNat g) ∧ ∀ p, p < 5 → T 11 p = A 14 p
def q_gd (G : Nat) (K : Nat → Int32) (g : Nat) : Int32 := if g < G then (if K g = 2 then 3 else 0) else 0
def q_WY (G : Nat) (x : Nat → Int32) : Prop := q_dg x ∧ ∀ g, G ≤ g → g < 6 → x g = 0
def q_L3 (G : Nat) (A T : Nat → Nat → Int32) : Prop := A 0 6 = q_cod (T 6) ∧ q_WY G (T 6) ∧ A 0 7 = q_cod (q_gd G (T 3)) ∧ ∀ g, g < G → T 3 g = 0 ∨ T 3 g = 1 ∨ T 3 g = 2 ∨ T 3 g = 3
def q_L4 (G P : Nat) (A T : Nat → Nat → Int32) : Prop := ∀ g, g < G → ∀ h, h < 3 → ∃ m, m < 2 ^ P ∧ A 7 (4 * g + h) = Int32.ofNat m ∧ f_X13_ownersIf (T 1) (T 2) (T 3) (T 4) (Int32.ofNat g) (Int32.ofNat h) = some (Int32.ofNat m) ∧ A 8 (4 * g + h) = if m = 0 then 0 else T 5 g / Int32.ofNat (q_pc m)
def q_L5 (G : Nat) (A : Nat → Nat → Int32) : Prop := (∀ g, g < G → ∀ h, h < 3 → ∃ k, k ≤ 99 ∧ A 8 (4 * g + h) = Int32.ofNat k) ∧ ∀ g k, g < G → k < G → f_X11_hasBit (A 6 g) (Int32.ofNat k) = f_X11_hasBit (A 6 k) (Int32.ofNat g)
def q_LR (G P F W L : Nat) (A T : Nat → Nat → Int32) : Prop := q_L1 G P F W L A T ∧ q_L2 G P F W L A T ∧ q_L3 G A T ∧ q_L4 G P A T ∧ q_L5 G A
theorem q_at {r : Nat → Int32} {j n : Nat} (h : j < n) (hn : n < 2147483648) : f_X11_at r n (Int32.ofNat j) = r j := by
  unfold f_X11_at
  rw [if_neg (q_neg (by omega)), if_neg (by rw [q_le hn (by omega)]; omega), q_n (by omega)]
theorem q_d3 {x : Nat → Int32} (hx : q_dg x) {g : Nat} (hg : g < 6) : x g = Int32.ofNat (x g).toNatClampNeg ∧ (x g).toNatClampNeg < 3 := by
  rcases hx g hg with h | h | h <;> rw [h] <;> decide
theorem q_ix {g h : Nat} (hg : g < 6) (hh : h < 3) : (4 : Int32) * Int32.ofNat g + Int32.ofNat h = Int32.ofNat (4 * g + h) := by
  rw [Int32.ofNat_add, Int32.ofNat_mul]; rfl
theorem q_own {x : Nat → Int32} (hx : q_dg x) {g : Nat} (hg : g < 6) (r : Nat → Int32) : f_X3_ownersIn r (q_cod x) (Int32.ofNat g) = r (4 * g + (x g).toNatClampNeg) := by
  unfold f_X3_ownersIn
  obtain ⟨h1, h2⟩ := q_d3 hx hg
  rw [q_hung hx hg, h1, q_n (by omega), q_ix hg h2, q_at (by omega) (by decide)]
def q_sh (A7 A8 : Nat → Int32) (p : Int32) (g h : Nat) : Int32 := if f_X11_hasBit (A7 (4 * g + h)) p = true then A8 (4 * g + h) else 0
theorem q_share {x : Nat → Int32} (hx : q_dg x) {g : Nat} (hg : g < 6) (A7 A8 : Nat → Int32) (p : Int32) : f_X3_shareIn A7 A8 (q_cod x) (Int32.ofNat g) p = q_sh A7 A8 p g (x g).toNatClampNeg := by
  unfold f_X3_shareIn j_let q_sh
  dsimp only
  obtain ⟨h1, h2⟩ := q_d3 hx hg
  rw [q_hung hx hg, h1, q_n (by omega), q_ix hg h2, q_at (by omega) (by decide), q_at (by omega) (by decide)]
theorem q_wealth {x : Nat → Int32} (hx : q_dg x) {G : Nat} (hG : G ≤ 6) {A0 : Nat → Int32} (h4 : A0 4 = Int32.ofNat G) (A7 A8 : Nat → Int32) (p : Int32) : f_X3_wealth A0 A7 A8 p (q_cod x) = q_it (fun g s => s + q_sh A7 A8 p g (x g).toNatClampNeg) G 0 := by
  unfold f_X3_wealth j_let
  dsimp only
  rw [h4, q_for _ (by omega)]
  refine q_it_congr G 0 (fun g hg s => ?_)
  unfold f_X3_wealth_b5
  rw [q_share hx (by omega)]
theorem q_bits64 : ∀ m : Fin 64, f_X13_bits (Int32.ofNat m.val) = some (Int32.ofNat (q_pc m.val)) := by decide +kernel
theorem q_bits {m : Nat} (h : m < 64) : f_X13_bits (Int32.ofNat m) = some (Int32.ofNat (q_pc m)) := q_bits64 ⟨m, h⟩
theorem q_bcnt64 : ∀ m : Fin 64, f_J6_bitCount_0f7a4 (Int32.ofNat m.val) = Int32.ofNat (q_pc m.val) := by decide +kernel
theorem q_bcnt {m : Nat} (h : m < 64) : f_J6_bitCount_0f7a4 (Int32.ofNat m) = Int32.ofNat (q_pc m) := q_bcnt64 ⟨m, h⟩
theorem q_pc0 : ∀ m : Fin 64, q_pc m.val = 0 → m.val = 0 := by decide +kernel
theorem q_pcz {m : Nat} (h : m < 64) (h0 : m ≠ 0) : Int32.ofNat (q_pc m) ≠ 0 := by
  intro z
  have h1 : q_pc m = 0 := by
    have : q_pc m < 2147483648 := by unfold q_pc; omega
    exact (q_eq this (by decide)).mp (z.trans rfl)
  exact h0 (q_pc0 ⟨m, h⟩ h1)
theorem q_p5 {P m : Nat} (hP : P ≤ 5) (h : m < 2 ^ P) : m < 32 := Nat.lt_of_lt_of_le h (Nat.pow_le_pow_right (by decide) hP)
theorem q_hb0 (p : Int32) : f_X11_hasBit 0 p = false := by
  unfold f_X11_hasBit
  rw [if_neg (by
    have : (0 : Int32) >>> (p &&& 31) = 0 := by simp
    rw [this]; decide)]
theorem q_bit (x p : Int32) : f_X13_bit x p = f_X11_hasBit x p := rfl
section LRS
variable {G P F W L : Nat} {A T : Nat → Nat → Int32}
theorem q_ownIf (h : q_LR G P F W L A T) {g k : Nat} (hg : g < G) (hk : k < 3) : f_X13_ownersIf (T 1) (T 2) (T 3) (T 4) (Int32.ofNat g) (Int32.ofNat k) = some (A 7 (4 * g + k)) := by
  obtain ⟨m, -, h1, h2, -⟩ := h.2.2.2.1 g hg k hk
  rw [h1]; exact h2
theorem q_shIf (h : q_LR G P F W L A T) {g k : Nat} (hg : g < G) (hk : k < 3) (p : Int32) : f_X13_shareIf (T 1) (T 2) (T 3) (T 4) (T 5) p (Int32.ofNat g) (Int32.ofNat k) = some (q_sh (A 7) (A 8) p g k) := by
  obtain ⟨m, h0, h1, h2, h3⟩ := h.2.2.2.1 g hg k hk
  have hm := q_p5 h.1.1.2.2.1 h0
  have hG := h.1.1.2.1
  unfold f_X13_shareIf q_sh
  rw [h2, h1, h3]
  show (if f_X13_bit (Int32.ofNat m) p = true then _ else _) = _
  rw [q_bit]
  by_cases hb : f_X11_hasBit (Int32.ofNat m) p = true
  · have hm0 : m ≠ 0 := by
      intro z
      rw [z] at hb
      rw [show Int32.ofNat 0 = 0 from rfl, q_hb0] at hb
      cases hb
    rw [if_pos hb, if_pos hb, if_neg (q_in (by omega) (by decide)), q_bits (by omega)]
    show (if Int32.ofNat (q_pc m) = 0 then none else _) = _
    rw [if_neg (q_pcz (by omega) hm0), if_neg hm0, q_n (by omega)]
  · rw [if_neg hb, if_neg hb]
theorem q_has (h : q_LR G P F W L A T) {x : Nat → Int32} (hx : q_dg x) (p : Int32) : f_X13_has x (T 0) (T 1) (T 2) (T 3) (T 4) (T 5) p = some (q_it (fun g s => s + q_sh (A 7) (A 8) p g (x g).toNatClampNeg) G 0) := by
  have hG := h.1.1.2.1
  unfold f_X13_has
  have r := q_run (F := f_X13_has_w4 x (T 0) (T 1) (T 2) (T 3) (T 4) (T 5) p) (fun i => (q_it (fun g s => s + q_sh (A 7) (A 8) p g (x g).toNatClampNeg) i 0, Int32.ofNat i)) G (by omega) (e := q_it (fun g s => s + q_sh (A 7) (A 8) p g (x g).toNatClampNeg) G 0)
    (fun i hi => by
      unfold f_X13_has_w4
      dsimp only
      obtain ⟨h1, h2⟩ := q_d3 hx (g := i) (by omega)
      rw [h.1.2.1.2, if_neg (by rw [q_le (by omega) (by omega)]; omega), if_neg (q_in (by omega) (by decide)), q_n (by omega), h1, q_shIf h hi h2, q_s]
      rfl)
    (by
      unfold f_X13_has_w4
      dsimp only
      rw [h.1.2.1.2, if_pos (by rw [q_le (by omega) (by omega)]; omega)])
  rw [show (0, 0) = ((q_it (fun g s => s + q_sh (A 7) (A 8) p g (x g).toNatClampNeg) 0 0, Int32.ofNat 0) : Int32 × Int32) from rfl, r]
  rfl
/-- what one has, on both sides -/
def q_we (G : Nat) (A7 A8 x : Nat → Int32) (p : Int32) : Int32 := q_it (fun g s => s + q_sh A7 A8 p g (x g).toNatClampNeg) G 0
theorem q_owners (h : q_LR G P F W L A T) {x : Nat → Int32} (hx : q_dg x) {g : Nat} (hg : g < G) : f_X13_owners x (T 1) (T 2) (T 3) (T 4) (Int32.ofNat g) = some (A 7 (4 * g + (x g).toNatClampNeg)) := by
  have hG := h.1.1.2.1
  unfold f_X13_owners
  obtain ⟨h1, h2⟩ := q_d3 hx (g := g) (by omega)
  rw [if_neg (q_in (by omega) (by decide)), q_n (by omega), h1, q_ownIf h hg h2, q_n (by omega)]
  rfl
end LRS
