/-! tier two: sets as numbers, neighbours -/
theorem q_or (a b : Nat) : Int32.ofNat a ||| Int32.ofNat b = Int32.ofNat (a ||| b) := by
  apply Int32.toBitVec_inj.mp
  show BitVec.ofNat 32 a ||| BitVec.ofNat 32 b = BitVec.ofNat 32 (a ||| b)
  exact BitVec.ofNat_or.symm
theorem q_and (a b : Nat) : Int32.ofNat a &&& Int32.ofNat b = Int32.ofNat (a &&& b) := by
  apply Int32.toBitVec_inj.mp
  show BitVec.ofNat 32 a &&& BitVec.ofNat 32 b = BitVec.ofNat 32 (a &&& b)
  exact BitVec.ofNat_and.symm
theorem q_hb64 : ∀ m : Fin 64, ∀ k : Fin 6, f_X11_hasBit (Int32.ofNat m.val) (Int32.ofNat k.val) = m.val.testBit k.val := by decide +kernel
theorem q_hb {m k : Nat} (hm : m < 64) (hk : k < 6) : f_X11_hasBit (Int32.ofNat m) (Int32.ofNat k) = m.testBit k := q_hb64 ⟨m, hm⟩ ⟨k, hk⟩
theorem q_one6 : ∀ k : Fin 6, (1 : Int32) <<< (Int32.ofNat k.val &&& 31) = Int32.ofNat (2 ^ k.val) := by decide +kernel
theorem q_one {k : Nat} (hk : k < 6) : (1 : Int32) <<< (Int32.ofNat k &&& 31) = Int32.ofNat (2 ^ k) := q_one6 ⟨k, hk⟩
theorem q_sh7 : ∀ k : Fin 7, (1 : Int32) <<< (Int32.ofNat k.val &&& 31) = Int32.ofNat (2 ^ k.val) := by decide +kernel
theorem q_full7 : ∀ k : Fin 7, (1 : Int32) <<< (Int32.ofNat k.val &&& 31) - 1 = Int32.ofNat (2 ^ k.val - 1) := by decide +kernel
theorem q_full {k : Nat} (hk : k ≤ 6) : (1 : Int32) <<< (Int32.ofNat k &&& 31) - 1 = Int32.ofNat (2 ^ k - 1) := q_full7 ⟨k, by omega⟩
theorem q_26 {G m : Nat} (hG : G ≤ 6) (h : m < 2 ^ G) : m < 64 := Nat.lt_of_lt_of_le h (Nat.pow_le_pow_right (by decide) hG)
/-- widened -/
def q_wd (G : Nat) (e : Nat → Nat) (m : Nat) : Nat := q_it (fun g s => if m.testBit g = true then s ||| e g else s) G m
theorem q_wd_lt {G : Nat} {e : Nat → Nat} (he : ∀ g, g < G → e g < 2 ^ G) {m : Nat} (hm : m < 2 ^ G) : q_wd G e m < 2 ^ G := by
  unfold q_wd
  have : ∀ n, n ≤ G → q_it (fun g s => if m.testBit g = true then s ||| e g else s) n m < 2 ^ G := by
    intro n
    induction n with
    | zero => exact fun _ => hm
    | succ n ih =>
      intro hn
      have := ih (by omega)
      show (if m.testBit n = true then _ ||| e n else _) < _
      split
      · exact Nat.or_lt_two_pow this (he n (by omega))
      · exact this
  exact this G (Nat.le_refl G)
theorem q_wd_bit {G : Nat} {e : Nat → Nat} {m k : Nat} : (q_wd G e m).testBit k = true ↔ m.testBit k = true ∨ ∃ g, g < G ∧ m.testBit g = true ∧ (e g).testBit k = true := by
  unfold q_wd
  have : ∀ n, (q_it (fun g s => if m.testBit g = true then s ||| e g else s) n m).testBit k = true ↔ m.testBit k = true ∨ ∃ g, g < n ∧ m.testBit g = true ∧ (e g).testBit k = true := by
    intro n
    induction n with
    | zero => exact ⟨Or.inl, fun h => h.elim id (fun ⟨g, hg, _⟩ => absurd hg (by omega))⟩
    | succ n ih =>
      show (if m.testBit n = true then q_it (fun g s => if m.testBit g = true then s ||| e g else s) n m ||| e n else q_it (fun g s => if m.testBit g = true then s ||| e g else s) n m).testBit k = true ↔ _
      by_cases c : m.testBit n = true
      · rw [if_pos c, Nat.testBit_or, Bool.or_eq_true, ih]
        constructor
        · rintro ((h | ⟨g, h1, h2, h3⟩) | h)
          · exact Or.inl h
          · exact Or.inr ⟨g, by omega, h2, h3⟩
          · exact Or.inr ⟨n, by omega, c, h⟩
        · rintro (h | ⟨g, h1, h2, h3⟩)
          · exact Or.inl (Or.inl h)
          · by_cases e : g = n
            · rw [e] at h3; exact Or.inr h3
            · exact Or.inl (Or.inr ⟨g, by omega, h2, h3⟩)
      · rw [if_neg c, ih]
        constructor
        · rintro (h | ⟨g, h1, h2, h3⟩)
          · exact Or.inl h
          · exact Or.inr ⟨g, by omega, h2, h3⟩
        · rintro (h | ⟨g, h1, h2, h3⟩)
          · exact Or.inl h
          · by_cases e : g = n
            · rw [e] at h2; exact absurd h2 c
            · exact Or.inr ⟨g, by omega, h2, h3⟩
  exact this G
/-- one set in another -/
def q_su (a b : Nat) : Prop := ∀ k, a.testBit k = true → b.testBit k = true
theorem q_su.or {a b : Nat} (h : q_su a b) : a ||| b = b := by
  apply Nat.eq_of_testBit_eq
  intro k
  rw [Nat.testBit_or]
  cases c : a.testBit k with
  | false => rfl
  | true => rw [h k c]; rfl
theorem q_su_wd {G : Nat} {e : Nat → Nat} (m : Nat) : q_su m (q_wd G e m) := fun k hk => q_wd_bit.mpr (Or.inl hk)
theorem q_wd_mono {G : Nat} {e : Nat → Nat} {m n : Nat} (h : q_su m n) : q_su (q_wd G e m) (q_wd G e n) := fun k hk => by
  rcases q_wd_bit.mp hk with z | ⟨g, h1, h2, h3⟩
  · exact q_wd_bit.mpr (Or.inl (h k z))
  · exact q_wd_bit.mpr (Or.inr ⟨g, h1, h g h2, h3⟩)
theorem q_pcs64 : ∀ a b : Fin 64, a.val ||| b.val = b.val → a.val ≠ b.val → q_pc a.val < q_pc b.val := by decide +kernel
theorem q_pcs {a b : Nat} (ha : a < 64) (hb : b < 64) (h : q_su a b) (hne : a ≠ b) : q_pc a < q_pc b := q_pcs64 ⟨a, ha⟩ ⟨b, hb⟩ h.or hne
theorem q_pcf7 : ∀ G : Fin 7, ∀ m : Fin 64, m.val < 2 ^ G.val → q_pc m.val ≤ G.val ∧ (q_pc m.val = G.val → m.val = 2 ^ G.val - 1) := by decide +kernel
theorem q_pcf {G m : Nat} (hG : G ≤ 6) (hm : m < 2 ^ G) : q_pc m ≤ G ∧ (q_pc m = G → m = 2 ^ G - 1) := q_pcf7 ⟨G, by omega⟩ ⟨m, q_26 hG hm⟩ hm
theorem q_pcfull7 : ∀ G : Fin 7, q_pc (2 ^ G.val - 1) = G.val := by decide +kernel
theorem q_pcfull {G : Nat} (hG : G ≤ 6) : q_pc (2 ^ G - 1) = G := q_pcfull7 ⟨G, by omega⟩
theorem q_pc1 {m : Nat} (hm : m < 64) (h : m ≠ 0) : 1 ≤ q_pc m := by
  have z : q_pc m ≠ 0 := fun z => h (q_pc0 ⟨m, hm⟩ z)
  omega
theorem q_fbit7 : ∀ G : Fin 7, ∀ k : Fin 6, k.val < G.val → (2 ^ G.val - 1).testBit k.val = true := by decide +kernel
/-- growing stops -/
theorem q_stab {G : Nat} (hG1 : 1 ≤ G) (hG : G ≤ 6) {f : Nat → Nat} {Q : Nat → Prop} (hQ : ∀ m, Q m → m < 2 ^ G ∧ Q (f m) ∧ q_su m (f m)) {m : Nat} (h0 : Q m) (h1 : m = 0 → f m = m) : ∀ k, Q (q_it (fun _ s => f s) k m) ∧ (k + 1 ≤ q_pc (q_it (fun _ s => f s) k m) ∨ f (q_it (fun _ s => f s) k m) = q_it (fun _ s => f s) k m) := by
  intro k
  induction k with
  | zero =>
    refine ⟨h0, ?_⟩
    by_cases c : m = 0
    · exact Or.inr (h1 c)
    · exact Or.inl (q_pc1 (q_26 hG (hQ m h0).1) c)
  | succ k ih =>
    obtain ⟨i1, i2⟩ := ih
    obtain ⟨j1, j2, j3⟩ := hQ _ i1
    refine ⟨j2, ?_⟩
    show (k + 1 + 1 ≤ q_pc (f (q_it (fun _ s => f s) k m))) ∨ f (f (q_it (fun _ s => f s) k m)) = f (q_it (fun _ s => f s) k m)
    rcases i2 with i2 | i2
    · by_cases c : q_it (fun _ s => f s) k m = f (q_it (fun _ s => f s) k m)
      · right; rw [← c]; exact c.symm
      · left
        have := q_pcs (q_26 hG j1) (q_26 hG (hQ _ j2).1) j3 c
        omega
    · right; rw [i2]; exact i2
theorem q_stabG {G : Nat} (hG1 : 1 ≤ G) (hG : G ≤ 6) {f : Nat → Nat} {Q : Nat → Prop} (hQ : ∀ m, Q m → m < 2 ^ G ∧ Q (f m) ∧ q_su m (f m)) {m : Nat} (h0 : Q m) (h1 : m = 0 → f m = m) : ∀ k, G - 1 ≤ k → f (q_it (fun _ s => f s) k m) = q_it (fun _ s => f s) k m ∧ q_it (fun _ s => f s) k m = q_it (fun _ s => f s) (G - 1) m := by
  have base : f (q_it (fun _ s => f s) (G - 1) m) = q_it (fun _ s => f s) (G - 1) m := by
    obtain ⟨a1, a2⟩ := q_stab hG1 hG hQ h0 h1 (G - 1)
    rcases a2 with a2 | a2
    · obtain ⟨b1, b2, b3⟩ := hQ _ a1
      have p1 := q_pcf hG b1
      have b2' := (hQ _ b2).1
      have p2 := q_pcf hG b2'
      by_cases c : q_it (fun _ s => f s) (G - 1) m = f (q_it (fun _ s => f s) (G - 1) m)
      · exact c.symm
      · have := q_pcs (q_26 hG b1) (q_26 hG b2') b3 c
        omega
    · exact a2
  intro k hk
  obtain ⟨j, rfl⟩ : ∃ j, k = G - 1 + j := ⟨k - (G - 1), by omega⟩
  clear hk
  induction j with
  | zero => exact ⟨base, rfl⟩
  | succ j ih =>
    have e : q_it (fun _ s => f s) (G - 1 + (j + 1)) m = f (q_it (fun _ s => f s) (G - 1 + j) m) := rfl
    rw [e, ih.1]
    exact ih
section QW
variable {G P F W L : Nat} {A T : Nat → Nat → Int32}
def q_ed (A6 : Nat → Int32) (g : Nat) : Nat := (A6 g).toNatClampNeg
theorem q_edE (h : q_LR G P F W L A T) {g : Nat} (hg : g < G) : A 6 g = Int32.ofNat (q_ed (A 6) g) ∧ q_ed (A 6) g < 2 ^ G := by
  have hG := h.1.1.2.1
  obtain ⟨m, hm, e⟩ := (h.2.1.2.1 g hg).2.2.2.2
  have h64 := q_26 hG hm
  unfold q_ed
  rw [e, q_n (by omega)]
  exact ⟨rfl, hm⟩
theorem q_wdC (h : q_LR G P F W L A T) {m : Nat} (hm : m < 2 ^ G) : f_X3_widened (A 0) (A 6) (Int32.ofNat m) = Int32.ofNat (q_wd G (q_ed (A 6)) m) := by
  have hG := h.1.1.2.1
  have h64 := q_26 hG hm
  unfold f_X3_widened j_let
  dsimp only
  rw [h.1.2.1.1, q_for _ (by omega)]
  unfold q_wd
  have : ∀ n, n ≤ G → q_it (fun i s => f_X3_widened_b4 (A 0) (A 6) (Int32.ofNat m) (Int32.ofNat i) s) n (Int32.ofNat m) = Int32.ofNat (q_it (fun g s => if m.testBit g = true then s ||| q_ed (A 6) g else s) n m) := by
    intro n
    induction n with
    | zero => exact fun _ => rfl
    | succ n ih =>
      intro hn
      show f_X3_widened_b4 (A 0) (A 6) (Int32.ofNat m) (Int32.ofNat n) (q_it _ n _) = Int32.ofNat (if m.testBit n = true then q_it _ n _ ||| _ else q_it _ n _)
      rw [ih (by omega)]
      unfold f_X3_widened_b4 f_X3_widened_j31_4
      rw [q_hb h64 (by omega)]
      by_cases c : m.testBit n = true
      · rw [if_pos c, if_pos c, q_at (by omega) (by decide), (q_edE h (by omega)).1, q_or]
      · rw [if_neg c, if_neg c]
  exact this G (Nat.le_refl G)
theorem q_wdM (h : q_LR G P F W L A T) (x : Int32) : f_X13_around (T 0) (T 7) x = some (f_X3_widened (A 0) (A 6) x) := by
  have hG := h.1.1.2.1
  unfold f_X13_around f_X3_widened j_let
  rw [h.1.2.1.1, q_loop (G := f_X3_widened_b4 (A 0) (A 6) x) (n := G) (by omega)]
  · rfl
  · intro i hi s
    have k1 := h.1.2.1.2
    have k2 := q_go (n := G) (by omega) hi
    have k3 : ¬ j_out (Int32.ofNat i) 6 := q_in (by omega) (by decide)
    have k4 : (Int32.ofNat i).toNatClampNeg = i := q_n (by omega)
    have k5 := (h.2.1.2.1 i hi).2.2.2.1
    have k6 : f_X11_at (A 6) 6 (Int32.ofNat i) = A 6 i := q_at (by omega) (by decide)
    unfold f_X13_around_w4 f_X13_around_j37_4 f_X3_widened_b4 f_X3_widened_j31_4
    simp only [k1, k2, if_false, q_bit, q_s]
    by_cases c : f_X11_hasBit x (Int32.ofNat i) = true
    · simp only [c, if_true, k3, if_false, k4, k5, k6]
    · simp only [c, if_false, Int32.or_zero, Bool.false_eq_true]
  · intro s
    have k1 := h.1.2.1.2
    have k2 := q_end (n := G) (by omega)
    unfold f_X13_around_w4
    simp only [k1, k2, if_true]
end QW
