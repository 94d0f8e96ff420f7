/-! tier two: bare -/
theorem q_bare64 : ∀ b0 b1 b2 b3 b4 b5 : Bool, ∀ a b c d e f : Fin 3, decide ((q_cod (q_F a b c d e f) &&& (q_cod (fun k => if q_b6 b0 b1 b2 b3 b4 b5 k = true then 3 else 0) ^^^ (-1))) = 0) = ((b0 || a.val == 0) && (b1 || b.val == 0) && (b2 || c.val == 0) && (b3 || d.val == 0) && (b4 || e.val == 0) && (b5 || f.val == 0)) := by decide +kernel
theorem q_least {p : Nat → Prop} : ∀ n, (∀ i, i < n → p i) ∨ ∃ j, j < n ∧ ¬ p j ∧ ∀ i, i < j → p i
  | 0 => Or.inl (fun i hi => absurd hi (Nat.not_lt_zero i))
  | n + 1 => by
    rcases q_least (p := p) n with h | ⟨j, h1, h2, h3⟩
    · by_cases c : p n
      · exact Or.inl (fun i hi => by
          by_cases e : i = n
          · rw [e]; exact c
          · exact h i (by omega))
      · exact Or.inr ⟨n, Nat.lt_succ_self n, c, h⟩
    · exact Or.inr ⟨j, by omega, h2, h3⟩
def q_bar (G : Nat) (K3 x : Nat → Int32) : Prop := ∀ g, g < G → K3 g = 2 ∨ x g = 0
theorem q_f30 (a : Fin 3) : (a.val == 0) = true ↔ q_f3 a = 0 := by revert a; decide
theorem q_barC {G P F W L : Nat} {A T : Nat → Nat → Int32} (h : q_LR G P F W L A T) {x : Nat → Int32} (hx : q_WY G x) : (q_cod x &&& (A 0 7 ^^^ (-1))) = 0 ↔ q_bar G (T 3) x := by
  have hG := h.1.1.2.1
  obtain ⟨f, hf⟩ : ∃ f : Nat → Bool, ∀ k, f k = decide (k < G ∧ T 3 k = 2) := ⟨_, fun _ => rfl⟩
  have e : q_cod (q_gd G (T 3)) = q_cod (fun k => if q_b6 (f 0) (f 1) (f 2) (f 3) (f 4) (f 5) k = true then 3 else 0) := by
    apply q_cod_congr
    intro k hk
    show q_gd G (T 3) k = if q_b6 (f 0) (f 1) (f 2) (f 3) (f 4) (f 5) k = true then 3 else 0
    rw [q_b6_at f k hk, hf k]
    unfold q_gd
    by_cases c1 : k < G
    · by_cases c2 : T 3 k = 2
      · simp [c1, c2]
      · simp [c1, c2]
    · simp [c1]
  obtain ⟨a0, a1, a2, a3, a4, a5, hx6⟩ := q_dg6 hx.1
  have q := q_bare64 (f 0) (f 1) (f 2) (f 3) (f 4) (f 5) a0 a1 a2 a3 a4 a5
  rw [← e, ← q_cod_F hx6, ← h.2.2.1.2.2.1] at q
  have at6 : ∀ k, k < 6 → (q_bar G (T 3) x → f k = true ∨ x k = 0) ∧ ((f k = true ∨ x k = 0) → k < G → T 3 k = 2 ∨ x k = 0) := by
    intro k hk
    rw [hf k]
    refine ⟨fun hb => ?_, fun hb hk2 => ?_⟩
    · by_cases c : k < G
      · rcases hb k c with z | z
        · exact Or.inl (decide_eq_true ⟨c, z⟩)
        · exact Or.inr z
      · exact Or.inr (hx.2 k (by omega) hk)
    · rcases hb with z | z
      · exact Or.inl (of_decide_eq_true z).2
      · exact Or.inr z
  constructor
  · intro z
    rw [decide_eq_true z] at q
    have q' := q.symm
    simp only [Bool.and_eq_true, Bool.or_eq_true, q_f30] at q'
    obtain ⟨⟨⟨⟨⟨u0, u1⟩, u2⟩, u3⟩, u4⟩, u5⟩ := q'
    rw [← hx6.1] at u0
    rw [← hx6.2.1] at u1
    rw [← hx6.2.2.1] at u2
    rw [← hx6.2.2.2.1] at u3
    rw [← hx6.2.2.2.2.1] at u4
    rw [← hx6.2.2.2.2.2] at u5
    intro g hg
    have hg6 : g < 6 := by omega
    match g, hg, hg6 with
    | 0, hg, _ => exact (at6 0 (by decide)).2 u0 hg
    | 1, hg, _ => exact (at6 1 (by decide)).2 u1 hg
    | 2, hg, _ => exact (at6 2 (by decide)).2 u2 hg
    | 3, hg, _ => exact (at6 3 (by decide)).2 u3 hg
    | 4, hg, _ => exact (at6 4 (by decide)).2 u4 hg
    | 5, hg, _ => exact (at6 5 (by decide)).2 u5 hg
    | n + 6, _, h => exact absurd h (by omega)
  · intro hb
    have u : ∀ k, k < 6 → f k = true ∨ x k = 0 := fun k hk => (at6 k hk).1 hb
    have u0 := u 0 (by decide)
    have u1 := u 1 (by decide)
    have u2 := u 2 (by decide)
    have u3 := u 3 (by decide)
    have u4 := u 4 (by decide)
    have u5 := u 5 (by decide)
    rw [hx6.1] at u0
    rw [hx6.2.1] at u1
    rw [hx6.2.2.1] at u2
    rw [hx6.2.2.2.1] at u3
    rw [hx6.2.2.2.2.1] at u4
    rw [hx6.2.2.2.2.2] at u5
    apply of_decide_eq_true
    rw [q]
    simp only [Bool.and_eq_true, Bool.or_eq_true, q_f30]
    exact ⟨⟨⟨⟨⟨u0, u1⟩, u2⟩, u3⟩, u4⟩, u5⟩
theorem q_barM {G P F W L : Nat} {A T : Nat → Nat → Int32} (h : q_LR G P F W L A T) {x : Nat → Int32} (hx : q_dg x) : (q_bar G (T 3) x → f_X13_isBare x (T 0) (T 3) = some true) ∧ (¬ q_bar G (T 3) x → f_X13_isBare x (T 0) (T 3) = some false) := by
  have hG := h.1.1.2.1
  have k1 := h.1.2.1.2
  have step : ∀ i, i < G → (T 3 i = 2 ∨ x i = 0) → f_X13_isBare_w2 x (T 0) (T 3) (Int32.ofNat i) = some (.inl (Int32.ofNat (i + 1))) := by
    intro i hi hp
    have k2 := q_go (n := G) (by omega) hi
    have k3 : ¬ j_out (Int32.ofNat i) 6 := q_in (by omega) (by decide)
    have k4 : (Int32.ofNat i).toNatClampNeg = i := q_n (by omega)
    have k5 := q_pos hx (i := i) (by omega)
    unfold f_X13_isBare_w2 f_X13_isBare_j37_2
    simp only [k1, k2, k3, k4, k5, if_false, q_s]
    by_cases c : T 3 i = 2
    · simp only [c, if_true]
    · have c2 := hp.resolve_left c
      simp only [c, c2, if_true, if_false]
  have out : ∀ i, i < G → ¬ (T 3 i = 2 ∨ x i = 0) → f_X13_isBare_w2 x (T 0) (T 3) (Int32.ofNat i) = some (.inr (.inl false)) := by
    intro i hi hp
    have k2 := q_go (n := G) (by omega) hi
    have k3 : ¬ j_out (Int32.ofNat i) 6 := q_in (by omega) (by decide)
    have k4 : (Int32.ofNat i).toNatClampNeg = i := q_n (by omega)
    have k5 := q_pos hx (i := i) (by omega)
    have c : ¬ T 3 i = 2 := fun z => hp (Or.inl z)
    have c2 : ¬ x i = 0 := fun z => hp (Or.inr z)
    unfold f_X13_isBare_w2
    simp only [k1, k2, k3, k4, k5, c, c2, if_false]
  refine ⟨fun hb => ?_, fun hb => ?_⟩
  · have r := q_run (F := f_X13_isBare_w2 x (T 0) (T 3)) (fun i => Int32.ofNat i) G (by omega) (e := .inr ()) (fun i hi => step i hi (hb i hi)) (by
      have k2 := q_end (n := G) (by omega)
      unfold f_X13_isBare_w2
      simp only [k1, k2, if_true])
    unfold f_X13_isBare
    rw [show (0 : Int32) = Int32.ofNat 0 from rfl, r]
    rfl
  · rcases q_least (p := fun g => T 3 g = 2 ∨ x g = 0) G with z | ⟨j, hj, z1, z2⟩
    · exact absurd z hb
    · have r := q_run (F := f_X13_isBare_w2 x (T 0) (T 3)) (fun i => Int32.ofNat i) j (by omega) (e := .inl false) (fun i hi => step i (by omega) (z2 i hi)) (out j hj z1)
      unfold f_X13_isBare
      rw [show (0 : Int32) = Int32.ofNat 0 from rfl, r]
      rfl
