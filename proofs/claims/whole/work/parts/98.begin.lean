/-! the beginning, and the end -/
set_option maxRecDepth 100000 in
theorem qz_2 (L : Nat) (xs : Nat → Int32) : (hS L xs).2.1 2 = fun _ => 0 := rfl
set_option maxRecDepth 100000 in
theorem qz_58 (L : Nat) (xs : Nat → Int32) : (hS L xs).2.1 58 = fun _ => 0 := rfl
set_option maxRecDepth 100000 in
theorem qz_a (L : Nat) (xs : Nat → Int32) : (hS L xs).2.1 0 11 = 0 ∧ (hS L xs).2.1 0 12 = 0 ∧ (hS L xs).2.1 57 1 = 0 ∧ (hS L xs).2.1 57 12 = 0 ∧ (hS L xs).2.1 57 2 = -1 ∧ (hS L xs).2.1 1 1 = 0 ∧ (hS L xs).2.1 57 6 = 0 := ⟨rfl, rfl, rfl, rfl, rfl, rfl, rfl⟩
theorem qz_tr (L : Nat) (xs : Nat → Int32) : q_TR (hS L xs).2 := by
  obtain ⟨h1, h2, h3, h4, h5, h6, h7⟩ := qz_a L xs
  refine ⟨h1.trans h3.symm, h2.trans h4.symm, ?_, ⟨0, by decide, h6⟩, h7.trans h6.symm, (qz_58 L xs).trans (qz_2 L xs).symm, fun k => ?_⟩
  · rw [h1, if_neg (by decide), h5]
  · rw [qz_2]
    show (0 : Int32).toInt8.toInt32 = 0
    decide
set_option maxRecDepth 100000 in
theorem qz_nl (L : Nat) (xs : Nat → Int32) : q_NL 42 (hS L xs).2 := by
  refine ⟨fun k hk => ?_, fun k hk => ?_, fun k hk => ?_, rfl, rfl⟩
  · match k, hk with
    | 0, _ => rfl
    | 1, _ => rfl
    | 2, _ => rfl
    | 3, _ => rfl
    | 4, _ => rfl
    | 5, _ => rfl
    | 6, _ => rfl
    | 7, _ => rfl
    | n + 8, h => exact absurd h (by omega)
  · match k, hk with
    | 0, _ => rfl
    | 1, _ => rfl
    | 2, _ => rfl
    | 3, _ => rfl
    | 4, _ => rfl
    | 5, _ => rfl
    | 6, _ => rfl
    | 7, _ => rfl
    | n + 8, h => exact absurd h (by omega)
  · match k, hk with
    | 0, _ => rfl
    | 1, _ => rfl
    | 2, _ => rfl
    | n + 3, h => exact absurd h (by omega)
set_option maxRecDepth 100000 in
theorem qz_begin (L : Nat) (xs : Nat → Int32) : q_R q_K0 (hS L xs) := ⟨42, 4, ⟨Or.inl ⟨rfl, rfl⟩, hS_W L xs, hS_A L xs, hS_B L xs, hS_co L xs, hS_in L xs⟩, qz_tr L xs, ⟨rfl, rfl⟩, ⟨Or.inl rfl, Or.inl rfl, Or.inl rfl⟩, Or.inl ⟨hS_la L xs, qz_nl L xs⟩⟩
