/-! tier two: fits on both sides -/
theorem q_rk_le (f : Nat → Bool) : ∀ n, q_rk f n ≤ n
  | 0 => Nat.le_refl _
  | n + 1 => by
    have := q_rk_le f n
    show (if f n = true then q_rk f n + 1 else q_rk f n) ≤ n + 1
    split <;> omega
theorem q_rk_mono (f : Nat → Bool) {m n : Nat} (h : m ≤ n) : q_rk f m ≤ q_rk f n := by
  obtain ⟨j, rfl⟩ : ∃ j, n = m + j := ⟨n - m, by omega⟩
  clear h
  induction j with
  | zero => exact Nat.le_refl _
  | succ j ih =>
    show q_rk f m ≤ (if f (m + j) = true then q_rk f (m + j) + 1 else q_rk f (m + j))
    split <;> omega
theorem q_rk_s {f : Nat → Bool} {n : Nat} (h : f n = true) : q_rk f (n + 1) = q_rk f n + 1 := if_pos h
theorem q_rk_lt {f : Nat → Bool} {m n : Nat} (hm : m < n) (h : f m = true) : q_rk f m < q_rk f n := by
  have h1 := q_rk_mono f (m := m + 1) (n := n) (by omega)
  rw [q_rk_s h] at h1
  omega
theorem q_put {r n : Nat} {d : JD} {i : Nat} {v : Int32} (hi : i < n) (hn : n < 2147483648) : f_X11_put r n d (Int32.ofNat i) v = j_sI d r i v := by
  unfold f_X11_put
  rw [if_neg (q_neg (by omega)), if_neg (q_go hn hi), q_n (by omega)]
theorem q_fcd {n c : Nat} (hn : n ≤ 6) (hc : c < 3 ^ n) : f_X10_fromCode (Int32.ofNat (q_ph n c)) (Int32.ofNat n) = q_cod (q_dig n c) := q_fc7 ⟨n, by omega⟩ ⟨c, hc⟩
theorem q_iwd {n c : Nat} (hn : n ≤ 6) (hc : c < 3 ^ n) : f_X10_isWay (q_cod (q_dig n c)) = true := q_iwd7 ⟨n, by omega⟩ ⟨c, hc⟩
theorem q_cos {n : Nat} (hn : n ≤ 6) : f_X10_codesOf (Int32.ofNat n) = Int32.ofNat (4 ^ n) := q_co7 ⟨n, by omega⟩
theorem q_L81 {L : Nat} (h : L ≤ 4) : 4 ^ L ≤ 256 ∧ 3 ^ L ≤ 81 ∧ 1 ≤ 3 ^ L := by
  have := (by decide : ∀ L : Fin 5, 4 ^ L.val ≤ 256 ∧ 3 ^ L.val ≤ 81 ∧ 1 ≤ 3 ^ L.val) ⟨L, by omega⟩
  exact this
section QFT
variable {G P F W L : Nat} {A T : Nat → Nat → Int32}
theorem q_isft (h : q_LR G P F W L A T) (c : Nat) : f_X2_isFit (A 0) (A 7) (A 8) (A 9) (A 13) (A 14) (q_cod (q_dig L c)) = q_ft A L c := by
  have hL := h.1.1.2.2.2.2.2
  unfold f_X2_isFit j_let q_ft
  rw [h.1.2.2.2.2.2.1.1, q_for _ (by omega)]
  have e : q_it (fun i s => f_X2_isFit_b7 (A 0) (A 7) (A 8) (A 9) (A 13) (A 14) (q_cod (q_dig L c)) (Int32.ofNat i) s) L (A 0 6) = q_fitw (A 13) (A 0 6) L c := by
    unfold q_fitw
    refine q_it_congr L _ (fun k hk s => ?_)
    unfold f_X2_isFit_b7
    rw [q_at (by omega) (by decide), q_hung (q_dig_WY L c).1 (by omega)]
  rw [e]
  dsimp only
  by_cases z : f_X0_firstBelied (A 0) (A 7) (A 8) (A 14) (q_fitw (A 13) (A 0 6) L c) = -2
  · rw [if_pos z, decide_eq_true z]
  · rw [if_neg z, decide_eq_false z]
end QFT
/-- what the class has found -/
theorem q_findC {G P F W L a t : Nat} {d : JD} (hL : q_LR G P F W L (q_rows d a) (q_rows d t)) (ha : a = 42 ∨ a = 4) (hk : q_KF (q_rows d a) (q_rows d 32)) : (∀ b, b ≠ 39 → b ≠ 40 → (f_X2_find a d).1 b = d.1 b) ∧ (f_X2_find a d).1 39 2 = Int32.ofNat (q_rk (q_ft (q_rows d a) L) (3 ^ L)) ∧ ∀ c, c < 3 ^ L → q_ft (q_rows d a) L c = true → (f_X2_find a d).1 40 (q_rk (q_ft (q_rows d a) L) c) = q_cod (q_dig L c) := by
  have hL4 := hL.1.1.2.2.2.2.2
  have e9 : d.1 (a + 9) 4 = Int32.ofNat L := hL.1.2.2.2.2.2.1.1
  obtain ⟨p4, p3, p1⟩ := q_L81 hL4
  by_cases z : d.1 39 0 = 0
  · have na : ∀ j, j < 15 → a + j ≠ 39 ∧ a + j ≠ 40 := fun j hj => by rcases ha with z | z <;> omega
    unfold f_X2_find j_let
    rw [if_pos z]
    dsimp only
    have e9' : (j_sI (j_sI d 39 0 1) 39 2 0).1 (a + 9) 4 = Int32.ofNat L := by rw [q_sI_o (na 9 (by decide)).1, q_sI_o (na 9 (by decide)).1]; exact e9
    rw [e9', q_cos (by omega), q_for _ (by omega)]
    rw [q_skip L (fun i s => f_X2_find_b28 a (Int32.ofNat L) (Int32.ofNat i) s) _ (fun c hc hw s => by
      unfold f_X2_find_b28 f_X2_find_j83_28
      rw [q_iw (by omega) hc, if_neg (by rw [hw]; decide)])]
    have inv : ∀ n, n ≤ 3 ^ L → ∃ D, q_it (fun c s => f_X2_find_b28 a (Int32.ofNat L) (Int32.ofNat (q_ph L c)) s) n (j_sI (j_sI d 39 0 1) 39 2 0) = D ∧ (∀ b, b ≠ 39 → b ≠ 40 → D.1 b = d.1 b) ∧ D.1 39 2 = Int32.ofNat (q_rk (q_ft (q_rows d a) L) n) ∧ ∀ c, c < n → q_ft (q_rows d a) L c = true → D.1 40 (q_rk (q_ft (q_rows d a) L) c) = q_cod (q_dig L c) := by
      intro n
      induction n with
      | zero => exact fun _ => ⟨_, rfl, fun b h1 h2 => by show (j_sI (j_sI d 39 0 1) 39 2 0).1 b = _; rw [q_sI_o h1, q_sI_o h1], by show (j_sI (j_sI d 39 0 1) 39 2 0).1 39 2 = _; rw [q_sI_a]; rfl, fun c hc => absurd hc (by omega)⟩
      | succ n ih =>
        intro hn
        obtain ⟨D, i1, i2, i3, i4⟩ := ih (by omega)
        show ∃ E, f_X2_find_b28 a (Int32.ofNat L) (Int32.ofNat (q_ph L n)) (q_it _ n _) = E ∧ _
        rw [i1]
        have fc : f_X10_fromCode (Int32.ofNat (q_ph L n)) (Int32.ofNat L) = q_cod (q_dig L n) := q_fcd (by omega) (by omega)
        have iw : f_X10_isWay (q_cod (q_dig L n)) = true := q_iwd (by omega) (by omega)
        have i0 : D.1 a = d.1 a := i2 _ (na 0 (by decide)).1 (na 0 (by decide)).2
        have i7 : D.1 (a + 7) = d.1 (a + 7) := i2 _ (na 7 (by decide)).1 (na 7 (by decide)).2
        have i8 : D.1 (a + 8) = d.1 (a + 8) := i2 _ (na 8 (by decide)).1 (na 8 (by decide)).2
        have i9 : D.1 (a + 9) = d.1 (a + 9) := i2 _ (na 9 (by decide)).1 (na 9 (by decide)).2
        have i13 : D.1 (a + 13) = d.1 (a + 13) := i2 _ (na 13 (by decide)).1 (na 13 (by decide)).2
        have i14 : D.1 (a + 14) = d.1 (a + 14) := i2 _ (na 14 (by decide)).1 (na 14 (by decide)).2
        have ft : f_X2_isFit (d.1 a) (d.1 (a + 7)) (d.1 (a + 8)) (d.1 (a + 9)) (d.1 (a + 13)) (d.1 (a + 14)) (q_cod (q_dig L n)) = q_ft (q_rows d a) L n := q_isft (A := q_rows d a) (T := q_rows d t) hL n
        have rle := q_rk_le (q_ft (q_rows d a) L) n
        unfold f_X2_find_b28 f_X2_find_j83_28 j_let
        rw [fc, if_pos iw, i0, i7, i8, i9, i13, i14, ft, i3]
        dsimp only
        by_cases c : q_ft (q_rows d a) L n = true
        · rw [if_pos c, q_put (n := 81) (by omega) (by decide), q_rk_s c]
          refine ⟨_, rfl, fun b h1 h2 => ?_, ?_, fun c' hc' hf => ?_⟩
          · rw [q_sI_o h1, q_sI_o h2, i2 b h1 h2]
          · rw [q_sI_a, q_upd_a, q_sI_o (by decide), i3, q_s]
          · rw [q_sI_o (by decide), q_sI_a]
            unfold upd
            by_cases y : c' = n
            · rw [y, if_pos rfl]
            · rw [if_neg (by have := q_rk_lt (f := q_ft (q_rows d a) L) (m := c') (n := n) (by omega) hf; omega)]
              exact i4 c' (by omega) hf
        · rw [if_neg c]
          have rs : q_rk (q_ft (q_rows d a) L) (n + 1) = q_rk (q_ft (q_rows d a) L) n := if_neg c
          rw [rs]
          exact ⟨D, rfl, i2, i3, fun c' hc' hf => i4 c' (by
            by_cases y : c' = n
            · rw [y] at hf; exact absurd hf c
            · omega) hf⟩
    obtain ⟨D, i1, i2, i3, i4⟩ := inv (3 ^ L) (Nat.le_refl _)
    rw [i1]
    exact ⟨i2, i3, i4⟩
  · have e : f_X2_find a d = d := by
      unfold f_X2_find
      exact if_neg z
    rw [e]
    refine ⟨fun _ _ _ => rfl, ?_⟩
    rcases hk with hk | ⟨L', l1, l2, l3, l4⟩
    · exact absurd hk z
    · have : L' = L := by
        have e : Int32.ofNat L = Int32.ofNat L' := e9.symm.trans l2
        exact ((q_eq (by omega) (by omega)).mp e).symm
      subst this
      exact ⟨l3, l4⟩
theorem q_guess {T0 : Nat → Int32} {L : Nat} (hL : L ≤ 4) (e : T0 7 = Int32.ofNat L) {c k : Nat} (hc : c < 81) (hk : k < L) : f_X13_guess T0 (Int32.ofNat c) (Int32.ofNat k) = some (q_dig L c k) := by
  have bc : ∀ i, c / 3 ^ i < 2147483648 := fun i => Nat.lt_of_le_of_lt (Nat.div_le_self _ _) (by omega)
  unfold f_X13_guess
  have e1 : T0 7 - 1 = Int32.ofNat (L - 1) := by rw [e]; exact q_sub (b := 1) (by omega)
  have l := q_run (F := f_X13_guess_w13 T0 (Int32.ofNat k)) (fun i => (Int32.ofNat (c / 3 ^ i), Int32.ofNat (L - 1 - i))) (e := Int32.ofNat (c / 3 ^ (L - 1 - k))) (L - 1 - k) (by omega) (fun i hi => by
    unfold f_X13_guess_w13
    dsimp only
    rw [if_neg (by rw [q_le (by omega) (by omega)]; omega)]
    have e2 : Int32.ofNat (L - 1 - i) + (-1) = Int32.ofNat (L - 1 - (i + 1)) := by
      rw [show L - 1 - (i + 1) = L - 1 - i - 1 by omega, ← q_sub (b := 1) (by omega), Int32.sub_eq_add_neg]
      rfl
    rw [e2, show (3 : Int32) = Int32.ofNat 3 from rfl, q_div (bc i) (by decide), Nat.div_div_eq_div_mul, Nat.pow_succ]) (by
    unfold f_X13_guess_w13
    dsimp only
    rw [if_pos (by rw [q_le (by omega) (by omega)]; omega)])
  have l' : j_wh (f_X13_guess_w13 T0 (Int32.ofNat k)) j_fuel (Int32.ofNat c, Int32.ofNat (L - 1)) = some (Int32.ofNat (c / 3 ^ (L - 1 - k))) := by
    have h0 : c / 3 ^ 0 = c := by rw [Nat.pow_zero, Nat.div_one]
    rw [h0] at l
    exact l
  rw [e1, l', Option.bind_some, show (3 : Int32) = Int32.ofNat 3 from rfl, q_mod (bc _) (by decide)]
  unfold q_dig
  rw [if_pos hk]
theorem q_guesses {T0 : Nat → Int32} {L : Nat} (hL : L ≤ 4) (e : T0 7 = Int32.ofNat L) : f_X13_guesses T0 = Int32.ofNat (3 ^ L) := by
  unfold f_X13_guesses j_let
  dsimp only
  rw [e, q_for _ (by omega)]
  have : ∀ n, q_it (fun i s => f_X13_guesses_b4 T0 (Int32.ofNat i) s) n 1 = Int32.ofNat (3 ^ n) := by
    intro n
    induction n with
    | zero => rfl
    | succ n ih =>
      show f_X13_guesses_b4 T0 (Int32.ofNat n) (q_it _ n 1) = _
      rw [ih]
      unfold f_X13_guesses_b4
      rw [show (3 : Int32) = Int32.ofNat 3 from rfl, q_mul, Nat.pow_succ]
  exact this L
/-- how often a lost gate's hook hangs so -/
def q_hk (A : Nat → Nat → Int32) (L k h c : Nat) : Nat := q_rk (fun c => q_ft A L c && decide (q_dig L c k = Int32.ofNat h)) c
def q_nth (A : Nat → Nat → Int32) (L : Nat) (i : Int32) (c : Nat) (v : Int32) : Prop := (∃ c', c' < c ∧ q_ft A L c' = true ∧ Int32.ofNat (q_rk (q_ft A L) c') = i ∧ v = Int32.ofNat c') ∨ ((∀ c', c' < c → q_ft A L c' = true → ¬ (Int32.ofNat (q_rk (q_ft A L) c') = i)) ∧ v = -1)
theorem q_dig3 {L c k : Nat} (hk : k < L) : ∃ h, h < 3 ∧ q_dig L c k = Int32.ofNat h := by
  unfold q_dig
  rw [if_pos hk]
  exact ⟨_, Nat.mod_lt _ (by decide), rfl⟩
