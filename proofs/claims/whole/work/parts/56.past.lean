/-! tier two: the past remembered, on both sides -/
def q_r3 (d : JD) (r1 r2 r3 : Nat → Int32) : JD := (fun b => if b = 25 then r1 else if b = 26 then r2 else if b = 27 then r3 else d.1 b, d.2)
theorem q_r3_self (d : JD) : q_r3 d (d.1 25) (d.1 26) (d.1 27) = d := by
  apply Prod.ext
  · funext b
    show (if b = 25 then d.1 25 else if b = 26 then d.1 26 else if b = 27 then d.1 27 else d.1 b) = d.1 b
    by_cases h1 : b = 25
    · rw [if_pos h1, h1]
    · by_cases h2 : b = 26
      · rw [if_neg h1, if_pos h2, h2]
      · by_cases h3 : b = 27
        · rw [if_neg h1, if_neg h2, if_pos h3, h3]
        · rw [if_neg h1, if_neg h2, if_neg h3]
  · rfl
theorem q_r3_w (d : JD) (r1 r2 r3 : Nat → Int32) (k : Nat) (x y z : Int32) : j_sI (j_sI (j_sI (q_r3 d r1 r2 r3) 25 k x) 26 k y) 27 k z = q_r3 d (upd r1 k x) (upd r2 k y) (upd r3 k z) := by
  apply Prod.ext
  · funext b
    show (if b = 27 then upd (if b = 26 then upd (if b = 25 then upd ((q_r3 d r1 r2 r3).1 b) k x else (q_r3 d r1 r2 r3).1 b) k y else (if b = 25 then upd ((q_r3 d r1 r2 r3).1 b) k x else (q_r3 d r1 r2 r3).1 b)) k z else (if b = 26 then upd (if b = 25 then upd ((q_r3 d r1 r2 r3).1 b) k x else (q_r3 d r1 r2 r3).1 b) k y else (if b = 25 then upd ((q_r3 d r1 r2 r3).1 b) k x else (q_r3 d r1 r2 r3).1 b))) = (if b = 25 then upd r1 k x else if b = 26 then upd r2 k y else if b = 27 then upd r3 k z else d.1 b)
    by_cases h1 : b = 25
    · subst h1; rfl
    · by_cases h2 : b = 26
      · subst h2; rfl
      · by_cases h3 : b = 27
        · subst h3; rfl
        · rw [if_neg h3, if_neg h2, if_neg h1, if_neg h1, if_neg h2, if_neg h3]
          show (if b = 25 then r1 else if b = 26 then r2 else if b = 27 then r3 else d.1 b) = d.1 b
          rw [if_neg h1, if_neg h2, if_neg h3]
  · rfl
theorem q_r3_25 (d : JD) (r1 r2 r3 : Nat → Int32) : (q_r3 d r1 r2 r3).1 25 = r1 := rfl
theorem q_r3_26 (d : JD) (r1 r2 r3 : Nat → Int32) : (q_r3 d r1 r2 r3).1 26 = r2 := rfl
theorem q_r3_27 (d : JD) (r1 r2 r3 : Nat → Int32) : (q_r3 d r1 r2 r3).1 27 = r3 := rfl
theorem q_r3_o {d : JD} {r1 r2 r3 : Nat → Int32} {b : Nat} (h1 : b ≠ 25) (h2 : b ≠ 26) (h3 : b ≠ 27) : (q_r3 d r1 r2 r3).1 b = d.1 b := by
  show (if b = 25 then r1 else if b = 26 then r2 else if b = 27 then r3 else d.1 b) = d.1 b
  rw [if_neg h1, if_neg h2, if_neg h3]
def q_shf (m n : Nat) (r : Nat → Int32) (j : Nat) : Int32 := if j < n then r (j + m) else r j
theorem q_shf_0 (m : Nat) (r : Nat → Int32) : q_shf m 0 r = r := by
  funext j
  exact if_neg (Nat.not_lt_zero _)
theorem q_shf_s (m n : Nat) (r : Nat → Int32) : upd (q_shf m n r) n (r (n + m)) = q_shf m (n + 1) r := by
  funext j
  unfold upd q_shf
  by_cases h : j = n
  · rw [if_pos h, if_pos (by omega), h]
  · rw [if_neg h]
    by_cases h2 : j < n
    · rw [if_pos h2, if_pos (by omega)]
    · rw [if_neg h2, if_neg (by omega)]
theorem q_shf_at {m n j : Nat} {r : Nat → Int32} (h : n ≤ j) : q_shf m n r j = r j := if_neg (by omega)
theorem q_dropL {d : JD} (h4 : d.1 24 4 = Int32.ofNat 16) : f_X7_dropFirst 24 d = some (j_sI (q_r3 d (q_shf 1 15 (d.1 25)) (q_shf 1 15 (d.1 26)) (q_shf 1 15 (d.1 27))) 24 4 (Int32.ofNat 15)) := by
  unfold f_X7_dropFirst
  have h := q_run (F := f_X7_dropFirst_w2 24) (fun i => (Int32.ofNat (i + 1), q_r3 d (q_shf 1 i (d.1 25)) (q_shf 1 i (d.1 26)) (q_shf 1 i (d.1 27)))) 15 (by decide) (e := q_r3 d (q_shf 1 15 (d.1 25)) (q_shf 1 15 (d.1 26)) (q_shf 1 15 (d.1 27)))
    (fun i hi => by
      have k0 : (q_r3 d (q_shf 1 i (d.1 25)) (q_shf 1 i (d.1 26)) (q_shf 1 i (d.1 27))).1 24 = d.1 24 := q_r3_o (by decide) (by decide) (by decide)
      have k1 : ¬ (Int32.ofNat 16 ≤ Int32.ofNat (i + 1)) := q_go (n := 16) (by decide) (by omega)
      have k1' : ¬ ((16 : Int32) ≤ Int32.ofNat (i + 1)) := k1
      have k2 : ¬ j_out (Int32.ofNat (i + 1)) 16 := q_in (by omega) (by decide)
      have k3 : Int32.ofNat (i + 1) - 1 = Int32.ofNat i := q_pred (by omega)
      have k4 : ¬ j_out (Int32.ofNat i) 16 := q_in (by omega) (by decide)
      have k5 : (Int32.ofNat i).toNatClampNeg = i := q_n (by omega)
      have k6 : (Int32.ofNat (i + 1)).toNatClampNeg = i + 1 := q_n (by omega)
      have k7 : ∀ r : Nat → Int32, q_shf 1 i r (i + 1) = r (i + 1) := fun r => q_shf_at (by omega)
      unfold f_X7_dropFirst_w2
      simp only [k0, h4, k1, k1', k2, k3, k4, k5, k6, if_false, show 24 + 1 = 25 from rfl, show 24 + 2 = 26 from rfl, show 24 + 3 = 27 from rfl, q_r3_25, q_r3_26, q_r3_27, k7, q_r3_w, q_shf_s, q_s])
    (by
      have k0 : (q_r3 d (q_shf 1 15 (d.1 25)) (q_shf 1 15 (d.1 26)) (q_shf 1 15 (d.1 27))).1 24 = d.1 24 := q_r3_o (by decide) (by decide) (by decide)
      have k1 : Int32.ofNat 16 ≤ Int32.ofNat (15 + 1) := by decide
      unfold f_X7_dropFirst_w2
      simp only [k0, h4, k1, if_true])
  have e0 : (Int32.ofNat (0 + 1), q_r3 d (q_shf 1 0 (d.1 25)) (q_shf 1 0 (d.1 26)) (q_shf 1 0 (d.1 27))) = (1, d) := by rw [q_shf_0, q_shf_0, q_shf_0, q_r3_self]; rfl
  rw [e0] at h
  rw [h]
  have k0 : (q_r3 d (q_shf 1 15 (d.1 25)) (q_shf 1 15 (d.1 26)) (q_shf 1 15 (d.1 27))).1 24 4 = Int32.ofNat 16 := by rw [q_r3_o (by decide) (by decide) (by decide)]; exact h4
  have k1 : Int32.ofNat 16 - 1 = Int32.ofNat 15 := by decide
  simp only [Option.bind_some, k0, k1]
/-- how many stay, and the shelf's rows before the latest is laid on it -/
def q_c0 (c : Nat) : Nat := if c < 16 then c else 15
def q_o0 (c : Nat) (r : Nat → Int32) : Nat → Int32 := if c < 16 then r else q_shf 1 15 r
def q_ov (c : Nat) (r : Nat → Int32) : Nat → Int32 := if c < 16 then r else q_shf 9 135 r
theorem q_remP (D : JD) (k : Nat) (hk : k < 16) (e4 : D.1 24 4 = Int32.ofNat k) (e3 : D.1 24 3 = Int32.ofNat 16) : ∃ d1, f_X7_addLatest 22 24 D = some d1 ∧ d1.1 25 = upd (D.1 25) k (D.1 22 0) ∧ d1.1 26 = upd (D.1 26) k (D.1 22 1) ∧ d1.1 27 = upd (D.1 27) k (D.1 22 2) ∧ d1.1 24 3 = Int32.ofNat 16 ∧ d1.1 24 4 = Int32.ofNat (k + 1) ∧ (∀ b, b ≠ 24 → b ≠ 25 → b ≠ 26 → b ≠ 27 → d1.1 b = D.1 b) := by
  have a := q_addL (s := 24) (Or.inl rfl) (n := 16) hk (by decide) e4 e3
  obtain ⟨d1, hd1⟩ : ∃ d1, d1 = j_sI (j_sI (j_sI (j_sI D 25 k (D.1 22 0)) 26 k (D.1 22 1)) 27 k (D.1 22 2)) 24 4 (Int32.ofNat (k + 1)) := ⟨_, rfl⟩
  have a' : f_X7_addLatest 22 24 D = some d1 := by rw [hd1]; exact a
  refine ⟨d1, a', ?_, ?_, ?_, ?_, ?_, ?_⟩
  · rw [hd1, q_sI_o (by decide), q_sI_o (by decide), q_sI_o (by decide), q_sI_a]
  · rw [hd1, q_sI_o (by decide), q_sI_o (by decide), q_sI_a, q_sI_o (by decide)]
  · rw [hd1, q_sI_o (by decide), q_sI_a, q_sI_o (by decide), q_sI_o (by decide)]
  · rw [hd1, q_sI_a, q_upd_o (by decide), q_sI_o (by decide), q_sI_o (by decide), q_sI_o (by decide)]; exact e3
  · rw [hd1, q_sI_a]; exact q_upd_a _ _ _
  · intro b b1 b2 b3 b4
    rw [hd1, q_sI_o b1, q_sI_o b4, q_sI_o b3, q_sI_o b2]
theorem q_addJ {D d1 : JD} {k : Nat} (hk : k < 16) (e4 : D.1 24 4 = Int32.ofNat k) (e3 : D.1 24 3 = Int32.ofNat 16) (e : f_X7_addLatest 22 24 D = some d1) : f_X7_addLatest_j15 22 24 D = some d1 := by
  have z : Int32.ofNat k < Int32.ofNat 16 := by rw [q_lt (by omega) (by decide)]; exact hk
  unfold f_X7_addLatest at e
  rw [e4, e3, if_pos z] at e
  exact e
theorem q_addF {d D : JD} (h4 : d.1 24 4 = Int32.ofNat 16) (h3 : d.1 24 3 = Int32.ofNat 16) (dr : f_X7_dropFirst 24 d = some D) : f_X7_addLatest 22 24 d = f_X7_addLatest_j15 22 24 D := by
  have z : ¬ (Int32.ofNat 16 < Int32.ofNat 16) := by rw [q_lt (by decide) (by decide)]; omega
  unfold f_X7_addLatest
  rw [h4, h3, if_neg z, dr, Option.bind_some]
theorem q_remC {d : JD} {c : Nat} (hc : c ≤ 16) (h4 : d.1 24 4 = Int32.ofNat c) (h3 : d.1 24 3 = Int32.ofNat 16) : ∃ d1, f_X7_addLatest 22 24 d = some d1 ∧ d1.1 25 = upd (q_o0 c (d.1 25)) (q_c0 c) (d.1 22 0) ∧ d1.1 26 = upd (q_o0 c (d.1 26)) (q_c0 c) (d.1 22 1) ∧ d1.1 27 = upd (q_o0 c (d.1 27)) (q_c0 c) (d.1 22 2) ∧ d1.1 24 3 = Int32.ofNat 16 ∧ d1.1 24 4 = Int32.ofNat (q_c0 c + 1) ∧ (∀ b, b ≠ 24 → b ≠ 25 → b ≠ 26 → b ≠ 27 → d1.1 b = d.1 b) := by
  by_cases h16 : c < 16
  · have ec : q_c0 c = c := if_pos h16
    have eo : ∀ r, q_o0 c r = r := fun r => if_pos h16
    rw [ec, eo, eo, eo]
    exact q_remP d c h16 h4 h3
  · have ec : q_c0 c = 15 := if_neg h16
    have eo : ∀ r, q_o0 c r = q_shf 1 15 r := fun r => if_neg h16
    rw [ec, eo, eo, eo]
    have h4' : d.1 24 4 = Int32.ofNat 16 := by rw [h4]; congr 1; omega
    obtain ⟨D, hD⟩ : ∃ D, D = j_sI (q_r3 d (q_shf 1 15 (d.1 25)) (q_shf 1 15 (d.1 26)) (q_shf 1 15 (d.1 27))) 24 4 (Int32.ofNat 15) := ⟨_, rfl⟩
    have dr := q_dropL h4'
    rw [← hD] at dr
    have D4 : D.1 24 4 = Int32.ofNat 15 := by rw [hD, q_sI_a]; exact q_upd_a _ _ _
    have D3 : D.1 24 3 = Int32.ofNat 16 := by rw [hD, q_sI_a, q_upd_o (by decide), q_r3_o (by decide) (by decide) (by decide)]; exact h3
    obtain ⟨d1, e1, e2, e3, e4, e5, e6, e7⟩ := q_remP D 15 (by decide) D4 D3
    have Do : ∀ b, b ≠ 24 → b ≠ 25 → b ≠ 26 → b ≠ 27 → D.1 b = d.1 b := fun b b1 b2 b3 b4 => by rw [hD, q_sI_o b1, q_r3_o b2 b3 b4]
    have D22 := Do 22 (by decide) (by decide) (by decide) (by decide)
    refine ⟨d1, (q_addF h4' h3 dr).trans (q_addJ (by decide) D4 D3 e1), ?_, ?_, ?_, e5, e6, fun b b1 b2 b3 b4 => (e7 b b1 b2 b3 b4).trans (Do b b1 b2 b3 b4)⟩
    · rw [e2, D22, hD, q_sI_o (by decide), q_r3_25]
    · rw [e3, D22, hD, q_sI_o (by decide), q_r3_26]
    · rw [e4, D22, hD, q_sI_o (by decide), q_r3_27]
theorem q_keepL (d : JD) {c : Nat} (hc : c < 16) (h19 : d.1 57 19 = Int32.ofNat c) : j_wh f_X13_remembers_w51 j_fuel (0, d) = some (q_row d 61 (q_put9 (d.1 61) (d.1 59) c 9)) := by
  have h := q_run (F := f_X13_remembers_w51) (fun i => (Int32.ofNat i, q_row d 61 (q_put9 (d.1 61) (d.1 59) c i))) 9 (by decide) (e := q_row d 61 (q_put9 (d.1 61) (d.1 59) c 9))
    (fun i hi => by
      have k1 : ¬ ((9 : Int32) ≤ Int32.ofNat i) := q_go (n := 9) (by decide) hi
      have k2 : ¬ j_out (Int32.ofNat i) 9 := q_in (by omega) (by decide)
      have k3 : (Int32.ofNat i).toNatClampNeg = i := q_n (by omega)
      have k4 : (q_row d 61 (q_put9 (d.1 61) (d.1 59) c i)).1 59 = d.1 59 := q_row_o (by decide)
      have k5 : (q_row d 61 (q_put9 (d.1 61) (d.1 59) c i)).1 57 = d.1 57 := q_row_o (by decide)
      have k6 : ¬ j_out (Int32.ofNat (9 * c + i)) 144 := q_in (by omega) (by decide)
      have k7 : (Int32.ofNat (9 * c + i)).toNatClampNeg = 9 * c + i := q_n (by omega)
      unfold f_X13_remembers_w51
      simp only [k1, k2, k3, k4, k5, h19, q_ix9, k6, k7, if_false, q_s, q_sI_row, q_row_row, q_row_a, q_put9_s])
    (by
      have k1 : (9 : Int32) ≤ Int32.ofNat 9 := by decide
      unfold f_X13_remembers_w51
      simp only [k1, if_true])
  have e0 : (Int32.ofNat 0, q_row d 61 (q_put9 (d.1 61) (d.1 59) c 0)) = (0, d) := by rw [q_put9_0, q_row_self]; rfl
  rw [e0] at h
  exact h
theorem q_shiftL (d : JD) : j_wh f_X13_remembers_w11 j_fuel (0, d) = some (q_row d 61 (q_shf 9 135 (d.1 61))) := by
  have h := q_run (F := f_X13_remembers_w11) (fun i => (Int32.ofNat i, q_row d 61 (q_shf 9 i (d.1 61)))) 135 (by decide) (e := q_row d 61 (q_shf 9 135 (d.1 61)))
    (fun i hi => by
      have k1 : ¬ ((135 : Int32) ≤ Int32.ofNat i) := q_go (n := 135) (by decide) hi
      have k2 : Int32.ofNat i + 9 = Int32.ofNat (i + 9) := by rw [Int32.ofNat_add]; rfl
      have k3 : ¬ j_out (Int32.ofNat (i + 9)) 144 := q_in (by omega) (by decide)
      have k4 : ¬ j_out (Int32.ofNat i) 144 := q_in (by omega) (by decide)
      have k5 : (Int32.ofNat i).toNatClampNeg = i := q_n (by omega)
      have k6 : (Int32.ofNat (i + 9)).toNatClampNeg = i + 9 := q_n (by omega)
      have k7 : q_shf 9 i (d.1 61) (i + 9) = d.1 61 (i + 9) := q_shf_at (by omega)
      unfold f_X13_remembers_w11
      simp only [k1, k2, k3, k4, k5, k6, if_false, q_row_a, k7, q_s, q_sI_row, q_row_row, q_shf_s])
    (by
      have k1 : (135 : Int32) ≤ Int32.ofNat 135 := by decide
      unfold f_X13_remembers_w11
      simp only [k1, if_true])
  have e0 : (Int32.ofNat 0, q_row d 61 (q_shf 9 0 (d.1 61))) = (0, d) := by rw [q_shf_0, q_row_self]; rfl
  rw [e0] at h
  exact h
theorem q_remM {d : JD} {c : Nat} (hc : c ≤ 16) (h19 : d.1 57 19 = Int32.ofNat c) : ∃ d1, f_X13_remembers d = some d1 ∧ d1.1 61 = q_put9 (q_ov c (d.1 61)) (d.1 59) (q_c0 c) 9 ∧ d1.1 57 19 = Int32.ofNat (q_c0 c + 1) ∧ (∀ k, k ≠ 19 → d1.1 57 k = d.1 57 k) ∧ ∀ b, b ≠ 57 → b ≠ 61 → d1.1 b = d.1 b := by
  have put : ∀ (D : JD) (k : Nat), k < 16 → D.1 57 19 = Int32.ofNat k → ∃ d1, f_X13_remembers_j49 D = some d1 ∧ d1.1 61 = q_put9 (D.1 61) (D.1 59) k 9 ∧ d1.1 57 19 = Int32.ofNat (k + 1) ∧ (∀ j, j ≠ 19 → d1.1 57 j = D.1 57 j) ∧ ∀ b, b ≠ 57 → b ≠ 61 → d1.1 b = D.1 b := by
    intro D k hk e
    have z : (q_row D 61 (q_put9 (D.1 61) (D.1 59) k 9)).1 57 = D.1 57 := q_row_o (by decide)
    refine ⟨j_sI (q_row D 61 (q_put9 (D.1 61) (D.1 59) k 9)) 57 19 (Int32.ofNat (k + 1)), ?_, ?_, ?_, ?_, ?_⟩
    · unfold f_X13_remembers_j49
      rw [q_keepL D hk e]
      simp only [Option.bind_some, z, e, q_s]
    · rw [q_sI_o (by decide), q_row_a]
    · rw [q_sI_a]; rfl
    · intro j hj
      rw [q_sI_a, q_upd_o hj, z]
    · intro b b1 b2
      rw [q_sI_o b1, q_row_o b2]
  by_cases h16 : c < 16
  · unfold q_c0 q_ov
    rw [if_pos h16, if_pos h16]
    have z : ¬ (Int32.ofNat c = 16) := fun z => by
      have := (q_eq (i := 16) (by omega) (by decide)).mp z
      omega
    obtain ⟨d1, e1, e2⟩ := put d c h16 h19
    refine ⟨d1, ?_, e2⟩
    unfold f_X13_remembers
    simp only [h19, z, if_false, e1]
  · have ec : c = 16 := by omega
    subst ec
    unfold q_c0 q_ov
    rw [if_neg h16, if_neg h16]
    obtain ⟨D, hD⟩ : ∃ D, D = j_sI (q_row d 61 (q_shf 9 135 (d.1 61))) 57 19 (Int32.ofNat 15) := ⟨_, rfl⟩
    have z57 : (q_row d 61 (q_shf 9 135 (d.1 61))).1 57 = d.1 57 := q_row_o (by decide)
    have D19 : D.1 57 19 = Int32.ofNat 15 := by rw [hD, q_sI_a]; rfl
    obtain ⟨d1, e1, e2, e3, e4, e5⟩ := put D 15 (by decide) D19
    refine ⟨d1, ?_, ?_, e3, ?_, ?_⟩
    · unfold f_X13_remembers
      have k1 : Int32.ofNat 16 = 16 := rfl
      have k2 : Int32.ofNat 16 - 1 = Int32.ofNat 15 := by decide
      rw [q_shiftL d]
      simp only [h19, k1, if_true, Option.bind_some, z57]
      rw [show (16 : Int32) - 1 = Int32.ofNat 15 from k2, ← hD]
      exact e1
    · rw [e2, hD, q_sI_o (by decide), q_sI_o (by decide), q_row_a, q_row_o (by decide)]
    · intro k hk
      rw [e4 k hk, hD, q_sI_a, q_upd_o hk, z57]
    · intro b b1 b2
      rw [e5 b b1 b2, hD, q_sI_o b1, q_row_o b2]
/-- the past with the latest laid on it -/
theorem q_remS {G : Nat} (hG : G ≤ 6) {A T : Nat → Nat → Int32} {c : Nat} (hc : c ≤ 16) {r0 r1 r2 v x : Nat → Int32} {w s y n1 n2 : Int32} (h : ∀ i, i < c → q_NR G A T (r0 i) (r1 i) (r2 i) (fun k => v (9 * i + k))) (hN : q_NR G A T w s y x) (h1 : n1 = Int32.ofNat (q_c0 c + 1)) (h2 : n2 = Int32.ofNat (q_c0 c + 1)) : q_SH G A T 16 n1 n2 (upd (q_o0 c r0) (q_c0 c) w) (upd (q_o0 c r1) (q_c0 c) s) (upd (q_o0 c r2) (q_c0 c) y) (q_put9 (q_ov c v) x (q_c0 c) 9) := by
  have hc0 : q_c0 c < 16 := by unfold q_c0; split <;> omega
  refine q_SH.push (r0 := q_o0 c r0) (r1 := q_o0 c r1) (r2 := q_o0 c r2) (v := q_ov c v) hG hc0 (fun i hi => ?_) hN (fun i hi => ⟨q_upd_o (by omega), q_upd_o (by omega), q_upd_o (by omega)⟩) ⟨q_upd_a _ _ _, q_upd_a _ _ _, q_upd_a _ _ _⟩ (fun i hi k hk => q_put9_old hi hk) (fun k hk => q_put9_new hk) h1 h2
  by_cases h16 : c < 16
  · unfold q_o0 q_ov
    unfold q_c0 at hi
    rw [if_pos h16] at hi
    rw [if_pos h16, if_pos h16, if_pos h16, if_pos h16]
    exact h i hi
  · unfold q_o0 q_ov
    unfold q_c0 at hi
    rw [if_neg h16] at hi
    rw [if_neg h16, if_neg h16, if_neg h16, if_neg h16]
    have e : ∀ r : Nat → Int32, q_shf 1 15 r i = r (i + 1) := fun r => if_pos hi
    rw [e, e, e]
    refine (h (i + 1) (by omega)).cv hG (fun k hk => ?_)
    show (if 9 * i + k < 135 then v (9 * i + k + 9) else _) = _
    rw [if_pos (by omega)]
    congr 1
    omega
