/-! tier two: gates, people, firms -/
section QL
variable {G P F W L : Nat} {A T : Nat → Nat → Int32}
theorem q_hl1 (h : q_LR G P F W L A T) : f_X11_hasLand (A 0) = true := by
  unfold f_X11_hasLand
  have h1 := h.1.1
  rw [h.1.2.1.1, if_neg]
  rw [show (0 : Int32) = Int32.ofNat 0 from rfl, q_le (by omega) (by omega)]
  omega
theorem q_isg (h : q_LR G P F W L A T) (p : Int32) : f_X13_isGate (T 0) p = f_X11_isGate (A 0) p := by
  unfold f_X13_isGate f_X11_isGate
  rw [h.1.2.1.1, h.1.2.1.2]
theorem q_isp (h : q_LR G P F W L A T) (p : Int32) : f_X13_isPerson (T 0) p = f_X11_isPerson (A 0) p := by
  unfold f_X13_isPerson f_X11_isPerson
  rw [h.1.2.2.1.1, h.1.2.2.1.2]
theorem q_isg' (h : q_LR G P F W L A T) {p : Int32} (e : f_X11_isGate (A 0) p = true) : ∃ i, i < G ∧ p = Int32.ofNat i := by
  have h1 := h.1.1
  unfold f_X11_isGate at e
  by_cases h2 : p < 0
  · rw [if_pos h2] at e; cases e
  · rw [if_neg h2, h.1.2.1.1] at e
    by_cases h3 : Int32.ofNat G ≤ p
    · rw [if_pos h3] at e; cases e
    · exact q_idx h2 h3 (by omega)
theorem q_isp' (h : q_LR G P F W L A T) {p : Int32} (e : f_X11_isPerson (A 0) p = true) : ∃ i, i < P ∧ p = Int32.ofNat i := by
  have h1 := h.1.1
  unfold f_X11_isPerson at e
  by_cases h2 : p < 0
  · rw [if_pos h2] at e; cases e
  · rw [if_neg h2, h.1.2.2.1.1] at e
    by_cases h3 : Int32.ofNat P ≤ p
    · rw [if_pos h3] at e; cases e
    · exact q_idx h2 h3 (by omega)
end QL
theorem q_le0 {p : Int32} (h : ¬ p < 0) : (0 : Int32) ≤ p := by
  rw [Int32.lt_iff_toInt_lt] at h
  rw [Int32.le_iff_toInt_le]
  omega
theorem q_hl0 {a : Nat} {d : JD} (h : q_NL a d) : f_X11_hasLand (d.1 a) = false := by
  unfold f_X11_hasLand
  rw [h.1 4 (by decide), if_pos (by decide)]
theorem q_isg0 {a : Nat} {d : JD} (h : q_NL a d) (p : Int32) : f_X11_isGate (d.1 a) p = false := by
  unfold f_X11_isGate
  rw [h.1 4 (by decide)]
  by_cases h2 : p < 0
  · rw [if_pos h2]
  · rw [if_neg h2, if_pos (q_le0 h2)]
theorem q_isp0 {a : Nat} {d : JD} (h : q_NL a d) (p : Int32) : f_X11_isPerson (d.1 a) p = false := by
  unfold f_X11_isPerson
  rw [h.1 2 (by decide)]
  by_cases h2 : p < 0
  · rw [if_pos h2]
  · rw [if_neg h2, if_pos (q_le0 h2)]
theorem q_xan (d : JD) (x : Int32) : f_X11_answered d x = (x, j_sI d 0 11 0) := rfl
theorem q_xre (d : JD) (x : Int32) : f_X11_refused d x = (-1, j_sI d 0 11 x) := rfl
theorem q_in05 {p : Int32} : f_X13_in p 0 5 = true ↔ (p = 0 ∨ p = 1 ∨ p = 2 ∨ p = 3 ∨ p = 4 ∨ p = 5) := by
  unfold f_X13_in
  constructor
  · intro h
    by_cases h1 : p < 0
    · rw [if_pos h1] at h; cases h
    · rw [if_neg h1] at h
      by_cases h2 : (5 : Int32) < p
      · rw [if_pos h2] at h; cases h
      · obtain ⟨i, hi, rfl⟩ := q_idx (n := 6) h1 (fun z => h2 (by
          rw [Int32.le_iff_toInt_le] at z
          rw [Int32.lt_iff_toInt_lt]
          have e1 : (5 : Int32).toInt = 5 := rfl
          have e2 : (Int32.ofNat 6).toInt = 6 := rfl
          omega)) (by decide)
        match i, hi with
        | 0, _ => exact Or.inl rfl
        | 1, _ => exact Or.inr (Or.inl rfl)
        | 2, _ => exact Or.inr (Or.inr (Or.inl rfl))
        | 3, _ => exact Or.inr (Or.inr (Or.inr (Or.inl rfl)))
        | 4, _ => exact Or.inr (Or.inr (Or.inr (Or.inr (Or.inl rfl))))
        | 5, _ => exact Or.inr (Or.inr (Or.inr (Or.inr (Or.inr rfl))))
        | n + 6, hi => exact absurd hi (by omega)
  · intro h
    rcases h with rfl | rfl | rfl | rfl | rfl | rfl <;> decide
theorem q_dMe (d : JD) (w : Int32) : j_sI (j_sI d 0 11 w) 57 0 0 = q_dM d w := rfl
section QS
variable {K : q_K}
theorem q_9 (hK : q_Kok K) : lw_st_9 (q_R K) := by
  intro h r hz
  obtain ⟨g, d⟩ := h
  have hr := r
  obtain ⟨a, b, hg, ht, -, -, hl⟩ := r
  rcases hl with ⟨hla, hn⟩ | ⟨t, h68, hla, hts, G, P, F, W, L, hL, hN, -⟩
  · have e1 : f_X11_ground a d = (-1, j_sI d 0 11 1) := by
      have k := q_hl0 hn
      unfold f_X11_ground j_let
      simp only [k, q_xre, Bool.false_eq_true, if_false]
    have e2 : f_X13_groundn (j_sI d 0 11 1) = (-1, q_fin (q_dM d 1) 1) := by
      unfold f_X13_groundn j_let
      simp only [q_dMe, q_ref]
    exact q_stI hr (q_jT (s_X11_ground g d a hg.2.1 hg.2.2.1 hg.2.2.2.2.1) e1) (q_jT (s_X13_groundn g _ hg.2.1 hla) e2) (hr.ans hK (q_ansd d (by decide)))
  · have e1 : f_X11_ground a d = (d.1 59 6, j_sI d 0 11 0) := by
      have k1 : f_X11_hasLand (d.1 a) = true := q_hl1 (A := q_rows d a) (T := q_rows d t) hL
      have k2 : f_X3_hooksLying (d.1 a) (d.1 22 0) = d.1 59 6 := q_lying (A := q_rows d a) (T := q_rows d t) hN hL.2.2.1.1 hL.2.2.1.2.1.1
      unfold f_X11_ground j_let
      simp only [k1, k2, q_xan, if_true]
    have e2 : f_X13_ground t (j_sI d 0 11 0) = (d.1 59 6, q_fin (q_dM d 0) 0) := by
      have k := q_sI_o (d := d) (a := 0) (k := 11) (v := 0) (b := 59) (by decide)
      unfold f_X13_ground j_let
      simp only [k, q_good, q_dMe]
    exact q_stI hr (q_jT (s_X11_ground g d a hg.2.1 hg.2.2.1 hg.2.2.2.2.1) e1) (q_jT (s_X13_ground g _ t hg.2.1 hts hla) e2) (hr.ans hK (q_ansd d (by decide)))
end QS
