/-! tier two: votes: rule, power -/
def q_vt (w : Nat → Nat) (m : Nat) : Nat → Nat
  | 0 => 0
  | n + 1 => if m.testBit n = true then q_vt w m n + w n else q_vt w m n
theorem q_vt_le {w : Nat → Nat} (hw : ∀ p, w p ≤ 594) (m : Nat) : ∀ n, q_vt w m n ≤ 594 * n
  | 0 => Nat.le_refl _
  | n + 1 => by
    have h1 := q_vt_le hw m n
    have h2 := hw n
    show (if m.testBit n = true then q_vt w m n + w n else q_vt w m n) ≤ _
    split <;> omega
theorem q_vt_mono {w : Nat → Nat} {m m' : Nat} (h : q_su m m') : ∀ n, q_vt w m n ≤ q_vt w m' n
  | 0 => Nat.le_refl _
  | n + 1 => by
    have h1 := q_vt_mono (w := w) h n
    show (if m.testBit n = true then q_vt w m n + w n else q_vt w m n) ≤ (if m'.testBit n = true then q_vt w m' n + w n else q_vt w m' n)
    by_cases c : m.testBit n = true
    · rw [if_pos c, if_pos (h n c)]; omega
    · rw [if_neg c]
      split <;> omega
theorem q_vt_congr {w : Nat → Nat} {m m' : Nat} : ∀ n, (∀ k, k < n → w k ≠ 0 → m.testBit k = m'.testBit k) → q_vt w m n = q_vt w m' n
  | 0, _ => rfl
  | n + 1, h => by
    have h1 := q_vt_congr n (fun k hk => h k (by omega))
    show (if m.testBit n = true then q_vt w m n + w n else q_vt w m n) = (if m'.testBit n = true then q_vt w m' n + w n else q_vt w m' n)
    rw [h1]
    by_cases z : w n = 0
    · rw [z, Nat.add_zero, ite_self, ite_self]
    · rw [h n (by omega) z]
theorem q_vt_or {w : Nat → Nat} {m p : Nat} (hp : ¬ m.testBit p = true) : ∀ n, q_vt w (m ||| 2 ^ p) n = q_vt w m n + if p < n then w p else 0
  | 0 => rfl
  | n + 1 => by
    show (if (m ||| 2 ^ p).testBit n = true then q_vt w (m ||| 2 ^ p) n + w n else q_vt w (m ||| 2 ^ p) n) = (if m.testBit n = true then q_vt w m n + w n else q_vt w m n) + _
    rw [q_vt_or hp n, Nat.testBit_or, Nat.testBit_two_pow]
    by_cases c : p = n
    · subst c
      rw [if_pos (by simp), if_neg hp, if_neg (by omega), if_pos (by omega)]
      omega
    · rw [decide_eq_false c, Bool.or_false]
      by_cases c2 : p < n
      · rw [if_pos c2, if_pos (show p < n + 1 by omega)]
        split <;> omega
      · rw [if_neg c2, if_neg (show ¬ p < n + 1 by omega)]
        split <;> omega
theorem q_vt0 (w : Nat → Nat) : ∀ n, q_vt w 0 n = 0
  | 0 => rfl
  | n + 1 => by
    show (if (0 : Nat).testBit n = true then q_vt w 0 n + w n else q_vt w 0 n) = 0
    rw [Nat.zero_testBit, if_neg (by decide), q_vt0 w n]
section QV
variable {G P F W L : Nat} {A T : Nat → Nat → Int32}
def q_w (A : Nat → Nat → Int32) (way : Int32) (p : Nat) : Nat := (f_X3_wealth (A 0) (A 7) (A 8) (Int32.ofNat p) way).toNatClampNeg
theorem q_wE (h : q_LR G P F W L A T) {x : Nat → Int32} (hx : q_dg x) (p : Nat) : f_X3_wealth (A 0) (A 7) (A 8) (Int32.ofNat p) (q_cod x) = Int32.ofNat (q_w A (q_cod x) p) ∧ q_w A (q_cod x) p ≤ 594 := by
  obtain ⟨k, hk, e⟩ := q_weN h hx (Int32.ofNat p)
  unfold q_w
  rw [e, q_n (by omega)]
  exact ⟨rfl, hk⟩
theorem q_votesM (h : q_LR G P F W L A T) {x : Nat → Int32} (hx : q_dg x) (s : Int32) : f_X13_votes x (T 0) (T 1) (T 2) (T 3) (T 4) (T 5) s = some (f_X3_wealthOfSet (A 0) (A 7) (A 8) s (q_cod x)) := by
  have hP := h.1.1.2.2.1
  unfold f_X13_votes f_X3_wealthOfSet j_let
  rw [h.1.2.2.1.1, q_loop (G := f_X3_wealthOfSet_b5 (A 0) (A 7) (A 8) s (q_cod x)) (n := P) (by omega)]
  · rfl
  · intro i hi S
    have k1 := h.1.2.2.1.2
    have k2 := q_go (n := P) (by omega) hi
    have k3 := q_hasM h hx (Int32.ofNat i)
    unfold f_X13_votes_w4 f_X13_votes_j33_4 f_X3_wealthOfSet_b5 f_X3_wealthOfSet_j33_5
    simp only [k1, k2, if_false, q_bit, q_s]
    by_cases c : f_X11_hasBit s (Int32.ofNat i) = true
    · simp only [c, if_true, k3, Option.bind_some]
    · simp only [c, if_false, Int32.add_zero, Bool.false_eq_true]
  · intro S
    have k1 := h.1.2.2.1.2
    have k2 := q_end (n := P) (by omega)
    unfold f_X13_votes_w4
    simp only [k1, k2, if_true]
theorem q_voN (h : q_LR G P F W L A T) {x : Nat → Int32} (hx : q_dg x) {m : Nat} (hm : m < 64) : f_X3_wealthOfSet (A 0) (A 7) (A 8) (Int32.ofNat m) (q_cod x) = Int32.ofNat (q_vt (q_w A (q_cod x)) m P) := by
  have hP := h.1.1.2.2.1
  unfold f_X3_wealthOfSet j_let
  dsimp only
  rw [h.1.2.2.1.1, q_for _ (by omega)]
  have : ∀ n, n ≤ 5 → q_it (fun i s => f_X3_wealthOfSet_b5 (A 0) (A 7) (A 8) (Int32.ofNat m) (q_cod x) (Int32.ofNat i) s) n 0 = Int32.ofNat (q_vt (q_w A (q_cod x)) m n) := by
    intro n
    induction n with
    | zero => exact fun _ => rfl
    | succ n ih =>
      intro hn
      show f_X3_wealthOfSet_b5 (A 0) (A 7) (A 8) (Int32.ofNat m) (q_cod x) (Int32.ofNat n) (q_it _ n 0) = Int32.ofNat (if m.testBit n = true then q_vt (q_w A (q_cod x)) m n + q_w A (q_cod x) n else q_vt (q_w A (q_cod x)) m n)
      rw [ih (by omega)]
      unfold f_X3_wealthOfSet_b5 f_X3_wealthOfSet_j33_5
      rw [q_hb hm (by omega)]
      by_cases c : m.testBit n = true
      · rw [if_pos c, if_pos c, (q_wE h hx n).1, Int32.ofNat_add]
      · rw [if_neg c, if_neg c]
  exact this P hP
theorem q_evM (h : q_LR G P F W L A T) : f_X13_everybody (T 0) = Int32.ofNat (2 ^ P - 1) := by
  have hP := h.1.1.2.2.1
  unfold f_X13_everybody
  rw [h.1.2.2.1.2]
  exact q_full (by omega)
theorem q_moreM (h : q_LR G P F W L A T) {x : Nat → Int32} (hx : q_dg x) {m : Nat} (hm : m < 64) : f_X13_isMore x (T 0) (T 1) (T 2) (T 3) (T 4) (T 5) (Int32.ofNat m) = some (decide (q_vt (q_w A (q_cod x)) (2 ^ P - 1) P < 2 * q_vt (q_w A (q_cod x)) m P)) := by
  have hP := h.1.1.2.2.1
  have h64 : 2 ^ P - 1 < 64 := by
    have := Nat.pow_le_pow_right (n := 2) (by decide) hP
    omega
  have b1 := q_vt_le (fun p => (q_wE h hx p).2) m P
  have b2 := q_vt_le (fun p => (q_wE h hx p).2) (2 ^ P - 1) P
  unfold f_X13_isMore
  rw [q_votesM h hx, q_evM h, q_votesM h hx, Option.bind_some, Option.bind_some, q_voN h hx hm, q_voN h hx h64, show (2 : Int32) = Int32.ofNat 2 from rfl, q_mul]
  by_cases c : q_vt (q_w A (q_cod x)) (2 ^ P - 1) P < 2 * q_vt (q_w A (q_cod x)) m P
  · rw [if_neg (by rw [q_le (by omega) (by omega)]; omega), decide_eq_true c]
  · rw [if_pos (by rw [q_le (by omega) (by omega)]; omega), decide_eq_false c]
end QV
theorem q_pwP {P : Nat} (hP : P ≤ 5) : 2 ^ P - 1 < 2 ^ P ∧ 2 ^ P ≤ 32 := by
  have := Nat.pow_le_pow_right (n := 2) (by decide) hP
  have := Nat.two_pow_pos P
  omega
theorem q_fullbit {P k : Nat} (hP : P ≤ 6) (hk : k < P) : (2 ^ P - 1).testBit k = true := q_fbit7 ⟨P, by omega⟩ ⟨k, by omega⟩ hk
theorem q_sufull {P m : Nat} (hP : P ≤ 6) (hm : m < 2 ^ P) : q_su m (2 ^ P - 1) := fun k hk => by
  by_cases c : k < P
  · exact q_fullbit hP c
  · have : m.testBit k = false := Nat.testBit_lt_two_pow (Nat.lt_of_lt_of_le hm (Nat.pow_le_pow_right (by decide) (by omega)))
    rw [this] at hk; cases hk
theorem qk_rule {G P F W L a t : Nat} {d : JD} (hL : q_LR G P F W L (q_rows d a) (q_rows d t)) (hN : q_NR G (q_rows d a) (q_rows d t) (d.1 22 0) (d.1 22 1) (d.1 22 2) (d.1 59)) (h68 : 68 ≤ t) : ∃ (x : Int32) (w : Int32) (d2 : JD), f_X11_rule a d = (x, j_sI d 0 11 w) ∧ f_X13_rule t (j_sI d 0 11 w) = some (x, d2) ∧ q_ans d d2 w := by
  have hP := hL.1.1.2.2.1
  have k1 : f_X11_hasLand (d.1 a) = true := q_hl1 (A := q_rows d a) (T := q_rows d t) hL
  have e2 : d.1 a 2 = Int32.ofNat P := hL.1.2.2.1.1
  obtain ⟨d3, w1, w2, w3, w4, w5, w6⟩ := q_wk d 0
  have kt : ∀ j, d3.1 (t + j) = d.1 (t + j) := fun j => w4 _ (by omega) (by omega) (by omega)
  have kt0 : d3.1 t = d.1 t := kt 0
  obtain ⟨hx, hc⟩ := q_way hN w6
  have fin : q_ans d (q_fin d3 0) 0 := q_fin_ans w2 w3 (by decide)
  have mo : ∀ m, m < 64 → f_X13_isMore (d3.1 60) (d.1 t) (d.1 (t + 1)) (d.1 (t + 2)) (d.1 (t + 3)) (d.1 (t + 4)) (d.1 (t + 5)) (Int32.ofNat m) = some (decide (q_vt (q_w (q_rows d a) (d.1 22 0)) (2 ^ P - 1) P < 2 * q_vt (q_w (q_rows d a) (d.1 22 0)) m P)) := fun m hm => by
    have := q_moreM (A := q_rows d a) (T := q_rows d t) hL hx hm
    rw [hc] at this
    exact this
  have vn : ∀ m, m < 64 → f_X3_wealthOfSet (d.1 a) (d.1 (a + 7)) (d.1 (a + 8)) (Int32.ofNat m) (d.1 22 0) = Int32.ofNat (q_vt (q_w (q_rows d a) (d.1 22 0)) m P) := fun m hm => by
    have := q_voN (A := q_rows d a) (T := q_rows d t) hL hx hm
    rw [hc] at this
    exact this
  have ev : f_X13_everybody (d.1 t) = Int32.ofNat (2 ^ P - 1) := q_evM (A := q_rows d a) (T := q_rows d t) hL
  have wle : ∀ p, q_w (q_rows d a) (d.1 22 0) p ≤ 594 := fun p => by
    have := (q_wE (A := q_rows d a) (T := q_rows d t) hL hx p).2
    rw [hc] at this
    exact this
  generalize q_w (q_rows d a) (d.1 22 0) = w at mo vn wle
  obtain ⟨f2, f3⟩ := q_pwP hP
  have full : (1 : Int32) <<< (Int32.ofNat P &&& 31) - 1 = Int32.ofNat (2 ^ P - 1) := q_full (by omega)
  have bV := fun m => q_vt_le wle m P
  have pcle : ∀ m, m < 2 ^ P → q_pc m ≤ q_pc (2 ^ P - 1) ∧ (q_pc m = q_pc (2 ^ P - 1) → m = 2 ^ P - 1) := fun m hm => by
    rw [q_pcfull (show P ≤ 6 by omega)]
    exact q_pcf (show P ≤ 6 by omega) hm
  have suf : ∀ m, m < 2 ^ P → q_vt w m P ≤ q_vt w (2 ^ P - 1) P := fun m hm => q_vt_mono (q_sufull (by omega) hm) P
  generalize hU : 2 ^ P - 1 = U at mo ev f2 full pcle suf
  have hU1 : U + 1 = 2 ^ P := by omega
  by_cases hz : q_vt w U P = 0
  · have l1 := q_run (F := f_X13_rule_w27 t d3) (fun i => ((-2 : Int32), Int32.ofNat i)) (e := -2) (U + 1) (by omega) (fun i hi => by
      have z1 : ¬ (Int32.ofNat U < Int32.ofNat i) := q_le_go (by omega) (by omega)
      have z2 : ¬ (q_vt w U P < 2 * q_vt w i P) := by have := suf i (by omega); omega
      unfold f_X13_rule_w27 f_X13_rule_j52_27 f_X13_rule_j62_27
      simp only [kt, kt0, ev, z1, if_false, if_true, mo i (by omega), Option.bind_some, decide_eq_false z2, Bool.false_eq_true, q_s]) (by
      unfold f_X13_rule_w27
      simp only [kt0, ev, q_le_end (show U < 2147483647 by omega), if_true])
    have l1' : j_wh (f_X13_rule_w27 t d3) j_fuel (-2, 0) = some (-2) := l1
    refine ⟨-2, 0, q_fin d3 0, ?_, ?_, fin⟩
    · have e9 : f_X3_fewestRulers (d.1 a) (d.1 (a + 7)) (d.1 (a + 8)) (d.1 22 0) = -2 := by
        unfold f_X3_fewestRulers j_let
        rw [e2, full]
        dsimp only
        rw [vn U (by omega), hz]
        exact if_pos rfl
      unfold f_X11_rule j_let
      simp only [k1, e9, q_xan, if_true]
    · unfold f_X13_rule j_let
      rw [q_dMe, w1, Option.bind_some, l1', Option.bind_some, q_good]
  · have hU0 : 1 ≤ U := by
      by_cases c : U = 0
      · rw [c, q_vt0] at hz; exact absurd rfl hz
      · omega
    obtain ⟨e, l1, l2⟩ := q_for1 (τ := fun i (s : Int32) (q : Int32 × Int32) => (s = Int32.ofNat U ∧ q = (-2, Int32.ofNat i)) ∨ ∃ m, m < 2 ^ P ∧ s = Int32.ofNat m ∧ q = (Int32.ofNat m, Int32.ofNat i)) (ρ' := fun (s e : Int32) => e = s) (n := U) hU0 (by omega) (G := f_X3_fewestRulers_b29 (d.1 a) (d.1 (a + 7)) (d.1 (a + 8)) (d.1 22 0) (Int32.ofNat U) (Int32.ofNat (q_vt w U P))) (F := f_X13_rule_w27 t d3) (t0 := (-2, Int32.ofNat 0)) (t1 := (-2, Int32.ofNat 1)) (s := Int32.ofNat U)
      (by
        have z1 : ¬ (Int32.ofNat U < Int32.ofNat 0) := q_le_go (by omega) (by omega)
        have z2 : ¬ (q_vt w U P < 2 * q_vt w 0 P) := by rw [q_vt0]; omega
        unfold f_X13_rule_w27 f_X13_rule_j52_27 f_X13_rule_j62_27
        simp only [kt, kt0, ev, z1, if_false, if_true, mo 0 (by omega), Option.bind_some, decide_eq_false z2, Bool.false_eq_true, q_s])
      (Or.inl ⟨rfl, rfl⟩)
      (fun i hi1 hi s q hq => by
        have z1 : ¬ (Int32.ofNat U < Int32.ofNat i) := q_le_go (by omega) (by omega)
        have mi := mo i (by omega)
        have vi := vn i (by omega)
        have b1 := bV i
        have b2 := bV U
        have zz : ((2 : Int32) * Int32.ofNat (q_vt w i P) ≤ Int32.ofNat (q_vt w U P)) ↔ ¬ (q_vt w U P < 2 * q_vt w i P) := by
          rw [show (2 : Int32) = Int32.ofNat 2 from rfl, q_mul, q_le (by omega) (by omega)]; omega
        rcases hq with ⟨rfl, rfl⟩ | ⟨m, hm, rfl, rfl⟩
        · have p1 := pcle i (by omega)
          have p2 : ¬ (Int32.ofNat (q_pc U) ≤ Int32.ofNat (q_pc i)) := by
            have u1 : q_pc i < 2147483648 := by unfold q_pc; omega
            have u2 : q_pc U < 2147483648 := by unfold q_pc; omega
            rw [q_le u2 u1]
            intro y
            have := p1.2 (by omega)
            omega
          by_cases c : q_vt w U P < 2 * q_vt w i P
          · refine ⟨(Int32.ofNat i, Int32.ofNat (i + 1)), ?_, Or.inr ⟨i, by omega, ?_, rfl⟩⟩
            · unfold f_X13_rule_w27 f_X13_rule_j52_27 f_X13_rule_j62_27
              simp only [kt, kt0, ev, z1, if_false, if_true, mi, Option.bind_some, decide_eq_true c, q_s]
            · unfold f_X3_fewestRulers_b29 f_X3_fewestRulers_j65_29
              rw [q_bcnt (by omega), q_bcnt (by omega), if_neg p2, vi, if_neg (fun y => zz.mp y c)]
          · refine ⟨(-2, Int32.ofNat (i + 1)), ?_, Or.inl ⟨?_, rfl⟩⟩
            · unfold f_X13_rule_w27 f_X13_rule_j52_27 f_X13_rule_j62_27
              simp only [kt, kt0, ev, z1, if_false, if_true, mi, Option.bind_some, decide_eq_false c, Bool.false_eq_true, q_s]
            · unfold f_X3_fewestRulers_b29 f_X3_fewestRulers_j65_29
              rw [q_bcnt (by omega), q_bcnt (by omega), if_neg p2, vi, if_pos (zz.mpr c)]
        · have n2 : ¬ (Int32.ofNat m = -2) := q_ne2 (by omega)
          have bi : f_X13_bits (Int32.ofNat i) = some (Int32.ofNat (q_pc i)) := q_bits (by omega)
          have bm : f_X13_bits (Int32.ofNat m) = some (Int32.ofNat (q_pc m)) := q_bits (by omega)
          have ci : f_J6_bitCount_0f7a4 (Int32.ofNat i) = Int32.ofNat (q_pc i) := q_bcnt (by omega)
          have cm : f_J6_bitCount_0f7a4 (Int32.ofNat m) = Int32.ofNat (q_pc m) := q_bcnt (by omega)
          unfold f_X13_rule_w27 f_X13_rule_j52_27 f_X13_rule_j62_27 f_X3_fewestRulers_b29 f_X3_fewestRulers_j65_29
          by_cases p2 : Int32.ofNat (q_pc m) ≤ Int32.ofNat (q_pc i)
          · refine ⟨(Int32.ofNat m, Int32.ofNat (i + 1)), ?_, Or.inr ⟨m, hm, ?_, rfl⟩⟩
            · simp only [kt, kt0, ev, z1, n2, bi, bm, p2, if_false, if_true, Option.bind_some, q_s]
            · simp only [ci, cm, p2, if_true]
          · by_cases c : q_vt w U P < 2 * q_vt w i P
            · refine ⟨(Int32.ofNat i, Int32.ofNat (i + 1)), ?_, Or.inr ⟨i, by omega, ?_, rfl⟩⟩
              · simp only [kt, kt0, ev, z1, n2, bi, bm, p2, if_false, if_true, mi, Option.bind_some, decide_eq_true c, q_s]
              · rw [ci, cm, if_neg p2, vi, if_neg (fun y => zz.mp y c)]
            · refine ⟨(Int32.ofNat m, Int32.ofNat (i + 1)), ?_, Or.inr ⟨m, hm, ?_, rfl⟩⟩
              · simp only [kt, kt0, ev, z1, n2, bi, bm, p2, if_false, mi, Option.bind_some, decide_eq_false c, Bool.false_eq_true, q_s]
              · rw [ci, cm, if_neg p2, vi, if_pos (zz.mpr c)])
      (fun s q hq => by
        have z1 : ¬ (Int32.ofNat U < Int32.ofNat U) := q_le_go (by omega) (by omega)
        have z1' : Int32.ofNat U < Int32.ofNat (U + 1) := q_le_end (by omega)
        rcases hq with ⟨rfl, rfl⟩ | ⟨m, hm, rfl, rfl⟩
        · have c : q_vt w U P < 2 * q_vt w U P := by omega
          refine ⟨(Int32.ofNat U, Int32.ofNat (U + 1)), Int32.ofNat U, ?_, ?_, rfl⟩
          · unfold f_X13_rule_w27 f_X13_rule_j52_27 f_X13_rule_j62_27
            simp only [kt, kt0, ev, z1, if_false, if_true, mo U (by omega), Option.bind_some, decide_eq_true c, q_s]
          · unfold f_X13_rule_w27
            simp only [kt0, ev, z1', if_true]
        · have n2 : ¬ (Int32.ofNat m = -2) := q_ne2 (by omega)
          have bi : f_X13_bits (Int32.ofNat U) = some (Int32.ofNat (q_pc U)) := q_bits (by omega)
          have bm : f_X13_bits (Int32.ofNat m) = some (Int32.ofNat (q_pc m)) := q_bits (by omega)
          have p2 : Int32.ofNat (q_pc m) ≤ Int32.ofNat (q_pc U) := by
            have u1 : q_pc m < 2147483648 := by unfold q_pc; omega
            have u2 : q_pc U < 2147483648 := by unfold q_pc; omega
            rw [q_le u1 u2]
            exact (pcle m hm).1
          refine ⟨(Int32.ofNat m, Int32.ofNat (U + 1)), Int32.ofNat m, ?_, ?_, rfl⟩
          · unfold f_X13_rule_w27 f_X13_rule_j62_27
            simp only [kt, kt0, ev, z1, n2, bi, bm, p2, if_false, if_true, Option.bind_some, q_s]
          · unfold f_X13_rule_w27
            simp only [kt0, ev, z1', if_true])
    have l1' : j_wh (f_X13_rule_w27 t d3) j_fuel (-2, 0) = some e := l1
    refine ⟨e, 0, q_fin d3 0, ?_, ?_, fin⟩
    · have e9 : f_X3_fewestRulers (d.1 a) (d.1 (a + 7)) (d.1 (a + 8)) (d.1 22 0) = e := by
        have nz : ¬ (Int32.ofNat (q_vt w U P) = 0) := fun y => hz ((q_eq (i := 0) (by have := bV U; omega) (by decide)).mp y)
        unfold f_X3_fewestRulers j_let
        rw [e2, full]
        dsimp only
        rw [vn U (by omega), if_neg nz]
        exact l2.symm
      unfold f_X11_rule j_let
      simp only [k1, e9, q_xan, if_true]
    · unfold f_X13_rule j_let
      rw [q_dMe, w1, Option.bind_some, l1', Option.bind_some, q_good]
theorem q_35 {K : q_K} (hK : q_Kok K) : lw_st_35 (q_R K) := by
  intro h r hz
  obtain ⟨g, d⟩ := h
  have hr := r
  obtain ⟨a, b, hg, ht, -, -, hl⟩ := r
  rcases hl with ⟨hla, hn⟩ | ⟨t, h68, hla, hts, G, P, F, W, L, hL, hN, -⟩
  · obtain ⟨x, w, d2, e1, e2, e3⟩ := qn_rule (a := a) (d := d) hn
    exact q_stI hr (q_jT (s_X11_rule g d a hg.2.1 hg.2.2.1 hg.2.2.2.2.1) e1) (q_jT (s_X13_rulen g _ hg.2.1 hla) e2) (hr.ans hK e3)
  · obtain ⟨x, w, d2, e1, e2, e3⟩ := qk_rule (a := a) (t := t) (d := d) hL hN h68
    exact q_stI hr (q_jT (s_X11_rule g d a hg.2.1 hg.2.2.1 hg.2.2.2.2.1) e1) (q_jP (s_X13_rule g _ t hg.2.1 hts hla) e2) (hr.ans hK e3)
