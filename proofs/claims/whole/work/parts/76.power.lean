/-! tier two: power -/
theorem q_clr32 : ∀ m : Fin 32, ∀ p : Fin 5, Int32.ofNat m.val &&& ((1 : Int32) <<< (Int32.ofNat p.val &&& 31) ^^^ (-1)) = Int32.ofNat (m.val &&& (31 - 2 ^ p.val)) := by decide +kernel
theorem q_clrb : ∀ m : Fin 32, ∀ p k : Fin 5, (m.val &&& (31 - 2 ^ p.val)).testBit k.val = (m.val.testBit k.val && !(decide (k.val = p.val))) := by decide +kernel
theorem q_sub32 : ∀ s o : Fin 32, (Int32.ofNat s.val &&& (Int32.ofNat o.val ^^^ (-1)) = 0) ↔ s.val ||| o.val = o.val := by decide +kernel
def q_sc (o : Nat) (c : Nat → Bool) : Nat → Nat
  | 0 => 0
  | n + 1 => if n ||| o = o ∧ c n = true then q_sc o c n + 1 else q_sc o c n
theorem q_sc_le (o : Nat) (c : Nat → Bool) : ∀ n, q_sc o c n ≤ n
  | 0 => Nat.le_refl _
  | n + 1 => by
    have := q_sc_le o c n
    show (if n ||| o = o ∧ c n = true then q_sc o c n + 1 else q_sc o c n) ≤ n + 1
    split <;> omega
theorem q_sc32 : ∀ o : Fin 32, q_sc o.val (fun _ => true) (o.val + 1) = 2 ^ q_pc o.val := by decide +kernel
theorem q_scF (o : Nat) {c : Nat → Bool} (h : ∀ n, c n = false) : ∀ n, q_sc o c n = 0
  | 0 => rfl
  | n + 1 => by
    show (if n ||| o = o ∧ c n = true then q_sc o c n + 1 else q_sc o c n) = 0
    rw [if_neg (fun z => by rw [h n] at z; exact absurd z.2 (by decide)), q_scF o h n]
theorem q_shl6 : ∀ k : Fin 6, (1 : Int64) <<< ((Int32.ofNat k.val).toInt64 &&& 63) = Int64.ofNat (2 ^ k.val) := by decide +kernel
section QPW
variable {G P F W L : Nat} {A T : Nat → Nat → Int32}
theorem q_vrM (h : q_LR G P F W L A T) {x : Nat → Int32} (hx : q_dg x) : f_X13_voters x (T 0) (T 1) (T 2) (T 3) (T 4) (T 5) = some (f_X3_peopleWithWealth (A 0) (A 7) (A 8) (q_cod x)) := by
  have hP := h.1.1.2.2.1
  unfold f_X13_voters f_X3_peopleWithWealth j_let
  rw [h.1.2.2.1.1, q_loop (G := f_X3_peopleWithWealth_b4 (A 0) (A 7) (A 8) (q_cod x)) (n := P) (by omega)]
  · rfl
  · intro i hi S
    have k1 := h.1.2.2.1.2
    have k2 := q_go (n := P) (by omega) hi
    have k3 := q_hasM h hx (Int32.ofNat i)
    unfold f_X13_voters_w4 f_X13_voters_j31_4 f_X3_peopleWithWealth_b4 f_X3_peopleWithWealth_j27_4
    simp only [k1, k2, if_false, k3, Option.bind_some, q_s]
    by_cases c : f_X3_wealth (A 0) (A 7) (A 8) (Int32.ofNat i) (q_cod x) ≤ 0
    · simp only [c, if_true, Int32.or_zero]
    · simp only [c, if_false]
  · intro S
    have k1 := h.1.2.2.1.2
    have k2 := q_end (n := P) (by omega)
    unfold f_X13_voters_w4
    simp only [k1, k2, if_true]
theorem q_vrN (h : q_LR G P F W L A T) {x : Nat → Int32} (hx : q_dg x) : ∃ m, m < 2 ^ P ∧ f_X3_peopleWithWealth (A 0) (A 7) (A 8) (q_cod x) = Int32.ofNat m ∧ ∀ k, k < P → (m.testBit k = true ↔ q_w A (q_cod x) k ≠ 0) := by
  have hP := h.1.1.2.2.1
  unfold f_X3_peopleWithWealth j_let
  dsimp only
  rw [h.1.2.2.1.1, q_for _ (by omega)]
  have : ∀ n, n ≤ P → ∃ m, m < 2 ^ n ∧ q_it (fun i s => f_X3_peopleWithWealth_b4 (A 0) (A 7) (A 8) (q_cod x) (Int32.ofNat i) s) n 0 = Int32.ofNat m ∧ ∀ k, k < n → (m.testBit k = true ↔ q_w A (q_cod x) k ≠ 0) := by
    intro n
    induction n with
    | zero => exact fun _ => ⟨0, by decide, rfl, fun k hk => absurd hk (by omega)⟩
    | succ n ih =>
      intro hn
      obtain ⟨m, h1, h2, h3⟩ := ih (by omega)
      obtain ⟨e, b⟩ := q_wE h hx n
      show ∃ m, m < 2 ^ (n + 1) ∧ f_X3_peopleWithWealth_b4 (A 0) (A 7) (A 8) (q_cod x) (Int32.ofNat n) (q_it _ n 0) = Int32.ofNat m ∧ _
      rw [h2]
      unfold f_X3_peopleWithWealth_b4 f_X3_peopleWithWealth_j27_4
      rw [e]
      have hmn : m < 2 ^ (n + 1) := by rw [Nat.pow_succ]; omega
      by_cases c : q_w A (q_cod x) n = 0
      · refine ⟨m, hmn, ?_, fun k hk => ?_⟩
        · rw [if_pos (by rw [c]; decide)]
        · by_cases z : k = n
          · rw [z, Nat.testBit_lt_two_pow h1, c]
            exact ⟨fun y => absurd y (by decide), fun y => absurd rfl y⟩
          · exact h3 k (by omega)
      · have nz : ¬ (Int32.ofNat (q_w A (q_cod x) n) ≤ 0) := q_go (n := q_w A (q_cod x) n) (i := 0) (by omega) (by omega)
        refine ⟨m ||| 2 ^ n, Nat.or_lt_two_pow hmn (q_2lt (by omega)), ?_, fun k hk => ?_⟩
        · rw [if_neg nz, q_one (by omega), q_or]
        · rw [Nat.testBit_or, Nat.testBit_two_pow]
          by_cases z : k = n
          · rw [z, decide_eq_true rfl, Bool.or_true]
            exact ⟨fun _ => c, fun _ => rfl⟩
          · rw [decide_eq_false (fun y => z y.symm), Bool.or_false]
            exact h3 k (by omega)
  exact this P (Nat.le_refl P)
end QPW
theorem qk_power {G P F W L a t : Nat} {d : JD} (hL : q_LR G P F W L (q_rows d a) (q_rows d t)) (hN : q_NR G (q_rows d a) (q_rows d t) (d.1 22 0) (d.1 22 1) (d.1 22 2) (d.1 59)) (h68 : 68 ≤ t) (pq0 pq1 : Int32) : ∃ (x : Int64) (w : Int32) (d1 d2 : JD), f_X11_power a d pq0 pq1 = some (x, j_sI d1 0 11 w) ∧ f_X13_power t (j_sI d1 0 11 w) pq0 pq1 = some (x, d2) ∧ q_ans d d2 w := by
  have hP := hL.1.1.2.2.1
  have ep' : ∀ p, f_X13_isPerson (d.1 t) p = f_X11_isPerson (d.1 a) p := fun p => q_isp (A := q_rows d a) (T := q_rows d t) hL p
  by_cases h1 : f_X11_isPerson (d.1 a) pq0 = true
  · obtain ⟨p, hp, epn⟩ := q_isp' (A := q_rows d a) (T := q_rows d t) hL h1
    have hx0 : q_dg (d.1 59) := hN.1.1
    have hc0 : q_cod (d.1 59) = d.1 22 0 := hN.2.1.symm
    obtain ⟨m, m1, m2, m3⟩ := q_vrN (A := q_rows d a) (T := q_rows d t) hL hx0
    rw [hc0] at m2 m3
    have m2' : f_X3_peopleWithWealth (d.1 a) (d.1 (a + 7)) (d.1 (a + 8)) (d.1 22 0) = Int32.ofNat m := m2
    have m32 := q_p5 hP m1
    have vn : ∀ m, m < 64 → f_X3_wealthOfSet (d.1 a) (d.1 (a + 7)) (d.1 (a + 8)) (Int32.ofNat m) (d.1 22 0) = Int32.ofNat (q_vt (q_w (q_rows d a) (d.1 22 0)) m P) := fun m hm => by
      have := q_voN (A := q_rows d a) (T := q_rows d t) hL hx0 hm
      rw [hc0] at this
      exact this
    have wle : ∀ p, q_w (q_rows d a) (d.1 22 0) p ≤ 594 := fun p => by
      have := (q_wE (A := q_rows d a) (T := q_rows d t) hL hx0 p).2
      rw [hc0] at this
      exact this
    have wE : f_X3_wealth (d.1 a) (d.1 (a + 7)) (d.1 (a + 8)) (Int32.ofNat p) (d.1 22 0) = Int32.ofNat (q_w (q_rows d a) (d.1 22 0) p) := by
      have := (q_wE (A := q_rows d a) (T := q_rows d t) hL hx0 p).1
      rw [hc0] at this
      exact this
    have wM : ∀ x, (∀ k, k < 6 → x k = d.1 59 k) → f_X13_has x (d.1 t) (d.1 (t + 1)) (d.1 (t + 2)) (d.1 (t + 3)) (d.1 (t + 4)) (d.1 (t + 5)) (Int32.ofNat p) = some (Int32.ofNat (q_w (q_rows d a) (d.1 22 0) p)) := fun x hx => by
      obtain ⟨y1, y2⟩ := q_way hN hx
      have := q_hasM (A := q_rows d a) (T := q_rows d t) hL y1 (Int32.ofNat p)
      rw [y2] at this
      exact this.trans (congrArg some wE)
    have vM : ∀ x, (∀ k, k < 6 → x k = d.1 59 k) → f_X13_voters x (d.1 t) (d.1 (t + 1)) (d.1 (t + 2)) (d.1 (t + 3)) (d.1 (t + 4)) (d.1 (t + 5)) = some (Int32.ofNat m) := fun x hx => by
      obtain ⟨y1, y2⟩ := q_way hN hx
      have := q_vrM (A := q_rows d a) (T := q_rows d t) hL y1
      rw [y2] at this
      exact this.trans (congrArg some m2)
    have mM : ∀ x, (∀ k, k < 6 → x k = d.1 59 k) → ∀ m, m < 64 → f_X13_isMore x (d.1 t) (d.1 (t + 1)) (d.1 (t + 2)) (d.1 (t + 3)) (d.1 (t + 4)) (d.1 (t + 5)) (Int32.ofNat m) = some (decide (q_vt (q_w (q_rows d a) (d.1 22 0)) (2 ^ P - 1) P < 2 * q_vt (q_w (q_rows d a) (d.1 22 0)) m P)) := fun x hx m hm => by
      obtain ⟨y1, y2⟩ := q_way hN hx
      have := q_moreM (A := q_rows d a) (T := q_rows d t) hL y1 hm
      rw [y2] at this
      exact this
    generalize q_w (q_rows d a) (d.1 22 0) = w at m3 vn wle wE wM mM
    obtain ⟨f2, f3⟩ := q_pwP hP
    have eo : Int32.ofNat m &&& ((1 : Int32) <<< (Int32.ofNat p &&& 31) ^^^ (-1)) = Int32.ofNat (m &&& (31 - 2 ^ p)) := q_clr32 ⟨m, m32⟩ ⟨p, by omega⟩
    have ob : ∀ k, k < 5 → (m &&& (31 - 2 ^ p)).testBit k = (m.testBit k && !(decide (k = p))) := fun k hk => q_clrb ⟨m, m32⟩ ⟨p, by omega⟩ ⟨k, hk⟩
    have o32 : m &&& (31 - 2 ^ p) < 32 := Nat.lt_of_le_of_lt Nat.and_le_left m32
    generalize m &&& (31 - 2 ^ p) = o at eo ob o32
    have op : ¬ o.testBit p = true := by
      rw [ob p (by omega), decide_eq_true rfl]
      simp
    -- all votes
    have all : w p + q_vt w o P = q_vt w (2 ^ P - 1) P := by
      have e1 := q_vt_or (w := w) op P
      rw [if_pos hp] at e1
      rw [Nat.add_comm, ← e1]
      refine q_vt_congr P (fun k hk hw => ?_)
      rw [q_fullbit (by omega) hk, Nat.testBit_or, Nat.testBit_two_pow]
      by_cases z : p = k
      · rw [decide_eq_true z, Bool.or_true]
      · rw [ob k (by omega), (m3 k hk).mpr hw, decide_eq_false (fun y => z y.symm)]
        rfl
    have bV := fun m => q_vt_le wle m P
    have b0 := wle p
    have sub : ∀ s, s < 32 → ((Int32.ofNat s &&& (Int32.ofNat o ^^^ (-1)) = 0) ↔ s ||| o = o) := fun s hs => q_sub32 ⟨s, hs⟩ ⟨o, o32⟩
    have sp : ∀ s, s ||| o = o → ¬ s.testBit p = true := fun s hs z => op (by
      rw [← hs, Nat.testBit_or, z]; rfl)
    -- the class's loop
    have lC := q_run (F := f_X5_setPower_w42 a (d.1 22 0) (Int32.ofNat (w p)) (Int32.ofNat o) (Int32.ofNat (w p + q_vt w o P)) d) (fun i => (Int32.ofNat (q_sc o (fun _ => true) i), Int32.ofNat (q_sc o (fun s => decide (2 * q_vt w s P ≤ q_vt w (2 ^ P - 1) P ∧ q_vt w (2 ^ P - 1) P < 2 * (q_vt w s P + w p))) i), Int32.ofNat i)) (e := (Int32.ofNat (q_sc o (fun _ => true) (o + 1)), Int32.ofNat (q_sc o (fun s => decide (2 * q_vt w s P ≤ q_vt w (2 ^ P - 1) P ∧ q_vt w (2 ^ P - 1) P < 2 * (q_vt w s P + w p))) (o + 1)))) (o + 1) (by omega) (fun i hi => by
      have z1 : ¬ (Int32.ofNat o < Int32.ofNat i) := q_le_go (by omega) (by omega)
      have b1 := bV i
      have b2 := bV (2 ^ P - 1)
      have b3 := bV o
      show f_X5_setPower_w42 a (d.1 22 0) (Int32.ofNat (w p)) (Int32.ofNat o) (Int32.ofNat (w p + q_vt w o P)) d _ = some (Sum.inl (Int32.ofNat (if i ||| o = o ∧ (fun _ => true) i = true then q_sc o (fun _ => true) i + 1 else q_sc o (fun _ => true) i), Int32.ofNat (if i ||| o = o ∧ decide (2 * q_vt w i P ≤ q_vt w (2 ^ P - 1) P ∧ q_vt w (2 ^ P - 1) P < 2 * (q_vt w i P + w p)) = true then q_sc o _ i + 1 else q_sc o _ i), Int32.ofNat (i + 1)))
      unfold f_X5_setPower_w42 f_X5_setPower_j95_42 j_let
      dsimp only
      rw [if_neg z1, q_s]
      by_cases c : i ||| o = o
      · rw [if_pos ((sub i (by omega)).mpr c), vn i (by omega), show (2 : Int32) = Int32.ofNat 2 from rfl, q_mul, ← Int32.ofNat_add, q_mul, if_pos (show i ||| o = o ∧ true = true from ⟨c, rfl⟩), q_s]
        by_cases c1 : w p + q_vt w o P < 2 * q_vt w i P
        · rw [if_pos ((q_lt (by omega) (by omega)).mpr c1), if_neg (fun y => by have := of_decide_eq_true y.2; omega)]
        · rw [if_neg (fun y => c1 ((q_lt (by omega) (by omega)).mp y))]
          by_cases c2 : 2 * (q_vt w i P + w p) ≤ w p + q_vt w o P
          · rw [if_pos ((q_le (by omega) (by omega)).mpr c2), if_neg (fun y => by have := of_decide_eq_true y.2; omega)]
          · rw [if_neg (fun y => c2 ((q_le (by omega) (by omega)).mp y)), if_pos ⟨c, decide_eq_true (by omega)⟩, q_s]
      · rw [if_neg (fun y => c ((sub i (by omega)).mp y)), if_neg (fun y => c y.1), if_neg (fun y => c y.1), q_s]) (by
      unfold f_X5_setPower_w42
      dsimp only
      rw [if_pos (q_le_end (by omega))])
    rw [q_sc32 ⟨o, o32⟩] at lC
    have pco : q_pc o ≤ 5 := (q_pcf (G := 5) (by decide) (show o < 2 ^ 5 from o32)).1
    have p2o : 1 ≤ 2 ^ q_pc o ∧ 2 ^ q_pc o ≤ 32 := ⟨Nat.two_pow_pos _, Nat.pow_le_pow_right (n := 2) (by decide) pco⟩
    generalize hD : q_sc o (fun s => decide (2 * q_vt w s P ≤ q_vt w (2 ^ P - 1) P ∧ q_vt w (2 ^ P - 1) P < 2 * (q_vt w s P + w p))) (o + 1) = D at lC
    have hDle : D ≤ 32 := by
      rw [← hD]
      have := q_sc_le o (fun s => decide (2 * q_vt w s P ≤ q_vt w (2 ^ P - 1) P ∧ q_vt w (2 ^ P - 1) P < 2 * (q_vt w s P + w p))) (o + 1)
      omega
    have lC' : j_wh (f_X5_setPower_w42 a (d.1 22 0) (Int32.ofNat (w p)) (Int32.ofNat o) (Int32.ofNat (w p + q_vt w o P)) d) j_fuel (0, 0, 0) = some (Int32.ofNat (2 ^ q_pc o), Int32.ofNat D) := lC
    obtain ⟨d1, s1, s2, s3, s4⟩ := q_setC d (u := D) (l := 2 ^ q_pc o) (by omega) (by omega) p2o.1
    have eC : f_X11_power a d pq0 pq1 = some (if pq1 = 0 then Int64.ofNat (D / Nat.gcd D (2 ^ q_pc o)) else Int64.ofNat (2 ^ q_pc o / Nat.gcd D (2 ^ q_pc o)), j_sI d1 0 11 0) := by
      unfold f_X11_power f_X5_setPower j_let
      rw [if_pos h1, epn, wE, m2', eo]
      dsimp only
      rw [vn o (by omega), ← Int32.ofNat_add, lC', Option.bind_some]
      dsimp only
      rw [q_to64 (by omega), q_to64 (by omega), s1, Option.bind_some, Option.bind_some, q_told2 s3 s4]
    -- the reference
    obtain ⟨d3, w1, w2, w3, w4, w5, w6⟩ := q_wk d1 0
    have kt : ∀ j, d3.1 (t + j) = d.1 (t + j) := fun j => by rw [w4 _ (by omega) (by omega) (by omega), s2]
    have kt0 : d3.1 t = d.1 t := kt 0
    have et0 : (q_dM d1 0).1 t = d.1 t := by rw [q_dM_o (by omega) (by omega), s2]
    have w6' : ∀ k, k < 6 → d3.1 60 k = d.1 59 k := fun k hk => by rw [w6 k hk, s2]
    refine ⟨_, 0, d1, q_fin d3 0, eC, ?_, q_ansX s2 (q_fin_ans w2 w3 (by decide))⟩
    unfold f_X13_power j_let
    rw [q_dMe, et0, ep', if_pos h1, w1, Option.bind_some, epn, kt0, kt, kt, kt, kt, kt, wM _ w6', Option.bind_some]
    by_cases z : w p = 0
    · rw [if_pos (by rw [z]; rfl), show (0 : Int64) = Int64.ofNat 0 from rfl, show (1 : Int64) = Int64.ofNat 1 from rfl, q_fracM d3 (u := 0) (l := 1) (by omega) (by omega) (by omega) pq1, Option.bind_some]
      have hD0 : D = 0 := by
        rw [← hD]
        refine q_scF o (fun n => decide_eq_false (fun y => ?_)) (o + 1)
        rw [z] at y
        omega
      have pr := q_pair (u := 0) (l := 1) (u' := D) (l' := 2 ^ q_pc o) (2 ^ q_pc o) p2o.1 (by omega) (by omega)
      rw [pr.1, pr.2]
      split <;> rfl
    · have nz : ¬ (Int32.ofNat (w p) = 0) := fun y => z ((q_eq (i := 0) (by omega) (by decide)).mp y)
      rw [if_neg nz, vM _ w6', Option.bind_some, eo]
      dsimp only
      have lM := q_run (F := f_X13_power_w57 t (Int32.ofNat p) pq1 (Int32.ofNat o) d3) (fun i => (Int32.ofNat (q_sc o (fun s => decide (2 * q_vt w s P ≤ q_vt w (2 ^ P - 1) P ∧ q_vt w (2 ^ P - 1) P < 2 * (q_vt w s P + w p))) i), Int32.ofNat i)) (e := Int32.ofNat (q_sc o (fun s => decide (2 * q_vt w s P ≤ q_vt w (2 ^ P - 1) P ∧ q_vt w (2 ^ P - 1) P < 2 * (q_vt w s P + w p))) (o + 1))) (o + 1) (by omega) (fun i hi => by
        have z1 : ¬ (Int32.ofNat o < Int32.ofNat i) := q_le_go (by omega) (by omega)
        show f_X13_power_w57 t (Int32.ofNat p) pq1 (Int32.ofNat o) d3 _ = some (Sum.inl (Int32.ofNat (if i ||| o = o ∧ decide (2 * q_vt w i P ≤ q_vt w (2 ^ P - 1) P ∧ q_vt w (2 ^ P - 1) P < 2 * (q_vt w i P + w p)) = true then q_sc o _ i + 1 else q_sc o _ i), Int32.ofNat (i + 1)))
        unfold f_X13_power_w57 f_X13_power_j97_57
        dsimp only
        rw [if_neg z1, q_s]
        by_cases c : i ||| o = o
        · have vor := q_vt_or (w := w) (sp i c) P
          rw [if_pos hp] at vor
          have i64 : i ||| 2 ^ p < 64 := by
            have := Nat.or_lt_two_pow (n := 5) (x := i) (y := 2 ^ p) (by omega) (q_2lt (by omega))
            omega
          rw [if_pos ((sub i (by omega)).mpr c), kt0, kt, kt, kt, kt, kt, mM _ w6' i (by omega), Option.bind_some, q_one (by omega), q_or, mM _ w6' (i ||| 2 ^ p) i64, Option.bind_some, vor]
          by_cases c1 : q_vt w (2 ^ P - 1) P < 2 * q_vt w i P
          · rw [if_pos (decide_eq_true c1), if_neg (fun y => by have := of_decide_eq_true y.2; omega)]
          · rw [if_neg (by rw [decide_eq_false c1]; decide)]
            by_cases c2 : q_vt w (2 ^ P - 1) P < 2 * (q_vt w i P + w p)
            · rw [if_pos (decide_eq_true c2), if_pos ⟨c, decide_eq_true ⟨by omega, c2⟩⟩, q_s]
            · rw [if_neg (by rw [decide_eq_false c2]; decide), if_neg (fun y => c2 (of_decide_eq_true y.2).2)]
        · rw [if_neg (fun y => c ((sub i (by omega)).mp y)), if_neg (fun y => c y.1)]) (by
        unfold f_X13_power_w57
        dsimp only
        rw [if_pos (q_le_end (by omega))])
      rw [hD] at lM
      have lM' : j_wh (f_X13_power_w57 t (Int32.ofNat p) pq1 (Int32.ofNat o) d3) j_fuel (0, 0) = some (Int32.ofNat D) := lM
      rw [lM', Option.bind_some, q_bits (by omega), Option.bind_some, q_to64 (by omega), q_shl6 ⟨q_pc o, by omega⟩, q_fracM d3 (u := D) (l := 2 ^ q_pc o) (by omega) (by omega) p2o.1 pq1, Option.bind_some]
      split <;> rfl
  · refine ⟨-1, 1, d, q_fin (q_dM d 1) 1, ?_, ?_, q_ansd d (by decide)⟩
    · unfold f_X11_power j_let
      rw [if_neg h1, q_xre]
      rfl
    · have et0 : (q_dM d 1).1 t = d.1 t := q_dM_o (by omega) (by omega)
      unfold f_X13_power j_let
      rw [q_dMe, et0, ep', if_neg h1, q_ref]
      rfl
theorem q_34 {K : q_K} (hK : q_Kok K) : lw_st_34 (q_R K) := by
  intro h p1 p2 r hz
  obtain ⟨g, d⟩ := h
  have hr := r
  obtain ⟨a, b, hg, ht, -, -, hl⟩ := r
  rcases hl with ⟨hla, hn⟩ | ⟨t, h68, hla, hts, G, P, F, W, L, hL, hN, -⟩
  · obtain ⟨x, w, d2, e1, e2, e3⟩ := qn_power (a := a) (d := d) hn p1 (if p2 = 0 then 0 else 1)
    exact q_stL hr (q_jPL (s_X11_power g d a p1 (if p2 = 0 then 0 else 1) hg.2.1 hg.2.2.1 hg.2.2.2.2.1) e1) (q_jTL (s_X13_powern g _ p1 (if p2 = 0 then 0 else 1) hg.2.1 hla) e2) (hr.ans hK e3)
  · obtain ⟨x, w, d1, d2, e1, e2, e3⟩ := qk_power (a := a) (t := t) (d := d) hL hN h68 p1 (if p2 = 0 then 0 else 1)
    exact q_stL hr (q_jPL (s_X11_power g d a p1 (if p2 = 0 then 0 else 1) hg.2.1 hg.2.2.1 hg.2.2.2.2.1) e1) (q_jPL (s_X13_power g _ t p1 (if p2 = 0 then 0 else 1) hg.2.1 hts hla) e2) (hr.ans hK e3)
