/-! tier two: years of gusts -/
theorem q_div {a b : Nat} (ha : a < 2147483648) (hb : b < 2147483648) : Int32.ofNat a / Int32.ofNat b = Int32.ofNat (a / b) := by
  apply Int32.toInt_inj.mp
  have h1 : a / b ≤ a := Nat.div_le_self a b
  have h2 : Int.tdiv (a : Int) (b : Int) = ((a / b : Nat) : Int) := rfl
  rw [Int32.toInt_div, q_i ha, q_i hb, h2]
  generalize a / b = q at h1 ⊢
  rw [q_i (by omega)]
  exact Int.bmod_eq_of_le (by omega) (by omega)
theorem q_mul (a b : Nat) : Int32.ofNat a * Int32.ofNat b = Int32.ofNat (a * b) := (Int32.ofNat_mul a b).symm
theorem q_sub {a b : Nat} (h : b ≤ a) : Int32.ofNat a - Int32.ofNat b = Int32.ofNat (a - b) := by
  have e : Int32.ofNat a = Int32.ofNat (a - b) + Int32.ofNat b := by rw [← Int32.ofNat_add]; congr 1; omega
  rw [e]
  exact Int32.add_sub_cancel _ _
theorem q_mod {a b : Nat} (ha : a < 2147483648) (hb : b < 2147483648) : Int32.ofNat a - Int32.ofNat a / Int32.ofNat b * Int32.ofNat b = Int32.ofNat (a % b) := by
  have h1 : a / b * b ≤ a := Nat.div_mul_le_self a b
  rw [q_div ha hb, q_mul, q_sub h1]
  congr 1
  have := Nat.mod_add_div a b
  rw [Nat.mul_comm b] at this
  omega
theorem q_draw {s : Nat} (hs : s < 65537) : (75 : Int32) * Int32.ofNat s + 74 - ((75 : Int32) * Int32.ofNat s + 74) / 65537 * 65537 = Int32.ofNat ((75 * s + 74) % 65537) := by
  have e : (75 : Int32) * Int32.ofNat s + 74 = Int32.ofNat (75 * s + 74) := by rw [Int32.ofNat_add, Int32.ofNat_mul]; rfl
  rw [e]
  exact q_mod (b := 65537) (by omega) (by decide)
theorem q_i64 {a : Nat} (ha : a < 9223372036854775808) : (Int64.ofNat a).toInt = a := Int64.toInt_ofNat_of_lt ha
theorem q_div64 {a b : Nat} (ha : a < 9223372036854775808) (hb : b < 9223372036854775808) : Int64.ofNat a / Int64.ofNat b = Int64.ofNat (a / b) := by
  apply Int64.toInt_inj.mp
  have h1 : a / b ≤ a := Nat.div_le_self a b
  have h2 : Int.tdiv (a : Int) (b : Int) = ((a / b : Nat) : Int) := rfl
  rw [Int64.toInt_div, q_i64 ha, q_i64 hb, h2]
  generalize a / b = q at h1 ⊢
  rw [q_i64 (by omega)]
  exact Int.bmod_eq_of_le (by omega) (by omega)
theorem q_mod64 {a b : Nat} (ha : a < 9223372036854775808) (hb : b < 9223372036854775808) : Int64.ofNat a - Int64.ofNat a / Int64.ofNat b * Int64.ofNat b = Int64.ofNat (a % b) := by
  have h1 : a / b * b ≤ a := Nat.div_mul_le_self a b
  rw [q_div64 ha hb, ← Int64.ofNat_mul]
  have e : Int64.ofNat a = Int64.ofNat (a % b) + Int64.ofNat (a / b * b) := by
    rw [← Int64.ofNat_add]
    congr 1
    have := Nat.mod_add_div a b
    rw [Nat.mul_comm b] at this
    omega
  rw [e]
  exact Int64.add_sub_cancel _ _
theorem q_to64 {s : Nat} (hs : s < 2147483648) : (Int32.ofNat s).toInt64 = Int64.ofNat s := by
  apply Int64.toInt_inj.mp
  rw [Int32.toInt_toInt64, q_i hs, q_i64 (by omega)]
theorem q_to32 {s : Nat} (hs : s < 2147483648) : (Int64.ofNat s).toInt32 = Int32.ofNat s := by
  apply Int32.toInt_inj.mp
  rw [Int64.toInt_toInt32, q_i64 (by omega), q_i hs]
  exact Int.bmod_eq_of_le (by omega) (by omega)
theorem q_draw64 {s : Nat} (hs : s < 65537) : ((75 : Int64) * (Int32.ofNat s).toInt64 + 74 - ((75 : Int64) * (Int32.ofNat s).toInt64 + 74) / 65537 * 65537).toInt32 = Int32.ofNat ((75 * s + 74) % 65537) := by
  have e : (75 : Int64) * (Int32.ofNat s).toInt64 + 74 = Int64.ofNat (75 * s + 74) := by rw [q_to64 (by omega), Int64.ofNat_add, Int64.ofNat_mul]; rfl
  have h := q_mod64 (a := 75 * s + 74) (b := 65537) (by omega) (by decide)
  have hm : (75 * s + 74) % 65537 < 65537 := Nat.mod_lt _ (by decide)
  rw [e, show (65537 : Int64) = Int64.ofNat 65537 from rfl, h, q_to32 (by omega)]
theorem q_rem100 {s : Nat} (hs : s < 65537) : Int32.ofNat s - Int32.ofNat s / 100 * 100 = Int32.ofNat (s % 100) := q_mod (b := 100) (by omega) (by decide)
def q_yr1 (K3 fl : Nat → Int32) (g : Nat) (q : Int32 × (Nat → Int32) × Nat) : Int32 × (Nat → Int32) × Nat := if K3 g = 2 then q else if q.2.1 g = 0 then q else if fl g ≤ Int32.ofNat ((75 * q.2.2 + 74) % 65537 % 100) then (q.1, q.2.1, (75 * q.2.2 + 74) % 65537) else (q.1 + 1, upd q.2.1 g 0, (75 * q.2.2 + 74) % 65537)
def q_yr (K3 fl : Nat → Int32) (n : Nat) (x : Nat → Int32) (s : Nat) : Int32 × (Nat → Int32) × Nat := q_it (q_yr1 K3 fl) n (0, x, s)
theorem q_yr_s (K3 fl : Nat → Int32) (n : Nat) (x : Nat → Int32) (s : Nat) : q_yr K3 fl (n + 1) x s = q_yr1 K3 fl n (q_yr K3 fl n x s) := rfl
theorem q_yr_ok {K3 fl : Nat → Int32} {x : Nat → Int32} {s : Nat} (hx : q_dg x) (hs : s < 65537) : ∀ n, q_dg (q_yr K3 fl n x s).2.1 ∧ (q_yr K3 fl n x s).2.2 < 65537
  | 0 => ⟨hx, hs⟩
  | n + 1 => by
    have h := q_yr_ok (K3 := K3) (fl := fl) hx hs n
    rw [q_yr_s]
    unfold q_yr1
    generalize q_yr K3 fl n x s = q at h ⊢
    have hm : (75 * q.2.2 + 74) % 65537 < 65537 := Nat.mod_lt _ (by decide)
    by_cases c1 : K3 n = 2
    · rw [if_pos c1]; exact h
    · by_cases c2 : q.2.1 n = 0
      · rw [if_neg c1, if_pos c2]; exact h
      · by_cases c3 : fl n ≤ Int32.ofNat ((75 * q.2.2 + 74) % 65537 % 100)
        · rw [if_neg c1, if_neg c2, if_pos c3]; exact ⟨h.1, hm⟩
        · rw [if_neg c1, if_neg c2, if_neg c3]
          refine ⟨fun j hj => ?_, hm⟩
          show upd q.2.1 n 0 j = 0 ∨ upd q.2.1 n 0 j = 1 ∨ upd q.2.1 n 0 j = 2
          by_cases c : j = n
          · rw [c, q_upd_a]; exact Or.inl rfl
          · rw [q_upd_o c]; exact h.1 j hj
def q_mr (r x : Nat → Int32) (s : Nat) (k : Nat) : Int32 := if k = 0 then q_cod x else if k = 1 then Int32.ofNat s else r k
theorem q_mr_1 (r x : Nat → Int32) (s s' : Nat) : upd (q_mr r x s) 1 (Int32.ofNat s') = q_mr r x s' := by
  funext k
  unfold upd q_mr
  by_cases c : k = 1
  · rw [if_pos c, if_neg (by omega), if_pos c]
  · rw [if_neg c, if_neg c]
    by_cases c0 : k = 0
    · rw [if_pos c0, if_pos c0]
    · rw [if_neg c0, if_neg c0, if_neg c]
theorem q_mr_0 (r x x' : Nat → Int32) (s : Nat) : upd (q_mr r x s) 0 (q_cod x') = q_mr r x' s := by
  funext k
  unfold upd q_mr
  by_cases c : k = 0
  · rw [if_pos c, if_pos c]
  · rw [if_neg c, if_neg c, if_neg c]
theorem q_mr_self {r x : Nat → Int32} {s : Nat} (h0 : r 0 = q_cod x) (h1 : r 1 = Int32.ofNat s) : q_mr r x s = r := by
  funext k
  unfold q_mr
  by_cases c : k = 0
  · rw [if_pos c, c]; exact h0.symm
  · by_cases c1 : k = 1
    · rw [if_neg c, if_pos c1, c1]; exact h1.symm
    · rw [if_neg c, if_neg c1]
def q_fl (A : Nat → Nat → Int32) (g : Nat) : Int32 := if A 3 g = 3 then (if (2 : Int32) * (A 0 1) < 100 then (2 : Int32) * (A 0 1) else 100) else A 0 1
section QY
variable {G P F W L : Nat} {A T : Nat → Nat → Int32}
theorem q_fallC (h : q_LR G P F W L A T) {x : Nat → Int32} (hx : q_dg x) {g : Nat} (hg : g < G) (h2 : ¬ T 3 g = 2) (h0 : ¬ x g = 0) : f_X3_fallingIn (A 0) (A 3) (q_cod x) (Int32.ofNat g) = q_fl A g := by
  have hG := h.1.1.2.1
  have g3 : f_X3_isGuarded (A 0) (Int32.ofNat g) = false := by
    cases z : f_X3_isGuarded (A 0) (Int32.ofNat g) with
    | false => rfl
    | true => exact absurd ((q_grd h hg).mp z) h2
  have k1 : f_X10_hungAt (q_cod x) (Int32.ofNat g) = x g := q_hung hx (by omega)
  have k2 : f_X11_at (A 3) 6 (Int32.ofNat g) = A 3 g := q_at (by omega) (by decide)
  unfold f_X3_fallingIn q_fl
  simp only [g3, k1, h0, k2, if_false, Bool.false_eq_true]
theorem q_fallM (h : q_LR G P F W L A T) {g : Nat} (hg : g < G) (h2 : ¬ T 3 g = 2) : f_X13_falls (T 0) (T 3) (Int32.ofNat g) = some (q_fl A g) := by
  have hG := h.1.1.2.1
  obtain ⟨U, hU, eU⟩ := h.1.2.2.2.2.2.2.2.2
  have k1 : ¬ j_out (Int32.ofNat g) 6 := q_in (by omega) (by decide)
  have k2 : (Int32.ofNat g).toNatClampNeg = g := q_n (by omega)
  have k3 : T 3 g = A 3 g := (h.2.1.2.1 g hg).1
  have k4 : T 0 1 = A 0 1 := h.1.2.2.2.2.2.2.1.2.1
  rw [k3] at h2
  have e2 : (2 : Int32) * Int32.ofNat U = Int32.ofNat (2 * U) := by rw [Int32.ofNat_mul]; rfl
  unfold f_X13_falls f_X13_falls_j47 q_fl
  simp only [k1, k2, k3, k4, h2, if_false]
  rw [eU]
  by_cases c : A 3 g = 3
  · simp only [c, if_true, e2]
    by_cases c2 : 2 * U < 100
    · have z1 : Int32.ofNat (2 * U) < 100 := (q_lt (i := 100) (by omega) (by decide)).mpr c2
      have z2 : Int32.ofNat (2 * U) ≤ 100 := (q_le (i := 100) (by omega) (by decide)).mpr (by omega)
      rw [if_pos z1, if_pos z2]
    · have z1 : ¬ Int32.ofNat (2 * U) < 100 := fun z => c2 ((q_lt (i := 100) (by omega) (by decide)).mp z)
      rw [if_neg z1]
      by_cases c3 : 2 * U = 100
      · rw [c3, if_pos (by decide)]; rfl
      · have z2 : ¬ Int32.ofNat (2 * U) ≤ 100 := fun z => by
          have := (q_le (i := 100) (by omega) (by decide)).mp z
          omega
        rw [if_neg z2]
  · have z2 : Int32.ofNat U ≤ 100 := (q_le (i := 100) (by omega) (by decide)).mpr (by omega)
    simp only [c, if_false, z2, if_true]
end QY
theorem q_blow {G P F W L a t m : Nat} {d : JD} (hL : q_LR G P F W L (q_rows d a) (q_rows d t)) (ha : a = 42 ∨ a = 4) (hm : m = 22 ∨ m = 23) {x : Nat → Int32} (hx : q_dg x) {s : Nat} (hs : s < 65537) (h0 : d.1 m 0 = q_cod x) (h1 : d.1 m 1 = Int32.ofNat s) : f_X4_blow a m d = some ((q_yr (d.1 (t + 3)) (q_fl (q_rows d a)) G x s).1, q_row d m (upd (q_mr (d.1 m) (q_yr (d.1 (t + 3)) (q_fl (q_rows d a)) G x s).2.1 (q_yr (d.1 (t + 3)) (q_fl (q_rows d a)) G x s).2.2) 2 (d.1 m 2 + 1))) := by
  have hG := hL.1.1.2.1
  obtain ⟨Y, hY⟩ : ∃ Y, Y = fun i => q_yr (d.1 (t + 3)) (q_fl (q_rows d a)) i x s := ⟨_, rfl⟩
  have yok : ∀ i, q_dg (Y i).2.1 ∧ (Y i).2.2 < 65537 := fun i => by rw [hY]; exact q_yr_ok hx hs i
  have ys : ∀ i, Y (i + 1) = q_yr1 (d.1 (t + 3)) (q_fl (q_rows d a)) i (Y i) := fun i => by rw [hY]; rfl
  have ra : ∀ r, (q_row d m r).1 a = d.1 a := fun r => q_row_o (by omega)
  have ra3 : ∀ r, (q_row d m r).1 (a + 3) = d.1 (a + 3) := fun r => q_row_o (by omega)
  have e4 : d.1 a 4 = Int32.ofNat G := hL.1.2.1.1
  have r := q_run (F := f_X4_blow_w4 a m) (fun i => ((Y i).1, Int32.ofNat i, q_row d m (q_mr (d.1 m) (Y i).2.1 (Y i).2.2))) G (by omega) (e := ((Y G).1, q_row d m (q_mr (d.1 m) (Y G).2.1 (Y G).2.2)))
    (fun i hi => by
      have k1 := q_go (n := G) (by omega) hi
      have kg : f_X3_isGuarded (d.1 a) (Int32.ofNat i) = true ↔ d.1 (t + 3) i = 2 := q_grd (A := q_rows d a) (T := q_rows d t) hL hi
      have m0 : (q_row d m (q_mr (d.1 m) (Y i).2.1 (Y i).2.2)).1 m 0 = q_cod (Y i).2.1 := by rw [q_row_a]; rfl
      have m1 : (q_row d m (q_mr (d.1 m) (Y i).2.1 (Y i).2.2)).1 m 1 = Int32.ofNat (Y i).2.2 := by rw [q_row_a]; rfl
      have kh : f_X10_hungAt (q_cod (Y i).2.1) (Int32.ofNat i) = (Y i).2.1 i := q_hung (yok i).1 (by omega)
      have kd := q_draw (yok i).2
      have hmm : (75 * (Y i).2.2 + 74) % 65537 < 65537 := Nat.mod_lt _ (by decide)
      have kr := q_rem100 hmm
      have kw := q_with (yok i).1 (g := i) (by omega) (h := 0) (Or.inl rfl)
      have ky := ys i
      unfold q_yr1 at ky
      unfold f_X4_blow_w4 f_X4_blow_j83_4
      by_cases c1 : d.1 (t + 3) i = 2
      · rw [if_pos c1] at ky
        simp only [ra, e4, k1, kg.mpr c1, if_true, if_false, q_s, ky]
      · have g3 : f_X3_isGuarded (d.1 a) (Int32.ofNat i) = false := by
          cases z : f_X3_isGuarded (d.1 a) (Int32.ofNat i) with
          | false => rfl
          | true => exact absurd (kg.mp z) c1
        rw [if_neg c1] at ky
        by_cases c2 : (Y i).2.1 i = 0
        · rw [if_pos c2] at ky
          simp only [ra, e4, k1, g3, m0, kh, c2, if_true, if_false, q_s, ky, Bool.false_eq_true]
        · rw [if_neg c2] at ky
          have kf : f_X3_fallingIn (d.1 a) (d.1 (a + 3)) (q_cod (Y i).2.1) (Int32.ofNat i) = q_fl (q_rows d a) i := q_fallC (A := q_rows d a) (T := q_rows d t) hL (yok i).1 hi c1 c2
          by_cases c3 : q_fl (q_rows d a) i ≤ Int32.ofNat ((75 * (Y i).2.2 + 74) % 65537 % 100)
          · rw [if_pos c3] at ky
            simp only [ra, ra3, e4, k1, g3, m0, m1, kh, c2, kd, kr, if_false, q_s, q_sI_row, q_row_a, q_row_row, q_mr_1, kf, c3, if_true, ky, Bool.false_eq_true]
          · rw [if_neg c3] at ky
            simp only [ra, ra3, e4, k1, g3, m0, m1, kh, c2, kd, kr, kw, if_false, q_s, q_sI_row, q_row_a, q_row_row, q_mr_1, q_mr_0, kf, c3, ky, Bool.false_eq_true])
    (by
      have k1 := q_end (n := G) (by omega)
      unfold f_X4_blow_w4
      simp only [ra, e4, k1, if_true])
  have y0 : Y 0 = (0, x, s) := by rw [hY]; rfl
  have e0 : ((Y 0).1, Int32.ofNat 0, q_row d m (q_mr (d.1 m) (Y 0).2.1 (Y 0).2.2)) = (0, 0, d) := by
    rw [y0]
    dsimp only
    rw [q_mr_self h0 h1, q_row_self]
    rfl
  rw [e0] at r
  have m2 : (q_row d m (q_mr (d.1 m) (Y G).2.1 (Y G).2.2)).1 m 2 = d.1 m 2 := by rw [q_row_a]; rfl
  unfold f_X4_blow
  rw [r]
  simp only [Option.bind_some, m2, q_sI_row, q_row_a, q_row_row]
  rw [hY]
def q_m2 (d : JD) (x : Nat → Int32) (s : Int32) : JD := q_row (j_sI d 57 29 s) 60 x
theorem q_m2_29 (d : JD) (x : Nat → Int32) (s s' : Int32) : j_sI (q_m2 d x s) 57 29 s' = q_m2 d x s' := by
  apply Prod.ext
  · funext b
    show (if b = 57 then upd (if b = 60 then x else (if b = 57 then upd (d.1 b) 29 s else d.1 b)) 29 s' else (if b = 60 then x else (if b = 57 then upd (d.1 b) 29 s else d.1 b))) = (if b = 60 then x else (if b = 57 then upd (d.1 b) 29 s' else d.1 b))
    by_cases h : b = 57
    · subst h
      show upd (upd (d.1 57) 29 s) 29 s' = upd (d.1 57) 29 s'
      funext k
      unfold upd
      by_cases c : k = 29
      · rw [if_pos c, if_pos c]
      · rw [if_neg c, if_neg c, if_neg c]
    · rw [if_neg h, if_neg h, if_neg h]
  · rfl
theorem q_m2_60 (d : JD) (x : Nat → Int32) (s : Int32) (k : Nat) (v : Int32) : j_sI (q_m2 d x s) 60 k v = q_m2 d (upd x k v) s := by
  unfold q_m2
  rw [q_sI_row (q_row (j_sI d 57 29 s) 60 x) 60 k v, q_row_a, q_row_row]
theorem q_m2_o {d : JD} {x : Nat → Int32} {s : Int32} {b : Nat} (h1 : b ≠ 57) (h2 : b ≠ 60) : (q_m2 d x s).1 b = d.1 b := by
  unfold q_m2
  rw [q_row_o h2, q_sI_o h1]
theorem q_m2_x (d : JD) (x : Nat → Int32) (s : Int32) : (q_m2 d x s).1 60 = x := q_row_a _ _ _
theorem q_m2_s (d : JD) (x : Nat → Int32) (s : Int32) : (q_m2 d x s).1 57 29 = s := by
  unfold q_m2
  rw [q_row_o (by decide), q_sI_a]
  rfl
theorem q_m2_k {d : JD} {x : Nat → Int32} {s : Int32} {k : Nat} (h : k ≠ 29) : (q_m2 d x s).1 57 k = d.1 57 k := by
  unfold q_m2
  rw [q_row_o (by decide), q_sI_a, q_upd_o h]
theorem q_m2_self {d : JD} {x : Nat → Int32} {s : Int32} (h1 : d.1 60 = x) (h2 : d.1 57 29 = s) : q_m2 d x s = d := by
  unfold q_m2
  have e : j_sI d 57 29 s = d := by
    rw [q_sI_row]
    have : upd (d.1 57) 29 s = d.1 57 := by
      funext k
      unfold upd
      by_cases c : k = 29
      · rw [if_pos c, c]; exact h2.symm
      · rw [if_neg c]
    rw [this, q_row_self]
  rw [e, ← h1, q_row_self]
theorem q_year {G P F W L a t : Nat} {d : JD} (h68 : 68 ≤ t) (hL : q_LR G P F W L (q_rows d a) (q_rows d t)) {x : Nat → Int32} (hx : q_dg x) {s : Nat} (hs : s < 65537) (h0 : d.1 60 = x) (h1 : d.1 57 29 = Int32.ofNat s) : f_X13_aYear t d = some ((q_yr (d.1 (t + 3)) (q_fl (q_rows d a)) G x s).1, q_m2 d (q_yr (d.1 (t + 3)) (q_fl (q_rows d a)) G x s).2.1 (Int32.ofNat (q_yr (d.1 (t + 3)) (q_fl (q_rows d a)) G x s).2.2)) := by
  have hG := hL.1.1.2.1
  obtain ⟨Y, hY⟩ : ∃ Y, Y = fun i => q_yr (d.1 (t + 3)) (q_fl (q_rows d a)) i x s := ⟨_, rfl⟩
  have yok : ∀ i, q_dg (Y i).2.1 ∧ (Y i).2.2 < 65537 := fun i => by rw [hY]; exact q_yr_ok hx hs i
  have ys : ∀ i, Y (i + 1) = q_yr1 (d.1 (t + 3)) (q_fl (q_rows d a)) i (Y i) := fun i => by rw [hY]; rfl
  have rt : ∀ x s, (q_m2 d x s).1 t = d.1 t := fun x s => q_m2_o (by omega) (by omega)
  have rt3 : ∀ x s, (q_m2 d x s).1 (t + 3) = d.1 (t + 3) := fun x s => q_m2_o (by omega) (by omega)
  have e4 : d.1 t 4 = Int32.ofNat G := hL.1.2.1.2
  have r := q_run (F := f_X13_aYear_w4 t) (fun i => ((Y i).1, Int32.ofNat i, q_m2 d (Y i).2.1 (Int32.ofNat (Y i).2.2))) G (by omega) (e := ((Y G).1, q_m2 d (Y G).2.1 (Int32.ofNat (Y G).2.2)))
    (fun i hi => by
      have k1 := q_go (n := G) (by omega) hi
      have k2 : ¬ j_out (Int32.ofNat i) 6 := q_in (by omega) (by decide)
      have k3 : (Int32.ofNat i).toNatClampNeg = i := q_n (by omega)
      have kd := q_draw64 (yok i).2
      have hmm : (75 * (Y i).2.2 + 74) % 65537 < 65537 := Nat.mod_lt _ (by decide)
      have kr := q_rem100 hmm
      have ky := ys i
      unfold q_yr1 at ky
      unfold f_X13_aYear_w4 f_X13_aYear_j90_4
      by_cases c1 : d.1 (t + 3) i = 2
      · rw [if_pos c1] at ky
        simp only [rt, rt3, e4, k1, k2, k3, c1, if_true, if_false, q_s, ky]
      · rw [if_neg c1] at ky
        by_cases c2 : (Y i).2.1 i = 0
        · rw [if_pos c2] at ky
          simp only [rt, rt3, e4, k1, k2, k3, c1, q_m2_x, c2, if_true, if_false, q_s, ky]
        · rw [if_neg c2] at ky
          have kf : f_X13_falls (d.1 t) (d.1 (t + 3)) (Int32.ofNat i) = some (q_fl (q_rows d a) i) := q_fallM (A := q_rows d a) (T := q_rows d t) hL hi c1
          by_cases c3 : q_fl (q_rows d a) i ≤ Int32.ofNat ((75 * (Y i).2.2 + 74) % 65537 % 100)
          · rw [if_pos c3] at ky
            have c3' : ¬ (Int32.ofNat ((75 * (Y i).2.2 + 74) % 65537 % 100) < q_fl (q_rows d a) i) := by
              rw [Int32.le_iff_toInt_le] at c3
              rw [Int32.lt_iff_toInt_lt]
              omega
            simp only [rt, rt3, e4, k1, k2, k3, c1, q_m2_x, q_m2_s, c2, kd, kr, q_m2_29, kf, Option.bind_some, c3', if_false, q_s, ky]
          · rw [if_neg c3] at ky
            have c3' : Int32.ofNat ((75 * (Y i).2.2 + 74) % 65537 % 100) < q_fl (q_rows d a) i := by
              rw [Int32.le_iff_toInt_le] at c3
              rw [Int32.lt_iff_toInt_lt]
              omega
            simp only [rt, rt3, e4, k1, k2, k3, c1, q_m2_x, q_m2_s, c2, kd, kr, q_m2_29, q_m2_60, kf, Option.bind_some, c3', if_true, if_false, q_s, ky])
    (by
      have k1 := q_end (n := G) (by omega)
      unfold f_X13_aYear_w4
      simp only [rt, e4, k1, if_true])
  have y0 : Y 0 = (0, x, s) := by rw [hY]; rfl
  have e0 : ((Y 0).1, Int32.ofNat 0, q_m2 d (Y 0).2.1 (Int32.ofNat (Y 0).2.2)) = (0, 0, d) := by
    rw [y0]
    dsimp only
    rw [q_m2_self h0 h1]
    rfl
  rw [e0] at r
  unfold f_X13_aYear
  rw [r]
  simp only [Option.bind_some]
  rw [hY]
