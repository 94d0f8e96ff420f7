/-! tier two: keeps -/
def q_pr (f : Nat → Nat) : Nat → Nat
  | 0 => 1
  | n + 1 => q_pr f n * f n
theorem q_pr_mul {f h e : Nat → Nat} : ∀ n, (∀ g, g < n → e g = f g * h g) → q_pr e n = q_pr f n * q_pr h n
  | 0, _ => rfl
  | n + 1, he => by
    show q_pr e n * e n = q_pr f n * f n * (q_pr h n * h n)
    rw [q_pr_mul n (fun g hg => he g (by omega)), he n (by omega), Nat.mul_assoc, Nat.mul_assoc]
    congr 1
    rw [← Nat.mul_assoc, ← Nat.mul_assoc, Nat.mul_comm (q_pr h n)]
theorem q_pr_le {f : Nat → Nat} : ∀ n, (∀ g, g < n → f g ≤ 100) → q_pr f n ≤ 100 ^ n
  | 0, _ => Nat.le_refl _
  | n + 1, h => by
    show q_pr f n * f n ≤ _
    rw [Nat.pow_succ]
    exact Nat.mul_le_mul (q_pr_le n (fun g hg => h g (by omega))) (h n (by omega))
theorem q_pr_100 : ∀ n, q_pr (fun _ => 100) n = 100 ^ n
  | 0 => rfl
  | n + 1 => by
    show q_pr (fun _ => 100) n * 100 = _
    rw [q_pr_100 n, Nat.pow_succ]
theorem q_pr_pos {f : Nat → Nat} (h : ∀ g, 0 < f g) : ∀ n, 0 < q_pr f n
  | 0 => Nat.one_pos
  | n + 1 => Nat.mul_pos (q_pr_pos h n) (h n)
def q_ks (c : Nat → Bool) (f : Nat → Nat) : Nat → Nat
  | 0 => 0
  | n + 1 => if c n = true then q_ks c f n else q_ks c f n + f n
theorem q_ks_mul {c : Nat → Bool} {e f : Nat → Nat} {C : Nat} (h : ∀ n, e n = f n * C) : ∀ n, q_ks c e n = q_ks c f n * C
  | 0 => (Nat.zero_mul C).symm
  | n + 1 => by
    show (if c n = true then q_ks c e n else q_ks c e n + e n) = (if c n = true then q_ks c f n else q_ks c f n + f n) * C
    rw [q_ks_mul h n, h n]
    split
    · rfl
    · rw [Nat.add_mul]
theorem q_ks_le {c : Nat → Bool} {e : Nat → Nat} {B : Nat} (h : ∀ n, e n ≤ B) : ∀ n, q_ks c e n ≤ n * B
  | 0 => Nat.zero_le _
  | n + 1 => by
    have h1 := q_ks_le (c := c) h n
    have h2 := h n
    show (if c n = true then q_ks c e n else q_ks c e n + e n) ≤ (n + 1) * B
    rw [Nat.add_mul, Nat.one_mul]
    split <;> omega
def q_cut (v : Nat → Int32) (b n k : Nat) : Int32 := if k < n ∧ b.testBit k = true then 0 else v k
theorem q_cut_dg {v : Nat → Int32} (hv : q_dg v) (b n : Nat) : q_dg (q_cut v b n) := by
  intro k hk
  unfold q_cut
  split
  · exact Or.inl rfl
  · exact hv k hk
theorem q_cutC {v : Nat → Int32} (hv : q_dg v) {b : Nat} (hb : b < 64) : f_X5_wayWithout (q_cod v) (Int32.ofNat b) = q_cod (q_cut v b 6) := by
  unfold f_X5_wayWithout j_let
  dsimp only
  rw [show (6 : Int32) = Int32.ofNat 6 from rfl, q_for _ (by decide)]
  have : ∀ n, n ≤ 6 → q_it (fun i s => f_X5_wayWithout_b4 (Int32.ofNat b) (Int32.ofNat i) s) n (q_cod v) = q_cod (q_cut v b n) := by
    intro n
    induction n with
    | zero =>
      intro _
      refine q_cod_congr (fun k hk => ?_)
      unfold q_cut
      rw [if_neg (fun z => absurd z.1 (by omega))]
    | succ n ih =>
      intro hn
      show f_X5_wayWithout_b4 (Int32.ofNat b) (Int32.ofNat n) (q_it _ n (q_cod v)) = _
      rw [ih (by omega)]
      unfold f_X5_wayWithout_b4 f_X5_wayWithout_j25_4
      rw [q_hb hb (by omega)]
      by_cases c : b.testBit n = true
      · rw [if_pos c, q_with (q_cut_dg hv b n) (by omega) (Or.inl rfl)]
        refine q_cod_congr (fun k hk => ?_)
        unfold upd q_cut
        by_cases z : k = n
        · rw [if_pos z, if_pos ⟨by omega, by rw [z]; exact c⟩]
        · rw [if_neg z]
          by_cases y : k < n ∧ b.testBit k = true
          · rw [if_pos y, if_pos ⟨by omega, y.2⟩]
          · rw [if_neg y, if_neg (fun u => y ⟨by omega, u.2⟩)]
      · rw [if_neg c]
        refine q_cod_congr (fun k hk => ?_)
        unfold q_cut
        by_cases y : k < n ∧ b.testBit k = true
        · rw [if_pos y, if_pos ⟨by omega, y.2⟩]
        · rw [if_neg y, if_neg (fun u => y ⟨by
            by_cases z : k = n
            · rw [z] at u; exact absurd u.2 c
            · omega, u.2⟩)]
  exact this 6 (by decide)
def q_nf (t0 t3 : Nat → Int32) (g : Nat) : Nat := ((f_X13_falls t0 t3 (Int32.ofNat g)).getD 0).toNatClampNeg
theorem q_nfE {G P F W L : Nat} {A T : Nat → Nat → Int32} (h : q_LR G P F W L A T) {g : Nat} (hg : g < G) : q_nf (T 0) (T 3) g ≤ 100 ∧ f_X13_falls (T 0) (T 3) (Int32.ofNat g) = some (Int32.ofNat (q_nf (T 0) (T 3) g)) ∧ ∀ x, q_dg x → f_X3_fallingIn (A 0) (A 3) (q_cod x) (Int32.ofNat g) = Int32.ofNat (if x g = 0 then 0 else q_nf (T 0) (T 3) g) := by
  obtain ⟨n, n1, n2, n3⟩ := q_fallN h hg
  have e : q_nf (T 0) (T 3) g = n := by
    unfold q_nf
    rw [n2]
    exact q_n (by omega)
  rw [e]
  exact ⟨n1, n2, n3⟩
def q_lk (v : Nat → Int32) (nf : Nat → Nat) (b g : Nat) : Nat := if b.testBit g = true then (if v g = 0 then 0 else nf g) else 100 - (if v g = 0 then 0 else nf g)
def q_pt (v : Nat → Int32) (nf : Nat → Nat) (b g : Nat) : Nat := if v g = 0 then (if b.testBit g = true then 0 else 1) else (if b.testBit g = true then nf g else 100 - nf g)
def q_cz (v : Nat → Int32) (g : Nat) : Nat := if v g = 0 then 100 else 1
def q_wh (v : Nat → Int32) (g : Nat) : Nat := if v g = 0 then 1 else 100
theorem q_lkpt (v : Nat → Int32) (nf : Nat → Nat) (b g : Nat) : q_lk v nf b g = q_pt v nf b g * q_cz v g := by
  unfold q_lk q_pt q_cz
  by_cases z : v g = 0 <;> by_cases y : b.testBit g = true
  · rw [if_pos y, if_pos z, if_pos z, if_pos y, if_pos z]
  · rw [if_neg y, if_pos z, if_pos z, if_neg y, if_pos z]
  · rw [if_pos y, if_neg z, if_neg z, if_pos y, if_neg z, Nat.mul_one]
  · rw [if_neg y, if_neg z, if_neg z, if_neg y, if_neg z, Nat.mul_one]
theorem q_much (p : Int32) : f_X11_isMuch p = f_X13_in p 0 599 := rfl
theorem q_likC {G P F W L : Nat} {A T : Nat → Nat → Int32} (h : q_LR G P F W L A T) {v : Nat → Int32} (hv : q_dg v) {b : Nat} (hb : b < 64) : f_X5_likelihood (A 0) (A 3) (q_cod v) (Int32.ofNat b) = Int64.ofNat (q_pr (q_lk v (q_nf (T 0) (T 3)) b) G) := by
  have hG := h.1.1.2.1
  unfold f_X5_likelihood j_let
  dsimp only
  rw [h.1.2.1.1, q_for _ (by omega)]
  have : ∀ n, n ≤ G → q_it (fun i s => f_X5_likelihood_b5 (A 0) (A 3) (q_cod v) (Int32.ofNat b) (Int32.ofNat i) s) n 1 = Int64.ofNat (q_pr (q_lk v (q_nf (T 0) (T 3)) b) n) := by
    intro n
    induction n with
    | zero => exact fun _ => rfl
    | succ n ih =>
      intro hn
      obtain ⟨n1, n2, n3⟩ := q_nfE h (g := n) (by omega)
      have n4 : (if v n = 0 then 0 else q_nf (T 0) (T 3) n) ≤ 100 := by split <;> omega
      show f_X5_likelihood_b5 (A 0) (A 3) (q_cod v) (Int32.ofNat b) (Int32.ofNat n) (q_it _ n 1) = Int64.ofNat (q_pr (q_lk v (q_nf (T 0) (T 3)) b) n * (if b.testBit n = true then (if v n = 0 then 0 else q_nf (T 0) (T 3) n) else 100 - (if v n = 0 then 0 else q_nf (T 0) (T 3) n)))
      rw [ih (by omega)]
      unfold f_X5_likelihood_b5 f_X5_likelihood_j45_5 j_let
      dsimp only
      rw [n3 v hv, q_hb hb (by omega)]
      generalize (if v n = 0 then 0 else q_nf (T 0) (T 3) n) = f at n4
      by_cases c : b.testBit n = true
      · rw [if_pos c, if_pos c, q_to64 (by omega), q_m64]
      · rw [if_neg c, if_neg c, q_h100 n4, q_m64]
  exact this G (Nat.le_refl G)
theorem qk_keeps {G P F W L a t : Nat} {d : JD} (hL : q_LR G P F W L (q_rows d a) (q_rows d t)) (hN : q_NR G (q_rows d a) (q_rows d t) (d.1 22 0) (d.1 22 1) (d.1 22 2) (d.1 59)) (h68 : 68 ≤ t) (pq0 pq1 pq2 : Int32) : ∃ (x : Int64) (w : Int32) (d1 d2 : JD), f_X11_keeps a d pq0 pq1 pq2 = some (x, j_sI d1 0 11 w) ∧ f_X13_keeps t (j_sI d1 0 11 w) pq0 pq1 pq2 = some (x, d2) ∧ q_ans d d2 w := by
  have hG := hL.1.1.2.1
  have ep' : ∀ p, f_X13_isPerson (d.1 t) p = f_X11_isPerson (d.1 a) p := fun p => q_isp (A := q_rows d a) (T := q_rows d t) hL p
  have e4 : d.1 a 4 = Int32.ofNat G := hL.1.2.1.1
  have e4' : d.1 t 4 = Int32.ofNat G := hL.1.2.1.2
  have hx : q_dg (d.1 59) := hN.1.1
  have hc : d.1 22 0 = q_cod (d.1 59) := hN.2.1
  by_cases h1 : f_X11_isPerson (d.1 a) pq0 = true
  · by_cases h2 : f_X13_in pq1 0 599 = true
    · have g64 : 2 ^ G ≤ 64 := Nat.pow_le_pow_right (n := 2) (by decide) hG
      have sh : (1 : Int32) <<< (Int32.ofNat G &&& 31) = Int32.ofNat (2 ^ G) := q_sh7 ⟨G, by omega⟩
      have h100 : 100 ^ G ≤ 1000000000000 := Nat.le_trans (Nat.pow_le_pow_right (n := 100) (by decide) hG) (by decide)
      have lkb : ∀ b, q_pr (q_lk (d.1 59) (q_nf (d.1 t) (d.1 (t + 3))) b) G ≤ 1000000000000 := fun b => Nat.le_trans (q_pr_le G (fun g hg => by
        have n1 : q_nf (d.1 t) (d.1 (t + 3)) g ≤ 100 := (q_nfE (A := q_rows d a) (T := q_rows d t) hL hg).1
        unfold q_lk
        have n4 : (if d.1 59 g = 0 then 0 else q_nf (d.1 t) (d.1 (t + 3)) g) ≤ 100 := by split <;> omega
        split <;> omega)) h100
      have lkE : ∀ b, b < 64 → f_X5_likelihood (d.1 a) (d.1 (a + 3)) (d.1 22 0) (Int32.ofNat b) = Int64.ofNat (q_pr (q_lk (d.1 59) (q_nf (d.1 t) (d.1 (t + 3))) b) G) := fun b hb => by
        rw [hc]
        exact q_likC (A := q_rows d a) (T := q_rows d t) hL hx hb
      -- the class
      have lC : ∀ n, n ≤ 2 ^ G → q_it (fun i s => f_X5_setKeeping_b35 a (d.1 22 0) pq0 pq1 (Int64.ofNat (100 ^ G)) d (Int32.ofNat i) s) n 0 = Int64.ofNat (q_ks (fun b => decide (f_X3_wealth (d.1 a) (d.1 (a + 7)) (d.1 (a + 8)) pq0 (q_cod (q_cut (d.1 59) b 6)) < pq1)) (fun b => q_pr (q_lk (d.1 59) (q_nf (d.1 t) (d.1 (t + 3))) b) G) n) := by
        intro n
        induction n with
        | zero => exact fun _ => rfl
        | succ n ih =>
          intro hn
          show f_X5_setKeeping_b35 a (d.1 22 0) pq0 pq1 (Int64.ofNat (100 ^ G)) d (Int32.ofNat n) (q_it _ n 0) = Int64.ofNat (if decide (f_X3_wealth (d.1 a) (d.1 (a + 7)) (d.1 (a + 8)) pq0 (q_cod (q_cut (d.1 59) n 6)) < pq1) = true then q_ks _ _ n else q_ks _ _ n + q_pr (q_lk (d.1 59) (q_nf (d.1 t) (d.1 (t + 3))) n) G)
          rw [ih (by omega)]
          unfold f_X5_setKeeping_b35 f_X5_setKeeping_j74_35
          rw [lkE n (by omega), hc, q_cutC hx (by omega)]
          by_cases c : f_X3_wealth (d.1 a) (d.1 (a + 7)) (d.1 (a + 8)) pq0 (q_cod (q_cut (d.1 59) n 6)) < pq1
          · rw [if_pos c, if_pos (decide_eq_true c)]
          · rw [if_neg c, if_neg (by rw [decide_eq_false c]; decide), q_a64]
      have lC0 : ∀ n, q_it (fun i s => f_X5_setKeeping_b9 a (d.1 22 0) pq0 pq1 d (Int32.ofNat i) s) n 1 = Int64.ofNat (100 ^ n) := by
        intro n
        induction n with
        | zero => rfl
        | succ n ih =>
          show f_X5_setKeeping_b9 a (d.1 22 0) pq0 pq1 d (Int32.ofNat n) (q_it _ n 1) = _
          rw [ih]
          unfold f_X5_setKeeping_b9
          rw [show (100 : Int64) = Int64.ofNat 100 from rfl, q_m64, Nat.pow_succ]
      have hS := q_ks_le (c := fun b => decide (f_X3_wealth (d.1 a) (d.1 (a + 7)) (d.1 (a + 8)) pq0 (q_cod (q_cut (d.1 59) b 6)) < pq1)) lkb (2 ^ G)
      have hS2 := Nat.mul_le_mul_right 1000000000000 g64
      have mulE := q_ks_mul (c := fun b => decide (f_X3_wealth (d.1 a) (d.1 (a + 7)) (d.1 (a + 8)) pq0 (q_cod (q_cut (d.1 59) b 6)) < pq1)) (e := fun b => q_pr (q_lk (d.1 59) (q_nf (d.1 t) (d.1 (t + 3))) b) G) (f := fun b => q_pr (q_pt (d.1 59) (q_nf (d.1 t) (d.1 (t + 3))) b) G) (C := q_pr (q_cz (d.1 59)) G) (fun b => q_pr_mul G (fun g _ => q_lkpt _ _ b g)) (2 ^ G)
      have whE : 100 ^ G = q_pr (q_wh (d.1 59)) G * q_pr (q_cz (d.1 59)) G := by
        rw [← q_pr_100 G]
        refine q_pr_mul G (fun g _ => ?_)
        unfold q_wh q_cz
        split <;> rfl
      have czp : 0 < q_pr (q_cz (d.1 59)) G := q_pr_pos (fun g => by unfold q_cz; split <;> decide) G
      have whp : 0 < q_pr (q_wh (d.1 59)) G := q_pr_pos (fun g => by unfold q_wh; split <;> decide) G
      have whb : q_pr (q_wh (d.1 59)) G ≤ 1000000000000 := Nat.le_trans (q_pr_le G (fun g _ => by unfold q_wh; split <;> decide)) h100
      have hp : 0 < 100 ^ G := Nat.pow_pos (by decide)
      have lCG := lC (2 ^ G) (Nat.le_refl _)
      have ptb := Nat.le_mul_of_pos_right (q_ks (fun b => decide (f_X3_wealth (d.1 a) (d.1 (a + 7)) (d.1 (a + 8)) pq0 (q_cod (q_cut (d.1 59) b 6)) < pq1)) (fun b => q_pr (q_pt (d.1 59) (q_nf (d.1 t) (d.1 (t + 3))) b) G) (2 ^ G)) czp
      rw [← mulE] at ptb
      generalize hSe : q_ks (fun b => decide (f_X3_wealth (d.1 a) (d.1 (a + 7)) (d.1 (a + 8)) pq0 (q_cod (q_cut (d.1 59) b 6)) < pq1)) (fun b => q_pr (q_lk (d.1 59) (q_nf (d.1 t) (d.1 (t + 3))) b) G) (2 ^ G) = S at hS mulE lCG ptb
      obtain ⟨d1, s1, s2, s3, s4⟩ := q_setC d (u := S) (l := 100 ^ G) (by omega) (by omega) hp
      have eC : f_X11_keeps a d pq0 pq1 pq2 = some (if pq2 = 0 then Int64.ofNat (S / Nat.gcd S (100 ^ G)) else Int64.ofNat (100 ^ G / Nat.gcd S (100 ^ G)), j_sI d1 0 11 0) := by
        unfold f_X11_keeps f_X5_setKeeping j_let
        rw [if_pos h1, q_much, if_pos h2, e4, q_for _ (by omega), lC0 G, sh]
        dsimp only
        rw [q_for _ (by omega), lCG, s1, Option.bind_some, Option.bind_some, q_told2 s3 s4]
      -- the reference
      have et : ∀ j, (q_dM d1 0).1 (t + j) = d.1 (t + j) := fun j => by rw [q_dM_o (by omega) (by omega), s2]
      have et0 : (q_dM d1 0).1 t = d.1 t := et 0
      have e59 : (q_dM d1 0).1 59 = d.1 59 := by rw [q_dM_o (by decide) (by decide), s2]
      have lW := q_run (F := f_X13_keeps_w39 t pq0 pq1 pq2 (q_dM d1 0)) (fun i => (Int64.ofNat (q_pr (q_wh (d.1 59)) i), Int32.ofNat i)) (e := Int64.ofNat (q_pr (q_wh (d.1 59)) G)) G (by omega) (fun i hi => by
        have k2 := q_go (n := G) (by omega) hi
        have kg : ¬ j_out (Int32.ofNat i) 9 := q_in (by omega) (by decide)
        have kn : (Int32.ofNat i).toNatClampNeg = i := q_n (by omega)
        show f_X13_keeps_w39 t pq0 pq1 pq2 (q_dM d1 0) _ = some (Sum.inl (Int64.ofNat (q_pr (q_wh (d.1 59)) i * (if d.1 59 i = 0 then 1 else 100)), Int32.ofNat (i + 1)))
        unfold f_X13_keeps_w39 f_X13_keeps_j70_39
        dsimp only
        rw [et0, e4', if_neg k2, if_neg kg, e59, kn]
        by_cases z : d.1 59 i = 0
        · rw [if_pos ((q_pos hx (by omega)).mpr z), if_pos z, show (1 : Int64) = Int64.ofNat 1 from rfl, q_m64, q_s]
        · rw [if_neg (fun y => z ((q_pos hx (by omega)).mp y)), if_neg z, show (100 : Int64) = Int64.ofNat 100 from rfl, q_m64, q_s]) (by
        unfold f_X13_keeps_w39
        dsimp only
        rw [et0, e4', if_pos (q_end (by omega))])
      have lW' : j_wh (f_X13_keeps_w39 t pq0 pq1 pq2 (q_dM d1 0)) j_fuel (1, 0) = some (Int64.ofNat (q_pr (q_wh (d.1 59)) G)) := lW
      obtain ⟨⟨r, D⟩, lM, rE, rD⟩ := q_inv (n := 2 ^ G) (by omega) (τ := fun i (q : Int64 × Int32 × JD) => ∃ D, q = (Int64.ofNat (q_ks (fun b => decide (f_X3_wealth (d.1 a) (d.1 (a + 7)) (d.1 (a + 8)) pq0 (q_cod (q_cut (d.1 59) b 6)) < pq1)) (fun b => q_pr (q_pt (d.1 59) (q_nf (d.1 t) (d.1 (t + 3))) b) G) i), Int32.ofNat i, D) ∧ ∀ b, b ≠ 60 → D.1 b = (q_dM d1 0).1 b) (ρ := fun (e : Int64 × JD) => e.1 = Int64.ofNat (q_ks (fun b => decide (f_X3_wealth (d.1 a) (d.1 (a + 7)) (d.1 (a + 8)) pq0 (q_cod (q_cut (d.1 59) b 6)) < pq1)) (fun b => q_pr (q_pt (d.1 59) (q_nf (d.1 t) (d.1 (t + 3))) b) G) (2 ^ G)) ∧ ∀ b, b ≠ 60 → e.2.1 b = (q_dM d1 0).1 b) (F := f_X13_keeps_w82 t pq0 pq1 pq2 (Int64.ofNat (q_pr (q_wh (d.1 59)) G))) (t := (0, 0, q_dM d1 0))
        (fun i hi q hq => by
          obtain ⟨D, rfl, hD⟩ := hq
          have k2 := q_go (n := 2 ^ G) (by omega) hi
          have Dt : D.1 t = d.1 t := by rw [hD t (by omega), et0]
          -- the year's likelihood
          obtain ⟨⟨r, E⟩, l1, l2, l3, l4⟩ := q_inv (n := G) (by omega) (τ := fun j (q : Int64 × Int32 × JD) => ∃ E, q = (Int64.ofNat (q_pr (q_pt (d.1 59) (q_nf (d.1 t) (d.1 (t + 3))) i) j), Int32.ofNat j, E) ∧ (∀ b, b ≠ 60 → E.1 b = (q_dM d1 0).1 b) ∧ ∀ k, k < 6 → E.1 60 k = q_cut (d.1 59) i j k) (ρ := fun (e : Int64 × JD) => e.1 = Int64.ofNat (q_pr (q_pt (d.1 59) (q_nf (d.1 t) (d.1 (t + 3))) i) G) ∧ (∀ b, b ≠ 60 → e.2.1 b = (q_dM d1 0).1 b) ∧ ∀ k, k < 6 → e.2.1 60 k = q_cut (d.1 59) i G k) (F := f_X13_keeps_w106_82 t pq0 pq1 pq2 (Int64.ofNat (q_ks (fun b => decide (f_X3_wealth (d.1 a) (d.1 (a + 7)) (d.1 (a + 8)) pq0 (q_cod (q_cut (d.1 59) b 6)) < pq1)) (fun b => q_pr (q_pt (d.1 59) (q_nf (d.1 t) (d.1 (t + 3))) b) G) i)) (Int64.ofNat (q_pr (q_wh (d.1 59)) G)) (Int32.ofNat i)) (t := (1, 0, q_row D 60 (q_mix 6 (D.1 59) (D.1 60))))
            (fun j hj q hq => by
              obtain ⟨E, rfl, hE, hE60⟩ := hq
              have k3 := q_go (n := G) (by omega) hj
              have kg : ¬ j_out (Int32.ofNat j) 9 := q_in (by omega) (by decide)
              have kg6 : ¬ j_out (Int32.ofNat j) 6 := q_in (by omega) (by decide)
              have kn : (Int32.ofNat j).toNatClampNeg = j := q_n (by omega)
              have Et : E.1 t = d.1 t := by rw [hE t (by omega), et0]
              have Et3 : E.1 (t + 3) = d.1 (t + 3) := by rw [hE (t + 3) (by omega), et]
              have E59 : E.1 59 = d.1 59 := by rw [hE 59 (by decide), e59]
              obtain ⟨n1, n2, -⟩ := q_nfE (A := q_rows d a) (T := q_rows d t) hL hj
              have n1' : q_nf (d.1 t) (d.1 (t + 3)) j ≤ 100 := n1
              have n2' : f_X13_falls (d.1 t) (d.1 (t + 3)) (Int32.ofNat j) = some (Int32.ofNat (q_nf (d.1 t) (d.1 (t + 3)) j)) := n2
              have hb : f_X13_bit (Int32.ofNat i) (Int32.ofNat j) = i.testBit j := q_hb (by omega) (by omega)
              have up : ∀ k, k < 6 → i.testBit j = true → (j_sI E 60 j 0).1 60 k = q_cut (d.1 59) i (j + 1) k := fun k hk c => by
                rw [q_sI_a]
                unfold upd
                by_cases z : k = j
                · rw [if_pos z]; unfold q_cut; rw [if_pos ⟨by omega, by rw [z]; exact c⟩]
                · rw [if_neg z, hE60 k hk]
                  unfold q_cut
                  by_cases y : k < j ∧ i.testBit k = true
                  · rw [if_pos y, if_pos ⟨by omega, y.2⟩]
                  · rw [if_neg y, if_neg (fun u => y ⟨by omega, u.2⟩)]
              have dn : ∀ k, k < 6 → ¬ i.testBit j = true → E.1 60 k = q_cut (d.1 59) i (j + 1) k := fun k hk c => by
                rw [hE60 k hk]
                unfold q_cut
                by_cases y : k < j ∧ i.testBit k = true
                · rw [if_pos y, if_pos ⟨by omega, y.2⟩]
                · rw [if_neg y, if_neg (fun u => y ⟨by
                    by_cases z : k = j
                    · rw [z] at u; exact absurd u.2 c
                    · omega, u.2⟩)]
              have hE' : ∀ b, b ≠ 60 → (j_sI E 60 j 0).1 b = (q_dM d1 0).1 b := fun b hb => by rw [q_sI_o hb, hE b hb]
              have ppt : q_pr (q_pt (d.1 59) (q_nf (d.1 t) (d.1 (t + 3))) i) (j + 1) = q_pr (q_pt (d.1 59) (q_nf (d.1 t) (d.1 (t + 3))) i) j * (if d.1 59 j = 0 then (if i.testBit j = true then 0 else 1) else (if i.testBit j = true then q_nf (d.1 t) (d.1 (t + 3)) j else 100 - q_nf (d.1 t) (d.1 (t + 3)) j)) := rfl
              unfold f_X13_keeps_w106_82 f_X13_keeps_j145_82_106 f_X13_keeps_j183_82_106 f_X13_keeps_j186_82_106 f_X13_keeps_j204_82_106
              dsimp only
              by_cases z : d.1 59 j = 0
              · by_cases c : i.testBit j = true
                · refine ⟨_, ?_, j_sI E 60 j 0, rfl, hE', fun k hk => up k hk c⟩
                  rw [Et, e4', if_neg k3, if_neg kg, E59, hb, ppt, if_pos z]
                  simp only [kn, z, c, if_true, kg6, if_false, q_s]
                  rw [show (0 : Int64) = Int64.ofNat 0 from rfl, q_m64]
                · refine ⟨_, ?_, E, rfl, hE, fun k hk => dn k hk c⟩
                  rw [Et, e4', if_neg k3, if_neg kg, E59, hb, ppt, if_pos z]
                  simp only [kn, z, c, if_true, if_false, q_s, Bool.false_eq_true]
                  rw [show (1 : Int64) = Int64.ofNat 1 from rfl, q_m64]
              · by_cases c : i.testBit j = true
                · refine ⟨_, ?_, j_sI E 60 j 0, rfl, hE', fun k hk => up k hk c⟩
                  rw [Et, e4', if_neg k3, if_neg kg, E59, hb, ppt, if_neg z]
                  simp only [kn, z, c, if_true, kg6, if_false, q_s, Et3, n2', Option.bind_some]
                  rw [q_to64 (by omega), q_m64]
                · refine ⟨_, ?_, E, rfl, hE, fun k hk => dn k hk c⟩
                  rw [Et, e4', if_neg k3, if_neg kg, E59, hb, ppt, if_neg z]
                  simp only [kn, z, c, if_false, q_s, Bool.false_eq_true, Et3, n2', Option.bind_some]
                  rw [q_h100 n1', q_m64])
            (fun q hq => by
              obtain ⟨E, rfl, hE, hE60⟩ := hq
              refine ⟨(_, E), ?_, rfl, hE, hE60⟩
              have Et : E.1 t = d.1 t := by rw [hE t (by omega), et0]
              unfold f_X13_keeps_w106_82
              dsimp only
              rw [Et, e4', if_pos (q_end (by omega))]
              rfl)
            ⟨_, rfl, fun b hb => by rw [q_row_o hb, hD b hb], fun k hk => by
              rw [q_row_a]
              unfold q_mix q_cut
              rw [if_pos hk, if_neg (fun y => absurd y.1 (by omega)), hD 59 (by decide), e59]⟩
          dsimp only at l2 l3 l4
          have l4' : ∀ k, k < 6 → E.1 60 k = q_cut (d.1 59) i 6 k := fun k hk => by
            rw [l4 k hk]
            unfold q_cut
            by_cases y : k < G ∧ i.testBit k = true
            · rw [if_pos y, if_pos ⟨hk, y.2⟩]
            · rw [if_neg y, if_neg (fun u => y ⟨by
                by_cases z : k < G
                · exact z
                · have : i.testBit k = false := Nat.testBit_lt_two_pow (Nat.lt_of_lt_of_le hi (Nat.pow_le_pow_right (by decide) (by omega)))
                  rw [this] at u
                  exact absurd u.2 (by decide), u.2⟩)]
          have hxE : q_dg (E.1 60) := fun k hk => by rw [l4' k hk]; exact q_cut_dg hx i 6 k hk
          have hcE : q_cod (E.1 60) = q_cod (q_cut (d.1 59) i 6) := q_cod_congr l4'
          have hm := q_hasM (A := q_rows d a) (T := q_rows d t) hL hxE pq0
          rw [hcE] at hm
          have Et : ∀ j, E.1 (t + j) = d.1 (t + j) := fun j => by rw [l3 (t + j) (by omega), et]
          have Et0 : E.1 t = d.1 t := Et 0
          have hm' : f_X13_has (E.1 60) (d.1 t) (d.1 (t + 1)) (d.1 (t + 2)) (d.1 (t + 3)) (d.1 (t + 4)) (d.1 (t + 5)) pq0 = some (f_X3_wealth (d.1 a) (d.1 (a + 7)) (d.1 (a + 8)) pq0 (q_cod (q_cut (d.1 59) i 6))) := hm
          refine ⟨(Int64.ofNat (if decide (f_X3_wealth (d.1 a) (d.1 (a + 7)) (d.1 (a + 8)) pq0 (q_cod (q_cut (d.1 59) i 6)) < pq1) = true then q_ks (fun b => decide (f_X3_wealth (d.1 a) (d.1 (a + 7)) (d.1 (a + 8)) pq0 (q_cod (q_cut (d.1 59) b 6)) < pq1)) (fun b => q_pr (q_pt (d.1 59) (q_nf (d.1 t) (d.1 (t + 3))) b) G) i else q_ks (fun b => decide (f_X3_wealth (d.1 a) (d.1 (a + 7)) (d.1 (a + 8)) pq0 (q_cod (q_cut (d.1 59) b 6)) < pq1)) (fun b => q_pr (q_pt (d.1 59) (q_nf (d.1 t) (d.1 (t + 3))) b) G) i + q_pr (q_pt (d.1 59) (q_nf (d.1 t) (d.1 (t + 3))) i) G), Int32.ofNat (i + 1), E), ?_, E, rfl, l3⟩
          unfold f_X13_keeps_w82 f_X13_keeps_j227_82
          dsimp only
          rw [Dt, e4', sh, if_neg k2, q_works, Option.bind_some, l1, Option.bind_some]
          dsimp only
          rw [Et0, Et, Et, Et, Et, Et, hm', Option.bind_some, l2]
          by_cases c : f_X3_wealth (d.1 a) (d.1 (a + 7)) (d.1 (a + 8)) pq0 (q_cod (q_cut (d.1 59) i 6)) < pq1
          · rw [if_pos c, if_pos (decide_eq_true c), Int64.add_zero, q_s]
          · rw [if_neg c, if_neg (by rw [decide_eq_false c]; decide), q_a64, q_s])
        (fun q hq => by
          obtain ⟨D, rfl, hD⟩ := hq
          have Dt : D.1 t = d.1 t := by rw [hD t (by omega), et0]
          refine ⟨(_, D), ?_, rfl, hD⟩
          unfold f_X13_keeps_w82
          dsimp only
          rw [Dt, e4', sh, if_pos (q_end (by omega))]
          rfl)
        ⟨q_dM d1 0, rfl, fun b _ => rfl⟩
      dsimp only at rE rD
      have sm : q_sm d1 D := by
        refine (q_dM_sm d1 0).trans ⟨fun b h0 h57 hf => rD b (fun z => by rw [z] at hf; cases hf), fun k _ => by rw [rD 57 (by decide)], fun k _ => by rw [rD 0 (by decide)]⟩
      have D11 : D.1 0 11 = 0 := by rw [rD 0 (by decide)]; exact q_dM_11 d1 0
      refine ⟨_, 0, d1, q_fin D 0, eC, ?_, q_ansX s2 (q_fin_ans sm D11 (by decide))⟩
      have rm : f_X13_refusesMuch (j_b true) pq1 = 0 := by
        unfold f_X13_refusesMuch
        rw [if_neg (by decide), if_pos h2]
      unfold f_X13_keeps j_let
      rw [q_dMe, et0, ep', h1, rm]
      dsimp only
      rw [if_pos (by decide), lW', Option.bind_some, lM, Option.bind_some, rE, q_fracM D (by omega) (by omega) whp pq2, Option.bind_some]
      have pr := q_pair (u' := S) (l' := 100 ^ G) (q_pr (q_cz (d.1 59)) G) czp mulE whE
      rw [pr.1, pr.2]
      split <;> rfl
    · have et0 : (q_dM d 2).1 t = d.1 t := q_dM_o (by omega) (by omega)
      refine ⟨-1, 2, d, q_fin (q_dM d 2) 2, ?_, ?_, q_ansd d (by decide)⟩
      · unfold f_X11_keeps j_let
        rw [if_pos h1, q_much, if_neg h2, q_xre]
        rfl
      · have rm : f_X13_refusesMuch (j_b true) pq1 = 2 := by
          unfold f_X13_refusesMuch
          rw [if_neg (by decide), if_neg h2]
        unfold f_X13_keeps j_let
        rw [q_dMe, et0, ep', h1, rm]
        dsimp only
        rw [if_neg (by decide), q_ref]
        rfl
  · have et0 : (q_dM d 1).1 t = d.1 t := q_dM_o (by omega) (by omega)
    refine ⟨-1, 1, d, q_fin (q_dM d 1) 1, ?_, ?_, q_ansd d (by decide)⟩
    · unfold f_X11_keeps j_let
      rw [if_neg h1, q_xre]
      rfl
    · have rm : f_X13_refusesMuch (j_b false) pq1 = 1 := rfl
      have h1' : f_X11_isPerson (d.1 a) pq0 = false := by
        cases z : f_X11_isPerson (d.1 a) pq0 with
        | false => rfl
        | true => exact absurd z h1
      unfold f_X13_keeps j_let
      rw [q_dMe, et0, ep', h1', rm]
      dsimp only
      rw [if_neg (by decide), q_ref]
      rfl
theorem q_41 {K : q_K} (hK : q_Kok K) : lw_st_41 (q_R K) := by
  intro h p1 p2 p3 r hz
  obtain ⟨g, d⟩ := h
  have hr := r
  obtain ⟨a, b, hg, ht, -, -, hl⟩ := r
  rcases hl with ⟨hla, hn⟩ | ⟨t, h68, hla, hts, G, P, F, W, L, hL, hN, -⟩
  · obtain ⟨x, w, d2, e1, e2, e3⟩ := qn_keeps (a := a) (d := d) hn p1 p2 (if p3 = 0 then 0 else 1)
    exact q_stL hr (q_jPL (s_X11_keeps g d a p1 p2 (if p3 = 0 then 0 else 1) hg.2.1 hg.2.2.1 hg.2.2.2.2.1) e1) (q_jTL (s_X13_keepsn g _ p1 p2 (if p3 = 0 then 0 else 1) hg.2.1 hla) e2) (hr.ans hK e3)
  · obtain ⟨x, w, d1, d2, e1, e2, e3⟩ := qk_keeps (a := a) (t := t) (d := d) hL hN h68 p1 p2 (if p3 = 0 then 0 else 1)
    exact q_stL hr (q_jPL (s_X11_keeps g d a p1 p2 (if p3 = 0 then 0 else 1) hg.2.1 hg.2.2.1 hg.2.2.2.2.1) e1) (q_jPL (s_X13_keeps g _ t p1 p2 (if p3 = 0 then 0 else 1) hg.2.1 hts hla) e2) (hr.ans hK e3)
