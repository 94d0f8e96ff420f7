/-! tier two: ways by number; what is kept between calls -/
theorem q_it_add {S : Type} (f : Nat → S → S) (a : Nat) : ∀ (b : Nat) (s : S), q_it f (a + b) s = q_it (fun i => f (a + i)) b (q_it f a s)
  | 0, _ => rfl
  | b + 1, s => by
    show f (a + b) (q_it f (a + b) s) = f (a + b) (q_it (fun i => f (a + i)) b (q_it f a s))
    rw [q_it_add f a b s]
theorem q_it_id {S : Type} {f : Nat → S → S} : ∀ (n : Nat) (s : S), (∀ i, i < n → ∀ s, f i s = s) → q_it f n s = s
  | 0, _, _ => rfl
  | n + 1, s, h => by
    show f n (q_it f n s) = s
    rw [q_it_id n s (fun i hi => h i (by omega)), h n (by omega)]
def q_ph : Nat → Nat → Nat
  | 0, _ => 0
  | n + 1, c => c / 3 ^ n * 4 ^ n + q_ph n (c % 3 ^ n)
def q_w4 : Nat → Nat → Bool
  | 0, _ => true
  | n + 1, c => decide (c / 4 ^ n < 3) && q_w4 n (c % 4 ^ n)
theorem q_ph_s {n t c : Nat} (hc : c < 3 ^ n) : q_ph (n + 1) (t * 3 ^ n + c) = t * 4 ^ n + q_ph n c := by
  have hp : 0 < 3 ^ n := Nat.pow_pos (by decide)
  show (t * 3 ^ n + c) / 3 ^ n * 4 ^ n + q_ph n ((t * 3 ^ n + c) % 3 ^ n) = _
  rw [Nat.add_comm (t * 3 ^ n), Nat.add_mul_div_right _ _ hp, Nat.add_mul_mod_self_right, Nat.div_eq_of_lt hc, Nat.mod_eq_of_lt hc, Nat.zero_add]
theorem q_w4_s {n t c : Nat} (hc : c < 4 ^ n) : q_w4 (n + 1) (t * 4 ^ n + c) = (decide (t < 3) && q_w4 n c) := by
  have hp : 0 < 4 ^ n := Nat.pow_pos (by decide)
  show (decide ((t * 4 ^ n + c) / 4 ^ n < 3) && q_w4 n ((t * 4 ^ n + c) % 4 ^ n)) = _
  rw [Nat.add_comm (t * 4 ^ n), Nat.add_mul_div_right _ _ hp, Nat.add_mul_mod_self_right, Nat.div_eq_of_lt hc, Nat.mod_eq_of_lt hc, Nat.zero_add]
/-- a loop over all numbers of four digits' worth a gate that passes over those that are no ways -/
theorem q_skip {S : Type} : ∀ (n : Nat) (B : Nat → S → S) (s : S), (∀ c, c < 4 ^ n → q_w4 n c = false → ∀ s, B c s = s) → q_it B (4 ^ n) s = q_it (fun c => B (q_ph n c)) (3 ^ n) s
  | 0, B, s, _ => rfl
  | n + 1, B, s, h => by
    have e4 : 4 ^ (n + 1) = 4 ^ n + (4 ^ n + (4 ^ n + 4 ^ n)) := by rw [Nat.pow_succ]; omega
    have e3 : 3 ^ (n + 1) = 3 ^ n + (3 ^ n + 3 ^ n) := by rw [Nat.pow_succ]; omega
    have hb : ∀ t, t < 3 → ∀ s, q_it (fun i => B (t * 4 ^ n + i)) (4 ^ n) s = q_it (fun c => B (q_ph (n + 1) (t * 3 ^ n + c))) (3 ^ n) s := by
      intro t ht s
      rw [q_skip n (fun i => B (t * 4 ^ n + i)) s (fun c hc hw => h _ (by
        have : t * 4 ^ n ≤ 2 * 4 ^ n := Nat.mul_le_mul_right _ (by omega)
        omega) (by rw [q_w4_s hc, hw, Bool.and_false]))]
      refine q_it_congr _ s (fun c hc s => ?_)
      rw [q_ph_s hc]
    have h3 : ∀ s, q_it (fun i => B (3 * 4 ^ n + i)) (4 ^ n) s = s := fun s => q_it_id _ s (fun c hc s => h _ (by omega) (by rw [q_w4_s hc]; rfl) s)
    have b0 := hb 0 (by decide)
    have b1 := hb 1 (by decide)
    have b2 := hb 2 (by decide)
    simp only [Nat.zero_mul, Nat.zero_add, Nat.one_mul] at b0 b1
    rw [e4, e3, q_it_add, q_it_add, q_it_add, q_it_add, q_it_add, b0, b1]
    have f2 : (fun i => B (4 ^ n + (4 ^ n + i))) = (fun i => B (2 * 4 ^ n + i)) := by
      funext i; congr 1; omega
    have f3 : (fun i => B (4 ^ n + (4 ^ n + (4 ^ n + i)))) = (fun i => B (3 * 4 ^ n + i)) := by
      funext i; congr 1; omega
    have g2 : (fun i => B (q_ph (n + 1) (3 ^ n + (3 ^ n + i)))) = (fun c => B (q_ph (n + 1) (2 * 3 ^ n + c))) := by
      funext i; congr 2; omega
    rw [f2, f3, g2, h3, b2]
def q_dig (n c k : Nat) : Int32 := if k < n then Int32.ofNat (c / 3 ^ (n - 1 - k) % 3) else 0
theorem q_dig_WY (n c : Nat) : q_WY n (q_dig n c) := by
  refine ⟨fun g _ => ?_, fun g hg _ => ?_⟩
  · unfold q_dig
    split
    · have : c / 3 ^ (n - 1 - g) % 3 < 3 := Nat.mod_lt _ (by decide)
      generalize c / 3 ^ (n - 1 - g) % 3 = m at this
      match m, this with
      | 0, _ => exact Or.inl rfl
      | 1, _ => exact Or.inr (Or.inl rfl)
      | 2, _ => exact Or.inr (Or.inr rfl)
      | m + 3, h => exact absurd h (by omega)
    · exact Or.inl rfl
  · unfold q_dig
    rw [if_neg (by omega)]
theorem q_fc7 : ∀ n : Fin 7, ∀ c : Fin (3 ^ n.val), f_X10_fromCode (Int32.ofNat (q_ph n.val c.val)) (Int32.ofNat n.val) = q_cod (q_dig n.val c.val) := by decide +kernel
theorem q_iw6 : ∀ n : Fin 6, ∀ c : Fin (4 ^ n.val), f_X10_isWay (f_X10_fromCode (Int32.ofNat c.val) (Int32.ofNat n.val)) = q_w4 n.val c.val := by decide +kernel
theorem q_iw66 : ∀ x y : Fin 64, f_X10_isWay (f_X10_fromCode (Int32.ofNat (64 * x.val + y.val)) (Int32.ofNat 6)) = q_w4 6 (64 * x.val + y.val) := by decide +kernel
theorem q_iw {n c : Nat} (hn : n ≤ 6) (hc : c < 4 ^ n) : f_X10_isWay (f_X10_fromCode (Int32.ofNat c) (Int32.ofNat n)) = q_w4 n c := by
  by_cases z : n = 6
  · subst z
    have h1 : c / 64 < 64 := by
      have : (4 : Nat) ^ 6 = 4096 := by decide
      omega
    have h2 : c % 64 < 64 := Nat.mod_lt _ (by decide)
    have h := q_iw66 ⟨c / 64, h1⟩ ⟨c % 64, h2⟩
    dsimp only at h
    rw [Nat.div_add_mod] at h
    exact h
  · exact q_iw6 ⟨n, by omega⟩ ⟨c, hc⟩
theorem q_iwd7 : ∀ n : Fin 7, ∀ c : Fin (3 ^ n.val), f_X10_isWay (q_cod (q_dig n.val c.val)) = true := by decide +kernel
theorem q_co7 : ∀ n : Fin 7, f_X10_codesOf (Int32.ofNat n.val) = Int32.ofNat (4 ^ n.val) := by decide +kernel
theorem q_pw43 : ∀ n : Fin 7, 4 ^ n.val ≤ 4096 ∧ 3 ^ n.val ≤ 729 ∧ 1 ≤ 3 ^ n.val := by decide +kernel
/-- fits -/
def q_fitw (A13 : Nat → Int32) (told : Int32) (L c : Nat) : Int32 := q_it (fun k w => f_X10_with w (A13 k) (q_dig L c k)) L told
def q_ft (A : Nat → Nat → Int32) (L c : Nat) : Bool := decide (f_X0_firstBelied (A 0) (A 7) (A 8) (A 14) (q_fitw (A 13) (A 0 6) L c) = -2)
def q_rk (f : Nat → Bool) : Nat → Nat
  | 0 => 0
  | n + 1 => if f n = true then q_rk f n + 1 else q_rk f n
def q_KF (A C : Nat → Nat → Int32) : Prop := C 7 0 = 0 ∨ ∃ L, L ≤ 4 ∧ A 9 4 = Int32.ofNat L ∧ C 7 2 = Int32.ofNat (q_rk (q_ft A L) (3 ^ L)) ∧ ∀ c, c < 3 ^ L → q_ft A L c = true → C 8 (q_rk (q_ft A L) c) = q_cod (q_dig L c)
/-- the survey -/
def q_sv1 (A : Nat → Nat → Int32) (w : Int32) (s : Int32 × Int32 × Int32 × Int32) : Int32 × Int32 × Int32 × Int32 :=
  (if f_X3_leastWealth (A 0) (A 7) (A 8) w ≤ 0 then s.1 else if s.1 = -1 then w else if f_X10_hooksIn s.1 ≤ f_X10_hooksIn w then s.1 else w,
   if f_X3_isStillWay (A 0) (A 7) (A 8) w = true then s.2.1 + 1 else s.2.1,
   if f_X3_leastWealth (A 0) (A 7) (A 8) w ≤ s.2.2.2 then s.2.2.1 else w,
   if f_X3_leastWealth (A 0) (A 7) (A 8) w ≤ s.2.2.2 then s.2.2.2 else f_X3_leastWealth (A 0) (A 7) (A 8) w)
def q_svb (A : Nat → Nat → Int32) (w : Int32) (s : Int32 × Int32 × Int32 × Int32) : Int32 × Int32 × Int32 × Int32 := if f_X3_mayHangSo (A 0) w = true then q_sv1 A w s else s
def q_sv (A : Nat → Nat → Int32) (G n : Nat) : Int32 × Int32 × Int32 × Int32 := q_it (fun c s => q_svb A (q_cod (q_dig G c)) s) n (-1, 0, A 0 6, -1)
def q_KS (A C : Nat → Nat → Int32) : Prop := C 6 0 = 0 ∨ ∃ G, G ≤ 6 ∧ A 0 4 = Int32.ofNat G ∧ (C 6 1, C 6 2, C 6 3, C 6 4) = q_sv A G (3 ^ G)
/-- ways that moves lead to -/
def q_num (x : Nat → Int32) : Nat → Nat
  | 0 => 0
  | n + 1 => 3 * q_num x n + (x n).toNatClampNeg
abbrev q_S : Type := Nat × (Nat → Nat) × (Nat → Nat) × (Nat → Nat) × (Nat → Nat)
def q_mem (r : Nat → Nat) (c : Nat) : Nat → Bool
  | 0 => false
  | n + 1 => decide (r n = c) || q_mem r c n
def q_ud (r : Nat → Nat) (n v k : Nat) : Nat := if k = n then v else r k
def q_badd (s : q_S) (c p m dp : Nat) : q_S := if q_mem s.2.1 c s.1 = true then s else (s.1 + 1, q_ud s.2.1 s.1 c, q_ud s.2.2.1 s.1 p, q_ud s.2.2.2.1 s.1 m, q_ud s.2.2.2.2 s.1 dp)
def q_nx (A0 : Nat → Int32) (G c k : Nat) : Option Nat := if f_X3_wayAfter A0 (q_cod (q_dig G c)) (Int32.ofNat (k / G)) (Int32.ofNat (k % G)) = -1 then none else some (q_num (fun g => f_X10_hungAt (f_X3_wayAfter A0 (q_cod (q_dig G c)) (Int32.ofNat (k / G)) (Int32.ofNat (k % G))) (Int32.ofNat g)) G)
def q_bgo (i k : Nat) (s : q_S) : Option Nat → q_S
  | none => s
  | some c => q_badd s c i k (s.2.2.2.2 i + 1)
def q_bst (nx : Nat → Nat → Option Nat) (i k : Nat) (s : q_S) : q_S := q_bgo i k s (nx (s.2.1 i) k)
def q_bfr (nx : Nat → Nat → Option Nat) (K i : Nat) (s : q_S) : q_S := if i < s.1 then q_it (fun k s => q_bst nx i k s) K s else s
def q_b0 (c : Nat) : q_S := (1, fun _ => c, fun _ => 0, fun _ => 0, fun _ => 0)
def q_bf (nx : Nat → Nat → Option Nat) (K c n : Nat) : q_S := q_it (fun i s => q_bfr nx K i s) n (q_b0 c)
def q_eqB (G : Nat) (s : q_S) (n : Int32) (r1 r2 r3 r4 : Nat → Int32) : Prop := n = Int32.ofNat s.1 ∧ ∀ i, i < s.1 → r1 i = q_cod (q_dig G (s.2.1 i)) ∧ r4 i = Int32.ofNat (s.2.2.2.2 i) ∧ (0 < i → r2 i = Int32.ofNat (s.2.2.1 i) ∧ r3 i = Int32.ofNat (s.2.2.2.1 i))
def q_KE (A C : Nat → Nat → Int32) : Prop := C 0 5 = -1 ∨ ∃ G c, G ≤ 6 ∧ A 0 4 = Int32.ofNat G ∧ c < 3 ^ G ∧ C 0 5 = q_cod (q_dig G c) ∧ q_eqB G (q_bf (q_nx (A 0) G) (4 * G) c 729) (C 0 6) (C 1) (C 2) (C 3) (C 4)
def q_K0 (A C : Nat → Nat → Int32) : Prop := q_KE A C ∧ q_KS A C ∧ q_KF A C
theorem q_K0ok : q_Kok q_K0 := by
  intro A A' C C' hA hC h
  have a0 := hA 0 (by decide)
  have a7 := hA 7 (by decide)
  have a8 := hA 8 (by decide)
  have a9 := hA 9 (by decide)
  have a13 := hA 13 (by decide)
  have a14 := hA 14 (by decide)
  have fe : ∀ L, q_ft A' L = q_ft A L := fun L => by
    funext c
    unfold q_ft
    rw [a0, a7, a8, a13, a14]
  have s1 : q_sv1 A' = q_sv1 A := by
    funext w s
    unfold q_sv1
    rw [a0, a7, a8]
  have se : ∀ G, q_sv A' G = q_sv A G := fun G => by
    funext n
    unfold q_sv q_svb
    rw [a0, s1]
  obtain ⟨h1, h2, h3⟩ := h
  refine ⟨?_, ?_, ?_⟩
  · unfold q_KE at h1 ⊢
    rw [hC 0 (by decide), hC 1 (by decide), hC 2 (by decide), hC 3 (by decide), hC 4 (by decide), a0]
    exact h1
  · unfold q_KS at h2 ⊢
    rw [hC 6 (by decide), a0]
    simp only [se]
    exact h2
  · unfold q_KF at h3 ⊢
    rw [hC 7 (by decide), hC 8 (by decide), a9]
    simp only [fe]
    exact h3
/-- what is kept has changed -/
theorem q_R.ca {K : q_K} {g : JG} {d d1 : JD} (r : q_R K (g, d)) (e : ∀ b, b < 32 ∨ 40 < b → d1.1 b = d.1 b) (hk : ∀ a, g.2.2.1 0 10 = some a → K (q_rows d a) (q_rows d 32) → K (q_rows d1 a) (q_rows d1 32)) : q_R K (g, d1) := by
  obtain ⟨a, b, hg, ht, hr, hk0, hl⟩ := r
  have e0 : d1.1 0 = d.1 0 := e 0 (by omega)
  have e1 : d1.1 1 = d.1 1 := e 1 (by omega)
  have e2 : d1.1 2 = d.1 2 := e 2 (by omega)
  have e22 : d1.1 22 = d.1 22 := e 22 (by omega)
  have e24 : d1.1 24 = d.1 24 := e 24 (by omega)
  have e25 : d1.1 25 = d.1 25 := e 25 (by omega)
  have e26 : d1.1 26 = d.1 26 := e 26 (by omega)
  have e27 : d1.1 27 = d.1 27 := e 27 (by omega)
  have e28 : d1.1 28 = d.1 28 := e 28 (by omega)
  have e29 : d1.1 29 = d.1 29 := e 29 (by omega)
  have e30 : d1.1 30 = d.1 30 := e 30 (by omega)
  have e31 : d1.1 31 = d.1 31 := e 31 (by omega)
  have e57 : d1.1 57 = d.1 57 := e 57 (by omega)
  have e58 : d1.1 58 = d.1 58 := e 58 (by omega)
  have e59 : d1.1 59 = d.1 59 := e 59 (by omega)
  have e61 : d1.1 61 = d.1 61 := e 61 (by omega)
  have e62 : d1.1 62 = d.1 62 := e 62 (by omega)
  have eA : ∀ j, j < 15 → d1.1 (a + j) = d.1 (a + j) := fun j hj => by
    rcases hg.a with z | z <;> rw [z] <;> exact e _ (by omega)
  refine ⟨a, b, hg, ?_, ?_, hk a hg.2.2.2.2.1 hk0, ?_⟩
  · unfold q_TR at ht ⊢
    dsimp only at ht ⊢
    rw [e0, e1, e2, e57, e58]
    exact ht
  · dsimp only at hr ⊢
    rw [e24, e28]
    exact hr
  · rcases hl with ⟨h1, h2⟩ | ⟨t, h1, h2, h3, G, P, F, W, L, h4⟩
    · refine Or.inl ⟨h1, ?_⟩
      unfold q_NL at h2 ⊢
      have z0 : d1.1 a = d.1 a := eA 0 (by decide)
      have z9 : d1.1 (a + 9) = d.1 (a + 9) := eA 9 (by decide)
      dsimp only at h2 ⊢
      rw [z0, z9, e22, e24, e28]
      exact h2
    · refine Or.inr ⟨t, h1, h2, h3, G, P, F, W, L, ?_⟩
      have hA : ∀ j, j < 15 → q_rows d1 a j = q_rows d a j := eA
      have hT : ∀ j, j < 15 → q_rows d1 t j = q_rows d t j := fun j _ => e (t + j) (by omega)
      obtain ⟨p1, p2, p3, p4⟩ := h4
      refine ⟨q_L_congr hA hT p1, ?_, ?_, ?_⟩
      · dsimp only at p2 ⊢
        rw [e22, e59]
        exact q_N_congr hA hT p2
      · dsimp only at p3 ⊢
        rw [e24, e25, e26, e27, e61, e57]
        exact q_S_congr hA hT p3
      · dsimp only at p4 ⊢
        rw [e28, e29, e30, e31, e62, e57]
        exact q_S_congr hA hT p4
