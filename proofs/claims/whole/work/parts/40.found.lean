/-! tier two: loops as iterations, numbers, ways -/
def q_it {S : Type} (f : Nat → S → S) : Nat → S → S
  | 0, s => s
  | n + 1, s => f n (q_it f n s)
theorem q_it_congr {S : Type} {f g : Nat → S → S} : ∀ (n : Nat) (s : S), (∀ i, i < n → ∀ s, f i s = g i s) → q_it f n s = q_it g n s
  | 0, _, _ => rfl
  | n + 1, s, h => by
    show f n (q_it f n s) = g n (q_it g n s)
    rw [q_it_congr n s (fun i hi => h i (Nat.lt_succ_of_lt hi)), h n (Nat.lt_succ_self n)]
theorem q_n {i : Nat} (h : i < 2147483648) : (Int32.ofNat i).toNatClampNeg = i := Int32.toNatClampNeg_ofNat_of_lt h
theorem q_i {i : Nat} (h : i < 2147483648) : (Int32.ofNat i).toInt = i := Int32.toInt_ofNat_of_lt h
theorem q_s (i : Nat) : Int32.ofNat i + 1 = Int32.ofNat (i + 1) := by rw [Int32.ofNat_add]; rfl
theorem q_le {n i : Nat} (hn : n < 2147483648) (hi : i < 2147483648) : (Int32.ofNat n ≤ Int32.ofNat i) ↔ n ≤ i := by
  rw [Int32.le_iff_toInt_le, q_i hn, q_i hi]; omega
theorem q_lt {n i : Nat} (hn : n < 2147483648) (hi : i < 2147483648) : (Int32.ofNat n < Int32.ofNat i) ↔ n < i := by
  rw [Int32.lt_iff_toInt_lt, q_i hn, q_i hi]; omega
theorem q_neg {i : Nat} (hi : i < 2147483648) : ¬ (Int32.ofNat i < 0) := by
  rw [Int32.lt_iff_toInt_lt, q_i hi]
  have : (0 : Int32).toInt = 0 := rfl
  omega
theorem q_eq {n i : Nat} (hn : n < 2147483648) (hi : i < 2147483648) : (Int32.ofNat n = Int32.ofNat i) ↔ n = i := by
  constructor
  · intro h
    have := congrArg Int32.toInt h
    rw [q_i hn, q_i hi] at this
    omega
  · intro h; rw [h]
theorem q_mu {n : Nat} (hn : n < 2147483648) : j_mu (Int32.ofNat n) 0 = n := by
  unfold j_mu
  rw [q_i hn]
  have : (0 : Int32).toInt = 0 := rfl
  omega
theorem q_for' {S : Type} (G : Int32 → S → S) {n : Nat} (hn : n < 2147483648) (s : S) : ∀ (k m : Nat), m + k = n → j_for (Int32.ofNat n) G k (Int32.ofNat m) (q_it (fun i s => G (Int32.ofNat i) s) m s) = q_it (fun i s => G (Int32.ofNat i) s) n s
  | 0, m, h => by rw [Nat.add_zero] at h; rw [h]; rfl
  | k + 1, m, h => by
    show (if Int32.ofNat n ≤ Int32.ofNat m then _ else _) = _
    rw [if_neg (by rw [q_le hn (by omega)]; omega), q_s]
    exact q_for' G hn s k (m + 1) (by omega)
theorem q_for {S : Type} (G : Int32 → S → S) {n : Nat} (hn : n < 2147483648) (s : S) : j_for (Int32.ofNat n) G (j_mu (Int32.ofNat n) 0) 0 s = q_it (fun i s => G (Int32.ofNat i) s) n s := by
  rw [q_mu hn]
  exact q_for' G hn s n 0 (by omega)
theorem q_run' {S E : Type} {F : S → Option (S ⊕ E)} (st : Nat → S) {e : E} {n : Nat} (h : ∀ i, i < n → F (st i) = some (.inl (st (i + 1)))) (he : F (st n) = some (.inr e)) : ∀ (k m : Nat), m + k = n → ∀ u, k < u → j_wh F u (st m) = some e
  | 0, m, hm, u + 1, _ => by
    rw [Nat.add_zero] at hm
    show (F (st m)).bind _ = _
    rw [hm, he]; rfl
  | k + 1, m, hm, u + 1, hu => by
    show (F (st m)).bind _ = _
    rw [h m (by omega)]
    exact q_run' st h he k (m + 1) (by omega) u (by omega)
theorem q_run {S E : Type} {F : S → Option (S ⊕ E)} (st : Nat → S) {e : E} (n : Nat) (hn : n < 10000000000) (h : ∀ i, i < n → F (st i) = some (.inl (st (i + 1)))) (he : F (st n) = some (.inr e)) : j_wh F j_fuel (st 0) = some e :=
  q_run' st h he n 0 (by omega) j_fuel (by unfold j_fuel; omega)
theorem q_in {i n : Nat} (h : i < n) (hn : n < 2147483648) : ¬ j_out (Int32.ofNat i) n := by
  unfold j_out
  rw [q_n (by omega)]
  have := q_neg (i := i) (by omega)
  simp [this]
  omega
/-- an index: a small number -/
theorem q_idx {x : Int32} {n : Nat} (h1 : ¬ x < 0) (h2 : ¬ (Int32.ofNat n ≤ x)) (hn : n < 2147483648) : ∃ i, i < n ∧ x = Int32.ofNat i := by
  rw [Int32.lt_iff_toInt_lt] at h1
  rw [Int32.le_iff_toInt_le, q_i hn] at h2
  have h0 : (0 : Int32).toInt = 0 := rfl
  refine ⟨x.toInt.toNat, by omega, ?_⟩
  apply Int32.toInt_inj.mp
  rw [q_i (by omega)]
  omega
/-- ways -/
def q_cod (x : Nat → Int32) : Int32 := x 0 <<< 10 ||| x 1 <<< 8 ||| x 2 <<< 6 ||| x 3 <<< 4 ||| x 4 <<< 2 ||| x 5
def q_c6 (a b c d e f : Int32) : Int32 := a <<< 10 ||| b <<< 8 ||| c <<< 6 ||| d <<< 4 ||| e <<< 2 ||| f
def q_dg (x : Nat → Int32) : Prop := ∀ g, g < 6 → x g = 0 ∨ x g = 1 ∨ x g = 2
def q_f3 (a : Fin 3) : Int32 := Int32.ofNat a.val
theorem q_dg1 {v : Int32} (h : v = 0 ∨ v = 1 ∨ v = 2) : ∃ a : Fin 3, v = q_f3 a := by
  rcases h with h | h | h
  · exact ⟨0, h⟩
  · exact ⟨1, h⟩
  · exact ⟨2, h⟩
theorem q_dg6 {x : Nat → Int32} (h : q_dg x) : ∃ a b c d e f : Fin 3, x 0 = q_f3 a ∧ x 1 = q_f3 b ∧ x 2 = q_f3 c ∧ x 3 = q_f3 d ∧ x 4 = q_f3 e ∧ x 5 = q_f3 f := by
  obtain ⟨a, ha⟩ := q_dg1 (h 0 (by decide))
  obtain ⟨b, hb⟩ := q_dg1 (h 1 (by decide))
  obtain ⟨c, hc⟩ := q_dg1 (h 2 (by decide))
  obtain ⟨d, hd⟩ := q_dg1 (h 3 (by decide))
  obtain ⟨e, he⟩ := q_dg1 (h 4 (by decide))
  obtain ⟨f, hf⟩ := q_dg1 (h 5 (by decide))
  exact ⟨a, b, c, d, e, f, ha, hb, hc, hd, he, hf⟩
def q_F (a b c d e f : Fin 3) (k : Nat) : Int32 := match k with
  | 0 => q_f3 a
  | 1 => q_f3 b
  | 2 => q_f3 c
  | 3 => q_f3 d
  | 4 => q_f3 e
  | 5 => q_f3 f
  | _ => 0
theorem q_cod_F {x : Nat → Int32} {a b c d e f : Fin 3} (h : x 0 = q_f3 a ∧ x 1 = q_f3 b ∧ x 2 = q_f3 c ∧ x 3 = q_f3 d ∧ x 4 = q_f3 e ∧ x 5 = q_f3 f) : q_cod x = q_cod (q_F a b c d e f) := by
  unfold q_cod
  rw [h.1, h.2.1, h.2.2.1, h.2.2.2.1, h.2.2.2.2.1, h.2.2.2.2.2]
  rfl
theorem q_at_F {x : Nat → Int32} {a b c d e f : Fin 3} (h : x 0 = q_f3 a ∧ x 1 = q_f3 b ∧ x 2 = q_f3 c ∧ x 3 = q_f3 d ∧ x 4 = q_f3 e ∧ x 5 = q_f3 f) : ∀ k, k < 6 → x k = q_F a b c d e f k
  | 0, _ => h.1
  | 1, _ => h.2.1
  | 2, _ => h.2.2.1
  | 3, _ => h.2.2.2.1
  | 4, _ => h.2.2.2.2.1
  | 5, _ => h.2.2.2.2.2
  | n + 6, hk => absurd hk (by omega)
theorem q_hung_F : ∀ a b c d e f : Fin 3, ∀ g : Fin 6, f_X10_hungAt (q_cod (q_F a b c d e f)) (Int32.ofNat g.val) = q_F a b c d e f g.val := by decide +kernel
theorem q_with_F : ∀ a b c d e f : Fin 3, ∀ g : Fin 6, ∀ h : Fin 3, f_X10_with (q_cod (q_F a b c d e f)) (Int32.ofNat g.val) (q_f3 h) = q_cod (upd (q_F a b c d e f) g.val (q_f3 h)) := by decide +kernel
def q_cnt (x : Nat → Int32) : Nat → Nat
  | 0 => 0
  | n + 1 => if x n = 0 then q_cnt x n else q_cnt x n + 1
theorem q_hooks_F : ∀ a b c d e f : Fin 3, f_X10_hooksIn (q_cod (q_F a b c d e f)) = Int32.ofNat (q_cnt (q_F a b c d e f) 6) := by decide +kernel
theorem q_hung {x : Nat → Int32} (hx : q_dg x) {g : Nat} (hg : g < 6) : f_X10_hungAt (q_cod x) (Int32.ofNat g) = x g := by
  obtain ⟨a, b, c, d, e, f, h⟩ := q_dg6 hx
  rw [q_cod_F h, q_at_F h g hg]
  exact q_hung_F a b c d e f ⟨g, hg⟩
theorem q_dgF (a b c d e f : Fin 3) : q_dg (q_F a b c d e f) := by
  intro g hg
  have : ∀ a : Fin 3, q_f3 a = 0 ∨ q_f3 a = 1 ∨ q_f3 a = 2 := by decide
  match g, hg with
  | 0, _ => exact this a
  | 1, _ => exact this b
  | 2, _ => exact this c
  | 3, _ => exact this d
  | 4, _ => exact this e
  | 5, _ => exact this f
  | n + 6, hk => exact absurd hk (by omega)
theorem q_cod_congr {x y : Nat → Int32} (h : ∀ k, k < 6 → x k = y k) : q_cod x = q_cod y := by
  unfold q_cod
  rw [h 0 (by decide), h 1 (by decide), h 2 (by decide), h 3 (by decide), h 4 (by decide), h 5 (by decide)]
theorem q_cnt_congr {x y : Nat → Int32} : ∀ n, (∀ k, k < n → x k = y k) → q_cnt x n = q_cnt y n
  | 0, _ => rfl
  | n + 1, h => by
    show (if x n = 0 then q_cnt x n else q_cnt x n + 1) = (if y n = 0 then q_cnt y n else q_cnt y n + 1)
    rw [h n (Nat.lt_succ_self n), q_cnt_congr n (fun k hk => h k (Nat.lt_succ_of_lt hk))]
theorem q_with {x : Nat → Int32} (hx : q_dg x) {g : Nat} (hg : g < 6) {h : Int32} (hh : h = 0 ∨ h = 1 ∨ h = 2) : f_X10_with (q_cod x) (Int32.ofNat g) h = q_cod (upd x g h) := by
  obtain ⟨a, b, c, d, e, f, hf⟩ := q_dg6 hx
  obtain ⟨h, rfl⟩ := q_dg1 hh
  rw [q_cod_F hf, q_with_F a b c d e f ⟨g, hg⟩ h]
  apply q_cod_congr
  intro k hk
  unfold upd
  rw [← q_at_F hf k hk]
theorem q_hooks {x : Nat → Int32} (hx : q_dg x) : f_X10_hooksIn (q_cod x) = Int32.ofNat (q_cnt x 6) := by
  obtain ⟨a, b, c, d, e, f, h⟩ := q_dg6 hx
  rw [q_cod_F h, q_cnt_congr 6 (q_at_F h)]
  exact q_hooks_F a b c d e f
theorem q_cnt_le (x : Nat → Int32) : ∀ n, q_cnt x n ≤ n
  | 0 => Nat.le_refl _
  | n + 1 => by
    show (if x n = 0 then q_cnt x n else q_cnt x n + 1) ≤ n + 1
    have := q_cnt_le x n
    split <;> omega
/-- rows of the heap written -/
theorem q_sI_a (d : JD) (a k : Nat) (v : Int32) : (j_sI d a k v).1 a = upd (d.1 a) k v := by
  show (if a = a then _ else _) = _
  rw [if_pos rfl]
theorem q_sI_o {d : JD} {a k b : Nat} {v : Int32} (h : b ≠ a) : (j_sI d a k v).1 b = d.1 b := by
  show (if b = a then _ else _) = _
  rw [if_neg h]
theorem q_sI_2 (d : JD) (a k : Nat) (v : Int32) : (j_sI d a k v).2 = d.2 := rfl
/-- a whole row set -/
def q_row (d : JD) (a : Nat) (r : Nat → Int32) : JD := (fun b => if b = a then r else d.1 b, d.2)
theorem q_row_a (d : JD) (a : Nat) (r : Nat → Int32) : (q_row d a r).1 a = r := if_pos rfl
theorem q_row_o {d : JD} {a b : Nat} {r : Nat → Int32} (h : b ≠ a) : (q_row d a r).1 b = d.1 b := if_neg h
theorem q_sI_row (d : JD) (a k : Nat) (v : Int32) : j_sI d a k v = q_row d a (upd (d.1 a) k v) := by
  apply Prod.ext
  · funext b
    show (if b = a then upd (d.1 b) k v else d.1 b) = (if b = a then upd (d.1 a) k v else d.1 b)
    by_cases h : b = a
    · rw [if_pos h, if_pos h, h]
    · rw [if_neg h, if_neg h]
  · rfl
theorem q_row_row (d : JD) (a : Nat) (r r' : Nat → Int32) : q_row (q_row d a r) a r' = q_row d a r' := by
  apply Prod.ext
  · funext b
    show (if b = a then r' else (if b = a then r else d.1 b)) = (if b = a then r' else d.1 b)
    by_cases h : b = a
    · rw [if_pos h, if_pos h]
    · rw [if_neg h, if_neg h, if_neg h]
  · rfl
theorem q_row_self (d : JD) (a : Nat) : q_row d a (d.1 a) = d := by
  apply Prod.ext
  · funext b
    show (if b = a then d.1 a else d.1 b) = d.1 b
    by_cases h : b = a
    · rw [if_pos h, h]
    · rw [if_neg h]
  · rfl
/-- the first n of a row out of another -/
def q_mix (n : Nat) (x y : Nat → Int32) (k : Nat) : Int32 := if k < n then x k else y k
theorem q_mix_upd (n : Nat) (x y : Nat → Int32) : upd (q_mix n x y) n (x n) = q_mix (n + 1) x y := by
  funext k
  unfold upd q_mix
  by_cases h : k = n
  · rw [if_pos h, if_pos (by omega), h]
  · rw [if_neg h]
    by_cases h2 : k < n
    · rw [if_pos h2, if_pos (by omega)]
    · rw [if_neg h2, if_neg (by omega)]
theorem q_mix_0 (x y : Nat → Int32) : q_mix 0 x y = y := by
  funext k
  exact if_neg (Nat.not_lt_zero _)
theorem q_works (d : JD) : f_X13_works d = some (q_row d 60 (q_mix 6 (d.1 59) (d.1 60))) := by
  unfold f_X13_works
  have h := q_run (F := f_X13_works_w2) (fun i => (Int32.ofNat i, q_row d 60 (q_mix i (d.1 59) (d.1 60)))) 6 (by decide) (e := q_row d 60 (q_mix 6 (d.1 59) (d.1 60)))
    (fun i hi => by
      unfold f_X13_works_w2
      dsimp only
      rw [if_neg (by rw [show (6 : Int32) = Int32.ofNat 6 from rfl, q_le (by omega) (by omega)]; omega), if_neg (q_in (by omega) (by omega)), if_neg (q_in (by omega) (by omega)), q_s, q_n (by omega), q_sI_row, q_row_row, q_row_a, q_row_o (by decide), q_mix_upd])
    (by
      unfold f_X13_works_w2
      dsimp only
      rw [if_pos (by decide)])
  have e0 : (Int32.ofNat 0, q_row d 60 (q_mix 0 (d.1 59) (d.1 60))) = (0, d) := by rw [q_mix_0, q_row_self]; rfl
  rw [e0] at h
  rw [h]; rfl
