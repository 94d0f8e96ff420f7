/-! tier two: paths: apart, parts, estate -/
theorem q_fo_miss' {S R : Type} (st : Nat → S) {n : Nat} (hn : n < 2147483648) {G : Int32 → S → R ⊕ S} (h : ∀ i, i < n → G (Int32.ofNat i) (st i) = .inr (st (i + 1))) : ∀ (k m : Nat), m + k = n → j_fo (Int32.ofNat n) G k (Int32.ofNat m) (st m) = .inr (st n)
  | 0, m, hm => by rw [Nat.add_zero] at hm; rw [hm]; rfl
  | k + 1, m, hm => by
    rw [q_fo_s, if_neg (by rw [q_le hn (by omega)]; omega), q_s, h m (by omega)]
    exact q_fo_miss' st hn h k (m + 1) (by omega)
theorem q_fo_miss {S R : Type} (st : Nat → S) {n : Nat} (hn : n < 2147483648) {G : Int32 → S → R ⊕ S} (h : ∀ i, i < n → G (Int32.ofNat i) (st i) = .inr (st (i + 1))) : j_fo (Int32.ofNat n) G (j_mu (Int32.ofNat n) 0) 0 (st 0) = .inr (st n) := by
  rw [q_mu hn]
  exact q_fo_miss' st hn h n 0 (by omega)
theorem q_fo_hit' {S R : Type} (st : Nat → S) {n : Nat} (hn : n < 2147483648) {G : Int32 → S → R ⊕ S} {j : Nat} {r : R} (h : ∀ i, i < j → G (Int32.ofNat i) (st i) = .inr (st (i + 1))) (hr : G (Int32.ofNat j) (st j) = .inl r) : ∀ (k m l : Nat), m + k = n → m + l = j → j < n → j_fo (Int32.ofNat n) G k (Int32.ofNat m) (st m) = .inl r
  | 0, m, l, hm, hl, hj => absurd hj (by omega)
  | k + 1, m, 0, hm, hl, hj => by
    rw [q_fo_s, if_neg (by rw [q_le hn (by omega)]; omega)]
    rw [Nat.add_zero] at hl
    rw [hl, hr]; rfl
  | k + 1, m, l + 1, hm, hl, hj => by
    rw [q_fo_s, if_neg (by rw [q_le hn (by omega)]; omega), q_s, h m (by omega)]
    exact q_fo_hit' st hn h hr k (m + 1) l (by omega) (by omega) hj
theorem q_fo_hit {S R : Type} (st : Nat → S) {n j : Nat} (hn : n < 2147483648) (hj : j < n) {G : Int32 → S → R ⊕ S} {r : R} (h : ∀ i, i < j → G (Int32.ofNat i) (st i) = .inr (st (i + 1))) (hr : G (Int32.ofNat j) (st j) = .inl r) : j_fo (Int32.ofNat n) G (j_mu (Int32.ofNat n) 0) 0 (st 0) = .inl r := by
  rw [q_mu hn]
  exact q_fo_hit' st hn h hr n 0 j (by omega) (by omega) hj
def q_cl (G : Nat) (e : Nat → Nat) (k m : Nat) : Nat := q_it (fun _ s => q_wd G e s) k m
theorem q_cl_s (G : Nat) (e : Nat → Nat) (k m : Nat) : q_cl G e (k + 1) m = q_wd G e (q_cl G e k m) := rfl
theorem q_cl_lt {G : Nat} {e : Nat → Nat} (he : ∀ g, g < G → e g < 2 ^ G) {m : Nat} (hm : m < 2 ^ G) : ∀ k, q_cl G e k m < 2 ^ G
  | 0 => hm
  | k + 1 => q_wd_lt he (q_cl_lt he hm k)
theorem q_cl_up {G : Nat} {e : Nat → Nat} {m : Nat} : ∀ j k, q_su (q_cl G e k m) (q_cl G e (k + j) m)
  | 0, k => fun _ h => h
  | j + 1, k => fun i h => q_su_wd _ i (q_cl_up j k i h)
theorem q_cl_G {G : Nat} (hG1 : 1 ≤ G) (hG : G ≤ 6) {e : Nat → Nat} (he : ∀ g, g < G → e g < 2 ^ G) {m : Nat} (hm : m < 2 ^ G) : ∀ k, G - 1 ≤ k → q_wd G e (q_cl G e k m) = q_cl G e k m ∧ q_cl G e k m = q_cl G e (G - 1) m :=
  q_stabG hG1 hG (f := q_wd G e) (Q := fun m => m < 2 ^ G) (fun m h => ⟨h, q_wd_lt he h, q_su_wd m⟩) hm (fun z => by rw [z, q_wd0])
/-- one gate is come to from another -/
def q_to (G : Nat) (e : Nat → Nat) (q k : Nat) : Prop := (q_cl G e (G - 1) (2 ^ q)).testBit k = true
theorem q_cl_sub {G : Nat} {e : Nat → Nat} {m c : Nat} (hc : q_wd G e c = c) (h : q_su m c) : ∀ k, q_su (q_cl G e k m) c
  | 0 => h
  | k + 1 => fun i hi => by
    rw [← hc]
    exact q_wd_mono (q_cl_sub hc h k) i hi
theorem q_2lt {G q : Nat} (hq : q < G) : 2 ^ q < 2 ^ G := Nat.pow_lt_pow_right (by decide) hq
theorem q_to_trans {G : Nat} (hG1 : 1 ≤ G) (hG : G ≤ 6) {e : Nat → Nat} (he : ∀ g, g < G → e g < 2 ^ G) {q g k : Nat} (hq : q < G) (h1 : q_to G e q g) (h2 : q_to G e g k) : q_to G e q k := by
  refine q_cl_sub (q_cl_G hG1 hG he (q_2lt hq) (G - 1) (Nat.le_refl _)).1 ?_ (G - 1) k h2
  intro i hi
  rw [Nat.testBit_two_pow] at hi
  have := of_decide_eq_true hi
  rw [← this]; exact h1
theorem q_to_self (G : Nat) (e : Nat → Nat) (q : Nat) : q_to G e q q := by
  have := q_cl_up (G := G) (e := e) (m := 2 ^ q) (G - 1) 0 q (by show (2 ^ q).testBit q = true; rw [Nat.testBit_two_pow]; exact decide_eq_true rfl)
  rw [Nat.zero_add] at this
  exact this
section QP
variable {G P F W L : Nat} {A T : Nat → Nat → Int32}
theorem q_fstp (h : q_LR G P F W L A T) {g k : Nat} (hg : g < G) (hk : k < G) : ∃ r : Int32, f_X3_fewestPaths (A 0) (A 6) (Int32.ofNat g) (Int32.ofNat k) = r ∧ f_X13_steps (T 0) (T 7) (Int32.ofNat g) (Int32.ofNat k) = some r ∧ (r = -2 ↔ ¬ q_to G (q_ed (A 6)) g k) := by
  have hG1 := h.1.1.1
  have hG := h.1.1.2.1
  have he : ∀ g, g < G → q_ed (A 6) g < 2 ^ G := fun g hg => (q_edE h hg).2
  have hlt := q_cl_lt he (q_2lt hg)
  have h64 : ∀ i, q_cl G (q_ed (A 6)) i (2 ^ g) < 64 := fun i => q_26 hG (hlt i)
  have hb : ∀ i, f_X11_hasBit (Int32.ofNat (q_cl G (q_ed (A 6)) i (2 ^ g))) (Int32.ofNat k) = (q_cl G (q_ed (A 6)) i (2 ^ g)).testBit k := fun i => q_hb (h64 i) (by omega)
  have hw : ∀ i, f_X3_widened (A 0) (A 6) (Int32.ofNat (q_cl G (q_ed (A 6)) i (2 ^ g))) = Int32.ofNat (q_cl G (q_ed (A 6)) (i + 1) (2 ^ g)) := fun i => q_wdC h (hlt i)
  have hM := q_wdM h
  have h1 : (1 : Int32) <<< (Int32.ofNat g &&& 31) = Int32.ofNat (q_cl G (q_ed (A 6)) 0 (2 ^ g)) := q_one (by omega)
  have k1 := h.1.2.1.2
  have stepC : ∀ i, ¬ (q_cl G (q_ed (A 6)) i (2 ^ g)).testBit k = true → f_X3_fewestPaths_b7 (A 0) (A 6) (Int32.ofNat k) (Int32.ofNat i) (Int32.ofNat (q_cl G (q_ed (A 6)) i (2 ^ g))) = .inr (Int32.ofNat (q_cl G (q_ed (A 6)) (i + 1) (2 ^ g))) := by
    intro i c
    unfold f_X3_fewestPaths_b7
    rw [hb, if_neg c, hw]
  have stepM : ∀ i, i < G → ¬ (q_cl G (q_ed (A 6)) i (2 ^ g)).testBit k = true → f_X13_steps_w7 (T 0) (T 7) (Int32.ofNat k) (Int32.ofNat (q_cl G (q_ed (A 6)) i (2 ^ g)), Int32.ofNat i) = some (.inl (Int32.ofNat (q_cl G (q_ed (A 6)) (i + 1) (2 ^ g)), Int32.ofNat (i + 1))) := by
    intro i hi c
    have k2 := q_go (n := G) (by omega) hi
    unfold f_X13_steps_w7
    dsimp only
    rw [k1, if_neg k2, q_bit, hb, if_neg c, hM, Option.bind_some, hw, q_s]
  rcases q_least (p := fun i => ¬ (q_cl G (q_ed (A 6)) i (2 ^ g)).testBit k = true) G with hall | ⟨j, hj, hnj, hlt'⟩
  · have hall6 : ∀ i, ¬ (q_cl G (q_ed (A 6)) i (2 ^ g)).testBit k = true := by
      intro i
      by_cases c : i < G
      · exact hall i c
      · rw [(q_cl_G hG1 hG he (q_2lt hg) i (by omega)).2]
        exact hall (G - 1) (by omega)
    refine ⟨-2, ?_, ?_, ?_⟩
    · have l := q_fo_miss (n := 6) (R := Int32) (fun i => Int32.ofNat (q_cl G (q_ed (A 6)) i (2 ^ g))) (by decide) (G := f_X3_fewestPaths_b7 (A 0) (A 6) (Int32.ofNat k)) (fun i hi => stepC i (hall6 i))
      unfold f_X3_fewestPaths j_let
      rw [h1, show (6 : Int32) = Int32.ofNat 6 from rfl, l]
      rfl
    · have l := q_run (F := f_X13_steps_w7 (T 0) (T 7) (Int32.ofNat k)) (fun i => (Int32.ofNat (q_cl G (q_ed (A 6)) i (2 ^ g)), Int32.ofNat i)) (e := .inr ()) G (by omega) (fun i hi => stepM i hi (hall i hi)) (by
        unfold f_X13_steps_w7
        dsimp only
        rw [k1, if_pos (q_end (by omega))])
      unfold f_X13_steps
      rw [h1, show ((Int32.ofNat (q_cl G (q_ed (A 6)) 0 (2 ^ g)), 0) : Int32 × Int32) = (Int32.ofNat (q_cl G (q_ed (A 6)) 0 (2 ^ g)), Int32.ofNat 0) from rfl, l]
      rfl
    · exact ⟨fun _ => hall (G - 1) (by omega), fun _ => rfl⟩
  · have hyes : (q_cl G (q_ed (A 6)) j (2 ^ g)).testBit k = true := Classical.not_not.mp hnj
    refine ⟨Int32.ofNat j, ?_, ?_, ?_⟩
    · have l := q_fo_hit (n := 6) (R := Int32) (fun i => Int32.ofNat (q_cl G (q_ed (A 6)) i (2 ^ g))) (by decide) (j := j) (by omega) (G := f_X3_fewestPaths_b7 (A 0) (A 6) (Int32.ofNat k)) (r := Int32.ofNat j) (fun i hi => stepC i (hlt' i hi)) (by
        unfold f_X3_fewestPaths_b7
        rw [hb, if_pos hyes])
      unfold f_X3_fewestPaths j_let
      rw [h1, show (6 : Int32) = Int32.ofNat 6 from rfl, l]
      rfl
    · have l := q_run (F := f_X13_steps_w7 (T 0) (T 7) (Int32.ofNat k)) (fun i => (Int32.ofNat (q_cl G (q_ed (A 6)) i (2 ^ g)), Int32.ofNat i)) (e := .inl (Int32.ofNat j)) j (by omega) (fun i hi => stepM i (by omega) (hlt' i hi)) (by
        unfold f_X13_steps_w7
        dsimp only
        rw [k1, if_neg (q_go (by omega) hj), q_bit, hb, if_pos hyes])
      unfold f_X13_steps
      rw [h1, show ((Int32.ofNat (q_cl G (q_ed (A 6)) 0 (2 ^ g)), 0) : Int32 × Int32) = (Int32.ofNat (q_cl G (q_ed (A 6)) 0 (2 ^ g)), Int32.ofNat 0) from rfl, l]
      rfl
    · refine ⟨fun z => absurd z (q_ne2 (by omega)), fun z => absurd ?_ z⟩
      have := q_cl_up (G := G) (e := q_ed (A 6)) (m := 2 ^ g) (G - 1 - j) j k hyes
      rw [show j + (G - 1 - j) = G - 1 by omega] at this
      exact this
end QP
theorem q_it_c {S : Type} (f : S → S) : ∀ (k : Nat) (s : S), q_it (fun _ s => f s) (k + 1) s = q_it (fun _ s => f s) k (f s)
  | 0, _ => rfl
  | k + 1, s => by
    show f (q_it (fun _ s => f s) (k + 1) s) = f (q_it (fun _ s => f s) k (f s))
    rw [q_it_c f k s]
theorem q_forc {S : Type} {b : Int32 → S → S} {f : S → S} (hb : ∀ i s, b i s = f s) {n : Nat} (hn : n < 2147483648) : ∀ (k m : Nat) (s : S), m + k = n → j_for (Int32.ofNat n) b k (Int32.ofNat m) s = q_it (fun _ s => f s) k s
  | 0, m, s, _ => rfl
  | k + 1, m, s, hm => by
    show (if Int32.ofNat n ≤ Int32.ofNat m then _ else _) = _
    rw [if_neg (by rw [q_le hn (by omega)]; omega), q_s, q_forc hb hn k (m + 1) _ (by omega), q_it_c, hb]
section QP2
variable {G P F W L : Nat} {A T : Nat → Nat → Int32}
def q_tg (G : Nat) (e : Nat → Nat) (o k m : Nat) : Nat := q_it (fun _ s => q_wd G e s &&& o) k m
theorem q_and_su {a b : Nat} (h : q_su a b) : a &&& b = a := by
  apply Nat.eq_of_testBit_eq
  intro k
  rw [Nat.testBit_and]
  cases c : a.testBit k with
  | false => rfl
  | true => rw [h k c]; rfl
theorem q_su_and (a b : Nat) : q_su (a &&& b) b := fun k hk => by
  rw [Nat.testBit_and, Bool.and_eq_true] at hk
  exact hk.2
theorem q_tg_G {G : Nat} (hG1 : 1 ≤ G) (hG : G ≤ 6) {e : Nat → Nat} (he : ∀ g, g < G → e g < 2 ^ G) {m o : Nat} (hm : m < 2 ^ G) (hmo : q_su m o) : ∀ k, G - 1 ≤ k → q_tg G e o k m = q_tg G e o (G - 1) m := fun k hk =>
  (q_stabG hG1 hG (f := fun s => q_wd G e s &&& o) (Q := fun m => m < 2 ^ G ∧ q_su m o) (fun m h => ⟨h.1, ⟨Nat.lt_of_le_of_lt Nat.and_le_left (q_wd_lt he h.1), q_su_and _ _⟩, fun i hi => by
    rw [Nat.testBit_and, Bool.and_eq_true]
    exact ⟨q_su_wd m i hi, h.2 i hi⟩⟩) ⟨hm, hmo⟩ (fun z => by rw [z, q_wd0, Nat.zero_and]) k hk).2
theorem q_tg_lt {G : Nat} {e : Nat → Nat} (he : ∀ g, g < G → e g < 2 ^ G) {m o : Nat} (hm : m < 2 ^ G) : ∀ k, q_tg G e o k m < 2 ^ G
  | 0 => hm
  | k + 1 => Nat.lt_of_le_of_lt Nat.and_le_left (q_wd_lt he (q_tg_lt he hm k))
theorem q_togC (h : q_LR G P F W L A T) {g o : Nat} (hg : g < G) (ho : o < 2 ^ G) : f_X3_together (A 0) (A 6) (Int32.ofNat g) (Int32.ofNat o) = Int32.ofNat (q_tg G (q_ed (A 6)) o (G - 1) (2 ^ g &&& o)) := by
  have hG1 := h.1.1.1
  have hG := h.1.1.2.1
  have he : ∀ g, g < G → q_ed (A 6) g < 2 ^ G := fun g hg => (q_edE h hg).2
  have hm : 2 ^ g &&& o < 2 ^ G := Nat.lt_of_le_of_lt Nat.and_le_left (q_2lt hg)
  unfold f_X3_together j_let
  dsimp only
  rw [q_one (by omega), q_and, show (6 : Int32) = Int32.ofNat 6 from rfl, q_mu1 (by decide), show (1 : Int32) = Int32.ofNat 1 from rfl]
  show j_for (Int32.ofNat 6) (f_X3_together_b9 (A 0) (A 6) (Int32.ofNat o)) 5 (Int32.ofNat 1) (Int32.ofNat (2 ^ g &&& o)) = _
  rw [q_forc (b := f_X3_together_b9 (A 0) (A 6) (Int32.ofNat o)) (f := fun s => f_X3_widened (A 0) (A 6) s &&& Int32.ofNat o) (fun _ _ => rfl) (n := 6) (by decide) 5 1 (Int32.ofNat (2 ^ g &&& o)) rfl]
  have : ∀ k, q_it (fun _ s => f_X3_widened (A 0) (A 6) s &&& Int32.ofNat o) k (Int32.ofNat (2 ^ g &&& o)) = Int32.ofNat (q_tg G (q_ed (A 6)) o k (2 ^ g &&& o)) := by
    intro k
    induction k with
    | zero => rfl
    | succ k ih =>
      show f_X3_widened (A 0) (A 6) (q_it _ k _) &&& Int32.ofNat o = _
      rw [ih, q_wdC h (q_tg_lt he hm k), q_and]
      rfl
  rw [this, q_tg_G hG1 hG he hm (q_su_and _ _) 5 (by omega)]
theorem q_ownN (h : q_LR G P F W L A T) (p w : Int32) : ∃ o, o < 2 ^ G ∧ f_X3_gatesOwned (A 0) (A 7) p w = Int32.ofNat o := by
  have hG := h.1.1.2.1
  unfold f_X3_gatesOwned j_let
  dsimp only
  rw [h.1.2.1.1, q_for _ (by omega)]
  have : ∀ n, n ≤ G → ∃ o, o < 2 ^ G ∧ q_it (fun i s => f_X3_gatesOwned_b5 (A 0) (A 7) p w (Int32.ofNat i) s) n 0 = Int32.ofNat o := by
    intro n
    induction n with
    | zero => exact fun _ => ⟨0, Nat.two_pow_pos G, rfl⟩
    | succ n ih =>
      intro hn
      obtain ⟨o, h1, h2⟩ := ih (by omega)
      show ∃ o, o < 2 ^ G ∧ f_X3_gatesOwned_b5 (A 0) (A 7) p w (Int32.ofNat n) (q_it _ n 0) = Int32.ofNat o
      rw [h2]
      unfold f_X3_gatesOwned_b5 f_X3_gatesOwned_j35_5
      split
      · exact ⟨o ||| 2 ^ n, Nat.or_lt_two_pow h1 (q_2lt (by omega)), by rw [q_one (by omega), q_or]⟩
      · exact ⟨o, h1, rfl⟩
  exact this G (Nat.le_refl G)
end QP2
theorem qk_apart {G P F W L a t : Nat} {d : JD} (hL : q_LR G P F W L (q_rows d a) (q_rows d t)) (hN : q_NR G (q_rows d a) (q_rows d t) (d.1 22 0) (d.1 22 1) (d.1 22 2) (d.1 59)) (h68 : 68 ≤ t) (pq0 pq1 : Int32) : ∃ (x : Int32) (w : Int32) (d2 : JD), f_X11_apart a d pq0 pq1 = (x, j_sI d 0 11 w) ∧ f_X13_apart t (j_sI d 0 11 w) pq0 pq1 = some (x, d2) ∧ q_ans d d2 w := by
  have eT : ∀ w, (q_dM d w).1 t = d.1 t := fun w => q_dM_o (by omega) (by omega)
  have eT7 : ∀ w, (q_dM d w).1 (t + 7) = d.1 (t + 7) := fun w => q_dM_o (by omega) (by omega)
  have eg' : ∀ p, f_X13_isGate (d.1 t) p = f_X11_isGate (d.1 a) p := fun p => q_isg (A := q_rows d a) (T := q_rows d t) hL p
  have eg : ∀ w p, f_X13_isGate ((q_dM d w).1 t) p = f_X11_isGate (d.1 a) p := fun w p => by rw [eT]; exact eg' p
  by_cases h1 : f_X11_isGate (d.1 a) pq0 = true
  · by_cases h2 : f_X11_isGate (d.1 a) pq1 = true
    · obtain ⟨i, hi, e1⟩ := q_isg' (A := q_rows d a) (T := q_rows d t) hL h1
      obtain ⟨j, hj, e2⟩ := q_isg' (A := q_rows d a) (T := q_rows d t) hL h2
      obtain ⟨r, r1, r2, -⟩ := q_fstp (A := q_rows d a) (T := q_rows d t) hL hi hj
      rw [← e1, ← e2] at r1 r2
      have r1' : f_X3_fewestPaths (d.1 a) (d.1 (a + 6)) pq0 pq1 = r := r1
      have r2' : f_X13_steps (d.1 t) (d.1 (t + 7)) pq0 pq1 = some r := r2
      refine ⟨r, 0, q_fin (q_dM d 0) 0, ?_, ?_, q_ansd d (by decide)⟩
      · unfold f_X11_apart j_let
        simp only [h1, h2, r1', q_xan, if_true]
      · unfold f_X13_apart j_let
        simp only [q_dMe, eg', h1, h2, eT, eT7, r2', Option.bind_some, q_good, if_true]
    · refine ⟨-1, 1, q_fin (q_dM d 1) 1, ?_, ?_, q_ansd d (by decide)⟩
      · unfold f_X11_apart f_X11_apart_j16 j_let
        simp only [h1, h2, q_xre, if_true, if_false, Bool.false_eq_true]
      · unfold f_X13_apart f_X13_apart_j34 j_let
        simp only [q_dMe, eg, h1, h2, q_ref, if_true, if_false, Bool.false_eq_true]
  · refine ⟨-1, 1, q_fin (q_dM d 1) 1, ?_, ?_, q_ansd d (by decide)⟩
    · unfold f_X11_apart f_X11_apart_j16 j_let
      simp only [h1, q_xre, if_false, Bool.false_eq_true]
    · unfold f_X13_apart f_X13_apart_j34 j_let
      simp only [q_dMe, eg, h1, q_ref, if_false, Bool.false_eq_true]
theorem qk_estate {G P F W L a t : Nat} {d : JD} (hL : q_LR G P F W L (q_rows d a) (q_rows d t)) (hN : q_NR G (q_rows d a) (q_rows d t) (d.1 22 0) (d.1 22 1) (d.1 22 2) (d.1 59)) (h68 : 68 ≤ t) (pq0 pq1 : Int32) : ∃ (x : Int32) (w : Int32) (d2 : JD), f_X11_estate a d pq0 pq1 = (x, j_sI d 0 11 w) ∧ f_X13_estate t (j_sI d 0 11 w) pq0 pq1 = some (x, d2) ∧ q_ans d d2 w := by
  have hG1 := hL.1.1.1
  have hG := hL.1.1.2.1
  have eT : ∀ w, (q_dM d w).1 t = d.1 t := fun w => q_dM_o (by omega) (by omega)
  have eg' : ∀ p, f_X13_isGate (d.1 t) p = f_X11_isGate (d.1 a) p := fun p => q_isg (A := q_rows d a) (T := q_rows d t) hL p
  have eg : ∀ w p, f_X13_isGate ((q_dM d w).1 t) p = f_X11_isGate (d.1 a) p := fun w p => by rw [eT]; exact eg' p
  have ep : ∀ w p, f_X13_isPerson ((q_dM d w).1 t) p = f_X11_isPerson (d.1 a) p := fun w p => by rw [eT]; exact q_isp (A := q_rows d a) (T := q_rows d t) hL p
  have e4 : d.1 a 4 = Int32.ofNat G := hL.1.2.1.1
  have e4' : d.1 t 4 = Int32.ofNat G := hL.1.2.1.2
  by_cases h1 : f_X11_isPerson (d.1 a) pq0 = true
  · by_cases h2 : f_X11_isGate (d.1 a) pq1 = true
    · obtain ⟨j, hj, e2⟩ := q_isg' (A := q_rows d a) (T := q_rows d t) hL h2
      obtain ⟨d3, w1, w2, w3, w4, w5, w6⟩ := q_wk d 0
      have kt : ∀ j, d3.1 (t + j) = d.1 (t + j) := fun j => w4 _ (by omega) (by omega) (by omega)
      have kt0 : d3.1 t = d.1 t := kt 0
      obtain ⟨hx, hc⟩ := q_way hN w6
      have hb := q_ownedM (A := q_rows d a) (T := q_rows d t) hL hx pq0
      rw [hc] at hb
      have hb' : f_X13_owned (d3.1 60) (d.1 t) (d.1 (t + 1)) (d.1 (t + 2)) (d.1 (t + 3)) (d.1 (t + 4)) pq0 = some (f_X3_gatesOwned (d.1 a) (d.1 (a + 7)) pq0 (d.1 22 0)) := hb
      obtain ⟨o, ho, eo⟩ := q_ownN (A := q_rows d a) (T := q_rows d t) hL pq0 (d.1 22 0)
      have eo' : f_X3_gatesOwned (d.1 a) (d.1 (a + 7)) pq0 (d.1 22 0) = Int32.ofNat o := eo
      have he : ∀ g, g < G → q_ed (d.1 (a + 6)) g < 2 ^ G := fun g hg => (q_edE (A := q_rows d a) (T := q_rows d t) hL hg).2
      have hm : 2 ^ j &&& o < 2 ^ G := Nat.lt_of_le_of_lt Nat.and_le_left (q_2lt hj)
      have tc := q_togC (A := q_rows d a) (T := q_rows d t) hL hj ho
      rw [← e2] at tc
      have tc' : f_X3_together (d.1 a) (d.1 (a + 6)) pq1 (Int32.ofNat o) = Int32.ofNat (q_tg G (q_ed (d.1 (a + 6))) o (G - 1) (2 ^ j &&& o)) := tc
      have wm : ∀ x, f_X13_around (d.1 t) (d.1 (t + 7)) x = some (f_X3_widened (d.1 a) (d.1 (a + 6)) x) := q_wdM (A := q_rows d a) (T := q_rows d t) hL
      have wc : ∀ m, m < 2 ^ G → f_X3_widened (d.1 a) (d.1 (a + 6)) (Int32.ofNat m) = Int32.ofNat (q_wd G (q_ed (d.1 (a + 6))) m) := fun m hm => q_wdC (A := q_rows d a) (T := q_rows d t) hL hm
      have v0 : Int32.ofNat o &&& (1 : Int32) <<< (pq1 &&& 31) = Int32.ofNat (q_tg G (q_ed (d.1 (a + 6))) o 0 (2 ^ j &&& o)) := by
        rw [e2, q_one (by omega), q_and, Nat.and_comm]; rfl
      have l1 := q_run (F := f_X13_estate_w47 t pq0 (Int32.ofNat o) d3) (fun i => (Int32.ofNat (q_tg G (q_ed (d.1 (a + 6))) o i (2 ^ j &&& o)), Int32.ofNat i)) (e := Int32.ofNat (q_tg G (q_ed (d.1 (a + 6))) o G (2 ^ j &&& o))) G (by omega) (fun i hi => by
        have k2 := q_go (n := G) (by omega) hi
        unfold f_X13_estate_w47
        dsimp only
        rw [kt0, kt, e4', if_neg k2, wm, Option.bind_some, wc _ (q_tg_lt he hm i), q_and, q_s]
        rfl) (by
        unfold f_X13_estate_w47
        dsimp only
        rw [kt0, e4', if_pos (q_end (by omega))])
      rw [q_tg_G hG1 hG he hm (q_su_and _ _) G (by omega)] at l1
      generalize Int32.ofNat (q_tg G (q_ed (d.1 (a + 6))) o (G - 1) (2 ^ j &&& o)) = S at tc' l1
      have l2 : j_wh (f_X13_estate_w81 t pq0 S d3) j_fuel (0, 0) = some (j_for (Int32.ofNat G) (f_X3_wealthAt_b6 (d.1 a) (d.1 (a + 7)) (d.1 (a + 8)) pq0 (d.1 22 0) S) (j_mu (Int32.ofNat G) 0) 0 0) := by
        refine q_loop (n := G) (by omega) ?_ ?_
        · intro i hi s
          have k2 := q_go (n := G) (by omega) hi
          have k3 : ¬ j_out (Int32.ofNat i) 6 := q_in (by omega) (by decide)
          have k5 : (Int32.ofNat i).toNatClampNeg = i := q_n (by omega)
          obtain ⟨h3, h4⟩ := q_d3 hx (g := i) (by omega)
          have k6 := q_shIf (A := q_rows d a) (T := q_rows d t) hL hi h4 pq0
          rw [← h3] at k6
          have k6' : f_X13_shareIf (d.1 (t + 1)) (d.1 (t + 2)) (d.1 (t + 3)) (d.1 (t + 4)) (d.1 (t + 5)) pq0 (Int32.ofNat i) (d3.1 60 i) = some (q_sh (d.1 (a + 7)) (d.1 (a + 8)) pq0 i (d3.1 60 i).toNatClampNeg) := k6
          have k7 := q_share hx (g := i) (by omega) (d.1 (a + 7)) (d.1 (a + 8)) pq0
          rw [hc] at k7
          unfold f_X13_estate_w81 f_X13_estate_j123_81 f_X3_wealthAt_b6 f_X3_wealthAt_j37_6
          simp only [kt, kt0, e4', k2, if_false, q_bit, q_s]
          by_cases c : f_X11_hasBit S (Int32.ofNat i) = true
          · simp only [c, if_true, k3, if_false, k5, k6', k7, Option.bind_some]
          · simp only [c, if_false, Int32.add_zero, Bool.false_eq_true]
        · intro s
          have k2 := q_end (n := G) (by omega)
          unfold f_X13_estate_w81
          simp only [kt0, e4', k2, if_true]
      refine ⟨j_for (Int32.ofNat G) (f_X3_wealthAt_b6 (d.1 a) (d.1 (a + 7)) (d.1 (a + 8)) pq0 (d.1 22 0) S) (j_mu (Int32.ofNat G) 0) 0 0, 0, q_fin d3 0, ?_, ?_, q_fin_ans w2 w3 (by decide)⟩
      · unfold f_X11_estate f_X3_wealthAt j_let
        simp only [h1, h2, eo', tc', e4, q_xan, if_true]
      · unfold f_X13_estate j_let
        rw [q_dMe, ep, if_pos h1, eg, if_pos h2, w1, Option.bind_some, kt0, kt, kt, kt, kt, hb', Option.bind_some, eo']
        dsimp only
        rw [v0]
        have l1' : j_wh (f_X13_estate_w47 t pq0 (Int32.ofNat o) d3) j_fuel (Int32.ofNat (q_tg G (q_ed (d.1 (a + 6))) o 0 (2 ^ j &&& o)), 0) = some S := l1
        rw [l1', Option.bind_some, l2, Option.bind_some, q_good]
    · refine ⟨-1, 1, q_fin (q_dM d 1) 1, ?_, ?_, q_ansd d (by decide)⟩
      · unfold f_X11_estate f_X11_estate_j16 j_let
        simp only [h1, h2, q_xre, if_true, if_false, Bool.false_eq_true]
      · unfold f_X13_estate f_X13_estate_j21 j_let
        simp only [q_dMe, ep, eg, h1, h2, q_ref, if_true, if_false, Bool.false_eq_true]
  · refine ⟨-1, 1, q_fin (q_dM d 1) 1, ?_, ?_, q_ansd d (by decide)⟩
    · unfold f_X11_estate f_X11_estate_j16 j_let
      simp only [h1, q_xre, if_false, Bool.false_eq_true]
    · unfold f_X13_estate f_X13_estate_j21 j_let
      simp only [q_dMe, ep, h1, q_ref, if_false, Bool.false_eq_true]
theorem qk_parts {G P F W L a t : Nat} {d : JD} (hL : q_LR G P F W L (q_rows d a) (q_rows d t)) (hN : q_NR G (q_rows d a) (q_rows d t) (d.1 22 0) (d.1 22 1) (d.1 22 2) (d.1 59)) (h68 : 68 ≤ t) : ∃ (x : Int32) (w : Int32) (d2 : JD), f_X11_parts a d = (x, j_sI d 0 11 w) ∧ f_X13_parts t (j_sI d 0 11 w) = some (x, d2) ∧ q_ans d d2 w := by
  have hG1 := hL.1.1.1
  have hG := hL.1.1.2.1
  have k1 : f_X11_hasLand (d.1 a) = true := q_hl1 (A := q_rows d a) (T := q_rows d t) hL
  have eT : (q_dM d 0).1 t = d.1 t := q_dM_o (by omega) (by omega)
  have eT7 : (q_dM d 0).1 (t + 7) = d.1 (t + 7) := q_dM_o (by omega) (by omega)
  have e4 : d.1 a 4 = Int32.ofNat G := hL.1.2.1.1
  have e4' : d.1 t 4 = Int32.ofNat G := hL.1.2.1.2
  have he : ∀ g, g < G → q_ed (d.1 (a + 6)) g < 2 ^ G := fun g hg => (q_edE (A := q_rows d a) (T := q_rows d t) hL hg).2
  obtain ⟨f1, f2, f3⟩ := q_pow1 hG1 hG
  have tg : ∀ g, g < G → f_X3_together (d.1 a) (d.1 (a + 6)) (Int32.ofNat g) (Int32.ofNat (2 ^ G - 1)) = Int32.ofNat (q_cl G (q_ed (d.1 (a + 6))) (G - 1) (2 ^ g)) := by
    intro g hg
    have z := q_togC (A := q_rows d a) (T := q_rows d t) hL hg f2
    have z' : f_X3_together (d.1 a) (d.1 (a + 6)) (Int32.ofNat g) (Int32.ofNat (2 ^ G - 1)) = Int32.ofNat (q_tg G (q_ed (d.1 (a + 6))) (2 ^ G - 1) (G - 1) (2 ^ g &&& (2 ^ G - 1))) := z
    rw [z', Nat.and_two_pow_sub_one_eq_mod, Nat.mod_eq_of_lt (q_2lt hg)]
    congr 1
    have : ∀ k, q_tg G (q_ed (d.1 (a + 6))) (2 ^ G - 1) k (2 ^ g) = q_cl G (q_ed (d.1 (a + 6))) k (2 ^ g) := by
      intro k
      induction k with
      | zero => rfl
      | succ k ih =>
        show q_wd G (q_ed (d.1 (a + 6))) (q_tg G (q_ed (d.1 (a + 6))) (2 ^ G - 1) k (2 ^ g)) &&& (2 ^ G - 1) = q_wd G (q_ed (d.1 (a + 6))) (q_cl G (q_ed (d.1 (a + 6))) k (2 ^ g))
        rw [ih, Nat.and_two_pow_sub_one_eq_mod, Nat.mod_eq_of_lt (q_wd_lt he (q_cl_lt he (q_2lt hg) k))]
    exact this (G - 1)
  obtain ⟨e, l1, l2⟩ := q_for_wh (τ := fun i (s : Int32 × Int32) (q : Int32 × Int32) => ∃ c n, s = (Int32.ofNat c, n) ∧ q = (n, Int32.ofNat i) ∧ c < 2 ^ G ∧ ∀ k, k < G → (c.testBit k = true ↔ ∃ q, q < i ∧ q_to G (q_ed (d.1 (a + 6))) q k)) (ρ' := fun (s : Int32 × Int32) (e : Int32) => e = s.2) (n := G) (by omega) (G := f_X3_countParts_b16 (d.1 a) (d.1 (a + 6)) (Int32.ofNat (2 ^ G - 1))) (F := f_X13_parts_w22 t (q_dM d 0)) (s := (0, 0)) (t := (0, 0))
    (fun i hi s q hq => by
      obtain ⟨c, n, rfl, rfl, hc, hk⟩ := hq
      have k2 := q_go (n := G) (by omega) hi
      have hb : f_X11_hasBit (Int32.ofNat c) (Int32.ofNat i) = c.testBit i := q_hb (q_26 hG hc) (by omega)
      obtain ⟨x, m1, m2⟩ := q_inv (n := i) (by omega) (τ := fun j (q : Int32 × Int32) => ∃ x, q = (x, Int32.ofNat j) ∧ ((x = 0 ∧ ∃ q, q < j ∧ q_to G (q_ed (d.1 (a + 6))) q i) ∨ (x = 1 ∧ ¬ ∃ q, q < j ∧ q_to G (q_ed (d.1 (a + 6))) q i))) (ρ := fun x => (x = 0 ∧ ∃ q, q < i ∧ q_to G (q_ed (d.1 (a + 6))) q i) ∨ (x = 1 ∧ ¬ ∃ q, q < i ∧ q_to G (q_ed (d.1 (a + 6))) q i)) (F := f_X13_parts_w38_22 t n (Int32.ofNat i) (q_dM d 0)) (t := (1, 0))
        (fun j hj q hq => by
          obtain ⟨x, rfl, hx⟩ := hq
          obtain ⟨r, -, r2, r3⟩ := q_fstp (A := q_rows d a) (T := q_rows d t) hL (g := j) (k := i) (by omega) hi
          have r2' : f_X13_steps (d.1 t) (d.1 (t + 7)) (Int32.ofNat j) (Int32.ofNat i) = some r := r2
          have r3' : r = -2 ↔ ¬ q_to G (q_ed (d.1 (a + 6))) j i := r3
          have k3 := q_go (n := i) (by omega) hj
          by_cases cr : r = -2
          · refine ⟨(x, Int32.ofNat (j + 1)), ?_, x, rfl, ?_⟩
            · unfold f_X13_parts_w38_22 f_X13_parts_j58_22_38
              simp only [k3, eT, eT7, r2', Option.bind_some, cr, if_true, if_false, q_s]
            · have nt := r3'.mp cr
              rcases hx with ⟨x1, q, x2, x3⟩ | ⟨x1, x2⟩
              · exact Or.inl ⟨x1, q, by omega, x3⟩
              · refine Or.inr ⟨x1, fun ⟨q, y1, y2⟩ => ?_⟩
                by_cases z : q = j
                · rw [z] at y2; exact nt y2
                · exact x2 ⟨q, by omega, y2⟩
          · refine ⟨(0, Int32.ofNat (j + 1)), ?_, 0, rfl, Or.inl ⟨rfl, j, by omega, Classical.not_not.mp (fun z => cr (r3'.mpr z))⟩⟩
            unfold f_X13_parts_w38_22 f_X13_parts_j58_22_38
            simp only [k3, eT, eT7, r2', Option.bind_some, cr, if_false, q_s])
        (fun q hq => by
          obtain ⟨x, rfl, hx⟩ := hq
          refine ⟨x, ?_, hx⟩
          unfold f_X13_parts_w38_22
          simp only [q_end (n := i) (by omega), if_true])
        ⟨1, rfl, Or.inr ⟨rfl, fun ⟨q, y, _⟩ => absurd y (by omega)⟩⟩
      rcases m2 with ⟨rfl, hex⟩ | ⟨rfl, hno⟩
      · have cb : c.testBit i = true := (hk i hi).mpr hex
        refine ⟨(n + 0, Int32.ofNat (i + 1)), ?_, c, n, ?_, ?_, hc, ?_⟩
        · unfold f_X13_parts_w22 f_X13_parts_j74_22
          simp only [eT, e4', k2, m1, Option.bind_some, if_false, if_true, q_s]
        · unfold f_X3_countParts_b16 f_X3_countParts_j47_16
          simp only [hb, cb, if_true]
        · rw [Int32.add_zero]
        · intro k hk'
          rw [hk k hk']
          constructor
          · rintro ⟨q, y1, y2⟩; exact ⟨q, by omega, y2⟩
          · rintro ⟨q, y1, y2⟩
            by_cases z : q = i
            · rw [z] at y2
              obtain ⟨q', z1, z2⟩ := hex
              exact ⟨q', z1, q_to_trans hG1 hG he (by omega) z2 y2⟩
            · exact ⟨q, by omega, y2⟩
      · have cb : ¬ c.testBit i = true := fun z => hno ((hk i hi).mp z)
        refine ⟨(n + 1, Int32.ofNat (i + 1)), ?_, c ||| q_cl G (q_ed (d.1 (a + 6))) (G - 1) (2 ^ i), n + 1, ?_, rfl, Nat.or_lt_two_pow hc (q_cl_lt he (q_2lt hi) _), ?_⟩
        · have n10 : ¬ ((1 : Int32) = 0) := by decide
          unfold f_X13_parts_w22 f_X13_parts_j74_22
          simp only [eT, e4', k2, m1, Option.bind_some, if_false, n10, q_s]
        · unfold f_X3_countParts_b16 f_X3_countParts_j47_16
          simp only [hb, cb, if_false, tg i hi, q_or, Bool.false_eq_true]
        · intro k hk'
          rw [Nat.testBit_or, Bool.or_eq_true, hk k hk']
          constructor
          · rintro (⟨q, y1, y2⟩ | y)
            · exact ⟨q, by omega, y2⟩
            · exact ⟨i, by omega, y⟩
          · rintro ⟨q, y1, y2⟩
            by_cases z : q = i
            · rw [z] at y2; exact Or.inr y2
            · exact Or.inl ⟨q, by omega, y2⟩)
    (fun s q hq => by
      obtain ⟨c, n, rfl, rfl, -⟩ := hq
      refine ⟨n, ?_, rfl⟩
      unfold f_X13_parts_w22
      simp only [eT, e4', q_end (n := G) (by omega), if_true])
    ⟨0, 0, rfl, rfl, Nat.two_pow_pos G, fun k hk => ⟨fun z => absurd z (by rw [Nat.zero_testBit]; decide), fun ⟨q, y, _⟩ => absurd y (by omega)⟩⟩
  refine ⟨e, 0, q_fin (q_dM d 0) 0, ?_, ?_, q_ansd d (by decide)⟩
  · have e9 : f_X3_countParts (d.1 a) (d.1 (a + 6)) = e := by
      unfold f_X3_countParts j_let
      rw [e4, q_full hG]
      exact l2.symm
    unfold f_X11_parts j_let
    simp only [k1, e9, q_xan, if_true]
  · unfold f_X13_parts j_let
    rw [q_dMe, l1, Option.bind_some, q_good]
theorem q_30 {K : q_K} (hK : q_Kok K) : lw_st_30 (q_R K) := by
  intro h p1 p2 r hz
  obtain ⟨g, d⟩ := h
  have hr := r
  obtain ⟨a, b, hg, ht, -, -, hl⟩ := r
  rcases hl with ⟨hla, hn⟩ | ⟨t, h68, hla, hts, G, P, F, W, L, hL, hN, -⟩
  · obtain ⟨x, w, d2, e1, e2, e3⟩ := qn_apart (a := a) (d := d) hn p1 p2
    exact q_stI hr (q_jT (s_X11_apart g d a p1 p2 hg.2.1 hg.2.2.1 hg.2.2.2.2.1) e1) (q_jT (s_X13_apartn g _ p1 p2 hg.2.1 hla) e2) (hr.ans hK e3)
  · obtain ⟨x, w, d2, e1, e2, e3⟩ := qk_apart (a := a) (t := t) (d := d) hL hN h68 p1 p2
    exact q_stI hr (q_jT (s_X11_apart g d a p1 p2 hg.2.1 hg.2.2.1 hg.2.2.2.2.1) e1) (q_jP (s_X13_apart g _ t p1 p2 hg.2.1 hts hla) e2) (hr.ans hK e3)
theorem q_33 {K : q_K} (hK : q_Kok K) : lw_st_33 (q_R K) := by
  intro h p1 p2 r hz
  obtain ⟨g, d⟩ := h
  have hr := r
  obtain ⟨a, b, hg, ht, -, -, hl⟩ := r
  rcases hl with ⟨hla, hn⟩ | ⟨t, h68, hla, hts, G, P, F, W, L, hL, hN, -⟩
  · obtain ⟨x, w, d2, e1, e2, e3⟩ := qn_estate (a := a) (d := d) hn p1 p2
    exact q_stI hr (q_jT (s_X11_estate g d a p1 p2 hg.2.1 hg.2.2.1 hg.2.2.2.2.1) e1) (q_jT (s_X13_estaten g _ p1 p2 hg.2.1 hla) e2) (hr.ans hK e3)
  · obtain ⟨x, w, d2, e1, e2, e3⟩ := qk_estate (a := a) (t := t) (d := d) hL hN h68 p1 p2
    exact q_stI hr (q_jT (s_X11_estate g d a p1 p2 hg.2.1 hg.2.2.1 hg.2.2.2.2.1) e1) (q_jP (s_X13_estate g _ t p1 p2 hg.2.1 hts hla) e2) (hr.ans hK e3)
theorem q_32 {K : q_K} (hK : q_Kok K) : lw_st_32 (q_R K) := by
  intro h r hz
  obtain ⟨g, d⟩ := h
  have hr := r
  obtain ⟨a, b, hg, ht, -, -, hl⟩ := r
  rcases hl with ⟨hla, hn⟩ | ⟨t, h68, hla, hts, G, P, F, W, L, hL, hN, -⟩
  · obtain ⟨x, w, d2, e1, e2, e3⟩ := qn_parts (a := a) (d := d) hn
    exact q_stI hr (q_jT (s_X11_parts g d a hg.2.1 hg.2.2.1 hg.2.2.2.2.1) e1) (q_jT (s_X13_partsn g _ hg.2.1 hla) e2) (hr.ans hK e3)
  · obtain ⟨x, w, d2, e1, e2, e3⟩ := qk_parts (a := a) (t := t) (d := d) hL hN h68
    exact q_stI hr (q_jT (s_X11_parts g d a hg.2.1 hg.2.2.1 hg.2.2.2.2.1) e1) (q_jP (s_X13_parts g _ t hg.2.1 hts hla) e2) (hr.ans hK e3)
