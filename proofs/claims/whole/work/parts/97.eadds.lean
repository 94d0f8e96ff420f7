/-! tier two: land: what a line adds to the land -/
section QL
variable {G P F W L Q G' P' F' : Nat} {A A' T T' : Nat → Nat → Int32}
theorem qp_pw {m P P' : Nat} (h : m < 2 ^ P) (hp : P ≤ P') : m < 2 ^ P' := Nat.lt_of_lt_of_le h (Nat.pow_le_pow_right (by decide) hp)
theorem qp_c2 (h : qp_l2 P F A T) (hP : P ≤ P') (a1 : A' 1 = A 1) (a2 : A' 2 = A 2) (t1 : T' 1 = T 1) (t2 : T' 2 = T 2) : qp_l2 P' F A' T' := by
  intro f hf
  rw [a1, a2, t1, t2]
  obtain ⟨x1, x2, ⟨p, p1, p2⟩, m, m1, m2⟩ := h f hf
  exact ⟨x1, x2, ⟨p, by omega, p2⟩, m, qp_pw m1 hP, m2⟩
theorem qp_c3 (h : qp_l3 F G A T) (hF : F ≤ F') (a3 : A' 3 = A 3) (a4 : A' 4 = A 4) (a5 : A' 5 = A 5) (t3 : T' 3 = T 3) (t4 : T' 4 = T 4) (t5 : T' 5 = T 5) : qp_l3 F' G A' T' := by
  intro g hg
  rw [a3, a4, a5, t3, t4, t5]
  obtain ⟨x1, x2, x3, ⟨f, f1, f2⟩, x5⟩ := h g hg
  exact ⟨x1, x2, x3, ⟨f, by omega, f2⟩, x5⟩
theorem qp_c4 (h : qp_l4 G A T) (hG : G ≤ G') (a6 : A' 6 = A 6) (t7 : T' 7 = T 7) : qp_l4 G' A' T' := by
  unfold qp_l4
  rw [a6, t7]
  refine ⟨fun g hg => ?_, h.2⟩
  obtain ⟨x1, m, m1, m2⟩ := h.1 g hg
  exact ⟨x1, m, qp_pw m1 hG, m2⟩
theorem qp_c5 (h : qp_l5 P G W A T) (hP : P ≤ P') (hG : G ≤ G') (a10 : A' 10 = A 10) (a11 : A' 11 = A 11) (a12 : A' 12 = A 12) (t8 : T' 8 = T 8) (t9 : T' 9 = T 9) (t21 : T' 0 21 = T 0 21) : qp_l5 P' G' W A' T' := by
  unfold qp_l5
  rw [a10, a11, a12, t8, t9, t21]
  refine ⟨h.1, fun i hi => ?_⟩
  obtain ⟨x1, x2, x3, ⟨p, p1, p2⟩, g, g1, g2⟩ := h.2 i hi
  exact ⟨x1, x2, x3, ⟨p, by omega, p2⟩, g, by omega, g2⟩
theorem qp_c6 (h : qp_l6 G L A T) (hG : G ≤ G') (a13 : A' 13 = A 13) (a14 : A' 14 = A 14) (t10 : T' 10 = T 10) (t11 : T' 11 = T 11) : qp_l6 G' L A' T' := by
  unfold qp_l6
  rw [a13, a14, t10, t11]
  refine ⟨fun k hk => ?_, h.2⟩
  obtain ⟨x1, g, g1, g2⟩ := h.1 k hk
  exact ⟨x1, g, by omega, g2⟩
theorem qp_c7 (h : q_L3 G A T) (a6 : A' 0 6 = A 0 6) (a7 : A' 0 7 = A 0 7) (t6 : T' 6 = T 6) (t3 : T' 3 = T 3) : q_L3 G A' T' := by
  unfold q_L3
  rw [a6, a7, t6, t3]
  exact h
theorem qp_ownv {t1 t2 t3 t4 : Nat → Int32} {g f : Nat} (hg : g < 6) (hf : t4 g = Int32.ofNat f) (hf4 : f < 4) (h : Int32) : f_X13_ownersIf t1 t2 t3 t4 (Int32.ofNat g) h = some (if t3 g = 1 then (if h = 1 then t2 f else if h = 2 then 0 else (1 : Int32) <<< (t1 f &&& 31)) else if h = 1 then (1 : Int32) <<< (t1 f &&& 31) else if h = 2 then t2 f else 0) := by
  unfold f_X13_ownersIf
  rw [if_neg (q_in hg (by decide)), if_neg (q_in hg (by decide))]
  have e : (Int32.ofNat g).toNatClampNeg = g := q_n (by omega)
  have e2 : (Int32.ofNat f).toNatClampNeg = f := q_n (by omega)
  have e3 : ¬ j_out (Int32.ofNat f) 4 := q_in hf4 (by decide)
  simp only [e, hf, e2, if_neg e3]
  by_cases k : t3 g = 1
  · rw [if_pos k, if_pos k]
    by_cases c1 : h = 1
    · rw [if_pos c1, if_pos c1]
    · rw [if_neg c1, if_neg c1]
      by_cases c2 : h = 2
      · rw [if_pos c2, if_pos c2]
      · rw [if_neg c2, if_neg c2]
  · rw [if_neg k, if_neg k]
    by_cases c1 : h = 1
    · rw [if_pos c1, if_pos c1]
    · rw [if_neg c1, if_neg c1]
      by_cases c2 : h = 2
      · rw [if_pos c2, if_pos c2]
      · rw [if_neg c2, if_neg c2]
theorem qp_ownc {t1 t2 t3 t4 s1 s2 s3 s4 : Nat → Int32} {g f : Nat} (hg : g < 6) (e3 : s3 g = t3 g) (e4 : s4 g = t4 g) (hf : t4 g = Int32.ofNat f) (hf4 : f < 4) (e1 : s1 f = t1 f) (e2 : s2 f = t2 f) (h : Int32) : f_X13_ownersIf s1 s2 s3 s4 (Int32.ofNat g) h = f_X13_ownersIf t1 t2 t3 t4 (Int32.ofNat g) h := by
  rw [qp_ownv hg hf hf4, qp_ownv hg (e4.trans hf) hf4, e3, e1, e2]
theorem qp_c8 (h : q_L4 G P A T) (h3 : qp_l3 F G A T) (hG : G ≤ 6) (hF : F ≤ 4) (hP : P ≤ P') (a7 : A' 7 = A 7) (a8 : A' 8 = A 8) (t1 : ∀ f, f < F → T' 1 f = T 1 f) (t2 : ∀ f, f < F → T' 2 f = T 2 f) (t3 : T' 3 = T 3) (t4 : T' 4 = T 4) (t5 : T' 5 = T 5) : q_L4 G P' A' T' := by
  intro g hg k hk
  obtain ⟨m, m1, m2, m3, m4⟩ := h g hg k hk
  obtain ⟨x1, x2, x3, ⟨f, f1, f2⟩, x5⟩ := h3 g hg
  refine ⟨m, qp_pw m1 hP, by rw [a7]; exact m2, ?_, by rw [a8, t5]; exact m4⟩
  rw [qp_ownc (t1 := T 1) (t2 := T 2) (t3 := T 3) (t4 := T 4) (by omega) (by rw [t3]) (by rw [t4]) (x2.trans f2) (by omega) (t1 f f1) (t2 f f1)]
  exact m3
theorem qp_c9 (h : qp_l8 G A) (a8 : A' 8 = A 8) : qp_l8 G A' := by
  unfold qp_l8
  rw [a8]
  exact h
theorem qp_Lperson (h : qp_LL G P F W L Q A T) (hP : P < 5) (a0 : ∀ k, k ≠ 2 → A' 0 k = A 0 k) (a02 : A' 0 2 = Int32.ofNat (P + 1)) (aj : ∀ j, 0 < j → j < 15 → A' j = A j) (t0 : ∀ k, k ≠ 2 → k ≠ 9 → T' 0 k = T 0 k) (t02 : T' 0 2 = Int32.ofNat (P + 1)) (tj : ∀ j, 0 < j → j < 12 → T' j = T j) : qp_LL G (P + 1) F W L Q A' T' := by
  obtain ⟨⟨x0, x1, x2, x3, x4, x5, x6, x7⟩, h2, h3, h4, h5, h6, h7, h8, h9⟩ := h
  refine ⟨⟨by omega, ?_, ⟨a02, t02⟩, ?_, ?_, ?_, ?_, ?_⟩, qp_c2 h2 (by omega) (aj 1 (by decide) (by decide)) (aj 2 (by decide) (by decide)) (tj 1 (by decide) (by decide)) (tj 2 (by decide) (by decide)), qp_c3 h3 (Nat.le_refl _) (aj 3 (by decide) (by decide)) (aj 4 (by decide) (by decide)) (aj 5 (by decide) (by decide)) (tj 3 (by decide) (by decide)) (tj 4 (by decide) (by decide)) (tj 5 (by decide) (by decide)), qp_c4 h4 (Nat.le_refl _) (aj 6 (by decide) (by decide)) (tj 7 (by decide) (by decide)), qp_c5 h5 (by omega) (Nat.le_refl _) (aj 10 (by decide) (by decide)) (aj 11 (by decide) (by decide)) (aj 12 (by decide) (by decide)) (tj 8 (by decide) (by decide)) (tj 9 (by decide) (by decide)) (t0 21 (by decide) (by decide)), qp_c6 h6 (Nat.le_refl _) (aj 13 (by decide) (by decide)) (aj 14 (by decide) (by decide)) (tj 10 (by decide) (by decide)) (tj 11 (by decide) (by decide)), qp_c7 h7 (a0 6 (by decide)) (a0 7 (by decide)) (tj 6 (by decide) (by decide)) (tj 3 (by decide) (by decide)), qp_c8 h8 h3 (by omega) (by omega) (by omega) (aj 7 (by decide) (by decide)) (aj 8 (by decide) (by decide)) (fun f _ => by rw [tj 1 (by decide) (by decide)]) (fun f _ => by rw [tj 2 (by decide) (by decide)]) (tj 3 (by decide) (by decide)) (tj 4 (by decide) (by decide)) (tj 5 (by decide) (by decide)), qp_c9 h9 (aj 8 (by decide) (by decide))⟩
  · rw [a0 4 (by decide), t0 4 (by decide) (by decide)]; exact x1
  · rw [a0 3 (by decide), t0 3 (by decide) (by decide)]; exact x3
  · rw [aj 9 (by decide) (by decide), t0 6 (by decide) (by decide)]; exact x4
  · rw [aj 9 (by decide) (by decide), t0 7 (by decide) (by decide)]; exact x5
  · rw [a0 5 (by decide), t0 5 (by decide) (by decide)]; exact x6
  · rw [aj 9 (by decide) (by decide), t0 8 (by decide) (by decide)]; exact x7
theorem qp_Lfirm (h : qp_LL G P F W L Q A T) (hF : F < 4) {p m : Nat} (hp : p < P) (hm : m < 2 ^ P) (a0 : ∀ k, k ≠ 3 → A' 0 k = A 0 k) (a03 : A' 0 3 = Int32.ofNat (F + 1)) (a1 : A' 1 = upd (A 1) F (Int32.ofNat p)) (a2 : A' 2 = upd (A 2) F (Int32.ofNat m)) (aj : ∀ j, 2 < j → j < 15 → A' j = A j) (t0 : ∀ k, k ≠ 3 → k ≠ 9 → T' 0 k = T 0 k) (t03 : T' 0 3 = Int32.ofNat (F + 1)) (t1 : T' 1 = upd (T 1) F (Int32.ofNat p)) (t2 : T' 2 = upd (T 2) F (Int32.ofNat m)) (tj : ∀ j, 2 < j → j < 12 → T' j = T j) : qp_LL G P (F + 1) W L Q A' T' := by
  obtain ⟨⟨x0, x1, x2, x3, x4, x5, x6, x7⟩, h2, h3, h4, h5, h6, h7, h8, h9⟩ := h
  refine ⟨⟨by omega, ?_, ?_, ⟨a03, t03⟩, ?_, ?_, ?_, ?_⟩, fun f hf => ?_, qp_c3 h3 (by omega) (aj 3 (by decide) (by decide)) (aj 4 (by decide) (by decide)) (aj 5 (by decide) (by decide)) (tj 3 (by decide) (by decide)) (tj 4 (by decide) (by decide)) (tj 5 (by decide) (by decide)), qp_c4 h4 (Nat.le_refl _) (aj 6 (by decide) (by decide)) (tj 7 (by decide) (by decide)), qp_c5 h5 (by omega) (Nat.le_refl _) (aj 10 (by decide) (by decide)) (aj 11 (by decide) (by decide)) (aj 12 (by decide) (by decide)) (tj 8 (by decide) (by decide)) (tj 9 (by decide) (by decide)) (t0 21 (by decide) (by decide)), qp_c6 h6 (Nat.le_refl _) (aj 13 (by decide) (by decide)) (aj 14 (by decide) (by decide)) (tj 10 (by decide) (by decide)) (tj 11 (by decide) (by decide)), qp_c7 h7 (a0 6 (by decide)) (a0 7 (by decide)) (tj 6 (by decide) (by decide)) (tj 3 (by decide) (by decide)), qp_c8 h8 h3 (by omega) (by omega) (by omega) (aj 7 (by decide) (by decide)) (aj 8 (by decide) (by decide)) (fun f hf => by rw [t1, q_upd_o (by omega)]) (fun f hf => by rw [t2, q_upd_o (by omega)]) (tj 3 (by decide) (by decide)) (tj 4 (by decide) (by decide)) (tj 5 (by decide) (by decide)), qp_c9 h9 (aj 8 (by decide) (by decide))⟩
  · rw [a0 4 (by decide), t0 4 (by decide) (by decide)]; exact x1
  · rw [a0 2 (by decide), t0 2 (by decide) (by decide)]; exact x2
  · rw [aj 9 (by decide) (by decide), t0 6 (by decide) (by decide)]; exact x4
  · rw [aj 9 (by decide) (by decide), t0 7 (by decide) (by decide)]; exact x5
  · rw [a0 5 (by decide), t0 5 (by decide) (by decide)]; exact x6
  · rw [aj 9 (by decide) (by decide), t0 8 (by decide) (by decide)]; exact x7
  · rw [a1, a2, t1, t2]
    by_cases e : f = F
    · subst e
      rw [q_upd_a, q_upd_a, q_upd_a, q_upd_a]
      exact ⟨rfl, rfl, ⟨p, hp, rfl⟩, m, hm, rfl⟩
    · rw [q_upd_o e, q_upd_o e, q_upd_o e, q_upd_o e]
      exact h2 f (by omega)
theorem qp_orb : ∀ G : Fin 7, ∀ m : Fin 64, ∀ k : Fin 6, m.val < 2 ^ G.val → k.val < G.val → m.val ||| 2 ^ k.val < 2 ^ G.val := by decide +kernel
theorem qp_or2 {G m k : Nat} (hG : G ≤ 6) (hm : m < 2 ^ G) (hk : k < G) : m ||| 2 ^ k < 2 ^ G := qp_orb ⟨G, by omega⟩ ⟨m, Nat.lt_of_lt_of_le hm (Nat.pow_le_pow_right (by decide) hG)⟩ ⟨k, by omega⟩ hm hk
theorem qp_Lpath (h : qp_LL G P F W L Q A T) (hQ : Q < 8) {g o : Nat} (hg : g < G) (ho : o < G) (hne : g ≠ o) (a0 : ∀ k, k ≠ 5 → A' 0 k = A 0 k) (a05 : A' 0 5 = Int32.ofNat (Q + 1)) (a6 : A' 6 = upd (upd (A 6) g (A 6 g ||| ((1 : Int32) <<< (Int32.ofNat o &&& 31)))) o (A 6 o ||| ((1 : Int32) <<< (Int32.ofNat g &&& 31)))) (aj : ∀ j, 0 < j → j ≠ 6 → j < 15 → A' j = A j) (t0 : ∀ k, k ≠ 5 → k ≠ 9 → T' 0 k = T 0 k) (t05 : T' 0 5 = Int32.ofNat (Q + 1)) (t7 : T' 7 = upd (upd (T 7) g (T 7 g ||| ((1 : Int32) <<< (Int32.ofNat o &&& 31)))) o (T 7 o ||| ((1 : Int32) <<< (Int32.ofNat g &&& 31)))) (tj : ∀ j, 0 < j → j ≠ 7 → j < 12 → T' j = T j) : qp_LL G P F W L (Q + 1) A' T' := by
  obtain ⟨⟨x0, x1, x2, x3, x4, x5, x6, x7⟩, h2, h3, h4, h5, h6, h7, h8, h9⟩ := h
  refine ⟨⟨by omega, ?_, ?_, ?_, ?_, ?_, ⟨a05, t05⟩, ?_⟩, qp_c2 h2 (by omega) (aj 1 (by decide) (by decide) (by decide)) (aj 2 (by decide) (by decide) (by decide)) (tj 1 (by decide) (by decide) (by decide)) (tj 2 (by decide) (by decide) (by decide)), qp_c3 h3 (by omega) (aj 3 (by decide) (by decide) (by decide)) (aj 4 (by decide) (by decide) (by decide)) (aj 5 (by decide) (by decide) (by decide)) (tj 3 (by decide) (by decide) (by decide)) (tj 4 (by decide) (by decide) (by decide)) (tj 5 (by decide) (by decide) (by decide)), ⟨fun k hk => ?_, fun x y hx hy => ?_⟩, qp_c5 h5 (by omega) (Nat.le_refl _) (aj 10 (by decide) (by decide) (by decide)) (aj 11 (by decide) (by decide) (by decide)) (aj 12 (by decide) (by decide) (by decide)) (tj 8 (by decide) (by decide) (by decide)) (tj 9 (by decide) (by decide) (by decide)) (t0 21 (by decide) (by decide)), qp_c6 h6 (Nat.le_refl _) (aj 13 (by decide) (by decide) (by decide)) (aj 14 (by decide) (by decide) (by decide)) (tj 10 (by decide) (by decide) (by decide)) (tj 11 (by decide) (by decide) (by decide)), qp_c7 h7 (a0 6 (by decide)) (a0 7 (by decide)) (tj 6 (by decide) (by decide) (by decide)) (tj 3 (by decide) (by decide) (by decide)), qp_c8 h8 h3 (by omega) (by omega) (by omega) (aj 7 (by decide) (by decide) (by decide)) (aj 8 (by decide) (by decide) (by decide)) (fun f hf => by rw [tj 1 (by decide) (by decide) (by decide)]) (fun f hf => by rw [tj 2 (by decide) (by decide) (by decide)]) (tj 3 (by decide) (by decide) (by decide)) (tj 4 (by decide) (by decide) (by decide)) (tj 5 (by decide) (by decide) (by decide)), qp_c9 h9 (aj 8 (by decide) (by decide) (by decide))⟩
  · rw [a0 4 (by decide), t0 4 (by decide) (by decide)]; exact x1
  · rw [a0 2 (by decide), t0 2 (by decide) (by decide)]; exact x2
  · rw [a0 3 (by decide), t0 3 (by decide) (by decide)]; exact x3
  · rw [aj 9 (by decide) (by decide) (by decide), t0 6 (by decide) (by decide)]; exact x4
  · rw [aj 9 (by decide) (by decide) (by decide), t0 7 (by decide) (by decide)]; exact x5
  · rw [aj 9 (by decide) (by decide) (by decide), t0 8 (by decide) (by decide)]; exact x7
  · obtain ⟨g1, mg, g2, g3⟩ := h4.1 g (by omega)
    obtain ⟨o1, mo, o2, o3⟩ := h4.1 o (by omega)
    rw [a6, t7, g1, o1]
    by_cases e : k = o
    · subst e
      rw [q_upd_a, q_upd_a]
      refine ⟨rfl, mo ||| 2 ^ g, qp_or2 (by omega) o2 hg, ?_⟩
      rw [o3, q_one (by omega), q_or]
    · rw [q_upd_o e, q_upd_o e]
      by_cases e2 : k = g
      · subst e2
        rw [q_upd_a, q_upd_a]
        refine ⟨rfl, mg ||| 2 ^ o, qp_or2 (by omega) g2 ho, ?_⟩
        rw [g3, q_one (by omega), q_or]
      · rw [q_upd_o e2, q_upd_o e2]
        exact h4.1 k hk
  · have val : ∀ k, k < 6 → ∀ y, y < 6 → f_X11_hasBit (A' 6 k) (Int32.ofNat y) = (f_X11_hasBit (A 6 k) (Int32.ofNat y) || (decide (k = o ∧ y = g) || decide (k = g ∧ y = o))) := by
      intro k hk y hy
      rw [a6]
      by_cases e : k = o
      · subst e
        rw [q_upd_a, q_hbor _ (by omega) (by omega)]
        congr 1
        by_cases e3 : y = g
        · subst e3; simp
        · simp [e3, Ne.symm e3, Ne.symm hne]
      · rw [q_upd_o e]
        by_cases e2 : k = g
        · subst e2
          rw [q_upd_a, q_hbor _ (by omega) (by omega)]
          congr 1
          by_cases e3 : y = o
          · subst e3; simp
          · simp [e3, Ne.symm e3, hne]
        · rw [q_upd_o e2]
          simp [e, e2]
    rw [val x hx y hy, val y hy x hx, h4.2 x y hx hy]
    congr 1
    rw [Bool.or_comm]
    congr 1
    · exact decide_eq_decide.mpr ⟨fun z => ⟨z.2, z.1⟩, fun z => ⟨z.2, z.1⟩⟩
    · exact decide_eq_decide.mpr ⟨fun z => ⟨z.2, z.1⟩, fun z => ⟨z.2, z.1⟩⟩
theorem qp_alb : ∀ W : Fin 4, ∀ m : Fin 16, m.val < 2 ^ W.val → (f_X13_bit (Int32.ofNat m.val) (Int32.ofNat W.val) = false ∧ ∀ i : Fin 4, i.val < W.val → f_X13_bit (Int32.ofNat m.val ||| ((1 : Int32) <<< (Int32.ofNat W.val &&& 31))) (Int32.ofNat i.val) = f_X13_bit (Int32.ofNat m.val) (Int32.ofNat i.val)) ∧ f_X13_bit (Int32.ofNat m.val ||| ((1 : Int32) <<< (Int32.ofNat W.val &&& 31))) (Int32.ofNat W.val) = true := by decide +kernel
theorem qp_Lwant (h : qp_LL G P F W L Q A T) (hW : W < 4) {p g : Nat} (hp : p < P) (hg : g < G) {x : Int32} (hx : x = 0 ∨ x = 1) (a9 : ∀ k, k ≠ 0 → A' 9 k = A 9 k) (a90 : A' 9 0 = Int32.ofNat (W + 1)) (a10 : A' 10 = upd (A 10) W (Int32.ofNat p)) (a11 : A' 11 = upd (A 11) W (Int32.ofNat g)) (a12 : A' 12 = upd (A 12) W x) (aj : ∀ j, j < 9 ∨ 12 < j → j < 15 → A' j = A j) (t0 : ∀ k, k ≠ 6 → k ≠ 9 → k ≠ 21 → T' 0 k = T 0 k) (t06 : T' 0 6 = Int32.ofNat (W + 1)) (t21 : T' 0 21 = if x = 0 then T 0 21 else T 0 21 ||| ((1 : Int32) <<< (Int32.ofNat W &&& 31))) (t8 : T' 8 = upd (T 8) W (Int32.ofNat p)) (t9 : T' 9 = upd (T 9) W (Int32.ofNat g)) (tj : ∀ j, 0 < j → j ≠ 8 → j ≠ 9 → j < 12 → T' j = T j) : qp_LL G P F (W + 1) L Q A' T' := by
  obtain ⟨⟨x0, x1, x2, x3, x4, x5, x6, x7⟩, h2, h3, h4, h5, h6, h7, h8, h9⟩ := h
  have aj' : ∀ j, j < 9 ∨ 12 < j → j < 15 → A' j = A j := aj
  have e0 := aj 0 (by decide) (by decide)
  refine ⟨⟨by omega, ?_, ?_, ?_, ⟨a90, t06⟩, ?_, ?_, ?_⟩, qp_c2 h2 (by omega) (aj 1 (by decide) (by decide)) (aj 2 (by decide) (by decide)) (tj 1 (by decide) (by decide) (by decide) (by decide)) (tj 2 (by decide) (by decide) (by decide) (by decide)), qp_c3 h3 (by omega) (aj 3 (by decide) (by decide)) (aj 4 (by decide) (by decide)) (aj 5 (by decide) (by decide)) (tj 3 (by decide) (by decide) (by decide) (by decide)) (tj 4 (by decide) (by decide) (by decide) (by decide)) (tj 5 (by decide) (by decide) (by decide) (by decide)), qp_c4 h4 (Nat.le_refl _) (aj 6 (by decide) (by decide)) (tj 7 (by decide) (by decide) (by decide) (by decide)), ?_, qp_c6 h6 (Nat.le_refl _) (aj 13 (by decide) (by decide)) (aj 14 (by decide) (by decide)) (tj 10 (by decide) (by decide) (by decide) (by decide)) (tj 11 (by decide) (by decide) (by decide) (by decide)), qp_c7 h7 (by rw [e0]) (by rw [e0]) (tj 6 (by decide) (by decide) (by decide) (by decide)) (tj 3 (by decide) (by decide) (by decide) (by decide)), qp_c8 h8 h3 (by omega) (by omega) (by omega) (aj 7 (by decide) (by decide)) (aj 8 (by decide) (by decide)) (fun f hf => by rw [tj 1 (by decide) (by decide) (by decide) (by decide)]) (fun f hf => by rw [tj 2 (by decide) (by decide) (by decide) (by decide)]) (tj 3 (by decide) (by decide) (by decide) (by decide)) (tj 4 (by decide) (by decide) (by decide) (by decide)) (tj 5 (by decide) (by decide) (by decide) (by decide)), qp_c9 h9 (aj 8 (by decide) (by decide))⟩
  · rw [e0, t0 4 (by decide) (by decide) (by decide)]; exact x1
  · rw [e0, t0 2 (by decide) (by decide) (by decide)]; exact x2
  · rw [e0, t0 3 (by decide) (by decide) (by decide)]; exact x3
  · rw [a9 4 (by decide), t0 7 (by decide) (by decide) (by decide)]; exact x5
  · rw [e0, t0 5 (by decide) (by decide) (by decide)]; exact x6
  · rw [a9 6 (by decide), t0 8 (by decide) (by decide) (by decide)]; exact x7
  · obtain ⟨⟨m, m1, m2⟩, h5⟩ := h5
    have m16 : m < 16 := Nat.lt_of_lt_of_le m1 (Nat.le_trans (Nat.pow_le_pow_right (by decide) (by omega : W ≤ 3)) (by decide))
    obtain ⟨⟨y1, y2⟩, y3⟩ := qp_alb ⟨W, hW⟩ ⟨m, m16⟩ m1
    dsimp only at y1 y2 y3
    unfold qp_l5
    rw [a10, a11, a12, t8, t9]
    rcases hx with hx | hx
    · subst hx
      rw [t21, if_pos rfl, m2]
      refine ⟨⟨m, qp_pw m1 (by omega), rfl⟩, fun i hi => ?_⟩
      by_cases e : i = W
      · subst e
        rw [q_upd_a, q_upd_a, q_upd_a, q_upd_a, q_upd_a, y1]
        exact ⟨rfl, rfl, ⟨fun z => by (cases z), fun z => absurd z (by decide)⟩, ⟨p, hp, rfl⟩, g, hg, rfl⟩
      · rw [q_upd_o e, q_upd_o e, q_upd_o e, q_upd_o e, q_upd_o e, ← m2]
        exact h5 i (by omega)
    · subst hx
      rw [t21, if_neg (by decide), m2]
      refine ⟨⟨m + 2 ^ W, by rw [Nat.pow_succ]; omega, q_or16 ⟨W, hW⟩ ⟨m, m16⟩ m1⟩, fun i hi => ?_⟩
      by_cases e : i = W
      · subst e
        rw [q_upd_a, q_upd_a, q_upd_a, q_upd_a, q_upd_a, y3]
        exact ⟨rfl, rfl, ⟨fun z => rfl, fun z => rfl⟩, ⟨p, hp, rfl⟩, g, hg, rfl⟩
      · rw [q_upd_o e, q_upd_o e, q_upd_o e, q_upd_o e, q_upd_o e, y2 ⟨i, by omega⟩ (by show i < W; omega), ← m2]
        exact h5 i (by omega)
theorem qp_Llost (h : qp_LL G P F W L Q A T) (hL : L < 4) {g : Nat} (hg : g < G) (a9 : ∀ k, k ≠ 4 → A' 9 k = A 9 k) (a94 : A' 9 4 = Int32.ofNat (L + 1)) (a13 : A' 13 = upd (A 13) L (Int32.ofNat g)) (aj : ∀ j, j ≠ 9 → j ≠ 13 → j < 15 → A' j = A j) (t0 : ∀ k, k ≠ 7 → k ≠ 9 → T' 0 k = T 0 k) (t07 : T' 0 7 = Int32.ofNat (L + 1)) (t10 : T' 10 = upd (T 10) L (Int32.ofNat g)) (tj : ∀ j, 0 < j → j ≠ 10 → j < 12 → T' j = T j) : qp_LL G P F W (L + 1) Q A' T' := by
  obtain ⟨⟨x0, x1, x2, x3, x4, x5, x6, x7⟩, h2, h3, h4, h5, h6, h7, h8, h9⟩ := h
  have e0 := aj 0 (by decide) (by decide) (by decide)
  refine ⟨⟨by omega, ?_, ?_, ?_, ?_, ⟨a94, t07⟩, ?_, ?_⟩, qp_c2 h2 (by omega) (aj 1 (by decide) (by decide) (by decide)) (aj 2 (by decide) (by decide) (by decide)) (tj 1 (by decide) (by decide) (by decide)) (tj 2 (by decide) (by decide) (by decide)), qp_c3 h3 (by omega) (aj 3 (by decide) (by decide) (by decide)) (aj 4 (by decide) (by decide) (by decide)) (aj 5 (by decide) (by decide) (by decide)) (tj 3 (by decide) (by decide) (by decide)) (tj 4 (by decide) (by decide) (by decide)) (tj 5 (by decide) (by decide) (by decide)), qp_c4 h4 (Nat.le_refl _) (aj 6 (by decide) (by decide) (by decide)) (tj 7 (by decide) (by decide) (by decide)), qp_c5 h5 (by omega) (Nat.le_refl _) (aj 10 (by decide) (by decide) (by decide)) (aj 11 (by decide) (by decide) (by decide)) (aj 12 (by decide) (by decide) (by decide)) (tj 8 (by decide) (by decide) (by decide)) (tj 9 (by decide) (by decide) (by decide)) (t0 21 (by decide) (by decide)), ⟨fun k hk => ?_, fun p hp => ?_⟩, qp_c7 h7 (by rw [e0]) (by rw [e0]) (tj 6 (by decide) (by decide) (by decide)) (tj 3 (by decide) (by decide) (by decide)), qp_c8 h8 h3 (by omega) (by omega) (by omega) (aj 7 (by decide) (by decide) (by decide)) (aj 8 (by decide) (by decide) (by decide)) (fun f hf => by rw [tj 1 (by decide) (by decide) (by decide)]) (fun f hf => by rw [tj 2 (by decide) (by decide) (by decide)]) (tj 3 (by decide) (by decide) (by decide)) (tj 4 (by decide) (by decide) (by decide)) (tj 5 (by decide) (by decide) (by decide)), qp_c9 h9 (aj 8 (by decide) (by decide) (by decide))⟩
  · rw [e0, t0 4 (by decide) (by decide)]; exact x1
  · rw [e0, t0 2 (by decide) (by decide)]; exact x2
  · rw [e0, t0 3 (by decide) (by decide)]; exact x3
  · rw [a9 0 (by decide), t0 6 (by decide) (by decide)]; exact x4
  · rw [e0, t0 5 (by decide) (by decide)]; exact x6
  · rw [a9 6 (by decide), t0 8 (by decide) (by decide)]; exact x7
  · rw [a13, t10]
    by_cases e : k = L
    · subst e
      rw [q_upd_a, q_upd_a]
      exact ⟨rfl, g, hg, rfl⟩
    · rw [q_upd_o e, q_upd_o e]
      exact h6.1 k (by omega)
  · rw [aj 14 (by decide) (by decide) (by decide), tj 11 (by decide) (by decide) (by decide)]
    exact h6.2 p hp
theorem qp_Lhad (h : qp_LL G P F W L Q A T) {p : Nat} {v : Int32} (a9 : ∀ k, k ≠ 6 → A' 9 k = A 9 k) (a96 : A' 9 6 = T' 0 8) (a14 : A' 14 = upd (A 14) p v) (aj : ∀ j, j ≠ 9 → j < 14 → A' j = A j) (t0 : ∀ k, k ≠ 8 → k ≠ 9 → T' 0 k = T 0 k) (t11 : T' 11 = upd (T 11) p v) (tj : ∀ j, 0 < j → j < 11 → T' j = T j) : qp_LL G P F W L Q A' T' := by
  obtain ⟨⟨x0, x1, x2, x3, x4, x5, x6, x7⟩, h2, h3, h4, h5, h6, h7, h8, h9⟩ := h
  have e0 := aj 0 (by decide) (by decide)
  refine ⟨⟨x0, ?_, ?_, ?_, ?_, ?_, ?_, a96.symm⟩, qp_c2 h2 (by omega) (aj 1 (by decide) (by decide)) (aj 2 (by decide) (by decide)) (tj 1 (by decide) (by decide)) (tj 2 (by decide) (by decide)), qp_c3 h3 (by omega) (aj 3 (by decide) (by decide)) (aj 4 (by decide) (by decide)) (aj 5 (by decide) (by decide)) (tj 3 (by decide) (by decide)) (tj 4 (by decide) (by decide)) (tj 5 (by decide) (by decide)), qp_c4 h4 (Nat.le_refl _) (aj 6 (by decide) (by decide)) (tj 7 (by decide) (by decide)), qp_c5 h5 (by omega) (Nat.le_refl _) (aj 10 (by decide) (by decide)) (aj 11 (by decide) (by decide)) (aj 12 (by decide) (by decide)) (tj 8 (by decide) (by decide)) (tj 9 (by decide) (by decide)) (t0 21 (by decide) (by decide)), ⟨fun k hk => ?_, fun q hq => ?_⟩, qp_c7 h7 (by rw [e0]) (by rw [e0]) (tj 6 (by decide) (by decide)) (tj 3 (by decide) (by decide)), qp_c8 h8 h3 (by omega) (by omega) (by omega) (aj 7 (by decide) (by decide)) (aj 8 (by decide) (by decide)) (fun f hf => by rw [tj 1 (by decide) (by decide)]) (fun f hf => by rw [tj 2 (by decide) (by decide)]) (tj 3 (by decide) (by decide)) (tj 4 (by decide) (by decide)) (tj 5 (by decide) (by decide)), qp_c9 h9 (aj 8 (by decide) (by decide))⟩
  · rw [e0, t0 4 (by decide) (by decide)]; exact x1
  · rw [e0, t0 2 (by decide) (by decide)]; exact x2
  · rw [e0, t0 3 (by decide) (by decide)]; exact x3
  · rw [a9 0 (by decide), t0 6 (by decide) (by decide)]; exact x4
  · rw [a9 4 (by decide), t0 7 (by decide) (by decide)]; exact x5
  · rw [e0, t0 5 (by decide) (by decide)]; exact x6
  · rw [aj 13 (by decide) (by decide), tj 10 (by decide) (by decide)]
    exact h6.1 k hk
  · rw [a14, t11]
    by_cases e : q = p
    · subst e
      rw [q_upd_a, q_upd_a]
    · rw [q_upd_o e, q_upd_o e]
      exact h6.2 q hq
end QL
