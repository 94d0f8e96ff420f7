/-! tier two: land: the land as far as it is read -/
def qp_l1 (G P F W L Q : Nat) (A T : Nat → Nat → Int32) : Prop := (G ≤ 6 ∧ P ≤ 5 ∧ F ≤ 4 ∧ W ≤ 4 ∧ L ≤ 4 ∧ Q ≤ 8) ∧ (A 0 4 = Int32.ofNat G ∧ T 0 4 = Int32.ofNat G) ∧ (A 0 2 = Int32.ofNat P ∧ T 0 2 = Int32.ofNat P) ∧ (A 0 3 = Int32.ofNat F ∧ T 0 3 = Int32.ofNat F) ∧ (A 9 0 = Int32.ofNat W ∧ T 0 6 = Int32.ofNat W) ∧ (A 9 4 = Int32.ofNat L ∧ T 0 7 = Int32.ofNat L) ∧ (A 0 5 = Int32.ofNat Q ∧ T 0 5 = Int32.ofNat Q) ∧ T 0 8 = A 9 6
def qp_l2 (P F : Nat) (A T : Nat → Nat → Int32) : Prop := ∀ f, f < F → T 1 f = A 1 f ∧ T 2 f = A 2 f ∧ (∃ p, p < P ∧ A 1 f = Int32.ofNat p) ∧ ∃ m, m < 2 ^ P ∧ A 2 f = Int32.ofNat m
def qp_l3 (F G : Nat) (A T : Nat → Nat → Int32) : Prop := ∀ g, g < G → T 3 g = A 3 g ∧ T 4 g = A 4 g ∧ T 5 g = A 5 g ∧ (∃ f, f < F ∧ A 4 g = Int32.ofNat f) ∧ ∃ w, w ≤ 99 ∧ A 5 g = Int32.ofNat w
def qp_l4 (G : Nat) (A T : Nat → Nat → Int32) : Prop := (∀ g, g < 6 → T 7 g = A 6 g ∧ ∃ m, m < 2 ^ G ∧ A 6 g = Int32.ofNat m) ∧ ∀ g k, g < 6 → k < 6 → f_X11_hasBit (A 6 g) (Int32.ofNat k) = f_X11_hasBit (A 6 k) (Int32.ofNat g)
def qp_l5 (P G W : Nat) (A T : Nat → Nat → Int32) : Prop := (∃ m, m < 2 ^ W ∧ T 0 21 = Int32.ofNat m) ∧ ∀ i, i < W → T 8 i = A 10 i ∧ T 9 i = A 11 i ∧ (f_X13_bit (T 0 21) (Int32.ofNat i) = true ↔ A 12 i = 1) ∧ (∃ p, p < P ∧ A 10 i = Int32.ofNat p) ∧ ∃ g, g < G ∧ A 11 i = Int32.ofNat g
def qp_l6 (G L : Nat) (A T : Nat → Nat → Int32) : Prop := (∀ k, k < L → T 10 k = A 13 k ∧ ∃ g, g < G ∧ A 13 k = Int32.ofNat g) ∧ ∀ p, p < 5 → T 11 p = A 14 p
def qp_l8 (G : Nat) (A : Nat → Nat → Int32) : Prop := ∀ g, g < G → ∀ h, h < 3 → ∃ k, k ≤ 99 ∧ A 8 (4 * g + h) = Int32.ofNat k
def qp_LL (G P F W L Q : Nat) (A T : Nat → Nat → Int32) : Prop := qp_l1 G P F W L Q A T ∧ qp_l2 P F A T ∧ qp_l3 F G A T ∧ qp_l4 G A T ∧ qp_l5 P G W A T ∧ qp_l6 G L A T ∧ q_L3 G A T ∧ q_L4 G P A T ∧ qp_l8 G A
theorem qp_LLc {G P F W L Q : Nat} {A A' T T' : Nat → Nat → Int32} (hA : ∀ j, j < 15 → A' j = A j) (hT : ∀ j, j < 15 → T' j = T j) (h : qp_LL G P F W L Q A T) : qp_LL G P F W L Q A' T' := by
  unfold qp_LL qp_l1 qp_l2 qp_l3 qp_l4 qp_l5 qp_l6 qp_l8 q_L3 q_L4 at h ⊢
  rw [hA 0 (by decide), hA 1 (by decide), hA 2 (by decide), hA 3 (by decide), hA 4 (by decide), hA 5 (by decide), hA 6 (by decide), hA 7 (by decide), hA 8 (by decide), hA 9 (by decide), hA 10 (by decide), hA 11 (by decide), hA 12 (by decide), hA 13 (by decide), hA 14 (by decide), hT 0 (by decide), hT 1 (by decide), hT 2 (by decide), hT 3 (by decide), hT 4 (by decide), hT 5 (by decide), hT 6 (by decide), hT 7 (by decide), hT 8 (by decide), hT 9 (by decide), hT 10 (by decide), hT 11 (by decide)]
  exact h
def qp_NM (P F G : Nat) (r20 r21 : Nat → Int32) (l19 lt : Nat → Int64) (t13 t14 : Nat → Int32) : Prop := ∀ i, i < P + F + G → l19 i = lt i ∧ ∃ s v : Nat, t13 i = Int32.ofNat s ∧ r20 i = Int32.ofNat (s + 1) ∧ t14 i = Int32.ofNat v ∧ r21 i = Int32.ofNat v ∧ ((s = 0 ∧ v < P) ∨ (s = 1 ∧ v < F) ∨ (s = 2 ∧ v < G))
/-- whether the line of the land was read -/
def qp_to (b u G P F W L Q : Nat) (D E : JD) : Prop := (D.1 3 2 = 0 ∧ E.1 u 0 = -1 ∧ G = 0 ∧ P = 0 ∧ F = 0 ∧ W = 0 ∧ L = 0 ∧ Q = 0) ∨ (D.1 3 2 = 1 ∧ ∃ H U, H ≤ 6 ∧ U ≤ 100 ∧ D.1 b 0 = Int32.ofNat H ∧ E.1 u 0 = Int32.ofNat H ∧ D.1 b 1 = Int32.ofNat U ∧ E.1 u 1 = Int32.ofNat U)
def qp_M (B : Nat → Int32) (N b u : Nat) (D0 E0 : JD) (G P F W L Q m : Nat) (D E : JD) : Prop := (qp_cF b D0 D ∧ qp_mF u E0 E) ∧ q_byx B N D E ∧ (E.1 57 12 = 0 ∧ D.1 3 7 = 0) ∧ qp_LL G P F W L Q (q_rows D b) (q_rows E u) ∧ (D.1 3 6 = Int32.ofNat m ∧ E.1 u 9 = Int32.ofNat (P + F + G) ∧ qp_NM P F G (D.1 20) (D.1 21) (D.2 19) (E.2 (u + 12)) (E.1 (u + 13)) (E.1 (u + 14))) ∧ qp_to b u G P F W L Q D E
def qp_ST (B : Nat → Int32) (N lo b u : Nat) (D0 E0 : JD) (D E : JD) : Prop := ∃ G P F W L Q, qp_M B N b u D0 E0 G P F W L Q (P + F + G) D E ∧ qp_T B N lo D E
section QM
variable {B : Nat → Int32} {N lo b u G P F W L Q m : Nat} {D0 E0 D E : JD}
theorem qp_M.n15 (h : qp_M B N b u D0 E0 G P F W L Q m D E) : P + F + G ≤ 15 := by
  have := h.2.2.2.1.1.1
  omega
theorem qp_M.adv (h : qp_M B N b u D0 E0 G P F W L Q m D E) (hb : 4 ≤ b) (hu : 68 ≤ u) {D' E' : JD} (f : qp_cf D D') (g : qp_mf E E') : qp_M B N b u D0 E0 G P F W L Q m D' E' := by
  obtain ⟨⟨h1, h2⟩, h3, ⟨h4, h4'⟩, h5, ⟨h6, h7, h8⟩, h9⟩ := h
  have eA : q_rows D' b = q_rows D b := funext fun j => f.1 (b + j) (by omega)
  have eT : q_rows E' u = q_rows E u := funext fun j => g.1 (u + j) (by omega)
  refine ⟨⟨h1.trans f.F, h2.trans g.F⟩, (h3.c f).m g, ⟨(g.2.1 12 (by decide) (by decide) (by decide) (by decide)).trans h4, by rw [f.1 3 (by decide)]; exact h4'⟩, by rw [eA, eT]; exact h5, ⟨by rw [f.1 3 (by decide)]; exact h6, by rw [g.1 u (by omega)]; exact h7, ?_⟩, ?_⟩
  · rw [f.1 20 (by decide), f.1 21 (by decide), f.2.2 19 (by decide), g.2.2 (u + 12) (by omega), g.1 (u + 13) (by omega), g.1 (u + 14) (by omega)]
    exact h8
  · unfold qp_to
    rw [f.1 3 (by decide), f.1 b (by omega), g.1 u (by omega)]
    exact h9
/-- both go on to the next token -/
theorem qp_go (hB : ∀ i, q_isb (B i)) (hb : 4 ≤ b) (hu : 68 ≤ u) (h : qp_M B N b u D0 E0 G P F W L Q m D E) (x : qp_X N lo D E) : ∃ D' E', f_X9_advance D = some D' ∧ f_X13_goesOn E = some E' ∧ qp_cf D D' ∧ qp_mf E E' ∧ qp_M B N b u D0 E0 G P F W L Q m D' E' ∧ qp_T B N lo D' E' := by
  obtain ⟨q, q1, q2, q3, q4, q5⟩ := x
  obtain ⟨D', E', a1, a2, f, g, t⟩ := qp_adv hB h.2.1 q3 q4 q2 q5
  exact ⟨D', E', a1, a2, f, g, h.adv hb hu f g, t.lo q1⟩
/-- a name that was told -/
theorem qp_told (hB : ∀ i, q_isb (B i)) (hu : 68 ≤ u) (h : qp_M B N b u D0 E0 G P F W L Q m D E) (t : qp_T B N lo D E) {s : Nat} (hs : s ≤ 2) (hm : m = P + F + G ∨ (m = P + F + G + 1 ∧ m ≤ 15 ∧ ∃ l, l ≤ 3 ∧ D.1 20 (P + F + G) = Int32.ofNat l ∧ l ≠ s + 1)) : (∃ v, ((s = 0 ∧ v < P) ∨ (s = 1 ∧ v < F) ∨ (s = 2 ∧ v < G)) ∧ f_X6_toldNumber D (Int32.ofNat (s + 1)) = some (Int32.ofNat v, D) ∧ f_X13_knownOne u E (Int32.ofNat s) = some (Int32.ofNat v, E) ∧ qp_X N lo D E) ∨ (∃ c, 1 ≤ c ∧ c ≤ 6 ∧ f_X6_toldNumber D (Int32.ofNat (s + 1)) = some (-1, (f_X6_fail D (Int32.ofNat c)).2) ∧ f_X13_knownOne u E (Int32.ofNat s) = some (0, f_X13_flaw E (Int32.ofNat c))) := by
  have n15 := h.n15
  obtain ⟨-, bx, -, -, ⟨h6, h7, h8⟩, -⟩ := h
  obtain ⟨l, l1, l2, -, -⟩ := qp_line hB bx.2.2.2.2 bx.1 t
  have hn : ∀ c : Int32, (f_X13_flaw E c).1 u 9 = Int32.ofNat (P + F + G) := fun c => by rw [qp_flo _ _ (by omega)]; exact h7
  have bad1 : (∃ c, 1 ≤ c ∧ c ≤ 6 ∧ f_X6_toldNumber_j19 D = some (-1, (f_X6_fail D (Int32.ofNat c)).2) ∧ f_X13_knownOne_j12 u (f_X13_flaw E 1) (Int32.ofNat s) = some (0, f_X13_flaw E (Int32.ofNat c))) := ⟨1, by decide, by decide, rfl, qo_known' (qp_fl9 _ _) (hn 1) n15 _⟩
  have k2 : ∀ x, f_X13_knownOne_j42 u E x = some (0, f_X13_flaw E (Int32.ofNat 2)) := by
    intro x
    unfold f_X13_knownOne_j42 j_let f_X13_knownOne_j47
    dsimp only
    rw [if_pos (qp_fl9 _ _)]
    rfl
  have k1 : f_X6_toldNumber_j49 D = some (-1, (f_X6_fail D (Int32.ofNat 2)).2) := rfl
  unfold f_X6_toldNumber f_X13_knownOne j_let
  rw [l1, l2]
  by_cases c1 : D.1 1 4 = 1
  · have c2 := t.s1.mp c1
    by_cases c3 : l = -1
    · have w := t.wd c1
      rw [if_pos c1, Option.bind_some, if_pos c3, Option.bind_some, decide_eq_true c2, decide_eq_true c3, Bool.true_and, if_pos rfl]
      unfold f_X13_knownOne_j12
      rcases qp_find (q := E.2 (u + 12)) (w := E.2 57 14) h7 n15 with ⟨i, i1, i2, i3, i4⟩ | ⟨i3, i4⟩
      · obtain ⟨n1, s', v, n2, n3, n4, n5, n6⟩ := h8 i i1
        have fi : f_X6_nameIndex (D.1 3) (D.2 1) (D.2 19) = some (Int32.ofNat i) := by
          rcases qp_index (q1 := D.2 1) (q := D.2 19) h6 (by omega) with ⟨i', j1, j2, j3, j4⟩ | ⟨j3, j4⟩
          · have : i' = i := by
              rcases Nat.lt_trichotomy i' i with z | z | z
              · exact absurd ((h8 i' (by omega)).1.symm.trans (j2.trans w)) (i3 i' z)
              · exact z
              · exact absurd (n1.trans (i2.trans w.symm)) (j3 i z)
            rw [this] at j4
            exact j4
          · exact absurd (n1.trans (i2.trans w.symm)) (j3 i (by omega))
        rw [fi, i4, Option.bind_some, Option.bind_some, if_neg (q_nem1 (by omega)), if_neg (q_nem1 (by omega)), q_at (by omega) (by decide), n3, if_neg (q_in (n := 15) (by omega) (by decide)), q_n (by omega), n2]
        by_cases e : s' = s
        · subst e
          refine Or.inl ⟨v, n6, ?_, ?_, t.X (by rw [c1]; decide)⟩
          · rw [if_pos rfl, q_at (by omega) (by decide), n5]
          · rw [if_pos rfl]
            unfold f_X13_knownOne_j47
            rw [if_neg (by rw [c2]; decide), if_neg (q_in (n := 15) (by omega) (by decide)), q_n (by omega), n4]
        · refine Or.inr ⟨2, by decide, by decide, ?_, ?_⟩
          · rw [if_neg (fun z => e (by have := (q_eq (by omega) (by omega)).mp z; omega)), k1]
          · rw [if_neg (fun z => e ((q_eq (by omega) (by omega)).mp z)), k2]
      · refine Or.inr ⟨2, by decide, by decide, ?_, ?_⟩
        · rcases qp_index (q1 := D.2 1) (q := D.2 19) h6 (by omega) with ⟨i', j1, j2, j3, j4⟩ | ⟨j3, j4⟩
          · have hi : ¬ (i' < P + F + G) := fun z => absurd ((h8 i' z).1.symm.trans (j2.trans w)) (i3 i' z)
            rcases hm with z | ⟨z1, z2, l', z3, z4, z5⟩
            · omega
            · have : i' = P + F + G := by omega
              subst this
              rw [j4, Option.bind_some, if_neg (q_nem1 (by omega)), q_at (by omega) (by decide), z4, if_neg (fun z => z5 ((q_eq (by omega) (by omega)).mp z)), k1]
          · rw [j4, Option.bind_some, if_pos rfl, k1]
        · rw [i4, Option.bind_some, if_pos rfl, k2]
    · rw [if_pos c1, Option.bind_some, if_neg c3, Option.bind_some, decide_eq_false c3, Bool.and_false, if_neg (by decide)]
      exact Or.inr bad1
  · rw [if_neg c1, Option.bind_some, decide_eq_false (fun z => c1 (t.s1.mpr z)), Bool.false_and, if_neg (by decide)]
    exact Or.inr bad1
/-- a name that wasn't told yet -/
theorem qp_fresh (hB : ∀ i, q_isb (B i)) (hb : b = 42 ∨ b = 4) (hu : 68 ≤ u) (h : qp_M B N b u D0 E0 G P F W L Q (P + F + G) D E) (hn : P + F + G < 15) (t : qp_T B N lo D E) (l v : Int32) : (∃ D' E' w, f_X6_readNewName D l v = some (true, D') ∧ f_X13_readFresh u E = some (w, E') ∧ qp_M B N b u D0 E0 G P F W L Q (P + F + G + 1) D' E' ∧ qp_T B N lo D' E' ∧ D'.1 20 (P + F + G) = l ∧ D'.1 21 (P + F + G) = v ∧ D'.2 19 (P + F + G) = w ∧ D'.1 3 2 = D.1 3 2) ∨ (∃ c x, 1 ≤ c ∧ c ≤ 6 ∧ f_X6_readNewName D l v = some (false, (f_X6_fail D (Int32.ofNat c)).2) ∧ f_X13_readFresh u E = some (x, f_X13_flaw E (Int32.ofNat c))) := by
  have M := h
  obtain ⟨h1, bx, h2, h5, ⟨h6, h7, h8⟩, h9⟩ := h
  obtain ⟨ln, l1, l2, -, -⟩ := qp_line hB bx.2.2.2.2 bx.1 t
  have hf : ∀ c : Int32, (f_X13_flaw E c).1 u 9 = Int32.ofNat (P + F + G) := fun c => by rw [qp_flo _ _ (by omega)]; exact h7
  have bad1 : ∃ c x, 1 ≤ c ∧ c ≤ 6 ∧ f_X6_readNewName_j19 D = some (false, (f_X6_fail D (Int32.ofNat c)).2) ∧ f_X13_readFresh_j12 u (f_X13_flaw E 1) = some (x, f_X13_flaw E (Int32.ofNat c)) := ⟨1, _, by decide, by decide, rfl, qo_fresh' (qp_fl9 _ _) (hf 1) (by omega)⟩
  unfold f_X6_readNewName f_X13_readFresh j_let
  rw [l1, l2]
  by_cases c1 : D.1 1 4 = 1
  · have c2 := t.s1.mp c1
    by_cases c3 : ln = -1
    · have w := t.wd c1
      rw [if_pos c1, Option.bind_some, if_pos c3, Option.bind_some, decide_eq_true c2, decide_eq_true c3, Bool.true_and, if_pos rfl]
      unfold f_X13_readFresh_j12 j_let
      rcases qp_find (q := E.2 (u + 12)) (w := E.2 57 14) h7 (by omega) with ⟨i, i1, i2, i3, i4⟩ | ⟨i3, i4⟩
      · rcases qp_index (q1 := D.2 1) (q := D.2 19) h6 (by omega) with ⟨i', j1, j2, j3, j4⟩ | ⟨j3, j4⟩
        · rw [i4, j4, Option.bind_some, Option.bind_some, if_neg (q_nem1 (by omega)), if_neg (q_nem1 (by omega))]
          refine Or.inr ⟨3, (f_X13_flaw E 3).2 57 14, by decide, by decide, rfl, ?_⟩
          show f_X13_readFresh_j32 u (f_X13_flaw E 3) = _
          unfold f_X13_readFresh_j32
          rw [qo_go (qp_fl9 _ _)]
          rfl
        · exact absurd ((h8 i i1).1.trans (i2.trans w.symm)) (j3 i i1)
      · rcases qp_index (q1 := D.2 1) (q := D.2 19) h6 (by omega) with ⟨i', j1, j2, j3, j4⟩ | ⟨j3, j4⟩
        · exact absurd ((h8 i' j1).1.symm.trans (j2.trans w)) (i3 i' j1)
        · rw [i4, j4, Option.bind_some, Option.bind_some, if_pos rfl, if_pos rfl, h6, if_neg (show ¬ ((15 : Int32) ≤ Int32.ofNat (P + F + G)) from q_go (n := 15) (by decide) hn), if_neg (q_neg (by omega)), q_n (by omega), q_s]
          unfold f_X6_readNewName_j101 f_X13_readFresh_j32
          generalize hD1 : j_sI (j_sI (j_sI (j_sL D 19 (P + F + G) (D.2 1 6)) 20 (P + F + G) l) 21 (P + F + G) v) 3 6 (Int32.ofNat (P + F + G + 1)) = D1
          have r1 : ∀ x, x ≠ 3 → x ≠ 20 → x ≠ 21 → D1.1 x = D.1 x := fun x a1 a2 a3 => by rw [← hD1, q_sI_o a1, q_sI_o a3, q_sI_o a2]; rfl
          have r3 : ∀ k, k ≠ 6 → D1.1 3 k = D.1 3 k := fun k hk => by rw [← hD1, q_sI_ao _ _ _ hk, q_sI_o (by decide), q_sI_o (by decide)]; rfl
          have r36 : D1.1 3 6 = Int32.ofNat (P + F + G + 1) := by rw [← hD1, q_sI_aa]
          have r20 : D1.1 20 = upd (D.1 20) (P + F + G) l := by rw [← hD1, q_sI_o (by decide), q_sI_o (by decide), q_sI_a]; rfl
          have r21 : D1.1 21 = upd (D.1 21) (P + F + G) v := by rw [← hD1, q_sI_o (by decide), q_sI_a, q_sI_o (by decide)]; rfl
          have r19 : D1.2 19 = vp_updL (D.2 19) (P + F + G) (D.2 1 6) := by
            rw [← hD1]
            show (if (19 : Nat) = 19 then vp_updL (D.2 19) (P + F + G) (D.2 1 6) else D.2 19) = _
            rw [if_pos rfl]
          have M1 : qp_M B N b u D0 E0 G P F W L Q (P + F + G + 1) D1 E := by
            have eA : ∀ j, j < 15 → q_rows D1 b j = q_rows D b j := fun j hj => r1 (b + j) (by omega) (by omega) (by omega)
            refine ⟨⟨?_, h1.2⟩, ⟨(r1 2 (by decide) (by decide) (by decide)).trans bx.1, bx.2.1, ?_, bx.2.2.2⟩, ⟨h2.1, (r3 7 (by decide)).trans h2.2⟩, ?_, ⟨r36, h7, fun i hi => ?_⟩, ?_⟩
            · rw [← hD1]
              exact (((h1.1.sL _ _ _).sI (by decide) (by omega) _ _).sI (by decide) (by omega) _ _).sI (by decide) (by omega) _ _
            · rw [r1 1 (by decide) (by decide) (by decide)]; exact bx.2.2.1
            · exact qp_LLc (fun j hj => eA j hj) (fun _ _ => rfl) h5
            · rw [r20, r21, r19, q_upd_o (by omega), q_upd_o (by omega), show vp_updL (D.2 19) (P + F + G) (D.2 1 6) i = D.2 19 i from if_neg (by omega)]
              exact h8 i hi
            · unfold qp_to
              rw [r3 2 (by decide), r1 b (by omega) (by omega) (by omega)]
              exact h9
          have x1 : qp_X N lo D1 E := (t.X (by rw [c1]; decide)).congr (r1 1 (by decide) (by decide) (by decide)) rfl
          obtain ⟨D', E', a1, a2, f, g, M2, t2⟩ := qp_go hB (by omega) hu M1 x1
          rw [a1, a2]
          refine Or.inl ⟨D', E', _, rfl, rfl, M2, t2, ?_, ?_, ?_, ?_⟩
          · rw [f.1 20 (by decide), r20, q_upd_a]
          · rw [f.1 21 (by decide), r21, q_upd_a]
          · rw [f.2.2 19 (by decide), r19, ← w]
            exact if_pos rfl
          · rw [f.1 3 (by decide), r3 2 (by decide)]
    · rw [if_pos c1, Option.bind_some, if_neg c3, Option.bind_some, decide_eq_false c3, Bool.and_false, if_neg (by decide)]
      exact Or.inr bad1
  · rw [if_neg c1, Option.bind_some, decide_eq_false (fun z => c1 (t.s1.mpr z)), Bool.false_and, if_neg (by decide)]
    exact Or.inr bad1
/-- a word that must stand there -/
theorem qp_need (hB : ∀ i, q_isb (B i)) (hb : 4 ≤ b) (hu : 68 ≤ u) (h : qp_M B N b u D0 E0 G P F W L Q m D E) (t : qp_T B N lo D E) {k k' : Nat} (hk : k < 19) (hp : qp_pr k = k') : (∃ D' E', f_X6_readWord D k = some (true, D') ∧ f_X13_needs E k' = some E' ∧ qp_cf D D' ∧ qp_mf E E' ∧ qp_M B N b u D0 E0 G P F W L Q m D' E' ∧ qp_T B N lo D' E') ∨ (f_X6_readWord D k = some (false, (f_X6_fail D (Int32.ofNat 1)).2) ∧ f_X13_needs E k' = some (f_X13_flaw E (Int32.ofNat 1))) := by
  obtain ⟨β, b1, b2, b3⟩ := qp_word hB h.2.1.2.2.2.2 h.2.1.1 t hk hp
  unfold f_X6_readWord f_X13_needs j_let
  rw [b1, b2, Option.bind_some, Option.bind_some]
  cases β
  · rw [if_neg (by decide), if_neg (by decide)]
    refine Or.inr ⟨rfl, ?_⟩
    show f_X13_needs_j13 k' (f_X13_flaw E 1) = _
    unfold f_X13_needs_j13
    rw [qo_go (qp_fl9 _ _)]
    rfl
  · rw [if_pos rfl, if_pos rfl]
    unfold f_X13_needs_j13
    obtain ⟨D', E', a1, a2, f, g, M2, t2⟩ := qp_go hB hb hu h (t.X (by rw [b3 rfl]; decide))
    rw [a1, a2]
    exact Or.inl ⟨D', E', rfl, rfl, f, g, M2, t2⟩
/-- a whole number -/
theorem qp_whole (t : qp_T B N lo D E) (n : Nat) (hn : n ≤ 1000) : (∃ v, v ≤ n ∧ f_X6_isWholeUpTo D (Int32.ofNat n) = (true, D) ∧ D.1 1 7 = Int32.ofNat v ∧ qp_X N lo D E ∧ f_X13_readWhole E 0 (Int32.ofNat n) = (f_X13_goesOn E).bind (fun q => some (Int32.ofNat v, q))) ∨ (∃ c, 1 ≤ c ∧ c ≤ 6 ∧ f_X6_isWholeUpTo D (Int32.ofNat n) = (false, (f_X6_fail D (Int32.ofNat c)).2) ∧ f_X13_readWhole E 0 (Int32.ofNat n) = some (0, f_X13_flaw E (Int32.ofNat c))) := by
  have X := t.X
  obtain ⟨p, r, h1, h2, h3, e3, e5, e10, t⟩ := t
  have no : D.1 1 4 ≠ 2 → E.1 57 9 ≠ 3 → ∃ c, 1 ≤ c ∧ c ≤ 6 ∧ f_X6_isWholeUpTo D (Int32.ofNat n) = (false, (f_X6_fail D (Int32.ofNat c)).2) ∧ f_X13_readWhole E 0 (Int32.ofNat n) = some (0, f_X13_flaw E (Int32.ofNat c)) := by
    intro a c
    unfold f_X6_isWholeUpTo f_X13_readWhole j_let
    rw [if_neg a, if_neg c]
    exact ⟨1, by decide, by decide, rfl, qo_wh' (qp_fl9 _ _) _⟩
  rcases t with ⟨t4, t9, -⟩ | ⟨t4, t9, -⟩ | ⟨t4, t9, t8, v, v9, v7, v11⟩ | ⟨t4, t9, -⟩ | ⟨t4, t9, -⟩ | ⟨t4, t9⟩
  · exact Or.inr (no (by rw [t4]; decide) (by rw [t9]; decide))
  · exact Or.inr (no (by rw [t4]; decide) (by rw [t9]; decide))
  · unfold f_X6_isWholeUpTo f_X13_readWhole j_let f_X13_in
    rw [if_pos t4, if_pos t9, v7, v11, if_neg (q_neg (by omega))]
    by_cases c : v ≤ n
    · rw [if_pos ((q_le (by omega) (by omega)).mpr c), if_neg (show ¬ (Int32.ofNat n < Int32.ofNat v) from fun z => by
        have := (q_lt (by omega) (by omega)).mp z
        omega), if_pos rfl]
      refine Or.inl ⟨v, c, rfl, rfl, X (by rw [t4]; decide), ?_⟩
      unfold f_X13_readWhole_j33 f_X13_readWhole_j49
      rw [if_neg (by rw [t9]; decide), v11]
    · rw [if_neg (fun z => c ((q_le (by omega) (by omega)).mp z)), if_pos ((q_lt (by omega) (by omega)).mpr (by omega)), if_neg (by decide)]
      exact Or.inr ⟨4, by decide, by decide, rfl, qo_wh' (qp_fl9 _ _) _⟩
  · exact Or.inr (no (by rw [t4]; decide) (by rw [t9]; decide))
  · exact Or.inr (no (by rw [t4]; decide) (by rw [t9]; decide))
  · exact Or.inr (no (by rw [t4]; decide) (by rw [t9]; decide))
/-- the kind of a gate -/
theorem qp_kind (hB : ∀ i, q_isb (B i)) (hN : N ≤ 900) (h2 : D.1 2 = B) (t : qp_T B N lo D E) : ∃ κ : Int32, f_X6_kindOf (D.1 1) (D.1 2) = some κ ∧ (κ = -1 ∨ ((κ = 0 ∨ κ = 1 ∨ κ = 2 ∨ κ = 3) ∧ qp_X N lo D E)) ∧ ∀ K : Int32 → Option JD, ((f_X13_isWord (E.1 57) (E.2 57) 30).bind (fun q22 => if q22 = true then K 0 else ((f_X13_isWord (E.1 57) (E.2 57) 31).bind (fun q36 => if q36 = true then K 1 else ((f_X13_isWord (E.1 57) (E.2 57) 32).bind (fun q50 => if q50 = true then K 2 else ((f_X13_isWord (E.1 57) (E.2 57) 33).bind (fun q64 => if q64 = true then K 3 else K (-1))))))))) = K κ := by
  obtain ⟨w0, a0, b0, c0⟩ := qp_word hB hN h2 t (k := 11) (k' := 30) (by decide) rfl
  obtain ⟨w1, a1, b1, c1⟩ := qp_word hB hN h2 t (k := 12) (k' := 31) (by decide) rfl
  obtain ⟨w2, a2, b2, c2⟩ := qp_word hB hN h2 t (k := 13) (k' := 32) (by decide) rfl
  obtain ⟨w3, a3, b3, c3⟩ := qp_word hB hN h2 t (k := 14) (k' := 33) (by decide) rfl
  have X : ∀ w : Bool, (w = true → D.1 1 4 = 1) → w = true → qp_X N lo D E := fun w h hw => t.X (by rw [h hw]; decide)
  unfold f_X6_kindOf
  rw [a0, a1, a2, a3, b0, b1, b2, b3]
  cases w0
  case true => exact ⟨0, rfl, Or.inr ⟨Or.inl rfl, X _ c0 rfl⟩, fun _ => rfl⟩
  case false =>
    cases w1
    case true => exact ⟨1, rfl, Or.inr ⟨Or.inr (Or.inl rfl), X _ c1 rfl⟩, fun _ => rfl⟩
    case false =>
      cases w2
      case true => exact ⟨2, rfl, Or.inr ⟨Or.inr (Or.inr (Or.inl rfl)), X _ c2 rfl⟩, fun _ => rfl⟩
      case false =>
        cases w3
        case true => exact ⟨3, rfl, Or.inr ⟨Or.inr (Or.inr (Or.inr rfl)), X _ c3 rfl⟩, fun _ => rfl⟩
        case false => exact ⟨-1, rfl, Or.inl rfl, fun _ => rfl⟩
/-- how its hook hangs -/
theorem qp_hung (hB : ∀ i, q_isb (B i)) (hN : N ≤ 900) (h2 : D.1 2 = B) (t : qp_T B N lo D E) : ∃ κ : Int32, f_X6_hungOf (D.1 1) (D.1 2) = some κ ∧ (κ = -1 ∨ ((κ = 0 ∨ κ = 1 ∨ κ = 2) ∧ qp_X N lo D E)) ∧ ∀ K : Int32 → Option JD, ((f_X13_isWord (E.1 57) (E.2 57) 35).bind (fun q22 => if q22 = true then K 0 else ((f_X13_isWord (E.1 57) (E.2 57) 36).bind (fun q36 => if q36 = true then K 1 else ((f_X13_isWord (E.1 57) (E.2 57) 37).bind (fun q50 => if q50 = true then K 2 else K (-1))))))) = K κ := by
  obtain ⟨w0, a0, b0, c0⟩ := qp_word hB hN h2 t (k := 16) (k' := 35) (by decide) rfl
  obtain ⟨w1, a1, b1, c1⟩ := qp_word hB hN h2 t (k := 17) (k' := 36) (by decide) rfl
  obtain ⟨w2, a2, b2, c2⟩ := qp_word hB hN h2 t (k := 18) (k' := 37) (by decide) rfl
  have X : ∀ w : Bool, (w = true → D.1 1 4 = 1) → w = true → qp_X N lo D E := fun w h hw => t.X (by rw [h hw]; decide)
  unfold f_X6_hungOf
  rw [a0, a1, a2, b0, b1, b2]
  cases w0
  case true => exact ⟨0, rfl, Or.inr ⟨Or.inl rfl, X _ c0 rfl⟩, fun _ => rfl⟩
  case false =>
    cases w1
    case true => exact ⟨1, rfl, Or.inr ⟨Or.inr (Or.inl rfl), X _ c1 rfl⟩, fun _ => rfl⟩
    case false =>
      cases w2
      case true => exact ⟨2, rfl, Or.inr ⟨Or.inr (Or.inr rfl), X _ c2 rfl⟩, fun _ => rfl⟩
      case false => exact ⟨-1, rfl, Or.inl rfl, fun _ => rfl⟩
end QM
