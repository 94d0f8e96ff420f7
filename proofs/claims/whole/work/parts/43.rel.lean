/-! tier two: the relation between the class and the reference -/
def q_rows (d : JD) (a : Nat) : Nat → Nat → Int32 := fun j => d.1 (a + j)
/-- a way with its hooks on the ground, year and seed, on both sides -/
def q_NR (G : Nat) (A T : Nat → Nat → Int32) (w s y : Int32) (v : Nat → Int32) : Prop := q_WY G v ∧ w = q_cod v ∧ (∃ n H : Nat, v 6 = Int32.ofNat n ∧ H ≤ 6 ∧ A 0 0 = Int32.ofNat H ∧ n + q_cnt v 6 = H + q_cnt (T 6) 6) ∧ v 7 = y ∧ v 8 = s ∧ (∃ n, n ≤ 999 ∧ y = Int32.ofNat n) ∧ (∃ n, n < 65537 ∧ s = Int32.ofNat n) ∧ ∀ g, g < G → T 3 g = 2 → v g = T 6 g
def q_NL (a : Nat) (d : JD) : Prop := (∀ k, k < 8 → d.1 a k = 0) ∧ (∀ k, k < 8 → d.1 (a + 9) k = 0) ∧ (∀ k, k < 3 → d.1 22 k = 0) ∧ d.1 24 4 = 0 ∧ d.1 28 4 = 0
def q_SH (G : Nat) (A T : Nat → Nat → Int32) (most : Nat) (n1 n2 : Int32) (r0 r1 r2 : Nat → Int32) (v : Nat → Int32) : Prop := ∃ c, c ≤ most ∧ n1 = Int32.ofNat c ∧ n2 = Int32.ofNat c ∧ ∀ i, i < c → q_NR G A T (r0 i) (r1 i) (r2 i) (fun k => v (9 * i + k))
def q_LD (G P F W L a t : Nat) (d : JD) : Prop := q_LR G P F W L (q_rows d a) (q_rows d t) ∧ q_NR G (q_rows d a) (q_rows d t) (d.1 22 0) (d.1 22 1) (d.1 22 2) (d.1 59) ∧ q_SH G (q_rows d a) (q_rows d t) 16 (d.1 24 4) (d.1 57 19) (d.1 25) (d.1 26) (d.1 27) (d.1 61) ∧ q_SH G (q_rows d a) (q_rows d t) 3 (d.1 28 4) (d.1 57 20) (d.1 29) (d.1 30) (d.1 31) (d.1 62)
def q_G (g : JG) (a b : Nat) : Prop := ((a = 42 ∧ b = 4) ∨ (a = 4 ∧ b = 42)) ∧ j_sh g 0 TS_W RS_W ∧ j_sh g a TS_CL RS_CL ∧ j_sh g b TS_CL RS_CL ∧ g.2.2.1 0 10 = some a ∧ g.2.2.1 3 1 = some b
abbrev q_K : Type := (Nat → Nat → Int32) → (Nat → Nat → Int32) → Prop
/-- caches are looked at by their rows alone -/
def q_Kok (K : q_K) : Prop := ∀ A A' C C', (∀ j, j < 15 → A' j = A j) → (∀ j, j < 9 → C' j = C j) → K A C → K A' C'
def q_R (K : q_K) (h : JH) : Prop := ∃ a b, q_G h.1 a b ∧ q_TR h.2 ∧ (h.2.1 24 3 = 16 ∧ h.2.1 28 3 = 3) ∧ K (q_rows h.2 a) (q_rows h.2 32) ∧ ((h.1.2.2.1 57 3 = none ∧ q_NL a h.2) ∨ ∃ t, 68 ≤ t ∧ h.1.2.2.1 57 3 = some t ∧ j_sh h.1 t TS_ML RS_ML ∧ ∃ G P F W L, q_LD G P F W L a t h.2)
theorem q_G.a {g : JG} {a b : Nat} (h : q_G g a b) : a = 42 ∨ a = 4 := by
  rcases h.1 with h | h
  · exact Or.inl h.1
  · exact Or.inr h.1
theorem q_lw {K : q_K} {h : JH} (r : q_R K h) : j_lw h := by
  obtain ⟨a, b, hg, -⟩ := r
  exact ⟨hg.2.1.1, hg.2.1.ty 0 rfl, hg.2.1.ty 57 rfl, hg.2.1.ty 67 rfl⟩
theorem q_L_congr {G P F W L : Nat} {A A' T T' : Nat → Nat → Int32} (hA : ∀ j, j < 15 → A' j = A j) (hT : ∀ j, j < 15 → T' j = T j) (h : q_LR G P F W L A T) : q_LR G P F W L A' T' := by
  unfold q_LR q_L1 q_L2 q_L3 q_L4 q_L5 at h ⊢
  rw [hA 0 (by decide), hA 1 (by decide), hA 2 (by decide), hA 3 (by decide), hA 4 (by decide), hA 5 (by decide), hA 6 (by decide), hA 7 (by decide), hA 8 (by decide), hA 9 (by decide), hA 10 (by decide), hA 11 (by decide), hA 12 (by decide), hA 13 (by decide), hA 14 (by decide), hT 0 (by decide), hT 1 (by decide), hT 2 (by decide), hT 3 (by decide), hT 4 (by decide), hT 5 (by decide), hT 6 (by decide), hT 7 (by decide), hT 8 (by decide), hT 9 (by decide), hT 10 (by decide), hT 11 (by decide)]
  exact h
theorem q_N_congr {G : Nat} {A A' T T' : Nat → Nat → Int32} {w s y : Int32} {v : Nat → Int32} (hA : ∀ j, j < 15 → A' j = A j) (hT : ∀ j, j < 15 → T' j = T j) (h : q_NR G A T w s y v) : q_NR G A' T' w s y v := by
  unfold q_NR at h ⊢
  rw [hA 0 (by decide), hT 3 (by decide), hT 6 (by decide)]
  exact h
theorem q_S_congr {G : Nat} {A A' T T' : Nat → Nat → Int32} {most : Nat} {n1 n2 : Int32} {r0 r1 r2 v : Nat → Int32} (hA : ∀ j, j < 15 → A' j = A j) (hT : ∀ j, j < 15 → T' j = T j) (h : q_SH G A T most n1 n2 r0 r1 r2 v) : q_SH G A' T' most n1 n2 r0 r1 r2 v := by
  obtain ⟨c, h1, h2, h3, h4⟩ := h
  exact ⟨c, h1, h2, h3, fun i hi => q_N_congr hA hT (h4 i hi)⟩
/-- a small change keeps the relation -/
theorem q_R.sm {K : q_K} (hK : q_Kok K) {g : JG} {d d2 : JD} (r : q_R K (g, d)) (s : q_sm d d2) (ht : q_TR d2) : q_R K (g, d2) := by
  obtain ⟨a, b, hg, -, hr, hk, hl⟩ := r
  have hA : ∀ j, j < 15 → q_rows d2 a j = q_rows d a j := fun j hj => s.A hg.a hj
  have hC : ∀ j, j < 9 → q_rows d2 32 j = q_rows d 32 j := by
    intro j hj
    refine s.1 (32 + j) (by omega) (by omega) ?_
    match j, hj with
    | 0, _ => rfl
    | 1, _ => rfl
    | 2, _ => rfl
    | 3, _ => rfl
    | 4, _ => rfl
    | 5, _ => rfl
    | 6, _ => rfl
    | 7, _ => rfl
    | 8, _ => rfl
    | n + 9, h => exact absurd h (by omega)
  have e : ∀ b, b ≠ 0 → b ≠ 57 → q_fr b = false → d2.1 b = d.1 b := s.1
  refine ⟨a, b, hg, ht, ?_, hK _ _ _ _ hA hC hk, ?_⟩
  · rw [show (g, d2).2.1 24 = d.1 24 from e 24 (by decide) (by decide) rfl, show (g, d2).2.1 28 = d.1 28 from e 28 (by decide) (by decide) rfl]
    exact hr
  · rcases hl with ⟨h1, h2⟩ | ⟨t, h1, h2, h3, G, P, F, W, L, h4⟩
    · refine Or.inl ⟨h1, ?_⟩
      unfold q_NL at h2 ⊢
      have e0 : d2.1 a = d.1 a := s.A hg.a (j := 0) (by decide)
      have e9 : d2.1 (a + 9) = d.1 (a + 9) := s.A hg.a (j := 9) (by decide)
      dsimp only at h2 ⊢
      rw [e0, e9, e 22 (by decide) (by decide) rfl, e 24 (by decide) (by decide) rfl, e 28 (by decide) (by decide) rfl]
      exact h2
    · refine Or.inr ⟨t, h1, h2, h3, G, P, F, W, L, ?_⟩
      have hT : ∀ j, j < 15 → q_rows d2 t j = q_rows d t j := fun j hj => s.T (t := t + j) (by omega)
      obtain ⟨p1, p2, p3, p4⟩ := h4
      refine ⟨q_L_congr hA hT p1, ?_, ?_, ?_⟩
      · dsimp only at p2 ⊢
        rw [e 22 (by decide) (by decide) rfl, e 59 (by decide) (by decide) rfl]
        exact q_N_congr hA hT p2
      · dsimp only at p3 ⊢
        rw [e 24 (by decide) (by decide) rfl, e 25 (by decide) (by decide) rfl, e 26 (by decide) (by decide) rfl, e 27 (by decide) (by decide) rfl, e 61 (by decide) (by decide) rfl, s.2.1 19 rfl]
        exact q_S_congr hA hT p3
      · dsimp only at p4 ⊢
        rw [e 28 (by decide) (by decide) rfl, e 29 (by decide) (by decide) rfl, e 30 (by decide) (by decide) rfl, e 31 (by decide) (by decide) rfl, e 62 (by decide) (by decide) rfl, s.2.1 20 rfl]
        exact q_S_congr hA hT p4
theorem q_R.ans {K : q_K} (hK : q_Kok K) {g : JG} {d d2 : JD} {w : Int32} (r : q_R K (g, d)) (a : q_ans d d2 w) : q_R K (g, d2) := by
  have ht : q_TR d := by obtain ⟨_, _, _, h, _⟩ := r; exact h
  exact r.sm hK a.1 (ht.ans a)
