/-! tier two: loops side by side -/
def q_rel {R S R' S' : Type} (ρ : R → R' → Prop) (σ : S → S' → Prop) (x : R ⊕ S) (y : R' ⊕ S') : Prop := match x, y with
  | .inl r, .inl r' => ρ r r'
  | .inr s, .inr s' => σ s s'
  | _, _ => False
theorem q_fo_s {S R : Type} (b : Int32) (G : Int32 → S → R ⊕ S) (n : Nat) (i : Int32) (s : S) : j_fo b G (n + 1) i s = if b ≤ i then .inr s else Sum.elim Sum.inl (fun s' => j_fo b G n (i + 1) s') (G i s) := by
  cases h : G i s <;> simp [j_fo, h]
theorem q_fo_rel' {R S R' S' : Type} {ρ : R → R' → Prop} {σ : S → S' → Prop} {n : Nat} (hn : n < 2147483648) {G : Int32 → S → R ⊕ S} {G' : Int32 → S' → R' ⊕ S'} (h : ∀ i, i < n → ∀ s s', σ s s' → q_rel ρ σ (G (Int32.ofNat i) s) (G' (Int32.ofNat i) s')) : ∀ (k m : Nat), m + k = n → ∀ s s', σ s s' → q_rel ρ σ (j_fo (Int32.ofNat n) G k (Int32.ofNat m) s) (j_fo (Int32.ofNat n) G' k (Int32.ofNat m) s')
  | 0, m, _, s, s', hs => hs
  | k + 1, m, hm, s, s', hs => by
    have hx := h m (by omega) s s' hs
    rw [q_fo_s, q_fo_s]
    rw [if_neg (by rw [q_le hn (by omega)]; omega), if_neg (by rw [q_le hn (by omega)]; omega), q_s]
    cases e1 : G (Int32.ofNat m) s with
    | inl r =>
      cases e2 : G' (Int32.ofNat m) s' with
      | inl r' => rw [e1, e2] at hx; exact hx
      | inr x' => rw [e1, e2] at hx; exact hx.elim
    | inr x =>
      cases e2 : G' (Int32.ofNat m) s' with
      | inl r' => rw [e1, e2] at hx; exact hx.elim
      | inr x' =>
        rw [e1, e2] at hx
        exact q_fo_rel' hn h k (m + 1) (by omega) x x' hx
theorem q_fo_rel {R S R' S' : Type} {ρ : R → R' → Prop} {σ : S → S' → Prop} {n : Nat} (hn : n < 2147483648) {G : Int32 → S → R ⊕ S} {G' : Int32 → S' → R' ⊕ S'} (h : ∀ i, i < n → ∀ s s', σ s s' → q_rel ρ σ (G (Int32.ofNat i) s) (G' (Int32.ofNat i) s')) {s : S} {s' : S'} (hs : σ s s') : q_rel ρ σ (j_fo (Int32.ofNat n) G (j_mu (Int32.ofNat n) 0) 0 s) (j_fo (Int32.ofNat n) G' (j_mu (Int32.ofNat n) 0) 0 s') := by
  rw [q_mu hn]
  exact q_fo_rel' hn h n 0 (by omega) s s' hs
/-- a counted loop of the class that may return, and a loop of the reference -/
theorem q_fo_wh' {R S E : Type} {Tt : Type} {ρ : R → E → Prop} {τ : Nat → S → Tt → Prop} {n : Nat} (hn : n < 2147483648) {G : Int32 → S → R ⊕ S} {F : Tt → Option (Tt ⊕ E)} (h : ∀ i, i < n → ∀ s t, τ i s t → (∃ r e, G (Int32.ofNat i) s = .inl r ∧ F t = some (.inr e) ∧ ρ r e) ∨ ∃ s' t', G (Int32.ofNat i) s = .inr s' ∧ F t = some (.inl t') ∧ τ (i + 1) s' t') {ρ' : S → E → Prop} (hend : ∀ s t, τ n s t → ∃ e, F t = some (.inr e) ∧ ρ' s e) : ∀ (k m : Nat), m + k = n → ∀ s t, τ m s t → ∀ u, k < u → ∃ e, j_wh F u t = some e ∧ Sum.elim (fun r => ρ r e) (fun s => ρ' s e) (j_fo (Int32.ofNat n) G k (Int32.ofNat m) s)
  | 0, m, hm, s, t, ht, u + 1, _ => by
    rw [Nat.add_zero] at hm
    subst hm
    obtain ⟨e, h1, h2⟩ := hend s t ht
    refine ⟨e, ?_, h2⟩
    show (F t).bind _ = _
    rw [h1]; rfl
  | k + 1, m, hm, s, t, ht, u + 1, hu => by
    have hne : ¬ (Int32.ofNat n ≤ Int32.ofNat m) := by rw [q_le hn (by omega)]; omega
    have ex : j_fo (Int32.ofNat n) G (k + 1) (Int32.ofNat m) s = Sum.elim Sum.inl (fun s' => j_fo (Int32.ofNat n) G k (Int32.ofNat (m + 1)) s') (G (Int32.ofNat m) s) := by
      rw [q_fo_s, if_neg hne, q_s]
    rcases h m (by omega) s t ht with ⟨r, e, h1, h2, h3⟩ | ⟨s', t', h1, h2, h3⟩
    · refine ⟨e, ?_, ?_⟩
      · show (F t).bind _ = _
        rw [h2]; rfl
      · rw [ex, h1]; exact h3
    · obtain ⟨e, h4, h5⟩ := q_fo_wh' hn h hend k (m + 1) (by omega) s' t' h3 u (by omega)
      refine ⟨e, ?_, ?_⟩
      · show (F t).bind _ = _
        rw [h2]; exact h4
      · rw [ex, h1]; exact h5
theorem q_fo_wh {R S E : Type} {Tt : Type} {ρ : R → E → Prop} {ρ' : S → E → Prop} (τ : Nat → S → Tt → Prop) {n : Nat} (hn : n < 2147483648) {G : Int32 → S → R ⊕ S} {F : Tt → Option (Tt ⊕ E)} (h : ∀ i, i < n → ∀ s t, τ i s t → (∃ r e, G (Int32.ofNat i) s = .inl r ∧ F t = some (.inr e) ∧ ρ r e) ∨ ∃ s' t', G (Int32.ofNat i) s = .inr s' ∧ F t = some (.inl t') ∧ τ (i + 1) s' t') (hend : ∀ s t, τ n s t → ∃ e, F t = some (.inr e) ∧ ρ' s e) {s : S} {t : Tt} (h0 : τ 0 s t) : ∃ e, j_wh F j_fuel t = some e ∧ Sum.elim (fun r => ρ r e) (fun s => ρ' s e) (j_fo (Int32.ofNat n) G (j_mu (Int32.ofNat n) 0) 0 s) := by
  rw [q_mu hn]
  exact q_fo_wh' hn h hend n 0 (by omega) s t h0 j_fuel (by unfold j_fuel; omega)
/-- a counted loop of the class and a loop of the reference -/
theorem q_for_wh' {S E : Type} {Tt : Type} {τ : Nat → S → Tt → Prop} {n : Nat} (hn : n < 2147483648) {G : Int32 → S → S} {F : Tt → Option (Tt ⊕ E)} (h : ∀ i, i < n → ∀ s t, τ i s t → ∃ t', F t = some (.inl t') ∧ τ (i + 1) (G (Int32.ofNat i) s) t') {ρ' : S → E → Prop} (hend : ∀ s t, τ n s t → ∃ e, F t = some (.inr e) ∧ ρ' s e) : ∀ (k m : Nat), m + k = n → ∀ s t, τ m s t → ∀ u, k < u → ∃ e, j_wh F u t = some e ∧ ρ' (j_for (Int32.ofNat n) G k (Int32.ofNat m) s) e
  | 0, m, hm, s, t, ht, u + 1, _ => by
    rw [Nat.add_zero] at hm
    subst hm
    obtain ⟨e, h1, h2⟩ := hend s t ht
    refine ⟨e, ?_, h2⟩
    show (F t).bind _ = _
    rw [h1]; rfl
  | k + 1, m, hm, s, t, ht, u + 1, hu => by
    have hne : ¬ (Int32.ofNat n ≤ Int32.ofNat m) := by rw [q_le hn (by omega)]; omega
    obtain ⟨t', h2, h3⟩ := h m (by omega) s t ht
    obtain ⟨e, h4, h5⟩ := q_for_wh' hn h hend k (m + 1) (by omega) (G (Int32.ofNat m) s) t' h3 u (by omega)
    refine ⟨e, ?_, ?_⟩
    · show (F t).bind _ = _
      rw [h2]; exact h4
    · show ρ' (if Int32.ofNat n ≤ Int32.ofNat m then _ else _) e
      rw [if_neg hne, q_s]
      exact h5
theorem q_for_wh {S E : Type} {Tt : Type} {ρ' : S → E → Prop} (τ : Nat → S → Tt → Prop) {n : Nat} (hn : n < 2147483648) {G : Int32 → S → S} {F : Tt → Option (Tt ⊕ E)} (h : ∀ i, i < n → ∀ s t, τ i s t → ∃ t', F t = some (.inl t') ∧ τ (i + 1) (G (Int32.ofNat i) s) t') (hend : ∀ s t, τ n s t → ∃ e, F t = some (.inr e) ∧ ρ' s e) {s : S} {t : Tt} (h0 : τ 0 s t) : ∃ e, j_wh F j_fuel t = some e ∧ ρ' (j_for (Int32.ofNat n) G (j_mu (Int32.ofNat n) 0) 0 s) e := by
  rw [q_mu hn]
  exact q_for_wh' hn h hend n 0 (by omega) s t h0 j_fuel (by unfold j_fuel; omega)
/-! tier two: the thief and the sentry -/
theorem q_inr {p : Int32} {n : Nat} (hn : n + 1 < 2147483648) (h : f_X13_in p 0 (Int32.ofNat n) = true) : ∃ i, i < n + 1 ∧ p = Int32.ofNat i := by
  unfold f_X13_in at h
  by_cases h1 : p < 0
  · rw [if_pos h1] at h; cases h
  · rw [if_neg h1] at h
    by_cases h2 : Int32.ofNat n < p
    · rw [if_pos h2] at h; cases h
    · refine q_idx h1 (fun z => h2 ?_) hn
      rw [Int32.le_iff_toInt_le, q_i hn] at z
      rw [Int32.lt_iff_toInt_lt, q_i (by omega)]
      omega
theorem q_may {a : Nat} {d : JD} (h : f_X11_hasLand (d.1 a) = true) (p : Int32) : f_X11_mayPlay a d p = if f_X13_in p 0 20 = true then (true, d) else (false, j_sI d 0 11 2) := by
  unfold f_X11_mayPlay f_X11_mayPlay_j23 f_X13_in j_let
  simp only [h, q_xde, if_true, Bool.false_eq_true, if_false]
  by_cases h1 : p < 0
  · simp only [h1, if_true, Bool.false_eq_true, if_false]
  · by_cases h2 : p ≤ 20
    · have h3 : ¬ (20 : Int32) < p := by
        rw [Int32.le_iff_toInt_le] at h2
        rw [Int32.lt_iff_toInt_lt]
        omega
      simp only [h1, h2, h3, if_true, if_false]
    · have h3 : (20 : Int32) < p := by
        rw [Int32.le_iff_toInt_le] at h2
        rw [Int32.lt_iff_toInt_lt]
        omega
      simp only [h1, h2, h3, if_true, if_false, Bool.false_eq_true]
theorem q_rw (p : Int32) : f_X13_refusesWorth p = if f_X13_in p 0 20 = true then 0 else 2 := rfl
theorem qk_steal {G P F W L a t : Nat} {d : JD} (hL : q_LR G P F W L (q_rows d a) (q_rows d t)) (hN : q_NR G (q_rows d a) (q_rows d t) (d.1 22 0) (d.1 22 1) (d.1 22 2) (d.1 59)) (h68 : 68 ≤ t) (pq0 pq1 pq2 pq3 : Int32) : ∃ (x : Int32) (w : Int32) (d2 : JD), f_X11_steal a d pq0 pq1 pq2 pq3 = (x, j_sI d 0 11 w) ∧ f_X13_steal t (j_sI d 0 11 w) pq0 pq1 pq2 pq3 = (x, d2) ∧ q_ans d d2 w := by
  have k1 : f_X11_hasLand (d.1 a) = true := q_hl1 (A := q_rows d a) (T := q_rows d t) hL
  by_cases h2 : f_X13_in pq0 0 20 = true
  · refine ⟨f_X11_payOf pq0 pq1 pq2 pq3, 0, q_fin (q_dM d 0) 0, ?_, ?_, q_ansd d (by decide)⟩
    · unfold f_X11_steal j_let
      simp only [q_may k1, h2, q_xan, if_true]
    · unfold f_X13_steal f_X13_steal_j47 j_let
      simp only [q_dMe, q_rw, h2, if_true, show (0 : Int32) ≤ 0 by decide, q_good]
      unfold f_X11_payOf f_X13_thiefs f_X13_sentrys
      by_cases c1 : pq1 = 0 <;> by_cases c2 : pq2 = 0 <;> by_cases c3 : pq3 = 0 <;> simp only [c1, c2, c3, if_true, if_false]
  · refine ⟨-100, 2, q_fin (q_dM d 2) 2, ?_, ?_, q_ansd d (by decide)⟩
    · unfold f_X11_steal j_let
      simp only [q_may k1, h2, if_false, Bool.false_eq_true]
    · unfold f_X13_steal f_X13_steal_j47 j_let
      simp only [q_dMe, q_rw, h2, if_false, show ¬ ((2 : Int32) ≤ 0) by decide, q_mlo, Bool.false_eq_true]
theorem q_rests21 : ∀ n : Fin 21, ∀ (t : Nat) (d : JD), j_for 4 (f_X13_rests_b26 t (Int32.ofNat n.val) d) (j_mu 4 0) 0 0 = f_X11_countRests (Int32.ofNat n.val) := by
  intro n t d
  have h : ∀ n : Fin 21, ∀ k : Fin 4, f_X13_isRest (Int32.ofNat n.val) (Int32.ofNat k.val) = f_X11_isRestPair (Int32.ofNat n.val) (Int32.ofNat k.val) := by decide +kernel
  unfold f_X11_countRests j_let
  show j_for (Int32.ofNat 4) _ (j_mu (Int32.ofNat 4) 0) 0 0 = j_for (Int32.ofNat 4) _ (j_mu (Int32.ofNat 4) 0) 0 0
  rw [q_for _ (by decide), q_for _ (by decide)]
  refine q_it_congr 4 0 (fun i hi s => ?_)
  unfold f_X13_rests_b26 f_X13_rests_j47_26 f_X11_countRests_b4 f_X11_countRests_j20_4
  rw [h n ⟨i, hi⟩]
  by_cases c : f_X11_isRestPair (Int32.ofNat n.val) (Int32.ofNat i) = true
  · rw [if_pos c, if_pos c]
  · rw [if_neg c, if_neg c, Int32.add_zero]
theorem qk_rests {G P F W L a t : Nat} {d : JD} (hL : q_LR G P F W L (q_rows d a) (q_rows d t)) (hN : q_NR G (q_rows d a) (q_rows d t) (d.1 22 0) (d.1 22 1) (d.1 22 2) (d.1 59)) (h68 : 68 ≤ t) (pq0 : Int32) : ∃ (x : Int32) (w : Int32) (d2 : JD), f_X11_rests a d pq0 = (x, j_sI d 0 11 w) ∧ f_X13_rests t (j_sI d 0 11 w) pq0 = (x, d2) ∧ q_ans d d2 w := by
  have k1 : f_X11_hasLand (d.1 a) = true := q_hl1 (A := q_rows d a) (T := q_rows d t) hL
  by_cases h2 : f_X13_in pq0 0 20 = true
  · obtain ⟨i, hi, e⟩ := q_inr (n := 20) (by decide) h2
    have e9 := q_rests21 ⟨i, hi⟩ t (q_dM d 0)
    dsimp only at e9
    rw [← e] at e9
    refine ⟨f_X11_countRests pq0, 0, q_fin (q_dM d 0) 0, ?_, ?_, q_ansd d (by decide)⟩
    · unfold f_X11_rests j_let
      simp only [q_may k1, h2, q_xan, if_true]
    · unfold f_X13_rests j_let
      simp only [q_dMe, q_rw, h2, if_true, show (0 : Int32) ≤ 0 by decide, q_good, e9]
  · refine ⟨-1, 2, q_fin (q_dM d 2) 2, ?_, ?_, q_ansd d (by decide)⟩
    · unfold f_X11_rests j_let
      simp only [q_may k1, h2, if_false, Bool.false_eq_true]
    · unfold f_X13_rests j_let
      simp only [q_dMe, q_rw, h2, if_false, show ¬ ((2 : Int32) ≤ 0) by decide, q_ref, Bool.false_eq_true]
theorem q_rest21 : ∀ n : Fin 21, ∀ (t : Nat) (d : JD), Sum.elim (fun r9 => r9) (fun (s23 : JD) => ((-2 : Int32), q_fin s23 0)) (j_fo 4 (f_X13_rest_b23 t (Int32.ofNat n.val)) (j_mu 4 0) 0 d) = (f_X11_firstRest (Int32.ofNat n.val), q_fin d 0) := by
  intro n t d
  have h : ∀ n : Fin 21, ∀ k : Fin 4, f_X13_isRest (Int32.ofNat n.val) (Int32.ofNat k.val) = f_X11_isRestPair (Int32.ofNat n.val) (Int32.ofNat k.val) := by decide +kernel
  have h2 : ∀ k : Fin 4, (10 : Int32) * (Int32.ofNat k.val / (2 : Int32)) + (Int32.ofNat k.val - Int32.ofNat k.val / (2 : Int32) * 2) = (10 : Int32) * (Int32.ofNat k.val >>> ((1 : Int32) &&& 31)) + (Int32.ofNat k.val &&& 1) := by decide +kernel
  unfold f_X11_firstRest j_let
  have r := q_fo_rel (n := 4) (by decide) (ρ := fun (r : Int32) (r' : Int32 × JD) => r' = (r, q_fin d 0)) (σ := fun (_ : Unit) (s' : JD) => s' = d) (G := f_X11_firstRest_b2 (Int32.ofNat n.val)) (G' := f_X13_rest_b23 t (Int32.ofNat n.val)) (fun k hk s s' hs => by
    unfold f_X11_firstRest_b2 f_X13_rest_b23 j_let
    rw [hs, h n ⟨k, hk⟩, h2 ⟨k, hk⟩]
    by_cases c : f_X11_isRestPair (Int32.ofNat n.val) (Int32.ofNat k) = true
    · rw [if_pos c, if_pos c]; rfl
    · rw [if_neg c, if_neg c]; rfl) (s := ()) (s' := d) rfl
  rw [show (4 : Int32) = Int32.ofNat 4 from rfl]
  cases e1 : j_fo (Int32.ofNat 4) (f_X11_firstRest_b2 (Int32.ofNat n.val)) (j_mu (Int32.ofNat 4) 0) 0 () with
  | inl x =>
    cases e2 : j_fo (Int32.ofNat 4) (f_X13_rest_b23 t (Int32.ofNat n.val)) (j_mu (Int32.ofNat 4) 0) 0 d with
    | inl y => rw [e1, e2] at r; exact r
    | inr y => rw [e1, e2] at r; exact r.elim
  | inr x =>
    cases e2 : j_fo (Int32.ofNat 4) (f_X13_rest_b23 t (Int32.ofNat n.val)) (j_mu (Int32.ofNat 4) 0) 0 d with
    | inl y => rw [e1, e2] at r; exact r.elim
    | inr y => rw [e1, e2] at r; show ((-2 : Int32), q_fin y 0) = _; rw [show y = d from r]; rfl
theorem qk_rest {G P F W L a t : Nat} {d : JD} (hL : q_LR G P F W L (q_rows d a) (q_rows d t)) (hN : q_NR G (q_rows d a) (q_rows d t) (d.1 22 0) (d.1 22 1) (d.1 22 2) (d.1 59)) (h68 : 68 ≤ t) (pq0 : Int32) : ∃ (x : Int32) (w : Int32) (d2 : JD), f_X11_rest a d pq0 = (x, j_sI d 0 11 w) ∧ f_X13_rest t (j_sI d 0 11 w) pq0 = (x, d2) ∧ q_ans d d2 w := by
  have k1 : f_X11_hasLand (d.1 a) = true := q_hl1 (A := q_rows d a) (T := q_rows d t) hL
  by_cases h2 : f_X13_in pq0 0 20 = true
  · obtain ⟨i, hi, e⟩ := q_inr (n := 20) (by decide) h2
    have e9 := q_rest21 ⟨i, hi⟩ t (q_dM d 0)
    dsimp only at e9
    rw [← e] at e9
    refine ⟨f_X11_firstRest pq0, 0, q_fin (q_dM d 0) 0, ?_, ?_, q_ansd d (by decide)⟩
    · unfold f_X11_rest j_let
      simp only [q_may k1, h2, q_xan, if_true]
    · unfold f_X13_rest j_let
      simp only [q_dMe, q_rw, h2, if_true, show (0 : Int32) ≤ 0 by decide, q_good]
      exact e9
  · refine ⟨-1, 2, q_fin (q_dM d 2) 2, ?_, ?_, q_ansd d (by decide)⟩
    · unfold f_X11_rest j_let
      simp only [q_may k1, h2, if_false, Bool.false_eq_true]
    · unfold f_X13_rest j_let
      simp only [q_dMe, q_rw, h2, if_false, show ¬ ((2 : Int32) ≤ 0) by decide, q_ref, Bool.false_eq_true]
theorem q_36 {K : q_K} (hK : q_Kok K) : lw_st_36 (q_R K) := by
  intro h p1 p2 p3 p4 r hz
  obtain ⟨g, d⟩ := h
  have hr := r
  obtain ⟨a, b, hg, ht, -, -, hl⟩ := r
  rcases hl with ⟨hla, hn⟩ | ⟨t, h68, hla, hts, G, P, F, W, L, hL, hN, -⟩
  · obtain ⟨x, w, d2, e1, e2, e3⟩ := qn_steal (a := a) (d := d) hn p1 (if p2 = 0 then 0 else 1) (if p3 = 0 then 0 else 1) (if p4 = 0 then 0 else 1)
    exact q_stI hr (q_jT (s_X11_steal g d a p1 (if p2 = 0 then 0 else 1) (if p3 = 0 then 0 else 1) (if p4 = 0 then 0 else 1) hg.2.1 hg.2.2.1 hg.2.2.2.2.1) e1) (q_jT (s_X13_stealn g _ p1 (if p2 = 0 then 0 else 1) (if p3 = 0 then 0 else 1) (if p4 = 0 then 0 else 1) hg.2.1 hla) e2) (hr.ans hK e3)
  · obtain ⟨x, w, d2, e1, e2, e3⟩ := qk_steal (a := a) (t := t) (d := d) hL hN h68 p1 (if p2 = 0 then 0 else 1) (if p3 = 0 then 0 else 1) (if p4 = 0 then 0 else 1)
    exact q_stI hr (q_jT (s_X11_steal g d a p1 (if p2 = 0 then 0 else 1) (if p3 = 0 then 0 else 1) (if p4 = 0 then 0 else 1) hg.2.1 hg.2.2.1 hg.2.2.2.2.1) e1) (q_jT (s_X13_steal g _ t p1 (if p2 = 0 then 0 else 1) (if p3 = 0 then 0 else 1) (if p4 = 0 then 0 else 1) hg.2.1 hts hla) e2) (hr.ans hK e3)
theorem q_37 {K : q_K} (hK : q_Kok K) : lw_st_37 (q_R K) := by
  intro h p1 r hz
  obtain ⟨g, d⟩ := h
  have hr := r
  obtain ⟨a, b, hg, ht, -, -, hl⟩ := r
  rcases hl with ⟨hla, hn⟩ | ⟨t, h68, hla, hts, G, P, F, W, L, hL, hN, -⟩
  · obtain ⟨x, w, d2, e1, e2, e3⟩ := qn_rests (a := a) (d := d) hn p1
    exact q_stI hr (q_jT (s_X11_rests g d a p1 hg.2.1 hg.2.2.1 hg.2.2.2.2.1) e1) (q_jT (s_X13_restsn g _ p1 hg.2.1 hla) e2) (hr.ans hK e3)
  · obtain ⟨x, w, d2, e1, e2, e3⟩ := qk_rests (a := a) (t := t) (d := d) hL hN h68 p1
    exact q_stI hr (q_jT (s_X11_rests g d a p1 hg.2.1 hg.2.2.1 hg.2.2.2.2.1) e1) (q_jT (s_X13_rests g _ t p1 hg.2.1 hts hla) e2) (hr.ans hK e3)
theorem q_38 {K : q_K} (hK : q_Kok K) : lw_st_38 (q_R K) := by
  intro h p1 r hz
  obtain ⟨g, d⟩ := h
  have hr := r
  obtain ⟨a, b, hg, ht, -, -, hl⟩ := r
  rcases hl with ⟨hla, hn⟩ | ⟨t, h68, hla, hts, G, P, F, W, L, hL, hN, -⟩
  · obtain ⟨x, w, d2, e1, e2, e3⟩ := qn_rest (a := a) (d := d) hn p1
    exact q_stI hr (q_jT (s_X11_rest g d a p1 hg.2.1 hg.2.2.1 hg.2.2.2.2.1) e1) (q_jT (s_X13_restn g _ p1 hg.2.1 hla) e2) (hr.ans hK e3)
  · obtain ⟨x, w, d2, e1, e2, e3⟩ := qk_rest (a := a) (t := t) (d := d) hL hN h68 p1
    exact q_stI hr (q_jT (s_X11_rest g d a p1 hg.2.1 hg.2.2.1 hg.2.2.2.2.1) e1) (q_jT (s_X13_rest g _ t p1 hg.2.1 hts hla) e2) (hr.ans hK e3)
