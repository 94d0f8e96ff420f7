/-! tier two: land: what both hold while they read -/
def qp_cF (b : Nat) (D D' : JD) : Prop := (∀ x, x ≠ 1 → x ≠ 3 → x ≠ 19 → x ≠ 20 → x ≠ 21 → (x < b ∨ b + 14 < x) → D'.1 x = D.1 x) ∧ ∀ k, k ≠ 3 → k ≠ 4 → k ≠ 5 → k ≠ 7 → D'.1 1 k = D.1 1 k
def qp_mF (u : Nat) (E E' : JD) : Prop := (∀ x, x ≠ 57 → (x < u ∨ u + 14 < x) → E'.1 x = E.1 x) ∧ ∀ k, k ≠ 8 → k ≠ 9 → k ≠ 10 → k ≠ 11 → k ≠ 12 → k ≠ 13 → E'.1 57 k = E.1 57 k
theorem qp_cF.refl (b : Nat) (D : JD) : qp_cF b D D := ⟨fun _ _ _ _ _ _ _ => rfl, fun _ _ _ _ _ => rfl⟩
theorem qp_mF.refl (u : Nat) (E : JD) : qp_mF u E E := ⟨fun _ _ _ => rfl, fun _ _ _ _ _ _ _ => rfl⟩
theorem qp_cF.trans {b : Nat} {X Y Z : JD} (h : qp_cF b X Y) (k : qp_cF b Y Z) : qp_cF b X Z := ⟨fun x h1 h2 h3 h4 h5 h6 => (k.1 x h1 h2 h3 h4 h5 h6).trans (h.1 x h1 h2 h3 h4 h5 h6), fun j h1 h2 h3 h4 => (k.2 j h1 h2 h3 h4).trans (h.2 j h1 h2 h3 h4)⟩
theorem qp_mF.trans {u : Nat} {X Y Z : JD} (h : qp_mF u X Y) (k : qp_mF u Y Z) : qp_mF u X Z := ⟨fun x h1 h2 => (k.1 x h1 h2).trans (h.1 x h1 h2), fun j h1 h2 h3 h4 h5 h6 => (k.2 j h1 h2 h3 h4 h5 h6).trans (h.2 j h1 h2 h3 h4 h5 h6)⟩
theorem qp_cf.F {b : Nat} {D D' : JD} (h : qp_cf D D') : qp_cF b D D' := ⟨fun x h1 _ _ _ _ _ => h.1 x h1, h.2.1⟩
theorem qp_mf.F {u : Nat} {E E' : JD} (h : qp_mf E E') : qp_mF u E E' := ⟨fun x h1 _ => h.1 x h1, fun k h1 h2 h3 h4 _ _ => h.2.1 k h1 h2 h3 h4⟩
theorem qp_cF.sI {b : Nat} {D D' : JD} (h : qp_cF b D D') {x : Nat} (h1 : x ≠ 1) (hx : x = 3 ∨ x = 19 ∨ x = 20 ∨ x = 21 ∨ (b ≤ x ∧ x ≤ b + 14)) (k : Nat) (v : Int32) : qp_cF b D (j_sI D' x k v) := h.trans ⟨fun y a1 a2 a3 a4 a5 a6 => q_sI_o (by omega), fun j _ _ _ _ => by rw [q_sI_o (Ne.symm h1)]⟩
theorem qp_cF.sL {b : Nat} {D D' : JD} (h : qp_cF b D D') (x k : Nat) (v : Int64) : qp_cF b D (j_sL D' x k v) := h.trans ⟨fun _ _ _ _ _ _ _ => rfl, fun _ _ _ _ _ => rfl⟩
theorem qp_mF.sI {u : Nat} {E E' : JD} (h : qp_mF u E E') {x : Nat} (h1 : x ≠ 57) (hx : u ≤ x ∧ x ≤ u + 14) (k : Nat) (v : Int32) : qp_mF u E (j_sI E' x k v) := h.trans ⟨fun y a1 a2 => q_sI_o (by omega), fun j _ _ _ _ _ _ => by rw [q_sI_o (Ne.symm h1)]⟩
theorem qp_mF.s57 {u : Nat} {E E' : JD} (h : qp_mF u E E') {k : Nat} (hk : k = 8 ∨ k = 9 ∨ k = 10 ∨ k = 11 ∨ k = 12 ∨ k = 13) (v : Int32) : qp_mF u E (j_sI E' 57 k v) := h.trans ⟨fun y a1 a2 => q_sI_o a1, fun j _ _ _ _ _ _ => by rw [q_sI_ao _ _ _ (by omega)]⟩
theorem qp_mF.sL {u : Nat} {E E' : JD} (h : qp_mF u E E') (x k : Nat) (v : Int64) : qp_mF u E (j_sL E' x k v) := h.trans ⟨fun _ _ _ => rfl, fun _ _ _ _ _ _ _ => rfl⟩
/-- the fault that both have told -/
def qp_F (D E : JD) : Prop := E.1 57 9 = 5 ∧ D.1 3 7 = E.1 57 12 ∧ D.1 3 8 = E.1 57 13 ∧ ∃ n, 1 ≤ n ∧ n ≤ 6 ∧ D.1 3 7 = Int32.ofNat n
def qp_O (b u : Nat) (D0 E0 : JD) (S : JD → JD → Prop) (x : Option (Bool × JD)) (y : Option JD) : Prop := ∃ (c : Bool) (D' E' : JD), x = some (c, D') ∧ y = some E' ∧ qp_cF b D0 D' ∧ qp_mF u E0 E' ∧ ((c = true ∧ S D' E') ∨ (c = false ∧ qp_F D' E'))
theorem qp_O.eq {b u : Nat} {D0 E0 : JD} {S : JD → JD → Prop} {x x' : Option (Bool × JD)} {y y' : Option JD} (h1 : x = x') (h2 : y = y') (h : qp_O b u D0 E0 S x' y') : qp_O b u D0 E0 S x y := by rw [h1, h2]; exact h
theorem qp_T.pl {B : Nat → Int32} {N lo : Nat} {D E : JD} (t : qp_T B N lo D E) : D.1 1 5 = E.1 57 10 ∧ E.1 57 9 ≠ 5 := by
  obtain ⟨p, r, h1, h2, h3, e3, e5, e10, t⟩ := t
  refine ⟨e5.trans e10.symm, ?_⟩
  rcases t with ⟨t4, t9, -⟩ | ⟨t4, t9, -⟩ | ⟨t4, t9, -⟩ | ⟨t4, t9, -⟩ | ⟨t4, t9, -⟩ | ⟨t4, t9⟩ <;> (rw [t9]; decide)
theorem qp_T.s1 {B : Nat → Int32} {N lo : Nat} {D E : JD} (t : qp_T B N lo D E) : D.1 1 4 = 1 ↔ E.1 57 9 = 2 := by
  obtain ⟨p, r, h1, h2, h3, e3, e5, e10, t⟩ := t
  rcases t with ⟨t4, t9, -⟩ | ⟨t4, t9, -⟩ | ⟨t4, t9, -⟩ | ⟨t4, t9, -⟩ | ⟨t4, t9, -⟩ | ⟨t4, t9⟩ <;> (rw [t4, t9]; decide)
theorem qp_T.wd {B : Nat → Int32} {N lo : Nat} {D E : JD} (t : qp_T B N lo D E) (h : D.1 1 4 = 1) : D.2 1 6 = E.2 57 14 := by
  obtain ⟨p, r, h1, h2, h3, e3, e5, e10, t⟩ := t
  rcases t with ⟨t4, t9, -⟩ | ⟨t4, t9, -, -, -, a, b⟩ | ⟨t4, t9, -⟩ | ⟨t4, t9, -⟩ | ⟨t4, t9, -⟩ | ⟨t4, t9⟩
  · rw [t4] at h; exact absurd h (by decide)
  · exact a.trans b.symm
  · rw [t4] at h; exact absurd h (by decide)
  · rw [t4] at h; exact absurd h (by decide)
  · rw [t4] at h; exact absurd h (by decide)
  · rw [t4] at h; exact absurd h (by decide)
/-- both may go on -/
def qp_X (N lo : Nat) (D E : JD) : Prop := ∃ q, lo ≤ q ∧ q ≤ N ∧ D.1 1 3 = Int32.ofNat q ∧ E.1 57 8 = Int32.ofNat q ∧ E.1 57 9 ≠ 5
theorem qp_X.congr {N lo : Nat} {D E D' E' : JD} (h : qp_X N lo D E) (h1 : D'.1 1 = D.1 1) (h2 : E'.1 57 = E.1 57) : qp_X N lo D' E' := by
  obtain ⟨q, a⟩ := h
  exact ⟨q, by rw [h1, h2]; exact a⟩
theorem qp_T.X {B : Nat → Int32} {N lo : Nat} {D E : JD} (t : qp_T B N lo D E) (h : D.1 1 4 ≠ 5) : qp_X N lo D E := by
  have h9 := t.pl.2
  obtain ⟨p, r, h1, h2, h3, e3, e5, e10, t⟩ := t
  refine ⟨r, by omega, h3, e3, ?_, h9⟩
  rcases t with ⟨t4, t9, a⟩ | ⟨t4, t9, a, -⟩ | ⟨t4, t9, a, -⟩ | ⟨t4, t9, a, -⟩ | ⟨t4, t9, a, -⟩ | ⟨t4, t9⟩
  · exact a
  · exact a
  · exact a
  · exact a
  · exact a
  · exact absurd t4 h
theorem qp_fl {D E : JD} (h : D.1 1 5 = E.1 57 10) (h9 : E.1 57 9 ≠ 5) {n : Nat} (h1 : 1 ≤ n) (h6 : n ≤ 6) : qp_F (f_X6_fail D (Int32.ofNat n)).2 (f_X13_flaw E (Int32.ofNat n)) := by
  unfold f_X6_fail f_X13_flaw
  rw [if_neg h9]
  refine ⟨?_, ?_, ?_, n, h1, h6, ?_⟩
  · rw [q_sI_aa]
  · show (j_sI (j_sI D 3 7 _) 3 8 _).1 3 7 = _
    rw [q_sI_ao _ _ _ (by decide), q_sI_aa, q_sI_ao _ _ _ (by decide), q_sI_ao _ _ _ (by decide), q_sI_aa]
  · show (j_sI (j_sI D 3 7 _) 3 8 _).1 3 8 = _
    rw [q_sI_aa, q_sI_ao _ _ _ (by decide), q_sI_aa]
    exact h
  · show (j_sI (j_sI D 3 7 _) 3 8 _).1 3 7 = _
    rw [q_sI_ao _ _ _ (by decide), q_sI_aa]
theorem qp_fl1 (D : JD) (w : Int32) : (f_X6_fail D w).1 = false := rfl
theorem qp_cF.fail {b : Nat} {D0 D : JD} (h : qp_cF b D0 D) (w : Int32) : qp_cF b D0 (f_X6_fail D w).2 := (h.sI (by decide) (Or.inl rfl) _ _).sI (by decide) (Or.inl rfl) _ _
theorem qp_mF.flaw {u : Nat} {E0 E : JD} (h : qp_mF u E0 E) (w : Int32) : qp_mF u E0 (f_X13_flaw E w) := by
  unfold f_X13_flaw
  split
  · exact h
  · exact ((h.s57 (by omega) _).s57 (by omega) _).s57 (by omega) _
theorem qp_fl9 (E : JD) (w : Int32) : (f_X13_flaw E w).1 57 9 = 5 := by
  unfold f_X13_flaw
  split
  · assumption
  · rw [q_sI_aa]
theorem qp_flo (E : JD) (w : Int32) {x : Nat} (hx : x ≠ 57) : (f_X13_flaw E w).1 x = E.1 x := by
  unfold f_X13_flaw
  split
  · rfl
  · rw [q_sI_o hx, q_sI_o hx, q_sI_o hx]
/-- what can't be read: both stop -/
theorem qp_O.bad {B : Nat → Int32} {N lo b u : Nat} {D0 E0 D E : JD} {S : JD → JD → Prop} {x : Option (Bool × JD)} {y : Option JD} (t : qp_T B N lo D E) (f : qp_cF b D0 D) (g : qp_mF u E0 E) {n : Nat} (h1 : 1 ≤ n) (h6 : n ≤ 6) (hx : x = some (false, (f_X6_fail D (Int32.ofNat n)).2)) (hy : y = some (f_X13_flaw E (Int32.ofNat n))) : qp_O b u D0 E0 S x y := ⟨false, _, _, hx, hy, f.fail _, g.flaw _, Or.inr ⟨rfl, qp_fl t.pl.1 t.pl.2 h1 h6⟩⟩
/-- names are looked for -/
theorem qp_find {r : Nat → Int32} {q : Nat → Int64} {w : Int64} {n : Nat} (hr : r 9 = Int32.ofNat n) (hn : n ≤ 15) : (∃ i, i < n ∧ q i = w ∧ (∀ j, j < i → q j ≠ w) ∧ f_X12_find r q w = some (Int32.ofNat i)) ∨ ((∀ j, j < n → q j ≠ w) ∧ f_X12_find r q w = some (-1)) := by
  obtain ⟨m, m1, m2, m3, m4⟩ := q_stop (fun i => q i ≠ w) 0 n (Nat.zero_le _)
  have step : ∀ i, i < m → f_X12_find_w2 r q w (Int32.ofNat i) = some (.inl (Int32.ofNat (i + 1))) := by
    intro i hi
    unfold f_X12_find_w2
    rw [hr, if_neg (q_go (by omega) (by omega)), if_neg (q_in (n := 15) (by omega) (by decide)), q_n (by omega), if_neg (fun z => m3 i (Nat.zero_le _) hi ((qp_cmp _ _).mp z)), q_s]
  by_cases mm : m = n
  · refine Or.inr ⟨fun j hj => m3 j (Nat.zero_le _) (by omega), ?_⟩
    have last : f_X12_find_w2 r q w (Int32.ofNat m) = some (.inr (.inr ())) := by
      unfold f_X12_find_w2
      rw [hr, mm, if_pos (q_end (by omega))]
    unfold f_X12_find
    rw [show (0 : Int32) = Int32.ofNat 0 from rfl, q_run (fun i => Int32.ofNat i) m (by omega) step last]
    rfl
  · have e : q m = w := by
      rcases m4 with z | z
      · exact absurd z mm
      · exact Classical.byContradiction z
    refine Or.inl ⟨m, by omega, e, fun j hj => m3 j (Nat.zero_le _) hj, ?_⟩
    have last : f_X12_find_w2 r q w (Int32.ofNat m) = some (.inr (.inl (Int32.ofNat m))) := by
      unfold f_X12_find_w2
      rw [hr, if_neg (q_go (by omega) (by omega)), if_neg (q_in (n := 15) (by omega) (by decide)), q_n (by omega), if_pos ((qp_cmp _ _).mpr e)]
    unfold f_X12_find
    rw [show (0 : Int32) = Int32.ofNat 0 from rfl, q_run (fun i => Int32.ofNat i) m (by omega) step last]
    rfl
theorem qp_index {r : Nat → Int32} {q1 q : Nat → Int64} {n : Nat} (hr : r 6 = Int32.ofNat n) (hn : n ≤ 15) : (∃ i, i < n ∧ q i = q1 6 ∧ (∀ j, j < i → q j ≠ q1 6) ∧ f_X6_nameIndex r q1 q = some (Int32.ofNat i)) ∨ ((∀ j, j < n → q j ≠ q1 6) ∧ f_X6_nameIndex r q1 q = some (-1)) := by
  obtain ⟨m, m1, m2, m3, m4⟩ := q_stop (fun i => q i ≠ q1 6) 0 n (Nat.zero_le _)
  have step : ∀ i, i < m → f_X6_nameIndex_w2 r q1 q (Int32.ofNat i) = some (.inl (Int32.ofNat (i + 1))) := by
    intro i hi
    unfold f_X6_nameIndex_w2
    rw [hr, if_neg (q_go (by omega) (by omega)), if_neg (show ¬ ((15 : Int32) ≤ Int32.ofNat i) from q_go (n := 15) (by decide) (by omega)), if_neg (q_in (n := 15) (by omega) (by decide)), q_n (by omega), if_neg (fun z => m3 i (Nat.zero_le _) hi ((qp_cmp _ _).mp z)), q_s]
  by_cases mm : m = n
  · refine Or.inr ⟨fun j hj => m3 j (Nat.zero_le _) (by omega), ?_⟩
    have last : f_X6_nameIndex_w2 r q1 q (Int32.ofNat m) = some (.inr (.inr ())) := by
      unfold f_X6_nameIndex_w2
      rw [hr, mm, if_pos (q_end (by omega))]
    unfold f_X6_nameIndex
    rw [show (0 : Int32) = Int32.ofNat 0 from rfl, q_run (fun i => Int32.ofNat i) m (by omega) step last]
    rfl
  · have e : q m = q1 6 := by
      rcases m4 with z | z
      · exact absurd z mm
      · exact Classical.byContradiction z
    refine Or.inl ⟨m, by omega, e, fun j hj => m3 j (Nat.zero_le _) hj, ?_⟩
    have last : f_X6_nameIndex_w2 r q1 q (Int32.ofNat m) = some (.inr (.inl (Int32.ofNat m))) := by
      unfold f_X6_nameIndex_w2
      rw [hr, if_neg (q_go (by omega) (by omega)), if_neg (show ¬ ((15 : Int32) ≤ Int32.ofNat m) from q_go (n := 15) (by decide) (by omega)), if_neg (q_in (n := 15) (by omega) (by decide)), q_n (by omega), if_pos ((qp_cmp _ _).mpr e)]
    unfold f_X6_nameIndex
    rw [show (0 : Int32) = Int32.ofNat 0 from rfl, q_run (fun i => Int32.ofNat i) m (by omega) step last]
    rfl
section QO
variable {E : JD} {u n : Nat}
theorem qo_go (hv : E.1 57 9 = 5) : f_X13_goesOn E = some E := by unfold f_X13_goesOn; rw [if_pos hv]
theorem qo_fl (hv : E.1 57 9 = 5) (w : Int32) : f_X13_flaw E w = E := by unfold f_X13_flaw; rw [if_pos hv]
theorem qo_isW (hv : E.1 57 9 = 5) (k : Nat) : f_X13_isWord (E.1 57) (E.2 57) k = some false := by unfold f_X13_isWord; rw [if_neg (by rw [hv]; decide)]
theorem qo_isN (hv : E.1 57 9 = 5) : f_X13_isName (E.1 57) (E.2 57) = some false := by unfold f_X13_isName; rw [if_neg (by rw [hv]; decide)]
theorem qo_fresh' (hv : E.1 57 9 = 5) (hn : E.1 u 9 = Int32.ofNat n) (h15 : n ≤ 15) : f_X13_readFresh_j12 u E = some (E.2 57 14, E) := by
  have j : f_X13_readFresh_j32 u E = some (E.2 57 14, E) := by unfold f_X13_readFresh_j32; rw [qo_go hv]; rfl
  unfold f_X13_readFresh_j12 j_let
  rcases qp_find (q := E.2 (u + 12)) (w := E.2 57 14) hn h15 with ⟨i, h1, h2, h3, h4⟩ | ⟨h3, h4⟩
  · rw [h4, Option.bind_some]
    split
    · exact j
    · rw [qo_fl hv]; exact j
  · rw [h4, Option.bind_some, if_pos rfl]; exact j
theorem qo_fresh (hv : E.1 57 9 = 5) (hn : E.1 u 9 = Int32.ofNat n) (h15 : n ≤ 15) : f_X13_readFresh u E = some (E.2 57 14, E) := by
  unfold f_X13_readFresh j_let
  rw [qo_isN hv, Option.bind_some, if_neg (by decide), qo_fl hv]
  exact qo_fresh' hv hn h15
theorem qo_known' (hv : E.1 57 9 = 5) (hn : E.1 u 9 = Int32.ofNat n) (h15 : n ≤ 15) (s : Int32) : f_X13_knownOne_j12 u E s = some (0, E) := by
  have j : ∀ x, f_X13_knownOne_j47 u E x = some (0, E) := fun x => by unfold f_X13_knownOne_j47; rw [if_pos hv]
  have k : ∀ x, f_X13_knownOne_j42 u E x = some (0, E) := fun x => by unfold f_X13_knownOne_j42 j_let; rw [qo_fl hv]; exact j x
  unfold f_X13_knownOne_j12
  rcases qp_find (q := E.2 (u + 12)) (w := E.2 57 14) hn h15 with ⟨i, h1, h2, h3, h4⟩ | ⟨h3, h4⟩
  · rw [h4, Option.bind_some]
    split
    · exact k _
    · rw [if_neg (q_in (n := 15) (by omega) (by decide))]
      split
      · exact j _
      · exact k _
  · rw [h4, Option.bind_some, if_pos rfl]; exact k _
theorem qo_known (hv : E.1 57 9 = 5) (hn : E.1 u 9 = Int32.ofNat n) (h15 : n ≤ 15) (s : Int32) : f_X13_knownOne u E s = some (0, E) := by
  unfold f_X13_knownOne j_let
  rw [qo_isN hv, Option.bind_some, if_neg (by decide), qo_fl hv]
  exact qo_known' hv hn h15 _
theorem qo_rk (hv : E.1 57 9 = 5) (hn : E.1 u 9 = Int32.ofNat n) (h15 : n ≤ 15) (s : Int32) : f_X13_readKnown u E s = some (0, E) := by
  unfold f_X13_readKnown
  rw [qo_known hv hn h15, Option.bind_some, qo_go hv]; rfl
theorem qo_needs (hv : E.1 57 9 = 5) (k : Nat) : f_X13_needs E k = some E := by
  unfold f_X13_needs j_let
  rw [qo_isW hv, Option.bind_some, if_neg (by decide), qo_fl hv]
  show f_X13_needs_j13 k E = _
  unfold f_X13_needs_j13
  rw [qo_go hv]; rfl
theorem qo_wh' (hv : E.1 57 9 = 5) (x : Int32) : f_X13_readWhole_j33 E x = some (x, E) := by
  unfold f_X13_readWhole_j33
  rw [if_pos hv]
  unfold f_X13_readWhole_j49
  rw [qo_go hv]; rfl
theorem qo_wh (hv : E.1 57 9 = 5) (x y : Int32) : f_X13_readWhole E x y = some (x, E) := by
  unfold f_X13_readWhole j_let
  rw [if_neg (by rw [hv]; decide), qo_fl hv]
  exact qo_wh' hv _
theorem qo_part (hv : E.1 57 9 = 5) (k : Nat) (x y : Int32) : f_X13_readPart E k x y = some (x, E) := by
  unfold f_X13_readPart
  rw [qo_needs hv, Option.bind_some, qo_wh hv]; rfl
theorem qo_eats (hv : E.1 57 9 = 5) (c : Int32) : f_X13_eats E c = some (false, E) := by
  unfold f_X13_eats
  rw [if_neg (by rw [hv]; decide)]
  rfl
theorem qo_land (hv : E.1 57 9 = 5) : f_X13_readLand_j16 u E = some E := by
  unfold f_X13_readLand_j16
  rw [qo_go hv, Option.bind_some, qo_part hv, Option.bind_some, qo_part hv, Option.bind_some, if_pos hv]
theorem qo_fw (hv : E.1 57 9 = 5) (c : Int64) (h s : Int32) : j_wh (f_X13_readFirm_w28 u c h) j_fuel (s, E) = some (s, E) := by
  refine q_run (F := f_X13_readFirm_w28 u c h) (fun _ => (s, E)) 0 (by decide) (fun i hi => absurd hi (by omega)) ?_
  unfold f_X13_readFirm_w28
  dsimp only
  rw [qo_eats hv, Option.bind_some]
  rfl
theorem qo_g165 (hv : E.1 57 9 = 5) (a : Int64) (b c d e : Int32) : f_X13_readGate_j165 u E a b c d e = some E := by
  unfold f_X13_readGate_j165
  rw [qo_go hv, Option.bind_some, if_pos hv]
theorem qo_g152 (hv : E.1 57 9 = 5) (a : Int64) (b c d e : Int32) : f_X13_readGate_j152 u E a b c d e = some E := by
  unfold f_X13_readGate_j152 j_let
  split
  · rw [qo_fl hv]; exact qo_g165 hv _ _ _ _ _
  · rw [qo_g165 hv]
theorem qo_g86t (hv : E.1 57 9 = 5) (a : Int64) (b c d : Int32) : ((f_X13_isWord (E.1 57) (E.2 57) 35).bind (fun q113 => if q113 = true then (f_X13_readGate_j152 u E a b c d 0) else ((f_X13_isWord (E.1 57) (E.2 57) 36).bind (fun q127 => if q127 = true then (f_X13_readGate_j152 u E a b c d 1) else ((f_X13_isWord (E.1 57) (E.2 57) 37).bind (fun q141 => if q141 = true then (f_X13_readGate_j152 u E a b c d 2) else (f_X13_readGate_j152 u E a b c d (-1)))))))) = some E := by
  rw [qo_isW hv, qo_isW hv, qo_isW hv]
  show f_X13_readGate_j152 u E a b c d (-1) = some E
  exact qo_g152 hv _ _ _ _ _
theorem qo_g86 (hv : E.1 57 9 = 5) (hn : E.1 u 9 = Int32.ofNat n) (h15 : n ≤ 15) (a : Int64) (b : Int32) : f_X13_readGate_j86 u E a b = some E := by
  unfold f_X13_readGate_j86
  rw [qo_go hv, Option.bind_some, qo_rk hv hn h15, Option.bind_some]
  dsimp only
  rw [qo_part hv, Option.bind_some]
  exact qo_g86t hv _ _ _ _
theorem qo_g75 (hv : E.1 57 9 = 5) (hn : E.1 u 9 = Int32.ofNat n) (h15 : n ≤ 15) (a : Int64) (b : Int32) : f_X13_readGate_j75 u E a b = some E := by
  unfold f_X13_readGate_j75 j_let
  split
  · rw [qo_fl hv]; exact qo_g86 hv hn h15 _ _
  · rw [qo_g86 hv hn h15]
theorem qo_p59 (hv : E.1 57 9 = 5) (a b : Int32) : f_X13_readPath_j59 u E a b = some E := by
  unfold f_X13_readPath_j59
  rw [qo_go hv, Option.bind_some, if_pos hv]
theorem qo_l42 (hv : E.1 57 9 = 5) (a : Int32) : f_X13_readLost_j42 u E a = some E := by
  unfold f_X13_readLost_j42
  rw [qo_go hv, Option.bind_some, if_pos hv]
theorem qo_h38 (hv : E.1 57 9 = 5) (a : Int32) : f_X13_readHad_j38 u E a = some E := by
  unfold f_X13_readHad_j38
  rw [qo_go hv, Option.bind_some, qo_wh hv, Option.bind_some, if_pos hv]
section QB
variable {E' : JD}
theorem qo_person (hb : f_X13_lineBegins u E' (E'.1 u 2) 5 = some E) (hv : E.1 57 9 = 5) (hn : E.1 u 9 = Int32.ofNat n) (h15 : n ≤ 15) : f_X13_readPerson u E' = some E := by
  unfold f_X13_readPerson
  rw [hb, Option.bind_some, qo_fresh hv hn h15, Option.bind_some, if_pos hv]
theorem qo_firm (hb : f_X13_lineBegins u E' (E'.1 u 3) 4 = some E) (hv : E.1 57 9 = 5) (hn : E.1 u 9 = Int32.ofNat n) (h15 : n ≤ 15) : f_X13_readFirm u E' = some E := by
  unfold f_X13_readFirm j_let
  rw [hb, Option.bind_some, qo_fresh hv hn h15, Option.bind_some]
  dsimp only
  rw [qo_rk hv hn h15, Option.bind_some]
  dsimp only
  rw [qo_fw hv, Option.bind_some, if_pos hv]
theorem qo_gate (hb : f_X13_lineBegins u E' (E'.1 u 4) 6 = some E) (hv : E.1 57 9 = 5) (hn : E.1 u 9 = Int32.ofNat n) (h15 : n ≤ 15) : f_X13_readGate u E' = some E := by
  unfold f_X13_readGate
  rw [hb, Option.bind_some, qo_fresh hv hn h15, Option.bind_some]
  dsimp only
  rw [qo_isW hv, qo_isW hv, qo_isW hv, qo_isW hv]
  show f_X13_readGate_j75 u E (E.2 57 14) (-1) = some E
  exact qo_g75 hv hn h15 _ _
theorem qo_path (hb : f_X13_lineBegins u E' (E'.1 u 5) 8 = some E) (hv : E.1 57 9 = 5) (hn : E.1 u 9 = Int32.ofNat n) (h15 : n ≤ 15) : f_X13_readPath u E' = some E := by
  unfold f_X13_readPath
  rw [hb, Option.bind_some, qo_rk hv hn h15, Option.bind_some]
  dsimp only
  rw [qo_known hv hn h15, Option.bind_some]
  dsimp only
  rw [if_pos hv]
  exact qo_p59 hv _ _
theorem qo_wants (x : Int32) (hb : f_X13_lineBegins u E' (E'.1 u 6) 4 = some E) (hv : E.1 57 9 = 5) (hn : E.1 u 9 = Int32.ofNat n) (h15 : n ≤ 15) : f_X13_readWants u E' x = some E := by
  unfold f_X13_readWants
  rw [hb, Option.bind_some, qo_rk hv hn h15, Option.bind_some]
  dsimp only
  rw [qo_rk hv hn h15, Option.bind_some]
  dsimp only
  rw [if_pos hv]
theorem qo_lost (hb : f_X13_lineBegins u E' (E'.1 u 7) 4 = some E) (hv : E.1 57 9 = 5) (hn : E.1 u 9 = Int32.ofNat n) (h15 : n ≤ 15) : f_X13_readLost u E' = some E := by
  unfold f_X13_readLost
  rw [hb, Option.bind_some, qo_known hv hn h15, Option.bind_some]
  dsimp only
  rw [if_pos hv]
  exact qo_l42 hv _
theorem qo_had (hb : f_X13_lineBegins u E' 0 1 = some E) (hv : E.1 57 9 = 5) (hn : E.1 u 9 = Int32.ofNat n) (h15 : n ≤ 15) : f_X13_readHad u E' = some E := by
  unfold f_X13_readHad
  rw [hb, Option.bind_some, qo_known hv hn h15, Option.bind_some]
  dsimp only
  rw [if_pos hv]
  exact qo_h38 hv _
end QB
end QO
