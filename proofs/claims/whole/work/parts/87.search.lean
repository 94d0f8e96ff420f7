/-! tier two: the search, by itself -/
theorem q_pig : ∀ (N n : Nat) (f : Nat → Nat), (∀ i, i < n → f i < N) → (∀ i j, i < n → j < n → f i = f j → i = j) → n ≤ N
  | 0, n, f, h, _ => by
    by_cases z : n = 0
    · omega
    · exact absurd (h 0 (by omega)) (by omega)
  | N + 1, n, f, h, hi => by
    by_cases c : ∃ i, i < n ∧ f i = N
    · obtain ⟨i, hin, ei⟩ := c
      have := q_pig N (n - 1) (fun j => if j = i then f (n - 1) else f j) (fun j hj => by
        have h1 := h j (by omega)
        have h2 := h (n - 1) (by omega)
        split
        · rename_i z
          have : f (n - 1) ≠ N := fun e => by
            have := hi (n - 1) i (by omega) hin (by omega)
            omega
          omega
        · rename_i z
          have : f j ≠ N := fun e => z (hi j i (by omega) hin (by omega))
          omega) (fun j k hj hk e => by
        split at e
        · split at e
          · omega
          · rename_i z1 z2
            have := hi (n - 1) k (by omega) (by omega) e
            omega
        · split at e
          · rename_i z1 z2
            have := hi j (n - 1) (by omega) (by omega) e
            omega
          · exact hi j k (by omega) (by omega) e)
      omega
    · have := q_pig N n f (fun i hin => by
        have h1 := h i hin
        have : f i ≠ N := fun e => c ⟨i, hin, e⟩
        omega) hi
      omega
theorem q_mem_i {r : Nat → Nat} {c : Nat} : ∀ n, q_mem r c n = true ↔ ∃ i, i < n ∧ r i = c
  | 0 => ⟨fun h => Bool.noConfusion (show false = true from h), fun ⟨i, h, _⟩ => absurd h (by omega)⟩
  | n + 1 => by
    show (decide (r n = c) || q_mem r c n) = true ↔ _
    rw [Bool.or_eq_true, decide_eq_true_iff, q_mem_i n]
    constructor
    · rintro (h | ⟨i, h, e⟩)
      · exact ⟨n, by omega, h⟩
      · exact ⟨i, by omega, e⟩
    · rintro ⟨i, h, e⟩
      by_cases z : i = n
      · subst z; exact Or.inl e
      · exact Or.inr ⟨i, by omega, e⟩
theorem q_ud_a (r : Nat → Nat) (n v : Nat) : q_ud r n v n = v := if_pos rfl
theorem q_ud_o {r : Nat → Nat} {n v k : Nat} (h : k ≠ n) : q_ud r n v k = r k := if_neg h
/-- what holds of a search -/
def q_SI (N K : Nat) (s : q_S) : Prop := 1 ≤ s.1 ∧ (∀ i, i < s.1 → s.2.1 i < N) ∧ (∀ i j, i < s.1 → j < s.1 → s.2.1 i = s.2.1 j → i = j) ∧ s.2.2.2.2 0 = 0 ∧ ∀ i, 0 < i → i < s.1 → s.2.2.1 i < i ∧ s.2.2.2.1 i < K ∧ s.2.2.2.2 i = s.2.2.2.2 (s.2.2.1 i) + 1
theorem q_SI.one {N K : Nat} {s : q_S} (h : q_SI N K s) : 1 ≤ s.1 := h.1
theorem q_SI.way {N K : Nat} {s : q_S} (h : q_SI N K s) : ∀ i, i < s.1 → s.2.1 i < N := h.2.1
theorem q_SI.inj {N K : Nat} {s : q_S} (h : q_SI N K s) : ∀ i j, i < s.1 → j < s.1 → s.2.1 i = s.2.1 j → i = j := h.2.2.1
theorem q_SI.zero {N K : Nat} {s : q_S} (h : q_SI N K s) : s.2.2.2.2 0 = 0 := h.2.2.2.1
theorem q_SI.par {N K : Nat} {s : q_S} (h : q_SI N K s) : ∀ i, 0 < i → i < s.1 → s.2.2.1 i < i ∧ s.2.2.2.1 i < K ∧ s.2.2.2.2 i = s.2.2.2.2 (s.2.2.1 i) + 1 := h.2.2.2.2
theorem q_SI.le {N K : Nat} {s : q_S} (h : q_SI N K s) : s.1 ≤ N := q_pig N s.1 s.2.1 h.way h.inj
theorem q_SI.dep {N K : Nat} {s : q_S} (h : q_SI N K s) : ∀ n i, i ≤ n → i < s.1 → s.2.2.2.2 i ≤ i
  | 0, i, hn, hi => by
    have : i = 0 := by omega
    subst this
    rw [h.zero]
    exact Nat.le_refl 0
  | n + 1, i, hn, hi => by
    by_cases z : i = 0
    · subst z
      rw [h.zero]
      exact Nat.le_refl 0
    · obtain ⟨p1, p2, p3⟩ := h.par i (by omega) hi
      have := q_SI.dep h n (s.2.2.1 i) (by omega) (by omega)
      omega
theorem q_SI.b0 {N K c : Nat} (hc : c < N) : q_SI N K (q_b0 c) := by
  refine ⟨Nat.le_refl 1, fun _ _ => hc, fun i j hi hj _ => ?_, rfl, fun i h0 hi => ?_⟩
  · have hi' : i < 1 := hi
    have hj' : j < 1 := hj
    omega
  · have hi' : i < 1 := hi
    omega
theorem q_SI.add {N K : Nat} {s : q_S} (h : q_SI N K s) {c i k : Nat} (hc : c < N) (hi : i < s.1) (hk : k < K) (hm : ¬ (q_mem s.2.1 c s.1 = true)) : q_SI N K (s.1 + 1, q_ud s.2.1 s.1 c, q_ud s.2.2.1 s.1 i, q_ud s.2.2.2.1 s.1 k, q_ud s.2.2.2.2 s.1 (s.2.2.2.2 i + 1)) := by
  have nm : ∀ j, j < s.1 → s.2.1 j ≠ c := fun j hj e => hm ((q_mem_i _).mpr ⟨j, hj, e⟩)
  have h1 := h.one
  refine ⟨by show 1 ≤ s.1 + 1; omega, fun j hj => ?_, fun j l hj hl e => ?_, ?_, fun j h0 hj => ?_⟩
  · show q_ud s.2.1 s.1 c j < N
    have hj' : j < s.1 + 1 := hj
    by_cases z : j = s.1
    · rw [z, q_ud_a]; exact hc
    · rw [q_ud_o z]; exact h.way j (by omega)
  · have hj' : j < s.1 + 1 := hj
    have hl' : l < s.1 + 1 := hl
    have e' : q_ud s.2.1 s.1 c j = q_ud s.2.1 s.1 c l := e
    by_cases z : j = s.1
    · by_cases y : l = s.1
      · omega
      · rw [z, q_ud_a, q_ud_o y] at e'
        exact absurd e'.symm (nm l (by omega))
    · by_cases y : l = s.1
      · rw [y, q_ud_a, q_ud_o z] at e'
        exact absurd e' (nm j (by omega))
      · rw [q_ud_o z, q_ud_o y] at e'
        exact h.inj j l (by omega) (by omega) e'
  · show q_ud s.2.2.2.2 s.1 (s.2.2.2.2 i + 1) 0 = 0
    rw [q_ud_o (by omega)]
    exact h.zero
  · have hj' : j < s.1 + 1 := hj
    show q_ud s.2.2.1 s.1 i j < j ∧ q_ud s.2.2.2.1 s.1 k j < K ∧ q_ud s.2.2.2.2 s.1 (s.2.2.2.2 i + 1) j = q_ud s.2.2.2.2 s.1 (s.2.2.2.2 i + 1) (q_ud s.2.2.1 s.1 i j) + 1
    by_cases z : j = s.1
    · rw [z, q_ud_a, q_ud_a, q_ud_a, q_ud_o (show i ≠ s.1 by omega)]
      exact ⟨hi, hk, rfl⟩
    · obtain ⟨p1, p2, p3⟩ := h.par j h0 (by omega)
      rw [q_ud_o z, q_ud_o z, q_ud_o z, q_ud_o (show s.2.2.1 j ≠ s.1 by omega)]
      exact ⟨p1, p2, p3⟩
theorem q_SI.st {N K : Nat} {nx : Nat → Nat → Option Nat} (hx : ∀ c k c', c < N → k < K → nx c k = some c' → c' < N) {s : q_S} (h : q_SI N K s) {i k : Nat} (hi : i < s.1) (hk : k < K) : q_SI N K (q_bst nx i k s) ∧ s.1 ≤ (q_bst nx i k s).1 := by
  unfold q_bst
  cases e : nx (s.2.1 i) k with
  | none => exact ⟨h, Nat.le_refl _⟩
  | some c =>
    have hc := hx _ _ _ (h.way i hi) hk e
    show q_SI N K (q_badd s c i k (s.2.2.2.2 i + 1)) ∧ s.1 ≤ (q_badd s c i k (s.2.2.2.2 i + 1)).1
    unfold q_badd
    by_cases m : q_mem s.2.1 c s.1 = true
    · rw [if_pos m]; exact ⟨h, Nat.le_refl _⟩
    · rw [if_neg m]; exact ⟨h.add hc hi hk m, Nat.le_succ _⟩
theorem q_SI.its {N K : Nat} {nx : Nat → Nat → Option Nat} (hx : ∀ c k c', c < N → k < K → nx c k = some c' → c' < N) {s : q_S} (h : q_SI N K s) {i : Nat} (hi : i < s.1) : ∀ n, n ≤ K → q_SI N K (q_it (fun k s => q_bst nx i k s) n s) ∧ s.1 ≤ (q_it (fun k s => q_bst nx i k s) n s).1
  | 0, _ => ⟨h, Nat.le_refl _⟩
  | n + 1, hn => by
    obtain ⟨a, b⟩ := q_SI.its hx h hi n (by omega)
    obtain ⟨c, e⟩ := a.st hx (i := i) (k := n) (by omega) (by omega)
    exact ⟨c, Nat.le_trans b e⟩
theorem q_SI.bf {N K : Nat} {nx : Nat → Nat → Option Nat} (hx : ∀ c k c', c < N → k < K → nx c k = some c' → c' < N) {c : Nat} (hc : c < N) : ∀ n, q_SI N K (q_bf nx K c n)
  | 0 => q_SI.b0 hc
  | n + 1 => by
    have i := q_SI.bf hx hc n
    show q_SI N K (q_bfr nx K n (q_bf nx K c n))
    unfold q_bfr
    by_cases z : n < (q_bf nx K c n).1
    · rw [if_pos z]
      exact (i.its hx z K (Nat.le_refl _)).1
    · rw [if_neg z]
      exact i
/-- the search comes to its end -/
theorem q_bf_end {N K : Nat} {nx : Nat → Nat → Option Nat} (hx : ∀ c k c', c < N → k < K → nx c k = some c' → c' < N) (hN : N ≤ 729) {c : Nat} (hc : c < N) : ∃ j, j ≤ 729 ∧ (q_bf nx K c j).1 = j ∧ (∀ i, i < j → i < (q_bf nx K c i).1) ∧ q_bf nx K c 729 = q_bf nx K c j := by
  have stay : ∀ j k, (q_bf nx K c j).1 ≤ j → q_bf nx K c (j + k) = q_bf nx K c j := by
    intro j k h
    induction k with
    | zero => rfl
    | succ k ih =>
      show q_bfr nx K (j + k) (q_bf nx K c (j + k)) = _
      rw [ih]
      unfold q_bfr
      rw [if_neg (by omega)]
  have mono : ∀ j, (q_bf nx K c j).1 ≤ (q_bf nx K c (j + 1)).1 := by
    intro j
    show (q_bf nx K c j).1 ≤ (q_bfr nx K j (q_bf nx K c j)).1
    unfold q_bfr
    by_cases z : j < (q_bf nx K c j).1
    · rw [if_pos z]
      exact ((q_SI.bf hx hc j).its hx z K (Nat.le_refl _)).2
    · rw [if_neg z]
      exact Nat.le_refl _
  have last := (q_SI.bf (K := K) hx hc 729).le
  rcases q_least (p := fun i => i < (q_bf nx K c i).1) 730 with hall | ⟨j, hj, hnj, hlt⟩
  · exact absurd (hall 729 (by omega)) (by omega)
  · have e : j + (729 - j) = 729 := by omega
    have := stay j (729 - j) (by omega)
    rw [e] at this
    refine ⟨j, by omega, ?_, hlt, this⟩
    match j, hnj, hlt with
    | 0, h, _ => exact absurd (q_SI.bf (K := K) hx hc 0).one (by omega)
    | i + 1, h, hl =>
      have h1 := hl i (by omega)
      have h2 := mono i
      omega
