/-! tier two: the reference's survey -/
def q_o60 (D0 D : JD) : Prop := ∀ b, b ≠ 60 → D.1 b = D0.1 b
theorem q_o60.refl (d : JD) : q_o60 d d := fun _ _ => rfl
def q_cvu (k : Nat → Nat) (n : Nat) : Option Nat → Option Nat
  | none => some n
  | some b => if k n < k b then some n else some b
def q_cv (m : Nat → Bool) (l k : Nat → Nat) : Nat → Option Nat
  | 0 => none
  | n + 1 => if m n = true then (if l n = 0 then q_cv m l k n else q_cvu k n (q_cv m l k n)) else q_cv m l k n
def q_fwu (l : Nat → Nat) (n : Nat) : Option Nat → Option Nat
  | none => some n
  | some b => if l n ≤ l b then some b else some n
def q_fw (m : Nat → Bool) (l : Nat → Nat) : Nat → Option Nat
  | 0 => none
  | n + 1 => if m n = true then q_fwu l n (q_fw m l n) else q_fw m l n
def q_cb : Option Nat → Int32
  | none => -1
  | some b => Int32.ofNat b
def q_cf (k : Nat → Nat) : Option Nat → Int32
  | none => 7
  | some b => Int32.ofNat (k b)
def q_ff (l : Nat → Nat) : Option Nat → Int32
  | none => -1
  | some b => Int32.ofNat (l b)
def q_sn (m y : Nat → Bool) : Nat → Int32
  | 0 => 0
  | n + 1 => if m n = true then (if y n = true then q_sn m y n + 1 else q_sn m y n) else q_sn m y n
def q_WM (d : JD) (t N : Nat) (m y : Nat → Bool) (l k : Nat → Nat) : Prop := ∀ c, c < N → ∀ D, q_o60 d D → ∃ E, f_X13_may t D (Int32.ofNat c) = some (m c, E) ∧ q_o60 d E ∧ f_X13_hung (E.1 60) (E.1 t) = some (Int32.ofNat (k c)) ∧ f_X13_least (E.1 60) (E.1 t) (E.1 (t + 1)) (E.1 (t + 2)) (E.1 (t + 3)) (E.1 (t + 4)) (E.1 (t + 5)) = some (Int32.ofNat (l c)) ∧ f_X13_isCalm (E.1 60) (E.1 t) (E.1 (t + 1)) (E.1 (t + 2)) (E.1 (t + 3)) (E.1 (t + 4)) (E.1 (t + 5)) = some (y c)
theorem q_m1lt {j : Nat} (h : j < 2147483648) : (-1 : Int32) < Int32.ofNat j := by
  rw [Int32.lt_iff_toInt_lt, q_i h]
  have e : (-1 : Int32).toInt = -1 := rfl
  omega
section QS
variable {d : JD} {t N P : Nat} {m y : Nat → Bool} {l k : Nat → Nat}
theorem q_coverA (H : q_WM d t N m y l k) (hN : N ≤ 729) (ew : f_X13_ways (d.1 t) = Int32.ofNat N) (h68 : 68 ≤ t) (eP : d.1 t 2 = Int32.ofNat P) (hP1 : 1 ≤ P) (hP : P ≤ 8) (hl : ∀ c, l c ≤ 594) (hk : ∀ c, k c ≤ 6) : ∃ E, f_X13_coverWay t d = some (q_cb (q_cv m l k N), E) ∧ q_o60 d E := by
  have key := q_inv (F := f_X13_coverWay_w7 t) (τ := fun i s => s.1 = q_cb (q_cv m l k i) ∧ s.2.1 = q_cf k (q_cv m l k i) ∧ s.2.2.1 = Int32.ofNat i ∧ q_o60 d s.2.2.2) (ρ := fun e => e.1 = q_cb (q_cv m l k N) ∧ q_o60 d e.2) (n := N) (by omega) (by
    intro i hi s hs
    obtain ⟨s1, s2, s3, D⟩ := s
    obtain ⟨e1, e2, e3, o⟩ := hs
    dsimp only at e1 e2 e3 o
    subst e1 e2 e3
    obtain ⟨E, a1, oE, a2, a3, -⟩ := H i hi D o
    have Et : E.1 t = d.1 t := oE t (by omega)
    have Dt : D.1 t = d.1 t := o t (by omega)
    have k1 := q_go (n := N) (by omega) hi
    have nP : ¬ (Int32.ofNat P ≤ 0) := q_go (n := P) (i := 0) (by omega) (by omega)
    have st : q_cv m l k (i + 1) = if m i = true then (if l i = 0 then q_cv m l k i else q_cvu k i (q_cv m l k i)) else q_cv m l k i := rfl
    have hli := hl i
    have hki := hk i
    generalize q_cv m l k i = u at st
    unfold f_X13_coverWay_w7 f_X13_coverWay_j51_7 f_X13_coverWay_j58_7
    dsimp only
    rw [Dt, ew, if_neg k1, a1, Option.bind_some]
    dsimp only
    rw [a2, a3, Et, eP, Option.bind_some, Option.bind_some, Option.bind_some, if_neg nP, q_s]
    cases hm : m i with
    | false =>
      rw [hm, if_neg (by decide)] at st
      rw [if_neg (by decide), st]
      exact ⟨_, rfl, rfl, rfl, rfl, oE⟩
    | true =>
      rw [hm, if_pos rfl] at st
      rw [if_pos rfl]
      have l0 : Int32.ofNat (l i) = 0 ↔ l i = 0 := q_eq (n := l i) (i := 0) (by omega) (by decide)
      cases u with
      | none =>
        have c1 : ¬ ((7 : Int32) ≤ Int32.ofNat (k i)) := q_go (n := 7) (by decide) (by omega)
        show ∃ t', (if (7 : Int32) ≤ Int32.ofNat (k i) then _ else _) = _ ∧ _
        rw [if_neg c1]
        by_cases z : l i = 0
        · rw [if_pos z] at st
          rw [if_pos (l0.mpr z), st]
          exact ⟨_, rfl, rfl, rfl, rfl, oE⟩
        · rw [if_neg z] at st
          rw [if_neg (fun y => z (l0.mp y)), st]
          exact ⟨_, rfl, rfl, rfl, rfl, oE⟩
      | some b =>
        have hkb := hk b
        show ∃ t', (if Int32.ofNat (k b) ≤ Int32.ofNat (k i) then _ else _) = _ ∧ _
        by_cases c : k i < k b
        · have c1 : ¬ (Int32.ofNat (k b) ≤ Int32.ofNat (k i)) := q_go (n := k b) (by omega) c
          rw [if_neg c1]
          have su : q_cvu k i (some b) = some i := if_pos c
          rw [su] at st
          by_cases z : l i = 0
          · rw [if_pos z] at st
            rw [if_pos (l0.mpr z), st]
            exact ⟨_, rfl, rfl, rfl, rfl, oE⟩
          · rw [if_neg z] at st
            rw [if_neg (fun y => z (l0.mp y)), st]
            exact ⟨_, rfl, rfl, rfl, rfl, oE⟩
        · have c1 : Int32.ofNat (k b) ≤ Int32.ofNat (k i) := (q_le (by omega) (by omega)).mpr (by omega)
          have su : q_cvu k i (some b) = some b := if_neg c
          rw [su, ite_self] at st
          rw [if_pos c1, st]
          exact ⟨_, rfl, rfl, rfl, rfl, oE⟩) (by
    intro s hs
    obtain ⟨s1, s2, s3, D⟩ := s
    obtain ⟨e1, e2, e3, o⟩ := hs
    dsimp only at e1 e2 e3 o
    subst e1 e2 e3
    have Dt : D.1 t = d.1 t := o t (by omega)
    unfold f_X13_coverWay_w7
    dsimp only
    rw [Dt, ew, if_pos (q_end (by omega))]
    exact ⟨_, rfl, rfl, o⟩) (t := (-1, 7, 0, d)) ⟨rfl, rfl, rfl, q_o60.refl d⟩
  obtain ⟨⟨e1, e2⟩, h1, h2, h3⟩ := key
  dsimp only at h2 h3
  refine ⟨e2, ?_, h3⟩
  unfold f_X13_coverWay
  rw [h1, Option.bind_some, h2]
theorem q_fairA (H : q_WM d t N m y l k) (hN : N ≤ 729) (ew : f_X13_ways (d.1 t) = Int32.ofNat N) (h68 : 68 ≤ t) (hl : ∀ c, l c ≤ 594) : ∃ E, f_X13_fairWay t d = some (q_cb (q_fw m l N), E) ∧ q_o60 d E := by
  have key := q_inv (F := f_X13_fairWay_w6 t) (τ := fun i s => s.1 = q_cb (q_fw m l i) ∧ s.2.1 = q_ff l (q_fw m l i) ∧ s.2.2.1 = Int32.ofNat i ∧ q_o60 d s.2.2.2) (ρ := fun e => e.1 = q_cb (q_fw m l N) ∧ q_o60 d e.2) (n := N) (by omega) (by
    intro i hi s hs
    obtain ⟨s1, s2, s3, D⟩ := s
    obtain ⟨e1, e2, e3, o⟩ := hs
    dsimp only at e1 e2 e3 o
    subst e1 e2 e3
    obtain ⟨E, a1, oE, a2, a3, -⟩ := H i hi D o
    have Dt : D.1 t = d.1 t := o t (by omega)
    have k1 := q_go (n := N) (by omega) hi
    have st : q_fw m l (i + 1) = if m i = true then q_fwu l i (q_fw m l i) else q_fw m l i := rfl
    have hli := hl i
    generalize q_fw m l i = u at st
    unfold f_X13_fairWay_w6 f_X13_fairWay_j40_6
    dsimp only
    rw [Dt, ew, if_neg k1, a1, Option.bind_some]
    dsimp only
    rw [a3, Option.bind_some, Option.bind_some, q_s]
    cases hm : m i with
    | false =>
      rw [hm, if_neg (by decide)] at st
      rw [if_neg (by decide), st]
      exact ⟨_, rfl, rfl, rfl, rfl, oE⟩
    | true =>
      rw [hm, if_pos rfl] at st
      rw [if_pos rfl]
      cases u with
      | none =>
        have c1 : (-1 : Int32) < Int32.ofNat (l i) := q_m1lt (by omega)
        show ∃ t', (if (-1 : Int32) < Int32.ofNat (l i) then _ else _) = _ ∧ _
        rw [if_pos c1, st]
        exact ⟨_, rfl, rfl, rfl, rfl, oE⟩
      | some b =>
        have hlb := hl b
        show ∃ t', (if Int32.ofNat (l b) < Int32.ofNat (l i) then _ else _) = _ ∧ _
        by_cases c : l i ≤ l b
        · have c1 : ¬ (Int32.ofNat (l b) < Int32.ofNat (l i)) := fun y => by
            have := (q_lt (by omega) (by omega)).mp y
            omega
          have su : q_fwu l i (some b) = some b := if_pos c
          rw [if_neg c1, st, su]
          exact ⟨_, rfl, rfl, rfl, rfl, oE⟩
        · have c1 : Int32.ofNat (l b) < Int32.ofNat (l i) := (q_lt (by omega) (by omega)).mpr (by omega)
          have su : q_fwu l i (some b) = some i := if_neg c
          rw [if_pos c1, st, su]
          exact ⟨_, rfl, rfl, rfl, rfl, oE⟩) (by
    intro s hs
    obtain ⟨s1, s2, s3, D⟩ := s
    obtain ⟨e1, e2, e3, o⟩ := hs
    dsimp only at e1 e2 e3 o
    subst e1 e2 e3
    have Dt : D.1 t = d.1 t := o t (by omega)
    unfold f_X13_fairWay_w6
    dsimp only
    rw [Dt, ew, if_pos (q_end (by omega))]
    exact ⟨_, rfl, rfl, o⟩) (t := (-1, -1, 0, d)) ⟨rfl, rfl, rfl, q_o60.refl d⟩
  obtain ⟨⟨e1, e2⟩, h1, h2, h3⟩ := key
  dsimp only at h2 h3
  refine ⟨e2, ?_, h3⟩
  unfold f_X13_fairWay
  rw [h1, Option.bind_some, h2]
theorem q_stillsA (H : q_WM d t N m y l k) (hN : N ≤ 729) (ew : f_X13_ways (d.1 t) = Int32.ofNat N) (h68 : 68 ≤ t) : ∃ E, j_wh (f_X13_stills_w22 t) j_fuel (0, 0, d) = some (q_sn m y N, E) ∧ q_o60 d E := by
  have key := q_inv (F := f_X13_stills_w22 t) (τ := fun i s => s.1 = q_sn m y i ∧ s.2.1 = Int32.ofNat i ∧ q_o60 d s.2.2) (ρ := fun e => e.1 = q_sn m y N ∧ q_o60 d e.2) (n := N) (by omega) (by
    intro i hi s hs
    obtain ⟨s1, s2, D⟩ := s
    obtain ⟨e1, e3, o⟩ := hs
    dsimp only at e1 e3 o
    subst e1 e3
    obtain ⟨E, a1, oE, -, -, a4⟩ := H i hi D o
    have Dt : D.1 t = d.1 t := o t (by omega)
    have k1 := q_go (n := N) (by omega) hi
    have st : q_sn m y (i + 1) = if m i = true then (if y i = true then q_sn m y i + 1 else q_sn m y i) else q_sn m y i := rfl
    generalize q_sn m y i = u at st
    unfold f_X13_stills_w22 f_X13_stills_j50_22 f_X13_stills_j51_22
    dsimp only
    rw [Dt, ew, if_neg k1, a1, Option.bind_some]
    dsimp only
    rw [a4, Option.bind_some, q_s, Int32.add_zero]
    cases hm : m i with
    | false =>
      rw [hm, if_neg (by decide)] at st
      rw [if_neg (by decide), st]
      exact ⟨_, rfl, rfl, rfl, oE⟩
    | true =>
      rw [hm, if_pos rfl] at st
      rw [if_pos rfl]
      cases hy : y i with
      | false =>
        rw [hy, if_neg (by decide)] at st
        rw [if_neg (by decide), st]
        exact ⟨_, rfl, rfl, rfl, oE⟩
      | true =>
        rw [hy, if_pos rfl] at st
        rw [if_pos rfl, st]
        exact ⟨_, rfl, rfl, rfl, oE⟩) (by
    intro s hs
    obtain ⟨s1, s2, D⟩ := s
    obtain ⟨e1, e3, o⟩ := hs
    dsimp only at e1 e3 o
    subst e1 e3
    have Dt : D.1 t = d.1 t := o t (by omega)
    unfold f_X13_stills_w22
    dsimp only
    rw [Dt, ew, if_pos (q_end (by omega))]
    exact ⟨_, rfl, rfl, o⟩) (t := (0, 0, d)) ⟨rfl, rfl, q_o60.refl d⟩
  obtain ⟨⟨e1, e2⟩, h1, h2, h3⟩ := key
  dsimp only at h2 h3
  exact ⟨e2, by rw [h1, h2], h3⟩
end QS
