/-! tier two: what a call may change and leave the relation as it was -/
def q_fr (b : Nat) : Bool := b == 23 || b == 41 || b == 60 || b == 63 || b == 64 || b == 65 || b == 66 || b == 67
def q_f57 (k : Nat) : Bool := k == 0 || k == 1 || k == 2 || k == 24 || k == 25 || k == 26 || k == 28 || k == 29
def q_sm (d d' : JD) : Prop := (∀ b, b ≠ 0 → b ≠ 57 → q_fr b = false → d'.1 b = d.1 b) ∧ (∀ k, q_f57 k = false → d'.1 57 k = d.1 57 k) ∧ ∀ k, k ≠ 11 → d'.1 0 k = d.1 0 k
theorem q_sm.refl (d : JD) : q_sm d d := ⟨fun _ _ _ _ => rfl, fun _ _ => rfl, fun _ _ => rfl⟩
theorem q_sm.trans {d d1 d2 : JD} (a : q_sm d d1) (b : q_sm d1 d2) : q_sm d d2 := ⟨fun x h1 h2 h3 => (b.1 x h1 h2 h3).trans (a.1 x h1 h2 h3), fun k h => (b.2.1 k h).trans (a.2.1 k h), fun k h => (b.2.2 k h).trans (a.2.2 k h)⟩
theorem q_sm.row {d d1 : JD} (a : q_sm d d1) {b : Nat} (hb : q_fr b = true) (h0 : b ≠ 0) (h57 : b ≠ 57) (r : Nat → Int32) : q_sm d (q_row d1 b r) := a.trans ⟨fun x h1 h2 h3 => q_row_o (fun z => by rw [z, hb] at h3; cases h3), fun k _ => by rw [q_row_o h57.symm], fun k _ => by rw [q_row_o h0.symm]⟩
theorem q_sm.sI {d d1 : JD} (a : q_sm d d1) {b : Nat} (hb : q_fr b = true) (h0 : b ≠ 0) (h57 : b ≠ 57) (k : Nat) (v : Int32) : q_sm d (j_sI d1 b k v) := q_sI_row d1 b k v ▸ a.row hb h0 h57 _
theorem q_sm.f57 {d d1 : JD} (a : q_sm d d1) {k : Nat} (hk : q_f57 k = true) (v : Int32) : q_sm d (j_sI d1 57 k v) := a.trans ⟨fun x h1 h2 h3 => q_sI_o h2, fun j hj => by
  rw [q_sI_a]
  show (if j = k then v else d1.1 57 j) = _
  rw [if_neg (fun z => by rw [z, hk] at hj; cases hj)], fun j _ => by rw [q_sI_o (by decide)]⟩
theorem q_sm.f0 {d d1 : JD} (a : q_sm d d1) (v : Int32) : q_sm d (j_sI d1 0 11 v) := a.trans ⟨fun x h1 h2 h3 => q_sI_o h1, fun j hj => by rw [q_sI_o (by decide)], fun j hj => by
  rw [q_sI_a]
  show (if j = 11 then v else d1.1 0 j) = _
  rw [if_neg hj]⟩
theorem q_sm.lg {d d1 : JD} (a : q_sm d d1) (r : Nat → Nat → Int64) : q_sm d (d1.1, r) := a.trans ⟨fun x h1 h2 h3 => rfl, fun j hj => rfl, fun j hj => rfl⟩
theorem q_sm.A {d d' : JD} (h : q_sm d d') {a : Nat} (ha : a = 42 ∨ a = 4) {j : Nat} (hj : j < 15) : d'.1 (a + j) = d.1 (a + j) := by
  refine h.1 (a + j) (by omega) (by omega) ?_
  unfold q_fr
  rcases ha with rfl | rfl
  · have : (42 + j == 23) = false ∧ (42 + j == 41) = false ∧ (42 + j == 60) = false ∧ (42 + j == 63) = false ∧ (42 + j == 64) = false ∧ (42 + j == 65) = false ∧ (42 + j == 66) = false ∧ (42 + j == 67) = false := by
      refine ⟨?_, ?_, ?_, ?_, ?_, ?_, ?_, ?_⟩ <;> (apply beq_false_of_ne; omega)
    simp only [this, Bool.or_false]
  · have : (4 + j == 23) = false ∧ (4 + j == 41) = false ∧ (4 + j == 60) = false ∧ (4 + j == 63) = false ∧ (4 + j == 64) = false ∧ (4 + j == 65) = false ∧ (4 + j == 66) = false ∧ (4 + j == 67) = false := by
      refine ⟨?_, ?_, ?_, ?_, ?_, ?_, ?_, ?_⟩ <;> (apply beq_false_of_ne; omega)
    simp only [this, Bool.or_false]
theorem q_sm.T {d d' : JD} (h : q_sm d d') {t : Nat} (ht : 68 ≤ t) : d'.1 t = d.1 t := by
  refine h.1 t (by omega) (by omega) ?_
  unfold q_fr
  have : (t == 23) = false ∧ (t == 41) = false ∧ (t == 60) = false ∧ (t == 63) = false ∧ (t == 64) = false ∧ (t == 65) = false ∧ (t == 66) = false ∧ (t == 67) = false := by
    refine ⟨?_, ?_, ?_, ?_, ?_, ?_, ?_, ?_⟩ <;> (apply beq_false_of_ne; omega)
  simp only [this, Bool.or_false]
/-- both sides have answered with trouble w -/
def q_ans (d d2 : JD) (w : Int32) : Prop := q_sm d d2 ∧ d2.1 0 11 = w ∧ d2.1 57 1 = w ∧ d2.1 57 2 = -1 ∧ w ≠ 4
def q_fin (d : JD) (w : Int32) : JD := j_sI (j_sI d 57 1 w) 57 2 (-1)
theorem q_fin_ans {d d3 : JD} {w : Int32} (h : q_sm d d3) (h11 : d3.1 0 11 = w) (hw : w ≠ 4) : q_ans d (q_fin d3 w) w := by
  refine ⟨(h.f57 rfl w).f57 rfl (-1), ?_, ?_, ?_, hw⟩
  · unfold q_fin; rw [q_sI_o (by decide), q_sI_o (by decide)]; exact h11
  · unfold q_fin; rw [q_sI_a, q_sI_a]; rfl
  · unfold q_fin; rw [q_sI_a]; rfl
/-- trouble, fault, where; the tape -/

def q_isb (v : Int32) : Prop := v.toInt8.toInt32 = v
def q_TR (d : JD) : Prop := d.1 0 11 = d.1 57 1 ∧ d.1 0 12 = d.1 57 12 ∧ (if d.1 0 11 = 4 then d.1 0 13 else -1) = d.1 57 2 ∧ (∃ n : Nat, n ≤ 900 ∧ d.1 1 1 = Int32.ofNat n) ∧ d.1 57 6 = d.1 1 1 ∧ d.1 58 = d.1 2 ∧ ∀ k, q_isb (d.1 2 k)
theorem q_TR.ans {d d2 : JD} {w : Int32} (h : q_TR d) (a : q_ans d d2 w) : q_TR d2 := by
  obtain ⟨s, h1, h2, h3, h4⟩ := a
  refine ⟨h1.trans h2.symm, ?_, ?_, ?_, ?_, ?_⟩
  · rw [s.2.2 12 (by decide), s.2.1 12 rfl]; exact h.2.1
  · rw [h1, if_neg h4, h3]
  · rw [s.1 1 (by decide) (by decide) rfl]; exact h.2.2.2.1
  · rw [s.1 1 (by decide) (by decide) rfl, s.2.1 6 rfl]; exact h.2.2.2.2.1
  · rw [s.1 58 (by decide) (by decide) rfl, s.1 2 (by decide) (by decide) rfl]; exact h.2.2.2.2.2
theorem q_TR.sm {d d2 : JD} (h : q_TR d) (s : q_sm d d2) (h1 : d2.1 0 11 = d.1 0 11) (h2 : d2.1 57 1 = d.1 57 1) (h3 : d2.1 57 2 = d.1 57 2) : q_TR d2 := by
  refine ⟨by rw [h1, h2]; exact h.1, ?_, ?_, ?_, ?_, ?_⟩
  · rw [s.2.2 12 (by decide), s.2.1 12 rfl]; exact h.2.1
  · rw [h1, h3, s.2.2 13 (by decide)]; exact h.2.2.1
  · rw [s.1 1 (by decide) (by decide) rfl]; exact h.2.2.2.1
  · rw [s.1 1 (by decide) (by decide) rfl, s.2.1 6 rfl]; exact h.2.2.2.2.1
  · rw [s.1 58 (by decide) (by decide) rfl, s.1 2 (by decide) (by decide) rfl]; exact h.2.2.2.2.2
