/-! tier two: land: the line of a gate -/
def qp_ph (b G w : Nat) (κ : Int32) (p mm : Nat) (i : Nat) (s : JD) : JD := j_sI (j_sI s (b + 7) (4 * G + i) (Int32.ofNat (qp_ow κ p mm i))) (b + 8) (4 * G + i) (if qp_ow κ p mm i = 0 then 0 else Int32.ofNat w / Int32.ofNat (q_pc (qp_ow κ p mm i)))
theorem qp_ph_o {b G w : Nat} {κ : Int32} {p mm : Nat} {s : JD} {x : Nat} (h7 : x ≠ b + 7) (h8 : x ≠ b + 8) : ∀ i, (q_it (qp_ph b G w κ p mm) i s).1 x = s.1 x
  | 0 => rfl
  | i + 1 => by
    show (qp_ph b G w κ p mm i (q_it (qp_ph b G w κ p mm) i s)).1 x = _
    unfold qp_ph
    rw [q_sI_o h8, q_sI_o h7]
    exact qp_ph_o h7 h8 i
theorem qp_j70 {b G f w p mm : Nat} {d : JD} {κ : Int32} (hG : G < 6) (hp : p < 5) (hmm : mm < 32) (hf : f < 4) (e3 : d.1 (b + 3) G = κ) (e4 : d.1 (b + 4) G = Int32.ofNat f) (e5 : d.1 (b + 5) G = Int32.ofNat w) (e1 : d.1 (b + 1) f = Int32.ofNat p) (e2 : d.1 (b + 2) f = Int32.ofNat mm) : f_X3_addGate_j70 b d (Int32.ofNat G) = some (j_sI (q_it (qp_ph b G w κ p mm) 3 d) b 4 (d.1 b 4 + 1)) := by
  unfold f_X3_addGate_j70
  have run : j_wh (f_X3_addGate_w73 b (Int32.ofNat G)) j_fuel (0, d) = some (q_it (qp_ph b G w κ p mm) 3 d) := by
    refine q_run (F := f_X3_addGate_w73 b (Int32.ofNat G)) (fun i => (Int32.ofNat i, q_it (qp_ph b G w κ p mm) i d)) 3 (by decide) (fun i hi => ?_) ?_
    · unfold f_X3_addGate_w73
      dsimp only
      rw [if_neg (show ¬ ((2 : Int32) < Int32.ofNat i) from fun z => by
        have := (q_lt (n := 2) (by decide) (by omega)).mp z
        omega), qp_reck (κ := κ) (f := f) (p := p) (mm := mm) hG hi hp hmm hf (by rw [qp_ph_o (by omega) (by omega)]; exact e3) (by rw [qp_ph_o (by omega) (by omega)]; exact e4) (by rw [qp_ph_o (by omega) (by omega)]; exact e1) (by rw [qp_ph_o (by omega) (by omega)]; exact e2), Option.bind_some, qp_ph_o (x := b + 5) (by omega) (by omega), e5, q_s]
      rfl
    · unfold f_X3_addGate_w73
      dsimp only
      rw [if_pos (by decide)]
  rw [run, Option.bind_some, qp_ph_o (by omega) (by omega)]
theorem qp_addG {b G f w p mm : Nat} {D : JD} {κ η : Int32} (hb : 4 ≤ b) (hG : G < 6) (hp : p < 5) (hmm : mm < 32) (hf : f < 4) (e4 : D.1 b 4 = Int32.ofNat G) (e1 : D.1 (b + 1) f = Int32.ofNat p) (e2 : D.1 (b + 2) f = Int32.ofNat mm) : ∃ D', f_X3_addGate b D κ (Int32.ofNat f) (Int32.ofNat w) η = some D' ∧ (∀ x, x ≠ b → x ≠ b + 3 → x ≠ b + 4 → x ≠ b + 5 → x ≠ b + 7 → x ≠ b + 8 → D'.1 x = D.1 x) ∧ (∀ k, k ≠ 4 → k ≠ 6 → k ≠ 7 → D'.1 b k = D.1 b k) ∧ D'.1 b 4 = Int32.ofNat (G + 1) ∧ D'.1 b 6 = f_X10_with (D.1 b 6) (Int32.ofNat G) η ∧ (D'.1 b 7 = if κ = 2 then D.1 b 7 ||| f_X10_bitsOf (Int32.ofNat G) else D.1 b 7) ∧ D'.1 (b + 3) = upd (D.1 (b + 3)) G κ ∧ D'.1 (b + 4) = upd (D.1 (b + 4)) G (Int32.ofNat f) ∧ D'.1 (b + 5) = upd (D.1 (b + 5)) G (Int32.ofNat w) ∧ (∀ k, k < 4 * G → D'.1 (b + 7) k = D.1 (b + 7) k) ∧ (∀ k, k < 4 * G → D'.1 (b + 8) k = D.1 (b + 8) k) ∧ (∀ h, h < 3 → D'.1 (b + 7) (4 * G + h) = Int32.ofNat (qp_ow κ p mm h) ∧ D'.1 (b + 8) (4 * G + h) = if qp_ow κ p mm h = 0 then 0 else Int32.ofNat w / Int32.ofNat (q_pc (qp_ow κ p mm h))) ∧ D'.2 = D.2 ∧ qp_cF b D D' := by
  unfold f_X3_addGate j_let
  dsimp only
  rw [e4, q_put_in hG (by decide), q_put_in hG (by decide), q_put_in hG (by decide)]
  generalize hD1 : j_sI (j_sI (j_sI D (b + 3) G κ) (b + 4) G (Int32.ofNat f)) (b + 5) G (Int32.ofNat w) = D1
  have o1 : ∀ x, x ≠ b + 3 → x ≠ b + 4 → x ≠ b + 5 → D1.1 x = D.1 x := fun x h1 h2 h3 => by rw [← hD1, q_sI_o h3, q_sI_o h2, q_sI_o h1]
  have o3 : D1.1 (b + 3) = upd (D.1 (b + 3)) G κ := by rw [← hD1, q_sI_o (by omega), q_sI_o (by omega), q_sI_a]
  have o4 : D1.1 (b + 4) = upd (D.1 (b + 4)) G (Int32.ofNat f) := by rw [← hD1, q_sI_o (by omega), q_sI_a, q_sI_o (by omega)]
  have o5 : D1.1 (b + 5) = upd (D.1 (b + 5)) G (Int32.ofNat w) := by rw [← hD1, q_sI_a, q_sI_o (by omega), q_sI_o (by omega)]
  have ol : D1.2 = D.2 := by rw [← hD1]; rfl
  have of : qp_cF b D D1 := by
    rw [← hD1]
    exact (((qp_cF.refl b D).sI (by omega) (by omega) _ _).sI (by omega) (by omega) _ _).sI (by omega) (by omega) _ _
  rw [o1 b (by omega) (by omega) (by omega)]
  have key : ∀ d : JD, (∀ x, x ≠ b → d.1 x = D1.1 x) → (∀ k, k ≠ 6 → k ≠ 7 → d.1 b k = D.1 b k) → d.2 = D1.2 → qp_cF b D d → d.1 b 6 = f_X10_with (D.1 b 6) (Int32.ofNat G) η → (d.1 b 7 = if κ = 2 then D.1 b 7 ||| f_X10_bitsOf (Int32.ofNat G) else D.1 b 7) → ∃ D', f_X3_addGate_j70 b d (Int32.ofNat G) = some D' ∧ (∀ x, x ≠ b → x ≠ b + 3 → x ≠ b + 4 → x ≠ b + 5 → x ≠ b + 7 → x ≠ b + 8 → D'.1 x = D.1 x) ∧ (∀ k, k ≠ 4 → k ≠ 6 → k ≠ 7 → D'.1 b k = D.1 b k) ∧ D'.1 b 4 = Int32.ofNat (G + 1) ∧ D'.1 b 6 = f_X10_with (D.1 b 6) (Int32.ofNat G) η ∧ (D'.1 b 7 = if κ = 2 then D.1 b 7 ||| f_X10_bitsOf (Int32.ofNat G) else D.1 b 7) ∧ D'.1 (b + 3) = upd (D.1 (b + 3)) G κ ∧ D'.1 (b + 4) = upd (D.1 (b + 4)) G (Int32.ofNat f) ∧ D'.1 (b + 5) = upd (D.1 (b + 5)) G (Int32.ofNat w) ∧ (∀ k, k < 4 * G → D'.1 (b + 7) k = D.1 (b + 7) k) ∧ (∀ k, k < 4 * G → D'.1 (b + 8) k = D.1 (b + 8) k) ∧ (∀ h, h < 3 → D'.1 (b + 7) (4 * G + h) = Int32.ofNat (qp_ow κ p mm h) ∧ D'.1 (b + 8) (4 * G + h) = if qp_ow κ p mm h = 0 then 0 else Int32.ofNat w / Int32.ofNat (q_pc (qp_ow κ p mm h))) ∧ D'.2 = D.2 ∧ qp_cF b D D' := by
    intro d d1 d2 d3 d4 d6 d7
    have j := qp_j70 (b := b) (G := G) (f := f) (w := w) (p := p) (mm := mm) (d := d) (κ := κ) hG hp hmm hf (by rw [d1 _ (by omega), o3, q_upd_a]) (by rw [d1 _ (by omega), o4, q_upd_a]) (by rw [d1 _ (by omega), o5, q_upd_a]) (by rw [d1 _ (by omega), o1 _ (by omega) (by omega) (by omega)]; exact e1) (by rw [d1 _ (by omega), o1 _ (by omega) (by omega) (by omega)]; exact e2)
    rw [d2 4 (by decide) (by decide), e4, q_s] at j
    have q7 : (q_it (qp_ph b G w κ p mm) 3 d).1 (b + 7) = upd (upd (upd (d.1 (b + 7)) (4 * G + 0) (Int32.ofNat (qp_ow κ p mm 0))) (4 * G + 1) (Int32.ofNat (qp_ow κ p mm 1))) (4 * G + 2) (Int32.ofNat (qp_ow κ p mm 2)) := by
      show (qp_ph b G w κ p mm 2 (qp_ph b G w κ p mm 1 (qp_ph b G w κ p mm 0 d))).1 (b + 7) = _
      unfold qp_ph
      rw [q_sI_o (by omega), q_sI_a, q_sI_o (by omega), q_sI_a, q_sI_o (by omega), q_sI_a]
    have q8 : (q_it (qp_ph b G w κ p mm) 3 d).1 (b + 8) = upd (upd (upd (d.1 (b + 8)) (4 * G + 0) (if qp_ow κ p mm 0 = 0 then 0 else Int32.ofNat w / Int32.ofNat (q_pc (qp_ow κ p mm 0)))) (4 * G + 1) (if qp_ow κ p mm 1 = 0 then 0 else Int32.ofNat w / Int32.ofNat (q_pc (qp_ow κ p mm 1)))) (4 * G + 2) (if qp_ow κ p mm 2 = 0 then 0 else Int32.ofNat w / Int32.ofNat (q_pc (qp_ow κ p mm 2))) := by
      show (qp_ph b G w κ p mm 2 (qp_ph b G w κ p mm 1 (qp_ph b G w κ p mm 0 d))).1 (b + 8) = _
      unfold qp_ph
      rw [q_sI_a, q_sI_o (by omega), q_sI_a, q_sI_o (by omega), q_sI_a, q_sI_o (by omega)]
    have ql : (q_it (qp_ph b G w κ p mm) 3 d).2 = d.2 := rfl
    have qf : qp_cF b D (q_it (qp_ph b G w κ p mm) 3 d) := by
      show qp_cF b D (qp_ph b G w κ p mm 2 (qp_ph b G w κ p mm 1 (qp_ph b G w κ p mm 0 d)))
      unfold qp_ph
      exact (((((d4.sI (by omega) (by omega) _ _).sI (by omega) (by omega) _ _).sI (by omega) (by omega) _ _).sI (by omega) (by omega) _ _).sI (by omega) (by omega) _ _).sI (by omega) (by omega) _ _
    refine ⟨_, j, fun x h1 h2 h3 h4 h5 h6 => ?_, fun k h1 h2 h3 => ?_, q_sI_aa _ _ _ _, ?_, ?_, ?_, ?_, ?_, fun k hk => ?_, fun k hk => ?_, fun h hh => ?_, ?_, qf.sI (by omega) (by omega) _ _⟩
    · rw [q_sI_o h1, qp_ph_o h5 h6, d1 x h1, o1 x h2 h3 h4]
    · rw [q_sI_ao _ _ _ h1, qp_ph_o (by omega) (by omega), d2 k h2 h3]
    · rw [q_sI_ao _ _ _ (by decide), qp_ph_o (by omega) (by omega)]; exact d6
    · rw [q_sI_ao _ _ _ (by decide), qp_ph_o (by omega) (by omega)]; exact d7
    · rw [q_sI_o (by omega), qp_ph_o (by omega) (by omega), d1 _ (by omega)]; exact o3
    · rw [q_sI_o (by omega), qp_ph_o (by omega) (by omega), d1 _ (by omega)]; exact o4
    · rw [q_sI_o (by omega), qp_ph_o (by omega) (by omega), d1 _ (by omega)]; exact o5
    · rw [q_sI_o (by omega), q7, q_upd_o (by omega), q_upd_o (by omega), q_upd_o (by omega), d1 _ (by omega), o1 _ (by omega) (by omega) (by omega)]
    · rw [q_sI_o (by omega), q8, q_upd_o (by omega), q_upd_o (by omega), q_upd_o (by omega), d1 _ (by omega), o1 _ (by omega) (by omega) (by omega)]
    · rw [q_sI_o (by omega), q_sI_o (by omega), q7, q8]
      have h3 : h = 0 ∨ h = 1 ∨ h = 2 := by omega
      rcases h3 with rfl | rfl | rfl
      · rw [q_upd_o (by omega), q_upd_o (by omega), q_upd_a, q_upd_o (by omega), q_upd_o (by omega), q_upd_a]
        exact ⟨rfl, rfl⟩
      · rw [q_upd_o (by omega), q_upd_a, q_upd_o (by omega), q_upd_a]
        exact ⟨rfl, rfl⟩
      · rw [q_upd_a, q_upd_a]
        exact ⟨rfl, rfl⟩
    · rw [q_sI_2, ql, d3, ol]
  by_cases c : κ = 2
  · rw [if_pos c]
    refine key _ (fun x hx => by rw [q_sI_o hx, q_sI_o hx]) (fun k h6 h7 => by rw [q_sI_ao _ _ _ h7, q_sI_ao _ _ _ h6, o1 b (by omega) (by omega) (by omega)]) rfl ((of.sI (by omega) (by omega) _ _).sI (by omega) (by omega) _ _) ?_ ?_
    · rw [q_sI_ao _ _ _ (by decide), q_sI_aa]
    · rw [q_sI_aa, if_pos c]
  · rw [if_neg c]
    refine key _ (fun x hx => by rw [q_sI_o hx]) (fun k h6 h7 => by rw [q_sI_ao _ _ _ h6, o1 b (by omega) (by omega) (by omega)]) rfl (of.sI (by omega) (by omega) _ _) (q_sI_aa _ _ _ _) ?_
    rw [q_sI_ao _ _ _ (by decide), o1 b (by omega) (by omega) (by omega), if_neg c]
