/-! tier two: still ones, firms -/
theorem q_dgu {x : Nat → Int32} (hx : q_dg x) (g : Nat) {h : Int32} (hh : h = 0 ∨ h = 1 ∨ h = 2) : q_dg (upd x g h) := by
  intro k hk
  unfold upd
  split
  · exact hh
  · exact hx k hk
def q_gn (P : Nat) (A7 A8 : Nat → Int32) (g h h' : Nat) : Prop := ∃ p, p < P ∧ f_X11_hasBit (A7 (4 * g + h)) (Int32.ofNat p) = true ∧ ¬ (q_sh A7 A8 (Int32.ofNat p) g h' ≤ A8 (4 * g + h))
theorem q_nle {a b : Int32} : ¬ (a ≤ b) ↔ b < a := by
  rw [Int32.le_iff_toInt_le, Int32.lt_iff_toInt_lt]; omega
section QG
variable {G P F W L : Nat} {A T : Nat → Nat → Int32}
theorem q_gainC (h : q_LR G P F W L A T) {x : Nat → Int32} (hx : q_dg x) {g k : Nat} (hg : g < G) (hk : k < 3) : (q_gn P (A 7) (A 8) g (x g).toNatClampNeg k → f_X3_someoneGains (A 0) (A 7) (A 8) (q_cod x) (Int32.ofNat g) (Int32.ofNat k) = true) ∧ (¬ q_gn P (A 7) (A 8) g (x g).toNatClampNeg k → f_X3_someoneGains (A 0) (A 7) (A 8) (q_cod x) (Int32.ofNat g) (Int32.ofNat k) = false) := by
  have hG := h.1.1.2.1
  have hP := h.1.1.2.2.1
  have g6 : g < 6 := by omega
  have hk3 : Int32.ofNat k = 0 ∨ Int32.ofNat k = 1 ∨ Int32.ofNat k = 2 := by
    match k, hk with
    | 0, _ => exact Or.inl rfl
    | 1, _ => exact Or.inr (Or.inl rfl)
    | 2, _ => exact Or.inr (Or.inr rfl)
    | n + 3, hk => exact absurd hk (by omega)
  have hu := q_dgu hx g hk3
  obtain ⟨h1, h2⟩ := q_d3 hx g6
  have ew : f_X10_with (q_cod x) (Int32.ofNat g) (Int32.ofNat k) = q_cod (upd x g (Int32.ofNat k)) := q_with hx g6 hk3
  have es : ∀ p, f_X3_shareIn (A 7) (A 8) (q_cod (upd x g (Int32.ofNat k))) (Int32.ofNat g) p = q_sh (A 7) (A 8) p g k := by
    intro p
    rw [q_share hu g6, q_upd_a, q_n (by omega)]
  have eo : f_X3_ownersIn (A 7) (q_cod x) (Int32.ofNat g) = A 7 (4 * g + (x g).toNatClampNeg) := q_own hx g6 _
  have ep : f_X3_portionIn (A 8) (q_cod x) (Int32.ofNat g) = A 8 (4 * g + (x g).toNatClampNeg) := q_own hx g6 _
  have eP := h.1.2.2.1.1
  unfold f_X3_someoneGains j_let
  rw [eP, ew, eo]
  have body : ∀ p, ¬ (f_X11_hasBit (A 7 (4 * g + (x g).toNatClampNeg)) (Int32.ofNat p) = true ∧ ¬ (q_sh (A 7) (A 8) (Int32.ofNat p) g k ≤ A 8 (4 * g + (x g).toNatClampNeg))) → f_X3_someoneGains_b19 (A 0) (A 7) (A 8) (q_cod x) (Int32.ofNat g) (A 7 (4 * g + (x g).toNatClampNeg)) (q_cod (upd x g (Int32.ofNat k))) (Int32.ofNat p) () = .inr () := by
    intro p hp
    unfold f_X3_someoneGains_b19 f_X3_someoneGains_j58_19
    rw [es, ep]
    by_cases c : f_X11_hasBit (A 7 (4 * g + (x g).toNatClampNeg)) (Int32.ofNat p) = true
    · rw [if_pos c, if_pos (Classical.not_not.mp (fun z => hp ⟨c, z⟩))]
    · rw [if_neg c]
  rcases q_least (p := fun p => ¬ (f_X11_hasBit (A 7 (4 * g + (x g).toNatClampNeg)) (Int32.ofNat p) = true ∧ ¬ (q_sh (A 7) (A 8) (Int32.ofNat p) g k ≤ A 8 (4 * g + (x g).toNatClampNeg)))) P with hall | ⟨j, hj, hnj, hlt⟩
  · refine ⟨fun ⟨p, y1, y2, y3⟩ => absurd ⟨y2, y3⟩ (hall p y1), fun _ => ?_⟩
    have l := q_fo_miss (n := P) (R := Bool) (fun _ => ()) (by omega) (G := f_X3_someoneGains_b19 (A 0) (A 7) (A 8) (q_cod x) (Int32.ofNat g) (A 7 (4 * g + (x g).toNatClampNeg)) (q_cod (upd x g (Int32.ofNat k)))) (fun i hi => body i (hall i hi))
    rw [l]; rfl
  · have hy := Classical.not_not.mp hnj
    refine ⟨fun _ => ?_, fun z => absurd ⟨j, hj, hy.1, hy.2⟩ z⟩
    have l := q_fo_hit (n := P) (R := Bool) (fun _ => ()) (by omega) hj (G := f_X3_someoneGains_b19 (A 0) (A 7) (A 8) (q_cod x) (Int32.ofNat g) (A 7 (4 * g + (x g).toNatClampNeg)) (q_cod (upd x g (Int32.ofNat k)))) (r := true) (fun i hi => body i (hlt i hi)) (by
      unfold f_X3_someoneGains_b19
      rw [es, ep, if_pos hy.1, if_neg hy.2])
    rw [l]; rfl
theorem q_calmI (h : q_LR G P F W L A T) {x : Nat → Int32} (hx : q_dg x) {g : Nat} (hg : g < G) (h0 : x g ≠ 0) : ((q_gn P (A 7) (A 8) g (x g).toNatClampNeg (3 - (x g).toNatClampNeg) ∨ q_gn P (A 7) (A 8) g (x g).toNatClampNeg 0) → j_wh (f_X13_isCalm_w40_2 x (T 0) (T 1) (T 2) (T 3) (T 4) (T 5) (Int32.ofNat g)) j_fuel 0 = some (.inl false)) ∧ (¬ (q_gn P (A 7) (A 8) g (x g).toNatClampNeg (3 - (x g).toNatClampNeg) ∨ q_gn P (A 7) (A 8) g (x g).toNatClampNeg 0) → j_wh (f_X13_isCalm_w40_2 x (T 0) (T 1) (T 2) (T 3) (T 4) (T 5) (Int32.ofNat g)) j_fuel 0 = some (.inr ())) := by
  have hG := h.1.1.2.1
  have hP := h.1.1.2.2.1
  have g6 : g < 6 := by omega
  obtain ⟨h1, h2⟩ := q_d3 hx g6
  have hz : (x g).toNatClampNeg ≠ 0 := fun z => h0 (by rw [h1, z]; rfl)
  have eP := h.1.2.2.1.2
  have eo := q_owners h hx hg
  have eG : (Int32.ofNat g).toNatClampNeg = g := q_n (by omega)
  have ng : ¬ j_out (Int32.ofNat g) 6 := q_in (by omega) (by decide)
  generalize hk : (x g).toNatClampNeg = k at h1 h2 hz eo
  have e3 : (3 : Int32) - x g = Int32.ofNat (3 - k) := by
    rw [h1]
    exact q_sub (a := 3) (by omega)
  have s1 : ∀ p, f_X13_shareIf (T 1) (T 2) (T 3) (T 4) (T 5) p (Int32.ofNat g) (x g) = some (q_sh (A 7) (A 8) p g k) := fun p => by rw [h1]; exact q_shIf h hg h2 p
  have s2 : ∀ p, f_X13_shareIf (T 1) (T 2) (T 3) (T 4) (T 5) p (Int32.ofNat g) (Int32.ofNat (3 - k)) = some (q_sh (A 7) (A 8) p g (3 - k)) := fun p => q_shIf h hg (by omega) p
  have s3 : ∀ p, f_X13_shareIf (T 1) (T 2) (T 3) (T 4) (T 5) p (Int32.ofNat g) 0 = some (q_sh (A 7) (A 8) p g 0) := fun p => q_shIf h hg (k := 0) (by omega) p
  have now : ∀ p, f_X11_hasBit (A 7 (4 * g + k)) p = true → q_sh (A 7) (A 8) p g k = A 8 (4 * g + k) := fun p c => by unfold q_sh; rw [if_pos c]
  have body : ∀ p, p < P → ¬ (f_X11_hasBit (A 7 (4 * g + k)) (Int32.ofNat p) = true ∧ (¬ (q_sh (A 7) (A 8) (Int32.ofNat p) g (3 - k) ≤ A 8 (4 * g + k)) ∨ ¬ (q_sh (A 7) (A 8) (Int32.ofNat p) g 0 ≤ A 8 (4 * g + k)))) → f_X13_isCalm_w40_2 x (T 0) (T 1) (T 2) (T 3) (T 4) (T 5) (Int32.ofNat g) (Int32.ofNat p) = some (.inl (Int32.ofNat (p + 1))) := by
    intro p hp hn
    have k2 := q_go (n := P) (by omega) hp
    unfold f_X13_isCalm_w40_2 f_X13_isCalm_j110_2_40
    simp only [eP, k2, eo, Option.bind_some, q_bit, ng, eG, e3, s1, s2, s3, q_s, if_false]
    by_cases c : f_X11_hasBit (A 7 (4 * g + k)) (Int32.ofNat p) = true
    · have c1 : q_sh (A 7) (A 8) (Int32.ofNat p) g (3 - k) ≤ A 8 (4 * g + k) := Classical.not_not.mp (fun z => hn ⟨c, Or.inl z⟩)
      have c2 : q_sh (A 7) (A 8) (Int32.ofNat p) g 0 ≤ A 8 (4 * g + k) := Classical.not_not.mp (fun z => hn ⟨c, Or.inr z⟩)
      have c3 : ¬ (A 8 (4 * g + k) < q_sh (A 7) (A 8) (Int32.ofNat p) g (3 - k)) := fun z => q_nle.mpr z c1
      simp only [c, if_true, now _ c, c3, c2, if_false]
    · simp only [c, if_false, Bool.false_eq_true]
  rcases q_least (p := fun p => ¬ (f_X11_hasBit (A 7 (4 * g + k)) (Int32.ofNat p) = true ∧ (¬ (q_sh (A 7) (A 8) (Int32.ofNat p) g (3 - k) ≤ A 8 (4 * g + k)) ∨ ¬ (q_sh (A 7) (A 8) (Int32.ofNat p) g 0 ≤ A 8 (4 * g + k))))) P with hall | ⟨j, hj, hnj, hlt⟩
  · refine ⟨fun z => ?_, fun _ => ?_⟩
    · rcases z with ⟨p, y1, y2, y3⟩ | ⟨p, y1, y2, y3⟩
      · exact absurd ⟨y2, Or.inl y3⟩ (hall p y1)
      · exact absurd ⟨y2, Or.inr y3⟩ (hall p y1)
    · exact q_run (F := f_X13_isCalm_w40_2 x (T 0) (T 1) (T 2) (T 3) (T 4) (T 5) (Int32.ofNat g)) (fun i => Int32.ofNat i) (e := .inr ()) P (by omega) (fun i hi => body i hi (hall i hi)) (by
        have k2 := q_end (n := P) (by omega)
        unfold f_X13_isCalm_w40_2
        simp only [eP, k2, if_true])
  · have hy := Classical.not_not.mp hnj
    refine ⟨fun _ => ?_, fun z => absurd ?_ z⟩
    · exact q_run (F := f_X13_isCalm_w40_2 x (T 0) (T 1) (T 2) (T 3) (T 4) (T 5) (Int32.ofNat g)) (fun i => Int32.ofNat i) (e := .inl false) j (by omega) (fun i hi => body i (by omega) (hlt i hi)) (by
        have k2 := q_go (n := P) (by omega) hj
        unfold f_X13_isCalm_w40_2 f_X13_isCalm_j110_2_40
        simp only [eP, k2, eo, Option.bind_some, q_bit, ng, eG, e3, s1, s2, s3, hy.1, if_true, now _ hy.1, if_false]
        by_cases c1 : A 8 (4 * g + k) < q_sh (A 7) (A 8) (Int32.ofNat j) g (3 - k)
        · simp only [c1, if_true]
        · have c2 : ¬ (q_sh (A 7) (A 8) (Int32.ofNat j) g 0 ≤ A 8 (4 * g + k)) := by
            rcases hy.2 with z | z
            · exact absurd (q_nle.mp z) c1
            · exact z
          simp only [c1, c2, if_false])
    · rcases hy.2 with z | z
      · exact Or.inl ⟨j, hj, hy.1, z⟩
      · exact Or.inr ⟨j, hj, hy.1, z⟩
theorem q_calmM (h : q_LR G P F W L A T) {x : Nat → Int32} (hx : q_dg x) : f_X13_isCalm x (T 0) (T 1) (T 2) (T 3) (T 4) (T 5) = some (f_X3_isStillWay (A 0) (A 7) (A 8) (q_cod x)) := by
  have hG := h.1.1.2.1
  have e4 := h.1.2.1.1
  have e4' := h.1.2.1.2
  obtain ⟨e, l1, l2⟩ := q_fo_wh (R := Bool) (E := Bool ⊕ Unit) (ρ := fun (r : Bool) (e : Bool ⊕ Unit) => e = .inl r) (ρ' := fun (_ : Unit) (e : Bool ⊕ Unit) => e = .inr ()) (τ := fun i (_ : Unit) (q : Int32) => q = Int32.ofNat i) (n := G) (by omega) (G := f_X3_isStillWay_b2 (A 0) (A 7) (A 8) (q_cod x)) (F := f_X13_isCalm_w2 x (T 0) (T 1) (T 2) (T 3) (T 4) (T 5)) (s := ()) (t := 0)
    (fun i hi s q hq => by
      subst hq
      have i6 : i < 6 := by omega
      have k2 := q_go (n := G) (by omega) hi
      have k3 : ¬ j_out (Int32.ofNat i) 6 := q_in (by omega) (by decide)
      have k5 : (Int32.ofNat i).toNatClampNeg = i := q_n (by omega)
      have k6 := q_hung hx i6
      have k7 := q_grd h hi
      unfold f_X13_isCalm_w2 f_X13_isCalm_j116_2 f_X3_isStillWay_b2 f_X3_isStillWay_j53_2
      simp only [e4', k2, k3, k5, k6, if_false, q_s]
      by_cases c2 : T 3 i = 2
      · refine Or.inr ⟨(), Int32.ofNat (i + 1), ?_, ?_, rfl⟩
        · simp only [k7.mpr c2, if_true, ite_self]
        · simp only [c2, if_true]
      · have c2' : ¬ f_X3_isGuarded (A 0) (Int32.ofNat i) = true := fun z => c2 (k7.mp z)
        by_cases c0 : x i = 0
        · refine Or.inr ⟨(), Int32.ofNat (i + 1), ?_, ?_, rfl⟩
          · simp only [c0, if_true]
          · simp only [c0, c2, if_true, if_false]
        · obtain ⟨m1, m2⟩ := q_calmI h hx hi c0
          have g0 := q_gainC h hx hi (k := 0) (by decide)
          have g3 := q_gainC h hx hi (k := 3 - (x i).toNatClampNeg) (by
            obtain ⟨h1, h2⟩ := q_d3 hx i6
            have hz : (x i).toNatClampNeg ≠ 0 := fun z => c0 (by rw [h1, z]; rfl)
            omega)
          have et : f_X3_turned (x i) = Int32.ofNat (3 - (x i).toNatClampNeg) := by
            rcases hx i i6 with z | z | z
            · exact absurd z c0
            · rw [z]; rfl
            · rw [z]; rfl
          have g0' : (q_gn P (A 7) (A 8) i (x i).toNatClampNeg 0 → f_X3_someoneGains (A 0) (A 7) (A 8) (q_cod x) (Int32.ofNat i) 0 = true) ∧ (¬ q_gn P (A 7) (A 8) i (x i).toNatClampNeg 0 → f_X3_someoneGains (A 0) (A 7) (A 8) (q_cod x) (Int32.ofNat i) 0 = false) := g0
          rw [et]
          by_cases d0 : q_gn P (A 7) (A 8) i (x i).toNatClampNeg 0
          · refine Or.inl ⟨false, .inl false, ?_, ?_, rfl⟩
            · simp only [c0, c2', g0'.1 d0, if_true, if_false, Bool.false_eq_true]
            · simp only [c2, c0, m1 (Or.inr d0), Option.bind_some, if_false]
              rfl
          · by_cases d3 : q_gn P (A 7) (A 8) i (x i).toNatClampNeg (3 - (x i).toNatClampNeg)
            · refine Or.inl ⟨false, .inl false, ?_, ?_, rfl⟩
              · simp only [c0, c2', g0'.2 d0, g3.1 d3, if_true, if_false, Bool.false_eq_true]
              · simp only [c2, c0, m1 (Or.inl d3), Option.bind_some, if_false]
                rfl
            · refine Or.inr ⟨(), Int32.ofNat (i + 1), ?_, ?_, rfl⟩
              · simp only [c0, c2', g0'.2 d0, g3.2 d3, if_false, Bool.false_eq_true]
              · simp only [c2, c0, m2 (fun z => z.elim d3 d0), Option.bind_some, if_false]
                rfl)
    (fun s q hq => by
      subst hq
      refine ⟨.inr (), ?_, rfl⟩
      have k2 := q_end (n := G) (by omega)
      unfold f_X13_isCalm_w2
      simp only [e4', k2, if_true])
    rfl
  unfold f_X13_isCalm f_X3_isStillWay j_let
  rw [l1, Option.bind_some, e4]
  cases e1 : j_fo (Int32.ofNat G) (f_X3_isStillWay_b2 (A 0) (A 7) (A 8) (q_cod x)) (j_mu (Int32.ofNat G) 0) 0 () with
  | inl r => rw [e1] at l2; rw [show e = .inl r from l2]; rfl
  | inr r => rw [e1] at l2; rw [show e = .inr () from l2]; rfl
end QG
theorem qk_isStill {G P F W L a t : Nat} {d : JD} (hL : q_LR G P F W L (q_rows d a) (q_rows d t)) (hN : q_NR G (q_rows d a) (q_rows d t) (d.1 22 0) (d.1 22 1) (d.1 22 2) (d.1 59)) (h68 : 68 ≤ t) : ∃ (x : Int32) (w : Int32) (d2 : JD), f_X11_isStill a d = (x, j_sI d 0 11 w) ∧ f_X13_isStill t (j_sI d 0 11 w) = some (x, d2) ∧ q_ans d d2 w := by
  have k1 : f_X11_hasLand (d.1 a) = true := q_hl1 (A := q_rows d a) (T := q_rows d t) hL
  obtain ⟨d3, w1, w2, w3, w4, w5, w6⟩ := q_wk d 0
  have kt : ∀ j, d3.1 (t + j) = d.1 (t + j) := fun j => w4 _ (by omega) (by omega) (by omega)
  have kt0 : d3.1 t = d.1 t := kt 0
  obtain ⟨hx, hc⟩ := q_way hN w6
  have hm := q_calmM (A := q_rows d a) (T := q_rows d t) hL hx
  rw [hc] at hm
  have hm' : f_X13_isCalm (d3.1 60) (d.1 t) (d.1 (t + 1)) (d.1 (t + 2)) (d.1 (t + 3)) (d.1 (t + 4)) (d.1 (t + 5)) = some (f_X3_isStillWay (d.1 a) (d.1 (a + 7)) (d.1 (a + 8)) (d.1 22 0)) := hm
  by_cases c : f_X3_isStillWay (d.1 a) (d.1 (a + 7)) (d.1 (a + 8)) (d.1 22 0) = true
  · refine ⟨1, 0, q_fin d3 0, ?_, ?_, q_fin_ans w2 w3 (by decide)⟩
    · unfold f_X11_isStill f_X11_isStill_j36 j_let
      simp only [k1, c, q_xan, if_true]
    · unfold f_X13_isStill f_X13_isStill_j35 j_let
      simp only [q_dMe, w1, Option.bind_some, kt, kt0, hm', c, q_good, if_true]
  · refine ⟨0, 0, q_fin d3 0, ?_, ?_, q_fin_ans w2 w3 (by decide)⟩
    · unfold f_X11_isStill f_X11_isStill_j36 j_let
      simp only [k1, c, q_xan, if_true, if_false, Bool.false_eq_true]
    · unfold f_X13_isStill f_X13_isStill_j35 j_let
      simp only [q_dMe, w1, Option.bind_some, kt, kt0, hm', c, q_good, if_false, Bool.false_eq_true]
/-- firms -/
def q_nb (m : Nat) : Nat → Nat
  | 0 => 0
  | n + 1 => if m.testBit n = true then q_nb m n + 1 else q_nb m n
theorem q_nb6 : ∀ P : Fin 6, ∀ m : Fin 32, m.val < 2 ^ P.val → q_nb m.val P.val = q_pc m.val := by decide +kernel
theorem q_nbs (m : Nat) (hm : m < 64) (c s : Int32) : ∀ n, n ≤ 6 → q_it (fun p (s : Int32) => s + if f_X11_hasBit (Int32.ofNat m) (Int32.ofNat p) = true then c else 0) n s = s + Int32.ofNat (q_nb m n) * c
  | 0, _ => by show s = s + Int32.ofNat 0 * c; rw [show Int32.ofNat 0 = 0 from rfl, Int32.zero_mul, Int32.add_zero]
  | n + 1, hn => by
    show q_it _ n s + _ = s + Int32.ofNat (if m.testBit n = true then q_nb m n + 1 else q_nb m n) * c
    rw [q_nbs m hm c s n (by omega), q_hb hm (by omega)]
    by_cases z : m.testBit n = true
    · rw [if_pos z, if_pos z, Int32.ofNat_add, Int32.add_mul, Int32.add_assoc]
      congr 2
      exact (Int32.one_mul c).symm
    · rw [if_neg z, if_neg z, Int32.add_zero]
theorem q_firmS {G P F W L : Nat} {A T : Nat → Nat → Int32} (h : q_LR G P F W L A T) {x : Nat → Int32} (hx : q_dg x) {g : Nat} (hg : g < G) (s : Int32) : q_it (fun p s => s + q_sh (A 7) (A 8) (Int32.ofNat p) g (x g).toNatClampNeg) P s = s + f_J6_bitCount_0f7a4 (f_X3_ownersIn (A 7) (q_cod x) (Int32.ofNat g)) * f_X3_portionIn (A 8) (q_cod x) (Int32.ofNat g) := by
  have hG := h.1.1.2.1
  have hP := h.1.1.2.2.1
  obtain ⟨h1, h2⟩ := q_d3 hx (g := g) (by omega)
  obtain ⟨m, m0, m1, -⟩ := h.2.2.2.1 g hg _ h2
  have m32 := q_p5 hP m0
  have eo : f_X3_ownersIn (A 7) (q_cod x) (Int32.ofNat g) = A 7 (4 * g + (x g).toNatClampNeg) := q_own hx (by omega) _
  have ep : f_X3_portionIn (A 8) (q_cod x) (Int32.ofNat g) = A 8 (4 * g + (x g).toNatClampNeg) := q_own hx (by omega) _
  rw [eo, ep, m1, q_bcnt (by omega), ← q_nb6 ⟨P, by omega⟩ ⟨m, m32⟩ m0, ← q_nbs m (by omega) _ s P (by omega)]
  refine q_it_congr P s (fun p hp s => ?_)
  unfold q_sh
  rw [m1]
theorem qk_firm {G P F W L a t : Nat} {d : JD} (hL : q_LR G P F W L (q_rows d a) (q_rows d t)) (hN : q_NR G (q_rows d a) (q_rows d t) (d.1 22 0) (d.1 22 1) (d.1 22 2) (d.1 59)) (h68 : 68 ≤ t) (pq0 pq1 : Int32) : ∃ (x : Int32) (w : Int32) (d2 : JD), f_X11_firm a d pq0 pq1 = (x, j_sI d 0 11 w) ∧ f_X13_firm t (j_sI d 0 11 w) pq0 pq1 = some (x, d2) ∧ q_ans d d2 w := by
  have hG := hL.1.1.2.1
  have hP := hL.1.1.2.2.1
  have hF := hL.1.1.2.2.2.1
  have eT : ∀ w, (q_dM d w).1 t = d.1 t := fun w => q_dM_o (by omega) (by omega)
  have e3 : d.1 a 3 = Int32.ofNat F := hL.1.2.2.2.1.1
  have e3' : d.1 t 3 = Int32.ofNat F := hL.1.2.2.2.1.2
  have e4 : d.1 a 4 = Int32.ofNat G := hL.1.2.1.1
  have e4' : d.1 t 4 = Int32.ofNat G := hL.1.2.1.2
  have e2' : d.1 t 2 = Int32.ofNat P := hL.1.2.2.1.2
  have bad : f_X13_isFirm (d.1 t) pq0 = false → ∃ (x : Int32) (w : Int32) (d2 : JD), f_X11_firm a d pq0 pq1 = (x, j_sI d 0 11 w) ∧ f_X13_firm t (j_sI d 0 11 w) pq0 pq1 = some (x, d2) ∧ q_ans d d2 w := by
    intro hf
    refine ⟨-1, 1, q_fin (q_dM d 1) 1, ?_, ?_, q_ansd d (by decide)⟩
    · unfold f_X13_isFirm at hf
      rw [e3'] at hf
      unfold f_X11_firm f_X11_firm_j15 j_let
      rw [e3]
      by_cases c1 : pq0 < 0
      · simp only [c1, if_true, q_xre]
      · by_cases c2 : Int32.ofNat F ≤ pq0
        · have c3 : ¬ (pq0 < Int32.ofNat F) := fun z => q_nle.mpr z c2
          simp only [c1, c3, if_false, q_xre]
        · rw [if_neg c1, if_neg c2] at hf; cases hf
    · unfold f_X13_firm f_X13_firm_j22 j_let
      simp only [q_dMe, eT, hf, q_ref, if_false, Bool.false_eq_true]
  by_cases hf : f_X13_isFirm (d.1 t) pq0 = true
  · have hf2 := hf
    unfold f_X13_isFirm at hf2
    rw [e3'] at hf2
    by_cases c1 : pq0 < 0
    · rw [if_pos c1] at hf2; cases hf2
    · rw [if_neg c1] at hf2
      by_cases c2 : Int32.ofNat F ≤ pq0
      · rw [if_pos c2] at hf2; cases hf2
      · obtain ⟨f, hfF, ef⟩ := q_idx c1 c2 (by omega)
        have c3 : pq0 < Int32.ofNat F := q_nle.mp c2
        have r := hL.2.1.1 f hfF
        have r1 : d.1 (t + 1) f = d.1 (a + 1) f := r.1
        have r2 : d.1 (t + 2) f = d.1 (a + 2) f := r.2
        have nf : pq0.toNatClampNeg = f := by rw [ef]; exact q_n (by omega)
        have of : ¬ j_out pq0 4 := by rw [ef]; exact q_in (by omega) (by decide)
        have at1 : f_X11_at (d.1 (a + 1)) 4 pq0 = d.1 (a + 1) f := by rw [ef]; exact q_at (by omega) (by decide)
        have at2 : f_X11_at (d.1 (a + 2)) 4 pq0 = d.1 (a + 2) f := by rw [ef]; exact q_at (by omega) (by decide)
        obtain ⟨d3, w1, w2, w3, w4, w5, w6⟩ := q_wk d 0
        have kt : ∀ j, d3.1 (t + j) = d.1 (t + j) := fun j => w4 _ (by omega) (by omega) (by omega)
        have kt0 : d3.1 t = d.1 t := kt 0
        obtain ⟨hx, hc⟩ := q_way hN w6
        have fin : q_ans d (q_fin d3 0) 0 := q_fin_ans w2 w3 (by decide)
        have lp : j_wh (f_X13_firm_w37 t pq0 pq1 d3) j_fuel (0, 0) = some (j_for (Int32.ofNat G) (f_X3_wealthOfFirm_b5 (d.1 a) (d.1 (a + 4)) (d.1 (a + 7)) (d.1 (a + 8)) pq0 (d.1 22 0)) (j_mu (Int32.ofNat G) 0) 0 0) := by
          refine q_loop (n := G) (by omega) ?_ ?_
          · intro i hi s
            have k2 := q_go (n := G) (by omega) hi
            have k3 : ¬ j_out (Int32.ofNat i) 6 := q_in (by omega) (by decide)
            have k5 : (Int32.ofNat i).toNatClampNeg = i := q_n (by omega)
            have k6 : d.1 (t + 4) i = d.1 (a + 4) i := (hL.2.1.2.1 i hi).2.1
            have k7 : f_X11_at (d.1 (a + 4)) 6 (Int32.ofNat i) = d.1 (a + 4) i := q_at (by omega) (by decide)
            unfold f_X13_firm_w37 f_X13_firm_j105_37 f_X3_wealthOfFirm_b5 f_X3_wealthOfFirm_j48_5
            simp only [kt, kt0, e4', k2, k3, k5, k6, k7, if_false, q_s]
            by_cases c : d.1 (a + 4) i = pq0
            · obtain ⟨h3, h4⟩ := q_d3 hx (g := i) (by omega)
              have li := q_run (F := f_X13_firm_w69_37 t pq0 pq1 (Int32.ofNat i) d3) (fun p => (q_it (fun p s => s + q_sh (d.1 (a + 7)) (d.1 (a + 8)) (Int32.ofNat p) i (d3.1 60 i).toNatClampNeg) p s, Int32.ofNat p)) (e := q_it (fun p s => s + q_sh (d.1 (a + 7)) (d.1 (a + 8)) (Int32.ofNat p) i (d3.1 60 i).toNatClampNeg) P s) P (by omega) (fun p hp => by
                have k8 := q_go (n := P) (by omega) hp
                have k9 := q_shIf (A := q_rows d a) (T := q_rows d t) hL hi h4 (Int32.ofNat p)
                rw [← h3] at k9
                have k9' : f_X13_shareIf (d.1 (t + 1)) (d.1 (t + 2)) (d.1 (t + 3)) (d.1 (t + 4)) (d.1 (t + 5)) (Int32.ofNat p) (Int32.ofNat i) (d3.1 60 i) = some (q_sh (d.1 (a + 7)) (d.1 (a + 8)) (Int32.ofNat p) i (d3.1 60 i).toNatClampNeg) := k9
                unfold f_X13_firm_w69_37
                simp only [kt, kt0, e2', k8, k3, k5, k9', Option.bind_some, if_false, q_s]
                rfl) (by
                have k8 := q_end (n := P) (by omega)
                unfold f_X13_firm_w69_37
                simp only [kt0, e2', k8, if_true])
              have li' : j_wh (f_X13_firm_w69_37 t pq0 pq1 (Int32.ofNat i) d3) j_fuel (s, 0) = some (q_it (fun p s => s + q_sh (d.1 (a + 7)) (d.1 (a + 8)) (Int32.ofNat p) i (d3.1 60 i).toNatClampNeg) P s) := li
              have fs := q_firmS (A := q_rows d a) (T := q_rows d t) hL hx hi s
              rw [hc] at fs
              have fs' : q_it (fun p s => s + q_sh (d.1 (a + 7)) (d.1 (a + 8)) (Int32.ofNat p) i (d3.1 60 i).toNatClampNeg) P s = s + f_J6_bitCount_0f7a4 (f_X3_ownersIn (d.1 (a + 7)) (d.1 22 0) (Int32.ofNat i)) * f_X3_portionIn (d.1 (a + 8)) (d.1 22 0) (Int32.ofNat i) := fs
              simp only [c, if_true, li', Option.bind_some, fs']
            · simp only [c, if_false]
          · intro s
            have k2 := q_end (n := G) (by omega)
            unfold f_X13_firm_w37
            simp only [kt0, e4', k2, if_true]
        by_cases h2 : f_X13_in pq1 0 2 = true
        · obtain ⟨i, hi, ei⟩ := q_inr (n := 2) (by decide) h2
          match i, hi with
          | 0, _ =>
            have ei' : pq1 = 0 := ei
            refine ⟨d.1 (a + 1) f, 0, q_fin d3 0, ?_, ?_, fin⟩
            · unfold f_X11_firm j_let
              simp only [c1, e3, c3, ei', at1, q_xan, if_true, if_false]
            · unfold f_X13_firm f_X13_firm_j146 j_let
              rw [q_dMe, eT, if_pos hf, if_pos h2, w1, Option.bind_some, lp, Option.bind_some, if_pos ei', if_neg of, kt, nf, r1, q_good]
          | 1, _ =>
            have ei' : pq1 = 1 := ei
            have n0 : ¬ (pq1 = 0) := by rw [ei']; decide
            refine ⟨d.1 (a + 2) f, 0, q_fin d3 0, ?_, ?_, fin⟩
            · unfold f_X11_firm j_let
              simp only [c1, e3, c3, n0, ei', at2, q_xan, if_true, if_false, show ¬ ((1 : Int32) = 0) by decide]
            · unfold f_X13_firm f_X13_firm_j146 j_let
              rw [q_dMe, eT, if_pos hf, if_pos h2, w1, Option.bind_some, lp, Option.bind_some, if_neg n0, if_pos ei', if_neg of, kt, nf, r2, q_good]
          | 2, _ =>
            have ei' : pq1 = 2 := ei
            have n0 : ¬ (pq1 = 0) := by rw [ei']; decide
            have n1 : ¬ (pq1 = 1) := by rw [ei']; decide
            refine ⟨j_for (Int32.ofNat G) (f_X3_wealthOfFirm_b5 (d.1 a) (d.1 (a + 4)) (d.1 (a + 7)) (d.1 (a + 8)) pq0 (d.1 22 0)) (j_mu (Int32.ofNat G) 0) 0 0, 0, q_fin d3 0, ?_, ?_, fin⟩
            · unfold f_X11_firm f_X3_wealthOfFirm j_let
              rw [if_neg c1, e3, if_pos c3, if_neg n0, if_neg n1, if_pos ei', e4, q_xan]
            · unfold f_X13_firm f_X13_firm_j146 j_let
              rw [q_dMe, eT, if_pos hf, if_pos h2, w1, Option.bind_some, lp, Option.bind_some, if_neg n0, if_neg n1, q_good]
          | n + 3, hi => exact absurd hi (by omega)
        · refine ⟨-1, 1, q_fin (q_dM d 1) 1, ?_, ?_, q_ansd d (by decide)⟩
          · have n0 : ¬ pq1 = 0 := fun z => h2 (by rw [z]; decide)
            have n1 : ¬ pq1 = 1 := fun z => h2 (by rw [z]; decide)
            have n2 : ¬ pq1 = 2 := fun z => h2 (by rw [z]; decide)
            unfold f_X11_firm j_let
            simp only [c1, e3, c3, n0, n1, n2, if_true, if_false, q_xre]
          · unfold f_X13_firm f_X13_firm_j22 j_let
            simp only [q_dMe, eT, hf, h2, if_true, if_false, q_ref, Bool.false_eq_true]
  · exact bad (by cases z : f_X13_isFirm (d.1 t) pq0 with | false => rfl | true => exact absurd z hf)
theorem q_21 {K : q_K} (hK : q_Kok K) : lw_st_21 (q_R K) := by
  intro h r hz
  obtain ⟨g, d⟩ := h
  have hr := r
  obtain ⟨a, b, hg, ht, -, -, hl⟩ := r
  rcases hl with ⟨hla, hn⟩ | ⟨t, h68, hla, hts, G, P, F, W, L, hL, hN, -⟩
  · obtain ⟨x, w, d2, e1, e2, e3⟩ := qn_isStill (a := a) (d := d) hn
    exact q_stI hr (q_jT (s_X11_isStill g d a hg.2.1 hg.2.2.1 hg.2.2.2.2.1) e1) (q_jT (s_X13_isStilln g _ hg.2.1 hla) e2) (hr.ans hK e3)
  · obtain ⟨x, w, d2, e1, e2, e3⟩ := qk_isStill (a := a) (t := t) (d := d) hL hN h68
    exact q_stI hr (q_jT (s_X11_isStill g d a hg.2.1 hg.2.2.1 hg.2.2.2.2.1) e1) (q_jP (s_X13_isStill g _ t hg.2.1 hts hla) e2) (hr.ans hK e3)
theorem q_6 {K : q_K} (hK : q_Kok K) : lw_st_6 (q_R K) := by
  intro h p1 p2 r hz
  obtain ⟨g, d⟩ := h
  have hr := r
  obtain ⟨a, b, hg, ht, -, -, hl⟩ := r
  rcases hl with ⟨hla, hn⟩ | ⟨t, h68, hla, hts, G, P, F, W, L, hL, hN, -⟩
  · obtain ⟨x, w, d2, e1, e2, e3⟩ := qn_firm (a := a) (d := d) hn p1 p2
    exact q_stI hr (q_jT (s_X11_firm g d a p1 p2 hg.2.1 hg.2.2.1 hg.2.2.2.2.1) e1) (q_jT (s_X13_firmn g _ p1 p2 hg.2.1 hla) e2) (hr.ans hK e3)
  · obtain ⟨x, w, d2, e1, e2, e3⟩ := qk_firm (a := a) (t := t) (d := d) hL hN h68 p1 p2
    exact q_stI hr (q_jT (s_X11_firm g d a p1 p2 hg.2.1 hg.2.2.1 hg.2.2.2.2.1) e1) (q_jP (s_X13_firm g _ t p1 p2 hg.2.1 hts hla) e2) (hr.ans hK e3)
