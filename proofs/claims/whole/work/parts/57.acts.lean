/-! tier two: hang, take, turnOver -/
def q_b6 (b0 b1 b2 b3 b4 b5 : Bool) (k : Nat) : Bool := match k with
  | 0 => b0
  | 1 => b1
  | 2 => b2
  | 3 => b3
  | 4 => b4
  | 5 => b5
  | _ => false
theorem q_b6_at (f : Nat → Bool) : ∀ g, g < 6 → q_b6 (f 0) (f 1) (f 2) (f 3) (f 4) (f 5) g = f g
  | 0, _ => rfl
  | 1, _ => rfl
  | 2, _ => rfl
  | 3, _ => rfl
  | 4, _ => rfl
  | 5, _ => rfl
  | n + 6, hk => absurd hk (by omega)
theorem q_grd64 : ∀ b0 b1 b2 b3 b4 b5 : Bool, ∀ g : Fin 6, decide ((q_cod (fun k => if q_b6 b0 b1 b2 b3 b4 b5 k = true then 3 else 0) &&& f_X10_bitsOf (Int32.ofNat g.val)) = 0) = !(q_b6 b0 b1 b2 b3 b4 b5 g.val) := by decide +kernel
theorem q_grd {G P F W L : Nat} {A T : Nat → Nat → Int32} (h : q_LR G P F W L A T) {g : Nat} (hg : g < G) : f_X3_isGuarded (A 0) (Int32.ofNat g) = true ↔ T 3 g = 2 := by
  have hG := h.1.1.2.1
  obtain ⟨f, hf⟩ : ∃ f : Nat → Bool, ∀ k, f k = decide (k < G ∧ T 3 k = 2) := ⟨_, fun _ => rfl⟩
  have e : q_cod (q_gd G (T 3)) = q_cod (fun k => if q_b6 (f 0) (f 1) (f 2) (f 3) (f 4) (f 5) k = true then 3 else 0) := by
    apply q_cod_congr
    intro k hk
    show q_gd G (T 3) k = if q_b6 (f 0) (f 1) (f 2) (f 3) (f 4) (f 5) k = true then 3 else 0
    rw [q_b6_at f k hk, hf k]
    unfold q_gd
    by_cases c1 : k < G
    · by_cases c2 : T 3 k = 2
      · simp [c1, c2]
      · simp [c1, c2]
    · simp [c1]
  have q := q_grd64 (f 0) (f 1) (f 2) (f 3) (f 4) (f 5) ⟨g, by omega⟩
  rw [← e, ← h.2.2.1.2.2.1] at q
  dsimp only at q
  rw [q_b6_at f g (by omega), hf g] at q
  unfold f_X3_isGuarded
  by_cases c : T 3 g = 2
  · have : ¬ ((A 0 7 &&& f_X10_bitsOf (Int32.ofNat g)) = 0) := by
      intro z
      rw [decide_eq_true z, decide_eq_true (p := g < G ∧ T 3 g = 2) ⟨hg, c⟩] at q
      cases q
    rw [if_neg this]
    exact ⟨fun _ => c, fun _ => rfl⟩
  · have : (A 0 7 &&& f_X10_bitsOf (Int32.ofNat g)) = 0 := by
      rw [decide_eq_false (p := g < G ∧ T 3 g = 2) (fun z => c z.2)] at q
      exact of_decide_eq_true q
    rw [if_pos this]
    exact ⟨fun z => (by cases z), fun z => absurd z c⟩
theorem q_codne_F : ∀ a b c d e f : Fin 3, q_cod (q_F a b c d e f) ≠ -1 := by decide +kernel
theorem q_codne {x : Nat → Int32} (hx : q_dg x) : q_cod x ≠ -1 := by
  obtain ⟨a, b, c, d, e, f, h⟩ := q_dg6 hx
  rw [q_cod_F h]
  exact q_codne_F a b c d e f
theorem q_cnt_up {x : Nat → Int32} {g : Nat} {h : Int32} (hx : x g = 0) (hh : h ≠ 0) : ∀ n, q_cnt (upd x g h) n = q_cnt x n + if g < n then 1 else 0
  | 0 => by rw [if_neg (Nat.not_lt_zero _)]; rfl
  | n + 1 => by
    show (if upd x g h n = 0 then q_cnt (upd x g h) n else q_cnt (upd x g h) n + 1) = (if x n = 0 then q_cnt x n else q_cnt x n + 1) + _
    rw [q_cnt_up hx hh n]
    by_cases c : n = g
    · subst c
      rw [q_upd_a, if_neg hh, if_pos hx, if_neg (Nat.lt_irrefl _), if_pos (Nat.lt_succ_self _)]
    · rw [q_upd_o c]
      have e : (if g < n + 1 then 1 else 0 : Nat) = if g < n then 1 else 0 := by
        by_cases c2 : g < n
        · rw [if_pos c2, if_pos (Nat.lt_succ_of_lt c2)]
        · rw [if_neg c2, if_neg (fun z => c2 (Nat.lt_of_le_of_ne (Nat.le_of_lt_succ z) (fun y => c y.symm)))]
      rw [e]
      by_cases c3 : x n = 0
      · rw [if_pos c3, if_pos c3]
      · rw [if_neg c3, if_neg c3, Nat.add_right_comm]
theorem q_cnt_eq {x : Nat → Int32} {g : Nat} {h : Int32} (hx : x g ≠ 0) (hh : h ≠ 0) : ∀ n, q_cnt (upd x g h) n = q_cnt x n
  | 0 => rfl
  | n + 1 => by
    show (if upd x g h n = 0 then q_cnt (upd x g h) n else q_cnt (upd x g h) n + 1) = (if x n = 0 then q_cnt x n else q_cnt x n + 1)
    rw [q_cnt_eq hx hh n]
    by_cases c : n = g
    · subst c
      rw [q_upd_a, if_neg hh, if_neg hx]
    · rw [q_upd_o c]
theorem q_cnt_dn {x : Nat → Int32} {g : Nat} (hx : x g ≠ 0) {n : Nat} (hg : g < n) : q_cnt (upd x g 0) n + 1 = q_cnt x n := by
  have h1 := q_cnt_up (x := upd x g 0) (g := g) (h := x g) (q_upd_a _ _ _) hx n
  rw [if_pos hg] at h1
  have h2 : upd (upd x g 0) g (x g) = x := by
    funext j
    unfold upd
    by_cases c : j = g
    · rw [if_pos c, c]
    · rw [if_neg c, if_neg c]
  rw [h2] at h1
  exact h1.symm
/-- the relation behind an act -/
theorem q_R.act {K : q_K} (hK : q_Kok K) {g : JG} {d d1 dc dR dm : JD} (r : q_R K (g, d)) {a b t G P F W L : Nat} (hg : q_G g a b) (hrm : d.1 28 3 = 3) (h68 : 68 ≤ t) (hla : g.2.2.1 57 3 = some t) (hts : j_sh g t TS_ML RS_ML) (hL : q_LR G P F W L (q_rows d a) (q_rows d t)) (hN : q_NR G (q_rows d a) (q_rows d t) (d.1 22 0) (d.1 22 1) (d.1 22 2) (d.1 59)) {c : Nat} (hc : c ≤ 16) (hS : ∀ i, i < c → q_NR G (q_rows d a) (q_rows d t) (d.1 25 i) (d.1 26 i) (d.1 27 i) (fun k => d.1 61 (9 * i + k))) (hS2 : q_SH G (q_rows d a) (q_rows d t) 3 (d.1 28 4) (d.1 57 20) (d.1 29) (d.1 30) (d.1 31) (d.1 62))
    (C1 : d1.1 25 = upd (q_o0 c (d.1 25)) (q_c0 c) (d.1 22 0) ∧ d1.1 26 = upd (q_o0 c (d.1 26)) (q_c0 c) (d.1 22 1) ∧ d1.1 27 = upd (q_o0 c (d.1 27)) (q_c0 c) (d.1 22 2) ∧ d1.1 24 3 = Int32.ofNat 16 ∧ d1.1 24 4 = Int32.ofNat (q_c0 c + 1) ∧ (∀ b, b ≠ 24 → b ≠ 25 → b ≠ 26 → b ≠ 27 → d1.1 b = d.1 b))
    (Cc : dc.1 0 11 = 0 ∧ (∀ k, k ≠ 11 → dc.1 0 k = d1.1 0 k) ∧ ∀ b, b ≠ 0 → b ≠ 22 → b ≠ 23 → dc.1 b = d1.1 b)
    (CR : dR.1 61 = q_put9 (q_ov c (d.1 61)) (d.1 59) (q_c0 c) 9 ∧ dR.1 57 19 = Int32.ofNat (q_c0 c + 1) ∧ (∀ k, k ≠ 0 → k ≠ 19 → dR.1 57 k = dc.1 57 k) ∧ ∀ b, b ≠ 57 → b ≠ 61 → dR.1 b = dc.1 b)
    (Cm : (∀ b, b ≠ 57 → b ≠ 59 → b ≠ 60 → dm.1 b = dR.1 b) ∧ ∀ k, q_f57 k = false → dm.1 57 k = dR.1 57 k)
    (hN' : q_NR G (q_rows d a) (q_rows d t) (dm.1 22 0) (dm.1 22 1) (dm.1 22 2) (dm.1 59)) : q_R K (g, q_fin dm 0) := by
  obtain ⟨c25, c26, c27, c243, c244, co⟩ := C1
  have m : ∀ b, b ≠ 0 → b ≠ 22 → b ≠ 23 → b ≠ 57 → b ≠ 59 → b ≠ 60 → b ≠ 61 → dm.1 b = d1.1 b := fun b b0 b22 b23 b57 b59 b60 b61 => (Cm.1 b b57 b59 b60).trans ((CR.2.2.2 b b57 b61).trans (Cc.2.2 b b0 b22 b23))
  have m61 : dm.1 61 = dR.1 61 := Cm.1 61 (by decide) (by decide) (by decide)
  have m24 := m 24 (by decide) (by decide) (by decide) (by decide) (by decide) (by decide) (by decide)
  have mo : ∀ b, b ≠ 0 → b ≠ 22 → b ≠ 23 → b ≠ 57 → b ≠ 59 → b ≠ 60 → b ≠ 61 → b ≠ 24 → b ≠ 25 → b ≠ 26 → b ≠ 27 → dm.1 b = d.1 b := fun b b0 b22 b23 b57 b59 b60 b61 e1 e2 e3 e4 => (m b b0 b22 b23 b57 b59 b60 b61).trans (co b e1 e2 e3 e4)
  have d57 : dc.1 57 = d.1 57 := (Cc.2.2 57 (by decide) (by decide) (by decide)).trans (co 57 (by decide) (by decide) (by decide) (by decide))
  have s2 : q_sm2 d dm := by
    refine ⟨fun b b0 b57 hb => ?_, fun k hk => ?_, fun k hk => ?_⟩
    · have ne : ∀ x, q_fr2 x = true → b ≠ x := fun x hx z => by rw [z, hx] at hb; cases hb
      exact mo b b0 (ne 22 rfl) (ne 23 rfl) b57 (ne 59 rfl) (ne 60 rfl) (ne 61 rfl) (ne 24 rfl) (ne 25 rfl) (ne 26 rfl) (ne 27 rfl)
    · have ne : ∀ x, q_f572 x = true → k ≠ x := fun x hx z => by rw [z, hx] at hk; cases hk
      rw [Cm.2 k (q_f5721 hk), CR.2.2.1 k (ne 0 rfl) (ne 19 rfl), d57]
    · rw [Cm.1 0 (by decide) (by decide) (by decide), CR.2.2.2 0 (by decide) (by decide), Cc.2.1 k hk, co 0 (by decide) (by decide) (by decide) (by decide)]
  have m011 : dm.1 0 11 = 0 := by rw [Cm.1 0 (by decide) (by decide) (by decide), CR.2.2.2 0 (by decide) (by decide)]; exact Cc.1
  refine r.up hK (q_fin_ans2 s2 m011 (by decide)) hg h68 hla hts hL ?_ ?_ ?_ ?_
  · rw [q_fin_o (b := 24) (by decide), q_fin_o (b := 28) (by decide), m24, mo 28 (by decide) (by decide) (by decide) (by decide) (by decide) (by decide) (by decide) (by decide) (by decide) (by decide) (by decide)]
    exact ⟨c243, hrm⟩
  · rw [q_fin_o (b := 22) (by decide), q_fin_o (b := 59) (by decide)]
    exact hN'
  · rw [q_fin_o (b := 24) (by decide), q_fin_o (b := 25) (by decide), q_fin_o (b := 26) (by decide), q_fin_o (b := 27) (by decide), q_fin_o (b := 61) (by decide), q_fin_57 (by decide) (by decide), Cm.2 19 rfl, m24, m61, CR.1, m 25 (by decide) (by decide) (by decide) (by decide) (by decide) (by decide) (by decide), m 26 (by decide) (by decide) (by decide) (by decide) (by decide) (by decide) (by decide), m 27 (by decide) (by decide) (by decide) (by decide) (by decide) (by decide) (by decide), c25, c26, c27]
    exact q_remS hL.1.1.2.1 hc hS hN c244 CR.2.1
  · rw [q_fin_o (b := 28) (by decide), q_fin_o (b := 29) (by decide), q_fin_o (b := 30) (by decide), q_fin_o (b := 31) (by decide), q_fin_o (b := 62) (by decide), q_fin_57 (by decide) (by decide), Cm.2 20 rfl, CR.2.2.1 20 (by decide) (by decide), d57, mo 28 (by decide) (by decide) (by decide) (by decide) (by decide) (by decide) (by decide) (by decide) (by decide) (by decide) (by decide), mo 29 (by decide) (by decide) (by decide) (by decide) (by decide) (by decide) (by decide) (by decide) (by decide) (by decide) (by decide), mo 30 (by decide) (by decide) (by decide) (by decide) (by decide) (by decide) (by decide) (by decide) (by decide) (by decide) (by decide), mo 31 (by decide) (by decide) (by decide) (by decide) (by decide) (by decide) (by decide) (by decide) (by decide) (by decide) (by decide), mo 62 (by decide) (by decide) (by decide) (by decide) (by decide) (by decide) (by decide) (by decide) (by decide) (by decide) (by decide)]
    exact hS2
