/-! tier two: calls that change NOW, the past, the images -/
def q_fr2 (b : Nat) : Bool := q_fr b || b == 22 || b == 24 || b == 25 || b == 26 || b == 27 || b == 28 || b == 29 || b == 30 || b == 31 || b == 59 || b == 61 || b == 62
def q_f572 (k : Nat) : Bool := q_f57 k || k == 19 || k == 20
def q_sm2 (d d' : JD) : Prop := (∀ b, b ≠ 0 → b ≠ 57 → q_fr2 b = false → d'.1 b = d.1 b) ∧ (∀ k, q_f572 k = false → d'.1 57 k = d.1 57 k) ∧ ∀ k, k ≠ 11 → d'.1 0 k = d.1 0 k
theorem q_fr21 {b : Nat} (h : q_fr2 b = false) : q_fr b = false := by
  unfold q_fr2 at h
  simp only [Bool.or_eq_false_iff] at h
  exact h.1.1.1.1.1.1.1.1.1.1.1.1
theorem q_f5721 {k : Nat} (h : q_f572 k = false) : q_f57 k = false := by
  unfold q_f572 at h
  simp only [Bool.or_eq_false_iff] at h
  exact h.1.1
theorem q_sm.to2 {d d' : JD} (h : q_sm d d') : q_sm2 d d' := ⟨fun b h0 h1 h2 => h.1 b h0 h1 (q_fr21 h2), fun k hk => h.2.1 k (q_f5721 hk), h.2.2⟩
theorem q_sm2.trans {d d1 d2 : JD} (a : q_sm2 d d1) (b : q_sm2 d1 d2) : q_sm2 d d2 := ⟨fun x h1 h2 h3 => (b.1 x h1 h2 h3).trans (a.1 x h1 h2 h3), fun k h => (b.2.1 k h).trans (a.2.1 k h), fun k h => (b.2.2 k h).trans (a.2.2 k h)⟩
theorem q_sm2.row {d d1 : JD} (a : q_sm2 d d1) {b : Nat} (hb : q_fr2 b = true) (h0 : b ≠ 0) (h57 : b ≠ 57) (r : Nat → Int32) : q_sm2 d (q_row d1 b r) := a.trans ⟨fun x h1 h2 h3 => q_row_o (fun z => by rw [z, hb] at h3; cases h3), fun k _ => by rw [q_row_o h57.symm], fun k _ => by rw [q_row_o h0.symm]⟩
theorem q_sm2.sI {d d1 : JD} (a : q_sm2 d d1) {b : Nat} (hb : q_fr2 b = true) (h0 : b ≠ 0) (h57 : b ≠ 57) (k : Nat) (v : Int32) : q_sm2 d (j_sI d1 b k v) := q_sI_row d1 b k v ▸ a.row hb h0 h57 _
theorem q_sm2.f57 {d d1 : JD} (a : q_sm2 d d1) {k : Nat} (hk : q_f572 k = true) (v : Int32) : q_sm2 d (j_sI d1 57 k v) := a.trans ⟨fun x h1 h2 h3 => q_sI_o h2, fun j hj => by
  rw [q_sI_a]
  show (if j = k then v else d1.1 57 j) = _
  rw [if_neg (fun z => by rw [z, hk] at hj; cases hj)], fun j _ => by rw [q_sI_o (by decide)]⟩
theorem q_sm2.f0 {d d1 : JD} (a : q_sm2 d d1) (v : Int32) : q_sm2 d (j_sI d1 0 11 v) := a.trans ((q_sm.refl d1).f0 v).to2
theorem q_sm2.refl (d : JD) : q_sm2 d d := (q_sm.refl d).to2
theorem q_sm2.A {d d' : JD} (h : q_sm2 d d') {a : Nat} (ha : a = 42 ∨ a = 4) {j : Nat} (hj : j < 15) : d'.1 (a + j) = d.1 (a + j) := by
  have key : ∀ j : Fin 15, q_fr2 (42 + j.val) = false ∧ q_fr2 (4 + j.val) = false := by decide
  refine h.1 (a + j) (by omega) (by omega) ?_
  rcases ha with rfl | rfl
  · exact (key ⟨j, hj⟩).1
  · exact (key ⟨j, hj⟩).2
theorem q_sm2.T {d d' : JD} (h : q_sm2 d d') {t : Nat} (ht : 68 ≤ t) : d'.1 t = d.1 t := by
  refine h.1 t (by omega) (by omega) ?_
  have e : ∀ n, n < 68 → (t == n) = false := fun n hn => beq_false_of_ne (by omega)
  unfold q_fr2 q_fr
  simp only [e 23 (by decide), e 41 (by decide), e 60 (by decide), e 63 (by decide), e 64 (by decide), e 65 (by decide), e 66 (by decide), e 67 (by decide), e 22 (by decide), e 24 (by decide), e 25 (by decide), e 26 (by decide), e 27 (by decide), e 28 (by decide), e 29 (by decide), e 30 (by decide), e 31 (by decide), e 59 (by decide), e 61 (by decide), e 62 (by decide), Bool.or_false]
def q_ans2 (d d2 : JD) (w : Int32) : Prop := q_sm2 d d2 ∧ d2.1 0 11 = w ∧ d2.1 57 1 = w ∧ d2.1 57 2 = -1 ∧ w ≠ 4
theorem q_fin_ans2 {d d3 : JD} {w : Int32} (h : q_sm2 d d3) (h11 : d3.1 0 11 = w) (hw : w ≠ 4) : q_ans2 d (q_fin d3 w) w := by
  refine ⟨(h.f57 rfl w).f57 rfl (-1), ?_, ?_, ?_, hw⟩
  · unfold q_fin; rw [q_sI_o (by decide), q_sI_o (by decide)]; exact h11
  · unfold q_fin; rw [q_sI_a, q_sI_a]; rfl
  · unfold q_fin; rw [q_sI_a]; rfl
theorem q_TR.ans2 {d d2 : JD} {w : Int32} (h : q_TR d) (a : q_ans2 d d2 w) : q_TR d2 := by
  obtain ⟨s, h1, h2, h3, h4⟩ := a
  refine ⟨h1.trans h2.symm, ?_, ?_, ?_, ?_, ?_⟩
  · rw [s.2.2 12 (by decide), s.2.1 12 rfl]; exact h.2.1
  · rw [h1, if_neg h4, h3]
  · rw [s.1 1 (by decide) (by decide) rfl]; exact h.2.2.2.1
  · rw [s.1 1 (by decide) (by decide) rfl, s.2.1 6 rfl]; exact h.2.2.2.2.1
  · rw [s.1 58 (by decide) (by decide) rfl, s.1 2 (by decide) (by decide) rfl]; exact h.2.2.2.2.2
/-- the relation where NOW, the past and the images are told anew -/
theorem q_R.up {K : q_K} (hK : q_Kok K) {g : JG} {d d2 : JD} {w : Int32} (r : q_R K (g, d)) (s : q_ans2 d d2 w) {a b t G P F W L : Nat} (hg : q_G g a b) (h68 : 68 ≤ t) (hla : g.2.2.1 57 3 = some t) (hts : j_sh g t TS_ML RS_ML) (hL : q_LR G P F W L (q_rows d a) (q_rows d t)) (hr : d2.1 24 3 = 16 ∧ d2.1 28 3 = 3)
    (hN : q_NR G (q_rows d a) (q_rows d t) (d2.1 22 0) (d2.1 22 1) (d2.1 22 2) (d2.1 59)) (h1 : q_SH G (q_rows d a) (q_rows d t) 16 (d2.1 24 4) (d2.1 57 19) (d2.1 25) (d2.1 26) (d2.1 27) (d2.1 61)) (h2 : q_SH G (q_rows d a) (q_rows d t) 3 (d2.1 28 4) (d2.1 57 20) (d2.1 29) (d2.1 30) (d2.1 31) (d2.1 62)) : q_R K (g, d2) := by
  obtain ⟨a', b', hg', ht, -, hk, -⟩ := r
  have ea : a' = a := Option.some.inj (hg'.2.2.2.2.1.symm.trans hg.2.2.2.2.1)
  subst ea
  have hA : ∀ j, j < 15 → q_rows d2 a' j = q_rows d a' j := fun j hj => s.1.A hg.a hj
  have hT : ∀ j, j < 15 → q_rows d2 t j = q_rows d t j := fun j hj => s.1.T (t := t + j) (by omega)
  have hC : ∀ j, j < 9 → q_rows d2 32 j = q_rows d 32 j := by
    intro j hj
    have key : ∀ j : Fin 9, q_fr2 (32 + j.val) = false := by decide
    exact s.1.1 (32 + j) (by omega) (by omega) (key ⟨j, hj⟩)
  exact ⟨a', b, hg, ht.ans2 s, hr, hK _ _ _ _ hA hC hk, Or.inr ⟨t, h68, hla, hts, G, P, F, W, L, q_L_congr hA hT hL, q_N_congr hA hT hN, q_S_congr hA hT h1, q_S_congr hA hT h2⟩⟩
theorem q_upd_a (r : Nat → Int32) (k : Nat) (v : Int32) : upd r k v k = v := if_pos rfl
theorem q_upd_o {r : Nat → Int32} {k j : Nat} {v : Int32} (h : j ≠ k) : upd r k v j = r j := if_neg h
theorem q_NR.seed {G : Nat} (hG : G ≤ 6) {A T : Nat → Nat → Int32} {w s y : Int32} {v v' : Nat → Int32} (h : q_NR G A T w s y v) {n : Nat} (hn : n < 65537) (e : ∀ k, k < 8 → v' k = v k) (e8 : v' 8 = Int32.ofNat n) : q_NR G A T w (Int32.ofNat n) y v' := by
  obtain ⟨⟨h1, h2⟩, h3, ⟨n', H, h4, h5, h6, h7⟩, h8, h9, h10, h11, h12⟩ := h
  exact ⟨⟨fun g hg => by rw [e g (by omega)]; exact h1 g hg, fun g hg hg6 => by rw [e g (by omega)]; exact h2 g hg hg6⟩, h3.trans (q_cod_congr (fun k hk => (e k (by omega)).symm)), ⟨n', H, by rw [e 6 (by decide)]; exact h4, h5, h6, by rw [q_cnt_congr 6 (fun k hk => e k (by omega))]; exact h7⟩, by rw [e 7 (by decide)]; exact h8, e8, h10, ⟨n, hn, rfl⟩, fun g hg hk => by rw [e g (by omega)]; exact h12 g hg hk⟩
theorem q_isSeed (p : Int32) : f_X11_isSeed p = f_X13_in p 0 65536 := by
  unfold f_X11_isSeed f_X13_in
  by_cases h1 : p < 0
  · rw [if_pos h1, if_pos h1]
  · rw [if_neg h1, if_neg h1]
    by_cases h2 : (65537 : Int32) ≤ p
    · have h3 : (65536 : Int32) < p := by
        rw [Int32.le_iff_toInt_le] at h2
        rw [Int32.lt_iff_toInt_lt]
        have e1 : (65537 : Int32).toInt = 65537 := rfl
        have e2 : (65536 : Int32).toInt = 65536 := rfl
        omega
      rw [if_pos h2, if_pos h3]
    · have h3 : ¬ (65536 : Int32) < p := by
        rw [Int32.le_iff_toInt_le] at h2
        rw [Int32.lt_iff_toInt_lt]
        have e1 : (65537 : Int32).toInt = 65537 := rfl
        have e2 : (65536 : Int32).toInt = 65536 := rfl
        omega
      rw [if_neg h2, if_neg h3]
theorem q_mgr (d : JD) : f_X13_granted d = (true, q_fin d 0) := rfl
theorem q_fin_o {d : JD} {w : Int32} {b : Nat} (h : b ≠ 57) : (q_fin d w).1 b = d.1 b := by
  unfold q_fin
  rw [q_sI_o h, q_sI_o h]
theorem q_fin_57 {d : JD} {w : Int32} {k : Nat} (h1 : k ≠ 1) (h2 : k ≠ 2) : (q_fin d w).1 57 k = d.1 57 k := by
  unfold q_fin
  rw [q_sI_a, q_upd_o h2, q_sI_a, q_upd_o h1]
theorem q_set_a (d : JD) (m : Nat) (x y z : Int32) : (f_X4_set m d x y z).1 m = upd (upd (upd (d.1 m) 0 x) 1 y) 2 z := by
  unfold f_X4_set
  rw [q_sI_a, q_sI_a, q_sI_a]
theorem q_set_o {d : JD} {m b : Nat} {x y z : Int32} (h : b ≠ m) : (f_X4_set m d x y z).1 b = d.1 b := by
  unfold f_X4_set
  rw [q_sI_o h, q_sI_o h, q_sI_o h]
theorem q_48 {K : q_K} (hK : q_Kok K) : lw_st_48 (q_R K) := by
  intro h p1 r hz
  obtain ⟨g, d⟩ := h
  have hr := r
  obtain ⟨a, b, hg, ht, hrm, -, hl⟩ := r
  rcases hl with ⟨hla, hn⟩ | ⟨t, h68, hla, hts, G, P, F, W, L, hL, hN, hS1, hS2⟩
  · obtain ⟨x, w, d2, e1, e2, e3⟩ := qn_seed (a := a) (d := d) hn p1
    exact q_stI hr (q_jTB (s_X11_seed g d a p1 hg.2.1 hg.2.2.1 hg.2.2.2.2.1) e1) (q_jTB (s_X13_seedn g _ p1 hg.2.1 hla) e2) (hr.ans hK e3)
  · have k1 : f_X11_hasLand (d.1 a) = true := q_hl1 (A := q_rows d a) (T := q_rows d t) hL
    by_cases h2 : f_X13_in p1 0 65536 = true
    · obtain ⟨n, hn, rfl⟩ := q_inr (n := 65536) (by decide) h2
      obtain ⟨dc, hdc⟩ : ∃ dc, dc = j_sI (f_X4_set 22 d (d.1 22 0) (Int32.ofNat n) (d.1 22 2)) 0 11 0 := ⟨_, rfl⟩
      have e1 : f_X11_seed a d (Int32.ofNat n) = (true, dc) := by
        unfold f_X11_seed j_let
        simp only [k1, q_isSeed, h2, if_true, hdc]
      obtain ⟨dm, hdm⟩ : ∃ dm, dm = j_sI (j_sI dc 57 0 0) 59 8 (Int32.ofNat n) := ⟨_, rfl⟩
      have e2 : f_X13_seed t dc (Int32.ofNat n) = (true, q_fin dm 0) := by
        unfold f_X13_seed j_let
        simp only [h2, if_true, q_mgr, hdm]
      have c22 : dc.1 22 = upd (upd (upd (d.1 22) 0 (d.1 22 0)) 1 (Int32.ofNat n)) 2 (d.1 22 2) := by rw [hdc, q_sI_o (by decide), q_set_a]
      have co : ∀ b, b ≠ 0 → b ≠ 22 → dc.1 b = d.1 b := fun b h0 h22 => by rw [hdc, q_sI_o h0, q_set_o h22]
      have m59 : dm.1 59 = upd (d.1 59) 8 (Int32.ofNat n) := by rw [hdm, q_sI_a, q_sI_o (by decide), co 59 (by decide) (by decide)]
      have mo : ∀ b, b ≠ 0 → b ≠ 22 → b ≠ 59 → b ≠ 57 → dm.1 b = d.1 b := fun b h0 h22 h59 h57 => by rw [hdm, q_sI_o h59, q_sI_o h57, co b h0 h22]
      have m22 : dm.1 22 = dc.1 22 := by rw [hdm, q_sI_o (by decide), q_sI_o (by decide)]
      have m57 : ∀ k, k ≠ 0 → dm.1 57 k = d.1 57 k := fun k hk => by rw [hdm, q_sI_o (by decide), q_sI_a, q_upd_o hk, co 57 (by decide) (by decide)]
      have s2 : q_sm2 d dm := by
        rw [hdm, hdc]
        unfold f_X4_set
        exact (((((((q_sm2.refl d).sI rfl (by decide) (by decide) 0 _).sI rfl (by decide) (by decide) 1 _).sI rfl (by decide) (by decide) 2 _).f0 0).f57 rfl 0).sI rfl (by decide) (by decide) 8 _)
      have m011 : dm.1 0 11 = 0 := by rw [hdm, q_sI_o (by decide), q_sI_o (by decide), hdc, q_sI_a]; rfl
      have r2 : q_R K (g, q_fin dm 0) := by
        refine hr.up hK (q_fin_ans2 s2 m011 (by decide)) hg h68 hla hts hL ?_ ?_ ?_ ?_
        · rw [q_fin_o (by decide), q_fin_o (by decide), mo 24 (by decide) (by decide) (by decide) (by decide), mo 28 (by decide) (by decide) (by decide) (by decide)]
          exact hrm
        · rw [q_fin_o (b := 22) (by decide), q_fin_o (b := 59) (by decide), m22, c22, m59]
          exact hN.seed hL.1.1.2.1 hn (fun k hk => q_upd_o (by omega)) (q_upd_a _ _ _)
        · rw [q_fin_o (b := 24) (by decide), q_fin_o (b := 25) (by decide), q_fin_o (b := 26) (by decide), q_fin_o (b := 27) (by decide), q_fin_o (b := 61) (by decide), q_fin_57 (by decide) (by decide), m57 19 (by decide), mo 24 (by decide) (by decide) (by decide) (by decide), mo 25 (by decide) (by decide) (by decide) (by decide), mo 26 (by decide) (by decide) (by decide) (by decide), mo 27 (by decide) (by decide) (by decide) (by decide), mo 61 (by decide) (by decide) (by decide) (by decide)]
          exact hS1
        · rw [q_fin_o (b := 28) (by decide), q_fin_o (b := 29) (by decide), q_fin_o (b := 30) (by decide), q_fin_o (b := 31) (by decide), q_fin_o (b := 62) (by decide), q_fin_57 (by decide) (by decide), m57 20 (by decide), mo 28 (by decide) (by decide) (by decide) (by decide), mo 29 (by decide) (by decide) (by decide) (by decide), mo 30 (by decide) (by decide) (by decide) (by decide), mo 31 (by decide) (by decide) (by decide) (by decide), mo 62 (by decide) (by decide) (by decide) (by decide)]
          exact hS2
      exact q_stI hr (q_jTB (s_X11_seed g d a _ hg.2.1 hg.2.2.1 hg.2.2.2.2.1) e1) (q_jTB (s_X13_seed g _ t _ hg.2.1 hts hla) e2) r2
    · have e1 : f_X11_seed a d p1 = (false, j_sI d 0 11 2) := by
        unfold f_X11_seed j_let
        simp only [k1, q_isSeed, h2, if_true, if_false, q_xde, Bool.false_eq_true]
      have e2 : f_X13_seed t (j_sI d 0 11 2) p1 = (false, q_fin (q_dM d 2) 2) := by
        unfold f_X13_seed j_let
        simp only [h2, if_false, q_mde, q_dMe, Bool.false_eq_true]
      exact q_stI hr (q_jTB (s_X11_seed g d a p1 hg.2.1 hg.2.2.1 hg.2.2.2.2.1) e1) (q_jTB (s_X13_seed g _ t p1 hg.2.1 hts hla) e2) (hr.ans hK (q_ansd d (by decide)))
