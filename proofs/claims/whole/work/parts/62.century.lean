/-! tier two: century -/
theorem q_inv {Tt E : Type} {τ : Nat → Tt → Prop} {ρ : E → Prop} {n : Nat} (hn : n < 2147483648) {F : Tt → Option (Tt ⊕ E)} (h : ∀ i, i < n → ∀ t, τ i t → ∃ t', F t = some (.inl t') ∧ τ (i + 1) t') (hend : ∀ t, τ n t → ∃ e, F t = some (.inr e) ∧ ρ e) {t : Tt} (h0 : τ 0 t) : ∃ e, j_wh F j_fuel t = some e ∧ ρ e := by
  obtain ⟨e, h1, h2⟩ := q_for_wh (S := Unit) (τ := fun i _ t => τ i t) (ρ' := fun _ e => ρ e) hn (G := fun _ s => s) (F := F) (fun i hi _ t ht => h i hi t ht) (fun _ t ht => hend t ht) (s := ()) h0
  exact ⟨e, h1, h2⟩
/-- many years -/
def q_ys (K3 fl : Nat → Int32) (G : Nat) (x : Nat → Int32) (s : Nat) : Nat → (Nat → Int32) × Nat
  | 0 => (x, s)
  | k + 1 => (q_yr K3 fl G (q_ys K3 fl G x s k).1 (q_ys K3 fl G x s k).2).2
theorem q_ys_ok {K3 fl : Nat → Int32} {G : Nat} {x : Nat → Int32} {s : Nat} (hx : q_dg x) (hs : s < 65537) : ∀ k, q_dg (q_ys K3 fl G x s k).1 ∧ (q_ys K3 fl G x s k).2 < 65537
  | 0 => ⟨hx, hs⟩
  | k + 1 => by
    have h := q_ys_ok (K3 := K3) (fl := fl) (G := G) hx hs k
    exact q_yr_ok h.1 h.2 G
theorem q_rows_eq {d d' : JD} {a : Nat} (h : ∀ j, j < 15 → d'.1 (a + j) = d.1 (a + j)) : ∀ j, j < 15 → q_rows d' a j = q_rows d a j := h
theorem q_fl_eq {d d' : JD} {a : Nat} (h : ∀ j, j < 15 → d'.1 (a + j) = d.1 (a + j)) : q_fl (q_rows d' a) = q_fl (q_rows d a) := by
  funext g
  have e0 : q_rows d' a 0 = q_rows d a 0 := h 0 (by decide)
  have e3 : q_rows d' a 3 = q_rows d a 3 := h 3 (by decide)
  unfold q_fl
  rw [e0, e3]
theorem q_cenC {G P F W L a t : Nat} {d d1 : JD} (hL : q_LR G P F W L (q_rows d a) (q_rows d t)) (h68 : 68 ≤ t) (ha : a = 42 ∨ a = 4) {x : Nat → Int32} (hx : q_dg x) {s : Nat} (hs : s < 65537) (ho : ∀ b, b ≠ 23 → d1.1 b = d.1 b) (h0 : d1.1 23 0 = q_cod x) (h1 : d1.1 23 1 = Int32.ofNat s) (p : Int32) {n : Nat} (hn : n ≤ 60) : ∃ e, j_wh (f_X11_century_w53 a p (Int32.ofNat n)) j_fuel (0, d1) = some e ∧ (∀ b, b ≠ 23 → e.1 b = d.1 b) ∧ e.1 23 0 = q_cod (q_ys (d.1 (t + 3)) (q_fl (q_rows d a)) G x s n).1 := by
  refine q_inv (n := n) (τ := fun i (q : Int32 × JD) => q.1 = Int32.ofNat i ∧ (∀ b, b ≠ 23 → q.2.1 b = d.1 b) ∧ q.2.1 23 0 = q_cod (q_ys (d.1 (t + 3)) (q_fl (q_rows d a)) G x s i).1 ∧ q.2.1 23 1 = Int32.ofNat (q_ys (d.1 (t + 3)) (q_fl (q_rows d a)) G x s i).2) (ρ := fun (e : JD) => (∀ b, b ≠ 23 → e.1 b = d.1 b) ∧ e.1 23 0 = q_cod (q_ys (d.1 (t + 3)) (q_fl (q_rows d a)) G x s n).1) (by omega) ?_ ?_ ⟨rfl, ho, h0, h1⟩
  · rintro i hi ⟨qi, D⟩ ⟨e1, e2, e3, e4⟩
    dsimp only at e1 e2 e3 e4
    have ok := q_ys_ok (K3 := d.1 (t + 3)) (fl := q_fl (q_rows d a)) (G := G) hx hs i
    have hA : ∀ j, j < 15 → D.1 (a + j) = d.1 (a + j) := fun j _ => e2 _ (by omega)
    have hT : ∀ j, j < 15 → D.1 (t + j) = d.1 (t + j) := fun j _ => e2 _ (by omega)
    have b := q_blow (a := a) (t := t) (m := 23) (d := D) (q_L_congr hA hT hL) ha (Or.inr rfl) ok.1 ok.2 e3 e4
    rw [hT 3 (by decide), q_fl_eq hA] at b
    have k1 := q_go (n := n) (by omega) hi
    refine ⟨(Int32.ofNat (i + 1), q_row D 23 (upd (q_mr (D.1 23) (q_ys (d.1 (t + 3)) (q_fl (q_rows d a)) G x s (i + 1)).1 (q_ys (d.1 (t + 3)) (q_fl (q_rows d a)) G x s (i + 1)).2) 2 (D.1 23 2 + 1))), ?_, ?_⟩
    · unfold f_X11_century_w53
      simp only [e1, k1, if_false, b, Option.bind_some, q_s]
      (try rfl)
    · exact ⟨rfl, fun b hb => (q_row_o hb).trans (e2 b hb), by rw [q_row_a, q_upd_o (by decide)]; rfl, by rw [q_row_a, q_upd_o (by decide)]; rfl⟩
  · rintro ⟨qi, D⟩ ⟨e1, e2, e3, e4⟩
    dsimp only at e1 e2 e3 e4
    have k1 := q_end (n := n) (by omega)
    refine ⟨D, ?_, e2, e3⟩
    unfold f_X11_century_w53
    simp only [e1, k1, if_true]
theorem q_cenM {G P F W L a t : Nat} {d d1 : JD} (hL : q_LR G P F W L (q_rows d a) (q_rows d t)) (h68 : 68 ≤ t) (ha : a = 42 ∨ a = 4) {x : Nat → Int32} (hx : q_dg x) {s : Nat} (hs : s < 65537) (ho : ∀ b, b ≠ 57 → b ≠ 60 → d1.1 b = d.1 b) (h0 : d1.1 60 = x) (h1 : d1.1 57 29 = Int32.ofNat s) (p : Int32) {n : Nat} (hn : n ≤ 60) : ∃ e, j_wh (f_X13_century_w42 t p (Int32.ofNat n)) j_fuel (0, d1) = some e ∧ (∀ b, b ≠ 57 → b ≠ 60 → e.1 b = d.1 b) ∧ (∀ k, k ≠ 29 → e.1 57 k = d1.1 57 k) ∧ e.1 60 = (q_ys (d.1 (t + 3)) (q_fl (q_rows d a)) G x s n).1 := by
  refine q_inv (n := n) (τ := fun i (q : Int32 × JD) => q.1 = Int32.ofNat i ∧ (∀ b, b ≠ 57 → b ≠ 60 → q.2.1 b = d.1 b) ∧ (∀ k, k ≠ 29 → q.2.1 57 k = d1.1 57 k) ∧ q.2.1 60 = (q_ys (d.1 (t + 3)) (q_fl (q_rows d a)) G x s i).1 ∧ q.2.1 57 29 = Int32.ofNat (q_ys (d.1 (t + 3)) (q_fl (q_rows d a)) G x s i).2) (ρ := fun (e : JD) => (∀ b, b ≠ 57 → b ≠ 60 → e.1 b = d.1 b) ∧ (∀ k, k ≠ 29 → e.1 57 k = d1.1 57 k) ∧ e.1 60 = (q_ys (d.1 (t + 3)) (q_fl (q_rows d a)) G x s n).1) (by omega) ?_ ?_ ⟨rfl, ho, fun _ _ => rfl, h0, h1⟩
  · rintro i hi ⟨qi, D⟩ ⟨e1, e2, e5, e3, e4⟩
    dsimp only at e1 e2 e3 e4 e5
    have ok := q_ys_ok (K3 := d.1 (t + 3)) (fl := q_fl (q_rows d a)) (G := G) hx hs i
    have hA : ∀ j, j < 15 → D.1 (a + j) = d.1 (a + j) := fun j _ => e2 _ (by omega) (by omega)
    have hT : ∀ j, j < 15 → D.1 (t + j) = d.1 (t + j) := fun j _ => e2 _ (by omega) (by omega)
    have b := q_year (a := a) (t := t) (d := D) h68 (q_L_congr hA hT hL) ok.1 ok.2 e3 e4
    rw [hT 3 (by decide), q_fl_eq hA] at b
    have k1 := q_go (n := n) (by omega) hi
    refine ⟨(Int32.ofNat (i + 1), q_m2 D (q_ys (d.1 (t + 3)) (q_fl (q_rows d a)) G x s (i + 1)).1 (Int32.ofNat (q_ys (d.1 (t + 3)) (q_fl (q_rows d a)) G x s (i + 1)).2)), ?_, ?_⟩
    · unfold f_X13_century_w42
      simp only [e1, k1, if_false, b, Option.bind_some, q_s]
      (try rfl)
    · exact ⟨rfl, fun b h57 h60 => (q_m2_o h57 h60).trans (e2 b h57 h60), fun k hk => (q_m2_k hk).trans (e5 k hk), q_m2_x _ _ _, q_m2_s _ _ _⟩
  · rintro ⟨qi, D⟩ ⟨e1, e2, e5, e3, e4⟩
    dsimp only at e1 e2 e3 e4 e5
    have k1 := q_end (n := n) (by omega)
    refine ⟨D, ?_, e2, e5, e3⟩
    unfold f_X13_century_w42
    simp only [e1, k1, if_true]
theorem q_drawn (p : Int32) : f_X11_isDrawnYears p = f_X13_in p 0 60 := rfl
theorem q_42 {K : q_K} (hK : q_Kok K) : lw_st_42 (q_R K) := by
  intro h p1 p2 p3 r hz
  obtain ⟨g, d⟩ := h
  have hr := r
  obtain ⟨a, b, hg, ht, hrm, -, hl⟩ := r
  rcases hl with ⟨hla, hn⟩ | ⟨t, h68, hla, hts, G, P, F, W, L, hL, hN, hS1, hS2⟩
  · obtain ⟨x, w, d2, e1, e2, e3⟩ := qn_century (a := a) (d := d) hn p1 p2 p3
    exact q_stI hr (q_jP (s_X11_century g d a p1 p2 p3 hg.2.1 hg.2.2.1 hg.2.2.2.2.1) e1) (q_jT (s_X13_centuryn g _ p1 p2 p3 hg.2.1 hla) e2) (hr.ans hK e3)
  · have hG := hL.1.1.2.1
    have eT : ∀ w, (q_dM d w).1 t = d.1 t := fun w => q_dM_o (by omega) (by omega)
    have ep : f_X13_isPerson (d.1 t) p1 = f_X11_isPerson (d.1 a) p1 := q_isp (A := q_rows d a) (T := q_rows d t) hL p1
    have refuse : ∀ w : Int32, w ≠ 4 → f_X11_century a d p1 p2 p3 = some (-1, j_sI d 0 11 w) → f_X13_century t (j_sI d 0 11 w) p1 p2 p3 = some (-1, q_fin (q_dM d w) w) → ∃ (h1 h2 : JH) (x : Int32), j_lw h1 ∧ h1.1.2.2.2 = (g, d).1.2.2.2 ∧ h2.1.2.2.2 = h1.1.2.2.2 ∧ JM mi_X11_century 0 0 (g, d) [.ref 0, .int p1, .int p2, .int p3] (some (some (.int x), h1)) ∧ JM mi_X13_century 0 0 h1 [.ref 57, .int p1, .int p2, .int p3] (some (some (.int x), h2)) ∧ q_R K h2 ∧ h2.1.1 ≤ (g, d).1.1 + 15 := fun w hw e1 e2 => q_stI hr (q_jP (s_X11_century g d a p1 p2 p3 hg.2.1 hg.2.2.1 hg.2.2.2.2.1) e1) (q_jP (s_X13_century g _ t p1 p2 p3 hg.2.1 hts hla) e2) (hr.ans hK (q_ansd d hw))
    by_cases h1 : f_X11_isPerson (d.1 a) p1 = true
    · have jb1 : ¬ (j_b true = 0) := by decide
      by_cases h2 : f_X13_in p2 0 65536 = true
      · by_cases h3 : f_X13_in p3 0 60 = true
        · obtain ⟨s, hs, rfl⟩ := q_inr (n := 65536) (by decide) h2
          obtain ⟨n, hn, rfl⟩ := q_inr (n := 60) (by decide) h3
          have hv : q_dg (d.1 59) := hN.1.1
          obtain ⟨dx, hdx⟩ : ∃ dx, dx = q_mix 6 (d.1 59) (d.1 60) := ⟨_, rfl⟩
          have xk : ∀ k, k < 6 → dx k = d.1 59 k := fun k hk => by rw [hdx]; exact if_pos hk
          obtain ⟨hx, hc⟩ := q_way hN xk
          have d00 : (f_X4_set 23 d (d.1 22 0) (Int32.ofNat s) 0).1 23 0 = q_cod dx := by rw [q_set_a, hc]; rfl
          have d01 : (f_X4_set 23 d (d.1 22 0) (Int32.ofNat s) 0).1 23 1 = Int32.ofNat s := by rw [q_set_a]; rfl
          obtain ⟨e, l1, l2, l3⟩ := q_cenC hL h68 hg.a hx (by omega : s < 65537) (fun b hb => q_set_o hb) d00 d01 p1 (n := n) (by omega)
          obtain ⟨Z, hZ⟩ : ∃ Z, Z = (q_ys (d.1 (t + 3)) (q_fl (q_rows d a)) G dx s n).1 := ⟨_, rfl⟩
          have zok : q_dg Z := by rw [hZ]; exact (q_ys_ok hx (by omega) n).1
          rw [← hZ] at l3
          obtain ⟨dc, hdc⟩ : ∃ dc, dc = j_sI e 0 11 0 := ⟨_, rfl⟩
          have ea : ∀ j, j < 15 → e.1 (a + j) = d.1 (a + j) := fun j hj => l2 _ (by have := hg.a; omega)
          have ea0 : e.1 a = d.1 a := ea 0 (by decide)
          have ea7 := ea 7 (by decide)
          have ea8 := ea 8 (by decide)
          have e1 : f_X11_century a d p1 (Int32.ofNat s) (Int32.ofNat n) = some (f_X3_wealth (d.1 a) (d.1 (a + 7)) (d.1 (a + 8)) p1 (q_cod Z), dc) := by
            unfold f_X11_century j_let
            simp only [h1, q_isSeed, h2, q_drawn, h3, if_true, l1, Option.bind_some, q_xan, ea0, ea7, ea8, l3, ← hdc]
          have co : ∀ b, b ≠ 0 → b ≠ 23 → dc.1 b = d.1 b := fun b b0 b23 => by rw [hdc, q_sI_o b0, l2 b b23]
          obtain ⟨d0, hd0⟩ : ∃ d0, d0 = j_sI dc 57 0 0 := ⟨_, rfl⟩
          have o0 : ∀ b, b ≠ 57 → b ≠ 0 → b ≠ 23 → d0.1 b = d.1 b := fun b b57 b0 b23 => by rw [hd0, q_sI_o b57, co b b0 b23]
          have wk : f_X13_works d0 = some (q_row d0 60 dx) := by
            rw [q_works d0, o0 59 (by decide) (by decide) (by decide), o0 60 (by decide) (by decide) (by decide), hdx]
          obtain ⟨d4, hd4⟩ : ∃ d4, d4 = j_sI (q_row d0 60 dx) 57 29 (Int32.ofNat s) := ⟨_, rfl⟩
          have o4 : ∀ b, b ≠ 57 → b ≠ 60 → d4.1 b = d0.1 b := fun b b57 b60 => by rw [hd4, q_sI_o b57, q_row_o b60]
          have d460 : d4.1 60 = dx := by rw [hd4, q_sI_o (by decide), q_row_a]
          have d429 : d4.1 57 29 = Int32.ofNat s := by rw [hd4, q_sI_a]; rfl
          have hA0 : ∀ j, j < 15 → d0.1 (a + j) = d.1 (a + j) := fun j hj => o0 _ (by have := hg.a; omega) (by have := hg.a; omega) (by have := hg.a; omega)
          have hT0 : ∀ j, j < 15 → d0.1 (t + j) = d.1 (t + j) := fun j hj => o0 _ (by omega) (by omega) (by omega)
          obtain ⟨u, m1, m2, m3, m4⟩ := q_cenM (a := a) (t := t) (d := d0) (d1 := d4) (q_L_congr hA0 hT0 hL) h68 hg.a hx (by omega : s < 65537) o4 d460 d429 p1 (n := n) (by omega)
          rw [hT0 3 (by decide), q_fl_eq hA0, ← hZ] at m4
          have ut : ∀ j, j < 15 → u.1 (t + j) = d.1 (t + j) := fun j hj => (m2 _ (by omega) (by omega)).trans (hT0 j hj)
          have ut0 : u.1 t = d.1 t := ut 0 (by decide)
          have hm := q_hasM (A := q_rows d a) (T := q_rows d t) hL zok p1
          have hm' : f_X13_has Z (d.1 t) (d.1 (t + 1)) (d.1 (t + 2)) (d.1 (t + 3)) (d.1 (t + 4)) (d.1 (t + 5)) p1 = some (f_X3_wealth (d.1 a) (d.1 (a + 7)) (d.1 (a + 8)) p1 (q_cod Z)) := hm
          have d0t : d0.1 t = d.1 t := hT0 0 (by decide)
          have e2 : f_X13_century t dc p1 (Int32.ofNat s) (Int32.ofNat n) = some (f_X3_wealth (d.1 a) (d.1 (a + 7)) (d.1 (a + 8)) p1 (q_cod Z), q_fin u 0) := by
            unfold f_X13_century f_X13_refusesSeed j_let
            simp only [← hd0, d0t, ep, h1, jb1, h2, h3, if_true, if_false, show (0 : Int32) ≤ 0 by decide, wk, Option.bind_some, ← hd4, m1, m4, ut0, ut 1 (by decide), ut 2 (by decide), ut 3 (by decide), ut 4 (by decide), ut 5 (by decide), hm', q_good]
          have sm : q_sm d u := by
            refine ⟨fun b b0 b57 hb => ?_, fun k hk => ?_, fun k hk => ?_⟩
            · have ne : ∀ y, q_fr y = true → b ≠ y := fun y hy z => by rw [z, hy] at hb; cases hb
              rw [m2 b b57 (ne 60 rfl), o0 b b57 b0 (ne 23 rfl)]
            · have ne : ∀ y, q_f57 y = true → k ≠ y := fun y hy z => by rw [z, hy] at hk; cases hk
              rw [m3 k (ne 29 rfl), hd4, q_sI_a, q_upd_o (ne 29 rfl), q_row_o (by decide), hd0, q_sI_a, q_upd_o (ne 0 rfl), co 57 (by decide) (by decide)]
            · rw [m2 0 (by decide) (by decide), hd0, q_sI_o (by decide), hdc, q_sI_a, q_upd_o hk, l2 0 (by decide)]
          have u011 : u.1 0 11 = 0 := by rw [m2 0 (by decide) (by decide), hd0, q_sI_o (by decide), hdc, q_sI_a]; rfl
          exact q_stI hr (q_jP (s_X11_century g d a p1 _ _ hg.2.1 hg.2.2.1 hg.2.2.2.2.1) e1) (q_jP (s_X13_century g _ t p1 _ _ hg.2.1 hts hla) e2) (hr.ans hK (q_fin_ans sm u011 (by decide)))
        · refine refuse 2 (by decide) ?_ ?_
          · unfold f_X11_century f_X11_century_j28 j_let
            simp only [h1, q_isSeed, h2, q_drawn, h3, if_true, if_false, q_xre, Bool.false_eq_true]
          · unfold f_X13_century f_X13_refusesSeed j_let
            simp only [q_dMe, eT, ep, h1, jb1, h2, h3, if_true, if_false, show ¬ ((2 : Int32) ≤ 0) by decide, q_ref, Bool.false_eq_true]
      · refine refuse 2 (by decide) ?_ ?_
        · unfold f_X11_century f_X11_century_j28 j_let
          simp only [h1, q_isSeed, h2, if_true, if_false, q_xre, Bool.false_eq_true]
        · unfold f_X13_century f_X13_refusesSeed j_let
          simp only [q_dMe, eT, ep, h1, jb1, h2, if_false, show ¬ ((2 : Int32) ≤ 0) by decide, q_ref, Bool.false_eq_true]
    · have h1' : f_X11_isPerson (d.1 a) p1 = false := by
        cases z : f_X11_isPerson (d.1 a) p1 with
        | false => rfl
        | true => exact absurd z h1
      have jb0 : j_b false = 0 := by decide
      refine refuse 1 (by decide) ?_ ?_
      · unfold f_X11_century j_let
        simp only [h1', if_false, q_xre, Bool.false_eq_true]
      · unfold f_X13_century f_X13_refusesSeed j_let
        simp only [q_dMe, eT, ep, h1', jb0, if_true, if_false, show ¬ ((1 : Int32) ≤ 0) by decide, q_ref]
