/-! tier two: an act on both sides; hang, take, turnOver -/
theorem q_act_go {K : q_K} (hK : q_Kok K) {g : JG} {d : JD} (r : q_R K (g, d)) {a b t G P F W L : Nat} (hg : q_G g a b) (hrm : d.1 24 3 = 16 ∧ d.1 28 3 = 3) (h68 : 68 ≤ t) (hla : g.2.2.1 57 3 = some t) (hts : j_sh g t TS_ML RS_ML) (hL : q_LR G P F W L (q_rows d a) (q_rows d t)) (hN : q_NR G (q_rows d a) (q_rows d t) (d.1 22 0) (d.1 22 1) (d.1 22 2) (d.1 59)) (hS1 : q_SH G (q_rows d a) (q_rows d t) 16 (d.1 24 4) (d.1 57 19) (d.1 25) (d.1 26) (d.1 27) (d.1 61)) (hS2 : q_SH G (q_rows d a) (q_rows d t) 3 (d.1 28 4) (d.1 57 20) (d.1 29) (d.1 30) (d.1 31) (d.1 62)) {w' : Int32} {v' : Nat → Int32} (hw : w' ≠ -1) (hN' : q_NR G (q_rows d a) (q_rows d t) w' (d.1 22 1) (d.1 22 2) v') :
    ∃ dc dR, f_X11_act d w' = some (true, dc) ∧ f_X13_remembers (j_sI dc 57 0 0) = some dR ∧ dR.1 59 = d.1 59 ∧ dc.1 22 0 = w' ∧ (∀ b, b ≠ 0 → b ≠ 22 → b ≠ 24 → b ≠ 25 → b ≠ 26 → b ≠ 27 → dc.1 b = d.1 b) ∧ ∀ dm : JD, (∀ b, b ≠ 59 → dm.1 b = dR.1 b) → (∀ k, k < 9 → dm.1 59 k = v' k) → q_R K (g, q_fin dm 0) := by
  obtain ⟨c, hc, c1, c2, hS⟩ := hS1
  obtain ⟨d1, a1, C1⟩ := q_remC hc c1 hrm.1
  have co := C1.2.2.2.2.2
  have d22 : d1.1 22 = d.1 22 := co 22 (by decide) (by decide) (by decide) (by decide)
  obtain ⟨dc, hdc⟩ : ∃ dc, dc = j_sI (f_X4_set 22 d1 w' (d.1 22 1) (d.1 22 2)) 0 11 0 := ⟨_, rfl⟩
  have e1 : f_X11_act d w' = some (true, dc) := by
    unfold f_X11_act j_let
    simp only [hw, if_false, a1, Option.bind_some, d22, ← hdc]
  have Cc : dc.1 0 11 = 0 ∧ (∀ k, k ≠ 11 → dc.1 0 k = d1.1 0 k) ∧ ∀ b, b ≠ 0 → b ≠ 22 → b ≠ 23 → dc.1 b = d1.1 b := by
    refine ⟨by rw [hdc, q_sI_a]; rfl, fun k hk => by rw [hdc, q_sI_a, q_upd_o hk, q_set_o (by decide)], fun b b0 b22 _ => by rw [hdc, q_sI_o b0, q_set_o b22]⟩
  have dcr : ∀ b, b ≠ 0 → b ≠ 22 → b ≠ 24 → b ≠ 25 → b ≠ 26 → b ≠ 27 → dc.1 b = d.1 b := fun b b0 b22 e1 e2 e3 e4 => by rw [hdc, q_sI_o b0, q_set_o b22, co b e1 e2 e3 e4]
  have dc22 : dc.1 22 = upd (upd (upd (d.1 22) 0 w') 1 (d.1 22 1)) 2 (d.1 22 2) := by rw [hdc, q_sI_o (by decide), q_set_a, d22]
  have dc57 : dc.1 57 = d.1 57 := dcr 57 (by decide) (by decide) (by decide) (by decide) (by decide) (by decide)
  obtain ⟨d0, hd0⟩ : ∃ d0, d0 = j_sI dc 57 0 0 := ⟨_, rfl⟩
  have d019 : d0.1 57 19 = Int32.ofNat c := by rw [hd0, q_sI_a, q_upd_o (by decide), dc57]; exact c2
  have d0o : ∀ b, b ≠ 57 → d0.1 b = dc.1 b := fun b hb => by rw [hd0, q_sI_o hb]
  obtain ⟨dR, b1, b2, b3, b4, b5⟩ := q_remM hc d019
  have r61 : d0.1 61 = d.1 61 := (d0o 61 (by decide)).trans (dcr 61 (by decide) (by decide) (by decide) (by decide) (by decide) (by decide))
  have r59 : d0.1 59 = d.1 59 := (d0o 59 (by decide)).trans (dcr 59 (by decide) (by decide) (by decide) (by decide) (by decide) (by decide))
  rw [r61, r59] at b2
  refine ⟨dc, dR, e1, by rw [← hd0]; exact b1, (b5 59 (by decide) (by decide)).trans r59, by rw [dc22]; rfl, dcr, fun dm hm hv => ?_⟩
  have CR : dR.1 61 = q_put9 (q_ov c (d.1 61)) (d.1 59) (q_c0 c) 9 ∧ dR.1 57 19 = Int32.ofNat (q_c0 c + 1) ∧ (∀ k, k ≠ 0 → k ≠ 19 → dR.1 57 k = dc.1 57 k) ∧ ∀ b, b ≠ 57 → b ≠ 61 → dR.1 b = dc.1 b :=
    ⟨b2, b3, fun k k0 k19 => by rw [b4 k k19, hd0, q_sI_a, q_upd_o k0], fun b x1 x2 => (b5 b x1 x2).trans (d0o b x1)⟩
  refine r.act hK hg hrm.2 h68 hla hts hL hN hc hS hS2 C1 Cc CR ⟨fun b _ x2 _ => hm b x2, fun k _ => by rw [hm 57 (by decide)]⟩ ?_
  have m22 : dm.1 22 = upd (upd (upd (d.1 22) 0 w') 1 (d.1 22 1)) 2 (d.1 22 2) := by rw [hm 22 (by decide), CR.2.2.2 22 (by decide) (by decide), dc22]
  rw [m22]
  exact hN'.cv hL.1.1.2.1 hv
theorem q_wA {A0 : Nat → Int32} {x : Nat → Int32} (hx : q_dg x) {i : Nat} (hi : i < 6) (hg : f_X3_isGuarded A0 (Int32.ofNat i) = false) {s : Int32} (hs : s = 0 ∨ s = 1) (h0 : x i = 0) (hl : ¬ (f_X3_hooksLying A0 (q_cod x) ≤ 0)) : f_X3_wayAfter A0 (q_cod x) s (Int32.ofNat i) = q_cod (upd x i (if s = 0 then 1 else 2)) := by
  have k1 : f_X10_hungAt (q_cod x) (Int32.ofNat i) = 0 := (q_hung hx hi).trans h0
  have w1 := q_with hx hi (h := 1) (Or.inr (Or.inl rfl))
  have w2 := q_with hx hi (h := 2) (Or.inr (Or.inr rfl))
  unfold f_X3_wayAfter f_X3_wayAfter_j26 f_X3_wayAfter_j44 f_X3_wayAfter_j62
  rcases hs with rfl | rfl
  · simp only [hg, k1, hl, if_true, if_false, Bool.false_eq_true, show ¬ ((1 : Int32) = 0) by decide, w1]
  · simp only [hg, k1, hl, if_true, if_false, Bool.false_eq_true, show ¬ ((1 : Int32) = 0) by decide, w2]
theorem q_ground {G : Nat} {A T : Nat → Nat → Int32} {w s y : Int32} {v : Nat → Int32} (h : q_NR G A T w s y v) : ∃ n : Nat, n ≤ 12 ∧ v 6 = Int32.ofNat n := by
  obtain ⟨_, _, ⟨n, H, e1, e2, e3, e4⟩, _⟩ := h
  have := q_cnt_le (T 6) 6
  exact ⟨n, by omega, e1⟩
theorem q_NRupd {G : Nat} {A T : Nat → Nat → Int32} {w s y : Int32} {v : Nat → Int32} (h : q_NR G A T w s y v) (hG : G ≤ 6) {i : Nat} (hi : i < G) (hgd : ¬ T 3 i = 2) {k : Int32} (hk : k = 0 ∨ k = 1 ∨ k = 2) {n n' : Nat} (h6 : v 6 = Int32.ofNat n) (hn : n ≤ 12) (hc : n' + q_cnt (upd v i k) 6 = n + q_cnt v 6) {v' : Nat → Int32} (hv : ∀ j, j < 9 → v' j = if j = i then k else if j = 6 then Int32.ofNat n' else v j) : q_NR G A T (q_cod (upd v i k)) s y v' := by
  obtain ⟨⟨h1, h2⟩, h3, ⟨m, H, e1, e2, e3, e4⟩, h8, h9, h10, h11, h12⟩ := h
  have hc6 := q_cnt_le (T 6) 6
  have em : m = n := (q_eq (by omega) (by omega)).mp (e1.symm.trans h6)
  have e6 : ∀ j, j < 6 → v' j = upd v i k j := by
    intro j hj
    rw [hv j (by omega)]
    by_cases c : j = i
    · rw [if_pos c, c]; exact (q_upd_a _ _ _).symm
    · rw [if_neg c, if_neg (by omega), q_upd_o c]
  refine ⟨⟨fun j hj => ?_, fun j hj hj6 => ?_⟩, (q_cod_congr e6).symm, ⟨n', H, ?_, e2, e3, ?_⟩, ?_, ?_, h10, h11, fun j hj hk2 => ?_⟩
  · rw [e6 j hj]
    by_cases c : j = i
    · rw [c, q_upd_a]; exact hk
    · rw [q_upd_o c]; exact h1 j hj
  · rw [e6 j hj6, q_upd_o (by omega)]; exact h2 j hj hj6
  · rw [hv 6 (by decide), if_neg (by omega), if_pos rfl]
  · rw [q_cnt_congr 6 e6]; omega
  · rw [hv 7 (by decide), if_neg (by omega), if_neg (by decide)]; exact h8
  · rw [hv 8 (by decide), if_neg (by omega), if_neg (by decide)]; exact h9
  · rw [e6 j (by omega), q_upd_o (fun z => hgd (by rw [← z]; exact hk2))]; exact h12 j hj hk2
