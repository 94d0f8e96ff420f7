/-! tier two: the call land -/
theorem qp_gNew_rf (g : JG) {x k : Nat} (hx : x < g.1) : (gNew g).2.2.1 x k = g.2.2.1 x k := (kpNew g ((fun _ _ => 0), (fun _ _ => 0))).2.1 x k hx
theorem qp_gRd_rf (g : JG) {x k : Nat} (hx : x < g.1) (h : ¬ (x = 57 ∧ k = 4)) : (gRd g).2.2.1 x k = g.2.2.1 x k := by
  show (if x = 57 ∧ k = 4 then some g.1 else (gNew g).2.2.1 x k) = _
  rw [if_neg h]
  exact qp_gNew_rf g hx
theorem qp_gLn_rf (g : JG) {x k : Nat} (hx : x < g.1) (h : x ≠ 57) : (gLn g).2.2.1 x k = g.2.2.1 x k := by
  show (if x = 57 ∧ k = 3 then some g.1 else (gRd g).2.2.1 x k) = _
  rw [if_neg (fun z => h z.1)]
  exact qp_gRd_rf g hx (fun z => h z.1)
theorem qp_gRd_L {g : JG} {a : Nat} {ts : List (Nat × Nat)} {rs : List (Nat × Nat × Nat)} (h : j_sh g a ts rs) (hr : ∀ q ∈ rs, q.1 < ts.length) (ha : ∀ q ∈ rs, ¬ (a + q.1 = 57 ∧ q.2.1 = 4)) : j_sh (gRd g) a ts rs := (gNew_keep h hr).setR ha
theorem qp_gLn_L {g : JG} {a : Nat} {ts : List (Nat × Nat)} {rs : List (Nat × Nat × Nat)} (h : j_sh g a ts rs) (hr : ∀ q ∈ rs, q.1 < ts.length) (ha : ∀ q ∈ rs, ¬ (a + q.1 = 57)) : j_sh (gLn g) a ts rs := (qp_gRd_L h hr (fun q hq z => ha q hq z.1)).setR (fun q hq z => ha q hq z.1)
theorem qp_gCL {g : JG} {a : Nat} (ha : a = 42 ∨ a = 4) (h : j_sh g a TS_CL RS_CL) : j_sh (gRd g) a TS_CL RS_CL ∧ j_sh (gLn g) a TS_CL RS_CL := by
  have k : ∀ q ∈ RS_CL, q.1 < TS_CL.length := by decide
  have k2 : ∀ q ∈ RS_CL, q.1 < 15 := by decide
  exact ⟨qp_gRd_L h k (fun q hq z => by have := k2 q hq; omega), qp_gLn_L h k (fun q hq z => by have := k2 q hq; omega)⟩
theorem qp_gML {g : JG} {t : Nat} (h68 : 68 ≤ t) (h : j_sh g t TS_ML RS_ML) : j_sh (gRd g) t TS_ML RS_ML := qp_gRd_L h (by decide) (fun q hq z => by have := z.1; omega)
/-- a number that is refused -/
theorem qp_landno {K : q_K} (hK : q_Kok K) {g : JG} {d : JD} {n : Int32} (r : q_R K (g, d)) : q_R K (g, q_fin (j_sI (j_sI d 0 11 2) 57 0 0) 2) := by
  have s : q_sm d (j_sI (j_sI d 0 11 2) 57 0 0) := ((q_sm.refl d).f0 2).f57 rfl 0
  exact r.ans hK (q_fin_ans s (by rw [q_sI_o (by decide), q_sI_aa]) (by decide))
theorem qp_wrow (q : JD) : (∀ x, x ≠ 0 → x ≠ 1 → (f_X11_land_w q).1 x = q.1 x) ∧ (f_X11_land_w q).1 1 1 = 0 ∧ (f_X11_land_w q).1 0 12 = q.1 3 7 ∧ (f_X11_land_w q).1 0 13 = q.1 3 8 := by
  unfold f_X11_land_w
  refine ⟨fun x h0 h1 => ?_, ?_, ?_, ?_⟩
  · rw [q_sI_o h0, q_sI_o h0, q_sI_o h1]
  · rw [q_sI_o (by decide), q_sI_o (by decide), q_sI_aa]
  · rw [q_sI_ao _ _ _ (by decide), q_sI_aa]
  · rw [q_sI_aa]
/-- a text with a fault -/
theorem qp_landbad {g : JG} {d D e E : JD} {a b : Nat} (r : q_R q_K0 (g, d)) (hg : q_G g a b) (f1 : ∀ x, x ≠ 1 → x ≠ 3 → x ≠ 19 → x ≠ 20 → x ≠ 21 → (x < b ∨ b + 14 < x) → D.1 x = d.1 x) (he : e = j_sI (j_sI (f_X11_land_w D) 0 11 4) 57 0 0) (f2 : ∀ x, x ≠ 57 → x < g.1 → E.1 x = e.1 x) (f3 : ∀ k, k < 6 ∨ 13 < k → E.1 57 k = e.1 57 k) (f6 : E.1 57 6 = 0) (hF : qp_F D E) : q_R q_K0 (gRd g, j_sI (j_sI E 57 1 4) 57 2 (E.1 57 13)) := by
  have hgg := hg
  obtain ⟨hab, g0, ga, gb, gco, gin⟩ := hg
  obtain ⟨a', b', hg', ht, hr, hk, hl⟩ := r
  have ea : a' = a := by
    have := hg'.2.2.2.2.1.symm.trans gco
    exact Option.some.inj this
  subst ea
  dsimp only at ht hr hk hl
  have n68 : 67 < g.1 := by
    have := g0.lt 67 (by decide)
    omega
  obtain ⟨w1, w2, w3, w4⟩ := qp_wrow D
  have ex : ∀ x, x ≠ 0 → x ≠ 1 → x ≠ 57 → e.1 x = D.1 x := fun x h0 h1 h57 => by rw [he, q_sI_o h57, q_sI_o h0]; exact w1 x h0 h1
  have e0 : e.1 0 = upd ((f_X11_land_w D).1 0) 11 4 := by rw [he, q_sI_o (by decide), q_sI_a]
  have e1 : e.1 1 1 = 0 := by rw [he, q_sI_o (by decide), q_sI_o (by decide)]; exact w2
  have e57 : ∀ k, k ≠ 0 → e.1 57 k = d.1 57 k := fun k hk => by rw [he, q_sI_ao _ _ _ hk, q_sI_o (by decide), w1 57 (by decide) (by decide), f1 57 (by decide) (by decide) (by decide) (by decide) (by decide) (by omega)]
  generalize hd2 : j_sI (j_sI E 57 1 4) 57 2 (E.1 57 13) = d2
  have x1 : ∀ x, x ≠ 57 → d2.1 x = E.1 x := fun x hx => by rw [← hd2, q_sI_o hx, q_sI_o hx]
  have xs : ∀ x, x ≠ 0 → x ≠ 1 → x ≠ 3 → x ≠ 19 → x ≠ 20 → x ≠ 21 → x ≠ 57 → (x < b ∨ b + 14 < x) → x < g.1 → d2.1 x = d.1 x := fun x h0 h1 h3 h19 h20 h21 h57 hb hx => by rw [x1 x h57, f2 x h57 hx, ex x h0 h1 h57, f1 x h1 h3 h19 h20 h21 hb]
  have y0 : d2.1 0 = e.1 0 := by rw [x1 0 (by decide), f2 0 (by decide) (by omega)]
  have y57 : ∀ k, k ≠ 1 → k ≠ 2 → d2.1 57 k = E.1 57 k := fun k h1 h2 => by rw [← hd2, q_sI_ao _ _ _ h2, q_sI_ao _ _ _ h1]
  have rA : ∀ j, j < 15 → q_rows d2 a' j = q_rows d a' j := fun j hj => xs (a' + j) (by omega) (by omega) (by omega) (by omega) (by omega) (by omega) (by omega) (by omega) (by omega)
  have rC : ∀ j, j < 9 → q_rows d2 32 j = q_rows d 32 j := fun j hj => xs (32 + j) (by omega) (by omega) (by omega) (by omega) (by omega) (by omega) (by omega) (by omega) (by omega)
  have xk : ∀ x, 22 ≤ x → x ≤ 40 → d2.1 x = d.1 x := fun x h1 h2 => xs x (by omega) (by omega) (by omega) (by omega) (by omega) (by omega) (by omega) (by omega) (by omega)
  have xm : ∀ x, 58 ≤ x → x ≤ 66 → d2.1 x = d.1 x := fun x h1 h2 => xs x (by omega) (by omega) (by omega) (by omega) (by omega) (by omega) (by omega) (by omega) (by omega)
  refine ⟨a', b, ⟨hab, gRd_0 g0, (qp_gCL (by omega) ga).1, (qp_gCL (by omega) gb).1, (qp_gRd_rf g (by omega) (by decide)).trans gco, (qp_gRd_rf g (by omega) (by decide)).trans gin⟩, ?_, ?_, q_K0ok _ _ _ _ rA rC hk, ?_⟩
  · refine ⟨?_, ?_, ?_, ⟨0, by decide, ?_⟩, ?_, ?_, ?_⟩
    · show d2.1 0 11 = d2.1 57 1
      rw [y0, e0, q_upd_a, ← hd2, q_sI_ao _ _ _ (by decide), q_sI_aa]
    · show d2.1 0 12 = d2.1 57 12
      rw [y0, e0, q_upd_o (by decide), w3, y57 12 (by decide) (by decide)]
      exact hF.2.1
    · show (if d2.1 0 11 = 4 then d2.1 0 13 else -1) = d2.1 57 2
      rw [y0, e0, q_upd_a, if_pos rfl, q_upd_o (by decide), w4, hF.2.2.1, ← hd2, q_sI_aa]
    · show d2.1 1 1 = _
      rw [x1 1 (by decide), f2 1 (by decide) (by omega)]; exact e1
    · show d2.1 57 6 = d2.1 1 1
      rw [y57 6 (by decide) (by decide), f6, x1 1 (by decide), f2 1 (by decide) (by omega), e1]
    · show d2.1 58 = d2.1 2
      rw [xm 58 (by decide) (by decide), xs 2 (by decide) (by decide) (by decide) (by decide) (by decide) (by decide) (by decide) (by omega) (by omega)]
      exact ht.2.2.2.2.2.1
    · show ∀ k, q_isb (d2.1 2 k)
      rw [xs 2 (by decide) (by decide) (by decide) (by decide) (by decide) (by decide) (by decide) (by omega) (by omega)]
      exact ht.2.2.2.2.2.2
  · show d2.1 24 3 = 16 ∧ d2.1 28 3 = 3
    rw [xk 24 (by decide) (by decide), xk 28 (by decide) (by decide)]
    exact hr
  · rcases hl with ⟨h1, h2⟩ | ⟨t, h1, h2, h3, G, P, F, W, L, p1, p2, p3, p4⟩
    · refine Or.inl ⟨(qp_gRd_rf g (by omega) (by decide)).trans h1, ?_⟩
      show q_NL a' d2
      unfold q_NL
      rw [show d2.1 a' = d.1 a' from rA 0 (by decide), show d2.1 (a' + 9) = d.1 (a' + 9) from rA 9 (by decide), xk 22 (by decide) (by decide), xk 24 (by decide) (by decide), xk 28 (by decide) (by decide)]
      exact h2
    · have tl := h3.1
      have tl15 : t + 15 ≤ g.1 := tl
      have rT : ∀ j, j < 15 → q_rows d2 t j = q_rows d t j := fun j hj => xs (t + j) (by omega) (by omega) (by omega) (by omega) (by omega) (by omega) (by omega) (by omega) (by omega)
      refine Or.inr ⟨t, h1, (qp_gRd_rf g (by omega) (by decide)).trans h2, qp_gML h1 h3, G, P, F, W, L, q_L_congr rA rT p1, ?_, ?_, ?_⟩
      · show q_NR G (q_rows d2 a') (q_rows d2 t) (d2.1 22 0) (d2.1 22 1) (d2.1 22 2) (d2.1 59)
        rw [xk 22 (by decide) (by decide), xm 59 (by decide) (by decide)]
        exact q_N_congr rA rT p2
      · show q_SH G (q_rows d2 a') (q_rows d2 t) 16 (d2.1 24 4) (d2.1 57 19) (d2.1 25) (d2.1 26) (d2.1 27) (d2.1 61)
        rw [xk 24 (by decide) (by decide), xk 25 (by decide) (by decide), xk 26 (by decide) (by decide), xk 27 (by decide) (by decide), xm 61 (by decide) (by decide), y57 19 (by decide) (by decide), f3 19 (by decide), e57 19 (by decide)]
        exact q_S_congr rA rT p3
      · show q_SH G (q_rows d2 a') (q_rows d2 t) 3 (d2.1 28 4) (d2.1 57 20) (d2.1 29) (d2.1 30) (d2.1 31) (d2.1 62)
        rw [xk 28 (by decide) (by decide), xk 29 (by decide) (by decide), xk 30 (by decide) (by decide), xk 31 (by decide) (by decide), xm 62 (by decide) (by decide), y57 20 (by decide) (by decide), f3 20 (by decide), e57 20 (by decide)]
        exact q_S_congr rA rT p4
