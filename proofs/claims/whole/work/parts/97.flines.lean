/-! tier two: land: lines -/
section QS
variable {B : Nat → Int32} {N lo b u G P F W L Q m G' P' F' W' L' Q' : Nat} {D0 E0 D E D' E' : JD}
theorem qp_T.congr (t : qp_T B N lo D E) (h1 : D'.1 1 = D.1 1) (h2 : D'.2 1 = D.2 1) (h3 : E'.1 57 = E.1 57) (h4 : E'.2 57 = E.2 57) : qp_T B N lo D' E' := by
  unfold qp_T at t ⊢
  rw [h1, h2, h3, h4]
  exact t
theorem qp_names (hu : 68 ≤ u) {n : Nat} (hn : E.1 u 9 = Int32.ofNat n) (h15 : n < 15) (w : Int64) (s v : Int32) : ∃ E', f_X13_names u E w s v = some E' ∧ (∀ x, x ≠ u → x ≠ u + 13 → x ≠ u + 14 → E'.1 x = E.1 x) ∧ (∀ k, k ≠ 9 → E'.1 u k = E.1 u k) ∧ E'.1 u 9 = Int32.ofNat (n + 1) ∧ E'.1 (u + 13) = upd (E.1 (u + 13)) n s ∧ E'.1 (u + 14) = upd (E.1 (u + 14)) n v ∧ E'.2 (u + 12) = vp_updL (E.2 (u + 12)) n w ∧ E'.2 57 = E.2 57 ∧ qp_mF u E E' := by
  unfold f_X13_names
  rw [hn, if_neg (q_in (n := 15) (by omega) (by decide)), if_neg (q_in (n := 15) (by omega) (by decide)), if_neg (q_in (n := 15) (by omega) (by decide)), q_n (by omega), q_s]
  refine ⟨_, rfl, fun x h1 h2 h3 => ?_, fun k hk => ?_, ?_, ?_, ?_, ?_, ?_, ?_⟩
  · rw [q_sI_o h1, q_sI_o h3, q_sI_o h2]; rfl
  · rw [q_sI_ao _ _ _ hk, q_sI_o (by omega), q_sI_o (by omega)]; rfl
  · rw [q_sI_aa]
  · rw [q_sI_o (by omega), q_sI_o (by omega), q_sI_a]; rfl
  · rw [q_sI_o (by omega), q_sI_a, q_sI_o (by omega)]; rfl
  · show (if u + 12 = u + 12 then vp_updL (E.2 (u + 12)) n w else E.2 (u + 12)) = _
    rw [if_pos rfl]
  · show (if (57 : Nat) = u + 12 then vp_updL (E.2 57) n w else E.2 57) = _
    rw [if_neg (by omega)]
  · exact ((((qp_mF.refl u E).sL _ _ _).sI (by omega) (by omega) _ _).sI (by omega) (by omega) _ _).sI (by omega) (by omega) _ _
theorem qp_NMs {r20 r21 : Nat → Int32} {l19 lt : Nat → Int64} {t13 t14 : Nat → Int32} {s v : Nat} {w : Int64} (h : qp_NM P F G r20 r21 l19 lt t13 t14) (hP : P ≤ P') (hF : F ≤ F') (hG : G ≤ G') (hn : P' + F' + G' = P + F + G + 1) (x20 : r20 (P + F + G) = Int32.ofNat (s + 1)) (x21 : r21 (P + F + G) = Int32.ofNat v) (x19 : l19 (P + F + G) = w) (c : (s = 0 ∧ v < P') ∨ (s = 1 ∧ v < F') ∨ (s = 2 ∧ v < G')) : qp_NM P' F' G' r20 r21 l19 (vp_updL lt (P + F + G) w) (upd t13 (P + F + G) (Int32.ofNat s)) (upd t14 (P + F + G) (Int32.ofNat v)) := by
  intro i hi
  by_cases e : i = P + F + G
  · subst e
    refine ⟨x19.trans (if_pos rfl).symm, s, v, ?_, x20, ?_, x21, c⟩
    · rw [q_upd_a]
    · rw [q_upd_a]
  · obtain ⟨a1, s', v', a2, a3, a4, a5, a6⟩ := h i (by omega)
    refine ⟨a1.trans (if_neg e).symm, s', v', ?_, a3, ?_, a5, by omega⟩
    · rw [q_upd_o e]; exact a2
    · rw [q_upd_o e]; exact a4
/-- what holds behind a line -/
theorem qp_M.mk' (h : qp_M B N b u D0 E0 G P F W L Q m D E) (ht : D.1 3 2 = 1) (fr : qp_cF b D0 D') (fr' : qp_mF u E0 E') (d1 : D'.1 1 2 = D.1 1 2) (d2 : D'.1 2 = D.1 2) (d3 : D'.1 3 = D.1 3) (e57 : E'.1 57 7 = E.1 57 7) (e5b : E'.1 57 12 = E.1 57 12) (e58 : E'.1 58 = E.1 58) (LL' : qp_LL G' P' F' W' L' Q' (q_rows D' b) (q_rows E' u)) (hm : m = P' + F' + G') (n' : E'.1 u 9 = Int32.ofNat (P' + F' + G')) (NM' : qp_NM P' F' G' (D'.1 20) (D'.1 21) (D'.2 19) (E'.2 (u + 12)) (E'.1 (u + 13)) (E'.1 (u + 14))) (b0 : D'.1 b 0 = D.1 b 0) (b1 : D'.1 b 1 = D.1 b 1) (u0 : E'.1 u 0 = E.1 u 0) (u1 : E'.1 u 1 = E.1 u 1) : qp_M B N b u D0 E0 G' P' F' W' L' Q' (P' + F' + G') D' E' := by
  obtain ⟨h1, h2, h3, h5, ⟨h6, h7, h8⟩, h9⟩ := h
  refine ⟨⟨fr, fr'⟩, ?_, ?_, LL', ⟨?_, n', NM'⟩, ?_⟩
  · unfold q_byx
    rw [d2, e58, d1, e57]
    exact h2
  · rw [e5b, d3]; exact h3
  · rw [d3, ← hm]; exact h6
  · unfold qp_to
    rw [d3, b0, b1, u0, u1]
    rcases h9 with z | z
    · rw [z.1] at ht; exact absurd ht (by decide)
    · exact Or.inr z
theorem qp_person (hB : ∀ i, q_isb (B i)) (hb : b = 42 ∨ b = 4) (hu : 68 ≤ u) (h : qp_M B N b u D0 E0 G P F W L Q (P + F + G) D E) (ht : D.1 3 2 = 1) (hP : P < 5) (t : qp_T B N lo D E) {Ex : JD} (hl : f_X13_lineBegins u Ex (Ex.1 u 2) 5 = some E) : qp_O b u D0 E0 (qp_ST B N lo b u D0 E0) (f_X6_readPerson b D) (f_X13_readPerson u Ex) := by
  have bd := h.2.2.2.1.1.1
  have cP := h.2.2.2.1.1.2.2.1
  unfold f_X6_readPerson f_X13_readPerson
  rw [hl, Option.bind_some]
  rcases qp_fresh hB hb hu h (by omega) t 1 (D.1 b 2) with ⟨D1, E1, w, a1, a2, M1, t1, x20, x21, x19, x32⟩ | ⟨c, x, c1, c6, a1, a2⟩
  · rw [a1, a2, Option.bind_some, Option.bind_some]
    dsimp only
    have cP1 := M1.2.2.2.1.1.2.2.1
    obtain ⟨E2, n1, n2, n3, n4, n5, n6, n7, n8, n9⟩ := qp_names hu M1.2.2.2.2.1.2.1 (by omega) w 0 (E1.1 u 2)
    rw [if_pos rfl, if_neg t1.pl.2, n1, Option.bind_some]
    have v2 : D1.1 b 2 + 1 = Int32.ofNat (P + 1) := by rw [show D1.1 b 2 = Int32.ofNat P from cP1.1]; exact q_s P
    have w2 : E2.1 u 2 + 1 = Int32.ofNat (P + 1) := by rw [n3 2 (by decide), show E1.1 u 2 = Int32.ofNat P from cP1.2]; exact q_s P
    rw [v2, w2]
    have r1 : ∀ x, x ≠ b → (j_sI D1 b 2 (Int32.ofNat (P + 1))).1 x = D1.1 x := fun x hx => q_sI_o hx
    have s1 : ∀ x, x ≠ u → x ≠ u + 13 → x ≠ u + 14 → (j_sI E2 u 2 (Int32.ofNat (P + 1))).1 x = E1.1 x := fun x h1 h2 h3 => by rw [q_sI_o h1]; exact n2 x h1 h2 h3
    refine ⟨true, _, _, rfl, rfl, M1.1.1.sI (by omega) (by omega) _ _, (M1.1.2.trans n9).sI (by omega) (by omega) _ _, Or.inl ⟨rfl, G, P + 1, F, W, L, Q, ?_, ?_⟩⟩
    · refine M1.mk' (x32.trans ht) (M1.1.1.sI (by omega) (by omega) _ _) ((M1.1.2.trans n9).sI (by omega) (by omega) _ _) (by rw [r1 1 (by omega)]) (r1 2 (by omega)) (r1 3 (by omega)) (by rw [s1 57 (by omega) (by omega) (by omega)]) (by rw [s1 57 (by omega) (by omega) (by omega)]) (s1 58 (by omega) (by omega) (by omega)) ?_ (by omega) ?_ ?_ (q_sI_ao _ _ _ (by decide)) (q_sI_ao _ _ _ (by decide)) ?_ ?_
      · refine qp_Lperson (A := q_rows D1 b) (T := q_rows E1 u) M1.2.2.2.1 hP (fun k hk => q_sI_ao _ _ _ hk) (q_sI_aa _ _ _ _) (fun j j0 j15 => r1 (b + j) (by omega)) (fun k hk hk9 => (q_sI_ao _ _ _ hk).trans (n3 k hk9)) (q_sI_aa _ _ _ _) (fun j j0 j12 => s1 (u + j) (by omega) (by omega) (by omega))
      · rw [q_sI_ao _ _ _ (by decide), n4]
        congr 1
        omega
      · rw [r1 20 (by omega), r1 21 (by omega), q_sI_o (show u + 13 ≠ u by omega), q_sI_o (show u + 14 ≠ u by omega), n5, n6, show (j_sI E2 u 2 (Int32.ofNat (P + 1))).2 (u + 12) = vp_updL (E1.2 (u + 12)) (P + F + G) w from n7, show E1.1 u 2 = Int32.ofNat P from cP1.2]
        exact qp_NMs (s := 0) (v := P) M1.2.2.2.2.1.2.2 (by omega) (by omega) (by omega) (by omega) x20 (by rw [x21]; exact cP.1) x19 (by omega)
      · rw [q_sI_ao _ _ _ (by decide), n3 0 (by decide)]
      · rw [q_sI_ao _ _ _ (by decide), n3 1 (by decide)]
    · exact t1.congr (r1 1 (by omega)) rfl (s1 57 (by omega) (by omega) (by omega)) n8
  · rw [a1, a2, Option.bind_some, Option.bind_some]
    dsimp only
    rw [if_neg (by decide), if_pos (qp_fl9 _ _)]
    exact qp_O.bad t h.1.1 h.1.2 c1 c6 rfl rfl
/-- the class writes and goes on, the reference goes on and writes -/
theorem qp_tail (hB : ∀ i, q_isb (B i)) (hb : b = 42 ∨ b = 4) (hu : 68 ≤ u) (h : qp_M B N b u D0 E0 G P F W L Q m D E) (ht : D.1 3 2 = 1) (x : qp_X N lo D E) {D2 : JD} (c2 : qp_cF b D D2) (r1 : D2.1 1 = D.1 1) (r3 : D2.1 3 = D.1 3) (b0 : D2.1 b 0 = D.1 b 0) (b1 : D2.1 b 1 = D.1 b 1) : ∃ D3 E2, f_X9_advance D2 = some D3 ∧ f_X13_goesOn E = some E2 ∧ E2.1 57 9 ≠ 5 ∧ (∀ x, x ≠ 57 → E2.1 x = E.1 x) ∧ (∀ x, x ≠ 57 → E2.2 x = E.2 x) ∧ ∀ (E3 : JD) (G' P' F' W' L' Q' : Nat), qp_mF u E2 E3 → E3.1 57 = E2.1 57 → E3.2 57 = E2.2 57 → qp_LL G' P' F' W' L' Q' (q_rows D2 b) (q_rows E3 u) → m = P' + F' + G' → E3.1 u 9 = Int32.ofNat (P' + F' + G') → qp_NM P' F' G' (D2.1 20) (D2.1 21) (D2.2 19) (E3.2 (u + 12)) (E3.1 (u + 13)) (E3.1 (u + 14)) → E3.1 u 0 = E.1 u 0 → E3.1 u 1 = E.1 u 1 → qp_O b u D0 E0 (qp_ST B N lo b u D0 E0) (some (true, D3)) (some E3) := by
  have r2 : D2.1 2 = D.1 2 := c2.1 2 (by decide) (by decide) (by decide) (by decide) (by decide) (by omega)
  have bx : q_byx B N D2 E := by
    unfold q_byx
    rw [r2, r1]
    exact h.2.1
  obtain ⟨q, q1, q2, q3, q4, q5⟩ := x
  obtain ⟨D3, E2, a1, a2, f, g, t⟩ := qp_adv hB bx (by rw [r1]; exact q3) q4 q2 q5
  refine ⟨D3, E2, a1, a2, t.pl.2, g.1, g.2.2, ?_⟩
  intro E3 G' P' F' W' L' Q' m1 m2 m3 LL' m4 m5 m6 m7 m8
  have fr : qp_cF b D0 D3 := (h.1.1.trans c2).trans f.F
  have fr' : qp_mF u E0 E3 := (h.1.2.trans g.F).trans m1
  have eA : q_rows D3 b = q_rows D2 b := funext fun j => f.1 (b + j) (by omega)
  refine ⟨true, D3, E3, rfl, rfl, fr, fr', Or.inl ⟨rfl, G', P', F', W', L', Q', h.mk' ht fr fr' ?_ ((f.1 2 (by decide)).trans r2) ((f.1 3 (by decide)).trans r3) ?_ ?_ ?_ (by rw [eA]; exact LL') m4 m5 ?_ ?_ ?_ m7 m8, (t.lo q1).congr rfl rfl m2 m3⟩⟩
  · rw [f.2.1 2 (by decide) (by decide) (by decide) (by decide), r1]
  · rw [m2]; exact g.2.1 7 (by decide) (by decide) (by decide) (by decide)
  · rw [m2]; exact g.2.1 12 (by decide) (by decide) (by decide) (by decide)
  · exact (m1.1 58 (by decide) (by omega)).trans (g.1 58 (by decide))
  · rw [f.1 20 (by decide), f.1 21 (by decide), f.2.2 19 (by decide)]; exact m6
  · rw [f.1 b (by omega)]; exact b0
  · rw [f.1 b (by omega)]; exact b1
theorem qp_want (hB : ∀ i, q_isb (B i)) (hb : b = 42 ∨ b = 4) (hu : 68 ≤ u) (h : qp_M B N b u D0 E0 G P F W L Q (P + F + G) D E) (ht : D.1 3 2 = 1) (hW : W < 4) (t : qp_T B N lo D E) {Ex : JD} {x : Int32} (hx : x = 0 ∨ x = 1) (hl : f_X13_lineBegins u Ex (Ex.1 u 6) 4 = some E) : qp_O b u D0 E0 (qp_ST B N lo b u D0 E0) (f_X6_readWant b D x) (f_X13_readWants u Ex x) := by
  unfold f_X6_readWant f_X13_readWants f_X13_readKnown
  rw [hl, Option.bind_some]
  have n15 := h.n15
  have hn : ∀ c : Int32, (f_X13_flaw E c).1 u 9 = Int32.ofNat (P + F + G) := fun c => by rw [qp_flo _ _ (by omega)]; exact h.2.2.2.2.1.2.1
  have bd := h.2.2.2.1.1.1
  rcases qp_told hB hu h t (s := 0) (by omega) (Or.inl rfl) with ⟨p, p1, a1, a2, x1⟩ | ⟨c, c1, c6, a1, a2⟩
  · rw [show f_X6_toldNumber D 1 = _ from a1, show f_X13_knownOne u E 0 = _ from a2, Option.bind_some, Option.bind_some]
    dsimp only
    rw [if_neg (q_nem1 (by omega))]
    obtain ⟨D1, E1, b1, b2, f1, g1, M1, t1⟩ := qp_go hB (by omega) hu h x1
    rw [b1, b2, Option.bind_some, Option.bind_some, Option.bind_some]
    dsimp only
    rcases qp_told hB hu M1 t1 (s := 2) (by omega) (Or.inl rfl) with ⟨g, p2, a3, a4, x2⟩ | ⟨c, c1, c6, a3, a4⟩
    · rw [show f_X6_toldNumber D1 3 = _ from a3, show f_X13_knownOne u E1 2 = _ from a4, Option.bind_some, Option.bind_some]
      dsimp only
      have cW := M1.2.2.2.1.1.2.2.2.2.1
      have cW1 : D1.1 (b + 9) 0 = Int32.ofNat W := cW.1
      have cW2 : E1.1 u 6 = Int32.ofNat W := cW.2
      rw [if_neg (q_nem1 (by omega))]
      unfold f_X0_addWant j_let
      dsimp only
      have y1 : (j_sI D1 (b + 9 + 1) W (Int32.ofNat p)).1 (b + 9) 0 = Int32.ofNat W := by rw [q_sI_o (by omega)]; exact cW1
      have y2 : (j_sI (j_sI D1 (b + 9 + 1) W (Int32.ofNat p)) (b + 9 + 2) W (Int32.ofNat g)).1 (b + 9) 0 = Int32.ofNat W := by rw [q_sI_o (by omega)]; exact y1
      have y3 : (j_sI (j_sI (j_sI D1 (b + 9 + 1) W (Int32.ofNat p)) (b + 9 + 2) W (Int32.ofNat g)) (b + 9 + 3) W x).1 (b + 9) 0 = Int32.ofNat W := by rw [q_sI_o (by omega)]; exact y2
      rw [cW1, q_put_in (show W < 4 by omega) (by decide), y1, q_put_in (show W < 4 by omega) (by decide), y2, q_put_in (show W < 4 by omega) (by decide), y3, q_s]
      generalize hD2 : j_sI (j_sI (j_sI (j_sI D1 (b + 9 + 1) W (Int32.ofNat p)) (b + 9 + 2) W (Int32.ofNat g)) (b + 9 + 3) W x) (b + 9) 0 (Int32.ofNat (W + 1)) = D2
      have c2 : qp_cF b D1 D2 := by
        rw [← hD2]
        exact ((((qp_cF.refl b D1).sI (by omega) (by omega) _ _).sI (by omega) (by omega) _ _).sI (by omega) (by omega) _ _).sI (by omega) (by omega) _ _
      have r1 : ∀ x, x ≠ b + 9 → x ≠ b + 10 → x ≠ b + 11 → x ≠ b + 12 → D2.1 x = D1.1 x := fun x z1 z2 z3 z4 => by rw [← hD2, q_sI_o z1, q_sI_o (by omega), q_sI_o (by omega), q_sI_o (by omega)]
      have r9 : ∀ k, k ≠ 0 → D2.1 (b + 9) k = D1.1 (b + 9) k := fun k hk => by rw [← hD2, q_sI_ao _ _ _ hk, q_sI_o (by omega), q_sI_o (by omega), q_sI_o (by omega)]
      have r90 : D2.1 (b + 9) 0 = Int32.ofNat (W + 1) := by rw [← hD2, q_sI_aa]
      have r10 : D2.1 (b + 10) = upd (D1.1 (b + 10)) W (Int32.ofNat p) := by rw [← hD2, q_sI_o (by omega), q_sI_o (by omega), q_sI_o (by omega), q_sI_a]
      have r11 : D2.1 (b + 11) = upd (D1.1 (b + 11)) W (Int32.ofNat g) := by rw [← hD2, q_sI_o (by omega), q_sI_o (by omega), q_sI_a, q_sI_o (by omega)]
      have r12 : D2.1 (b + 12) = upd (D1.1 (b + 12)) W x := by rw [← hD2, q_sI_o (by omega), q_sI_a, q_sI_o (by omega), q_sI_o (by omega)]
      have rl : D2.2 = D1.2 := by rw [← hD2]; rfl
      obtain ⟨D3, E2, z1, z2, z3, z4, z5, z6⟩ := qp_tail hB hb hu M1 ((by rw [f1.1 3 (by decide)]; exact ht)) x2 c2 (r1 1 (by omega) (by omega) (by omega) (by omega)) (r1 3 (by omega) (by omega) (by omega) (by omega)) (by rw [r1 b (by omega) (by omega) (by omega) (by omega)]) (by rw [r1 b (by omega) (by omega) (by omega) (by omega)])
      have w6 : E2.1 u 6 = Int32.ofNat W := by rw [z4 u (by omega)]; exact cW2
      rw [z1, z2, Option.bind_some, Option.bind_some, Option.bind_some]
      dsimp only
      rw [if_neg z3, w6, if_neg (q_in hW (by decide)), if_neg (q_in hW (by decide)), q_n (by omega)]
      unfold f_X13_readWants_j90
      have fin : ∀ E3 : JD, qp_mF u E2 E3 → (∀ y, y ≠ u → y ≠ u + 8 → y ≠ u + 9 → E3.1 y = E2.1 y) → (∀ k, k ≠ 6 → k ≠ 21 → E3.1 u k = E2.1 u k) → E3.1 u 6 = Int32.ofNat (W + 1) → (E3.1 u 21 = if x = 0 then E2.1 u 21 else E2.1 u 21 ||| ((1 : Int32) <<< (Int32.ofNat W &&& 31))) → E3.1 (u + 8) = upd (E2.1 (u + 8)) W (Int32.ofNat p) → E3.1 (u + 9) = upd (E2.1 (u + 9)) W (Int32.ofNat g) → E3.2 = E2.2 → qp_O b u D0 E0 (qp_ST B N lo b u D0 E0) (some (true, D3)) (some E3) := by
        intro E3 k1 k2 k3 k4 k5 k6 k7 k8
        have s1 : ∀ y, y ≠ 57 → y ≠ u → y ≠ u + 8 → y ≠ u + 9 → E3.1 y = E1.1 y := fun y y0 y1 y2 y3 => (k2 y y1 y2 y3).trans (z4 y y0)
        refine z6 E3 G P F (W + 1) L Q k1 (k2 57 (by omega) (by omega) (by omega)) (by rw [k8]) ?_ rfl ?_ ?_ ?_ ?_
        · refine qp_Lwant (A := q_rows D1 b) (T := q_rows E1 u) M1.2.2.2.1 hW (p := p) (g := g) (by omega) (by omega) hx r9 r90 r10 r11 r12 (fun j h1 h2 => r1 (b + j) (by omega) (by omega) (by omega) (by omega)) (fun k h1 h2 h3 => (k3 k h1 h3).trans (by rw [z4 u (by omega)]; rfl)) k4 ?_ ?_ ?_ (fun j h1 h2 h3 h4 => s1 (u + j) (by omega) (by omega) (by omega) (by omega))
          · show E3.1 u 21 = _
            rw [k5, z4 u (by omega)]
            rfl
          · show E3.1 (u + 8) = _
            rw [k6, z4 (u + 8) (by omega)]
            rfl
          · show E3.1 (u + 9) = _
            rw [k7, z4 (u + 9) (by omega)]
            rfl
        · rw [k3 9 (by decide) (by decide), z4 u (by omega)]; exact M1.2.2.2.2.1.2.1
        · rw [r1 20 (by omega) (by omega) (by omega) (by omega), r1 21 (by omega) (by omega) (by omega) (by omega), rl, k8, z5 (u + 12) (by omega), s1 (u + 13) (by omega) (by omega) (by omega) (by omega), s1 (u + 14) (by omega) (by omega) (by omega) (by omega)]
          exact M1.2.2.2.2.1.2.2
        · rw [k3 0 (by decide) (by decide), z4 u (by omega)]
        · rw [k3 1 (by decide) (by decide), z4 u (by omega)]
      rcases hx with hx | hx
      · subst hx
        rw [if_pos rfl]
        have v6 : (j_sI (j_sI E2 (u + 8) W (Int32.ofNat p)) (u + 9) W (Int32.ofNat g)).1 u 6 + 1 = Int32.ofNat (W + 1) := by rw [q_sI_o (by omega), q_sI_o (by omega), w6, q_s]
        rw [v6]
        refine fin _ ((((qp_mF.refl u E2).sI (by omega) (by omega) _ _).sI (by omega) (by omega) _ _).sI (by omega) (by omega) _ _) (fun y y1 y2 y3 => by rw [q_sI_o y1, q_sI_o y3, q_sI_o y2]) (fun k h1 h2 => by rw [q_sI_ao _ _ _ h1, q_sI_o (by omega), q_sI_o (by omega)]) (q_sI_aa _ _ _ _) ?_ ?_ ?_ rfl
        · rw [if_pos rfl, q_sI_ao _ _ _ (by decide), q_sI_o (by omega), q_sI_o (by omega)]
        · rw [q_sI_o (by omega), q_sI_o (by omega), q_sI_a]
        · rw [q_sI_o (by omega), q_sI_a, q_sI_o (by omega)]
      · subst hx
        rw [if_neg (by decide)]
        generalize hE : j_sI (j_sI (j_sI E2 (u + 8) W (Int32.ofNat p)) (u + 9) W (Int32.ofNat g)) u 21 (E2.1 u 21 ||| ((1 : Int32) <<< (Int32.ofNat W &&& 31))) = Ey
        have v6 : Ey.1 u 6 + 1 = Int32.ofNat (W + 1) := by rw [← hE, q_sI_ao _ _ _ (by decide), q_sI_o (by omega), q_sI_o (by omega), w6, q_s]
        rw [v6, ← hE]
        refine fin _ (((((qp_mF.refl u E2).sI (by omega) (by omega) _ _).sI (by omega) (by omega) _ _).sI (by omega) (by omega) _ _).sI (by omega) (by omega) _ _) (fun y y1 y2 y3 => by rw [q_sI_o y1, q_sI_o y1, q_sI_o y3, q_sI_o y2]) (fun k h1 h2 => by rw [q_sI_ao _ _ _ h1, q_sI_ao _ _ _ h2, q_sI_o (by omega), q_sI_o (by omega)]) (q_sI_aa _ _ _ _) ?_ ?_ ?_ rfl
        · rw [if_neg (by decide), q_sI_ao _ _ _ (by decide), q_sI_aa]
        · rw [q_sI_o (by omega), q_sI_o (by omega), q_sI_o (by omega), q_sI_a]
        · rw [q_sI_o (by omega), q_sI_o (by omega), q_sI_a, q_sI_o (by omega)]
    · rw [show f_X6_toldNumber D1 3 = _ from a3, show f_X13_knownOne u E1 2 = _ from a4, Option.bind_some, Option.bind_some]
      dsimp only
      rw [if_pos rfl, qo_go (qp_fl9 _ _), Option.bind_some, Option.bind_some]
      dsimp only
      rw [if_pos (qp_fl9 _ _)]
      exact qp_O.bad t1 M1.1.1 M1.1.2 c1 c6 rfl rfl
  · rw [show f_X6_toldNumber D 1 = _ from a1, show f_X13_knownOne u E 0 = _ from a2, Option.bind_some, Option.bind_some]
    dsimp only
    rw [if_pos rfl, qo_go (qp_fl9 _ _), Option.bind_some, Option.bind_some]
    dsimp only
    rw [qo_known (qp_fl9 _ _) (hn _) n15, Option.bind_some]
    dsimp only
    rw [qo_go (qp_fl9 _ _), Option.bind_some, Option.bind_some]
    dsimp only
    rw [if_pos (qp_fl9 _ _)]
    exact qp_O.bad t h.1.1 h.1.2 c1 c6 rfl rfl
end QS
