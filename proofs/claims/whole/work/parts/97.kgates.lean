/-! tier two: land: the line of a gate on both sides -/
theorem qp_owlt {κ : Int32} {p mm h P : Nat} (hp : p < P) (hm : mm < 2 ^ P) : qp_ow κ p mm h < 2 ^ P := by
  have h1 : 2 ^ p < 2 ^ P := Nat.pow_lt_pow_right (by decide) hp
  have h0 : 0 < 2 ^ P := Nat.pow_pos (by decide)
  unfold qp_ow
  split
  · split
    · exact hm
    · split
      · exact h0
      · exact h1
  · split
    · exact h1
    · split
      · exact hm
      · exact h0
section QS
variable {B : Nat → Int32} {N lo b u G P F W L Q m : Nat} {D0 E0 D E : JD}
theorem qp_gate (hB : ∀ i, q_isb (B i)) (hb : b = 42 ∨ b = 4) (hu : 68 ≤ u) (h : qp_M B N b u D0 E0 G P F W L Q (P + F + G) D E) (ht : D.1 3 2 = 1) (hG : G < 6) (t : qp_T B N lo D E) {Ex : JD} (hl : f_X13_lineBegins u Ex (Ex.1 u 4) 6 = some E) : qp_O b u D0 E0 (qp_ST B N lo b u D0 E0) (f_X6_readGate b D) (f_X13_readGate u Ex) := by
  have bd := h.2.2.2.1.1.1
  have cG := h.2.2.2.1.1.2.1
  have cG1 : D.1 b 4 = Int32.ofNat G := cG.1
  unfold f_X6_readGate f_X13_readGate
  rw [hl, Option.bind_some]
  rcases qp_fresh hB hb hu h (by omega) t 3 (D.1 b 4) with ⟨D1, E1, w, a1, a2, M1, t1, x20, x21, x19, x32⟩ | ⟨c, x, c1, c6, a1, a2⟩
  · rw [a1, a2, Option.bind_some, Option.bind_some]
    dsimp only
    rw [if_pos rfl]
    have n15 := M1.n15
    have hn : ∀ c : Int32, (f_X13_flaw E1 c).1 u 9 = Int32.ofNat (P + F + G) := fun c => by rw [qp_flo _ _ (by omega)]; exact M1.2.2.2.2.1.2.1
    obtain ⟨κ, k1, k2, k3⟩ := qp_kind hB M1.2.1.2.2.2.2 M1.2.1.1 t1
    refine qp_O.eq rfl (k3 (fun y => f_X13_readGate_j75 u E1 w y)) ?_
    rw [k1, Option.bind_some]
    unfold f_X13_readGate_j75 j_let
    dsimp only
    rcases k2 with k2 | ⟨k2, x1⟩
    · rw [if_pos k2, if_pos k2, qo_g86 (qp_fl9 _ _) (hn _) n15]
      exact qp_O.bad (n := 1) t1 M1.1.1 M1.1.2 (by decide) (by decide) rfl rfl
    · have kn : ¬ (κ = -1) := by
        rcases k2 with rfl | rfl | rfl | rfl <;> decide
      rw [if_neg kn, if_neg kn]
      unfold f_X13_readGate_j86 f_X13_readKnown
      obtain ⟨D2, E2, b1, b2, f2, g2, M2, t2⟩ := qp_go hB (by omega) hu M1 x1
      rw [b1, b2, Option.bind_some, Option.bind_some]
      have hn2 : ∀ c : Int32, (f_X13_flaw E2 c).1 u 9 = Int32.ofNat (P + F + G) := fun c => by rw [qp_flo _ _ (by omega)]; exact M2.2.2.2.2.1.2.1
      rcases qp_told hB hu M2 t2 (s := 1) (by omega) (Or.inr ⟨rfl, by omega, 3, by decide, by rw [f2.1 20 (by decide)]; exact x20, by decide⟩) with ⟨f, p1, a3, a4, x2⟩ | ⟨c, c1, c6, a3, a4⟩
      · rw [show f_X6_toldNumber D2 2 = _ from a3, show f_X13_knownOne u E2 1 = _ from a4, Option.bind_some, Option.bind_some]
        dsimp only
        rw [if_neg (q_nem1 (by omega))]
        obtain ⟨D3, E3, b3, b4, f3, g3, M3, t3⟩ := qp_go hB (by omega) hu M2 x2
        rw [b3, b4, Option.bind_some, Option.bind_some, Option.bind_some]
        dsimp only
        unfold f_X13_readPart
        rcases qp_need hB (by omega) hu M3 t3 (k := 15) (k' := 34) (by decide) rfl with ⟨D4, E4, b5, b6, f4, g4, M4, t4⟩ | ⟨b5, b6⟩
        · rw [b5, b6, Option.bind_some, Option.bind_some]
          dsimp only
          rw [if_pos rfl]
          rcases qp_whole t4 99 (by decide) with ⟨v, v1, v2, v3, x4, v4⟩ | ⟨c, c1, c6, v2, v4⟩
          · rw [show f_X6_isWholeUpTo D4 99 = _ from v2, show f_X13_readWhole E4 0 99 = _ from v4]
            dsimp only
            rw [if_pos rfl, v3]
            obtain ⟨D5, E5, b7, b8, f5, g5, M5, t5⟩ := qp_go hB (by omega) hu M4 x4
            rw [b7, b8, Option.bind_some, Option.bind_some, Option.bind_some, Option.bind_some]
            dsimp only
            obtain ⟨η, q1, q2, q3⟩ := qp_hung hB M5.2.1.2.2.2.2 M5.2.1.1 t5
            refine qp_O.eq rfl (q3 (fun y => f_X13_readGate_j152 u E5 w κ (Int32.ofNat f) (Int32.ofNat v) y)) ?_
            rw [q1, Option.bind_some]
            unfold f_X13_readGate_j152 j_let
            dsimp only
            rcases q2 with q2 | ⟨q2, x5⟩
            · rw [if_pos q2, if_pos q2, qo_g165 (qp_fl9 _ _)]
              exact qp_O.bad (n := 1) t5 M5.1.1 M5.1.2 (by decide) (by decide) rfl rfl
            · have qn : ¬ (η = -1) := by
                rcases q2 with rfl | rfl | rfl <;> decide
              rw [if_neg qn, if_neg qn]
              have c5 := M5.2.2.2.1.1.2.1
              have c51 : D5.1 b 4 = Int32.ofNat G := c5.1
              have c52 : E5.1 u 4 = Int32.ofNat G := c5.2
              obtain ⟨l21, l22, ⟨p, pp, l23⟩, mm, pm, l24⟩ := M5.2.2.2.1.2.1 f (by omega)
              have m32 := q_p5 (by omega) pm
              obtain ⟨D6, d0, r1, r0, r4, r6, r7, s3, s4, s5, s7, s8, so, rl, rf⟩ := qp_addG (w := v) (κ := κ) (η := η) (show 4 ≤ b by omega) hG (show p < 5 by omega) m32 (show f < 4 by omega) c51 l23 l24
              rw [d0, Option.bind_some]
              unfold f_X13_readGate_j165
              obtain ⟨D7, E6, z1, z2, z3, z4, z5, z6⟩ := qp_tail hB hb hu M5 (by rw [f5.1 3 (by decide), f4.1 3 (by decide), f3.1 3 (by decide), f2.1 3 (by decide)]; exact x32.trans ht) x5 rf (r1 1 (by omega) (by omega) (by omega) (by omega) (by omega) (by omega)) (r1 3 (by omega) (by omega) (by omega) (by omega) (by omega) (by omega)) (r0 0 (by decide) (by decide) (by decide)) (r0 1 (by decide) (by decide) (by decide))
              rw [z1, z2, Option.bind_some, Option.bind_some, if_neg z3]
              have w4 : E6.1 u 4 = Int32.ofNat G := by rw [z4 u (by omega)]; exact c52
              have w9 : E6.1 u 9 = Int32.ofNat (P + F + G) := by rw [z4 u (by omega)]; exact M5.2.2.2.2.1.2.1
              obtain ⟨E7, n1, n2, n3, n4, n5, n6, n7, n8, n9⟩ := qp_names hu w9 (by omega) w 2 (E6.1 u 4)
              rw [n1, Option.bind_some, n3 4 (by decide), w4, if_neg (q_in hG (by decide)), if_neg (q_in hG (by decide)), if_neg (q_in hG (by decide)), if_neg (q_in hG (by decide)), q_n (by omega), q_s]
              generalize hE8 : j_sI (j_sI (j_sI (j_sI (j_sI E7 (u + 3) G κ) (u + 4) G (Int32.ofNat f)) (u + 5) G (Int32.ofNat v)) (u + 6) G η) u 4 (Int32.ofNat (G + 1)) = E8
              have y1 : ∀ x, x ≠ 57 → x ≠ u → x ≠ u + 3 → x ≠ u + 4 → x ≠ u + 5 → x ≠ u + 6 → x ≠ u + 13 → x ≠ u + 14 → E8.1 x = E5.1 x := fun x o1 o2 o3 o4 o5 o6 o7 o8 => by rw [← hE8, q_sI_o o2, q_sI_o o6, q_sI_o o5, q_sI_o o4, q_sI_o o3, n2 x o2 o7 o8, z4 x o1]
              have y0 : ∀ k, k ≠ 4 → k ≠ 9 → E8.1 u k = E5.1 u k := fun k o1 o2 => by rw [← hE8, q_sI_ao _ _ _ o1, q_sI_o (by omega), q_sI_o (by omega), q_sI_o (by omega), q_sI_o (by omega), n3 k o2, z4 u (by omega)]
              have y9 : E8.1 u 9 = Int32.ofNat (P + F + G + 1) := by rw [← hE8, q_sI_ao _ _ _ (by decide), q_sI_o (by omega), q_sI_o (by omega), q_sI_o (by omega), q_sI_o (by omega), n4]
              have y4 : E8.1 u 4 = Int32.ofNat (G + 1) := by rw [← hE8, q_sI_aa]
              have u3 : E8.1 (u + 3) = upd (E5.1 (u + 3)) G κ := by rw [← hE8, q_sI_o (by omega), q_sI_o (by omega), q_sI_o (by omega), q_sI_o (by omega), q_sI_a, n2 _ (by omega) (by omega) (by omega), z4 _ (by omega)]
              have u4 : E8.1 (u + 4) = upd (E5.1 (u + 4)) G (Int32.ofNat f) := by rw [← hE8, q_sI_o (by omega), q_sI_o (by omega), q_sI_o (by omega), q_sI_a, q_sI_o (by omega), n2 _ (by omega) (by omega) (by omega), z4 _ (by omega)]
              have u5 : E8.1 (u + 5) = upd (E5.1 (u + 5)) G (Int32.ofNat v) := by rw [← hE8, q_sI_o (by omega), q_sI_o (by omega), q_sI_a, q_sI_o (by omega), q_sI_o (by omega), n2 _ (by omega) (by omega) (by omega), z4 _ (by omega)]
              have u6 : E8.1 (u + 6) = upd (E5.1 (u + 6)) G η := by rw [← hE8, q_sI_o (by omega), q_sI_a, q_sI_o (by omega), q_sI_o (by omega), q_sI_o (by omega), n2 _ (by omega) (by omega) (by omega), z4 _ (by omega)]
              have u13 : E8.1 (u + 13) = upd (E5.1 (u + 13)) (P + F + G) 2 := by rw [← hE8, q_sI_o (by omega), q_sI_o (by omega), q_sI_o (by omega), q_sI_o (by omega), q_sI_o (by omega), n5, z4 _ (by omega)]
              have u14 : E8.1 (u + 14) = upd (E5.1 (u + 14)) (P + F + G) (Int32.ofNat G) := by rw [← hE8, q_sI_o (by omega), q_sI_o (by omega), q_sI_o (by omega), q_sI_o (by omega), q_sI_o (by omega), n6, z4 _ (by omega), w4]
              have ul : E8.2 = E7.2 := by rw [← hE8]; rfl
              have u57 : E8.1 57 = E6.1 57 := by rw [← hE8, q_sI_o (by omega), q_sI_o (by omega), q_sI_o (by omega), q_sI_o (by omega), q_sI_o (by omega), n2 _ (by omega) (by omega) (by omega)]
              have uf : qp_mF u E6 E8 := by
                rw [← hE8]
                exact ((((n9.sI (by omega) (by omega) _ _).sI (by omega) (by omega) _ _).sI (by omega) (by omega) _ _).sI (by omega) (by omega) _ _).sI (by omega) (by omega) _ _
              have v20 : D6.1 20 = D5.1 20 := r1 20 (by omega) (by omega) (by omega) (by omega) (by omega) (by omega)
              have v21 : D6.1 21 = D5.1 21 := r1 21 (by omega) (by omega) (by omega) (by omega) (by omega) (by omega)
              refine z6 E8 (G + 1) P F W L Q uf u57 (by rw [ul]; exact n8) ?_ (by omega) ?_ ?_ (y0 0 (by decide) (by decide)) (y0 1 (by decide) (by decide))
              · have tf1 : E8.1 (u + 1) f = Int32.ofNat p := by rw [y1 _ (by omega) (by omega) (by omega) (by omega) (by omega) (by omega) (by omega) (by omega)]; exact l21.trans l23
                have tf2 : E8.1 (u + 2) f = Int32.ofNat mm := by rw [y1 _ (by omega) (by omega) (by omega) (by omega) (by omega) (by omega) (by omega) (by omega)]; exact l22.trans l24
                have tf4 : E8.1 (u + 4) G = Int32.ofNat f := by rw [u4, q_upd_a]
                have tf3 : E8.1 (u + 3) G = κ := by rw [u3, q_upd_a]
                refine qp_Lgate (A := q_rows D5 b) (T := q_rows E5 u) M5.2.2.2.1 hG k2 q2 (f := f) (w := v) (by omega) v1 r0 r4 r6 r7 s3 s4 s5 s7 s8 (fun h hh => ⟨qp_ow κ p mm h, qp_owlt pp pm, (so h hh).1, ?_, (so h hh).2⟩) (fun j o1 o2 => r1 (b + j) (by omega) (by omega) (by omega) (by omega) (by omega) (by omega)) y0 y4 u3 u4 u5 u6 (fun j o1 o2 => y1 (u + j) (by omega) (by omega) (by omega) (by omega) (by omega) (by omega) (by omega) (by omega))
                have := qp_owM (t1 := E8.1 (u + 1)) (t2 := E8.1 (u + 2)) (t3 := E8.1 (u + 3)) (t4 := E8.1 (u + 4)) hG (show p < 5 by omega) tf4 (by omega) tf1 tf2 hh
                rw [tf3] at this
                exact this
              · rw [y9]
                congr 1
              · rw [v20, v21, rl, u13, u14, ul, n7, z5 (u + 12) (by omega)]
                refine qp_NMs (s := 2) (v := G) M5.2.2.2.2.1.2.2 (by omega) (by omega) (by omega) (by omega) ?_ ?_ ?_ (by omega)
                · rw [f5.1 20 (by decide), f4.1 20 (by decide), f3.1 20 (by decide), f2.1 20 (by decide)]; exact x20
                · rw [f5.1 21 (by decide), f4.1 21 (by decide), f3.1 21 (by decide), f2.1 21 (by decide)]; exact x21.trans cG1
                · rw [f5.2.2 19 (by decide), f4.2.2 19 (by decide), f3.2.2 19 (by decide), f2.2.2 19 (by decide)]; exact x19
          · rw [show f_X6_isWholeUpTo D4 99 = _ from v2, show f_X13_readWhole E4 0 99 = _ from v4]
            dsimp only
            rw [if_neg (by decide), Option.bind_some, Option.bind_some]
            refine qp_O.eq rfl (qo_g86t (qp_fl9 _ _) _ _ _ _) ?_
            exact qp_O.bad t4 M4.1.1 M4.1.2 c1 c6 rfl rfl
        · rw [b5, b6, Option.bind_some, Option.bind_some]
          dsimp only
          rw [if_neg (by decide), qo_wh (qp_fl9 _ _), Option.bind_some, Option.bind_some]
          refine qp_O.eq rfl (qo_g86t (qp_fl9 _ _) _ _ _ _) ?_
          exact qp_O.bad t3 M3.1.1 M3.1.2 (by decide) (by decide) rfl rfl
      · rw [show f_X6_toldNumber D2 2 = _ from a3, show f_X13_knownOne u E2 1 = _ from a4, Option.bind_some, Option.bind_some]
        dsimp only
        rw [if_pos rfl, qo_go (qp_fl9 _ _), Option.bind_some, Option.bind_some]
        dsimp only
        rw [qo_part (qp_fl9 _ _), Option.bind_some]
        refine qp_O.eq rfl (qo_g86t (qp_fl9 _ _) _ _ _ _) ?_
        exact qp_O.bad t2 M2.1.1 M2.1.2 c1 c6 rfl rfl
  · rw [a1, a2, Option.bind_some, Option.bind_some]
    dsimp only
    have n15 := h.n15
    have hn : ∀ c : Int32, (f_X13_flaw E c).1 u 9 = Int32.ofNat (P + F + G) := fun c => by rw [qp_flo _ _ (by omega)]; exact h.2.2.2.2.1.2.1
    rw [if_neg (by decide), qo_isW (qp_fl9 _ _), qo_isW (qp_fl9 _ _), qo_isW (qp_fl9 _ _), qo_isW (qp_fl9 _ _)]
    refine qp_O.eq rfl (show _ = some (f_X13_flaw E (Int32.ofNat c)) from (show f_X13_readGate_j75 u (f_X13_flaw E (Int32.ofNat c)) x (-1) = _ from qo_g75 (qp_fl9 _ _) (hn _) n15 _ _)) ?_
    exact qp_O.bad t h.1.1 h.1.2 c1 c6 rfl rfl
end QS
