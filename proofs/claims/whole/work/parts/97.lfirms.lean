/-! tier two: land: the line of a firm -/
theorem qp_whl {S E : Type} {F : S → Option (S ⊕ E)} {s s' : S} {n : Nat} (h : F s = some (.inl s')) : j_wh F (n + 1) s = j_wh F n s' := by
  show (F s).bind _ = _
  rw [h]; rfl
theorem qp_whr {S E : Type} {F : S → Option (S ⊕ E)} {s : S} {e : E} {n : Nat} (h : F s = some (.inr e)) : j_wh F (n + 1) s = some e := by
  show (F s).bind _ = _
  rw [h]; rfl
theorem qp_fuel : ∃ n, j_fuel = n + 5000 := ⟨j_fuel - 5000, by unfold j_fuel; omega⟩
theorem qp_bits5 : ∀ mm : Fin 32, ∀ p : Fin 5, (f_X11_hasBit (Int32.ofNat mm.val) (Int32.ofNat p.val) = true ∨ (q_pc (mm.val ||| 2 ^ p.val) = q_pc mm.val + 1 ∧ Int32.ofNat mm.val ||| ((1 : Int32) <<< (Int32.ofNat p.val &&& 31)) = Int32.ofNat (mm.val ||| 2 ^ p.val) ∧ q_pc mm.val ≤ 4)) := by decide +kernel
theorem qp_pc1 : ∀ p : Fin 5, q_pc (2 ^ p.val) = 1 ∧ (0 : Int32) ||| ((1 : Int32) <<< (Int32.ofNat p.val &&& 31)) = Int32.ofNat (2 ^ p.val) ∧ (1 : Int32) <<< (Int32.ofNat p.val &&& 31) = Int32.ofNat (2 ^ p.val) ∧ f_X11_hasBit 0 (Int32.ofNat p.val) = false := by decide +kernel
section QS
variable {B : Nat → Int32} {N lo b u G P F W L Q m : Nat} {D0 E0 D E : JD}
theorem qp_eats (t : qp_T B N lo D E) : ((D.1 1 4 = 4 ∧ f_X13_eats E 44 = (f_X13_goesOn E).bind (fun q => some (true, q))) ∨ (D.1 1 4 ≠ 4 ∧ f_X13_eats E 44 = some (false, E))) ∧ ((D.1 1 4 = 3 ∧ f_X13_eats E 59 = (f_X13_goesOn E).bind (fun q => some (true, q))) ∨ (D.1 1 4 ≠ 3 ∧ f_X13_eats E 59 = some (false, E))) := by
  obtain ⟨p, r, h1, h2, h3, e3, e5, e10, t⟩ := t
  have no : ∀ c : Int32, E.1 57 9 ≠ 4 → f_X13_eats E c = some (false, E) := fun c hc => by
    unfold f_X13_eats
    rw [if_neg hc]
    rfl
  have no2 : ∀ c v : Int32, E.1 57 9 = 4 → E.1 57 11 = v → v ≠ c → f_X13_eats E c = some (false, E) := fun c v hc h1 h2 => by
    unfold f_X13_eats
    rw [if_pos hc, h1, if_neg h2]
    rfl
  have yes : ∀ c : Int32, E.1 57 9 = 4 → E.1 57 11 = c → f_X13_eats E c = (f_X13_goesOn E).bind (fun q => some (true, q)) := fun c hc h1 => by
    unfold f_X13_eats
    rw [if_pos hc, if_pos h1]
    rfl
  rcases t with ⟨t4, t9, -⟩ | ⟨t4, t9, -⟩ | ⟨t4, t9, -⟩ | ⟨t4, t9, -, t11, -⟩ | ⟨t4, t9, -, t11, -⟩ | ⟨t4, t9⟩
  · exact ⟨Or.inr ⟨by rw [t4]; decide, no _ (by rw [t9]; decide)⟩, Or.inr ⟨by rw [t4]; decide, no _ (by rw [t9]; decide)⟩⟩
  · exact ⟨Or.inr ⟨by rw [t4]; decide, no _ (by rw [t9]; decide)⟩, Or.inr ⟨by rw [t4]; decide, no _ (by rw [t9]; decide)⟩⟩
  · exact ⟨Or.inr ⟨by rw [t4]; decide, no _ (by rw [t9]; decide)⟩, Or.inr ⟨by rw [t4]; decide, no _ (by rw [t9]; decide)⟩⟩
  · exact ⟨Or.inr ⟨by rw [t4]; decide, no2 _ _ t9 t11 (by decide)⟩, Or.inl ⟨t4, yes _ t9 t11⟩⟩
  · exact ⟨Or.inl ⟨t4, yes _ t9 t11⟩, Or.inr ⟨by rw [t4]; decide, no2 _ _ t9 t11 (by decide)⟩⟩
  · exact ⟨Or.inr ⟨by rw [t4]; decide, no _ (by rw [t9]; decide)⟩, Or.inr ⟨by rw [t4]; decide, no _ (by rw [t9]; decide)⟩⟩
/-- what the class does behind a person -/
def qp_Zc (b : Nat) (Fi : Int32) (fc : Nat) (mm c : Int32) (D : JD) : Option ((Bool × JD) ⊕ (Int32 × JD)) := if D.1 1 4 = 4 then (f_X9_advance D).bind (fun q => j_wh (f_X6_readFirm_w23 b Fi) fc (mm, c, q)) else some (.inr (mm, D))
theorem qp_Zj {Fi : Int32} {fc : Nat} {mm c : Int32} {s : Int32 × Int32 × JD} {D1 D2 : JD} (h : f_X6_readFirm_w23 b Fi s = f_X6_readFirm_j82_23 b Fi D1 mm c) (ha : f_X9_advance D1 = some D2) : j_wh (f_X6_readFirm_w23 b Fi) (fc + 1) s = qp_Zc b Fi fc mm (c + 1) D2 := by
  show (f_X6_readFirm_w23 b Fi s).bind _ = _
  rw [h]
  unfold f_X6_readFirm_j82_23 qp_Zc
  rw [ha, Option.bind_some]
  by_cases z : D2.1 1 4 = 4
  · rw [if_pos z, if_pos z]
    cases f_X9_advance D2 <;> rfl
  · rw [if_neg z, if_neg z]
    rfl
theorem qp_firmL (hB : ∀ i, q_isb (B i)) (hb : b = 42 ∨ b = 4) (hu : 68 ≤ u) {Fi hd : Int32} {w : Int64} : ∀ (k c mm fc fr : Nat) (D E : JD), 1 ≤ c → c + k = 5 → k + 3 < fc → k + 3 < fr → mm < 2 ^ P → q_pc mm = c → qp_M B N b u D0 E0 G P F W L Q (P + F + G + 1) D E → P + F + G + 1 ≤ 15 → D.1 20 (P + F + G) = Int32.ofNat 2 → qp_T B N lo D E → (∃ (mm' : Nat) (D' E' : JD), qp_Zc b Fi fc (Int32.ofNat mm) (Int32.ofNat c) D = some (.inr (Int32.ofNat mm', D')) ∧ j_wh (f_X13_readFirm_w28 u w hd) fr (Int32.ofNat mm, E) = some (Int32.ofNat mm', E') ∧ mm' < 2 ^ P ∧ qp_cf D D' ∧ qp_mf E E' ∧ qp_M B N b u D0 E0 G P F W L Q (P + F + G + 1) D' E' ∧ qp_T B N lo D' E') ∨ (∃ (s : Int32) (D' E' : JD), qp_Zc b Fi fc (Int32.ofNat mm) (Int32.ofNat c) D = some (.inl (false, D')) ∧ j_wh (f_X13_readFirm_w28 u w hd) fr (Int32.ofNat mm, E) = some (s, E') ∧ qp_cF b D0 D' ∧ qp_mF u E0 E' ∧ qp_F D' E') := by
  intro k
  induction k using Nat.strongRecOn with
  | ind k ih =>
    intro c mm fc fr D E hc hk hfc hfr hmm hpc h h15 x20 t
    have bd := h.2.2.2.1.1.1
    have m32 := q_p5 (by omega) hmm
    obtain ⟨fc, rfl⟩ : ∃ n, fc = n + 1 := ⟨fc - 1, by omega⟩
    obtain ⟨fr, rfl⟩ : ∃ n, fr = n + 1 + 1 := ⟨fr - 2, by omega⟩
    unfold qp_Zc
    rcases (qp_eats t).1 with ⟨e4, ea⟩ | ⟨e4, ea⟩
    · rw [if_pos e4]
      obtain ⟨D1, E1, b1, b2, f1, g1, M1, t1⟩ := qp_go hB (by omega) hu h (t.X (by rw [e4]; decide))
      rw [b1, Option.bind_some]
      rw [b2, Option.bind_some] at ea
      have x20' : D1.1 20 (P + F + G) = Int32.ofNat 2 := by rw [f1.1 20 (by decide)]; exact x20
      have c5 : ¬ ((5 : Int32) < Int32.ofNat c) := fun z => by
        have := (q_lt (n := 5) (by decide) (by omega)).mp z
        omega
      have c0 : ¬ (Int32.ofNat c = 0) := fun z => by
        have := (q_eq (i := 0) (by omega) (by decide)).mp z
        omega
      have over : ∀ (x y : Int32) (v : Int32), f_X13_readFirm_j67_28 u w hd (f_X13_flaw E1 v) x y = some (.inl (x ||| ((1 : Int32) <<< (y &&& 31)), f_X13_flaw E1 v)) := fun x y v => by
        unfold f_X13_readFirm_j67_28
        rw [qo_go (qp_fl9 _ _)]
        rfl
      have stop : ∀ (x : Int32) (v : Int32), j_wh (f_X13_readFirm_w28 u w hd) (fr + 1) (x, f_X13_flaw E1 v) = some (x, f_X13_flaw E1 v) := fun x v => by
        refine qp_whr ?_
        unfold f_X13_readFirm_w28
        dsimp only
        rw [qo_eats (qp_fl9 _ _), Option.bind_some]
        rfl
      rcases qp_told hB hu M1 t1 (s := 0) (by omega) (Or.inr ⟨rfl, h15, 2, by decide, x20', by decide⟩) with ⟨p, p1, a3, a4, x2⟩ | ⟨v, v1, v6, a3, a4⟩
      · have pb := qp_bits5 ⟨mm, m32⟩ ⟨p, by omega⟩
        dsimp only at pb
        by_cases hb1 : f_X11_hasBit (Int32.ofNat mm) (Int32.ofNat p) = true
        · refine Or.inr ⟨Int32.ofNat mm ||| ((1 : Int32) <<< (Int32.ofNat p &&& 31)), _, _, qp_whr ?_, (qp_whl ?_).trans (stop _ (Int32.ofNat 3)), M1.1.1.fail (Int32.ofNat 3), M1.1.2.flaw (Int32.ofNat 3), qp_fl t1.pl.1 t1.pl.2 (by decide) (by decide)⟩
          · unfold f_X6_readFirm_w23 j_let
            dsimp only
            rw [if_neg c5, show f_X6_toldNumber D1 1 = _ from a3, Option.bind_some]
            dsimp only
            rw [if_neg (q_nem1 (by omega)), if_pos hb1]
            rfl
          · unfold f_X13_readFirm_w28 j_let
            dsimp only
            rw [ea, Option.bind_some]
            dsimp only
            rw [if_pos rfl, show f_X13_knownOne u E1 0 = _ from a4, Option.bind_some]
            dsimp only
            rw [if_neg t1.pl.2, q_bit, if_pos hb1]
            exact over _ _ _
        · obtain ⟨pc1, pc2, pc3⟩ := pb.resolve_left hb1
          have mm2 : mm ||| 2 ^ p < 2 ^ P := qp_or2 (by omega) hmm (by omega)
          obtain ⟨D2, E2, b3, b4, f2, g2, M2, t2⟩ := qp_go hB (by omega) hu M1 x2
          have st : f_X6_readFirm_w23 b Fi (Int32.ofNat mm, Int32.ofNat c, D1) = f_X6_readFirm_j82_23 b Fi D1 (Int32.ofNat (mm ||| 2 ^ p)) (Int32.ofNat c) := by
            unfold f_X6_readFirm_w23 j_let
            dsimp only
            rw [if_neg c5, show f_X6_toldNumber D1 1 = _ from a3, Option.bind_some]
            dsimp only
            rw [if_neg (q_nem1 (by omega)), if_neg hb1, if_neg c0, pc2]
          have sr : f_X13_readFirm_w28 u w hd (Int32.ofNat mm, E) = some (.inl (Int32.ofNat (mm ||| 2 ^ p), E2)) := by
            unfold f_X13_readFirm_w28 j_let
            dsimp only
            rw [ea, Option.bind_some]
            dsimp only
            rw [if_pos rfl, show f_X13_knownOne u E1 0 = _ from a4, Option.bind_some]
            dsimp only
            rw [if_neg t1.pl.2, q_bit, if_neg hb1]
            unfold f_X13_readFirm_j67_28
            rw [b4, Option.bind_some, pc2]
          rw [qp_Zj st b3, qp_whl sr, q_s]
          rcases ih (k - 1) (by omega) (c + 1) (mm ||| 2 ^ p) fc (fr + 1) D2 E2 (by omega) (by omega) (by omega) (by omega) mm2 (by omega) M2 h15 (by rw [f2.1 20 (by decide)]; exact x20') t2 with ⟨mm', D', E', r1, r2, r3, r4, r5, r6, r7⟩ | r
          · exact Or.inl ⟨mm', D', E', r1, r2, r3, (f1.trans f2).trans r4, (g1.trans g2).trans r5, r6, r7⟩
          · exact Or.inr r
      · refine Or.inr ⟨Int32.ofNat mm ||| ((1 : Int32) <<< ((0 : Int32) &&& 31)), _, _, qp_whr ?_, (qp_whl ?_).trans (stop _ (Int32.ofNat v)), M1.1.1.fail (Int32.ofNat v), M1.1.2.flaw (Int32.ofNat v), qp_fl t1.pl.1 t1.pl.2 v1 v6⟩
        · unfold f_X6_readFirm_w23 j_let
          dsimp only
          rw [if_neg c5, show f_X6_toldNumber D1 1 = _ from a3, Option.bind_some]
          dsimp only
          rw [if_pos rfl]
        · unfold f_X13_readFirm_w28 j_let
          dsimp only
          rw [ea, Option.bind_some]
          dsimp only
          rw [if_pos rfl, show f_X13_knownOne u E1 0 = _ from a4, Option.bind_some]
          dsimp only
          rw [if_pos (qp_fl9 _ _)]
          exact over _ _ _
    · rw [if_neg e4]
      refine Or.inl ⟨mm, D, E, rfl, qp_whr ?_, hmm, qp_cf.refl D, qp_mf.refl E, h, t⟩
      unfold f_X13_readFirm_w28
      dsimp only
      rw [ea, Option.bind_some]
      rfl
theorem qp_firm (hB : ∀ i, q_isb (B i)) (hb : b = 42 ∨ b = 4) (hu : 68 ≤ u) (h : qp_M B N b u D0 E0 G P F W L Q (P + F + G) D E) (ht : D.1 3 2 = 1) (hF : F < 4) (t : qp_T B N lo D E) {Ex : JD} (hl : f_X13_lineBegins u Ex (Ex.1 u 3) 4 = some E) : qp_O b u D0 E0 (qp_ST B N lo b u D0 E0) (f_X6_readFirm b D) (f_X13_readFirm u Ex) := by
  have bd := h.2.2.2.1.1.1
  have cF := h.2.2.2.1.1.2.2.2.1
  have cF1 : D.1 b 3 = Int32.ofNat F := cF.1
  obtain ⟨fu, hfu⟩ := qp_fuel
  unfold f_X6_readFirm f_X13_readFirm
  rw [hl, Option.bind_some, hfu]
  rcases qp_fresh hB hb hu h (by omega) t 2 (D.1 b 3) with ⟨D1, E1, w, a1, a2, M1, t1, x20, x21, x19, x32⟩ | ⟨c, x, c1, c6, a1, a2⟩
  · rw [a1, a2, Option.bind_some, Option.bind_some]
    dsimp only
    rw [if_pos rfl, cF1]
    unfold f_X13_readKnown j_let
    rcases qp_told hB hu M1 t1 (s := 0) (by omega) (Or.inr ⟨rfl, by omega, 2, by decide, x20, by decide⟩) with ⟨p, p1, a3, a4, x2⟩ | ⟨v, v1, v6, a3, a4⟩
    · rw [show f_X13_knownOne u E1 0 = _ from a4, Option.bind_some]
      dsimp only
      obtain ⟨q1, q2, q3, q4⟩ := qp_pc1 ⟨p, by omega⟩
      dsimp only at q1 q2 q3 q4
      -- the class writes the head, then goes on
      have M1' : qp_M B N b u D0 E0 G P F W L Q (P + F + G + 1) (j_sI D1 (b + 1) F (Int32.ofNat p)) E1 := by
        obtain ⟨⟨m1, m1'⟩, m2, m3, m4, ⟨m5, m6, m7⟩, m8⟩ := M1
        have eA : ∀ j, j ≠ 1 → q_rows (j_sI D1 (b + 1) F (Int32.ofNat p)) b j = q_rows D1 b j := fun j hj => q_sI_o (by omega)
        refine ⟨⟨m1.sI (by omega) (by omega) _ _, m1'⟩, ?_, ?_, ?_, ⟨?_, m6, ?_⟩, ?_⟩
        · unfold q_byx
          rw [q_sI_o (by omega), q_sI_o (by omega)]
          exact m2
        · rw [q_sI_o (by omega)]; exact m3
        · obtain ⟨h1, h2, h3⟩ := m4
          refine ⟨?_, fun f hf => ?_, ?_⟩
          · unfold qp_l1
            rw [eA 0 (by decide), eA 9 (by decide)]
            exact h1
          · show _ = (j_sI D1 (b + 1) F (Int32.ofNat p)).1 (b + 1) f ∧ _
            rw [eA 2 (by decide), show q_rows (j_sI D1 (b + 1) F (Int32.ofNat p)) b 1 f = D1.1 (b + 1) f from q_sI_ao _ _ _ (by omega), q_sI_ao _ _ _ (by omega)]
            exact h2 f hf
          · unfold qp_l3 qp_l4 qp_l5 qp_l6 qp_l8 q_L3 q_L4 at h3 ⊢
            rw [eA 0 (by decide), eA 3 (by decide), eA 4 (by decide), eA 5 (by decide), eA 6 (by decide), eA 7 (by decide), eA 8 (by decide), eA 10 (by decide), eA 11 (by decide), eA 12 (by decide), eA 13 (by decide), eA 14 (by decide)]
            exact h3
        · rw [q_sI_o (by omega)]; exact m5
        · rw [q_sI_o (by omega), q_sI_o (by omega)]; exact m7
        · unfold qp_to
          rw [q_sI_o (by omega), q_sI_o (by omega)]
          exact m8
      obtain ⟨D2, E2, b1, b2, f2, g2, M2, t2⟩ := qp_go hB (by omega) hu M1' (x2.congr (q_sI_o (by omega)) rfl)
      rw [b2, Option.bind_some, Option.bind_some]
      dsimp only
      have st : f_X6_readFirm_w23 b (Int32.ofNat F) (0, 0, D1) = f_X6_readFirm_j82_23 b (Int32.ofNat F) (j_sI D1 (b + 1) F (Int32.ofNat p)) (Int32.ofNat (2 ^ p)) 0 := by
        unfold f_X6_readFirm_w23 j_let
        dsimp only
        rw [if_neg (by decide), show f_X6_toldNumber D1 1 = _ from a3, Option.bind_some]
        dsimp only
        rw [if_neg (q_nem1 (by omega)), q4, if_neg (by decide), if_pos rfl, q2, q_put_in (by omega) (by decide)]
      have zz := qp_Zj (fc := fu + 4999) st b1
      rw [show fu + 4999 + 1 = fu + 5000 from rfl] at zz
      rw [zz, q3]
      have e20 : D2.1 20 (P + F + G) = Int32.ofNat 2 := by rw [f2.1 20 (by decide), q_sI_o (by omega)]; exact x20
      have pP : 2 ^ p < 2 ^ P := Nat.pow_lt_pow_right (by decide) (by omega)
      rcases qp_firmL hB hb hu (Fi := Int32.ofNat F) (hd := Int32.ofNat p) (w := w) 4 1 (2 ^ p) (fu + 4999) (fu + 5000) D2 E2 (by omega) (by omega) (by omega) (by omega) pP q1 M2 (by omega) e20 t2 with ⟨mm, D3, E3, r1, r2, r3, r4, r5, M3, t3⟩ | ⟨s, D3, E3, r1, r2, r3, r4, r5⟩
      · rw [show ((0 : Int32) + 1) = Int32.ofNat 1 from rfl, r1, r2, Option.bind_some, Option.bind_some]
        dsimp only [Sum.elim_inr]
        rw [if_neg t3.pl.2, q_put_in (by omega) (by decide)]
        have c3 := M3.2.2.2.1.1.2.2.2.1
        have c31 : D3.1 b 3 = Int32.ofNat F := c3.1
        have c32 : E3.1 u 3 = Int32.ofNat F := c3.2
        have k1 : (j_sI D3 (b + 2) F (Int32.ofNat mm)).1 b 3 = Int32.ofNat F := by rw [q_sI_o (by omega)]; exact c31
        obtain ⟨E4, n1, n2, n3, n4, n5, n6, n7, n8, n9⟩ := qp_names hu M3.2.2.2.2.1.2.1 (by omega) w 1 (E3.1 u 3)
        rw [n1, Option.bind_some, n3 3 (by decide), c32, if_neg (q_in hF (by decide)), if_neg (q_in hF (by decide)), q_n (by omega), k1, q_s]
        generalize hD4 : j_sI (j_sI D3 (b + 2) F (Int32.ofNat mm)) b 3 (Int32.ofNat (F + 1)) = D4
        generalize hE5 : j_sI (j_sI (j_sI E4 (u + 1) F (Int32.ofNat p)) (u + 2) F (Int32.ofNat mm)) u 3 (Int32.ofNat (F + 1)) = E5
        have o1 : ∀ x, x ≠ b → x ≠ b + 2 → D4.1 x = D3.1 x := fun x z1 z2 => by rw [← hD4, q_sI_o z1, q_sI_o z2]
        have o0 : ∀ k, k ≠ 3 → D4.1 b k = D3.1 b k := fun k hk => by rw [← hD4, q_sI_ao _ _ _ hk, q_sI_o (by omega)]
        have o3 : D4.1 b 3 = Int32.ofNat (F + 1) := by rw [← hD4, q_sI_aa]
        have o2 : D4.1 (b + 2) = upd (D3.1 (b + 2)) F (Int32.ofNat mm) := by rw [← hD4, q_sI_o (by omega), q_sI_a]
        have ol : D4.2 = D3.2 := by rw [← hD4]; rfl
        have of : qp_cF b D0 D4 := by
          rw [← hD4]
          exact (M3.1.1.sI (by omega) (by omega) _ _).sI (by omega) (by omega) _ _
        have hd1 : D3.1 (b + 1) F = Int32.ofNat p := by rw [r4.1 _ (by omega), f2.1 _ (by omega), q_sI_aa]
        have y1 : ∀ x, x ≠ u → x ≠ u + 1 → x ≠ u + 2 → x ≠ u + 13 → x ≠ u + 14 → E5.1 x = E3.1 x := fun x z1 z2 z3 z4 z5 => by rw [← hE5, q_sI_o z1, q_sI_o z3, q_sI_o z2, n2 x z1 z4 z5]
        have y0 : ∀ k, k ≠ 3 → k ≠ 9 → E5.1 u k = E3.1 u k := fun k z1 z2 => by rw [← hE5, q_sI_ao _ _ _ z1, q_sI_o (by omega), q_sI_o (by omega), n3 k z2]
        have y3 : E5.1 u 3 = Int32.ofNat (F + 1) := by rw [← hE5, q_sI_aa]
        have y9 : E5.1 u 9 = Int32.ofNat (P + F + G + 1) := by rw [← hE5, q_sI_ao _ _ _ (by decide), q_sI_o (by omega), q_sI_o (by omega), n4]
        have u1 : E5.1 (u + 1) = upd (E3.1 (u + 1)) F (Int32.ofNat p) := by rw [← hE5, q_sI_o (by omega), q_sI_o (by omega), q_sI_a, n2 _ (by omega) (by omega) (by omega)]
        have u2 : E5.1 (u + 2) = upd (E3.1 (u + 2)) F (Int32.ofNat mm) := by rw [← hE5, q_sI_o (by omega), q_sI_a, q_sI_o (by omega), n2 _ (by omega) (by omega) (by omega)]
        have u13 : E5.1 (u + 13) = upd (E3.1 (u + 13)) (P + F + G) 1 := by rw [← hE5, q_sI_o (by omega), q_sI_o (by omega), q_sI_o (by omega), n5]
        have u14 : E5.1 (u + 14) = upd (E3.1 (u + 14)) (P + F + G) (Int32.ofNat F) := by rw [← hE5, q_sI_o (by omega), q_sI_o (by omega), q_sI_o (by omega), n6, c32]
        have ul : E5.2 = E4.2 := by rw [← hE5]; rfl
        have uf : qp_mF u E0 E5 := by
          rw [← hE5]
          exact (((M3.1.2.trans n9).sI (by omega) (by omega) _ _).sI (by omega) (by omega) _ _).sI (by omega) (by omega) _ _
        have e57 : E5.1 57 = E3.1 57 := y1 57 (by omega) (by omega) (by omega) (by omega) (by omega)
        have ht3 : D3.1 3 2 = 1 := by rw [r4.1 3 (by decide), f2.1 3 (by decide), q_sI_o (by omega)]; exact x32.trans ht
        refine ⟨true, D4, E5, rfl, rfl, of, uf, Or.inl ⟨rfl, G, P, F + 1, W, L, Q, ?_, t3.congr (o1 1 (by omega) (by omega)) (by rw [ol]) e57 (by rw [ul]; exact n8)⟩⟩
        refine M3.mk' ht3 of uf (by rw [o1 1 (by omega) (by omega)]) (o1 2 (by omega) (by omega)) (o1 3 (by omega) (by omega)) (by rw [e57]) (by rw [e57]) (y1 58 (by omega) (by omega) (by omega) (by omega) (by omega)) ?_ (by omega) ?_ ?_ (o0 0 (by decide)) (o0 1 (by decide)) (y0 0 (by decide) (by decide)) (y0 1 (by decide) (by decide))
        · refine qp_Lfirm (A := q_rows D3 b) (T := q_rows E3 u) M3.2.2.2.1 hF (p := p) (m := mm) (by omega) r3 o0 o3 ?_ o2 (fun j z1 z2 => o1 (b + j) (by omega) (by omega)) y0 y3 u1 u2 (fun j z1 z2 => y1 (u + j) (by omega) (by omega) (by omega) (by omega) (by omega))
          show D4.1 (b + 1) = upd (D3.1 (b + 1)) F (Int32.ofNat p)
          rw [o1 (b + 1) (by omega) (by omega), ← hd1]
          funext k
          by_cases z : k = F
          · subst z; rw [q_upd_a]
          · rw [q_upd_o z]
        · rw [y9]
          congr 1
          omega
        · rw [o1 20 (by omega) (by omega), o1 21 (by omega) (by omega), ol, u13, u14, ul, n7]
          refine qp_NMs (s := 1) (v := F) M3.2.2.2.2.1.2.2 (by omega) (by omega) (by omega) (by omega) ?_ ?_ ?_ (by omega)
          · rw [r4.1 20 (by decide)]; exact e20
          · rw [r4.1 21 (by decide), f2.1 21 (by decide), q_sI_o (by omega)]; exact x21.trans cF1
          · rw [r4.2.2 19 (by decide), f2.2.2 19 (by decide)]; exact x19
      · rw [show ((0 : Int32) + 1) = Int32.ofNat 1 from rfl, r1, r2, Option.bind_some, Option.bind_some]
        dsimp only [Sum.elim_inl]
        rw [if_pos r5.1]
        exact ⟨false, D3, E3, rfl, rfl, r3, r4, Or.inr ⟨rfl, r5⟩⟩
    · rw [show f_X13_knownOne u E1 0 = _ from a4, Option.bind_some]
      dsimp only
      rw [qo_go (qp_fl9 _ _), Option.bind_some, Option.bind_some]
      dsimp only
      have fw := qo_fw (u := u) (E := f_X13_flaw E1 (Int32.ofNat v)) (qp_fl9 _ _) w 0 ((1 : Int32) <<< ((0 : Int32) &&& 31))
      rw [hfu] at fw
      rw [fw, Option.bind_some]
      dsimp only
      rw [if_pos (qp_fl9 _ _)]
      have st : j_wh (f_X6_readFirm_w23 b (Int32.ofNat F)) (fu + 5000) (0, 0, D1) = some (.inl (false, (f_X6_fail D1 (Int32.ofNat v)).2)) := by
        refine qp_whr (n := fu + 4999) ?_
        unfold f_X6_readFirm_w23 j_let
        dsimp only
        rw [if_neg (by decide), show f_X6_toldNumber D1 1 = _ from a3, Option.bind_some]
        dsimp only
        rw [if_pos rfl]
      rw [st, Option.bind_some]
      exact qp_O.bad t1 M1.1.1 M1.1.2 v1 v6 rfl rfl
  · rw [a1, a2, Option.bind_some, Option.bind_some]
    dsimp only
    have n15 := h.n15
    have hn : ∀ c : Int32, (f_X13_flaw E c).1 u 9 = Int32.ofNat (P + F + G) := fun c => by rw [qp_flo _ _ (by omega)]; exact h.2.2.2.2.1.2.1
    rw [if_neg (by decide), qo_rk (qp_fl9 _ _) (hn _) n15, Option.bind_some]
    unfold j_let
    dsimp only
    have fw := qo_fw (u := u) (E := f_X13_flaw E (Int32.ofNat c)) (qp_fl9 _ _) x 0 ((1 : Int32) <<< ((0 : Int32) &&& 31))
    rw [hfu] at fw
    rw [fw, Option.bind_some]
    dsimp only
    rw [if_pos (qp_fl9 _ _)]
    exact qp_O.bad t h.1.1 h.1.2 c1 c6 rfl rfl
end QS
