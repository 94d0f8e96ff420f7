/-! tier two: land: a line -/
section QS
variable {B : Nat → Int32} {N lo b u G P F W L Q m : Nat} {D0 E0 D E : JD}
theorem qp_lb1 (h0 : E.1 u 0 ≠ -1) {c K : Int32} (h : c ≠ K) : f_X13_lineBegins u E c K = f_X13_goesOn E := by
  unfold f_X13_lineBegins f_X13_lineBegins_j10 f_X13_lineBegins_j27 j_let
  rw [if_neg h, if_neg h0]
  exact qp_bs _
theorem qp_lb2 (hu : u ≠ 57) (h0 : E.1 u 0 ≠ -1) {c K : Int32} (h : c = K) : f_X13_lineBegins u E c K = some (f_X13_flaw E 5) := by
  unfold f_X13_lineBegins f_X13_lineBegins_j10 f_X13_lineBegins_j27 j_let
  dsimp only
  rw [if_pos h, if_neg (by rw [qp_flo _ _ hu]; exact h0), qo_go (qp_fl9 _ _)]
  rfl
theorem qp_lb3 (h0 : E.1 u 0 = -1) {c K : Int32} (h : c ≠ K) : f_X13_lineBegins u E c K = some (f_X13_flaw E 6) := by
  unfold f_X13_lineBegins f_X13_lineBegins_j10 f_X13_lineBegins_j27 j_let
  dsimp only
  rw [if_neg h, if_pos h0, qo_go (qp_fl9 _ _)]
  rfl
theorem qp_rl (l : Int32) (hl : f_X6_lineOf (D.1 1) (D.1 2) = some l) (h1 : l ≠ -1) (h0 : l ≠ 0) : (D.1 3 2 = 0 → f_X6_readLine b D = some (false, (f_X6_fail D (Int32.ofNat 6)).2)) ∧ (D.1 3 2 = 1 → f_X6_isFull (D.1 b) (D.1 (b + 9)) l = true → f_X6_readLine b D = some (false, (f_X6_fail D (Int32.ofNat 5)).2)) ∧ (D.1 3 2 = 1 → f_X6_isFull (D.1 b) (D.1 (b + 9)) l = false → f_X6_readLine b D = (f_X9_advance D).bind (fun q => if l = 1 then f_X6_readPerson b q else if l = 2 then f_X6_readFirm b q else if l = 3 then f_X6_readGate b q else if l = 4 then f_X6_readPath b q else if l = 5 then f_X6_readWant b q 0 else if l = 6 then f_X6_readWant b q 1 else if l = 7 then f_X6_readLost b q else f_X6_readHad b q)) := by
  unfold f_X6_readLine j_let
  rw [hl, Option.bind_some, if_neg h1, if_neg h0]
  refine ⟨fun z => ?_, fun z y => ?_, fun z y => ?_⟩
  · rw [if_pos z]; rfl
  · rw [if_neg (by rw [z]; decide), if_pos y]; rfl
  · rw [if_neg (by rw [z]; decide), if_neg (by rw [y]; decide)]
    have e : ∀ x : Option (Bool × JD), (x.bind fun q => some (q.1, q.2)) = x := fun x => by cases x <;> rfl
    simp only [e]
theorem qp_line_1 (hB : ∀ i, q_isb (B i)) (hb : b = 42 ∨ b = 4) (hu : 68 ≤ u) (h : qp_M B N b u D0 E0 G P F W L Q (P + F + G) D E) (t : qp_T B N lo D E) (hl : f_X6_lineOf (D.1 1) (D.1 2) = some 1) (h4 : D.1 1 4 = 1) : qp_O b u D0 E0 (qp_ST B N lo b u D0 E0) (f_X6_readLine b D) (f_X13_readPerson u E) := by
  obtain ⟨r0, r1, r2⟩ := qp_rl (b := b) 1 hl (by decide) (by decide)
  have bd := h.2.2.2.1.1.1
  have n15 := h.n15
  have cc := h.2.2.2.1.1.2.2.1
  have cc1 : D.1 b 2 = Int32.ofNat P := cc.1
  have cc2 : E.1 u 2 = Int32.ofNat P := cc.2
  have hn : ∀ c : Int32, (f_X13_flaw E c).1 u 9 = Int32.ofNat (P + F + G) := fun c => by rw [qp_flo _ _ (by omega)]; exact h.2.2.2.2.1.2.1
  rcases h.2.2.2.2.2 with z | z
  · rw [r0 z.1]
    have lb := qp_lb3 (E := E) (u := u) z.2.1 (c := E.1 u 2) (K := 5) (by rw [cc2, show P = 0 by omega]; decide)
    rw [qo_person lb (qp_fl9 _ _) (hn 6) n15]
    exact qp_O.bad (n := 6) t h.1.1 h.1.2 (by decide) (by decide) rfl rfl
  · obtain ⟨z1, H, U, z2, z3, z4, z5, z6, z7⟩ := z
    have u0 : E.1 u 0 ≠ -1 := by rw [z5]; exact q_nem1 (by omega)
    by_cases c : P < 5
    · have nf : f_X6_isFull (D.1 b) (D.1 (b + 9)) 1 = false := by
        unfold f_X6_isFull
        rw [if_pos rfl, cc1, if_pos (show _ < (5 : Int32) from (q_lt (i := 5) (by omega) (by decide)).mpr c)]
      obtain ⟨D1, E1, b1, b2, f1, g1, M1, t1⟩ := qp_go hB (by omega) hu h (t.X (by rw [h4]; decide))
      have ne : E.1 u 2 ≠ 5 := fun y => by
        rw [cc2] at y
        have := (q_eq (i := 5) (by omega) (by decide)).mp y
        omega
      have lb := (qp_lb1 (E := E) (u := u) u0 (c := E.1 u 2) (K := 5) ne).trans b2
      rw [r2 z1 nf, b1, Option.bind_some, if_pos rfl]
      exact qp_person hB hb hu M1 (by rw [f1.1 3 (by decide)]; exact z1) (by omega) t1 lb
    · have fl : f_X6_isFull (D.1 b) (D.1 (b + 9)) 1 = true := by
        unfold f_X6_isFull
        rw [if_pos rfl, cc1, if_neg (show ¬ (_ < (5 : Int32)) from fun y => c ((q_lt (i := 5) (by omega) (by decide)).mp y))]
      rw [r1 z1 fl]
      have lb := qp_lb2 (E := E) (u := u) (by omega) u0 (c := E.1 u 2) (K := 5) (by rw [cc2, show P = 5 by omega]; rfl)
      rw [qo_person lb (qp_fl9 _ _) (hn 5) n15]
      exact qp_O.bad (n := 5) t h.1.1 h.1.2 (by decide) (by decide) rfl rfl
theorem qp_line_2 (hB : ∀ i, q_isb (B i)) (hb : b = 42 ∨ b = 4) (hu : 68 ≤ u) (h : qp_M B N b u D0 E0 G P F W L Q (P + F + G) D E) (t : qp_T B N lo D E) (hl : f_X6_lineOf (D.1 1) (D.1 2) = some 2) (h4 : D.1 1 4 = 1) : qp_O b u D0 E0 (qp_ST B N lo b u D0 E0) (f_X6_readLine b D) (f_X13_readFirm u E) := by
  obtain ⟨r0, r1, r2⟩ := qp_rl (b := b) 2 hl (by decide) (by decide)
  have bd := h.2.2.2.1.1.1
  have n15 := h.n15
  have cc := h.2.2.2.1.1.2.2.2.1
  have cc1 : D.1 b 3 = Int32.ofNat F := cc.1
  have cc2 : E.1 u 3 = Int32.ofNat F := cc.2
  have hn : ∀ c : Int32, (f_X13_flaw E c).1 u 9 = Int32.ofNat (P + F + G) := fun c => by rw [qp_flo _ _ (by omega)]; exact h.2.2.2.2.1.2.1
  rcases h.2.2.2.2.2 with z | z
  · rw [r0 z.1]
    have lb := qp_lb3 (E := E) (u := u) z.2.1 (c := E.1 u 3) (K := 4) (by rw [cc2, show F = 0 by omega]; decide)
    rw [qo_firm lb (qp_fl9 _ _) (hn 6) n15]
    exact qp_O.bad (n := 6) t h.1.1 h.1.2 (by decide) (by decide) rfl rfl
  · obtain ⟨z1, H, U, z2, z3, z4, z5, z6, z7⟩ := z
    have u0 : E.1 u 0 ≠ -1 := by rw [z5]; exact q_nem1 (by omega)
    by_cases c : F < 4
    · have nf : f_X6_isFull (D.1 b) (D.1 (b + 9)) 2 = false := by
        unfold f_X6_isFull
        rw [if_neg (by decide), if_pos rfl, cc1, if_pos (show _ < (4 : Int32) from (q_lt (i := 4) (by omega) (by decide)).mpr c)]
      obtain ⟨D1, E1, b1, b2, f1, g1, M1, t1⟩ := qp_go hB (by omega) hu h (t.X (by rw [h4]; decide))
      have ne : E.1 u 3 ≠ 4 := fun y => by
        rw [cc2] at y
        have := (q_eq (i := 4) (by omega) (by decide)).mp y
        omega
      have lb := (qp_lb1 (E := E) (u := u) u0 (c := E.1 u 3) (K := 4) ne).trans b2
      rw [r2 z1 nf, b1, Option.bind_some, if_neg (by decide), if_pos rfl]
      exact qp_firm hB hb hu M1 (by rw [f1.1 3 (by decide)]; exact z1) (by omega) t1 lb
    · have fl : f_X6_isFull (D.1 b) (D.1 (b + 9)) 2 = true := by
        unfold f_X6_isFull
        rw [if_neg (by decide), if_pos rfl, cc1, if_neg (show ¬ (_ < (4 : Int32)) from fun y => c ((q_lt (i := 4) (by omega) (by decide)).mp y))]
      rw [r1 z1 fl]
      have lb := qp_lb2 (E := E) (u := u) (by omega) u0 (c := E.1 u 3) (K := 4) (by rw [cc2, show F = 4 by omega]; rfl)
      rw [qo_firm lb (qp_fl9 _ _) (hn 5) n15]
      exact qp_O.bad (n := 5) t h.1.1 h.1.2 (by decide) (by decide) rfl rfl
theorem qp_line_3 (hB : ∀ i, q_isb (B i)) (hb : b = 42 ∨ b = 4) (hu : 68 ≤ u) (h : qp_M B N b u D0 E0 G P F W L Q (P + F + G) D E) (t : qp_T B N lo D E) (hl : f_X6_lineOf (D.1 1) (D.1 2) = some 3) (h4 : D.1 1 4 = 1) : qp_O b u D0 E0 (qp_ST B N lo b u D0 E0) (f_X6_readLine b D) (f_X13_readGate u E) := by
  obtain ⟨r0, r1, r2⟩ := qp_rl (b := b) 3 hl (by decide) (by decide)
  have bd := h.2.2.2.1.1.1
  have n15 := h.n15
  have cc := h.2.2.2.1.1.2.1
  have cc1 : D.1 b 4 = Int32.ofNat G := cc.1
  have cc2 : E.1 u 4 = Int32.ofNat G := cc.2
  have hn : ∀ c : Int32, (f_X13_flaw E c).1 u 9 = Int32.ofNat (P + F + G) := fun c => by rw [qp_flo _ _ (by omega)]; exact h.2.2.2.2.1.2.1
  rcases h.2.2.2.2.2 with z | z
  · rw [r0 z.1]
    have lb := qp_lb3 (E := E) (u := u) z.2.1 (c := E.1 u 4) (K := 6) (by rw [cc2, show G = 0 by omega]; decide)
    rw [qo_gate lb (qp_fl9 _ _) (hn 6) n15]
    exact qp_O.bad (n := 6) t h.1.1 h.1.2 (by decide) (by decide) rfl rfl
  · obtain ⟨z1, H, U, z2, z3, z4, z5, z6, z7⟩ := z
    have u0 : E.1 u 0 ≠ -1 := by rw [z5]; exact q_nem1 (by omega)
    by_cases c : G < 6
    · have nf : f_X6_isFull (D.1 b) (D.1 (b + 9)) 3 = false := by
        unfold f_X6_isFull
        rw [if_neg (by decide), if_neg (by decide), if_pos rfl, cc1, if_pos (show _ < (6 : Int32) from (q_lt (i := 6) (by omega) (by decide)).mpr c)]
      obtain ⟨D1, E1, b1, b2, f1, g1, M1, t1⟩ := qp_go hB (by omega) hu h (t.X (by rw [h4]; decide))
      have ne : E.1 u 4 ≠ 6 := fun y => by
        rw [cc2] at y
        have := (q_eq (i := 6) (by omega) (by decide)).mp y
        omega
      have lb := (qp_lb1 (E := E) (u := u) u0 (c := E.1 u 4) (K := 6) ne).trans b2
      rw [r2 z1 nf, b1, Option.bind_some, if_neg (by decide), if_neg (by decide), if_pos rfl]
      exact qp_gate hB hb hu M1 (by rw [f1.1 3 (by decide)]; exact z1) (by omega) t1 lb
    · have fl : f_X6_isFull (D.1 b) (D.1 (b + 9)) 3 = true := by
        unfold f_X6_isFull
        rw [if_neg (by decide), if_neg (by decide), if_pos rfl, cc1, if_neg (show ¬ (_ < (6 : Int32)) from fun y => c ((q_lt (i := 6) (by omega) (by decide)).mp y))]
      rw [r1 z1 fl]
      have lb := qp_lb2 (E := E) (u := u) (by omega) u0 (c := E.1 u 4) (K := 6) (by rw [cc2, show G = 6 by omega]; rfl)
      rw [qo_gate lb (qp_fl9 _ _) (hn 5) n15]
      exact qp_O.bad (n := 5) t h.1.1 h.1.2 (by decide) (by decide) rfl rfl
theorem qp_line_4 (hB : ∀ i, q_isb (B i)) (hb : b = 42 ∨ b = 4) (hu : 68 ≤ u) (h : qp_M B N b u D0 E0 G P F W L Q (P + F + G) D E) (t : qp_T B N lo D E) (hl : f_X6_lineOf (D.1 1) (D.1 2) = some 4) (h4 : D.1 1 4 = 1) : qp_O b u D0 E0 (qp_ST B N lo b u D0 E0) (f_X6_readLine b D) (f_X13_readPath u E) := by
  obtain ⟨r0, r1, r2⟩ := qp_rl (b := b) 4 hl (by decide) (by decide)
  have bd := h.2.2.2.1.1.1
  have n15 := h.n15
  have cc := h.2.2.2.1.1.2.2.2.2.2.2.1
  have cc1 : D.1 b 5 = Int32.ofNat Q := cc.1
  have cc2 : E.1 u 5 = Int32.ofNat Q := cc.2
  have hn : ∀ c : Int32, (f_X13_flaw E c).1 u 9 = Int32.ofNat (P + F + G) := fun c => by rw [qp_flo _ _ (by omega)]; exact h.2.2.2.2.1.2.1
  rcases h.2.2.2.2.2 with z | z
  · rw [r0 z.1]
    have lb := qp_lb3 (E := E) (u := u) z.2.1 (c := E.1 u 5) (K := 8) (by rw [cc2, show Q = 0 by omega]; decide)
    rw [qo_path lb (qp_fl9 _ _) (hn 6) n15]
    exact qp_O.bad (n := 6) t h.1.1 h.1.2 (by decide) (by decide) rfl rfl
  · obtain ⟨z1, H, U, z2, z3, z4, z5, z6, z7⟩ := z
    have u0 : E.1 u 0 ≠ -1 := by rw [z5]; exact q_nem1 (by omega)
    by_cases c : Q < 8
    · have nf : f_X6_isFull (D.1 b) (D.1 (b + 9)) 4 = false := by
        unfold f_X6_isFull
        rw [if_neg (by decide), if_neg (by decide), if_neg (by decide), if_pos rfl, cc1, if_pos (show _ < (8 : Int32) from (q_lt (i := 8) (by omega) (by decide)).mpr c)]
      obtain ⟨D1, E1, b1, b2, f1, g1, M1, t1⟩ := qp_go hB (by omega) hu h (t.X (by rw [h4]; decide))
      have ne : E.1 u 5 ≠ 8 := fun y => by
        rw [cc2] at y
        have := (q_eq (i := 8) (by omega) (by decide)).mp y
        omega
      have lb := (qp_lb1 (E := E) (u := u) u0 (c := E.1 u 5) (K := 8) ne).trans b2
      rw [r2 z1 nf, b1, Option.bind_some, if_neg (by decide), if_neg (by decide), if_neg (by decide), if_pos rfl]
      exact qp_path hB hb hu M1 (by rw [f1.1 3 (by decide)]; exact z1) (by omega) t1 lb
    · have fl : f_X6_isFull (D.1 b) (D.1 (b + 9)) 4 = true := by
        unfold f_X6_isFull
        rw [if_neg (by decide), if_neg (by decide), if_neg (by decide), if_pos rfl, cc1, if_neg (show ¬ (_ < (8 : Int32)) from fun y => c ((q_lt (i := 8) (by omega) (by decide)).mp y))]
      rw [r1 z1 fl]
      have lb := qp_lb2 (E := E) (u := u) (by omega) u0 (c := E.1 u 5) (K := 8) (by rw [cc2, show Q = 8 by omega]; rfl)
      rw [qo_path lb (qp_fl9 _ _) (hn 5) n15]
      exact qp_O.bad (n := 5) t h.1.1 h.1.2 (by decide) (by decide) rfl rfl
theorem qp_line_5 (hB : ∀ i, q_isb (B i)) (hb : b = 42 ∨ b = 4) (hu : 68 ≤ u) (h : qp_M B N b u D0 E0 G P F W L Q (P + F + G) D E) (t : qp_T B N lo D E) (hl : f_X6_lineOf (D.1 1) (D.1 2) = some 5) (h4 : D.1 1 4 = 1) : qp_O b u D0 E0 (qp_ST B N lo b u D0 E0) (f_X6_readLine b D) (f_X13_readWants u E 0) := by
  obtain ⟨r0, r1, r2⟩ := qp_rl (b := b) 5 hl (by decide) (by decide)
  have bd := h.2.2.2.1.1.1
  have n15 := h.n15
  have cc := h.2.2.2.1.1.2.2.2.2.1
  have cc1 : D.1 (b + 9) 0 = Int32.ofNat W := cc.1
  have cc2 : E.1 u 6 = Int32.ofNat W := cc.2
  have hn : ∀ c : Int32, (f_X13_flaw E c).1 u 9 = Int32.ofNat (P + F + G) := fun c => by rw [qp_flo _ _ (by omega)]; exact h.2.2.2.2.1.2.1
  rcases h.2.2.2.2.2 with z | z
  · rw [r0 z.1]
    have lb := qp_lb3 (E := E) (u := u) z.2.1 (c := E.1 u 6) (K := 4) (by rw [cc2, show W = 0 by omega]; decide)
    rw [qo_wants 0 lb (qp_fl9 _ _) (hn 6) n15]
    exact qp_O.bad (n := 6) t h.1.1 h.1.2 (by decide) (by decide) rfl rfl
  · obtain ⟨z1, H, U, z2, z3, z4, z5, z6, z7⟩ := z
    have u0 : E.1 u 0 ≠ -1 := by rw [z5]; exact q_nem1 (by omega)
    by_cases c : W < 4
    · have nf : f_X6_isFull (D.1 b) (D.1 (b + 9)) 5 = false := by
        unfold f_X6_isFull f_X6_isFull_j114
        rw [if_neg (by decide), if_neg (by decide), if_neg (by decide), if_neg (by decide), if_pos rfl, cc1, if_pos (show _ < (4 : Int32) from (q_lt (i := 4) (by omega) (by decide)).mpr c)]
      obtain ⟨D1, E1, b1, b2, f1, g1, M1, t1⟩ := qp_go hB (by omega) hu h (t.X (by rw [h4]; decide))
      have ne : E.1 u 6 ≠ 4 := fun y => by
        rw [cc2] at y
        have := (q_eq (i := 4) (by omega) (by decide)).mp y
        omega
      have lb := (qp_lb1 (E := E) (u := u) u0 (c := E.1 u 6) (K := 4) ne).trans b2
      rw [r2 z1 nf, b1, Option.bind_some, if_neg (by decide), if_neg (by decide), if_neg (by decide), if_neg (by decide), if_pos rfl]
      exact qp_want hB hb hu M1 (by rw [f1.1 3 (by decide)]; exact z1) (by omega) t1 (Or.inl rfl) lb
    · have fl : f_X6_isFull (D.1 b) (D.1 (b + 9)) 5 = true := by
        unfold f_X6_isFull f_X6_isFull_j114
        rw [if_neg (by decide), if_neg (by decide), if_neg (by decide), if_neg (by decide), if_pos rfl, cc1, if_neg (show ¬ (_ < (4 : Int32)) from fun y => c ((q_lt (i := 4) (by omega) (by decide)).mp y))]
      rw [r1 z1 fl]
      have lb := qp_lb2 (E := E) (u := u) (by omega) u0 (c := E.1 u 6) (K := 4) (by rw [cc2, show W = 4 by omega]; rfl)
      rw [qo_wants 0 lb (qp_fl9 _ _) (hn 5) n15]
      exact qp_O.bad (n := 5) t h.1.1 h.1.2 (by decide) (by decide) rfl rfl
theorem qp_line_6 (hB : ∀ i, q_isb (B i)) (hb : b = 42 ∨ b = 4) (hu : 68 ≤ u) (h : qp_M B N b u D0 E0 G P F W L Q (P + F + G) D E) (t : qp_T B N lo D E) (hl : f_X6_lineOf (D.1 1) (D.1 2) = some 6) (h4 : D.1 1 4 = 1) : qp_O b u D0 E0 (qp_ST B N lo b u D0 E0) (f_X6_readLine b D) (f_X13_readWants u E 1) := by
  obtain ⟨r0, r1, r2⟩ := qp_rl (b := b) 6 hl (by decide) (by decide)
  have bd := h.2.2.2.1.1.1
  have n15 := h.n15
  have cc := h.2.2.2.1.1.2.2.2.2.1
  have cc1 : D.1 (b + 9) 0 = Int32.ofNat W := cc.1
  have cc2 : E.1 u 6 = Int32.ofNat W := cc.2
  have hn : ∀ c : Int32, (f_X13_flaw E c).1 u 9 = Int32.ofNat (P + F + G) := fun c => by rw [qp_flo _ _ (by omega)]; exact h.2.2.2.2.1.2.1
  rcases h.2.2.2.2.2 with z | z
  · rw [r0 z.1]
    have lb := qp_lb3 (E := E) (u := u) z.2.1 (c := E.1 u 6) (K := 4) (by rw [cc2, show W = 0 by omega]; decide)
    rw [qo_wants 1 lb (qp_fl9 _ _) (hn 6) n15]
    exact qp_O.bad (n := 6) t h.1.1 h.1.2 (by decide) (by decide) rfl rfl
  · obtain ⟨z1, H, U, z2, z3, z4, z5, z6, z7⟩ := z
    have u0 : E.1 u 0 ≠ -1 := by rw [z5]; exact q_nem1 (by omega)
    by_cases c : W < 4
    · have nf : f_X6_isFull (D.1 b) (D.1 (b + 9)) 6 = false := by
        unfold f_X6_isFull f_X6_isFull_j114
        rw [if_neg (by decide), if_neg (by decide), if_neg (by decide), if_neg (by decide), if_neg (by decide), if_pos rfl, cc1, if_pos (show _ < (4 : Int32) from (q_lt (i := 4) (by omega) (by decide)).mpr c)]
      obtain ⟨D1, E1, b1, b2, f1, g1, M1, t1⟩ := qp_go hB (by omega) hu h (t.X (by rw [h4]; decide))
      have ne : E.1 u 6 ≠ 4 := fun y => by
        rw [cc2] at y
        have := (q_eq (i := 4) (by omega) (by decide)).mp y
        omega
      have lb := (qp_lb1 (E := E) (u := u) u0 (c := E.1 u 6) (K := 4) ne).trans b2
      rw [r2 z1 nf, b1, Option.bind_some, if_neg (by decide), if_neg (by decide), if_neg (by decide), if_neg (by decide), if_neg (by decide), if_pos rfl]
      exact qp_want hB hb hu M1 (by rw [f1.1 3 (by decide)]; exact z1) (by omega) t1 (Or.inr rfl) lb
    · have fl : f_X6_isFull (D.1 b) (D.1 (b + 9)) 6 = true := by
        unfold f_X6_isFull f_X6_isFull_j114
        rw [if_neg (by decide), if_neg (by decide), if_neg (by decide), if_neg (by decide), if_neg (by decide), if_pos rfl, cc1, if_neg (show ¬ (_ < (4 : Int32)) from fun y => c ((q_lt (i := 4) (by omega) (by decide)).mp y))]
      rw [r1 z1 fl]
      have lb := qp_lb2 (E := E) (u := u) (by omega) u0 (c := E.1 u 6) (K := 4) (by rw [cc2, show W = 4 by omega]; rfl)
      rw [qo_wants 1 lb (qp_fl9 _ _) (hn 5) n15]
      exact qp_O.bad (n := 5) t h.1.1 h.1.2 (by decide) (by decide) rfl rfl
theorem qp_line_7 (hB : ∀ i, q_isb (B i)) (hb : b = 42 ∨ b = 4) (hu : 68 ≤ u) (h : qp_M B N b u D0 E0 G P F W L Q (P + F + G) D E) (t : qp_T B N lo D E) (hl : f_X6_lineOf (D.1 1) (D.1 2) = some 7) (h4 : D.1 1 4 = 1) : qp_O b u D0 E0 (qp_ST B N lo b u D0 E0) (f_X6_readLine b D) (f_X13_readLost u E) := by
  obtain ⟨r0, r1, r2⟩ := qp_rl (b := b) 7 hl (by decide) (by decide)
  have bd := h.2.2.2.1.1.1
  have n15 := h.n15
  have cc := h.2.2.2.1.1.2.2.2.2.2.1
  have cc1 : D.1 (b + 9) 4 = Int32.ofNat L := cc.1
  have cc2 : E.1 u 7 = Int32.ofNat L := cc.2
  have hn : ∀ c : Int32, (f_X13_flaw E c).1 u 9 = Int32.ofNat (P + F + G) := fun c => by rw [qp_flo _ _ (by omega)]; exact h.2.2.2.2.1.2.1
  rcases h.2.2.2.2.2 with z | z
  · rw [r0 z.1]
    have lb := qp_lb3 (E := E) (u := u) z.2.1 (c := E.1 u 7) (K := 4) (by rw [cc2, show L = 0 by omega]; decide)
    rw [qo_lost lb (qp_fl9 _ _) (hn 6) n15]
    exact qp_O.bad (n := 6) t h.1.1 h.1.2 (by decide) (by decide) rfl rfl
  · obtain ⟨z1, H, U, z2, z3, z4, z5, z6, z7⟩ := z
    have u0 : E.1 u 0 ≠ -1 := by rw [z5]; exact q_nem1 (by omega)
    by_cases c : L < 4
    · have nf : f_X6_isFull (D.1 b) (D.1 (b + 9)) 7 = false := by
        unfold f_X6_isFull
        rw [if_neg (by decide), if_neg (by decide), if_neg (by decide), if_neg (by decide), if_neg (by decide), if_neg (by decide), if_pos rfl, cc1, if_pos (show _ < (4 : Int32) from (q_lt (i := 4) (by omega) (by decide)).mpr c)]
      obtain ⟨D1, E1, b1, b2, f1, g1, M1, t1⟩ := qp_go hB (by omega) hu h (t.X (by rw [h4]; decide))
      have ne : E.1 u 7 ≠ 4 := fun y => by
        rw [cc2] at y
        have := (q_eq (i := 4) (by omega) (by decide)).mp y
        omega
      have lb := (qp_lb1 (E := E) (u := u) u0 (c := E.1 u 7) (K := 4) ne).trans b2
      rw [r2 z1 nf, b1, Option.bind_some, if_neg (by decide), if_neg (by decide), if_neg (by decide), if_neg (by decide), if_neg (by decide), if_neg (by decide), if_pos rfl]
      exact qp_lost hB hb hu M1 (by rw [f1.1 3 (by decide)]; exact z1) (by omega) t1 lb
    · have fl : f_X6_isFull (D.1 b) (D.1 (b + 9)) 7 = true := by
        unfold f_X6_isFull
        rw [if_neg (by decide), if_neg (by decide), if_neg (by decide), if_neg (by decide), if_neg (by decide), if_neg (by decide), if_pos rfl, cc1, if_neg (show ¬ (_ < (4 : Int32)) from fun y => c ((q_lt (i := 4) (by omega) (by decide)).mp y))]
      rw [r1 z1 fl]
      have lb := qp_lb2 (E := E) (u := u) (by omega) u0 (c := E.1 u 7) (K := 4) (by rw [cc2, show L = 4 by omega]; rfl)
      rw [qo_lost lb (qp_fl9 _ _) (hn 5) n15]
      exact qp_O.bad (n := 5) t h.1.1 h.1.2 (by decide) (by decide) rfl rfl
theorem qp_line_8 (hB : ∀ i, q_isb (B i)) (hb : b = 42 ∨ b = 4) (hu : 68 ≤ u) (h : qp_M B N b u D0 E0 G P F W L Q (P + F + G) D E) (t : qp_T B N lo D E) (hl : f_X6_lineOf (D.1 1) (D.1 2) = some 8) (h4 : D.1 1 4 = 1) : qp_O b u D0 E0 (qp_ST B N lo b u D0 E0) (f_X6_readLine b D) (f_X13_readHad u E) := by
  obtain ⟨r0, r1, r2⟩ := qp_rl (b := b) 8 hl (by decide) (by decide)
  have n15 := h.n15
  have hn : ∀ c : Int32, (f_X13_flaw E c).1 u 9 = Int32.ofNat (P + F + G) := fun c => by rw [qp_flo _ _ (by omega)]; exact h.2.2.2.2.1.2.1
  rcases h.2.2.2.2.2 with z | z
  · rw [r0 z.1]
    have lb := qp_lb3 (E := E) (u := u) z.2.1 (c := 0) (K := 1) (by decide)
    rw [qo_had lb (qp_fl9 _ _) (hn 6) n15]
    exact qp_O.bad (n := 6) t h.1.1 h.1.2 (by decide) (by decide) rfl rfl
  · obtain ⟨z1, H, U, z2, z3, z4, z5, z6, z7⟩ := z
    have u0 : E.1 u 0 ≠ -1 := by rw [z5]; exact q_nem1 (by omega)
    have nf : f_X6_isFull (D.1 b) (D.1 (b + 9)) 8 = false := by
      unfold f_X6_isFull
      rw [if_neg (by decide), if_neg (by decide), if_neg (by decide), if_neg (by decide), if_neg (by decide), if_neg (by decide), if_neg (by decide)]
    obtain ⟨D1, E1, b1, b2, f1, g1, M1, t1⟩ := qp_go hB (by omega) hu h (t.X (by rw [h4]; decide))
    have lb := (qp_lb1 (E := E) (u := u) u0 (c := 0) (K := 1) (by decide)).trans b2
    rw [r2 z1 nf, b1, Option.bind_some, if_neg (by decide), if_neg (by decide), if_neg (by decide), if_neg (by decide), if_neg (by decide), if_neg (by decide), if_neg (by decide)]
    exact qp_had hB hb hu M1 (by rw [f1.1 3 (by decide)]; exact z1) t1 lb
/-- a line on both sides -/
theorem qp_rline (hB : ∀ i, q_isb (B i)) (hb : b = 42 ∨ b = 4) (hu : 68 ≤ u) (h : qp_ST B N lo b u D0 E0 D E) : qp_O b u D0 E0 (qp_ST B N lo b u D0 E0) (f_X6_readLine b D) (f_X13_readLine u E) := by
  obtain ⟨G, P, F, W, L, Q, h, t⟩ := h
  obtain ⟨l, l1, -, l4, l5⟩ := qp_line hB h.2.1.2.2.2.2 h.2.1.1 t
  rcases l5 with ⟨rfl, e⟩ | ⟨rfl, e⟩ | ⟨rfl, e⟩ | ⟨rfl, e⟩ | ⟨rfl, e⟩ | ⟨rfl, e⟩ | ⟨rfl, e⟩ | ⟨rfl, e⟩ | ⟨rfl, e⟩ | ⟨rfl, e⟩
  · rw [e u]
    refine qp_O.bad (n := 1) t h.1.1 h.1.2 (by decide) (by decide) ?_ rfl
    unfold f_X6_readLine j_let
    rw [l1, Option.bind_some, if_pos rfl]
    rfl
  · rw [e u]
    have h4 := l4 (by decide)
    rcases h.2.2.2.2.2 with z | z
    · have e2 : f_X6_readLine b D = f_X6_readLandLine b D := by
        unfold f_X6_readLine
        rw [l1, Option.bind_some, if_neg (by decide), if_pos rfl, if_pos z.1]
        cases f_X6_readLandLine b D <;> rfl
      rw [e2]
      exact qp_landL hB hb hu h z.2.1 t h4
    · obtain ⟨z1, H, U, z2, z3, z4, z5, z6, z7⟩ := z
      have u0 : E.1 u 0 ≠ -1 := by rw [z5]; exact q_nem1 (by omega)
      refine qp_O.bad (n := 3) t h.1.1 h.1.2 (by decide) (by decide) ?_ ?_
      · unfold f_X6_readLine j_let
        rw [l1, Option.bind_some, if_neg (by decide), if_pos rfl, if_neg (by rw [z1]; decide)]
        rfl
      · unfold f_X13_readLand j_let
        rw [if_neg u0]
        exact qo_land (qp_fl9 _ _)
  · rw [e u]
    exact qp_line_1 hB hb hu h t l1 (l4 (by decide))
  · rw [e u]
    exact qp_line_2 hB hb hu h t l1 (l4 (by decide))
  · rw [e u]
    exact qp_line_3 hB hb hu h t l1 (l4 (by decide))
  · rw [e u]
    exact qp_line_4 hB hb hu h t l1 (l4 (by decide))
  · rw [e u]
    exact qp_line_5 hB hb hu h t l1 (l4 (by decide))
  · rw [e u]
    exact qp_line_6 hB hb hu h t l1 (l4 (by decide))
  · rw [e u]
    exact qp_line_7 hB hb hu h t l1 (l4 (by decide))
  · rw [e u]
    exact qp_line_8 hB hb hu h t l1 (l4 (by decide))
end QS
