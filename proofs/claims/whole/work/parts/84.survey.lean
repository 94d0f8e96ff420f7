/-! tier two: the class's survey -/
def q_t4 (D : JD) : Int32 × Int32 × Int32 × Int32 := (D.1 38 1, D.1 38 2, D.1 38 3, D.1 38 4)
theorem q_s38 (D : JD) (k : Nat) (v : Int32) (j : Nat) : (j_sI D 38 k v).1 38 j = if j = k then v else D.1 38 j := by
  rw [q_sI_a]; rfl
theorem q_lk55 {a : Nat} (ha : a = 42 ∨ a = 4) (D : JD) (w : Int32) : (∀ b, b ≠ 38 → (f_X8_lookAt_j55 a D w).1 b = D.1 b) ∧ q_t4 (f_X8_lookAt_j55 a D w) = (D.1 38 1, if f_X3_isStillWay (D.1 a) (D.1 (a + 7)) (D.1 (a + 8)) w = true then D.1 38 2 + 1 else D.1 38 2, D.1 38 3, D.1 38 4) := by
  unfold f_X8_lookAt_j55
  by_cases c : f_X3_isStillWay (D.1 a) (D.1 (a + 7)) (D.1 (a + 8)) w = true
  · rw [if_pos c, if_pos c]
    refine ⟨fun b hb => q_sI_o hb, ?_⟩
    unfold q_t4
    simp only [q_s38]
    rfl
  · rw [if_neg c, if_neg c]
    exact ⟨fun _ _ => rfl, rfl⟩
theorem q_lk37 {a : Nat} (ha : a = 42 ∨ a = 4) (D : JD) (w v : Int32) : (∀ b, b ≠ 38 → (f_X8_lookAt_j37 a D w v).1 b = D.1 b) ∧ q_t4 (f_X8_lookAt_j37 a D w v) = (D.1 38 1, if f_X3_isStillWay (D.1 a) (D.1 (a + 7)) (D.1 (a + 8)) w = true then D.1 38 2 + 1 else D.1 38 2, if v ≤ D.1 38 4 then D.1 38 3 else w, if v ≤ D.1 38 4 then D.1 38 4 else v) := by
  unfold f_X8_lookAt_j37
  by_cases c : v ≤ D.1 38 4
  · rw [if_pos c, if_pos c, if_pos c]
    exact q_lk55 ha D w
  · rw [if_neg c, if_neg c, if_neg c]
    obtain ⟨h1, h2⟩ := q_lk55 ha (j_sI (j_sI D 38 4 v) 38 3 w) w
    have o : ∀ b, b ≠ 38 → (j_sI (j_sI D 38 4 v) 38 3 w).1 b = D.1 b := fun b hb => by rw [q_sI_o hb, q_sI_o hb]
    refine ⟨fun b hb => by rw [h1 b hb, o b hb], ?_⟩
    rw [h2, o a (by omega), o (a + 7) (by omega), o (a + 8) (by omega)]
    simp only [q_s38]
    rfl
theorem q_lkAt {a : Nat} (ha : a = 42 ∨ a = 4) {d D : JD} (hD : ∀ b, b ≠ 38 → D.1 b = d.1 b) (w : Int32) : (∀ b, b ≠ 38 → (f_X8_lookAt a D w).1 b = d.1 b) ∧ q_t4 (f_X8_lookAt a D w) = q_sv1 (q_rows d a) w (q_t4 D) := by
  have h0 : D.1 a = d.1 a := hD _ (by omega)
  have h7 : D.1 (a + 7) = d.1 (a + 7) := hD _ (by omega)
  have h8 : D.1 (a + 8) = d.1 (a + 8) := hD _ (by omega)
  have A0 : q_rows d a 0 = d.1 a := rfl
  have A7 : q_rows d a 7 = d.1 (a + 7) := rfl
  have A8 : q_rows d a 8 = d.1 (a + 8) := rfl
  have t1 : (q_t4 D).1 = D.1 38 1 := rfl
  have t2 : (q_t4 D).2.1 = D.1 38 2 := rfl
  have t3 : (q_t4 D).2.2.1 = D.1 38 3 := rfl
  have t4 : (q_t4 D).2.2.2 = D.1 38 4 := rfl
  have j37 : ∀ v, (∀ b, b ≠ 38 → (f_X8_lookAt_j37 a D w v).1 b = d.1 b) ∧ q_t4 (f_X8_lookAt_j37 a D w v) = (D.1 38 1, if f_X3_isStillWay (d.1 a) (d.1 (a + 7)) (d.1 (a + 8)) w = true then D.1 38 2 + 1 else D.1 38 2, if v ≤ D.1 38 4 then D.1 38 3 else w, if v ≤ D.1 38 4 then D.1 38 4 else v) := fun v => by
    obtain ⟨u1, u2⟩ := q_lk37 ha D w v
    rw [h0, h7, h8] at u2
    exact ⟨fun b hb => by rw [u1 b hb, hD b hb], u2⟩
  have j32 : ∀ v, (∀ b, b ≠ 38 → (f_X8_lookAt_j32 a D w v).1 b = d.1 b) ∧ q_t4 (f_X8_lookAt_j32 a D w v) = (w, if f_X3_isStillWay (d.1 a) (d.1 (a + 7)) (d.1 (a + 8)) w = true then D.1 38 2 + 1 else D.1 38 2, if v ≤ D.1 38 4 then D.1 38 3 else w, if v ≤ D.1 38 4 then D.1 38 4 else v) := fun v => by
    unfold f_X8_lookAt_j32
    obtain ⟨u1, u2⟩ := q_lk37 ha (j_sI D 38 1 w) w v
    have o : ∀ b, b ≠ 38 → (j_sI D 38 1 w).1 b = d.1 b := fun b hb => by rw [q_sI_o hb, hD b hb]
    rw [o a (by omega), o (a + 7) (by omega), o (a + 8) (by omega)] at u2
    simp only [q_s38] at u2
    exact ⟨fun b hb => by rw [u1 b hb, o b hb], u2⟩
  unfold f_X8_lookAt j_let q_sv1
  rw [h0, h7, h8, A0, A7, A8, t1, t2, t3, t4]
  dsimp only
  by_cases c1 : f_X3_leastWealth (d.1 a) (d.1 (a + 7)) (d.1 (a + 8)) w ≤ 0
  · rw [if_pos c1, if_pos c1]
    exact j37 _
  · rw [if_neg c1, if_neg c1]
    by_cases c2 : D.1 38 1 = -1
    · rw [if_pos c2, if_pos c2]
      exact j32 _
    · rw [if_neg c2, if_neg c2]
      by_cases c3 : f_X10_hooksIn (D.1 38 1) ≤ f_X10_hooksIn w
      · rw [if_pos c3, if_pos c3]
        exact j37 _
      · rw [if_neg c3, if_neg c3]
        exact j32 _
theorem q_makeC {G P F W L a t : Nat} {d : JD} (hL : q_LR G P F W L (q_rows d a) (q_rows d t)) (ha : a = 42 ∨ a = 4) (hk : q_KS (q_rows d a) (q_rows d 32)) : ∃ d1, f_X8_make a d = some d1 ∧ (∀ b, b ≠ 38 → d1.1 b = d.1 b) ∧ q_t4 d1 = q_sv (q_rows d a) G (3 ^ G) := by
  have hG := hL.1.1.2.1
  have e4 : d.1 a 4 = Int32.ofNat G := hL.1.2.1.1
  have pw := q_pw43 ⟨G, by omega⟩
  dsimp only at pw
  by_cases z : d.1 38 0 = 0
  · have base : ∀ b, b ≠ 38 → (j_sI (j_sI (j_sI (j_sI (j_sI d 38 0 1) 38 1 (-1)) 38 2 0) 38 3 (((j_sI (j_sI (j_sI d 38 0 1) 38 1 (-1)) 38 2 0).1 a) 6)) 38 4 (-1)).1 b = d.1 b := fun b hb => by rw [q_sI_o hb, q_sI_o hb, q_sI_o hb, q_sI_o hb, q_sI_o hb]
    have base4 : q_t4 (j_sI (j_sI (j_sI (j_sI (j_sI d 38 0 1) 38 1 (-1)) 38 2 0) 38 3 (((j_sI (j_sI (j_sI d 38 0 1) 38 1 (-1)) 38 2 0).1 a) 6)) 38 4 (-1)) = (-1, 0, d.1 a 6, -1) := by
      have oa : (j_sI (j_sI (j_sI d 38 0 1) 38 1 (-1)) 38 2 0).1 a = d.1 a := by rw [q_sI_o (by omega), q_sI_o (by omega), q_sI_o (by omega)]
      rw [oa]
      unfold q_t4
      simp only [q_s38]
      rfl
    generalize hD0 : j_sI (j_sI (j_sI (j_sI (j_sI d 38 0 1) 38 1 (-1)) 38 2 0) 38 3 (((j_sI (j_sI (j_sI d 38 0 1) 38 1 (-1)) 38 2 0).1 a) 6)) 38 4 (-1) = D0 at base base4
    let B : Nat → JD → JD := fun c D => if f_X3_mayHangSo (d.1 a) (f_X10_fromCode (Int32.ofNat c) (Int32.ofNat G)) = true then f_X8_lookAt a D (f_X10_fromCode (Int32.ofNat c) (Int32.ofNat G)) else D
    have keep : ∀ n, ∀ b, b ≠ 38 → (q_it B n D0).1 b = d.1 b := by
      intro n
      induction n with
      | zero => exact base
      | succ n ih =>
        intro b hb
        show (if f_X3_mayHangSo (d.1 a) (f_X10_fromCode (Int32.ofNat n) (Int32.ofNat G)) = true then f_X8_lookAt a (q_it B n D0) (f_X10_fromCode (Int32.ofNat n) (Int32.ofNat G)) else q_it B n D0).1 b = _
        split
        · exact (q_lkAt ha ih _).1 b hb
        · exact ih b hb
    have l := q_run (F := f_X8_make_w38 a) (fun i => (Int32.ofNat i, q_it B i D0)) (e := q_it B (4 ^ G) D0) (4 ^ G) (by omega) (fun i hi => by
      have ka : (q_it B i D0).1 a = d.1 a := keep i a (by omega)
      have k2 := q_go (n := 4 ^ G) (by omega) hi
      show f_X8_make_w38 a (Int32.ofNat i, q_it B i D0) = some (Sum.inl (Int32.ofNat (i + 1), if f_X3_mayHangSo (d.1 a) (f_X10_fromCode (Int32.ofNat i) (Int32.ofNat G)) = true then f_X8_lookAt a (q_it B i D0) (f_X10_fromCode (Int32.ofNat i) (Int32.ofNat G)) else q_it B i D0))
      unfold f_X8_make_w38 f_X8_make_j72_38 j_let
      dsimp only
      rw [ka, e4, q_cos hG, if_neg k2, q_s]
      split <;> rfl) (by
      have ka : (q_it B (4 ^ G) D0).1 a = d.1 a := keep _ a (by omega)
      unfold f_X8_make_w38
      dsimp only
      rw [ka, e4, q_cos hG, if_pos (q_end (by omega))])
    have l' : j_wh (f_X8_make_w38 a) j_fuel (0, D0) = some (q_it B (4 ^ G) D0) := l
    refine ⟨q_it B (4 ^ G) D0, ?_, keep _, ?_⟩
    · unfold f_X8_make
      rw [if_pos z, hD0, l']
      rfl
    · rw [q_skip G B D0 (fun c hc hw s => by
        have nf : f_X3_mayHangSo (d.1 a) (f_X10_fromCode (Int32.ofNat c) (Int32.ofNat G)) = false := by
          unfold f_X3_mayHangSo
          rw [q_iw hG hc, if_neg (by rw [hw]; decide)]
        show (if f_X3_mayHangSo (d.1 a) (f_X10_fromCode (Int32.ofNat c) (Int32.ofNat G)) = true then _ else s) = s
        rw [nf, if_neg (by decide)])]
      have inv : ∀ n, n ≤ 3 ^ G → (∀ b, b ≠ 38 → (q_it (fun c => B (q_ph G c)) n D0).1 b = d.1 b) ∧ q_t4 (q_it (fun c => B (q_ph G c)) n D0) = q_sv (q_rows d a) G n := by
        intro n
        induction n with
        | zero => exact fun _ => ⟨base, base4⟩
        | succ n ih =>
          intro hn
          obtain ⟨i1, i2⟩ := ih (by omega)
          have fc := q_fcd (n := G) (c := n) hG (by omega)
          show (∀ b, b ≠ 38 → (if f_X3_mayHangSo (d.1 a) (f_X10_fromCode (Int32.ofNat (q_ph G n)) (Int32.ofNat G)) = true then f_X8_lookAt a (q_it (fun c => B (q_ph G c)) n D0) (f_X10_fromCode (Int32.ofNat (q_ph G n)) (Int32.ofNat G)) else q_it (fun c => B (q_ph G c)) n D0).1 b = d.1 b) ∧ q_t4 (if f_X3_mayHangSo (d.1 a) (f_X10_fromCode (Int32.ofNat (q_ph G n)) (Int32.ofNat G)) = true then f_X8_lookAt a (q_it (fun c => B (q_ph G c)) n D0) (f_X10_fromCode (Int32.ofNat (q_ph G n)) (Int32.ofNat G)) else q_it (fun c => B (q_ph G c)) n D0) = q_svb (q_rows d a) (q_cod (q_dig G n)) (q_sv (q_rows d a) G n)
          unfold q_svb
          rw [fc, ← i2]
          by_cases c : f_X3_mayHangSo (d.1 a) (q_cod (q_dig G n)) = true
          · have c' : f_X3_mayHangSo (q_rows d a 0) (q_cod (q_dig G n)) = true := c
            rw [if_pos c, if_pos c']
            exact q_lkAt ha i1 _
          · have c' : ¬ f_X3_mayHangSo (q_rows d a 0) (q_cod (q_dig G n)) = true := c
            rw [if_neg c, if_neg c']
            exact ⟨i1, rfl⟩
      exact (inv (3 ^ G) (Nat.le_refl _)).2
  · refine ⟨d, ?_, fun _ _ => rfl, ?_⟩
    · unfold f_X8_make
      exact if_neg z
    · rcases hk with hk | ⟨G', g1, g2, g3⟩
      · exact absurd hk z
      · have : G' = G := by
          have e : Int32.ofNat G = Int32.ofNat G' := e4.symm.trans g2
          exact ((q_eq (by omega) (by omega)).mp e).symm
        subst this
        exact g3
theorem q_makeR {g : JG} {G P F W L a b t : Nat} {d d1 : JD} (r : q_R q_K0 (g, d)) (hg : q_G g a b) (hL : q_LR G P F W L (q_rows d a) (q_rows d t)) (hk : q_K0 (q_rows d a) (q_rows d 32)) (h1 : ∀ b, b ≠ 38 → d1.1 b = d.1 b) (h2 : q_t4 d1 = q_sv (q_rows d a) G (3 ^ G)) : q_R q_K0 (g, d1) := by
  have hG := hL.1.1.2.1
  refine r.ca (fun b hb => h1 b (by omega)) (fun a' ha' hk' => ?_)
  have e : a' = a := by
    have := ha'.symm.trans hg.2.2.2.2.1
    exact Option.some.inj this
  subst e
  have hA : ∀ j, j < 15 → q_rows d1 a' j = q_rows d a' j := fun j hj => h1 _ (by rcases hg.a with z | z <;> omega)
  refine ⟨q_KE_c (C := q_rows d 32) (hA 0 (by decide)) (fun j hj => h1 _ (by omega)) hk.1, ?_, q_KF_c (C := q_rows d 32) hA (h1 39 (by decide)) (h1 40 (by decide)) hk.2.2⟩
  refine Or.inr ⟨G, hG, ?_, ?_⟩
  · rw [hA 0 (by decide)]
    exact hL.1.2.1.1
  · rw [q_sv_c hA]
    exact h2
