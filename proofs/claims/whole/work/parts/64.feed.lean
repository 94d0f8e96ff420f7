/-! tier two: feed -/
def q_wr (r : Nat → Int32) (n : Nat) (f : Nat → Int32) (i j : Nat) : Int32 := if n ≤ j ∧ j < n + i then f (j - n) else r j
theorem q_wr_0 (r : Nat → Int32) (n : Nat) (f : Nat → Int32) : q_wr r n f 0 = r := by
  funext j
  exact if_neg (by omega)
theorem q_wr_s (r : Nat → Int32) (n : Nat) (f : Nat → Int32) (i : Nat) : upd (q_wr r n f i) (n + i) (f i) = q_wr r n f (i + 1) := by
  funext j
  unfold upd q_wr
  by_cases h : j = n + i
  · rw [if_pos h, if_pos (by omega)]; congr 1; omega
  · rw [if_neg h]
    by_cases h2 : n ≤ j ∧ j < n + i
    · rw [if_pos h2, if_pos (by omega)]
    · rw [if_neg h2, if_neg (by omega)]
def q_sh8 (i : Nat) : Int32 := match i with
  | 0 => 24
  | 1 => 16
  | 2 => 8
  | 3 => 0
  | _ => -8
def q_by (v s : Int32) : Int32 := vp_nar .byte ((v >>> (s &&& 31)).toInt8.toInt32)
theorem q_by_b (v s : Int32) : q_isb (q_by v s) := by
  unfold q_isb q_by
  show ((v >>> (s &&& 31)).toInt8.toInt32.toInt8.toInt32).toInt8.toInt32 = _
  rw [Int8.toInt8_toInt32, Int8.toInt8_toInt32]
  show _ = ((v >>> (s &&& 31)).toInt8.toInt32.toInt8.toInt32)
  rw [Int8.toInt8_toInt32]
/-- bytes and length on a tape: the class's at 2 and 1.1, the reference's at 58 and 57.6 -/
def q_fc (d : JD) (r : Nat → Int32) (c : Int32) : JD := j_sI (q_row d 2 r) 1 1 c
def q_fm (d : JD) (r : Nat → Int32) (c : Int32) : JD := j_sI (q_row d 58 r) 57 6 c
theorem q_two {x y k : Nat} (hxy : x ≠ y) (d : JD) (r : Nat → Int32) (c c' : Int32) (j : Nat) (v : Int32) : j_sI (j_sI (j_sI (q_row d x r) y k c) x j v) y k c' = j_sI (q_row d x (upd r j v)) y k c' := by
  apply Prod.ext
  · funext b
    show (if b = y then upd (if b = x then upd (if b = y then upd (if b = x then r else d.1 b) k c else (if b = x then r else d.1 b)) j v else (if b = y then upd (if b = x then r else d.1 b) k c else (if b = x then r else d.1 b))) k c' else (if b = x then upd (if b = y then upd (if b = x then r else d.1 b) k c else (if b = x then r else d.1 b)) j v else (if b = y then upd (if b = x then r else d.1 b) k c else (if b = x then r else d.1 b)))) = (if b = y then upd (if b = x then upd r j v else d.1 b) k c' else (if b = x then upd r j v else d.1 b))
    by_cases h1 : b = y
    · have h2 : ¬ b = x := fun z => hxy (z.symm.trans h1)
      simp only [h1, h2, if_true, if_false, show ¬ (y = x) from fun z => hxy z.symm]
      funext q
      unfold upd
      by_cases c0 : q = k
      · rw [if_pos c0, if_pos c0]
      · rw [if_neg c0, if_neg c0, if_neg c0]
    · by_cases h2 : b = x
      · simp only [h1, h2, if_true, if_false, show ¬ (x = y) from hxy]
      · simp only [h1, h2, if_false]
  · rfl
theorem q_addN {d : JD} {r f : Nat → Int32} {n i0 : Nat} {v : Int32} (hn : n + i0 + 4 ≤ 900) (hf : ∀ i, i < 4 → f (i0 + i) = q_by v (q_sh8 i)) : f_X9_addNumber (q_fc d (q_wr r n f i0) (Int32.ofNat (n + i0))) v = some (q_fc d (q_wr r n f (i0 + 4)) (Int32.ofNat (n + (i0 + 4)))) := by
  unfold f_X9_addNumber
  have h := q_run (F := f_X9_addNumber_w3 v) (fun i => (q_sh8 i, q_fc d (q_wr r n f (i0 + i)) (Int32.ofNat (n + (i0 + i))))) 4 (by decide) (e := q_fc d (q_wr r n f (i0 + 4)) (Int32.ofNat (n + (i0 + 4))))
    (fun i hi => by
      have l1 : (q_fc d (q_wr r n f (i0 + i)) (Int32.ofNat (n + (i0 + i)))).1 1 1 = Int32.ofNat (n + (i0 + i)) := by unfold q_fc; rw [q_sI_a]; rfl
      have k1 : ¬ (Int32.ofNat (n + (i0 + i)) < 0) := q_neg (by omega)
      have k2 : ¬ ((900 : Int32) ≤ Int32.ofNat (n + (i0 + i))) := q_go (n := 900) (by decide) (by omega)
      have k3 : (Int32.ofNat (n + (i0 + i))).toNatClampNeg = n + (i0 + i) := q_n (by omega)
      have k4 : ¬ (q_sh8 i < 0) ∧ q_sh8 i + (-8) = q_sh8 (i + 1) := by
        match i, hi with
        | 0, _ => exact ⟨by decide, by decide⟩
        | 1, _ => exact ⟨by decide, by decide⟩
        | 2, _ => exact ⟨by decide, by decide⟩
        | 3, _ => exact ⟨by decide, by decide⟩
        | m + 4, h => exact absurd h (by omega)
      have k5 := hf i hi
      unfold q_by at k5
      have k6 : j_sI (j_sI (q_fc d (q_wr r n f (i0 + i)) (Int32.ofNat (n + (i0 + i)))) 2 (n + (i0 + i)) (f (i0 + i))) 1 1 (Int32.ofNat (n + (i0 + i)) + 1) = q_fc d (q_wr r n f (i0 + (i + 1))) (Int32.ofNat (n + (i0 + (i + 1)))) := by
        unfold q_fc
        rw [q_two (by decide), q_wr_s, q_s]
        rfl
      unfold f_X9_addNumber_w3 f_X9_addNumber_j49_3
      simp only [k4.1, l1, k1, k2, k3, if_false, ← k5, k6, k4.2])
    (by
      unfold f_X9_addNumber_w3
      simp only [show q_sh8 4 < 0 by decide, if_true])
  have e0 : (q_sh8 0, q_fc d (q_wr r n f (i0 + 0)) (Int32.ofNat (n + (i0 + 0)))) = (24, q_fc d (q_wr r n f i0) (Int32.ofNat (n + i0))) := rfl
  rw [e0] at h
  rw [h]; rfl
def q_sel (p1 p2 p3 p4 p5 : Int32) (k : Nat) : Int32 := if k < 4 then p1 else if k < 8 then p2 else if k < 12 then p3 else if k < 16 then p4 else p5
def q_fb (p1 p2 p3 p4 p5 : Int32) (k : Nat) : Int32 := q_by (q_sel p1 p2 p3 p4 p5 k) ((24 : Int32) - (8 : Int32) * (Int32.ofNat k - Int32.ofNat k / 4 * 4))
theorem q_feedM {d : JD} {r : Nat → Int32} {n : Nat} (hn : n + 20 ≤ 900) (p1 p2 p3 p4 p5 : Int32) : j_wh (f_X13_feed_w23 p1 p2 p3 p4 p5) j_fuel (0, q_fm d r (Int32.ofNat n)) = some (q_fm d (q_wr r n (q_fb p1 p2 p3 p4 p5) 20) (Int32.ofNat (n + 20))) := by
  have h := q_run (F := f_X13_feed_w23 p1 p2 p3 p4 p5) (fun i => (Int32.ofNat i, q_fm d (q_wr r n (q_fb p1 p2 p3 p4 p5) i) (Int32.ofNat (n + i)))) 20 (by decide) (e := q_fm d (q_wr r n (q_fb p1 p2 p3 p4 p5) 20) (Int32.ofNat (n + 20)))
    (fun i hi => by
      have l1 : (q_fm d (q_wr r n (q_fb p1 p2 p3 p4 p5) i) (Int32.ofNat (n + i))).1 57 6 = Int32.ofNat (n + i) := by unfold q_fm; rw [q_sI_a]; rfl
      have k0 : ¬ ((20 : Int32) ≤ Int32.ofNat i) := q_go (n := 20) (by decide) hi
      have k1 : ¬ j_out (Int32.ofNat (n + i)) 900 := q_in (by omega) (by decide)
      have k3 : (Int32.ofNat (n + i)).toNatClampNeg = n + i := q_n (by omega)
      have k6 : j_sI (j_sI (q_fm d (q_wr r n (q_fb p1 p2 p3 p4 p5) i) (Int32.ofNat (n + i))) 58 (n + i) (q_fb p1 p2 p3 p4 p5 i)) 57 6 (Int32.ofNat (n + i + 1)) = q_fm d (q_wr r n (q_fb p1 p2 p3 p4 p5) (i + 1)) (Int32.ofNat (n + (i + 1))) := by
        unfold q_fm
        rw [q_two (by decide), q_wr_s]
        rfl
      have z4 : (4 : Int32) ≤ Int32.ofNat i ↔ 4 ≤ i := q_le (n := 4) (by decide) (by omega)
      have z8 : (8 : Int32) ≤ Int32.ofNat i ↔ 8 ≤ i := q_le (n := 8) (by decide) (by omega)
      have z12 : (12 : Int32) ≤ Int32.ofNat i ↔ 12 ≤ i := q_le (n := 12) (by decide) (by omega)
      have z16 : (16 : Int32) ≤ Int32.ofNat i ↔ 16 ≤ i := q_le (n := 16) (by decide) (by omega)
      have step : ∀ y, q_sel p1 p2 p3 p4 p5 i = y → f_X13_feed_j76_23 p1 p2 p3 p4 p5 (q_fm d (q_wr r n (q_fb p1 p2 p3 p4 p5) i) (Int32.ofNat (n + i))) (Int32.ofNat i) y = some (.inl (Int32.ofNat (i + 1), q_fm d (q_wr r n (q_fb p1 p2 p3 p4 p5) (i + 1)) (Int32.ofNat (n + (i + 1))))) := by
        intro y hy
        have k5 : vp_nar .byte ((y >>> (((24 : Int32) - (8 : Int32) * (Int32.ofNat i - Int32.ofNat i / 4 * 4)) &&& 31)).toInt8.toInt32) = q_fb p1 p2 p3 p4 p5 i := by rw [← hy]; rfl
        unfold f_X13_feed_j76_23
        simp only [l1, k1, k3, k5, if_false, k6, q_s]
      unfold f_X13_feed_w23
      simp only [k0, if_false, z4, z8, z12, z16]
      by_cases c4 : 4 ≤ i
      · by_cases c8 : 8 ≤ i
        · by_cases c12 : 12 ≤ i
          · by_cases c16 : 16 ≤ i
            · simp only [c4, c8, c12, c16, if_true]
              exact step p5 (by unfold q_sel; rw [if_neg (by omega), if_neg (by omega), if_neg (by omega), if_neg (by omega)])
            · simp only [c4, c8, c12, c16, if_true, if_false]
              exact step p4 (by unfold q_sel; rw [if_neg (by omega), if_neg (by omega), if_neg (by omega), if_pos (by omega)])
          · simp only [c4, c8, c12, if_true, if_false]
            exact step p3 (by unfold q_sel; rw [if_neg (by omega), if_neg (by omega), if_pos (by omega)])
        · simp only [c4, c8, if_true, if_false]
          exact step p2 (by unfold q_sel; rw [if_neg (by omega), if_pos (by omega)])
      · simp only [c4, if_false]
        exact step p1 (by unfold q_sel; rw [if_pos (by omega)]))
    (by
      unfold f_X13_feed_w23
      simp only [show (20 : Int32) ≤ Int32.ofNat 20 by decide, if_true])
  have e0 : (Int32.ofNat 0, q_fm d (q_wr r n (q_fb p1 p2 p3 p4 p5) 0) (Int32.ofNat (n + 0))) = (0, q_fm d r (Int32.ofNat n)) := by rw [q_wr_0]; rfl
  rw [e0] at h
  exact h
theorem q_R.tape {K : q_K} (hK : q_Kok K) {g : JG} {d d2 : JD} (r : q_R K (g, d)) (e : ∀ b, b ≠ 1 → b ≠ 2 → b ≠ 57 → b ≠ 58 → d2.1 b = d.1 b) (e57 : ∀ k, k ≠ 0 → k ≠ 6 → d2.1 57 k = d.1 57 k) (ht : q_TR d2) : q_R K (g, d2) := by
  obtain ⟨a, b, hg, -, hr, hk, hl⟩ := r
  have haa := hg.a
  have hA : ∀ j, j < 15 → q_rows d2 a j = q_rows d a j := fun j hj => e (a + j) (by omega) (by omega) (by omega) (by omega)
  have hC : ∀ j, j < 9 → q_rows d2 32 j = q_rows d 32 j := fun j hj => e (32 + j) (by omega) (by omega) (by omega) (by omega)
  refine ⟨a, b, hg, ht, ?_, hK _ _ _ _ hA hC hk, ?_⟩
  · rw [show (g, d2).2.1 24 = d.1 24 from e 24 (by decide) (by decide) (by decide) (by decide), show (g, d2).2.1 28 = d.1 28 from e 28 (by decide) (by decide) (by decide) (by decide)]
    exact hr
  · rcases hl with ⟨h1, h2⟩ | ⟨t, h1, h2, h3, G, P, F, W, L, h4⟩
    · refine Or.inl ⟨h1, ?_⟩
      unfold q_NL at h2 ⊢
      have e0 : d2.1 a = d.1 a := e a (by omega) (by omega) (by omega) (by omega)
      have e9 : d2.1 (a + 9) = d.1 (a + 9) := e (a + 9) (by omega) (by omega) (by omega) (by omega)
      dsimp only at h2 ⊢
      rw [e0, e9, e 22 (by decide) (by decide) (by decide) (by decide), e 24 (by decide) (by decide) (by decide) (by decide), e 28 (by decide) (by decide) (by decide) (by decide)]
      exact h2
    · refine Or.inr ⟨t, h1, h2, h3, G, P, F, W, L, ?_⟩
      have hT : ∀ j, j < 15 → q_rows d2 t j = q_rows d t j := fun j hj => e (t + j) (by omega) (by omega) (by omega) (by omega)
      obtain ⟨p1, p2, p3, p4⟩ := h4
      refine ⟨q_L_congr hA hT p1, ?_, ?_, ?_⟩
      · dsimp only at p2 ⊢
        rw [e 22 (by decide) (by decide) (by decide) (by decide), e 59 (by decide) (by decide) (by decide) (by decide)]
        exact q_N_congr hA hT p2
      · dsimp only at p3 ⊢
        rw [e 24 (by decide) (by decide) (by decide) (by decide), e 25 (by decide) (by decide) (by decide) (by decide), e 26 (by decide) (by decide) (by decide) (by decide), e 27 (by decide) (by decide) (by decide) (by decide), e 61 (by decide) (by decide) (by decide) (by decide), e57 19 (by decide) (by decide)]
        exact q_S_congr hA hT p3
      · dsimp only at p4 ⊢
        rw [e 28 (by decide) (by decide) (by decide) (by decide), e 29 (by decide) (by decide) (by decide) (by decide), e 30 (by decide) (by decide) (by decide) (by decide), e 31 (by decide) (by decide) (by decide) (by decide), e 62 (by decide) (by decide) (by decide) (by decide), e57 20 (by decide) (by decide)]
        exact q_S_congr hA hT p4
theorem q_0 {K : q_K} (hK : q_Kok K) : lw_st_0 (q_R K) := by
  intro h p1 p2 p3 p4 p5 r hz
  obtain ⟨g, d⟩ := h
  have hr := r
  obtain ⟨a, b, hg, ht, hrm, -, -⟩ := r
  obtain ⟨t1, t2, t3, ⟨n, hn, t4⟩, t5, t6⟩ := ht
  dsimp only at t1 t2 t3 t4 t5 t6
  by_cases h20 : n + 20 ≤ 900
  · obtain ⟨f, hf⟩ : ∃ f, f = q_fb p1 p2 p3 p4 p5 := ⟨_, rfl⟩
    have fb : ∀ (m : Nat) (v : Int32), m < 5 → (∀ i, i < 4 → q_sel p1 p2 p3 p4 p5 (4 * m + i) = v) → ∀ i, i < 4 → f (4 * m + i) = q_by v (q_sh8 i) := by
      intro m v hm hv i hi
      have key : ∀ (m : Fin 5) (i : Fin 4), (24 : Int32) - (8 : Int32) * (Int32.ofNat (4 * m.val + i.val) - Int32.ofNat (4 * m.val + i.val) / 4 * 4) = q_sh8 i.val := by decide +kernel
      rw [hf]
      unfold q_fb
      rw [hv i hi, key ⟨m, hm⟩ ⟨i, hi⟩]
    have s0 : q_fc d (q_wr (d.1 2) n f 0) (Int32.ofNat (n + 0)) = d := by
      unfold q_fc
      rw [q_wr_0, q_row_self, q_sI_row]
      have : upd (d.1 1) 1 (Int32.ofNat (n + 0)) = d.1 1 := by
        funext k
        unfold upd
        by_cases c : k = 1
        · rw [if_pos c, c]; exact t4.symm
        · rw [if_neg c]
      rw [this, q_row_self]
    have A1 := q_addN (d := d) (r := d.1 2) (f := f) (n := n) (i0 := 0) (v := p1) (by omega) (fb 0 p1 (by decide) (fun i hi => by unfold q_sel; rw [if_pos (by omega)]))
    have A2 := q_addN (d := d) (r := d.1 2) (f := f) (n := n) (i0 := 4) (v := p2) (by omega) (fb 1 p2 (by decide) (fun i hi => by unfold q_sel; rw [if_neg (by omega), if_pos (by omega)]))
    have A3 := q_addN (d := d) (r := d.1 2) (f := f) (n := n) (i0 := 8) (v := p3) (by omega) (fb 2 p3 (by decide) (fun i hi => by unfold q_sel; rw [if_neg (by omega), if_neg (by omega), if_pos (by omega)]))
    have A4 := q_addN (d := d) (r := d.1 2) (f := f) (n := n) (i0 := 12) (v := p4) (by omega) (fb 3 p4 (by decide) (fun i hi => by unfold q_sel; rw [if_neg (by omega), if_neg (by omega), if_neg (by omega), if_pos (by omega)]))
    have A5 := q_addN (d := d) (r := d.1 2) (f := f) (n := n) (i0 := 16) (v := p5) (by omega) (fb 4 p5 (by decide) (fun i hi => by unfold q_sel; rw [if_neg (by omega), if_neg (by omega), if_neg (by omega), if_neg (by omega)]))
    rw [s0] at A1
    obtain ⟨dc, hdc⟩ : ∃ dc, dc = q_fc d (q_wr (d.1 2) n f 20) (Int32.ofNat (n + 20)) := ⟨_, rfl⟩
    have A5' : f_X9_addNumber (q_fc d (q_wr (d.1 2) n f 16) (Int32.ofNat (n + 16))) p5 = some dc := by rw [hdc]; exact A5
    have z1 : f_X9_hasRoomForFive (d.1 1) = true := by
      unfold f_X9_hasRoomForFive
      have : ¬ ((900 : Int32) < Int32.ofNat n + 20) := by
        rw [show Int32.ofNat n + 20 = Int32.ofNat (n + 20) by rw [Int32.ofNat_add]; rfl]
        intro z
        have := (q_lt (n := 900) (by decide) (by omega)).mp z
        omega
      rw [t4, if_neg this]
    have dc1 : dc.1 1 1 = Int32.ofNat (n + 20) := by rw [hdc]; unfold q_fc; rw [q_sI_a]; rfl
    have dc2 : dc.1 2 = q_wr (d.1 2) n f 20 := by rw [hdc]; unfold q_fc; rw [q_sI_o (by decide), q_row_a]
    have dco : ∀ b, b ≠ 1 → b ≠ 2 → dc.1 b = d.1 b := fun b b1 b2 => by rw [hdc]; unfold q_fc; rw [q_sI_o b1, q_row_o b2]
    have e1 : f_X11_feed d p1 p2 p3 p4 p5 = some (Int32.ofNat (n + 20), dc) := by
      unfold f_X11_feed
      rw [if_pos z1, A1, Option.bind_some, A2, Option.bind_some, A3, Option.bind_some, A4, Option.bind_some, A5', Option.bind_some, dc1]
    obtain ⟨d0, hd0⟩ : ∃ d0, d0 = j_sI dc 57 0 0 := ⟨_, rfl⟩
    have z6 : dc.1 57 6 = Int32.ofNat n := by rw [dco 57 (by decide) (by decide), t5, t4]
    have s1 : q_fm d0 (d0.1 58) (Int32.ofNat n) = d0 := by
      unfold q_fm
      rw [q_row_self, q_sI_row]
      have : upd (d0.1 57) 6 (Int32.ofNat n) = d0.1 57 := by
        funext k
        unfold upd
        by_cases c : k = 6
        · rw [if_pos c, c, hd0, q_sI_a, q_upd_o (by decide)]; exact z6.symm
        · rw [if_neg c]
      rw [this, q_row_self]
    have lp := q_feedM (d := d0) (r := d0.1 58) (n := n) h20 p1 p2 p3 p4 p5
    rw [s1, ← hf] at lp
    obtain ⟨dm, hdm⟩ : ∃ dm, dm = q_fm d0 (q_wr (d0.1 58) n f 20) (Int32.ofNat (n + 20)) := ⟨_, rfl⟩
    rw [← hdm] at lp
    have m6 : dm.1 57 6 = Int32.ofNat (n + 20) := by rw [hdm]; unfold q_fm; rw [q_sI_a]; rfl
    have z2 : Int32.ofNat n + 20 ≤ 900 := by
      rw [show Int32.ofNat n + 20 = Int32.ofNat (n + 20) by rw [Int32.ofNat_add]; rfl]
      exact (q_le (i := 900) (by omega) (by decide)).mpr h20
    have e2 : f_X13_feed dc p1 p2 p3 p4 p5 = some (Int32.ofNat (n + 20), dm) := by
      unfold f_X13_feed
      rw [z6, if_pos z2, ← hd0, lp, Option.bind_some, m6]
    have mo : ∀ b, b ≠ 57 → b ≠ 58 → dm.1 b = dc.1 b := fun b b57 b58 => by rw [hdm]; unfold q_fm; rw [q_sI_o b57, q_row_o b58, hd0, q_sI_o b57]
    have m57 : ∀ k, k ≠ 0 → k ≠ 6 → dm.1 57 k = d.1 57 k := fun k k0 k6 => by
      rw [hdm]; unfold q_fm
      rw [q_sI_a, q_upd_o k6, q_row_o (by decide), hd0, q_sI_a, q_upd_o k0, dco 57 (by decide) (by decide)]
    have m58 : dm.1 58 = q_wr (d.1 2) n f 20 := by
      rw [hdm]; unfold q_fm
      rw [q_sI_o (by decide), q_row_a, hd0, q_sI_o (by decide), dco 58 (by decide) (by decide), t6.1]
    have m0 : dm.1 0 = d.1 0 := (mo 0 (by decide) (by decide)).trans (dco 0 (by decide) (by decide))
    have m11 : dm.1 1 1 = Int32.ofNat (n + 20) := by rw [mo 1 (by decide) (by decide)]; exact dc1
    have TR2 : q_TR dm := by
      refine ⟨?_, ?_, ?_, ⟨n + 20, h20, m11⟩, ?_, ?_⟩
      · rw [m0, m57 1 (by decide) (by decide)]; exact t1
      · rw [m0, m57 12 (by decide) (by decide)]; exact t2
      · rw [m0, m57 2 (by decide) (by decide)]; exact t3
      · rw [m6, m11]
      · rw [m58, mo 2 (by decide) (by decide), dc2]
        refine ⟨rfl, fun k => ?_⟩
        unfold q_wr
        by_cases c : n ≤ k ∧ k < n + 20
        · rw [if_pos c, hf]
          exact q_by_b _ _
        · rw [if_neg c]
          exact t6.2 k
    have r2 : q_R K (g, dm) := hr.tape hK (fun b b1 b2 b57 b58 => (mo b b57 b58).trans (dco b b1 b2)) m57 TR2
    exact q_stI hr (q_jP (s_X11_feed g d p1 p2 p3 p4 p5 hg.2.1) e1) (q_jP (s_X13_feed g _ p1 p2 p3 p4 p5 hg.2.1) e2) r2
  · have z0 : Int32.ofNat n + 20 = Int32.ofNat (n + 20) := by rw [Int32.ofNat_add]; rfl
    have z1 : f_X9_hasRoomForFive (d.1 1) = false := by
      unfold f_X9_hasRoomForFive
      have : (900 : Int32) < Int32.ofNat n + 20 := by
        rw [z0]
        exact (q_lt (n := 900) (by decide) (by omega)).mpr (by omega)
      rw [t4, if_pos this]
    have z2 : ¬ (Int32.ofNat n + 20 ≤ 900) := by
      rw [z0]
      intro z
      have := (q_le (i := 900) (by omega) (by decide)).mp z
      omega
    have e1 : f_X11_feed d p1 p2 p3 p4 p5 = some (-1, d) := by
      unfold f_X11_feed
      rw [z1, if_neg (by decide)]
    have e2 : f_X13_feed d p1 p2 p3 p4 p5 = some (-1, j_sI d 57 0 0) := by
      unfold f_X13_feed
      rw [t5, t4, if_neg z2]
    exact q_stI hr (q_jP (s_X11_feed g d p1 p2 p3 p4 p5 hg.2.1) e1) (q_jP (s_X13_feed g _ p1 p2 p3 p4 p5 hg.2.1) e2) (hr.sm hK ((q_sm.refl d).f57 rfl 0) (q_TR.sm ⟨t1, t2, t3, ⟨n, hn, t4⟩, t5, t6⟩ ((q_sm.refl d).f57 rfl 0) (by rw [q_sI_o (by decide)]) (by rw [q_sI_a]; rfl) (by rw [q_sI_a]; rfl)))
