/-! tier two: the class explores -/
theorem q_wi7 : ∀ n : Fin 7, ∀ c : Fin (3 ^ n.val), (q_cod (q_dig n.val c.val)).toNatClampNeg < 4096 ∧ q_cod (q_dig n.val c.val) = Int32.ofNat (q_cod (q_dig n.val c.val)).toNatClampNeg ∧ q_cod (q_dig n.val c.val) >>> ((5 : Int32) &&& 31) = Int32.ofNat ((q_cod (q_dig n.val c.val)).toNatClampNeg / 32) ∧ q_cod (q_dig n.val c.val) &&& 31 = Int32.ofNat ((q_cod (q_dig n.val c.val)).toNatClampNeg % 32) := by decide +kernel
/-- the way's number among codes -/
def q_wc (G c : Nat) : Nat := (q_cod (q_dig G c)).toNatClampNeg
theorem q_wi {G c : Nat} (hG : G ≤ 6) (hc : c < 3 ^ G) : q_wc G c < 4096 ∧ q_cod (q_dig G c) = Int32.ofNat (q_wc G c) ∧ q_cod (q_dig G c) >>> ((5 : Int32) &&& 31) = Int32.ofNat (q_wc G c / 32) ∧ q_cod (q_dig G c) &&& 31 = Int32.ofNat (q_wc G c % 32) := q_wi7 ⟨G, by omega⟩ ⟨c, hc⟩
theorem q_wcj {G c c' : Nat} (hG : G ≤ 6) (hc : c < 3 ^ G) (hc' : c' < 3 ^ G) (h1 : q_wc G c / 32 = q_wc G c' / 32) (h2 : q_wc G c % 32 = q_wc G c' % 32) : c = c' := by
  have e : q_wc G c = q_wc G c' := by omega
  refine q_wj hG hc hc' ?_
  rw [(q_wi hG hc).2.1, (q_wi hG hc').2.1, e]
theorem q_b31 : ∀ b : Fin 32, Int32.ofNat b.val &&& 31 = Int32.ofNat b.val := by decide +kernel
theorem q_smod : ∀ b : Fin 32, ((Int32.ofNat b.val).toBitVec.smod 32).toNat = b.val := by decide +kernel
theorem q_one1 (x : Int32) : (x &&& 1 = 1) ↔ x.toBitVec.getLsbD 0 = true := by
  rw [← Int32.toBitVec_inj]
  show x.toBitVec &&& 1#32 = 1#32 ↔ _
  generalize x.toBitVec = y
  constructor
  · intro h
    have : (y &&& 1#32).getLsbD 0 = (1#32).getLsbD 0 := by rw [h]
    rw [BitVec.getLsbD_and] at this
    cases z : y.getLsbD 0 with
    | false => rw [z] at this; exact absurd this (by decide)
    | true => rfl
  · intro h
    apply BitVec.eq_of_getLsbD_eq
    intro i hi
    rw [BitVec.getLsbD_and]
    by_cases z : i = 0
    · rw [z, h]; rfl
    · have : (1#32).getLsbD i = false := by
        rw [BitVec.getLsbD_one]
        have : decide (0 = i) = false := decide_eq_false (by omega)
        simp [z]
      rw [this, Bool.and_false]
theorem q_hbit (v : Int32) {b : Nat} (hb : b < 32) : f_X11_hasBit v (Int32.ofNat b) = v.toBitVec.getLsbD b := by
  have e : (v >>> Int32.ofNat b).toBitVec = v.toBitVec.sshiftRight b := by
    have h := q_smod ⟨b, hb⟩
    show v.toBitVec.sshiftRight' ((Int32.ofNat b).toBitVec.smod 32) = _
    unfold BitVec.sshiftRight'
    rw [h]
  have g : (v >>> Int32.ofNat b).toBitVec.getLsbD 0 = v.toBitVec.getLsbD b := by
    rw [e, BitVec.getLsbD_sshiftRight]
    simp [hb]
  unfold f_X11_hasBit
  rw [q_b31 ⟨b, hb⟩]
  by_cases c : (v >>> Int32.ofNat b) &&& 1 = 1
  · rw [if_pos c, ← g]
    exact ((q_one1 _).mp c).symm
  · rw [if_neg c, ← g]
    cases z : (v >>> Int32.ofNat b).toBitVec.getLsbD 0 with
    | false => rfl
    | true => exact absurd ((q_one1 _).mpr z) c
theorem q_1sh : ∀ b b' : Fin 32, ((1 : Int32) <<< Int32.ofNat b.val).toBitVec.getLsbD b'.val = decide (b.val = b'.val) := by decide +kernel
theorem q_hbor (v : Int32) {b b' : Nat} (hb : b < 32) (hb' : b' < 32) : f_X11_hasBit (v ||| ((1 : Int32) <<< ((Int32.ofNat b) &&& 31))) (Int32.ofNat b') = (f_X11_hasBit v (Int32.ofNat b') || decide (b = b')) := by
  rw [q_hbit _ hb', q_hbit _ hb', q_b31 ⟨b, hb⟩]
  show (v.toBitVec ||| ((1 : Int32) <<< Int32.ofNat b).toBitVec).getLsbD b' = _
  rw [BitVec.getLsbD_or, q_1sh ⟨b, hb⟩ ⟨b', hb'⟩]
def q_CR (G : Nat) (d : JD) (ws : Int32) (D : JD) (s : q_S) : Prop := (∀ b, b < 32 ∨ 37 < b → D.1 b = d.1 b) ∧ D.1 32 5 = ws ∧ q_eqB G s (D.1 32 6) (D.1 33) (D.1 34) (D.1 35) (D.1 36) ∧ ∀ c, c < 3 ^ G → f_X11_hasBit (D.1 37 (q_wc G c / 32)) (Int32.ofNat (q_wc G c % 32)) = q_mem s.2.1 c s.1
def q_ad (D : JD) (u : Nat) (v : Int32) (n : Nat) (w p m dp c : Int32) : JD := j_sI (j_sI (j_sI (j_sI (j_sI (j_sI D 37 u v) 33 n w) 34 n p) 35 n m) 36 n dp) 32 6 c
theorem q_ad_o (D : JD) (u : Nat) (v : Int32) (n : Nat) (w p m dp c : Int32) {b : Nat} (hb : b < 32 ∨ 37 < b) : (q_ad D u v n w p m dp c).1 b = D.1 b := by
  unfold q_ad
  rw [q_sI_o (by omega), q_sI_o (by omega), q_sI_o (by omega), q_sI_o (by omega), q_sI_o (by omega), q_sI_o (by omega)]
theorem q_ad_r (D : JD) (u : Nat) (v : Int32) (n : Nat) (w p m dp c : Int32) : (q_ad D u v n w p m dp c).1 32 = upd (D.1 32) 6 c ∧ (q_ad D u v n w p m dp c).1 33 = upd (D.1 33) n w ∧ (q_ad D u v n w p m dp c).1 34 = upd (D.1 34) n p ∧ (q_ad D u v n w p m dp c).1 35 = upd (D.1 35) n m ∧ (q_ad D u v n w p m dp c).1 36 = upd (D.1 36) n dp ∧ (q_ad D u v n w p m dp c).1 37 = upd (D.1 37) u v := by
  unfold q_ad
  refine ⟨?_, ?_, ?_, ?_, ?_, ?_⟩
  · rw [q_sI_a, q_sI_o (by decide), q_sI_o (by decide), q_sI_o (by decide), q_sI_o (by decide), q_sI_o (by decide)]
  · rw [q_sI_o (by decide), q_sI_o (by decide), q_sI_o (by decide), q_sI_o (by decide), q_sI_a, q_sI_o (by decide)]
  · rw [q_sI_o (by decide), q_sI_o (by decide), q_sI_o (by decide), q_sI_a, q_sI_o (by decide), q_sI_o (by decide)]
  · rw [q_sI_o (by decide), q_sI_o (by decide), q_sI_a, q_sI_o (by decide), q_sI_o (by decide), q_sI_o (by decide)]
  · rw [q_sI_o (by decide), q_sI_a, q_sI_o (by decide), q_sI_o (by decide), q_sI_o (by decide), q_sI_o (by decide)]
  · rw [q_sI_o (by decide), q_sI_o (by decide), q_sI_o (by decide), q_sI_o (by decide), q_sI_o (by decide), q_sI_a]
/-- one way more -/
theorem q_addE {G c n : Nat} (hG : G ≤ 6) (hc : c < 3 ^ G) {D : JD} (e6 : D.1 32 6 = Int32.ofNat n) (p m : Int32) : f_X1_add D (q_cod (q_dig G c)) p m = if f_X11_hasBit (D.1 37 (q_wc G c / 32)) (Int32.ofNat (q_wc G c % 32)) = true then D else if n < 729 then q_ad D (q_wc G c / 32) (D.1 37 (q_wc G c / 32) ||| ((1 : Int32) <<< ((Int32.ofNat (q_wc G c % 32)) &&& 31))) n (q_cod (q_dig G c)) p m (if p = -1 then 0 else f_X11_at (D.1 36) 729 p + 1) (Int32.ofNat (n + 1)) else f_X1_add D (q_cod (q_dig G c)) p m := by
  obtain ⟨i1, i2, i3, i4⟩ := q_wi hG hc
  have at37 : f_X11_at (D.1 37) 128 (Int32.ofNat (q_wc G c / 32)) = D.1 37 (q_wc G c / 32) := q_at (by omega) (by decide)
  by_cases z : f_X11_hasBit (D.1 37 (q_wc G c / 32)) (Int32.ofNat (q_wc G c % 32)) = true
  · rw [if_pos z]
    unfold f_X1_add j_let
    rw [i3, i4, at37]
    dsimp only
    rw [if_pos z]
  · rw [if_neg z]
    by_cases y : n < 729
    · rw [if_pos y]
      unfold f_X1_add j_let f_X1_add_j104 f_X1_movesTo j_let
      rw [i3, i4, at37]
      dsimp only
      rw [if_neg z, q_put (i := q_wc G c / 32) (by omega) (by decide)]
      have o1 : (j_sI D 37 (q_wc G c / 32) (D.1 37 (q_wc G c / 32) ||| ((1 : Int32) <<< ((Int32.ofNat (q_wc G c % 32)) &&& 31)))).1 32 6 = Int32.ofNat n := by rw [q_sI_o (by decide), e6]
      generalize hD1 : j_sI D 37 (q_wc G c / 32) (D.1 37 (q_wc G c / 32) ||| ((1 : Int32) <<< ((Int32.ofNat (q_wc G c % 32)) &&& 31))) = D1 at o1
      have r36 : D1.1 36 = D.1 36 := by rw [← hD1, q_sI_o (by decide)]
      rw [o1, q_put y (by decide)]
      have o2 : (j_sI D1 33 n (q_cod (q_dig G c))).1 32 6 = Int32.ofNat n := by rw [q_sI_o (by decide), o1]
      rw [o2, q_put y (by decide)]
      have o3 : (j_sI (j_sI D1 33 n (q_cod (q_dig G c))) 34 n p).1 32 6 = Int32.ofNat n := by rw [q_sI_o (by decide), o2]
      rw [o3, q_put y (by decide)]
      have o4 : (j_sI (j_sI (j_sI D1 33 n (q_cod (q_dig G c))) 34 n p) 35 n m).1 32 6 = Int32.ofNat n := by rw [q_sI_o (by decide), o3]
      have r4 : (j_sI (j_sI (j_sI D1 33 n (q_cod (q_dig G c))) 34 n p) 35 n m).1 36 = D.1 36 := by rw [q_sI_o (by decide), q_sI_o (by decide), q_sI_o (by decide), r36]
      have o5 : ∀ v, (j_sI (j_sI (j_sI (j_sI D1 33 n (q_cod (q_dig G c))) 34 n p) 35 n m) 36 n v).1 32 6 = Int32.ofNat n := fun v => by rw [q_sI_o (by decide), o4]
      rw [o4, r4, q_put y (by decide), q_put y (by decide), o5, o5, q_s]
      unfold q_ad
      rw [hD1]
      by_cases x : p = -1
      · rw [if_pos x, if_pos x]
      · rw [if_neg x, if_neg x]
    · rw [if_neg y]
theorem q_addC {G c i k : Nat} (hG : G ≤ 6) (hc : c < 3 ^ G) {d D : JD} {ws : Int32} {s : q_S} (h : q_CR G d ws D s) (hs : q_SI (3 ^ G) (4 * G) s) (hi : i < s.1) (hk : k < 4 * G) : q_CR G d ws (f_X1_add D (q_cod (q_dig G c)) (Int32.ofNat i) (Int32.ofNat k)) (q_badd s c i k (s.2.2.2.2 i + 1)) := by
  have pw := q_pw43 ⟨G, by omega⟩
  dsimp only at pw
  obtain ⟨h1, h2, ⟨h3, h4⟩, h5⟩ := h
  have hle := hs.le
  rw [q_addE hG hc h3, h5 c hc]
  unfold q_badd
  by_cases m : q_mem s.2.1 c s.1 = true
  · rw [if_pos m, if_pos m]
    exact ⟨h1, h2, ⟨h3, h4⟩, h5⟩
  · have hs' := hs.add hc hi hk m
    have hle' : s.1 + 1 ≤ 3 ^ G := hs'.le
    rw [if_neg m, if_neg m, if_pos (by omega), if_neg (q_nem1 (by omega)), q_at (by omega) (by decide), (h4 i hi).2.1, q_s]
    obtain ⟨r32, r33, r34, r35, r36, r37⟩ := q_ad_r D (q_wc G c / 32) (D.1 37 (q_wc G c / 32) ||| ((1 : Int32) <<< ((Int32.ofNat (q_wc G c % 32)) &&& 31))) s.1 (q_cod (q_dig G c)) (Int32.ofNat i) (Int32.ofNat k) (Int32.ofNat (s.2.2.2.2 i + 1)) (Int32.ofNat (s.1 + 1))
    refine ⟨fun b hb => (q_ad_o _ _ _ _ _ _ _ _ _ hb).trans (h1 b hb), ?_, ⟨?_, fun j hj => ?_⟩, fun c' hc' => ?_⟩
    · rw [r32, q_upd_o (by decide)]; exact h2
    · rw [r32, q_upd_a]
    · have hj' : j < s.1 + 1 := hj
      rw [r33, r34, r35, r36]
      show upd (D.1 33) s.1 (q_cod (q_dig G c)) j = q_cod (q_dig G (q_ud s.2.1 s.1 c j)) ∧ upd (D.1 36) s.1 (Int32.ofNat (s.2.2.2.2 i + 1)) j = Int32.ofNat (q_ud s.2.2.2.2 s.1 (s.2.2.2.2 i + 1) j) ∧ (0 < j → upd (D.1 34) s.1 (Int32.ofNat i) j = Int32.ofNat (q_ud s.2.2.1 s.1 i j) ∧ upd (D.1 35) s.1 (Int32.ofNat k) j = Int32.ofNat (q_ud s.2.2.2.1 s.1 k j))
      by_cases z : j = s.1
      · rw [z, q_upd_a, q_upd_a, q_upd_a, q_upd_a, q_ud_a, q_ud_a, q_ud_a, q_ud_a]
        exact ⟨rfl, rfl, fun _ => ⟨rfl, rfl⟩⟩
      · rw [q_upd_o z, q_upd_o z, q_upd_o z, q_upd_o z, q_ud_o z, q_ud_o z, q_ud_o z, q_ud_o z]
        exact h4 j (by omega)
    · rw [r37]
      show _ = (decide (q_ud s.2.1 s.1 c s.1 = c') || q_mem (q_ud s.2.1 s.1 c) c' s.1)
      have um : ∀ n, n ≤ s.1 → q_mem (q_ud s.2.1 s.1 c) c' n = q_mem s.2.1 c' n := by
        intro n
        induction n with
        | zero => exact fun _ => rfl
        | succ n ih =>
          intro hn
          show (decide (q_ud s.2.1 s.1 c n = c') || q_mem (q_ud s.2.1 s.1 c) c' n) = (decide (s.2.1 n = c') || q_mem s.2.1 c' n)
          rw [ih (by omega), q_ud_o (by omega)]
      rw [um s.1 (Nat.le_refl _), q_ud_a]
      by_cases z : q_wc G c' / 32 = q_wc G c / 32
      · rw [z, q_upd_a, q_hbor _ (Nat.mod_lt _ (by decide)) (Nat.mod_lt _ (by decide)), ← z, h5 c' hc', Bool.or_comm]
        congr 1
        by_cases y : q_wc G c % 32 = q_wc G c' % 32
        · have := q_wcj hG hc hc' z.symm y
          rw [this]
          rw [decide_eq_true rfl, decide_eq_true rfl]
        · rw [decide_eq_false y, decide_eq_false (fun e => y (by rw [e]))]
      · rw [q_upd_o z, h5 c' hc', decide_eq_false (fun e => z (by rw [e])), Bool.false_or]
