/-! tier two: a way laid, whether hooks may hang so, the least that one has -/
theorem q_sh32 : ∀ k : Fin 32, (1 : Int32) <<< Int32.ofNat k.val ≠ 0 := by decide +kernel
theorem q_low5 (x : Int32) : ∃ k, k < 32 ∧ x &&& 31 = Int32.ofNat k := by
  refine ⟨(x &&& 31).toBitVec.toNat, ?_, ?_⟩
  · have e : (x &&& 31).toBitVec = x.toBitVec &&& 31#32 := rfl
    rw [e, BitVec.toNat_and]
    exact Nat.lt_of_le_of_lt Nat.and_le_right (by decide)
  · apply Int32.toBitVec_inj.mp
    show (x &&& 31).toBitVec = BitVec.ofNat 32 (x &&& 31).toBitVec.toNat
    rw [BitVec.ofNat_toNat, BitVec.setWidth_eq]
theorem q_shnz (x : Int32) : (1 : Int32) <<< (x &&& 31) ≠ 0 := by
  obtain ⟨k, hk, e⟩ := q_low5 x
  rw [e]
  exact q_sh32 ⟨k, hk⟩
/-- every land has a person -/
theorem q_P1 {G P F W L : Nat} {A T : Nat → Nat → Int32} (h : q_LR G P F W L A T) : 1 ≤ P := by
  have hG1 := h.1.1.1
  by_cases z : P = 0
  · exfalso
    have key : ∀ k, k < 3 → f_X13_ownersIf (T 1) (T 2) (T 3) (T 4) (Int32.ofNat 0) (Int32.ofNat k) = some 0 := by
      intro k hk
      obtain ⟨m, m0, m1, m2, -⟩ := h.2.2.2.1 0 (by omega) k hk
      rw [z] at m0
      have : m = 0 := by
        have : (2 : Nat) ^ 0 = 1 := rfl
        omega
      rw [m2, this]
      rfl
    have k0 : ¬ j_out (Int32.ofNat 0) 6 := q_in (by decide) (by decide)
    by_cases c : T 3 (Int32.ofNat 0).toNatClampNeg = 1
    · have e := key 0 (by decide)
      unfold f_X13_ownersIf at e
      rw [if_neg k0, if_neg k0, if_pos c, if_neg (by decide), if_neg (by decide)] at e
      split at e
      · cases e
      · exact q_shnz _ (Option.some.inj e)
    · have e := key 1 (by decide)
      unfold f_X13_ownersIf at e
      rw [if_neg k0, if_neg k0, if_neg c, if_pos (by rfl)] at e
      split at e
      · cases e
      · exact q_shnz _ (Option.some.inj e)
  · omega
/-- masks -/
theorem q_and0 (x a b : Int32) : x &&& (a ||| b) = 0 ↔ x &&& a = 0 ∧ x &&& b = 0 := by
  have e : ∀ y : Int32, y = 0 ↔ y.toBitVec = 0#32 := fun y => Int32.toBitVec_inj.symm
  rw [e, e, e]
  show x.toBitVec &&& (a.toBitVec ||| b.toBitVec) = 0#32 ↔ x.toBitVec &&& a.toBitVec = 0#32 ∧ x.toBitVec &&& b.toBitVec = 0#32
  rw [BitVec.and_or_distrib_left, BitVec.or_eq_zero_iff]
theorem q_xorand (w t m : Int32) : (w ^^^ t) &&& m = 0 ↔ w &&& m = t &&& m := by
  have e : ∀ y z : Int32, y = z ↔ y.toBitVec = z.toBitVec := fun y z => Int32.toBitVec_inj.symm
  rw [e, e]
  show (w.toBitVec ^^^ t.toBitVec) &&& m.toBitVec = 0#32 ↔ w.toBitVec &&& m.toBitVec = t.toBitVec &&& m.toBitVec
  have d : (w.toBitVec ^^^ t.toBitVec) &&& m.toBitVec = (w.toBitVec &&& m.toBitVec) ^^^ (t.toBitVec &&& m.toBitVec) := by
    apply BitVec.eq_of_getLsbD_eq
    intro i _
    rw [BitVec.getLsbD_and, BitVec.getLsbD_xor, BitVec.getLsbD_xor, BitVec.getLsbD_and, BitVec.getLsbD_and]
    cases w.toBitVec.getLsbD i <;> cases t.toBitVec.getLsbD i <;> cases m.toBitVec.getLsbD i <;> rfl
  rw [d, BitVec.xor_eq_zero_iff]
def q_p6 (k : Nat) (v : Int32) : Int32 := match k with
  | 0 => v <<< 10
  | 1 => v <<< 8
  | 2 => v <<< 6
  | 3 => v <<< 4
  | 4 => v <<< 2
  | 5 => v
  | _ => 0
theorem q_p6F : ∀ a b c d e f : Fin 3, ∀ k : Fin 6, q_cod (q_F a b c d e f) &&& q_p6 k.val 3 = q_p6 k.val (q_F a b c d e f k.val) := by decide +kernel
theorem q_p6i : ∀ k : Fin 6, ∀ a b : Fin 3, q_p6 k.val (q_f3 a) = q_p6 k.val (q_f3 b) → a = b := by decide +kernel
theorem q_p60 : ∀ k : Fin 6, q_p6 k.val 0 = 0 := by decide +kernel
theorem q_p6c {x : Nat → Int32} (hx : q_dg x) {k : Nat} (hk : k < 6) : q_cod x &&& q_p6 k 3 = q_p6 k (x k) := by
  obtain ⟨a, b, c, d, e, f, h⟩ := q_dg6 hx
  rw [q_cod_F h, q_at_F h k hk]
  exact q_p6F a b c d e f ⟨k, hk⟩
theorem q_mask {x y gd : Nat → Int32} (hx : q_dg x) (hy : q_dg y) (hg : ∀ k, k < 6 → gd k = 0 ∨ gd k = 3) : (q_cod x ^^^ q_cod y) &&& q_cod gd = 0 ↔ ∀ k, k < 6 → gd k = 3 → x k = y k := by
  have one : ∀ k, k < 6 → ((q_cod x ^^^ q_cod y) &&& q_p6 k (gd k) = 0 ↔ (gd k = 3 → x k = y k)) := by
    intro k hk
    rcases hg k hk with z | z
    · rw [z, q_p60 ⟨k, hk⟩, Int32.and_zero]
      exact ⟨fun _ u => absurd u (by decide), fun _ => rfl⟩
    · rw [z, q_xorand, q_p6c hx hk, q_p6c hy hk]
      obtain ⟨p, ep⟩ := q_dg1 (hx k hk)
      obtain ⟨q, eq⟩ := q_dg1 (hy k hk)
      rw [ep, eq]
      exact ⟨fun u _ => by rw [q_p6i ⟨k, hk⟩ p q u], fun u => by rw [u rfl]⟩
  have e : q_cod gd = q_p6 0 (gd 0) ||| q_p6 1 (gd 1) ||| q_p6 2 (gd 2) ||| q_p6 3 (gd 3) ||| q_p6 4 (gd 4) ||| q_p6 5 (gd 5) := rfl
  rw [e, q_and0, q_and0, q_and0, q_and0, q_and0, one 0 (by decide), one 1 (by decide), one 2 (by decide), one 3 (by decide), one 4 (by decide), one 5 (by decide)]
  constructor
  · rintro ⟨⟨⟨⟨⟨u0, u1⟩, u2⟩, u3⟩, u4⟩, u5⟩ k hk
    match k, hk with
    | 0, _ => exact u0
    | 1, _ => exact u1
    | 2, _ => exact u2
    | 3, _ => exact u3
    | 4, _ => exact u4
    | 5, _ => exact u5
    | n + 6, h => exact absurd h (by omega)
  · intro u
    exact ⟨⟨⟨⟨⟨u 0 (by decide), u 1 (by decide)⟩, u 2 (by decide)⟩, u 3 (by decide)⟩, u 4 (by decide)⟩, u 5 (by decide)⟩
theorem q_cntG {G : Nat} {x : Nat → Int32} (hx : q_WY G x) (hG : G ≤ 6) : q_cnt x 6 = q_cnt x G := by
  have : ∀ j, G + j ≤ 6 → q_cnt x (G + j) = q_cnt x G := by
    intro j
    induction j with
    | zero => exact fun _ => rfl
    | succ j ih =>
      intro hj
      show (if x (G + j) = 0 then q_cnt x (G + j) else q_cnt x (G + j) + 1) = _
      rw [if_pos (hx.2 (G + j) (by omega) (by omega)), ih (by omega)]
  have h := this (6 - G) (by omega)
  rw [show G + (6 - G) = 6 by omega] at h
  exact h
theorem q_subneg : ∀ a : Fin 13, ∀ b : Fin 7, (Int32.ofNat a.val - Int32.ofNat b.val < 0) ↔ a.val < b.val := by decide +kernel
/-- agreeing on the gates -/
theorem q_wh_congr {S E : Type} {F F' : S → Option (S ⊕ E)} {Q : S → Prop} (h : ∀ s, Q s → F s = F' s ∧ ∀ s', F s = some (.inl s') → Q s') : ∀ u s, Q s → j_wh F u s = j_wh F' u s
  | 0, _, _ => rfl
  | u + 1, s, hs => by
    obtain ⟨h1, h2⟩ := h s hs
    show (F s).bind _ = (F' s).bind _
    rw [← h1]
    cases e : F s with
    | none => rfl
    | some r =>
      cases r with
      | inl s' => exact q_wh_congr h u s' (h2 s' e)
      | inr x => rfl
section QX
variable {G P F W L : Nat} {A T : Nat → Nat → Int32}
theorem q_has_c (h : q_LR G P F W L A T) {x x' : Nat → Int32} (hx : ∀ k, k < G → x k = x' k) (p : Int32) : f_X13_has x (T 0) (T 1) (T 2) (T 3) (T 4) (T 5) p = f_X13_has x' (T 0) (T 1) (T 2) (T 3) (T 4) (T 5) p := by
  have hG := h.1.1.2.1
  have e4 := h.1.2.1.2
  unfold f_X13_has
  rw [q_wh_congr (F := f_X13_has_w4 x (T 0) (T 1) (T 2) (T 3) (T 4) (T 5) p) (F' := f_X13_has_w4 x' (T 0) (T 1) (T 2) (T 3) (T 4) (T 5) p) (Q := fun s => ∃ n, n ≤ G ∧ s.2 = Int32.ofNat n) (fun s hs => by
    obtain ⟨n, hn, e⟩ := hs
    obtain ⟨s1, s2⟩ := s
    dsimp only at e
    subst e
    unfold f_X13_has_w4
    dsimp only
    by_cases z : n = G
    · rw [z, e4, if_pos (q_end (by omega)), if_pos (q_end (by omega))]
      exact ⟨rfl, fun s' u => by cases u⟩
    · have k2 := q_go (n := G) (i := n) (by omega) (by omega)
      have hxn : x (Int32.ofNat n).toNatClampNeg = x' (Int32.ofNat n).toNatClampNeg := by rw [q_n (by omega)]; exact hx n (by omega)
      rw [e4, if_neg k2, if_neg k2, hxn]
      refine ⟨rfl, fun s' u => ?_⟩
      split at u
      · cases u
      · cases v : f_X13_shareIf (T 1) (T 2) (T 3) (T 4) (T 5) p (Int32.ofNat n) (x' (Int32.ofNat n).toNatClampNeg) with
        | none => rw [v] at u; cases u
        | some r =>
          rw [v, Option.bind_some] at u
          have u' := Sum.inl.inj (Option.some.inj u)
          rw [← u']
          exact ⟨n + 1, by omega, q_s n⟩) j_fuel (0, 0) ⟨0, by omega, rfl⟩]
theorem q_hung_c (h : q_LR G P F W L A T) {x x' : Nat → Int32} (hx : ∀ k, k < G → x k = x' k) : f_X13_hung x (T 0) = f_X13_hung x' (T 0) := by
  have hG := h.1.1.2.1
  have e4 := h.1.2.1.2
  unfold f_X13_hung
  rw [q_wh_congr (F := f_X13_hung_w4 x (T 0)) (F' := f_X13_hung_w4 x' (T 0)) (Q := fun s => ∃ n, n ≤ G ∧ s.2 = Int32.ofNat n) (fun s hs => by
    obtain ⟨n, hn, e⟩ := hs
    obtain ⟨s1, s2⟩ := s
    dsimp only at e
    subst e
    unfold f_X13_hung_w4 f_X13_hung_j30_4
    dsimp only
    by_cases z : n = G
    · rw [z, e4, if_pos (q_end (by omega)), if_pos (q_end (by omega))]
      exact ⟨rfl, fun s' u => by cases u⟩
    · have k2 := q_go (n := G) (i := n) (by omega) (by omega)
      have hxn : x (Int32.ofNat n).toNatClampNeg = x' (Int32.ofNat n).toNatClampNeg := by rw [q_n (by omega)]; exact hx n (by omega)
      rw [e4, if_neg k2, if_neg k2, hxn]
      refine ⟨rfl, fun s' u => ?_⟩
      split at u
      · cases u
      · split at u
        · have u' := Sum.inl.inj (Option.some.inj u)
          rw [← u']
          exact ⟨n + 1, by omega, q_s n⟩
        · have u' := Sum.inl.inj (Option.some.inj u)
          rw [← u']
          exact ⟨n + 1, by omega, q_s n⟩) j_fuel (0, 0) ⟨0, by omega, rfl⟩]
theorem q_calm_c (h : q_LR G P F W L A T) {x x' : Nat → Int32} (hx : ∀ k, k < G → x k = x' k) : f_X13_isCalm x (T 0) (T 1) (T 2) (T 3) (T 4) (T 5) = f_X13_isCalm x' (T 0) (T 1) (T 2) (T 3) (T 4) (T 5) := by
  have hG := h.1.1.2.1
  have e4 := h.1.2.1.2
  unfold f_X13_isCalm
  rw [q_wh_congr (F := f_X13_isCalm_w2 x (T 0) (T 1) (T 2) (T 3) (T 4) (T 5)) (F' := f_X13_isCalm_w2 x' (T 0) (T 1) (T 2) (T 3) (T 4) (T 5)) (Q := fun s => ∃ n, n ≤ G ∧ s = Int32.ofNat n) (fun s hs => by
    obtain ⟨n, hn, rfl⟩ := hs
    by_cases z : n = G
    · unfold f_X13_isCalm_w2
      rw [z, e4, if_pos (q_end (by omega)), if_pos (q_end (by omega))]
      exact ⟨rfl, fun s' u => by cases u⟩
    · have k2 := q_go (n := G) (i := n) (by omega) (by omega)
      have hxn : x (Int32.ofNat n).toNatClampNeg = x' (Int32.ofNat n).toNatClampNeg := by rw [q_n (by omega)]; exact hx n (by omega)
      have ow : f_X13_owners x (T 1) (T 2) (T 3) (T 4) (Int32.ofNat n) = f_X13_owners x' (T 1) (T 2) (T 3) (T 4) (Int32.ofNat n) := by
        unfold f_X13_owners
        rw [hxn]
      have inner : f_X13_isCalm_w40_2 x (T 0) (T 1) (T 2) (T 3) (T 4) (T 5) (Int32.ofNat n) = f_X13_isCalm_w40_2 x' (T 0) (T 1) (T 2) (T 3) (T 4) (T 5) (Int32.ofNat n) := by
        funext s
        unfold f_X13_isCalm_w40_2 f_X13_isCalm_j110_2_40
        rw [ow, hxn]
      unfold f_X13_isCalm_w2 f_X13_isCalm_j116_2
      rw [e4, if_neg k2, if_neg k2, inner, hxn]
      refine ⟨rfl, fun s' u => ?_⟩
      have fin : some (Sum.inl (Int32.ofNat n + 1)) = (some (Sum.inl s') : Option (Int32 ⊕ (Bool ⊕ Unit))) → ∃ m, m ≤ G ∧ s' = Int32.ofNat m := fun u => by
        have u' := Sum.inl.inj (Option.some.inj u)
        rw [← u']
        exact ⟨n + 1, by omega, q_s n⟩
      split at u
      · cases u
      · split at u
        · exact fin u
        · split at u
          · exact fin u
          · skip
            · cases v : j_wh (f_X13_isCalm_w40_2 x' (T 0) (T 1) (T 2) (T 3) (T 4) (T 5) (Int32.ofNat n)) j_fuel 0 with
              | none => rw [v] at u; cases u
              | some r =>
                rw [v, Option.bind_some] at u
                cases r with
                | inl b => cases u
                | inr b => exact fin u) j_fuel 0 ⟨0, by omega, rfl⟩]
theorem q_least_c (h : q_LR G P F W L A T) {x x' : Nat → Int32} (hx : ∀ k, k < G → x k = x' k) : f_X13_least x (T 0) (T 1) (T 2) (T 3) (T 4) (T 5) = f_X13_least x' (T 0) (T 1) (T 2) (T 3) (T 4) (T 5) := by
  have e : f_X13_least_w6 x (T 0) (T 1) (T 2) (T 3) (T 4) (T 5) = f_X13_least_w6 x' (T 0) (T 1) (T 2) (T 3) (T 4) (T 5) := by
    funext s
    unfold f_X13_least_w6 f_X13_least_j32_6
    rw [q_has_c h hx]
  unfold f_X13_least
  rw [e]
/-- the least that one has -/
def q_ls (w : Nat → Nat) : Nat → Nat
  | 0 => w 0
  | n + 1 => if w (n + 1) < q_ls w n then w (n + 1) else q_ls w n
theorem q_ls_le {w : Nat → Nat} (hw : ∀ p, w p ≤ 594) : ∀ n, q_ls w n ≤ 594
  | 0 => hw 0
  | n + 1 => by
    have := q_ls_le hw n
    have := hw (n + 1)
    show (if w (n + 1) < q_ls w n then w (n + 1) else q_ls w n) ≤ 594
    split <;> omega
theorem q_leastC (h : q_LR G P F W L A T) {x : Nat → Int32} (hx : q_dg x) : f_X3_leastWealth (A 0) (A 7) (A 8) (q_cod x) = Int32.ofNat (q_ls (q_w A (q_cod x)) (P - 1)) := by
  have hP := h.1.1.2.2.1
  have hP1 := q_P1 h
  have eP := h.1.2.2.1.1
  have wle := fun p => (q_wE h hx p).2
  unfold f_X3_leastWealth f_X3_leastWealth_j17 j_let
  rw [eP, if_neg (show ¬ (Int32.ofNat P ≤ 0) from q_go (n := P) (i := 0) (by omega) (by omega))]
  dsimp only
  have w0 : f_X3_wealth (A 0) (A 7) (A 8) 0 (q_cod x) = Int32.ofNat (q_w A (q_cod x) 0) := (q_wE h hx 0).1
  rw [w0, q_mu1 (by omega)]
  have key : ∀ k m, m + k = P → 1 ≤ m → j_for (Int32.ofNat P) (f_X3_leastWealth_b20 (A 0) (A 7) (A 8) (q_cod x)) k (Int32.ofNat m) (Int32.ofNat (q_ls (q_w A (q_cod x)) (m - 1))) = Int32.ofNat (q_ls (q_w A (q_cod x)) (P - 1)) := by
    intro k
    induction k with
    | zero => intro m hm _; rw [Nat.add_zero] at hm; rw [hm]; rfl
    | succ k ih =>
      intro m hm h1
      show (if Int32.ofNat P ≤ Int32.ofNat m then _ else _) = _
      rw [if_neg (q_go (by omega) (by omega)), q_s]
      have b1 := q_ls_le wle (m - 1)
      have b2 := wle m
      have st : f_X3_leastWealth_b20 (A 0) (A 7) (A 8) (q_cod x) (Int32.ofNat m) (Int32.ofNat (q_ls (q_w A (q_cod x)) (m - 1))) = Int32.ofNat (q_ls (q_w A (q_cod x)) (m + 1 - 1)) := by
        obtain ⟨j, rfl⟩ : ∃ j, m = j + 1 := ⟨m - 1, by omega⟩
        rw [show j + 1 - 1 = j by omega] at b1
        rw [show j + 1 - 1 = j by omega, show j + 1 + 1 - 1 = j + 1 by omega]
        show _ = Int32.ofNat (if q_w A (q_cod x) (j + 1) < q_ls (q_w A (q_cod x)) j then q_w A (q_cod x) (j + 1) else q_ls (q_w A (q_cod x)) j)
        unfold f_X3_leastWealth_b20
        rw [(q_wE h hx (j + 1)).1]
        by_cases c : q_w A (q_cod x) (j + 1) < q_ls (q_w A (q_cod x)) j
        · rw [if_pos c, if_pos ((q_lt (by omega) (by omega)).mpr c)]
        · rw [if_neg c, if_neg (fun y => c ((q_lt (by omega) (by omega)).mp y))]
      rw [st]
      exact ih (m + 1) (by omega) (by omega)
  exact key (P - 1) 1 (by omega) (by omega)
theorem q_leastM (h : q_LR G P F W L A T) {x : Nat → Int32} (hx : q_dg x) : f_X13_least x (T 0) (T 1) (T 2) (T 3) (T 4) (T 5) = some (f_X3_leastWealth (A 0) (A 7) (A 8) (q_cod x)) := by
  have hP := h.1.1.2.2.1
  have hP1 := q_P1 h
  have eP := h.1.2.2.1.2
  have wle := fun p => (q_wE h hx p).2
  have hm : ∀ p, f_X13_has x (T 0) (T 1) (T 2) (T 3) (T 4) (T 5) (Int32.ofNat p) = some (Int32.ofNat (q_w A (q_cod x) p)) := fun p => by rw [q_hasM h hx, (q_wE h hx p).1]
  rw [q_leastC h hx]
  unfold f_X13_least
  have l := q_run (F := f_X13_least_w6 x (T 0) (T 1) (T 2) (T 3) (T 4) (T 5)) (fun i => (if i = 0 then (9999 : Int32) else Int32.ofNat (q_ls (q_w A (q_cod x)) (i - 1)), Int32.ofNat i)) (e := Int32.ofNat (q_ls (q_w A (q_cod x)) (P - 1))) P (by omega) (fun i hi => by
    have k2 := q_go (n := P) (by omega) hi
    unfold f_X13_least_w6 f_X13_least_j32_6
    dsimp only
    rw [eP, if_neg k2, hm i, Option.bind_some, Option.bind_some, q_s, if_neg (show ¬ (i + 1 = 0) by omega)]
    have b2 := wle i
    match i, b2 with
    | 0, b2 =>
      have z : ¬ ((9999 : Int32) ≤ Int32.ofNat (q_w A (q_cod x) 0)) := q_go (n := 9999) (by decide) (by omega)
      rw [if_pos rfl, if_neg z]
      rfl
    | j + 1, b2 =>
      have b1 := q_ls_le wle j
      rw [if_neg (show ¬ (j + 1 = 0) by omega), show j + 1 - 1 = j by omega, show j + 1 + 1 - 1 = j + 1 by omega]
      show _ = some (Sum.inl (Int32.ofNat (if q_w A (q_cod x) (j + 1) < q_ls (q_w A (q_cod x)) j then q_w A (q_cod x) (j + 1) else q_ls (q_w A (q_cod x)) j), _))
      by_cases c : q_w A (q_cod x) (j + 1) < q_ls (q_w A (q_cod x)) j
      · rw [if_pos c, if_neg (q_go (by omega) c)]
      · rw [if_neg c, if_pos ((q_le (by omega) (by omega)).mpr (by omega))]) (by
    unfold f_X13_least_w6
    dsimp only
    rw [eP, if_pos (q_end (by omega)), if_neg (show ¬ (P = 0) by omega)])
  have l' : j_wh (f_X13_least_w6 x (T 0) (T 1) (T 2) (T 3) (T 4) (T 5)) j_fuel (9999, 0) = some (Int32.ofNat (q_ls (q_w A (q_cod x)) (P - 1))) := l
  have nz : ¬ (Int32.ofNat P = 0) := fun y => by
    have := (q_eq (i := 0) (by omega) (by decide)).mp y
    omega
  rw [l', Option.bind_some, eP, if_neg nz]
/-- whether hooks may hang so -/
theorem q_mayC (h : q_LR G P F W L A T) {x : Nat → Int32} (hx : q_WY G x) (hiw : f_X10_isWay (q_cod x) = true) {H : Nat} (hH : A 0 0 = Int32.ofNat H) (hH6 : H ≤ 6) : f_X3_mayHangSo (A 0) (q_cod x) = true ↔ (∀ g, g < G → T 3 g = 2 → x g = T 6 g) ∧ q_cnt x G ≤ H + q_cnt (T 6) 6 := by
  have hG := h.1.1.2.1
  have w6 := h.2.2.1.2.1
  have gdv : ∀ k, k < 6 → q_gd G (T 3) k = 0 ∨ q_gd G (T 3) k = 3 := fun k _ => by
    unfold q_gd
    split
    · split
      · exact Or.inr rfl
      · exact Or.inl rfl
    · exact Or.inl rfl
  have c1 : (q_cod x ^^^ A 0 6) &&& A 0 7 = 0 ↔ ∀ g, g < G → T 3 g = 2 → x g = T 6 g := by
    rw [h.2.2.1.1, h.2.2.1.2.2.1, q_mask hx.1 w6.1 gdv]
    constructor
    · intro u g hg e
      refine u g (by omega) ?_
      unfold q_gd
      rw [if_pos hg, if_pos e]
    · intro u k hk e
      unfold q_gd at e
      by_cases y : k < G
      · rw [if_pos y] at e
        by_cases y2 : T 3 k = 2
        · exact u k y y2
        · rw [if_neg y2] at e; exact absurd e (by decide)
      · rw [if_neg y] at e; exact absurd e (by decide)
  have b1 := q_cnt_le (T 6) 6
  have b2 := q_cnt_le x 6
  have c2 : f_X3_hooksLying (A 0) (q_cod x) < 0 ↔ ¬ (q_cnt x G ≤ H + q_cnt (T 6) 6) := by
    unfold f_X3_hooksLying
    rw [h.2.2.1.1, q_hooks w6.1, q_hooks hx.1, hH, ← Int32.ofNat_add, q_subneg ⟨H + q_cnt (T 6) 6, by omega⟩ ⟨q_cnt x 6, by omega⟩]
    show H + q_cnt (T 6) 6 < q_cnt x 6 ↔ _
    rw [q_cntG hx hG]
    omega
  unfold f_X3_mayHangSo
  rw [if_pos hiw]
  by_cases z1 : (q_cod x ^^^ A 0 6) &&& A 0 7 = 0
  · rw [if_pos z1]
    by_cases z2 : f_X3_hooksLying (A 0) (q_cod x) < 0
    · rw [if_pos z2]
      exact ⟨fun u => absurd u (by decide), fun u => absurd u.2 (c2.mp z2)⟩
    · rw [if_neg z2]
      exact ⟨fun _ => ⟨c1.mp z1, Classical.not_not.mp (fun y => z2 (c2.mpr y))⟩, fun _ => rfl⟩
  · rw [if_neg z1]
    exact ⟨fun u => absurd u (by decide), fun u => absurd (c1.mpr u.1) z1⟩
end QX
/-- a way is laid -/
theorem q_laysM {G t : Nat} {D : JD} (h68 : 68 ≤ t) (hG1 : 1 ≤ G) (hG : G ≤ 6) (e4 : D.1 t 4 = Int32.ofNat G) {c : Nat} (hc : c < 2147483648) : ∃ E, f_X13_lays t D (Int32.ofNat c) = some E ∧ (∀ b, b ≠ 60 → E.1 b = D.1 b) ∧ (∀ k, k < G → E.1 60 k = q_dig G c k) ∧ ∀ k, G ≤ k → E.1 60 k = D.1 60 k := by
  have bc : ∀ i, c / 3 ^ i < 2147483648 := fun i => Nat.lt_of_le_of_lt (Nat.div_le_self _ _) hc
  obtain ⟨E, l1, l2⟩ := q_inv (n := G) (by omega) (τ := fun i (q : Int32 × Int32 × JD) => ∃ E, q = (Int32.ofNat (c / 3 ^ i), Int32.ofNat (G - i) - 1, E) ∧ (∀ b, b ≠ 60 → E.1 b = D.1 b) ∧ (∀ k, G - i ≤ k → k < G → E.1 60 k = q_dig G c k) ∧ ∀ k, G ≤ k → E.1 60 k = D.1 60 k) (ρ := fun (E : JD) => (∀ b, b ≠ 60 → E.1 b = D.1 b) ∧ (∀ k, k < G → E.1 60 k = q_dig G c k) ∧ ∀ k, G ≤ k → E.1 60 k = D.1 60 k) (F := f_X13_lays_w12 t) (t := (Int32.ofNat c, D.1 t 4 - 1, D))
    (fun i hi q hq => by
      obtain ⟨E, rfl, h1, h2, h3⟩ := hq
      have ei : Int32.ofNat (G - i) - 1 = Int32.ofNat (G - i - 1) := q_sub (b := 1) (by omega)
      have e2 : Int32.ofNat (G - i - 1) + (-1) = Int32.ofNat (G - (i + 1)) - 1 := by
        rw [show G - (i + 1) = G - i - 1 by omega, Int32.sub_eq_add_neg]
      refine ⟨(Int32.ofNat (c / 3 ^ (i + 1)), Int32.ofNat (G - (i + 1)) - 1, j_sI E 60 (G - i - 1) (Int32.ofNat (c / 3 ^ i % 3))), ?_, _, rfl, fun b hb => by rw [q_sI_o hb, h1 b hb], fun k hk1 hk2 => ?_, fun k hk => ?_⟩
      · unfold f_X13_lays_w12
        dsimp only
        rw [ei, if_neg (q_neg (by omega)), if_neg (q_in (by omega) (by decide)), e2, q_n (by omega), show (3 : Int32) = Int32.ofNat 3 from rfl, q_mod (bc i) (by decide), q_div (bc i) (by decide), Nat.div_div_eq_div_mul, Nat.pow_succ]
      · rw [q_sI_a]
        unfold upd
        by_cases y : k = G - i - 1
        · rw [if_pos y]
          unfold q_dig
          rw [if_pos hk2, show G - 1 - k = i by omega]
        · rw [if_neg y, h2 k (by omega) hk2]
      · rw [q_sI_a]
        unfold upd
        rw [if_neg (by omega), h3 k hk])
    (fun q hq => by
      obtain ⟨E, rfl, h1, h2, h3⟩ := hq
      refine ⟨E, ?_, h1, fun k hk => h2 k (by omega) hk, h3⟩
      unfold f_X13_lays_w12
      dsimp only
      rw [Nat.sub_self, if_pos (by decide)])
    ⟨D, by rw [e4, Nat.pow_zero, Nat.div_one, Nat.sub_zero], fun _ _ => rfl, fun k h1 h2 => absurd h1 (by omega), fun _ _ => rfl⟩
  refine ⟨E, ?_, l2⟩
  unfold f_X13_lays
  rw [l1, Option.bind_some]
theorem q_mayM {G P F W L a t : Nat} {d D : JD} (hL : q_LR G P F W L (q_rows d a) (q_rows d t)) (hN : q_NR G (q_rows d a) (q_rows d t) (d.1 22 0) (d.1 22 1) (d.1 22 2) (d.1 59)) (h68 : 68 ≤ t) (et : ∀ j, D.1 (t + j) = d.1 (t + j)) (e59 : D.1 59 = d.1 59) {c : Nat} (hc : c < 3 ^ G) : ∃ E, f_X13_may t D (Int32.ofNat c) = some (f_X3_mayHangSo (d.1 a) (q_cod (q_dig G c)), E) ∧ (∀ b, b ≠ 60 → E.1 b = D.1 b) ∧ ∀ k, k < G → E.1 60 k = q_dig G c k := by
  have hG1 := hL.1.1.1
  have hG := hL.1.1.2.1
  have e4' : d.1 t 4 = Int32.ofNat G := hL.1.2.1.2
  have c3 : c < 2147483648 := by
    have := (q_pw43 ⟨G, by omega⟩).2.1
    dsimp only at this
    omega
  have et0 : D.1 t = d.1 t := et 0
  obtain ⟨E, l1, l2, l3, -⟩ := q_laysM (D := D) h68 hG1 hG (by rw [et0]; exact e4') c3
  have Et : ∀ j, E.1 (t + j) = d.1 (t + j) := fun j => by rw [l2 _ (by omega), et]
  have Et0 : E.1 t = d.1 t := Et 0
  have E59 : E.1 59 = d.1 59 := by rw [l2 59 (by decide), e59]
  have hd := q_dig_WY G c
  obtain ⟨n, H, n1, n2, n3, n4⟩ := hN.2.2.1
  have mc := q_mayC (A := q_rows d a) (T := q_rows d t) hL hd (q_iwd hG hc) n3 n2
  have mc' : f_X3_mayHangSo (d.1 a) (q_cod (q_dig G c)) = true ↔ (∀ g, g < G → d.1 (t + 3) g = 2 → q_dig G c g = d.1 (t + 6) g) ∧ q_cnt (q_dig G c) G ≤ H + q_cnt (d.1 (t + 6)) 6 := mc
  have n4' : n + q_cnt (d.1 59) 6 = H + q_cnt (d.1 (t + 6)) 6 := n4
  have vG : q_cnt (d.1 59) 6 = q_cnt (d.1 59) G := q_cntG hN.1 hG
  have gv : ∀ g, g < G → d.1 (t + 3) g = 2 → d.1 59 g = d.1 (t + 6) g := hN.2.2.2.2.2.2.2
  have b1 := q_cnt_le (d.1 59) G
  have b2 := q_cnt_le (q_dig G c) G
  have b3 := q_cnt_le (d.1 (t + 6)) 6
  have hu : f_X13_hung (E.1 60) (d.1 t) = some (Int32.ofNat (q_cnt (q_dig G c) G)) := by
    have := q_hung_c (A := q_rows d a) (T := q_rows d t) hL l3
    exact this.trans (q_hungM (A := q_rows d a) (T := q_rows d t) hL hd.1)
  have ho : f_X13_hooks (d.1 59) (d.1 t) = some (Int32.ofNat (n + q_cnt (d.1 59) G)) := q_hooksM (A := q_rows d a) (T := q_rows d t) hL hN.1.1 n1
  have body : ∀ g, g < G → ¬ (d.1 (t + 3) g = 2 ∧ ¬ (q_dig G c g = d.1 59 g)) → f_X13_may_w7 t E (Int32.ofNat g) = some (.inl (Int32.ofNat (g + 1))) := by
    intro g hg hn
    have k2 := q_go (n := G) (by omega) hg
    have kn : (Int32.ofNat g).toNatClampNeg = g := q_n (by omega)
    have k6 : ¬ j_out (Int32.ofNat g) 6 := q_in (by omega) (by decide)
    have k9 : ¬ j_out (Int32.ofNat g) 9 := q_in (by omega) (by decide)
    unfold f_X13_may_w7 f_X13_may_j48_7
    rw [Et0, e4', if_neg k2, if_neg k6, if_neg k6, if_neg k9, kn, Et, E59, l3 g hg, q_s]
    by_cases z : d.1 (t + 3) g = 2
    · rw [if_pos z, if_pos (Classical.not_not.mp (fun y => hn ⟨z, y⟩))]
    · rw [if_neg z]
  refine ⟨E, ?_, l2, l3⟩
  unfold f_X13_may
  rw [l1, Option.bind_some]
  rcases q_least (p := fun g => ¬ (d.1 (t + 3) g = 2 ∧ ¬ (q_dig G c g = d.1 59 g))) G with hall | ⟨j, hj, hnj, hlt⟩
  · have w := q_run (F := f_X13_may_w7 t E) (fun i => Int32.ofNat i) (e := .inr ()) G (by omega) (fun i hi => body i hi (hall i hi)) (by
      unfold f_X13_may_w7
      rw [Et0, e4', if_pos (q_end (by omega))])
    have w' : j_wh (f_X13_may_w7 t E) j_fuel 0 = some (.inr ()) := w
    rw [w', Option.bind_some]
    show (f_X13_hung (E.1 60) (E.1 t)).bind _ = _
    rw [Et0, hu, Option.bind_some, E59, ho, Option.bind_some]
    have g1 : ∀ g, g < G → d.1 (t + 3) g = 2 → q_dig G c g = d.1 (t + 6) g := fun g hg e => by
      rw [← gv g hg e]
      exact Classical.not_not.mp (fun y => hall g hg ⟨e, y⟩)
    by_cases z : q_cnt (q_dig G c) G ≤ H + q_cnt (d.1 (t + 6)) 6
    · rw [if_neg (by rw [q_lt (by omega) (by omega)]; omega), mc'.mpr ⟨g1, z⟩]
    · have nf : f_X3_mayHangSo (d.1 a) (q_cod (q_dig G c)) = false := by
        cases v : f_X3_mayHangSo (d.1 a) (q_cod (q_dig G c)) with
        | false => rfl
        | true => exact absurd (mc'.mp v).2 z
      rw [if_pos (by rw [q_lt (by omega) (by omega)]; omega), nf]
  · have hy := Classical.not_not.mp hnj
    have w := q_run (F := f_X13_may_w7 t E) (fun i => Int32.ofNat i) (e := .inl (false, E)) j (by omega) (fun i hi => body i (by omega) (hlt i hi)) (by
      have k2 := q_go (n := G) (by omega) hj
      have kn : (Int32.ofNat j).toNatClampNeg = j := q_n (by omega)
      have k6 : ¬ j_out (Int32.ofNat j) 6 := q_in (by omega) (by decide)
      have k9 : ¬ j_out (Int32.ofNat j) 9 := q_in (by omega) (by decide)
      unfold f_X13_may_w7
      rw [Et0, e4', if_neg k2, if_neg k6, if_neg k6, if_neg k9, kn, Et, E59, l3 j hj, if_pos hy.1, if_neg hy.2])
    have w' : j_wh (f_X13_may_w7 t E) j_fuel 0 = some (.inl (false, E)) := w
    have nf : f_X3_mayHangSo (d.1 a) (q_cod (q_dig G c)) = false := by
      cases v : f_X3_mayHangSo (d.1 a) (q_cod (q_dig G c)) with
      | false => rfl
      | true => exact absurd (by rw [gv j hj hy.1]; exact (mc'.mp v).1 j hj hy.1) hy.2
    rw [w', Option.bind_some, nf]
    rfl
