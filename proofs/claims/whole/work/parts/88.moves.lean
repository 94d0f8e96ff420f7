/-! tier two: a move, on both sides -/
theorem q_dn7 : ∀ n : Fin 7, ∀ c : Fin (3 ^ n.val), q_num (q_dig n.val c.val) n.val = c.val := by decide +kernel
theorem q_dn {n c : Nat} (hn : n ≤ 6) (hc : c < 3 ^ n) : q_num (q_dig n c) n = c := q_dn7 ⟨n, by omega⟩ ⟨c, hc⟩
theorem q_num_c {x x' : Nat → Int32} : ∀ n, (∀ k, k < n → x k = x' k) → q_num x n = q_num x' n
  | 0, _ => rfl
  | n + 1, h => by
    show 3 * q_num x n + (x n).toNatClampNeg = 3 * q_num x' n + (x' n).toNatClampNeg
    rw [h n (by omega), q_num_c n (fun k hk => h k (by omega))]
theorem q_num_w {G : Nat} (hG : G ≤ 6) {x : Nat → Int32} (hx : q_WY G x) : q_num (fun g => f_X10_hungAt (q_cod x) (Int32.ofNat g)) G = q_num x G ∧ q_cod x = q_cod (q_dig G (q_num x G)) := by
  refine ⟨q_num_c G (fun k hk => q_hung hx.1 (by omega)), ?_⟩
  exact q_cod_c (fun k hk => (q_num_cod hx hG k hk).symm)
theorem q_wj {G c c' : Nat} (hG : G ≤ 6) (hc : c < 3 ^ G) (hc' : c' < 3 ^ G) (h : q_cod (q_dig G c) = q_cod (q_dig G c')) : c = c' := by
  have h1 := (q_num_w hG (q_dig_WY G c)).1
  have h2 := (q_num_w hG (q_dig_WY G c')).1
  rw [h, h2, q_dn hG hc, q_dn hG hc'] at h1
  exact h1.symm
def q_mvv (q : Nat) (v : Int32) : Int32 := if q = 0 then 1 else if q = 1 then 2 else if q = 2 then 0 else 3 - v
theorem q_suble : ∀ a : Fin 13, ∀ b : Fin 7, (Int32.ofNat a.val - Int32.ofNat b.val ≤ 0) ↔ a.val ≤ b.val := by decide +kernel
theorem q_WYu {G : Nat} {x : Nat → Int32} (hx : q_WY G x) {e : Nat} (he : e < G) {v : Int32} (hv : v = 0 ∨ v = 1 ∨ v = 2) : q_WY G (upd x e v) := by
  refine ⟨fun j hj => ?_, fun j h1 h2 => ?_⟩
  · by_cases c : j = e
    · rw [c, q_upd_a]; exact hv
    · rw [q_upd_o c]; exact hx.1 j hj
  · rw [q_upd_o (by omega)]
    exact hx.2 j h1 h2
theorem q_canX {G P F W L a t : Nat} {d : JD} (hL : q_LR G P F W L (q_rows d a) (q_rows d t)) (hN : q_NR G (q_rows d a) (q_rows d t) (d.1 22 0) (d.1 22 1) (d.1 22 2) (d.1 59)) {x x' : Nat → Int32} (hx : q_WY G x) (hx' : ∀ k, k < G → x' k = x k) {m : Nat} (hm : m < 4 * G) : ∃ B : Bool, f_X13_canMove (d.1 59) x' (d.1 t) (d.1 (t + 3)) (Int32.ofNat m) = some B ∧ f_X3_wayAfter (d.1 a) (q_cod x) (Int32.ofNat (m / G)) (Int32.ofNat (m % G)) = (if B = true then q_cod (upd x (m % G) (q_mvv (m / G) (x (m % G)))) else -1) ∧ (B = true → q_WY G (upd x (m % G) (q_mvv (m / G) (x (m % G))))) := by
  have hG1 := hL.1.1.1
  have hG := hL.1.1.2.1
  have e4' : d.1 t 4 = Int32.ofNat G := hL.1.2.1.2
  have hq : m / G < 4 := by rw [Nat.div_lt_iff_lt_mul (by omega)]; omega
  have hmod : m % G < G := Nat.mod_lt _ (by omega)
  have kdiv : Int32.ofNat m / Int32.ofNat G = Int32.ofNat (m / G) := q_div (by omega) (by omega)
  have kmod : Int32.ofNat m - Int32.ofNat m / Int32.ofNat G * Int32.ofNat G = Int32.ofNat (m % G) := q_mod (by omega) (by omega)
  generalize m / G = q at hq kdiv ⊢
  generalize m % G = e at hmod kmod ⊢
  have kmod2 : Int32.ofNat m - Int32.ofNat q * Int32.ofNat G = Int32.ofNat e := by rw [← kdiv]; exact kmod
  obtain ⟨n, H, n1, n2, n3, n4⟩ := hN.2.2.1
  have w6 := hL.2.2.1.2.1
  have hv : q_dg (d.1 59) := hN.1.1
  have b1 := q_cnt_le (q_rows d t 6) 6
  have b2 := q_cnt_le x 6
  have b2' := q_cnt_le x G
  have b3 := q_cntG hN.1 hG
  have b3' := q_cnt_le (d.1 59) G
  have b4 := q_cntG hx hG
  have hu' : f_X13_hung x' (d.1 t) = some (Int32.ofNat (q_cnt x G)) := (q_hung_c (A := q_rows d a) (T := q_rows d t) hL hx').trans (q_hungM (A := q_rows d a) (T := q_rows d t) hL hx.1)
  have hk' : f_X13_hooks (d.1 59) (d.1 t) = some (Int32.ofNat (n + q_cnt (d.1 59) G)) := q_hooksM (A := q_rows d a) (T := q_rows d t) hL hv n1
  have lie : f_X3_hooksLying (d.1 a) (q_cod x) ≤ 0 ↔ n + q_cnt (d.1 59) G ≤ q_cnt x G := by
    have e1 : (d.1 a) 6 = q_cod (q_rows d t 6) := hL.2.2.1.1
    have e2 : (d.1 a) 0 = Int32.ofNat H := n3
    unfold f_X3_hooksLying
    rw [e1, q_hooks w6.1, q_hooks hx.1, e2, ← Int32.ofNat_add, q_suble ⟨H + q_cnt (q_rows d t 6) 6, by omega⟩ ⟨q_cnt x 6, by omega⟩]
    show H + q_cnt (q_rows d t 6) 6 ≤ q_cnt x 6 ↔ _
    omega
  have xe : x' e = x e := hx' e hmod
  have gz : ¬ (Int32.ofNat G = 0) := fun z => by
    have := (q_eq (i := 0) (by omega) (by decide)).mp z
    omega
  have ho6 : ¬ j_out (Int32.ofNat e) 6 := q_in (by omega) (by decide)
  have hne : (Int32.ofNat e).toNatClampNeg = e := q_n (by omega)
  have gd' : f_X3_isGuarded (d.1 a) (Int32.ofNat e) = true ↔ d.1 (t + 3) e = 2 := q_grd (A := q_rows d a) (T := q_rows d t) hL hmod
  have hu : f_X10_hungAt (q_cod x) (Int32.ofNat e) = x e := q_hung hx.1 (by omega)
  have px := q_pos hx.1 (i := e) (by omega)
  by_cases c1 : d.1 (t + 3) e = 2
  · refine ⟨false, ?_, ?_, fun z => absurd z (by decide)⟩
    · unfold f_X13_canMove j_let
      simp only [e4', gz, if_false, kmod, ho6, hne, c1, if_true]
    · unfold f_X3_wayAfter
      rw [if_pos (gd'.mpr c1)]
      rfl
  · have g3 : f_X3_isGuarded (d.1 a) (Int32.ofNat e) = false := by
      cases z : f_X3_isGuarded (d.1 a) (Int32.ofNat e) with
      | false => rfl
      | true => exact absurd (gd'.mp z) c1
    by_cases cq : q < 2
    · have q2 : ¬ ((2 : Int32) ≤ Int32.ofNat q) := q_go (n := 2) (by decide) cq
      have q01 : q = 0 ∨ q = 1 := by omega
      by_cases c2 : x e = 0
      · by_cases c3 : n + q_cnt (d.1 59) G ≤ q_cnt x G
        · have l0 := lie.mpr c3
          have hle : Int32.ofNat (n + q_cnt (d.1 59) G) ≤ Int32.ofNat (q_cnt x G) := (q_le (by omega) (by omega)).mpr c3
          refine ⟨false, ?_, ?_, fun z => absurd z (by decide)⟩
          · unfold f_X13_canMove j_let
            simp only [e4', gz, if_false, kdiv, kmod2, ho6, hne, c1, q2, xe, c2, if_true, hu', hk', Option.bind_some, hle]
          · unfold f_X3_wayAfter f_X3_wayAfter_j26 f_X3_wayAfter_j43 f_X3_wayAfter_j44
            rcases q01 with z | z
            · rw [z, show Int32.ofNat 0 = 0 from rfl]
              simp only [g3, hu, c2, l0, if_true, if_false, Bool.false_eq_true]
            · rw [z, show Int32.ofNat 1 = 1 from rfl]
              simp only [g3, hu, c2, l0, if_true, if_false, Bool.false_eq_true, show ¬ ((1 : Int32) = 0) by decide]
        · have l1 : ¬ (f_X3_hooksLying (d.1 a) (q_cod x) ≤ 0) := fun z => c3 (lie.mp z)
          have hle : ¬ (Int32.ofNat (n + q_cnt (d.1 59) G) ≤ Int32.ofNat (q_cnt x G)) := fun z => c3 ((q_le (by omega) (by omega)).mp z)
          refine ⟨true, ?_, ?_, fun _ => ?_⟩
          · unfold f_X13_canMove j_let
            simp only [e4', gz, if_false, kdiv, kmod2, ho6, hne, c1, q2, xe, c2, if_true, hu', hk', Option.bind_some, hle]
          · unfold f_X3_wayAfter f_X3_wayAfter_j26 f_X3_wayAfter_j44 f_X3_wayAfter_j62 q_mvv
            rcases q01 with z | z
            · rw [z, show Int32.ofNat 0 = 0 from rfl]
              simp only [g3, hu, c2, l1, if_true, if_false, Bool.false_eq_true, show ¬ ((1 : Int32) = 0) by decide]
              exact q_with hx.1 (by omega) (Or.inr (Or.inl rfl))
            · rw [z, show Int32.ofNat 1 = 1 from rfl]
              simp only [g3, hu, c2, l1, if_true, if_false, Bool.false_eq_true, show ¬ ((1 : Int32) = 0) by decide, show ¬ ((1 : Nat) = 0) by decide]
              exact q_with hx.1 (by omega) (Or.inr (Or.inr rfl))
          · refine q_WYu hx hmod ?_
            rcases q01 with z | z
            · rw [z]; exact Or.inr (Or.inl rfl)
            · rw [z]; exact Or.inr (Or.inr rfl)
      · refine ⟨false, ?_, ?_, fun z => absurd z (by decide)⟩
        · unfold f_X13_canMove j_let
          simp only [e4', gz, if_false, kdiv, kmod2, ho6, hne, c1, q2, xe, c2]
        · unfold f_X3_wayAfter f_X3_wayAfter_j26 f_X3_wayAfter_j43 f_X3_wayAfter_j44
          rcases q01 with z | z
          · rw [z, show Int32.ofNat 0 = 0 from rfl]
            simp only [g3, hu, c2, if_true, if_false, Bool.false_eq_true]
          · rw [z, show Int32.ofNat 1 = 1 from rfl]
            simp only [g3, hu, c2, if_true, if_false, Bool.false_eq_true, show ¬ ((1 : Int32) = 0) by decide]
    · have q2 : (2 : Int32) ≤ Int32.ofNat q := (q_le (n := 2) (by decide) (by omega)).mpr (by omega)
      have q23 : q = 2 ∨ q = 3 := by omega
      by_cases c2 : x e = 0
      · have c2' : x e ≤ 0 := px.mpr c2
        refine ⟨false, ?_, ?_, fun z => absurd z (by decide)⟩
        · unfold f_X13_canMove j_let
          simp only [e4', gz, if_false, kdiv, kmod2, ho6, hne, c1, q2, xe, c2', if_true]
        · unfold f_X3_wayAfter
          rcases q23 with z | z
          · rw [z, show Int32.ofNat 2 = 2 from rfl]
            simp only [g3, hu, c2, if_true, if_false, Bool.false_eq_true, show ¬ ((2 : Int32) = 0) by decide, show ¬ ((2 : Int32) = 1) by decide]
          · rw [z, show Int32.ofNat 3 = 3 from rfl]
            simp only [g3, hu, c2, if_true, if_false, Bool.false_eq_true, show ¬ ((3 : Int32) = 0) by decide, show ¬ ((3 : Int32) = 1) by decide]
      · have c2' : ¬ (x e ≤ 0) := fun z => c2 (px.mp z)
        have ht3 : f_X3_turned (x e) = 3 - x e ∧ ((3 : Int32) - x e = 1 ∨ (3 : Int32) - x e = 2) := by
          rcases hx.1 e (by omega) with z | z | z
          · exact absurd z c2
          · rw [z]; exact ⟨rfl, Or.inr rfl⟩
          · rw [z]; exact ⟨rfl, Or.inl rfl⟩
        refine ⟨true, ?_, ?_, fun _ => ?_⟩
        · unfold f_X13_canMove j_let
          simp only [e4', gz, if_false, kdiv, kmod2, ho6, hne, c1, q2, xe, c2', if_true]
        · unfold f_X3_wayAfter f_X3_wayAfter_j93 q_mvv
          rcases q23 with y | y
          · rw [y, show Int32.ofNat 2 = 2 from rfl]
            simp only [g3, hu, c2, if_false, if_true, Bool.false_eq_true, show ¬ ((2 : Int32) = 0) by decide, show ¬ ((2 : Int32) = 1) by decide, show ¬ ((2 : Int32) = 3) by decide, show ¬ ((2 : Nat) = 0) by decide, show ¬ ((2 : Nat) = 1) by decide]
            exact q_with hx.1 (by omega) (Or.inl rfl)
          · rw [y, show Int32.ofNat 3 = 3 from rfl]
            simp only [g3, hu, c2, if_false, if_true, Bool.false_eq_true, show ¬ ((3 : Int32) = 0) by decide, show ¬ ((3 : Int32) = 1) by decide, show ¬ ((3 : Nat) = 0) by decide, show ¬ ((3 : Nat) = 1) by decide, show ¬ ((3 : Nat) = 2) by decide, ht3.1]
            exact q_with hx.1 (by omega) (Or.inr ht3.2)
        · refine q_WYu hx hmod ?_
          rcases q23 with z | z
          · rw [z]; exact Or.inl rfl
          · rw [z]; exact Or.inr ht3.2
/-- the number behind a move -/
theorem q_nxX {G P F W L a t : Nat} {d : JD} (hL : q_LR G P F W L (q_rows d a) (q_rows d t)) (hN : q_NR G (q_rows d a) (q_rows d t) (d.1 22 0) (d.1 22 1) (d.1 22 2) (d.1 59)) {c : Nat} {x' : Nat → Int32} (hx' : ∀ k, k < G → x' k = q_dig G c k) {m : Nat} (hm : m < 4 * G) : (f_X13_canMove (d.1 59) x' (d.1 t) (d.1 (t + 3)) (Int32.ofNat m) = some false ∧ f_X3_wayAfter (d.1 a) (q_cod (q_dig G c)) (Int32.ofNat (m / G)) (Int32.ofNat (m % G)) = -1 ∧ q_nx (d.1 a) G c m = none) ∨ ∃ c', c' < 3 ^ G ∧ f_X13_canMove (d.1 59) x' (d.1 t) (d.1 (t + 3)) (Int32.ofNat m) = some true ∧ f_X3_wayAfter (d.1 a) (q_cod (q_dig G c)) (Int32.ofNat (m / G)) (Int32.ofNat (m % G)) = q_cod (q_dig G c') ∧ q_nx (d.1 a) G c m = some c' ∧ (∀ k, k < G → upd x' (m % G) (q_mvv (m / G) (x' (m % G))) k = q_dig G c' k) := by
  have hG1 := hL.1.1.1
  have hG := hL.1.1.2.1
  have hmod : m % G < G := Nat.mod_lt _ (by omega)
  obtain ⟨B, h1, h2, h3⟩ := q_canX hL hN (q_dig_WY G c) hx' hm
  cases B with
  | false =>
    rw [if_neg (by decide)] at h2
    refine Or.inl ⟨h1, h2, ?_⟩
    unfold q_nx
    rw [if_pos h2]
  | true =>
    rw [if_pos rfl] at h2
    have hy := h3 rfl
    obtain ⟨n1, n2⟩ := q_num_w hG hy
    refine Or.inr ⟨q_num (upd (q_dig G c) (m % G) (q_mvv (m / G) (q_dig G c (m % G)))) G, q_num_lt hy.1 G hG, h1, h2.trans n2, ?_, ?_⟩
    · unfold q_nx
      rw [h2, if_neg (q_codne hy.1), n1]
    · intro k hk
      rw [q_num_cod hy hG k (by omega), hx' _ hmod]
      by_cases z : k = m % G
      · rw [z, q_upd_a, q_upd_a]
      · rw [q_upd_o z, q_upd_o z, hx' k hk]
theorem q_movesX {G t : Nat} {E : JD} (hG1 : 1 ≤ G) (hG : G ≤ 6) (e4 : E.1 t 4 = Int32.ofNat G) {m : Nat} (hm : m < 4 * G) : f_X13_moves t E (Int32.ofNat m) = some (j_sI E 60 (m % G) (q_mvv (m / G) (E.1 60 (m % G)))) := by
  have hq : m / G < 4 := by rw [Nat.div_lt_iff_lt_mul (by omega)]; omega
  have hmod : m % G < G := Nat.mod_lt _ (by omega)
  have kdiv : Int32.ofNat m / Int32.ofNat G = Int32.ofNat (m / G) := q_div (by omega) (by omega)
  have kmod : Int32.ofNat m - Int32.ofNat m / Int32.ofNat G * Int32.ofNat G = Int32.ofNat (m % G) := q_mod (by omega) (by omega)
  generalize m / G = q at hq kdiv ⊢
  generalize m % G = e at hmod kmod ⊢
  have gz : ¬ (Int32.ofNat G = 0) := fun z => by
    have := (q_eq (i := 0) (by omega) (by decide)).mp z
    omega
  have ho6 : ¬ j_out (Int32.ofNat e) 6 := q_in (by omega) (by decide)
  have hne : (Int32.ofNat e).toNatClampNeg = e := q_n (by omega)
  unfold f_X13_moves f_X13_moves_j59 j_let
  rw [e4, if_neg gz, kmod]
  dsimp only
  simp only [if_neg gz, if_neg ho6, hne, kdiv]
  match q, hq with
  | 0, _ => rfl
  | 1, _ => rfl
  | 2, _ => rfl
  | 3, _ => rfl
  | z + 4, h => exact absurd h (by omega)
theorem q_numX {G : Nat} (hG : G ≤ 6) {r0 r x : Nat → Int32} (e4 : r0 4 = Int32.ofNat G) (hx : q_dg x) (h : ∀ k, k < G → r k = x k) : f_X13_numbered r r0 = some (Int32.ofNat (q_num x G)) := by
  have l := q_run (F := f_X13_numbered_w4 r r0) (fun i => (Int32.ofNat (q_num x i), Int32.ofNat i)) (e := Int32.ofNat (q_num x G)) G (by omega) (fun i hi => by
    have k2 := q_go (n := G) (by omega) hi
    have ho6 : ¬ j_out (Int32.ofNat i) 6 := q_in (by omega) (by decide)
    have hne : (Int32.ofNat i).toNatClampNeg = i := q_n (by omega)
    have d3 := q_d3 hx (g := i) (by omega)
    unfold f_X13_numbered_w4
    dsimp only
    rw [e4, if_neg k2, if_neg ho6, hne, h i hi, q_s]
    have ee : Int32.ofNat (q_num x (i + 1)) = (3 : Int32) * Int32.ofNat (q_num x i) + x i := by
      show Int32.ofNat (3 * q_num x i + (x i).toNatClampNeg) = _
      rw [Int32.ofNat_add, Int32.ofNat_mul, ← d3.1]
      rfl
    rw [ee]) (by
    unfold f_X13_numbered_w4
    dsimp only
    rw [e4, if_pos (q_end (by omega))])
  have l' : j_wh (f_X13_numbered_w4 r r0) j_fuel (0, 0) = some (Int32.ofNat (q_num x G)) := l
  unfold f_X13_numbered
  rw [l', Option.bind_some]
