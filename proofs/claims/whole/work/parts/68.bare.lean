/-! tier two: bare -/
theorem q_bare64 : ∀ b0 b1 b2 b3 b4 b5 : Bool, ∀ a b c d e f : Fin 3, decide ((q_cod (q_F a b c d e f) &&& (q_cod (fun k => if q_b6 b0 b1 b2 b3 b4 b5 k = true then 3 else 0) ^^^ (-1))) = 0) = ((b0 || a.val == 0) && (b1 || b.val == 0) && (b2 || c.val == 0) && (b3 || d.val == 0) && (b4 || e.val == 0) && (b5 || f.val == 0)) := by decide +kernel
theorem q_least {p : Nat → Prop} : ∀ n, (∀ i, i < n → p i) ∨ ∃ j, j < n ∧ ¬ p j ∧ ∀ i, i < j → p i
  | 0 => Or.inl (fun i hi => absurd hi (Nat.not_lt_zero i))
  | n + 1 => by
    rcases q_least (p := p) n with h | ⟨j, h1, h2, h3⟩
    · by_cases c : p n
      · exact Or.inl (fun i hi => by
          by_cases e : i = n
          · rw [e]; exact c
          · exact h i (by omega))
      · exact Or.inr ⟨n, Nat.lt_succ_self n, c, h⟩
    · exact Or.inr ⟨j, by omega, h2, h3⟩
def q_bar (G : Nat) (K3 x : Nat → Int32) : Prop := ∀ g, g < G → K3 g = 2 ∨ x g = 0
theorem q_f30 (a : Fin 3) : (a.val == 0) = true ↔ q_f3 a = 0 := by revert a; decide
theorem q_barC {G P F W L : Nat} {A T : Nat → Nat → Int32} (h : q_LR G P F W L A T) {x : Nat → Int32} (hx : q_WY G x) : (q_cod x &&& (A 0 7 ^^^ (-1))) = 0 ↔ q_bar G (T 3) x := by
  have hG := h.1.1.2.1
  obtain ⟨f, hf⟩ : ∃ f : Nat → Bool, ∀ k, f k = decide (k < G ∧ T 3 k = 2) := ⟨_, fun _ => rfl⟩
  have e : q_cod (q_gd G (T 3)) = q_cod (fun k => if q_b6 (f 0) (f 1) (f 2) (f 3) (f 4) (f 5) k = true then 3 else 0) := by
    apply q_cod_congr
    intro k hk
    show q_gd G (T 3) k = if q_b6 (f 0) (f 1) (f 2) (f 3) (f 4) (f 5) k = true then 3 else 0
    rw [q_b6_at f k hk, hf k]
    unfold q_gd
    by_cases c1 : k < G
    · by_cases c2 : T 3 k = 2
      · simp [c1, c2]
      · simp [c1, c2]
    · simp [c1]
  obtain ⟨a0, a1, a2, a3, a4, a5, hx6⟩ := q_dg6 hx.1
  have q := q_bare64 (f 0) (f 1) (f 2) (f 3) (f 4) (f 5) a0 a1 a2 a3 a4 a5
  rw [← e, ← q_cod_F hx6, ← h.2.2.1.2.2.1] at q
  have at6 : ∀ k, k < 6 → (q_bar G (T 3) x → f k = true ∨ x k = 0) ∧ ((f k = true ∨ x k = 0) → k < G → T 3 k = 2 ∨ x k = 0) := by
    intro k hk
    rw [hf k]
    refine ⟨fun hb => ?_, fun hb hk2 => ?_⟩
    · by_cases c : k < G
      · rcases hb k c with z | z
        · exact Or.inl (decide_eq_true ⟨c, z⟩)
        · exact Or.inr z
      · exact Or.inr (hx.2 k (by omega) hk)
    · rcases hb with z | z
      · exact Or.inl (of_decide_eq_true z).2
      · exact Or.inr z
  constructor
  · intro z
    rw [decide_eq_true z] at q
    have q' := q.symm
    simp only [Bool.and_eq_true, Bool.or_eq_true, q_f30] at q'
    obtain ⟨⟨⟨⟨⟨u0, u1⟩, u2⟩, u3⟩, u4⟩, u5⟩ := q'
    rw [← hx6.1] at u0
    rw [← hx6.2.1] at u1
    rw [← hx6.2.2.1] at u2
    rw [← hx6.2.2.2.1] at u3
    rw [← hx6.2.2.2.2.1] at u4
    rw [← hx6.2.2.2.2.2] at u5
    intro g hg
    have hg6 : g < 6 := by omega
    match g, hg, hg6 with
    | 0, hg, _ => exact (at6 0 (by decide)).2 u0 hg
    | 1, hg, _ => exact (at6 1 (by decide)).2 u1 hg
    | 2, hg, _ => exact (at6 2 (by decide)).2 u2 hg
    | 3, hg, _ => exact (at6 3 (by decide)).2 u3 hg
    | 4, hg, _ => exact (at6 4 (by decide)).2 u4 hg
    | 5, hg, _ => exact (at6 5 (by decide)).2 u5 hg
    | n + 6, _, h => exact absurd h (by omega)
  · intro hb
    have u : ∀ k, k < 6 → f k = true ∨ x k = 0 := fun k hk => (at6 k hk).1 hb
    have u0 := u 0 (by decide)
    have u1 := u 1 (by decide)
    have u2 := u 2 (by decide)
    have u3 := u 3 (by decide)
    have u4 := u 4 (by decide)
    have u5 := u 5 (by decide)
    rw [hx6.1] at u0
    rw [hx6.2.1] at u1
    rw [hx6.2.2.1] at u2
    rw [hx6.2.2.2.1] at u3
    rw [hx6.2.2.2.2.1] at u4
    rw [hx6.2.2.2.2.2] at u5
    apply of_decide_eq_true
    rw [q]
    simp only [Bool.and_eq_true, Bool.or_eq_true, q_f30]
    exact ⟨⟨⟨⟨⟨u0, u1⟩, u2⟩, u3⟩, u4⟩, u5⟩
theorem q_barM {G P F W L : Nat} {A T : Nat → Nat → Int32} (h : q_LR G P F W L A T) {x : Nat → Int32} (hx : q_dg x) : (q_bar G (T 3) x → f_X13_isBare x (T 0) (T 3) = some true) ∧ (¬ q_bar G (T 3) x → f_X13_isBare x (T 0) (T 3) = some false) := by
  have hG := h.1.1.2.1
  have k1 := h.1.2.1.2
  have step : ∀ i, i < G → (T 3 i = 2 ∨ x i = 0) → f_X13_isBare_w2 x (T 0) (T 3) (Int32.ofNat i) = some (.inl (Int32.ofNat (i + 1))) := by
    intro i hi hp
    have k2 := q_go (n := G) (by omega) hi
    have k3 : ¬ j_out (Int32.ofNat i) 6 := q_in (by omega) (by decide)
    have k4 : (Int32.ofNat i).toNatClampNeg = i := q_n (by omega)
    have k5 := q_pos hx (i := i) (by omega)
    unfold f_X13_isBare_w2 f_X13_isBare_j37_2
    simp only [k1, k2, k3, k4, k5, if_false, q_s]
    by_cases c : T 3 i = 2
    · simp only [c, if_true]
    · have c2 := hp.resolve_left c
      simp only [c, c2, if_true, if_false]
  have out : ∀ i, i < G → ¬ (T 3 i = 2 ∨ x i = 0) → f_X13_isBare_w2 x (T 0) (T 3) (Int32.ofNat i) = some (.inr (.inl false)) := by
    intro i hi hp
    have k2 := q_go (n := G) (by omega) hi
    have k3 : ¬ j_out (Int32.ofNat i) 6 := q_in (by omega) (by decide)
    have k4 : (Int32.ofNat i).toNatClampNeg = i := q_n (by omega)
    have k5 := q_pos hx (i := i) (by omega)
    have c : ¬ T 3 i = 2 := fun z => hp (Or.inl z)
    have c2 : ¬ x i = 0 := fun z => hp (Or.inr z)
    unfold f_X13_isBare_w2
    simp only [k1, k2, k3, k4, k5, c, c2, if_false]
  refine ⟨fun hb => ?_, fun hb => ?_⟩
  · have r := q_run (F := f_X13_isBare_w2 x (T 0) (T 3)) (fun i => Int32.ofNat i) G (by omega) (e := .inr ()) (fun i hi => step i hi (hb i hi)) (by
      have k2 := q_end (n := G) (by omega)
      unfold f_X13_isBare_w2
      simp only [k1, k2, if_true])
    unfold f_X13_isBare
    rw [show (0 : Int32) = Int32.ofNat 0 from rfl, r]
    rfl
  · rcases q_least (p := fun g => T 3 g = 2 ∨ x g = 0) G with z | ⟨j, hj, z1, z2⟩
    · exact absurd z hb
    · have r := q_run (F := f_X13_isBare_w2 x (T 0) (T 3)) (fun i => Int32.ofNat i) j (by omega) (e := .inl false) (fun i hi => step i (by omega) (z2 i hi)) (out j hj z1)
      unfold f_X13_isBare
      rw [show (0 : Int32) = Int32.ofNat 0 from rfl, r]
      rfl
theorem q_ys_WY {K3 fl : Nat → Int32} {G : Nat} (hG : G ≤ 6) {x : Nat → Int32} {s : Nat} (hx : q_WY G x) (hs : s < 65537) : ∀ k, q_WY G (q_ys K3 fl G x s k).1
  | 0 => hx
  | k + 1 => by
    have h := q_ys_WY (K3 := K3) (fl := fl) hG hx hs k
    refine ⟨(q_ys_ok hx.1 hs (k + 1)).1, fun g h1 h2 => ?_⟩
    obtain ⟨_, -, -, -, z⟩ := q_yr_cnt (K3 := K3) (fl := fl) (x := (q_ys K3 fl G x s k).1) (s := (q_ys K3 fl G x s k).2) G hG
    exact (z g h1).trans (h.2 g h1 h2)
theorem q_le_go {n i : Nat} (hn : n < 2147483648) (hi : i ≤ n) : ¬ (Int32.ofNat n < Int32.ofNat i) := by
  rw [Int32.lt_iff_toInt_lt, Int32.toInt_ofNat_of_lt hn, Int32.toInt_ofNat_of_lt (by omega)]
  omega
theorem q_le_end {n : Nat} (hn : n < 2147483647) : Int32.ofNat n < Int32.ofNat (n + 1) := by
  rw [Int32.lt_iff_toInt_lt, Int32.toInt_ofNat_of_lt (by omega), Int32.toInt_ofNat_of_lt (by omega)]
  omega
def q_bre (d : JD) (o : JD → Prop) (r : Option Nat) (e : (Int32 × JD) ⊕ JD) (fin : JD → Int32 → Int32 × JD) : Prop := ∃ D, o D ∧ e = match r with | some j => .inl (fin D (Int32.ofNat j)) | none => .inr D
def q_first (p : Nat → Prop) (n : Nat) (r : Option Nat) : Prop := match r with
  | some j => j ≤ n ∧ p j ∧ ∀ i, i < j → ¬ p i
  | none => ∀ i, i ≤ n → ¬ p i
theorem q_first_ex (p : Nat → Prop) (n : Nat) : ∃ r, q_first p n r := by
  rcases q_least (p := fun i => ¬ p i) (n + 1) with h | ⟨j, h1, h2, h3⟩
  · exact ⟨none, fun i hi => h i (by omega)⟩
  · exact ⟨some j, by omega, Classical.not_not.mp h2, h3⟩
theorem q_barLC {G P F W L a t : Nat} {d d1 : JD} (hL : q_LR G P F W L (q_rows d a) (q_rows d t)) (h68 : 68 ≤ t) (ha : a = 42 ∨ a = 4) {x : Nat → Int32} (hx : q_WY G x) {s : Nat} (hs : s < 65537) (ho : ∀ b, b ≠ 23 → d1.1 b = d.1 b) (h0 : d1.1 23 0 = q_cod x) (h1 : d1.1 23 1 = Int32.ofNat s) {n : Nat} (hn : n ≤ 60) {r : Option Nat} (hr : q_first (fun i => q_bar G (d.1 (t + 3)) (q_ys (d.1 (t + 3)) (q_fl (q_rows d a)) G x s i).1) n r) : ∃ e, j_wh (f_X11_bare_w51 a (Int32.ofNat n)) j_fuel (0, d1) = some e ∧ q_bre d (fun D => ∀ b, b ≠ 23 → D.1 b = d.1 b) r e (fun D x => (x, j_sI D 0 11 0)) := by
  have hG := hL.1.1.2.1
  have step : ∀ i, i ≤ n → (¬ q_bar G (d.1 (t + 3)) (q_ys (d.1 (t + 3)) (q_fl (q_rows d a)) G x s i).1) → ∀ q : Int32 × JD, (q.1 = Int32.ofNat i ∧ (∀ b, b ≠ 23 → q.2.1 b = d.1 b) ∧ q.2.1 23 0 = q_cod (q_ys (d.1 (t + 3)) (q_fl (q_rows d a)) G x s i).1 ∧ q.2.1 23 1 = Int32.ofNat (q_ys (d.1 (t + 3)) (q_fl (q_rows d a)) G x s i).2) → ∃ t', f_X11_bare_w51 a (Int32.ofNat n) q = some (.inl t') ∧ (t'.1 = Int32.ofNat (i + 1) ∧ (∀ b, b ≠ 23 → t'.2.1 b = d.1 b) ∧ t'.2.1 23 0 = q_cod (q_ys (d.1 (t + 3)) (q_fl (q_rows d a)) G x s (i + 1)).1 ∧ t'.2.1 23 1 = Int32.ofNat (q_ys (d.1 (t + 3)) (q_fl (q_rows d a)) G x s (i + 1)).2) := by
    rintro i hi hb ⟨qi, D⟩ ⟨e1, e2, e3, e4⟩
    dsimp only at e1 e2 e3 e4
    have ok := q_ys_ok (K3 := d.1 (t + 3)) (fl := q_fl (q_rows d a)) (G := G) hx.1 hs i
    have hA : ∀ j, j < 15 → D.1 (a + j) = d.1 (a + j) := fun j _ => e2 _ (by omega)
    have hT : ∀ j, j < 15 → D.1 (t + j) = d.1 (t + j) := fun j _ => e2 _ (by omega)
    have b := q_blow (a := a) (t := t) (m := 23) (d := D) (q_L_congr hA hT hL) ha (Or.inr rfl) ok.1 ok.2 e3 e4
    rw [hT 3 (by decide), q_fl_eq hA] at b
    have hA0 : D.1 a = d.1 a := hA 0 (by decide)
    have k1 := q_le_go (n := n) (by omega) hi
    have cc := (not_congr (q_barC (A := q_rows d a) (T := q_rows d t) hL (q_ys_WY (K3 := d.1 (t + 3)) (fl := q_fl (q_rows d a)) hG hx hs i))).mpr hb
    have cc' : ¬ (q_cod (q_ys (d.1 (t + 3)) (q_fl (q_rows d a)) G x s i).1 &&& (d.1 a 7 ^^^ -1)) = 0 := cc
    refine ⟨(Int32.ofNat (i + 1), q_row D 23 (upd (q_mr (D.1 23) (q_ys (d.1 (t + 3)) (q_fl (q_rows d a)) G x s (i + 1)).1 (q_ys (d.1 (t + 3)) (q_fl (q_rows d a)) G x s (i + 1)).2) 2 (D.1 23 2 + 1))), ?_, ?_⟩
    · unfold f_X11_bare_w51
      simp only [e1, k1, e3, hA0, cc', if_false, b, Option.bind_some, q_s]
      (try rfl)
    · exact ⟨rfl, fun b hb => (q_row_o hb).trans (e2 b hb), by rw [q_row_a, q_upd_o (by decide)]; rfl, by rw [q_row_a, q_upd_o (by decide)]; rfl⟩
  cases r with
  | some j =>
    obtain ⟨hj, hb, hl⟩ := hr
    refine q_inv (n := j) (τ := fun i (q : Int32 × JD) => q.1 = Int32.ofNat i ∧ (∀ b, b ≠ 23 → q.2.1 b = d.1 b) ∧ q.2.1 23 0 = q_cod (q_ys (d.1 (t + 3)) (q_fl (q_rows d a)) G x s i).1 ∧ q.2.1 23 1 = Int32.ofNat (q_ys (d.1 (t + 3)) (q_fl (q_rows d a)) G x s i).2) (by omega) (fun i hi q hq => step i (by omega) (hl i hi) q hq) ?_ ⟨rfl, ho, h0, h1⟩
    rintro ⟨qi, D⟩ ⟨e1, e2, e3, e4⟩
    dsimp only at e1 e2 e3 e4
    have k1 := q_le_go (n := n) (by omega) hj
    have hA0 : D.1 a = d.1 a := e2 a (by omega)
    have cc := (q_barC (A := q_rows d a) (T := q_rows d t) hL (q_ys_WY (K3 := d.1 (t + 3)) (fl := q_fl (q_rows d a)) hG hx hs j)).mpr hb
    have cc' : (q_cod (q_ys (d.1 (t + 3)) (q_fl (q_rows d a)) G x s j).1 &&& (d.1 a 7 ^^^ -1)) = 0 := cc
    refine ⟨_, ?_, ⟨D, e2, rfl⟩⟩
    unfold f_X11_bare_w51 j_let
    simp only [e1, k1, e3, hA0, cc', if_false, if_true, q_xan]
  | none =>
    refine q_inv (n := n + 1) (τ := fun i (q : Int32 × JD) => q.1 = Int32.ofNat i ∧ (∀ b, b ≠ 23 → q.2.1 b = d.1 b) ∧ q.2.1 23 0 = q_cod (q_ys (d.1 (t + 3)) (q_fl (q_rows d a)) G x s i).1 ∧ q.2.1 23 1 = Int32.ofNat (q_ys (d.1 (t + 3)) (q_fl (q_rows d a)) G x s i).2) (by omega) (fun i hi q hq => step i (by omega) (hr i (by omega)) q hq) ?_ ⟨rfl, ho, h0, h1⟩
    rintro ⟨qi, D⟩ ⟨e1, e2, e3, e4⟩
    dsimp only at e1 e2 e3 e4
    have k1 := q_le_end (n := n) (by omega)
    refine ⟨_, ?_, ⟨D, e2, rfl⟩⟩
    unfold f_X11_bare_w51
    simp only [e1, k1, if_true]
theorem q_barLM {G P F W L a t : Nat} {d d1 : JD} (hL : q_LR G P F W L (q_rows d a) (q_rows d t)) (h68 : 68 ≤ t) (ha : a = 42 ∨ a = 4) {x : Nat → Int32} (hx : q_WY G x) {s : Nat} (hs : s < 65537) (ho : ∀ b, b ≠ 57 → b ≠ 60 → d1.1 b = d.1 b) (h0 : d1.1 60 = x) (h1 : d1.1 57 29 = Int32.ofNat s) {n : Nat} (hn : n ≤ 60) {r : Option Nat} (hr : q_first (fun i => q_bar G (d.1 (t + 3)) (q_ys (d.1 (t + 3)) (q_fl (q_rows d a)) G x s i).1) n r) : ∃ e, j_wh (f_X13_bare_w46 t (Int32.ofNat n)) j_fuel (0, d1) = some e ∧ q_bre d (fun D => (∀ b, b ≠ 57 → b ≠ 60 → D.1 b = d.1 b) ∧ (∀ k, k ≠ 29 → D.1 57 k = d1.1 57 k)) r e (fun D x => (x, q_fin D 0)) := by
  have hG := hL.1.1.2.1
  have step : ∀ i, i ≤ n → (¬ q_bar G (d.1 (t + 3)) (q_ys (d.1 (t + 3)) (q_fl (q_rows d a)) G x s i).1) → ∀ q : Int32 × JD, (q.1 = Int32.ofNat i ∧ (∀ b, b ≠ 57 → b ≠ 60 → q.2.1 b = d.1 b) ∧ (∀ k, k ≠ 29 → q.2.1 57 k = d1.1 57 k) ∧ q.2.1 60 = (q_ys (d.1 (t + 3)) (q_fl (q_rows d a)) G x s i).1 ∧ q.2.1 57 29 = Int32.ofNat (q_ys (d.1 (t + 3)) (q_fl (q_rows d a)) G x s i).2) → ∃ t', f_X13_bare_w46 t (Int32.ofNat n) q = some (.inl t') ∧ (t'.1 = Int32.ofNat (i + 1) ∧ (∀ b, b ≠ 57 → b ≠ 60 → t'.2.1 b = d.1 b) ∧ (∀ k, k ≠ 29 → t'.2.1 57 k = d1.1 57 k) ∧ t'.2.1 60 = (q_ys (d.1 (t + 3)) (q_fl (q_rows d a)) G x s (i + 1)).1 ∧ t'.2.1 57 29 = Int32.ofNat (q_ys (d.1 (t + 3)) (q_fl (q_rows d a)) G x s (i + 1)).2) := by
    rintro i hi hb ⟨qi, D⟩ ⟨e1, e2, e5, e3, e4⟩
    dsimp only at e1 e2 e3 e4 e5
    have ok := q_ys_ok (K3 := d.1 (t + 3)) (fl := q_fl (q_rows d a)) (G := G) hx.1 hs i
    have hA : ∀ j, j < 15 → D.1 (a + j) = d.1 (a + j) := fun j _ => e2 _ (by omega) (by omega)
    have hT : ∀ j, j < 15 → D.1 (t + j) = d.1 (t + j) := fun j _ => e2 _ (by omega) (by omega)
    have b := q_year (a := a) (t := t) (d := D) h68 (q_L_congr hA hT hL) ok.1 ok.2 e3 e4
    rw [hT 3 (by decide), q_fl_eq hA] at b
    have hT0 : D.1 t = d.1 t := hT 0 (by decide)
    have hT3 : D.1 (t + 3) = d.1 (t + 3) := hT 3 (by decide)
    have k1 := q_le_go (n := n) (by omega) hi
    have cc := (q_barM (A := q_rows d a) (T := q_rows d t) hL ok.1).2 hb
    have cc' : f_X13_isBare (q_ys (d.1 (t + 3)) (q_fl (q_rows d a)) G x s i).1 (d.1 t) (d.1 (t + 3)) = some false := cc
    refine ⟨(Int32.ofNat (i + 1), q_m2 D (q_ys (d.1 (t + 3)) (q_fl (q_rows d a)) G x s (i + 1)).1 (Int32.ofNat (q_ys (d.1 (t + 3)) (q_fl (q_rows d a)) G x s (i + 1)).2)), ?_, ?_⟩
    · unfold f_X13_bare_w46
      simp only [e1, k1, e3, hT0, hT3, cc', if_false, b, Option.bind_some, q_s, Bool.false_eq_true]
      (try rfl)
    · exact ⟨rfl, fun b h57 h60 => (q_m2_o h57 h60).trans (e2 b h57 h60), fun k hk => (q_m2_k hk).trans (e5 k hk), q_m2_x _ _ _, q_m2_s _ _ _⟩
  cases r with
  | some j =>
    obtain ⟨hj, hb, hl⟩ := hr
    refine q_inv (n := j) (τ := fun i (q : Int32 × JD) => q.1 = Int32.ofNat i ∧ (∀ b, b ≠ 57 → b ≠ 60 → q.2.1 b = d.1 b) ∧ (∀ k, k ≠ 29 → q.2.1 57 k = d1.1 57 k) ∧ q.2.1 60 = (q_ys (d.1 (t + 3)) (q_fl (q_rows d a)) G x s i).1 ∧ q.2.1 57 29 = Int32.ofNat (q_ys (d.1 (t + 3)) (q_fl (q_rows d a)) G x s i).2) (by omega) (fun i hi q hq => step i (by omega) (hl i hi) q hq) ?_ ⟨rfl, ho, fun _ _ => rfl, h0, h1⟩
    rintro ⟨qi, D⟩ ⟨e1, e2, e5, e3, e4⟩
    dsimp only at e1 e2 e3 e4 e5
    have k1 := q_le_go (n := n) (by omega) hj
    have hT0 : D.1 t = d.1 t := e2 t (by omega) (by omega)
    have hT3 : D.1 (t + 3) = d.1 (t + 3) := e2 _ (by omega) (by omega)
    have cc := (q_barM (A := q_rows d a) (T := q_rows d t) hL (q_ys_ok (K3 := d.1 (t + 3)) (fl := q_fl (q_rows d a)) (G := G) hx.1 hs j).1).1 hb
    have cc' : f_X13_isBare (q_ys (d.1 (t + 3)) (q_fl (q_rows d a)) G x s j).1 (d.1 t) (d.1 (t + 3)) = some true := cc
    refine ⟨_, ?_, ⟨D, ⟨e2, e5⟩, rfl⟩⟩
    unfold f_X13_bare_w46 j_let
    simp only [e1, k1, e3, hT0, hT3, cc', if_false, if_true, Option.bind_some, q_good]
  | none =>
    refine q_inv (n := n + 1) (τ := fun i (q : Int32 × JD) => q.1 = Int32.ofNat i ∧ (∀ b, b ≠ 57 → b ≠ 60 → q.2.1 b = d.1 b) ∧ (∀ k, k ≠ 29 → q.2.1 57 k = d1.1 57 k) ∧ q.2.1 60 = (q_ys (d.1 (t + 3)) (q_fl (q_rows d a)) G x s i).1 ∧ q.2.1 57 29 = Int32.ofNat (q_ys (d.1 (t + 3)) (q_fl (q_rows d a)) G x s i).2) (by omega) (fun i hi q hq => step i (by omega) (hr i (by omega)) q hq) ?_ ⟨rfl, ho, fun _ _ => rfl, h0, h1⟩
    rintro ⟨qi, D⟩ ⟨e1, e2, e5, e3, e4⟩
    dsimp only at e1 e2 e3 e4 e5
    have k1 := q_le_end (n := n) (by omega)
    refine ⟨_, ?_, ⟨D, ⟨e2, e5⟩, rfl⟩⟩
    unfold f_X13_bare_w46
    simp only [e1, k1, if_true]
theorem q_43 {K : q_K} (hK : q_Kok K) : lw_st_43 (q_R K) := by
  intro h p2 p3 r hz
  obtain ⟨g, d⟩ := h
  have hr := r
  obtain ⟨a, b, hg, ht, hrm, -, hl⟩ := r
  rcases hl with ⟨hla, hn⟩ | ⟨t, h68, hla, hts, G, P, F, W, L, hL, hN, hS1, hS2⟩
  · obtain ⟨x, w, d2, e1, e2, e3⟩ := qn_bare (a := a) (d := d) hn p2 p3
    exact q_stI hr (q_jP (s_X11_bare g d a p2 p3 hg.2.1 hg.2.2.1 hg.2.2.2.2.1) e1) (q_jT (s_X13_baren g _ p2 p3 hg.2.1 hla) e2) (hr.ans hK e3)
  · have hG := hL.1.1.2.1
    have h1 : f_X11_hasLand (d.1 a) = true := q_hl1 (A := q_rows d a) (T := q_rows d t) hL
    have refuse : ∀ w : Int32, w ≠ 4 → f_X11_bare a d p2 p3 = some (-1, j_sI d 0 11 w) → f_X13_bare t (j_sI d 0 11 w) p2 p3 = some (-1, q_fin (q_dM d w) w) → ∃ (h1 h2 : JH) (x : Int32), j_lw h1 ∧ h1.1.2.2.2 = (g, d).1.2.2.2 ∧ h2.1.2.2.2 = h1.1.2.2.2 ∧ JM mi_X11_bare 0 0 (g, d) [.ref 0, .int p2, .int p3] (some (some (.int x), h1)) ∧ JM mi_X13_bare 0 0 h1 [.ref 57, .int p2, .int p3] (some (some (.int x), h2)) ∧ q_R K h2 ∧ h2.1.1 ≤ (g, d).1.1 + 15 := fun w hw e1 e2 => q_stI hr (q_jP (s_X11_bare g d a p2 p3 hg.2.1 hg.2.2.1 hg.2.2.2.2.1) e1) (q_jP (s_X13_bare g _ t p2 p3 hg.2.1 hts hla) e2) (hr.ans hK (q_ansd d hw))
    have jb1 : ¬ ((1 : Int32) = 0) := by decide
    by_cases h2 : f_X13_in p2 0 65536 = true
    · by_cases h3 : f_X13_in p3 0 60 = true
      · obtain ⟨s, hs, rfl⟩ := q_inr (n := 65536) (by decide) h2
        obtain ⟨n, hn, rfl⟩ := q_inr (n := 60) (by decide) h3
        have hv : q_WY G (d.1 59) := hN.1
        obtain ⟨dx, hdx⟩ : ∃ dx, dx = q_mix 6 (d.1 59) (d.1 60) := ⟨_, rfl⟩
        have xk : ∀ k, k < 6 → dx k = d.1 59 k := fun k hk => by rw [hdx]; exact if_pos hk
        obtain ⟨hx, hc⟩ := q_way hN xk
        have hxW : q_WY G dx := ⟨hx, fun g h1 h2 => by rw [xk g h2]; exact hv.2 g h1 h2⟩
        have d00 : (f_X4_set 23 d (d.1 22 0) (Int32.ofNat s) 0).1 23 0 = q_cod dx := by rw [q_set_a, hc]; rfl
        have d01 : (f_X4_set 23 d (d.1 22 0) (Int32.ofNat s) 0).1 23 1 = Int32.ofNat s := by rw [q_set_a]; rfl
        obtain ⟨rr, hrr⟩ := q_first_ex (fun i => q_bar G (d.1 (t + 3)) (q_ys (d.1 (t + 3)) (q_fl (q_rows d a)) G dx s i).1) n
        obtain ⟨e, l1, D, l2, l3⟩ := q_barLC hL h68 hg.a hxW (by omega : s < 65537) (fun b hb => q_set_o hb) d00 d01 (n := n) (by omega) hrr
        obtain ⟨dc, hdc⟩ : ∃ dc, dc = j_sI D 0 11 0 := ⟨_, rfl⟩
        obtain ⟨v, hv⟩ : ∃ v, v = (match rr with | some j => Int32.ofNat j | none => -2 : Int32) := ⟨_, rfl⟩
        have e1 : f_X11_bare a d (Int32.ofNat s) (Int32.ofNat n) = some (v, dc) := by
          unfold f_X11_bare j_let
          simp only [h1, q_isSeed, h2, q_drawn, h3, if_true, l1, Option.bind_some]
          rw [l3, hv, hdc]
          cases rr with
          | some j => simp only [Sum.elim_inl]
          | none => simp only [Sum.elim_inr, q_xan]
        have co : ∀ b, b ≠ 0 → b ≠ 23 → dc.1 b = d.1 b := fun b b0 b23 => by rw [hdc, q_sI_o b0, l2 b b23]
        obtain ⟨d0, hd0⟩ : ∃ d0, d0 = j_sI dc 57 0 0 := ⟨_, rfl⟩
        have o0 : ∀ b, b ≠ 57 → b ≠ 0 → b ≠ 23 → d0.1 b = d.1 b := fun b b57 b0 b23 => by rw [hd0, q_sI_o b57, co b b0 b23]
        have wk : f_X13_works d0 = some (q_row d0 60 dx) := by
          rw [q_works d0, o0 59 (by decide) (by decide) (by decide), o0 60 (by decide) (by decide) (by decide), hdx]
        obtain ⟨d4, hd4⟩ : ∃ d4, d4 = j_sI (q_row d0 60 dx) 57 29 (Int32.ofNat s) := ⟨_, rfl⟩
        have o4 : ∀ b, b ≠ 57 → b ≠ 60 → d4.1 b = d0.1 b := fun b b57 b60 => by rw [hd4, q_sI_o b57, q_row_o b60]
        have d460 : d4.1 60 = dx := by rw [hd4, q_sI_o (by decide), q_row_a]
        have d429 : d4.1 57 29 = Int32.ofNat s := by rw [hd4, q_sI_a]; rfl
        have hA0 : ∀ j, j < 15 → d0.1 (a + j) = d.1 (a + j) := fun j hj => o0 _ (by have := hg.a; omega) (by have := hg.a; omega) (by have := hg.a; omega)
        have hT0 : ∀ j, j < 15 → d0.1 (t + j) = d.1 (t + j) := fun j hj => o0 _ (by omega) (by omega) (by omega)
        have hrr' : q_first (fun i => q_bar G (d0.1 (t + 3)) (q_ys (d0.1 (t + 3)) (q_fl (q_rows d0 a)) G dx s i).1) n rr := by
          rw [hT0 3 (by decide), q_fl_eq hA0]; exact hrr
        obtain ⟨e', m1, u, ⟨m2, m3⟩, m4⟩ := q_barLM (a := a) (t := t) (d := d0) (d1 := d4) (q_L_congr hA0 hT0 hL) h68 hg.a hxW (by omega : s < 65537) o4 d460 d429 (n := n) (by omega) hrr'
        have e2 : f_X13_bare t dc (Int32.ofNat s) (Int32.ofNat n) = some (v, q_fin u 0) := by
          unfold f_X13_bare f_X13_bare_j18 f_X13_refusesSeed j_let
          simp only [← hd0, jb1, h2, h3, if_true, if_false, show (0 : Int32) ≤ 0 by decide, wk, Option.bind_some, ← hd4, m1]
          rw [m4, hv]
          cases rr with
          | some j => simp only [Sum.elim_inl]
          | none => simp only [Sum.elim_inr, q_good]
        have sm : q_sm d u := by
          refine ⟨fun b b0 b57 hb => ?_, fun k hk => ?_, fun k hk => ?_⟩
          · have ne : ∀ y, q_fr y = true → b ≠ y := fun y hy z => by rw [z, hy] at hb; cases hb
            rw [m2 b b57 (ne 60 rfl), o0 b b57 b0 (ne 23 rfl)]
          · have ne : ∀ y, q_f57 y = true → k ≠ y := fun y hy z => by rw [z, hy] at hk; cases hk
            rw [m3 k (ne 29 rfl), hd4, q_sI_a, q_upd_o (ne 29 rfl), q_row_o (by decide), hd0, q_sI_a, q_upd_o (ne 0 rfl), co 57 (by decide) (by decide)]
          · rw [m2 0 (by decide) (by decide), hd0, q_sI_o (by decide), hdc, q_sI_a, q_upd_o hk, l2 0 (by decide)]
        have u011 : u.1 0 11 = 0 := by rw [m2 0 (by decide) (by decide), hd0, q_sI_o (by decide), hdc, q_sI_a]; rfl
        exact q_stI hr (q_jP (s_X11_bare g d a _ _ hg.2.1 hg.2.2.1 hg.2.2.2.2.1) e1) (q_jP (s_X13_bare g _ t _ _ hg.2.1 hts hla) e2) (hr.ans hK (q_fin_ans sm u011 (by decide)))
      · refine refuse 2 (by decide) ?_ ?_
        · unfold f_X11_bare f_X11_bare_j27 j_let
          simp only [h1, q_isSeed, h2, q_drawn, h3, if_true, if_false, q_xre, Bool.false_eq_true]
        · unfold f_X13_bare f_X13_bare_j18 f_X13_refusesSeed j_let
          simp only [q_dMe, jb1, h2, h3, if_true, if_false, show ¬ ((2 : Int32) ≤ 0) by decide, q_ref, Bool.false_eq_true]
    · refine refuse 2 (by decide) ?_ ?_
      · unfold f_X11_bare f_X11_bare_j27 j_let
        simp only [h1, q_isSeed, h2, if_true, if_false, q_xre, Bool.false_eq_true]
      · unfold f_X13_bare f_X13_bare_j18 f_X13_refusesSeed j_let
        simp only [q_dMe, jb1, h2, if_false, show ¬ ((2 : Int32) ≤ 0) by decide, q_ref, Bool.false_eq_true]
