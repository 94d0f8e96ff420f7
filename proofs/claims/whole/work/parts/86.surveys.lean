/-! tier two: both surveys side by side -/
theorem q_num_lt {x : Nat → Int32} (hx : q_dg x) : ∀ n, n ≤ 6 → q_num x n < 3 ^ n
  | 0, _ => Nat.one_pos
  | n + 1, h => by
    have i := q_num_lt hx n (by omega)
    have j := (q_d3 hx (g := n) (by omega)).2
    show 3 * q_num x n + (x n).toNatClampNeg < 3 ^ (n + 1)
    rw [Nat.pow_succ]
    omega
theorem q_num_dig {x : Nat → Int32} (hx : q_dg x) : ∀ n, n ≤ 6 → ∀ k, k < n → q_dig n (q_num x n) k = x k
  | 0, _, k, hk => absurd hk (by omega)
  | n + 1, h, k, hk => by
    have j := q_d3 hx (g := n) (by omega)
    show (if k < n + 1 then Int32.ofNat ((3 * q_num x n + (x n).toNatClampNeg) / 3 ^ (n + 1 - 1 - k) % 3) else 0) = _
    rw [if_pos hk]
    by_cases z : k = n
    · subst z
      rw [show k + 1 - 1 - k = 0 by omega, Nat.pow_zero, Nat.div_one, show (3 * q_num x k + (x k).toNatClampNeg) % 3 = (x k).toNatClampNeg by omega]
      exact j.1.symm
    · have e : n + 1 - 1 - k = (n - 1 - k) + 1 := by omega
      have i := q_num_dig hx n (by omega) k (by omega)
      unfold q_dig at i
      rw [if_pos (by omega)] at i
      rw [e, Nat.pow_succ, Nat.mul_comm (3 ^ (n - 1 - k)) 3, ← Nat.div_div_eq_div_mul, show (3 * q_num x n + (x n).toNatClampNeg) / 3 = q_num x n by omega]
      exact i
theorem q_num_cod {G : Nat} {x : Nat → Int32} (hx : q_WY G x) (hG : G ≤ 6) : ∀ k, k < 6 → q_dig G (q_num x G) k = x k := by
  intro k hk
  by_cases z : k < G
  · exact q_num_dig hx.1 G hG k z
  · rw [hx.2 k (by omega) hk]
    unfold q_dig
    rw [if_neg z]
theorem q_cod_c {x x' : Nat → Int32} (h : ∀ k, k < 6 → x k = x' k) : q_cod x = q_cod x' := by
  unfold q_cod
  rw [h 0 (by decide), h 1 (by decide), h 2 (by decide), h 3 (by decide), h 4 (by decide), h 5 (by decide)]
theorem q_cnt_c {x x' : Nat → Int32} : ∀ n, (∀ k, k < n → x k = x' k) → q_cnt x n = q_cnt x' n
  | 0, _ => rfl
  | n + 1, h => by
    show (if x n = 0 then q_cnt x n else q_cnt x n + 1) = if x' n = 0 then q_cnt x' n else q_cnt x' n + 1
    rw [h n (by omega), q_cnt_c n (fun k hk => h k (by omega))]
theorem q_ways7 : ∀ n : Fin 7, j_for (Int32.ofNat n.val) (fun _ s => s * 3) (j_mu (Int32.ofNat n.val) 0) 0 (1 : Int32) = Int32.ofNat (3 ^ n.val) := by decide +kernel
theorem q_ways {G : Nat} {r : Nat → Int32} (hG : G ≤ 6) (e : r 4 = Int32.ofNat G) : f_X13_ways r = Int32.ofNat (3 ^ G) := by
  have h := q_ways7 ⟨G, by omega⟩
  unfold f_X13_ways j_let
  rw [e]
  exact h
def q_cw (w : Nat → Int32) (u : Int32) : Option Nat → Int32
  | none => u
  | some b => w b
theorem q_cv_lt {m : Nat → Bool} {l k : Nat → Nat} : ∀ n b, q_cv m l k n = some b → b < n
  | 0, b, h => by cases h
  | n + 1, b, h => by
    have i := q_cv_lt (m := m) (l := l) (k := k) n
    have st : q_cv m l k (n + 1) = if m n = true then (if l n = 0 then q_cv m l k n else q_cvu k n (q_cv m l k n)) else q_cv m l k n := rfl
    rw [st] at h
    generalize q_cv m l k n = u at i h
    split at h
    · split at h
      · exact Nat.lt_succ_of_lt (i b h)
      · cases u with
        | none => cases h; exact Nat.lt_succ_self n
        | some c =>
          have := i c rfl
          unfold q_cvu at h
          dsimp only at h
          split at h
          · cases h; omega
          · cases h; omega
    · exact Nat.lt_succ_of_lt (i b h)
theorem q_fw_lt {m : Nat → Bool} {l : Nat → Nat} : ∀ n b, q_fw m l n = some b → b < n
  | 0, b, h => by cases h
  | n + 1, b, h => by
    have i := q_fw_lt (m := m) (l := l) n
    have st : q_fw m l (n + 1) = if m n = true then q_fwu l n (q_fw m l n) else q_fw m l n := rfl
    rw [st] at h
    generalize q_fw m l n = u at i h
    split at h
    · cases u with
      | none => cases h; exact Nat.lt_succ_self n
      | some c =>
        have := i c rfl
        unfold q_fwu at h
        dsimp only at h
        split at h
        · cases h; omega
        · cases h; omega
    · exact Nat.lt_succ_of_lt (i b h)
theorem q_fw_some {m : Nat → Bool} {l : Nat → Nat} {c : Nat} (hm : m c = true) : ∀ n, c < n → ∃ b, q_fw m l n = some b
  | 0, h => absurd h (by omega)
  | n + 1, h => by
    have st : q_fw m l (n + 1) = if m n = true then q_fwu l n (q_fw m l n) else q_fw m l n := rfl
    rw [st]
    by_cases z : c = n
    · subst z
      rw [if_pos hm]
      cases q_fw m l c with
      | none => exact ⟨_, rfl⟩
      | some b =>
        unfold q_fwu
        dsimp only
        split
        · exact ⟨_, rfl⟩
        · exact ⟨_, rfl⟩
    · obtain ⟨b, e⟩ := q_fw_some (m := m) (l := l) hm n (by omega)
      rw [e]
      split
      · unfold q_fwu
        dsimp only
        split
        · exact ⟨_, rfl⟩
        · exact ⟨_, rfl⟩
      · exact ⟨_, rfl⟩
theorem q_svC {N : Nat} {w : Nat → Int32} {m y : Nat → Bool} {l k : Nat → Nat} {sv : Nat → Int32 × Int32 × Int32 × Int32} {told : Int32} (h0 : sv 0 = (-1, 0, told, -1)) (hs : ∀ c, c < N → sv (c + 1) = if m c = true then (if Int32.ofNat (l c) ≤ 0 then (sv c).1 else if (sv c).1 = -1 then w c else if f_X10_hooksIn (sv c).1 ≤ f_X10_hooksIn (w c) then (sv c).1 else w c, if y c = true then (sv c).2.1 + 1 else (sv c).2.1, if Int32.ofNat (l c) ≤ (sv c).2.2.2 then (sv c).2.2.1 else w c, if Int32.ofNat (l c) ≤ (sv c).2.2.2 then (sv c).2.2.2 else Int32.ofNat (l c)) else sv c) (hw : ∀ c, c < N → w c ≠ -1 ∧ f_X10_hooksIn (w c) = Int32.ofNat (k c)) (hl : ∀ c, l c ≤ 594) (hk : ∀ c, k c ≤ 6) : ∀ n, n ≤ N → sv n = (q_cw w (-1) (q_cv m l k n), q_sn m y n, q_cw w told (q_fw m l n), q_ff l (q_fw m l n))
  | 0, _ => h0
  | n + 1, hn => by
    have ih := q_svC h0 hs hw hl hk n (by omega)
    have sc : q_cv m l k (n + 1) = if m n = true then (if l n = 0 then q_cv m l k n else q_cvu k n (q_cv m l k n)) else q_cv m l k n := rfl
    have ss : q_sn m y (n + 1) = if m n = true then (if y n = true then q_sn m y n + 1 else q_sn m y n) else q_sn m y n := rfl
    have sf : q_fw m l (n + 1) = if m n = true then q_fwu l n (q_fw m l n) else q_fw m l n := rfl
    have lc := q_cv_lt (m := m) (l := l) (k := k) n
    have lf := q_fw_lt (m := m) (l := l) n
    have hli := hl n
    have hki := hk n
    have hwn := hw n (by omega)
    rw [hs n (by omega), ih, sc, ss, sf]
    dsimp only
    generalize q_cv m l k n = u at lc
    generalize q_fw m l n = v at lf
    generalize q_sn m y n = z
    cases hm : m n with
    | false => simp only [Bool.false_eq_true, if_false]
    | true =>
      rw [if_pos rfl, if_pos rfl, if_pos rfl, if_pos rfl]
      have p1 : (if Int32.ofNat (l n) ≤ 0 then q_cw w (-1) u else if q_cw w (-1) u = -1 then w n else if f_X10_hooksIn (q_cw w (-1) u) ≤ f_X10_hooksIn (w n) then q_cw w (-1) u else w n) = q_cw w (-1) (if l n = 0 then u else q_cvu k n u) := by
        by_cases c : l n = 0
        · rw [if_pos c, if_pos (show Int32.ofNat (l n) ≤ 0 by rw [c]; decide)]
        · rw [if_neg c, if_neg (show ¬ (Int32.ofNat (l n) ≤ 0) from q_go (n := l n) (i := 0) (by omega) (by omega))]
          cases u with
          | none => exact if_pos rfl
          | some b =>
            have hb := lc b rfl
            obtain ⟨w1, w2⟩ := hw b (by omega)
            have hkb := hk b
            show (if w b = -1 then w n else if f_X10_hooksIn (w b) ≤ f_X10_hooksIn (w n) then w b else w n) = q_cw w (-1) (if k n < k b then some n else some b)
            rw [if_neg w1, w2, hwn.2]
            by_cases c2 : k n < k b
            · rw [if_pos c2, if_neg (q_go (by omega) c2)]
              rfl
            · rw [if_neg c2, if_pos ((q_le (by omega) (by omega)).mpr (by omega))]
              rfl
      have p2 : (if Int32.ofNat (l n) ≤ q_ff l v then q_cw w told v else w n) = q_cw w told (q_fwu l n v) ∧ (if Int32.ofNat (l n) ≤ q_ff l v then q_ff l v else Int32.ofNat (l n)) = q_ff l (q_fwu l n v) := by
        cases v with
        | none =>
          have c1 : ¬ (Int32.ofNat (l n) ≤ (-1 : Int32)) := fun y => q_nle.mpr (q_m1lt (j := l n) (by omega)) y
          show (if Int32.ofNat (l n) ≤ (-1 : Int32) then _ else _) = _ ∧ (if Int32.ofNat (l n) ≤ (-1 : Int32) then _ else _) = _
          rw [if_neg c1, if_neg c1]
          exact ⟨rfl, rfl⟩
        | some b =>
          have hlb := hl b
          show (if Int32.ofNat (l n) ≤ Int32.ofNat (l b) then _ else _) = q_cw w told (if l n ≤ l b then some b else some n) ∧ (if Int32.ofNat (l n) ≤ Int32.ofNat (l b) then _ else _) = q_ff l (if l n ≤ l b then some b else some n)
          by_cases c : l n ≤ l b
          · have c1 : Int32.ofNat (l n) ≤ Int32.ofNat (l b) := (q_le (by omega) (by omega)).mpr c
            rw [if_pos c, if_pos c1, if_pos c1]
            exact ⟨rfl, rfl⟩
          · have c1 : ¬ (Int32.ofNat (l n) ≤ Int32.ofNat (l b)) := q_go (by omega) (by omega)
            rw [if_neg c, if_neg c1, if_neg c1]
            exact ⟨rfl, rfl⟩
      rw [p1, p2.1, p2.2]
theorem q_o60sm {d1 E : JD} (h : q_o60 (q_dM d1 0) E) : q_sm d1 E ∧ E.1 0 11 = 0 := by
  refine ⟨(q_dM_sm d1 0).trans ⟨fun b _ _ hf => h b (fun z => by rw [z] at hf; exact absurd hf (by decide)), fun k _ => by rw [h 57 (by decide)], fun k _ => by rw [h 0 (by decide)]⟩, ?_⟩
  rw [h 0 (by decide)]
  exact q_dM_11 d1 0
theorem q_atM {G P F W L a t : Nat} {d E : JD} (hL : q_LR G P F W L (q_rows d a) (q_rows d t)) (et : ∀ j, E.1 (t + j) = d.1 (t + j)) {c : Nat} (ex : ∀ k, k < G → E.1 60 k = q_dig G c k) : f_X13_hung (E.1 60) (E.1 t) = some (Int32.ofNat (q_cnt (q_dig G c) G)) ∧ f_X13_least (E.1 60) (E.1 t) (E.1 (t + 1)) (E.1 (t + 2)) (E.1 (t + 3)) (E.1 (t + 4)) (E.1 (t + 5)) = some (Int32.ofNat (q_ls (q_w (q_rows d a) (q_cod (q_dig G c))) (P - 1))) ∧ f_X13_isCalm (E.1 60) (E.1 t) (E.1 (t + 1)) (E.1 (t + 2)) (E.1 (t + 3)) (E.1 (t + 4)) (E.1 (t + 5)) = some (f_X3_isStillWay (d.1 a) (d.1 (a + 7)) (d.1 (a + 8)) (q_cod (q_dig G c))) := by
  have e0 : E.1 t = d.1 t := et 0
  have hd := (q_dig_WY G c).1
  rw [e0, et 1, et 2, et 3, et 4, et 5]
  refine ⟨?_, ?_, ?_⟩
  · have := q_hung_c (A := q_rows d a) (T := q_rows d t) hL ex
    exact this.trans (q_hungM (A := q_rows d a) (T := q_rows d t) hL hd)
  · have := q_least_c (A := q_rows d a) (T := q_rows d t) hL ex
    refine this.trans ((q_leastM (A := q_rows d a) (T := q_rows d t) hL hd).trans ?_)
    rw [q_leastC (A := q_rows d a) (T := q_rows d t) hL hd]
  · have := q_calm_c (A := q_rows d a) (T := q_rows d t) hL ex
    exact this.trans (q_calmM (A := q_rows d a) (T := q_rows d t) hL hd)
theorem q_surv {g : JG} {G P F W L a b t : Nat} {d : JD} (hr : q_R q_K0 (g, d)) (hg : q_G g a b) (h68 : 68 ≤ t) (hL : q_LR G P F W L (q_rows d a) (q_rows d t)) (hN : q_NR G (q_rows d a) (q_rows d t) (d.1 22 0) (d.1 22 1) (d.1 22 2) (d.1 59)) (hk : q_K0 (q_rows d a) (q_rows d 32)) : ∃ (d1 : JD) (m y : Nat → Bool) (l k : Nat → Nat) (b0 : Nat), f_X8_make a d = some d1 ∧ q_R q_K0 (g, d1) ∧ d1.1 38 1 = q_cw (fun c => q_cod (q_dig G c)) (-1) (q_cv m l k (3 ^ G)) ∧ d1.1 38 2 = q_sn m y (3 ^ G) ∧ q_fw m l (3 ^ G) = some b0 ∧ d1.1 38 3 = q_cod (q_dig G b0) ∧ d1.1 38 4 = Int32.ofNat (l b0) ∧ q_WM (q_dM d1 0) t (3 ^ G) m y l k ∧ (∀ E c, c < 3 ^ G → q_o60 (q_dM d1 0) E → ∃ E2, f_X13_lays t E (Int32.ofNat c) = some E2 ∧ q_o60 (q_dM d1 0) E2 ∧ f_X13_hung (E2.1 60) (E2.1 t) = some (Int32.ofNat (k c)) ∧ f_X13_least (E2.1 60) (E2.1 t) (E2.1 (t + 1)) (E2.1 (t + 2)) (E2.1 (t + 3)) (E2.1 (t + 4)) (E2.1 (t + 5)) = some (Int32.ofNat (l c)) ∧ ∀ j, j < G → E2.1 60 j = q_dig G c j) ∧ (∀ c, l c ≤ 594) ∧ (∀ c, k c ≤ 6) ∧ (∀ c, f_X10_hooksIn (q_cod (q_dig G c)) = Int32.ofNat (k c)) ∧ ∀ j, d1.1 (t + j) = d.1 (t + j) := by
  have hG1 := hL.1.1.1
  have hG := hL.1.1.2.1
  have e4 : d.1 t 4 = Int32.ofNat G := hL.1.2.1.2
  have pw := q_pw43 ⟨G, by omega⟩
  dsimp only at pw
  obtain ⟨d1, m1, m2, m3⟩ := q_makeC hL hg.a hk.2.1
  have rr := q_makeR hr hg hL hk m2 m3
  have et1 : ∀ j, d1.1 (t + j) = d.1 (t + j) := fun j => m2 _ (by omega)
  have et : ∀ j, (q_dM d1 0).1 (t + j) = d.1 (t + j) := fun j => by rw [q_dM_o (by omega) (by omega), et1]
  have e59 : (q_dM d1 0).1 59 = d.1 59 := by rw [q_dM_o (by decide) (by decide), m2 59 (by decide)]
  have ll : ∀ c, q_ls (q_w (q_rows d a) (q_cod (q_dig G c))) (P - 1) ≤ 594 := fun c => q_ls_le (fun p => (q_wE hL (q_dig_WY G c).1 p).2) _
  have kk : ∀ c, q_cnt (q_dig G c) G ≤ 6 := fun c => Nat.le_trans (q_cnt_le _ _) hG
  have hh : ∀ c, f_X10_hooksIn (q_cod (q_dig G c)) = Int32.ofNat (q_cnt (q_dig G c) G) := fun c => by
    rw [q_hooks (q_dig_WY G c).1, q_cntG (q_dig_WY G c) hG]
  have wm : q_WM (q_dM d1 0) t (3 ^ G) (fun c => f_X3_mayHangSo (d.1 a) (q_cod (q_dig G c))) (fun c => f_X3_isStillWay (d.1 a) (d.1 (a + 7)) (d.1 (a + 8)) (q_cod (q_dig G c))) (fun c => q_ls (q_w (q_rows d a) (q_cod (q_dig G c))) (P - 1)) (fun c => q_cnt (q_dig G c) G) := by
    intro c hc D o
    obtain ⟨E, x1, x2, x3⟩ := q_mayM (D := D) hL hN h68 (fun j => by rw [o _ (by omega), et]) (by rw [o 59 (by decide), e59]) hc
    obtain ⟨y1, y2, y3⟩ := q_atM (E := E) hL (fun j => by rw [x2 _ (by omega), o _ (by omega), et]) x3
    exact ⟨E, x1, fun b hb => by rw [x2 b hb, o b hb], y1, y2, y3⟩
  have la : ∀ E c, c < 3 ^ G → q_o60 (q_dM d1 0) E → ∃ E2, f_X13_lays t E (Int32.ofNat c) = some E2 ∧ q_o60 (q_dM d1 0) E2 ∧ f_X13_hung (E2.1 60) (E2.1 t) = some (Int32.ofNat (q_cnt (q_dig G c) G)) ∧ f_X13_least (E2.1 60) (E2.1 t) (E2.1 (t + 1)) (E2.1 (t + 2)) (E2.1 (t + 3)) (E2.1 (t + 4)) (E2.1 (t + 5)) = some (Int32.ofNat (q_ls (q_w (q_rows d a) (q_cod (q_dig G c))) (P - 1))) ∧ ∀ j, j < G → E2.1 60 j = q_dig G c j := by
    intro E c hc o
    have E4 : E.1 t 4 = Int32.ofNat G := by
      have z : E.1 t = d.1 t := (o t (by omega)).trans (et 0)
      rw [z, e4]
    obtain ⟨E2, x1, x2, x3, -⟩ := q_laysM (D := E) h68 hG1 hG E4 (c := c) (by omega)
    obtain ⟨y1, y2, y3⟩ := q_atM (E := E2) hL (fun j => by rw [x2 _ (by omega), o _ (by omega), et]) x3
    exact ⟨E2, x1, fun b hb => by rw [x2 b hb, o b hb], y1, y2, x3⟩
  obtain ⟨H, hH6, hH⟩ := hL.1.2.2.2.2.2.2.2.1
  have w6 := hL.2.2.1.2.1
  have nl := q_num_lt w6.1 G hG
  have nd := q_num_cod w6 hG
  have mt : f_X3_mayHangSo (d.1 a) (q_cod (q_dig G (q_num (q_rows d t 6) G))) = true := by
    refine (q_mayC (A := q_rows d a) (T := q_rows d t) hL (q_dig_WY G _) (q_iwd hG nl) hH hH6).mpr ⟨fun g hg _ => nd g (by omega), ?_⟩
    have : q_cnt (q_dig G (q_num (q_rows d t 6) G)) G = q_cnt (q_rows d t 6) G := q_cnt_c G (fun k hk => nd k (by omega))
    rw [this, q_cntG w6 hG]
    omega
  have cl := q_svC (N := 3 ^ G) (w := fun c => q_cod (q_dig G c)) (m := fun c => f_X3_mayHangSo (d.1 a) (q_cod (q_dig G c))) (y := fun c => f_X3_isStillWay (d.1 a) (d.1 (a + 7)) (d.1 (a + 8)) (q_cod (q_dig G c))) (l := fun c => q_ls (q_w (q_rows d a) (q_cod (q_dig G c))) (P - 1)) (k := fun c => q_cnt (q_dig G c) G) (sv := q_sv (q_rows d a) G) (told := d.1 a 6) rfl (by
    intro c hc
    have lc : f_X3_leastWealth (d.1 a) (d.1 (a + 7)) (d.1 (a + 8)) (q_cod (q_dig G c)) = Int32.ofNat (q_ls (q_w (q_rows d a) (q_cod (q_dig G c))) (P - 1)) := q_leastC (A := q_rows d a) (T := q_rows d t) hL (q_dig_WY G c).1
    have st : q_sv (q_rows d a) G (c + 1) = q_svb (q_rows d a) (q_cod (q_dig G c)) (q_sv (q_rows d a) G c) := rfl
    rw [st, ← lc]
    rfl) (fun c _ => ⟨q_codne (q_dig_WY G c).1, hh c⟩) ll kk (3 ^ G) (Nat.le_refl _)
  have c := m3.trans cl
  have c1 := congrArg (fun s : Int32 × Int32 × Int32 × Int32 => s.1) c
  have c2 := congrArg (fun s : Int32 × Int32 × Int32 × Int32 => s.2.1) c
  have c3 := congrArg (fun s : Int32 × Int32 × Int32 × Int32 => s.2.2.1) c
  have c4 := congrArg (fun s : Int32 × Int32 × Int32 × Int32 => s.2.2.2) c
  obtain ⟨b0, hb0⟩ := q_fw_some (m := fun c => f_X3_mayHangSo (d.1 a) (q_cod (q_dig G c))) (l := fun c => q_ls (q_w (q_rows d a) (q_cod (q_dig G c))) (P - 1)) mt (3 ^ G) nl
  dsimp only [q_t4] at c1 c2 c3 c4
  rw [hb0] at c3 c4
  exact ⟨d1, _, _, _, _, b0, m1, rr, c1, c2, hb0, c3, c4, wm, la, ll, kk, hh, et1⟩
theorem q_18 : lw_st_18 (q_R q_K0) := by
  intro h r hz
  obtain ⟨g, d⟩ := h
  have hr := r
  obtain ⟨a, b, hg, ht, -, hk, hl⟩ := r
  rcases hl with ⟨hla, hn⟩ | ⟨t, h68, hla, hts, G, P, F, W, L, hL, hN, -⟩
  · obtain ⟨x, w, d2, e1, e2, e3⟩ := qn_cover (a := a) (d := d) hn
    exact q_stI hr (q_jP (s_X11_cover g d a hg.2.1 hg.2.2.1 hg.2.2.2.2.1) e1) (q_jT (s_X13_covern g _ hg.2.1 hla) e2) (hr.ans q_K0ok e3)
  · dsimp only at hk hL hN
    have hG := hL.1.1.2.1
    have k1 : f_X11_hasLand (d.1 a) = true := q_hl1 (A := q_rows d a) (T := q_rows d t) hL
    have pw := q_pw43 ⟨G, by omega⟩
    dsimp only at pw
    obtain ⟨d1, m, y, l, k, b0, m1, rr, c1, c2, hb, c3, c4, wm, la, ll, kk, hh, et⟩ := q_surv hr hg h68 hL hN hk
    have e0 : (q_dM d1 0).1 t = d.1 t := (q_dM_o (by omega) (by omega)).trans (et 0)
    obtain ⟨E, x1, x2⟩ := q_coverA wm pw.2.1 (by rw [e0]; exact q_ways hG hL.1.2.1.2) h68 (P := P) (by rw [e0]; exact hL.1.2.2.1.2) (q_P1 hL) (by have := hL.1.1.2.2.1; omega) ll kk
    have lt := q_cv_lt (m := m) (l := l) (k := k) (3 ^ G)
    generalize q_cv m l k (3 ^ G) = u at c1 x1 lt
    cases u with
    | none =>
      have c1' : d1.1 38 1 = -1 := c1
      have x1' : f_X13_coverWay t (q_dM d1 0) = some (-1, E) := x1
      obtain ⟨s1, s2⟩ := q_o60sm x2
      refine q_stI hr (q_jP (s_X11_cover g d a hg.2.1 hg.2.2.1 hg.2.2.2.2.1) (x := -2) (d1 := j_sI d1 0 11 0) ?_) (q_jP (s_X13_cover g _ t hg.2.1 hts hla) (d1 := q_fin E 0) ?_) (rr.ans q_K0ok (q_fin_ans s1 s2 (by decide)))
      · unfold f_X11_cover f_X11_cover_j51 j_let
        rw [if_pos k1, m1, Option.bind_some, if_pos c1']
        rfl
      · unfold f_X13_cover j_let
        rw [q_dMe, x1', Option.bind_some, q_good]
        rfl
    | some c =>
      have hc := lt c rfl
      have c1' : d1.1 38 1 = q_cod (q_dig G c) := c1
      have x1' : f_X13_coverWay t (q_dM d1 0) = some (Int32.ofNat c, E) := x1
      obtain ⟨E2, z1, z2, z3, -, -⟩ := la E c hc x2
      obtain ⟨s1, s2⟩ := q_o60sm z2
      have n1 : ¬ (d1.1 38 1 = -1) := by rw [c1']; exact q_codne (q_dig_WY G c).1
      have n2 : ¬ (Int32.ofNat c = -1) := q_nem1 (by omega)
      refine q_stI hr (q_jP (s_X11_cover g d a hg.2.1 hg.2.2.1 hg.2.2.2.2.1) (x := Int32.ofNat (k c)) (d1 := j_sI d1 0 11 0) ?_) (q_jP (s_X13_cover g _ t hg.2.1 hts hla) (d1 := q_fin E2 0) ?_) (rr.ans q_K0ok (q_fin_ans s1 s2 (by decide)))
      · unfold f_X11_cover f_X11_cover_j51 j_let
        rw [if_pos k1, m1, Option.bind_some, if_neg n1, c1', hh c]
        rfl
      · unfold f_X13_cover j_let
        rw [q_dMe, x1', Option.bind_some]
        dsimp only
        rw [if_neg n2, z1, Option.bind_some, z3, Option.bind_some, q_good]
theorem q_19 : lw_st_19 (q_R q_K0) := by
  intro h p r hz
  obtain ⟨g, d⟩ := h
  have hr := r
  obtain ⟨a, b, hg, ht, -, hk, hl⟩ := r
  rcases hl with ⟨hla, hn⟩ | ⟨t, h68, hla, hts, G, P, F, W, L, hL, hN, -⟩
  · obtain ⟨x, w, d2, e1, e2, e3⟩ := qn_coverAt (a := a) (d := d) hn p
    exact q_stI hr (q_jP (s_X11_coverAt g d a p hg.2.1 hg.2.2.1 hg.2.2.2.2.1) e1) (q_jT (s_X13_coverAtn g _ p hg.2.1 hla) e2) (hr.ans q_K0ok e3)
  · dsimp only at hk hL hN
    have hG := hL.1.1.2.1
    have ig : f_X13_isGate (d.1 t) p = f_X11_isGate (d.1 a) p := q_isg (A := q_rows d a) (T := q_rows d t) hL p
    cases h1 : f_X11_isGate (d.1 a) p with
    | false =>
      have e0 : (q_dM d 1).1 t = d.1 t := q_dM_o (by omega) (by omega)
      refine q_stI hr (q_jP (s_X11_coverAt g d a p hg.2.1 hg.2.2.1 hg.2.2.2.2.1) (x := -1) (d1 := j_sI d 0 11 1) ?_) (q_jP (s_X13_coverAt g _ t p hg.2.1 hts hla) (d1 := q_fin (q_dM d 1) 1) ?_) (hr.ans q_K0ok (q_ansd d (by decide)))
      · unfold f_X11_coverAt j_let
        rw [h1, if_neg (by decide), q_xre]
      · unfold f_X13_coverAt j_let
        rw [q_dMe, e0, ig, h1, if_neg (by decide), q_ref]
    | true =>
      obtain ⟨i, hi, ei⟩ := q_isg' (A := q_rows d a) (T := q_rows d t) hL h1
      have pw := q_pw43 ⟨G, by omega⟩
      dsimp only at pw
      obtain ⟨d1, m, y, l, k, b0, m1, rr, c1, c2, hb, c3, c4, wm, la, ll, kk, hh, et⟩ := q_surv hr hg h68 hL hN hk
      have e0 : (q_dM d1 0).1 t = d.1 t := (q_dM_o (by omega) (by omega)).trans (et 0)
      obtain ⟨E, x1, x2⟩ := q_coverA wm pw.2.1 (by rw [e0]; exact q_ways hG hL.1.2.1.2) h68 (P := P) (by rw [e0]; exact hL.1.2.2.1.2) (q_P1 hL) (by have := hL.1.1.2.2.1; omega) ll kk
      have lt := q_cv_lt (m := m) (l := l) (k := k) (3 ^ G)
      generalize q_cv m l k (3 ^ G) = u at c1 x1 lt
      cases u with
      | none =>
        have c1' : d1.1 38 1 = -1 := c1
        have x1' : f_X13_coverWay t (q_dM d1 0) = some (-1, E) := x1
        obtain ⟨s1, s2⟩ := q_o60sm x2
        refine q_stI hr (q_jP (s_X11_coverAt g d a p hg.2.1 hg.2.2.1 hg.2.2.2.2.1) (x := -2) (d1 := j_sI d1 0 11 0) ?_) (q_jP (s_X13_coverAt g _ t p hg.2.1 hts hla) (d1 := q_fin E 0) ?_) (rr.ans q_K0ok (q_fin_ans s1 s2 (by decide)))
        · unfold f_X11_coverAt f_X11_coverAt_j53 j_let
          rw [h1, if_pos rfl, m1, Option.bind_some, if_pos c1']
          rfl
        · unfold f_X13_coverAt j_let
          rw [q_dMe, e0, ig, h1, if_pos rfl, x1', Option.bind_some, q_good]
          rfl
      | some c =>
        have hc := lt c rfl
        have c1' : d1.1 38 1 = q_cod (q_dig G c) := c1
        have x1' : f_X13_coverWay t (q_dM d1 0) = some (Int32.ofNat c, E) := x1
        obtain ⟨E2, z1, z2, -, -, z5⟩ := la E c hc x2
        obtain ⟨s1, s2⟩ := q_o60sm z2
        have n1 : ¬ (d1.1 38 1 = -1) := by rw [c1']; exact q_codne (q_dig_WY G c).1
        have n2 : ¬ (Int32.ofNat c = -1) := q_nem1 (by omega)
        refine q_stI hr (q_jP (s_X11_coverAt g d a p hg.2.1 hg.2.2.1 hg.2.2.2.2.1) (x := q_dig G c i) (d1 := j_sI d1 0 11 0) ?_) (q_jP (s_X13_coverAt g _ t p hg.2.1 hts hla) (d1 := q_fin E2 0) ?_) (rr.ans q_K0ok (q_fin_ans s1 s2 (by decide)))
        · unfold f_X11_coverAt f_X11_coverAt_j53 j_let
          rw [h1, if_pos rfl, m1, Option.bind_some, if_neg n1, c1', ei, q_hung (q_dig_WY G c).1 (by omega)]
          rfl
        · unfold f_X13_coverAt j_let
          rw [q_dMe, e0, ig, h1, if_pos rfl, x1', Option.bind_some]
          dsimp only
          rw [if_neg n2, z1, Option.bind_some, ei, if_neg (q_in (i := i) (n := 6) (by omega) (by decide)), q_n (by omega), z5 i hi, q_good]
theorem q_20 : lw_st_20 (q_R q_K0) := by
  intro h r hz
  obtain ⟨g, d⟩ := h
  have hr := r
  obtain ⟨a, b, hg, ht, -, hk, hl⟩ := r
  rcases hl with ⟨hla, hn⟩ | ⟨t, h68, hla, hts, G, P, F, W, L, hL, hN, -⟩
  · obtain ⟨x, w, d2, e1, e2, e3⟩ := qn_stills (a := a) (d := d) hn
    exact q_stI hr (q_jP (s_X11_stills g d a hg.2.1 hg.2.2.1 hg.2.2.2.2.1) e1) (q_jT (s_X13_stillsn g _ hg.2.1 hla) e2) (hr.ans q_K0ok e3)
  · dsimp only at hk hL hN
    have hG := hL.1.1.2.1
    have k1 : f_X11_hasLand (d.1 a) = true := q_hl1 (A := q_rows d a) (T := q_rows d t) hL
    have pw := q_pw43 ⟨G, by omega⟩
    dsimp only at pw
    obtain ⟨d1, m, y, l, k, b0, m1, rr, c1, c2, hb, c3, c4, wm, la, ll, kk, hh, et⟩ := q_surv hr hg h68 hL hN hk
    have e0 : (q_dM d1 0).1 t = d.1 t := (q_dM_o (by omega) (by omega)).trans (et 0)
    obtain ⟨E, x1, x2⟩ := q_stillsA wm pw.2.1 (by rw [e0]; exact q_ways hG hL.1.2.1.2) h68
    obtain ⟨s1, s2⟩ := q_o60sm x2
    refine q_stI hr (q_jP (s_X11_stills g d a hg.2.1 hg.2.2.1 hg.2.2.2.2.1) (x := q_sn m y (3 ^ G)) (d1 := j_sI d1 0 11 0) ?_) (q_jP (s_X13_stills g _ t hg.2.1 hts hla) (d1 := q_fin E 0) ?_) (rr.ans q_K0ok (q_fin_ans s1 s2 (by decide)))
    · unfold f_X11_stills j_let
      rw [if_pos k1, m1, Option.bind_some, c2]
      rfl
    · unfold f_X13_stills j_let
      rw [q_dMe, x1, Option.bind_some, q_good]
theorem q_22 : lw_st_22 (q_R q_K0) := by
  intro h r hz
  obtain ⟨g, d⟩ := h
  have hr := r
  obtain ⟨a, b, hg, ht, -, hk, hl⟩ := r
  rcases hl with ⟨hla, hn⟩ | ⟨t, h68, hla, hts, G, P, F, W, L, hL, hN, -⟩
  · obtain ⟨x, w, d2, e1, e2, e3⟩ := qn_fairest (a := a) (d := d) hn
    exact q_stI hr (q_jP (s_X11_fairest g d a hg.2.1 hg.2.2.1 hg.2.2.2.2.1) e1) (q_jT (s_X13_fairestn g _ hg.2.1 hla) e2) (hr.ans q_K0ok e3)
  · dsimp only at hk hL hN
    have hG := hL.1.1.2.1
    have k1 : f_X11_hasLand (d.1 a) = true := q_hl1 (A := q_rows d a) (T := q_rows d t) hL
    have pw := q_pw43 ⟨G, by omega⟩
    dsimp only at pw
    obtain ⟨d1, m, y, l, k, b0, m1, rr, c1, c2, hb, c3, c4, wm, la, ll, kk, hh, et⟩ := q_surv hr hg h68 hL hN hk
    have e0 : (q_dM d1 0).1 t = d.1 t := (q_dM_o (by omega) (by omega)).trans (et 0)
    obtain ⟨E, x1, x2⟩ := q_fairA wm pw.2.1 (by rw [e0]; exact q_ways hG hL.1.2.1.2) h68 ll
    have x1' : f_X13_fairWay t (q_dM d1 0) = some (Int32.ofNat b0, E) := by rw [x1, hb]; rfl
    obtain ⟨E2, z1, z2, -, z4, -⟩ := la E b0 (q_fw_lt _ _ hb) x2
    obtain ⟨s1, s2⟩ := q_o60sm z2
    refine q_stI hr (q_jP (s_X11_fairest g d a hg.2.1 hg.2.2.1 hg.2.2.2.2.1) (x := Int32.ofNat (l b0)) (d1 := j_sI d1 0 11 0) ?_) (q_jP (s_X13_fairest g _ t hg.2.1 hts hla) (d1 := q_fin E2 0) ?_) (rr.ans q_K0ok (q_fin_ans s1 s2 (by decide)))
    · unfold f_X11_fairest j_let
      rw [if_pos k1, m1, Option.bind_some, c4]
      rfl
    · unfold f_X13_fairest j_let
      rw [q_dMe, x1', Option.bind_some]
      dsimp only
      rw [z1, Option.bind_some, z4, Option.bind_some, q_good]
theorem q_23 : lw_st_23 (q_R q_K0) := by
  intro h p r hz
  obtain ⟨g, d⟩ := h
  have hr := r
  obtain ⟨a, b, hg, ht, -, hk, hl⟩ := r
  rcases hl with ⟨hla, hn⟩ | ⟨t, h68, hla, hts, G, P, F, W, L, hL, hN, -⟩
  · obtain ⟨x, w, d2, e1, e2, e3⟩ := qn_fairAt (a := a) (d := d) hn p
    exact q_stI hr (q_jP (s_X11_fairAt g d a p hg.2.1 hg.2.2.1 hg.2.2.2.2.1) e1) (q_jT (s_X13_fairAtn g _ p hg.2.1 hla) e2) (hr.ans q_K0ok e3)
  · dsimp only at hk hL hN
    have hG := hL.1.1.2.1
    have ig : f_X13_isGate (d.1 t) p = f_X11_isGate (d.1 a) p := q_isg (A := q_rows d a) (T := q_rows d t) hL p
    cases h1 : f_X11_isGate (d.1 a) p with
    | false =>
      have e0 : (q_dM d 1).1 t = d.1 t := q_dM_o (by omega) (by omega)
      refine q_stI hr (q_jP (s_X11_fairAt g d a p hg.2.1 hg.2.2.1 hg.2.2.2.2.1) (x := -1) (d1 := j_sI d 0 11 1) ?_) (q_jP (s_X13_fairAt g _ t p hg.2.1 hts hla) (d1 := q_fin (q_dM d 1) 1) ?_) (hr.ans q_K0ok (q_ansd d (by decide)))
      · unfold f_X11_fairAt j_let
        rw [h1, if_neg (by decide), q_xre]
      · unfold f_X13_fairAt j_let
        rw [q_dMe, e0, ig, h1, if_neg (by decide), q_ref]
    | true =>
      obtain ⟨i, hi, ei⟩ := q_isg' (A := q_rows d a) (T := q_rows d t) hL h1
      have pw := q_pw43 ⟨G, by omega⟩
      dsimp only at pw
      obtain ⟨d1, m, y, l, k, b0, m1, rr, c1, c2, hb, c3, c4, wm, la, ll, kk, hh, et⟩ := q_surv hr hg h68 hL hN hk
      have e0 : (q_dM d1 0).1 t = d.1 t := (q_dM_o (by omega) (by omega)).trans (et 0)
      obtain ⟨E, x1, x2⟩ := q_fairA wm pw.2.1 (by rw [e0]; exact q_ways hG hL.1.2.1.2) h68 ll
      have x1' : f_X13_fairWay t (q_dM d1 0) = some (Int32.ofNat b0, E) := by rw [x1, hb]; rfl
      obtain ⟨E2, z1, z2, -, -, z5⟩ := la E b0 (q_fw_lt _ _ hb) x2
      obtain ⟨s1, s2⟩ := q_o60sm z2
      refine q_stI hr (q_jP (s_X11_fairAt g d a p hg.2.1 hg.2.2.1 hg.2.2.2.2.1) (x := q_dig G b0 i) (d1 := j_sI d1 0 11 0) ?_) (q_jP (s_X13_fairAt g _ t p hg.2.1 hts hla) (d1 := q_fin E2 0) ?_) (rr.ans q_K0ok (q_fin_ans s1 s2 (by decide)))
      · unfold f_X11_fairAt j_let
        rw [h1, if_pos rfl, m1, Option.bind_some, c3, ei, q_hung (q_dig_WY G b0).1 (by omega)]
        rfl
      · unfold f_X13_fairAt j_let
        rw [q_dMe, e0, ig, h1, if_pos rfl, x1', Option.bind_some]
        dsimp only
        rw [z1, Option.bind_some, ei, if_neg (q_in (i := i) (n := 6) (by omega) (by decide)), q_n (by omega), z5 i hi, q_good]
