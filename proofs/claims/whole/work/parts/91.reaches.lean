/-! tier two: the reference reaches -/
def q_MR (N : Nat) (B D : JD) (s : q_S) : Prop := (∀ b, b ≠ 57 → b ≠ 60 → b ≠ 63 → b ≠ 64 → b ≠ 65 → D.1 b = B.1 b) ∧ (∀ k, k ≠ 24 → D.1 57 k = B.1 57 k) ∧ D.1 57 24 = Int32.ofNat s.1 ∧ (∀ i, i < s.1 → D.1 65 i = Int32.ofNat (s.2.1 i)) ∧ (∀ c, c < N → ¬ (q_mem s.2.1 c s.1 = true) → D.1 63 c = 9999) ∧ (∀ i, i < s.1 → D.1 63 (s.2.1 i) = Int32.ofNat (s.2.2.2.2 i)) ∧ ∀ i, 0 < i → i < s.1 → D.1 64 (s.2.1 i) = Int32.ofNat (24 * s.2.1 (s.2.2.1 i) + s.2.2.2.1 i)
theorem q_MR.o60 {N : Nat} {B D E : JD} {s : q_S} (h : q_MR N B D s) (e : ∀ b, b ≠ 60 → E.1 b = D.1 b) : q_MR N B E s := by
  obtain ⟨h1, h2, h3, h4, h5, h6, h7⟩ := h
  have e57 := e 57 (by decide)
  have e63 := e 63 (by decide)
  have e64 := e 64 (by decide)
  have e65 := e 65 (by decide)
  refine ⟨fun b b1 b2 b3 b4 b5 => (e b b2).trans (h1 b b1 b2 b3 b4 b5), ?_, ?_, ?_, ?_, ?_, ?_⟩
  · rw [e57]; exact h2
  · rw [e57]; exact h3
  · rw [e65]; exact h4
  · rw [e63]; exact h5
  · rw [e63]; exact h6
  · rw [e64]; exact h7
def q_ae (D : JD) (c n : Nat) (dp fr w k : Int32) : JD := j_sI (j_sI (j_sI (j_sI D 63 c dp) 64 c fr) 65 n w) 57 24 k
theorem q_MR.add {N K c i k : Nat} {B D : JD} {s : q_S} (h : q_MR N B D s) (hs : q_SI N K s) (hc : c < N) (hi : i < s.1) (hm : ¬ (q_mem s.2.1 c s.1 = true)) : q_MR N B (q_ae D c s.1 (Int32.ofNat (s.2.2.2.2 i + 1)) (Int32.ofNat (24 * s.2.1 i + k)) (Int32.ofNat c) (Int32.ofNat (s.1 + 1))) (s.1 + 1, q_ud s.2.1 s.1 c, q_ud s.2.2.1 s.1 i, q_ud s.2.2.2.1 s.1 k, q_ud s.2.2.2.2 s.1 (s.2.2.2.2 i + 1)) := by
  obtain ⟨h1, h2, h3, h4, h5, h6, h7⟩ := h
  have nm : ∀ j, j < s.1 → s.2.1 j ≠ c := fun j hj e => hm ((q_mem_i _).mpr ⟨j, hj, e⟩)
  have r57 : (q_ae D c s.1 (Int32.ofNat (s.2.2.2.2 i + 1)) (Int32.ofNat (24 * s.2.1 i + k)) (Int32.ofNat c) (Int32.ofNat (s.1 + 1))).1 57 = upd (D.1 57) 24 (Int32.ofNat (s.1 + 1)) := by
    unfold q_ae
    rw [q_sI_a, q_sI_o (by decide), q_sI_o (by decide), q_sI_o (by decide)]
  have r63 : (q_ae D c s.1 (Int32.ofNat (s.2.2.2.2 i + 1)) (Int32.ofNat (24 * s.2.1 i + k)) (Int32.ofNat c) (Int32.ofNat (s.1 + 1))).1 63 = upd (D.1 63) c (Int32.ofNat (s.2.2.2.2 i + 1)) := by
    unfold q_ae
    rw [q_sI_o (by decide), q_sI_o (by decide), q_sI_o (by decide), q_sI_a]
  have r64 : (q_ae D c s.1 (Int32.ofNat (s.2.2.2.2 i + 1)) (Int32.ofNat (24 * s.2.1 i + k)) (Int32.ofNat c) (Int32.ofNat (s.1 + 1))).1 64 = upd (D.1 64) c (Int32.ofNat (24 * s.2.1 i + k)) := by
    unfold q_ae
    rw [q_sI_o (by decide), q_sI_o (by decide), q_sI_a, q_sI_o (by decide)]
  have r65 : (q_ae D c s.1 (Int32.ofNat (s.2.2.2.2 i + 1)) (Int32.ofNat (24 * s.2.1 i + k)) (Int32.ofNat c) (Int32.ofNat (s.1 + 1))).1 65 = upd (D.1 65) s.1 (Int32.ofNat c) := by
    unfold q_ae
    rw [q_sI_o (by decide), q_sI_a, q_sI_o (by decide), q_sI_o (by decide)]
  have ro : ∀ b, b ≠ 57 → b ≠ 63 → b ≠ 64 → b ≠ 65 → (q_ae D c s.1 (Int32.ofNat (s.2.2.2.2 i + 1)) (Int32.ofNat (24 * s.2.1 i + k)) (Int32.ofNat c) (Int32.ofNat (s.1 + 1))).1 b = D.1 b := fun b b1 b2 b3 b4 => by
    unfold q_ae
    rw [q_sI_o b1, q_sI_o b4, q_sI_o b3, q_sI_o b2]
  refine ⟨fun b b1 b2 b3 b4 b5 => (ro b b1 b3 b4 b5).trans (h1 b b1 b2 b3 b4 b5), fun l hl => ?_, ?_, fun j hj => ?_, fun c' hc' hn => ?_, fun j hj => ?_, fun j h0 hj => ?_⟩
  · rw [r57, q_upd_o hl]; exact h2 l hl
  · rw [r57, q_upd_a]
  · have hj' : j < s.1 + 1 := hj
    rw [r65]
    show upd (D.1 65) s.1 (Int32.ofNat c) j = Int32.ofNat (q_ud s.2.1 s.1 c j)
    by_cases z : j = s.1
    · rw [z, q_upd_a, q_ud_a]
    · rw [q_upd_o z, q_ud_o z]; exact h4 j (by omega)
  · rw [r63]
    have hn' : ¬ (q_mem (q_ud s.2.1 s.1 c) c' (s.1 + 1) = true) := hn
    rw [q_mem_i] at hn'
    have c1 : c' ≠ c := fun e => hn' ⟨s.1, by omega, by rw [q_ud_a, e]⟩
    rw [q_upd_o c1]
    refine h5 c' hc' (fun e => ?_)
    obtain ⟨j, j1, j2⟩ := (q_mem_i _).mp e
    exact hn' ⟨j, by omega, by rw [q_ud_o (by omega), j2]⟩
  · have hj' : j < s.1 + 1 := hj
    rw [r63]
    show upd (D.1 63) c (Int32.ofNat (s.2.2.2.2 i + 1)) (q_ud s.2.1 s.1 c j) = Int32.ofNat (q_ud s.2.2.2.2 s.1 (s.2.2.2.2 i + 1) j)
    by_cases z : j = s.1
    · rw [z, q_ud_a, q_ud_a, q_upd_a]
    · rw [q_ud_o z, q_ud_o z, q_upd_o (nm j (by omega))]; exact h6 j (by omega)
  · have hj' : j < s.1 + 1 := hj
    rw [r64]
    show upd (D.1 64) c (Int32.ofNat (24 * s.2.1 i + k)) (q_ud s.2.1 s.1 c j) = Int32.ofNat (24 * q_ud s.2.1 s.1 c (q_ud s.2.2.1 s.1 i j) + q_ud s.2.2.2.1 s.1 k j)
    by_cases z : j = s.1
    · rw [z, q_ud_a, q_ud_a, q_ud_a, q_upd_a, q_ud_o (show i ≠ s.1 by omega)]
    · have := (hs.par j h0 (by omega)).1
      rw [q_ud_o z, q_ud_o z, q_ud_o z, q_upd_o (nm j (by omega)), q_ud_o (show s.2.2.1 j ≠ s.1 by omega)]
      exact h7 j h0 (by omega)
section QE
variable {G P F W L a t : Nat} {d B : JD}
theorem q_reS (hL : q_LR G P F W L (q_rows d a) (q_rows d t)) (hN : q_NR G (q_rows d a) (q_rows d t) (d.1 22 0) (d.1 22 1) (d.1 22 2) (d.1 59)) (h68 : 68 ≤ t) (et : ∀ j, B.1 (t + j) = d.1 (t + j)) (e59 : B.1 59 = d.1 59) {D : JD} {s : q_S} (h : q_MR (3 ^ G) B D s) (hs : q_SI (3 ^ G) (4 * G) s) {i : Nat} (hi : i < s.1) : ∃ D', j_wh (f_X13_reaches_w67_57 t (Int32.ofNat i)) j_fuel (0, D) = some D' ∧ q_MR (3 ^ G) B D' (q_it (fun k s => q_bst (q_nx (d.1 a) G) i k s) (4 * G) s) := by
  have hG1 := hL.1.1.1
  have hG := hL.1.1.2.1
  have e4' : d.1 t 4 = Int32.ofNat G := hL.1.2.1.2
  have m4 : (4 : Int32) * Int32.ofNat G = Int32.ofNat (4 * G) := by rw [Int32.ofNat_mul]; rfl
  have pw := q_pw43 ⟨G, by omega⟩
  dsimp only at pw
  have hx := q_nxlt hL hN
  refine q_inv (F := f_X13_reaches_w67_57 t (Int32.ofNat i)) (τ := fun k (u : Int32 × JD) => u.1 = Int32.ofNat k ∧ q_MR (3 ^ G) B u.2 (q_it (fun k s => q_bst (q_nx (d.1 a) G) i k s) k s)) (ρ := fun e => q_MR (3 ^ G) B e (q_it (fun k s => q_bst (q_nx (d.1 a) G) i k s) (4 * G) s)) (n := 4 * G) (by omega) ?_ ?_ (t := (0, D)) ⟨rfl, h⟩
  · intro k hk u hu
    obtain ⟨u1, E⟩ := u
    obtain ⟨e1, hE⟩ := hu
    dsimp only at e1 hE
    subst e1
    obtain ⟨si, sl⟩ := hs.its hx hi k (by omega)
    have st : q_it (fun k s => q_bst (q_nx (d.1 a) G) i k s) (k + 1) s = q_bst (q_nx (d.1 a) G) i k (q_it (fun k s => q_bst (q_nx (d.1 a) G) i k s) k s) := rfl
    rw [st]
    generalize q_it (fun k s => q_bst (q_nx (d.1 a) G) i k s) k s = s' at hE si sl
    have hi' : i < s'.1 := by omega
    have hle := si.le
    have hwi := si.way i hi'
    have hdi := si.dep i i (Nat.le_refl _) hi'
    have Et : ∀ j, E.1 (t + j) = d.1 (t + j) := fun j => (hE.1 _ (by omega) (by omega) (by omega) (by omega) (by omega)).trans (et j)
    have Et0 : E.1 t = d.1 t := Et 0
    have E59 : E.1 59 = d.1 59 := (hE.1 59 (by decide) (by decide) (by decide) (by decide) (by decide)).trans e59
    obtain ⟨E1, l1, l2, l3, -⟩ := q_laysM (D := E) h68 hG1 hG (by rw [Et0, e4']) (c := s'.2.1 i) (by omega)
    have hE1 := hE.o60 l2
    have E1t : ∀ j, E1.1 (t + j) = d.1 (t + j) := fun j => (l2 _ (by omega)).trans (Et j)
    have E1t0 : E1.1 t = d.1 t := E1t 0
    have E159 : E1.1 59 = d.1 59 := (l2 59 (by decide)).trans E59
    have k2 := q_go (n := 4 * G) (by omega) hk
    have ho : ¬ j_out (Int32.ofNat i) 729 := q_in (by omega) (by decide)
    have hn : (Int32.ofNat i).toNatClampNeg = i := q_n (by omega)
    unfold f_X13_reaches_w67_57 f_X13_reaches_j182_57_67
    dsimp only
    have l1' : f_X13_lays t E (E.1 65 (Int32.ofNat i).toNatClampNeg) = some E1 := by rw [hn, hE.2.2.2.1 i hi', l1]
    rw [Et0, e4', m4, if_neg k2, if_neg ho, l1', Option.bind_some, E159, E1t0, E1t 3, q_s]
    unfold q_bst
    rcases q_nxX hL hN (c := s'.2.1 i) (x' := E1.1 60) l3 hk with ⟨n0, -, n2⟩ | ⟨c', nc, n0, -, n2, n3⟩
    · rw [n0, Option.bind_some, if_neg (by decide), n2]
      exact ⟨_, rfl, rfl, hE1⟩
    · have mv := q_movesX (t := t) (E := E1) hG1 hG (by rw [E1t0, e4']) hk
      rw [n0, Option.bind_some, if_pos rfl, mv, Option.bind_some, n2]
      generalize hE2 : j_sI E1 60 (k % G) (q_mvv (k / G) (E1.1 60 (k % G))) = E2
      have o2 : ∀ b, b ≠ 60 → E2.1 b = E1.1 b := fun b hb => by rw [← hE2, q_sI_o hb]
      have x2 : ∀ j, j < G → E2.1 60 j = q_dig G c' j := fun j hj => by rw [← hE2, q_sI_a]; exact n3 j hj
      have hM := hE1.o60 o2
      have E2t0 : E2.1 t = d.1 t := (o2 t (by omega)).trans E1t0
      have nb : f_X13_numbered (E2.1 60) (E2.1 t) = some (Int32.ofNat c') := by
        rw [q_numX hG (by rw [E2t0, e4']) (q_dig_WY G c').1 x2, q_dn hG nc]
      have hoc : ¬ j_out (Int32.ofNat c') 729 := q_in (by omega) (by decide)
      have hnc : (Int32.ofNat c').toNatClampNeg = c' := q_n (by omega)
      have h65 : E2.1 65 (Int32.ofNat i).toNatClampNeg = Int32.ofNat (s'.2.1 i) := by rw [hn, hM.2.2.2.1 i hi']
      rw [nb, Option.bind_some, if_neg hoc]
      show ∃ t', _ = _ ∧ _ ∧ q_MR (3 ^ G) B _ (q_badd s' c' i k (s'.2.2.2.2 i + 1))
      unfold q_badd
      by_cases m : q_mem s'.2.1 c' s'.1 = true
      · obtain ⟨j, j1, j2⟩ := (q_mem_i _).mp m
        have dj := si.dep j j (Nat.le_refl _) j1
        have ne : ¬ (E2.1 63 (Int32.ofNat c').toNatClampNeg = 9999) := by
          rw [hnc, ← j2, hM.2.2.2.2.2.1 j j1]
          intro z
          have := (q_eq (n := s'.2.2.2.2 j) (i := 9999) (by omega) (by decide)).mp z
          omega
        rw [if_neg ne, if_pos m]
        exact ⟨_, rfl, rfl, hM⟩
      · have sj := si.add nc hi' hk m
        have hle' : s'.1 + 1 ≤ 3 ^ G := sj.le
        have ho2 : ¬ j_out (Int32.ofNat (s'.2.1 i)) 729 := q_in (by omega) (by decide)
        have hn2 : (Int32.ofNat (s'.2.1 i)).toNatClampNeg = s'.2.1 i := q_n (by omega)
        have ho3 : ¬ j_out (Int32.ofNat s'.1) 729 := q_in (by omega) (by decide)
        have hn3 : (Int32.ofNat s'.1).toNatClampNeg = s'.1 := q_n (by omega)
        have fr : (24 : Int32) * Int32.ofNat (s'.2.1 i) + Int32.ofNat k = Int32.ofNat (24 * s'.2.1 i + k) := by rw [Int32.ofNat_add, Int32.ofNat_mul]; rfl
        have p9 : E2.1 63 (Int32.ofNat c').toNatClampNeg = 9999 := by rw [hnc]; exact hM.2.2.2.2.1 c' nc m
        rw [if_pos p9, if_neg m, if_neg ho, h65, if_neg ho2, if_neg hoc, if_neg ho, if_neg hoc, hM.2.2.1, if_neg ho3, hnc, hn2, hn3, hM.2.2.2.2.2.1 i hi', fr, q_s, q_s]
        exact ⟨_, rfl, rfl, hM.add si nc hi' m⟩
  · intro u hu
    obtain ⟨u1, E⟩ := u
    obtain ⟨e1, hE⟩ := hu
    dsimp only at e1 hE
    subst e1
    have Et0 : E.1 t = d.1 t := (hE.1 _ (by omega) (by omega) (by omega) (by omega) (by omega)).trans (et 0)
    unfold f_X13_reaches_w67_57
    dsimp only
    rw [Et0, e4', m4, if_pos (q_end (by omega))]
    exact ⟨_, rfl, hE⟩
end QE
