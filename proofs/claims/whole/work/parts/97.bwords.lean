/-! tier two: words that both know -/
theorem qp_cmp (x y : Int64) : lg_cmp x y = 0 ↔ x = y := by
  unfold lg_cmp
  constructor
  · intro h
    by_cases c : x > y
    · rw [if_pos c] at h; exact absurd h (by decide)
    · rw [if_neg c] at h
      by_cases e : x = y
      · exact e
      · rw [if_neg e] at h; exact absurd h (by decide)
  · rintro rfl
    rw [if_neg (Int64.lt_irrefl), if_pos rfl]
def qp_len (k : Nat) : Nat := (j_sb k).length
def qp_c (k i : Nat) : Nat := ((f_J0_charAt_5068e k (Int32.ofNat i)).getD 0).toNatClampNeg
def qp_pr (k : Nat) : Nat := [19, 22, 23, 24, 25, 26, 27, 28, 29, 20, 21, 30, 31, 32, 33, 34, 35, 36, 37].getD k 0
theorem qp_len19 : ∀ k : Fin 19, f_J0_length_8abf5 k.val = Int32.ofNat (qp_len k.val) ∧ qp_len k.val ≤ 8 := by decide +kernel
theorem qp_c19 : ∀ k : Fin 19, ∀ i : Fin 8, i.val < qp_len k.val → f_J0_charAt_5068e k.val (Int32.ofNat i.val) = some (Int32.ofNat (qp_c k.val i.val)) ∧ 97 ≤ qp_c k.val i.val ∧ qp_c k.val i.val ≤ 122 := by decide +kernel
theorem qp_pk19 : ∀ k : Fin 19, f_X13_packed (qp_pr k.val) = some (Int64.ofNat (q_pk (fun i => qp_c k.val i - 96) (qp_len k.val))) := by decide +kernel
theorem qp_pkb {x : Nat → Nat} {n : Nat} (hn : n ≤ 8) (h : ∀ i, i < n → x i < 32) : q_pk x n < 9223372036854775808 := by
  have h1 := q_pk_lt n h
  have h2 : 32 ^ n ≤ 32 ^ 8 := Nat.pow_le_pow_right (by decide) hn
  have h3 : (32 : Nat) ^ 8 = 1099511627776 := by decide
  omega
section QW
variable {B : Nat → Int32} {N lo : Nat} {D E : JD}
theorem qp_word (hb : ∀ i, q_isb (B i)) (hN : N ≤ 900) (hB : D.1 2 = B) (t : qp_T B N lo D E) {k k' : Nat} (hk : k < 19) (hp : qp_pr k = k') : ∃ β : Bool, f_X9_spells (D.1 1) (D.1 2) k = some β ∧ f_X13_isWord (E.1 57) (E.2 57) k' = some β ∧ (β = true → D.1 1 4 = 1) := by
  subst hp
  obtain ⟨p, r, h1, h2, h3, e3, e5, e10, t⟩ := t
  have no : D.1 1 4 ≠ 1 → E.1 57 9 ≠ 2 → ∃ β : Bool, f_X9_spells (D.1 1) (D.1 2) k = some β ∧ f_X13_isWord (E.1 57) (E.2 57) (qp_pr k) = some β ∧ (β = true → D.1 1 4 = 1) := by
    intro a b
    refine ⟨false, ?_, ?_, fun z => by cases z⟩
    · unfold f_X9_spells; rw [if_neg a]
    · unfold f_X13_isWord; rw [if_neg b]
  rcases t with ⟨t4, t9, -⟩ | ⟨t4, t9, e8, n8, lt, t6, t14⟩ | ⟨t4, t9, -⟩ | ⟨t4, t9, -⟩ | ⟨t4, t9, -⟩ | ⟨t4, t9⟩
  · exact no (by rw [t4]; decide) (by rw [t9]; decide)
  · obtain ⟨len, l8⟩ := qp_len19 ⟨k, hk⟩
    dsimp only at len l8
    have ch : ∀ i, i < qp_len k → f_J0_charAt_5068e k (Int32.ofNat i) = some (Int32.ofNat (qp_c k i)) ∧ 97 ≤ qp_c k i ∧ qp_c k i ≤ 122 := fun i hi => qp_c19 ⟨k, hk⟩ ⟨i, by omega⟩ hi
    have pk := qp_pk19 ⟨k, hk⟩
    dsimp only at pk
    have bl : ∀ i, i < r - p → 97 ≤ (B (p + i)).toNatClampNeg ∧ (B (p + i)).toNatClampNeg ≤ 122 ∧ B (p + i) = Int32.ofNat (B (p + i)).toNatClampNeg := fun i hi => ((q_byt (hb (p + i))).2.2.2.2.2.2.1 (lt _ (by omega) (by omega))).2
    have K : (lg_cmp (q_lwd B p (r - p)) (Int64.ofNat (q_pk (fun i => qp_c k i - 96) (qp_len k))) = 0) ↔ (r - p = qp_len k ∧ ∀ i, i < qp_len k → (B (p + i)).toNatClampNeg - 96 = qp_c k i - 96) := by
      rw [qp_cmp]
      unfold q_lwd
      rw [q_64inj (qp_pkb n8 (fun i hi => by have := bl i hi; omega)) (qp_pkb l8 (fun i hi => by have := ch i hi; omega)), q_pk_inj _ _ (fun i hi => by have := bl i hi; omega) (fun i hi => by have := ch i hi; omega)]
    have im : ∀ β : Bool, (β = true ↔ (r - p = qp_len k ∧ ∀ i, i < qp_len k → (B (p + i)).toNatClampNeg - 96 = qp_c k i - 96)) → f_X13_isWord (E.1 57) (E.2 57) (qp_pr k) = some β := by
      intro β hβ
      unfold f_X13_isWord
      rw [if_pos t9, pk, Option.bind_some, t14]
      cases β
      · rw [if_neg (fun z => by have := hβ.mpr (K.mp z); cases this)]
      · rw [if_pos (K.mpr (hβ.mp rfl))]
    by_cases c : r - p = qp_len k
    · obtain ⟨m, m1, m2, m3, m4⟩ := q_stop (fun i => B (p + i) = Int32.ofNat (qp_c k i)) 0 (qp_len k) (Nat.zero_le _)
      have step : ∀ i, i < m → f_X9_spells_w28 (D.1 1) (D.1 2) k (Int32.ofNat i) = some (.inl (Int32.ofNat (i + 1))) := by
        intro i hi
        unfold f_X9_spells_w28
        rw [len, if_neg (q_go (by omega) (by omega)), (ch i (by omega)).1, Option.bind_some, e5, ← Int32.ofNat_add, hB, q_bC (by omega), if_pos (m3 i (Nat.zero_le _) hi), q_s]
      by_cases mm : m = qp_len k
      · have last : f_X9_spells_w28 (D.1 1) (D.1 2) k (Int32.ofNat m) = some (.inr (.inr ())) := by
          unfold f_X9_spells_w28
          rw [len, mm, if_pos (q_end (by omega))]
        refine ⟨true, ?_, im true ⟨fun _ => ⟨c, fun i hi => by rw [m3 i (Nat.zero_le _) (by omega), q_n (by have := ch i hi; omega)]⟩, fun _ => rfl⟩, fun _ => t4⟩
        unfold f_X9_spells
        rw [if_pos t4, e3, e5, q_sub h2, len, if_pos (by rw [c]), show (0 : Int32) = Int32.ofNat 0 from rfl, q_run (fun i => Int32.ofNat i) m (by omega) step last]
        rfl
      · have ne : ¬ (B (p + m) = Int32.ofNat (qp_c k m)) := by
          rcases m4 with z | z
          · exact absurd z mm
          · exact z
        have last : f_X9_spells_w28 (D.1 1) (D.1 2) k (Int32.ofNat m) = some (.inr (.inl false)) := by
          unfold f_X9_spells_w28
          rw [len, if_neg (q_go (by omega) (by omega)), (ch m (by omega)).1, Option.bind_some, e5, ← Int32.ofNat_add, hB, q_bC (by omega), if_neg ne]
        refine ⟨false, ?_, im false ⟨fun z => by (cases z), fun z => absurd ?_ ne⟩, fun z => by cases z⟩
        · unfold f_X9_spells
          rw [if_pos t4, e3, e5, q_sub h2, len, if_pos (by rw [c]), show (0 : Int32) = Int32.ofNat 0 from rfl, q_run (fun i => Int32.ofNat i) m (by omega) step last]
          rfl
        · have z2 := z.2 m (by omega)
          have b2 := bl m (by omega)
          have c2 := ch m (by omega)
          rw [b2.2.2]
          congr 1
          omega
    · refine ⟨false, ?_, im false ⟨fun z => by (cases z), fun z => absurd z.1 c⟩, fun z => by cases z⟩
      unfold f_X9_spells
      rw [if_pos t4, e3, e5, q_sub h2, len, if_neg (fun z => c ((q_eq (by omega) (by omega)).mp z))]
  · exact no (by rw [t4]; decide) (by rw [t9]; decide)
  · exact no (by rw [t4]; decide) (by rw [t9]; decide)
  · exact no (by rw [t4]; decide) (by rw [t9]; decide)
  · exact no (by rw [t4]; decide) (by rw [t9]; decide)
theorem qp_bs {α : Type} (x : Option α) : (x.bind fun q => some q) = x := by cases x <;> rfl
/-- which line a word begins, on both sides -/
theorem qp_line (hb : ∀ i, q_isb (B i)) (hN : N ≤ 900) (hB : D.1 2 = B) (t : qp_T B N lo D E) : ∃ l : Int32, f_X6_lineOf (D.1 1) (D.1 2) = some l ∧ f_X13_isName (E.1 57) (E.2 57) = some (decide (E.1 57 9 = 2) && decide (l = -1)) ∧ (l ≠ -1 → D.1 1 4 = 1) ∧ ((l = -1 ∧ ∀ u, f_X13_readLine u E = some (f_X13_flaw E 1)) ∨ (l = 0 ∧ ∀ u, f_X13_readLine u E = f_X13_readLand u E) ∨ (l = 1 ∧ ∀ u, f_X13_readLine u E = f_X13_readPerson u E) ∨ (l = 2 ∧ ∀ u, f_X13_readLine u E = f_X13_readFirm u E) ∨ (l = 3 ∧ ∀ u, f_X13_readLine u E = f_X13_readGate u E) ∨ (l = 4 ∧ ∀ u, f_X13_readLine u E = f_X13_readPath u E) ∨ (l = 5 ∧ ∀ u, f_X13_readLine u E = f_X13_readWants u E 0) ∨ (l = 6 ∧ ∀ u, f_X13_readLine u E = f_X13_readWants u E 1) ∨ (l = 7 ∧ ∀ u, f_X13_readLine u E = f_X13_readLost u E) ∨ (l = 8 ∧ ∀ u, f_X13_readLine u E = f_X13_readHad u E)) := by
  obtain ⟨w0, a0, b0, c0⟩ := qp_word hb hN hB t (k := 0) (k' := 19) (by decide) rfl
  obtain ⟨w1, a1, b1, c1⟩ := qp_word hb hN hB t (k := 1) (k' := 22) (by decide) rfl
  obtain ⟨w2, a2, b2, c2⟩ := qp_word hb hN hB t (k := 2) (k' := 23) (by decide) rfl
  obtain ⟨w3, a3, b3, c3⟩ := qp_word hb hN hB t (k := 3) (k' := 24) (by decide) rfl
  obtain ⟨w4, a4, b4, c4⟩ := qp_word hb hN hB t (k := 4) (k' := 25) (by decide) rfl
  obtain ⟨w5, a5, b5, c5⟩ := qp_word hb hN hB t (k := 5) (k' := 26) (by decide) rfl
  obtain ⟨w6, a6, b6, c6⟩ := qp_word hb hN hB t (k := 6) (k' := 27) (by decide) rfl
  obtain ⟨w7, a7, b7, c7⟩ := qp_word hb hN hB t (k := 7) (k' := 28) (by decide) rfl
  obtain ⟨w8, a8, b8, c8⟩ := qp_word hb hN hB t (k := 8) (k' := 29) (by decide) rfl
  have e9 : D.1 1 4 = 1 → E.1 57 9 = 2 := by
    intro z
    obtain ⟨p, r, h1, h2, h3, e3, e5, e10, t⟩ := t
    rcases t with ⟨t4, t9, -⟩ | ⟨t4, t9, -⟩ | ⟨t4, t9, -⟩ | ⟨t4, t9, -⟩ | ⟨t4, t9, -⟩ | ⟨t4, t9⟩
    · rw [t4] at z; exact absurd z (by decide)
    · exact t9
    · rw [t4] at z; exact absurd z (by decide)
    · rw [t4] at z; exact absurd z (by decide)
    · rw [t4] at z; exact absurd z (by decide)
    · rw [t4] at z; exact absurd z (by decide)
  have nm : ∀ l : Int32, (l ≠ -1 → D.1 1 4 = 1) → (E.1 57 9 = 2 → f_X13_isName (E.1 57) (E.2 57) = some (decide (l = -1))) → f_X13_isName (E.1 57) (E.2 57) = some (decide (E.1 57 9 = 2) && decide (l = -1)) := by
    intro l h1 h2
    by_cases z : E.1 57 9 = 2
    · rw [h2 z, decide_eq_true z, Bool.true_and]
    · rw [decide_eq_false z, Bool.false_and]
      unfold f_X13_isName
      rw [if_neg z]
  have F : ∀ l : Int32, f_X6_lineOf (D.1 1) (D.1 2) = some l → (l ≠ -1 → D.1 1 4 = 1) → (E.1 57 9 = 2 → f_X13_isName (E.1 57) (E.2 57) = some (decide (l = -1))) → f_X6_lineOf (D.1 1) (D.1 2) = some l ∧ f_X13_isName (E.1 57) (E.2 57) = some (decide (E.1 57 9 = 2) && decide (l = -1)) ∧ (l ≠ -1 → D.1 1 4 = 1) := fun l h1 h2 h3 => ⟨h1, nm l h2 h3, h2⟩
  have G : ∀ (l : Int32) (P : Prop), (f_X6_lineOf (D.1 1) (D.1 2) = some l ∧ f_X13_isName (E.1 57) (E.2 57) = some (decide (E.1 57 9 = 2) && decide (l = -1)) ∧ (l ≠ -1 → D.1 1 4 = 1)) → P → f_X6_lineOf (D.1 1) (D.1 2) = some l ∧ f_X13_isName (E.1 57) (E.2 57) = some (decide (E.1 57 9 = 2) && decide (l = -1)) ∧ (l ≠ -1 → D.1 1 4 = 1) ∧ P := fun l P h p => ⟨h.1, h.2.1, h.2.2, p⟩
  cases w0
  case true =>
    refine ⟨0, G 0 _ (F 0 ?_ (fun _ => c0 rfl) (fun z => ?_)) (Or.inr (Or.inl ⟨rfl, fun u => ?_⟩))⟩
    · unfold f_X6_lineOf; rw [a0]; rfl
    · unfold f_X13_isName; rw [if_pos z, b0]; rfl
    · unfold f_X13_readLine; rw [b0]; exact qp_bs _
  case false =>
    cases w1
    case true =>
      refine ⟨1, G 1 _ (F 1 ?_ (fun _ => c1 rfl) (fun z => ?_)) (Or.inr (Or.inr (Or.inl ⟨rfl, fun u => ?_⟩)))⟩
      · unfold f_X6_lineOf; rw [a0, a1]; rfl
      · unfold f_X13_isName; rw [if_pos z, b0, b1]; rfl
      · unfold f_X13_readLine; rw [b0, b1]; exact qp_bs _
    case false =>
      cases w2
      case true =>
        refine ⟨2, G 2 _ (F 2 ?_ (fun _ => c2 rfl) (fun z => ?_)) (Or.inr (Or.inr (Or.inr (Or.inl ⟨rfl, fun u => ?_⟩))))⟩
        · unfold f_X6_lineOf; rw [a0, a1, a2]; rfl
        · unfold f_X13_isName; rw [if_pos z, b0, b1, b2]; rfl
        · unfold f_X13_readLine; rw [b0, b1, b2]; exact qp_bs _
      case false =>
        cases w3
        case true =>
          refine ⟨3, G 3 _ (F 3 ?_ (fun _ => c3 rfl) (fun z => ?_)) (Or.inr (Or.inr (Or.inr (Or.inr (Or.inl ⟨rfl, fun u => ?_⟩)))))⟩
          · unfold f_X6_lineOf; rw [a0, a1, a2, a3]; rfl
          · unfold f_X13_isName; rw [if_pos z, b0, b1, b2, b3]; rfl
          · unfold f_X13_readLine; rw [b0, b1, b2, b3]; exact qp_bs _
        case false =>
          cases w4
          case true =>
            refine ⟨4, G 4 _ (F 4 ?_ (fun _ => c4 rfl) (fun z => ?_)) (Or.inr (Or.inr (Or.inr (Or.inr (Or.inr (Or.inl ⟨rfl, fun u => ?_⟩))))))⟩
            · unfold f_X6_lineOf; rw [a0, a1, a2, a3, a4]; rfl
            · unfold f_X13_isName; rw [if_pos z, b0, b1, b2, b3, b4]; rfl
            · unfold f_X13_readLine; rw [b0, b1, b2, b3, b4]; exact qp_bs _
          case false =>
            cases w5
            case true =>
              refine ⟨5, G 5 _ (F 5 ?_ (fun _ => c5 rfl) (fun z => ?_)) (Or.inr (Or.inr (Or.inr (Or.inr (Or.inr (Or.inr (Or.inl ⟨rfl, fun u => ?_⟩)))))))⟩
              · unfold f_X6_lineOf; rw [a0, a1, a2, a3, a4, a5]; rfl
              · unfold f_X13_isName; rw [if_pos z, b0, b1, b2, b3, b4, b5]; rfl
              · unfold f_X13_readLine; rw [b0, b1, b2, b3, b4, b5]; exact qp_bs _
            case false =>
              cases w6
              case true =>
                refine ⟨6, G 6 _ (F 6 ?_ (fun _ => c6 rfl) (fun z => ?_)) (Or.inr (Or.inr (Or.inr (Or.inr (Or.inr (Or.inr (Or.inr (Or.inl ⟨rfl, fun u => ?_⟩))))))))⟩
                · unfold f_X6_lineOf; rw [a0, a1, a2, a3, a4, a5, a6]; rfl
                · unfold f_X13_isName; rw [if_pos z, b0, b1, b2, b3, b4, b5, b6]; rfl
                · unfold f_X13_readLine; rw [b0, b1, b2, b3, b4, b5, b6]; exact qp_bs _
              case false =>
                cases w7
                case true =>
                  refine ⟨7, G 7 _ (F 7 ?_ (fun _ => c7 rfl) (fun z => ?_)) (Or.inr (Or.inr (Or.inr (Or.inr (Or.inr (Or.inr (Or.inr (Or.inr (Or.inl ⟨rfl, fun u => ?_⟩)))))))))⟩
                  · unfold f_X6_lineOf; rw [a0, a1, a2, a3, a4, a5, a6, a7]; rfl
                  · unfold f_X13_isName; rw [if_pos z, b0, b1, b2, b3, b4, b5, b6, b7]; rfl
                  · unfold f_X13_readLine; rw [b0, b1, b2, b3, b4, b5, b6, b7]; exact qp_bs _
                case false =>
                  cases w8
                  case true =>
                    refine ⟨8, G 8 _ (F 8 ?_ (fun _ => c8 rfl) (fun z => ?_)) (Or.inr (Or.inr (Or.inr (Or.inr (Or.inr (Or.inr (Or.inr (Or.inr (Or.inr ⟨rfl, fun u => ?_⟩)))))))))⟩
                    · unfold f_X6_lineOf; rw [a0, a1, a2, a3, a4, a5, a6, a7, a8]; rfl
                    · unfold f_X13_isName; rw [if_pos z, b0, b1, b2, b3, b4, b5, b6, b7, b8]; rfl
                    · unfold f_X13_readLine; rw [b0, b1, b2, b3, b4, b5, b6, b7, b8]; exact qp_bs _
                  case false =>
                    refine ⟨-1, G (-1) _ (F (-1) ?_ (fun z => absurd rfl z) (fun z => ?_)) (Or.inl ⟨rfl, fun u => ?_⟩)⟩
                    · unfold f_X6_lineOf; rw [a0, a1, a2, a3, a4, a5, a6, a7, a8]; rfl
                    · unfold f_X13_isName; rw [if_pos z, b0, b1, b2, b3, b4, b5, b6, b7, b8]; rfl
                    · unfold f_X13_readLine; rw [b0, b1, b2, b3, b4, b5, b6, b7, b8]; rfl
end QW
