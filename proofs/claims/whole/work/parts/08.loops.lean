/-! loops, splits, names for values -/
def j_fuel : Nat := 10000000000000000000
/-- a loop: F is one turn of it, .inl goes on, .inr leaves -/
def j_wh {S E : Type} (F : S → Option (S ⊕ E)) : Nat → S → Option E
  | 0, _ => none
  | n + 1, s => (F s).bind (fun x => match x with
    | .inl s' => j_wh F n s'
    | .inr e => some e)
/-- a counted loop: i goes up to b, G is one turn -/
def j_for {S : Type} (b : Int32) (G : Int32 → S → S) : Nat → Int32 → S → S
  | 0, _, s => s
  | n + 1, i, s => if b ≤ i then s else j_for b G n (i + 1) (G i s)
/-- a counted loop that may return -/
def j_fo {S R : Type} (b : Int32) (G : Int32 → S → R ⊕ S) : Nat → Int32 → S → R ⊕ S
  | 0, _, s => .inr s
  | n + 1, i, s => if b ≤ i then .inr s else match G i s with
    | .inl r => .inl r
    | .inr s' => j_fo b G n (i + 1) s'
def j_mu (b i : Int32) : Nat := (b.toInt - i.toInt).toNat
def j_let {A B : Type} (x : A) (f : A → B) : B := f x
theorem j_mu_le {b i : Int32} (h : j_mu b i = 0) : b ≤ i := by
  rw [Int32.le_iff_toInt_le]
  unfold j_mu at h
  omega
theorem j_mu_s {b i : Int32} (h : ¬ b ≤ i) : j_mu b (i + 1) + 1 = j_mu b i := by
  rw [Int32.le_iff_toInt_le] at h
  have h1 := Int32.toInt_lt b
  have h2 := Int32.le_toInt i
  have h3 : (i + 1).toInt = i.toInt + 1 := by
    have e1 : (1 : Int32).toInt = 1 := by decide
    rw [Jvm.Kit.i32_add (by rw [e1]; omega) (by rw [e1]; omega), e1]
  unfold j_mu
  rw [h3]
  omega
section JL
variable {mi : JMI} {mc ms kc ks : Nat} {h : JH} {pc : Nat} {loc : List (Nat × Value)} {stk : List Value} {o : Option (Option Value × JH)}
theorem J_wh {S E : Type} {F : S → Option (S ⊕ E)} {hp : S → JH} {lc : S → List (Nat × Value)} {XJ : E → Option (Option Value × JH) → Prop} {K : E → Option (Option Value × JH)}
    (step : ∀ (s : S) (k : S ⊕ E → Option (Option Value × JH)), (∀ s', J mi mc ms kc ks (hp s') pc (lc s') [] (k (.inl s'))) → (∀ e, XJ e (k (.inr e))) → J mi mc ms kc ks (hp s) pc (lc s) [] ((F s).bind k))
    (hx : ∀ e, XJ e (K e)) : ∀ (n : Nat) (s : S), J mi mc ms kc ks (hp s) pc (lc s) [] ((j_wh F n s).bind K)
  | 0, s => J_none
  | n + 1, s => by
    have e : (j_wh F (n + 1) s).bind K = (F s).bind (fun x => match x with
        | .inl s' => (j_wh F n s').bind K
        | .inr e => K e) := by
      rw [j_wh]
      cases F s with
      | none => rfl
      | some x => cases x <;> rfl
    rw [e]
    exact step s _ (fun s' => J_wh step hx n s') hx
theorem J_for {S : Type} {b : Int32} {G : Int32 → S → S} {hp : S → JH} {lc : Int32 → S → List (Nat × Value)} {XJ : Int32 → S → Option (Option Value × JH) → Prop} {K : S → Option (Option Value × JH)}
    (step : ∀ (i : Int32) (s : S) (o1 : Option (Option Value × JH)) (Kb : S → Option (Option Value × JH)), (b ≤ i → XJ i s o1) → (¬ b ≤ i → ∀ s', J mi mc ms kc ks (hp s') pc (lc (i + 1) s') [] (Kb s')) → J mi mc ms kc ks (hp s) pc (lc i s) [] (if b ≤ i then o1 else Kb (G i s)))
    (hx : ∀ i s, XJ i s (K s)) : ∀ (n : Nat) (i : Int32) (s : S), j_mu b i ≤ n → J mi mc ms kc ks (hp s) pc (lc i s) [] (K (j_for b G n i s))
  | 0, i, s, hn => by
    have hb : b ≤ i := j_mu_le (Nat.le_zero.mp hn)
    have H := step i s (K s) (fun _ => none) (fun _ => hx i s) (fun z => absurd hb z)
    rw [if_pos hb] at H
    exact H
  | n + 1, i, s, hn => by
    have e : K (j_for b G (n + 1) i s) = if b ≤ i then K s else (fun s' => K (j_for b G n (i + 1) s')) (G i s) := by
      rw [j_for]
      by_cases hb : b ≤ i
      · rw [if_pos hb, if_pos hb]
      · rw [if_neg hb, if_neg hb]
    rw [e]
    exact step i s (K s) _ (fun _ => hx i s) (fun z s' => J_for step hx n (i + 1) s' (by have := j_mu_s z; omega))
theorem J_fo {S R : Type} {b : Int32} {G : Int32 → S → R ⊕ S} {hp : S → JH} {lc : Int32 → S → List (Nat × Value)} {XJ : Int32 → S → Option (Option Value × JH) → Prop} {RJ : R → Option (Option Value × JH) → Prop} {K : R ⊕ S → Option (Option Value × JH)}
    (step : ∀ (i : Int32) (s : S) (o1 : Option (Option Value × JH)) (Kb : R ⊕ S → Option (Option Value × JH)), (b ≤ i → XJ i s o1) → (∀ r, RJ r (Kb (.inl r))) → (¬ b ≤ i → ∀ s', J mi mc ms kc ks (hp s') pc (lc (i + 1) s') [] (Kb (.inr s'))) → J mi mc ms kc ks (hp s) pc (lc i s) [] (if b ≤ i then o1 else Kb (G i s)))
    (hx : ∀ i s, XJ i s (K (.inr s))) (hr : ∀ r, RJ r (K (.inl r))) : ∀ (n : Nat) (i : Int32) (s : S), j_mu b i ≤ n → J mi mc ms kc ks (hp s) pc (lc i s) [] (K (j_fo b G n i s))
  | 0, i, s, hn => by
    have hb : b ≤ i := j_mu_le (Nat.le_zero.mp hn)
    have H := step i s (K (.inr s)) (fun x => match x with
      | .inl r => K (.inl r)
      | .inr _ => none) (fun _ => hx i s) (fun r => hr r) (fun z => absurd hb z)
    rw [if_pos hb] at H
    exact H
  | n + 1, i, s, hn => by
    have e : K (j_fo b G (n + 1) i s) = if b ≤ i then K (.inr s) else (fun x => match x with
        | .inl r => K (.inl r)
        | .inr s' => K (j_fo b G n (i + 1) s')) (G i s) := by
      rw [j_fo]
      by_cases hb : b ≤ i
      · rw [if_pos hb, if_pos hb]
      · rw [if_neg hb, if_neg hb]
        cases G i s <;> rfl
    rw [e]
    exact step i s (K (.inr s)) (fun x => match x with
      | .inl r => K (.inl r)
      | .inr s' => K (j_fo b G n (i + 1) s')) (fun _ => hx i s) (fun r => hr r) (fun z s' => J_fo step hx hr n (i + 1) s' (by have := j_mu_s z; omega))
theorem J_split {X : Type} (K : X → Option (Option Value × JH)) {c : Prop} [Decidable c] {x1 x2 : X} (k1 : c → J mi mc ms kc ks h pc loc stk (K x1)) (k2 : ¬ c → J mi mc ms kc ks h pc loc stk (K x2)) : J mi mc ms kc ks h pc loc stk (K (if c then x1 else x2)) := by
  by_cases z : c
  · rw [if_pos z]; exact k1 z
  · rw [if_neg z]; exact k2 z
theorem J_let {A X : Type} (K : X → Option (Option Value × JH)) {x : A} {f : A → X} (k : ∀ v, v = x → J mi mc ms kc ks h pc loc stk (K (f v))) : J mi mc ms kc ks h pc loc stk (K (j_let x f)) := k x rfl
theorem J_assoc {A B : Type} {x : Option A} {f : A → Option B} {k : B → Option (Option Value × JH)} (H : J mi mc ms kc ks h pc loc stk (x.bind (fun a => (f a).bind k))) : J mi mc ms kc ks h pc loc stk ((x.bind f).bind k) := by
  rw [Option.bind_assoc]; exact H
/-- an index is looked at -/
abbrev j_out (i : Int32) (n : Nat) : Prop := i < 0 ∨ n ≤ i.toNatClampNeg
theorem J_guard {X : Type} {i : Int32} {n : Nat} {x : Option X} {k : X → Option (Option Value × JH)} (H : vp_in i n → J mi mc ms kc ks h pc loc stk (x.bind k)) : J mi mc ms kc ks h pc loc stk ((if j_out i n then none else x).bind k) := by
  by_cases z : j_out i n
  · rw [if_pos z]; exact J_none
  · rw [if_neg z]; exact H z
theorem J_nz {X A : Type} [DecidableEq A] {y z0 : A} {x : Option X} {k : X → Option (Option Value × JH)} (H : ¬ y = z0 → J mi mc ms kc ks h pc loc stk (x.bind k)) : J mi mc ms kc ks h pc loc stk ((if y = z0 then none else x).bind k) := by
  by_cases z : y = z0
  · rw [if_pos z]; exact J_none
  · rw [if_neg z]; exact H z
theorem J_val {x y : Int32} (e : x = y) (H : J mi mc ms kc ks h pc loc (.int y :: stk) o) : J mi mc ms kc ks h pc loc (.int x :: stk) o := by rw [e]; exact H
theorem J_valL {x y : Int64} (e : x = y) (H : J mi mc ms kc ks h pc loc (.long y :: stk) o) : J mi mc ms kc ks h pc loc (.long x :: stk) o := by rw [e]; exact H
theorem J_heap {h1 : JH} (e : h = h1) (H : J mi mc ms kc ks h1 pc loc stk o) : J mi mc ms kc ks h pc loc stk o := by rw [e]; exact H
end JL
section JCW
variable {mi : JMI} {mc ms kc ks kc' ks' : Nat} {h : JH} {pc : Nat} {loc : List (Nat × Value)} {st0 stk : List Value} {o : Option (Option Value × JH)}
/-- a call that surely ends, and leaves the kinds of cells as they are -/
theorem JC_t {v : Option Value} {g' : JG} {d' : JD} (hg : g' = h.1) (c : JC mi mc ms kc ks kc' ks' h pc loc st0 stk (some (v, (g', d')))) (kk : J mi mc ms kc' ks' (g', d') (pc + 3) loc (v.toList ++ stk) o) : J mi mc ms kc ks h pc loc st0 o := by
  have H := c (fun _ => o) (fun r hr => by cases hr; exact ⟨by rw [hg], Or.inl (by rw [hg])⟩) (fun r hr => by cases hr; exact kk)
  exact H
theorem JC_p {A X : Type} {x : Option A} {f : A → Option Value × JH} {kx : A → Option X} {k : X → Option (Option Value × JH)} (hg : ∀ a, (f a).2.1 = h.1) (c : JC mi mc ms kc ks kc' ks' h pc loc st0 stk (x.bind (fun a => some (f a)))) (kk : ∀ a, J mi mc ms kc' ks' (f a).2 (pc + 3) loc ((f a).1.toList ++ stk) ((kx a).bind k)) : J mi mc ms kc ks h pc loc st0 ((x.bind kx).bind k) := by
  cases x with
  | none => exact J_none
  | some a =>
    have H := c (fun _ => (kx a).bind k) (fun r hr => by cases hr; exact ⟨by rw [hg], Or.inl (by rw [hg])⟩) (fun r hr => by cases hr; exact kk a)
    exact H
end JCW
