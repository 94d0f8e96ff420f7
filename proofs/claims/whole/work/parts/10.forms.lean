/-! loops and calls in the form of the program's texts -/
section JF
variable {mi : JMI} {mc ms kc ks kc' ks' : Nat} {h : JH} {g : JG} {d : JD} {pc : Nat} {loc : List (Nat × Value)} {st0 stk : List Value} {o : Option (Option Value × JH)}
theorem J_forL {S X : Type} (K : X → Option (Option Value × JH)) {f : S → X} {b : Int32} {G : Int32 → S → S} {hp : S → JH} {lc : Int32 → S → List (Nat × Value)} {XJ : Int32 → S → Option (Option Value × JH) → Prop}
    (step : ∀ (i : Int32) (s : S) (o1 : Option (Option Value × JH)) (Kb : S → Option (Option Value × JH)), (b ≤ i → XJ i s o1) → (¬ b ≤ i → ∀ s', J mi mc ms kc ks (hp s') pc (lc (i + 1) s') [] (Kb s')) → J mi mc ms kc ks (hp s) pc (lc i s) [] (if b ≤ i then o1 else Kb (G i s)))
    (hx : ∀ i s, XJ i s (K (f s))) (n : Nat) (i : Int32) (s : S) (hn : j_mu b i ≤ n) : J mi mc ms kc ks (hp s) pc (lc i s) [] (K (j_let (j_for b G n i s) f)) := J_for (K := fun s => K (f s)) step hx n i s hn
theorem J_foL {S R X : Type} (K : X → Option (Option Value × JH)) {fr : R → X} {fs : S → X} {b : Int32} {G : Int32 → S → R ⊕ S} {hp : S → JH} {lc : Int32 → S → List (Nat × Value)} {XJ : Int32 → S → Option (Option Value × JH) → Prop} {RJ : R → Option (Option Value × JH) → Prop}
    (step : ∀ (i : Int32) (s : S) (o1 : Option (Option Value × JH)) (Kb : R ⊕ S → Option (Option Value × JH)), (b ≤ i → XJ i s o1) → (∀ r, RJ r (Kb (.inl r))) → (¬ b ≤ i → ∀ s', J mi mc ms kc ks (hp s') pc (lc (i + 1) s') [] (Kb (.inr s'))) → J mi mc ms kc ks (hp s) pc (lc i s) [] (if b ≤ i then o1 else Kb (G i s)))
    (hx : ∀ i s, XJ i s (K (fs s))) (hr : ∀ r, RJ r (K (fr r))) (n : Nat) (i : Int32) (s : S) (hn : j_mu b i ≤ n) : J mi mc ms kc ks (hp s) pc (lc i s) [] (K (j_let (j_fo b G n i s) (Sum.elim fr fs))) := J_fo (K := fun x => K (Sum.elim fr fs x)) step hx hr n i s hn
theorem J_whL {S E X : Type} {F : S → Option (S ⊕ E)} {f : E → Option X} {k : X → Option (Option Value × JH)} {hp : S → JH} {lc : S → List (Nat × Value)} {XJ : E → Option (Option Value × JH) → Prop}
    (step : ∀ (s : S) (k : S ⊕ E → Option (Option Value × JH)), (∀ s', J mi mc ms kc ks (hp s') pc (lc s') [] (k (.inl s'))) → (∀ e, XJ e (k (.inr e))) → J mi mc ms kc ks (hp s) pc (lc s) [] ((F s).bind k))
    (hx : ∀ e, XJ e ((f e).bind k)) (n : Nat) (s : S) : J mi mc ms kc ks (hp s) pc (lc s) [] (((j_wh F n s).bind f).bind k) := J_assoc (J_wh (K := fun e => (f e).bind k) step hx n s)
theorem J_whR {S E R X : Type} {F : S → Option (S ⊕ (R ⊕ E))} {fr : R → Option X} {f : E → Option X} {k : X → Option (Option Value × JH)} {hp : S → JH} {lc : S → List (Nat × Value)} {XJ : E → Option (Option Value × JH) → Prop} {RJ : R → Option (Option Value × JH) → Prop}
    (step : ∀ (s : S) (k : S ⊕ (R ⊕ E) → Option (Option Value × JH)), (∀ s', J mi mc ms kc ks (hp s') pc (lc s') [] (k (.inl s'))) → (∀ r, RJ r (k (.inr (.inl r)))) → (∀ e, XJ e (k (.inr (.inr e)))) → J mi mc ms kc ks (hp s) pc (lc s) [] ((F s).bind k))
    (hx : ∀ e, XJ e ((f e).bind k)) (hr : ∀ r, RJ r ((fr r).bind k)) (n : Nat) (s : S) : J mi mc ms kc ks (hp s) pc (lc s) [] (((j_wh F n s).bind (Sum.elim fr f)).bind k) :=
  J_assoc (J_wh (XJ := fun e o => match e with
    | .inl r => RJ r o
    | .inr e => XJ e o) (K := fun e => (Sum.elim fr f e).bind k) (fun s k hb hx => step s k hb (fun r => hx (.inl r)) (fun e => hx (.inr e))) (fun e => match e with
    | .inl r => hr r
    | .inr e => hx e) n s)
/-- calls: what comes back, and the ints and longs behind it -/
theorem JC_pure {v : Option Value} (c : JC mi mc ms kc ks kc' ks' (g, d) pc loc st0 stk (some (v, (g, d)))) (kk : J mi mc ms kc' ks' (g, d) (pc + 3) loc (v.toList ++ stk) o) : J mi mc ms kc ks (g, d) pc loc st0 o := JC_t rfl c kk
theorem JC_let {A X : Type} (K : X → Option (Option Value × JH)) {x : A} {F : A → X} (v : A → Option Value) (d' : A → JD) (c : JC mi mc ms kc ks kc' ks' (g, d) pc loc st0 stk (some (v x, (g, d' x)))) (kk : ∀ q, q = x → J mi mc ms kc' ks' (g, d' q) (pc + 3) loc ((v q).toList ++ stk) (K (F q))) : J mi mc ms kc ks (g, d) pc loc st0 (K (j_let x F)) := JC_t rfl c (kk x rfl)
theorem JC_par {A X : Type} {x : Option A} {kx : A → Option X} {k : X → Option (Option Value × JH)} (v : A → Option Value) (d' : A → JD) (c : JC mi mc ms kc ks kc' ks' (g, d) pc loc st0 stk (x.bind (fun a => some (v a, (g, d' a))))) (kk : ∀ a, J mi mc ms kc' ks' (g, d' a) (pc + 3) loc ((v a).toList ++ stk) ((kx a).bind k)) : J mi mc ms kc ks (g, d) pc loc st0 ((x.bind kx).bind k) :=
  JC_p (f := fun a => (v a, (g, d' a))) (fun _ => rfl) c kk
end JF
