def j_b (b : Bool) : Int32 := if b = true then 1 else 0
theorem j_b_t : j_b true = 1 := rfl
theorem j_b_f : j_b false = 0 := rfl
theorem j_b_0 {b : Bool} : j_b b = 0 ↔ b = false := by cases b <;> decide
theorem j_b_1 {b : Bool} : ¬ j_b b = 0 ↔ b = true := by cases b <;> decide
theorem j_inb {i : Int32} {n : Nat} (hn : n < 2 ^ 31) (h1 : ¬ i < 0) (h2 : ¬ Int32.ofNat n ≤ i) : vp_in i n := by
  rw [vp_in_iff]
  rw [Int32.lt_iff_toInt_lt, Int32.toInt_zero] at h1
  rw [Int32.le_iff_toInt_le] at h2
  have e : (Int32.ofNat n).toInt = (n : Int) := nI_toInt hn
  rw [e] at h2
  omega
theorem j_ne_toInt {x c : Int32} {n : Int} (hc : c.toInt = n) (h : ¬ x = c) : x.toInt ≠ n := fun e => h (Int32.toInt_inj.mp (e.trans hc.symm))
section JB
variable {mi : JMI} {mc ms kc ks : Nat} {h : JH} {pc : Nat} {loc : List (Nat × Value)} {stk : List Value}
theorem K_if_eq {X : Type} (K : X → Option (Option Value × JH)) {x : Int32} {x1 x2 : X} {off : Int} {tgt : Nat} (hd : decode mi.2.1 pc = .ok (.ifCond .eq off, 3)) (ht : (pc : Int) + off = (tgt : Int)) (k1 : x = 0 → J mi mc ms kc ks h tgt loc stk (K x1)) (k2 : ¬ (x = 0) → J mi mc ms kc ks h (pc + 3) loc stk (K x2)) : J mi mc ms kc ks h pc loc (.int x :: stk) (K (if x = 0 then x1 else x2)) := by
  rw [apply_ite K]
  exact J_if_eq hd ht k1 k2
theorem K_icmp_eq {X : Type} (K : X → Option (Option Value × JH)) {x y : Int32} {x1 x2 : X} {off : Int} {tgt : Nat} (hd : decode mi.2.1 pc = .ok (.if_icmp .eq off, 3)) (ht : (pc : Int) + off = (tgt : Int)) (k1 : x = y → J mi mc ms kc ks h tgt loc stk (K x1)) (k2 : ¬ (x = y) → J mi mc ms kc ks h (pc + 3) loc stk (K x2)) : J mi mc ms kc ks h pc loc (.int y :: .int x :: stk) (K (if x = y then x1 else x2)) := by
  rw [apply_ite K]
  exact J_icmp_eq hd ht k1 k2
theorem K_if_ne {X : Type} (K : X → Option (Option Value × JH)) {x : Int32} {x1 x2 : X} {off : Int} {tgt : Nat} (hd : decode mi.2.1 pc = .ok (.ifCond .ne off, 3)) (ht : (pc : Int) + off = (tgt : Int)) (k1 : ¬ (x = 0) → J mi mc ms kc ks h tgt loc stk (K x1)) (k2 : x = 0 → J mi mc ms kc ks h (pc + 3) loc stk (K x2)) : J mi mc ms kc ks h pc loc (.int x :: stk) (K (if x = 0 then x2 else x1)) := by
  rw [apply_ite K]
  exact J_if_ne hd ht k1 k2
theorem K_icmp_ne {X : Type} (K : X → Option (Option Value × JH)) {x y : Int32} {x1 x2 : X} {off : Int} {tgt : Nat} (hd : decode mi.2.1 pc = .ok (.if_icmp .ne off, 3)) (ht : (pc : Int) + off = (tgt : Int)) (k1 : ¬ (x = y) → J mi mc ms kc ks h tgt loc stk (K x1)) (k2 : x = y → J mi mc ms kc ks h (pc + 3) loc stk (K x2)) : J mi mc ms kc ks h pc loc (.int y :: .int x :: stk) (K (if x = y then x2 else x1)) := by
  rw [apply_ite K]
  exact J_icmp_ne hd ht k1 k2
theorem K_if_lt {X : Type} (K : X → Option (Option Value × JH)) {x : Int32} {x1 x2 : X} {off : Int} {tgt : Nat} (hd : decode mi.2.1 pc = .ok (.ifCond .lt off, 3)) (ht : (pc : Int) + off = (tgt : Int)) (k1 : x < 0 → J mi mc ms kc ks h tgt loc stk (K x1)) (k2 : ¬ (x < 0) → J mi mc ms kc ks h (pc + 3) loc stk (K x2)) : J mi mc ms kc ks h pc loc (.int x :: stk) (K (if x < 0 then x1 else x2)) := by
  rw [apply_ite K]
  exact J_if_lt hd ht k1 k2
theorem K_icmp_lt {X : Type} (K : X → Option (Option Value × JH)) {x y : Int32} {x1 x2 : X} {off : Int} {tgt : Nat} (hd : decode mi.2.1 pc = .ok (.if_icmp .lt off, 3)) (ht : (pc : Int) + off = (tgt : Int)) (k1 : x < y → J mi mc ms kc ks h tgt loc stk (K x1)) (k2 : ¬ (x < y) → J mi mc ms kc ks h (pc + 3) loc stk (K x2)) : J mi mc ms kc ks h pc loc (.int y :: .int x :: stk) (K (if x < y then x1 else x2)) := by
  rw [apply_ite K]
  exact J_icmp_lt hd ht k1 k2
theorem K_if_ge {X : Type} (K : X → Option (Option Value × JH)) {x : Int32} {x1 x2 : X} {off : Int} {tgt : Nat} (hd : decode mi.2.1 pc = .ok (.ifCond .ge off, 3)) (ht : (pc : Int) + off = (tgt : Int)) (k1 : 0 ≤ x → J mi mc ms kc ks h tgt loc stk (K x1)) (k2 : ¬ (0 ≤ x) → J mi mc ms kc ks h (pc + 3) loc stk (K x2)) : J mi mc ms kc ks h pc loc (.int x :: stk) (K (if 0 ≤ x then x1 else x2)) := by
  rw [apply_ite K]
  exact J_if_ge hd ht k1 k2
theorem K_icmp_ge {X : Type} (K : X → Option (Option Value × JH)) {x y : Int32} {x1 x2 : X} {off : Int} {tgt : Nat} (hd : decode mi.2.1 pc = .ok (.if_icmp .ge off, 3)) (ht : (pc : Int) + off = (tgt : Int)) (k1 : y ≤ x → J mi mc ms kc ks h tgt loc stk (K x1)) (k2 : ¬ (y ≤ x) → J mi mc ms kc ks h (pc + 3) loc stk (K x2)) : J mi mc ms kc ks h pc loc (.int y :: .int x :: stk) (K (if y ≤ x then x1 else x2)) := by
  rw [apply_ite K]
  exact J_icmp_ge hd ht k1 k2
theorem K_if_gt {X : Type} (K : X → Option (Option Value × JH)) {x : Int32} {x1 x2 : X} {off : Int} {tgt : Nat} (hd : decode mi.2.1 pc = .ok (.ifCond .gt off, 3)) (ht : (pc : Int) + off = (tgt : Int)) (k1 : 0 < x → J mi mc ms kc ks h tgt loc stk (K x1)) (k2 : ¬ (0 < x) → J mi mc ms kc ks h (pc + 3) loc stk (K x2)) : J mi mc ms kc ks h pc loc (.int x :: stk) (K (if 0 < x then x1 else x2)) := by
  rw [apply_ite K]
  exact J_if_gt hd ht k1 k2
theorem K_icmp_gt {X : Type} (K : X → Option (Option Value × JH)) {x y : Int32} {x1 x2 : X} {off : Int} {tgt : Nat} (hd : decode mi.2.1 pc = .ok (.if_icmp .gt off, 3)) (ht : (pc : Int) + off = (tgt : Int)) (k1 : y < x → J mi mc ms kc ks h tgt loc stk (K x1)) (k2 : ¬ (y < x) → J mi mc ms kc ks h (pc + 3) loc stk (K x2)) : J mi mc ms kc ks h pc loc (.int y :: .int x :: stk) (K (if y < x then x1 else x2)) := by
  rw [apply_ite K]
  exact J_icmp_gt hd ht k1 k2
theorem K_if_le {X : Type} (K : X → Option (Option Value × JH)) {x : Int32} {x1 x2 : X} {off : Int} {tgt : Nat} (hd : decode mi.2.1 pc = .ok (.ifCond .le off, 3)) (ht : (pc : Int) + off = (tgt : Int)) (k1 : x ≤ 0 → J mi mc ms kc ks h tgt loc stk (K x1)) (k2 : ¬ (x ≤ 0) → J mi mc ms kc ks h (pc + 3) loc stk (K x2)) : J mi mc ms kc ks h pc loc (.int x :: stk) (K (if x ≤ 0 then x1 else x2)) := by
  rw [apply_ite K]
  exact J_if_le hd ht k1 k2
theorem K_icmp_le {X : Type} (K : X → Option (Option Value × JH)) {x y : Int32} {x1 x2 : X} {off : Int} {tgt : Nat} (hd : decode mi.2.1 pc = .ok (.if_icmp .le off, 3)) (ht : (pc : Int) + off = (tgt : Int)) (k1 : x ≤ y → J mi mc ms kc ks h tgt loc stk (K x1)) (k2 : ¬ (x ≤ y) → J mi mc ms kc ks h (pc + 3) loc stk (K x2)) : J mi mc ms kc ks h pc loc (.int y :: .int x :: stk) (K (if x ≤ y then x1 else x2)) := by
  rw [apply_ite K]
  exact J_icmp_le hd ht k1 k2
theorem K_ifeq_b {X : Type} (K : X → Option (Option Value × JH)) {b : Bool} {x1 x2 : X} {off : Int} {tgt : Nat} (hd : decode mi.2.1 pc = .ok (.ifCond .eq off, 3)) (ht : (pc : Int) + off = (tgt : Int)) (k1 : b = false → J mi mc ms kc ks h tgt loc stk (K x1)) (k2 : b = true → J mi mc ms kc ks h (pc + 3) loc stk (K x2)) : J mi mc ms kc ks h pc loc (.int (j_b b) :: stk) (K (if b = true then x2 else x1)) := by
  cases b with
  | true => exact J_eqo (o1 := if j_b true = 0 then K x1 else K x2) rfl (J_if_eq hd ht (fun z => absurd z (by decide)) (fun _ => k2 rfl))
  | false => exact J_eqo (o1 := if j_b false = 0 then K x1 else K x2) rfl (J_if_eq hd ht (fun _ => k1 rfl) (fun z => absurd rfl z))
theorem K_ifne_b {X : Type} (K : X → Option (Option Value × JH)) {b : Bool} {x1 x2 : X} {off : Int} {tgt : Nat} (hd : decode mi.2.1 pc = .ok (.ifCond .ne off, 3)) (ht : (pc : Int) + off = (tgt : Int)) (k1 : b = true → J mi mc ms kc ks h tgt loc stk (K x1)) (k2 : b = false → J mi mc ms kc ks h (pc + 3) loc stk (K x2)) : J mi mc ms kc ks h pc loc (.int (j_b b) :: stk) (K (if b = true then x1 else x2)) := by
  cases b with
  | true => exact J_eqo (o1 := if j_b true = 0 then K x2 else K x1) rfl (J_if_ne hd ht (fun _ => k1 rfl) (fun z => absurd z (by decide)))
  | false => exact J_eqo (o1 := if j_b false = 0 then K x2 else K x1) rfl (J_if_ne hd ht (fun z => absurd rfl z) (fun _ => k2 rfl))
theorem J_zretB {b : Bool} (hd : decode mi.2.1 pc = .ok (.ireturn, 1)) (hret : mi.2.2.2.1 = some .boolean) : J mi mc ms kc ks h pc loc [.int (j_b b)] (some (some (.int (j_b b)), h)) := J_zret hd hret (by cases b <;> rfl)
end JB
/-- cells of kinds ts from a on; references among them -/
def j_sh (g : JG) (a : Nat) (ts : List (Nat × Nat)) (rs : List (Nat × Nat × Nat)) : Prop := a + ts.length ≤ g.1 ∧ (∀ (j : Nat) (t : Nat × Nat), ts[j]? = some t → g.2.1 (a + j) = t) ∧ ∀ (i : Nat) (q : Nat × Nat × Nat), rs[i]? = some q → g.2.2.1 (a + q.1) q.2.1 = some (a + q.2.2)
theorem j_sh.lt {g : JG} {a : Nat} {ts : List (Nat × Nat)} {rs : List (Nat × Nat × Nat)} (h : j_sh g a ts rs) (j : Nat) (hj : j < ts.length) : a + j < g.1 := Nat.lt_of_lt_of_le (Nat.add_lt_add_left hj a) h.1
theorem j_sh.ty {g : JG} {a : Nat} {ts : List (Nat × Nat)} {rs : List (Nat × Nat × Nat)} (h : j_sh g a ts rs) (j : Nat) {t : Nat × Nat} (hj : ts[j]? = some t) : g.2.1 (a + j) = t := h.2.1 j t hj
theorem j_sh.rf {g : JG} {a : Nat} {ts : List (Nat × Nat)} {rs : List (Nat × Nat × Nat)} (h : j_sh g a ts rs) (i : Nat) {q : Nat × Nat × Nat} (hi : rs[i]? = some q) : g.2.2.1 (a + q.1) q.2.1 = some (a + q.2.2) := h.2.2 i q hi
