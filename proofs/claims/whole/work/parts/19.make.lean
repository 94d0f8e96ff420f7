/-! a row made and put into a field of u -/
def j_mkA (h : JH) (u k : Nat) (t : Nat × Nat) : JH := (j_sR (j_new h t).1 u k (some h.1.1), (j_new h t).2)
theorem mkA_n (h : JH) (u k : Nat) (t : Nat × Nat) : (j_mkA h u k t).1.1 = h.1.1 + 1 := rfl
theorem mkA_lt {h : JH} {u k b : Nat} {t : Nat × Nat} (hb : b < h.1.1) : b < (j_mkA h u k t).1.1 := Nat.lt_succ_of_lt hb
theorem mkA_ty {h : JH} {u k b : Nat} {t : Nat × Nat} (hb : b < h.1.1) : (j_mkA h u k t).1.2.1 b = h.1.2.1 b := by
  show (if b = h.1.1 then t else h.1.2.1 b) = _
  rw [if_neg (Nat.ne_of_lt hb)]
theorem new_ty {h : JH} {b : Nat} {t : Nat × Nat} (hb : b < h.1.1) : (j_new h t).1.2.1 b = h.1.2.1 b := by
  show (if b = h.1.1 then t else h.1.2.1 b) = _
  rw [if_neg (Nat.ne_of_lt hb)]
section MK
variable {mi : JMI} {mc ms kc ks : Nat} {h : JH} {pc : Nat} {loc : List (Nat × Value)} {stk : List Value} {o : Option (Option Value × JH)}
theorem J_mkI {u k ci idx N : Nat} {n : Int32} (hd : decode mi.2.1 pc = .ok (.newarray .int, 2)) (hd2 : decode mi.2.1 (pc + 2) = .ok (.putfield idx, 3)) (hn : ¬ n < 0) (hN : n.toNatClampNeg = N) (hbytes : N * 4 ≤ 536870912) (hm : h.1.1 < 1000000) (h1 : j_okq h.1.1 loc) (h2 : j_okl h.1.1 (.ref u :: stk))
    (hf : j_FL mi.2.2.2.2.1 idx ci k) (hft : j_FT ci k (.array .int) true) (hin : mi.1.name = "<init>") (hnot : ∀ q, vwCl[ci]? = some q → q.1 = mi.2.2.2.2.1 ∧ Cond.fieldLink mi.2.2.2.2.1 idx (q.2.1 k).1 (q.2.1 k).2.1 (q.2.1 k).2.2.1 ∈ j_gw) (hu : u < h.1.1) (ht : h.1.2.1 u = (0, ci)) (hk : (j_kd ci)[k]? = some 2)
    (kk : J mi mc ms kc ks (j_mkA h u k (1, N)) (pc + 5) loc stk o) : J mi mc ms (kc + 1) (ks + N) h pc loc (.int n :: .ref u :: stk) o :=
  J_newaI hd hn hN hbytes hm h1 h2 (J_putFR hd2 hf hft hin hnot (Nat.lt_succ_of_lt hu) ((new_ty hu).trans ht) hk (Nat.lt_succ_self _) (fun _ => rfl) (fun _ => rfl) kk)
theorem J_mkL {u k ci idx N : Nat} {n : Int32} (hd : decode mi.2.1 pc = .ok (.newarray .long, 2)) (hd2 : decode mi.2.1 (pc + 2) = .ok (.putfield idx, 3)) (hn : ¬ n < 0) (hN : n.toNatClampNeg = N) (hbytes : N * 8 ≤ 536870912) (hm : h.1.1 < 1000000) (h1 : j_okq h.1.1 loc) (h2 : j_okl h.1.1 (.ref u :: stk))
    (hf : j_FL mi.2.2.2.2.1 idx ci k) (hft : j_FT ci k (.array .long) true) (hin : mi.1.name = "<init>") (hnot : ∀ q, vwCl[ci]? = some q → q.1 = mi.2.2.2.2.1 ∧ Cond.fieldLink mi.2.2.2.2.1 idx (q.2.1 k).1 (q.2.1 k).2.1 (q.2.1 k).2.2.1 ∈ j_gw) (hu : u < h.1.1) (ht : h.1.2.1 u = (0, ci)) (hk : (j_kd ci)[k]? = some 2)
    (kk : J mi mc ms kc ks (j_mkA h u k (2, N)) (pc + 5) loc stk o) : J mi mc ms (kc + 1) (ks + N) h pc loc (.int n :: .ref u :: stk) o :=
  J_newaL hd hn hN hbytes hm h1 h2 (J_putFR hd2 hf hft hin hnot (Nat.lt_succ_of_lt hu) ((new_ty hu).trans ht) hk (Nat.lt_succ_self _) (fun _ => rfl) (fun _ => rfl) kk)
theorem J_mkB {u k ci idx N : Nat} {n : Int32} (hd : decode mi.2.1 pc = .ok (.newarray .byte, 2)) (hd2 : decode mi.2.1 (pc + 2) = .ok (.putfield idx, 3)) (hn : ¬ n < 0) (hN : n.toNatClampNeg = N) (hbytes : N * 1 ≤ 536870912) (hm : h.1.1 < 1000000) (h1 : j_okq h.1.1 loc) (h2 : j_okl h.1.1 (.ref u :: stk))
    (hf : j_FL mi.2.2.2.2.1 idx ci k) (hft : j_FT ci k (.array .byte) true) (hin : mi.1.name = "<init>") (hnot : ∀ q, vwCl[ci]? = some q → q.1 = mi.2.2.2.2.1 ∧ Cond.fieldLink mi.2.2.2.2.1 idx (q.2.1 k).1 (q.2.1 k).2.1 (q.2.1 k).2.2.1 ∈ j_gw) (hu : u < h.1.1) (ht : h.1.2.1 u = (0, ci)) (hk : (j_kd ci)[k]? = some 2)
    (kk : J mi mc ms kc ks (j_mkA h u k (3, N)) (pc + 5) loc stk o) : J mi mc ms (kc + 1) (ks + N) h pc loc (.int n :: .ref u :: stk) o :=
  J_newaB hd hn hN hbytes hm h1 h2 (J_putFR hd2 hf hft hin hnot (Nat.lt_succ_of_lt hu) ((new_ty hu).trans ht) hk (Nat.lt_succ_self _) (fun _ => rfl) (fun _ => rfl) kk)
end MK
