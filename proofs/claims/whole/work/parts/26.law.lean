/-! the law: rules for its script; what stays -/
def mi_law : JMI := (yL_law, cL_law, 7, some .boolean, RL, 16, 610)
section JSC
variable {mi : JMI} {mc ms kc ks : Nat} {h : JH} {pc : Nat} {loc : List (Nat × Value)} {stk : List Value} {o : Option (Option Value × JH)}
theorem J_sld {i v : Int32} (hd : decode mi.2.1 pc = .ok (.iaload, 1)) (hin : vp_in i h.1.2.2.2.1) (hv : h.1.2.2.2.2 i.toNatClampNeg = v) (kk : J mi mc ms kc ks h (pc + 1) loc (.int v :: stk) o) : J mi mc ms kc ks h pc loc (.int i :: .ref 3000000 :: stk) o := by
  intro r hr l p e s m args below meth c D cI cJ cB A α H locs cells slots ls Qc C V hc hs hl E
  have hX := V.2.2.2.1.2.2.2.1
  exact va_sld C.1 C.2.1 hX.1 hX.2.2 hX.2.1 V.2.2.1 hin hd (by rw [hv]; exact kk r hr l p e s m args below meth c D cI cJ cB A α H locs cells slots ls Qc C V hc hs hl E)
theorem J_slen {v : Int32} (hd : decode mi.2.1 pc = .ok (.arraylength, 1)) (hv : Int32.ofNat h.1.2.2.2.1 = v) (kk : J mi mc ms kc ks h (pc + 1) loc (.int v :: stk) o) : J mi mc ms kc ks h pc loc (.ref 3000000 :: stk) o := by
  intro r hr l p e s m args below meth c D cI cJ cB A α H locs cells slots ls Qc C V hc hs hl E
  have hX := V.2.2.2.1.2.2.2.1
  exact va_slen C.1 C.2.1 hX.1 hX.2.2 hX.2.1 V.2.2.1 hd (by rw [hv]; exact kk r hr l p e s m args below meth c D cI cJ cB A α H locs cells slots ls Qc C V hc hs hl E)
/-- one of the script's ints: aload_0; iload 4; iconst k; iadd; iaload -/
theorem J_arg {i v kv : Int32} {k : Int} (q : Nat) (q' : Nat) (h0 : decode mi.2.1 pc = .ok (.aload_n 0, 1)) (h1 : decode mi.2.1 (pc + 1) = .ok (.iload 4, 2)) (h2 : decode mi.2.1 (pc + 3) = .ok (.iconst k, 1)) (h3 : decode mi.2.1 (pc + 4) = .ok (.iadd, 1)) (h4 : decode mi.2.1 (pc + 5) = .ok (.iaload, 1)) (hq : loc[q]? = some (0, .ref 3000000)) (hq' : loc[q']? = some (4, .int i)) (hk : Int32.ofInt k = kv) (hin : vp_in (i + kv) h.1.2.2.2.1) (hv : h.1.2.2.2.2 (i + kv).toNatClampNeg = v) (kk : J mi mc ms kc ks h (pc + 6) loc (.int v :: stk) o) : J mi mc ms kc ks h pc loc stk o :=
  J_aload_n q h0 rfl hq (J_iload q' h1 hq' (J_iconst h2 hk (J_iadd h3 (J_sld h4 hin hv kk))))
/-- a truth out of an int: ifeq; iconst_1; goto; iconst_0 -/
theorem J_truth {v : Int32} (h0 : decode mi.2.1 pc = .ok (.ifCond .eq 7, 3)) (h1 : decode mi.2.1 (pc + 3) = .ok (.iconst 1, 1)) (h2 : decode mi.2.1 (pc + 4) = .ok (.goto 4, 3)) (h3 : decode mi.2.1 (pc + 7) = .ok (.iconst 0, 1)) (kk : J mi mc ms kc ks h (pc + 8) loc (.int (if v = 0 then 0 else 1) :: stk) o) : J mi mc ms kc ks h pc loc (.int v :: stk) o := by
  refine J_eqo (show o = if v = 0 then o else o by split <;> rfl) (J_if_eq h0 (tgt := pc + 7) (by omega) (fun z => ?_) (fun z => ?_))
  · rw [if_pos z] at kk
    exact J_iconst h3 (by decide) kk
  · rw [if_neg z] at kk
    exact J_iconst h1 (by decide) (J_goto h2 (tgt := pc + 8) (by omega) kk)
theorem J_same {v : Int32} {off : Int} {tgt : Nat} (h0 : decode mi.2.1 pc = .ok (.if_icmp .eq off, 3)) (ht : (pc : Int) + off = (tgt : Int)) (kk : J mi mc ms kc ks h tgt loc stk o) : J mi mc ms kc ks h pc loc (.int v :: .int v :: stk) o := by
  exact J_eqo (if_pos (rfl : v = v)).symm (J_icmp_eq (o2 := none) h0 ht (fun _ => kk) (fun z => absurd rfl z))
theorem J_sameL {v : Int64} {off : Int} {tgt : Nat} (h0 : decode mi.2.1 pc = .ok (.lcmp, 1)) (h1 : decode mi.2.1 (pc + 1) = .ok (.ifCond .eq off, 3)) (ht : ((pc + 1 : Nat) : Int) + off = (tgt : Int)) (kk : J mi mc ms kc ks h tgt loc stk o) : J mi mc ms kc ks h pc loc (.long v :: .long v :: stk) o := by
  refine J_lcmp h0 ?_
  rw [show lg_cmp v v = 0 by simp [lg_cmp]]
  exact J_eqo (if_pos (rfl : (0 : Int32) = 0)).symm (J_if_eq (o2 := none) h1 ht (fun _ => kk) (fun z => absurd rfl z))
theorem J_more {kc' ks' : Nat} (h1 : kc' ≤ kc) (h2 : ks' ≤ ks) (kk : J mi mc ms kc' ks' h pc loc stk o) : J mi mc ms kc ks h pc loc stk o := by
  intro r hr l p e s m args below meth c D cI cJ cB A α H locs cells slots ls Qc C V hc hs hl E
  exact kk r hr l p e s m args below meth c D cI cJ cB A α H locs cells slots ls Qc C V (by omega) (by omega) hl E
end JSC
/-- what the law asks of a heap at any time -/
def j_lw (h : JH) : Prop := 68 ≤ h.1.1 ∧ h.1.2.1 0 = (0, 10) ∧ h.1.2.1 57 = (0, 12) ∧ h.1.2.1 67 = (2, 1)
theorem JC_law {mi : JMI} {mc ms kc ks kc' ks' : Nat} {h h' : JH} {pc : Nat} {loc : List (Nat × Value)} {st0 stk : List Value} {o : Option (Option Value × JH)} {v : Value} (hs : h'.1.2.2.2 = h.1.2.2.2) (h1 : j_okq h.1.1 loc) (h2 : j_okl h.1.1 stk) (c : JC mi mc ms kc ks kc' ks' h pc loc st0 stk (some (some v, h'))) (kk : J mi mc ms kc' ks' h' (pc + 3) loc (v :: stk) o) : J mi mc ms kc ks h pc loc st0 o := by
  have H := c (fun _ => o) (fun r hr => by cases hr; exact ⟨hs, Or.inr ⟨h1, h2⟩⟩) (fun r hr => by cases hr; exact kk)
  exact H
/-- the law's variables -/
def lw_loc (i : Int32) : List (Nat × Value) := [(4, .int i), (0, .ref 3000000), (1, .ref 0), (2, .ref 57), (3, .ref 67)]
theorem lwv_okq {h : JH} (w : j_lw h) (i : Int32) : j_okq h.1.1 (lw_loc i) := ⟨trivial, Or.inr (show 1000000 ≤ 3000000 by decide), Or.inl (show 0 < h.1.1 by have := w.1; omega), Or.inl (show 57 < h.1.1 by have := w.1; omega), Or.inl (show 67 < h.1.1 by have := w.1; omega), trivial⟩
/-- the six ints of a call -/
def lw_six (h : JH) (i p0 p1 p2 p3 p4 p5 : Int32) : Prop := (vp_in (i + 1) h.1.2.2.2.1 ∧ h.1.2.2.2.2 (i + 1).toNatClampNeg = p1) ∧ (vp_in (i + 2) h.1.2.2.2.1 ∧ h.1.2.2.2.2 (i + 2).toNatClampNeg = p2) ∧ (vp_in (i + 3) h.1.2.2.2.1 ∧ h.1.2.2.2.2 (i + 3).toNatClampNeg = p3) ∧ (vp_in (i + 4) h.1.2.2.2.1 ∧ h.1.2.2.2.2 (i + 4).toNatClampNeg = p4) ∧ (vp_in (i + 5) h.1.2.2.2.1 ∧ h.1.2.2.2.2 (i + 5).toNatClampNeg = p5) ∧ (vp_in i h.1.2.2.2.1 ∧ h.1.2.2.2.2 i.toNatClampNeg = p0)
theorem lw_six.to {h h' : JH} {i p0 p1 p2 p3 p4 p5 : Int32} (w : lw_six h i p0 p1 p2 p3 p4 p5) (e : h'.1.2.2.2 = h.1.2.2.2) : lw_six h' i p0 p1 p2 p3 p4 p5 := by unfold lw_six at w ⊢; rw [e]; exact w
theorem ml_L_7 : j_ML RL 7 yX11_led := Or.inl (gw6 (List.mem_of_getElem? (i := 75) rfl) rfl)
theorem ml_L_15 : j_ML RL 15 yX11_init := Or.inl (gw1 (List.mem_of_getElem? (i := 27) rfl) rfl)
theorem ml_L_18 : j_ML RL 18 yX13_init := Or.inl (gw6 (List.mem_of_getElem? (i := 146) rfl) rfl)
theorem ml_L_19 : j_ML RL 19 yX11_feed := Or.inl (gw2 (List.mem_of_getElem? (i := 178) rfl) rfl)
theorem ml_L_23 : j_ML RL 23 yX13_feed := Or.inl (gw7 (List.mem_of_getElem? (i := 5) rfl) rfl)
theorem ml_L_24 : j_ML RL 24 yX11_land := Or.inl (gw2 (List.mem_of_getElem? (i := 190) rfl) rfl)
theorem ml_L_27 : j_ML RL 27 yX13_land := Or.inl (gw7 (List.mem_of_getElem? (i := 9) rfl) rfl)
theorem ml_L_28 : j_ML RL 28 yX11_fault := Or.inl (gw3 (List.mem_of_getElem? (i := 226) rfl) rfl)
theorem ml_L_32 : j_ML RL 32 yX13_fault := Or.inl (gw8 (List.mem_of_getElem? (i := 25) rfl) rfl)
theorem ml_L_33 : j_ML RL 33 yX11_where := Or.inl (gw3 (List.mem_of_getElem? (i := 230) rfl) rfl)
theorem ml_L_36 : j_ML RL 36 yX13_where := Or.inl (gw8 (List.mem_of_getElem? (i := 29) rfl) rfl)
theorem ml_L_37 : j_ML RL 37 yX11_gate := Or.inl (gw3 (List.mem_of_getElem? (i := 234) rfl) rfl)
theorem ml_L_41 : j_ML RL 41 yX13_gate := Or.inl (gw8 (List.mem_of_getElem? (i := 33) rfl) rfl)
theorem ml_L_42 : j_ML RL 42 yX11_person := Or.inl (gw4 (List.mem_of_getElem? (i := 11) rfl) rfl)
theorem ml_L_45 : j_ML RL 45 yX13_person := Or.inl (gw8 (List.mem_of_getElem? (i := 53) rfl) rfl)
theorem ml_L_46 : j_ML RL 46 yX11_firm := Or.inl (gw4 (List.mem_of_getElem? (i := 45) rfl) rfl)
theorem ml_L_49 : j_ML RL 49 yX13_firm := Or.inl (gw8 (List.mem_of_getElem? (i := 84) rfl) rfl)
theorem ml_L_50 : j_ML RL 50 yX11_commons := Or.inl (gw4 (List.mem_of_getElem? (i := 57) rfl) rfl)
theorem ml_L_53 : j_ML RL 53 yX13_commons := Or.inl (gw8 (List.mem_of_getElem? (i := 92) rfl) rfl)
theorem ml_L_54 : j_ML RL 54 yX11_richest := Or.inl (gw4 (List.mem_of_getElem? (i := 69) rfl) rfl)
theorem ml_L_57 : j_ML RL 57 yX13_richest := Or.inl (gw8 (List.mem_of_getElem? (i := 96) rfl) rfl)
theorem ml_L_58 : j_ML RL 58 yX11_ground := Or.inl (gw4 (List.mem_of_getElem? (i := 78) rfl) rfl)
theorem ml_L_61 : j_ML RL 61 yX13_ground := Or.inl (gw8 (List.mem_of_getElem? (i := 100) rfl) rfl)
theorem ml_L_62 : j_ML RL 62 yX11_hasIf := Or.inl (gw4 (List.mem_of_getElem? (i := 90) rfl) rfl)
theorem ml_L_66 : j_ML RL 66 yX13_hasIf := Or.inl (gw8 (List.mem_of_getElem? (i := 104) rfl) rfl)
theorem ml_L_67 : j_ML RL 67 yX11_can := Or.inl (gw4 (List.mem_of_getElem? (i := 98) rfl) rfl)
theorem ml_L_70 : j_ML RL 70 yX13_can := Or.inl (gw8 (List.mem_of_getElem? (i := 108) rfl) rfl)
theorem ml_L_71 : j_ML RL 71 yX11_errand := Or.inl (gw4 (List.mem_of_getElem? (i := 114) rfl) rfl)
theorem ml_L_74 : j_ML RL 74 yX13_errand := Or.inl (gw8 (List.mem_of_getElem? (i := 124) rfl) rfl)
theorem ml_L_75 : j_ML RL 75 yX11_errandAt := Or.inl (gw4 (List.mem_of_getElem? (i := 149) rfl) rfl)
theorem ml_L_78 : j_ML RL 78 yX13_errandAt := Or.inl (gw8 (List.mem_of_getElem? (i := 156) rfl) rfl)
theorem ml_L_79 : j_ML RL 79 yX11_met := Or.inl (gw4 (List.mem_of_getElem? (i := 157) rfl) rfl)
theorem ml_L_82 : j_ML RL 82 yX13_met := Or.inl (gw8 (List.mem_of_getElem? (i := 160) rfl) rfl)
theorem ml_L_83 : j_ML RL 83 yX11_movesFor := Or.inl (gw4 (List.mem_of_getElem? (i := 162) rfl) rfl)
theorem ml_L_86 : j_ML RL 86 yX13_movesFor := Or.inl (gw8 (List.mem_of_getElem? (i := 164) rfl) rfl)
theorem ml_L_87 : j_ML RL 87 yX11_mostBy := Or.inl (gw4 (List.mem_of_getElem? (i := 174) rfl) rfl)
theorem ml_L_90 : j_ML RL 90 yX13_mostBy := Or.inl (gw8 (List.mem_of_getElem? (i := 172) rfl) rfl)
theorem ml_L_91 : j_ML RL 91 yX11_reach := Or.inl (gw4 (List.mem_of_getElem? (i := 185) rfl) rfl)
theorem ml_L_94 : j_ML RL 94 yX13_reach := Or.inl (gw8 (List.mem_of_getElem? (i := 176) rfl) rfl)
theorem ml_L_95 : j_ML RL 95 yX11_cover := Or.inl (gw4 (List.mem_of_getElem? (i := 189) rfl) rfl)
theorem ml_L_98 : j_ML RL 98 yX13_cover := Or.inl (gw8 (List.mem_of_getElem? (i := 180) rfl) rfl)
theorem ml_L_99 : j_ML RL 99 yX11_coverAt := Or.inl (gw4 (List.mem_of_getElem? (i := 231) rfl) rfl)
theorem ml_L_102 : j_ML RL 102 yX13_coverAt := Or.inl (gw8 (List.mem_of_getElem? (i := 200) rfl) rfl)
theorem ml_L_103 : j_ML RL 103 yX11_stills := Or.inl (gw4 (List.mem_of_getElem? (i := 235) rfl) rfl)
theorem ml_L_106 : j_ML RL 106 yX13_stills := Or.inl (gw8 (List.mem_of_getElem? (i := 204) rfl) rfl)
theorem ml_L_107 : j_ML RL 107 yX11_isStill := Or.inl (gw4 (List.mem_of_getElem? (i := 239) rfl) rfl)
theorem ml_L_110 : j_ML RL 110 yX13_isStill := Or.inl (gw8 (List.mem_of_getElem? (i := 212) rfl) rfl)
theorem ml_L_111 : j_ML RL 111 yX11_fairest := Or.inl (gw5 (List.mem_of_getElem? (i := 4) rfl) rfl)
theorem ml_L_114 : j_ML RL 114 yX13_fairest := Or.inl (gw8 (List.mem_of_getElem? (i := 216) rfl) rfl)
theorem ml_L_115 : j_ML RL 115 yX11_fairAt := Or.inl (gw5 (List.mem_of_getElem? (i := 8) rfl) rfl)
theorem ml_L_118 : j_ML RL 118 yX13_fairAt := Or.inl (gw8 (List.mem_of_getElem? (i := 224) rfl) rfl)
theorem ml_L_119 : j_ML RL 119 yX11_fits := Or.inl (gw5 (List.mem_of_getElem? (i := 12) rfl) rfl)
theorem ml_L_122 : j_ML RL 122 yX13_fits := Or.inl (gw8 (List.mem_of_getElem? (i := 228) rfl) rfl)
theorem ml_L_123 : j_ML RL 123 yX11_fitAt := Or.inl (gw5 (List.mem_of_getElem? (i := 35) rfl) rfl)
theorem ml_L_126 : j_ML RL 126 yX13_fitAt := Or.inl (gw9 (List.mem_of_getElem? (i := 8) rfl) rfl)
theorem ml_L_127 : j_ML RL 127 yX11_hungBy := Or.inl (gw5 (List.mem_of_getElem? (i := 43) rfl) rfl)
theorem ml_L_130 : j_ML RL 130 yX13_hungBy := Or.inl (gw9 (List.mem_of_getElem? (i := 16) rfl) rfl)
theorem ml_L_131 : j_ML RL 131 yX11_look := Or.inl (gw5 (List.mem_of_getElem? (i := 51) rfl) rfl)
theorem ml_L_134 : j_ML RL 134 yX13_look := Or.inl (gw9 (List.mem_of_getElem? (i := 20) rfl) rfl)
theorem ml_L_135 : j_ML RL 135 yX11_lookLeaves := Or.inl (gw5 (List.mem_of_getElem? (i := 65) rfl) rfl)
theorem ml_L_138 : j_ML RL 138 yX13_lookLeaves := Or.inl (gw9 (List.mem_of_getElem? (i := 28) rfl) rfl)
theorem ml_L_139 : j_ML RL 139 yX11_judge := Or.inl (gw5 (List.mem_of_getElem? (i := 70) rfl) rfl)
theorem ml_L_142 : j_ML RL 142 yX13_judge := Or.inl (gw9 (List.mem_of_getElem? (i := 32) rfl) rfl)
theorem ml_L_143 : j_ML RL 143 yX11_apart := Or.inl (gw5 (List.mem_of_getElem? (i := 75) rfl) rfl)
theorem ml_L_146 : j_ML RL 146 yX13_apart := Or.inl (gw9 (List.mem_of_getElem? (i := 36) rfl) rfl)
theorem ml_L_147 : j_ML RL 147 yX11_sentries := Or.inl (gw5 (List.mem_of_getElem? (i := 87) rfl) rfl)
theorem ml_L_150 : j_ML RL 150 yX13_sentries := Or.inl (gw9 (List.mem_of_getElem? (i := 48) rfl) rfl)
theorem ml_L_151 : j_ML RL 151 yX11_parts := Or.inl (gw5 (List.mem_of_getElem? (i := 95) rfl) rfl)
theorem ml_L_154 : j_ML RL 154 yX13_parts := Or.inl (gw9 (List.mem_of_getElem? (i := 52) rfl) rfl)
theorem ml_L_155 : j_ML RL 155 yX11_estate := Or.inl (gw5 (List.mem_of_getElem? (i := 107) rfl) rfl)
theorem ml_L_158 : j_ML RL 158 yX13_estate := Or.inl (gw9 (List.mem_of_getElem? (i := 56) rfl) rfl)
theorem ml_L_159 : j_ML RL 159 yX11_power := Or.inl (gw5 (List.mem_of_getElem? (i := 116) rfl) rfl)
theorem ml_L_163 : j_ML RL 163 yX13_power := Or.inl (gw9 (List.mem_of_getElem? (i := 60) rfl) rfl)
theorem ml_L_164 : j_ML RL 164 yX11_rule := Or.inl (gw5 (List.mem_of_getElem? (i := 144) rfl) rfl)
theorem ml_L_167 : j_ML RL 167 yX13_rule := Or.inl (gw9 (List.mem_of_getElem? (i := 87) rfl) rfl)
theorem ml_L_168 : j_ML RL 168 yX11_steal := Or.inl (gw5 (List.mem_of_getElem? (i := 153) rfl) rfl)
theorem ml_L_172 : j_ML RL 172 yX13_steal := Or.inl (gw9 (List.mem_of_getElem? (i := 91) rfl) rfl)
theorem ml_L_173 : j_ML RL 173 yX11_rests := Or.inl (gw5 (List.mem_of_getElem? (i := 168) rfl) rfl)
theorem ml_L_176 : j_ML RL 176 yX13_rests := Or.inl (gw9 (List.mem_of_getElem? (i := 109) rfl) rfl)
theorem ml_L_177 : j_ML RL 177 yX11_rest := Or.inl (gw5 (List.mem_of_getElem? (i := 178) rfl) rfl)
theorem ml_L_180 : j_ML RL 180 yX13_rest := Or.inl (gw9 (List.mem_of_getElem? (i := 116) rfl) rfl)
theorem ml_L_181 : j_ML RL 181 yX11_holds := Or.inl (gw5 (List.mem_of_getElem? (i := 185) rfl) rfl)
theorem ml_L_185 : j_ML RL 185 yX13_holds := Or.inl (gw9 (List.mem_of_getElem? (i := 120) rfl) rfl)
theorem ml_L_186 : j_ML RL 186 yX11_mean := Or.inl (gw5 (List.mem_of_getElem? (i := 198) rfl) rfl)
theorem ml_L_189 : j_ML RL 189 yX13_mean := Or.inl (gw9 (List.mem_of_getElem? (i := 129) rfl) rfl)
theorem ml_L_190 : j_ML RL 190 yX11_keeps := Or.inl (gw5 (List.mem_of_getElem? (i := 209) rfl) rfl)
theorem ml_L_193 : j_ML RL 193 yX13_keeps := Or.inl (gw9 (List.mem_of_getElem? (i := 133) rfl) rfl)
theorem ml_L_194 : j_ML RL 194 yX11_century := Or.inl (gw5 (List.mem_of_getElem? (i := 224) rfl) rfl)
theorem ml_L_197 : j_ML RL 197 yX13_century := Or.inl (gw9 (List.mem_of_getElem? (i := 137) rfl) rfl)
theorem ml_L_198 : j_ML RL 198 yX11_bare := Or.inl (gw6 (List.mem_of_getElem? (i := 4) rfl) rfl)
theorem ml_L_201 : j_ML RL 201 yX13_bare := Or.inl (gw9 (List.mem_of_getElem? (i := 153) rfl) rfl)
theorem ml_L_202 : j_ML RL 202 yX11_hang := Or.inl (gw6 (List.mem_of_getElem? (i := 8) rfl) rfl)
theorem ml_L_206 : j_ML RL 206 yX13_hang := Or.inl (gw9 (List.mem_of_getElem? (i := 161) rfl) rfl)
theorem ml_L_207 : j_ML RL 207 yX11_take := Or.inl (gw6 (List.mem_of_getElem? (i := 25) rfl) rfl)
theorem ml_L_211 : j_ML RL 211 yX13_take := Or.inl (gw9 (List.mem_of_getElem? (i := 177) rfl) rfl)
theorem ml_L_212 : j_ML RL 212 yX11_turnOver := Or.inl (gw6 (List.mem_of_getElem? (i := 33) rfl) rfl)
theorem ml_L_215 : j_ML RL 215 yX13_turnOver := Or.inl (gw9 (List.mem_of_getElem? (i := 185) rfl) rfl)
theorem ml_L_216 : j_ML RL 216 yX11_gust := Or.inl (gw6 (List.mem_of_getElem? (i := 37) rfl) rfl)
theorem ml_L_219 : j_ML RL 219 yX13_gust := Or.inl (gw9 (List.mem_of_getElem? (i := 189) rfl) rfl)
theorem ml_L_220 : j_ML RL 220 yX11_seed := Or.inl (gw6 (List.mem_of_getElem? (i := 41) rfl) rfl)
theorem ml_L_223 : j_ML RL 223 yX13_seed := Or.inl (gw9 (List.mem_of_getElem? (i := 193) rfl) rfl)
theorem ml_L_224 : j_ML RL 224 yX11_undo := Or.inl (gw6 (List.mem_of_getElem? (i := 45) rfl) rfl)
theorem ml_L_228 : j_ML RL 228 yX13_undo := Or.inl (gw9 (List.mem_of_getElem? (i := 197) rfl) rfl)
theorem ml_L_229 : j_ML RL 229 yX11_image := Or.inl (gw6 (List.mem_of_getElem? (i := 55) rfl) rfl)
theorem ml_L_232 : j_ML RL 232 yX13_image := Or.inl (gw9 (List.mem_of_getElem? (i := 201) rfl) rfl)
theorem ml_L_233 : j_ML RL 233 yX11_back := Or.inl (gw6 (List.mem_of_getElem? (i := 59) rfl) rfl)
theorem ml_L_236 : j_ML RL 236 yX13_back := Or.inl (gw9 (List.mem_of_getElem? (i := 205) rfl) rfl)
theorem ml_L_237 : j_ML RL 237 yL_led := Or.inl (gw6 (List.mem_of_getElem? (i := 71) rfl) rfl)
theorem ml_L_242 : j_ML RL 242 yX13_led := Or.inl (gw9 (List.mem_of_getElem? (i := 209) rfl) rfl)
theorem ml_L_243 : j_ML RL 243 yX13_thrown := Or.inl (gw7 (List.mem_of_getElem? (i := 1) rfl) rfl)
theorem ml_L_246 : j_ML RL 246 yX11_size := Or.inl (gw6 (List.mem_of_getElem? (i := 63) rfl) rfl)
theorem ml_L_249 : j_ML RL 249 yX13_size := Or.inl (gw9 (List.mem_of_getElem? (i := 213) rfl) rfl)
theorem ml_L_250 : j_ML RL 250 yX11_trouble := Or.inl (gw6 (List.mem_of_getElem? (i := 67) rfl) rfl)
theorem ml_L_253 : j_ML RL 253 yX13_trouble := Or.inl (gw9 (List.mem_of_getElem? (i := 217) rfl) rfl)
set_option maxRecDepth 100000 in
theorem lc_0 {kc ks : Nat} {h h1 h2 : JH} {i p0 p1 p2 p3 p4 p5 : Int32} {x : Int32} {o : Option (Option Value × JH)} (w : j_lw h) (wb : j_lw h1) (w6 : lw_six h i p0 p1 p2 p3 p4 p5) (s1 : h1.1.2.2.2 = h.1.2.2.2) (s2 : h2.1.2.2.2 = h1.1.2.2.2) (hX : JM mi_X11_feed 0 0 h [.ref 0, .int p1, .int p2, .int p3, .int p4, .int p5] (some (some (.int x), h1))) (hM : JM mi_X13_feed 0 0 h1 [.ref 57, .int p1, .int p2, .int p3, .int p4, .int p5] (some (some (.int x), h2))) (kk : J mi_law 601024 7293034 kc ks h2 1874 (lw_loc i) [] o) : J mi_law 601024 7293034 (kc + 0) (ks + 0) h 276 (lw_loc i) [] o := by
  have w6b := w6.to s1
  refine J_aload_n (pc := 276) 2 dL_law_276 rfl rfl ?_
  refine J_arg (pc := 277) (kv := 1) 1 0 dL_law_277 dL_law_278 dL_law_280 dL_law_281 dL_law_282 rfl rfl (by decide) w6.1.1 w6.1.2 ?_
  refine J_arg (pc := 283) (kv := 2) 1 0 dL_law_283 dL_law_284 dL_law_286 dL_law_287 dL_law_288 rfl rfl (by decide) w6.2.1.1 w6.2.1.2 ?_
  refine J_arg (pc := 289) (kv := 3) 1 0 dL_law_289 dL_law_290 dL_law_292 dL_law_293 dL_law_294 rfl rfl (by decide) w6.2.2.1.1 w6.2.2.1.2 ?_
  refine J_arg (pc := 295) (kv := 4) 1 0 dL_law_295 dL_law_296 dL_law_298 dL_law_299 dL_law_300 rfl rfl (by decide) w6.2.2.2.1.1 w6.2.2.2.1.2 ?_
  refine J_arg (pc := 301) (kv := 5) 1 0 dL_law_301 dL_law_302 dL_law_304 dL_law_305 dL_law_306 rfl rfl (by decide) w6.2.2.2.2.1.1 w6.2.2.2.2.1.2 ?_
  refine JC_law (stk := []) s1 (lwv_okq w i) trivial (J_callV (mi := mi_law) (mj := mi_X11_feed) (a := 0) (ci := 10) (pc := 307) (kc := kc + 0) (ks := ks + 0) (stk := []) (av := [.int p1, .int p2, .int p3, .int p4, .int p5]) dL_law_307 ml_L_19 ok_X11_feed ov_X11_feed ⟨Nat.le_of_ble_eq_true rfl, Nat.le_of_ble_eq_true rfl⟩ rfl (Nat.lt_of_lt_of_le (by decide) w.1) w.2.1 rfl hX rfl (Nat.le_of_ble_eq_true rfl)) ?_
  refine J_aload_n (pc := 310) 3 dL_law_310 rfl rfl ?_
  refine J_arg (pc := 311) (kv := 1) 1 0 dL_law_311 dL_law_312 dL_law_314 dL_law_315 dL_law_316 rfl rfl (by decide) w6b.1.1 w6b.1.2 ?_
  refine J_arg (pc := 317) (kv := 2) 1 0 dL_law_317 dL_law_318 dL_law_320 dL_law_321 dL_law_322 rfl rfl (by decide) w6b.2.1.1 w6b.2.1.2 ?_
  refine J_arg (pc := 323) (kv := 3) 1 0 dL_law_323 dL_law_324 dL_law_326 dL_law_327 dL_law_328 rfl rfl (by decide) w6b.2.2.1.1 w6b.2.2.1.2 ?_
  refine J_arg (pc := 329) (kv := 4) 1 0 dL_law_329 dL_law_330 dL_law_332 dL_law_333 dL_law_334 rfl rfl (by decide) w6b.2.2.2.1.1 w6b.2.2.2.1.2 ?_
  refine J_arg (pc := 335) (kv := 5) 1 0 dL_law_335 dL_law_336 dL_law_338 dL_law_339 dL_law_340 rfl rfl (by decide) w6b.2.2.2.2.1.1 w6b.2.2.2.2.1.2 ?_
  refine JC_law (stk := [.int x]) s2 (lwv_okq wb i) ⟨trivial, trivial⟩ (J_callV (mi := mi_law) (mj := mi_X13_feed) (a := 57) (ci := 12) (pc := 341) (kc := kc) (ks := ks) (stk := [.int x]) (av := [.int p1, .int p2, .int p3, .int p4, .int p5]) dL_law_341 ml_L_23 ok_X13_feed ov_X13_feed ⟨Nat.le_of_ble_eq_true rfl, Nat.le_of_ble_eq_true rfl⟩ rfl (Nat.lt_of_lt_of_le (by decide) wb.1) wb.2.2.1 rfl hM rfl (Nat.le_of_ble_eq_true rfl)) ?_
  exact J_same (pc := 344) (tgt := 1874) dL_law_344 (by decide) kk
set_option maxRecDepth 100000 in
theorem lc_1 {kc ks : Nat} {h h1 h2 : JH} {i p0 p1 p2 p3 p4 p5 : Int32} {x : Int32} {o : Option (Option Value × JH)} (w : j_lw h) (wb : j_lw h1) (w6 : lw_six h i p0 p1 p2 p3 p4 p5) (s1 : h1.1.2.2.2 = h.1.2.2.2) (s2 : h2.1.2.2.2 = h1.1.2.2.2) (hX : JM mi_X11_land 0 0 h [.ref 0, .int p1] (some (some (.int x), h1))) (hM : JM mi_X13_land 15 125 h1 [.ref 57, .int p1] (some (some (.int x), h2))) (kk : J mi_law 601024 7293034 kc ks h2 1874 (lw_loc i) [] o) : J mi_law 601024 7293034 (kc + 15) (ks + 125) h 349 (lw_loc i) [] o := by
  have w6b := w6.to s1
  refine J_aload_n (pc := 349) 2 dL_law_349 rfl rfl ?_
  refine J_arg (pc := 350) (kv := 1) 1 0 dL_law_350 dL_law_351 dL_law_353 dL_law_354 dL_law_355 rfl rfl (by decide) w6.1.1 w6.1.2 ?_
  refine JC_law (stk := []) s1 (lwv_okq w i) trivial (J_callV (mi := mi_law) (mj := mi_X11_land) (a := 0) (ci := 10) (pc := 356) (kc := kc + 15) (ks := ks + 125) (stk := []) (av := [.int p1]) dL_law_356 ml_L_24 ok_X11_land ov_X11_land ⟨Nat.le_of_ble_eq_true rfl, Nat.le_of_ble_eq_true rfl⟩ rfl (Nat.lt_of_lt_of_le (by decide) w.1) w.2.1 rfl hX rfl (Nat.le_of_ble_eq_true rfl)) ?_
  refine J_aload_n (pc := 359) 3 dL_law_359 rfl rfl ?_
  refine J_arg (pc := 360) (kv := 1) 1 0 dL_law_360 dL_law_361 dL_law_363 dL_law_364 dL_law_365 rfl rfl (by decide) w6b.1.1 w6b.1.2 ?_
  refine JC_law (stk := [.int x]) s2 (lwv_okq wb i) ⟨trivial, trivial⟩ (J_callV (mi := mi_law) (mj := mi_X13_land) (a := 57) (ci := 12) (pc := 366) (kc := kc) (ks := ks) (stk := [.int x]) (av := [.int p1]) dL_law_366 ml_L_27 ok_X13_land ov_X13_land ⟨Nat.le_of_ble_eq_true rfl, Nat.le_of_ble_eq_true rfl⟩ rfl (Nat.lt_of_lt_of_le (by decide) wb.1) wb.2.2.1 rfl hM rfl (Nat.le_of_ble_eq_true rfl)) ?_
  exact J_same (pc := 369) (tgt := 1874) dL_law_369 (by decide) kk
set_option maxRecDepth 100000 in
theorem lc_2 {kc ks : Nat} {h h1 h2 : JH} {i p0 p1 p2 p3 p4 p5 : Int32} {x : Int32} {o : Option (Option Value × JH)} (w : j_lw h) (wb : j_lw h1) (w6 : lw_six h i p0 p1 p2 p3 p4 p5) (s1 : h1.1.2.2.2 = h.1.2.2.2) (s2 : h2.1.2.2.2 = h1.1.2.2.2) (hX : JM mi_X11_fault 0 0 h [.ref 0] (some (some (.int x), h1))) (hM : JM mi_X13_fault 0 0 h1 [.ref 57] (some (some (.int x), h2))) (kk : J mi_law 601024 7293034 kc ks h2 1874 (lw_loc i) [] o) : J mi_law 601024 7293034 (kc + 0) (ks + 0) h 374 (lw_loc i) [] o := by
  have w6b := w6.to s1
  refine J_aload_n (pc := 374) 2 dL_law_374 rfl rfl ?_
  refine JC_law (stk := []) s1 (lwv_okq w i) trivial (J_callV (mi := mi_law) (mj := mi_X11_fault) (a := 0) (ci := 10) (pc := 375) (kc := kc + 0) (ks := ks + 0) (stk := []) (av := []) dL_law_375 ml_L_28 ok_X11_fault ov_X11_fault ⟨Nat.le_of_ble_eq_true rfl, Nat.le_of_ble_eq_true rfl⟩ rfl (Nat.lt_of_lt_of_le (by decide) w.1) w.2.1 rfl hX rfl (Nat.le_of_ble_eq_true rfl)) ?_
  refine J_aload_n (pc := 378) 3 dL_law_378 rfl rfl ?_
  refine JC_law (stk := [.int x]) s2 (lwv_okq wb i) ⟨trivial, trivial⟩ (J_callV (mi := mi_law) (mj := mi_X13_fault) (a := 57) (ci := 12) (pc := 379) (kc := kc) (ks := ks) (stk := [.int x]) (av := []) dL_law_379 ml_L_32 ok_X13_fault ov_X13_fault ⟨Nat.le_of_ble_eq_true rfl, Nat.le_of_ble_eq_true rfl⟩ rfl (Nat.lt_of_lt_of_le (by decide) wb.1) wb.2.2.1 rfl hM rfl (Nat.le_of_ble_eq_true rfl)) ?_
  exact J_same (pc := 382) (tgt := 1874) dL_law_382 (by decide) kk
set_option maxRecDepth 100000 in
theorem lc_3 {kc ks : Nat} {h h1 h2 : JH} {i p0 p1 p2 p3 p4 p5 : Int32} {x : Int32} {o : Option (Option Value × JH)} (w : j_lw h) (wb : j_lw h1) (w6 : lw_six h i p0 p1 p2 p3 p4 p5) (s1 : h1.1.2.2.2 = h.1.2.2.2) (s2 : h2.1.2.2.2 = h1.1.2.2.2) (hX : JM mi_X11_where 0 0 h [.ref 0] (some (some (.int x), h1))) (hM : JM mi_X13_where 0 0 h1 [.ref 57] (some (some (.int x), h2))) (kk : J mi_law 601024 7293034 kc ks h2 1874 (lw_loc i) [] o) : J mi_law 601024 7293034 (kc + 0) (ks + 0) h 387 (lw_loc i) [] o := by
  have w6b := w6.to s1
  refine J_aload_n (pc := 387) 2 dL_law_387 rfl rfl ?_
  refine JC_law (stk := []) s1 (lwv_okq w i) trivial (J_callV (mi := mi_law) (mj := mi_X11_where) (a := 0) (ci := 10) (pc := 388) (kc := kc + 0) (ks := ks + 0) (stk := []) (av := []) dL_law_388 ml_L_33 ok_X11_where ov_X11_where ⟨Nat.le_of_ble_eq_true rfl, Nat.le_of_ble_eq_true rfl⟩ rfl (Nat.lt_of_lt_of_le (by decide) w.1) w.2.1 rfl hX rfl (Nat.le_of_ble_eq_true rfl)) ?_
  refine J_aload_n (pc := 391) 3 dL_law_391 rfl rfl ?_
  refine JC_law (stk := [.int x]) s2 (lwv_okq wb i) ⟨trivial, trivial⟩ (J_callV (mi := mi_law) (mj := mi_X13_where) (a := 57) (ci := 12) (pc := 392) (kc := kc) (ks := ks) (stk := [.int x]) (av := []) dL_law_392 ml_L_36 ok_X13_where ov_X13_where ⟨Nat.le_of_ble_eq_true rfl, Nat.le_of_ble_eq_true rfl⟩ rfl (Nat.lt_of_lt_of_le (by decide) wb.1) wb.2.2.1 rfl hM rfl (Nat.le_of_ble_eq_true rfl)) ?_
  exact J_same (pc := 395) (tgt := 1874) dL_law_395 (by decide) kk
set_option maxRecDepth 100000 in
theorem lc_4 {kc ks : Nat} {h h1 h2 : JH} {i p0 p1 p2 p3 p4 p5 : Int32} {x : Int32} {o : Option (Option Value × JH)} (w : j_lw h) (wb : j_lw h1) (w6 : lw_six h i p0 p1 p2 p3 p4 p5) (s1 : h1.1.2.2.2 = h.1.2.2.2) (s2 : h2.1.2.2.2 = h1.1.2.2.2) (hX : JM mi_X11_gate 0 0 h [.ref 0, .int p1, .int p2] (some (some (.int x), h1))) (hM : JM mi_X13_gate 0 0 h1 [.ref 57, .int p1, .int p2] (some (some (.int x), h2))) (kk : J mi_law 601024 7293034 kc ks h2 1874 (lw_loc i) [] o) : J mi_law 601024 7293034 (kc + 0) (ks + 0) h 400 (lw_loc i) [] o := by
  have w6b := w6.to s1
  refine J_aload_n (pc := 400) 2 dL_law_400 rfl rfl ?_
  refine J_arg (pc := 401) (kv := 1) 1 0 dL_law_401 dL_law_402 dL_law_404 dL_law_405 dL_law_406 rfl rfl (by decide) w6.1.1 w6.1.2 ?_
  refine J_arg (pc := 407) (kv := 2) 1 0 dL_law_407 dL_law_408 dL_law_410 dL_law_411 dL_law_412 rfl rfl (by decide) w6.2.1.1 w6.2.1.2 ?_
  refine JC_law (stk := []) s1 (lwv_okq w i) trivial (J_callV (mi := mi_law) (mj := mi_X11_gate) (a := 0) (ci := 10) (pc := 413) (kc := kc + 0) (ks := ks + 0) (stk := []) (av := [.int p1, .int p2]) dL_law_413 ml_L_37 ok_X11_gate ov_X11_gate ⟨Nat.le_of_ble_eq_true rfl, Nat.le_of_ble_eq_true rfl⟩ rfl (Nat.lt_of_lt_of_le (by decide) w.1) w.2.1 rfl hX rfl (Nat.le_of_ble_eq_true rfl)) ?_
  refine J_aload_n (pc := 416) 3 dL_law_416 rfl rfl ?_
  refine J_arg (pc := 417) (kv := 1) 1 0 dL_law_417 dL_law_418 dL_law_420 dL_law_421 dL_law_422 rfl rfl (by decide) w6b.1.1 w6b.1.2 ?_
  refine J_arg (pc := 423) (kv := 2) 1 0 dL_law_423 dL_law_424 dL_law_426 dL_law_427 dL_law_428 rfl rfl (by decide) w6b.2.1.1 w6b.2.1.2 ?_
  refine JC_law (stk := [.int x]) s2 (lwv_okq wb i) ⟨trivial, trivial⟩ (J_callV (mi := mi_law) (mj := mi_X13_gate) (a := 57) (ci := 12) (pc := 429) (kc := kc) (ks := ks) (stk := [.int x]) (av := [.int p1, .int p2]) dL_law_429 ml_L_41 ok_X13_gate ov_X13_gate ⟨Nat.le_of_ble_eq_true rfl, Nat.le_of_ble_eq_true rfl⟩ rfl (Nat.lt_of_lt_of_le (by decide) wb.1) wb.2.2.1 rfl hM rfl (Nat.le_of_ble_eq_true rfl)) ?_
  exact J_same (pc := 432) (tgt := 1874) dL_law_432 (by decide) kk
set_option maxRecDepth 100000 in
theorem lc_5 {kc ks : Nat} {h h1 h2 : JH} {i p0 p1 p2 p3 p4 p5 : Int32} {x : Int32} {o : Option (Option Value × JH)} (w : j_lw h) (wb : j_lw h1) (w6 : lw_six h i p0 p1 p2 p3 p4 p5) (s1 : h1.1.2.2.2 = h.1.2.2.2) (s2 : h2.1.2.2.2 = h1.1.2.2.2) (hX : JM mi_X11_person 0 0 h [.ref 0, .int p1, .int p2] (some (some (.int x), h1))) (hM : JM mi_X13_person 0 0 h1 [.ref 57, .int p1, .int p2] (some (some (.int x), h2))) (kk : J mi_law 601024 7293034 kc ks h2 1874 (lw_loc i) [] o) : J mi_law 601024 7293034 (kc + 0) (ks + 0) h 437 (lw_loc i) [] o := by
  have w6b := w6.to s1
  refine J_aload_n (pc := 437) 2 dL_law_437 rfl rfl ?_
  refine J_arg (pc := 438) (kv := 1) 1 0 dL_law_438 dL_law_439 dL_law_441 dL_law_442 dL_law_443 rfl rfl (by decide) w6.1.1 w6.1.2 ?_
  refine J_arg (pc := 444) (kv := 2) 1 0 dL_law_444 dL_law_445 dL_law_447 dL_law_448 dL_law_449 rfl rfl (by decide) w6.2.1.1 w6.2.1.2 ?_
  refine JC_law (stk := []) s1 (lwv_okq w i) trivial (J_callV (mi := mi_law) (mj := mi_X11_person) (a := 0) (ci := 10) (pc := 450) (kc := kc + 0) (ks := ks + 0) (stk := []) (av := [.int p1, .int p2]) dL_law_450 ml_L_42 ok_X11_person ov_X11_person ⟨Nat.le_of_ble_eq_true rfl, Nat.le_of_ble_eq_true rfl⟩ rfl (Nat.lt_of_lt_of_le (by decide) w.1) w.2.1 rfl hX rfl (Nat.le_of_ble_eq_true rfl)) ?_
  refine J_aload_n (pc := 453) 3 dL_law_453 rfl rfl ?_
  refine J_arg (pc := 454) (kv := 1) 1 0 dL_law_454 dL_law_455 dL_law_457 dL_law_458 dL_law_459 rfl rfl (by decide) w6b.1.1 w6b.1.2 ?_
  refine J_arg (pc := 460) (kv := 2) 1 0 dL_law_460 dL_law_461 dL_law_463 dL_law_464 dL_law_465 rfl rfl (by decide) w6b.2.1.1 w6b.2.1.2 ?_
  refine JC_law (stk := [.int x]) s2 (lwv_okq wb i) ⟨trivial, trivial⟩ (J_callV (mi := mi_law) (mj := mi_X13_person) (a := 57) (ci := 12) (pc := 466) (kc := kc) (ks := ks) (stk := [.int x]) (av := [.int p1, .int p2]) dL_law_466 ml_L_45 ok_X13_person ov_X13_person ⟨Nat.le_of_ble_eq_true rfl, Nat.le_of_ble_eq_true rfl⟩ rfl (Nat.lt_of_lt_of_le (by decide) wb.1) wb.2.2.1 rfl hM rfl (Nat.le_of_ble_eq_true rfl)) ?_
  exact J_same (pc := 469) (tgt := 1874) dL_law_469 (by decide) kk
set_option maxRecDepth 100000 in
theorem lc_6 {kc ks : Nat} {h h1 h2 : JH} {i p0 p1 p2 p3 p4 p5 : Int32} {x : Int32} {o : Option (Option Value × JH)} (w : j_lw h) (wb : j_lw h1) (w6 : lw_six h i p0 p1 p2 p3 p4 p5) (s1 : h1.1.2.2.2 = h.1.2.2.2) (s2 : h2.1.2.2.2 = h1.1.2.2.2) (hX : JM mi_X11_firm 0 0 h [.ref 0, .int p1, .int p2] (some (some (.int x), h1))) (hM : JM mi_X13_firm 0 0 h1 [.ref 57, .int p1, .int p2] (some (some (.int x), h2))) (kk : J mi_law 601024 7293034 kc ks h2 1874 (lw_loc i) [] o) : J mi_law 601024 7293034 (kc + 0) (ks + 0) h 474 (lw_loc i) [] o := by
  have w6b := w6.to s1
  refine J_aload_n (pc := 474) 2 dL_law_474 rfl rfl ?_
  refine J_arg (pc := 475) (kv := 1) 1 0 dL_law_475 dL_law_476 dL_law_478 dL_law_479 dL_law_480 rfl rfl (by decide) w6.1.1 w6.1.2 ?_
  refine J_arg (pc := 481) (kv := 2) 1 0 dL_law_481 dL_law_482 dL_law_484 dL_law_485 dL_law_486 rfl rfl (by decide) w6.2.1.1 w6.2.1.2 ?_
  refine JC_law (stk := []) s1 (lwv_okq w i) trivial (J_callV (mi := mi_law) (mj := mi_X11_firm) (a := 0) (ci := 10) (pc := 487) (kc := kc + 0) (ks := ks + 0) (stk := []) (av := [.int p1, .int p2]) dL_law_487 ml_L_46 ok_X11_firm ov_X11_firm ⟨Nat.le_of_ble_eq_true rfl, Nat.le_of_ble_eq_true rfl⟩ rfl (Nat.lt_of_lt_of_le (by decide) w.1) w.2.1 rfl hX rfl (Nat.le_of_ble_eq_true rfl)) ?_
  refine J_aload_n (pc := 490) 3 dL_law_490 rfl rfl ?_
  refine J_arg (pc := 491) (kv := 1) 1 0 dL_law_491 dL_law_492 dL_law_494 dL_law_495 dL_law_496 rfl rfl (by decide) w6b.1.1 w6b.1.2 ?_
  refine J_arg (pc := 497) (kv := 2) 1 0 dL_law_497 dL_law_498 dL_law_500 dL_law_501 dL_law_502 rfl rfl (by decide) w6b.2.1.1 w6b.2.1.2 ?_
  refine JC_law (stk := [.int x]) s2 (lwv_okq wb i) ⟨trivial, trivial⟩ (J_callV (mi := mi_law) (mj := mi_X13_firm) (a := 57) (ci := 12) (pc := 503) (kc := kc) (ks := ks) (stk := [.int x]) (av := [.int p1, .int p2]) dL_law_503 ml_L_49 ok_X13_firm ov_X13_firm ⟨Nat.le_of_ble_eq_true rfl, Nat.le_of_ble_eq_true rfl⟩ rfl (Nat.lt_of_lt_of_le (by decide) wb.1) wb.2.2.1 rfl hM rfl (Nat.le_of_ble_eq_true rfl)) ?_
  exact J_same (pc := 506) (tgt := 1874) dL_law_506 (by decide) kk
set_option maxRecDepth 100000 in
theorem lc_7 {kc ks : Nat} {h h1 h2 : JH} {i p0 p1 p2 p3 p4 p5 : Int32} {x : Int32} {o : Option (Option Value × JH)} (w : j_lw h) (wb : j_lw h1) (w6 : lw_six h i p0 p1 p2 p3 p4 p5) (s1 : h1.1.2.2.2 = h.1.2.2.2) (s2 : h2.1.2.2.2 = h1.1.2.2.2) (hX : JM mi_X11_commons 0 0 h [.ref 0] (some (some (.int x), h1))) (hM : JM mi_X13_commons 0 0 h1 [.ref 57] (some (some (.int x), h2))) (kk : J mi_law 601024 7293034 kc ks h2 1874 (lw_loc i) [] o) : J mi_law 601024 7293034 (kc + 0) (ks + 0) h 511 (lw_loc i) [] o := by
  have w6b := w6.to s1
  refine J_aload_n (pc := 511) 2 dL_law_511 rfl rfl ?_
  refine JC_law (stk := []) s1 (lwv_okq w i) trivial (J_callV (mi := mi_law) (mj := mi_X11_commons) (a := 0) (ci := 10) (pc := 512) (kc := kc + 0) (ks := ks + 0) (stk := []) (av := []) dL_law_512 ml_L_50 ok_X11_commons ov_X11_commons ⟨Nat.le_of_ble_eq_true rfl, Nat.le_of_ble_eq_true rfl⟩ rfl (Nat.lt_of_lt_of_le (by decide) w.1) w.2.1 rfl hX rfl (Nat.le_of_ble_eq_true rfl)) ?_
  refine J_aload_n (pc := 515) 3 dL_law_515 rfl rfl ?_
  refine JC_law (stk := [.int x]) s2 (lwv_okq wb i) ⟨trivial, trivial⟩ (J_callV (mi := mi_law) (mj := mi_X13_commons) (a := 57) (ci := 12) (pc := 516) (kc := kc) (ks := ks) (stk := [.int x]) (av := []) dL_law_516 ml_L_53 ok_X13_commons ov_X13_commons ⟨Nat.le_of_ble_eq_true rfl, Nat.le_of_ble_eq_true rfl⟩ rfl (Nat.lt_of_lt_of_le (by decide) wb.1) wb.2.2.1 rfl hM rfl (Nat.le_of_ble_eq_true rfl)) ?_
  exact J_same (pc := 519) (tgt := 1874) dL_law_519 (by decide) kk
set_option maxRecDepth 100000 in
theorem lc_8 {kc ks : Nat} {h h1 h2 : JH} {i p0 p1 p2 p3 p4 p5 : Int32} {x : Int32} {o : Option (Option Value × JH)} (w : j_lw h) (wb : j_lw h1) (w6 : lw_six h i p0 p1 p2 p3 p4 p5) (s1 : h1.1.2.2.2 = h.1.2.2.2) (s2 : h2.1.2.2.2 = h1.1.2.2.2) (hX : JM mi_X11_richest 0 0 h [.ref 0] (some (some (.int x), h1))) (hM : JM mi_X13_richest 0 0 h1 [.ref 57] (some (some (.int x), h2))) (kk : J mi_law 601024 7293034 kc ks h2 1874 (lw_loc i) [] o) : J mi_law 601024 7293034 (kc + 0) (ks + 0) h 524 (lw_loc i) [] o := by
  have w6b := w6.to s1
  refine J_aload_n (pc := 524) 2 dL_law_524 rfl rfl ?_
  refine JC_law (stk := []) s1 (lwv_okq w i) trivial (J_callV (mi := mi_law) (mj := mi_X11_richest) (a := 0) (ci := 10) (pc := 525) (kc := kc + 0) (ks := ks + 0) (stk := []) (av := []) dL_law_525 ml_L_54 ok_X11_richest ov_X11_richest ⟨Nat.le_of_ble_eq_true rfl, Nat.le_of_ble_eq_true rfl⟩ rfl (Nat.lt_of_lt_of_le (by decide) w.1) w.2.1 rfl hX rfl (Nat.le_of_ble_eq_true rfl)) ?_
  refine J_aload_n (pc := 528) 3 dL_law_528 rfl rfl ?_
  refine JC_law (stk := [.int x]) s2 (lwv_okq wb i) ⟨trivial, trivial⟩ (J_callV (mi := mi_law) (mj := mi_X13_richest) (a := 57) (ci := 12) (pc := 529) (kc := kc) (ks := ks) (stk := [.int x]) (av := []) dL_law_529 ml_L_57 ok_X13_richest ov_X13_richest ⟨Nat.le_of_ble_eq_true rfl, Nat.le_of_ble_eq_true rfl⟩ rfl (Nat.lt_of_lt_of_le (by decide) wb.1) wb.2.2.1 rfl hM rfl (Nat.le_of_ble_eq_true rfl)) ?_
  exact J_same (pc := 532) (tgt := 1874) dL_law_532 (by decide) kk
set_option maxRecDepth 100000 in
theorem lc_9 {kc ks : Nat} {h h1 h2 : JH} {i p0 p1 p2 p3 p4 p5 : Int32} {x : Int32} {o : Option (Option Value × JH)} (w : j_lw h) (wb : j_lw h1) (w6 : lw_six h i p0 p1 p2 p3 p4 p5) (s1 : h1.1.2.2.2 = h.1.2.2.2) (s2 : h2.1.2.2.2 = h1.1.2.2.2) (hX : JM mi_X11_ground 0 0 h [.ref 0] (some (some (.int x), h1))) (hM : JM mi_X13_ground 0 0 h1 [.ref 57] (some (some (.int x), h2))) (kk : J mi_law 601024 7293034 kc ks h2 1874 (lw_loc i) [] o) : J mi_law 601024 7293034 (kc + 0) (ks + 0) h 537 (lw_loc i) [] o := by
  have w6b := w6.to s1
  refine J_aload_n (pc := 537) 2 dL_law_537 rfl rfl ?_
  refine JC_law (stk := []) s1 (lwv_okq w i) trivial (J_callV (mi := mi_law) (mj := mi_X11_ground) (a := 0) (ci := 10) (pc := 538) (kc := kc + 0) (ks := ks + 0) (stk := []) (av := []) dL_law_538 ml_L_58 ok_X11_ground ov_X11_ground ⟨Nat.le_of_ble_eq_true rfl, Nat.le_of_ble_eq_true rfl⟩ rfl (Nat.lt_of_lt_of_le (by decide) w.1) w.2.1 rfl hX rfl (Nat.le_of_ble_eq_true rfl)) ?_
  refine J_aload_n (pc := 541) 3 dL_law_541 rfl rfl ?_
  refine JC_law (stk := [.int x]) s2 (lwv_okq wb i) ⟨trivial, trivial⟩ (J_callV (mi := mi_law) (mj := mi_X13_ground) (a := 57) (ci := 12) (pc := 542) (kc := kc) (ks := ks) (stk := [.int x]) (av := []) dL_law_542 ml_L_61 ok_X13_ground ov_X13_ground ⟨Nat.le_of_ble_eq_true rfl, Nat.le_of_ble_eq_true rfl⟩ rfl (Nat.lt_of_lt_of_le (by decide) wb.1) wb.2.2.1 rfl hM rfl (Nat.le_of_ble_eq_true rfl)) ?_
  exact J_same (pc := 545) (tgt := 1874) dL_law_545 (by decide) kk
set_option maxRecDepth 100000 in
theorem lc_10 {kc ks : Nat} {h h1 h2 : JH} {i p0 p1 p2 p3 p4 p5 : Int32} {x : Int32} {o : Option (Option Value × JH)} (w : j_lw h) (wb : j_lw h1) (w6 : lw_six h i p0 p1 p2 p3 p4 p5) (s1 : h1.1.2.2.2 = h.1.2.2.2) (s2 : h2.1.2.2.2 = h1.1.2.2.2) (hX : JM mi_X11_hasIf 0 0 h [.ref 0, .int p1, .int p2, .int p3] (some (some (.int x), h1))) (hM : JM mi_X13_hasIf 0 0 h1 [.ref 57, .int p1, .int p2, .int p3] (some (some (.int x), h2))) (kk : J mi_law 601024 7293034 kc ks h2 1874 (lw_loc i) [] o) : J mi_law 601024 7293034 (kc + 0) (ks + 0) h 550 (lw_loc i) [] o := by
  have w6b := w6.to s1
  refine J_aload_n (pc := 550) 2 dL_law_550 rfl rfl ?_
  refine J_arg (pc := 551) (kv := 1) 1 0 dL_law_551 dL_law_552 dL_law_554 dL_law_555 dL_law_556 rfl rfl (by decide) w6.1.1 w6.1.2 ?_
  refine J_arg (pc := 557) (kv := 2) 1 0 dL_law_557 dL_law_558 dL_law_560 dL_law_561 dL_law_562 rfl rfl (by decide) w6.2.1.1 w6.2.1.2 ?_
  refine J_arg (pc := 563) (kv := 3) 1 0 dL_law_563 dL_law_564 dL_law_566 dL_law_567 dL_law_568 rfl rfl (by decide) w6.2.2.1.1 w6.2.2.1.2 ?_
  refine JC_law (stk := []) s1 (lwv_okq w i) trivial (J_callV (mi := mi_law) (mj := mi_X11_hasIf) (a := 0) (ci := 10) (pc := 569) (kc := kc + 0) (ks := ks + 0) (stk := []) (av := [.int p1, .int p2, .int p3]) dL_law_569 ml_L_62 ok_X11_hasIf ov_X11_hasIf ⟨Nat.le_of_ble_eq_true rfl, Nat.le_of_ble_eq_true rfl⟩ rfl (Nat.lt_of_lt_of_le (by decide) w.1) w.2.1 rfl hX rfl (Nat.le_of_ble_eq_true rfl)) ?_
  refine J_aload_n (pc := 572) 3 dL_law_572 rfl rfl ?_
  refine J_arg (pc := 573) (kv := 1) 1 0 dL_law_573 dL_law_574 dL_law_576 dL_law_577 dL_law_578 rfl rfl (by decide) w6b.1.1 w6b.1.2 ?_
  refine J_arg (pc := 579) (kv := 2) 1 0 dL_law_579 dL_law_580 dL_law_582 dL_law_583 dL_law_584 rfl rfl (by decide) w6b.2.1.1 w6b.2.1.2 ?_
  refine J_arg (pc := 585) (kv := 3) 1 0 dL_law_585 dL_law_586 dL_law_588 dL_law_589 dL_law_590 rfl rfl (by decide) w6b.2.2.1.1 w6b.2.2.1.2 ?_
  refine JC_law (stk := [.int x]) s2 (lwv_okq wb i) ⟨trivial, trivial⟩ (J_callV (mi := mi_law) (mj := mi_X13_hasIf) (a := 57) (ci := 12) (pc := 591) (kc := kc) (ks := ks) (stk := [.int x]) (av := [.int p1, .int p2, .int p3]) dL_law_591 ml_L_66 ok_X13_hasIf ov_X13_hasIf ⟨Nat.le_of_ble_eq_true rfl, Nat.le_of_ble_eq_true rfl⟩ rfl (Nat.lt_of_lt_of_le (by decide) wb.1) wb.2.2.1 rfl hM rfl (Nat.le_of_ble_eq_true rfl)) ?_
  exact J_same (pc := 594) (tgt := 1874) dL_law_594 (by decide) kk
set_option maxRecDepth 100000 in
theorem lc_11 {kc ks : Nat} {h h1 h2 : JH} {i p0 p1 p2 p3 p4 p5 : Int32} {x : Int32} {o : Option (Option Value × JH)} (w : j_lw h) (wb : j_lw h1) (w6 : lw_six h i p0 p1 p2 p3 p4 p5) (s1 : h1.1.2.2.2 = h.1.2.2.2) (s2 : h2.1.2.2.2 = h1.1.2.2.2) (hX : JM mi_X11_can 0 0 h [.ref 0, .int p1] (some (some (.int x), h1))) (hM : JM mi_X13_can 0 0 h1 [.ref 57, .int p1] (some (some (.int x), h2))) (kk : J mi_law 601024 7293034 kc ks h2 1874 (lw_loc i) [] o) : J mi_law 601024 7293034 (kc + 0) (ks + 0) h 599 (lw_loc i) [] o := by
  have w6b := w6.to s1
  refine J_aload_n (pc := 599) 2 dL_law_599 rfl rfl ?_
  refine J_arg (pc := 600) (kv := 1) 1 0 dL_law_600 dL_law_601 dL_law_603 dL_law_604 dL_law_605 rfl rfl (by decide) w6.1.1 w6.1.2 ?_
  refine JC_law (stk := []) s1 (lwv_okq w i) trivial (J_callV (mi := mi_law) (mj := mi_X11_can) (a := 0) (ci := 10) (pc := 606) (kc := kc + 0) (ks := ks + 0) (stk := []) (av := [.int p1]) dL_law_606 ml_L_67 ok_X11_can ov_X11_can ⟨Nat.le_of_ble_eq_true rfl, Nat.le_of_ble_eq_true rfl⟩ rfl (Nat.lt_of_lt_of_le (by decide) w.1) w.2.1 rfl hX rfl (Nat.le_of_ble_eq_true rfl)) ?_
  refine J_aload_n (pc := 609) 3 dL_law_609 rfl rfl ?_
  refine J_arg (pc := 610) (kv := 1) 1 0 dL_law_610 dL_law_611 dL_law_613 dL_law_614 dL_law_615 rfl rfl (by decide) w6b.1.1 w6b.1.2 ?_
  refine JC_law (stk := [.int x]) s2 (lwv_okq wb i) ⟨trivial, trivial⟩ (J_callV (mi := mi_law) (mj := mi_X13_can) (a := 57) (ci := 12) (pc := 616) (kc := kc) (ks := ks) (stk := [.int x]) (av := [.int p1]) dL_law_616 ml_L_70 ok_X13_can ov_X13_can ⟨Nat.le_of_ble_eq_true rfl, Nat.le_of_ble_eq_true rfl⟩ rfl (Nat.lt_of_lt_of_le (by decide) wb.1) wb.2.2.1 rfl hM rfl (Nat.le_of_ble_eq_true rfl)) ?_
  exact J_same (pc := 619) (tgt := 1874) dL_law_619 (by decide) kk
set_option maxRecDepth 100000 in
theorem lc_12 {kc ks : Nat} {h h1 h2 : JH} {i p0 p1 p2 p3 p4 p5 : Int32} {x : Int32} {o : Option (Option Value × JH)} (w : j_lw h) (wb : j_lw h1) (w6 : lw_six h i p0 p1 p2 p3 p4 p5) (s1 : h1.1.2.2.2 = h.1.2.2.2) (s2 : h2.1.2.2.2 = h1.1.2.2.2) (hX : JM mi_X11_errand 0 0 h [.ref 0] (some (some (.int x), h1))) (hM : JM mi_X13_errand 0 0 h1 [.ref 57] (some (some (.int x), h2))) (kk : J mi_law 601024 7293034 kc ks h2 1874 (lw_loc i) [] o) : J mi_law 601024 7293034 (kc + 0) (ks + 0) h 624 (lw_loc i) [] o := by
  have w6b := w6.to s1
  refine J_aload_n (pc := 624) 2 dL_law_624 rfl rfl ?_
  refine JC_law (stk := []) s1 (lwv_okq w i) trivial (J_callV (mi := mi_law) (mj := mi_X11_errand) (a := 0) (ci := 10) (pc := 625) (kc := kc + 0) (ks := ks + 0) (stk := []) (av := []) dL_law_625 ml_L_71 ok_X11_errand ov_X11_errand ⟨Nat.le_of_ble_eq_true rfl, Nat.le_of_ble_eq_true rfl⟩ rfl (Nat.lt_of_lt_of_le (by decide) w.1) w.2.1 rfl hX rfl (Nat.le_of_ble_eq_true rfl)) ?_
  refine J_aload_n (pc := 628) 3 dL_law_628 rfl rfl ?_
  refine JC_law (stk := [.int x]) s2 (lwv_okq wb i) ⟨trivial, trivial⟩ (J_callV (mi := mi_law) (mj := mi_X13_errand) (a := 57) (ci := 12) (pc := 629) (kc := kc) (ks := ks) (stk := [.int x]) (av := []) dL_law_629 ml_L_74 ok_X13_errand ov_X13_errand ⟨Nat.le_of_ble_eq_true rfl, Nat.le_of_ble_eq_true rfl⟩ rfl (Nat.lt_of_lt_of_le (by decide) wb.1) wb.2.2.1 rfl hM rfl (Nat.le_of_ble_eq_true rfl)) ?_
  exact J_same (pc := 632) (tgt := 1874) dL_law_632 (by decide) kk
set_option maxRecDepth 100000 in
theorem lc_13 {kc ks : Nat} {h h1 h2 : JH} {i p0 p1 p2 p3 p4 p5 : Int32} {x : Int32} {o : Option (Option Value × JH)} (w : j_lw h) (wb : j_lw h1) (w6 : lw_six h i p0 p1 p2 p3 p4 p5) (s1 : h1.1.2.2.2 = h.1.2.2.2) (s2 : h2.1.2.2.2 = h1.1.2.2.2) (hX : JM mi_X11_errandAt 0 0 h [.ref 0, .int p1] (some (some (.int x), h1))) (hM : JM mi_X13_errandAt 0 0 h1 [.ref 57, .int p1] (some (some (.int x), h2))) (kk : J mi_law 601024 7293034 kc ks h2 1874 (lw_loc i) [] o) : J mi_law 601024 7293034 (kc + 0) (ks + 0) h 637 (lw_loc i) [] o := by
  have w6b := w6.to s1
  refine J_aload_n (pc := 637) 2 dL_law_637 rfl rfl ?_
  refine J_arg (pc := 638) (kv := 1) 1 0 dL_law_638 dL_law_639 dL_law_641 dL_law_642 dL_law_643 rfl rfl (by decide) w6.1.1 w6.1.2 ?_
  refine JC_law (stk := []) s1 (lwv_okq w i) trivial (J_callV (mi := mi_law) (mj := mi_X11_errandAt) (a := 0) (ci := 10) (pc := 644) (kc := kc + 0) (ks := ks + 0) (stk := []) (av := [.int p1]) dL_law_644 ml_L_75 ok_X11_errandAt ov_X11_errandAt ⟨Nat.le_of_ble_eq_true rfl, Nat.le_of_ble_eq_true rfl⟩ rfl (Nat.lt_of_lt_of_le (by decide) w.1) w.2.1 rfl hX rfl (Nat.le_of_ble_eq_true rfl)) ?_
  refine J_aload_n (pc := 647) 3 dL_law_647 rfl rfl ?_
  refine J_arg (pc := 648) (kv := 1) 1 0 dL_law_648 dL_law_649 dL_law_651 dL_law_652 dL_law_653 rfl rfl (by decide) w6b.1.1 w6b.1.2 ?_
  refine JC_law (stk := [.int x]) s2 (lwv_okq wb i) ⟨trivial, trivial⟩ (J_callV (mi := mi_law) (mj := mi_X13_errandAt) (a := 57) (ci := 12) (pc := 654) (kc := kc) (ks := ks) (stk := [.int x]) (av := [.int p1]) dL_law_654 ml_L_78 ok_X13_errandAt ov_X13_errandAt ⟨Nat.le_of_ble_eq_true rfl, Nat.le_of_ble_eq_true rfl⟩ rfl (Nat.lt_of_lt_of_le (by decide) wb.1) wb.2.2.1 rfl hM rfl (Nat.le_of_ble_eq_true rfl)) ?_
  exact J_same (pc := 657) (tgt := 1874) dL_law_657 (by decide) kk
set_option maxRecDepth 100000 in
theorem lc_14 {kc ks : Nat} {h h1 h2 : JH} {i p0 p1 p2 p3 p4 p5 : Int32} {x : Int32} {o : Option (Option Value × JH)} (w : j_lw h) (wb : j_lw h1) (w6 : lw_six h i p0 p1 p2 p3 p4 p5) (s1 : h1.1.2.2.2 = h.1.2.2.2) (s2 : h2.1.2.2.2 = h1.1.2.2.2) (hX : JM mi_X11_met 0 0 h [.ref 0] (some (some (.int x), h1))) (hM : JM mi_X13_met 0 0 h1 [.ref 57] (some (some (.int x), h2))) (kk : J mi_law 601024 7293034 kc ks h2 1874 (lw_loc i) [] o) : J mi_law 601024 7293034 (kc + 0) (ks + 0) h 662 (lw_loc i) [] o := by
  have w6b := w6.to s1
  refine J_aload_n (pc := 662) 2 dL_law_662 rfl rfl ?_
  refine JC_law (stk := []) s1 (lwv_okq w i) trivial (J_callV (mi := mi_law) (mj := mi_X11_met) (a := 0) (ci := 10) (pc := 663) (kc := kc + 0) (ks := ks + 0) (stk := []) (av := []) dL_law_663 ml_L_79 ok_X11_met ov_X11_met ⟨Nat.le_of_ble_eq_true rfl, Nat.le_of_ble_eq_true rfl⟩ rfl (Nat.lt_of_lt_of_le (by decide) w.1) w.2.1 rfl hX rfl (Nat.le_of_ble_eq_true rfl)) ?_
  refine J_aload_n (pc := 666) 3 dL_law_666 rfl rfl ?_
  refine JC_law (stk := [.int x]) s2 (lwv_okq wb i) ⟨trivial, trivial⟩ (J_callV (mi := mi_law) (mj := mi_X13_met) (a := 57) (ci := 12) (pc := 667) (kc := kc) (ks := ks) (stk := [.int x]) (av := []) dL_law_667 ml_L_82 ok_X13_met ov_X13_met ⟨Nat.le_of_ble_eq_true rfl, Nat.le_of_ble_eq_true rfl⟩ rfl (Nat.lt_of_lt_of_le (by decide) wb.1) wb.2.2.1 rfl hM rfl (Nat.le_of_ble_eq_true rfl)) ?_
  exact J_same (pc := 670) (tgt := 1874) dL_law_670 (by decide) kk
set_option maxRecDepth 100000 in
theorem lc_15 {kc ks : Nat} {h h1 h2 : JH} {i p0 p1 p2 p3 p4 p5 : Int32} {x : Int32} {o : Option (Option Value × JH)} (w : j_lw h) (wb : j_lw h1) (w6 : lw_six h i p0 p1 p2 p3 p4 p5) (s1 : h1.1.2.2.2 = h.1.2.2.2) (s2 : h2.1.2.2.2 = h1.1.2.2.2) (hX : JM mi_X11_movesFor 0 0 h [.ref 0, .int p1, .int p2] (some (some (.int x), h1))) (hM : JM mi_X13_movesFor 0 0 h1 [.ref 57, .int p1, .int p2] (some (some (.int x), h2))) (kk : J mi_law 601024 7293034 kc ks h2 1874 (lw_loc i) [] o) : J mi_law 601024 7293034 (kc + 0) (ks + 0) h 675 (lw_loc i) [] o := by
  have w6b := w6.to s1
  refine J_aload_n (pc := 675) 2 dL_law_675 rfl rfl ?_
  refine J_arg (pc := 676) (kv := 1) 1 0 dL_law_676 dL_law_677 dL_law_679 dL_law_680 dL_law_681 rfl rfl (by decide) w6.1.1 w6.1.2 ?_
  refine J_arg (pc := 682) (kv := 2) 1 0 dL_law_682 dL_law_683 dL_law_685 dL_law_686 dL_law_687 rfl rfl (by decide) w6.2.1.1 w6.2.1.2 ?_
  refine JC_law (stk := []) s1 (lwv_okq w i) trivial (J_callV (mi := mi_law) (mj := mi_X11_movesFor) (a := 0) (ci := 10) (pc := 688) (kc := kc + 0) (ks := ks + 0) (stk := []) (av := [.int p1, .int p2]) dL_law_688 ml_L_83 ok_X11_movesFor ov_X11_movesFor ⟨Nat.le_of_ble_eq_true rfl, Nat.le_of_ble_eq_true rfl⟩ rfl (Nat.lt_of_lt_of_le (by decide) w.1) w.2.1 rfl hX rfl (Nat.le_of_ble_eq_true rfl)) ?_
  refine J_aload_n (pc := 691) 3 dL_law_691 rfl rfl ?_
  refine J_arg (pc := 692) (kv := 1) 1 0 dL_law_692 dL_law_693 dL_law_695 dL_law_696 dL_law_697 rfl rfl (by decide) w6b.1.1 w6b.1.2 ?_
  refine J_arg (pc := 698) (kv := 2) 1 0 dL_law_698 dL_law_699 dL_law_701 dL_law_702 dL_law_703 rfl rfl (by decide) w6b.2.1.1 w6b.2.1.2 ?_
  refine JC_law (stk := [.int x]) s2 (lwv_okq wb i) ⟨trivial, trivial⟩ (J_callV (mi := mi_law) (mj := mi_X13_movesFor) (a := 57) (ci := 12) (pc := 704) (kc := kc) (ks := ks) (stk := [.int x]) (av := [.int p1, .int p2]) dL_law_704 ml_L_86 ok_X13_movesFor ov_X13_movesFor ⟨Nat.le_of_ble_eq_true rfl, Nat.le_of_ble_eq_true rfl⟩ rfl (Nat.lt_of_lt_of_le (by decide) wb.1) wb.2.2.1 rfl hM rfl (Nat.le_of_ble_eq_true rfl)) ?_
  exact J_same (pc := 707) (tgt := 1874) dL_law_707 (by decide) kk
set_option maxRecDepth 100000 in
theorem lc_16 {kc ks : Nat} {h h1 h2 : JH} {i p0 p1 p2 p3 p4 p5 : Int32} {x : Int32} {o : Option (Option Value × JH)} (w : j_lw h) (wb : j_lw h1) (w6 : lw_six h i p0 p1 p2 p3 p4 p5) (s1 : h1.1.2.2.2 = h.1.2.2.2) (s2 : h2.1.2.2.2 = h1.1.2.2.2) (hX : JM mi_X11_mostBy 0 0 h [.ref 0, .int p1, .int p2] (some (some (.int x), h1))) (hM : JM mi_X13_mostBy 0 0 h1 [.ref 57, .int p1, .int p2] (some (some (.int x), h2))) (kk : J mi_law 601024 7293034 kc ks h2 1874 (lw_loc i) [] o) : J mi_law 601024 7293034 (kc + 0) (ks + 0) h 712 (lw_loc i) [] o := by
  have w6b := w6.to s1
  refine J_aload_n (pc := 712) 2 dL_law_712 rfl rfl ?_
  refine J_arg (pc := 713) (kv := 1) 1 0 dL_law_713 dL_law_714 dL_law_716 dL_law_717 dL_law_718 rfl rfl (by decide) w6.1.1 w6.1.2 ?_
  refine J_arg (pc := 719) (kv := 2) 1 0 dL_law_719 dL_law_720 dL_law_722 dL_law_723 dL_law_724 rfl rfl (by decide) w6.2.1.1 w6.2.1.2 ?_
  refine JC_law (stk := []) s1 (lwv_okq w i) trivial (J_callV (mi := mi_law) (mj := mi_X11_mostBy) (a := 0) (ci := 10) (pc := 725) (kc := kc + 0) (ks := ks + 0) (stk := []) (av := [.int p1, .int p2]) dL_law_725 ml_L_87 ok_X11_mostBy ov_X11_mostBy ⟨Nat.le_of_ble_eq_true rfl, Nat.le_of_ble_eq_true rfl⟩ rfl (Nat.lt_of_lt_of_le (by decide) w.1) w.2.1 rfl hX rfl (Nat.le_of_ble_eq_true rfl)) ?_
  refine J_aload_n (pc := 728) 3 dL_law_728 rfl rfl ?_
  refine J_arg (pc := 729) (kv := 1) 1 0 dL_law_729 dL_law_730 dL_law_732 dL_law_733 dL_law_734 rfl rfl (by decide) w6b.1.1 w6b.1.2 ?_
  refine J_arg (pc := 735) (kv := 2) 1 0 dL_law_735 dL_law_736 dL_law_738 dL_law_739 dL_law_740 rfl rfl (by decide) w6b.2.1.1 w6b.2.1.2 ?_
  refine JC_law (stk := [.int x]) s2 (lwv_okq wb i) ⟨trivial, trivial⟩ (J_callV (mi := mi_law) (mj := mi_X13_mostBy) (a := 57) (ci := 12) (pc := 741) (kc := kc) (ks := ks) (stk := [.int x]) (av := [.int p1, .int p2]) dL_law_741 ml_L_90 ok_X13_mostBy ov_X13_mostBy ⟨Nat.le_of_ble_eq_true rfl, Nat.le_of_ble_eq_true rfl⟩ rfl (Nat.lt_of_lt_of_le (by decide) wb.1) wb.2.2.1 rfl hM rfl (Nat.le_of_ble_eq_true rfl)) ?_
  exact J_same (pc := 744) (tgt := 1874) dL_law_744 (by decide) kk
set_option maxRecDepth 100000 in
theorem lc_17 {kc ks : Nat} {h h1 h2 : JH} {i p0 p1 p2 p3 p4 p5 : Int32} {x : Int32} {o : Option (Option Value × JH)} (w : j_lw h) (wb : j_lw h1) (w6 : lw_six h i p0 p1 p2 p3 p4 p5) (s1 : h1.1.2.2.2 = h.1.2.2.2) (s2 : h2.1.2.2.2 = h1.1.2.2.2) (hX : JM mi_X11_reach 0 0 h [.ref 0] (some (some (.int x), h1))) (hM : JM mi_X13_reach 0 0 h1 [.ref 57] (some (some (.int x), h2))) (kk : J mi_law 601024 7293034 kc ks h2 1874 (lw_loc i) [] o) : J mi_law 601024 7293034 (kc + 0) (ks + 0) h 749 (lw_loc i) [] o := by
  have w6b := w6.to s1
  refine J_aload_n (pc := 749) 2 dL_law_749 rfl rfl ?_
  refine JC_law (stk := []) s1 (lwv_okq w i) trivial (J_callV (mi := mi_law) (mj := mi_X11_reach) (a := 0) (ci := 10) (pc := 750) (kc := kc + 0) (ks := ks + 0) (stk := []) (av := []) dL_law_750 ml_L_91 ok_X11_reach ov_X11_reach ⟨Nat.le_of_ble_eq_true rfl, Nat.le_of_ble_eq_true rfl⟩ rfl (Nat.lt_of_lt_of_le (by decide) w.1) w.2.1 rfl hX rfl (Nat.le_of_ble_eq_true rfl)) ?_
  refine J_aload_n (pc := 753) 3 dL_law_753 rfl rfl ?_
  refine JC_law (stk := [.int x]) s2 (lwv_okq wb i) ⟨trivial, trivial⟩ (J_callV (mi := mi_law) (mj := mi_X13_reach) (a := 57) (ci := 12) (pc := 754) (kc := kc) (ks := ks) (stk := [.int x]) (av := []) dL_law_754 ml_L_94 ok_X13_reach ov_X13_reach ⟨Nat.le_of_ble_eq_true rfl, Nat.le_of_ble_eq_true rfl⟩ rfl (Nat.lt_of_lt_of_le (by decide) wb.1) wb.2.2.1 rfl hM rfl (Nat.le_of_ble_eq_true rfl)) ?_
  exact J_same (pc := 757) (tgt := 1874) dL_law_757 (by decide) kk
set_option maxRecDepth 100000 in
theorem lc_18 {kc ks : Nat} {h h1 h2 : JH} {i p0 p1 p2 p3 p4 p5 : Int32} {x : Int32} {o : Option (Option Value × JH)} (w : j_lw h) (wb : j_lw h1) (w6 : lw_six h i p0 p1 p2 p3 p4 p5) (s1 : h1.1.2.2.2 = h.1.2.2.2) (s2 : h2.1.2.2.2 = h1.1.2.2.2) (hX : JM mi_X11_cover 0 0 h [.ref 0] (some (some (.int x), h1))) (hM : JM mi_X13_cover 0 0 h1 [.ref 57] (some (some (.int x), h2))) (kk : J mi_law 601024 7293034 kc ks h2 1874 (lw_loc i) [] o) : J mi_law 601024 7293034 (kc + 0) (ks + 0) h 762 (lw_loc i) [] o := by
  have w6b := w6.to s1
  refine J_aload_n (pc := 762) 2 dL_law_762 rfl rfl ?_
  refine JC_law (stk := []) s1 (lwv_okq w i) trivial (J_callV (mi := mi_law) (mj := mi_X11_cover) (a := 0) (ci := 10) (pc := 763) (kc := kc + 0) (ks := ks + 0) (stk := []) (av := []) dL_law_763 ml_L_95 ok_X11_cover ov_X11_cover ⟨Nat.le_of_ble_eq_true rfl, Nat.le_of_ble_eq_true rfl⟩ rfl (Nat.lt_of_lt_of_le (by decide) w.1) w.2.1 rfl hX rfl (Nat.le_of_ble_eq_true rfl)) ?_
  refine J_aload_n (pc := 766) 3 dL_law_766 rfl rfl ?_
  refine JC_law (stk := [.int x]) s2 (lwv_okq wb i) ⟨trivial, trivial⟩ (J_callV (mi := mi_law) (mj := mi_X13_cover) (a := 57) (ci := 12) (pc := 767) (kc := kc) (ks := ks) (stk := [.int x]) (av := []) dL_law_767 ml_L_98 ok_X13_cover ov_X13_cover ⟨Nat.le_of_ble_eq_true rfl, Nat.le_of_ble_eq_true rfl⟩ rfl (Nat.lt_of_lt_of_le (by decide) wb.1) wb.2.2.1 rfl hM rfl (Nat.le_of_ble_eq_true rfl)) ?_
  exact J_same (pc := 770) (tgt := 1874) dL_law_770 (by decide) kk
set_option maxRecDepth 100000 in
theorem lc_19 {kc ks : Nat} {h h1 h2 : JH} {i p0 p1 p2 p3 p4 p5 : Int32} {x : Int32} {o : Option (Option Value × JH)} (w : j_lw h) (wb : j_lw h1) (w6 : lw_six h i p0 p1 p2 p3 p4 p5) (s1 : h1.1.2.2.2 = h.1.2.2.2) (s2 : h2.1.2.2.2 = h1.1.2.2.2) (hX : JM mi_X11_coverAt 0 0 h [.ref 0, .int p1] (some (some (.int x), h1))) (hM : JM mi_X13_coverAt 0 0 h1 [.ref 57, .int p1] (some (some (.int x), h2))) (kk : J mi_law 601024 7293034 kc ks h2 1874 (lw_loc i) [] o) : J mi_law 601024 7293034 (kc + 0) (ks + 0) h 775 (lw_loc i) [] o := by
  have w6b := w6.to s1
  refine J_aload_n (pc := 775) 2 dL_law_775 rfl rfl ?_
  refine J_arg (pc := 776) (kv := 1) 1 0 dL_law_776 dL_law_777 dL_law_779 dL_law_780 dL_law_781 rfl rfl (by decide) w6.1.1 w6.1.2 ?_
  refine JC_law (stk := []) s1 (lwv_okq w i) trivial (J_callV (mi := mi_law) (mj := mi_X11_coverAt) (a := 0) (ci := 10) (pc := 782) (kc := kc + 0) (ks := ks + 0) (stk := []) (av := [.int p1]) dL_law_782 ml_L_99 ok_X11_coverAt ov_X11_coverAt ⟨Nat.le_of_ble_eq_true rfl, Nat.le_of_ble_eq_true rfl⟩ rfl (Nat.lt_of_lt_of_le (by decide) w.1) w.2.1 rfl hX rfl (Nat.le_of_ble_eq_true rfl)) ?_
  refine J_aload_n (pc := 785) 3 dL_law_785 rfl rfl ?_
  refine J_arg (pc := 786) (kv := 1) 1 0 dL_law_786 dL_law_787 dL_law_789 dL_law_790 dL_law_791 rfl rfl (by decide) w6b.1.1 w6b.1.2 ?_
  refine JC_law (stk := [.int x]) s2 (lwv_okq wb i) ⟨trivial, trivial⟩ (J_callV (mi := mi_law) (mj := mi_X13_coverAt) (a := 57) (ci := 12) (pc := 792) (kc := kc) (ks := ks) (stk := [.int x]) (av := [.int p1]) dL_law_792 ml_L_102 ok_X13_coverAt ov_X13_coverAt ⟨Nat.le_of_ble_eq_true rfl, Nat.le_of_ble_eq_true rfl⟩ rfl (Nat.lt_of_lt_of_le (by decide) wb.1) wb.2.2.1 rfl hM rfl (Nat.le_of_ble_eq_true rfl)) ?_
  exact J_same (pc := 795) (tgt := 1874) dL_law_795 (by decide) kk
set_option maxRecDepth 100000 in
theorem lc_20 {kc ks : Nat} {h h1 h2 : JH} {i p0 p1 p2 p3 p4 p5 : Int32} {x : Int32} {o : Option (Option Value × JH)} (w : j_lw h) (wb : j_lw h1) (w6 : lw_six h i p0 p1 p2 p3 p4 p5) (s1 : h1.1.2.2.2 = h.1.2.2.2) (s2 : h2.1.2.2.2 = h1.1.2.2.2) (hX : JM mi_X11_stills 0 0 h [.ref 0] (some (some (.int x), h1))) (hM : JM mi_X13_stills 0 0 h1 [.ref 57] (some (some (.int x), h2))) (kk : J mi_law 601024 7293034 kc ks h2 1874 (lw_loc i) [] o) : J mi_law 601024 7293034 (kc + 0) (ks + 0) h 800 (lw_loc i) [] o := by
  have w6b := w6.to s1
  refine J_aload_n (pc := 800) 2 dL_law_800 rfl rfl ?_
  refine JC_law (stk := []) s1 (lwv_okq w i) trivial (J_callV (mi := mi_law) (mj := mi_X11_stills) (a := 0) (ci := 10) (pc := 801) (kc := kc + 0) (ks := ks + 0) (stk := []) (av := []) dL_law_801 ml_L_103 ok_X11_stills ov_X11_stills ⟨Nat.le_of_ble_eq_true rfl, Nat.le_of_ble_eq_true rfl⟩ rfl (Nat.lt_of_lt_of_le (by decide) w.1) w.2.1 rfl hX rfl (Nat.le_of_ble_eq_true rfl)) ?_
  refine J_aload_n (pc := 804) 3 dL_law_804 rfl rfl ?_
  refine JC_law (stk := [.int x]) s2 (lwv_okq wb i) ⟨trivial, trivial⟩ (J_callV (mi := mi_law) (mj := mi_X13_stills) (a := 57) (ci := 12) (pc := 805) (kc := kc) (ks := ks) (stk := [.int x]) (av := []) dL_law_805 ml_L_106 ok_X13_stills ov_X13_stills ⟨Nat.le_of_ble_eq_true rfl, Nat.le_of_ble_eq_true rfl⟩ rfl (Nat.lt_of_lt_of_le (by decide) wb.1) wb.2.2.1 rfl hM rfl (Nat.le_of_ble_eq_true rfl)) ?_
  exact J_same (pc := 808) (tgt := 1874) dL_law_808 (by decide) kk
set_option maxRecDepth 100000 in
theorem lc_21 {kc ks : Nat} {h h1 h2 : JH} {i p0 p1 p2 p3 p4 p5 : Int32} {x : Int32} {o : Option (Option Value × JH)} (w : j_lw h) (wb : j_lw h1) (w6 : lw_six h i p0 p1 p2 p3 p4 p5) (s1 : h1.1.2.2.2 = h.1.2.2.2) (s2 : h2.1.2.2.2 = h1.1.2.2.2) (hX : JM mi_X11_isStill 0 0 h [.ref 0] (some (some (.int x), h1))) (hM : JM mi_X13_isStill 0 0 h1 [.ref 57] (some (some (.int x), h2))) (kk : J mi_law 601024 7293034 kc ks h2 1874 (lw_loc i) [] o) : J mi_law 601024 7293034 (kc + 0) (ks + 0) h 813 (lw_loc i) [] o := by
  have w6b := w6.to s1
  refine J_aload_n (pc := 813) 2 dL_law_813 rfl rfl ?_
  refine JC_law (stk := []) s1 (lwv_okq w i) trivial (J_callV (mi := mi_law) (mj := mi_X11_isStill) (a := 0) (ci := 10) (pc := 814) (kc := kc + 0) (ks := ks + 0) (stk := []) (av := []) dL_law_814 ml_L_107 ok_X11_isStill ov_X11_isStill ⟨Nat.le_of_ble_eq_true rfl, Nat.le_of_ble_eq_true rfl⟩ rfl (Nat.lt_of_lt_of_le (by decide) w.1) w.2.1 rfl hX rfl (Nat.le_of_ble_eq_true rfl)) ?_
  refine J_aload_n (pc := 817) 3 dL_law_817 rfl rfl ?_
  refine JC_law (stk := [.int x]) s2 (lwv_okq wb i) ⟨trivial, trivial⟩ (J_callV (mi := mi_law) (mj := mi_X13_isStill) (a := 57) (ci := 12) (pc := 818) (kc := kc) (ks := ks) (stk := [.int x]) (av := []) dL_law_818 ml_L_110 ok_X13_isStill ov_X13_isStill ⟨Nat.le_of_ble_eq_true rfl, Nat.le_of_ble_eq_true rfl⟩ rfl (Nat.lt_of_lt_of_le (by decide) wb.1) wb.2.2.1 rfl hM rfl (Nat.le_of_ble_eq_true rfl)) ?_
  exact J_same (pc := 821) (tgt := 1874) dL_law_821 (by decide) kk
set_option maxRecDepth 100000 in
theorem lc_22 {kc ks : Nat} {h h1 h2 : JH} {i p0 p1 p2 p3 p4 p5 : Int32} {x : Int32} {o : Option (Option Value × JH)} (w : j_lw h) (wb : j_lw h1) (w6 : lw_six h i p0 p1 p2 p3 p4 p5) (s1 : h1.1.2.2.2 = h.1.2.2.2) (s2 : h2.1.2.2.2 = h1.1.2.2.2) (hX : JM mi_X11_fairest 0 0 h [.ref 0] (some (some (.int x), h1))) (hM : JM mi_X13_fairest 0 0 h1 [.ref 57] (some (some (.int x), h2))) (kk : J mi_law 601024 7293034 kc ks h2 1874 (lw_loc i) [] o) : J mi_law 601024 7293034 (kc + 0) (ks + 0) h 826 (lw_loc i) [] o := by
  have w6b := w6.to s1
  refine J_aload_n (pc := 826) 2 dL_law_826 rfl rfl ?_
  refine JC_law (stk := []) s1 (lwv_okq w i) trivial (J_callV (mi := mi_law) (mj := mi_X11_fairest) (a := 0) (ci := 10) (pc := 827) (kc := kc + 0) (ks := ks + 0) (stk := []) (av := []) dL_law_827 ml_L_111 ok_X11_fairest ov_X11_fairest ⟨Nat.le_of_ble_eq_true rfl, Nat.le_of_ble_eq_true rfl⟩ rfl (Nat.lt_of_lt_of_le (by decide) w.1) w.2.1 rfl hX rfl (Nat.le_of_ble_eq_true rfl)) ?_
  refine J_aload_n (pc := 830) 3 dL_law_830 rfl rfl ?_
  refine JC_law (stk := [.int x]) s2 (lwv_okq wb i) ⟨trivial, trivial⟩ (J_callV (mi := mi_law) (mj := mi_X13_fairest) (a := 57) (ci := 12) (pc := 831) (kc := kc) (ks := ks) (stk := [.int x]) (av := []) dL_law_831 ml_L_114 ok_X13_fairest ov_X13_fairest ⟨Nat.le_of_ble_eq_true rfl, Nat.le_of_ble_eq_true rfl⟩ rfl (Nat.lt_of_lt_of_le (by decide) wb.1) wb.2.2.1 rfl hM rfl (Nat.le_of_ble_eq_true rfl)) ?_
  exact J_same (pc := 834) (tgt := 1874) dL_law_834 (by decide) kk
set_option maxRecDepth 100000 in
theorem lc_23 {kc ks : Nat} {h h1 h2 : JH} {i p0 p1 p2 p3 p4 p5 : Int32} {x : Int32} {o : Option (Option Value × JH)} (w : j_lw h) (wb : j_lw h1) (w6 : lw_six h i p0 p1 p2 p3 p4 p5) (s1 : h1.1.2.2.2 = h.1.2.2.2) (s2 : h2.1.2.2.2 = h1.1.2.2.2) (hX : JM mi_X11_fairAt 0 0 h [.ref 0, .int p1] (some (some (.int x), h1))) (hM : JM mi_X13_fairAt 0 0 h1 [.ref 57, .int p1] (some (some (.int x), h2))) (kk : J mi_law 601024 7293034 kc ks h2 1874 (lw_loc i) [] o) : J mi_law 601024 7293034 (kc + 0) (ks + 0) h 839 (lw_loc i) [] o := by
  have w6b := w6.to s1
  refine J_aload_n (pc := 839) 2 dL_law_839 rfl rfl ?_
  refine J_arg (pc := 840) (kv := 1) 1 0 dL_law_840 dL_law_841 dL_law_843 dL_law_844 dL_law_845 rfl rfl (by decide) w6.1.1 w6.1.2 ?_
  refine JC_law (stk := []) s1 (lwv_okq w i) trivial (J_callV (mi := mi_law) (mj := mi_X11_fairAt) (a := 0) (ci := 10) (pc := 846) (kc := kc + 0) (ks := ks + 0) (stk := []) (av := [.int p1]) dL_law_846 ml_L_115 ok_X11_fairAt ov_X11_fairAt ⟨Nat.le_of_ble_eq_true rfl, Nat.le_of_ble_eq_true rfl⟩ rfl (Nat.lt_of_lt_of_le (by decide) w.1) w.2.1 rfl hX rfl (Nat.le_of_ble_eq_true rfl)) ?_
  refine J_aload_n (pc := 849) 3 dL_law_849 rfl rfl ?_
  refine J_arg (pc := 850) (kv := 1) 1 0 dL_law_850 dL_law_851 dL_law_853 dL_law_854 dL_law_855 rfl rfl (by decide) w6b.1.1 w6b.1.2 ?_
  refine JC_law (stk := [.int x]) s2 (lwv_okq wb i) ⟨trivial, trivial⟩ (J_callV (mi := mi_law) (mj := mi_X13_fairAt) (a := 57) (ci := 12) (pc := 856) (kc := kc) (ks := ks) (stk := [.int x]) (av := [.int p1]) dL_law_856 ml_L_118 ok_X13_fairAt ov_X13_fairAt ⟨Nat.le_of_ble_eq_true rfl, Nat.le_of_ble_eq_true rfl⟩ rfl (Nat.lt_of_lt_of_le (by decide) wb.1) wb.2.2.1 rfl hM rfl (Nat.le_of_ble_eq_true rfl)) ?_
  exact J_same (pc := 859) (tgt := 1874) dL_law_859 (by decide) kk
set_option maxRecDepth 100000 in
theorem lc_24 {kc ks : Nat} {h h1 h2 : JH} {i p0 p1 p2 p3 p4 p5 : Int32} {x : Int32} {o : Option (Option Value × JH)} (w : j_lw h) (wb : j_lw h1) (w6 : lw_six h i p0 p1 p2 p3 p4 p5) (s1 : h1.1.2.2.2 = h.1.2.2.2) (s2 : h2.1.2.2.2 = h1.1.2.2.2) (hX : JM mi_X11_fits 0 0 h [.ref 0] (some (some (.int x), h1))) (hM : JM mi_X13_fits 0 0 h1 [.ref 57] (some (some (.int x), h2))) (kk : J mi_law 601024 7293034 kc ks h2 1874 (lw_loc i) [] o) : J mi_law 601024 7293034 (kc + 0) (ks + 0) h 864 (lw_loc i) [] o := by
  have w6b := w6.to s1
  refine J_aload_n (pc := 864) 2 dL_law_864 rfl rfl ?_
  refine JC_law (stk := []) s1 (lwv_okq w i) trivial (J_callV (mi := mi_law) (mj := mi_X11_fits) (a := 0) (ci := 10) (pc := 865) (kc := kc + 0) (ks := ks + 0) (stk := []) (av := []) dL_law_865 ml_L_119 ok_X11_fits ov_X11_fits ⟨Nat.le_of_ble_eq_true rfl, Nat.le_of_ble_eq_true rfl⟩ rfl (Nat.lt_of_lt_of_le (by decide) w.1) w.2.1 rfl hX rfl (Nat.le_of_ble_eq_true rfl)) ?_
  refine J_aload_n (pc := 868) 3 dL_law_868 rfl rfl ?_
  refine JC_law (stk := [.int x]) s2 (lwv_okq wb i) ⟨trivial, trivial⟩ (J_callV (mi := mi_law) (mj := mi_X13_fits) (a := 57) (ci := 12) (pc := 869) (kc := kc) (ks := ks) (stk := [.int x]) (av := []) dL_law_869 ml_L_122 ok_X13_fits ov_X13_fits ⟨Nat.le_of_ble_eq_true rfl, Nat.le_of_ble_eq_true rfl⟩ rfl (Nat.lt_of_lt_of_le (by decide) wb.1) wb.2.2.1 rfl hM rfl (Nat.le_of_ble_eq_true rfl)) ?_
  exact J_same (pc := 872) (tgt := 1874) dL_law_872 (by decide) kk
set_option maxRecDepth 100000 in
theorem lc_25 {kc ks : Nat} {h h1 h2 : JH} {i p0 p1 p2 p3 p4 p5 : Int32} {x : Int32} {o : Option (Option Value × JH)} (w : j_lw h) (wb : j_lw h1) (w6 : lw_six h i p0 p1 p2 p3 p4 p5) (s1 : h1.1.2.2.2 = h.1.2.2.2) (s2 : h2.1.2.2.2 = h1.1.2.2.2) (hX : JM mi_X11_fitAt 0 0 h [.ref 0, .int p1, .int p2] (some (some (.int x), h1))) (hM : JM mi_X13_fitAt 0 0 h1 [.ref 57, .int p1, .int p2] (some (some (.int x), h2))) (kk : J mi_law 601024 7293034 kc ks h2 1874 (lw_loc i) [] o) : J mi_law 601024 7293034 (kc + 0) (ks + 0) h 877 (lw_loc i) [] o := by
  have w6b := w6.to s1
  refine J_aload_n (pc := 877) 2 dL_law_877 rfl rfl ?_
  refine J_arg (pc := 878) (kv := 1) 1 0 dL_law_878 dL_law_879 dL_law_881 dL_law_882 dL_law_883 rfl rfl (by decide) w6.1.1 w6.1.2 ?_
  refine J_arg (pc := 884) (kv := 2) 1 0 dL_law_884 dL_law_885 dL_law_887 dL_law_888 dL_law_889 rfl rfl (by decide) w6.2.1.1 w6.2.1.2 ?_
  refine JC_law (stk := []) s1 (lwv_okq w i) trivial (J_callV (mi := mi_law) (mj := mi_X11_fitAt) (a := 0) (ci := 10) (pc := 890) (kc := kc + 0) (ks := ks + 0) (stk := []) (av := [.int p1, .int p2]) dL_law_890 ml_L_123 ok_X11_fitAt ov_X11_fitAt ⟨Nat.le_of_ble_eq_true rfl, Nat.le_of_ble_eq_true rfl⟩ rfl (Nat.lt_of_lt_of_le (by decide) w.1) w.2.1 rfl hX rfl (Nat.le_of_ble_eq_true rfl)) ?_
  refine J_aload_n (pc := 893) 3 dL_law_893 rfl rfl ?_
  refine J_arg (pc := 894) (kv := 1) 1 0 dL_law_894 dL_law_895 dL_law_897 dL_law_898 dL_law_899 rfl rfl (by decide) w6b.1.1 w6b.1.2 ?_
  refine J_arg (pc := 900) (kv := 2) 1 0 dL_law_900 dL_law_901 dL_law_903 dL_law_904 dL_law_905 rfl rfl (by decide) w6b.2.1.1 w6b.2.1.2 ?_
  refine JC_law (stk := [.int x]) s2 (lwv_okq wb i) ⟨trivial, trivial⟩ (J_callV (mi := mi_law) (mj := mi_X13_fitAt) (a := 57) (ci := 12) (pc := 906) (kc := kc) (ks := ks) (stk := [.int x]) (av := [.int p1, .int p2]) dL_law_906 ml_L_126 ok_X13_fitAt ov_X13_fitAt ⟨Nat.le_of_ble_eq_true rfl, Nat.le_of_ble_eq_true rfl⟩ rfl (Nat.lt_of_lt_of_le (by decide) wb.1) wb.2.2.1 rfl hM rfl (Nat.le_of_ble_eq_true rfl)) ?_
  exact J_same (pc := 909) (tgt := 1874) dL_law_909 (by decide) kk
set_option maxRecDepth 100000 in
theorem lc_26 {kc ks : Nat} {h h1 h2 : JH} {i p0 p1 p2 p3 p4 p5 : Int32} {x : Int32} {o : Option (Option Value × JH)} (w : j_lw h) (wb : j_lw h1) (w6 : lw_six h i p0 p1 p2 p3 p4 p5) (s1 : h1.1.2.2.2 = h.1.2.2.2) (s2 : h2.1.2.2.2 = h1.1.2.2.2) (hX : JM mi_X11_hungBy 0 0 h [.ref 0, .int p1, .int p2] (some (some (.int x), h1))) (hM : JM mi_X13_hungBy 0 0 h1 [.ref 57, .int p1, .int p2] (some (some (.int x), h2))) (kk : J mi_law 601024 7293034 kc ks h2 1874 (lw_loc i) [] o) : J mi_law 601024 7293034 (kc + 0) (ks + 0) h 914 (lw_loc i) [] o := by
  have w6b := w6.to s1
  refine J_aload_n (pc := 914) 2 dL_law_914 rfl rfl ?_
  refine J_arg (pc := 915) (kv := 1) 1 0 dL_law_915 dL_law_916 dL_law_918 dL_law_919 dL_law_920 rfl rfl (by decide) w6.1.1 w6.1.2 ?_
  refine J_arg (pc := 921) (kv := 2) 1 0 dL_law_921 dL_law_922 dL_law_924 dL_law_925 dL_law_926 rfl rfl (by decide) w6.2.1.1 w6.2.1.2 ?_
  refine JC_law (stk := []) s1 (lwv_okq w i) trivial (J_callV (mi := mi_law) (mj := mi_X11_hungBy) (a := 0) (ci := 10) (pc := 927) (kc := kc + 0) (ks := ks + 0) (stk := []) (av := [.int p1, .int p2]) dL_law_927 ml_L_127 ok_X11_hungBy ov_X11_hungBy ⟨Nat.le_of_ble_eq_true rfl, Nat.le_of_ble_eq_true rfl⟩ rfl (Nat.lt_of_lt_of_le (by decide) w.1) w.2.1 rfl hX rfl (Nat.le_of_ble_eq_true rfl)) ?_
  refine J_aload_n (pc := 930) 3 dL_law_930 rfl rfl ?_
  refine J_arg (pc := 931) (kv := 1) 1 0 dL_law_931 dL_law_932 dL_law_934 dL_law_935 dL_law_936 rfl rfl (by decide) w6b.1.1 w6b.1.2 ?_
  refine J_arg (pc := 937) (kv := 2) 1 0 dL_law_937 dL_law_938 dL_law_940 dL_law_941 dL_law_942 rfl rfl (by decide) w6b.2.1.1 w6b.2.1.2 ?_
  refine JC_law (stk := [.int x]) s2 (lwv_okq wb i) ⟨trivial, trivial⟩ (J_callV (mi := mi_law) (mj := mi_X13_hungBy) (a := 57) (ci := 12) (pc := 943) (kc := kc) (ks := ks) (stk := [.int x]) (av := [.int p1, .int p2]) dL_law_943 ml_L_130 ok_X13_hungBy ov_X13_hungBy ⟨Nat.le_of_ble_eq_true rfl, Nat.le_of_ble_eq_true rfl⟩ rfl (Nat.lt_of_lt_of_le (by decide) wb.1) wb.2.2.1 rfl hM rfl (Nat.le_of_ble_eq_true rfl)) ?_
  exact J_same (pc := 946) (tgt := 1874) dL_law_946 (by decide) kk
set_option maxRecDepth 100000 in
theorem lc_27 {kc ks : Nat} {h h1 h2 : JH} {i p0 p1 p2 p3 p4 p5 : Int32} {x : Int32} {o : Option (Option Value × JH)} (w : j_lw h) (wb : j_lw h1) (w6 : lw_six h i p0 p1 p2 p3 p4 p5) (s1 : h1.1.2.2.2 = h.1.2.2.2) (s2 : h2.1.2.2.2 = h1.1.2.2.2) (hX : JM mi_X11_look 0 0 h [.ref 0] (some (some (.int x), h1))) (hM : JM mi_X13_look 0 0 h1 [.ref 57] (some (some (.int x), h2))) (kk : J mi_law 601024 7293034 kc ks h2 1874 (lw_loc i) [] o) : J mi_law 601024 7293034 (kc + 0) (ks + 0) h 951 (lw_loc i) [] o := by
  have w6b := w6.to s1
  refine J_aload_n (pc := 951) 2 dL_law_951 rfl rfl ?_
  refine JC_law (stk := []) s1 (lwv_okq w i) trivial (J_callV (mi := mi_law) (mj := mi_X11_look) (a := 0) (ci := 10) (pc := 952) (kc := kc + 0) (ks := ks + 0) (stk := []) (av := []) dL_law_952 ml_L_131 ok_X11_look ov_X11_look ⟨Nat.le_of_ble_eq_true rfl, Nat.le_of_ble_eq_true rfl⟩ rfl (Nat.lt_of_lt_of_le (by decide) w.1) w.2.1 rfl hX rfl (Nat.le_of_ble_eq_true rfl)) ?_
  refine J_aload_n (pc := 955) 3 dL_law_955 rfl rfl ?_
  refine JC_law (stk := [.int x]) s2 (lwv_okq wb i) ⟨trivial, trivial⟩ (J_callV (mi := mi_law) (mj := mi_X13_look) (a := 57) (ci := 12) (pc := 956) (kc := kc) (ks := ks) (stk := [.int x]) (av := []) dL_law_956 ml_L_134 ok_X13_look ov_X13_look ⟨Nat.le_of_ble_eq_true rfl, Nat.le_of_ble_eq_true rfl⟩ rfl (Nat.lt_of_lt_of_le (by decide) wb.1) wb.2.2.1 rfl hM rfl (Nat.le_of_ble_eq_true rfl)) ?_
  exact J_same (pc := 959) (tgt := 1874) dL_law_959 (by decide) kk
set_option maxRecDepth 100000 in
theorem lc_28 {kc ks : Nat} {h h1 h2 : JH} {i p0 p1 p2 p3 p4 p5 : Int32} {x : Int32} {o : Option (Option Value × JH)} (w : j_lw h) (wb : j_lw h1) (w6 : lw_six h i p0 p1 p2 p3 p4 p5) (s1 : h1.1.2.2.2 = h.1.2.2.2) (s2 : h2.1.2.2.2 = h1.1.2.2.2) (hX : JM mi_X11_lookLeaves 0 0 h [.ref 0] (some (some (.int x), h1))) (hM : JM mi_X13_lookLeaves 0 0 h1 [.ref 57] (some (some (.int x), h2))) (kk : J mi_law 601024 7293034 kc ks h2 1874 (lw_loc i) [] o) : J mi_law 601024 7293034 (kc + 0) (ks + 0) h 964 (lw_loc i) [] o := by
  have w6b := w6.to s1
  refine J_aload_n (pc := 964) 2 dL_law_964 rfl rfl ?_
  refine JC_law (stk := []) s1 (lwv_okq w i) trivial (J_callV (mi := mi_law) (mj := mi_X11_lookLeaves) (a := 0) (ci := 10) (pc := 965) (kc := kc + 0) (ks := ks + 0) (stk := []) (av := []) dL_law_965 ml_L_135 ok_X11_lookLeaves ov_X11_lookLeaves ⟨Nat.le_of_ble_eq_true rfl, Nat.le_of_ble_eq_true rfl⟩ rfl (Nat.lt_of_lt_of_le (by decide) w.1) w.2.1 rfl hX rfl (Nat.le_of_ble_eq_true rfl)) ?_
  refine J_aload_n (pc := 968) 3 dL_law_968 rfl rfl ?_
  refine JC_law (stk := [.int x]) s2 (lwv_okq wb i) ⟨trivial, trivial⟩ (J_callV (mi := mi_law) (mj := mi_X13_lookLeaves) (a := 57) (ci := 12) (pc := 969) (kc := kc) (ks := ks) (stk := [.int x]) (av := []) dL_law_969 ml_L_138 ok_X13_lookLeaves ov_X13_lookLeaves ⟨Nat.le_of_ble_eq_true rfl, Nat.le_of_ble_eq_true rfl⟩ rfl (Nat.lt_of_lt_of_le (by decide) wb.1) wb.2.2.1 rfl hM rfl (Nat.le_of_ble_eq_true rfl)) ?_
  exact J_same (pc := 972) (tgt := 1874) dL_law_972 (by decide) kk
set_option maxRecDepth 100000 in
theorem lc_29 {kc ks : Nat} {h h1 h2 : JH} {i p0 p1 p2 p3 p4 p5 : Int32} {x : Int32} {o : Option (Option Value × JH)} (w : j_lw h) (wb : j_lw h1) (w6 : lw_six h i p0 p1 p2 p3 p4 p5) (s1 : h1.1.2.2.2 = h.1.2.2.2) (s2 : h2.1.2.2.2 = h1.1.2.2.2) (hX : JM mi_X11_judge 0 0 h [.ref 0] (some (some (.int x), h1))) (hM : JM mi_X13_judge 0 0 h1 [.ref 57] (some (some (.int x), h2))) (kk : J mi_law 601024 7293034 kc ks h2 1874 (lw_loc i) [] o) : J mi_law 601024 7293034 (kc + 0) (ks + 0) h 977 (lw_loc i) [] o := by
  have w6b := w6.to s1
  refine J_aload_n (pc := 977) 2 dL_law_977 rfl rfl ?_
  refine JC_law (stk := []) s1 (lwv_okq w i) trivial (J_callV (mi := mi_law) (mj := mi_X11_judge) (a := 0) (ci := 10) (pc := 978) (kc := kc + 0) (ks := ks + 0) (stk := []) (av := []) dL_law_978 ml_L_139 ok_X11_judge ov_X11_judge ⟨Nat.le_of_ble_eq_true rfl, Nat.le_of_ble_eq_true rfl⟩ rfl (Nat.lt_of_lt_of_le (by decide) w.1) w.2.1 rfl hX rfl (Nat.le_of_ble_eq_true rfl)) ?_
  refine J_aload_n (pc := 981) 3 dL_law_981 rfl rfl ?_
  refine JC_law (stk := [.int x]) s2 (lwv_okq wb i) ⟨trivial, trivial⟩ (J_callV (mi := mi_law) (mj := mi_X13_judge) (a := 57) (ci := 12) (pc := 982) (kc := kc) (ks := ks) (stk := [.int x]) (av := []) dL_law_982 ml_L_142 ok_X13_judge ov_X13_judge ⟨Nat.le_of_ble_eq_true rfl, Nat.le_of_ble_eq_true rfl⟩ rfl (Nat.lt_of_lt_of_le (by decide) wb.1) wb.2.2.1 rfl hM rfl (Nat.le_of_ble_eq_true rfl)) ?_
  exact J_same (pc := 985) (tgt := 1874) dL_law_985 (by decide) kk
set_option maxRecDepth 100000 in
theorem lc_30 {kc ks : Nat} {h h1 h2 : JH} {i p0 p1 p2 p3 p4 p5 : Int32} {x : Int32} {o : Option (Option Value × JH)} (w : j_lw h) (wb : j_lw h1) (w6 : lw_six h i p0 p1 p2 p3 p4 p5) (s1 : h1.1.2.2.2 = h.1.2.2.2) (s2 : h2.1.2.2.2 = h1.1.2.2.2) (hX : JM mi_X11_apart 0 0 h [.ref 0, .int p1, .int p2] (some (some (.int x), h1))) (hM : JM mi_X13_apart 0 0 h1 [.ref 57, .int p1, .int p2] (some (some (.int x), h2))) (kk : J mi_law 601024 7293034 kc ks h2 1874 (lw_loc i) [] o) : J mi_law 601024 7293034 (kc + 0) (ks + 0) h 990 (lw_loc i) [] o := by
  have w6b := w6.to s1
  refine J_aload_n (pc := 990) 2 dL_law_990 rfl rfl ?_
  refine J_arg (pc := 991) (kv := 1) 1 0 dL_law_991 dL_law_992 dL_law_994 dL_law_995 dL_law_996 rfl rfl (by decide) w6.1.1 w6.1.2 ?_
  refine J_arg (pc := 997) (kv := 2) 1 0 dL_law_997 dL_law_998 dL_law_1000 dL_law_1001 dL_law_1002 rfl rfl (by decide) w6.2.1.1 w6.2.1.2 ?_
  refine JC_law (stk := []) s1 (lwv_okq w i) trivial (J_callV (mi := mi_law) (mj := mi_X11_apart) (a := 0) (ci := 10) (pc := 1003) (kc := kc + 0) (ks := ks + 0) (stk := []) (av := [.int p1, .int p2]) dL_law_1003 ml_L_143 ok_X11_apart ov_X11_apart ⟨Nat.le_of_ble_eq_true rfl, Nat.le_of_ble_eq_true rfl⟩ rfl (Nat.lt_of_lt_of_le (by decide) w.1) w.2.1 rfl hX rfl (Nat.le_of_ble_eq_true rfl)) ?_
  refine J_aload_n (pc := 1006) 3 dL_law_1006 rfl rfl ?_
  refine J_arg (pc := 1007) (kv := 1) 1 0 dL_law_1007 dL_law_1008 dL_law_1010 dL_law_1011 dL_law_1012 rfl rfl (by decide) w6b.1.1 w6b.1.2 ?_
  refine J_arg (pc := 1013) (kv := 2) 1 0 dL_law_1013 dL_law_1014 dL_law_1016 dL_law_1017 dL_law_1018 rfl rfl (by decide) w6b.2.1.1 w6b.2.1.2 ?_
  refine JC_law (stk := [.int x]) s2 (lwv_okq wb i) ⟨trivial, trivial⟩ (J_callV (mi := mi_law) (mj := mi_X13_apart) (a := 57) (ci := 12) (pc := 1019) (kc := kc) (ks := ks) (stk := [.int x]) (av := [.int p1, .int p2]) dL_law_1019 ml_L_146 ok_X13_apart ov_X13_apart ⟨Nat.le_of_ble_eq_true rfl, Nat.le_of_ble_eq_true rfl⟩ rfl (Nat.lt_of_lt_of_le (by decide) wb.1) wb.2.2.1 rfl hM rfl (Nat.le_of_ble_eq_true rfl)) ?_
  exact J_same (pc := 1022) (tgt := 1874) dL_law_1022 (by decide) kk
set_option maxRecDepth 100000 in
theorem lc_31 {kc ks : Nat} {h h1 h2 : JH} {i p0 p1 p2 p3 p4 p5 : Int32} {x : Int32} {o : Option (Option Value × JH)} (w : j_lw h) (wb : j_lw h1) (w6 : lw_six h i p0 p1 p2 p3 p4 p5) (s1 : h1.1.2.2.2 = h.1.2.2.2) (s2 : h2.1.2.2.2 = h1.1.2.2.2) (hX : JM mi_X11_sentries 0 0 h [.ref 0] (some (some (.int x), h1))) (hM : JM mi_X13_sentries 0 0 h1 [.ref 57] (some (some (.int x), h2))) (kk : J mi_law 601024 7293034 kc ks h2 1874 (lw_loc i) [] o) : J mi_law 601024 7293034 (kc + 0) (ks + 0) h 1027 (lw_loc i) [] o := by
  have w6b := w6.to s1
  refine J_aload_n (pc := 1027) 2 dL_law_1027 rfl rfl ?_
  refine JC_law (stk := []) s1 (lwv_okq w i) trivial (J_callV (mi := mi_law) (mj := mi_X11_sentries) (a := 0) (ci := 10) (pc := 1028) (kc := kc + 0) (ks := ks + 0) (stk := []) (av := []) dL_law_1028 ml_L_147 ok_X11_sentries ov_X11_sentries ⟨Nat.le_of_ble_eq_true rfl, Nat.le_of_ble_eq_true rfl⟩ rfl (Nat.lt_of_lt_of_le (by decide) w.1) w.2.1 rfl hX rfl (Nat.le_of_ble_eq_true rfl)) ?_
  refine J_aload_n (pc := 1031) 3 dL_law_1031 rfl rfl ?_
  refine JC_law (stk := [.int x]) s2 (lwv_okq wb i) ⟨trivial, trivial⟩ (J_callV (mi := mi_law) (mj := mi_X13_sentries) (a := 57) (ci := 12) (pc := 1032) (kc := kc) (ks := ks) (stk := [.int x]) (av := []) dL_law_1032 ml_L_150 ok_X13_sentries ov_X13_sentries ⟨Nat.le_of_ble_eq_true rfl, Nat.le_of_ble_eq_true rfl⟩ rfl (Nat.lt_of_lt_of_le (by decide) wb.1) wb.2.2.1 rfl hM rfl (Nat.le_of_ble_eq_true rfl)) ?_
  exact J_same (pc := 1035) (tgt := 1874) dL_law_1035 (by decide) kk
set_option maxRecDepth 100000 in
theorem lc_32 {kc ks : Nat} {h h1 h2 : JH} {i p0 p1 p2 p3 p4 p5 : Int32} {x : Int32} {o : Option (Option Value × JH)} (w : j_lw h) (wb : j_lw h1) (w6 : lw_six h i p0 p1 p2 p3 p4 p5) (s1 : h1.1.2.2.2 = h.1.2.2.2) (s2 : h2.1.2.2.2 = h1.1.2.2.2) (hX : JM mi_X11_parts 0 0 h [.ref 0] (some (some (.int x), h1))) (hM : JM mi_X13_parts 0 0 h1 [.ref 57] (some (some (.int x), h2))) (kk : J mi_law 601024 7293034 kc ks h2 1874 (lw_loc i) [] o) : J mi_law 601024 7293034 (kc + 0) (ks + 0) h 1040 (lw_loc i) [] o := by
  have w6b := w6.to s1
  refine J_aload_n (pc := 1040) 2 dL_law_1040 rfl rfl ?_
  refine JC_law (stk := []) s1 (lwv_okq w i) trivial (J_callV (mi := mi_law) (mj := mi_X11_parts) (a := 0) (ci := 10) (pc := 1041) (kc := kc + 0) (ks := ks + 0) (stk := []) (av := []) dL_law_1041 ml_L_151 ok_X11_parts ov_X11_parts ⟨Nat.le_of_ble_eq_true rfl, Nat.le_of_ble_eq_true rfl⟩ rfl (Nat.lt_of_lt_of_le (by decide) w.1) w.2.1 rfl hX rfl (Nat.le_of_ble_eq_true rfl)) ?_
  refine J_aload_n (pc := 1044) 3 dL_law_1044 rfl rfl ?_
  refine JC_law (stk := [.int x]) s2 (lwv_okq wb i) ⟨trivial, trivial⟩ (J_callV (mi := mi_law) (mj := mi_X13_parts) (a := 57) (ci := 12) (pc := 1045) (kc := kc) (ks := ks) (stk := [.int x]) (av := []) dL_law_1045 ml_L_154 ok_X13_parts ov_X13_parts ⟨Nat.le_of_ble_eq_true rfl, Nat.le_of_ble_eq_true rfl⟩ rfl (Nat.lt_of_lt_of_le (by decide) wb.1) wb.2.2.1 rfl hM rfl (Nat.le_of_ble_eq_true rfl)) ?_
  exact J_same (pc := 1048) (tgt := 1874) dL_law_1048 (by decide) kk
set_option maxRecDepth 100000 in
theorem lc_33 {kc ks : Nat} {h h1 h2 : JH} {i p0 p1 p2 p3 p4 p5 : Int32} {x : Int32} {o : Option (Option Value × JH)} (w : j_lw h) (wb : j_lw h1) (w6 : lw_six h i p0 p1 p2 p3 p4 p5) (s1 : h1.1.2.2.2 = h.1.2.2.2) (s2 : h2.1.2.2.2 = h1.1.2.2.2) (hX : JM mi_X11_estate 0 0 h [.ref 0, .int p1, .int p2] (some (some (.int x), h1))) (hM : JM mi_X13_estate 0 0 h1 [.ref 57, .int p1, .int p2] (some (some (.int x), h2))) (kk : J mi_law 601024 7293034 kc ks h2 1874 (lw_loc i) [] o) : J mi_law 601024 7293034 (kc + 0) (ks + 0) h 1053 (lw_loc i) [] o := by
  have w6b := w6.to s1
  refine J_aload_n (pc := 1053) 2 dL_law_1053 rfl rfl ?_
  refine J_arg (pc := 1054) (kv := 1) 1 0 dL_law_1054 dL_law_1055 dL_law_1057 dL_law_1058 dL_law_1059 rfl rfl (by decide) w6.1.1 w6.1.2 ?_
  refine J_arg (pc := 1060) (kv := 2) 1 0 dL_law_1060 dL_law_1061 dL_law_1063 dL_law_1064 dL_law_1065 rfl rfl (by decide) w6.2.1.1 w6.2.1.2 ?_
  refine JC_law (stk := []) s1 (lwv_okq w i) trivial (J_callV (mi := mi_law) (mj := mi_X11_estate) (a := 0) (ci := 10) (pc := 1066) (kc := kc + 0) (ks := ks + 0) (stk := []) (av := [.int p1, .int p2]) dL_law_1066 ml_L_155 ok_X11_estate ov_X11_estate ⟨Nat.le_of_ble_eq_true rfl, Nat.le_of_ble_eq_true rfl⟩ rfl (Nat.lt_of_lt_of_le (by decide) w.1) w.2.1 rfl hX rfl (Nat.le_of_ble_eq_true rfl)) ?_
  refine J_aload_n (pc := 1069) 3 dL_law_1069 rfl rfl ?_
  refine J_arg (pc := 1070) (kv := 1) 1 0 dL_law_1070 dL_law_1071 dL_law_1073 dL_law_1074 dL_law_1075 rfl rfl (by decide) w6b.1.1 w6b.1.2 ?_
  refine J_arg (pc := 1076) (kv := 2) 1 0 dL_law_1076 dL_law_1077 dL_law_1079 dL_law_1080 dL_law_1081 rfl rfl (by decide) w6b.2.1.1 w6b.2.1.2 ?_
  refine JC_law (stk := [.int x]) s2 (lwv_okq wb i) ⟨trivial, trivial⟩ (J_callV (mi := mi_law) (mj := mi_X13_estate) (a := 57) (ci := 12) (pc := 1082) (kc := kc) (ks := ks) (stk := [.int x]) (av := [.int p1, .int p2]) dL_law_1082 ml_L_158 ok_X13_estate ov_X13_estate ⟨Nat.le_of_ble_eq_true rfl, Nat.le_of_ble_eq_true rfl⟩ rfl (Nat.lt_of_lt_of_le (by decide) wb.1) wb.2.2.1 rfl hM rfl (Nat.le_of_ble_eq_true rfl)) ?_
  exact J_same (pc := 1085) (tgt := 1874) dL_law_1085 (by decide) kk
set_option maxRecDepth 100000 in
theorem lc_34 {kc ks : Nat} {h h1 h2 : JH} {i p0 p1 p2 p3 p4 p5 : Int32} {x : Int64} {o : Option (Option Value × JH)} (w : j_lw h) (wb : j_lw h1) (w6 : lw_six h i p0 p1 p2 p3 p4 p5) (s1 : h1.1.2.2.2 = h.1.2.2.2) (s2 : h2.1.2.2.2 = h1.1.2.2.2) (hX : JM mi_X11_power 0 0 h [.ref 0, .int p1, .int (if p2 = 0 then 0 else 1)] (some (some (.long x), h1))) (hM : JM mi_X13_power 0 0 h1 [.ref 57, .int p1, .int (if p2 = 0 then 0 else 1)] (some (some (.long x), h2))) (kk : J mi_law 601024 7293034 kc ks h2 1874 (lw_loc i) [] o) : J mi_law 601024 7293034 (kc + 0) (ks + 0) h 1090 (lw_loc i) [] o := by
  have w6b := w6.to s1
  refine J_aload_n (pc := 1090) 2 dL_law_1090 rfl rfl ?_
  refine J_arg (pc := 1091) (kv := 1) 1 0 dL_law_1091 dL_law_1092 dL_law_1094 dL_law_1095 dL_law_1096 rfl rfl (by decide) w6.1.1 w6.1.2 ?_
  refine J_arg (pc := 1097) (kv := 2) 1 0 dL_law_1097 dL_law_1098 dL_law_1100 dL_law_1101 dL_law_1102 rfl rfl (by decide) w6.2.1.1 w6.2.1.2 ?_
  refine J_truth (pc := 1103) dL_law_1103 dL_law_1106 dL_law_1107 dL_law_1110 ?_
  refine JC_law (stk := []) s1 (lwv_okq w i) trivial (J_callV (mi := mi_law) (mj := mi_X11_power) (a := 0) (ci := 10) (pc := 1111) (kc := kc + 0) (ks := ks + 0) (stk := []) (av := [.int p1, .int (if p2 = 0 then 0 else 1)]) dL_law_1111 ml_L_159 ok_X11_power ov_X11_power ⟨Nat.le_of_ble_eq_true rfl, Nat.le_of_ble_eq_true rfl⟩ rfl (Nat.lt_of_lt_of_le (by decide) w.1) w.2.1 rfl hX rfl (Nat.le_of_ble_eq_true rfl)) ?_
  refine J_aload_n (pc := 1114) 3 dL_law_1114 rfl rfl ?_
  refine J_arg (pc := 1115) (kv := 1) 1 0 dL_law_1115 dL_law_1116 dL_law_1118 dL_law_1119 dL_law_1120 rfl rfl (by decide) w6b.1.1 w6b.1.2 ?_
  refine J_arg (pc := 1121) (kv := 2) 1 0 dL_law_1121 dL_law_1122 dL_law_1124 dL_law_1125 dL_law_1126 rfl rfl (by decide) w6b.2.1.1 w6b.2.1.2 ?_
  refine J_truth (pc := 1127) dL_law_1127 dL_law_1130 dL_law_1131 dL_law_1134 ?_
  refine JC_law (stk := [.long x]) s2 (lwv_okq wb i) ⟨trivial, trivial⟩ (J_callV (mi := mi_law) (mj := mi_X13_power) (a := 57) (ci := 12) (pc := 1135) (kc := kc) (ks := ks) (stk := [.long x]) (av := [.int p1, .int (if p2 = 0 then 0 else 1)]) dL_law_1135 ml_L_163 ok_X13_power ov_X13_power ⟨Nat.le_of_ble_eq_true rfl, Nat.le_of_ble_eq_true rfl⟩ rfl (Nat.lt_of_lt_of_le (by decide) wb.1) wb.2.2.1 rfl hM rfl (Nat.le_of_ble_eq_true rfl)) ?_
  exact J_sameL (pc := 1138) (tgt := 1874) dL_law_1138 dL_law_1139 (by decide) kk
set_option maxRecDepth 100000 in
theorem lc_35 {kc ks : Nat} {h h1 h2 : JH} {i p0 p1 p2 p3 p4 p5 : Int32} {x : Int32} {o : Option (Option Value × JH)} (w : j_lw h) (wb : j_lw h1) (w6 : lw_six h i p0 p1 p2 p3 p4 p5) (s1 : h1.1.2.2.2 = h.1.2.2.2) (s2 : h2.1.2.2.2 = h1.1.2.2.2) (hX : JM mi_X11_rule 0 0 h [.ref 0] (some (some (.int x), h1))) (hM : JM mi_X13_rule 0 0 h1 [.ref 57] (some (some (.int x), h2))) (kk : J mi_law 601024 7293034 kc ks h2 1874 (lw_loc i) [] o) : J mi_law 601024 7293034 (kc + 0) (ks + 0) h 1144 (lw_loc i) [] o := by
  have w6b := w6.to s1
  refine J_aload_n (pc := 1144) 2 dL_law_1144 rfl rfl ?_
  refine JC_law (stk := []) s1 (lwv_okq w i) trivial (J_callV (mi := mi_law) (mj := mi_X11_rule) (a := 0) (ci := 10) (pc := 1145) (kc := kc + 0) (ks := ks + 0) (stk := []) (av := []) dL_law_1145 ml_L_164 ok_X11_rule ov_X11_rule ⟨Nat.le_of_ble_eq_true rfl, Nat.le_of_ble_eq_true rfl⟩ rfl (Nat.lt_of_lt_of_le (by decide) w.1) w.2.1 rfl hX rfl (Nat.le_of_ble_eq_true rfl)) ?_
  refine J_aload_n (pc := 1148) 3 dL_law_1148 rfl rfl ?_
  refine JC_law (stk := [.int x]) s2 (lwv_okq wb i) ⟨trivial, trivial⟩ (J_callV (mi := mi_law) (mj := mi_X13_rule) (a := 57) (ci := 12) (pc := 1149) (kc := kc) (ks := ks) (stk := [.int x]) (av := []) dL_law_1149 ml_L_167 ok_X13_rule ov_X13_rule ⟨Nat.le_of_ble_eq_true rfl, Nat.le_of_ble_eq_true rfl⟩ rfl (Nat.lt_of_lt_of_le (by decide) wb.1) wb.2.2.1 rfl hM rfl (Nat.le_of_ble_eq_true rfl)) ?_
  exact J_same (pc := 1152) (tgt := 1874) dL_law_1152 (by decide) kk
set_option maxRecDepth 100000 in
theorem lc_36 {kc ks : Nat} {h h1 h2 : JH} {i p0 p1 p2 p3 p4 p5 : Int32} {x : Int32} {o : Option (Option Value × JH)} (w : j_lw h) (wb : j_lw h1) (w6 : lw_six h i p0 p1 p2 p3 p4 p5) (s1 : h1.1.2.2.2 = h.1.2.2.2) (s2 : h2.1.2.2.2 = h1.1.2.2.2) (hX : JM mi_X11_steal 0 0 h [.ref 0, .int p1, .int (if p2 = 0 then 0 else 1), .int (if p3 = 0 then 0 else 1), .int (if p4 = 0 then 0 else 1)] (some (some (.int x), h1))) (hM : JM mi_X13_steal 0 0 h1 [.ref 57, .int p1, .int (if p2 = 0 then 0 else 1), .int (if p3 = 0 then 0 else 1), .int (if p4 = 0 then 0 else 1)] (some (some (.int x), h2))) (kk : J mi_law 601024 7293034 kc ks h2 1874 (lw_loc i) [] o) : J mi_law 601024 7293034 (kc + 0) (ks + 0) h 1157 (lw_loc i) [] o := by
  have w6b := w6.to s1
  refine J_aload_n (pc := 1157) 2 dL_law_1157 rfl rfl ?_
  refine J_arg (pc := 1158) (kv := 1) 1 0 dL_law_1158 dL_law_1159 dL_law_1161 dL_law_1162 dL_law_1163 rfl rfl (by decide) w6.1.1 w6.1.2 ?_
  refine J_arg (pc := 1164) (kv := 2) 1 0 dL_law_1164 dL_law_1165 dL_law_1167 dL_law_1168 dL_law_1169 rfl rfl (by decide) w6.2.1.1 w6.2.1.2 ?_
  refine J_truth (pc := 1170) dL_law_1170 dL_law_1173 dL_law_1174 dL_law_1177 ?_
  refine J_arg (pc := 1178) (kv := 3) 1 0 dL_law_1178 dL_law_1179 dL_law_1181 dL_law_1182 dL_law_1183 rfl rfl (by decide) w6.2.2.1.1 w6.2.2.1.2 ?_
  refine J_truth (pc := 1184) dL_law_1184 dL_law_1187 dL_law_1188 dL_law_1191 ?_
  refine J_arg (pc := 1192) (kv := 4) 1 0 dL_law_1192 dL_law_1193 dL_law_1195 dL_law_1196 dL_law_1197 rfl rfl (by decide) w6.2.2.2.1.1 w6.2.2.2.1.2 ?_
  refine J_truth (pc := 1198) dL_law_1198 dL_law_1201 dL_law_1202 dL_law_1205 ?_
  refine JC_law (stk := []) s1 (lwv_okq w i) trivial (J_callV (mi := mi_law) (mj := mi_X11_steal) (a := 0) (ci := 10) (pc := 1206) (kc := kc + 0) (ks := ks + 0) (stk := []) (av := [.int p1, .int (if p2 = 0 then 0 else 1), .int (if p3 = 0 then 0 else 1), .int (if p4 = 0 then 0 else 1)]) dL_law_1206 ml_L_168 ok_X11_steal ov_X11_steal ⟨Nat.le_of_ble_eq_true rfl, Nat.le_of_ble_eq_true rfl⟩ rfl (Nat.lt_of_lt_of_le (by decide) w.1) w.2.1 rfl hX rfl (Nat.le_of_ble_eq_true rfl)) ?_
  refine J_aload_n (pc := 1209) 3 dL_law_1209 rfl rfl ?_
  refine J_arg (pc := 1210) (kv := 1) 1 0 dL_law_1210 dL_law_1211 dL_law_1213 dL_law_1214 dL_law_1215 rfl rfl (by decide) w6b.1.1 w6b.1.2 ?_
  refine J_arg (pc := 1216) (kv := 2) 1 0 dL_law_1216 dL_law_1217 dL_law_1219 dL_law_1220 dL_law_1221 rfl rfl (by decide) w6b.2.1.1 w6b.2.1.2 ?_
  refine J_truth (pc := 1222) dL_law_1222 dL_law_1225 dL_law_1226 dL_law_1229 ?_
  refine J_arg (pc := 1230) (kv := 3) 1 0 dL_law_1230 dL_law_1231 dL_law_1233 dL_law_1234 dL_law_1235 rfl rfl (by decide) w6b.2.2.1.1 w6b.2.2.1.2 ?_
  refine J_truth (pc := 1236) dL_law_1236 dL_law_1239 dL_law_1240 dL_law_1243 ?_
  refine J_arg (pc := 1244) (kv := 4) 1 0 dL_law_1244 dL_law_1245 dL_law_1247 dL_law_1248 dL_law_1249 rfl rfl (by decide) w6b.2.2.2.1.1 w6b.2.2.2.1.2 ?_
  refine J_truth (pc := 1250) dL_law_1250 dL_law_1253 dL_law_1254 dL_law_1257 ?_
  refine JC_law (stk := [.int x]) s2 (lwv_okq wb i) ⟨trivial, trivial⟩ (J_callV (mi := mi_law) (mj := mi_X13_steal) (a := 57) (ci := 12) (pc := 1258) (kc := kc) (ks := ks) (stk := [.int x]) (av := [.int p1, .int (if p2 = 0 then 0 else 1), .int (if p3 = 0 then 0 else 1), .int (if p4 = 0 then 0 else 1)]) dL_law_1258 ml_L_172 ok_X13_steal ov_X13_steal ⟨Nat.le_of_ble_eq_true rfl, Nat.le_of_ble_eq_true rfl⟩ rfl (Nat.lt_of_lt_of_le (by decide) wb.1) wb.2.2.1 rfl hM rfl (Nat.le_of_ble_eq_true rfl)) ?_
  exact J_same (pc := 1261) (tgt := 1874) dL_law_1261 (by decide) kk
set_option maxRecDepth 100000 in
theorem lc_37 {kc ks : Nat} {h h1 h2 : JH} {i p0 p1 p2 p3 p4 p5 : Int32} {x : Int32} {o : Option (Option Value × JH)} (w : j_lw h) (wb : j_lw h1) (w6 : lw_six h i p0 p1 p2 p3 p4 p5) (s1 : h1.1.2.2.2 = h.1.2.2.2) (s2 : h2.1.2.2.2 = h1.1.2.2.2) (hX : JM mi_X11_rests 0 0 h [.ref 0, .int p1] (some (some (.int x), h1))) (hM : JM mi_X13_rests 0 0 h1 [.ref 57, .int p1] (some (some (.int x), h2))) (kk : J mi_law 601024 7293034 kc ks h2 1874 (lw_loc i) [] o) : J mi_law 601024 7293034 (kc + 0) (ks + 0) h 1266 (lw_loc i) [] o := by
  have w6b := w6.to s1
  refine J_aload_n (pc := 1266) 2 dL_law_1266 rfl rfl ?_
  refine J_arg (pc := 1267) (kv := 1) 1 0 dL_law_1267 dL_law_1268 dL_law_1270 dL_law_1271 dL_law_1272 rfl rfl (by decide) w6.1.1 w6.1.2 ?_
  refine JC_law (stk := []) s1 (lwv_okq w i) trivial (J_callV (mi := mi_law) (mj := mi_X11_rests) (a := 0) (ci := 10) (pc := 1273) (kc := kc + 0) (ks := ks + 0) (stk := []) (av := [.int p1]) dL_law_1273 ml_L_173 ok_X11_rests ov_X11_rests ⟨Nat.le_of_ble_eq_true rfl, Nat.le_of_ble_eq_true rfl⟩ rfl (Nat.lt_of_lt_of_le (by decide) w.1) w.2.1 rfl hX rfl (Nat.le_of_ble_eq_true rfl)) ?_
  refine J_aload_n (pc := 1276) 3 dL_law_1276 rfl rfl ?_
  refine J_arg (pc := 1277) (kv := 1) 1 0 dL_law_1277 dL_law_1278 dL_law_1280 dL_law_1281 dL_law_1282 rfl rfl (by decide) w6b.1.1 w6b.1.2 ?_
  refine JC_law (stk := [.int x]) s2 (lwv_okq wb i) ⟨trivial, trivial⟩ (J_callV (mi := mi_law) (mj := mi_X13_rests) (a := 57) (ci := 12) (pc := 1283) (kc := kc) (ks := ks) (stk := [.int x]) (av := [.int p1]) dL_law_1283 ml_L_176 ok_X13_rests ov_X13_rests ⟨Nat.le_of_ble_eq_true rfl, Nat.le_of_ble_eq_true rfl⟩ rfl (Nat.lt_of_lt_of_le (by decide) wb.1) wb.2.2.1 rfl hM rfl (Nat.le_of_ble_eq_true rfl)) ?_
  exact J_same (pc := 1286) (tgt := 1874) dL_law_1286 (by decide) kk
set_option maxRecDepth 100000 in
theorem lc_38 {kc ks : Nat} {h h1 h2 : JH} {i p0 p1 p2 p3 p4 p5 : Int32} {x : Int32} {o : Option (Option Value × JH)} (w : j_lw h) (wb : j_lw h1) (w6 : lw_six h i p0 p1 p2 p3 p4 p5) (s1 : h1.1.2.2.2 = h.1.2.2.2) (s2 : h2.1.2.2.2 = h1.1.2.2.2) (hX : JM mi_X11_rest 0 0 h [.ref 0, .int p1] (some (some (.int x), h1))) (hM : JM mi_X13_rest 0 0 h1 [.ref 57, .int p1] (some (some (.int x), h2))) (kk : J mi_law 601024 7293034 kc ks h2 1874 (lw_loc i) [] o) : J mi_law 601024 7293034 (kc + 0) (ks + 0) h 1291 (lw_loc i) [] o := by
  have w6b := w6.to s1
  refine J_aload_n (pc := 1291) 2 dL_law_1291 rfl rfl ?_
  refine J_arg (pc := 1292) (kv := 1) 1 0 dL_law_1292 dL_law_1293 dL_law_1295 dL_law_1296 dL_law_1297 rfl rfl (by decide) w6.1.1 w6.1.2 ?_
  refine JC_law (stk := []) s1 (lwv_okq w i) trivial (J_callV (mi := mi_law) (mj := mi_X11_rest) (a := 0) (ci := 10) (pc := 1298) (kc := kc + 0) (ks := ks + 0) (stk := []) (av := [.int p1]) dL_law_1298 ml_L_177 ok_X11_rest ov_X11_rest ⟨Nat.le_of_ble_eq_true rfl, Nat.le_of_ble_eq_true rfl⟩ rfl (Nat.lt_of_lt_of_le (by decide) w.1) w.2.1 rfl hX rfl (Nat.le_of_ble_eq_true rfl)) ?_
  refine J_aload_n (pc := 1301) 3 dL_law_1301 rfl rfl ?_
  refine J_arg (pc := 1302) (kv := 1) 1 0 dL_law_1302 dL_law_1303 dL_law_1305 dL_law_1306 dL_law_1307 rfl rfl (by decide) w6b.1.1 w6b.1.2 ?_
  refine JC_law (stk := [.int x]) s2 (lwv_okq wb i) ⟨trivial, trivial⟩ (J_callV (mi := mi_law) (mj := mi_X13_rest) (a := 57) (ci := 12) (pc := 1308) (kc := kc) (ks := ks) (stk := [.int x]) (av := [.int p1]) dL_law_1308 ml_L_180 ok_X13_rest ov_X13_rest ⟨Nat.le_of_ble_eq_true rfl, Nat.le_of_ble_eq_true rfl⟩ rfl (Nat.lt_of_lt_of_le (by decide) wb.1) wb.2.2.1 rfl hM rfl (Nat.le_of_ble_eq_true rfl)) ?_
  exact J_same (pc := 1311) (tgt := 1874) dL_law_1311 (by decide) kk
set_option maxRecDepth 100000 in
theorem lc_39 {kc ks : Nat} {h h1 h2 : JH} {i p0 p1 p2 p3 p4 p5 : Int32} {x : Int64} {o : Option (Option Value × JH)} (w : j_lw h) (wb : j_lw h1) (w6 : lw_six h i p0 p1 p2 p3 p4 p5) (s1 : h1.1.2.2.2 = h.1.2.2.2) (s2 : h2.1.2.2.2 = h1.1.2.2.2) (hX : JM mi_X11_holds 0 0 h [.ref 0, .int p1, .int p2, .int (if p3 = 0 then 0 else 1)] (some (some (.long x), h1))) (hM : JM mi_X13_holds 0 0 h1 [.ref 57, .int p1, .int p2, .int (if p3 = 0 then 0 else 1)] (some (some (.long x), h2))) (kk : J mi_law 601024 7293034 kc ks h2 1874 (lw_loc i) [] o) : J mi_law 601024 7293034 (kc + 0) (ks + 0) h 1316 (lw_loc i) [] o := by
  have w6b := w6.to s1
  refine J_aload_n (pc := 1316) 2 dL_law_1316 rfl rfl ?_
  refine J_arg (pc := 1317) (kv := 1) 1 0 dL_law_1317 dL_law_1318 dL_law_1320 dL_law_1321 dL_law_1322 rfl rfl (by decide) w6.1.1 w6.1.2 ?_
  refine J_arg (pc := 1323) (kv := 2) 1 0 dL_law_1323 dL_law_1324 dL_law_1326 dL_law_1327 dL_law_1328 rfl rfl (by decide) w6.2.1.1 w6.2.1.2 ?_
  refine J_arg (pc := 1329) (kv := 3) 1 0 dL_law_1329 dL_law_1330 dL_law_1332 dL_law_1333 dL_law_1334 rfl rfl (by decide) w6.2.2.1.1 w6.2.2.1.2 ?_
  refine J_truth (pc := 1335) dL_law_1335 dL_law_1338 dL_law_1339 dL_law_1342 ?_
  refine JC_law (stk := []) s1 (lwv_okq w i) trivial (J_callV (mi := mi_law) (mj := mi_X11_holds) (a := 0) (ci := 10) (pc := 1343) (kc := kc + 0) (ks := ks + 0) (stk := []) (av := [.int p1, .int p2, .int (if p3 = 0 then 0 else 1)]) dL_law_1343 ml_L_181 ok_X11_holds ov_X11_holds ⟨Nat.le_of_ble_eq_true rfl, Nat.le_of_ble_eq_true rfl⟩ rfl (Nat.lt_of_lt_of_le (by decide) w.1) w.2.1 rfl hX rfl (Nat.le_of_ble_eq_true rfl)) ?_
  refine J_aload_n (pc := 1346) 3 dL_law_1346 rfl rfl ?_
  refine J_arg (pc := 1347) (kv := 1) 1 0 dL_law_1347 dL_law_1348 dL_law_1350 dL_law_1351 dL_law_1352 rfl rfl (by decide) w6b.1.1 w6b.1.2 ?_
  refine J_arg (pc := 1353) (kv := 2) 1 0 dL_law_1353 dL_law_1354 dL_law_1356 dL_law_1357 dL_law_1358 rfl rfl (by decide) w6b.2.1.1 w6b.2.1.2 ?_
  refine J_arg (pc := 1359) (kv := 3) 1 0 dL_law_1359 dL_law_1360 dL_law_1362 dL_law_1363 dL_law_1364 rfl rfl (by decide) w6b.2.2.1.1 w6b.2.2.1.2 ?_
  refine J_truth (pc := 1365) dL_law_1365 dL_law_1368 dL_law_1369 dL_law_1372 ?_
  refine JC_law (stk := [.long x]) s2 (lwv_okq wb i) ⟨trivial, trivial⟩ (J_callV (mi := mi_law) (mj := mi_X13_holds) (a := 57) (ci := 12) (pc := 1373) (kc := kc) (ks := ks) (stk := [.long x]) (av := [.int p1, .int p2, .int (if p3 = 0 then 0 else 1)]) dL_law_1373 ml_L_185 ok_X13_holds ov_X13_holds ⟨Nat.le_of_ble_eq_true rfl, Nat.le_of_ble_eq_true rfl⟩ rfl (Nat.lt_of_lt_of_le (by decide) wb.1) wb.2.2.1 rfl hM rfl (Nat.le_of_ble_eq_true rfl)) ?_
  exact J_sameL (pc := 1376) (tgt := 1874) dL_law_1376 dL_law_1377 (by decide) kk
set_option maxRecDepth 100000 in
theorem lc_40 {kc ks : Nat} {h h1 h2 : JH} {i p0 p1 p2 p3 p4 p5 : Int32} {x : Int64} {o : Option (Option Value × JH)} (w : j_lw h) (wb : j_lw h1) (w6 : lw_six h i p0 p1 p2 p3 p4 p5) (s1 : h1.1.2.2.2 = h.1.2.2.2) (s2 : h2.1.2.2.2 = h1.1.2.2.2) (hX : JM mi_X11_mean 0 0 h [.ref 0, .int p1, .int (if p2 = 0 then 0 else 1)] (some (some (.long x), h1))) (hM : JM mi_X13_mean 0 0 h1 [.ref 57, .int p1, .int (if p2 = 0 then 0 else 1)] (some (some (.long x), h2))) (kk : J mi_law 601024 7293034 kc ks h2 1874 (lw_loc i) [] o) : J mi_law 601024 7293034 (kc + 0) (ks + 0) h 1382 (lw_loc i) [] o := by
  have w6b := w6.to s1
  refine J_aload_n (pc := 1382) 2 dL_law_1382 rfl rfl ?_
  refine J_arg (pc := 1383) (kv := 1) 1 0 dL_law_1383 dL_law_1384 dL_law_1386 dL_law_1387 dL_law_1388 rfl rfl (by decide) w6.1.1 w6.1.2 ?_
  refine J_arg (pc := 1389) (kv := 2) 1 0 dL_law_1389 dL_law_1390 dL_law_1392 dL_law_1393 dL_law_1394 rfl rfl (by decide) w6.2.1.1 w6.2.1.2 ?_
  refine J_truth (pc := 1395) dL_law_1395 dL_law_1398 dL_law_1399 dL_law_1402 ?_
  refine JC_law (stk := []) s1 (lwv_okq w i) trivial (J_callV (mi := mi_law) (mj := mi_X11_mean) (a := 0) (ci := 10) (pc := 1403) (kc := kc + 0) (ks := ks + 0) (stk := []) (av := [.int p1, .int (if p2 = 0 then 0 else 1)]) dL_law_1403 ml_L_186 ok_X11_mean ov_X11_mean ⟨Nat.le_of_ble_eq_true rfl, Nat.le_of_ble_eq_true rfl⟩ rfl (Nat.lt_of_lt_of_le (by decide) w.1) w.2.1 rfl hX rfl (Nat.le_of_ble_eq_true rfl)) ?_
  refine J_aload_n (pc := 1406) 3 dL_law_1406 rfl rfl ?_
  refine J_arg (pc := 1407) (kv := 1) 1 0 dL_law_1407 dL_law_1408 dL_law_1410 dL_law_1411 dL_law_1412 rfl rfl (by decide) w6b.1.1 w6b.1.2 ?_
  refine J_arg (pc := 1413) (kv := 2) 1 0 dL_law_1413 dL_law_1414 dL_law_1416 dL_law_1417 dL_law_1418 rfl rfl (by decide) w6b.2.1.1 w6b.2.1.2 ?_
  refine J_truth (pc := 1419) dL_law_1419 dL_law_1422 dL_law_1423 dL_law_1426 ?_
  refine JC_law (stk := [.long x]) s2 (lwv_okq wb i) ⟨trivial, trivial⟩ (J_callV (mi := mi_law) (mj := mi_X13_mean) (a := 57) (ci := 12) (pc := 1427) (kc := kc) (ks := ks) (stk := [.long x]) (av := [.int p1, .int (if p2 = 0 then 0 else 1)]) dL_law_1427 ml_L_189 ok_X13_mean ov_X13_mean ⟨Nat.le_of_ble_eq_true rfl, Nat.le_of_ble_eq_true rfl⟩ rfl (Nat.lt_of_lt_of_le (by decide) wb.1) wb.2.2.1 rfl hM rfl (Nat.le_of_ble_eq_true rfl)) ?_
  exact J_sameL (pc := 1430) (tgt := 1874) dL_law_1430 dL_law_1431 (by decide) kk
set_option maxRecDepth 100000 in
theorem lc_41 {kc ks : Nat} {h h1 h2 : JH} {i p0 p1 p2 p3 p4 p5 : Int32} {x : Int64} {o : Option (Option Value × JH)} (w : j_lw h) (wb : j_lw h1) (w6 : lw_six h i p0 p1 p2 p3 p4 p5) (s1 : h1.1.2.2.2 = h.1.2.2.2) (s2 : h2.1.2.2.2 = h1.1.2.2.2) (hX : JM mi_X11_keeps 0 0 h [.ref 0, .int p1, .int p2, .int (if p3 = 0 then 0 else 1)] (some (some (.long x), h1))) (hM : JM mi_X13_keeps 0 0 h1 [.ref 57, .int p1, .int p2, .int (if p3 = 0 then 0 else 1)] (some (some (.long x), h2))) (kk : J mi_law 601024 7293034 kc ks h2 1874 (lw_loc i) [] o) : J mi_law 601024 7293034 (kc + 0) (ks + 0) h 1436 (lw_loc i) [] o := by
  have w6b := w6.to s1
  refine J_aload_n (pc := 1436) 2 dL_law_1436 rfl rfl ?_
  refine J_arg (pc := 1437) (kv := 1) 1 0 dL_law_1437 dL_law_1438 dL_law_1440 dL_law_1441 dL_law_1442 rfl rfl (by decide) w6.1.1 w6.1.2 ?_
  refine J_arg (pc := 1443) (kv := 2) 1 0 dL_law_1443 dL_law_1444 dL_law_1446 dL_law_1447 dL_law_1448 rfl rfl (by decide) w6.2.1.1 w6.2.1.2 ?_
  refine J_arg (pc := 1449) (kv := 3) 1 0 dL_law_1449 dL_law_1450 dL_law_1452 dL_law_1453 dL_law_1454 rfl rfl (by decide) w6.2.2.1.1 w6.2.2.1.2 ?_
  refine J_truth (pc := 1455) dL_law_1455 dL_law_1458 dL_law_1459 dL_law_1462 ?_
  refine JC_law (stk := []) s1 (lwv_okq w i) trivial (J_callV (mi := mi_law) (mj := mi_X11_keeps) (a := 0) (ci := 10) (pc := 1463) (kc := kc + 0) (ks := ks + 0) (stk := []) (av := [.int p1, .int p2, .int (if p3 = 0 then 0 else 1)]) dL_law_1463 ml_L_190 ok_X11_keeps ov_X11_keeps ⟨Nat.le_of_ble_eq_true rfl, Nat.le_of_ble_eq_true rfl⟩ rfl (Nat.lt_of_lt_of_le (by decide) w.1) w.2.1 rfl hX rfl (Nat.le_of_ble_eq_true rfl)) ?_
  refine J_aload_n (pc := 1466) 3 dL_law_1466 rfl rfl ?_
  refine J_arg (pc := 1467) (kv := 1) 1 0 dL_law_1467 dL_law_1468 dL_law_1470 dL_law_1471 dL_law_1472 rfl rfl (by decide) w6b.1.1 w6b.1.2 ?_
  refine J_arg (pc := 1473) (kv := 2) 1 0 dL_law_1473 dL_law_1474 dL_law_1476 dL_law_1477 dL_law_1478 rfl rfl (by decide) w6b.2.1.1 w6b.2.1.2 ?_
  refine J_arg (pc := 1479) (kv := 3) 1 0 dL_law_1479 dL_law_1480 dL_law_1482 dL_law_1483 dL_law_1484 rfl rfl (by decide) w6b.2.2.1.1 w6b.2.2.1.2 ?_
  refine J_truth (pc := 1485) dL_law_1485 dL_law_1488 dL_law_1489 dL_law_1492 ?_
  refine JC_law (stk := [.long x]) s2 (lwv_okq wb i) ⟨trivial, trivial⟩ (J_callV (mi := mi_law) (mj := mi_X13_keeps) (a := 57) (ci := 12) (pc := 1493) (kc := kc) (ks := ks) (stk := [.long x]) (av := [.int p1, .int p2, .int (if p3 = 0 then 0 else 1)]) dL_law_1493 ml_L_193 ok_X13_keeps ov_X13_keeps ⟨Nat.le_of_ble_eq_true rfl, Nat.le_of_ble_eq_true rfl⟩ rfl (Nat.lt_of_lt_of_le (by decide) wb.1) wb.2.2.1 rfl hM rfl (Nat.le_of_ble_eq_true rfl)) ?_
  exact J_sameL (pc := 1496) (tgt := 1874) dL_law_1496 dL_law_1497 (by decide) kk
set_option maxRecDepth 100000 in
theorem lc_42 {kc ks : Nat} {h h1 h2 : JH} {i p0 p1 p2 p3 p4 p5 : Int32} {x : Int32} {o : Option (Option Value × JH)} (w : j_lw h) (wb : j_lw h1) (w6 : lw_six h i p0 p1 p2 p3 p4 p5) (s1 : h1.1.2.2.2 = h.1.2.2.2) (s2 : h2.1.2.2.2 = h1.1.2.2.2) (hX : JM mi_X11_century 0 0 h [.ref 0, .int p1, .int p2, .int p3] (some (some (.int x), h1))) (hM : JM mi_X13_century 0 0 h1 [.ref 57, .int p1, .int p2, .int p3] (some (some (.int x), h2))) (kk : J mi_law 601024 7293034 kc ks h2 1874 (lw_loc i) [] o) : J mi_law 601024 7293034 (kc + 0) (ks + 0) h 1502 (lw_loc i) [] o := by
  have w6b := w6.to s1
  refine J_aload_n (pc := 1502) 2 dL_law_1502 rfl rfl ?_
  refine J_arg (pc := 1503) (kv := 1) 1 0 dL_law_1503 dL_law_1504 dL_law_1506 dL_law_1507 dL_law_1508 rfl rfl (by decide) w6.1.1 w6.1.2 ?_
  refine J_arg (pc := 1509) (kv := 2) 1 0 dL_law_1509 dL_law_1510 dL_law_1512 dL_law_1513 dL_law_1514 rfl rfl (by decide) w6.2.1.1 w6.2.1.2 ?_
  refine J_arg (pc := 1515) (kv := 3) 1 0 dL_law_1515 dL_law_1516 dL_law_1518 dL_law_1519 dL_law_1520 rfl rfl (by decide) w6.2.2.1.1 w6.2.2.1.2 ?_
  refine JC_law (stk := []) s1 (lwv_okq w i) trivial (J_callV (mi := mi_law) (mj := mi_X11_century) (a := 0) (ci := 10) (pc := 1521) (kc := kc + 0) (ks := ks + 0) (stk := []) (av := [.int p1, .int p2, .int p3]) dL_law_1521 ml_L_194 ok_X11_century ov_X11_century ⟨Nat.le_of_ble_eq_true rfl, Nat.le_of_ble_eq_true rfl⟩ rfl (Nat.lt_of_lt_of_le (by decide) w.1) w.2.1 rfl hX rfl (Nat.le_of_ble_eq_true rfl)) ?_
  refine J_aload_n (pc := 1524) 3 dL_law_1524 rfl rfl ?_
  refine J_arg (pc := 1525) (kv := 1) 1 0 dL_law_1525 dL_law_1526 dL_law_1528 dL_law_1529 dL_law_1530 rfl rfl (by decide) w6b.1.1 w6b.1.2 ?_
  refine J_arg (pc := 1531) (kv := 2) 1 0 dL_law_1531 dL_law_1532 dL_law_1534 dL_law_1535 dL_law_1536 rfl rfl (by decide) w6b.2.1.1 w6b.2.1.2 ?_
  refine J_arg (pc := 1537) (kv := 3) 1 0 dL_law_1537 dL_law_1538 dL_law_1540 dL_law_1541 dL_law_1542 rfl rfl (by decide) w6b.2.2.1.1 w6b.2.2.1.2 ?_
  refine JC_law (stk := [.int x]) s2 (lwv_okq wb i) ⟨trivial, trivial⟩ (J_callV (mi := mi_law) (mj := mi_X13_century) (a := 57) (ci := 12) (pc := 1543) (kc := kc) (ks := ks) (stk := [.int x]) (av := [.int p1, .int p2, .int p3]) dL_law_1543 ml_L_197 ok_X13_century ov_X13_century ⟨Nat.le_of_ble_eq_true rfl, Nat.le_of_ble_eq_true rfl⟩ rfl (Nat.lt_of_lt_of_le (by decide) wb.1) wb.2.2.1 rfl hM rfl (Nat.le_of_ble_eq_true rfl)) ?_
  exact J_same (pc := 1546) (tgt := 1874) dL_law_1546 (by decide) kk
set_option maxRecDepth 100000 in
theorem lc_43 {kc ks : Nat} {h h1 h2 : JH} {i p0 p1 p2 p3 p4 p5 : Int32} {x : Int32} {o : Option (Option Value × JH)} (w : j_lw h) (wb : j_lw h1) (w6 : lw_six h i p0 p1 p2 p3 p4 p5) (s1 : h1.1.2.2.2 = h.1.2.2.2) (s2 : h2.1.2.2.2 = h1.1.2.2.2) (hX : JM mi_X11_bare 0 0 h [.ref 0, .int p1, .int p2] (some (some (.int x), h1))) (hM : JM mi_X13_bare 0 0 h1 [.ref 57, .int p1, .int p2] (some (some (.int x), h2))) (kk : J mi_law 601024 7293034 kc ks h2 1874 (lw_loc i) [] o) : J mi_law 601024 7293034 (kc + 0) (ks + 0) h 1551 (lw_loc i) [] o := by
  have w6b := w6.to s1
  refine J_aload_n (pc := 1551) 2 dL_law_1551 rfl rfl ?_
  refine J_arg (pc := 1552) (kv := 1) 1 0 dL_law_1552 dL_law_1553 dL_law_1555 dL_law_1556 dL_law_1557 rfl rfl (by decide) w6.1.1 w6.1.2 ?_
  refine J_arg (pc := 1558) (kv := 2) 1 0 dL_law_1558 dL_law_1559 dL_law_1561 dL_law_1562 dL_law_1563 rfl rfl (by decide) w6.2.1.1 w6.2.1.2 ?_
  refine JC_law (stk := []) s1 (lwv_okq w i) trivial (J_callV (mi := mi_law) (mj := mi_X11_bare) (a := 0) (ci := 10) (pc := 1564) (kc := kc + 0) (ks := ks + 0) (stk := []) (av := [.int p1, .int p2]) dL_law_1564 ml_L_198 ok_X11_bare ov_X11_bare ⟨Nat.le_of_ble_eq_true rfl, Nat.le_of_ble_eq_true rfl⟩ rfl (Nat.lt_of_lt_of_le (by decide) w.1) w.2.1 rfl hX rfl (Nat.le_of_ble_eq_true rfl)) ?_
  refine J_aload_n (pc := 1567) 3 dL_law_1567 rfl rfl ?_
  refine J_arg (pc := 1568) (kv := 1) 1 0 dL_law_1568 dL_law_1569 dL_law_1571 dL_law_1572 dL_law_1573 rfl rfl (by decide) w6b.1.1 w6b.1.2 ?_
  refine J_arg (pc := 1574) (kv := 2) 1 0 dL_law_1574 dL_law_1575 dL_law_1577 dL_law_1578 dL_law_1579 rfl rfl (by decide) w6b.2.1.1 w6b.2.1.2 ?_
  refine JC_law (stk := [.int x]) s2 (lwv_okq wb i) ⟨trivial, trivial⟩ (J_callV (mi := mi_law) (mj := mi_X13_bare) (a := 57) (ci := 12) (pc := 1580) (kc := kc) (ks := ks) (stk := [.int x]) (av := [.int p1, .int p2]) dL_law_1580 ml_L_201 ok_X13_bare ov_X13_bare ⟨Nat.le_of_ble_eq_true rfl, Nat.le_of_ble_eq_true rfl⟩ rfl (Nat.lt_of_lt_of_le (by decide) wb.1) wb.2.2.1 rfl hM rfl (Nat.le_of_ble_eq_true rfl)) ?_
  exact J_same (pc := 1583) (tgt := 1874) dL_law_1583 (by decide) kk
set_option maxRecDepth 100000 in
theorem lc_44 {kc ks : Nat} {h h1 h2 : JH} {i p0 p1 p2 p3 p4 p5 : Int32} {x : Int32} {o : Option (Option Value × JH)} (w : j_lw h) (wb : j_lw h1) (w6 : lw_six h i p0 p1 p2 p3 p4 p5) (s1 : h1.1.2.2.2 = h.1.2.2.2) (s2 : h2.1.2.2.2 = h1.1.2.2.2) (hX : JM mi_X11_hang 0 0 h [.ref 0, .int p1, .int (if p2 = 0 then 0 else 1)] (some (some (.int x), h1))) (hM : JM mi_X13_hang 0 0 h1 [.ref 57, .int p1, .int (if p2 = 0 then 0 else 1)] (some (some (.int x), h2))) (kk : J mi_law 601024 7293034 kc ks h2 1874 (lw_loc i) [] o) : J mi_law 601024 7293034 (kc + 0) (ks + 0) h 1588 (lw_loc i) [] o := by
  have w6b := w6.to s1
  refine J_aload_n (pc := 1588) 2 dL_law_1588 rfl rfl ?_
  refine J_arg (pc := 1589) (kv := 1) 1 0 dL_law_1589 dL_law_1590 dL_law_1592 dL_law_1593 dL_law_1594 rfl rfl (by decide) w6.1.1 w6.1.2 ?_
  refine J_arg (pc := 1595) (kv := 2) 1 0 dL_law_1595 dL_law_1596 dL_law_1598 dL_law_1599 dL_law_1600 rfl rfl (by decide) w6.2.1.1 w6.2.1.2 ?_
  refine J_truth (pc := 1601) dL_law_1601 dL_law_1604 dL_law_1605 dL_law_1608 ?_
  refine JC_law (stk := []) s1 (lwv_okq w i) trivial (J_callV (mi := mi_law) (mj := mi_X11_hang) (a := 0) (ci := 10) (pc := 1609) (kc := kc + 0) (ks := ks + 0) (stk := []) (av := [.int p1, .int (if p2 = 0 then 0 else 1)]) dL_law_1609 ml_L_202 ok_X11_hang ov_X11_hang ⟨Nat.le_of_ble_eq_true rfl, Nat.le_of_ble_eq_true rfl⟩ rfl (Nat.lt_of_lt_of_le (by decide) w.1) w.2.1 rfl hX rfl (Nat.le_of_ble_eq_true rfl)) ?_
  refine J_aload_n (pc := 1612) 3 dL_law_1612 rfl rfl ?_
  refine J_arg (pc := 1613) (kv := 1) 1 0 dL_law_1613 dL_law_1614 dL_law_1616 dL_law_1617 dL_law_1618 rfl rfl (by decide) w6b.1.1 w6b.1.2 ?_
  refine J_arg (pc := 1619) (kv := 2) 1 0 dL_law_1619 dL_law_1620 dL_law_1622 dL_law_1623 dL_law_1624 rfl rfl (by decide) w6b.2.1.1 w6b.2.1.2 ?_
  refine J_truth (pc := 1625) dL_law_1625 dL_law_1628 dL_law_1629 dL_law_1632 ?_
  refine JC_law (stk := [.int x]) s2 (lwv_okq wb i) ⟨trivial, trivial⟩ (J_callV (mi := mi_law) (mj := mi_X13_hang) (a := 57) (ci := 12) (pc := 1633) (kc := kc) (ks := ks) (stk := [.int x]) (av := [.int p1, .int (if p2 = 0 then 0 else 1)]) dL_law_1633 ml_L_206 ok_X13_hang ov_X13_hang ⟨Nat.le_of_ble_eq_true rfl, Nat.le_of_ble_eq_true rfl⟩ rfl (Nat.lt_of_lt_of_le (by decide) wb.1) wb.2.2.1 rfl hM rfl (Nat.le_of_ble_eq_true rfl)) ?_
  exact J_same (pc := 1636) (tgt := 1874) dL_law_1636 (by decide) kk
set_option maxRecDepth 100000 in
theorem lc_45 {kc ks : Nat} {h h1 h2 : JH} {i p0 p1 p2 p3 p4 p5 : Int32} {x : Int32} {o : Option (Option Value × JH)} (w : j_lw h) (wb : j_lw h1) (w6 : lw_six h i p0 p1 p2 p3 p4 p5) (s1 : h1.1.2.2.2 = h.1.2.2.2) (s2 : h2.1.2.2.2 = h1.1.2.2.2) (hX : JM mi_X11_take 0 0 h [.ref 0, .int p1] (some (some (.int x), h1))) (hM : JM mi_X13_take 0 0 h1 [.ref 57, .int p1] (some (some (.int x), h2))) (kk : J mi_law 601024 7293034 kc ks h2 1874 (lw_loc i) [] o) : J mi_law 601024 7293034 (kc + 0) (ks + 0) h 1641 (lw_loc i) [] o := by
  have w6b := w6.to s1
  refine J_aload_n (pc := 1641) 2 dL_law_1641 rfl rfl ?_
  refine J_arg (pc := 1642) (kv := 1) 1 0 dL_law_1642 dL_law_1643 dL_law_1645 dL_law_1646 dL_law_1647 rfl rfl (by decide) w6.1.1 w6.1.2 ?_
  refine JC_law (stk := []) s1 (lwv_okq w i) trivial (J_callV (mi := mi_law) (mj := mi_X11_take) (a := 0) (ci := 10) (pc := 1648) (kc := kc + 0) (ks := ks + 0) (stk := []) (av := [.int p1]) dL_law_1648 ml_L_207 ok_X11_take ov_X11_take ⟨Nat.le_of_ble_eq_true rfl, Nat.le_of_ble_eq_true rfl⟩ rfl (Nat.lt_of_lt_of_le (by decide) w.1) w.2.1 rfl hX rfl (Nat.le_of_ble_eq_true rfl)) ?_
  refine J_aload_n (pc := 1651) 3 dL_law_1651 rfl rfl ?_
  refine J_arg (pc := 1652) (kv := 1) 1 0 dL_law_1652 dL_law_1653 dL_law_1655 dL_law_1656 dL_law_1657 rfl rfl (by decide) w6b.1.1 w6b.1.2 ?_
  refine JC_law (stk := [.int x]) s2 (lwv_okq wb i) ⟨trivial, trivial⟩ (J_callV (mi := mi_law) (mj := mi_X13_take) (a := 57) (ci := 12) (pc := 1658) (kc := kc) (ks := ks) (stk := [.int x]) (av := [.int p1]) dL_law_1658 ml_L_211 ok_X13_take ov_X13_take ⟨Nat.le_of_ble_eq_true rfl, Nat.le_of_ble_eq_true rfl⟩ rfl (Nat.lt_of_lt_of_le (by decide) wb.1) wb.2.2.1 rfl hM rfl (Nat.le_of_ble_eq_true rfl)) ?_
  exact J_same (pc := 1661) (tgt := 1874) dL_law_1661 (by decide) kk
set_option maxRecDepth 100000 in
theorem lc_46 {kc ks : Nat} {h h1 h2 : JH} {i p0 p1 p2 p3 p4 p5 : Int32} {x : Int32} {o : Option (Option Value × JH)} (w : j_lw h) (wb : j_lw h1) (w6 : lw_six h i p0 p1 p2 p3 p4 p5) (s1 : h1.1.2.2.2 = h.1.2.2.2) (s2 : h2.1.2.2.2 = h1.1.2.2.2) (hX : JM mi_X11_turnOver 0 0 h [.ref 0, .int p1] (some (some (.int x), h1))) (hM : JM mi_X13_turnOver 0 0 h1 [.ref 57, .int p1] (some (some (.int x), h2))) (kk : J mi_law 601024 7293034 kc ks h2 1874 (lw_loc i) [] o) : J mi_law 601024 7293034 (kc + 0) (ks + 0) h 1666 (lw_loc i) [] o := by
  have w6b := w6.to s1
  refine J_aload_n (pc := 1666) 2 dL_law_1666 rfl rfl ?_
  refine J_arg (pc := 1667) (kv := 1) 1 0 dL_law_1667 dL_law_1668 dL_law_1670 dL_law_1671 dL_law_1672 rfl rfl (by decide) w6.1.1 w6.1.2 ?_
  refine JC_law (stk := []) s1 (lwv_okq w i) trivial (J_callV (mi := mi_law) (mj := mi_X11_turnOver) (a := 0) (ci := 10) (pc := 1673) (kc := kc + 0) (ks := ks + 0) (stk := []) (av := [.int p1]) dL_law_1673 ml_L_212 ok_X11_turnOver ov_X11_turnOver ⟨Nat.le_of_ble_eq_true rfl, Nat.le_of_ble_eq_true rfl⟩ rfl (Nat.lt_of_lt_of_le (by decide) w.1) w.2.1 rfl hX rfl (Nat.le_of_ble_eq_true rfl)) ?_
  refine J_aload_n (pc := 1676) 3 dL_law_1676 rfl rfl ?_
  refine J_arg (pc := 1677) (kv := 1) 1 0 dL_law_1677 dL_law_1678 dL_law_1680 dL_law_1681 dL_law_1682 rfl rfl (by decide) w6b.1.1 w6b.1.2 ?_
  refine JC_law (stk := [.int x]) s2 (lwv_okq wb i) ⟨trivial, trivial⟩ (J_callV (mi := mi_law) (mj := mi_X13_turnOver) (a := 57) (ci := 12) (pc := 1683) (kc := kc) (ks := ks) (stk := [.int x]) (av := [.int p1]) dL_law_1683 ml_L_215 ok_X13_turnOver ov_X13_turnOver ⟨Nat.le_of_ble_eq_true rfl, Nat.le_of_ble_eq_true rfl⟩ rfl (Nat.lt_of_lt_of_le (by decide) wb.1) wb.2.2.1 rfl hM rfl (Nat.le_of_ble_eq_true rfl)) ?_
  exact J_same (pc := 1686) (tgt := 1874) dL_law_1686 (by decide) kk
set_option maxRecDepth 100000 in
theorem lc_47 {kc ks : Nat} {h h1 h2 : JH} {i p0 p1 p2 p3 p4 p5 : Int32} {x : Int32} {o : Option (Option Value × JH)} (w : j_lw h) (wb : j_lw h1) (w6 : lw_six h i p0 p1 p2 p3 p4 p5) (s1 : h1.1.2.2.2 = h.1.2.2.2) (s2 : h2.1.2.2.2 = h1.1.2.2.2) (hX : JM mi_X11_gust 0 0 h [.ref 0] (some (some (.int x), h1))) (hM : JM mi_X13_gust 0 0 h1 [.ref 57] (some (some (.int x), h2))) (kk : J mi_law 601024 7293034 kc ks h2 1874 (lw_loc i) [] o) : J mi_law 601024 7293034 (kc + 0) (ks + 0) h 1691 (lw_loc i) [] o := by
  have w6b := w6.to s1
  refine J_aload_n (pc := 1691) 2 dL_law_1691 rfl rfl ?_
  refine JC_law (stk := []) s1 (lwv_okq w i) trivial (J_callV (mi := mi_law) (mj := mi_X11_gust) (a := 0) (ci := 10) (pc := 1692) (kc := kc + 0) (ks := ks + 0) (stk := []) (av := []) dL_law_1692 ml_L_216 ok_X11_gust ov_X11_gust ⟨Nat.le_of_ble_eq_true rfl, Nat.le_of_ble_eq_true rfl⟩ rfl (Nat.lt_of_lt_of_le (by decide) w.1) w.2.1 rfl hX rfl (Nat.le_of_ble_eq_true rfl)) ?_
  refine J_aload_n (pc := 1695) 3 dL_law_1695 rfl rfl ?_
  refine JC_law (stk := [.int x]) s2 (lwv_okq wb i) ⟨trivial, trivial⟩ (J_callV (mi := mi_law) (mj := mi_X13_gust) (a := 57) (ci := 12) (pc := 1696) (kc := kc) (ks := ks) (stk := [.int x]) (av := []) dL_law_1696 ml_L_219 ok_X13_gust ov_X13_gust ⟨Nat.le_of_ble_eq_true rfl, Nat.le_of_ble_eq_true rfl⟩ rfl (Nat.lt_of_lt_of_le (by decide) wb.1) wb.2.2.1 rfl hM rfl (Nat.le_of_ble_eq_true rfl)) ?_
  exact J_same (pc := 1699) (tgt := 1874) dL_law_1699 (by decide) kk
set_option maxRecDepth 100000 in
theorem lc_48 {kc ks : Nat} {h h1 h2 : JH} {i p0 p1 p2 p3 p4 p5 : Int32} {x : Int32} {o : Option (Option Value × JH)} (w : j_lw h) (wb : j_lw h1) (w6 : lw_six h i p0 p1 p2 p3 p4 p5) (s1 : h1.1.2.2.2 = h.1.2.2.2) (s2 : h2.1.2.2.2 = h1.1.2.2.2) (hX : JM mi_X11_seed 0 0 h [.ref 0, .int p1] (some (some (.int x), h1))) (hM : JM mi_X13_seed 0 0 h1 [.ref 57, .int p1] (some (some (.int x), h2))) (kk : J mi_law 601024 7293034 kc ks h2 1874 (lw_loc i) [] o) : J mi_law 601024 7293034 (kc + 0) (ks + 0) h 1704 (lw_loc i) [] o := by
  have w6b := w6.to s1
  refine J_aload_n (pc := 1704) 2 dL_law_1704 rfl rfl ?_
  refine J_arg (pc := 1705) (kv := 1) 1 0 dL_law_1705 dL_law_1706 dL_law_1708 dL_law_1709 dL_law_1710 rfl rfl (by decide) w6.1.1 w6.1.2 ?_
  refine JC_law (stk := []) s1 (lwv_okq w i) trivial (J_callV (mi := mi_law) (mj := mi_X11_seed) (a := 0) (ci := 10) (pc := 1711) (kc := kc + 0) (ks := ks + 0) (stk := []) (av := [.int p1]) dL_law_1711 ml_L_220 ok_X11_seed ov_X11_seed ⟨Nat.le_of_ble_eq_true rfl, Nat.le_of_ble_eq_true rfl⟩ rfl (Nat.lt_of_lt_of_le (by decide) w.1) w.2.1 rfl hX rfl (Nat.le_of_ble_eq_true rfl)) ?_
  refine J_aload_n (pc := 1714) 3 dL_law_1714 rfl rfl ?_
  refine J_arg (pc := 1715) (kv := 1) 1 0 dL_law_1715 dL_law_1716 dL_law_1718 dL_law_1719 dL_law_1720 rfl rfl (by decide) w6b.1.1 w6b.1.2 ?_
  refine JC_law (stk := [.int x]) s2 (lwv_okq wb i) ⟨trivial, trivial⟩ (J_callV (mi := mi_law) (mj := mi_X13_seed) (a := 57) (ci := 12) (pc := 1721) (kc := kc) (ks := ks) (stk := [.int x]) (av := [.int p1]) dL_law_1721 ml_L_223 ok_X13_seed ov_X13_seed ⟨Nat.le_of_ble_eq_true rfl, Nat.le_of_ble_eq_true rfl⟩ rfl (Nat.lt_of_lt_of_le (by decide) wb.1) wb.2.2.1 rfl hM rfl (Nat.le_of_ble_eq_true rfl)) ?_
  exact J_same (pc := 1724) (tgt := 1874) dL_law_1724 (by decide) kk
set_option maxRecDepth 100000 in
theorem lc_49 {kc ks : Nat} {h h1 h2 : JH} {i p0 p1 p2 p3 p4 p5 : Int32} {x : Int32} {o : Option (Option Value × JH)} (w : j_lw h) (wb : j_lw h1) (w6 : lw_six h i p0 p1 p2 p3 p4 p5) (s1 : h1.1.2.2.2 = h.1.2.2.2) (s2 : h2.1.2.2.2 = h1.1.2.2.2) (hX : JM mi_X11_undo 0 0 h [.ref 0] (some (some (.int x), h1))) (hM : JM mi_X13_undo 0 0 h1 [.ref 57] (some (some (.int x), h2))) (kk : J mi_law 601024 7293034 kc ks h2 1874 (lw_loc i) [] o) : J mi_law 601024 7293034 (kc + 0) (ks + 0) h 1729 (lw_loc i) [] o := by
  have w6b := w6.to s1
  refine J_aload_n (pc := 1729) 2 dL_law_1729 rfl rfl ?_
  refine JC_law (stk := []) s1 (lwv_okq w i) trivial (J_callV (mi := mi_law) (mj := mi_X11_undo) (a := 0) (ci := 10) (pc := 1730) (kc := kc + 0) (ks := ks + 0) (stk := []) (av := []) dL_law_1730 ml_L_224 ok_X11_undo ov_X11_undo ⟨Nat.le_of_ble_eq_true rfl, Nat.le_of_ble_eq_true rfl⟩ rfl (Nat.lt_of_lt_of_le (by decide) w.1) w.2.1 rfl hX rfl (Nat.le_of_ble_eq_true rfl)) ?_
  refine J_aload_n (pc := 1733) 3 dL_law_1733 rfl rfl ?_
  refine JC_law (stk := [.int x]) s2 (lwv_okq wb i) ⟨trivial, trivial⟩ (J_callV (mi := mi_law) (mj := mi_X13_undo) (a := 57) (ci := 12) (pc := 1734) (kc := kc) (ks := ks) (stk := [.int x]) (av := []) dL_law_1734 ml_L_228 ok_X13_undo ov_X13_undo ⟨Nat.le_of_ble_eq_true rfl, Nat.le_of_ble_eq_true rfl⟩ rfl (Nat.lt_of_lt_of_le (by decide) wb.1) wb.2.2.1 rfl hM rfl (Nat.le_of_ble_eq_true rfl)) ?_
  exact J_same (pc := 1737) (tgt := 1874) dL_law_1737 (by decide) kk
set_option maxRecDepth 100000 in
theorem lc_50 {kc ks : Nat} {h h1 h2 : JH} {i p0 p1 p2 p3 p4 p5 : Int32} {x : Int32} {o : Option (Option Value × JH)} (w : j_lw h) (wb : j_lw h1) (w6 : lw_six h i p0 p1 p2 p3 p4 p5) (s1 : h1.1.2.2.2 = h.1.2.2.2) (s2 : h2.1.2.2.2 = h1.1.2.2.2) (hX : JM mi_X11_image 0 0 h [.ref 0] (some (some (.int x), h1))) (hM : JM mi_X13_image 0 0 h1 [.ref 57] (some (some (.int x), h2))) (kk : J mi_law 601024 7293034 kc ks h2 1874 (lw_loc i) [] o) : J mi_law 601024 7293034 (kc + 0) (ks + 0) h 1742 (lw_loc i) [] o := by
  have w6b := w6.to s1
  refine J_aload_n (pc := 1742) 2 dL_law_1742 rfl rfl ?_
  refine JC_law (stk := []) s1 (lwv_okq w i) trivial (J_callV (mi := mi_law) (mj := mi_X11_image) (a := 0) (ci := 10) (pc := 1743) (kc := kc + 0) (ks := ks + 0) (stk := []) (av := []) dL_law_1743 ml_L_229 ok_X11_image ov_X11_image ⟨Nat.le_of_ble_eq_true rfl, Nat.le_of_ble_eq_true rfl⟩ rfl (Nat.lt_of_lt_of_le (by decide) w.1) w.2.1 rfl hX rfl (Nat.le_of_ble_eq_true rfl)) ?_
  refine J_aload_n (pc := 1746) 3 dL_law_1746 rfl rfl ?_
  refine JC_law (stk := [.int x]) s2 (lwv_okq wb i) ⟨trivial, trivial⟩ (J_callV (mi := mi_law) (mj := mi_X13_image) (a := 57) (ci := 12) (pc := 1747) (kc := kc) (ks := ks) (stk := [.int x]) (av := []) dL_law_1747 ml_L_232 ok_X13_image ov_X13_image ⟨Nat.le_of_ble_eq_true rfl, Nat.le_of_ble_eq_true rfl⟩ rfl (Nat.lt_of_lt_of_le (by decide) wb.1) wb.2.2.1 rfl hM rfl (Nat.le_of_ble_eq_true rfl)) ?_
  exact J_same (pc := 1750) (tgt := 1874) dL_law_1750 (by decide) kk
set_option maxRecDepth 100000 in
theorem lc_51 {kc ks : Nat} {h h1 h2 : JH} {i p0 p1 p2 p3 p4 p5 : Int32} {x : Int32} {o : Option (Option Value × JH)} (w : j_lw h) (wb : j_lw h1) (w6 : lw_six h i p0 p1 p2 p3 p4 p5) (s1 : h1.1.2.2.2 = h.1.2.2.2) (s2 : h2.1.2.2.2 = h1.1.2.2.2) (hX : JM mi_X11_back 0 0 h [.ref 0, .int p1] (some (some (.int x), h1))) (hM : JM mi_X13_back 0 0 h1 [.ref 57, .int p1] (some (some (.int x), h2))) (kk : J mi_law 601024 7293034 kc ks h2 1874 (lw_loc i) [] o) : J mi_law 601024 7293034 (kc + 0) (ks + 0) h 1755 (lw_loc i) [] o := by
  have w6b := w6.to s1
  refine J_aload_n (pc := 1755) 2 dL_law_1755 rfl rfl ?_
  refine J_arg (pc := 1756) (kv := 1) 1 0 dL_law_1756 dL_law_1757 dL_law_1759 dL_law_1760 dL_law_1761 rfl rfl (by decide) w6.1.1 w6.1.2 ?_
  refine JC_law (stk := []) s1 (lwv_okq w i) trivial (J_callV (mi := mi_law) (mj := mi_X11_back) (a := 0) (ci := 10) (pc := 1762) (kc := kc + 0) (ks := ks + 0) (stk := []) (av := [.int p1]) dL_law_1762 ml_L_233 ok_X11_back ov_X11_back ⟨Nat.le_of_ble_eq_true rfl, Nat.le_of_ble_eq_true rfl⟩ rfl (Nat.lt_of_lt_of_le (by decide) w.1) w.2.1 rfl hX rfl (Nat.le_of_ble_eq_true rfl)) ?_
  refine J_aload_n (pc := 1765) 3 dL_law_1765 rfl rfl ?_
  refine J_arg (pc := 1766) (kv := 1) 1 0 dL_law_1766 dL_law_1767 dL_law_1769 dL_law_1770 dL_law_1771 rfl rfl (by decide) w6b.1.1 w6b.1.2 ?_
  refine JC_law (stk := [.int x]) s2 (lwv_okq wb i) ⟨trivial, trivial⟩ (J_callV (mi := mi_law) (mj := mi_X13_back) (a := 57) (ci := 12) (pc := 1772) (kc := kc) (ks := ks) (stk := [.int x]) (av := [.int p1]) dL_law_1772 ml_L_236 ok_X13_back ov_X13_back ⟨Nat.le_of_ble_eq_true rfl, Nat.le_of_ble_eq_true rfl⟩ rfl (Nat.lt_of_lt_of_le (by decide) wb.1) wb.2.2.1 rfl hM rfl (Nat.le_of_ble_eq_true rfl)) ?_
  exact J_same (pc := 1775) (tgt := 1874) dL_law_1775 (by decide) kk
set_option maxRecDepth 100000 in
theorem lc_53 {kc ks : Nat} {h h1 h2 : JH} {i p0 p1 p2 p3 p4 p5 : Int32} {x : Int32} {o : Option (Option Value × JH)} (w : j_lw h) (wb : j_lw h1) (w6 : lw_six h i p0 p1 p2 p3 p4 p5) (s1 : h1.1.2.2.2 = h.1.2.2.2) (s2 : h2.1.2.2.2 = h1.1.2.2.2) (hX : JM mi_X11_size 0 0 h [.ref 0, .int p1] (some (some (.int x), h1))) (hM : JM mi_X13_size 0 0 h1 [.ref 57, .int p1] (some (some (.int x), h2))) (kk : J mi_law 601024 7293034 kc ks h2 1874 (lw_loc i) [] o) : J mi_law 601024 7293034 (kc + 0) (ks + 0) h 1836 (lw_loc i) [] o := by
  have w6b := w6.to s1
  refine J_aload_n (pc := 1836) 2 dL_law_1836 rfl rfl ?_
  refine J_arg (pc := 1837) (kv := 1) 1 0 dL_law_1837 dL_law_1838 dL_law_1840 dL_law_1841 dL_law_1842 rfl rfl (by decide) w6.1.1 w6.1.2 ?_
  refine JC_law (stk := []) s1 (lwv_okq w i) trivial (J_callV (mi := mi_law) (mj := mi_X11_size) (a := 0) (ci := 10) (pc := 1843) (kc := kc + 0) (ks := ks + 0) (stk := []) (av := [.int p1]) dL_law_1843 ml_L_246 ok_X11_size ov_X11_size ⟨Nat.le_of_ble_eq_true rfl, Nat.le_of_ble_eq_true rfl⟩ rfl (Nat.lt_of_lt_of_le (by decide) w.1) w.2.1 rfl hX rfl (Nat.le_of_ble_eq_true rfl)) ?_
  refine J_aload_n (pc := 1846) 3 dL_law_1846 rfl rfl ?_
  refine J_arg (pc := 1847) (kv := 1) 1 0 dL_law_1847 dL_law_1848 dL_law_1850 dL_law_1851 dL_law_1852 rfl rfl (by decide) w6b.1.1 w6b.1.2 ?_
  refine JC_law (stk := [.int x]) s2 (lwv_okq wb i) ⟨trivial, trivial⟩ (J_callV (mi := mi_law) (mj := mi_X13_size) (a := 57) (ci := 12) (pc := 1853) (kc := kc) (ks := ks) (stk := [.int x]) (av := [.int p1]) dL_law_1853 ml_L_249 ok_X13_size ov_X13_size ⟨Nat.le_of_ble_eq_true rfl, Nat.le_of_ble_eq_true rfl⟩ rfl (Nat.lt_of_lt_of_le (by decide) wb.1) wb.2.2.1 rfl hM rfl (Nat.le_of_ble_eq_true rfl)) ?_
  exact J_same (pc := 1856) (tgt := 1874) dL_law_1856 (by decide) kk
set_option maxRecDepth 100000 in
theorem lc_54 {kc ks : Nat} {h h1 h2 : JH} {i p0 p1 p2 p3 p4 p5 : Int32} {x : Int32} {o : Option (Option Value × JH)} (w : j_lw h) (wb : j_lw h1) (w6 : lw_six h i p0 p1 p2 p3 p4 p5) (s1 : h1.1.2.2.2 = h.1.2.2.2) (s2 : h2.1.2.2.2 = h1.1.2.2.2) (hX : JM mi_X11_trouble 0 0 h [.ref 0] (some (some (.int x), h1))) (hM : JM mi_X13_trouble 0 0 h1 [.ref 57] (some (some (.int x), h2))) (kk : J mi_law 601024 7293034 kc ks h2 1874 (lw_loc i) [] o) : J mi_law 601024 7293034 (kc + 0) (ks + 0) h 1861 (lw_loc i) [] o := by
  have w6b := w6.to s1
  refine J_aload_n (pc := 1861) 2 dL_law_1861 rfl rfl ?_
  refine JC_law (stk := []) s1 (lwv_okq w i) trivial (J_callV (mi := mi_law) (mj := mi_X11_trouble) (a := 0) (ci := 10) (pc := 1862) (kc := kc + 0) (ks := ks + 0) (stk := []) (av := []) dL_law_1862 ml_L_250 ok_X11_trouble ov_X11_trouble ⟨Nat.le_of_ble_eq_true rfl, Nat.le_of_ble_eq_true rfl⟩ rfl (Nat.lt_of_lt_of_le (by decide) w.1) w.2.1 rfl hX rfl (Nat.le_of_ble_eq_true rfl)) ?_
  refine J_aload_n (pc := 1865) 3 dL_law_1865 rfl rfl ?_
  refine JC_law (stk := [.int x]) s2 (lwv_okq wb i) ⟨trivial, trivial⟩ (J_callV (mi := mi_law) (mj := mi_X13_trouble) (a := 57) (ci := 12) (pc := 1866) (kc := kc) (ks := ks) (stk := [.int x]) (av := []) dL_law_1866 ml_L_253 ok_X13_trouble ov_X13_trouble ⟨Nat.le_of_ble_eq_true rfl, Nat.le_of_ble_eq_true rfl⟩ rfl (Nat.lt_of_lt_of_le (by decide) wb.1) wb.2.2.1 rfl hM rfl (Nat.le_of_ble_eq_true rfl)) ?_
  exact J_same (pc := 1869) (tgt := 1874) dL_law_1869 (by decide) kk
