/-! texts of the pools: String.length, String.charAt -/
def j_sb (k : Nat) : List Int32 := (j_site k).2.2.2
def f_J0_length_8abf5 (k : Nat) : Int32 := Int32.ofNat (j_sb k).length >>> ((0 : Int32) &&& 31)
def f_J0_charAt_5068e (k : Nat) (i : Int32) : Option Int32 := if j_out i (j_sb k).length then none else some ((((j_sb k).getD i.toNatClampNeg 0) &&& 255).toUInt32 % 65536).toInt32
section JS
variable {mi mj : JMI} {mc ms kc ks mc' ms' : Nat} {g : JG} {d : JD} {h : JH} {pc : Nat} {loc : List (Nat × Value)} {st0 stk : List Value} {o oc : Option (Option Value × JH)}
theorem J_callStr {k n idx : Nat} {av : List Value} (hd : decode mi.2.1 pc = .ok (.invokevirtual idx, 3)) (hlink : j_ML mi.2.2.2.2.1 idx mj.1) (hok : j_OK mj n) (hov : j_OV mj) (hR : j_RM mi mj) (hn : av.length = n) (hM : JM mj mc' ms' h (.ref (1000000 + k) :: av) oc) (hst : st0 = av.reverse ++ .ref (1000000 + k) :: stk) (hcat : (stk.map fun v => v.category).sum ≤ 8) (hk38 : k < 38) (hcls : mj.1.cls = "java/lang/String") : JC mi mc ms (kc + mc') (ks + ms') kc ks h pc loc st0 stk oc := by
  intro k' hx kk r hr l p e s m args below meth c D cI cJ cB A α H locs cells slots ls Qc C V hc hs hl E
  cases hoc : oc with
  | none => rw [hoc] at hr; cases hr
  | some r0 =>
    rw [hoc] at hr
    have hr' : k' r0 = some r := hr
    have hMet := hM r0 hoc l D cI cJ cB α H.size
    have hrecv : ∃ cell : Cell, H[α (1000000 + k)]? = some cell ∧ cell.vm.isStatics = false ∧ s.vm.findClass mj.1.cls = some cell.cls := by
      obtain ⟨cell, h1, h2, h3, -⟩ := (V.2.2.2.1.1 k hk38).2.1.kept V.2.2.1.2.1
      exact ⟨cell, h1, h2, by rw [hcls]; exact h3⟩
    have hpre : PreV s H mj.1.cls (α (1000000 + k)) (j_Pc h (.ref (1000000 + k) :: av) D cI cJ cB α H.size) (av.map (j_tv α)) := ⟨j_blind, hrecv, j_pre V C.2.2.2.2.2.2.2.2.1 C.2.2.2.2.2.2.2.2.2⟩
    have hst' : (F0 m pc ls (st0.map (j_tv α))).stack = (av.map (j_tv α)).reverse ++ .ref (α (1000000 + k)) :: stk.map (j_tv α) := by
      show st0.map (j_tv α) = _
      rw [hst, List.map_append, List.map_reverse, List.map_cons]
      rfl
    have hn' : (av.map (j_tv α)).length = n := by rw [List.length_map]; exact hn
    have hcat' : 2 * (F0 m pc ls (st0.map (j_tv α))).monitorRoom + ((stk.map (j_tv α)).map fun v => v.category).sum ≤ 8 := lv_room (by rw [j_cats]; exact hcat)
    refine j_run (mc' := mc') (ms' := ms') hr' (hx r0 hoc) (kk r0 hoc) C V hc hs hl E (a := (Value.ref (α (1000000 + k)) :: av.map (j_tv α)).toArray) ?_
    rcases hlink with hlink | ⟨host, hlink⟩
    · exact va_runV (cc := mi.2.1) (nL := mi.2.2.1) (Ts := j_gw) (own := mi.2.2.2.2.1) ⟨C.1, C.2.1, C.2.2.1, C.2.2.2.2.1, C.2.2.2.2.2.1⟩ hMet ⟨callB_of n C.2.2.2.2.2.1 (j_good hok) rfl rfl rfl (C.2.2.2.2.2.1 _ hok.2.1) (C.2.2.2.2.2.1 _ hlink) hok.2.2 hR, C.2.2.2.2.2.1 _ hov.1, C.2.2.2.2.2.1 _ hov.2⟩ hpre rfl hn' hl.1 hst' hcat' hd ⟨show cells + mc' ≤ mc by omega, show slots + ms' ≤ ms by omega⟩
    · exact va_runVN (cc := mi.2.1) (nL := mi.2.2.1) (Ts := j_gw) (own := mi.2.2.2.2.1) ⟨C.1, C.2.1, C.2.2.1, C.2.2.2.2.1, C.2.2.2.2.2.1⟩ hMet ⟨va_cnB n C.2.2.2.2.2.1 (j_good hok) rfl rfl rfl (V.2.2.2.1.2.2.2.2 _ hlink) (C.2.2.2.2.2.1 _ hok.2.1) hok.2.2 hR, C.2.2.2.2.2.1 _ hov.1, C.2.2.2.2.2.1 _ hov.2⟩ hpre rfl hn' hl.1 hst' hcat' hd ⟨show cells + mc' ≤ mc by omega, show slots + ms' ≤ ms by omega⟩
theorem J_strVal {k idx : Nat} (hd : decode mi.2.1 pc = .ok (.getfield idx, 3)) (hw : Cond.fieldLink mi.2.2.2.2.1 idx "java/lang/String" "value" "[B" ∈ j_gw) (hk : k < 38) (kk : J mi mc ms kc ks h (pc + 3) loc (.ref (2000000 + k) :: stk) o) : J mi mc ms kc ks h pc loc (.ref (1000000 + k) :: stk) o := by
  intro r hr l p e s m args below meth c D cI cJ cB A α H locs cells slots ls Qc C V hc hs hl E
  exact vk_getf C.1 C.2.1 (V.2.2.2.1.1 k hk).2.2.2.1 V.2.2.1 C.2.2.2.2.1 (C.2.2.2.2.2.1 _ hw) (fun _ h9 => h9) hd (kk r hr l p e s m args below meth c D cI cJ cB A α H locs cells slots ls Qc C V hc hs hl E)
theorem J_strCoder {k idx : Nat} (hd : decode mi.2.1 pc = .ok (.getfield idx, 3)) (hw : Cond.fieldLink mi.2.2.2.2.1 idx "java/lang/String" "coder" "B" ∈ j_gw) (hk : k < 38) (kk : J mi mc ms kc ks h (pc + 3) loc (.int 0 :: stk) o) : J mi mc ms kc ks h pc loc (.ref (1000000 + k) :: stk) o := by
  intro r hr l p e s m args below meth c D cI cJ cB A α H locs cells slots ls Qc C V hc hs hl E
  exact vk_getf C.1 C.2.1 (V.2.2.2.1.1 k hk).2.2.1 V.2.2.1 C.2.2.2.2.1 (C.2.2.2.2.2.1 _ hw) (fun _ h9 => h9) hd (kk r hr l p e s m args below meth c D cI cJ cB A α H locs cells slots ls Qc C V hc hs hl E)
theorem J_strLen {k : Nat} (hd : decode mi.2.1 pc = .ok (.arraylength, 1)) (hk : k < 38) (kk : J mi mc ms kc ks h (pc + 1) loc (.int (Int32.ofNat (j_sb k).length) :: stk) o) : J mi mc ms kc ks h pc loc (.ref (2000000 + k) :: stk) o := by
  intro r hr l p e s m args below meth c D cI cJ cB A α H locs cells slots ls Qc C V hc hs hl E
  exact va_tlen C.1 C.2.1 (V.2.2.2.1.1 k hk).2.2.2.2 V.2.2.1 rfl hd (kk r hr l p e s m args below meth c D cI cJ cB A α H locs cells slots ls Qc C V hc hs hl E)
theorem J_strByte {k : Nat} {i : Int32} (hd : decode mi.2.1 pc = .ok (.baload, 1)) (hk : k < 38) (hin : vp_in i (j_sb k).length) (kk : J mi mc ms kc ks h (pc + 1) loc (.int ((j_sb k).getD i.toNatClampNeg 0) :: stk) o) : J mi mc ms kc ks h pc loc (.int i :: .ref (2000000 + k) :: stk) o := by
  intro r hr l p e s m args below meth c D cI cJ cB A α H locs cells slots ls Qc C V hc hs hl E
  exact va_tb C.1 C.2.1 (V.2.2.2.1.1 k hk).2.2.2.2 V.2.2.1 hin rfl hd (kk r hr l p e s m args below meth c D cI cJ cB A α H locs cells slots ls Qc C V hc hs hl E)
theorem J_compact {idx : Nat} (hd : decode mi.2.1 pc = .ok (.getstatic idx, 3)) (hw : Cond.fieldLink mi.2.2.2.2.1 idx "java/lang/String" "COMPACT_STRINGS" "Z" ∈ j_gw) (kk : J mi mc ms kc ks h (pc + 3) loc (.int 1 :: stk) o) : J mi mc ms kc ks h pc loc stk o := by
  intro r hr l p e s m args below meth c D cI cJ cB A α H locs cells slots ls Qc C V hc hs hl E
  exact va_gets C.1 C.2.1 V.2.2.2.1.2.1.1 V.2.2.1 C.2.2.2.2.1 (C.2.2.2.2.2.1 _ hw) (fun _ h9 => h9) hd (kk r hr l p e s m args below meth c D cI cJ cB A α H locs cells slots ls Qc C V hc hs hl E)
theorem J_former {idx : Nat} (hd : decode mi.2.1 pc = .ok (.getstatic idx, 3)) (hw : Cond.fieldLink mi.2.2.2.2.1 idx "jdk/internal/util/Preconditions" "SIOOBE_FORMATTER" "Ljava/util/function/BiFunction;" ∈ j_gw) (kk : ∀ v : Value, v.category = 1 → J mi mc ms kc ks h (pc + 3) loc (v :: stk) o) : J mi mc ms kc ks h pc loc stk o := by
  intro r hr l p e s m args below meth c D cI cJ cB A α H locs cells slots ls Qc C V hc hs hl E
  rcases V.2.2.2.1.2.2.1 with hz | hz
  · exact va_gets C.1 C.2.1 hz V.2.2.1 C.2.2.2.2.1 (C.2.2.2.2.2.1 _ hw) (fun _ h9 => h9) hd (kk .null rfl r hr l p e s m args below meth c D cI cJ cB A α H locs cells slots ls Qc C V hc hs hl E)
  · exact va_gets C.1 C.2.1 hz V.2.2.1 C.2.2.2.2.1 (C.2.2.2.2.2.1 _ hw) (fun _ h9 => h9) hd (kk (.ref 4000000) rfl r hr l p e s m args below meth c D cI cJ cB A α H locs cells slots ls Qc C V hc hs hl E)
end JS
theorem w_J0_9 : Cond.fieldLink RJ0 9 "java/lang/String" "value" "[B" ∈ j_gw := by decide +kernel
theorem w_J0_15 : Cond.fieldLink RJ0 15 "java/lang/String" "coder" "B" ∈ j_gw := by decide +kernel
theorem w_J0_38 : Cond.fieldLink RJ0 38 "java/lang/String" "COMPACT_STRINGS" "Z" ∈ j_gw := by decide +kernel
theorem w_J0_1053 : Cond.fieldLink RJ0 1053 "jdk/internal/util/Preconditions" "SIOOBE_FORMATTER" "Ljava/util/function/BiFunction;" ∈ j_gw := by decide +kernel
theorem s_J0_coder (g : JG) (d : JD) (k : Nat) (hk : k < 38) : JM mi_J0_coder_7d493 0 0 (g, d) [.ref (1000000 + k)] (some (some (.int 0), (g, d))) := by
  refine JM_of (by decide) rfl (Nat.le_of_ble_eq_true rfl) ?_
  refine J_loc (loc' := [(0, .ref (1000000 + k))]) [0] rfl ?_
  refine J_compact (pc := 0) dJ0_coder_7d493_0 w_J0_38 ?_
  refine J_eqo (o1 := if (1 : Int32) = 0 then none else _) rfl ?_
  refine J_if_eq (pc := 3) (tgt := 13) dJ0_coder_7d493_3 (by decide) (fun z => absurd z (by decide)) (fun _ => ?_)
  refine J_aload_n (pc := 6) 0 dJ0_coder_7d493_6 rfl rfl ?_
  refine J_strCoder (pc := 7) dJ0_coder_7d493_7 w_J0_15 hk ?_
  refine J_goto (pc := 10) (tgt := 14) dJ0_coder_7d493_10 (by decide) ?_
  exact J_zret (pc := 14) dJ0_coder_7d493_14 rfl rfl
theorem s_J0_isLatin1 (g : JG) (d : JD) (k : Nat) (hk : k < 38) : JM mi_J0_isLatin1_aae02 0 0 (g, d) [.ref (1000000 + k)] (some (some (.int 1), (g, d))) := by
  refine JM_of (by decide) rfl (Nat.le_of_ble_eq_true rfl) ?_
  refine J_loc (loc' := [(0, .ref (1000000 + k))]) [0] rfl ?_
  refine J_compact (pc := 0) dJ0_isLatin1_aae02_0 w_J0_38 ?_
  refine J_eqo (o1 := if (1 : Int32) = 0 then none else _) rfl ?_
  refine J_if_eq (pc := 3) (tgt := 17) dJ0_isLatin1_aae02_3 (by decide) (fun z => absurd z (by decide)) (fun _ => ?_)
  refine J_aload_n (pc := 6) 0 dJ0_isLatin1_aae02_6 rfl rfl ?_
  refine J_strCoder (pc := 7) dJ0_isLatin1_aae02_7 w_J0_15 hk ?_
  refine J_eqo (o1 := if (0 : Int32) = 0 then _ else none) rfl ?_
  refine J_if_ne (pc := 10) (tgt := 17) dJ0_isLatin1_aae02_10 (by decide) (fun z => absurd rfl z) (fun _ => ?_)
  refine J_iconst (pc := 13) (v := 1) dJ0_isLatin1_aae02_13 (by decide) ?_
  refine J_goto (pc := 14) (tgt := 18) dJ0_isLatin1_aae02_14 (by decide) ?_
  exact J_zret (pc := 18) dJ0_isLatin1_aae02_18 rfl rfl
theorem s_J0_length_8abf5 (g : JG) (d : JD) (k : Nat) (hk : k < 38) : JM mi_J0_length_8abf5 0 0 (g, d) [.ref (1000000 + k)] (some (some (.int (f_J0_length_8abf5 k)), (g, d))) := by
  refine JM_of (by decide) rfl (Nat.le_of_ble_eq_true rfl) ?_
  refine J_loc (loc' := [(0, .ref (1000000 + k))]) [0] rfl ?_
  unfold f_J0_length_8abf5
  refine J_aload_n (pc := 0) 0 dJ0_length_8abf5_0 rfl rfl ?_
  refine J_strVal (pc := 1) dJ0_length_8abf5_1 w_J0_9 hk ?_
  refine J_strLen (pc := 4) dJ0_length_8abf5_4 hk ?_
  refine J_aload_n (pc := 5) 0 dJ0_length_8abf5_5 rfl rfl ?_
  refine JC_pt_i (J_callStr (mi := mi_J0_length_8abf5) (mj := mi_J0_coder_7d493) (pc := 6) dJ0_length_8abf5_6 ml_J0_335 ok_J0_coder_7d493 ov_J0_coder_7d493 ⟨Nat.le_of_ble_eq_true rfl, Nat.le_of_ble_eq_true rfl⟩ rfl (s_J0_coder g d k hk) rfl (Nat.le_of_ble_eq_true rfl) hk rfl) ?_
  refine J_ishr (pc := 9) dJ0_length_8abf5_9 ?_
  exact J_iret (pc := 10) dJ0_length_8abf5_10 rfl
theorem s_J3_checkIndex (g : JG) (d : JD) (i n : Int32) (v : Value) (hv : v.category = 1) (h1 : ¬ i < 0) (h2 : i < n) : JM mi_J3_checkIndex_8e157 0 0 (g, d) [.int i, .int n, v] (some (some (.int i), (g, d))) := by
  refine JM_of (by decide) rfl (by cases v <;> first | exact Nat.le_of_ble_eq_true rfl | cases hv) ?_
  refine J_loc (loc' := [(0, .int i), (1, .int n)]) [0, 1] rfl ?_
  refine J_iload_n (pc := 0) 0 dJ3_checkIndex_8e157_0 rfl rfl ?_
  refine J_eqo (o1 := if i < 0 then none else _) (if_neg h1).symm ?_
  refine J_if_lt (pc := 1) (tgt := 9) dJ3_checkIndex_8e157_1 (by decide) (fun z => absurd z h1) (fun _ => ?_)
  refine J_iload_n (pc := 4) 0 dJ3_checkIndex_8e157_4 rfl rfl ?_
  refine J_iload_n (pc := 5) 1 dJ3_checkIndex_8e157_5 rfl rfl ?_
  refine J_eqo (o1 := if i < n then _ else none) (if_pos h2).symm ?_
  refine J_icmp_lt (pc := 6) (tgt := 16) dJ3_checkIndex_8e157_6 (by decide) (fun _ => ?_) (fun z => absurd h2 z)
  refine J_iload_n (pc := 16) 0 dJ3_checkIndex_8e157_16 rfl rfl ?_
  exact J_iret (pc := 17) dJ3_checkIndex_8e157_17 rfl
theorem s_J0_checkIndex (g : JG) (d : JD) (i n : Int32) (h1 : ¬ i < 0) (h2 : i < n) : JM mi_J0_checkIndex_df160 0 0 (g, d) [.int i, .int n] (some (none, (g, d))) := by
  refine JM_of (by decide) rfl (Nat.le_of_ble_eq_true rfl) ?_
  refine J_loc (loc' := [(0, .int i), (1, .int n)]) [0, 1] rfl ?_
  refine J_iload_n (pc := 0) 0 dJ0_checkIndex_df160_0 rfl rfl ?_
  refine J_iload_n (pc := 1) 1 dJ0_checkIndex_df160_1 rfl rfl ?_
  refine J_former (pc := 2) dJ0_checkIndex_df160_2 w_J0_1053 (fun v hv => ?_)
  refine JC_pt_i (J_callS (mi := mi_J0_checkIndex_df160) (mj := mi_J3_checkIndex_8e157) (pc := 5) dJ0_checkIndex_df160_5 ml_J0_1059 ok_J3_checkIndex_8e157 os_J3_checkIndex_8e157 ⟨Nat.le_of_ble_eq_true rfl, Nat.le_of_ble_eq_true rfl⟩ rfl (s_J3_checkIndex g d i n v hv h1 h2) rfl (Nat.le_of_ble_eq_true rfl)) ?_
  refine J_pop (pc := 8) dJ0_checkIndex_df160_8 rfl ?_
  exact J_vret (pc := 9) dJ0_checkIndex_df160_9 rfl
theorem s_J1_charAt (g : JG) (d : JD) (k : Nat) (i : Int32) (hk : k < 38) (hin : vp_in i (j_sb k).length) (hl : (j_sb k).length < 2 ^ 31) : JM mi_J1_charAt_3b067 0 0 (g, d) [.ref (2000000 + k), .int i] (some (some (.int ((((j_sb k).getD i.toNatClampNeg 0) &&& 255).toUInt32 % 65536).toInt32), (g, d))) := by
  have h1 : ¬ i < 0 := fun z => hin (Or.inl z)
  have h2 : i < Int32.ofNat (j_sb k).length := by
    have := (vp_in_iff.mp hin).2
    rw [Int32.lt_iff_toInt_lt]
    have e : (Int32.ofNat (j_sb k).length).toInt = ((j_sb k).length : Int) := nI_toInt hl
    rw [e]
    exact this
  refine JM_of (by decide) rfl (Nat.le_of_ble_eq_true rfl) ?_
  refine J_loc (loc' := [(0, .ref (2000000 + k)), (1, .int i)]) [0, 1] rfl ?_
  refine J_iload_n (pc := 0) 1 dJ1_charAt_3b067_0 rfl rfl ?_
  refine J_aload_n (pc := 1) 0 dJ1_charAt_3b067_1 rfl rfl ?_
  refine J_strLen (pc := 2) dJ1_charAt_3b067_2 hk ?_
  refine JC_pure (J_callS (mi := mi_J1_charAt_3b067) (mj := mi_J0_checkIndex_df160) (pc := 3) dJ1_charAt_3b067_3 ml_J1_9 ok_J0_checkIndex_df160 os_J0_checkIndex_df160 ⟨Nat.le_of_ble_eq_true rfl, Nat.le_of_ble_eq_true rfl⟩ rfl (s_J0_checkIndex g d i _ h1 h2) rfl (Nat.le_of_ble_eq_true rfl)) ?_
  refine J_aload_n (pc := 6) 0 dJ1_charAt_3b067_6 rfl rfl ?_
  refine J_iload_n (pc := 7) 1 dJ1_charAt_3b067_7 rfl rfl ?_
  refine J_strByte (pc := 8) dJ1_charAt_3b067_8 hk hin ?_
  refine J_sipush (pc := 9) (v := 255) dJ1_charAt_3b067_9 (by decide) ?_
  refine J_iand (pc := 12) dJ1_charAt_3b067_12 ?_
  refine J_i2c (pc := 13) dJ1_charAt_3b067_13 ?_
  exact J_zret (pc := 14) dJ1_charAt_3b067_14 rfl (pk_nc _)
theorem j_sb_len : ∀ k, k < 38 → (j_sb k).length < 2 ^ 31 := by decide
theorem s_J0_charAt_5068e (g : JG) (d : JD) (k : Nat) (i : Int32) (hk : k < 38) : JM mi_J0_charAt_5068e 0 0 (g, d) [.ref (1000000 + k), .int i] ((f_J0_charAt_5068e k i).bind (fun r9 => some (some (.int r9), (g, d)))) := by
  by_cases hin : j_out i (j_sb k).length
  · unfold f_J0_charAt_5068e
    rw [if_pos hin]
    intro r hr
    cases hr
  · have hf : f_J0_charAt_5068e k i = some ((((j_sb k).getD i.toNatClampNeg 0) &&& 255).toUInt32 % 65536).toInt32 := if_neg hin
    rw [hf]
    show JM mi_J0_charAt_5068e 0 0 (g, d) [.ref (1000000 + k), .int i] (some (some (.int _), (g, d)))
    refine JM_of (by decide) rfl (Nat.le_of_ble_eq_true rfl) ?_
    refine J_loc (loc' := [(0, .ref (1000000 + k)), (1, .int i)]) [0, 1] rfl ?_
    refine J_aload_n (pc := 0) 0 dJ0_charAt_5068e_0 rfl rfl ?_
    refine JC_pt_i (J_callStr (mi := mi_J0_charAt_5068e) (mj := mi_J0_isLatin1_aae02) (pc := 1) dJ0_charAt_5068e_1 ml_J0_492 ok_J0_isLatin1_aae02 ov_J0_isLatin1_aae02 ⟨Nat.le_of_ble_eq_true rfl, Nat.le_of_ble_eq_true rfl⟩ rfl (s_J0_isLatin1 g d k hk) rfl (Nat.le_of_ble_eq_true rfl) hk rfl) ?_
    refine J_eqo (o1 := if (1 : Int32) = 0 then none else _) rfl ?_
    refine J_if_eq (pc := 4) (tgt := 16) dJ0_charAt_5068e_4 (by decide) (fun z => absurd z (by decide)) (fun _ => ?_)
    refine J_aload_n (pc := 7) 0 dJ0_charAt_5068e_7 rfl rfl ?_
    refine J_strVal (pc := 8) dJ0_charAt_5068e_8 w_J0_9 hk ?_
    refine J_iload_n (pc := 11) 1 dJ0_charAt_5068e_11 rfl rfl ?_
    refine JC_pt_i (J_callS (mi := mi_J0_charAt_5068e) (mj := mi_J1_charAt_3b067) (pc := 12) dJ0_charAt_5068e_12 ml_J0_495 ok_J1_charAt_3b067 os_J1_charAt_3b067 ⟨Nat.le_of_ble_eq_true rfl, Nat.le_of_ble_eq_true rfl⟩ rfl (s_J1_charAt g d k i hk hin (j_sb_len k hk)) rfl (Nat.le_of_ble_eq_true rfl)) ?_
    exact J_zret (pc := 15) dJ0_charAt_5068e_15 rfl (pk_nc _)
