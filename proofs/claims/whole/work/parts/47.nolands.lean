/-! tier two: calls without a land -/
theorem q_xde (d : JD) (x : Int32) : f_X11_denied d x = (false, j_sI d 0 11 x) := rfl
theorem q_mde (d : JD) (x : Int32) : f_X13_denied d x = (false, q_fin d x) := rfl
theorem q_mlo (d : JD) (x : Int32) : f_X13_lost d x = (-100, q_fin d x) := rfl
theorem q_isl0 {a : Nat} {d : JD} (h : q_NL a d) (p : Int32) : f_X11_isLost (d.1 (a + 9)) p = false := by
  unfold f_X11_isLost
  rw [h.2.1 4 (by decide)]
  by_cases h2 : p < 0
  · rw [if_pos h2]
  · rw [if_neg h2, if_pos (q_le0 h2)]
theorem qn_person {a : Nat} {d : JD} (hn : q_NL a d) (pq0 pq1 : Int32) : ∃ (x : Int32) (w : Int32) (d2 : JD), f_X11_person a d pq0 pq1 = (x, j_sI d 0 11 w) ∧ f_X13_personn (j_sI d 0 11 w) pq0 pq1 = (x, d2) ∧ q_ans d d2 w := by
  have k1 := q_hl0 hn
  have k2 := q_isg0 hn
  have k3 := q_isp0 hn
  have k4 := q_isl0 hn
  have k5 : d.1 24 4 = 0 := hn.2.2.2.1
  have k6 : d.1 28 4 = 0 := hn.2.2.2.2
  have k7 : d.1 a 3 = 0 := hn.1 3 (by decide)
  have k8 : d.1 a 4 = 0 := hn.1 4 (by decide)
  refine ⟨-1, 1, q_fin (q_dM d 1) 1, ?_, ?_, q_ansd d (by decide)⟩
  · unfold f_X11_person
    try unfold f_X11_mayPlay
    try unfold f_X11_mayAlter
    simp only [k1, k2, k3, k4, k5, k6, k7, k8, q_xre, q_xde, Bool.false_eq_true, if_false, if_true, ite_self, Int32.mul_zero, j_let]
  · unfold f_X13_personn
    simp only [q_dMe, q_ref, q_mde, q_mlo, Bool.false_eq_true, if_false, if_true, j_let]
theorem qn_firm {a : Nat} {d : JD} (hn : q_NL a d) (pq0 pq1 : Int32) : ∃ (x : Int32) (w : Int32) (d2 : JD), f_X11_firm a d pq0 pq1 = (x, j_sI d 0 11 w) ∧ f_X13_firmn (j_sI d 0 11 w) pq0 pq1 = (x, d2) ∧ q_ans d d2 w := by
  have k1 := q_hl0 hn
  have k2 := q_isg0 hn
  have k3 := q_isp0 hn
  have k4 := q_isl0 hn
  have k5 : d.1 24 4 = 0 := hn.2.2.2.1
  have k6 : d.1 28 4 = 0 := hn.2.2.2.2
  have k7 : d.1 a 3 = 0 := hn.1 3 (by decide)
  have k8 : d.1 a 4 = 0 := hn.1 4 (by decide)
  refine ⟨-1, 1, q_fin (q_dM d 1) 1, ?_, ?_, q_ansd d (by decide)⟩
  · unfold f_X11_firm
    try unfold f_X11_mayPlay
    try unfold f_X11_mayAlter
    by_cases hp : pq0 < 0
    · simp only [hp, k1, k2, k3, k4, k5, k6, k7, k8, q_xre, q_xde, Bool.false_eq_true, if_false, if_true, ite_self, Int32.mul_zero, j_let, f_X11_firm_j15]
    · simp only [hp, k1, k2, k3, k4, k5, k6, k7, k8, q_xre, q_xde, Bool.false_eq_true, if_false, if_true, ite_self, Int32.mul_zero, j_let, f_X11_firm_j15]
  · unfold f_X13_firmn
    simp only [q_dMe, q_ref, q_mde, q_mlo, Bool.false_eq_true, if_false, if_true, j_let]
theorem qn_commons {a : Nat} {d : JD} (hn : q_NL a d) : ∃ (x : Int32) (w : Int32) (d2 : JD), f_X11_commons a d = (x, j_sI d 0 11 w) ∧ f_X13_commonsn (j_sI d 0 11 w) = (x, d2) ∧ q_ans d d2 w := by
  have k1 := q_hl0 hn
  have k2 := q_isg0 hn
  have k3 := q_isp0 hn
  have k4 := q_isl0 hn
  have k5 : d.1 24 4 = 0 := hn.2.2.2.1
  have k6 : d.1 28 4 = 0 := hn.2.2.2.2
  have k7 : d.1 a 3 = 0 := hn.1 3 (by decide)
  have k8 : d.1 a 4 = 0 := hn.1 4 (by decide)
  refine ⟨-1, 1, q_fin (q_dM d 1) 1, ?_, ?_, q_ansd d (by decide)⟩
  · unfold f_X11_commons
    try unfold f_X11_mayPlay
    try unfold f_X11_mayAlter
    simp only [k1, k2, k3, k4, k5, k6, k7, k8, q_xre, q_xde, Bool.false_eq_true, if_false, if_true, ite_self, Int32.mul_zero, j_let]
  · unfold f_X13_commonsn
    simp only [q_dMe, q_ref, q_mde, q_mlo, Bool.false_eq_true, if_false, if_true, j_let]
theorem qn_richest {a : Nat} {d : JD} (hn : q_NL a d) : ∃ (x : Int32) (w : Int32) (d2 : JD), f_X11_richest a d = (x, j_sI d 0 11 w) ∧ f_X13_richestn (j_sI d 0 11 w) = (x, d2) ∧ q_ans d d2 w := by
  have k1 := q_hl0 hn
  have k2 := q_isg0 hn
  have k3 := q_isp0 hn
  have k4 := q_isl0 hn
  have k5 : d.1 24 4 = 0 := hn.2.2.2.1
  have k6 : d.1 28 4 = 0 := hn.2.2.2.2
  have k7 : d.1 a 3 = 0 := hn.1 3 (by decide)
  have k8 : d.1 a 4 = 0 := hn.1 4 (by decide)
  refine ⟨-1, 1, q_fin (q_dM d 1) 1, ?_, ?_, q_ansd d (by decide)⟩
  · unfold f_X11_richest
    try unfold f_X11_mayPlay
    try unfold f_X11_mayAlter
    simp only [k1, k2, k3, k4, k5, k6, k7, k8, q_xre, q_xde, Bool.false_eq_true, if_false, if_true, ite_self, Int32.mul_zero, j_let]
  · unfold f_X13_richestn
    simp only [q_dMe, q_ref, q_mde, q_mlo, Bool.false_eq_true, if_false, if_true, j_let]
theorem qn_hasIf {a : Nat} {d : JD} (hn : q_NL a d) (pq0 pq1 pq2 : Int32) : ∃ (x : Int32) (w : Int32) (d2 : JD), f_X11_hasIf a d pq0 pq1 pq2 = (x, j_sI d 0 11 w) ∧ f_X13_hasIfn (j_sI d 0 11 w) pq0 pq1 pq2 = (x, d2) ∧ q_ans d d2 w := by
  have k1 := q_hl0 hn
  have k2 := q_isg0 hn
  have k3 := q_isp0 hn
  have k4 := q_isl0 hn
  have k5 : d.1 24 4 = 0 := hn.2.2.2.1
  have k6 : d.1 28 4 = 0 := hn.2.2.2.2
  have k7 : d.1 a 3 = 0 := hn.1 3 (by decide)
  have k8 : d.1 a 4 = 0 := hn.1 4 (by decide)
  refine ⟨-1, 1, q_fin (q_dM d 1) 1, ?_, ?_, q_ansd d (by decide)⟩
  · unfold f_X11_hasIf
    try unfold f_X11_mayPlay
    try unfold f_X11_mayAlter
    simp only [k1, k2, k3, k4, k5, k6, k7, k8, q_xre, q_xde, Bool.false_eq_true, if_false, if_true, ite_self, Int32.mul_zero, j_let, f_X11_hasIf_j16]
  · unfold f_X13_hasIfn
    simp only [q_dMe, q_ref, q_mde, q_mlo, Bool.false_eq_true, if_false, if_true, j_let]
theorem qn_can {a : Nat} {d : JD} (hn : q_NL a d) (pq0 : Int32) : ∃ (x : Int32) (w : Int32) (d2 : JD), f_X11_can a d pq0 = some (x, j_sI d 0 11 w) ∧ f_X13_cann (j_sI d 0 11 w) pq0 = (x, d2) ∧ q_ans d d2 w := by
  have k1 := q_hl0 hn
  have k2 := q_isg0 hn
  have k3 := q_isp0 hn
  have k4 := q_isl0 hn
  have k5 : d.1 24 4 = 0 := hn.2.2.2.1
  have k6 : d.1 28 4 = 0 := hn.2.2.2.2
  have k7 : d.1 a 3 = 0 := hn.1 3 (by decide)
  have k8 : d.1 a 4 = 0 := hn.1 4 (by decide)
  refine ⟨-1, 1, q_fin (q_dM d 1) 1, ?_, ?_, q_ansd d (by decide)⟩
  · unfold f_X11_can
    try unfold f_X11_mayPlay
    try unfold f_X11_mayAlter
    by_cases hp : pq0 < 0
    · simp only [hp, k1, k2, k3, k4, k5, k6, k7, k8, q_xre, q_xde, Bool.false_eq_true, if_false, if_true, ite_self, Int32.mul_zero, j_let, f_X11_can_j17, f_X11_can_j85]
    · simp only [hp, k1, k2, k3, k4, k5, k6, k7, k8, q_xre, q_xde, Bool.false_eq_true, if_false, if_true, ite_self, Int32.mul_zero, j_let, f_X11_can_j17, f_X11_can_j85]
  · unfold f_X13_cann
    simp only [q_dMe, q_ref, q_mde, q_mlo, Bool.false_eq_true, if_false, if_true, j_let]
theorem qn_errand {a : Nat} {d : JD} (hn : q_NL a d) : ∃ (x : Int32) (w : Int32) (d2 : JD), f_X11_errand a d = some (x, j_sI d 0 11 w) ∧ f_X13_errandn (j_sI d 0 11 w) = (x, d2) ∧ q_ans d d2 w := by
  have k1 := q_hl0 hn
  have k2 := q_isg0 hn
  have k3 := q_isp0 hn
  have k4 := q_isl0 hn
  have k5 : d.1 24 4 = 0 := hn.2.2.2.1
  have k6 : d.1 28 4 = 0 := hn.2.2.2.2
  have k7 : d.1 a 3 = 0 := hn.1 3 (by decide)
  have k8 : d.1 a 4 = 0 := hn.1 4 (by decide)
  refine ⟨-1, 1, q_fin (q_dM d 1) 1, ?_, ?_, q_ansd d (by decide)⟩
  · unfold f_X11_errand
    try unfold f_X11_mayPlay
    try unfold f_X11_mayAlter
    simp only [k1, k2, k3, k4, k5, k6, k7, k8, q_xre, q_xde, Bool.false_eq_true, if_false, if_true, ite_self, Int32.mul_zero, j_let, f_X11_errand_j62]
  · unfold f_X13_errandn
    simp only [q_dMe, q_ref, q_mde, q_mlo, Bool.false_eq_true, if_false, if_true, j_let]
theorem qn_errandAt {a : Nat} {d : JD} (hn : q_NL a d) (pq0 : Int32) : ∃ (x : Int32) (w : Int32) (d2 : JD), f_X11_errandAt a d pq0 = some (x, j_sI d 0 11 w) ∧ f_X13_errandAtn (j_sI d 0 11 w) pq0 = (x, d2) ∧ q_ans d d2 w := by
  have k1 := q_hl0 hn
  have k2 := q_isg0 hn
  have k3 := q_isp0 hn
  have k4 := q_isl0 hn
  have k5 : d.1 24 4 = 0 := hn.2.2.2.1
  have k6 : d.1 28 4 = 0 := hn.2.2.2.2
  have k7 : d.1 a 3 = 0 := hn.1 3 (by decide)
  have k8 : d.1 a 4 = 0 := hn.1 4 (by decide)
  refine ⟨-1, 1, q_fin (q_dM d 1) 1, ?_, ?_, q_ansd d (by decide)⟩
  · unfold f_X11_errandAt
    try unfold f_X11_mayPlay
    try unfold f_X11_mayAlter
    simp only [k1, k2, k3, k4, k5, k6, k7, k8, q_xre, q_xde, Bool.false_eq_true, if_false, if_true, ite_self, Int32.mul_zero, j_let, f_X11_errandAt_j64]
  · unfold f_X13_errandAtn
    simp only [q_dMe, q_ref, q_mde, q_mlo, Bool.false_eq_true, if_false, if_true, j_let]
theorem qn_met {a : Nat} {d : JD} (hn : q_NL a d) : ∃ (x : Int32) (w : Int32) (d2 : JD), f_X11_met a d = (x, j_sI d 0 11 w) ∧ f_X13_metn (j_sI d 0 11 w) = (x, d2) ∧ q_ans d d2 w := by
  have k1 := q_hl0 hn
  have k2 := q_isg0 hn
  have k3 := q_isp0 hn
  have k4 := q_isl0 hn
  have k5 : d.1 24 4 = 0 := hn.2.2.2.1
  have k6 : d.1 28 4 = 0 := hn.2.2.2.2
  have k7 : d.1 a 3 = 0 := hn.1 3 (by decide)
  have k8 : d.1 a 4 = 0 := hn.1 4 (by decide)
  refine ⟨-1, 1, q_fin (q_dM d 1) 1, ?_, ?_, q_ansd d (by decide)⟩
  · unfold f_X11_met
    try unfold f_X11_mayPlay
    try unfold f_X11_mayAlter
    simp only [k1, k2, k3, k4, k5, k6, k7, k8, q_xre, q_xde, Bool.false_eq_true, if_false, if_true, ite_self, Int32.mul_zero, j_let]
  · unfold f_X13_metn
    simp only [q_dMe, q_ref, q_mde, q_mlo, Bool.false_eq_true, if_false, if_true, j_let]
theorem qn_movesFor {a : Nat} {d : JD} (hn : q_NL a d) (pq0 pq1 : Int32) : ∃ (x : Int32) (w : Int32) (d2 : JD), f_X11_movesFor a d pq0 pq1 = some (x, j_sI d 0 11 w) ∧ f_X13_movesForn (j_sI d 0 11 w) pq0 pq1 = (x, d2) ∧ q_ans d d2 w := by
  have k1 := q_hl0 hn
  have k2 := q_isg0 hn
  have k3 := q_isp0 hn
  have k4 := q_isl0 hn
  have k5 : d.1 24 4 = 0 := hn.2.2.2.1
  have k6 : d.1 28 4 = 0 := hn.2.2.2.2
  have k7 : d.1 a 3 = 0 := hn.1 3 (by decide)
  have k8 : d.1 a 4 = 0 := hn.1 4 (by decide)
  refine ⟨-1, 1, q_fin (q_dM d 1) 1, ?_, ?_, q_ansd d (by decide)⟩
  · unfold f_X11_movesFor
    try unfold f_X11_mayPlay
    try unfold f_X11_mayAlter
    simp only [k1, k2, k3, k4, k5, k6, k7, k8, q_xre, q_xde, Bool.false_eq_true, if_false, if_true, ite_self, Int32.mul_zero, j_let, f_X11_movesFor_j78]
  · unfold f_X13_movesForn
    simp only [q_dMe, q_ref, q_mde, q_mlo, Bool.false_eq_true, if_false, if_true, j_let]
theorem qn_mostBy {a : Nat} {d : JD} (hn : q_NL a d) (pq0 pq1 : Int32) : ∃ (x : Int32) (w : Int32) (d2 : JD), f_X11_mostBy a d pq0 pq1 = some (x, j_sI d 0 11 w) ∧ f_X13_mostByn (j_sI d 0 11 w) pq0 pq1 = (x, d2) ∧ q_ans d d2 w := by
  have k1 := q_hl0 hn
  have k2 := q_isg0 hn
  have k3 := q_isp0 hn
  have k4 := q_isl0 hn
  have k5 : d.1 24 4 = 0 := hn.2.2.2.1
  have k6 : d.1 28 4 = 0 := hn.2.2.2.2
  have k7 : d.1 a 3 = 0 := hn.1 3 (by decide)
  have k8 : d.1 a 4 = 0 := hn.1 4 (by decide)
  refine ⟨-1, 1, q_fin (q_dM d 1) 1, ?_, ?_, q_ansd d (by decide)⟩
  · unfold f_X11_mostBy
    try unfold f_X11_mayPlay
    try unfold f_X11_mayAlter
    simp only [k1, k2, k3, k4, k5, k6, k7, k8, q_xre, q_xde, Bool.false_eq_true, if_false, if_true, ite_self, Int32.mul_zero, j_let, f_X11_mostBy_j24]
  · unfold f_X13_mostByn
    simp only [q_dMe, q_ref, q_mde, q_mlo, Bool.false_eq_true, if_false, if_true, j_let]
theorem qn_reach {a : Nat} {d : JD} (hn : q_NL a d) : ∃ (x : Int32) (w : Int32) (d2 : JD), f_X11_reach a d = some (x, j_sI d 0 11 w) ∧ f_X13_reachn (j_sI d 0 11 w) = (x, d2) ∧ q_ans d d2 w := by
  have k1 := q_hl0 hn
  have k2 := q_isg0 hn
  have k3 := q_isp0 hn
  have k4 := q_isl0 hn
  have k5 : d.1 24 4 = 0 := hn.2.2.2.1
  have k6 : d.1 28 4 = 0 := hn.2.2.2.2
  have k7 : d.1 a 3 = 0 := hn.1 3 (by decide)
  have k8 : d.1 a 4 = 0 := hn.1 4 (by decide)
  refine ⟨-1, 1, q_fin (q_dM d 1) 1, ?_, ?_, q_ansd d (by decide)⟩
  · unfold f_X11_reach
    try unfold f_X11_mayPlay
    try unfold f_X11_mayAlter
    simp only [k1, k2, k3, k4, k5, k6, k7, k8, q_xre, q_xde, Bool.false_eq_true, if_false, if_true, ite_self, Int32.mul_zero, j_let]
  · unfold f_X13_reachn
    simp only [q_dMe, q_ref, q_mde, q_mlo, Bool.false_eq_true, if_false, if_true, j_let]
theorem qn_cover {a : Nat} {d : JD} (hn : q_NL a d) : ∃ (x : Int32) (w : Int32) (d2 : JD), f_X11_cover a d = some (x, j_sI d 0 11 w) ∧ f_X13_covern (j_sI d 0 11 w) = (x, d2) ∧ q_ans d d2 w := by
  have k1 := q_hl0 hn
  have k2 := q_isg0 hn
  have k3 := q_isp0 hn
  have k4 := q_isl0 hn
  have k5 : d.1 24 4 = 0 := hn.2.2.2.1
  have k6 : d.1 28 4 = 0 := hn.2.2.2.2
  have k7 : d.1 a 3 = 0 := hn.1 3 (by decide)
  have k8 : d.1 a 4 = 0 := hn.1 4 (by decide)
  refine ⟨-1, 1, q_fin (q_dM d 1) 1, ?_, ?_, q_ansd d (by decide)⟩
  · unfold f_X11_cover
    try unfold f_X11_mayPlay
    try unfold f_X11_mayAlter
    simp only [k1, k2, k3, k4, k5, k6, k7, k8, q_xre, q_xde, Bool.false_eq_true, if_false, if_true, ite_self, Int32.mul_zero, j_let, f_X11_cover_j51]
  · unfold f_X13_covern
    simp only [q_dMe, q_ref, q_mde, q_mlo, Bool.false_eq_true, if_false, if_true, j_let]
theorem qn_coverAt {a : Nat} {d : JD} (hn : q_NL a d) (pq0 : Int32) : ∃ (x : Int32) (w : Int32) (d2 : JD), f_X11_coverAt a d pq0 = some (x, j_sI d 0 11 w) ∧ f_X13_coverAtn (j_sI d 0 11 w) pq0 = (x, d2) ∧ q_ans d d2 w := by
  have k1 := q_hl0 hn
  have k2 := q_isg0 hn
  have k3 := q_isp0 hn
  have k4 := q_isl0 hn
  have k5 : d.1 24 4 = 0 := hn.2.2.2.1
  have k6 : d.1 28 4 = 0 := hn.2.2.2.2
  have k7 : d.1 a 3 = 0 := hn.1 3 (by decide)
  have k8 : d.1 a 4 = 0 := hn.1 4 (by decide)
  refine ⟨-1, 1, q_fin (q_dM d 1) 1, ?_, ?_, q_ansd d (by decide)⟩
  · unfold f_X11_coverAt
    try unfold f_X11_mayPlay
    try unfold f_X11_mayAlter
    simp only [k1, k2, k3, k4, k5, k6, k7, k8, q_xre, q_xde, Bool.false_eq_true, if_false, if_true, ite_self, Int32.mul_zero, j_let, f_X11_coverAt_j53]
  · unfold f_X13_coverAtn
    simp only [q_dMe, q_ref, q_mde, q_mlo, Bool.false_eq_true, if_false, if_true, j_let]
theorem qn_stills {a : Nat} {d : JD} (hn : q_NL a d) : ∃ (x : Int32) (w : Int32) (d2 : JD), f_X11_stills a d = some (x, j_sI d 0 11 w) ∧ f_X13_stillsn (j_sI d 0 11 w) = (x, d2) ∧ q_ans d d2 w := by
  have k1 := q_hl0 hn
  have k2 := q_isg0 hn
  have k3 := q_isp0 hn
  have k4 := q_isl0 hn
  have k5 : d.1 24 4 = 0 := hn.2.2.2.1
  have k6 : d.1 28 4 = 0 := hn.2.2.2.2
  have k7 : d.1 a 3 = 0 := hn.1 3 (by decide)
  have k8 : d.1 a 4 = 0 := hn.1 4 (by decide)
  refine ⟨-1, 1, q_fin (q_dM d 1) 1, ?_, ?_, q_ansd d (by decide)⟩
  · unfold f_X11_stills
    try unfold f_X11_mayPlay
    try unfold f_X11_mayAlter
    simp only [k1, k2, k3, k4, k5, k6, k7, k8, q_xre, q_xde, Bool.false_eq_true, if_false, if_true, ite_self, Int32.mul_zero, j_let]
  · unfold f_X13_stillsn
    simp only [q_dMe, q_ref, q_mde, q_mlo, Bool.false_eq_true, if_false, if_true, j_let]
theorem qn_isStill {a : Nat} {d : JD} (hn : q_NL a d) : ∃ (x : Int32) (w : Int32) (d2 : JD), f_X11_isStill a d = (x, j_sI d 0 11 w) ∧ f_X13_isStilln (j_sI d 0 11 w) = (x, d2) ∧ q_ans d d2 w := by
  have k1 := q_hl0 hn
  have k2 := q_isg0 hn
  have k3 := q_isp0 hn
  have k4 := q_isl0 hn
  have k5 : d.1 24 4 = 0 := hn.2.2.2.1
  have k6 : d.1 28 4 = 0 := hn.2.2.2.2
  have k7 : d.1 a 3 = 0 := hn.1 3 (by decide)
  have k8 : d.1 a 4 = 0 := hn.1 4 (by decide)
  refine ⟨-1, 1, q_fin (q_dM d 1) 1, ?_, ?_, q_ansd d (by decide)⟩
  · unfold f_X11_isStill
    try unfold f_X11_mayPlay
    try unfold f_X11_mayAlter
    simp only [k1, k2, k3, k4, k5, k6, k7, k8, q_xre, q_xde, Bool.false_eq_true, if_false, if_true, ite_self, Int32.mul_zero, j_let, f_X11_isStill_j36]
  · unfold f_X13_isStilln
    simp only [q_dMe, q_ref, q_mde, q_mlo, Bool.false_eq_true, if_false, if_true, j_let]
theorem qn_fairest {a : Nat} {d : JD} (hn : q_NL a d) : ∃ (x : Int32) (w : Int32) (d2 : JD), f_X11_fairest a d = some (x, j_sI d 0 11 w) ∧ f_X13_fairestn (j_sI d 0 11 w) = (x, d2) ∧ q_ans d d2 w := by
  have k1 := q_hl0 hn
  have k2 := q_isg0 hn
  have k3 := q_isp0 hn
  have k4 := q_isl0 hn
  have k5 : d.1 24 4 = 0 := hn.2.2.2.1
  have k6 : d.1 28 4 = 0 := hn.2.2.2.2
  have k7 : d.1 a 3 = 0 := hn.1 3 (by decide)
  have k8 : d.1 a 4 = 0 := hn.1 4 (by decide)
  refine ⟨-1, 1, q_fin (q_dM d 1) 1, ?_, ?_, q_ansd d (by decide)⟩
  · unfold f_X11_fairest
    try unfold f_X11_mayPlay
    try unfold f_X11_mayAlter
    simp only [k1, k2, k3, k4, k5, k6, k7, k8, q_xre, q_xde, Bool.false_eq_true, if_false, if_true, ite_self, Int32.mul_zero, j_let]
  · unfold f_X13_fairestn
    simp only [q_dMe, q_ref, q_mde, q_mlo, Bool.false_eq_true, if_false, if_true, j_let]
theorem qn_fairAt {a : Nat} {d : JD} (hn : q_NL a d) (pq0 : Int32) : ∃ (x : Int32) (w : Int32) (d2 : JD), f_X11_fairAt a d pq0 = some (x, j_sI d 0 11 w) ∧ f_X13_fairAtn (j_sI d 0 11 w) pq0 = (x, d2) ∧ q_ans d d2 w := by
  have k1 := q_hl0 hn
  have k2 := q_isg0 hn
  have k3 := q_isp0 hn
  have k4 := q_isl0 hn
  have k5 : d.1 24 4 = 0 := hn.2.2.2.1
  have k6 : d.1 28 4 = 0 := hn.2.2.2.2
  have k7 : d.1 a 3 = 0 := hn.1 3 (by decide)
  have k8 : d.1 a 4 = 0 := hn.1 4 (by decide)
  refine ⟨-1, 1, q_fin (q_dM d 1) 1, ?_, ?_, q_ansd d (by decide)⟩
  · unfold f_X11_fairAt
    try unfold f_X11_mayPlay
    try unfold f_X11_mayAlter
    simp only [k1, k2, k3, k4, k5, k6, k7, k8, q_xre, q_xde, Bool.false_eq_true, if_false, if_true, ite_self, Int32.mul_zero, j_let]
  · unfold f_X13_fairAtn
    simp only [q_dMe, q_ref, q_mde, q_mlo, Bool.false_eq_true, if_false, if_true, j_let]
theorem qn_fits {a : Nat} {d : JD} (hn : q_NL a d) : ∃ (x : Int32) (w : Int32) (d2 : JD), f_X11_fits a d = (x, j_sI d 0 11 w) ∧ f_X13_fitsn (j_sI d 0 11 w) = (x, d2) ∧ q_ans d d2 w := by
  have k1 := q_hl0 hn
  have k2 := q_isg0 hn
  have k3 := q_isp0 hn
  have k4 := q_isl0 hn
  have k5 : d.1 24 4 = 0 := hn.2.2.2.1
  have k6 : d.1 28 4 = 0 := hn.2.2.2.2
  have k7 : d.1 a 3 = 0 := hn.1 3 (by decide)
  have k8 : d.1 a 4 = 0 := hn.1 4 (by decide)
  refine ⟨-1, 1, q_fin (q_dM d 1) 1, ?_, ?_, q_ansd d (by decide)⟩
  · unfold f_X11_fits
    try unfold f_X11_mayPlay
    try unfold f_X11_mayAlter
    simp only [k1, k2, k3, k4, k5, k6, k7, k8, q_xre, q_xde, Bool.false_eq_true, if_false, if_true, ite_self, Int32.mul_zero, j_let]
  · unfold f_X13_fitsn
    simp only [q_dMe, q_ref, q_mde, q_mlo, Bool.false_eq_true, if_false, if_true, j_let]
theorem qn_fitAt {a : Nat} {d : JD} (hn : q_NL a d) (pq0 pq1 : Int32) : ∃ (x : Int32) (w : Int32) (d2 : JD), f_X11_fitAt a d pq0 pq1 = (x, j_sI d 0 11 w) ∧ f_X13_fitAtn (j_sI d 0 11 w) pq0 pq1 = (x, d2) ∧ q_ans d d2 w := by
  have k1 := q_hl0 hn
  have k2 := q_isg0 hn
  have k3 := q_isp0 hn
  have k4 := q_isl0 hn
  have k5 : d.1 24 4 = 0 := hn.2.2.2.1
  have k6 : d.1 28 4 = 0 := hn.2.2.2.2
  have k7 : d.1 a 3 = 0 := hn.1 3 (by decide)
  have k8 : d.1 a 4 = 0 := hn.1 4 (by decide)
  refine ⟨-1, 1, q_fin (q_dM d 1) 1, ?_, ?_, q_ansd d (by decide)⟩
  · unfold f_X11_fitAt
    try unfold f_X11_mayPlay
    try unfold f_X11_mayAlter
    simp only [k1, k2, k3, k4, k5, k6, k7, k8, q_xre, q_xde, Bool.false_eq_true, if_false, if_true, ite_self, Int32.mul_zero, j_let, f_X11_fitAt_j40]
  · unfold f_X13_fitAtn
    simp only [q_dMe, q_ref, q_mde, q_mlo, Bool.false_eq_true, if_false, if_true, j_let]
theorem qn_hungBy {a : Nat} {d : JD} (hn : q_NL a d) (pq0 pq1 : Int32) : ∃ (x : Int32) (w : Int32) (d2 : JD), f_X11_hungBy a d pq0 pq1 = (x, j_sI d 0 11 w) ∧ f_X13_hungByn (j_sI d 0 11 w) pq0 pq1 = (x, d2) ∧ q_ans d d2 w := by
  have k1 := q_hl0 hn
  have k2 := q_isg0 hn
  have k3 := q_isp0 hn
  have k4 := q_isl0 hn
  have k5 : d.1 24 4 = 0 := hn.2.2.2.1
  have k6 : d.1 28 4 = 0 := hn.2.2.2.2
  have k7 : d.1 a 3 = 0 := hn.1 3 (by decide)
  have k8 : d.1 a 4 = 0 := hn.1 4 (by decide)
  refine ⟨-1, 1, q_fin (q_dM d 1) 1, ?_, ?_, q_ansd d (by decide)⟩
  · unfold f_X11_hungBy
    try unfold f_X11_mayPlay
    try unfold f_X11_mayAlter
    simp only [k1, k2, k3, k4, k5, k6, k7, k8, q_xre, q_xde, Bool.false_eq_true, if_false, if_true, ite_self, Int32.mul_zero, j_let]
  · unfold f_X13_hungByn
    simp only [q_dMe, q_ref, q_mde, q_mlo, Bool.false_eq_true, if_false, if_true, j_let]
theorem qn_look {a : Nat} {d : JD} (hn : q_NL a d) : ∃ (x : Int32) (w : Int32) (d2 : JD), f_X11_look a d = some (x, j_sI d 0 11 w) ∧ f_X13_lookn (j_sI d 0 11 w) = (x, d2) ∧ q_ans d d2 w := by
  have k1 := q_hl0 hn
  have k2 := q_isg0 hn
  have k3 := q_isp0 hn
  have k4 := q_isl0 hn
  have k5 : d.1 24 4 = 0 := hn.2.2.2.1
  have k6 : d.1 28 4 = 0 := hn.2.2.2.2
  have k7 : d.1 a 3 = 0 := hn.1 3 (by decide)
  have k8 : d.1 a 4 = 0 := hn.1 4 (by decide)
  refine ⟨-1, 1, q_fin (q_dM d 1) 1, ?_, ?_, q_ansd d (by decide)⟩
  · unfold f_X11_look
    try unfold f_X11_mayPlay
    try unfold f_X11_mayAlter
    simp only [k1, k2, k3, k4, k5, k6, k7, k8, q_xre, q_xde, Bool.false_eq_true, if_false, if_true, ite_self, Int32.mul_zero, j_let]
  · unfold f_X13_lookn
    simp only [q_dMe, q_ref, q_mde, q_mlo, Bool.false_eq_true, if_false, if_true, j_let]
theorem qn_lookLeaves {a : Nat} {d : JD} (hn : q_NL a d) : ∃ (x : Int32) (w : Int32) (d2 : JD), f_X11_lookLeaves a d = some (x, j_sI d 0 11 w) ∧ f_X13_lookLeavesn (j_sI d 0 11 w) = (x, d2) ∧ q_ans d d2 w := by
  have k1 := q_hl0 hn
  have k2 := q_isg0 hn
  have k3 := q_isp0 hn
  have k4 := q_isl0 hn
  have k5 : d.1 24 4 = 0 := hn.2.2.2.1
  have k6 : d.1 28 4 = 0 := hn.2.2.2.2
  have k7 : d.1 a 3 = 0 := hn.1 3 (by decide)
  have k8 : d.1 a 4 = 0 := hn.1 4 (by decide)
  refine ⟨-1, 1, q_fin (q_dM d 1) 1, ?_, ?_, q_ansd d (by decide)⟩
  · unfold f_X11_lookLeaves
    try unfold f_X11_mayPlay
    try unfold f_X11_mayAlter
    simp only [k1, k2, k3, k4, k5, k6, k7, k8, q_xre, q_xde, Bool.false_eq_true, if_false, if_true, ite_self, Int32.mul_zero, j_let, f_X11_lookLeaves_j62]
  · unfold f_X13_lookLeavesn
    simp only [q_dMe, q_ref, q_mde, q_mlo, Bool.false_eq_true, if_false, if_true, j_let]
theorem qn_judge {a : Nat} {d : JD} (hn : q_NL a d) : ∃ (x : Int32) (w : Int32) (d2 : JD), f_X11_judge a d = (x, j_sI d 0 11 w) ∧ f_X13_judgen (j_sI d 0 11 w) = (x, d2) ∧ q_ans d d2 w := by
  have k1 := q_hl0 hn
  have k2 := q_isg0 hn
  have k3 := q_isp0 hn
  have k4 := q_isl0 hn
  have k5 : d.1 24 4 = 0 := hn.2.2.2.1
  have k6 : d.1 28 4 = 0 := hn.2.2.2.2
  have k7 : d.1 a 3 = 0 := hn.1 3 (by decide)
  have k8 : d.1 a 4 = 0 := hn.1 4 (by decide)
  refine ⟨-1, 1, q_fin (q_dM d 1) 1, ?_, ?_, q_ansd d (by decide)⟩
  · unfold f_X11_judge
    try unfold f_X11_mayPlay
    try unfold f_X11_mayAlter
    simp only [k1, k2, k3, k4, k5, k6, k7, k8, q_xre, q_xde, Bool.false_eq_true, if_false, if_true, ite_self, Int32.mul_zero, j_let]
  · unfold f_X13_judgen
    simp only [q_dMe, q_ref, q_mde, q_mlo, Bool.false_eq_true, if_false, if_true, j_let]
theorem qn_apart {a : Nat} {d : JD} (hn : q_NL a d) (pq0 pq1 : Int32) : ∃ (x : Int32) (w : Int32) (d2 : JD), f_X11_apart a d pq0 pq1 = (x, j_sI d 0 11 w) ∧ f_X13_apartn (j_sI d 0 11 w) pq0 pq1 = (x, d2) ∧ q_ans d d2 w := by
  have k1 := q_hl0 hn
  have k2 := q_isg0 hn
  have k3 := q_isp0 hn
  have k4 := q_isl0 hn
  have k5 : d.1 24 4 = 0 := hn.2.2.2.1
  have k6 : d.1 28 4 = 0 := hn.2.2.2.2
  have k7 : d.1 a 3 = 0 := hn.1 3 (by decide)
  have k8 : d.1 a 4 = 0 := hn.1 4 (by decide)
  refine ⟨-1, 1, q_fin (q_dM d 1) 1, ?_, ?_, q_ansd d (by decide)⟩
  · unfold f_X11_apart
    try unfold f_X11_mayPlay
    try unfold f_X11_mayAlter
    simp only [k1, k2, k3, k4, k5, k6, k7, k8, q_xre, q_xde, Bool.false_eq_true, if_false, if_true, ite_self, Int32.mul_zero, j_let, f_X11_apart_j16]
  · unfold f_X13_apartn
    simp only [q_dMe, q_ref, q_mde, q_mlo, Bool.false_eq_true, if_false, if_true, j_let]
theorem qn_sentries {a : Nat} {d : JD} (hn : q_NL a d) : ∃ (x : Int32) (w : Int32) (d2 : JD), f_X11_sentries a d = (x, j_sI d 0 11 w) ∧ f_X13_sentriesn (j_sI d 0 11 w) = (x, d2) ∧ q_ans d d2 w := by
  have k1 := q_hl0 hn
  have k2 := q_isg0 hn
  have k3 := q_isp0 hn
  have k4 := q_isl0 hn
  have k5 : d.1 24 4 = 0 := hn.2.2.2.1
  have k6 : d.1 28 4 = 0 := hn.2.2.2.2
  have k7 : d.1 a 3 = 0 := hn.1 3 (by decide)
  have k8 : d.1 a 4 = 0 := hn.1 4 (by decide)
  refine ⟨-1, 1, q_fin (q_dM d 1) 1, ?_, ?_, q_ansd d (by decide)⟩
  · unfold f_X11_sentries
    try unfold f_X11_mayPlay
    try unfold f_X11_mayAlter
    simp only [k1, k2, k3, k4, k5, k6, k7, k8, q_xre, q_xde, Bool.false_eq_true, if_false, if_true, ite_self, Int32.mul_zero, j_let]
  · unfold f_X13_sentriesn
    simp only [q_dMe, q_ref, q_mde, q_mlo, Bool.false_eq_true, if_false, if_true, j_let]
theorem qn_parts {a : Nat} {d : JD} (hn : q_NL a d) : ∃ (x : Int32) (w : Int32) (d2 : JD), f_X11_parts a d = (x, j_sI d 0 11 w) ∧ f_X13_partsn (j_sI d 0 11 w) = (x, d2) ∧ q_ans d d2 w := by
  have k1 := q_hl0 hn
  have k2 := q_isg0 hn
  have k3 := q_isp0 hn
  have k4 := q_isl0 hn
  have k5 : d.1 24 4 = 0 := hn.2.2.2.1
  have k6 : d.1 28 4 = 0 := hn.2.2.2.2
  have k7 : d.1 a 3 = 0 := hn.1 3 (by decide)
  have k8 : d.1 a 4 = 0 := hn.1 4 (by decide)
  refine ⟨-1, 1, q_fin (q_dM d 1) 1, ?_, ?_, q_ansd d (by decide)⟩
  · unfold f_X11_parts
    try unfold f_X11_mayPlay
    try unfold f_X11_mayAlter
    simp only [k1, k2, k3, k4, k5, k6, k7, k8, q_xre, q_xde, Bool.false_eq_true, if_false, if_true, ite_self, Int32.mul_zero, j_let]
  · unfold f_X13_partsn
    simp only [q_dMe, q_ref, q_mde, q_mlo, Bool.false_eq_true, if_false, if_true, j_let]
theorem qn_estate {a : Nat} {d : JD} (hn : q_NL a d) (pq0 pq1 : Int32) : ∃ (x : Int32) (w : Int32) (d2 : JD), f_X11_estate a d pq0 pq1 = (x, j_sI d 0 11 w) ∧ f_X13_estaten (j_sI d 0 11 w) pq0 pq1 = (x, d2) ∧ q_ans d d2 w := by
  have k1 := q_hl0 hn
  have k2 := q_isg0 hn
  have k3 := q_isp0 hn
  have k4 := q_isl0 hn
  have k5 : d.1 24 4 = 0 := hn.2.2.2.1
  have k6 : d.1 28 4 = 0 := hn.2.2.2.2
  have k7 : d.1 a 3 = 0 := hn.1 3 (by decide)
  have k8 : d.1 a 4 = 0 := hn.1 4 (by decide)
  refine ⟨-1, 1, q_fin (q_dM d 1) 1, ?_, ?_, q_ansd d (by decide)⟩
  · unfold f_X11_estate
    try unfold f_X11_mayPlay
    try unfold f_X11_mayAlter
    simp only [k1, k2, k3, k4, k5, k6, k7, k8, q_xre, q_xde, Bool.false_eq_true, if_false, if_true, ite_self, Int32.mul_zero, j_let, f_X11_estate_j16]
  · unfold f_X13_estaten
    simp only [q_dMe, q_ref, q_mde, q_mlo, Bool.false_eq_true, if_false, if_true, j_let]
theorem qn_power {a : Nat} {d : JD} (hn : q_NL a d) (pq0 pq1 : Int32) : ∃ (x : Int64) (w : Int32) (d2 : JD), f_X11_power a d pq0 pq1 = some (x, j_sI d 0 11 w) ∧ f_X13_powern (j_sI d 0 11 w) pq0 pq1 = (x, d2) ∧ q_ans d d2 w := by
  have k1 := q_hl0 hn
  have k2 := q_isg0 hn
  have k3 := q_isp0 hn
  have k4 := q_isl0 hn
  have k5 : d.1 24 4 = 0 := hn.2.2.2.1
  have k6 : d.1 28 4 = 0 := hn.2.2.2.2
  have k7 : d.1 a 3 = 0 := hn.1 3 (by decide)
  have k8 : d.1 a 4 = 0 := hn.1 4 (by decide)
  refine ⟨(-1 : Int32).toInt64, 1, q_fin (q_dM d 1) 1, ?_, ?_, q_ansd d (by decide)⟩
  · unfold f_X11_power
    try unfold f_X11_mayPlay
    try unfold f_X11_mayAlter
    simp only [k1, k2, k3, k4, k5, k6, k7, k8, q_xre, q_xde, Bool.false_eq_true, if_false, if_true, ite_self, Int32.mul_zero, j_let]
  · unfold f_X13_powern
    simp only [q_dMe, q_ref, q_mde, q_mlo, Bool.false_eq_true, if_false, if_true, j_let]
theorem qn_rule {a : Nat} {d : JD} (hn : q_NL a d) : ∃ (x : Int32) (w : Int32) (d2 : JD), f_X11_rule a d = (x, j_sI d 0 11 w) ∧ f_X13_rulen (j_sI d 0 11 w) = (x, d2) ∧ q_ans d d2 w := by
  have k1 := q_hl0 hn
  have k2 := q_isg0 hn
  have k3 := q_isp0 hn
  have k4 := q_isl0 hn
  have k5 : d.1 24 4 = 0 := hn.2.2.2.1
  have k6 : d.1 28 4 = 0 := hn.2.2.2.2
  have k7 : d.1 a 3 = 0 := hn.1 3 (by decide)
  have k8 : d.1 a 4 = 0 := hn.1 4 (by decide)
  refine ⟨-1, 1, q_fin (q_dM d 1) 1, ?_, ?_, q_ansd d (by decide)⟩
  · unfold f_X11_rule
    try unfold f_X11_mayPlay
    try unfold f_X11_mayAlter
    simp only [k1, k2, k3, k4, k5, k6, k7, k8, q_xre, q_xde, Bool.false_eq_true, if_false, if_true, ite_self, Int32.mul_zero, j_let]
  · unfold f_X13_rulen
    simp only [q_dMe, q_ref, q_mde, q_mlo, Bool.false_eq_true, if_false, if_true, j_let]
theorem qn_steal {a : Nat} {d : JD} (hn : q_NL a d) (pq0 pq1 pq2 pq3 : Int32) : ∃ (x : Int32) (w : Int32) (d2 : JD), f_X11_steal a d pq0 pq1 pq2 pq3 = (x, j_sI d 0 11 w) ∧ f_X13_stealn (j_sI d 0 11 w) pq0 pq1 pq2 pq3 = (x, d2) ∧ q_ans d d2 w := by
  have k1 := q_hl0 hn
  have k2 := q_isg0 hn
  have k3 := q_isp0 hn
  have k4 := q_isl0 hn
  have k5 : d.1 24 4 = 0 := hn.2.2.2.1
  have k6 : d.1 28 4 = 0 := hn.2.2.2.2
  have k7 : d.1 a 3 = 0 := hn.1 3 (by decide)
  have k8 : d.1 a 4 = 0 := hn.1 4 (by decide)
  refine ⟨-100, 1, q_fin (q_dM d 1) 1, ?_, ?_, q_ansd d (by decide)⟩
  · unfold f_X11_steal
    try unfold f_X11_mayPlay
    try unfold f_X11_mayAlter
    simp only [k1, k2, k3, k4, k5, k6, k7, k8, q_xre, q_xde, Bool.false_eq_true, if_false, if_true, ite_self, Int32.mul_zero, j_let]
  · unfold f_X13_stealn
    simp only [q_dMe, q_ref, q_mde, q_mlo, Bool.false_eq_true, if_false, if_true, j_let]
theorem qn_rests {a : Nat} {d : JD} (hn : q_NL a d) (pq0 : Int32) : ∃ (x : Int32) (w : Int32) (d2 : JD), f_X11_rests a d pq0 = (x, j_sI d 0 11 w) ∧ f_X13_restsn (j_sI d 0 11 w) pq0 = (x, d2) ∧ q_ans d d2 w := by
  have k1 := q_hl0 hn
  have k2 := q_isg0 hn
  have k3 := q_isp0 hn
  have k4 := q_isl0 hn
  have k5 : d.1 24 4 = 0 := hn.2.2.2.1
  have k6 : d.1 28 4 = 0 := hn.2.2.2.2
  have k7 : d.1 a 3 = 0 := hn.1 3 (by decide)
  have k8 : d.1 a 4 = 0 := hn.1 4 (by decide)
  refine ⟨-1, 1, q_fin (q_dM d 1) 1, ?_, ?_, q_ansd d (by decide)⟩
  · unfold f_X11_rests
    try unfold f_X11_mayPlay
    try unfold f_X11_mayAlter
    simp only [k1, k2, k3, k4, k5, k6, k7, k8, q_xre, q_xde, Bool.false_eq_true, if_false, if_true, ite_self, Int32.mul_zero, j_let]
  · unfold f_X13_restsn
    simp only [q_dMe, q_ref, q_mde, q_mlo, Bool.false_eq_true, if_false, if_true, j_let]
theorem qn_rest {a : Nat} {d : JD} (hn : q_NL a d) (pq0 : Int32) : ∃ (x : Int32) (w : Int32) (d2 : JD), f_X11_rest a d pq0 = (x, j_sI d 0 11 w) ∧ f_X13_restn (j_sI d 0 11 w) pq0 = (x, d2) ∧ q_ans d d2 w := by
  have k1 := q_hl0 hn
  have k2 := q_isg0 hn
  have k3 := q_isp0 hn
  have k4 := q_isl0 hn
  have k5 : d.1 24 4 = 0 := hn.2.2.2.1
  have k6 : d.1 28 4 = 0 := hn.2.2.2.2
  have k7 : d.1 a 3 = 0 := hn.1 3 (by decide)
  have k8 : d.1 a 4 = 0 := hn.1 4 (by decide)
  refine ⟨-1, 1, q_fin (q_dM d 1) 1, ?_, ?_, q_ansd d (by decide)⟩
  · unfold f_X11_rest
    try unfold f_X11_mayPlay
    try unfold f_X11_mayAlter
    simp only [k1, k2, k3, k4, k5, k6, k7, k8, q_xre, q_xde, Bool.false_eq_true, if_false, if_true, ite_self, Int32.mul_zero, j_let]
  · unfold f_X13_restn
    simp only [q_dMe, q_ref, q_mde, q_mlo, Bool.false_eq_true, if_false, if_true, j_let]
theorem qn_holds {a : Nat} {d : JD} (hn : q_NL a d) (pq0 pq1 pq2 : Int32) : ∃ (x : Int64) (w : Int32) (d2 : JD), f_X11_holds a d pq0 pq1 pq2 = some (x, j_sI d 0 11 w) ∧ f_X13_holdsn (j_sI d 0 11 w) pq0 pq1 pq2 = (x, d2) ∧ q_ans d d2 w := by
  have k1 := q_hl0 hn
  have k2 := q_isg0 hn
  have k3 := q_isp0 hn
  have k4 := q_isl0 hn
  have k5 : d.1 24 4 = 0 := hn.2.2.2.1
  have k6 : d.1 28 4 = 0 := hn.2.2.2.2
  have k7 : d.1 a 3 = 0 := hn.1 3 (by decide)
  have k8 : d.1 a 4 = 0 := hn.1 4 (by decide)
  refine ⟨(-1 : Int32).toInt64, 1, q_fin (q_dM d 1) 1, ?_, ?_, q_ansd d (by decide)⟩
  · unfold f_X11_holds
    try unfold f_X11_mayPlay
    try unfold f_X11_mayAlter
    simp only [k1, k2, k3, k4, k5, k6, k7, k8, q_xre, q_xde, Bool.false_eq_true, if_false, if_true, ite_self, Int32.mul_zero, j_let, f_X11_holds_j24]
  · unfold f_X13_holdsn
    simp only [q_dMe, q_ref, q_mde, q_mlo, Bool.false_eq_true, if_false, if_true, j_let]
theorem qn_mean {a : Nat} {d : JD} (hn : q_NL a d) (pq0 pq1 : Int32) : ∃ (x : Int64) (w : Int32) (d2 : JD), f_X11_mean a d pq0 pq1 = some (x, j_sI d 0 11 w) ∧ f_X13_meann (j_sI d 0 11 w) pq0 pq1 = (x, d2) ∧ q_ans d d2 w := by
  have k1 := q_hl0 hn
  have k2 := q_isg0 hn
  have k3 := q_isp0 hn
  have k4 := q_isl0 hn
  have k5 : d.1 24 4 = 0 := hn.2.2.2.1
  have k6 : d.1 28 4 = 0 := hn.2.2.2.2
  have k7 : d.1 a 3 = 0 := hn.1 3 (by decide)
  have k8 : d.1 a 4 = 0 := hn.1 4 (by decide)
  refine ⟨(-1 : Int32).toInt64, 1, q_fin (q_dM d 1) 1, ?_, ?_, q_ansd d (by decide)⟩
  · unfold f_X11_mean
    try unfold f_X11_mayPlay
    try unfold f_X11_mayAlter
    simp only [k1, k2, k3, k4, k5, k6, k7, k8, q_xre, q_xde, Bool.false_eq_true, if_false, if_true, ite_self, Int32.mul_zero, j_let]
  · unfold f_X13_meann
    simp only [q_dMe, q_ref, q_mde, q_mlo, Bool.false_eq_true, if_false, if_true, j_let]
theorem qn_keeps {a : Nat} {d : JD} (hn : q_NL a d) (pq0 pq1 pq2 : Int32) : ∃ (x : Int64) (w : Int32) (d2 : JD), f_X11_keeps a d pq0 pq1 pq2 = some (x, j_sI d 0 11 w) ∧ f_X13_keepsn (j_sI d 0 11 w) pq0 pq1 pq2 = (x, d2) ∧ q_ans d d2 w := by
  have k1 := q_hl0 hn
  have k2 := q_isg0 hn
  have k3 := q_isp0 hn
  have k4 := q_isl0 hn
  have k5 : d.1 24 4 = 0 := hn.2.2.2.1
  have k6 : d.1 28 4 = 0 := hn.2.2.2.2
  have k7 : d.1 a 3 = 0 := hn.1 3 (by decide)
  have k8 : d.1 a 4 = 0 := hn.1 4 (by decide)
  refine ⟨(-1 : Int32).toInt64, 1, q_fin (q_dM d 1) 1, ?_, ?_, q_ansd d (by decide)⟩
  · unfold f_X11_keeps
    try unfold f_X11_mayPlay
    try unfold f_X11_mayAlter
    simp only [k1, k2, k3, k4, k5, k6, k7, k8, q_xre, q_xde, Bool.false_eq_true, if_false, if_true, ite_self, Int32.mul_zero, j_let]
  · unfold f_X13_keepsn
    simp only [q_dMe, q_ref, q_mde, q_mlo, Bool.false_eq_true, if_false, if_true, j_let]
theorem qn_century {a : Nat} {d : JD} (hn : q_NL a d) (pq0 pq1 pq2 : Int32) : ∃ (x : Int32) (w : Int32) (d2 : JD), f_X11_century a d pq0 pq1 pq2 = some (x, j_sI d 0 11 w) ∧ f_X13_centuryn (j_sI d 0 11 w) pq0 pq1 pq2 = (x, d2) ∧ q_ans d d2 w := by
  have k1 := q_hl0 hn
  have k2 := q_isg0 hn
  have k3 := q_isp0 hn
  have k4 := q_isl0 hn
  have k5 : d.1 24 4 = 0 := hn.2.2.2.1
  have k6 : d.1 28 4 = 0 := hn.2.2.2.2
  have k7 : d.1 a 3 = 0 := hn.1 3 (by decide)
  have k8 : d.1 a 4 = 0 := hn.1 4 (by decide)
  refine ⟨-1, 1, q_fin (q_dM d 1) 1, ?_, ?_, q_ansd d (by decide)⟩
  · unfold f_X11_century
    try unfold f_X11_mayPlay
    try unfold f_X11_mayAlter
    simp only [k1, k2, k3, k4, k5, k6, k7, k8, q_xre, q_xde, Bool.false_eq_true, if_false, if_true, ite_self, Int32.mul_zero, j_let, f_X11_century_j28]
  · unfold f_X13_centuryn
    simp only [q_dMe, q_ref, q_mde, q_mlo, Bool.false_eq_true, if_false, if_true, j_let]
theorem qn_bare {a : Nat} {d : JD} (hn : q_NL a d) (pq0 pq1 : Int32) : ∃ (x : Int32) (w : Int32) (d2 : JD), f_X11_bare a d pq0 pq1 = some (x, j_sI d 0 11 w) ∧ f_X13_baren (j_sI d 0 11 w) pq0 pq1 = (x, d2) ∧ q_ans d d2 w := by
  have k1 := q_hl0 hn
  have k2 := q_isg0 hn
  have k3 := q_isp0 hn
  have k4 := q_isl0 hn
  have k5 : d.1 24 4 = 0 := hn.2.2.2.1
  have k6 : d.1 28 4 = 0 := hn.2.2.2.2
  have k7 : d.1 a 3 = 0 := hn.1 3 (by decide)
  have k8 : d.1 a 4 = 0 := hn.1 4 (by decide)
  refine ⟨-1, 1, q_fin (q_dM d 1) 1, ?_, ?_, q_ansd d (by decide)⟩
  · unfold f_X11_bare
    try unfold f_X11_mayPlay
    try unfold f_X11_mayAlter
    simp only [k1, k2, k3, k4, k5, k6, k7, k8, q_xre, q_xde, Bool.false_eq_true, if_false, if_true, ite_self, Int32.mul_zero, j_let, f_X11_bare_j27]
  · unfold f_X13_baren
    simp only [q_dMe, q_ref, q_mde, q_mlo, Bool.false_eq_true, if_false, if_true, j_let]
theorem qn_hang {a : Nat} {d : JD} (hn : q_NL a d) (pq0 pq1 : Int32) : ∃ (x : Bool) (w : Int32) (d2 : JD), f_X11_hang a d pq0 pq1 = some (x, j_sI d 0 11 w) ∧ f_X13_hangn (j_sI d 0 11 w) pq0 pq1 = (x, d2) ∧ q_ans d d2 w := by
  have k1 := q_hl0 hn
  have k2 := q_isg0 hn
  have k3 := q_isp0 hn
  have k4 := q_isl0 hn
  have k5 : d.1 24 4 = 0 := hn.2.2.2.1
  have k6 : d.1 28 4 = 0 := hn.2.2.2.2
  have k7 : d.1 a 3 = 0 := hn.1 3 (by decide)
  have k8 : d.1 a 4 = 0 := hn.1 4 (by decide)
  refine ⟨false, 1, q_fin (q_dM d 1) 1, ?_, ?_, q_ansd d (by decide)⟩
  · unfold f_X11_hang
    try unfold f_X11_mayPlay
    try unfold f_X11_mayAlter
    simp only [k1, k2, k3, k4, k5, k6, k7, k8, q_xre, q_xde, Bool.false_eq_true, if_false, if_true, ite_self, Int32.mul_zero, j_let, f_X11_hang_j55]
  · unfold f_X13_hangn
    simp only [q_dMe, q_ref, q_mde, q_mlo, Bool.false_eq_true, if_false, if_true, j_let]
theorem qn_take {a : Nat} {d : JD} (hn : q_NL a d) (pq0 : Int32) : ∃ (x : Bool) (w : Int32) (d2 : JD), f_X11_take a d pq0 = some (x, j_sI d 0 11 w) ∧ f_X13_taken (j_sI d 0 11 w) pq0 = (x, d2) ∧ q_ans d d2 w := by
  have k1 := q_hl0 hn
  have k2 := q_isg0 hn
  have k3 := q_isp0 hn
  have k4 := q_isl0 hn
  have k5 : d.1 24 4 = 0 := hn.2.2.2.1
  have k6 : d.1 28 4 = 0 := hn.2.2.2.2
  have k7 : d.1 a 3 = 0 := hn.1 3 (by decide)
  have k8 : d.1 a 4 = 0 := hn.1 4 (by decide)
  refine ⟨false, 1, q_fin (q_dM d 1) 1, ?_, ?_, q_ansd d (by decide)⟩
  · unfold f_X11_take
    try unfold f_X11_mayPlay
    try unfold f_X11_mayAlter
    simp only [k1, k2, k3, k4, k5, k6, k7, k8, q_xre, q_xde, Bool.false_eq_true, if_false, if_true, ite_self, Int32.mul_zero, j_let]
  · unfold f_X13_taken
    simp only [q_dMe, q_ref, q_mde, q_mlo, Bool.false_eq_true, if_false, if_true, j_let]
theorem qn_turnOver {a : Nat} {d : JD} (hn : q_NL a d) (pq0 : Int32) : ∃ (x : Int32) (w : Int32) (d2 : JD), f_X11_turnOver a d pq0 = some (x, j_sI d 0 11 w) ∧ f_X13_turnOvern (j_sI d 0 11 w) pq0 = (x, d2) ∧ q_ans d d2 w := by
  have k1 := q_hl0 hn
  have k2 := q_isg0 hn
  have k3 := q_isp0 hn
  have k4 := q_isl0 hn
  have k5 : d.1 24 4 = 0 := hn.2.2.2.1
  have k6 : d.1 28 4 = 0 := hn.2.2.2.2
  have k7 : d.1 a 3 = 0 := hn.1 3 (by decide)
  have k8 : d.1 a 4 = 0 := hn.1 4 (by decide)
  refine ⟨-1, 1, q_fin (q_dM d 1) 1, ?_, ?_, q_ansd d (by decide)⟩
  · unfold f_X11_turnOver
    try unfold f_X11_mayPlay
    try unfold f_X11_mayAlter
    simp only [k1, k2, k3, k4, k5, k6, k7, k8, q_xre, q_xde, Bool.false_eq_true, if_false, if_true, ite_self, Int32.mul_zero, j_let, f_X11_turnOver_j35, f_X11_turnOver_j36]
  · unfold f_X13_turnOvern
    simp only [q_dMe, q_ref, q_mde, q_mlo, Bool.false_eq_true, if_false, if_true, j_let]
theorem qn_gust {a : Nat} {d : JD} (hn : q_NL a d) : ∃ (x : Int32) (w : Int32) (d2 : JD), f_X11_gust a d = some (x, j_sI d 0 11 w) ∧ f_X13_gustn (j_sI d 0 11 w) = (x, d2) ∧ q_ans d d2 w := by
  have k1 := q_hl0 hn
  have k2 := q_isg0 hn
  have k3 := q_isp0 hn
  have k4 := q_isl0 hn
  have k5 : d.1 24 4 = 0 := hn.2.2.2.1
  have k6 : d.1 28 4 = 0 := hn.2.2.2.2
  have k7 : d.1 a 3 = 0 := hn.1 3 (by decide)
  have k8 : d.1 a 4 = 0 := hn.1 4 (by decide)
  refine ⟨-1, 1, q_fin (q_dM d 1) 1, ?_, ?_, q_ansd d (by decide)⟩
  · unfold f_X11_gust
    try unfold f_X11_mayPlay
    try unfold f_X11_mayAlter
    simp only [k1, k2, k3, k4, k5, k6, k7, k8, q_xre, q_xde, Bool.false_eq_true, if_false, if_true, ite_self, Int32.mul_zero, j_let]
  · unfold f_X13_gustn
    simp only [q_dMe, q_ref, q_mde, q_mlo, Bool.false_eq_true, if_false, if_true, j_let]
theorem qn_seed {a : Nat} {d : JD} (hn : q_NL a d) (pq0 : Int32) : ∃ (x : Bool) (w : Int32) (d2 : JD), f_X11_seed a d pq0 = (x, j_sI d 0 11 w) ∧ f_X13_seedn (j_sI d 0 11 w) pq0 = (x, d2) ∧ q_ans d d2 w := by
  have k1 := q_hl0 hn
  have k2 := q_isg0 hn
  have k3 := q_isp0 hn
  have k4 := q_isl0 hn
  have k5 : d.1 24 4 = 0 := hn.2.2.2.1
  have k6 : d.1 28 4 = 0 := hn.2.2.2.2
  have k7 : d.1 a 3 = 0 := hn.1 3 (by decide)
  have k8 : d.1 a 4 = 0 := hn.1 4 (by decide)
  refine ⟨false, 1, q_fin (q_dM d 1) 1, ?_, ?_, q_ansd d (by decide)⟩
  · unfold f_X11_seed
    try unfold f_X11_mayPlay
    try unfold f_X11_mayAlter
    simp only [k1, k2, k3, k4, k5, k6, k7, k8, q_xre, q_xde, Bool.false_eq_true, if_false, if_true, ite_self, Int32.mul_zero, j_let]
  · unfold f_X13_seedn
    simp only [q_dMe, q_ref, q_mde, q_mlo, Bool.false_eq_true, if_false, if_true, j_let]
theorem qn_undo {a : Nat} {d : JD} (hn : q_NL a d) : ∃ (x : Bool) (w : Int32) (d2 : JD), f_X11_undo d = (x, j_sI d 0 11 w) ∧ f_X13_undon (j_sI d 0 11 w) = (x, d2) ∧ q_ans d d2 w := by
  have k1 := q_hl0 hn
  have k2 := q_isg0 hn
  have k3 := q_isp0 hn
  have k4 := q_isl0 hn
  have k5 : d.1 24 4 = 0 := hn.2.2.2.1
  have k6 : d.1 28 4 = 0 := hn.2.2.2.2
  have k7 : d.1 a 3 = 0 := hn.1 3 (by decide)
  have k8 : d.1 a 4 = 0 := hn.1 4 (by decide)
  refine ⟨false, 6, q_fin (q_dM d 6) 6, ?_, ?_, q_ansd d (by decide)⟩
  · unfold f_X11_undo
    try unfold f_X11_mayPlay
    try unfold f_X11_mayAlter
    simp only [k1, k2, k3, k4, k5, k6, k7, k8, q_xre, q_xde, Bool.false_eq_true, if_false, if_true, ite_self, Int32.mul_zero, j_let]
  · unfold f_X13_undon
    simp only [q_dMe, q_ref, q_mde, q_mlo, Bool.false_eq_true, if_false, if_true, j_let]
theorem qn_image {a : Nat} {d : JD} (hn : q_NL a d) : ∃ (x : Int32) (w : Int32) (d2 : JD), f_X11_image a d = some (x, j_sI d 0 11 w) ∧ f_X13_imagen (j_sI d 0 11 w) = (x, d2) ∧ q_ans d d2 w := by
  have k1 := q_hl0 hn
  have k2 := q_isg0 hn
  have k3 := q_isp0 hn
  have k4 := q_isl0 hn
  have k5 : d.1 24 4 = 0 := hn.2.2.2.1
  have k6 : d.1 28 4 = 0 := hn.2.2.2.2
  have k7 : d.1 a 3 = 0 := hn.1 3 (by decide)
  have k8 : d.1 a 4 = 0 := hn.1 4 (by decide)
  refine ⟨-1, 1, q_fin (q_dM d 1) 1, ?_, ?_, q_ansd d (by decide)⟩
  · unfold f_X11_image
    try unfold f_X11_mayPlay
    try unfold f_X11_mayAlter
    simp only [k1, k2, k3, k4, k5, k6, k7, k8, q_xre, q_xde, Bool.false_eq_true, if_false, if_true, ite_self, Int32.mul_zero, j_let]
  · unfold f_X13_imagen
    simp only [q_dMe, q_ref, q_mde, q_mlo, Bool.false_eq_true, if_false, if_true, j_let]
theorem qn_back {a : Nat} {d : JD} (hn : q_NL a d) (pq0 : Int32) : ∃ (x : Bool) (w : Int32) (d2 : JD), f_X11_back d pq0 = (x, j_sI d 0 11 w) ∧ f_X13_backn (j_sI d 0 11 w) pq0 = (x, d2) ∧ q_ans d d2 w := by
  have k1 := q_hl0 hn
  have k2 := q_isg0 hn
  have k3 := q_isp0 hn
  have k4 := q_isl0 hn
  have k5 : d.1 24 4 = 0 := hn.2.2.2.1
  have k6 : d.1 28 4 = 0 := hn.2.2.2.2
  have k7 : d.1 a 3 = 0 := hn.1 3 (by decide)
  have k8 : d.1 a 4 = 0 := hn.1 4 (by decide)
  refine ⟨false, 1, q_fin (q_dM d 1) 1, ?_, ?_, q_ansd d (by decide)⟩
  · unfold f_X11_back
    try unfold f_X11_mayPlay
    try unfold f_X11_mayAlter
    by_cases hp : pq0 < 0
    · simp only [hp, k1, k2, k3, k4, k5, k6, k7, k8, q_xre, q_xde, Bool.false_eq_true, if_false, if_true, ite_self, Int32.mul_zero, j_let, f_X11_back_j15]
    · simp only [hp, k1, k2, k3, k4, k5, k6, k7, k8, q_xre, q_xde, Bool.false_eq_true, if_false, if_true, ite_self, Int32.mul_zero, j_let, f_X11_back_j15]
  · unfold f_X13_backn
    simp only [q_dMe, q_ref, q_mde, q_mlo, Bool.false_eq_true, if_false, if_true, j_let]
