def bdS1 (t1 : Int32) : (Int32 × rb_Row) → Option ((Int32 × rb_Row) ⊕ (rb_Row)) := fun (s9 : Int32 × rb_Row) => if 12 ≤ (s9.1 + 3) then some (.inr s9.2) else (rb_rd s9.2 796 ((t1 + s9.1) + 3)).bind fun v18 => (rb_wr s9.2 796 (t1 + s9.1) v18).bind fun a20 => some (.inl ((s9.1 + 1), a20))
/-- the first step leaves its place -/
def rb_tc (c : rb_Row) (b j d : Nat) : rb_Row := fun k => if b ≤ k ∧ k < b + j then c (k + d) else c k
def rb_TC (c : rb_Row) (col t l : Nat) : rb_Row := upd (rb_tc c (col + t * 4) (l - 1) 1) (col + t * 4 + (l - 1)) (c (col + t * 4))
theorem xn_turnColumn {c : rb_Row} {col t l : Nat} (ht : t < 6) (h1 : 1 ≤ l) (h4 : l ≤ 4) (hl : c (599 + t) = nI l) (hc : 605 ≤ col) (hc' : col ≤ 653) : XX4_turnColumn c (nI col) (nI t) = some (rb_TC c col t l) := by
  unfold XX4_turnColumn rb_TC
  have q1 : nI l - nI 1 = nI (l - 1) := rb_sub h1
  simp (disch := omega) only [↓reduceIte, Nat.reduceEqDiff, Nat.reduceLeDiff, eq_self, not_true_eq_false, not_false_eq_true, li_0, li_1, li_2, li_3, li_4, li_5, li_6, li_7, li_8, li_9, li_10, li_11, li_12, li_13, li_14, li_15, li_16, li_17, li_18, li_19, li_20, li_21, li_22, li_23, li_24, li_25, li_26, li_27, li_28, li_29, li_30, li_31, li_32, li_33, li_34, li_35, li_36, li_37, li_38, li_39, li_40, li_41, li_42, li_47, li_50, li_60, li_63, li_75, li_100, li_103, li_131, li_159, li_184, li_187, li_215, li_243, li_256, li_271, li_296, li_299, li_323, li_347, li_371, li_395, li_419, li_443, li_467, li_491, li_515, li_539, li_545, li_551, li_557, li_560, li_563, li_569, li_575, li_581, li_587, li_593, li_599, li_605, li_629, li_653, li_677, li_725, li_773, li_794, li_795, li_796, li_1000, li_1546, li_1592, li_6184, li_9552, li_10049, li_10348, li_100000, rb_mI, nI_add, nI_mul, nI_leI, nI_ltI, nI_eq, rb_rdn, rb_wrn, rb_n0, rb_m0, rb_m1n, rb_nm1, rb_m1lt, rb_m1le, rb_0m1, rb_ltm1, rb_lem1, Nat.add_zero, Nat.zero_le, Nat.not_lt_zero, Nat.one_ne_zero, Option.bind_some, Option.bind_none, Option.some.injEq, if_true, if_false, ite_true, ite_false, Sum.elim_inl, Sum.elim_inr, hl, q1]
  refine rb_bnd (rb_tc c (col + t * 4) (l - 1) 1) (rb_lps0 (fun j => (nI j, rb_tc c (col + t * 4) j 1)) (l - 1) _ ?_ ?_ ?_ (by omega)) ?_
  · show (nI 0, rb_tc c (col + t * 4) 0 1) = _
    congr 1
    funext k
    unfold rb_tc
    rw [if_neg (by omega)]
  · intro j hj
    have e1 : rb_tc c (col + t * 4) j 1 (col + t * 4 + j + 1) = c (col + t * 4 + j + 1) := by
      unfold rb_tc; rw [if_neg (by omega)]
    have e2 : upd (rb_tc c (col + t * 4) j 1) (col + t * 4 + j) (c (col + t * 4 + j + 1)) = rb_tc c (col + t * 4) (j + 1) 1 := by
      funext k
      unfold rb_tc
      by_cases q : k = col + t * 4 + j
      · subst q; rw [rb_upe rfl, if_pos (by omega)]
      · rw [rb_upn q]
        by_cases q2 : col + t * 4 ≤ k ∧ k < col + t * 4 + j
        · rw [if_pos q2, if_pos (by omega)]
        · rw [if_neg q2, if_neg (by omega)]
    simp (disch := omega) only [↓reduceIte, Nat.reduceEqDiff, Nat.reduceLeDiff, eq_self, not_true_eq_false, not_false_eq_true, li_0, li_1, li_2, li_3, li_4, li_5, li_6, li_7, li_8, li_9, li_10, li_11, li_12, li_13, li_14, li_15, li_16, li_17, li_18, li_19, li_20, li_21, li_22, li_23, li_24, li_25, li_26, li_27, li_28, li_29, li_30, li_31, li_32, li_33, li_34, li_35, li_36, li_37, li_38, li_39, li_40, li_41, li_42, li_47, li_50, li_60, li_63, li_75, li_100, li_103, li_131, li_159, li_184, li_187, li_215, li_243, li_256, li_271, li_296, li_299, li_323, li_347, li_371, li_395, li_419, li_443, li_467, li_491, li_515, li_539, li_545, li_551, li_557, li_560, li_563, li_569, li_575, li_581, li_587, li_593, li_599, li_605, li_629, li_653, li_677, li_725, li_773, li_794, li_795, li_796, li_1000, li_1546, li_1592, li_6184, li_9552, li_10049, li_10348, li_100000, rb_mI, nI_add, nI_mul, nI_leI, nI_ltI, nI_eq, rb_rdn, rb_wrn, rb_n0, rb_m0, rb_m1n, rb_nm1, rb_m1lt, rb_m1le, rb_0m1, rb_ltm1, rb_lem1, Nat.add_zero, Nat.zero_le, Nat.not_lt_zero, Nat.one_ne_zero, Option.bind_some, Option.bind_none, Option.some.injEq, if_true, if_false, ite_true, ite_false, Sum.elim_inl, Sum.elim_inr, e1, e2]
    rw [if_neg (by omega), if_neg (by omega)]
  · simp (disch := omega) only [↓reduceIte, Nat.reduceEqDiff, Nat.reduceLeDiff, eq_self, not_true_eq_false, not_false_eq_true, li_0, li_1, li_2, li_3, li_4, li_5, li_6, li_7, li_8, li_9, li_10, li_11, li_12, li_13, li_14, li_15, li_16, li_17, li_18, li_19, li_20, li_21, li_22, li_23, li_24, li_25, li_26, li_27, li_28, li_29, li_30, li_31, li_32, li_33, li_34, li_35, li_36, li_37, li_38, li_39, li_40, li_41, li_42, li_47, li_50, li_60, li_63, li_75, li_100, li_103, li_131, li_159, li_184, li_187, li_215, li_243, li_256, li_271, li_296, li_299, li_323, li_347, li_371, li_395, li_419, li_443, li_467, li_491, li_515, li_539, li_545, li_551, li_557, li_560, li_563, li_569, li_575, li_581, li_587, li_593, li_599, li_605, li_629, li_653, li_677, li_725, li_773, li_794, li_795, li_796, li_1000, li_1546, li_1592, li_6184, li_9552, li_10049, li_10348, li_100000, rb_mI, nI_add, nI_mul, nI_leI, nI_ltI, nI_eq, rb_rdn, rb_wrn, rb_n0, rb_m0, rb_m1n, rb_nm1, rb_m1lt, rb_m1le, rb_0m1, rb_ltm1, rb_lem1, Nat.add_zero, Nat.zero_le, Nat.not_lt_zero, Nat.one_ne_zero, Option.bind_some, Option.bind_none, Option.some.injEq, if_true, if_false, ite_true, ite_false, Sum.elim_inl, Sum.elim_inr]
    rw [if_pos (by omega)]
  · exact if_neg (by omega)
theorem rb_TC_in {c : rb_Row} {col t l k : Nat} (h1 : 1 ≤ l) (hk : k < l) : rb_TC c col t l (col + t * 4 + k) = if k < l - 1 then c (col + t * 4 + (k + 1)) else c (col + t * 4) := by
  unfold rb_TC rb_tc
  by_cases q : k < l - 1
  · rw [rb_upn (by omega), if_pos (by omega), if_pos q]; rfl
  · rw [if_neg q, rb_upe (by omega)]
theorem rb_TC_out {c : rb_Row} {col t l k : Nat} (h1 : 1 ≤ l) (hk : k < col + t * 4 ∨ col + t * 4 + l ≤ k) : rb_TC c col t l k = c k := by
  unfold rb_TC rb_tc
  rw [rb_upn (by omega), if_neg (by omega)]
theorem yn_shift {a : rb_Row} {t : Nat} (ht : t < 6) : rb_lp (bdS1 (nI (560 + 39 * t + 10))) 100000 (nI 0, a) = some (rb_tc a (560 + 39 * t + 10) 9 3) := by
  refine rb_lps0 (fun j => (nI j, rb_tc a (560 + 39 * t + 10) j 3)) 9 _ ?_ ?_ ?_ (by omega)
  · show (nI 0, rb_tc a (560 + 39 * t + 10) 0 3) = _
    congr 1
    funext k
    unfold rb_tc
    rw [if_neg (by omega)]
  · intro j hj
    have e1 : rb_tc a (560 + 39 * t + 10) j 3 (560 + 39 * t + 10 + j + 3) = a (560 + 39 * t + 10 + j + 3) := by
      unfold rb_tc; rw [if_neg (by omega)]
    have e2 : upd (rb_tc a (560 + 39 * t + 10) j 3) (560 + 39 * t + 10 + j) (a (560 + 39 * t + 10 + j + 3)) = rb_tc a (560 + 39 * t + 10) (j + 1) 3 := by
      funext k
      unfold rb_tc
      by_cases q : k = 560 + 39 * t + 10 + j
      · subst q; rw [rb_upe rfl, if_pos (by omega)]
      · rw [rb_upn q]
        by_cases q2 : 560 + 39 * t + 10 ≤ k ∧ k < 560 + 39 * t + 10 + j
        · rw [if_pos q2, if_pos (by omega)]
        · rw [if_neg q2, if_neg (by omega)]
    unfold bdS1
    simp (disch := omega) only [↓reduceIte, Nat.reduceEqDiff, Nat.reduceLeDiff, eq_self, not_true_eq_false, not_false_eq_true, li_0, li_1, li_2, li_3, li_4, li_5, li_6, li_7, li_8, li_9, li_10, li_11, li_12, li_13, li_14, li_15, li_16, li_17, li_18, li_19, li_20, li_21, li_22, li_23, li_24, li_25, li_26, li_27, li_28, li_29, li_30, li_31, li_32, li_33, li_34, li_35, li_36, li_37, li_38, li_39, li_40, li_41, li_42, li_47, li_50, li_60, li_63, li_75, li_100, li_103, li_131, li_159, li_184, li_187, li_215, li_243, li_256, li_271, li_296, li_299, li_323, li_347, li_371, li_395, li_419, li_443, li_467, li_491, li_515, li_539, li_545, li_551, li_557, li_560, li_563, li_569, li_575, li_581, li_587, li_593, li_599, li_605, li_629, li_653, li_677, li_725, li_773, li_794, li_795, li_796, li_1000, li_1546, li_1592, li_6184, li_9552, li_10049, li_10348, li_100000, rb_mI, nI_add, nI_mul, nI_leI, nI_ltI, nI_eq, rb_rdn, rb_wrn, rb_n0, rb_m0, rb_m1n, rb_nm1, rb_m1lt, rb_m1le, rb_0m1, rb_ltm1, rb_lem1, Nat.add_zero, Nat.zero_le, Nat.not_lt_zero, Nat.one_ne_zero, Option.bind_some, Option.bind_none, Option.some.injEq, if_true, if_false, ite_true, ite_false, Sum.elim_inl, Sum.elim_inr, e1, e2]
    rw [if_neg (by omega)]
  · unfold bdS1
    simp (disch := omega) only [↓reduceIte, Nat.reduceEqDiff, Nat.reduceLeDiff, eq_self, not_true_eq_false, not_false_eq_true, li_0, li_1, li_2, li_3, li_4, li_5, li_6, li_7, li_8, li_9, li_10, li_11, li_12, li_13, li_14, li_15, li_16, li_17, li_18, li_19, li_20, li_21, li_22, li_23, li_24, li_25, li_26, li_27, li_28, li_29, li_30, li_31, li_32, li_33, li_34, li_35, li_36, li_37, li_38, li_39, li_40, li_41, li_42, li_47, li_50, li_60, li_63, li_75, li_100, li_103, li_131, li_159, li_184, li_187, li_215, li_243, li_256, li_271, li_296, li_299, li_323, li_347, li_371, li_395, li_419, li_443, li_467, li_491, li_515, li_539, li_545, li_551, li_557, li_560, li_563, li_569, li_575, li_581, li_587, li_593, li_599, li_605, li_629, li_653, li_677, li_725, li_773, li_794, li_795, li_796, li_1000, li_1546, li_1592, li_6184, li_9552, li_10049, li_10348, li_100000, rb_mI, nI_add, nI_mul, nI_leI, nI_ltI, nI_eq, rb_rdn, rb_wrn, rb_n0, rb_m0, rb_m1n, rb_nm1, rb_m1lt, rb_m1le, rb_0m1, rb_ltm1, rb_lem1, Nat.add_zero, Nat.zero_le, Nat.not_lt_zero, Nat.one_ne_zero, Option.bind_some, Option.bind_none, Option.some.injEq, if_true, if_false, ite_true, ite_false, Sum.elim_inl, Sum.elim_inr]
theorem yn_putStep {a : rb_Row} {t l : Nat} (ht : t < 6) (h1 : 1 ≤ l) (h4 : l ≤ 4) (e : a (560 + 39 * t + 9) = nI (l - 1)) (v w u : Int32) : XX7_putStep a (nI t) v w u = some (upd (upd (upd (upd a (560 + 39 * t + (10 + 3 * (l - 1))) v) (560 + 39 * t + (10 + 3 * (l - 1)) + 1) w) (560 + 39 * t + (10 + 3 * (l - 1)) + 2) u) (560 + 39 * t + 9) (nI l)) := by
  unfold XX7_putStep
  have q3 : nI (l - 1) + 1 = nI l := by rw [show (1 : Int32) = nI 1 from rfl, nI_add]; congr 1; omega
  have o9 : XX7_ofTask a (nI t) 9 = some (nI (l - 1)) := by simp (disch := omega) only [↓reduceIte, Nat.reduceEqDiff, Nat.reduceLeDiff, eq_self, not_true_eq_false, not_false_eq_true, li_0, li_1, li_2, li_3, li_4, li_5, li_6, li_7, li_8, li_9, li_10, li_11, li_12, li_13, li_14, li_15, li_16, li_17, li_18, li_19, li_20, li_21, li_22, li_23, li_24, li_25, li_26, li_27, li_28, li_29, li_30, li_31, li_32, li_33, li_34, li_35, li_36, li_37, li_38, li_39, li_40, li_41, li_42, li_47, li_50, li_60, li_63, li_75, li_100, li_103, li_131, li_159, li_184, li_187, li_215, li_243, li_256, li_271, li_296, li_299, li_323, li_347, li_371, li_395, li_419, li_443, li_467, li_491, li_515, li_539, li_545, li_551, li_557, li_560, li_563, li_569, li_575, li_581, li_587, li_593, li_599, li_605, li_629, li_653, li_677, li_725, li_773, li_794, li_795, li_796, li_1000, li_1546, li_1592, li_6184, li_9552, li_10049, li_10348, li_100000, rb_mI, nI_add, nI_mul, nI_leI, nI_ltI, nI_eq, rb_rdn, rb_wrn, rb_n0, rb_m0, rb_m1n, rb_nm1, rb_m1lt, rb_m1le, rb_0m1, rb_ltm1, rb_lem1, Nat.add_zero, Nat.zero_le, Nat.not_lt_zero, Nat.one_ne_zero, Option.bind_some, Option.bind_none, Option.some.injEq, if_true, if_false, ite_true, ite_false, Sum.elim_inl, Sum.elim_inr, xn_ofObject, xn_ofPipe, xn_ofInterest, xn_ofTask, xn_kindOf, xn_bitsOf7, xn_isInterest, xn_isAsleep, xn_objectAt, xn_pipeAt, xn_interestAt, xn_taskAt, rb_nz0, rb_nz1, rb_n10, Nat.one_ne_zero, eq_self, e]
  have t9 : XX7_taskAt (nI t) 9 = some (nI (560 + 39 * t + 9)) := by simp (disch := omega) only [↓reduceIte, Nat.reduceEqDiff, Nat.reduceLeDiff, eq_self, not_true_eq_false, not_false_eq_true, li_0, li_1, li_2, li_3, li_4, li_5, li_6, li_7, li_8, li_9, li_10, li_11, li_12, li_13, li_14, li_15, li_16, li_17, li_18, li_19, li_20, li_21, li_22, li_23, li_24, li_25, li_26, li_27, li_28, li_29, li_30, li_31, li_32, li_33, li_34, li_35, li_36, li_37, li_38, li_39, li_40, li_41, li_42, li_47, li_50, li_60, li_63, li_75, li_100, li_103, li_131, li_159, li_184, li_187, li_215, li_243, li_256, li_271, li_296, li_299, li_323, li_347, li_371, li_395, li_419, li_443, li_467, li_491, li_515, li_539, li_545, li_551, li_557, li_560, li_563, li_569, li_575, li_581, li_587, li_593, li_599, li_605, li_629, li_653, li_677, li_725, li_773, li_794, li_795, li_796, li_1000, li_1546, li_1592, li_6184, li_9552, li_10049, li_10348, li_100000, rb_mI, nI_add, nI_mul, nI_leI, nI_ltI, nI_eq, rb_rdn, rb_wrn, rb_n0, rb_m0, rb_m1n, rb_nm1, rb_m1lt, rb_m1le, rb_0m1, rb_ltm1, rb_lem1, Nat.add_zero, Nat.zero_le, Nat.not_lt_zero, Nat.one_ne_zero, Option.bind_some, Option.bind_none, Option.some.injEq, if_true, if_false, ite_true, ite_false, Sum.elim_inl, Sum.elim_inr, xn_ofObject, xn_ofPipe, xn_ofInterest, xn_ofTask, xn_kindOf, xn_bitsOf7, xn_isInterest, xn_isAsleep, xn_objectAt, xn_pipeAt, xn_interestAt, xn_taskAt, rb_nz0, rb_nz1, rb_n10, Nat.one_ne_zero, eq_self]
  have t10 : XX7_taskAt (nI t) (10 + (3 * nI (l - 1))) = some (nI (560 + 39 * t + (10 + 3 * (l - 1)))) := by simp (disch := omega) only [↓reduceIte, Nat.reduceEqDiff, Nat.reduceLeDiff, eq_self, not_true_eq_false, not_false_eq_true, li_0, li_1, li_2, li_3, li_4, li_5, li_6, li_7, li_8, li_9, li_10, li_11, li_12, li_13, li_14, li_15, li_16, li_17, li_18, li_19, li_20, li_21, li_22, li_23, li_24, li_25, li_26, li_27, li_28, li_29, li_30, li_31, li_32, li_33, li_34, li_35, li_36, li_37, li_38, li_39, li_40, li_41, li_42, li_47, li_50, li_60, li_63, li_75, li_100, li_103, li_131, li_159, li_184, li_187, li_215, li_243, li_256, li_271, li_296, li_299, li_323, li_347, li_371, li_395, li_419, li_443, li_467, li_491, li_515, li_539, li_545, li_551, li_557, li_560, li_563, li_569, li_575, li_581, li_587, li_593, li_599, li_605, li_629, li_653, li_677, li_725, li_773, li_794, li_795, li_796, li_1000, li_1546, li_1592, li_6184, li_9552, li_10049, li_10348, li_100000, rb_mI, nI_add, nI_mul, nI_leI, nI_ltI, nI_eq, rb_rdn, rb_wrn, rb_n0, rb_m0, rb_m1n, rb_nm1, rb_m1lt, rb_m1le, rb_0m1, rb_ltm1, rb_lem1, Nat.add_zero, Nat.zero_le, Nat.not_lt_zero, Nat.one_ne_zero, Option.bind_some, Option.bind_none, Option.some.injEq, if_true, if_false, ite_true, ite_false, Sum.elim_inl, Sum.elim_inr, xn_ofObject, xn_ofPipe, xn_ofInterest, xn_ofTask, xn_kindOf, xn_bitsOf7, xn_isInterest, xn_isAsleep, xn_objectAt, xn_pipeAt, xn_interestAt, xn_taskAt, rb_nz0, rb_nz1, rb_n10, Nat.one_ne_zero, eq_self]
  have p1 : nI (560 + 39 * t + (10 + 3 * (l - 1))) + 1 = nI (560 + 39 * t + (10 + 3 * (l - 1)) + 1) := nI_add _ 1
  have p2 : nI (560 + 39 * t + (10 + 3 * (l - 1))) + 2 = nI (560 + 39 * t + (10 + 3 * (l - 1)) + 2) := nI_add _ 2
  refine rb_bnd _ o9 (rb_bnd _ t10 ?_)
  rw [p1, p2]
  generalize hK : 560 + 39 * t + (10 + 3 * (l - 1)) = K
  have hK' : 560 + 39 * t + 9 < K ∧ K + 2 < 796 := by omega
  refine rb_bnd _ (rb_wrn (by omega) (by omega)) (rb_bnd _ (rb_wrn (by omega) (by omega)) (rb_bnd _ (rb_wrn (by omega) (by omega)) (rb_bnd _ t9 (rb_bnd (nI (l - 1)) ?_ (rb_bnd (upd (upd (upd (upd a K v) (K + 1) w) (K + 2) u) (560 + 39 * t + 9) (nI l)) ?_ rfl)))))
  · rw [rb_rdn (by omega) (by omega), rb_upn (by omega), rb_upn (by omega), rb_upn (by omega), e]
  · rw [q3, rb_wrn (by omega) (by omega)]
theorem xn_turnP {c c1 c2 cc : rb_Row} {t l : Nat} (ht : t < 6) (h1 : 1 ≤ l) (h4 : l ≤ 4) (e1 : XX4_turnColumn c 605 (nI t) = some c1) (e2 : XX4_turnColumn c1 629 (nI t) = some c2) (e3 : XX4_turnColumn c2 653 (nI t) = some cc) (q599 : cc (599 + t) = nI l) : (cc (593 + t) = nI 0 → XX4_turnProgram c (nI t) = some (upd cc (599 + t) (nI (l - 1)))) ∧ (cc (593 + t) = nI 1 → XX4_turnProgram c (nI t) = some cc) := by
  unfold XX4_turnProgram
  have q1 : nI l - nI 1 = nI (l - 1) := rb_sub h1
  have q2 : ¬ l ≤ 0 := by omega
  refine ⟨fun hr => rb_bnd _ e1 (rb_bnd _ e2 (rb_bnd _ e3 ?_)), fun hr => rb_bnd _ e1 (rb_bnd _ e2 (rb_bnd _ e3 ?_))⟩
  · simp (disch := omega) only [↓reduceIte, Nat.reduceEqDiff, Nat.reduceLeDiff, eq_self, not_true_eq_false, not_false_eq_true, li_0, li_1, li_2, li_3, li_4, li_5, li_6, li_7, li_8, li_9, li_10, li_11, li_12, li_13, li_14, li_15, li_16, li_17, li_18, li_19, li_20, li_21, li_22, li_23, li_24, li_25, li_26, li_27, li_28, li_29, li_30, li_31, li_32, li_33, li_34, li_35, li_36, li_37, li_38, li_39, li_40, li_41, li_42, li_47, li_50, li_60, li_63, li_75, li_100, li_103, li_131, li_159, li_184, li_187, li_215, li_243, li_256, li_271, li_296, li_299, li_323, li_347, li_371, li_395, li_419, li_443, li_467, li_491, li_515, li_539, li_545, li_551, li_557, li_560, li_563, li_569, li_575, li_581, li_587, li_593, li_599, li_605, li_629, li_653, li_677, li_725, li_773, li_794, li_795, li_796, li_1000, li_1546, li_1592, li_6184, li_9552, li_10049, li_10348, li_100000, rb_mI, nI_add, nI_mul, nI_leI, nI_ltI, nI_eq, rb_rdn, rb_wrn, rb_n0, rb_m0, rb_m1n, rb_nm1, rb_m1lt, rb_m1le, rb_0m1, rb_ltm1, rb_lem1, Nat.add_zero, Nat.zero_le, Nat.not_lt_zero, Nat.one_ne_zero, Option.bind_some, Option.bind_none, Option.some.injEq, if_true, if_false, ite_true, ite_false, Sum.elim_inl, Sum.elim_inr, hr, q599, q2, q1]
  · simp (disch := omega) only [↓reduceIte, Nat.reduceEqDiff, Nat.reduceLeDiff, eq_self, not_true_eq_false, not_false_eq_true, li_0, li_1, li_2, li_3, li_4, li_5, li_6, li_7, li_8, li_9, li_10, li_11, li_12, li_13, li_14, li_15, li_16, li_17, li_18, li_19, li_20, li_21, li_22, li_23, li_24, li_25, li_26, li_27, li_28, li_29, li_30, li_31, li_32, li_33, li_34, li_35, li_36, li_37, li_38, li_39, li_40, li_41, li_42, li_47, li_50, li_60, li_63, li_75, li_100, li_103, li_131, li_159, li_184, li_187, li_215, li_243, li_256, li_271, li_296, li_299, li_323, li_347, li_371, li_395, li_419, li_443, li_467, li_491, li_515, li_539, li_545, li_551, li_557, li_560, li_563, li_569, li_575, li_581, li_587, li_593, li_599, li_605, li_629, li_653, li_677, li_725, li_773, li_794, li_795, li_796, li_1000, li_1546, li_1592, li_6184, li_9552, li_10049, li_10348, li_100000, rb_mI, nI_add, nI_mul, nI_leI, nI_ltI, nI_eq, rb_rdn, rb_wrn, rb_n0, rb_m0, rb_m1n, rb_nm1, rb_m1lt, rb_m1le, rb_0m1, rb_ltm1, rb_lem1, Nat.add_zero, Nat.zero_le, Nat.not_lt_zero, Nat.one_ne_zero, Option.bind_some, Option.bind_none, Option.some.injEq, if_true, if_false, ite_true, ite_false, Sum.elim_inl, Sum.elim_inr, hr, ke_10]
set_option maxHeartbeats 16000000 in
theorem rp_prog {z W q n : Nat} {π : Nat → Nat} {s s' : Nat} {c a : rb_Row} (h : rR z W q n π s s' c a) {t l : Nat} (ht : t < 6) (h1 : 1 ≤ l) (h4 : l ≤ 4) (hl : c (599 + t) = nI l) : ∃ c' a' o, o < 8 ∧ c (605 + t * 4) = nI o ∧ a (560 + 39 * t + 10) = nI o ∧ a (560 + 39 * t + 10 + 1) = c (629 + t * 4) ∧ a (560 + 39 * t + 10 + 2) = c (653 + t * 4) ∧ XX4_turnProgram c (nI t) = some c' ∧ (((if c (593 + t) = nI 1 then (XX7_putStep (upd (rb_tc a (560 + 39 * t + 10) 9 3) (560 + 39 * t + 9) (nI (l - 1))) (nI t) (nI o) (c (629 + t * 4)) (c (653 + t * 4))).bind fun t34 => some t34 else some (upd (rb_tc a (560 + 39 * t + 10) 9 3) (560 + 39 * t + 9) (nI (l - 1)))) : Option rb_Row) = some a') ∧ rR z W q n π s s' c' a' ∧ (∀ k, k < 599 → c' k = c k) ∧ (∀ u, u < 6 → u ≠ t → c' (599 + u) = c (599 + u)) ∧ (c (593 + t) = nI 0 → c' (599 + t) = nI (l - 1)) := by
  obtain ⟨⟨p1, p2, p3, p4, p5, p6, p7, p8⟩, hH, hI, hL, hT⟩ := id h
  obtain ⟨s1, s2, s3, o, ho, s4⟩ := hT.2.2.2.2.2 t 0 l ht (by omega) h4 hl
  simp only [Nat.mul_zero, Nat.add_zero] at s1 s2 s3 s4
  have hl9 : a (560 + 39 * t + 9) = nI l := by rw [(hT.1 t ht).2.2.2.2.2.2.2.2.1]; exact hl
  have c1 := xn_turnColumn (col := 605) ht h1 h4 hl (by omega) (by omega)
  have c2 := xn_turnColumn (c := rb_TC c 605 t l) (col := 629) ht h1 h4 (by rw [rb_TC_out h1 (by omega)]; exact hl) (by omega) (by omega)
  have c3 := xn_turnColumn (c := rb_TC (rb_TC c 605 t l) 629 t l) (col := 653) ht h1 h4 (by rw [rb_TC_out h1 (by omega), rb_TC_out h1 (by omega)]; exact hl) (by omega) (by omega)
  have hout : ∀ k, (k < 605 ∨ 677 ≤ k) → rb_TC (rb_TC (rb_TC c 605 t l) 629 t l) 653 t l k = c k := fun k hk => by
    rw [rb_TC_out h1 (by omega), rb_TC_out h1 (by omega), rb_TC_out h1 (by omega)]
  have hoth : ∀ u k, u < 6 → u ≠ t → k < 4 → rb_TC (rb_TC (rb_TC c 605 t l) 629 t l) 653 t l (605 + u * 4 + k) = c (605 + u * 4 + k) ∧ rb_TC (rb_TC (rb_TC c 605 t l) 629 t l) 653 t l (629 + u * 4 + k) = c (629 + u * 4 + k) ∧ rb_TC (rb_TC (rb_TC c 605 t l) 629 t l) 653 t l (653 + u * 4 + k) = c (653 + u * 4 + k) := fun u k hu hne hk => by
    rcases Nat.lt_or_gt_of_ne hne with q | q
    · exact ⟨by rw [rb_TC_out h1 (by omega), rb_TC_out h1 (by omega), rb_TC_out h1 (by omega)], by rw [rb_TC_out h1 (by omega), rb_TC_out h1 (by omega), rb_TC_out h1 (by omega)], by rw [rb_TC_out h1 (by omega), rb_TC_out h1 (by omega), rb_TC_out h1 (by omega)]⟩
    · exact ⟨by rw [rb_TC_out h1 (by omega), rb_TC_out h1 (by omega), rb_TC_out h1 (by omega)], by rw [rb_TC_out h1 (by omega), rb_TC_out h1 (by omega), rb_TC_out h1 (by omega)], by rw [rb_TC_out h1 (by omega), rb_TC_out h1 (by omega), rb_TC_out h1 (by omega)]⟩
  have hin : ∀ k, k < l → rb_TC (rb_TC (rb_TC c 605 t l) 629 t l) 653 t l (605 + t * 4 + k) = (if k < l - 1 then c (605 + t * 4 + (k + 1)) else c (605 + t * 4)) ∧ rb_TC (rb_TC (rb_TC c 605 t l) 629 t l) 653 t l (629 + t * 4 + k) = (if k < l - 1 then c (629 + t * 4 + (k + 1)) else c (629 + t * 4)) ∧ rb_TC (rb_TC (rb_TC c 605 t l) 629 t l) 653 t l (653 + t * 4 + k) = (if k < l - 1 then c (653 + t * 4 + (k + 1)) else c (653 + t * 4)) := fun k hk => by
    refine ⟨?_, ?_, ?_⟩
    · rw [rb_TC_out h1 (by omega), rb_TC_out h1 (by omega), rb_TC_in h1 hk]
    · rw [rb_TC_out h1 (by omega), rb_TC_in h1 hk, rb_TC_out h1 (by omega), rb_TC_out h1 (by omega)]
    · rw [rb_TC_in h1 hk, rb_TC_out h1 (by omega), rb_TC_out h1 (by omega), rb_TC_out h1 (by omega), rb_TC_out h1 (by omega)]
  have hst : ∀ k, k + 1 < l → rb_tc a (560 + 39 * t + 10) 9 3 (560 + 39 * t + (10 + 3 * k)) = c (605 + t * 4 + (k + 1)) ∧ rb_tc a (560 + 39 * t + 10) 9 3 (560 + 39 * t + (10 + 3 * k) + 1) = c (629 + t * 4 + (k + 1)) ∧ rb_tc a (560 + 39 * t + 10) 9 3 (560 + 39 * t + (10 + 3 * k) + 2) = c (653 + t * 4 + (k + 1)) ∧ ∃ o, o < 8 ∧ c (605 + t * 4 + (k + 1)) = nI o := fun k hk => by
    obtain ⟨g1, g2, g3, g4⟩ := hT.2.2.2.2.2 t (k + 1) l ht hk h4 hl
    unfold rb_tc
    rw [if_pos (by omega), if_pos (by omega), if_pos (by omega)]
    refine ⟨?_, ?_, ?_, g4⟩
    · rw [← g1]
      congr 1
    · rw [← g2]
      congr 1
    · rw [← g3]
      congr 1
  have htc : ∀ k, (k < 560 + 39 * t + 10 ∨ 560 + 39 * t + 19 ≤ k) → rb_tc a (560 + 39 * t + 10) 9 3 k = a k := fun k hk => by
    unfold rb_tc; rw [if_neg (by omega)]
  generalize rb_TC (rb_TC (rb_TC c 605 t l) 629 t l) 653 t l = cc at c3 hout hoth hin
  generalize rb_tc a (560 + 39 * t + 10) 9 3 = aa at hst htc
  have hround := (hT.2.1 t ht).1
  -- both ways
  have build : ∀ (lz : Nat) (c' a' : rb_Row), lz ≤ 4 → (∀ k, k ≠ 599 + t → c' k = cc k) → c' (599 + t) = nI lz → (∀ k, (k < 560 + 39 * t + 9 ∨ 560 + 39 * t + 22 ≤ k) → a' k = a k) → a' (560 + 39 * t + 9) = nI lz → (∀ k, k < lz → a' (560 + 39 * t + (10 + 3 * k)) = cc (605 + t * 4 + k) ∧ a' (560 + 39 * t + (10 + 3 * k) + 1) = cc (629 + t * 4 + k) ∧ a' (560 + 39 * t + (10 + 3 * k) + 2) = cc (653 + t * 4 + k) ∧ ∃ o, o < 8 ∧ cc (605 + t * 4 + k) = nI o) → rR z W q n π s s' c' a' := by
    intro lz c' a' hlz hc' hcl ha' hal hsteps
    have hcx : ∀ k, k ≠ 599 + t → (k < 605 ∨ 677 ≤ k) → c' k = c k := fun k q1 q2 => by rw [hc' k q1, hout k q2]
    have hax : ∀ u f, u < 6 → f < 39 → (u ≠ t ∨ f < 9 ∨ 22 ≤ f) → a' (560 + 39 * u + f) = a (560 + 39 * u + f) := fun u f hu hf hq => by
      refine ha' _ ?_
      rcases Nat.lt_trichotomy u t with q | q | q <;> omega
    have hax0 : ∀ u, u < 6 → a' (560 + 39 * u) = a (560 + 39 * u) := fun u hu => hax u 0 hu (by omega) (by omega)
    refine rR_gen h (Nat.le_refl _) (Nat.le_refl _) ⟨?_, ?_, ?_, ?_, p5, p6, ?_, p8⟩ (fun k q1 q2 => hcx k (by omega) (by omega)) (fun k q1 => ha' k (by omega)) ?_
    · rw [hcx 0 (by omega) (by omega), ha' 794 (by omega)]; exact p1
    · rw [hcx 0 (by omega) (by omega)]; exact p2
    · rw [hcx 1 (by omega) (by omega)]; exact p3
    · rw [ha' 795 (by omega)]; exact p4
    · rw [hcx 2 (by omega) (by omega)]; exact p7
    · obtain ⟨h1', h2', h3', h4', h5', h6'⟩ := hT
      refine ⟨?_, ?_, ?_, ?_, ?_, ?_⟩
      · intro u hu
        obtain ⟨g1, g2, g3, g4, g5, g6, g7, g8, g9, g10⟩ := h1' u hu
        rw [hax0 u hu, hax u 2 hu (by omega) (by omega), hax u 3 hu (by omega) (by omega), hax u 4 hu (by omega) (by omega), hax u 5 hu (by omega) (by omega), hax u 6 hu (by omega) (by omega), hax u 7 hu (by omega) (by omega), hax u 8 hu (by omega) (by omega), hax u 38 hu (by omega) (by omega), hcx (539 + u) (by omega) (by omega), hcx (551 + u) (by omega) (by omega), hcx (557 + u) (by omega) (by omega), hcx (563 + u) (by omega) (by omega), hcx (569 + u) (by omega) (by omega), hcx (575 + u) (by omega) (by omega), hcx (581 + u) (by omega) (by omega), hcx (587 + u) (by omega) (by omega), hcx (593 + u) (by omega) (by omega)]
        refine ⟨g1, g2, g3, g4, g5, g6, g7, g8, ?_, g10⟩
        by_cases q : u = t
        · subst q; rw [hal, hcl]
        · rw [hax u 9 hu (by omega) (by omega), hcx (599 + u) (by omega) (by omega)]; exact g9
      · intro u hu
        obtain ⟨g1, g2, g3, g4, g5⟩ := h2' u hu
        rw [hcx (563 + u) (by omega) (by omega), hcx (575 + u) (by omega) (by omega), hcx (581 + u) (by omega) (by omega), hcx (593 + u) (by omega) (by omega)]
        refine ⟨g1, ?_, g3, g4, g5⟩
        by_cases q : u = t
        · subst q; exact ⟨lz, hlz, hcl⟩
        · rw [hcx (599 + u) (by omega) (by omega)]; exact g2
      · intro u hu
        rw [hcx (539 + u) (by omega) (by omega), hcx (563 + u) (by omega) (by omega), hcx (551 + u) (by omega) (by omega), hcx (545 + u) (by omega) (by omega), hcx (575 + u) (by omega) (by omega), hax u 1 hu (by omega) (by omega)]
        rcases h3' u hu with g | ⟨⟨y, g1, g2, g3⟩, g4⟩
        · exact Or.inl g
        · exact Or.inr ⟨⟨y, g1, g2, by rw [hcx _ (by omega) (by omega)]; exact g3⟩, g4⟩
      · intro u v hu hv
        rw [hcx (539 + u) (by omega) (by omega), hcx (539 + v) (by omega) (by omega), hcx (545 + u) (by omega) (by omega), hcx (545 + v) (by omega) (by omega), hax u 1 hu (by omega) (by omega), hax v 1 hv (by omega) (by omega)]
        exact h4' u v hu hv
      · intro u k hu hk
        rw [hax u (22 + 2 * k) hu (by omega) (by omega), hax u (22 + 2 * k + 1) hu (by omega) (by omega), hcx _ (by omega) (by omega), hcx _ (by omega) (by omega)]
        exact h5' u k hu hk
      · intro u k l' hu hk hl' hc599
        by_cases q : u = t
        · subst q
          rw [hcl] at hc599
          have := (nI_eq (by omega) (by omega)).mp hc599
          subst this
          rw [hc' _ (by omega), hc' _ (by omega), hc' _ (by omega)]
          exact hsteps k hk
        · rw [hcx (599 + u) (by omega) (by omega)] at hc599
          obtain ⟨g1, g2, g3⟩ := hoth u k hu q (by omega)
          have a1 := hax u (10 + 3 * k) hu (by omega) (Or.inl q)
          have a2 := hax u (10 + 3 * k + 1) hu (by omega) (Or.inl q)
          have a3 := hax u (10 + 3 * k + 2) hu (by omega) (Or.inl q)
          rw [hc' _ (by omega), hc' _ (by omega), hc' _ (by omega), g1, g2, g3, a1]
          obtain ⟨e1, e2, e3, e4⟩ := h6' u k l' hu hk hl' hc599
          exact ⟨e1, a2.trans e2, a3.trans e3, e4⟩
  have q593 : cc (593 + t) = c (593 + t) := hout _ (by omega)
  have q599 : cc (599 + t) = nI l := by rw [hout _ (by omega)]; exact hl
  have q1 : nI l - nI 1 = nI (l - 1) := rb_sub h1
  obtain ⟨hp0, hp1⟩ := xn_turnP ht h1 h4 c1 c2 c3 q599
  rw [q593] at hp0 hp1
  rcases hround with hr | hr
  · refine ⟨upd cc (599 + t) (nI (l - 1)), upd aa (560 + 39 * t + 9) (nI (l - 1)), o, ho, s4, s1.trans s4, s2, s3, hp0 hr, ?_, build (l - 1) _ _ (by omega) (fun k hk => rb_upn hk) (rb_upe rfl) (fun k hk => ?_) (rb_upe rfl) (fun k hk => ?_), fun k hk => ?_, fun u hu hne => by rw [rb_upn (by omega), hout _ (by omega)], fun _ => rb_upe rfl⟩
    · rw [hr, if_neg (show ¬ nI 0 = nI 1 by decide)]
    · rw [rb_upn (by omega), htc k (by omega)]
    · obtain ⟨g1, g2, g3, g4⟩ := hst k (by omega)
      obtain ⟨i1, i2, i3⟩ := hin k (by omega)
      rw [if_pos (by omega)] at i1 i2 i3
      rw [rb_upn (by omega), rb_upn (by omega), rb_upn (by omega), i1, i2, i3]
      exact ⟨g1, g2, g3, g4⟩
    · rw [rb_upn (by omega), hout k (by omega)]
  · refine ⟨cc, upd (upd (upd (upd (upd aa (560 + 39 * t + 9) (nI (l - 1))) (560 + 39 * t + (10 + 3 * (l - 1))) (nI o)) (560 + 39 * t + (10 + 3 * (l - 1)) + 1) (c (629 + t * 4))) (560 + 39 * t + (10 + 3 * (l - 1)) + 2) (c (653 + t * 4))) (560 + 39 * t + 9) (nI l), o, ho, s4, s1.trans s4, s2, s3, hp1 hr, ?_, build l _ _ h4 (fun k hk => rfl) q599 (fun k hk => ?_) (rb_upe rfl) (fun k hk => ?_), fun k hk => hout k (by omega), fun u hu hne => hout _ (by omega), fun q => ?_⟩
    · rw [hr, if_pos rfl]
      exact rb_bnd _ (yn_putStep ht h1 h4 (rb_upe rfl) _ _ _) rfl
    · rw [rb_upn (by omega), rb_upn (by omega), rb_upn (by omega), rb_upn (by omega), rb_upn (by omega), htc k (by omega)]
    · obtain ⟨i1, i2, i3⟩ := hin k (by omega)
      by_cases q : k < l - 1
      · obtain ⟨g1, g2, g3, g4⟩ := hst k (by omega)
        rw [if_pos q] at i1 i2 i3
        rw [i1, i2, i3]
        simp (disch := omega) only [rb_upn]
        exact ⟨g1, g2, g3, g4⟩
      · have : k = l - 1 := by omega
        subst this
        rw [if_neg q] at i1 i2 i3
        rw [i1, i2, i3]
        simp (disch := omega) only [rb_upn, rb_upe]
        exact ⟨s4.symm, trivial, trivial, o, ho, s4⟩
    · rw [hr] at q; exact absurd q (by decide)
