set_option maxHeartbeats 8000000 in
/-- got -/
theorem ra_got {B q : Nat} {c a : rb_Row} (h : rb_RB B q c a) (v w f : Int32) : ∃ d, XX6_got c v w f = some d ∧ XX7_got a v w f = some d := by
  obtain ⟨n, π, s, s', hR, hs⟩ := h
  have hT := hR.2.2.2.2
  unfold XX6_got XX7_got
  have n10 : ¬ nI 1 = 0 := by decide
  rcases rp_task v with ⟨t, ht, e, t1, t2⟩ | ⟨t1, t2⟩
  · subst e
    obtain ⟨qn, hq, eq⟩ := (hT.2.1 t ht).2.2.1
    have r563 : rb_rd c 773 (563 + nI t) = some (nI qn) := (congrArg (rb_rd c 773) (nI_add 563 t)).trans ((rb_rdn (by omega) (by omega)).trans (congrArg some eq))
    have o4 : XX7_ofTask a (nI t) 4 = some (nI qn) := (xn_ofTask a (f := 4) ht (by omega)).trans (congrArg some ((hT.1 t ht).2.2.2.1.trans eq))
    have key : (∃ k, k < qn ∧ w = nI k ∧ XX7_isIn w 0 (nI qn - 1) = some (nI 1)) ∨ ((w < 0 ∨ ¬ w < nI qn) ∧ XX7_isIn w 0 (nI qn - 1) = some (nI 0)) := by
      by_cases h0 : w < (0 : Int32)
      · refine Or.inr ⟨Or.inl h0, ?_⟩
        unfold XX7_isIn
        exact if_pos h0
      · by_cases h1 : nI qn ≤ w
        · refine Or.inr ⟨Or.inr (fun h2 => by rw [Int32.le_iff_toInt_le] at h1; rw [Int32.lt_iff_toInt_lt] at h2; omega), ?_⟩
          unfold XX7_isIn
          refine (if_neg h0).trans ?_
          by_cases hz : qn = 0
          · subst hz
            have h0' := h0
            rw [Int32.lt_iff_toInt_lt] at h0'
            have e1 : (nI 0 - 1).toInt = -1 := by decide
            have e2 : (0 : Int32).toInt = 0 := by decide
            first
            | exact if_pos (by rw [Int32.lt_iff_toInt_lt]; omega)
            | exact if_neg (by rw [Int32.le_iff_toInt_le]; omega)
          · have e0 : nI qn - 1 = nI (qn - 1) := rb_sub (show 1 ≤ qn by omega)
            rw [e0]
            have h2 : nI (qn - 1) < nI qn := (nI_ltI (by omega) (by omega)).mpr (by omega)
            rw [Int32.lt_iff_toInt_lt] at h2
            rw [Int32.le_iff_toInt_le] at h1
            first
            | exact if_pos (by rw [Int32.lt_iff_toInt_lt]; omega)
            | exact if_neg (by rw [Int32.le_iff_toInt_le]; omega)
        · obtain ⟨k, hk, e⟩ := rb_num h0 h1 (by omega)
          subst e
          have e0 : nI qn - 1 = nI (qn - 1) := rb_sub (show 1 ≤ qn by omega)
          refine Or.inl ⟨k, hk, rfl, ?_⟩
          rw [e0]
          rcases rp_between (nI k) (l := 0) (m := qn - 1) (by omega) (by omega) with ⟨_, _, _, _, _, b⟩ | ⟨b1, b2⟩
          · exact b
          · unfold XX7_isIn
            have h3 : nI k ≤ nI (qn - 1) := (nI_leI (by omega) (by omega)).mpr (by omega)
            refine (if_neg h0).trans ?_
            first
            | exact if_pos h3
            | exact if_neg (by rw [Int32.lt_iff_toInt_lt]; rw [Int32.le_iff_toInt_le] at h3; omega)
    rcases key with ⟨k, hk, e, k1⟩ | ⟨k0, k1⟩
    · subst e
      have p0 : ¬ nI k < (0 : Int32) := by rw [show (0 : Int32) = nI 0 from rfl, nI_ltI (by omega) (by omega)]; omega
      have p1 : nI k < nI qn := (nI_ltI (by omega) (by omega)).mpr hk
      obtain ⟨c1, c2⟩ := hT.2.2.2.2.1 t k ht (by omega)
      rcases rp_between f (l := 0) (m := 1) (by omega) (by omega) with ⟨j, _, hj, e, _, b⟩ | ⟨b1, b2⟩
      · subst e
        match j, hj with
        | 0, _ =>
          refine ⟨c (677 + t * 8 + k), rb_bnd _ t1 ((if_neg n10).trans ((if_neg p0).trans (rb_bnd _ r563 ((if_pos p1).trans ((if_pos rfl).trans (rb_bnd (c (677 + t * 8 + k)) ?_ rfl)))))), rb_bnd _ t2 ((if_neg n10).trans (rb_bnd _ o4 (rb_bnd _ k1 ((if_neg n10).trans (rb_bnd _ b ((if_neg n10).trans (rb_bnd (c (677 + t * 8 + k)) ?_ rfl)))))))⟩
          · simp (disch := omega) only [↓reduceIte, Nat.reduceEqDiff, Nat.reduceLeDiff, eq_self, not_true_eq_false, not_false_eq_true, li_0, li_1, li_2, li_3, li_4, li_5, li_6, li_7, li_8, li_9, li_10, li_11, li_12, li_13, li_14, li_15, li_16, li_17, li_18, li_19, li_20, li_21, li_22, li_23, li_24, li_25, li_26, li_27, li_28, li_29, li_30, li_31, li_32, li_33, li_34, li_35, li_36, li_37, li_38, li_39, li_40, li_41, li_42, li_47, li_50, li_60, li_63, li_75, li_100, li_103, li_131, li_159, li_184, li_187, li_215, li_243, li_256, li_271, li_296, li_299, li_323, li_347, li_371, li_395, li_419, li_443, li_467, li_491, li_515, li_539, li_545, li_551, li_557, li_560, li_563, li_569, li_575, li_581, li_587, li_593, li_599, li_605, li_629, li_653, li_677, li_725, li_773, li_794, li_795, li_796, li_1000, li_1546, li_1592, li_6184, li_9552, li_10049, li_10348, li_100000, rb_mI, nI_add, nI_mul, nI_leI, nI_ltI, nI_eq, rb_rdn, rb_wrn, rb_n0, rb_m0, rb_m1n, rb_nm1, rb_m1lt, rb_m1le, rb_0m1, rb_ltm1, rb_lem1, Nat.add_zero, Nat.zero_le, Nat.not_lt_zero, Nat.one_ne_zero, Option.bind_some, Option.bind_none, Option.some.injEq, if_true, if_false, ite_true, ite_false, Sum.elim_inl, Sum.elim_inr]
          · rw [← c1]
            simp (disch := omega) only [↓reduceIte, Nat.reduceEqDiff, Nat.reduceLeDiff, eq_self, not_true_eq_false, not_false_eq_true, li_0, li_1, li_2, li_3, li_4, li_5, li_6, li_7, li_8, li_9, li_10, li_11, li_12, li_13, li_14, li_15, li_16, li_17, li_18, li_19, li_20, li_21, li_22, li_23, li_24, li_25, li_26, li_27, li_28, li_29, li_30, li_31, li_32, li_33, li_34, li_35, li_36, li_37, li_38, li_39, li_40, li_41, li_42, li_47, li_50, li_60, li_63, li_75, li_100, li_103, li_131, li_159, li_184, li_187, li_215, li_243, li_256, li_271, li_296, li_299, li_323, li_347, li_371, li_395, li_419, li_443, li_467, li_491, li_515, li_539, li_545, li_551, li_557, li_560, li_563, li_569, li_575, li_581, li_587, li_593, li_599, li_605, li_629, li_653, li_677, li_725, li_773, li_794, li_795, li_796, li_1000, li_1546, li_1592, li_6184, li_9552, li_10049, li_10348, li_100000, rb_mI, nI_add, nI_mul, nI_leI, nI_ltI, nI_eq, rb_rdn, rb_wrn, rb_n0, rb_m0, rb_m1n, rb_nm1, rb_m1lt, rb_m1le, rb_0m1, rb_ltm1, rb_lem1, Nat.add_zero, Nat.zero_le, Nat.not_lt_zero, Nat.one_ne_zero, Option.bind_some, Option.bind_none, Option.some.injEq, if_true, if_false, ite_true, ite_false, Sum.elim_inl, Sum.elim_inr, xn_ofObject, xn_ofPipe, xn_ofInterest, xn_ofTask, xn_kindOf, xn_bitsOf7, xn_isInterest, xn_isAsleep, xn_objectAt, xn_pipeAt, xn_interestAt, xn_taskAt, rb_nz0, rb_nz1, rb_n10, Nat.one_ne_zero, eq_self]
        | 1, _ =>
          refine ⟨c (725 + t * 8 + k), rb_bnd _ t1 ((if_neg n10).trans ((if_neg p0).trans (rb_bnd _ r563 ((if_pos p1).trans ((if_neg n10).trans ((if_pos rfl).trans (rb_bnd (c (725 + t * 8 + k)) ?_ rfl))))))), rb_bnd _ t2 ((if_neg n10).trans (rb_bnd _ o4 (rb_bnd _ k1 ((if_neg n10).trans (rb_bnd _ b ((if_neg n10).trans (rb_bnd (c (725 + t * 8 + k)) ?_ rfl)))))))⟩
          · simp (disch := omega) only [↓reduceIte, Nat.reduceEqDiff, Nat.reduceLeDiff, eq_self, not_true_eq_false, not_false_eq_true, li_0, li_1, li_2, li_3, li_4, li_5, li_6, li_7, li_8, li_9, li_10, li_11, li_12, li_13, li_14, li_15, li_16, li_17, li_18, li_19, li_20, li_21, li_22, li_23, li_24, li_25, li_26, li_27, li_28, li_29, li_30, li_31, li_32, li_33, li_34, li_35, li_36, li_37, li_38, li_39, li_40, li_41, li_42, li_47, li_50, li_60, li_63, li_75, li_100, li_103, li_131, li_159, li_184, li_187, li_215, li_243, li_256, li_271, li_296, li_299, li_323, li_347, li_371, li_395, li_419, li_443, li_467, li_491, li_515, li_539, li_545, li_551, li_557, li_560, li_563, li_569, li_575, li_581, li_587, li_593, li_599, li_605, li_629, li_653, li_677, li_725, li_773, li_794, li_795, li_796, li_1000, li_1546, li_1592, li_6184, li_9552, li_10049, li_10348, li_100000, rb_mI, nI_add, nI_mul, nI_leI, nI_ltI, nI_eq, rb_rdn, rb_wrn, rb_n0, rb_m0, rb_m1n, rb_nm1, rb_m1lt, rb_m1le, rb_0m1, rb_ltm1, rb_lem1, Nat.add_zero, Nat.zero_le, Nat.not_lt_zero, Nat.one_ne_zero, Option.bind_some, Option.bind_none, Option.some.injEq, if_true, if_false, ite_true, ite_false, Sum.elim_inl, Sum.elim_inr]
          · rw [← c2]
            simp (disch := omega) only [↓reduceIte, Nat.reduceEqDiff, Nat.reduceLeDiff, eq_self, not_true_eq_false, not_false_eq_true, li_0, li_1, li_2, li_3, li_4, li_5, li_6, li_7, li_8, li_9, li_10, li_11, li_12, li_13, li_14, li_15, li_16, li_17, li_18, li_19, li_20, li_21, li_22, li_23, li_24, li_25, li_26, li_27, li_28, li_29, li_30, li_31, li_32, li_33, li_34, li_35, li_36, li_37, li_38, li_39, li_40, li_41, li_42, li_47, li_50, li_60, li_63, li_75, li_100, li_103, li_131, li_159, li_184, li_187, li_215, li_243, li_256, li_271, li_296, li_299, li_323, li_347, li_371, li_395, li_419, li_443, li_467, li_491, li_515, li_539, li_545, li_551, li_557, li_560, li_563, li_569, li_575, li_581, li_587, li_593, li_599, li_605, li_629, li_653, li_677, li_725, li_773, li_794, li_795, li_796, li_1000, li_1546, li_1592, li_6184, li_9552, li_10049, li_10348, li_100000, rb_mI, nI_add, nI_mul, nI_leI, nI_ltI, nI_eq, rb_rdn, rb_wrn, rb_n0, rb_m0, rb_m1n, rb_nm1, rb_m1lt, rb_m1le, rb_0m1, rb_ltm1, rb_lem1, Nat.add_zero, Nat.zero_le, Nat.not_lt_zero, Nat.one_ne_zero, Option.bind_some, Option.bind_none, Option.some.injEq, if_true, if_false, ite_true, ite_false, Sum.elim_inl, Sum.elim_inr, xn_ofObject, xn_ofPipe, xn_ofInterest, xn_ofTask, xn_kindOf, xn_bitsOf7, xn_isInterest, xn_isAsleep, xn_objectAt, xn_pipeAt, xn_interestAt, xn_taskAt, rb_nz0, rb_nz1, rb_n10, Nat.one_ne_zero, eq_self]
      · have f0 : ¬ f = 0 := fun e => by subst e; exact absurd b2 (by decide)
        have f1 : ¬ f = 1 := fun e => by subst e; exact absurd b2 (by decide)
        exact ⟨-1, rb_bnd _ t1 ((if_neg n10).trans ((if_neg p0).trans (rb_bnd _ r563 ((if_pos p1).trans ((if_neg f0).trans (if_neg f1)))))), rb_bnd _ t2 ((if_neg n10).trans (rb_bnd _ o4 (rb_bnd _ k1 ((if_neg n10).trans (rb_bnd _ b2 (if_pos rfl))))))⟩
    · refine ⟨-1, rb_bnd _ t1 ((if_neg n10).trans ?_), rb_bnd _ t2 ((if_neg n10).trans (rb_bnd _ o4 (rb_bnd _ k1 (if_pos rfl))))⟩
      by_cases h0 : w < (0 : Int32)
      · exact if_pos h0
      · rcases k0 with k0 | k0
        · exact absurd k0 h0
        · exact (if_neg h0).trans (rb_bnd _ r563 (if_neg k0))
  · exact ⟨-1, rb_bnd _ t1 (if_pos rfl), rb_bnd _ t2 (if_pos rfl)⟩
