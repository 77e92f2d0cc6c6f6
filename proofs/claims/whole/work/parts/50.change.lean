theorem rb_fd_uni {p : Nat → Bool} {n i : Nat} (hi : i < n) (hp : p i = true) (h : ∀ j, j < n → p j = true → j = i) : rb_fd p n = some i := by
  refine rb_fd_eq hi hp (fun j hj => ?_)
  cases e : p j with
  | false => rfl
  | true => have := h j (by omega) e; omega
set_option maxHeartbeats 8000000 in
theorem rp_found {W q n : Nat} {π : Nat → Nat} {s s' : Nat} {c a : rb_Row} (h : rR 28 W q n π s s' c a) (v0 v1 : Int32) : ∃ o : Option Nat, XX0_findInterest c v0 v1 = some (rb_oi o) ∧ XX7_found a v0 v1 = some (rb_oi (o.map π)) ∧ (∀ i, o = some i → i < n) := by
  have hH := h.2.1
  have hI := h.2.2.1
  have hn : n ≤ 24 := h.1.2.2.2.2.2.2.2
  have hc2 : c 2 = nI n := h.1.2.2.2.2.2.2.1
  unfold XX0_findInterest XX7_found
  rcases rp_thing hH v1 with ⟨p1, p2⟩ | ⟨k, y, hk, hy, ev, ec, ea, hl, hw, hz, p1, p2⟩
  · refine ⟨none, ?_, ?_, fun i e => by cases e⟩
    · rcases rp_thing hH v0 with ⟨r1, r2⟩ | ⟨k0, x, hk0, hx, ev0, ec0, ea0, hl0, hw0, hz0, r1, r2⟩
      · simp (disch := omega) only [↓reduceIte, Nat.reduceEqDiff, Nat.reduceLeDiff, eq_self, not_true_eq_false, not_false_eq_true, li_0, li_1, li_2, li_3, li_4, li_5, li_6, li_7, li_8, li_9, li_10, li_11, li_12, li_13, li_14, li_15, li_16, li_17, li_18, li_19, li_20, li_21, li_22, li_23, li_24, li_25, li_26, li_27, li_28, li_29, li_30, li_31, li_32, li_33, li_34, li_35, li_36, li_37, li_38, li_39, li_40, li_41, li_42, li_47, li_50, li_60, li_63, li_75, li_100, li_103, li_131, li_159, li_184, li_187, li_215, li_243, li_256, li_271, li_296, li_299, li_323, li_347, li_371, li_395, li_419, li_443, li_467, li_491, li_515, li_539, li_545, li_551, li_557, li_560, li_563, li_569, li_575, li_581, li_587, li_593, li_599, li_605, li_629, li_653, li_677, li_725, li_773, li_794, li_795, li_796, li_1000, li_1546, li_1592, li_6184, li_9552, li_10049, li_10348, li_100000, rb_mI, nI_add, nI_mul, nI_leI, nI_ltI, nI_eq, rb_rdn, rb_wrn, rb_n0, rb_m0, rb_m1n, rb_nm1, rb_m1lt, rb_m1le, rb_0m1, rb_ltm1, rb_lem1, Nat.add_zero, Nat.zero_le, Nat.not_lt_zero, Nat.one_ne_zero, Option.bind_some, Option.bind_none, Option.some.injEq, if_true, if_false, ite_true, ite_false, Sum.elim_inl, Sum.elim_inr, xn_ofObject, xn_ofPipe, xn_ofInterest, xn_ofTask, xn_kindOf, xn_bitsOf7, xn_isInterest, xn_isAsleep, xn_objectAt, xn_pipeAt, xn_interestAt, xn_taskAt, rb_nz0, rb_nz1, rb_n10, Nat.one_ne_zero, eq_self, xn_kindOf5n _ r1, p1]
        rfl
      · have k5 := xn_kindOf5 (nI 4) hx r1
        by_cases h4 : c (19 + x) = nI 4
        · simp only [h4, if_true] at k5
          simp (disch := omega) only [↓reduceIte, Nat.reduceEqDiff, Nat.reduceLeDiff, eq_self, not_true_eq_false, not_false_eq_true, li_0, li_1, li_2, li_3, li_4, li_5, li_6, li_7, li_8, li_9, li_10, li_11, li_12, li_13, li_14, li_15, li_16, li_17, li_18, li_19, li_20, li_21, li_22, li_23, li_24, li_25, li_26, li_27, li_28, li_29, li_30, li_31, li_32, li_33, li_34, li_35, li_36, li_37, li_38, li_39, li_40, li_41, li_42, li_47, li_50, li_60, li_63, li_75, li_100, li_103, li_131, li_159, li_184, li_187, li_215, li_243, li_256, li_271, li_296, li_299, li_323, li_347, li_371, li_395, li_419, li_443, li_467, li_491, li_515, li_539, li_545, li_551, li_557, li_560, li_563, li_569, li_575, li_581, li_587, li_593, li_599, li_605, li_629, li_653, li_677, li_725, li_773, li_794, li_795, li_796, li_1000, li_1546, li_1592, li_6184, li_9552, li_10049, li_10348, li_100000, rb_mI, nI_add, nI_mul, nI_leI, nI_ltI, nI_eq, rb_rdn, rb_wrn, rb_n0, rb_m0, rb_m1n, rb_nm1, rb_m1lt, rb_m1le, rb_0m1, rb_ltm1, rb_lem1, Nat.add_zero, Nat.zero_le, Nat.not_lt_zero, Nat.one_ne_zero, Option.bind_some, Option.bind_none, Option.some.injEq, if_true, if_false, ite_true, ite_false, Sum.elim_inl, Sum.elim_inr, xn_ofObject, xn_ofPipe, xn_ofInterest, xn_ofTask, xn_kindOf, xn_bitsOf7, xn_isInterest, xn_isAsleep, xn_objectAt, xn_pipeAt, xn_interestAt, xn_taskAt, rb_nz0, rb_nz1, rb_n10, Nat.one_ne_zero, eq_self, k5, p1]
          rfl
        · simp only [h4, if_false] at k5
          simp (disch := omega) only [↓reduceIte, Nat.reduceEqDiff, Nat.reduceLeDiff, eq_self, not_true_eq_false, not_false_eq_true, li_0, li_1, li_2, li_3, li_4, li_5, li_6, li_7, li_8, li_9, li_10, li_11, li_12, li_13, li_14, li_15, li_16, li_17, li_18, li_19, li_20, li_21, li_22, li_23, li_24, li_25, li_26, li_27, li_28, li_29, li_30, li_31, li_32, li_33, li_34, li_35, li_36, li_37, li_38, li_39, li_40, li_41, li_42, li_47, li_50, li_60, li_63, li_75, li_100, li_103, li_131, li_159, li_184, li_187, li_215, li_243, li_256, li_271, li_296, li_299, li_323, li_347, li_371, li_395, li_419, li_443, li_467, li_491, li_515, li_539, li_545, li_551, li_557, li_560, li_563, li_569, li_575, li_581, li_587, li_593, li_599, li_605, li_629, li_653, li_677, li_725, li_773, li_794, li_795, li_796, li_1000, li_1546, li_1592, li_6184, li_9552, li_10049, li_10348, li_100000, rb_mI, nI_add, nI_mul, nI_leI, nI_ltI, nI_eq, rb_rdn, rb_wrn, rb_n0, rb_m0, rb_m1n, rb_nm1, rb_m1lt, rb_m1le, rb_0m1, rb_ltm1, rb_lem1, Nat.add_zero, Nat.zero_le, Nat.not_lt_zero, Nat.one_ne_zero, Option.bind_some, Option.bind_none, Option.some.injEq, if_true, if_false, ite_true, ite_false, Sum.elim_inl, Sum.elim_inr, xn_ofObject, xn_ofPipe, xn_ofInterest, xn_ofTask, xn_kindOf, xn_bitsOf7, xn_isInterest, xn_isAsleep, xn_objectAt, xn_pipeAt, xn_interestAt, xn_taskAt, rb_nz0, rb_nz1, rb_n10, Nat.one_ne_zero, eq_self, k5, p1]
          rfl
    · rcases rp_thing hH v0 with ⟨r1, r2⟩ | ⟨k0, x, hk0, hx, ev0, ec0, ea0, hl0, hw0, hz0, r1, r2⟩
      · simp (disch := omega) only [↓reduceIte, Nat.reduceEqDiff, Nat.reduceLeDiff, eq_self, not_true_eq_false, not_false_eq_true, li_0, li_1, li_2, li_3, li_4, li_5, li_6, li_7, li_8, li_9, li_10, li_11, li_12, li_13, li_14, li_15, li_16, li_17, li_18, li_19, li_20, li_21, li_22, li_23, li_24, li_25, li_26, li_27, li_28, li_29, li_30, li_31, li_32, li_33, li_34, li_35, li_36, li_37, li_38, li_39, li_40, li_41, li_42, li_47, li_50, li_60, li_63, li_75, li_100, li_103, li_131, li_159, li_184, li_187, li_215, li_243, li_256, li_271, li_296, li_299, li_323, li_347, li_371, li_395, li_419, li_443, li_467, li_491, li_515, li_539, li_545, li_551, li_557, li_560, li_563, li_569, li_575, li_581, li_587, li_593, li_599, li_605, li_629, li_653, li_677, li_725, li_773, li_794, li_795, li_796, li_1000, li_1546, li_1592, li_6184, li_9552, li_10049, li_10348, li_100000, rb_mI, nI_add, nI_mul, nI_leI, nI_ltI, nI_eq, rb_rdn, rb_wrn, rb_n0, rb_m0, rb_m1n, rb_nm1, rb_m1lt, rb_m1le, rb_0m1, rb_ltm1, rb_lem1, Nat.add_zero, Nat.zero_le, Nat.not_lt_zero, Nat.one_ne_zero, Option.bind_some, Option.bind_none, Option.some.injEq, if_true, if_false, ite_true, ite_false, Sum.elim_inl, Sum.elim_inr, xn_ofObject, xn_ofPipe, xn_ofInterest, xn_ofTask, xn_kindOf, xn_bitsOf7, xn_isInterest, xn_isAsleep, xn_objectAt, xn_pipeAt, xn_interestAt, xn_taskAt, rb_nz0, rb_nz1, rb_n10, Nat.one_ne_zero, eq_self, yn_namesn _ r2]
        rfl
      · subst ev0
        have kn := yn_names (nI 4) hk0 hx ea0 r2
        by_cases h4 : a (16 + 6 * x) = nI 4
        · simp only [h4, if_true] at kn
          simp (disch := omega) only [↓reduceIte, Nat.reduceEqDiff, Nat.reduceLeDiff, eq_self, not_true_eq_false, not_false_eq_true, li_0, li_1, li_2, li_3, li_4, li_5, li_6, li_7, li_8, li_9, li_10, li_11, li_12, li_13, li_14, li_15, li_16, li_17, li_18, li_19, li_20, li_21, li_22, li_23, li_24, li_25, li_26, li_27, li_28, li_29, li_30, li_31, li_32, li_33, li_34, li_35, li_36, li_37, li_38, li_39, li_40, li_41, li_42, li_47, li_50, li_60, li_63, li_75, li_100, li_103, li_131, li_159, li_184, li_187, li_215, li_243, li_256, li_271, li_296, li_299, li_323, li_347, li_371, li_395, li_419, li_443, li_467, li_491, li_515, li_539, li_545, li_551, li_557, li_560, li_563, li_569, li_575, li_581, li_587, li_593, li_599, li_605, li_629, li_653, li_677, li_725, li_773, li_794, li_795, li_796, li_1000, li_1546, li_1592, li_6184, li_9552, li_10049, li_10348, li_100000, rb_mI, nI_add, nI_mul, nI_leI, nI_ltI, nI_eq, rb_rdn, rb_wrn, rb_n0, rb_m0, rb_m1n, rb_nm1, rb_m1lt, rb_m1le, rb_0m1, rb_ltm1, rb_lem1, Nat.add_zero, Nat.zero_le, Nat.not_lt_zero, Nat.one_ne_zero, Option.bind_some, Option.bind_none, Option.some.injEq, if_true, if_false, ite_true, ite_false, Sum.elim_inl, Sum.elim_inr, xn_ofObject, xn_ofPipe, xn_ofInterest, xn_ofTask, xn_kindOf, xn_bitsOf7, xn_isInterest, xn_isAsleep, xn_objectAt, xn_pipeAt, xn_interestAt, xn_taskAt, rb_nz0, rb_nz1, rb_n10, Nat.one_ne_zero, eq_self, kn, p2]
          rfl
        · simp only [h4, if_false] at kn
          simp (disch := omega) only [↓reduceIte, Nat.reduceEqDiff, Nat.reduceLeDiff, eq_self, not_true_eq_false, not_false_eq_true, li_0, li_1, li_2, li_3, li_4, li_5, li_6, li_7, li_8, li_9, li_10, li_11, li_12, li_13, li_14, li_15, li_16, li_17, li_18, li_19, li_20, li_21, li_22, li_23, li_24, li_25, li_26, li_27, li_28, li_29, li_30, li_31, li_32, li_33, li_34, li_35, li_36, li_37, li_38, li_39, li_40, li_41, li_42, li_47, li_50, li_60, li_63, li_75, li_100, li_103, li_131, li_159, li_184, li_187, li_215, li_243, li_256, li_271, li_296, li_299, li_323, li_347, li_371, li_395, li_419, li_443, li_467, li_491, li_515, li_539, li_545, li_551, li_557, li_560, li_563, li_569, li_575, li_581, li_587, li_593, li_599, li_605, li_629, li_653, li_677, li_725, li_773, li_794, li_795, li_796, li_1000, li_1546, li_1592, li_6184, li_9552, li_10049, li_10348, li_100000, rb_mI, nI_add, nI_mul, nI_leI, nI_ltI, nI_eq, rb_rdn, rb_wrn, rb_n0, rb_m0, rb_m1n, rb_nm1, rb_m1lt, rb_m1le, rb_0m1, rb_ltm1, rb_lem1, Nat.add_zero, Nat.zero_le, Nat.not_lt_zero, Nat.one_ne_zero, Option.bind_some, Option.bind_none, Option.some.injEq, if_true, if_false, ite_true, ite_false, Sum.elim_inl, Sum.elim_inr, xn_ofObject, xn_ofPipe, xn_ofInterest, xn_ofTask, xn_kindOf, xn_bitsOf7, xn_isInterest, xn_isAsleep, xn_objectAt, xn_pipeAt, xn_interestAt, xn_taskAt, rb_nz0, rb_nz1, rb_n10, Nat.one_ne_zero, eq_self, kn]
          rfl
  · subst ev
    rcases rp_thing hH v0 with ⟨r1, r2⟩ | ⟨k0, x, hk0, hx, ev0, ec0, ea0, hl0, hw0, hz0, r1, r2⟩
    · refine ⟨none, ?_, ?_, fun i e => by cases e⟩
      · simp (disch := omega) only [↓reduceIte, Nat.reduceEqDiff, Nat.reduceLeDiff, eq_self, not_true_eq_false, not_false_eq_true, li_0, li_1, li_2, li_3, li_4, li_5, li_6, li_7, li_8, li_9, li_10, li_11, li_12, li_13, li_14, li_15, li_16, li_17, li_18, li_19, li_20, li_21, li_22, li_23, li_24, li_25, li_26, li_27, li_28, li_29, li_30, li_31, li_32, li_33, li_34, li_35, li_36, li_37, li_38, li_39, li_40, li_41, li_42, li_47, li_50, li_60, li_63, li_75, li_100, li_103, li_131, li_159, li_184, li_187, li_215, li_243, li_256, li_271, li_296, li_299, li_323, li_347, li_371, li_395, li_419, li_443, li_467, li_491, li_515, li_539, li_545, li_551, li_557, li_560, li_563, li_569, li_575, li_581, li_587, li_593, li_599, li_605, li_629, li_653, li_677, li_725, li_773, li_794, li_795, li_796, li_1000, li_1546, li_1592, li_6184, li_9552, li_10049, li_10348, li_100000, rb_mI, nI_add, nI_mul, nI_leI, nI_ltI, nI_eq, rb_rdn, rb_wrn, rb_n0, rb_m0, rb_m1n, rb_nm1, rb_m1lt, rb_m1le, rb_0m1, rb_ltm1, rb_lem1, Nat.add_zero, Nat.zero_le, Nat.not_lt_zero, Nat.one_ne_zero, Option.bind_some, Option.bind_none, Option.some.injEq, if_true, if_false, ite_true, ite_false, Sum.elim_inl, Sum.elim_inr, xn_ofObject, xn_ofPipe, xn_ofInterest, xn_ofTask, xn_kindOf, xn_bitsOf7, xn_isInterest, xn_isAsleep, xn_objectAt, xn_pipeAt, xn_interestAt, xn_taskAt, rb_nz0, rb_nz1, rb_n10, Nat.one_ne_zero, eq_self, xn_kindOf5n _ r1, p1]
        rfl
      · simp (disch := omega) only [↓reduceIte, Nat.reduceEqDiff, Nat.reduceLeDiff, eq_self, not_true_eq_false, not_false_eq_true, li_0, li_1, li_2, li_3, li_4, li_5, li_6, li_7, li_8, li_9, li_10, li_11, li_12, li_13, li_14, li_15, li_16, li_17, li_18, li_19, li_20, li_21, li_22, li_23, li_24, li_25, li_26, li_27, li_28, li_29, li_30, li_31, li_32, li_33, li_34, li_35, li_36, li_37, li_38, li_39, li_40, li_41, li_42, li_47, li_50, li_60, li_63, li_75, li_100, li_103, li_131, li_159, li_184, li_187, li_215, li_243, li_256, li_271, li_296, li_299, li_323, li_347, li_371, li_395, li_419, li_443, li_467, li_491, li_515, li_539, li_545, li_551, li_557, li_560, li_563, li_569, li_575, li_581, li_587, li_593, li_599, li_605, li_629, li_653, li_677, li_725, li_773, li_794, li_795, li_796, li_1000, li_1546, li_1592, li_6184, li_9552, li_10049, li_10348, li_100000, rb_mI, nI_add, nI_mul, nI_leI, nI_ltI, nI_eq, rb_rdn, rb_wrn, rb_n0, rb_m0, rb_m1n, rb_nm1, rb_m1lt, rb_m1le, rb_0m1, rb_ltm1, rb_lem1, Nat.add_zero, Nat.zero_le, Nat.not_lt_zero, Nat.one_ne_zero, Option.bind_some, Option.bind_none, Option.some.injEq, if_true, if_false, ite_true, ite_false, Sum.elim_inl, Sum.elim_inr, xn_ofObject, xn_ofPipe, xn_ofInterest, xn_ofTask, xn_kindOf, xn_bitsOf7, xn_isInterest, xn_isAsleep, xn_objectAt, xn_pipeAt, xn_interestAt, xn_taskAt, rb_nz0, rb_nz1, rb_n10, Nat.one_ne_zero, eq_self, yn_namesn _ r2]
        rfl
    · subst ev0
      have k5 := xn_kindOf5 (nI 4) hx r1
      have kn := yn_names (nI 4) hk0 hx ea0 r2
      rw [(hH.2.1 x hx).1] at kn
      by_cases h4 : c (19 + x) = nI 4
      · simp only [h4, if_true] at k5 kn
        have ef := xn_find c (nI x) (nI k) (nI y) n hc2 hn
        refine ⟨rb_fd (fun i => decide (c (299 + i) = nI x) && (decide (c (347 + i) = nI k) && decide (c (323 + i) = nI y))) n, ?_, ?_, fun i e => (rb_fd_some e).1⟩
        · simp (disch := omega) only [↓reduceIte, Nat.reduceEqDiff, Nat.reduceLeDiff, eq_self, not_true_eq_false, not_false_eq_true, li_0, li_1, li_2, li_3, li_4, li_5, li_6, li_7, li_8, li_9, li_10, li_11, li_12, li_13, li_14, li_15, li_16, li_17, li_18, li_19, li_20, li_21, li_22, li_23, li_24, li_25, li_26, li_27, li_28, li_29, li_30, li_31, li_32, li_33, li_34, li_35, li_36, li_37, li_38, li_39, li_40, li_41, li_42, li_47, li_50, li_60, li_63, li_75, li_100, li_103, li_131, li_159, li_184, li_187, li_215, li_243, li_256, li_271, li_296, li_299, li_323, li_347, li_371, li_395, li_419, li_443, li_467, li_491, li_515, li_539, li_545, li_551, li_557, li_560, li_563, li_569, li_575, li_581, li_587, li_593, li_599, li_605, li_629, li_653, li_677, li_725, li_773, li_794, li_795, li_796, li_1000, li_1546, li_1592, li_6184, li_9552, li_10049, li_10348, li_100000, rb_mI, nI_add, nI_mul, nI_leI, nI_ltI, nI_eq, rb_rdn, rb_wrn, rb_n0, rb_m0, rb_m1n, rb_nm1, rb_m1lt, rb_m1le, rb_0m1, rb_ltm1, rb_lem1, Nat.add_zero, Nat.zero_le, Nat.not_lt_zero, Nat.one_ne_zero, Option.bind_some, Option.bind_none, Option.some.injEq, if_true, if_false, ite_true, ite_false, Sum.elim_inl, Sum.elim_inr, xn_ofObject, xn_ofPipe, xn_ofInterest, xn_ofTask, xn_kindOf, xn_bitsOf7, xn_isInterest, xn_isAsleep, xn_objectAt, xn_pipeAt, xn_interestAt, xn_taskAt, rb_nz0, rb_nz1, rb_n10, Nat.one_ne_zero, eq_self, k5, p1, ef]
        · simp (disch := omega) only [↓reduceIte, Nat.reduceEqDiff, Nat.reduceLeDiff, eq_self, not_true_eq_false, not_false_eq_true, li_0, li_1, li_2, li_3, li_4, li_5, li_6, li_7, li_8, li_9, li_10, li_11, li_12, li_13, li_14, li_15, li_16, li_17, li_18, li_19, li_20, li_21, li_22, li_23, li_24, li_25, li_26, li_27, li_28, li_29, li_30, li_31, li_32, li_33, li_34, li_35, li_36, li_37, li_38, li_39, li_40, li_41, li_42, li_47, li_50, li_60, li_63, li_75, li_100, li_103, li_131, li_159, li_184, li_187, li_215, li_243, li_256, li_271, li_296, li_299, li_323, li_347, li_371, li_395, li_419, li_443, li_467, li_491, li_515, li_539, li_545, li_551, li_557, li_560, li_563, li_569, li_575, li_581, li_587, li_593, li_599, li_605, li_629, li_653, li_677, li_725, li_773, li_794, li_795, li_796, li_1000, li_1546, li_1592, li_6184, li_9552, li_10049, li_10348, li_100000, rb_mI, nI_add, nI_mul, nI_leI, nI_ltI, nI_eq, rb_rdn, rb_wrn, rb_n0, rb_m0, rb_m1n, rb_nm1, rb_m1lt, rb_m1le, rb_0m1, rb_ltm1, rb_lem1, Nat.add_zero, Nat.zero_le, Nat.not_lt_zero, Nat.one_ne_zero, Option.bind_some, Option.bind_none, Option.some.injEq, if_true, if_false, ite_true, ite_false, Sum.elim_inl, Sum.elim_inr, xn_ofObject, xn_ofPipe, xn_ofInterest, xn_ofTask, xn_kindOf, xn_bitsOf7, xn_isInterest, xn_isAsleep, xn_objectAt, xn_pipeAt, xn_interestAt, xn_taskAt, rb_nz0, rb_nz1, rb_n10, Nat.one_ne_zero, eq_self, kn, p2]
          refine rb_bnd _ (rb_lpf0 (fun u => decide (a (296 + 11 * u) = nI x) && (decide (a (296 + 11 * u + 2) = nI k) && decide (a (296 + 11 * u + 1) = nI y))) 24 (by omega) ?_ ?_ ?_) ?_
          · intro j hj hp
            simp (disch := omega) only [li_0, li_1, li_2, li_3, li_4, li_5, li_6, li_7, li_8, li_9, li_10, li_11, li_12, li_13, li_14, li_15, li_16, li_17, li_18, li_19, li_20, li_21, li_22, li_23, li_24, li_25, li_26, li_27, li_28, li_29, li_30, li_31, li_32, li_33, li_34, li_35, li_36, li_37, li_38, li_39, li_40, li_41, li_42, li_47, li_50, li_60, li_63, li_75, li_100, li_103, li_131, li_159, li_184, li_187, li_215, li_243, li_256, li_271, li_296, li_299, li_323, li_347, li_371, li_395, li_419, li_443, li_467, li_491, li_515, li_539, li_545, li_551, li_557, li_560, li_563, li_569, li_575, li_581, li_587, li_593, li_599, li_605, li_629, li_653, li_677, li_725, li_773, li_794, li_795, li_796, li_1000, li_1546, li_1592, li_6184, li_9552, li_10049, li_10348, li_100000, rb_mI, nI_add, nI_mul, nI_leI, nI_ltI, nI_eq, rb_rdn, rb_wrn, rb_n0, rb_m0, rb_m1n, rb_nm1, rb_m1lt, rb_m1le, rb_0m1, rb_ltm1, rb_lem1, Nat.add_zero, Nat.zero_le, Nat.not_lt_zero, Nat.one_ne_zero, Option.bind_some, Option.bind_none, Option.some.injEq, if_true, if_false, ite_true, ite_false, Sum.elim_inl, Sum.elim_inr, xn_ofObject, xn_ofPipe, xn_ofInterest, xn_ofTask, xn_kindOf, xn_bitsOf7, xn_isInterest, xn_isAsleep, xn_objectAt, xn_pipeAt, xn_interestAt, xn_taskAt, rb_nz0, rb_nz1, rb_n10, Nat.one_ne_zero, eq_self, ea0, ea]
            rw [if_neg (by omega)]
            by_cases g1 : a (296 + 11 * j) = nI x <;> by_cases g2 : a (296 + 11 * j + 2) = nI k <;> by_cases g3 : a (296 + 11 * j + 1) = nI y <;> simp [g1, g2, g3] at hp ⊢
          · intro j hj hp
            simp (disch := omega) only [li_0, li_1, li_2, li_3, li_4, li_5, li_6, li_7, li_8, li_9, li_10, li_11, li_12, li_13, li_14, li_15, li_16, li_17, li_18, li_19, li_20, li_21, li_22, li_23, li_24, li_25, li_26, li_27, li_28, li_29, li_30, li_31, li_32, li_33, li_34, li_35, li_36, li_37, li_38, li_39, li_40, li_41, li_42, li_47, li_50, li_60, li_63, li_75, li_100, li_103, li_131, li_159, li_184, li_187, li_215, li_243, li_256, li_271, li_296, li_299, li_323, li_347, li_371, li_395, li_419, li_443, li_467, li_491, li_515, li_539, li_545, li_551, li_557, li_560, li_563, li_569, li_575, li_581, li_587, li_593, li_599, li_605, li_629, li_653, li_677, li_725, li_773, li_794, li_795, li_796, li_1000, li_1546, li_1592, li_6184, li_9552, li_10049, li_10348, li_100000, rb_mI, nI_add, nI_mul, nI_leI, nI_ltI, nI_eq, rb_rdn, rb_wrn, rb_n0, rb_m0, rb_m1n, rb_nm1, rb_m1lt, rb_m1le, rb_0m1, rb_ltm1, rb_lem1, Nat.add_zero, Nat.zero_le, Nat.not_lt_zero, Nat.one_ne_zero, Option.bind_some, Option.bind_none, Option.some.injEq, if_true, if_false, ite_true, ite_false, Sum.elim_inl, Sum.elim_inr, xn_ofObject, xn_ofPipe, xn_ofInterest, xn_ofTask, xn_kindOf, xn_bitsOf7, xn_isInterest, xn_isAsleep, xn_objectAt, xn_pipeAt, xn_interestAt, xn_taskAt, rb_nz0, rb_nz1, rb_n10, Nat.one_ne_zero, eq_self, ea0, ea]
            rw [if_neg (by omega)]
            by_cases g1 : a (296 + 11 * j) = nI x <;> by_cases g2 : a (296 + 11 * j + 2) = nI k <;> by_cases g3 : a (296 + 11 * j + 1) = nI y <;> simp [g1, g2, g3] at hp ⊢
          · simp (disch := omega) only [li_0, li_1, li_2, li_3, li_4, li_5, li_6, li_7, li_8, li_9, li_10, li_11, li_12, li_13, li_14, li_15, li_16, li_17, li_18, li_19, li_20, li_21, li_22, li_23, li_24, li_25, li_26, li_27, li_28, li_29, li_30, li_31, li_32, li_33, li_34, li_35, li_36, li_37, li_38, li_39, li_40, li_41, li_42, li_47, li_50, li_60, li_63, li_75, li_100, li_103, li_131, li_159, li_184, li_187, li_215, li_243, li_256, li_271, li_296, li_299, li_323, li_347, li_371, li_395, li_419, li_443, li_467, li_491, li_515, li_539, li_545, li_551, li_557, li_560, li_563, li_569, li_575, li_581, li_587, li_593, li_599, li_605, li_629, li_653, li_677, li_725, li_773, li_794, li_795, li_796, li_1000, li_1546, li_1592, li_6184, li_9552, li_10049, li_10348, li_100000, rb_mI, nI_add, nI_mul, nI_leI, nI_ltI, nI_eq, rb_rdn, rb_wrn, rb_n0, rb_m0, rb_m1n, rb_nm1, rb_m1lt, rb_m1le, rb_0m1, rb_ltm1, rb_lem1, Nat.add_zero, Nat.zero_le, Nat.not_lt_zero, Nat.one_ne_zero, Option.bind_some, Option.bind_none, Option.some.injEq, if_true, if_false, ite_true, ite_false, Sum.elim_inl, Sum.elim_inr]
            rw [if_pos (by omega)]
          · have key : rb_fd (fun u => decide (a (296 + 11 * u) = nI x) && (decide (a (296 + 11 * u + 2) = nI k) && decide (a (296 + 11 * u + 1) = nI y))) 24 = (rb_fd (fun i => decide (c (299 + i) = nI x) && (decide (c (347 + i) = nI k) && decide (c (323 + i) = nI y))) n).map π := by
              have hpi : ∀ u, u < 24 → (decide (a (296 + 11 * u) = nI x) && (decide (a (296 + 11 * u + 2) = nI k) && decide (a (296 + 11 * u + 1) = nI y))) = true → ∃ i, i < n ∧ π i = u ∧ c (299 + i) = nI x ∧ c (347 + i) = nI k ∧ c (323 + i) = nI y := by
                intro u hu hp
                simp only [Bool.and_eq_true, decide_eq_true_eq] at hp
                obtain ⟨i, hi, e⟩ := rI_slot hI hu (fun e => by rw [hp.1] at e; exact rb_nmm (k := x) (by omega) e)
                subst e
                obtain ⟨q1, q2, q3, q4, _⟩ := hI.1 i hi
                exact ⟨i, hi, rfl, by rw [← q2]; exact hp.1, by rw [← q4]; exact hp.2.1, by rw [← q3]; exact hp.2.2⟩
              cases hf : rb_fd (fun i => decide (c (299 + i) = nI x) && (decide (c (347 + i) = nI k) && decide (c (323 + i) = nI y))) n with
              | none =>
                refine rb_fd_all (fun u hu => ?_)
                cases hp : (decide (a (296 + 11 * u) = nI x) && (decide (a (296 + 11 * u + 2) = nI k) && decide (a (296 + 11 * u + 1) = nI y))) with
                | false => rfl
                | true =>
                  obtain ⟨i, hi, _, g1, g2, g3⟩ := hpi u hu hp
                  have := rb_fd_none hf i hi
                  simp [g1, g2, g3] at this
              | some i =>
                obtain ⟨hi, hpp, _⟩ := rb_fd_some hf
                simp only [Bool.and_eq_true, decide_eq_true_eq] at hpp
                obtain ⟨q1, q2, q3, q4, _⟩ := hI.1 i hi
                refine rb_fd_uni q1 ?_ (fun u hu hp => ?_)
                · rw [q2, q3, q4]
                  simp [hpp]
                · obtain ⟨j, hj, e, g1, g2, g3⟩ := hpi u hu hp
                  have := hI.2.2.2.2.2.2.2 j i hj hi (by rw [g1, hpp.1]) (by rw [g2, hpp.2.1]) (by rw [g3, hpp.2.2])
                  rw [← e, this]
            rw [key]
            cases rb_fd (fun i => decide (c (299 + i) = nI x) && (decide (c (347 + i) = nI k) && decide (c (323 + i) = nI y))) n <;> rfl
      · simp only [h4, if_false] at k5 kn
        refine ⟨none, ?_, ?_, fun i e => by cases e⟩
        · simp (disch := omega) only [↓reduceIte, Nat.reduceEqDiff, Nat.reduceLeDiff, eq_self, not_true_eq_false, not_false_eq_true, li_0, li_1, li_2, li_3, li_4, li_5, li_6, li_7, li_8, li_9, li_10, li_11, li_12, li_13, li_14, li_15, li_16, li_17, li_18, li_19, li_20, li_21, li_22, li_23, li_24, li_25, li_26, li_27, li_28, li_29, li_30, li_31, li_32, li_33, li_34, li_35, li_36, li_37, li_38, li_39, li_40, li_41, li_42, li_47, li_50, li_60, li_63, li_75, li_100, li_103, li_131, li_159, li_184, li_187, li_215, li_243, li_256, li_271, li_296, li_299, li_323, li_347, li_371, li_395, li_419, li_443, li_467, li_491, li_515, li_539, li_545, li_551, li_557, li_560, li_563, li_569, li_575, li_581, li_587, li_593, li_599, li_605, li_629, li_653, li_677, li_725, li_773, li_794, li_795, li_796, li_1000, li_1546, li_1592, li_6184, li_9552, li_10049, li_10348, li_100000, rb_mI, nI_add, nI_mul, nI_leI, nI_ltI, nI_eq, rb_rdn, rb_wrn, rb_n0, rb_m0, rb_m1n, rb_nm1, rb_m1lt, rb_m1le, rb_0m1, rb_ltm1, rb_lem1, Nat.add_zero, Nat.zero_le, Nat.not_lt_zero, Nat.one_ne_zero, Option.bind_some, Option.bind_none, Option.some.injEq, if_true, if_false, ite_true, ite_false, Sum.elim_inl, Sum.elim_inr, xn_ofObject, xn_ofPipe, xn_ofInterest, xn_ofTask, xn_kindOf, xn_bitsOf7, xn_isInterest, xn_isAsleep, xn_objectAt, xn_pipeAt, xn_interestAt, xn_taskAt, rb_nz0, rb_nz1, rb_n10, Nat.one_ne_zero, eq_self, k5, p1]
          rfl
        · simp (disch := omega) only [↓reduceIte, Nat.reduceEqDiff, Nat.reduceLeDiff, eq_self, not_true_eq_false, not_false_eq_true, li_0, li_1, li_2, li_3, li_4, li_5, li_6, li_7, li_8, li_9, li_10, li_11, li_12, li_13, li_14, li_15, li_16, li_17, li_18, li_19, li_20, li_21, li_22, li_23, li_24, li_25, li_26, li_27, li_28, li_29, li_30, li_31, li_32, li_33, li_34, li_35, li_36, li_37, li_38, li_39, li_40, li_41, li_42, li_47, li_50, li_60, li_63, li_75, li_100, li_103, li_131, li_159, li_184, li_187, li_215, li_243, li_256, li_271, li_296, li_299, li_323, li_347, li_371, li_395, li_419, li_443, li_467, li_491, li_515, li_539, li_545, li_551, li_557, li_560, li_563, li_569, li_575, li_581, li_587, li_593, li_599, li_605, li_629, li_653, li_677, li_725, li_773, li_794, li_795, li_796, li_1000, li_1546, li_1592, li_6184, li_9552, li_10049, li_10348, li_100000, rb_mI, nI_add, nI_mul, nI_leI, nI_ltI, nI_eq, rb_rdn, rb_wrn, rb_n0, rb_m0, rb_m1n, rb_nm1, rb_m1lt, rb_m1le, rb_0m1, rb_ltm1, rb_lem1, Nat.add_zero, Nat.zero_le, Nat.not_lt_zero, Nat.one_ne_zero, Option.bind_some, Option.bind_none, Option.some.injEq, if_true, if_false, ite_true, ite_false, Sum.elim_inl, Sum.elim_inr, xn_ofObject, xn_ofPipe, xn_ofInterest, xn_ofTask, xn_kindOf, xn_bitsOf7, xn_isInterest, xn_isAsleep, xn_objectAt, xn_pipeAt, xn_interestAt, xn_taskAt, rb_nz0, rb_nz1, rb_n10, Nat.one_ne_zero, eq_self, kn]
          rfl
/-- mask and how -/
theorem rp_mask {z W q n : Nat} {π : Nat → Nat} {s s' : Nat} {c a : rb_Row} (h : rR z W q n π s s' c a) {i m w : Nat} (hi : i < n) (hm : m < 4) (hw : w < 8) : rR z W q n π s s' (upd (upd c (371 + i) (nI m)) (395 + i) (nI w)) (upd (upd a (296 + 11 * π i + 3) (nI m)) (296 + 11 * π i + 4) (nI w)) := by
  obtain ⟨⟨p1, p2, p3, p4, p5, p6, p7, p8⟩, hH, hI, hL, hT⟩ := h
  have hp := (hI.1 i hi).1
  refine ⟨⟨?_, ?_, ?_, ?_, p5, p6, ?_, p8⟩, rH_frame hH (Nat.le_refl _) (Nat.le_refl _) (fun k h1 h2 => by simp (disch := omega) only [rb_upn]) (fun k h1 => by simp (disch := omega) only [rb_upn]), ?_, rL_frame p8 (fun i hi => (hI.1 i hi).1) hL (Nat.le_refl _) (Nat.le_refl _) (fun k h1 h2 => by simp (disch := omega) only [rb_upn]) (fun u f hu h1 h2 => by simp (disch := omega) only [rb_upn]), rT_frame hT (Nat.le_refl _) (Nat.le_refl _) (Nat.le_refl _) (fun k h1 h2 => by simp (disch := omega) only [rb_upn]) (fun x hx => by simp (disch := omega) only [rb_upn]) (fun k h1 h2 => by simp (disch := omega) only [rb_upn])⟩
  · simp (disch := omega) only [rb_upn]; exact p1
  · simp (disch := omega) only [rb_upn]; exact p2
  · simp (disch := omega) only [rb_upn]; exact p3
  · simp (disch := omega) only [rb_upn]; exact p4
  · simp (disch := omega) only [rb_upn]; exact p7
  · obtain ⟨h1, h2, h3, h4, h5, h6, h7, h8⟩ := hI
    refine ⟨?_, ?_, ?_, ?_, ?_, ?_, ?_, ?_⟩
    · intro j hj
      obtain ⟨q1, q2, q3, q4, q5, q6⟩ := h1 j hj
      by_cases e : j = i
      · subst e
        simp (disch := omega) only [rb_upn, rb_upe]
        exact ⟨q1, q2, q3, q4, trivial, trivial⟩
      · have hne : π j ≠ π i := fun e' => e (rI_inj ⟨h1, h2, h3, h4, h5, h6, h7, h8⟩ j i hj hi e')
        simp (disch := omega) only [rb_upn]
        exact ⟨q1, q2, q3, q4, q5, q6⟩
    · intro j hj
      obtain ⟨x, g1, g2, g3, g, g4, g5⟩ := h2 j hj
      exact ⟨x, g1, by simp (disch := omega) only [rb_upn]; exact g2, by simp (disch := omega) only [rb_upn]; exact g3, g, g4, by simp (disch := omega) only [rb_upn]; exact g5⟩
    · intro j hj
      obtain ⟨x, g1, g2, ⟨k, g3, g6⟩, g, g4, g5⟩ := h3 j hj
      exact ⟨x, g1, by simp (disch := omega) only [rb_upn]; exact g2, ⟨k, g3, by simp (disch := omega) only [rb_upn]; exact g6⟩, g, g4, by simp (disch := omega) only [rb_upn]; exact g5⟩
    · intro j hj
      have := (h1 j hj).1
      obtain ⟨g1, g2, g3, g4, g5⟩ := h4 j hj
      by_cases e : j = i
      · subst e
        simp (disch := omega) only [rb_upn, rb_upe]
        exact ⟨g1, g2, ⟨m, hm, rfl⟩, ⟨w, hw, rfl⟩, g5⟩
      · simp (disch := omega) only [rb_upn]
        exact ⟨g1, g2, g3, g4, g5⟩
    · intro j k hj hk
      have := (h1 j (by omega)).1
      have := (h1 k hk).1
      simp (disch := omega) only [rb_upn]
      exact h5 j k hj hk
    · intro u hu hne
      simp (disch := omega) only [rb_upn]
      exact h6 u hu hne
    · intro j k l x hj hk hl e1 e2 hx e3
      simp (disch := omega) only [rb_upn] at e1 e2 e3 ⊢
      exact h7 j k l x hj hk hl e1 e2 hx e3
    · intro j k hj hk
      simp (disch := omega) only [rb_upn]
      exact h8 j k hj hk
set_option maxHeartbeats 8000000 in
theorem rp_tell {B q n : Nat} {π : Nat → Nat} {s s' : Nat} {c a a0 : rb_Row} (hR : rR 28 B q n π s s' c a) (hB : s + 8 * rb_asl c ≤ B) (hb : B + q + 20000 < 2000000000) {i : Nat} (hi : i < n) (m w : Int32) (ha : a = upd (upd a0 (296 + 11 * π i + 3) m) (296 + 11 * π i + 4) w) (g f rd ag mf na nb nl sv : rb_Row) : ∃ c' g' f' a' rd' ag' mf' na' nb' nl' sv', XX0_armInterest c g f (nI i) = some (nI 1, c', g', f') ∧ XX7_tell a0 rd ag mf na nb nl sv (nI (π i)) m w = some (a', rd', ag', mf', na', nb', nl', sv') ∧ rb_RB (B + 700) q c' a' ∧ (∀ k, k ≠ 3 → k ≠ 11 → mf' k = mf k) ∧ (∀ k, 2 ≤ k → k < 419 → c' k = c k) ∧ (∀ u, u < 24 → a' (296 + 11 * u) = a (296 + 11 * u)) ∧ (∀ k, k < 296 → a' k = a k) ∧ (∀ k, 593 ≤ k → k < 677 → c' k = c k) ∧ rb_G c c' := by
  have hn : n ≤ 24 := hR.1.2.2.2.2.2.2.2
  have hsq : s' ≤ s + q := hR.1.2.2.2.2.2.1
  have hI := hR.2.2.1
  have hp := (hI.1 i hi).1
  obtain ⟨r1, r2, r3⟩ := rp_armed hR hi (v := nI 1) (Or.inr rfl)
  obtain ⟨y, hy, ey, hly, _⟩ := hI.2.2.1 i hi
  obtain ⟨x, hx, ex, _⟩ := hI.2.1 i hi
  obtain ⟨rd1, er, hrd⟩ := yn_layReady r1 (by omega) rd
  have hz := rb_exz r1.2.1 r1.2.2.1 hi hy (by rw [rb_upn (by omega)]; exact ey)
  have hrdy := hrd y hy hz.1 hz.2
  have e5 := xn_ready5 r1 hy hz.2
  have eb := xn_bits (upd c (419 + i) (nI 1)) (i := i) (by omega)
  have hit := rb_tells (rd := rd1) (F := rq (upd c (419 + i) (nI 1)) n 4) r1.2.2.1 r1.2.2.2.1 hi (by
    have : (upd c (419 + i) (nI 1)) (323 + i) = nI y := by rw [rb_upn (by omega)]; exact ey
    rw [nt_n this (by omega)]; exact hrdy)
  have hey : (upd c (419 + i) (nI 1)) (323 + i) = nI y := by rw [rb_upn (by omega)]; exact ey
  rw [nt_n hey (by omega), rb_upe rfl] at hit
  have hisT := yn_isTrue (upd a (296 + 11 * π i + 5) (nI 1)) rd1 hp ⟨y, hy, by simp (disch := omega) only [rb_upn]; rw [(hI.1 i hi).2.2.1]; exact ey⟩
  rw [hit] at hisT
  have hasl1 : rb_asl (upd c (419 + i) (nI 1)) = rb_asl c := rb_asl_congr (fun t ht => rb_upn (by omega))
  unfold XX0_armInterest XX1_tells XX7_tell
  by_cases hb0 : rb_bt (upd c (419 + i) (nI 1)) i &&& rq (upd c (419 + i) (nI 1)) n 4 y = nI 0
  · refine ⟨upd c (419 + i) (nI 1), g, f, upd a (296 + 11 * π i + 5) (nI 1), rd1, ag, mf, na, nb, nl, sv, ?_, ?_, ⟨n, π, s, s', rR_mono r1 (by omega), by omega⟩, fun _ _ _ => rfl, fun k h1 h2 => rb_upn (by omega), fun u hu => rb_upn (by omega), fun k hk => rb_upn (by omega), fun k h1 h2 => rb_upn (by omega), rb_G_same (fun t ht => rb_upn (by omega))⟩
    · simp (maxSteps := 3000000) (disch := omega) only [↓reduceIte, Nat.reduceEqDiff, Nat.reduceLeDiff, eq_self, not_true_eq_false, not_false_eq_true, li_0, li_1, li_2, li_3, li_4, li_5, li_6, li_7, li_8, li_9, li_10, li_11, li_12, li_13, li_14, li_15, li_16, li_17, li_18, li_19, li_20, li_21, li_22, li_23, li_24, li_25, li_26, li_27, li_28, li_29, li_30, li_31, li_32, li_33, li_34, li_35, li_36, li_37, li_38, li_39, li_40, li_41, li_42, li_47, li_50, li_60, li_63, li_75, li_100, li_103, li_131, li_159, li_184, li_187, li_215, li_243, li_256, li_271, li_296, li_299, li_323, li_347, li_371, li_395, li_419, li_443, li_467, li_491, li_515, li_539, li_545, li_551, li_557, li_560, li_563, li_569, li_575, li_581, li_587, li_593, li_599, li_605, li_629, li_653, li_677, li_725, li_773, li_794, li_795, li_796, li_1000, li_1546, li_1592, li_6184, li_9552, li_10049, li_10348, li_100000, rb_mI, nI_add, nI_mul, nI_leI, nI_ltI, nI_eq, rb_rdn, rb_wrn, rb_n0, rb_m0, rb_m1n, rb_nm1, rb_m1lt, rb_m1le, rb_0m1, rb_ltm1, rb_lem1, Nat.add_zero, Nat.zero_le, Nat.not_lt_zero, Nat.one_ne_zero, Option.bind_some, Option.bind_none, Option.some.injEq, if_true, if_false, ite_true, ite_false, Sum.elim_inl, Sum.elim_inr, xn_ofObject, xn_ofPipe, xn_ofInterest, xn_ofTask, xn_kindOf, xn_bitsOf7, xn_isInterest, xn_isAsleep, xn_objectAt, xn_pipeAt, xn_interestAt, xn_taskAt, rb_nz0, rb_nz1, rb_n10, Nat.one_ne_zero, eq_self, rb_upe, eb, hey, e5, hb0]
    · have hisF : XX7_isTrue (upd a (296 + 11 * π i + 5) (nI 1)) rd1 (nI (π i)) = some (nI 0) := by
        rw [hisT, hb0]; simp
      subst ha
      simp (maxSteps := 3000000) (disch := omega) only [↓reduceIte, Nat.reduceEqDiff, Nat.reduceLeDiff, eq_self, not_true_eq_false, not_false_eq_true, li_0, li_1, li_2, li_3, li_4, li_5, li_6, li_7, li_8, li_9, li_10, li_11, li_12, li_13, li_14, li_15, li_16, li_17, li_18, li_19, li_20, li_21, li_22, li_23, li_24, li_25, li_26, li_27, li_28, li_29, li_30, li_31, li_32, li_33, li_34, li_35, li_36, li_37, li_38, li_39, li_40, li_41, li_42, li_47, li_50, li_60, li_63, li_75, li_100, li_103, li_131, li_159, li_184, li_187, li_215, li_243, li_256, li_271, li_296, li_299, li_323, li_347, li_371, li_395, li_419, li_443, li_467, li_491, li_515, li_539, li_545, li_551, li_557, li_560, li_563, li_569, li_575, li_581, li_587, li_593, li_599, li_605, li_629, li_653, li_677, li_725, li_773, li_794, li_795, li_796, li_1000, li_1546, li_1592, li_6184, li_9552, li_10049, li_10348, li_100000, rb_mI, nI_add, nI_mul, nI_leI, nI_ltI, nI_eq, rb_rdn, rb_wrn, rb_n0, rb_m0, rb_m1n, rb_nm1, rb_m1lt, rb_m1le, rb_0m1, rb_ltm1, rb_lem1, Nat.add_zero, Nat.zero_le, Nat.not_lt_zero, Nat.one_ne_zero, Option.bind_some, Option.bind_none, Option.some.injEq, if_true, if_false, ite_true, ite_false, Sum.elim_inl, Sum.elim_inr, xn_ofObject, xn_ofPipe, xn_ofInterest, xn_ofTask, xn_kindOf, xn_bitsOf7, xn_isInterest, xn_isAsleep, xn_objectAt, xn_pipeAt, xn_interestAt, xn_taskAt, rb_nz0, rb_nz1, rb_n10, Nat.one_ne_zero, eq_self, er, hisF]
  · have hisF : XX7_isTrue (upd a (296 + 11 * π i + 5) (nI 1)) rd1 (nI (π i)) = some (nI 1) := by
      rw [hisT]; simp [hb0, rb_n10]
    obtain ⟨cL, aL, t, t', k1, k2, k3, k4, k5, k6⟩ := rp_list r1 (by omega) hi
    have htt : t ≤ s + 1 ∧ t' ≤ s' + 1 := by rcases k6 with ⟨_, _, g3, g4⟩ | ⟨_, _, g3, g4⟩ <;> omega
    have haslL : rb_asl cL = rb_asl c := by
      rw [← hasl1]
      rcases k6 with ⟨_, g2, _⟩ | ⟨_, g2, _⟩
      · rw [g2]; exact rb_asl_congr (fun t ht => by simp (disch := omega) only [rb_upn])
      · rw [g2]
    have exL : cL (299 + i) = nI x := by rw [k4 _ (by omega)]; simp (disch := omega) only [rb_upn]; exact ex
    have exA : aL (296 + 11 * π i) = nI x := by rw [(k3.2.2.1.1 i hi).2.1]; exact exL
    obtain ⟨v, b, c1, g1, f1, c', g', f', a', rd', ag', mf', na', nb', nl', sv', m1, m2, m3, m4, u, u', m5, m6, m7, m8, m9, m10, m11⟩ := rp_call k3 (by omega) (by omega) hi hx exL g f rd1 ag mf na nb nl sv
    refine ⟨c', g', f', a', rd', ag', mf', na', nb', nl', sv', ?_, ?_, ⟨n, π, u, u', rR_mono m5 (by omega), by omega⟩, m10, fun k h1 h2 => ?_, fun w hw => ?_, fun k hk => ?_, fun k h1 h2 => by rw [m6 k (by omega), k4 k (by omega), r2 k (by omega)], rb_G_trans (rb_G_same (fun t ht => ?_)) m11⟩
    · simp (maxSteps := 3000000) (disch := omega) only [↓reduceIte, Nat.reduceEqDiff, Nat.reduceLeDiff, eq_self, not_true_eq_false, not_false_eq_true, li_0, li_1, li_2, li_3, li_4, li_5, li_6, li_7, li_8, li_9, li_10, li_11, li_12, li_13, li_14, li_15, li_16, li_17, li_18, li_19, li_20, li_21, li_22, li_23, li_24, li_25, li_26, li_27, li_28, li_29, li_30, li_31, li_32, li_33, li_34, li_35, li_36, li_37, li_38, li_39, li_40, li_41, li_42, li_47, li_50, li_60, li_63, li_75, li_100, li_103, li_131, li_159, li_184, li_187, li_215, li_243, li_256, li_271, li_296, li_299, li_323, li_347, li_371, li_395, li_419, li_443, li_467, li_491, li_515, li_539, li_545, li_551, li_557, li_560, li_563, li_569, li_575, li_581, li_587, li_593, li_599, li_605, li_629, li_653, li_677, li_725, li_773, li_794, li_795, li_796, li_1000, li_1546, li_1592, li_6184, li_9552, li_10049, li_10348, li_100000, rb_mI, nI_add, nI_mul, nI_leI, nI_ltI, nI_eq, rb_rdn, rb_wrn, rb_n0, rb_m0, rb_m1n, rb_nm1, rb_m1lt, rb_m1le, rb_0m1, rb_ltm1, rb_lem1, Nat.add_zero, Nat.zero_le, Nat.not_lt_zero, Nat.one_ne_zero, Option.bind_some, Option.bind_none, Option.some.injEq, if_true, if_false, ite_true, ite_false, Sum.elim_inl, Sum.elim_inr, xn_ofObject, xn_ofPipe, xn_ofInterest, xn_ofTask, xn_kindOf, xn_bitsOf7, xn_isInterest, xn_isAsleep, xn_objectAt, xn_pipeAt, xn_interestAt, xn_taskAt, rb_nz0, rb_nz1, rb_n10, Nat.one_ne_zero, eq_self, rb_upe, rb_upn, eb, ey, hey, e5, hb0, ex, k1, m1, m2]
    · subst ha
      simp (maxSteps := 3000000) (disch := omega) only [↓reduceIte, Nat.reduceEqDiff, Nat.reduceLeDiff, eq_self, not_true_eq_false, not_false_eq_true, li_0, li_1, li_2, li_3, li_4, li_5, li_6, li_7, li_8, li_9, li_10, li_11, li_12, li_13, li_14, li_15, li_16, li_17, li_18, li_19, li_20, li_21, li_22, li_23, li_24, li_25, li_26, li_27, li_28, li_29, li_30, li_31, li_32, li_33, li_34, li_35, li_36, li_37, li_38, li_39, li_40, li_41, li_42, li_47, li_50, li_60, li_63, li_75, li_100, li_103, li_131, li_159, li_184, li_187, li_215, li_243, li_256, li_271, li_296, li_299, li_323, li_347, li_371, li_395, li_419, li_443, li_467, li_491, li_515, li_539, li_545, li_551, li_557, li_560, li_563, li_569, li_575, li_581, li_587, li_593, li_599, li_605, li_629, li_653, li_677, li_725, li_773, li_794, li_795, li_796, li_1000, li_1546, li_1592, li_6184, li_9552, li_10049, li_10348, li_100000, rb_mI, nI_add, nI_mul, nI_leI, nI_ltI, nI_eq, rb_rdn, rb_wrn, rb_n0, rb_m0, rb_m1n, rb_nm1, rb_m1lt, rb_m1le, rb_0m1, rb_ltm1, rb_lem1, Nat.add_zero, Nat.zero_le, Nat.not_lt_zero, Nat.one_ne_zero, Option.bind_some, Option.bind_none, Option.some.injEq, if_true, if_false, ite_true, ite_false, Sum.elim_inl, Sum.elim_inr, xn_ofObject, xn_ofPipe, xn_ofInterest, xn_ofTask, xn_kindOf, xn_bitsOf7, xn_isInterest, xn_isAsleep, xn_objectAt, xn_pipeAt, xn_interestAt, xn_taskAt, rb_nz0, rb_nz1, rb_n10, Nat.one_ne_zero, eq_self, er, hisF, k2, exA, m3]
    · rw [m6 k (by omega), k4 k (by omega), r2 k (by omega)]
    · have q1 := m7.2.2.1 w 0 hw (by omega)
      have q2 := k5.2.2.1 w 0 hw (by omega)
      have q3 := r3.2.2.1 w 0 hw (by omega)
      exact q1.trans (q2.trans q3)
    · rw [m7.1 k hk, k5.1 k hk, r3.1 k hk]
    · rcases k6 with ⟨_, g2, _⟩ | ⟨_, g2, _⟩
      · rw [g2, rb_upn (by omega), rb_upn (by omega), rb_upn (by omega), rb_upn (by omega)]
      · rw [g2, rb_upn (by omega)]
/-- a step: told anew, as it is -/
theorem ra_rearm {B q : Nat} {c a : rb_Row} (h : rb_RB B q c a) (hb : B + q + 20000 < 2000000000) (v0 v1 : Int32) (g f rd ag mf na nb nl sv : rb_Row) : ∃ (b : Nat) (th : Int32) (c' g' f' a' rd' ag' mf' na' nb' nl' sv' : rb_Row), b ≤ 1 ∧ XX0_findInterest c v0 v1 = some th ∧ XX0_armInterest c g f th = some (nI b, c', g', f') ∧ XX7_changeAsIs a rd ag mf na nb nl sv v0 v1 = some (nI b, a', rd', ag', mf', na', nb', nl', sv') ∧ rb_RB (B + 700) q c' a' ∧ (∀ k, k ≠ 3 → k ≠ 11 → mf' k = mf k) ∧ (∀ k, 593 ≤ k → k < 677 → c' k = c k) ∧ rb_GT c c' := by
  have hRB := h
  obtain ⟨n, π, s, s', hR, hB⟩ := h
  obtain ⟨o, e1, e2, hn⟩ := rp_found hR v0 v1
  cases o with
  | none =>
    refine ⟨0, mI, c, g, f, a, rd, ag, mf, na, nb, nl, sv, by omega, e1, ?_, ?_, rb_RB_mono hRB (by omega), fun _ _ _ => rfl, fun _ _ _ => rfl, rb_GT_same (fun _ _ => rfl)⟩
    · unfold XX0_armInterest
      simp (disch := omega) only [↓reduceIte, Nat.reduceEqDiff, Nat.reduceLeDiff, eq_self, not_true_eq_false, not_false_eq_true, li_0, li_1, li_2, li_3, li_4, li_5, li_6, li_7, li_8, li_9, li_10, li_11, li_12, li_13, li_14, li_15, li_16, li_17, li_18, li_19, li_20, li_21, li_22, li_23, li_24, li_25, li_26, li_27, li_28, li_29, li_30, li_31, li_32, li_33, li_34, li_35, li_36, li_37, li_38, li_39, li_40, li_41, li_42, li_47, li_50, li_60, li_63, li_75, li_100, li_103, li_131, li_159, li_184, li_187, li_215, li_243, li_256, li_271, li_296, li_299, li_323, li_347, li_371, li_395, li_419, li_443, li_467, li_491, li_515, li_539, li_545, li_551, li_557, li_560, li_563, li_569, li_575, li_581, li_587, li_593, li_599, li_605, li_629, li_653, li_677, li_725, li_773, li_794, li_795, li_796, li_1000, li_1546, li_1592, li_6184, li_9552, li_10049, li_10348, li_100000, rb_mI, nI_add, nI_mul, nI_leI, nI_ltI, nI_eq, rb_rdn, rb_wrn, rb_n0, rb_m0, rb_m1n, rb_nm1, rb_m1lt, rb_m1le, rb_0m1, rb_ltm1, rb_lem1, Nat.add_zero, Nat.zero_le, Nat.not_lt_zero, Nat.one_ne_zero, Option.bind_some, Option.bind_none, Option.some.injEq, if_true, if_false, ite_true, ite_false, Sum.elim_inl, Sum.elim_inr, xn_ofObject, xn_ofPipe, xn_ofInterest, xn_ofTask, xn_kindOf, xn_bitsOf7, xn_isInterest, xn_isAsleep, xn_objectAt, xn_pipeAt, xn_interestAt, xn_taskAt, rb_nz0, rb_nz1, rb_n10, Nat.one_ne_zero, eq_self]
    · unfold XX7_changeAsIs
      rw [e2]
      simp (disch := omega) only [↓reduceIte, Nat.reduceEqDiff, Nat.reduceLeDiff, eq_self, not_true_eq_false, not_false_eq_true, li_0, li_1, li_2, li_3, li_4, li_5, li_6, li_7, li_8, li_9, li_10, li_11, li_12, li_13, li_14, li_15, li_16, li_17, li_18, li_19, li_20, li_21, li_22, li_23, li_24, li_25, li_26, li_27, li_28, li_29, li_30, li_31, li_32, li_33, li_34, li_35, li_36, li_37, li_38, li_39, li_40, li_41, li_42, li_47, li_50, li_60, li_63, li_75, li_100, li_103, li_131, li_159, li_184, li_187, li_215, li_243, li_256, li_271, li_296, li_299, li_323, li_347, li_371, li_395, li_419, li_443, li_467, li_491, li_515, li_539, li_545, li_551, li_557, li_560, li_563, li_569, li_575, li_581, li_587, li_593, li_599, li_605, li_629, li_653, li_677, li_725, li_773, li_794, li_795, li_796, li_1000, li_1546, li_1592, li_6184, li_9552, li_10049, li_10348, li_100000, rb_mI, nI_add, nI_mul, nI_leI, nI_ltI, nI_eq, rb_rdn, rb_wrn, rb_n0, rb_m0, rb_m1n, rb_nm1, rb_m1lt, rb_m1le, rb_0m1, rb_ltm1, rb_lem1, Nat.add_zero, Nat.zero_le, Nat.not_lt_zero, Nat.one_ne_zero, Option.bind_some, Option.bind_none, Option.some.injEq, if_true, if_false, ite_true, ite_false, Sum.elim_inl, Sum.elim_inr, xn_ofObject, xn_ofPipe, xn_ofInterest, xn_ofTask, xn_kindOf, xn_bitsOf7, xn_isInterest, xn_isAsleep, xn_objectAt, xn_pipeAt, xn_interestAt, xn_taskAt, rb_nz0, rb_nz1, rb_n10, Nat.one_ne_zero, eq_self, rb_oi, Option.map_none]
  | some i =>
    have hi := hn i rfl
    have hp := (hR.2.2.1.1 i hi).1
    have haa : a = upd (upd a (296 + 11 * π i + 3) (a (296 + 11 * π i + 3))) (296 + 11 * π i + 4) (a (296 + 11 * π i + 4)) := by
      funext k
      simp only [rb_upi]
      by_cases h1 : k = 296 + 11 * π i + 4
      · rw [if_pos h1, h1]
      · rw [if_neg h1]
        by_cases h2 : k = 296 + 11 * π i + 3
        · rw [if_pos h2, h2]
        · rw [if_neg h2]
    obtain ⟨c', g', f', a', rd', ag', mf', na', nb', nl', sv', k1, k2, k3, k4, _, _, _, k8⟩ := rp_tell hR hB hb hi (a (296 + 11 * π i + 3)) (a (296 + 11 * π i + 4)) haa g f rd ag mf na nb nl sv
    refine ⟨1, nI i, c', g', f', a', rd', ag', mf', na', nb', nl', sv', by omega, e1, k1, ?_, k3, k4, k8.1, rb_GT_G k8.2⟩
    unfold XX7_changeAsIs
    rw [e2]
    simp (disch := omega) only [↓reduceIte, Nat.reduceEqDiff, Nat.reduceLeDiff, eq_self, not_true_eq_false, not_false_eq_true, li_0, li_1, li_2, li_3, li_4, li_5, li_6, li_7, li_8, li_9, li_10, li_11, li_12, li_13, li_14, li_15, li_16, li_17, li_18, li_19, li_20, li_21, li_22, li_23, li_24, li_25, li_26, li_27, li_28, li_29, li_30, li_31, li_32, li_33, li_34, li_35, li_36, li_37, li_38, li_39, li_40, li_41, li_42, li_47, li_50, li_60, li_63, li_75, li_100, li_103, li_131, li_159, li_184, li_187, li_215, li_243, li_256, li_271, li_296, li_299, li_323, li_347, li_371, li_395, li_419, li_443, li_467, li_491, li_515, li_539, li_545, li_551, li_557, li_560, li_563, li_569, li_575, li_581, li_587, li_593, li_599, li_605, li_629, li_653, li_677, li_725, li_773, li_794, li_795, li_796, li_1000, li_1546, li_1592, li_6184, li_9552, li_10049, li_10348, li_100000, rb_mI, nI_add, nI_mul, nI_leI, nI_ltI, nI_eq, rb_rdn, rb_wrn, rb_n0, rb_m0, rb_m1n, rb_nm1, rb_m1lt, rb_m1le, rb_0m1, rb_ltm1, rb_lem1, Nat.add_zero, Nat.zero_le, Nat.not_lt_zero, Nat.one_ne_zero, Option.bind_some, Option.bind_none, Option.some.injEq, if_true, if_false, ite_true, ite_false, Sum.elim_inl, Sum.elim_inr, xn_ofObject, xn_ofPipe, xn_ofInterest, xn_ofTask, xn_kindOf, xn_bitsOf7, xn_isInterest, xn_isAsleep, xn_objectAt, xn_pipeAt, xn_interestAt, xn_taskAt, rb_nz0, rb_nz1, rb_n10, Nat.one_ne_zero, eq_self, rb_oi, Option.map_some, k2]
