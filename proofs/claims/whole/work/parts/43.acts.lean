theorem rb_num {v : Int32} {N : Nat} (h0 : ¬ v < nI 0) (h1 : ¬ nI N ≤ v) (hN : N < 2 ^ 31) : ∃ h, h < N ∧ v = nI h := by
  rw [Int32.lt_iff_toInt_lt, nI_toInt (by omega)] at h0
  rw [Int32.le_iff_toInt_le, nI_toInt hN] at h1
  refine ⟨v.toInt.toNat, by omega, ?_⟩
  apply Int32.toInt_inj.mp
  rw [nI_toInt (by omega)]
  omega
theorem rp_between (v : Int32) {l m : Nat} (hl : l < 2 ^ 31) (hm : m < 2 ^ 31) : (∃ k, l ≤ k ∧ k ≤ m ∧ v = nI k ∧ XX6_between v (nI l) (nI m) = some (nI 1) ∧ XX7_isIn v (nI l) (nI m) = some (nI 1)) ∨ (XX6_between v (nI l) (nI m) = some (nI 0) ∧ XX7_isIn v (nI l) (nI m) = some (nI 0)) := by
  unfold XX6_between XX7_isIn
  by_cases h1 : v < nI l
  · exact Or.inr (by simp only [h1, if_true]; decide)
  · by_cases h2 : nI m < v
    · exact Or.inr (by simp only [h1, h2, if_true, if_false]; decide)
    · refine Or.inl ⟨v.toInt.toNat, ?_⟩
      simp only [h1, h2, if_false]
      rw [Int32.lt_iff_toInt_lt, nI_toInt hl] at h1
      rw [Int32.lt_iff_toInt_lt, nI_toInt hm] at h2
      refine ⟨by omega, by omega, ?_, by decide, by decide⟩
      apply Int32.toInt_inj.mp
      rw [nI_toInt (by omega)]
      omega
theorem rp_thing {z s s' : Nat} {c a : rb_Row} (h : rH z s s' c a) (v : Int32) : (XX5_thingOf c v = some mI ∧ XX7_isHandle a v = some (nI 0)) ∨ (∃ k x, k < 16 ∧ x < 28 ∧ v = nI k ∧ c (3 + k) = nI x ∧ a k = nI x ∧ rb_live c x ∧ c (243 + x) = mI ∧ x ≠ z ∧ XX5_thingOf c v = some (nI x) ∧ XX7_isHandle a v = some (nI 1)) := by
  have key : ∀ k, k < 16 → ((XX5_thingOf c (nI k) = some mI ∧ XX7_isHandle a (nI k) = some (nI 0)) ∨ (∃ x, x < 28 ∧ c (3 + k) = nI x ∧ a k = nI x ∧ rb_live c x ∧ c (243 + x) = mI ∧ x ≠ z ∧ XX5_thingOf c (nI k) = some (nI x) ∧ XX7_isHandle a (nI k) = some (nI 1))) := by
    intro k hk
    obtain ⟨e1, e2, e3⟩ := h.1 k hk
    have hin : XX7_isIn (nI k) 0 15 = some (nI 1) := by
      unfold XX7_isIn
      simp (disch := omega) only [li_0, li_1, li_2, li_3, li_4, li_5, li_6, li_7, li_8, li_9, li_10, li_11, li_12, li_13, li_14, li_15, li_16, li_17, li_18, li_19, li_20, li_21, li_22, li_23, li_24, li_25, li_26, li_27, li_28, li_29, li_30, li_31, li_32, li_33, li_34, li_35, li_36, li_37, li_38, li_39, li_40, li_41, li_42, li_47, li_50, li_60, li_63, li_75, li_100, li_103, li_131, li_159, li_184, li_187, li_215, li_243, li_256, li_271, li_296, li_299, li_323, li_347, li_371, li_395, li_419, li_443, li_467, li_491, li_515, li_539, li_545, li_551, li_557, li_560, li_563, li_569, li_575, li_581, li_587, li_593, li_599, li_605, li_629, li_653, li_677, li_725, li_773, li_794, li_795, li_796, li_1000, li_1546, li_1592, li_6184, li_9552, li_10049, li_10348, li_100000, rb_mI, nI_add, nI_mul, nI_leI, nI_ltI, nI_eq, rb_rdn, rb_wrn, rb_n0, rb_m0, rb_m1n, rb_nm1, rb_m1lt, rb_m1le, rb_0m1, rb_ltm1, rb_lem1, Nat.add_zero, Nat.zero_le, Nat.not_lt_zero, Nat.one_ne_zero, Option.bind_some, Option.bind_none, Option.some.injEq, if_true, if_false, ite_true, ite_false, Sum.elim_inl, Sum.elim_inr, rb_nz1]
      rw [if_neg (by omega)]
    unfold XX5_thingOf XX7_isHandle
    rcases e3 with e3 | ⟨x, hx, ex, hl, hw⟩
    · refine Or.inl ⟨?_, ?_⟩
      · simp (disch := omega) only [li_0, li_1, li_2, li_3, li_4, li_5, li_6, li_7, li_8, li_9, li_10, li_11, li_12, li_13, li_14, li_15, li_16, li_17, li_18, li_19, li_20, li_21, li_22, li_23, li_24, li_25, li_26, li_27, li_28, li_29, li_30, li_31, li_32, li_33, li_34, li_35, li_36, li_37, li_38, li_39, li_40, li_41, li_42, li_47, li_50, li_60, li_63, li_75, li_100, li_103, li_131, li_159, li_184, li_187, li_215, li_243, li_256, li_271, li_296, li_299, li_323, li_347, li_371, li_395, li_419, li_443, li_467, li_491, li_515, li_539, li_545, li_551, li_557, li_560, li_563, li_569, li_575, li_581, li_587, li_593, li_599, li_605, li_629, li_653, li_677, li_725, li_773, li_794, li_795, li_796, li_1000, li_1546, li_1592, li_6184, li_9552, li_10049, li_10348, li_100000, rb_mI, nI_add, nI_mul, nI_leI, nI_ltI, nI_eq, rb_rdn, rb_wrn, rb_n0, rb_m0, rb_m1n, rb_nm1, rb_m1lt, rb_m1le, rb_0m1, rb_ltm1, rb_lem1, Nat.add_zero, Nat.zero_le, Nat.not_lt_zero, Nat.one_ne_zero, Option.bind_some, Option.bind_none, Option.some.injEq, if_true, if_false, ite_true, ite_false, Sum.elim_inl, Sum.elim_inr, e3]
        rw [if_neg (by omega)]
      · rw [hin]
        simp (disch := omega) only [li_0, li_1, li_2, li_3, li_4, li_5, li_6, li_7, li_8, li_9, li_10, li_11, li_12, li_13, li_14, li_15, li_16, li_17, li_18, li_19, li_20, li_21, li_22, li_23, li_24, li_25, li_26, li_27, li_28, li_29, li_30, li_31, li_32, li_33, li_34, li_35, li_36, li_37, li_38, li_39, li_40, li_41, li_42, li_47, li_50, li_60, li_63, li_75, li_100, li_103, li_131, li_159, li_184, li_187, li_215, li_243, li_256, li_271, li_296, li_299, li_323, li_347, li_371, li_395, li_419, li_443, li_467, li_491, li_515, li_539, li_545, li_551, li_557, li_560, li_563, li_569, li_575, li_581, li_587, li_593, li_599, li_605, li_629, li_653, li_677, li_725, li_773, li_794, li_795, li_796, li_1000, li_1546, li_1592, li_6184, li_9552, li_10049, li_10348, li_100000, rb_mI, nI_add, nI_mul, nI_leI, nI_ltI, nI_eq, rb_rdn, rb_wrn, rb_n0, rb_m0, rb_m1n, rb_nm1, rb_m1lt, rb_m1le, rb_0m1, rb_ltm1, rb_lem1, Nat.add_zero, Nat.zero_le, Nat.not_lt_zero, Nat.one_ne_zero, Option.bind_some, Option.bind_none, Option.some.injEq, if_true, if_false, ite_true, ite_false, Sum.elim_inl, Sum.elim_inr, xn_ofObject, xn_ofPipe, xn_ofInterest, xn_ofTask, xn_kindOf, xn_bitsOf7, xn_isInterest, xn_isAsleep, xn_objectAt, xn_pipeAt, xn_interestAt, xn_taskAt, rb_nz0, rb_nz1, rb_n10, Nat.one_ne_zero, eq_self, e1, e3]
    · refine Or.inr ⟨x, hx, ex, by rw [e1]; exact ex, hl, hw, fun g => e2 (by rw [ex, g]), ?_, ?_⟩
      · simp (disch := omega) only [li_0, li_1, li_2, li_3, li_4, li_5, li_6, li_7, li_8, li_9, li_10, li_11, li_12, li_13, li_14, li_15, li_16, li_17, li_18, li_19, li_20, li_21, li_22, li_23, li_24, li_25, li_26, li_27, li_28, li_29, li_30, li_31, li_32, li_33, li_34, li_35, li_36, li_37, li_38, li_39, li_40, li_41, li_42, li_47, li_50, li_60, li_63, li_75, li_100, li_103, li_131, li_159, li_184, li_187, li_215, li_243, li_256, li_271, li_296, li_299, li_323, li_347, li_371, li_395, li_419, li_443, li_467, li_491, li_515, li_539, li_545, li_551, li_557, li_560, li_563, li_569, li_575, li_581, li_587, li_593, li_599, li_605, li_629, li_653, li_677, li_725, li_773, li_794, li_795, li_796, li_1000, li_1546, li_1592, li_6184, li_9552, li_10049, li_10348, li_100000, rb_mI, nI_add, nI_mul, nI_leI, nI_ltI, nI_eq, rb_rdn, rb_wrn, rb_n0, rb_m0, rb_m1n, rb_nm1, rb_m1lt, rb_m1le, rb_0m1, rb_ltm1, rb_lem1, Nat.add_zero, Nat.zero_le, Nat.not_lt_zero, Nat.one_ne_zero, Option.bind_some, Option.bind_none, Option.some.injEq, if_true, if_false, ite_true, ite_false, Sum.elim_inl, Sum.elim_inr, ex]
        rw [if_neg (by omega)]
      · rw [hin]
        simp (disch := omega) only [li_0, li_1, li_2, li_3, li_4, li_5, li_6, li_7, li_8, li_9, li_10, li_11, li_12, li_13, li_14, li_15, li_16, li_17, li_18, li_19, li_20, li_21, li_22, li_23, li_24, li_25, li_26, li_27, li_28, li_29, li_30, li_31, li_32, li_33, li_34, li_35, li_36, li_37, li_38, li_39, li_40, li_41, li_42, li_47, li_50, li_60, li_63, li_75, li_100, li_103, li_131, li_159, li_184, li_187, li_215, li_243, li_256, li_271, li_296, li_299, li_323, li_347, li_371, li_395, li_419, li_443, li_467, li_491, li_515, li_539, li_545, li_551, li_557, li_560, li_563, li_569, li_575, li_581, li_587, li_593, li_599, li_605, li_629, li_653, li_677, li_725, li_773, li_794, li_795, li_796, li_1000, li_1546, li_1592, li_6184, li_9552, li_10049, li_10348, li_100000, rb_mI, nI_add, nI_mul, nI_leI, nI_ltI, nI_eq, rb_rdn, rb_wrn, rb_n0, rb_m0, rb_m1n, rb_nm1, rb_m1lt, rb_m1le, rb_0m1, rb_ltm1, rb_lem1, Nat.add_zero, Nat.zero_le, Nat.not_lt_zero, Nat.one_ne_zero, Option.bind_some, Option.bind_none, Option.some.injEq, if_true, if_false, ite_true, ite_false, Sum.elim_inl, Sum.elim_inr, xn_ofObject, xn_ofPipe, xn_ofInterest, xn_ofTask, xn_kindOf, xn_bitsOf7, xn_isInterest, xn_isAsleep, xn_objectAt, xn_pipeAt, xn_interestAt, xn_taskAt, rb_nz0, rb_nz1, rb_n10, Nat.one_ne_zero, eq_self, e1, ex]
  by_cases h0 : v < nI 0
  · refine Or.inl ⟨?_, ?_⟩
    · unfold XX5_thingOf
      simp (disch := omega) only [li_0, li_1, li_2, li_3, li_4, li_5, li_6, li_7, li_8, li_9, li_10, li_11, li_12, li_13, li_14, li_15, li_16, li_17, li_18, li_19, li_20, li_21, li_22, li_23, li_24, li_25, li_26, li_27, li_28, li_29, li_30, li_31, li_32, li_33, li_34, li_35, li_36, li_37, li_38, li_39, li_40, li_41, li_42, li_47, li_50, li_60, li_63, li_75, li_100, li_103, li_131, li_159, li_184, li_187, li_215, li_243, li_256, li_271, li_296, li_299, li_323, li_347, li_371, li_395, li_419, li_443, li_467, li_491, li_515, li_539, li_545, li_551, li_557, li_560, li_563, li_569, li_575, li_581, li_587, li_593, li_599, li_605, li_629, li_653, li_677, li_725, li_773, li_794, li_795, li_796, li_1000, li_1546, li_1592, li_6184, li_9552, li_10049, li_10348, li_100000, rb_mI, nI_add, nI_mul, nI_leI, nI_ltI, nI_eq, rb_rdn, rb_wrn, rb_n0, rb_m0, rb_m1n, rb_nm1, rb_m1lt, rb_m1le, rb_0m1, rb_ltm1, rb_lem1, Nat.add_zero, Nat.zero_le, Nat.not_lt_zero, Nat.one_ne_zero, Option.bind_some, Option.bind_none, Option.some.injEq, if_true, if_false, ite_true, ite_false, Sum.elim_inl, Sum.elim_inr, h0]
    · unfold XX7_isHandle XX7_isIn
      simp (disch := omega) only [li_0, li_1, li_2, li_3, li_4, li_5, li_6, li_7, li_8, li_9, li_10, li_11, li_12, li_13, li_14, li_15, li_16, li_17, li_18, li_19, li_20, li_21, li_22, li_23, li_24, li_25, li_26, li_27, li_28, li_29, li_30, li_31, li_32, li_33, li_34, li_35, li_36, li_37, li_38, li_39, li_40, li_41, li_42, li_47, li_50, li_60, li_63, li_75, li_100, li_103, li_131, li_159, li_184, li_187, li_215, li_243, li_256, li_271, li_296, li_299, li_323, li_347, li_371, li_395, li_419, li_443, li_467, li_491, li_515, li_539, li_545, li_551, li_557, li_560, li_563, li_569, li_575, li_581, li_587, li_593, li_599, li_605, li_629, li_653, li_677, li_725, li_773, li_794, li_795, li_796, li_1000, li_1546, li_1592, li_6184, li_9552, li_10049, li_10348, li_100000, rb_mI, nI_add, nI_mul, nI_leI, nI_ltI, nI_eq, rb_rdn, rb_wrn, rb_n0, rb_m0, rb_m1n, rb_nm1, rb_m1lt, rb_m1le, rb_0m1, rb_ltm1, rb_lem1, Nat.add_zero, Nat.zero_le, Nat.not_lt_zero, Nat.one_ne_zero, Option.bind_some, Option.bind_none, Option.some.injEq, if_true, if_false, ite_true, ite_false, Sum.elim_inl, Sum.elim_inr, xn_ofObject, xn_ofPipe, xn_ofInterest, xn_ofTask, xn_kindOf, xn_bitsOf7, xn_isInterest, xn_isAsleep, xn_objectAt, xn_pipeAt, xn_interestAt, xn_taskAt, rb_nz0, rb_nz1, rb_n10, Nat.one_ne_zero, eq_self, h0]
  · by_cases h1 : nI 16 ≤ v
    · refine Or.inl ⟨?_, ?_⟩
      · unfold XX5_thingOf
        simp (disch := omega) only [li_0, li_1, li_2, li_3, li_4, li_5, li_6, li_7, li_8, li_9, li_10, li_11, li_12, li_13, li_14, li_15, li_16, li_17, li_18, li_19, li_20, li_21, li_22, li_23, li_24, li_25, li_26, li_27, li_28, li_29, li_30, li_31, li_32, li_33, li_34, li_35, li_36, li_37, li_38, li_39, li_40, li_41, li_42, li_47, li_50, li_60, li_63, li_75, li_100, li_103, li_131, li_159, li_184, li_187, li_215, li_243, li_256, li_271, li_296, li_299, li_323, li_347, li_371, li_395, li_419, li_443, li_467, li_491, li_515, li_539, li_545, li_551, li_557, li_560, li_563, li_569, li_575, li_581, li_587, li_593, li_599, li_605, li_629, li_653, li_677, li_725, li_773, li_794, li_795, li_796, li_1000, li_1546, li_1592, li_6184, li_9552, li_10049, li_10348, li_100000, rb_mI, nI_add, nI_mul, nI_leI, nI_ltI, nI_eq, rb_rdn, rb_wrn, rb_n0, rb_m0, rb_m1n, rb_nm1, rb_m1lt, rb_m1le, rb_0m1, rb_ltm1, rb_lem1, Nat.add_zero, Nat.zero_le, Nat.not_lt_zero, Nat.one_ne_zero, Option.bind_some, Option.bind_none, Option.some.injEq, if_true, if_false, ite_true, ite_false, Sum.elim_inl, Sum.elim_inr, h0, h1]
      · have h2 : nI 15 < v := by
          rw [Int32.lt_iff_toInt_lt, nI_toInt (by omega)]
          rw [Int32.le_iff_toInt_le, nI_toInt (by omega)] at h1
          omega
        unfold XX7_isHandle XX7_isIn
        simp (disch := omega) only [li_0, li_1, li_2, li_3, li_4, li_5, li_6, li_7, li_8, li_9, li_10, li_11, li_12, li_13, li_14, li_15, li_16, li_17, li_18, li_19, li_20, li_21, li_22, li_23, li_24, li_25, li_26, li_27, li_28, li_29, li_30, li_31, li_32, li_33, li_34, li_35, li_36, li_37, li_38, li_39, li_40, li_41, li_42, li_47, li_50, li_60, li_63, li_75, li_100, li_103, li_131, li_159, li_184, li_187, li_215, li_243, li_256, li_271, li_296, li_299, li_323, li_347, li_371, li_395, li_419, li_443, li_467, li_491, li_515, li_539, li_545, li_551, li_557, li_560, li_563, li_569, li_575, li_581, li_587, li_593, li_599, li_605, li_629, li_653, li_677, li_725, li_773, li_794, li_795, li_796, li_1000, li_1546, li_1592, li_6184, li_9552, li_10049, li_10348, li_100000, rb_mI, nI_add, nI_mul, nI_leI, nI_ltI, nI_eq, rb_rdn, rb_wrn, rb_n0, rb_m0, rb_m1n, rb_nm1, rb_m1lt, rb_m1le, rb_0m1, rb_ltm1, rb_lem1, Nat.add_zero, Nat.zero_le, Nat.not_lt_zero, Nat.one_ne_zero, Option.bind_some, Option.bind_none, Option.some.injEq, if_true, if_false, ite_true, ite_false, Sum.elim_inl, Sum.elim_inr, xn_ofObject, xn_ofPipe, xn_ofInterest, xn_ofTask, xn_kindOf, xn_bitsOf7, xn_isInterest, xn_isAsleep, xn_objectAt, xn_pipeAt, xn_interestAt, xn_taskAt, rb_nz0, rb_nz1, rb_n10, Nat.one_ne_zero, eq_self, h0, h2]
    · obtain ⟨k, hk, e⟩ := rb_num h0 h1 (by omega)
      subst e
      rcases key k hk with g | ⟨x, g⟩
      · exact Or.inl g
      · exact Or.inr ⟨k, x, hk, g.1, rfl, g.2⟩
theorem xn_kindOf5 {c : rb_Row} {v : Int32} {x : Nat} (k : Int32) (hx : x < 28) (e : XX5_thingOf c v = some (nI x)) : XX5_thingOfKind c v k = some (if c (19 + x) = k then nI x else mI) := by
  unfold XX5_thingOfKind
  rw [e]
  simp (disch := omega) only [li_0, li_1, li_2, li_3, li_4, li_5, li_6, li_7, li_8, li_9, li_10, li_11, li_12, li_13, li_14, li_15, li_16, li_17, li_18, li_19, li_20, li_21, li_22, li_23, li_24, li_25, li_26, li_27, li_28, li_29, li_30, li_31, li_32, li_33, li_34, li_35, li_36, li_37, li_38, li_39, li_40, li_41, li_42, li_47, li_50, li_60, li_63, li_75, li_100, li_103, li_131, li_159, li_184, li_187, li_215, li_243, li_256, li_271, li_296, li_299, li_323, li_347, li_371, li_395, li_419, li_443, li_467, li_491, li_515, li_539, li_545, li_551, li_557, li_560, li_563, li_569, li_575, li_581, li_587, li_593, li_599, li_605, li_629, li_653, li_677, li_725, li_773, li_794, li_795, li_796, li_1000, li_1546, li_1592, li_6184, li_9552, li_10049, li_10348, li_100000, rb_mI, nI_add, nI_mul, nI_leI, nI_ltI, nI_eq, rb_rdn, rb_wrn, rb_n0, rb_m0, rb_m1n, rb_nm1, rb_m1lt, rb_m1le, rb_0m1, rb_ltm1, rb_lem1, Nat.add_zero, Nat.zero_le, Nat.not_lt_zero, Nat.one_ne_zero, Option.bind_some, Option.bind_none, Option.some.injEq, if_true, if_false, ite_true, ite_false, Sum.elim_inl, Sum.elim_inr]
  by_cases h : c (19 + x) = k <;> simp [h]
theorem xn_kindOf5n {c : rb_Row} {v : Int32} (k : Int32) (e : XX5_thingOf c v = some mI) : XX5_thingOfKind c v k = some mI := by
  unfold XX5_thingOfKind
  rw [e]
  simp (disch := omega) only [li_0, li_1, li_2, li_3, li_4, li_5, li_6, li_7, li_8, li_9, li_10, li_11, li_12, li_13, li_14, li_15, li_16, li_17, li_18, li_19, li_20, li_21, li_22, li_23, li_24, li_25, li_26, li_27, li_28, li_29, li_30, li_31, li_32, li_33, li_34, li_35, li_36, li_37, li_38, li_39, li_40, li_41, li_42, li_47, li_50, li_60, li_63, li_75, li_100, li_103, li_131, li_159, li_184, li_187, li_215, li_243, li_256, li_271, li_296, li_299, li_323, li_347, li_371, li_395, li_419, li_443, li_467, li_491, li_515, li_539, li_545, li_551, li_557, li_560, li_563, li_569, li_575, li_581, li_587, li_593, li_599, li_605, li_629, li_653, li_677, li_725, li_773, li_794, li_795, li_796, li_1000, li_1546, li_1592, li_6184, li_9552, li_10049, li_10348, li_100000, rb_mI, nI_add, nI_mul, nI_leI, nI_ltI, nI_eq, rb_rdn, rb_wrn, rb_n0, rb_m0, rb_m1n, rb_nm1, rb_m1lt, rb_m1le, rb_0m1, rb_ltm1, rb_lem1, Nat.add_zero, Nat.zero_le, Nat.not_lt_zero, Nat.one_ne_zero, Option.bind_some, Option.bind_none, Option.some.injEq, if_true, if_false, ite_true, ite_false, Sum.elim_inl, Sum.elim_inr]
theorem yn_names {a : rb_Row} {k x : Nat} (kd : Int32) (hk : k < 16) (hx : x < 28) (ea : a k = nI x) (e : XX7_isHandle a (nI k) = some (nI 1)) : XX7_names a (nI k) kd = some (if a (16 + 6 * x) = kd then nI 1 else nI 0) := by
  unfold XX7_names
  rw [e]
  simp (disch := omega) only [li_0, li_1, li_2, li_3, li_4, li_5, li_6, li_7, li_8, li_9, li_10, li_11, li_12, li_13, li_14, li_15, li_16, li_17, li_18, li_19, li_20, li_21, li_22, li_23, li_24, li_25, li_26, li_27, li_28, li_29, li_30, li_31, li_32, li_33, li_34, li_35, li_36, li_37, li_38, li_39, li_40, li_41, li_42, li_47, li_50, li_60, li_63, li_75, li_100, li_103, li_131, li_159, li_184, li_187, li_215, li_243, li_256, li_271, li_296, li_299, li_323, li_347, li_371, li_395, li_419, li_443, li_467, li_491, li_515, li_539, li_545, li_551, li_557, li_560, li_563, li_569, li_575, li_581, li_587, li_593, li_599, li_605, li_629, li_653, li_677, li_725, li_773, li_794, li_795, li_796, li_1000, li_1546, li_1592, li_6184, li_9552, li_10049, li_10348, li_100000, rb_mI, nI_add, nI_mul, nI_leI, nI_ltI, nI_eq, rb_rdn, rb_wrn, rb_n0, rb_m0, rb_m1n, rb_nm1, rb_m1lt, rb_m1le, rb_0m1, rb_ltm1, rb_lem1, Nat.add_zero, Nat.zero_le, Nat.not_lt_zero, Nat.one_ne_zero, Option.bind_some, Option.bind_none, Option.some.injEq, if_true, if_false, ite_true, ite_false, Sum.elim_inl, Sum.elim_inr, xn_ofObject, xn_ofPipe, xn_ofInterest, xn_ofTask, xn_kindOf, xn_bitsOf7, xn_isInterest, xn_isAsleep, xn_objectAt, xn_pipeAt, xn_interestAt, xn_taskAt, rb_nz0, rb_nz1, rb_n10, Nat.one_ne_zero, eq_self, ea]
  by_cases h : a (16 + 6 * x) = kd <;> simp [h]
theorem yn_namesn {a : rb_Row} {v : Int32} (kd : Int32) (e : XX7_isHandle a v = some (nI 0)) : XX7_names a v kd = some (nI 0) := by
  unfold XX7_names
  rw [e]
  simp (disch := omega) only [li_0, li_1, li_2, li_3, li_4, li_5, li_6, li_7, li_8, li_9, li_10, li_11, li_12, li_13, li_14, li_15, li_16, li_17, li_18, li_19, li_20, li_21, li_22, li_23, li_24, li_25, li_26, li_27, li_28, li_29, li_30, li_31, li_32, li_33, li_34, li_35, li_36, li_37, li_38, li_39, li_40, li_41, li_42, li_47, li_50, li_60, li_63, li_75, li_100, li_103, li_131, li_159, li_184, li_187, li_215, li_243, li_256, li_271, li_296, li_299, li_323, li_347, li_371, li_395, li_419, li_443, li_467, li_491, li_515, li_539, li_545, li_551, li_557, li_560, li_563, li_569, li_575, li_581, li_587, li_593, li_599, li_605, li_629, li_653, li_677, li_725, li_773, li_794, li_795, li_796, li_1000, li_1546, li_1592, li_6184, li_9552, li_10049, li_10348, li_100000, rb_mI, nI_add, nI_mul, nI_leI, nI_ltI, nI_eq, rb_rdn, rb_wrn, rb_n0, rb_m0, rb_m1n, rb_nm1, rb_m1lt, rb_m1le, rb_0m1, rb_ltm1, rb_lem1, Nat.add_zero, Nat.zero_le, Nat.not_lt_zero, Nat.one_ne_zero, Option.bind_some, Option.bind_none, Option.some.injEq, if_true, if_false, ite_true, ite_false, Sum.elim_inl, Sum.elim_inr, xn_ofObject, xn_ofPipe, xn_ofInterest, xn_ofTask, xn_kindOf, xn_bitsOf7, xn_isInterest, xn_isAsleep, xn_objectAt, xn_pipeAt, xn_interestAt, xn_taskAt, rb_nz0, rb_nz1, rb_n10, Nat.one_ne_zero, eq_self]
/-- timers: when it is due next -/
theorem rp_next {z W q n : Nat} {π : Nat → Nat} {s s' : Nat} {c a : rb_Row} (h : rR z W q n π s s' c a) {x : Nat} (hx : x < 28) (hk : c (19 + x) = nI 3) (nx ev ev' : Int32) (hev : nx = mI ∨ ev' = ev) : rR z W q n π s s' (upd (upd c (159 + x) nx) (187 + x) ev) (upd (upd a (16 + 6 * x + 2) nx) (16 + 6 * x + 3) ev') := by
  refine rR_data h (fun k hk => by simp (disch := omega) only [rb_upn]) (fun k hk => by simp (disch := omega) only [rb_upn]) (fun y hy => by simp (disch := omega) only [rb_upn]; exact ⟨trivial, trivial, trivial⟩) (fun p hp => by simp (disch := omega) only [rb_upn]; exact ⟨trivial, trivial⟩) (fun y e hy he ey => by simp (disch := omega) only [rb_upn]) (fun w hw => ?_)
  by_cases e : w = x
  · subst e
    rcases (h.2.1.2.1 w hw).2 with g | ⟨e, p, r, b, g0, g1, _⟩ | ⟨b', g1, g2, _⟩ | ⟨b', g1, g2, g3, g4, g5, g6, g7, g8⟩ | g | ⟨k, r, g1, g⟩
    · rw [g.1] at hk
      exact absurd hk.symm (rb_nmm (by omega))
    · rw [g1] at hk
      have := (nI_eq (by omega) (by omega)).mp hk; omega
    · rw [g2] at hk
      have := (nI_eq (by omega) (by omega)).mp hk; omega
    · refine Or.inr (Or.inr (Or.inr (Or.inl ⟨b', g1, ?_⟩)))
      simp (disch := omega) only [rb_upn, rb_upe]
      exact ⟨g2, g3, g4, g5, g6, trivial, hev⟩
    · rw [g.1] at hk
      have := (nI_eq (by omega) (by omega)).mp hk; omega
    · rw [g1] at hk
      have := (nI_eq (by omega) (by omega)).mp hk; omega
  · refine rO_keep hw (fun j hj => ?_) (fun f h1 h2 => ?_) (fun p e hp he h1 h2 f hf => ?_) (fun _ _ => ?_) (h.2.1.2.1 w hw).2
    · simp (disch := omega) only [rb_upn]
    · simp (disch := omega) only [rb_upn]
    · simp (disch := omega) only [rb_upn]
    · exact rb_cn_congr (fun y hy => by simp (disch := omega) only [rb_upn])
/-- the bytes of a pipe -/
theorem rp_bytes {z W q n : Nat} {π : Nat → Nat} {s s' : Nat} {c a c' : rb_Row} (h : rR z W q n π s s' c a) {x e p r b : Nat} (hx : x < 28) (he : e < 2) (hp : p < 28) (hk : c (19 + x) = nI e) (hv : a (16 + 6 * x + 1) = nI p) (hr : c (75 + x) = nI r) (hr' : r ≤ 100) (hb : b ≤ r) (h1 : c' (47 + x) = nI b) (h2 : ∀ y, y < 28 → c (131 + x) = nI y → c' (47 + y) = nI b) (h3 : ∀ k, k ≠ 47 + x → (∀ y, y < 28 → c (131 + x) = nI y → k ≠ 47 + y) → c' k = c k) : rR z W q n π s s' c' (upd a (184 + 4 * p + 1) (nI b)) := by
  have hc : ∀ k, (k < 47 ∨ 75 ≤ k) → c' k = c k := fun k hk => h3 k (by omega) (fun y hy _ => by omega)
  refine rR_data h (fun k hk => hc k (by omega)) (fun k hk => by simp (disch := omega) only [rb_upn]) (fun y hy => by simp (disch := omega) only [rb_upn]; exact ⟨trivial, trivial, trivial⟩) (fun p hp => by simp (disch := omega) only [rb_upn]; exact ⟨trivial, trivial⟩) (fun y e hy he ey => by simp (disch := omega) only [rb_upn]) (fun w hw => ?_)
  have hOx := (h.2.1.2.1 x hx).2
  have hOw := (h.2.1.2.1 w hw).2
  obtain ⟨e0, p0, r0, b0, g0, g1, g2, g3, g4, g5, g6, g7, g8, g9, g10, g11, g12, g13⟩ : ∃ e p r b, e < 2 ∧ c (19 + x) = nI e ∧ p < 28 ∧ a (16 + 6 * x + 1) = nI p ∧ a (184 + 4 * p + (2 + e)) = nI x ∧ a (184 + 4 * p + (3 - e)) = c (131 + x) ∧ a (184 + 4 * p + 1) = nI b ∧ c (47 + x) = nI b ∧ a (184 + 4 * p) = nI r ∧ c (75 + x) = nI r ∧ 1 ≤ r ∧ r ≤ 100 ∧ b ≤ r ∧ (c (131 + x) = mI ∨ ∃ y, y < 28 ∧ c (131 + x) = nI y) := by
    rcases hOx with g | g | ⟨b', _, g, _⟩ | ⟨b', _, g, _⟩ | ⟨g, _⟩ | ⟨k, r, g, _⟩
    · rw [g.1] at hk; exact absurd hk.symm (rb_nmm (by omega))
    · exact g
    · rw [g] at hk; have := (nI_eq (by omega) (by omega)).mp hk; omega
    · rw [g] at hk; have := (nI_eq (by omega) (by omega)).mp hk; omega
    · rw [g] at hk; have := (nI_eq (by omega) (by omega)).mp hk; omega
    · rw [g] at hk; have := (nI_eq (by omega) (by omega)).mp hk; omega
  have ee : e0 = e := by rw [hk] at g1; exact ((nI_eq (by omega) (by omega)).mp g1).symm
  have ep : p0 = p := by rw [hv] at g3; exact ((nI_eq (by omega) (by omega)).mp g3).symm
  have er : r0 = r := by rw [hr] at g9; exact ((nI_eq (by omega) (by omega)).mp g9).symm
  subst ee ep er
  have hpk : ∀ y, y < 28 → c (131 + x) = nI y → c (19 + y) = nI (1 - e0) := by
    intro w hw q
    have q2 : e0 = 0 ∨ e0 = 1 := by omega
    have h4 := h.2.1.2.2.2.1 p0 (1 - e0) g2 (by omega)
    have h5 : a (184 + 4 * p0 + (2 + (1 - e0))) = nI w := by
      rcases q2 with q2 | q2 <;> subst q2 <;> rw [← q, ← g5]
    rcases h4 with h4 | ⟨y, hy, h6, h7, h8⟩
    · rw [h5] at h4; exact absurd h4 (rb_nmm (by omega))
    · rw [h5] at h6
      have : w = y := (nI_eq (by omega) (by omega)).mp h6
      subst this
      exact h7
  have hoth : ∀ k, 2 ≤ k → k < 6 → c (19 + w) = nI k → rO z c' (upd a (184 + 4 * p0 + 1) (nI b)) w := by
    intro k hk2 hk6 ek
    have hwx : w ≠ x := fun q => by
      subst q
      rw [ek] at hk
      have := (nI_eq (by omega) (by omega)).mp hk; omega
    have hwp : c (131 + x) ≠ nI w := fun q => by
      have := hpk w hw q
      rw [ek] at this
      have := (nI_eq (by omega) (by omega)).mp this; omega
    have e47 : c' (47 + w) = c (47 + w) := h3 _ (by omega) (fun y hy q g => hwp ((show w = y by omega) ▸ q))
    refine rO_keep hw (fun j hj => ?_) (fun f h1 h2 => ?_) (fun p e hp he h1 h2 f hf => ?_) (fun _ _ => ?_) hOw
    · by_cases g : j = 1
      · subst g; exact e47
      · exact hc _ (by omega)
    · simp (disch := omega) only [rb_upn]
    · rw [ek] at h1
      have := (nI_eq (by omega) (by omega)).mp h1; omega
    · exact rb_cn_congr (fun y hy => by rw [hc _ (by omega)])
  rcases hOw with g | ⟨e2, p2, r2, b2, k0, k1, k2, k3, k4, k5, k6, k7, k8, k9, k10, k11, k12, k13⟩ | ⟨b', k1, k2, k3, k4⟩ | ⟨b', k1, k2, k3, k4⟩ | g | ⟨k, r, k1, g⟩
  · refine Or.inl ?_
    rw [hc _ (by omega), hc _ (by omega)]; exact g
  · by_cases epp : p2 = p0
    · subst epp
      -- one of both ends
      have hw' : w = x ∨ c (131 + x) = nI w := by
        have q1 : e2 = 0 ∨ e2 = 1 := by omega
        have q2 : e0 = 0 ∨ e0 = 1 := by omega
        rcases q1 with q1 | q1 <;> rcases q2 with q2 | q2 <;> subst q1 <;> subst q2
        · rw [g4] at k4; exact Or.inl ((nI_eq (by omega) (by omega)).mp k4).symm
        · exact Or.inr (by rw [← g5]; exact k4)
        · exact Or.inr (by rw [← g5]; exact k4)
        · rw [g4] at k4; exact Or.inl ((nI_eq (by omega) (by omega)).mp k4).symm
      have e47 : c' (47 + w) = nI b := by
        rcases hw' with q | q
        · rw [q]; exact h1
        · exact h2 w hw q
      have er2 : r2 = r0 := by rw [g8] at k8; exact ((nI_eq (by omega) (by omega)).mp k8).symm
      refine Or.inr (Or.inl ⟨e2, p2, r2, b, k0, ?_, k2, ?_, ?_, ?_, rb_upe rfl, e47, ?_, ?_, k10, k11, by omega, ?_⟩)
      · rw [hc _ (by omega)]; exact k1
      · rw [rb_upn (by omega)]; exact k3
      · rw [rb_upn (by omega)]; exact k4
      · rw [rb_upn (by omega), hc _ (by omega)]; exact k5
      · rw [rb_upn (by omega)]; exact k8
      · rw [hc _ (by omega)]; exact k9
      · rw [hc _ (by omega)]; exact k13
    · have hwx : w ≠ x := by
        intro q
        subst q
        rw [g3] at k3
        exact epp ((nI_eq (by omega) (by omega)).mp k3).symm
      have hwp : c (131 + x) ≠ nI w := by
        intro q
        have q2 : e0 = 0 ∨ e0 = 1 := by omega
        have h4 := h.2.1.2.2.2.1 p0 (1 - e0) g2 (by omega)
        have h5 : a (184 + 4 * p0 + (2 + (1 - e0))) = nI w := by
          rcases q2 with q2 | q2 <;> subst q2 <;> rw [← q, ← g5]
        rcases h4 with h4 | ⟨y, hy, h6, h7, h8⟩
        · rw [h5] at h4; exact absurd h4 (rb_nmm (by omega))
        · rw [h5] at h6
          have : w = y := (nI_eq (by omega) (by omega)).mp h6
          subst this
          rw [k3] at h8
          exact epp ((nI_eq (by omega) (by omega)).mp h8)
      have e47 : c' (47 + w) = c (47 + w) := h3 _ (by omega) (fun y hy q g => hwp ((show w = y by omega) ▸ q))
      refine Or.inr (Or.inl ⟨e2, p2, r2, b2, k0, ?_, k2, ?_, ?_, ?_, ?_, by rw [e47]; exact k7, ?_, ?_, k10, k11, k12, ?_⟩)
      · rw [hc _ (by omega)]; exact k1
      · rw [rb_upn (by omega)]; exact k3
      · rw [rb_upn (by omega)]; exact k4
      · rw [rb_upn (by omega), hc _ (by omega)]; exact k5
      · rw [rb_upn (by omega)]; exact k6
      · rw [rb_upn (by omega)]; exact k8
      · rw [hc _ (by omega)]; exact k9
      · rw [hc _ (by omega)]; exact k13
  · exact hoth 2 (by omega) (by omega) k2
  · exact hoth 3 (by omega) (by omega) k2
  · exact hoth 4 (by omega) (by omega) g.1
  · exact hoth 5 (by omega) (by omega) k1
