theorem rb_fd_iff {p : Nat → Bool} {n : Nat} : (rb_fd p n).isSome = true ↔ ∃ i, i < n ∧ p i = true := by
  cases h : rb_fd p n with
  | none =>
    have := rb_fd_none h
    constructor
    · intro h; cases h
    · rintro ⟨i, hi, hp⟩; rw [this i hi] at hp; cases hp
  | some i =>
    obtain ⟨h1, h2, _⟩ := rb_fd_some h
    exact ⟨fun _ => ⟨i, h1, h2⟩, fun _ => rfl⟩
set_option maxHeartbeats 4000000 in
theorem xn_showsOlder {z W q n : Nat} {π : Nat → Nat} {s s' : Nat} {c a : rb_Row} (h : rR z W q n π s s' c a) {x s0 : Nat} (hx : x < 28) : ∃ b : Bool, XX1_showsOlder c (nI x) (nI s0) = some (bif b then nI 1 else nI 0) ∧ (b = true ↔ ∃ i, i < n ∧ rb_tr c (rq c n 4) x i = true ∧ c (443 + i) < nI s0) := by
  have hR := h
  obtain ⟨⟨q1, q2, q3, q4, q5, q6, q7, q8⟩, hH, hI, hL, hT⟩ := h
  refine ⟨(rb_fd (fun i => rb_tr c (rq c n 4) x i && decide (c (443 + i) < nI s0)) n).isSome, ?_, ?_⟩
  · unfold XX1_showsOlder
    simp (disch := omega) only [li_0, li_1, li_2, li_3, li_4, li_5, li_6, li_7, li_8, li_9, li_10, li_11, li_12, li_13, li_14, li_15, li_16, li_17, li_18, li_19, li_20, li_21, li_22, li_23, li_24, li_25, li_26, li_27, li_28, li_29, li_30, li_31, li_32, li_33, li_34, li_35, li_36, li_37, li_38, li_39, li_40, li_41, li_42, li_47, li_50, li_60, li_63, li_75, li_100, li_103, li_131, li_159, li_184, li_187, li_215, li_243, li_256, li_271, li_296, li_299, li_323, li_347, li_371, li_395, li_419, li_443, li_467, li_491, li_515, li_539, li_545, li_551, li_557, li_560, li_563, li_569, li_575, li_581, li_587, li_593, li_599, li_605, li_629, li_653, li_677, li_725, li_773, li_794, li_795, li_796, li_1000, li_1546, li_1592, li_6184, li_9552, li_10049, li_10348, li_100000, rb_mI, nI_add, nI_mul, nI_leI, nI_ltI, nI_eq, rb_rdn, rb_wrn, rb_n0, rb_m0, rb_m1n, rb_nm1, rb_m1lt, rb_m1le, rb_0m1, rb_ltm1, rb_lem1, Nat.add_zero, Nat.zero_le, Nat.not_lt_zero, Nat.one_ne_zero, Option.bind_some, Option.bind_none, Option.some.injEq, if_true, if_false, ite_true, ite_false, Sum.elim_inl, Sum.elim_inr, q7]
    refine rb_bnd _ (rb_lpg (fun i => rb_tr c (rq c n 4) x i && decide (c (443 + i) < nI s0)) (fun _ => nI 1) n (by omega) ?_ ?_ ?_) ?_
    · intro j hj hp
      obtain ⟨y, hy, ey, hly, _⟩ := hI.2.2.1 j hj
      have e5 := xn_ready5 hR hy hly
      have eb := xn_bits c (i := j) (by omega)
      simp (disch := omega) only [li_0, li_1, li_2, li_3, li_4, li_5, li_6, li_7, li_8, li_9, li_10, li_11, li_12, li_13, li_14, li_15, li_16, li_17, li_18, li_19, li_20, li_21, li_22, li_23, li_24, li_25, li_26, li_27, li_28, li_29, li_30, li_31, li_32, li_33, li_34, li_35, li_36, li_37, li_38, li_39, li_40, li_41, li_42, li_47, li_50, li_60, li_63, li_75, li_100, li_103, li_131, li_159, li_184, li_187, li_215, li_243, li_256, li_271, li_296, li_299, li_323, li_347, li_371, li_395, li_419, li_443, li_467, li_491, li_515, li_539, li_545, li_551, li_557, li_560, li_563, li_569, li_575, li_581, li_587, li_593, li_599, li_605, li_629, li_653, li_677, li_725, li_773, li_794, li_795, li_796, li_1000, li_1546, li_1592, li_6184, li_9552, li_10049, li_10348, li_100000, rb_mI, nI_add, nI_mul, nI_leI, nI_ltI, nI_eq, rb_rdn, rb_wrn, rb_n0, rb_m0, rb_m1n, rb_nm1, rb_m1lt, rb_m1le, rb_0m1, rb_ltm1, rb_lem1, Nat.add_zero, Nat.zero_le, Nat.not_lt_zero, Nat.one_ne_zero, Option.bind_some, Option.bind_none, Option.some.injEq, if_true, if_false, ite_true, ite_false, Sum.elim_inl, Sum.elim_inr, ey, e5, eb, rb_nz0, rb_nz1]
      rw [if_neg (by omega)]
      simp only [rb_tr] at hp
      rw [nt_n ey (by omega)] at hp
      by_cases g1 : c (299 + j) = nI x <;> by_cases g2 : c (443 + j) < nI 0 <;> by_cases g3 : c (419 + j) = nI 0 <;> by_cases g4 : rb_bt c j &&& rq c n 4 y = nI 0 <;> by_cases g5 : nI s0 ≤ c (443 + j) <;> first | (have g6 := Int32.not_lt.mpr g5; simp [g1, g2, g3, g4, g5, g6] at hp ⊢) | (have g6 := Int32.not_le.mp g5; simp [g1, g2, g3, g4, g5, g6] at hp ⊢)
    · intro j hj hp
      obtain ⟨y, hy, ey, hly, _⟩ := hI.2.2.1 j hj
      have e5 := xn_ready5 hR hy hly
      have eb := xn_bits c (i := j) (by omega)
      simp (disch := omega) only [li_0, li_1, li_2, li_3, li_4, li_5, li_6, li_7, li_8, li_9, li_10, li_11, li_12, li_13, li_14, li_15, li_16, li_17, li_18, li_19, li_20, li_21, li_22, li_23, li_24, li_25, li_26, li_27, li_28, li_29, li_30, li_31, li_32, li_33, li_34, li_35, li_36, li_37, li_38, li_39, li_40, li_41, li_42, li_47, li_50, li_60, li_63, li_75, li_100, li_103, li_131, li_159, li_184, li_187, li_215, li_243, li_256, li_271, li_296, li_299, li_323, li_347, li_371, li_395, li_419, li_443, li_467, li_491, li_515, li_539, li_545, li_551, li_557, li_560, li_563, li_569, li_575, li_581, li_587, li_593, li_599, li_605, li_629, li_653, li_677, li_725, li_773, li_794, li_795, li_796, li_1000, li_1546, li_1592, li_6184, li_9552, li_10049, li_10348, li_100000, rb_mI, nI_add, nI_mul, nI_leI, nI_ltI, nI_eq, rb_rdn, rb_wrn, rb_n0, rb_m0, rb_m1n, rb_nm1, rb_m1lt, rb_m1le, rb_0m1, rb_ltm1, rb_lem1, Nat.add_zero, Nat.zero_le, Nat.not_lt_zero, Nat.one_ne_zero, Option.bind_some, Option.bind_none, Option.some.injEq, if_true, if_false, ite_true, ite_false, Sum.elim_inl, Sum.elim_inr, ey, e5, eb, rb_nz0, rb_nz1]
      rw [if_neg (by omega)]
      simp only [rb_tr] at hp
      rw [nt_n ey (by omega)] at hp
      by_cases g1 : c (299 + j) = nI x <;> by_cases g2 : c (443 + j) < nI 0 <;> by_cases g3 : c (419 + j) = nI 0 <;> by_cases g4 : rb_bt c j &&& rq c n 4 y = nI 0 <;> by_cases g5 : nI s0 ≤ c (443 + j) <;> first | (have g6 := Int32.not_lt.mpr g5; simp [g1, g2, g3, g4, g5, g6] at hp ⊢) | (have g6 := Int32.not_le.mp g5; simp [g1, g2, g3, g4, g5, g6] at hp ⊢)
    · simp (disch := omega) only [li_0, li_1, li_2, li_3, li_4, li_5, li_6, li_7, li_8, li_9, li_10, li_11, li_12, li_13, li_14, li_15, li_16, li_17, li_18, li_19, li_20, li_21, li_22, li_23, li_24, li_25, li_26, li_27, li_28, li_29, li_30, li_31, li_32, li_33, li_34, li_35, li_36, li_37, li_38, li_39, li_40, li_41, li_42, li_47, li_50, li_60, li_63, li_75, li_100, li_103, li_131, li_159, li_184, li_187, li_215, li_243, li_256, li_271, li_296, li_299, li_323, li_347, li_371, li_395, li_419, li_443, li_467, li_491, li_515, li_539, li_545, li_551, li_557, li_560, li_563, li_569, li_575, li_581, li_587, li_593, li_599, li_605, li_629, li_653, li_677, li_725, li_773, li_794, li_795, li_796, li_1000, li_1546, li_1592, li_6184, li_9552, li_10049, li_10348, li_100000, rb_mI, nI_add, nI_mul, nI_leI, nI_ltI, nI_eq, rb_rdn, rb_wrn, rb_n0, rb_m0, rb_m1n, rb_nm1, rb_m1lt, rb_m1le, rb_0m1, rb_ltm1, rb_lem1, Nat.add_zero, Nat.zero_le, Nat.not_lt_zero, Nat.one_ne_zero, Option.bind_some, Option.bind_none, Option.some.injEq, if_true, if_false, ite_true, ite_false, Sum.elim_inl, Sum.elim_inr]
      rw [if_pos (by omega)]
    · cases rb_fd (fun i => rb_tr c (rq c n 4) x i && decide (c (443 + i) < nI s0)) n <;> rfl
  · rw [rb_fd_iff]
    simp only [Bool.and_eq_true, decide_eq_true_eq]
theorem yn_wasAgain (ag mf : rb_Row) {kept : Nat} (hk : kept ≤ 8) (em : mf 3 = nI kept) (v : Int32) : ∃ b : Bool, XX7_wasAgain ag mf v = some (bif b then nI 1 else nI 0) ∧ (b = true ↔ ∃ k, k < kept ∧ ag k = v) := by
  refine ⟨(rb_fd (fun k => decide (ag k = v)) kept).isSome, ?_, ?_⟩
  · unfold XX7_wasAgain
    simp only [em]
    refine rb_bnd _ (rb_lpg (fun k => decide (ag k = v)) (fun _ => nI 1) kept (by omega) ?_ ?_ ?_) ?_
    · intro j hj hp
      simp (disch := omega) only [li_0, li_1, li_2, li_3, li_4, li_5, li_6, li_7, li_8, li_9, li_10, li_11, li_12, li_13, li_14, li_15, li_16, li_17, li_18, li_19, li_20, li_21, li_22, li_23, li_24, li_25, li_26, li_27, li_28, li_29, li_30, li_31, li_32, li_33, li_34, li_35, li_36, li_37, li_38, li_39, li_40, li_41, li_42, li_47, li_50, li_60, li_63, li_75, li_100, li_103, li_131, li_159, li_184, li_187, li_215, li_243, li_256, li_271, li_296, li_299, li_323, li_347, li_371, li_395, li_419, li_443, li_467, li_491, li_515, li_539, li_545, li_551, li_557, li_560, li_563, li_569, li_575, li_581, li_587, li_593, li_599, li_605, li_629, li_653, li_677, li_725, li_773, li_794, li_795, li_796, li_1000, li_1546, li_1592, li_6184, li_9552, li_10049, li_10348, li_100000, rb_mI, nI_add, nI_mul, nI_leI, nI_ltI, nI_eq, rb_rdn, rb_wrn, rb_n0, rb_m0, rb_m1n, rb_nm1, rb_m1lt, rb_m1le, rb_0m1, rb_ltm1, rb_lem1, Nat.add_zero, Nat.zero_le, Nat.not_lt_zero, Nat.one_ne_zero, Option.bind_some, Option.bind_none, Option.some.injEq, if_true, if_false, ite_true, ite_false, Sum.elim_inl, Sum.elim_inr, rb_nz0, rb_nz1]
      rw [if_neg (by omega)]
      simp at hp
      simp [hp]
    · intro j hj hp
      simp (disch := omega) only [li_0, li_1, li_2, li_3, li_4, li_5, li_6, li_7, li_8, li_9, li_10, li_11, li_12, li_13, li_14, li_15, li_16, li_17, li_18, li_19, li_20, li_21, li_22, li_23, li_24, li_25, li_26, li_27, li_28, li_29, li_30, li_31, li_32, li_33, li_34, li_35, li_36, li_37, li_38, li_39, li_40, li_41, li_42, li_47, li_50, li_60, li_63, li_75, li_100, li_103, li_131, li_159, li_184, li_187, li_215, li_243, li_256, li_271, li_296, li_299, li_323, li_347, li_371, li_395, li_419, li_443, li_467, li_491, li_515, li_539, li_545, li_551, li_557, li_560, li_563, li_569, li_575, li_581, li_587, li_593, li_599, li_605, li_629, li_653, li_677, li_725, li_773, li_794, li_795, li_796, li_1000, li_1546, li_1592, li_6184, li_9552, li_10049, li_10348, li_100000, rb_mI, nI_add, nI_mul, nI_leI, nI_ltI, nI_eq, rb_rdn, rb_wrn, rb_n0, rb_m0, rb_m1n, rb_nm1, rb_m1lt, rb_m1le, rb_0m1, rb_ltm1, rb_lem1, Nat.add_zero, Nat.zero_le, Nat.not_lt_zero, Nat.one_ne_zero, Option.bind_some, Option.bind_none, Option.some.injEq, if_true, if_false, ite_true, ite_false, Sum.elim_inl, Sum.elim_inr, rb_nz0, rb_nz1]
      rw [if_neg (by omega)]
      simp at hp
      simp [hp]
    · simp (disch := omega) only [li_0, li_1, li_2, li_3, li_4, li_5, li_6, li_7, li_8, li_9, li_10, li_11, li_12, li_13, li_14, li_15, li_16, li_17, li_18, li_19, li_20, li_21, li_22, li_23, li_24, li_25, li_26, li_27, li_28, li_29, li_30, li_31, li_32, li_33, li_34, li_35, li_36, li_37, li_38, li_39, li_40, li_41, li_42, li_47, li_50, li_60, li_63, li_75, li_100, li_103, li_131, li_159, li_184, li_187, li_215, li_243, li_256, li_271, li_296, li_299, li_323, li_347, li_371, li_395, li_419, li_443, li_467, li_491, li_515, li_539, li_545, li_551, li_557, li_560, li_563, li_569, li_575, li_581, li_587, li_593, li_599, li_605, li_629, li_653, li_677, li_725, li_773, li_794, li_795, li_796, li_1000, li_1546, li_1592, li_6184, li_9552, li_10049, li_10348, li_100000, rb_mI, nI_add, nI_mul, nI_leI, nI_ltI, nI_eq, rb_rdn, rb_wrn, rb_n0, rb_m0, rb_m1n, rb_nm1, rb_m1lt, rb_m1le, rb_0m1, rb_ltm1, rb_lem1, Nat.add_zero, Nat.zero_le, Nat.not_lt_zero, Nat.one_ne_zero, Option.bind_some, Option.bind_none, Option.some.injEq, if_true, if_false, ite_true, ite_false, Sum.elim_inl, Sum.elim_inr]
      rw [if_pos (by omega)]
    · cases rb_fd (fun k => decide (ag k = v)) kept <;> rfl
  · rw [rb_fd_iff]
    simp only [decide_eq_true_eq]
set_option maxHeartbeats 4000000 in
theorem yn_isSomeLeft {z W q n : Nat} {π : Nat → Nat} {s s' : Nat} {c a : rb_Row} (h : rR z W q n π s s' c a) (hs : s' < 2000000000) {x kept : Nat} (hx : x < 28) (rd ag mf : rb_Row) (hk : kept ≤ 8) (em : mf 3 = nI kept) : ∃ (b : Bool) (rd' : rb_Row), XX7_isSomeLeft rd a ag mf (nI x) = some (bif b then nI 1 else nI 0, rd') ∧ (b = true ↔ ∃ i, i < n ∧ rb_tr c (rq c n 4) x i = true ∧ ∀ k, k < kept → ag k ≠ nI (π i)) := by
  have hR := h
  obtain ⟨rd1, er, hrd⟩ := yn_layReady h hs rd
  obtain ⟨⟨q1, q2, q3, q4, q5, q6, q7, q8⟩, hH, hI, hL, hT⟩ := h
  have hsl := rI_slots hI
  refine ⟨(rb_fd (fun u => (decide (a (296 + 11 * u) = nI x) && (!decide (a (296 + 11 * u + 7) ≤ nI 0) && rb_it a rd1 u)) && !(rb_fd (fun k => decide (ag k = nI u)) kept).isSome) 24).isSome, rd1, ?_, ?_⟩
  · unfold XX7_isSomeLeft
    simp (disch := omega) only [li_0, li_1, li_2, li_3, li_4, li_5, li_6, li_7, li_8, li_9, li_10, li_11, li_12, li_13, li_14, li_15, li_16, li_17, li_18, li_19, li_20, li_21, li_22, li_23, li_24, li_25, li_26, li_27, li_28, li_29, li_30, li_31, li_32, li_33, li_34, li_35, li_36, li_37, li_38, li_39, li_40, li_41, li_42, li_47, li_50, li_60, li_63, li_75, li_100, li_103, li_131, li_159, li_184, li_187, li_215, li_243, li_256, li_271, li_296, li_299, li_323, li_347, li_371, li_395, li_419, li_443, li_467, li_491, li_515, li_539, li_545, li_551, li_557, li_560, li_563, li_569, li_575, li_581, li_587, li_593, li_599, li_605, li_629, li_653, li_677, li_725, li_773, li_794, li_795, li_796, li_1000, li_1546, li_1592, li_6184, li_9552, li_10049, li_10348, li_100000, rb_mI, nI_add, nI_mul, nI_leI, nI_ltI, nI_eq, rb_rdn, rb_wrn, rb_n0, rb_m0, rb_m1n, rb_nm1, rb_m1lt, rb_m1le, rb_0m1, rb_ltm1, rb_lem1, Nat.add_zero, Nat.zero_le, Nat.not_lt_zero, Nat.one_ne_zero, Option.bind_some, Option.bind_none, Option.some.injEq, if_true, if_false, ite_true, ite_false, Sum.elim_inl, Sum.elim_inr, er]
    refine rb_bnd _ (rb_lpg (fun u => (decide (a (296 + 11 * u) = nI x) && (!decide (a (296 + 11 * u + 7) ≤ nI 0) && rb_it a rd1 u)) && !(rb_fd (fun k => decide (ag k = nI u)) kept).isSome) (fun _ => (nI 1, rd1)) 24 (by omega) ?_ ?_ ?_) ?_
    · intro j hj hp
      obtain ⟨b, e1, e2⟩ := yn_wasAgain ag mf hk em (nI j)
      have hb : b = (rb_fd (fun k => decide (ag k = nI j)) kept).isSome := by
        rw [Bool.eq_iff_iff, e2, rb_fd_iff]
        simp only [decide_eq_true_eq]
      simp only [← hb] at hp
      simp (disch := omega) only [li_0, li_1, li_2, li_3, li_4, li_5, li_6, li_7, li_8, li_9, li_10, li_11, li_12, li_13, li_14, li_15, li_16, li_17, li_18, li_19, li_20, li_21, li_22, li_23, li_24, li_25, li_26, li_27, li_28, li_29, li_30, li_31, li_32, li_33, li_34, li_35, li_36, li_37, li_38, li_39, li_40, li_41, li_42, li_47, li_50, li_60, li_63, li_75, li_100, li_103, li_131, li_159, li_184, li_187, li_215, li_243, li_256, li_271, li_296, li_299, li_323, li_347, li_371, li_395, li_419, li_443, li_467, li_491, li_515, li_539, li_545, li_551, li_557, li_560, li_563, li_569, li_575, li_581, li_587, li_593, li_599, li_605, li_629, li_653, li_677, li_725, li_773, li_794, li_795, li_796, li_1000, li_1546, li_1592, li_6184, li_9552, li_10049, li_10348, li_100000, rb_mI, nI_add, nI_mul, nI_leI, nI_ltI, nI_eq, rb_rdn, rb_wrn, rb_n0, rb_m0, rb_m1n, rb_nm1, rb_m1lt, rb_m1le, rb_0m1, rb_ltm1, rb_lem1, Nat.add_zero, Nat.zero_le, Nat.not_lt_zero, Nat.one_ne_zero, Option.bind_some, Option.bind_none, Option.some.injEq, if_true, if_false, ite_true, ite_false, Sum.elim_inl, Sum.elim_inr, xn_ofObject, xn_ofPipe, xn_ofInterest, xn_ofTask, xn_kindOf, xn_bitsOf7, xn_isInterest, xn_isAsleep, xn_objectAt, xn_pipeAt, xn_interestAt, xn_taskAt, rb_nz0, rb_nz1, rb_n10, Nat.one_ne_zero, eq_self, e1]
      rw [if_neg (by omega)]
      by_cases g1 : a (296 + 11 * j) = nI x
      · have e3 := yn_isTrue a rd1 hj (hsl j hj (by rw [g1]; exact nI_pos (by omega)))
        rw [e3]
        by_cases g2 : a (296 + 11 * j + 7) ≤ nI 0 <;> cases g3 : rb_it a rd1 j <;> cases b <;> simp [g1, g2, g3, rb_n10, rb_nz1] at hp ⊢
      · simp [g1]
    · intro j hj hp
      obtain ⟨b, e1, e2⟩ := yn_wasAgain ag mf hk em (nI j)
      have hb : b = (rb_fd (fun k => decide (ag k = nI j)) kept).isSome := by
        rw [Bool.eq_iff_iff, e2, rb_fd_iff]
        simp only [decide_eq_true_eq]
      simp only [← hb] at hp
      simp (disch := omega) only [li_0, li_1, li_2, li_3, li_4, li_5, li_6, li_7, li_8, li_9, li_10, li_11, li_12, li_13, li_14, li_15, li_16, li_17, li_18, li_19, li_20, li_21, li_22, li_23, li_24, li_25, li_26, li_27, li_28, li_29, li_30, li_31, li_32, li_33, li_34, li_35, li_36, li_37, li_38, li_39, li_40, li_41, li_42, li_47, li_50, li_60, li_63, li_75, li_100, li_103, li_131, li_159, li_184, li_187, li_215, li_243, li_256, li_271, li_296, li_299, li_323, li_347, li_371, li_395, li_419, li_443, li_467, li_491, li_515, li_539, li_545, li_551, li_557, li_560, li_563, li_569, li_575, li_581, li_587, li_593, li_599, li_605, li_629, li_653, li_677, li_725, li_773, li_794, li_795, li_796, li_1000, li_1546, li_1592, li_6184, li_9552, li_10049, li_10348, li_100000, rb_mI, nI_add, nI_mul, nI_leI, nI_ltI, nI_eq, rb_rdn, rb_wrn, rb_n0, rb_m0, rb_m1n, rb_nm1, rb_m1lt, rb_m1le, rb_0m1, rb_ltm1, rb_lem1, Nat.add_zero, Nat.zero_le, Nat.not_lt_zero, Nat.one_ne_zero, Option.bind_some, Option.bind_none, Option.some.injEq, if_true, if_false, ite_true, ite_false, Sum.elim_inl, Sum.elim_inr, xn_ofObject, xn_ofPipe, xn_ofInterest, xn_ofTask, xn_kindOf, xn_bitsOf7, xn_isInterest, xn_isAsleep, xn_objectAt, xn_pipeAt, xn_interestAt, xn_taskAt, rb_nz0, rb_nz1, rb_n10, Nat.one_ne_zero, eq_self, e1]
      rw [if_neg (by omega)]
      by_cases g1 : a (296 + 11 * j) = nI x
      · have e3 := yn_isTrue a rd1 hj (hsl j hj (by rw [g1]; exact nI_pos (by omega)))
        rw [e3]
        by_cases g2 : a (296 + 11 * j + 7) ≤ nI 0 <;> cases g3 : rb_it a rd1 j <;> cases b <;> simp [g1, g2, g3, rb_n10, rb_nz1] at hp ⊢
      · simp [g1] at hp
    · simp (disch := omega) only [li_0, li_1, li_2, li_3, li_4, li_5, li_6, li_7, li_8, li_9, li_10, li_11, li_12, li_13, li_14, li_15, li_16, li_17, li_18, li_19, li_20, li_21, li_22, li_23, li_24, li_25, li_26, li_27, li_28, li_29, li_30, li_31, li_32, li_33, li_34, li_35, li_36, li_37, li_38, li_39, li_40, li_41, li_42, li_47, li_50, li_60, li_63, li_75, li_100, li_103, li_131, li_159, li_184, li_187, li_215, li_243, li_256, li_271, li_296, li_299, li_323, li_347, li_371, li_395, li_419, li_443, li_467, li_491, li_515, li_539, li_545, li_551, li_557, li_560, li_563, li_569, li_575, li_581, li_587, li_593, li_599, li_605, li_629, li_653, li_677, li_725, li_773, li_794, li_795, li_796, li_1000, li_1546, li_1592, li_6184, li_9552, li_10049, li_10348, li_100000, rb_mI, nI_add, nI_mul, nI_leI, nI_ltI, nI_eq, rb_rdn, rb_wrn, rb_n0, rb_m0, rb_m1n, rb_nm1, rb_m1lt, rb_m1le, rb_0m1, rb_ltm1, rb_lem1, Nat.add_zero, Nat.zero_le, Nat.not_lt_zero, Nat.one_ne_zero, Option.bind_some, Option.bind_none, Option.some.injEq, if_true, if_false, ite_true, ite_false, Sum.elim_inl, Sum.elim_inr]
      rw [if_pos (by omega)]
    · cases rb_fd (fun u => (decide (a (296 + 11 * u) = nI x) && (!decide (a (296 + 11 * u + 7) ≤ nI 0) && rb_it a rd1 u)) && !(rb_fd (fun k => decide (ag k = nI u)) kept).isSome) 24 <;> rfl
  · rw [rb_fd_iff]
    have key : ∀ i, i < n → ((decide (a (296 + 11 * π i) = nI x) && (!decide (a (296 + 11 * π i + 7) ≤ nI 0) && rb_it a rd1 (π i))) = rb_tr c (rq c n 4) x i) := by
      intro i hi
      obtain ⟨y, hy, ey, hly, _⟩ := hI.2.2.1 i hi
      have hz := rb_exz hH hI hi hy ey
      rw [(hI.1 i hi).2.1]
      simp only [rL_lst hL hs q5 hi]
      rw [rb_tells (rd := rd1) (F := rq c n 4) hI hL hi (by rw [nt_n ey (by omega)]; exact hrd y hy hz.1 hz.2)]
      rfl
    constructor
    · rintro ⟨u, hu, hp⟩
      rw [Bool.and_eq_true] at hp
      obtain ⟨i, hi, e⟩ := rI_slot hI hu (fun e => by
        rw [e] at hp
        simp (disch := omega) only [rb_mI, nI_add, nI_mul, nI_leI, nI_ltI, nI_eq, rb_rdn, rb_wrn, rb_n0, rb_m0, rb_m1n, rb_nm1, rb_m1lt, rb_m1le, rb_0m1, rb_ltm1, rb_lem1] at hp
        simp at hp)
      subst e
      rw [key i hi] at hp
      refine ⟨i, hi, hp.1, fun k hk e => ?_⟩
      have := hp.2
      rw [Bool.not_eq_true', Bool.eq_false_iff] at this
      exact this (rb_fd_iff.mpr ⟨k, hk, by simp [e]⟩)
    · rintro ⟨i, hi, h1, h2⟩
      refine ⟨π i, (hI.1 i hi).1, ?_⟩
      rw [Bool.and_eq_true, key i hi]
      refine ⟨h1, ?_⟩
      rw [Bool.not_eq_true', Bool.eq_false_iff]
      intro e
      obtain ⟨k, hk, e⟩ := rb_fd_iff.mp e
      simp only [decide_eq_true_eq] at e
      exact h2 k hk e
theorem rp_sleeper {z W q n : Nat} {π : Nat → Nat} {s s' : Nat} {c a : rb_Row} (h : rR z W q n π s s' c a) (hs : s' < 2000000000) {x : Nat} (hx : x < 28) : ∃ o : Option Nat, XX4_firstSleeper c (nI x) = some (rb_oi o) ∧ XX7_sleeperBehind a (nI x) (nI 0) = some (rb_oi o) ∧ (o = none → ∀ t, t < 6 → c (539 + t) ≠ nI x) ∧ (∀ t, o = some t → t < 6 ∧ c (539 + t) = nI x) := by
  have hR := h
  obtain ⟨⟨q1, q2, q3, q4, q5, q6, q7, q8⟩, hH, hI, hL, hT⟩ := h
  have hm : ∀ t, t < 6 → c (539 + t) = nI x → c (539 + t) ≠ mI ∧ ∃ v, 0 < v ∧ v ≤ s' ∧ a (560 + 39 * t + 1) = nI v := by
    intro t ht e
    have h1 : c (539 + t) ≠ mI := by rw [e]; exact rb_nmm (by omega)
    rcases hT.2.2.1 t ht with g | ⟨_, _, _, ⟨u, v, g1, g2, g3, g4, g5⟩, _⟩
    · exact absurd g h1
    · exact ⟨h1, v, g2, g3, g5⟩
  refine ⟨rb_am (fun i => decide (c (539 + i) = nI x)) (fun i => c (545 + i)) 6, xn_firstSleeper c (nI x), ?_, ?_, ?_⟩
  · rw [yn_sleeperBehind, rb_am_pi (p := fun i => decide (c (539 + i) = nI x)) (k := fun i => c (545 + i)) (n := 6) (π := fun i => i) (fun i hi => hi)]
    · cases rb_am (fun i => decide (c (539 + i) = nI x)) (fun i => c (545 + i)) 6 <;> rfl
    · intro u hu _
      exact ⟨u, hu, rfl⟩
    · intro t ht
      show (decide (a (560 + 39 * t) = nI x) && decide (nI 0 < a (560 + 39 * t + 1))) = _
      rw [(hT.1 t ht).1]
      by_cases e : c (539 + t) = nI x
      · obtain ⟨_, v, g1, g2, g3⟩ := hm t ht e
        have g4 : nI 0 < nI v := nI_lt g1 (by omega)
        rw [g3]
        simp [e, g4]
      · simp [e]
    · intro i j hi hj hpi hpj
      simp only [decide_eq_true_eq] at hpi hpj
      exact (hT.2.2.2.1 i j hi hj (hm i hi hpi).1 (hm j hj hpj).1).1
    · intro i j hi hj hpi hpj
      simp only [decide_eq_true_eq] at hpi hpj
      exact (hT.2.2.2.1 i j hi hj (hm i hi hpi).1 (hm j hj hpj).1).2
  · intro e t ht ex
    have := rb_am_none e t ht
    simp [ex] at this
  · intro t e
    obtain ⟨h1, h2⟩ := rb_am_lt e
    exact ⟨h1, by simpa using h2⟩
