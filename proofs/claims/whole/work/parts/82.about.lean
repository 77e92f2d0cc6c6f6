theorem rp_bits {z W q n : Nat} {π : Nat → Nat} {s s' : Nat} {c a : rb_Row} (h : rR z W q n π s s' c a) : ∃ o o', XX5_handleBits c = some o ∧ XX7_handlesNow a = some o' ∧ o = o' := by
  unfold XX5_handleBits XX7_handlesNow
  refine rb_lpjb (fun j (m : Int32) => (m, nI j)) (fun j (m : Int32) => (m, nI j)) 16 (fun _ m m' => m = m') (fun m m' => m = m') 0 0 rfl rfl rfl (by omega) (by omega) ?_ ?_ (fun r r' e => ⟨r, r', rfl, rfl, e⟩)
  · intro j m m' hj e
    subst e
    left
    have q1 : ¬ (16 : Int32) ≤ nI j := by rw [show (16 : Int32) = nI 16 from rfl, nI_leI (by omega) (by omega)]; omega
    have p2 : nI j + 1 = nI (j + 1) := nI_add j 1
    have rc : rb_rd c 773 (3 + nI j) = some (c (3 + j)) := (congrArg (rb_rd c 773) (nI_add 3 j)).trans (rb_rdn (by omega) (by omega))
    rcases rp_thing h.2.1 (nI j) with ⟨r1, r2⟩ | ⟨k, x, hk, hx, ev, ec, ea, hl, hw, hz, r1, r2⟩
    · have em : c (3 + j) < (0 : Int32) := by
        rcases (h.2.1.1 j hj).2.2 with e | ⟨x, hx, e, g1, g2⟩
        · rw [e]; decide
        · exfalso
          have : XX7_isHandle a (nI j) = some (nI 1) := by
            have e0 : a j = nI x := ((h.2.1.1 j hj).1).trans e
            unfold XX7_isHandle XX7_isIn
            have q3 : ¬ 15 < j := by omega
            simp (disch := omega) only [↓reduceIte, Nat.reduceEqDiff, Nat.reduceLeDiff, eq_self, not_true_eq_false, not_false_eq_true, li_0, li_1, li_2, li_3, li_4, li_5, li_6, li_7, li_8, li_9, li_10, li_11, li_12, li_13, li_14, li_15, li_16, li_17, li_18, li_19, li_20, li_21, li_22, li_23, li_24, li_25, li_26, li_27, li_28, li_29, li_30, li_31, li_32, li_33, li_34, li_35, li_36, li_37, li_38, li_39, li_40, li_41, li_42, li_47, li_50, li_60, li_63, li_75, li_100, li_103, li_131, li_159, li_184, li_187, li_215, li_243, li_256, li_271, li_296, li_299, li_323, li_347, li_371, li_395, li_419, li_443, li_467, li_491, li_515, li_539, li_545, li_551, li_557, li_560, li_563, li_569, li_575, li_581, li_587, li_593, li_599, li_605, li_629, li_653, li_677, li_725, li_773, li_794, li_795, li_796, li_1000, li_1546, li_1592, li_6184, li_9552, li_10049, li_10348, li_100000, rb_mI, nI_add, nI_mul, nI_leI, nI_ltI, nI_eq, rb_rdn, rb_wrn, rb_n0, rb_m0, rb_m1n, rb_nm1, rb_m1lt, rb_m1le, rb_0m1, rb_ltm1, rb_lem1, Nat.add_zero, Nat.zero_le, Nat.not_lt_zero, Nat.one_ne_zero, Option.bind_some, Option.bind_none, Option.some.injEq, if_true, if_false, ite_true, ite_false, Sum.elim_inl, Sum.elim_inr, xn_ofObject, xn_ofPipe, xn_ofInterest, xn_ofTask, xn_kindOf, xn_bitsOf7, xn_isInterest, xn_isAsleep, xn_objectAt, xn_pipeAt, xn_interestAt, xn_taskAt, rb_nz0, rb_nz1, rb_n10, Nat.one_ne_zero, eq_self, e0, q3]
          rw [this] at r2
          exact absurd r2 (by decide)
      exact ⟨m, m, (if_neg q1).trans (rb_bnd _ rc (rb_bnd m (if_pos em) (by rw [← p2]))), (if_neg q1).trans (rb_bnd _ r2 (rb_bnd m (if_pos rfl) (by rw [← p2]))), rfl⟩
    · have hjk : j = k := (nI_eq (by omega) (by omega)).mp ev
      subst hjk
      have em : ¬ c (3 + j) < (0 : Int32) := by rw [ec, show (0 : Int32) = nI 0 from rfl, nI_ltI (by omega) (by omega)]; omega
      exact ⟨m ||| (1 <<< (nI j &&& 31)), m ||| (1 <<< (nI j &&& 31)), (if_neg q1).trans (rb_bnd _ rc (rb_bnd (m ||| (1 <<< (nI j &&& 31))) (if_neg em) (by rw [← p2]))), (if_neg q1).trans (rb_bnd _ r2 (rb_bnd (m ||| (1 <<< (nI j &&& 31))) (if_neg (by decide)) (by rw [← p2]))), rfl⟩
  · intro m m' e
    have q16 : (16 : Int32) ≤ nI 16 := by decide
    exact ⟨m, m', if_pos q16, if_pos q16, e⟩
theorem rp_asleepBits {z W q n : Nat} {π : Nat → Nat} {s s' : Nat} {c a : rb_Row} (h : rR z W q n π s s' c a) : ∃ o o', XX4_asleep c = some o ∧ XX7_asleepNow a = some o' ∧ o = o' := by
  unfold XX4_asleep XX7_asleepNow
  refine rb_lpjb (fun j (m : Int32) => (m, nI j)) (fun j (m : Int32) => (m, nI j)) 6 (fun _ m m' => m = m') (fun m m' => m = m') 0 0 rfl rfl rfl (by omega) (by omega) ?_ ?_ (fun r r' e => ⟨r, r', rfl, rfl, e⟩)
  · intro j m m' hj e
    subst e
    left
    have q1 : ¬ (6 : Int32) ≤ nI j := by rw [show (6 : Int32) = nI 6 from rfl, nI_leI (by omega) (by omega)]; omega
    have p2 : nI j + 1 = nI (j + 1) := nI_add j 1
    have rc : rb_rd c 773 (539 + nI j) = some (c (539 + j)) := (congrArg (rb_rd c 773) (nI_add 539 j)).trans (rb_rdn (by omega) (by omega))
    have asl := xn_isAsleep a hj
    rw [(h.2.2.2.2.1 j hj).1] at asl
    by_cases em : c (539 + j) < nI 0
    · rw [if_pos em] at asl
      exact ⟨m, m, (if_neg q1).trans (rb_bnd _ rc (rb_bnd m (if_pos em) (by rw [← p2]))), (if_neg q1).trans (rb_bnd _ asl (rb_bnd m (if_pos rfl) (by rw [← p2]))), rfl⟩
    · rw [if_neg em] at asl
      exact ⟨m ||| (1 <<< (nI j &&& 31)), m ||| (1 <<< (nI j &&& 31)), (if_neg q1).trans (rb_bnd _ rc (rb_bnd (m ||| (1 <<< (nI j &&& 31))) (if_neg em) (by rw [← p2]))), (if_neg q1).trans (rb_bnd _ asl (rb_bnd (m ||| (1 <<< (nI j &&& 31))) (if_neg (by decide)) (by rw [← p2]))), rfl⟩
  · intro m m' e
    have q16 : (6 : Int32) ≤ nI 6 := by decide
    exact ⟨m, m', if_pos q16, if_pos q16, e⟩
theorem rp_living {z W q n : Nat} {π : Nat → Nat} {s s' : Nat} {c a : rb_Row} (h : rR z W q n π s s' c a) : XX7_objectsNow a = some (nI (rb_cn (fun i => !decide (c (19 + i) < nI 0)) 28)) := by
  unfold XX7_objectsNow
  refine rb_bnd _ (rb_lpc0 (fun i => !decide (c (19 + i) < nI 0)) 28 (by omega) (fun j m hj hm => ?_) (fun m hm => ?_)) rfl
  · have q1 : ¬ (28 : Int32) ≤ nI j := by rw [show (28 : Int32) = nI 28 from rfl, nI_leI (by omega) (by omega)]; omega
    have p2 : nI j + 1 = nI (j + 1) := nI_add j 1
    have kd := xn_kindOf a hj
    rw [(h.2.1.2.1 j hj).1] at kd
    by_cases em : c (19 + j) < nI 0
    · have e : (m + bif !decide (c (19 + j) < nI 0) then 1 else 0) = m := by simp [em]
      rw [e]
      exact (if_neg q1).trans (rb_bnd _ kd (rb_bnd (nI 0) (if_pos em) (by rw [← p2, show nI m + nI 0 = nI m from nI_add m 0])))
    · have e : (m + bif !decide (c (19 + j) < nI 0) then 1 else 0) = m + 1 := by simp [em]
      rw [e]
      exact (if_neg q1).trans (rb_bnd _ kd (rb_bnd (nI 1) (if_neg em) (by rw [← p2, show nI m + nI 1 = nI (m + 1) from nI_add m 1])))
  · have q28 : (28 : Int32) ≤ nI 28 := by decide
    exact if_pos q28
