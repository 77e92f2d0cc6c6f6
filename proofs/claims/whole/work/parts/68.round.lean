theorem rp_canGo {z W q n : Nat} {π : Nat → Nat} {s s' : Nat} {c a : rb_Row} (h : rR z W q n π s s' c a) {t : Nat} (ht : t < 6) : (∃ l, 1 ≤ l ∧ l ≤ 4 ∧ c (539 + t) = mI ∧ c (599 + t) = nI l ∧ XX4_canGo c (nI t) = some (nI 1) ∧ XX7_canStep a (nI t) = some (nI 1)) ∨ ((c (539 + t) ≠ mI ∨ c (599 + t) = nI 0) ∧ XX4_canGo c (nI t) = some (nI 0) ∧ XX7_canStep a (nI t) = some (nI 0)) := by
  have hT := h.2.2.2.2
  obtain ⟨_, ⟨l, hl, el⟩, _⟩ := hT.2.1 t ht
  have g9 : a (560 + 39 * t + 9) = nI l := by rw [(hT.1 t ht).2.2.2.2.2.2.2.2.1]; exact el
  have g0 : a (560 + 39 * t) = c (539 + t) := (hT.1 t ht).1
  unfold XX4_canGo XX7_canStep
  rcases hT.2.2.1 t ht with e | ⟨⟨x, hx, e, _⟩, _⟩
  · by_cases q0 : l = 0
    · subst q0
      refine Or.inr ⟨Or.inr el, ?_, ?_⟩
      · simp (disch := omega) only [↓reduceIte, Nat.reduceEqDiff, Nat.reduceLeDiff, eq_self, not_true_eq_false, not_false_eq_true, li_0, li_1, li_2, li_3, li_4, li_5, li_6, li_7, li_8, li_9, li_10, li_11, li_12, li_13, li_14, li_15, li_16, li_17, li_18, li_19, li_20, li_21, li_22, li_23, li_24, li_25, li_26, li_27, li_28, li_29, li_30, li_31, li_32, li_33, li_34, li_35, li_36, li_37, li_38, li_39, li_40, li_41, li_42, li_47, li_50, li_60, li_63, li_75, li_100, li_103, li_131, li_159, li_184, li_187, li_215, li_243, li_256, li_271, li_296, li_299, li_323, li_347, li_371, li_395, li_419, li_443, li_467, li_491, li_515, li_539, li_545, li_551, li_557, li_560, li_563, li_569, li_575, li_581, li_587, li_593, li_599, li_605, li_629, li_653, li_677, li_725, li_773, li_794, li_795, li_796, li_1000, li_1546, li_1592, li_6184, li_9552, li_10049, li_10348, li_100000, rb_mI, nI_add, nI_mul, nI_leI, nI_ltI, nI_eq, rb_rdn, rb_wrn, rb_n0, rb_m0, rb_m1n, rb_nm1, rb_m1lt, rb_m1le, rb_0m1, rb_ltm1, rb_lem1, Nat.add_zero, Nat.zero_le, Nat.not_lt_zero, Nat.one_ne_zero, Option.bind_some, Option.bind_none, Option.some.injEq, if_true, if_false, ite_true, ite_false, Sum.elim_inl, Sum.elim_inr, xn_ofObject, xn_ofPipe, xn_ofInterest, xn_ofTask, xn_kindOf, xn_bitsOf7, xn_isInterest, xn_isAsleep, xn_objectAt, xn_pipeAt, xn_interestAt, xn_taskAt, rb_nz0, rb_nz1, rb_n10, Nat.one_ne_zero, eq_self, e, el]
      · simp (disch := omega) only [↓reduceIte, Nat.reduceEqDiff, Nat.reduceLeDiff, eq_self, not_true_eq_false, not_false_eq_true, li_0, li_1, li_2, li_3, li_4, li_5, li_6, li_7, li_8, li_9, li_10, li_11, li_12, li_13, li_14, li_15, li_16, li_17, li_18, li_19, li_20, li_21, li_22, li_23, li_24, li_25, li_26, li_27, li_28, li_29, li_30, li_31, li_32, li_33, li_34, li_35, li_36, li_37, li_38, li_39, li_40, li_41, li_42, li_47, li_50, li_60, li_63, li_75, li_100, li_103, li_131, li_159, li_184, li_187, li_215, li_243, li_256, li_271, li_296, li_299, li_323, li_347, li_371, li_395, li_419, li_443, li_467, li_491, li_515, li_539, li_545, li_551, li_557, li_560, li_563, li_569, li_575, li_581, li_587, li_593, li_599, li_605, li_629, li_653, li_677, li_725, li_773, li_794, li_795, li_796, li_1000, li_1546, li_1592, li_6184, li_9552, li_10049, li_10348, li_100000, rb_mI, nI_add, nI_mul, nI_leI, nI_ltI, nI_eq, rb_rdn, rb_wrn, rb_n0, rb_m0, rb_m1n, rb_nm1, rb_m1lt, rb_m1le, rb_0m1, rb_ltm1, rb_lem1, Nat.add_zero, Nat.zero_le, Nat.not_lt_zero, Nat.one_ne_zero, Option.bind_some, Option.bind_none, Option.some.injEq, if_true, if_false, ite_true, ite_false, Sum.elim_inl, Sum.elim_inr, xn_ofObject, xn_ofPipe, xn_ofInterest, xn_ofTask, xn_kindOf, xn_bitsOf7, xn_isInterest, xn_isAsleep, xn_objectAt, xn_pipeAt, xn_interestAt, xn_taskAt, rb_nz0, rb_nz1, rb_n10, Nat.one_ne_zero, eq_self, g0, e, g9]
    · have q1 : ¬ l ≤ 0 := by omega
      refine Or.inl ⟨l, by omega, hl, e, el, ?_, ?_⟩
      · simp (disch := omega) only [↓reduceIte, Nat.reduceEqDiff, Nat.reduceLeDiff, eq_self, not_true_eq_false, not_false_eq_true, li_0, li_1, li_2, li_3, li_4, li_5, li_6, li_7, li_8, li_9, li_10, li_11, li_12, li_13, li_14, li_15, li_16, li_17, li_18, li_19, li_20, li_21, li_22, li_23, li_24, li_25, li_26, li_27, li_28, li_29, li_30, li_31, li_32, li_33, li_34, li_35, li_36, li_37, li_38, li_39, li_40, li_41, li_42, li_47, li_50, li_60, li_63, li_75, li_100, li_103, li_131, li_159, li_184, li_187, li_215, li_243, li_256, li_271, li_296, li_299, li_323, li_347, li_371, li_395, li_419, li_443, li_467, li_491, li_515, li_539, li_545, li_551, li_557, li_560, li_563, li_569, li_575, li_581, li_587, li_593, li_599, li_605, li_629, li_653, li_677, li_725, li_773, li_794, li_795, li_796, li_1000, li_1546, li_1592, li_6184, li_9552, li_10049, li_10348, li_100000, rb_mI, nI_add, nI_mul, nI_leI, nI_ltI, nI_eq, rb_rdn, rb_wrn, rb_n0, rb_m0, rb_m1n, rb_nm1, rb_m1lt, rb_m1le, rb_0m1, rb_ltm1, rb_lem1, Nat.add_zero, Nat.zero_le, Nat.not_lt_zero, Nat.one_ne_zero, Option.bind_some, Option.bind_none, Option.some.injEq, if_true, if_false, ite_true, ite_false, Sum.elim_inl, Sum.elim_inr, xn_ofObject, xn_ofPipe, xn_ofInterest, xn_ofTask, xn_kindOf, xn_bitsOf7, xn_isInterest, xn_isAsleep, xn_objectAt, xn_pipeAt, xn_interestAt, xn_taskAt, rb_nz0, rb_nz1, rb_n10, Nat.one_ne_zero, eq_self, e, el, q1]
      · simp (disch := omega) only [↓reduceIte, Nat.reduceEqDiff, Nat.reduceLeDiff, eq_self, not_true_eq_false, not_false_eq_true, li_0, li_1, li_2, li_3, li_4, li_5, li_6, li_7, li_8, li_9, li_10, li_11, li_12, li_13, li_14, li_15, li_16, li_17, li_18, li_19, li_20, li_21, li_22, li_23, li_24, li_25, li_26, li_27, li_28, li_29, li_30, li_31, li_32, li_33, li_34, li_35, li_36, li_37, li_38, li_39, li_40, li_41, li_42, li_47, li_50, li_60, li_63, li_75, li_100, li_103, li_131, li_159, li_184, li_187, li_215, li_243, li_256, li_271, li_296, li_299, li_323, li_347, li_371, li_395, li_419, li_443, li_467, li_491, li_515, li_539, li_545, li_551, li_557, li_560, li_563, li_569, li_575, li_581, li_587, li_593, li_599, li_605, li_629, li_653, li_677, li_725, li_773, li_794, li_795, li_796, li_1000, li_1546, li_1592, li_6184, li_9552, li_10049, li_10348, li_100000, rb_mI, nI_add, nI_mul, nI_leI, nI_ltI, nI_eq, rb_rdn, rb_wrn, rb_n0, rb_m0, rb_m1n, rb_nm1, rb_m1lt, rb_m1le, rb_0m1, rb_ltm1, rb_lem1, Nat.add_zero, Nat.zero_le, Nat.not_lt_zero, Nat.one_ne_zero, Option.bind_some, Option.bind_none, Option.some.injEq, if_true, if_false, ite_true, ite_false, Sum.elim_inl, Sum.elim_inr, xn_ofObject, xn_ofPipe, xn_ofInterest, xn_ofTask, xn_kindOf, xn_bitsOf7, xn_isInterest, xn_isAsleep, xn_objectAt, xn_pipeAt, xn_interestAt, xn_taskAt, rb_nz0, rb_nz1, rb_n10, Nat.one_ne_zero, eq_self, g0, e, g9, q1]
  · refine Or.inr ⟨Or.inl (by rw [e]; exact rb_nmm (by omega)), ?_, ?_⟩
    · simp (disch := omega) only [↓reduceIte, Nat.reduceEqDiff, Nat.reduceLeDiff, eq_self, not_true_eq_false, not_false_eq_true, li_0, li_1, li_2, li_3, li_4, li_5, li_6, li_7, li_8, li_9, li_10, li_11, li_12, li_13, li_14, li_15, li_16, li_17, li_18, li_19, li_20, li_21, li_22, li_23, li_24, li_25, li_26, li_27, li_28, li_29, li_30, li_31, li_32, li_33, li_34, li_35, li_36, li_37, li_38, li_39, li_40, li_41, li_42, li_47, li_50, li_60, li_63, li_75, li_100, li_103, li_131, li_159, li_184, li_187, li_215, li_243, li_256, li_271, li_296, li_299, li_323, li_347, li_371, li_395, li_419, li_443, li_467, li_491, li_515, li_539, li_545, li_551, li_557, li_560, li_563, li_569, li_575, li_581, li_587, li_593, li_599, li_605, li_629, li_653, li_677, li_725, li_773, li_794, li_795, li_796, li_1000, li_1546, li_1592, li_6184, li_9552, li_10049, li_10348, li_100000, rb_mI, nI_add, nI_mul, nI_leI, nI_ltI, nI_eq, rb_rdn, rb_wrn, rb_n0, rb_m0, rb_m1n, rb_nm1, rb_m1lt, rb_m1le, rb_0m1, rb_ltm1, rb_lem1, Nat.add_zero, Nat.zero_le, Nat.not_lt_zero, Nat.one_ne_zero, Option.bind_some, Option.bind_none, Option.some.injEq, if_true, if_false, ite_true, ite_false, Sum.elim_inl, Sum.elim_inr, xn_ofObject, xn_ofPipe, xn_ofInterest, xn_ofTask, xn_kindOf, xn_bitsOf7, xn_isInterest, xn_isAsleep, xn_objectAt, xn_pipeAt, xn_interestAt, xn_taskAt, rb_nz0, rb_nz1, rb_n10, Nat.one_ne_zero, eq_self, e]
    · simp (disch := omega) only [↓reduceIte, Nat.reduceEqDiff, Nat.reduceLeDiff, eq_self, not_true_eq_false, not_false_eq_true, li_0, li_1, li_2, li_3, li_4, li_5, li_6, li_7, li_8, li_9, li_10, li_11, li_12, li_13, li_14, li_15, li_16, li_17, li_18, li_19, li_20, li_21, li_22, li_23, li_24, li_25, li_26, li_27, li_28, li_29, li_30, li_31, li_32, li_33, li_34, li_35, li_36, li_37, li_38, li_39, li_40, li_41, li_42, li_47, li_50, li_60, li_63, li_75, li_100, li_103, li_131, li_159, li_184, li_187, li_215, li_243, li_256, li_271, li_296, li_299, li_323, li_347, li_371, li_395, li_419, li_443, li_467, li_491, li_515, li_539, li_545, li_551, li_557, li_560, li_563, li_569, li_575, li_581, li_587, li_593, li_599, li_605, li_629, li_653, li_677, li_725, li_773, li_794, li_795, li_796, li_1000, li_1546, li_1592, li_6184, li_9552, li_10049, li_10348, li_100000, rb_mI, nI_add, nI_mul, nI_leI, nI_ltI, nI_eq, rb_rdn, rb_wrn, rb_n0, rb_m0, rb_m1n, rb_nm1, rb_m1lt, rb_m1le, rb_0m1, rb_ltm1, rb_lem1, Nat.add_zero, Nat.zero_le, Nat.not_lt_zero, Nat.one_ne_zero, Option.bind_some, Option.bind_none, Option.some.injEq, if_true, if_false, ite_true, ite_false, Sum.elim_inl, Sum.elim_inr, xn_ofObject, xn_ofPipe, xn_ofInterest, xn_ofTask, xn_kindOf, xn_bitsOf7, xn_isInterest, xn_isAsleep, xn_objectAt, xn_pipeAt, xn_interestAt, xn_taskAt, rb_nz0, rb_nz1, rb_n10, Nat.one_ne_zero, eq_self, g0, e, g9]
def rb_RO (B q j : Nat) (mf wa : rb_Row) (m : Int32) (c : rb_Row) (m' : Int32) (a mf' wa' : rb_Row) : Prop := (∃ k, k ≤ j ∧ m = nI k ∧ m' = nI k) ∧ rb_RB (B + 2200 * j) q c a ∧ (∀ k, k ≠ 3 → k ≠ 11 → k ≠ 13 → mf' k = mf k) ∧ wa' = wa
set_option maxHeartbeats 16000000 in
/-- one round -/
theorem ra_round {B q : Nat} {c a : rb_Row} (h : rb_RB B q c a) (hb : B + q + 60000 < 2000000000) (g f rd ag mf na nb nl sv wa : rb_Row) : ∃ o o', XX0_goOneRound c g f = some o ∧ XX7_goRoundOnce a rd ag mf na nb nl sv wa = some o' ∧ ∃ k c' g' f' a' rd' ag' mf' na' nb' nl' sv', k ≤ 6 ∧ o = (nI k, c', g', f') ∧ o' = (nI k, a', rd', ag', mf', na', nb', nl', sv', wa) ∧ rb_RB (B + 13200) q c' a' ∧ (∀ k, k ≠ 3 → k ≠ 11 → k ≠ 13 → mf' k = mf k) := by
  unfold XX0_goOneRound XX7_goRoundOnce
  refine rb_lpjb (fun j (σ : Int32 × rb_Row × rb_Row × rb_Row) => (σ.1, nI j, σ.2.1, σ.2.2.1, σ.2.2.2)) (fun j (σ : Int32 × rb_Row × rb_Row × rb_Row × rb_Row × rb_Row × rb_Row × rb_Row × rb_Row × rb_Row) => (σ.1, nI j, σ.2.1, σ.2.2.1, σ.2.2.2.1, σ.2.2.2.2.1, σ.2.2.2.2.2.1, σ.2.2.2.2.2.2.1, σ.2.2.2.2.2.2.2.1, σ.2.2.2.2.2.2.2.2.1, σ.2.2.2.2.2.2.2.2.2)) 6 (fun j σ σ' => rb_RO B q j mf wa σ.1 σ.2.1 σ'.1 σ'.2.1 σ'.2.2.2.2.1 σ'.2.2.2.2.2.2.2.2.2) (fun σ σ' => rb_RO B q 6 mf wa σ.1 σ.2.1 σ'.1 σ'.2.1 σ'.2.2.2.2.1 σ'.2.2.2.2.2.2.2.2.2) (0, c, g, f) (0, a, rd, ag, mf, na, nb, nl, sv, wa) rfl rfl ⟨⟨0, by omega, rfl, rfl⟩, h, fun _ _ _ _ => rfl, rfl⟩ (by omega) (by omega) ?_ ?_ ?_
  · rintro j ⟨m, c', g', f'⟩ ⟨m', a', rd', ag', mf', na', nb', nl', sv', wa'⟩ hj ⟨⟨k, hk, e1, e2⟩, hR, hmf, hwa⟩
    left
    simp only at e1 e2 hR hmf hwa
    subst e1 e2 hwa
    have q0 : ¬ (6 : Int32) ≤ nI j := by rw [show (6 : Int32) = nI 6 from rfl, nI_leI (by omega) (by omega)]; omega
    have p1 : nI k + 1 = nI (k + 1) := nI_add k 1
    have p2 : nI j + 1 = nI (j + 1) := nI_add j 1
    obtain ⟨n, π, s, s', hRR, hs⟩ := id hR
    rcases rp_canGo hRR hj with ⟨l, hl1, hl4, _, hl, x1, x2⟩ | ⟨_, x1, x2⟩
    · obtain ⟨ans, c1, g1, f1, a1, rd1, ag1, mf1, na1, nb1, nl1, sv1, y1, y2, y3, y4, y5⟩ := ra_step hR (by omega) hj hl1 hl4 hl g' f' rd' ag' mf' na' nb' nl' sv' wa'
      refine ⟨(nI (k + 1), c1, g1, f1), (nI (k + 1), a1, rd1, ag1, upd mf1 13 ans, na1, nb1, nl1, sv1, wa'), ?_, ?_, ⟨k + 1, by omega, rfl, rfl⟩, ?_, fun i i1 i2 i3 => ?_, rfl⟩
      · show (if (6 : Int32) ≤ nI j then _ else _) = _
        rw [if_neg q0]
        refine rb_bnd _ x1 (rb_bnd (nI (k + 1), c1, g1, f1) ?_ ?_)
        · rw [if_neg (by decide)]
          exact rb_bnd _ y1 (by rw [← p1])
        · rw [← p2]
      · show (if (6 : Int32) ≤ nI j then _ else _) = _
        rw [if_neg q0]
        refine rb_bnd _ x2 (rb_bnd (nI (k + 1), a1, rd1, ag1, upd mf1 13 ans, na1, nb1, nl1, sv1, wa') ?_ ?_)
        · rw [if_neg (by decide)]
          exact rb_bnd _ y2 (rb_bnd _ (show rb_pf mf1 13 ans = some _ from rfl) (by rw [← p1]))
        · rw [← p2]
      · have : B + 2200 * (j + 1) = B + 2200 * j + 2200 := by omega
        rw [this]; exact y3
      · show upd mf1 13 ans i = mf i
        rw [rb_upn i3, y4 i i1 i2, hmf i i1 i2 i3]
    · refine ⟨(nI k, c', g', f'), (nI k, a', rd', ag', mf', na', nb', nl', sv', wa'), ?_, ?_, ⟨k, by omega, rfl, rfl⟩, rb_RB_mono hR (by omega), hmf, rfl⟩
      · show (if (6 : Int32) ≤ nI j then _ else _) = _
        rw [if_neg q0]
        refine rb_bnd _ x1 (rb_bnd (nI k, c', g', f') ?_ ?_)
        · exact if_pos rfl
        · rw [← p2]
      · show (if (6 : Int32) ≤ nI j then _ else _) = _
        rw [if_neg q0]
        refine rb_bnd _ x2 (rb_bnd (nI k, a', rd', ag', mf', na', nb', nl', sv', wa') ?_ ?_)
        · exact if_pos rfl
        · rw [← p2]
  · rintro ⟨m, c', g', f'⟩ ⟨m', a', rd', ag', mf', na', nb', nl', sv', wa'⟩ hP
    have q6 : (6 : Int32) ≤ nI 6 := by decide
    exact ⟨_, _, if_pos q6, if_pos q6, hP⟩
  · rintro ⟨m, c', g', f'⟩ ⟨m', a', rd', ag', mf', na', nb', nl', sv', wa'⟩ ⟨⟨k, hk, e1, e2⟩, hR, hmf, hwa⟩
    simp only at e1 e2 hR hmf hwa
    subst e1 e2 hwa
    exact ⟨_, _, rfl, rfl, k, c', g', f', a', rd', ag', mf', na', nb', nl', sv', hk, rfl, rfl, hR, hmf⟩
