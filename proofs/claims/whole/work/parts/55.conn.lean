theorem rp_waitAll {s s' : Nat} {c a : rb_Row} (h : rH 28 s s' c a) : XX5_waitingInAll c = some (nI (rb_cn (fun y => !decide (c (243 + y) = mI)) 28)) ∧ XX7_waitingAt a mI = some (nI (rb_cn (fun y => !decide (c (243 + y) = mI)) 28)) := by
  refine ⟨?_, ?_⟩
  · rw [xn_waitingInAll, rb_cn_congr]
    intro y hy
    rcases h.2.2.2.2.1 y hy with ⟨g, _⟩ | ⟨l, u, v, hl, _, _, _, g, _⟩
    · rw [g]; decide
    · rw [g]
      have q1 : ¬ nI l < nI 0 := nI_pos (by omega)
      have q2 : ¬ nI l = mI := rb_nmm (by omega)
      simp [q1, q2]
  · rw [yn_waitingAt, rb_cn_congr]
    intro y hy
    have hk := (h.2.1 y hy).1
    have hm : mI < nI 0 := by decide
    rcases h.2.2.2.2.1 y hy with ⟨g, g'⟩ | ⟨l, u, v, hl, _, _, _, g, g2, _, g4, _⟩
    · rcases rH_kind h hy with hd | hl
      · rw [hk, hd, g]; simp [hm]
      · rw [g' hl, g]; simp [hm]
    · rw [hk, g4, g2, g]
      have q1 : ¬ nI l < nI 0 := nI_pos (by omega)
      have q2 : ¬ nI l = mI := rb_nmm (by omega)
      have q3 : ¬ nI 0 < nI 0 := by decide
      simp [q1, q2, q3, hm]
theorem rp_longest {s s' : Nat} {c a : rb_Row} {z : Nat} (h : rH z s s' c a) {l : Nat} (hl : l < 28) : ∃ o : Option Nat, XX5_longestWaiting c (nI l) = some (rb_oi o) ∧ XX7_longestWaiting a (nI l) = some (rb_oi o) ∧ (o = none → ∀ y, y < 28 → c (243 + y) ≠ nI l) ∧ (∀ y, o = some y → y < 28 ∧ c (243 + y) = nI l) := by
  refine ⟨rb_am (fun i => decide (c (243 + i) = nI l)) (fun i => c (271 + i)) 28, xn_longestWaiting c (nI l), ?_, ?_, ?_⟩
  · have hm : ∀ y, y < 28 → c (243 + y) = nI l → c (243 + y) ≠ mI := fun y hy e => by rw [e]; exact rb_nmm (by omega)
    rw [yn_longestWaiting, rb_am_pi (p := fun i => decide (c (243 + i) = nI l)) (k := fun i => c (271 + i)) (n := 28) (π := fun i => i) (fun i hi => hi)]
    · cases rb_am (fun i => decide (c (243 + i) = nI l)) (fun i => c (271 + i)) 28 <;> rfl
    · intro u hu _
      exact ⟨u, hu, rfl⟩
    · intro y hy
      show (!decide (a (16 + 6 * y) < nI 0) && decide (a (16 + 6 * y + 4) = nI l)) = _
      have hk := (h.2.1 y hy).1
      rcases h.2.2.2.2.1 y hy with ⟨g, g'⟩ | ⟨l', u, v, hl', _, _, _, g, g2, _, g4, _⟩
      · have q2 : ¬ mI = nI l := fun e => rb_nmm (k := l) (by omega) e.symm
        rcases rH_kind h hy with hd | hlv
        · rw [hk, hd, g]
          have : mI < nI 0 := by decide
          simp [this, q2]
        · rw [g' hlv, g]
          simp [q2]
      · rw [hk, g4, g2, g]
        have q3 : ¬ nI 0 < nI 0 := by decide
        simp [q3]
    · intro i j hi hj hpi hpj
      simp only [decide_eq_true_eq] at hpi hpj
      exact (h.2.2.2.2.2.1 i j hi hj (hm i hi hpi) (hm j hj hpj)).1
    · intro i j hi hj hpi hpj
      simp only [decide_eq_true_eq] at hpi hpj
      exact (h.2.2.2.2.2.1 i j hi hj (hm i hi hpi) (hm j hj hpj)).2
  · intro e y hy ey
    have := rb_am_none e y hy
    simp [ey] at this
  · intro y e
    obtain ⟨h1, h2⟩ := rb_am_lt e
    exact ⟨h1, by simpa using h2⟩
theorem rp_kind5 {s s' : Nat} {c a : rb_Row} (h : rH 28 s s' c a) {l : Nat} (hl : l < 28) (h5 : c (19 + l) = nI 5) : ∃ k r, c (131 + l) = mI ∧ 1 ≤ k ∧ k ≤ 12 ∧ 1 ≤ r ∧ r ≤ 100 ∧ a (16 + 6 * l + 2) = nI k ∧ c (215 + l) = nI k ∧ a (16 + 6 * l + 3) = nI r ∧ c (75 + l) = nI r ∧ c (47 + l) = nI (rb_cn (fun y => decide (c (243 + y) = nI l)) 28) ∧ rb_cn (fun y => decide (c (243 + y) = nI l)) 28 ≤ k := by
  rcases (h.2.1 l hl).2 with g | ⟨e, p, r, b, g0, g1, _⟩ | ⟨b, _, g, _⟩ | ⟨b, _, g, _⟩ | ⟨g, _⟩ | ⟨k, r, g1, g2, g3, g4, g5, g6, g7, g8, g9, g10, g11⟩
  · rw [g.1] at h5; exact absurd h5.symm (rb_nmm (by omega))
  · rw [g1] at h5; have := (nI_eq (by omega) (by omega)).mp h5; omega
  · rw [g] at h5; have := (nI_eq (by omega) (by omega)).mp h5; omega
  · rw [g] at h5; have := (nI_eq (by omega) (by omega)).mp h5; omega
  · rw [g] at h5; have := (nI_eq (by omega) (by omega)).mp h5; omega
  · obtain ⟨g12, g13⟩ := g11 (by omega)
    exact ⟨k, r, g2, g3, g4, g5, g6, g7, g8, g9, g10, g12, g13⟩
set_option maxHeartbeats 8000000 in
theorem ra_connect {B q : Nat} {c a : rb_Row} (h : rb_RB B q c a) (hb : B + q + 30000 < 2000000000) (v1 x2 : Int32) (g f rd ag mf na nb nl sv wa mf1 wa1 : rb_Row) (hK : rb_KP x2 mf wa a mf1 wa1) : ∃ ans c' g' f' a' rd' ag' mf' na' nb' nl' sv' wa', XX0_connectTo c g f v1 = some (ans, c', g', f') ∧ XX7_goConnect a rd ag mf na nb nl sv wa v1 x2 = some (ans, a', rd', ag', mf', na', nb', nl', sv', wa') ∧ rb_oq B 2200 q (nI 0 ≤ ans) c a mf wa mf1 wa1 c' a' mf' wa' := by
  obtain ⟨n, π, s, s', hR, hB⟩ := h
  have hH := hR.2.1
  have hsq : s' ≤ s + q := hR.1.2.2.2.2.2.1
  have hKe := rb_KPe hK
  have hm1 : ¬ nI 0 ≤ mI := by decide
  have hm2 : ¬ nI 0 ≤ -nI 2 := by decide
  obtain ⟨f1, f2⟩ := rp_freeHandle hH
  unfold XX0_connectTo XX7_goConnect
  rcases rp_thing hH v1 with ⟨e1, e2⟩ | ⟨k, l, hk, hl, ev, ec, ea, hlv, hw, hz, e1, e2⟩
  · refine ⟨mI, c, g, f, a, rd, ag, mf, na, nb, nl, sv, wa, ?_, ?_, Or.inr ⟨hm1, rfl, rfl, rfl, rfl⟩⟩
    · simp (maxSteps := 3000000) (disch := omega) only [↓reduceIte, Nat.reduceEqDiff, Nat.reduceLeDiff, eq_self, not_true_eq_false, not_false_eq_true, li_0, li_1, li_2, li_3, li_4, li_5, li_6, li_7, li_8, li_9, li_10, li_11, li_12, li_13, li_14, li_15, li_16, li_17, li_18, li_19, li_20, li_21, li_22, li_23, li_24, li_25, li_26, li_27, li_28, li_29, li_30, li_31, li_32, li_33, li_34, li_35, li_36, li_37, li_38, li_39, li_40, li_41, li_42, li_47, li_50, li_60, li_63, li_75, li_100, li_103, li_131, li_159, li_184, li_187, li_215, li_243, li_256, li_271, li_296, li_299, li_323, li_347, li_371, li_395, li_419, li_443, li_467, li_491, li_515, li_539, li_545, li_551, li_557, li_560, li_563, li_569, li_575, li_581, li_587, li_593, li_599, li_605, li_629, li_653, li_677, li_725, li_773, li_794, li_795, li_796, li_1000, li_1546, li_1592, li_6184, li_9552, li_10049, li_10348, li_100000, rb_mI, nI_add, nI_mul, nI_leI, nI_ltI, nI_eq, rb_rdn, rb_wrn, rb_n0, rb_m0, rb_m1n, rb_nm1, rb_m1lt, rb_m1le, rb_0m1, rb_ltm1, rb_lem1, Nat.add_zero, Nat.zero_le, Nat.not_lt_zero, Nat.one_ne_zero, Option.bind_some, Option.bind_none, Option.some.injEq, if_true, if_false, ite_true, ite_false, Sum.elim_inl, Sum.elim_inr, xn_kindOf5n _ e1, f1]
    · simp (maxSteps := 3000000) (disch := omega) only [↓reduceIte, Nat.reduceEqDiff, Nat.reduceLeDiff, eq_self, not_true_eq_false, not_false_eq_true, li_0, li_1, li_2, li_3, li_4, li_5, li_6, li_7, li_8, li_9, li_10, li_11, li_12, li_13, li_14, li_15, li_16, li_17, li_18, li_19, li_20, li_21, li_22, li_23, li_24, li_25, li_26, li_27, li_28, li_29, li_30, li_31, li_32, li_33, li_34, li_35, li_36, li_37, li_38, li_39, li_40, li_41, li_42, li_47, li_50, li_60, li_63, li_75, li_100, li_103, li_131, li_159, li_184, li_187, li_215, li_243, li_256, li_271, li_296, li_299, li_323, li_347, li_371, li_395, li_419, li_443, li_467, li_491, li_515, li_539, li_545, li_551, li_557, li_560, li_563, li_569, li_575, li_581, li_587, li_593, li_599, li_605, li_629, li_653, li_677, li_725, li_773, li_794, li_795, li_796, li_1000, li_1546, li_1592, li_6184, li_9552, li_10049, li_10348, li_100000, rb_mI, nI_add, nI_mul, nI_leI, nI_ltI, nI_eq, rb_rdn, rb_wrn, rb_n0, rb_m0, rb_m1n, rb_nm1, rb_m1lt, rb_m1le, rb_0m1, rb_ltm1, rb_lem1, Nat.add_zero, Nat.zero_le, Nat.not_lt_zero, Nat.one_ne_zero, Option.bind_some, Option.bind_none, Option.some.injEq, if_true, if_false, ite_true, ite_false, Sum.elim_inl, Sum.elim_inr, xn_ofObject, xn_ofPipe, xn_ofInterest, xn_ofTask, xn_kindOf, xn_bitsOf7, xn_isInterest, xn_isAsleep, xn_objectAt, xn_pipeAt, xn_interestAt, xn_taskAt, rb_nz0, rb_nz1, rb_n10, Nat.one_ne_zero, eq_self, yn_namesn _ e2]
  · subst ev
    have k5 := xn_kindOf5 (nI 5) hl e1
    have kn := yn_names (nI 5) hk hl ea e2
    rw [(hH.2.1 l hl).1] at kn
    by_cases h5 : c (19 + l) = nI 5
    · simp only [h5, if_true] at k5 kn
      cases hf : rb_fd (fun k => decide (c (3 + k) = mI)) 16 with
      | none =>
        rw [hf] at f1 f2
        refine ⟨mI, c, g, f, a, rd, ag, mf, na, nb, nl, sv, wa, ?_, ?_, Or.inr ⟨hm1, rfl, rfl, rfl, rfl⟩⟩
        · simp (maxSteps := 3000000) (disch := omega) only [↓reduceIte, Nat.reduceEqDiff, Nat.reduceLeDiff, eq_self, not_true_eq_false, not_false_eq_true, li_0, li_1, li_2, li_3, li_4, li_5, li_6, li_7, li_8, li_9, li_10, li_11, li_12, li_13, li_14, li_15, li_16, li_17, li_18, li_19, li_20, li_21, li_22, li_23, li_24, li_25, li_26, li_27, li_28, li_29, li_30, li_31, li_32, li_33, li_34, li_35, li_36, li_37, li_38, li_39, li_40, li_41, li_42, li_47, li_50, li_60, li_63, li_75, li_100, li_103, li_131, li_159, li_184, li_187, li_215, li_243, li_256, li_271, li_296, li_299, li_323, li_347, li_371, li_395, li_419, li_443, li_467, li_491, li_515, li_539, li_545, li_551, li_557, li_560, li_563, li_569, li_575, li_581, li_587, li_593, li_599, li_605, li_629, li_653, li_677, li_725, li_773, li_794, li_795, li_796, li_1000, li_1546, li_1592, li_6184, li_9552, li_10049, li_10348, li_100000, rb_mI, nI_add, nI_mul, nI_leI, nI_ltI, nI_eq, rb_rdn, rb_wrn, rb_n0, rb_m0, rb_m1n, rb_nm1, rb_m1lt, rb_m1le, rb_0m1, rb_ltm1, rb_lem1, Nat.add_zero, Nat.zero_le, Nat.not_lt_zero, Nat.one_ne_zero, Option.bind_some, Option.bind_none, Option.some.injEq, if_true, if_false, ite_true, ite_false, Sum.elim_inl, Sum.elim_inr, k5, f1, rb_oi]
        · simp (maxSteps := 3000000) (disch := omega) only [↓reduceIte, Nat.reduceEqDiff, Nat.reduceLeDiff, eq_self, not_true_eq_false, not_false_eq_true, li_0, li_1, li_2, li_3, li_4, li_5, li_6, li_7, li_8, li_9, li_10, li_11, li_12, li_13, li_14, li_15, li_16, li_17, li_18, li_19, li_20, li_21, li_22, li_23, li_24, li_25, li_26, li_27, li_28, li_29, li_30, li_31, li_32, li_33, li_34, li_35, li_36, li_37, li_38, li_39, li_40, li_41, li_42, li_47, li_50, li_60, li_63, li_75, li_100, li_103, li_131, li_159, li_184, li_187, li_215, li_243, li_256, li_271, li_296, li_299, li_323, li_347, li_371, li_395, li_419, li_443, li_467, li_491, li_515, li_539, li_545, li_551, li_557, li_560, li_563, li_569, li_575, li_581, li_587, li_593, li_599, li_605, li_629, li_653, li_677, li_725, li_773, li_794, li_795, li_796, li_1000, li_1546, li_1592, li_6184, li_9552, li_10049, li_10348, li_100000, rb_mI, nI_add, nI_mul, nI_leI, nI_ltI, nI_eq, rb_rdn, rb_wrn, rb_n0, rb_m0, rb_m1n, rb_nm1, rb_m1lt, rb_m1le, rb_0m1, rb_ltm1, rb_lem1, Nat.add_zero, Nat.zero_le, Nat.not_lt_zero, Nat.one_ne_zero, Option.bind_some, Option.bind_none, Option.some.injEq, if_true, if_false, ite_true, ite_false, Sum.elim_inl, Sum.elim_inr, xn_ofObject, xn_ofPipe, xn_ofInterest, xn_ofTask, xn_kindOf, xn_bitsOf7, xn_isInterest, xn_isAsleep, xn_objectAt, xn_pipeAt, xn_interestAt, xn_taskAt, rb_nz0, rb_nz1, rb_n10, Nat.one_ne_zero, eq_self, kn, f2, rb_oi]
      | some k' =>
        rw [hf] at f1 f2
        obtain ⟨hk', hpk, hmin⟩ := rb_fd_some hf
        have hfk : c (3 + k') = mI := by simpa using hpk
        obtain ⟨m, r, l1, l2, l3, l4, l5, l6, l7, l8, l9, l10, l11⟩ := rp_kind5 hH hl h5
        have hwa := yn_waits hH hl
        obtain ⟨w1, w2⟩ := rp_waitAll hH
        have hw12 := hH.2.2.2.2.2.2
        have hcb := rb_cn_le (fun y => decide (c (243 + y) = nI l)) 28
        generalize hvv : rb_cn (fun y => decide (c (243 + y) = nI l)) 28 = v at l10 l11 hwa hcb
        generalize hww : rb_cn (fun y => !decide (c (243 + y) = mI)) 28 = tw at w1 w2 hw12
        by_cases hfull : m ≤ v
        · have hfe : v = m := by omega
          refine ⟨-nI 2, c, g, f, a, rd, ag, mf, na, nb, nl, sv, wa, ?_, ?_, Or.inr ⟨hm2, rfl, rfl, rfl, rfl⟩⟩
          · simp (maxSteps := 3000000) (disch := omega) only [↓reduceIte, Nat.reduceEqDiff, Nat.reduceLeDiff, eq_self, not_true_eq_false, not_false_eq_true, li_0, li_1, li_2, li_3, li_4, li_5, li_6, li_7, li_8, li_9, li_10, li_11, li_12, li_13, li_14, li_15, li_16, li_17, li_18, li_19, li_20, li_21, li_22, li_23, li_24, li_25, li_26, li_27, li_28, li_29, li_30, li_31, li_32, li_33, li_34, li_35, li_36, li_37, li_38, li_39, li_40, li_41, li_42, li_47, li_50, li_60, li_63, li_75, li_100, li_103, li_131, li_159, li_184, li_187, li_215, li_243, li_256, li_271, li_296, li_299, li_323, li_347, li_371, li_395, li_419, li_443, li_467, li_491, li_515, li_539, li_545, li_551, li_557, li_560, li_563, li_569, li_575, li_581, li_587, li_593, li_599, li_605, li_629, li_653, li_677, li_725, li_773, li_794, li_795, li_796, li_1000, li_1546, li_1592, li_6184, li_9552, li_10049, li_10348, li_100000, rb_mI, nI_add, nI_mul, nI_leI, nI_ltI, nI_eq, rb_rdn, rb_wrn, rb_n0, rb_m0, rb_m1n, rb_nm1, rb_m1lt, rb_m1le, rb_0m1, rb_ltm1, rb_lem1, Nat.add_zero, Nat.zero_le, Nat.not_lt_zero, Nat.one_ne_zero, Option.bind_some, Option.bind_none, Option.some.injEq, if_true, if_false, ite_true, ite_false, Sum.elim_inl, Sum.elim_inr, k5, f1, rb_oi, l10, l7, hfull]
          · simp (maxSteps := 3000000) (disch := omega) only [↓reduceIte, Nat.reduceEqDiff, Nat.reduceLeDiff, eq_self, not_true_eq_false, not_false_eq_true, li_0, li_1, li_2, li_3, li_4, li_5, li_6, li_7, li_8, li_9, li_10, li_11, li_12, li_13, li_14, li_15, li_16, li_17, li_18, li_19, li_20, li_21, li_22, li_23, li_24, li_25, li_26, li_27, li_28, li_29, li_30, li_31, li_32, li_33, li_34, li_35, li_36, li_37, li_38, li_39, li_40, li_41, li_42, li_47, li_50, li_60, li_63, li_75, li_100, li_103, li_131, li_159, li_184, li_187, li_215, li_243, li_256, li_271, li_296, li_299, li_323, li_347, li_371, li_395, li_419, li_443, li_467, li_491, li_515, li_539, li_545, li_551, li_557, li_560, li_563, li_569, li_575, li_581, li_587, li_593, li_599, li_605, li_629, li_653, li_677, li_725, li_773, li_794, li_795, li_796, li_1000, li_1546, li_1592, li_6184, li_9552, li_10049, li_10348, li_100000, rb_mI, nI_add, nI_mul, nI_leI, nI_ltI, nI_eq, rb_rdn, rb_wrn, rb_n0, rb_m0, rb_m1n, rb_nm1, rb_m1lt, rb_m1le, rb_0m1, rb_ltm1, rb_lem1, Nat.add_zero, Nat.zero_le, Nat.not_lt_zero, Nat.one_ne_zero, Option.bind_some, Option.bind_none, Option.some.injEq, if_true, if_false, ite_true, ite_false, Sum.elim_inl, Sum.elim_inr, xn_ofObject, xn_ofPipe, xn_ofInterest, xn_ofTask, xn_kindOf, xn_bitsOf7, xn_isInterest, xn_isAsleep, xn_objectAt, xn_pipeAt, xn_interestAt, xn_taskAt, rb_nz0, rb_nz1, rb_n10, Nat.one_ne_zero, eq_self, kn, f2, rb_oi, ea, hwa, l6, hfe]
        · have hfe : ¬ v = m := by omega
          by_cases hall : tw < 12
          · have hal := rp_alive hH
            rw [hww] at hal
            have hpos := rb_cn_pos (p := fun k => decide (c (3 + k) = mI)) hk' hpk
            obtain ⟨x, y, p, hx, hy, hp, hxy, hdx, hdy, hp2, hp3, m1, m2⟩ := rp_makeEnds hH (by omega) (nI r)
            obtain ⟨x0, y0, x1, y1, x2', y2, x4, y4, x8, y8⟩ := rb_meC_x (c := c) (r := nI r) hx hy hxy
            obtain ⟨ax0, ay0, ax1, ay1, ax4, ay4, p0, p1, p2, p3⟩ := rb_meA_x (a := a) (r := nI r) hx hy hp hxy
            have hlx : l ≠ x := fun e => by rw [e, hdx] at h5; exact rb_nmm (k := 5) (by omega) h5.symm
            have hly : l ≠ y := fun e => by rw [e, hdy] at h5; exact rb_nmm (k := 5) (by omega) h5.symm
            have hR1 := rp_connect hR (by omega) hx hy hp hxy hdx hdy hp2 hp3 l4 l5 hk' hfk hl h5 l1 l10 hvv.symm l7 l6 (by omega) l3 l9 l8 (by rw [hww]; exact hall)
            have hs1 : rb_meC c x y (nI r) 1 = nI s := by rw [rb_meC_at (fun i hi => by omega)]; exact hR.1.2.2.1
            have hl47 : rb_meC c x y (nI r) (47 + l) = nI (v) := by rw [rb_meC_at (fun i hi => by omega)]; exact l10
            have hs2 : rb_meA a x y p (nI r) 795 = nI s' := by rw [rb_meA_at (fun i hi => by omega) (fun i hi => by omega)]; exact hR.1.2.2.2.1
            have hk19 : (upd (upd (upd (upd (upd (rb_meC c x y (nI r)) (243 + x) (nI l)) 1 (nI (s + 1))) (271 + x) (nI s)) (47 + l) (nI (v + 1))) (3 + k') (nI y)) (19 + l) = nI 5 := by
              simp (disch := omega) only [rb_upn]
              rw [rb_meC_at (fun i hi => by omega)]; exact h5
            have hasl : rb_asl (upd (upd (upd (upd (upd (rb_meC c x y (nI r)) (243 + x) (nI l)) 1 (nI (s + 1))) (271 + x) (nI s)) (47 + l) (nI (v + 1))) (3 + k') (nI y)) = rb_asl c := rb_asl_congr (fun t ht => by
              simp (disch := omega) only [rb_upn]
              exact rb_meC_at (fun i hi => by omega))
            obtain ⟨c', g', f', a', rd', ag', mf', na', nb', nl', sv', j1, j2, j3, j4, j5, j6⟩ := rp_act (rR_mono hR1 (W' := B + 1) (by omega)) (by omega) (by omega) hl (by rw [hk19]; exact rb_kne rfl (by omega) (by omega) (by omega)) (nI 1) g f rd ag mf1 na nb nl sv
            refine ⟨nI k', c', g', f', a', rd', ag', mf', na', nb', nl', sv', wa1, ?_, ?_, Or.inl ⟨nI_pos' (by omega), rb_RB_mono j3 (by omega), j4, rfl, fun k h1 h2 => (j6 k h1 h2).trans (by rw [rb_upn (by omega), rb_upn (by omega), rb_upn (by omega), rb_upn (by omega), rb_upn (by omega)]; exact rb_meC_at (fun i hi => by omega)), rb_GT_base (rb_GT_G (rb_G_of j5)) (fun u hu => by rw [rb_upn (by omega), rb_upn (by omega), rb_upn (by omega), rb_upn (by omega), rb_upn (by omega)]; exact rb_meC_at (fun i hi => by omega))⟩⟩
            · unfold XX5_giveName
              have q1 : ¬ 16 ≤ k' := by omega
              simp (maxSteps := 3000000) (disch := omega) only [↓reduceIte, Nat.reduceEqDiff, Nat.reduceLeDiff, eq_self, not_true_eq_false, not_false_eq_true, li_0, li_1, li_2, li_3, li_4, li_5, li_6, li_7, li_8, li_9, li_10, li_11, li_12, li_13, li_14, li_15, li_16, li_17, li_18, li_19, li_20, li_21, li_22, li_23, li_24, li_25, li_26, li_27, li_28, li_29, li_30, li_31, li_32, li_33, li_34, li_35, li_36, li_37, li_38, li_39, li_40, li_41, li_42, li_47, li_50, li_60, li_63, li_75, li_100, li_103, li_131, li_159, li_184, li_187, li_215, li_243, li_256, li_271, li_296, li_299, li_323, li_347, li_371, li_395, li_419, li_443, li_467, li_491, li_515, li_539, li_545, li_551, li_557, li_560, li_563, li_569, li_575, li_581, li_587, li_593, li_599, li_605, li_629, li_653, li_677, li_725, li_773, li_794, li_795, li_796, li_1000, li_1546, li_1592, li_6184, li_9552, li_10049, li_10348, li_100000, rb_mI, nI_add, nI_mul, nI_leI, nI_ltI, nI_eq, rb_rdn, rb_wrn, rb_n0, rb_m0, rb_m1n, rb_nm1, rb_m1lt, rb_m1le, rb_0m1, rb_ltm1, rb_lem1, Nat.add_zero, Nat.zero_le, Nat.not_lt_zero, Nat.one_ne_zero, Option.bind_some, Option.bind_none, Option.some.injEq, if_true, if_false, ite_true, ite_false, Sum.elim_inl, Sum.elim_inr, k5, f1, rb_oi, l10, l7, hfull, w1, hall, l9, m1, rb_upn, hs1, hl47, x4, q1, j1]
            · have q1 : ¬ tw = 12 := by omega
              have fh : XX7_freeHandle (upd (upd (upd (rb_meA a x y p (nI r)) (16 + 6 * x + 4) (nI l)) 795 (nI (s' + 1))) (16 + 6 * x + 5) (nI (s' + 1))) = some (nI k') := by
                rw [← show XX7_freeHandle a = some (nI k') from f2, yn_freeHandle, yn_freeHandle]
                congr 2
                refine rb_fd_congr (fun i hi => ?_)
                simp (disch := omega) only [rb_upn]
                rw [rb_meA_at (fun i hi => by omega) (fun i hi => by omega)]
              generalize rb_meA a x y p (nI r) = M at m2 p2 p3 hs2 fh j2
              have st : XX7_stamp (upd M (16 + 6 * x + 4) (nI l)) = some (nI (s' + 1), upd (upd M (16 + 6 * x + 4) (nI l)) 795 (nI (s' + 1))) := by
                unfold XX7_stamp
                simp (disch := omega) only [li_0, li_1, li_2, li_3, li_4, li_5, li_6, li_7, li_8, li_9, li_10, li_11, li_12, li_13, li_14, li_15, li_16, li_17, li_18, li_19, li_20, li_21, li_22, li_23, li_24, li_25, li_26, li_27, li_28, li_29, li_30, li_31, li_32, li_33, li_34, li_35, li_36, li_37, li_38, li_39, li_40, li_41, li_42, li_47, li_50, li_60, li_63, li_75, li_100, li_103, li_131, li_159, li_184, li_187, li_215, li_243, li_256, li_271, li_296, li_299, li_323, li_347, li_371, li_395, li_419, li_443, li_467, li_491, li_515, li_539, li_545, li_551, li_557, li_560, li_563, li_569, li_575, li_581, li_587, li_593, li_599, li_605, li_629, li_653, li_677, li_725, li_773, li_794, li_795, li_796, li_1000, li_1546, li_1592, li_6184, li_9552, li_10049, li_10348, li_100000, rb_mI, nI_add, nI_mul, nI_leI, nI_ltI, nI_eq, rb_rdn, rb_wrn, rb_n0, rb_m0, rb_m1n, rb_nm1, rb_m1lt, rb_m1le, rb_0m1, rb_ltm1, rb_lem1, Nat.add_zero, Nat.zero_le, Nat.not_lt_zero, Nat.one_ne_zero, Option.bind_some, Option.bind_none, Option.some.injEq, if_true, if_false, ite_true, ite_false, Sum.elim_inl, Sum.elim_inr, rb_upn, rb_upe, hs2]
              have o1 : XX7_ofPipe M (nI p) (nI 2) = some (nI x) := by rw [xn_ofPipe M hp (by omega), p2]
              have oa := xn_objectAt x 4
              have ob := xn_objectAt x 5
              have ow : rb_wr M 796 (nI (16 + 6 * x + 4)) (nI l) = some (upd M (16 + 6 * x + 4) (nI l)) := rb_wrn (by omega) (by omega)
              have o2 : XX7_ofPipe (upd M (16 + 6 * x + 4) (nI l)) (nI p) (nI 2) = some (nI x) := by rw [xn_ofPipe _ hp (by omega), rb_upn (by omega), p2]
              have ow2 : rb_wr (upd (upd M (16 + 6 * x + 4) (nI l)) 795 (nI (s' + 1))) 796 (nI (16 + 6 * x + 5)) (nI (s' + 1)) = some (upd (upd (upd M (16 + 6 * x + 4) (nI l)) 795 (nI (s' + 1))) (16 + 6 * x + 5) (nI (s' + 1))) := rb_wrn (by omega) (by omega)
              have o3 : XX7_ofPipe (upd (upd (upd M (16 + 6 * x + 4) (nI l)) 795 (nI (s' + 1))) (16 + 6 * x + 5) (nI (s' + 1))) (nI p) (nI 3) = some (nI y) := by rw [xn_ofPipe _ hp (by omega), rb_upn (by omega), rb_upn (by omega), rb_upn (by omega), p3]
              have nh : XX7_newHandle (upd (upd (upd M (16 + 6 * x + 4) (nI l)) 795 (nI (s' + 1))) (16 + 6 * x + 5) (nI (s' + 1))) (nI y) = some (nI k', upd (upd (upd (upd M (16 + 6 * x + 4) (nI l)) 795 (nI (s' + 1))) (16 + 6 * x + 5) (nI (s' + 1))) k' (nI y)) := by
                unfold XX7_newHandle
                rw [fh]
                show (rb_wr _ 796 (nI k') (nI y)).bind _ = _
                exact rb_bnd _ (rb_wrn (by omega) (by omega)) rfl
              simp (maxSteps := 3000000) (disch := omega) only [↓reduceIte, Nat.reduceEqDiff, Nat.reduceLeDiff, eq_self, not_true_eq_false, not_false_eq_true, li_0, li_1, li_2, li_3, li_4, li_5, li_6, li_7, li_8, li_9, li_10, li_11, li_12, li_13, li_14, li_15, li_16, li_17, li_18, li_19, li_20, li_21, li_22, li_23, li_24, li_25, li_26, li_27, li_28, li_29, li_30, li_31, li_32, li_33, li_34, li_35, li_36, li_37, li_38, li_39, li_40, li_41, li_42, li_47, li_50, li_60, li_63, li_75, li_100, li_103, li_131, li_159, li_184, li_187, li_215, li_243, li_256, li_271, li_296, li_299, li_323, li_347, li_371, li_395, li_419, li_443, li_467, li_491, li_515, li_539, li_545, li_551, li_557, li_560, li_563, li_569, li_575, li_581, li_587, li_593, li_599, li_605, li_629, li_653, li_677, li_725, li_773, li_794, li_795, li_796, li_1000, li_1546, li_1592, li_6184, li_9552, li_10049, li_10348, li_100000, rb_mI, nI_add, nI_mul, nI_leI, nI_ltI, nI_eq, rb_rdn, rb_wrn, rb_n0, rb_m0, rb_m1n, rb_nm1, rb_m1lt, rb_m1le, rb_0m1, rb_ltm1, rb_lem1, Nat.add_zero, Nat.zero_le, Nat.not_lt_zero, Nat.one_ne_zero, Option.bind_some, Option.bind_none, Option.some.injEq, if_true, if_false, ite_true, ite_false, Sum.elim_inl, Sum.elim_inr, xn_ofObject, xn_ofPipe, xn_ofInterest, xn_ofTask, xn_kindOf, xn_bitsOf7, xn_isInterest, xn_isAsleep, xn_objectAt, xn_pipeAt, xn_interestAt, xn_taskAt, rb_nz0, rb_nz1, rb_n10, Nat.one_ne_zero, eq_self, kn, f2, rb_oi, ea, hwa, l6, hfe, w2, q1, hKe, l8]
              exact rb_bnd _ m2 (rb_bnd _ o1 (rb_bnd _ oa (rb_bnd _ ow (rb_bnd _ o2 (rb_bnd _ ob (rb_bnd _ st (rb_bnd _ ow2 (rb_bnd _ o3 (rb_bnd _ nh (rb_bnd _ j2 rfl))))))))))
          · have q1 : tw = 12 := by omega
            refine ⟨-nI 2, c, g, f, a, rd, ag, mf, na, nb, nl, sv, wa, ?_, ?_, Or.inr ⟨hm2, rfl, rfl, rfl, rfl⟩⟩
            · simp (maxSteps := 3000000) (disch := omega) only [↓reduceIte, Nat.reduceEqDiff, Nat.reduceLeDiff, eq_self, not_true_eq_false, not_false_eq_true, li_0, li_1, li_2, li_3, li_4, li_5, li_6, li_7, li_8, li_9, li_10, li_11, li_12, li_13, li_14, li_15, li_16, li_17, li_18, li_19, li_20, li_21, li_22, li_23, li_24, li_25, li_26, li_27, li_28, li_29, li_30, li_31, li_32, li_33, li_34, li_35, li_36, li_37, li_38, li_39, li_40, li_41, li_42, li_47, li_50, li_60, li_63, li_75, li_100, li_103, li_131, li_159, li_184, li_187, li_215, li_243, li_256, li_271, li_296, li_299, li_323, li_347, li_371, li_395, li_419, li_443, li_467, li_491, li_515, li_539, li_545, li_551, li_557, li_560, li_563, li_569, li_575, li_581, li_587, li_593, li_599, li_605, li_629, li_653, li_677, li_725, li_773, li_794, li_795, li_796, li_1000, li_1546, li_1592, li_6184, li_9552, li_10049, li_10348, li_100000, rb_mI, nI_add, nI_mul, nI_leI, nI_ltI, nI_eq, rb_rdn, rb_wrn, rb_n0, rb_m0, rb_m1n, rb_nm1, rb_m1lt, rb_m1le, rb_0m1, rb_ltm1, rb_lem1, Nat.add_zero, Nat.zero_le, Nat.not_lt_zero, Nat.one_ne_zero, Option.bind_some, Option.bind_none, Option.some.injEq, if_true, if_false, ite_true, ite_false, Sum.elim_inl, Sum.elim_inr, k5, f1, rb_oi, l10, l7, hfull, w1, hall]
            · simp (maxSteps := 3000000) (disch := omega) only [↓reduceIte, Nat.reduceEqDiff, Nat.reduceLeDiff, eq_self, not_true_eq_false, not_false_eq_true, li_0, li_1, li_2, li_3, li_4, li_5, li_6, li_7, li_8, li_9, li_10, li_11, li_12, li_13, li_14, li_15, li_16, li_17, li_18, li_19, li_20, li_21, li_22, li_23, li_24, li_25, li_26, li_27, li_28, li_29, li_30, li_31, li_32, li_33, li_34, li_35, li_36, li_37, li_38, li_39, li_40, li_41, li_42, li_47, li_50, li_60, li_63, li_75, li_100, li_103, li_131, li_159, li_184, li_187, li_215, li_243, li_256, li_271, li_296, li_299, li_323, li_347, li_371, li_395, li_419, li_443, li_467, li_491, li_515, li_539, li_545, li_551, li_557, li_560, li_563, li_569, li_575, li_581, li_587, li_593, li_599, li_605, li_629, li_653, li_677, li_725, li_773, li_794, li_795, li_796, li_1000, li_1546, li_1592, li_6184, li_9552, li_10049, li_10348, li_100000, rb_mI, nI_add, nI_mul, nI_leI, nI_ltI, nI_eq, rb_rdn, rb_wrn, rb_n0, rb_m0, rb_m1n, rb_nm1, rb_m1lt, rb_m1le, rb_0m1, rb_ltm1, rb_lem1, Nat.add_zero, Nat.zero_le, Nat.not_lt_zero, Nat.one_ne_zero, Option.bind_some, Option.bind_none, Option.some.injEq, if_true, if_false, ite_true, ite_false, Sum.elim_inl, Sum.elim_inr, xn_ofObject, xn_ofPipe, xn_ofInterest, xn_ofTask, xn_kindOf, xn_bitsOf7, xn_isInterest, xn_isAsleep, xn_objectAt, xn_pipeAt, xn_interestAt, xn_taskAt, rb_nz0, rb_nz1, rb_n10, Nat.one_ne_zero, eq_self, kn, f2, rb_oi, ea, hwa, l6, hfe, w2, q1]
    · simp only [h5, if_false] at k5 kn
      refine ⟨mI, c, g, f, a, rd, ag, mf, na, nb, nl, sv, wa, ?_, ?_, Or.inr ⟨hm1, rfl, rfl, rfl, rfl⟩⟩
      · simp (maxSteps := 3000000) (disch := omega) only [↓reduceIte, Nat.reduceEqDiff, Nat.reduceLeDiff, eq_self, not_true_eq_false, not_false_eq_true, li_0, li_1, li_2, li_3, li_4, li_5, li_6, li_7, li_8, li_9, li_10, li_11, li_12, li_13, li_14, li_15, li_16, li_17, li_18, li_19, li_20, li_21, li_22, li_23, li_24, li_25, li_26, li_27, li_28, li_29, li_30, li_31, li_32, li_33, li_34, li_35, li_36, li_37, li_38, li_39, li_40, li_41, li_42, li_47, li_50, li_60, li_63, li_75, li_100, li_103, li_131, li_159, li_184, li_187, li_215, li_243, li_256, li_271, li_296, li_299, li_323, li_347, li_371, li_395, li_419, li_443, li_467, li_491, li_515, li_539, li_545, li_551, li_557, li_560, li_563, li_569, li_575, li_581, li_587, li_593, li_599, li_605, li_629, li_653, li_677, li_725, li_773, li_794, li_795, li_796, li_1000, li_1546, li_1592, li_6184, li_9552, li_10049, li_10348, li_100000, rb_mI, nI_add, nI_mul, nI_leI, nI_ltI, nI_eq, rb_rdn, rb_wrn, rb_n0, rb_m0, rb_m1n, rb_nm1, rb_m1lt, rb_m1le, rb_0m1, rb_ltm1, rb_lem1, Nat.add_zero, Nat.zero_le, Nat.not_lt_zero, Nat.one_ne_zero, Option.bind_some, Option.bind_none, Option.some.injEq, if_true, if_false, ite_true, ite_false, Sum.elim_inl, Sum.elim_inr, k5, f1]
      · simp (maxSteps := 3000000) (disch := omega) only [↓reduceIte, Nat.reduceEqDiff, Nat.reduceLeDiff, eq_self, not_true_eq_false, not_false_eq_true, li_0, li_1, li_2, li_3, li_4, li_5, li_6, li_7, li_8, li_9, li_10, li_11, li_12, li_13, li_14, li_15, li_16, li_17, li_18, li_19, li_20, li_21, li_22, li_23, li_24, li_25, li_26, li_27, li_28, li_29, li_30, li_31, li_32, li_33, li_34, li_35, li_36, li_37, li_38, li_39, li_40, li_41, li_42, li_47, li_50, li_60, li_63, li_75, li_100, li_103, li_131, li_159, li_184, li_187, li_215, li_243, li_256, li_271, li_296, li_299, li_323, li_347, li_371, li_395, li_419, li_443, li_467, li_491, li_515, li_539, li_545, li_551, li_557, li_560, li_563, li_569, li_575, li_581, li_587, li_593, li_599, li_605, li_629, li_653, li_677, li_725, li_773, li_794, li_795, li_796, li_1000, li_1546, li_1592, li_6184, li_9552, li_10049, li_10348, li_100000, rb_mI, nI_add, nI_mul, nI_leI, nI_ltI, nI_eq, rb_rdn, rb_wrn, rb_n0, rb_m0, rb_m1n, rb_nm1, rb_m1lt, rb_m1le, rb_0m1, rb_ltm1, rb_lem1, Nat.add_zero, Nat.zero_le, Nat.not_lt_zero, Nat.one_ne_zero, Option.bind_some, Option.bind_none, Option.some.injEq, if_true, if_false, ite_true, ite_false, Sum.elim_inl, Sum.elim_inr, xn_ofObject, xn_ofPipe, xn_ofInterest, xn_ofTask, xn_kindOf, xn_bitsOf7, xn_isInterest, xn_isAsleep, xn_objectAt, xn_pipeAt, xn_interestAt, xn_taskAt, rb_nz0, rb_nz1, rb_n10, Nat.one_ne_zero, eq_self, kn]
