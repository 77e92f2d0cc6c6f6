theorem rp_slots {z W q n : Nat} {π : Nat → Nat} {s s' : Nat} {c a : rb_Row} (h : rR z W q n π s s' c a) {t : Nat} (ht : t < 24) : (a (296 + 11 * t) = mI ∧ ∀ i, i < n → π i ≠ t) ∨ ∃ i x, i < n ∧ π i = t ∧ x < 28 ∧ a (296 + 11 * t) = nI x := by
  have hI := h.2.2.1
  by_cases q : ∀ i, i < n → π i ≠ t
  · exact Or.inl ⟨hI.2.2.2.2.2.1 t ht q, q⟩
  · obtain ⟨i, hi0⟩ := Classical.not_forall.mp q
    obtain ⟨hi, e⟩ := Classical.not_imp.mp hi0
    have e : π i = t := Classical.not_not.mp e
    obtain ⟨x, g1, g2, _⟩ := hI.2.1 i hi
    exact Or.inr ⟨i, x, hi, e, g1, by rw [← e, (hI.1 i hi).2.1]; exact g2⟩
theorem rp_cnt {z W q n : Nat} {π : Nat → Nat} {s s' : Nat} {c a : rb_Row} (h : rR z W q n π s s' c a) : rb_cn (fun t => !decide (a (296 + 11 * t) = mI)) 24 = n := by
  have hI := h.2.2.1
  rw [rb_cn_pi (π := π) (n := n) (fun i hi => (hI.1 i hi).1) (rI_inj hI) (fun t ht hp => ?_)]
  · have h1 := rb_cn_compl (n := n) (p := fun i => !decide (a (296 + 11 * π i) = mI)) (q := fun _ => false) (fun i hi => by
      obtain ⟨x, g1, g2, _⟩ := hI.2.1 i hi
      have e : a (296 + 11 * π i) ≠ mI := by rw [(hI.1 i hi).2.1, g2]; exact rb_nmm (by omega)
      simp [e])
    have h2 := rb_cn_zero (n := n) (p := fun _ => false) (fun _ _ => rfl)
    omega
  · rcases rp_slots h ht with ⟨e, _⟩ | ⟨i, x, hi, e, _⟩
    · simp [e] at hp
    · exact ⟨i, hi, e⟩
theorem yn_interestsNow {z W q n : Nat} {π : Nat → Nat} {s s' : Nat} {c a : rb_Row} (h : rR z W q n π s s' c a) : XX7_interestsNow a = some (nI n) := by
  unfold XX7_interestsNow
  rw [← rp_cnt h]
  refine rb_bnd _ (rb_lpc0 (fun t => !decide (a (296 + 11 * t) = mI)) 24 (by omega) (fun j m hj hm => ?_) (fun m hm => ?_)) rfl
  · have q1 : ¬ 24 ≤ j := by omega
    rcases rp_slots h hj with ⟨e, _⟩ | ⟨i, x, hi, _, hx, e⟩
    · simp (disch := omega) only [↓reduceIte, Nat.reduceEqDiff, Nat.reduceLeDiff, eq_self, not_true_eq_false, not_false_eq_true, li_0, li_1, li_2, li_3, li_4, li_5, li_6, li_7, li_8, li_9, li_10, li_11, li_12, li_13, li_14, li_15, li_16, li_17, li_18, li_19, li_20, li_21, li_22, li_23, li_24, li_25, li_26, li_27, li_28, li_29, li_30, li_31, li_32, li_33, li_34, li_35, li_36, li_37, li_38, li_39, li_40, li_41, li_42, li_47, li_50, li_60, li_63, li_75, li_100, li_103, li_131, li_159, li_184, li_187, li_215, li_243, li_256, li_271, li_296, li_299, li_323, li_347, li_371, li_395, li_419, li_443, li_467, li_491, li_515, li_539, li_545, li_551, li_557, li_560, li_563, li_569, li_575, li_581, li_587, li_593, li_599, li_605, li_629, li_653, li_677, li_725, li_773, li_794, li_795, li_796, li_1000, li_1546, li_1592, li_6184, li_9552, li_10049, li_10348, li_100000, rb_mI, nI_add, nI_mul, nI_leI, nI_ltI, nI_eq, rb_rdn, rb_wrn, rb_n0, rb_m0, rb_m1n, rb_nm1, rb_m1lt, rb_m1le, rb_0m1, rb_ltm1, rb_lem1, Nat.add_zero, Nat.zero_le, Nat.not_lt_zero, Nat.one_ne_zero, Option.bind_some, Option.bind_none, Option.some.injEq, if_true, if_false, ite_true, ite_false, Sum.elim_inl, Sum.elim_inr, xn_ofObject, xn_ofPipe, xn_ofInterest, xn_ofTask, xn_kindOf, xn_bitsOf7, xn_isInterest, xn_isAsleep, xn_objectAt, xn_pipeAt, xn_interestAt, xn_taskAt, rb_nz0, rb_nz1, rb_n10, Nat.one_ne_zero, eq_self, q1, e, decide_true, Bool.not_true, cond_false]
    · have e' : ¬ nI x = mI := rb_nmm (by omega)
      simp (disch := omega) only [↓reduceIte, Nat.reduceEqDiff, Nat.reduceLeDiff, eq_self, not_true_eq_false, not_false_eq_true, li_0, li_1, li_2, li_3, li_4, li_5, li_6, li_7, li_8, li_9, li_10, li_11, li_12, li_13, li_14, li_15, li_16, li_17, li_18, li_19, li_20, li_21, li_22, li_23, li_24, li_25, li_26, li_27, li_28, li_29, li_30, li_31, li_32, li_33, li_34, li_35, li_36, li_37, li_38, li_39, li_40, li_41, li_42, li_47, li_50, li_60, li_63, li_75, li_100, li_103, li_131, li_159, li_184, li_187, li_215, li_243, li_256, li_271, li_296, li_299, li_323, li_347, li_371, li_395, li_419, li_443, li_467, li_491, li_515, li_539, li_545, li_551, li_557, li_560, li_563, li_569, li_575, li_581, li_587, li_593, li_599, li_605, li_629, li_653, li_677, li_725, li_773, li_794, li_795, li_796, li_1000, li_1546, li_1592, li_6184, li_9552, li_10049, li_10348, li_100000, rb_mI, nI_add, nI_mul, nI_leI, nI_ltI, nI_eq, rb_rdn, rb_wrn, rb_n0, rb_m0, rb_m1n, rb_nm1, rb_m1lt, rb_m1le, rb_0m1, rb_ltm1, rb_lem1, Nat.add_zero, Nat.zero_le, Nat.not_lt_zero, Nat.one_ne_zero, Option.bind_some, Option.bind_none, Option.some.injEq, if_true, if_false, ite_true, ite_false, Sum.elim_inl, Sum.elim_inr, xn_ofObject, xn_ofPipe, xn_ofInterest, xn_ofTask, xn_kindOf, xn_bitsOf7, xn_isInterest, xn_isAsleep, xn_objectAt, xn_pipeAt, xn_interestAt, xn_taskAt, rb_nz0, rb_nz1, rb_n10, Nat.one_ne_zero, eq_self, q1, e, e', decide_false, Bool.not_false, cond_true]
  · simp (disch := omega) only [↓reduceIte, Nat.reduceEqDiff, Nat.reduceLeDiff, eq_self, not_true_eq_false, not_false_eq_true, li_0, li_1, li_2, li_3, li_4, li_5, li_6, li_7, li_8, li_9, li_10, li_11, li_12, li_13, li_14, li_15, li_16, li_17, li_18, li_19, li_20, li_21, li_22, li_23, li_24, li_25, li_26, li_27, li_28, li_29, li_30, li_31, li_32, li_33, li_34, li_35, li_36, li_37, li_38, li_39, li_40, li_41, li_42, li_47, li_50, li_60, li_63, li_75, li_100, li_103, li_131, li_159, li_184, li_187, li_215, li_243, li_256, li_271, li_296, li_299, li_323, li_347, li_371, li_395, li_419, li_443, li_467, li_491, li_515, li_539, li_545, li_551, li_557, li_560, li_563, li_569, li_575, li_581, li_587, li_593, li_599, li_605, li_629, li_653, li_677, li_725, li_773, li_794, li_795, li_796, li_1000, li_1546, li_1592, li_6184, li_9552, li_10049, li_10348, li_100000, rb_mI, nI_add, nI_mul, nI_leI, nI_ltI, nI_eq, rb_rdn, rb_wrn, rb_n0, rb_m0, rb_m1n, rb_nm1, rb_m1lt, rb_m1le, rb_0m1, rb_ltm1, rb_lem1, Nat.add_zero, Nat.zero_le, Nat.not_lt_zero, Nat.one_ne_zero, Option.bind_some, Option.bind_none, Option.some.injEq, if_true, if_false, ite_true, ite_false, Sum.elim_inl, Sum.elim_inr]
theorem rp_free {z W q n : Nat} {π : Nat → Nat} {s s' : Nat} {c a : rb_Row} (h : rR z W q n π s s' c a) (hn : n < 24) : ∃ t, t < 24 ∧ a (296 + 11 * t) = mI ∧ (∀ u, u < t → ∃ x, x < 28 ∧ a (296 + 11 * u) = nI x) ∧ ∀ i, i < n → π i ≠ t := by
  have h1 := rp_cnt h
  obtain ⟨t0, ht0, e0⟩ := rb_cn_lt (p := fun t => !decide (a (296 + 11 * t) = mI)) (n := 24) (by omega)
  have e0' : decide (a (296 + 11 * t0) = mI) = true := by
    cases hq : decide (a (296 + 11 * t0) = mI)
    · rw [hq] at e0; cases e0
    · rfl
  obtain ⟨t, et⟩ := rb_fd_ex (p := fun t => decide (a (296 + 11 * t) = mI)) ht0 e0'
  obtain ⟨g1, g2, g3⟩ := rb_fd_some et
  have g2' : a (296 + 11 * t) = mI := of_decide_eq_true g2
  refine ⟨t, g1, g2', fun u hu => ?_, ?_⟩
  · rcases rp_slots h (show u < 24 by omega) with ⟨e, _⟩ | ⟨i, x, hi, _, hx, e⟩
    · have := g3 u hu; simp [e] at this
    · exact ⟨x, hx, e⟩
  · rcases rp_slots h g1 with ⟨_, e⟩ | ⟨i, x, hi, _, hx, e⟩
    · exact e
    · rw [g2'] at e; exact absurd e.symm (rb_nmm (by omega))
/-- the reference's new row -/
def rb_aq (a : rb_Row) (t x y : Nat) (hh : Int32) (s' : Nat) : rb_Row := upd (upd (upd (upd (upd (upd (upd (upd a (296 + 11 * t) (nI x)) (296 + 11 * t + 1) (nI y)) (296 + 11 * t + 2) hh) 795 (nI (s' + 1))) (296 + 11 * t + 6) (nI (s' + 1))) (296 + 11 * t + 7) (nI 0)) (296 + 11 * t + 8) (nI 0)) (296 + 11 * t + 9) (nI 0)
theorem yn_stamp {a : rb_Row} {s' : Nat} (h : a 795 = nI s') : XX7_stamp a = some (nI (s' + 1), upd a 795 (nI (s' + 1))) := by
  unfold XX7_stamp
  have p : nI s' + 1 = nI (s' + 1) := nI_add s' 1
  refine rb_bnd (nI s') ((rb_rdn (k := 795) (by omega) (by omega)).trans (congrArg some h)) (rb_bnd _ ((congrArg (fun v => rb_wr a 796 795 v) p).trans (rb_wrn (k := 795) (by omega) (by omega))) (rb_bnd _ ((rb_rdn (k := 795) (by omega) (by omega)).trans (congrArg some (rb_upe rfl))) rfl))
set_option maxHeartbeats 4000000 in
theorem yn_new {a : rb_Row} {t x y k0 k1 s' : Nat} {β : Type} {F : rb_Row → Option β} {r : β} (ht : t < 24) (h0 : k0 < 16) (h1 : k1 < 16) (e0 : a k0 = nI x) (e1 : a k1 = nI y) (es : a 795 = nI s') (hF : F (rb_aq a t x y (nI k1) s') = some r) : ((XX7_interestAt (nI t) 0).bind fun t41 => (rb_rd a 796 (nI k0)).bind fun v43 => (rb_wr a 796 t41 v43).bind fun a45 => (XX7_interestAt (nI t) 1).bind fun t47 => (rb_rd a45 796 (nI k1)).bind fun v49 => (rb_wr a45 796 t47 v49).bind fun a51 => (XX7_interestAt (nI t) 2).bind fun t53 => (rb_wr a51 796 t53 (nI k1)).bind fun a55 => (XX7_interestAt (nI t) 6).bind fun t57 => (XX7_stamp a55).bind fun t59 => (rb_wr t59.2 796 t57 t59.1).bind fun a61 => (XX7_interestAt (nI t) 7).bind fun t63 => (rb_wr a61 796 t63 0).bind fun a65 => (XX7_interestAt (nI t) 8).bind fun t67 => (rb_wr a65 796 t67 0).bind fun a69 => (XX7_interestAt (nI t) 9).bind fun t71 => (rb_wr a69 796 t71 0).bind F) = some r := by
  refine rb_bnd _ (xn_interestAt t 0) (rb_bnd (nI x) ((rb_rdn (by omega) (by omega)).trans (congrArg some e0)) (rb_bnd _ (rb_wrn (by omega) (by omega)) (rb_bnd _ (xn_interestAt t 1) (rb_bnd (nI y) ((rb_rdn (by omega) (by omega)).trans (congrArg some ((rb_upn (by omega)).trans e1))) (rb_bnd _ (rb_wrn (by omega) (by omega)) (rb_bnd _ (xn_interestAt t 2) (rb_bnd _ (rb_wrn (by omega) (by omega)) (rb_bnd _ (xn_interestAt t 6) (rb_bnd _ (yn_stamp (s' := s') ?_) (rb_bnd _ (rb_wrn (by omega) (by omega)) (rb_bnd _ (xn_interestAt t 7) (rb_bnd _ (rb_wrn (by omega) (by omega)) (rb_bnd _ (xn_interestAt t 8) (rb_bnd _ (rb_wrn (by omega) (by omega)) (rb_bnd _ (xn_interestAt t 9) (rb_bnd _ (rb_wrn (by omega) (by omega)) hF))))))))))))))))
  rw [rb_upn (by omega), rb_upn (by omega), rb_upn (by omega)]
  exact es
