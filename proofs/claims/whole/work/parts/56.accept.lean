set_option maxHeartbeats 8000000 in
theorem rp_accept {W q n : Nat} {π : Nat → Nat} {s s' : Nat} {c a : rb_Row} (hR : rR 28 W q n π s s' c a) {x l k v : Nat} (hx : x < 28) (hl : l < 28) (hk : k < 16) (hwx : c (243 + x) = nI l) (hf : c (3 + k) = mI) (hv : c (47 + l) = nI (v + 1)) (hv' : rb_cn (fun y => decide (c (243 + y) = nI l)) 28 = v + 1) : rR 28 W q n π s s' (upd (upd (upd c (243 + x) mI) (47 + l) (nI v)) (3 + k) (nI x)) (upd (upd a (16 + 6 * x + 4) mI) k (nI x)) := by
  have hH := hR.2.1
  obtain ⟨h1, h2, h3, h4, h5, h6, h7⟩ := id hH
  obtain ⟨k0, k5⟩ : c (19 + x) = nI 0 ∧ c (19 + l) = nI 5 := by
    rcases h5 x hx with ⟨g, _⟩ | ⟨l', u, w, g1, g2, g3, g4, g5, g6, g7, g8, _⟩
    · rw [hwx] at g; exact absurd g (rb_nmm (by omega))
    · rw [hwx] at g5
      have := (nI_eq (by omega) (by omega)).mp g5
      subst this
      exact ⟨g8, g7⟩
  have hlx : l ≠ x := fun e => by rw [e, k0] at k5; have := (nI_eq (by omega) (by omega)).mp k5; omega
  have hlv : ∀ w, w < 28 → (rb_live (upd (upd (upd c (243 + x) mI) (47 + l) (nI v)) (3 + k) (nI x)) w ↔ rb_live c w) := fun w hw => by
    unfold rb_live
    rw [rb_upn (by omega), rb_upn (by omega), rb_upn (by omega)]
  have hwo : ∀ w, w < 28 → w ≠ x → (upd (upd (upd c (243 + x) mI) (47 + l) (nI v)) (3 + k) (nI x)) (243 + w) = c (243 + w) := fun w hw hne => by
    rw [rb_upn (by omega), rb_upn (by omega), rb_upn (by omega)]
  have hwx' : (upd (upd (upd c (243 + x) mI) (47 + l) (nI v)) (3 + k) (nI x)) (243 + x) = mI := by
    rw [rb_upn (by omega), rb_upn (by omega)]; exact rb_upe rfl
  have hcl : rb_cn (fun y => decide ((upd (upd (upd c (243 + x) mI) (47 + l) (nI v)) (3 + k) (nI x)) (243 + y) = nI l)) 28 = v := by
    have := rb_cn_drop (p := fun y => decide (c (243 + y) = nI l)) (q := fun y => decide ((upd (upd (upd c (243 + x) mI) (47 + l) (nI v)) (3 + k) (nI x)) (243 + y) = nI l)) hx (by simp [hwx]) (by
      rw [hwx', decide_eq_false_iff_not]
      exact fun g => rb_nmm (k := l) (by omega) g.symm) (fun i hi hne => by rw [hwo i hi hne])
    omega
  refine rR_obj hR (Nat.le_refl _) (Nat.le_refl _) (by simp (disch := omega) only [rb_upn]; exact hR.1.2.2.1) (by simp (disch := omega) only [rb_upn]; exact hR.1.2.2.2.1) hR.1.2.2.2.2.1 hR.1.2.2.2.2.2.1 (fun j hj => by simp (disch := omega) only [rb_upn]) (fun j hj _ => by simp (disch := omega) only [rb_upn]) (fun w hw _ => by simp (disch := omega) only [rb_upn]) (fun j hj hne => ?_) ?_
  · have : j ≠ k := fun e => hne (e ▸ hf)
    simp (disch := omega) only [rb_upn]
  · refine ⟨?_, ?_, ?_, ?_, ?_, ?_, ?_⟩
    · intro j hj
      by_cases e : j = k
      · subst e
        rw [rb_upe rfl, rb_upe rfl]
        refine ⟨rfl, fun e => ?_, Or.inr ⟨x, hx, rfl, (hlv x hx).mpr ⟨0, by omega, k0⟩, hwx'⟩⟩
        have := (nI_eq (by omega) (by omega)).mp e
        omega
      · rw [rb_upn e, rb_upn (by omega), rb_upn (by omega), rb_upn (by omega), rb_upn (by omega)]
        obtain ⟨p1, p2, p3⟩ := h1 j hj
        refine ⟨p1, p2, ?_⟩
        rcases p3 with p3 | ⟨w, q1, q2, q3, q4⟩
        · exact Or.inl p3
        · have hne : w ≠ x := fun e => by rw [e, hwx] at q4; exact rb_nmm (k := l) (by omega) q4
          exact Or.inr ⟨w, q1, q2, (hlv w q1).mpr q3, by rw [hwo w q1 hne]; exact q4⟩
    · intro w hw
      refine ⟨by simp (disch := omega) only [rb_upn]; exact (h2 w hw).1, ?_⟩
      by_cases e1 : w = x
      · subst e1
        rcases (h2 w hw).2 with g | ⟨e, p, r, b, g0, g1, g2, g3, g4, g5, g6, g7, g8, g9, g10⟩ | ⟨b, _, g, _⟩ | ⟨b, _, g, _⟩ | ⟨g, _⟩ | ⟨j, r, g, _⟩
        · rw [g.1] at k0; exact absurd k0.symm (rb_nmm (by omega))
        · refine Or.inr (Or.inl ⟨e, p, r, b, g0, ?_, g2, ?_⟩)
          · simp (disch := omega) only [rb_upn]; exact g1
          · simp (disch := omega) only [rb_upn]; exact ⟨g3, g4, g5, g6, g7, g8, g9, g10⟩
        · rw [g] at k0; have := (nI_eq (by omega) (by omega)).mp k0; omega
        · rw [g] at k0; have := (nI_eq (by omega) (by omega)).mp k0; omega
        · rw [g] at k0; have := (nI_eq (by omega) (by omega)).mp k0; omega
        · rw [g] at k0; have := (nI_eq (by omega) (by omega)).mp k0; omega
      · by_cases e2 : w = l
        · subst e2
          obtain ⟨m, r, l1, l2, l3, l4, l5, l6, l7, l8, l9, l10, l11⟩ := rp_kind5 hH hw k5
          refine Or.inr (Or.inr (Or.inr (Or.inr (Or.inr ⟨m, r, ?_⟩))))
          rw [hcl]
          simp (disch := omega) only [rb_upn, rb_upe]
          exact ⟨k5, l1, l2, l3, l4, l5, l6, l7, l8, l9, fun _ => ⟨trivial, by omega⟩⟩
        · refine rO_keep hw (fun j hj => by simp (disch := omega) only [rb_upn]) (fun f h1 h2 => by simp (disch := omega) only [rb_upn]) (fun p e hp he h1 h2 f hf => by simp (disch := omega) only [rb_upn]) (fun _ _ => rb_cn_congr (fun y hy => ?_)) (h2 w hw).2
          by_cases e3 : y = x
          · subst e3
            rw [hwx', hwx]
            have q1 : ¬ nI l = nI w := fun g => e2 ((nI_eq (by omega) (by omega)).mp g).symm
            have q2 : ¬ mI = nI w := fun g => rb_nmm (k := w) (by omega) g.symm
            simp [q1, q2]
          · rw [hwo y hy e3]
    · intro w hw hz hl' hww
      by_cases e : w = x
      · subst e; exact ⟨k, hk, rb_upe rfl⟩
      · rw [hwo w hw e] at hww
        obtain ⟨j, hj, ej⟩ := h3 w hw hz ((hlv w hw).mp hl') hww
        have : j ≠ k := fun g => by
          subst g
          rw [hf] at ej
          exact rb_nmm (k := w) (by omega) ej.symm
        exact ⟨j, hj, by simp (disch := omega) only [rb_upn]; exact ej⟩
    · intro p e hp he
      rw [rb_upn (by omega), rb_upn (by omega)]
      rcases h4 p e hp he with g | ⟨y, g1, g2, g3, g4⟩
      · exact Or.inl g
      · exact Or.inr ⟨y, g1, g2, by simp (disch := omega) only [rb_upn]; exact g3, by simp (disch := omega) only [rb_upn]; exact g4⟩
    · intro w hw
      by_cases e : w = x
      · subst e
        refine Or.inl ⟨hwx', fun _ => ?_⟩
        rw [rb_upn (by omega)]; exact rb_upe rfl
      · rw [hwo w hw e]
        simp (disch := omega) only [rb_upn]
        rcases h5 w hw with ⟨g1, g2⟩ | ⟨l', u, y, g1, g2, g3, g4, g5, g6, g7, g8⟩
        · exact Or.inl ⟨g1, fun hl' => g2 ((hlv w hw).mp hl')⟩
        · exact Or.inr ⟨l', u, y, g1, g2, g3, g4, g5, g6, by simp (disch := omega) only [rb_upn]; exact g7, g8⟩
    · intro w y hw hy hww hwy
      have e1 : w ≠ x := fun e => by subst e; exact hww hwx'
      have e2 : y ≠ x := fun e => by subst e; exact hwy hwx'
      rw [hwo w hw e1] at hww
      rw [hwo y hy e2] at hwy
      simp (disch := omega) only [rb_upn]
      exact h6 w y hw hy hww hwy
    · refine Nat.le_trans (rb_cn_mono (fun y hy hp => ?_)) h7
      by_cases e : y = x
      · subst e; rw [hwx'] at hp; simp at hp
      · rw [hwo y hy e] at hp; exact hp
set_option maxHeartbeats 8000000 in
theorem ra_accept {B q : Nat} {c a : rb_Row} (h : rb_RB B q c a) (hb : B + q + 30000 < 2000000000) (v1 x2 : Int32) (mf wa mf1 wa1 : rb_Row) (hK : rb_KP x2 mf wa a mf1 wa1) : ∃ ans c' a' mf' wa', XX0_acceptFrom c v1 = some (ans, c') ∧ XX7_goAccept a mf wa v1 x2 = some (ans, a', mf', wa') ∧ rb_oq B 0 q (nI 0 ≤ ans) c a mf wa mf1 wa1 c' a' mf' wa' := by
  obtain ⟨n, π, s, s', hR, hB⟩ := h
  have hH := hR.2.1
  have hKe := rb_KPe hK
  have hm1 : ¬ nI 0 ≤ mI := by decide
  have hm2 : ¬ nI 0 ≤ -nI 2 := by decide
  obtain ⟨f1, f2⟩ := rp_freeHandle hH
  unfold XX0_acceptFrom XX7_goAccept
  rcases rp_thing hH v1 with ⟨e1, e2⟩ | ⟨k, l, hk, hl, ev, ec, ea, hlv, hw, hz, e1, e2⟩
  · refine ⟨mI, c, a, mf, wa, ?_, ?_, Or.inr ⟨hm1, rfl, rfl, rfl, rfl⟩⟩
    · simp (maxSteps := 3000000) (disch := omega) only [↓reduceIte, Nat.reduceEqDiff, Nat.reduceLeDiff, eq_self, not_true_eq_false, not_false_eq_true, li_0, li_1, li_2, li_3, li_4, li_5, li_6, li_7, li_8, li_9, li_10, li_11, li_12, li_13, li_14, li_15, li_16, li_17, li_18, li_19, li_20, li_21, li_22, li_23, li_24, li_25, li_26, li_27, li_28, li_29, li_30, li_31, li_32, li_33, li_34, li_35, li_36, li_37, li_38, li_39, li_40, li_41, li_42, li_47, li_50, li_60, li_63, li_75, li_100, li_103, li_131, li_159, li_184, li_187, li_215, li_243, li_256, li_271, li_296, li_299, li_323, li_347, li_371, li_395, li_419, li_443, li_467, li_491, li_515, li_539, li_545, li_551, li_557, li_560, li_563, li_569, li_575, li_581, li_587, li_593, li_599, li_605, li_629, li_653, li_677, li_725, li_773, li_794, li_795, li_796, li_1000, li_1546, li_1592, li_6184, li_9552, li_10049, li_10348, li_100000, rb_mI, nI_add, nI_mul, nI_leI, nI_ltI, nI_eq, rb_rdn, rb_wrn, rb_n0, rb_m0, rb_m1n, rb_nm1, rb_m1lt, rb_m1le, rb_0m1, rb_ltm1, rb_lem1, Nat.add_zero, Nat.zero_le, Nat.not_lt_zero, Nat.one_ne_zero, Option.bind_some, Option.bind_none, Option.some.injEq, if_true, if_false, ite_true, ite_false, Sum.elim_inl, Sum.elim_inr, xn_kindOf5n _ e1, f1]
    · simp (maxSteps := 3000000) (disch := omega) only [↓reduceIte, Nat.reduceEqDiff, Nat.reduceLeDiff, eq_self, not_true_eq_false, not_false_eq_true, li_0, li_1, li_2, li_3, li_4, li_5, li_6, li_7, li_8, li_9, li_10, li_11, li_12, li_13, li_14, li_15, li_16, li_17, li_18, li_19, li_20, li_21, li_22, li_23, li_24, li_25, li_26, li_27, li_28, li_29, li_30, li_31, li_32, li_33, li_34, li_35, li_36, li_37, li_38, li_39, li_40, li_41, li_42, li_47, li_50, li_60, li_63, li_75, li_100, li_103, li_131, li_159, li_184, li_187, li_215, li_243, li_256, li_271, li_296, li_299, li_323, li_347, li_371, li_395, li_419, li_443, li_467, li_491, li_515, li_539, li_545, li_551, li_557, li_560, li_563, li_569, li_575, li_581, li_587, li_593, li_599, li_605, li_629, li_653, li_677, li_725, li_773, li_794, li_795, li_796, li_1000, li_1546, li_1592, li_6184, li_9552, li_10049, li_10348, li_100000, rb_mI, nI_add, nI_mul, nI_leI, nI_ltI, nI_eq, rb_rdn, rb_wrn, rb_n0, rb_m0, rb_m1n, rb_nm1, rb_m1lt, rb_m1le, rb_0m1, rb_ltm1, rb_lem1, Nat.add_zero, Nat.zero_le, Nat.not_lt_zero, Nat.one_ne_zero, Option.bind_some, Option.bind_none, Option.some.injEq, if_true, if_false, ite_true, ite_false, Sum.elim_inl, Sum.elim_inr, xn_ofObject, xn_ofPipe, xn_ofInterest, xn_ofTask, xn_kindOf, xn_bitsOf7, xn_isInterest, xn_isAsleep, xn_objectAt, xn_pipeAt, xn_interestAt, xn_taskAt, rb_nz0, rb_nz1, rb_n10, Nat.one_ne_zero, eq_self, yn_namesn _ e2]
  · subst ev
    have k5 := xn_kindOf5 (nI 5) hl e1
    have kn := yn_names (nI 5) hk hl ea e2
    rw [(hH.2.1 l hl).1] at kn
    by_cases h5 : c (19 + l) = nI 5
    · simp only [h5, if_true] at k5 kn
      cases hf : rb_fd (fun k => decide (c (3 + k) = mI)) 16 with
      | none =>
        rw [hf] at f1 f2
        refine ⟨mI, c, a, mf, wa, ?_, ?_, Or.inr ⟨hm1, rfl, rfl, rfl, rfl⟩⟩
        · simp (maxSteps := 3000000) (disch := omega) only [↓reduceIte, Nat.reduceEqDiff, Nat.reduceLeDiff, eq_self, not_true_eq_false, not_false_eq_true, li_0, li_1, li_2, li_3, li_4, li_5, li_6, li_7, li_8, li_9, li_10, li_11, li_12, li_13, li_14, li_15, li_16, li_17, li_18, li_19, li_20, li_21, li_22, li_23, li_24, li_25, li_26, li_27, li_28, li_29, li_30, li_31, li_32, li_33, li_34, li_35, li_36, li_37, li_38, li_39, li_40, li_41, li_42, li_47, li_50, li_60, li_63, li_75, li_100, li_103, li_131, li_159, li_184, li_187, li_215, li_243, li_256, li_271, li_296, li_299, li_323, li_347, li_371, li_395, li_419, li_443, li_467, li_491, li_515, li_539, li_545, li_551, li_557, li_560, li_563, li_569, li_575, li_581, li_587, li_593, li_599, li_605, li_629, li_653, li_677, li_725, li_773, li_794, li_795, li_796, li_1000, li_1546, li_1592, li_6184, li_9552, li_10049, li_10348, li_100000, rb_mI, nI_add, nI_mul, nI_leI, nI_ltI, nI_eq, rb_rdn, rb_wrn, rb_n0, rb_m0, rb_m1n, rb_nm1, rb_m1lt, rb_m1le, rb_0m1, rb_ltm1, rb_lem1, Nat.add_zero, Nat.zero_le, Nat.not_lt_zero, Nat.one_ne_zero, Option.bind_some, Option.bind_none, Option.some.injEq, if_true, if_false, ite_true, ite_false, Sum.elim_inl, Sum.elim_inr, k5, f1, rb_oi]
        · simp (maxSteps := 3000000) (disch := omega) only [↓reduceIte, Nat.reduceEqDiff, Nat.reduceLeDiff, eq_self, not_true_eq_false, not_false_eq_true, li_0, li_1, li_2, li_3, li_4, li_5, li_6, li_7, li_8, li_9, li_10, li_11, li_12, li_13, li_14, li_15, li_16, li_17, li_18, li_19, li_20, li_21, li_22, li_23, li_24, li_25, li_26, li_27, li_28, li_29, li_30, li_31, li_32, li_33, li_34, li_35, li_36, li_37, li_38, li_39, li_40, li_41, li_42, li_47, li_50, li_60, li_63, li_75, li_100, li_103, li_131, li_159, li_184, li_187, li_215, li_243, li_256, li_271, li_296, li_299, li_323, li_347, li_371, li_395, li_419, li_443, li_467, li_491, li_515, li_539, li_545, li_551, li_557, li_560, li_563, li_569, li_575, li_581, li_587, li_593, li_599, li_605, li_629, li_653, li_677, li_725, li_773, li_794, li_795, li_796, li_1000, li_1546, li_1592, li_6184, li_9552, li_10049, li_10348, li_100000, rb_mI, nI_add, nI_mul, nI_leI, nI_ltI, nI_eq, rb_rdn, rb_wrn, rb_n0, rb_m0, rb_m1n, rb_nm1, rb_m1lt, rb_m1le, rb_0m1, rb_ltm1, rb_lem1, Nat.add_zero, Nat.zero_le, Nat.not_lt_zero, Nat.one_ne_zero, Option.bind_some, Option.bind_none, Option.some.injEq, if_true, if_false, ite_true, ite_false, Sum.elim_inl, Sum.elim_inr, xn_ofObject, xn_ofPipe, xn_ofInterest, xn_ofTask, xn_kindOf, xn_bitsOf7, xn_isInterest, xn_isAsleep, xn_objectAt, xn_pipeAt, xn_interestAt, xn_taskAt, rb_nz0, rb_nz1, rb_n10, Nat.one_ne_zero, eq_self, kn, f2, rb_oi]
      | some k' =>
        rw [hf] at f1 f2
        obtain ⟨hk', hpk, hmin⟩ := rb_fd_some hf
        have hfk : c (3 + k') = mI := by simpa using hpk
        obtain ⟨m, r, l1, l2, l3, l4, l5, l6, l7, l8, l9, l10, l11⟩ := rp_kind5 hH hl h5
        obtain ⟨o, o1, o2, hno, hso⟩ := rp_longest hH hl
        cases o with
        | none =>
          refine ⟨-nI 2, c, a, mf, wa, ?_, ?_, Or.inr ⟨hm2, rfl, rfl, rfl, rfl⟩⟩
          · simp (maxSteps := 3000000) (disch := omega) only [↓reduceIte, Nat.reduceEqDiff, Nat.reduceLeDiff, eq_self, not_true_eq_false, not_false_eq_true, li_0, li_1, li_2, li_3, li_4, li_5, li_6, li_7, li_8, li_9, li_10, li_11, li_12, li_13, li_14, li_15, li_16, li_17, li_18, li_19, li_20, li_21, li_22, li_23, li_24, li_25, li_26, li_27, li_28, li_29, li_30, li_31, li_32, li_33, li_34, li_35, li_36, li_37, li_38, li_39, li_40, li_41, li_42, li_47, li_50, li_60, li_63, li_75, li_100, li_103, li_131, li_159, li_184, li_187, li_215, li_243, li_256, li_271, li_296, li_299, li_323, li_347, li_371, li_395, li_419, li_443, li_467, li_491, li_515, li_539, li_545, li_551, li_557, li_560, li_563, li_569, li_575, li_581, li_587, li_593, li_599, li_605, li_629, li_653, li_677, li_725, li_773, li_794, li_795, li_796, li_1000, li_1546, li_1592, li_6184, li_9552, li_10049, li_10348, li_100000, rb_mI, nI_add, nI_mul, nI_leI, nI_ltI, nI_eq, rb_rdn, rb_wrn, rb_n0, rb_m0, rb_m1n, rb_nm1, rb_m1lt, rb_m1le, rb_0m1, rb_ltm1, rb_lem1, Nat.add_zero, Nat.zero_le, Nat.not_lt_zero, Nat.one_ne_zero, Option.bind_some, Option.bind_none, Option.some.injEq, if_true, if_false, ite_true, ite_false, Sum.elim_inl, Sum.elim_inr, k5, f1, rb_oi, o1]
          · simp (maxSteps := 3000000) (disch := omega) only [↓reduceIte, Nat.reduceEqDiff, Nat.reduceLeDiff, eq_self, not_true_eq_false, not_false_eq_true, li_0, li_1, li_2, li_3, li_4, li_5, li_6, li_7, li_8, li_9, li_10, li_11, li_12, li_13, li_14, li_15, li_16, li_17, li_18, li_19, li_20, li_21, li_22, li_23, li_24, li_25, li_26, li_27, li_28, li_29, li_30, li_31, li_32, li_33, li_34, li_35, li_36, li_37, li_38, li_39, li_40, li_41, li_42, li_47, li_50, li_60, li_63, li_75, li_100, li_103, li_131, li_159, li_184, li_187, li_215, li_243, li_256, li_271, li_296, li_299, li_323, li_347, li_371, li_395, li_419, li_443, li_467, li_491, li_515, li_539, li_545, li_551, li_557, li_560, li_563, li_569, li_575, li_581, li_587, li_593, li_599, li_605, li_629, li_653, li_677, li_725, li_773, li_794, li_795, li_796, li_1000, li_1546, li_1592, li_6184, li_9552, li_10049, li_10348, li_100000, rb_mI, nI_add, nI_mul, nI_leI, nI_ltI, nI_eq, rb_rdn, rb_wrn, rb_n0, rb_m0, rb_m1n, rb_nm1, rb_m1lt, rb_m1le, rb_0m1, rb_ltm1, rb_lem1, Nat.add_zero, Nat.zero_le, Nat.not_lt_zero, Nat.one_ne_zero, Option.bind_some, Option.bind_none, Option.some.injEq, if_true, if_false, ite_true, ite_false, Sum.elim_inl, Sum.elim_inr, xn_ofObject, xn_ofPipe, xn_ofInterest, xn_ofTask, xn_kindOf, xn_bitsOf7, xn_isInterest, xn_isAsleep, xn_objectAt, xn_pipeAt, xn_interestAt, xn_taskAt, rb_nz0, rb_nz1, rb_n10, Nat.one_ne_zero, eq_self, kn, f2, rb_oi, ea, o2]
        | some x =>
          obtain ⟨hx, hwx⟩ := hso x rfl
          have hpos := rb_cn_pos (p := fun y => decide (c (243 + y) = nI l)) hx (by simp [hwx])
          obtain ⟨v, hv⟩ : ∃ v, rb_cn (fun y => decide (c (243 + y) = nI l)) 28 = v + 1 := ⟨_ - 1, (Nat.succ_pred_eq_of_pos hpos).symm⟩
          rw [hv] at l10 l11
          have hR1 := rp_accept hR hx hl hk' hwx hfk l10 hv
          have hasl : rb_asl (upd (upd (upd c (243 + x) mI) (47 + l) (nI v)) (3 + k') (nI x)) = rb_asl c := rb_asl_congr (fun t ht => by simp (disch := omega) only [rb_upn])
          have fh : XX7_freeHandle (upd a (16 + 6 * x + 4) mI) = some (nI k') := by
            rw [← show XX7_freeHandle a = some (nI k') from f2, yn_freeHandle, yn_freeHandle]
            congr 2
            refine rb_fd_congr (fun i hi => ?_)
            simp (disch := omega) only [rb_upn]
          refine ⟨nI k', _, _, mf1, wa1, ?_, ?_, Or.inl ⟨nI_pos' (by omega), ⟨n, π, s, s', hR1, by omega⟩, fun _ _ _ => rfl, rfl, fun k h1 h2 => by rw [rb_upn (by omega), rb_upn (by omega), rb_upn (by omega)], rb_GT_same (fun u hu => by rw [rb_upn (by omega), rb_upn (by omega), rb_upn (by omega)])⟩⟩
          · unfold XX5_giveName
            have q1 : ¬ 16 ≤ k' := by omega
            have q2 : nI (v + 1) - nI 1 = nI v := by rw [rb_sub (by omega)]; rfl
            simp (maxSteps := 3000000) (disch := omega) only [↓reduceIte, Nat.reduceEqDiff, Nat.reduceLeDiff, eq_self, not_true_eq_false, not_false_eq_true, li_0, li_1, li_2, li_3, li_4, li_5, li_6, li_7, li_8, li_9, li_10, li_11, li_12, li_13, li_14, li_15, li_16, li_17, li_18, li_19, li_20, li_21, li_22, li_23, li_24, li_25, li_26, li_27, li_28, li_29, li_30, li_31, li_32, li_33, li_34, li_35, li_36, li_37, li_38, li_39, li_40, li_41, li_42, li_47, li_50, li_60, li_63, li_75, li_100, li_103, li_131, li_159, li_184, li_187, li_215, li_243, li_256, li_271, li_296, li_299, li_323, li_347, li_371, li_395, li_419, li_443, li_467, li_491, li_515, li_539, li_545, li_551, li_557, li_560, li_563, li_569, li_575, li_581, li_587, li_593, li_599, li_605, li_629, li_653, li_677, li_725, li_773, li_794, li_795, li_796, li_1000, li_1546, li_1592, li_6184, li_9552, li_10049, li_10348, li_100000, rb_mI, nI_add, nI_mul, nI_leI, nI_ltI, nI_eq, rb_rdn, rb_wrn, rb_n0, rb_m0, rb_m1n, rb_nm1, rb_m1lt, rb_m1le, rb_0m1, rb_ltm1, rb_lem1, Nat.add_zero, Nat.zero_le, Nat.not_lt_zero, Nat.one_ne_zero, Option.bind_some, Option.bind_none, Option.some.injEq, if_true, if_false, ite_true, ite_false, Sum.elim_inl, Sum.elim_inr, k5, f1, rb_oi, o1, rb_upn, l10, q2, q1]
          · unfold XX7_newHandle
            simp (maxSteps := 3000000) (disch := omega) only [↓reduceIte, Nat.reduceEqDiff, Nat.reduceLeDiff, eq_self, not_true_eq_false, not_false_eq_true, li_0, li_1, li_2, li_3, li_4, li_5, li_6, li_7, li_8, li_9, li_10, li_11, li_12, li_13, li_14, li_15, li_16, li_17, li_18, li_19, li_20, li_21, li_22, li_23, li_24, li_25, li_26, li_27, li_28, li_29, li_30, li_31, li_32, li_33, li_34, li_35, li_36, li_37, li_38, li_39, li_40, li_41, li_42, li_47, li_50, li_60, li_63, li_75, li_100, li_103, li_131, li_159, li_184, li_187, li_215, li_243, li_256, li_271, li_296, li_299, li_323, li_347, li_371, li_395, li_419, li_443, li_467, li_491, li_515, li_539, li_545, li_551, li_557, li_560, li_563, li_569, li_575, li_581, li_587, li_593, li_599, li_605, li_629, li_653, li_677, li_725, li_773, li_794, li_795, li_796, li_1000, li_1546, li_1592, li_6184, li_9552, li_10049, li_10348, li_100000, rb_mI, nI_add, nI_mul, nI_leI, nI_ltI, nI_eq, rb_rdn, rb_wrn, rb_n0, rb_m0, rb_m1n, rb_nm1, rb_m1lt, rb_m1le, rb_0m1, rb_ltm1, rb_lem1, Nat.add_zero, Nat.zero_le, Nat.not_lt_zero, Nat.one_ne_zero, Option.bind_some, Option.bind_none, Option.some.injEq, if_true, if_false, ite_true, ite_false, Sum.elim_inl, Sum.elim_inr, xn_ofObject, xn_ofPipe, xn_ofInterest, xn_ofTask, xn_kindOf, xn_bitsOf7, xn_isInterest, xn_isAsleep, xn_objectAt, xn_pipeAt, xn_interestAt, xn_taskAt, rb_nz0, rb_nz1, rb_n10, Nat.one_ne_zero, eq_self, kn, f2, rb_oi, ea, o2, hKe, fh]
    · simp only [h5, if_false] at k5 kn
      refine ⟨mI, c, a, mf, wa, ?_, ?_, Or.inr ⟨hm1, rfl, rfl, rfl, rfl⟩⟩
      · simp (maxSteps := 3000000) (disch := omega) only [↓reduceIte, Nat.reduceEqDiff, Nat.reduceLeDiff, eq_self, not_true_eq_false, not_false_eq_true, li_0, li_1, li_2, li_3, li_4, li_5, li_6, li_7, li_8, li_9, li_10, li_11, li_12, li_13, li_14, li_15, li_16, li_17, li_18, li_19, li_20, li_21, li_22, li_23, li_24, li_25, li_26, li_27, li_28, li_29, li_30, li_31, li_32, li_33, li_34, li_35, li_36, li_37, li_38, li_39, li_40, li_41, li_42, li_47, li_50, li_60, li_63, li_75, li_100, li_103, li_131, li_159, li_184, li_187, li_215, li_243, li_256, li_271, li_296, li_299, li_323, li_347, li_371, li_395, li_419, li_443, li_467, li_491, li_515, li_539, li_545, li_551, li_557, li_560, li_563, li_569, li_575, li_581, li_587, li_593, li_599, li_605, li_629, li_653, li_677, li_725, li_773, li_794, li_795, li_796, li_1000, li_1546, li_1592, li_6184, li_9552, li_10049, li_10348, li_100000, rb_mI, nI_add, nI_mul, nI_leI, nI_ltI, nI_eq, rb_rdn, rb_wrn, rb_n0, rb_m0, rb_m1n, rb_nm1, rb_m1lt, rb_m1le, rb_0m1, rb_ltm1, rb_lem1, Nat.add_zero, Nat.zero_le, Nat.not_lt_zero, Nat.one_ne_zero, Option.bind_some, Option.bind_none, Option.some.injEq, if_true, if_false, ite_true, ite_false, Sum.elim_inl, Sum.elim_inr, k5, f1]
      · simp (maxSteps := 3000000) (disch := omega) only [↓reduceIte, Nat.reduceEqDiff, Nat.reduceLeDiff, eq_self, not_true_eq_false, not_false_eq_true, li_0, li_1, li_2, li_3, li_4, li_5, li_6, li_7, li_8, li_9, li_10, li_11, li_12, li_13, li_14, li_15, li_16, li_17, li_18, li_19, li_20, li_21, li_22, li_23, li_24, li_25, li_26, li_27, li_28, li_29, li_30, li_31, li_32, li_33, li_34, li_35, li_36, li_37, li_38, li_39, li_40, li_41, li_42, li_47, li_50, li_60, li_63, li_75, li_100, li_103, li_131, li_159, li_184, li_187, li_215, li_243, li_256, li_271, li_296, li_299, li_323, li_347, li_371, li_395, li_419, li_443, li_467, li_491, li_515, li_539, li_545, li_551, li_557, li_560, li_563, li_569, li_575, li_581, li_587, li_593, li_599, li_605, li_629, li_653, li_677, li_725, li_773, li_794, li_795, li_796, li_1000, li_1546, li_1592, li_6184, li_9552, li_10049, li_10348, li_100000, rb_mI, nI_add, nI_mul, nI_leI, nI_ltI, nI_eq, rb_rdn, rb_wrn, rb_n0, rb_m0, rb_m1n, rb_nm1, rb_m1lt, rb_m1le, rb_0m1, rb_ltm1, rb_lem1, Nat.add_zero, Nat.zero_le, Nat.not_lt_zero, Nat.one_ne_zero, Option.bind_some, Option.bind_none, Option.some.injEq, if_true, if_false, ite_true, ite_false, Sum.elim_inl, Sum.elim_inr, xn_ofObject, xn_ofPipe, xn_ofInterest, xn_ofTask, xn_kindOf, xn_bitsOf7, xn_isInterest, xn_isAsleep, xn_objectAt, xn_pipeAt, xn_interestAt, xn_taskAt, rb_nz0, rb_nz1, rb_n10, Nat.one_ne_zero, eq_self, kn]
