theorem rT_frame {s s' t t' W W' : Nat} {c a c' a' : rb_Row} (h : rT s s' W c a) (hs : s ≤ t) (hs' : s' ≤ t') (hW : W ≤ W') (hc : ∀ k, 539 ≤ k → k < 773 → c' k = c k) (hk : ∀ x, x < 28 → c' (19 + x) = c (19 + x)) (ha : ∀ k, 560 ≤ k → k < 794 → a' k = a k) : rT t t' W' c' a' := by
  obtain ⟨h1, h2, h3, h4, h5, h6⟩ := h
  refine ⟨?_, ?_, ?_, ?_, ?_, ?_⟩
  · intro u hu
    simp (disch := omega) only [hc, ha]
    exact h1 u hu
  · intro u hu
    simp (disch := omega) only [hc]
    obtain ⟨p1, p2, p3, ⟨w, p4, p5⟩, ⟨w', p6, p7⟩⟩ := h2 u hu
    exact ⟨p1, p2, p3, ⟨w, by omega, p5⟩, ⟨w', by omega, p7⟩⟩
  · intro u hu
    simp (disch := omega) only [hc]
    rcases h3 u hu with p | ⟨⟨x, p1, p2, p3⟩, p4, p5, ⟨v, w, p6, p7, p8, p9, p10⟩, ⟨w', p11, p12⟩⟩
    · exact Or.inl p
    · refine Or.inr ⟨⟨x, p1, p2, ?_⟩, p4, p5, ⟨v, w, by omega, p7, by omega, p9, ?_⟩, ⟨w', by omega, p12⟩⟩
      · rw [hk x p1]; exact p3
      · simp (disch := omega) only [ha]; exact p10
  · intro u v hu hv
    simp (disch := omega) only [hc, ha]
    exact h4 u v hu hv
  · intro u k hu hk
    simp (disch := omega) only [hc, ha]
    exact h5 u k hu hk
  · intro u k l hu hk hl
    simp (disch := omega) only [hc, ha]
    exact h6 u k l hu hk hl
theorem rL_frame {n : Nat} {π : Nat → Nat} {s s' t t' : Nat} {c a c' a' : rb_Row} (hn : n ≤ 24) (hπ : ∀ i, i < n → π i < 24) (h : rL n π s s' c a) (hs : s ≤ t) (hs' : s' ≤ t') (hc : ∀ k, 419 ≤ k → k < 539 → c' k = c k) (ha : ∀ u f, u < 24 → 5 ≤ f → f < 11 → a' (296 + 11 * u + f) = a (296 + 11 * u + f)) : rL n π t t' c' a' := by
  obtain ⟨h1, h2, h3⟩ := h
  refine ⟨?_, ?_, ?_⟩
  · intro i hi
    have := hπ i hi
    simp (disch := omega) only [hc, ha]
    exact h1 i hi
  · intro i hi
    have := hπ i hi
    simp (disch := omega) only [hc, ha]
    rcases h2 i hi with p | ⟨u, v, p1, p2, p3, p4⟩
    · exact Or.inl p
    · exact Or.inr ⟨u, v, by omega, p2, by omega, p4⟩
  · intro i j hi hj
    have := hπ i hi
    have := hπ j hj
    simp (disch := omega) only [hc, ha]
    exact h3 i j hi hj
theorem rb_nmm {k : Nat} (h : k < 2 ^ 31) : nI k ≠ mI := fun e => by
  have := rb_nm1 h
  rw [this] at e
  exact e
set_option maxHeartbeats 4000000 in
theorem rp_list {z W q n : Nat} {π : Nat → Nat} {s s' : Nat} {c a : rb_Row} (h : rR z W q n π s s' c a) (hs : s' < 2000000000) {i : Nat} (hi : i < n) : ∃ c' a' t t', XX1_putOnList c (nI i) = some c' ∧ XX7_list a (nI (π i)) = some a' ∧ rR z W q n π t t' c' a' ∧ rF c c' ∧ rG a a' ∧ ((c (443 + i) = mI ∧ c' = upd (upd (upd c 1 (nI (s + 1))) (443 + i) (nI s)) (515 + i) (nI 0) ∧ t = s + 1 ∧ t' = s' + 1) ∨ (c (443 + i) ≠ mI ∧ c' = c ∧ t = s ∧ t' = s')) := by
  have hR := h
  obtain ⟨⟨q1, q2, q3, q4, q5, q6, q7, q8⟩, hH, hI, hL, hT⟩ := h
  have hp := (hI.1 i hi).1
  rcases hL.2.1 i hi with ⟨p1, p2, p3⟩ | ⟨u, v, p1, p2, p3, p4, p5, p6⟩
  · refine ⟨upd (upd (upd c 1 (nI (s + 1))) (443 + i) (nI s)) (515 + i) (nI 0), upd (upd (upd a 795 (nI (s' + 1))) (296 + 11 * π i + 7) (nI (s' + 1))) (296 + 11 * π i + 10) (nI 0), s + 1, s' + 1, ?_, ?_, ?_, ?_, ?_, Or.inl ⟨p1, rfl, rfl, rfl⟩⟩
    · unfold XX1_putOnList
      simp (disch := omega) only [li_0, li_1, li_2, li_3, li_4, li_5, li_6, li_7, li_8, li_9, li_10, li_11, li_12, li_13, li_14, li_15, li_16, li_17, li_18, li_19, li_20, li_21, li_22, li_23, li_24, li_25, li_26, li_27, li_28, li_29, li_30, li_31, li_32, li_33, li_34, li_35, li_36, li_37, li_38, li_39, li_40, li_41, li_42, li_47, li_50, li_60, li_63, li_75, li_100, li_103, li_131, li_159, li_184, li_187, li_215, li_243, li_256, li_271, li_296, li_299, li_323, li_347, li_371, li_395, li_419, li_443, li_467, li_491, li_515, li_539, li_545, li_551, li_557, li_560, li_563, li_569, li_575, li_581, li_587, li_593, li_599, li_605, li_629, li_653, li_677, li_725, li_773, li_794, li_795, li_796, li_1000, li_1546, li_1592, li_6184, li_9552, li_10049, li_10348, li_100000, rb_mI, nI_add, nI_mul, nI_leI, nI_ltI, nI_eq, rb_rdn, rb_wrn, rb_n0, rb_m0, rb_m1n, rb_nm1, rb_m1lt, rb_m1le, rb_0m1, rb_ltm1, rb_lem1, Nat.add_zero, Option.bind_some, Option.bind_none, Option.some.injEq, if_true, if_false, ite_true, ite_false, Sum.elim_inl, Sum.elim_inr, p1, q3]
    · unfold XX7_list XX7_stamp
      simp (disch := omega) only [li_0, li_1, li_2, li_3, li_4, li_5, li_6, li_7, li_8, li_9, li_10, li_11, li_12, li_13, li_14, li_15, li_16, li_17, li_18, li_19, li_20, li_21, li_22, li_23, li_24, li_25, li_26, li_27, li_28, li_29, li_30, li_31, li_32, li_33, li_34, li_35, li_36, li_37, li_38, li_39, li_40, li_41, li_42, li_47, li_50, li_60, li_63, li_75, li_100, li_103, li_131, li_159, li_184, li_187, li_215, li_243, li_256, li_271, li_296, li_299, li_323, li_347, li_371, li_395, li_419, li_443, li_467, li_491, li_515, li_539, li_545, li_551, li_557, li_560, li_563, li_569, li_575, li_581, li_587, li_593, li_599, li_605, li_629, li_653, li_677, li_725, li_773, li_794, li_795, li_796, li_1000, li_1546, li_1592, li_6184, li_9552, li_10049, li_10348, li_100000, rb_mI, nI_add, nI_mul, nI_leI, nI_ltI, nI_eq, rb_rdn, rb_wrn, rb_n0, rb_m0, rb_m1n, rb_nm1, rb_m1lt, rb_m1le, rb_0m1, rb_ltm1, rb_lem1, Nat.add_zero, Option.bind_some, Option.bind_none, Option.some.injEq, if_true, if_false, ite_true, ite_false, Sum.elim_inl, Sum.elim_inr, xn_ofObject, xn_ofPipe, xn_ofInterest, xn_ofTask, xn_kindOf, xn_bitsOf7, xn_isInterest, xn_isAsleep, xn_objectAt, xn_pipeAt, xn_interestAt, xn_taskAt, rb_nz0, rb_nz1, rb_n10, Nat.one_ne_zero, eq_self, p2, q4, rb_upe]
      rw [if_pos (by omega)]
    · refine rR_eng hR ?_ ?_ (by omega) (by omega) ?_ ?_ (by omega) (by omega) ?_ ?_
      · intro k hk
        simp (disch := omega) only [rb_upn]
      · refine ⟨fun k hk => ?_, ?_, fun u f hu hf => ?_, fun u f hu hf => ?_⟩ <;> simp (disch := omega) only [rb_upn]
      · simp (disch := omega) only [rb_upn, rb_upe]
      · simp (disch := omega) only [rb_upn, rb_upe]
      · refine ⟨fun j hj => ?_, fun j hj => ?_, fun j k hj hk => ?_⟩
        · have := (hI.1 j hj).1
          simp (disch := omega) only [rb_upn]
          exact hL.1 j hj
        · have := (hI.1 j hj).1
          by_cases e : j = i
          · subst e
            refine Or.inr ⟨s, s' + 1, by omega, by omega, by omega, ?_⟩
            simp (disch := omega) only [rb_upn, rb_upe]
            exact ⟨trivial, trivial, trivial⟩
          · have hne : π j ≠ π i := fun e' => e (rI_inj hI j i hj hi e')
            simp (disch := omega) only [rb_upn]
            rcases hL.2.1 j hj with g | ⟨u, v, g1, g2, g3, g4⟩
            · exact Or.inl g
            · exact Or.inr ⟨u, v, by omega, g2, by omega, g4⟩
        · have := (hI.1 j hj).1
          have := (hI.1 k hk).1
          by_cases ej : j = i
          · by_cases ek : k = i
            · subst ej; subst ek
              intro _ _
              refine ⟨?_, fun _ => rfl⟩
              constructor <;> intro h <;> exact absurd h (Int.lt_irrefl _)
            · subst ej
              have hne : π k ≠ π j := fun e' => ek (rI_inj hI k j hk hj e')
              simp (disch := omega) only [rb_upn, rb_upe]
              intro _ h2
              rcases hL.2.1 k hk with ⟨g, _⟩ | ⟨u, v, g1, g2, g3, g4, g5, g6⟩
              · exact absurd g h2
              · rw [g4, g5, nI_toInt (by omega), nI_toInt (by omega), nI_toInt (by omega), nI_toInt (by omega)]
                refine ⟨by omega, fun e => ?_⟩
                have := (nI_eq (by omega) (by omega)).mp e
                omega
          · by_cases ek : k = i
            · subst ek
              have hne : π j ≠ π k := fun e' => ej (rI_inj hI j k hj hk e')
              simp (disch := omega) only [rb_upn, rb_upe]
              intro h2 _
              rcases hL.2.1 j hj with ⟨g, _⟩ | ⟨u, v, g1, g2, g3, g4, g5, g6⟩
              · exact absurd g h2
              · rw [g4, g5, nI_toInt (by omega), nI_toInt (by omega), nI_toInt (by omega), nI_toInt (by omega)]
                refine ⟨by omega, fun e => ?_⟩
                have := (nI_eq (by omega) (by omega)).mp e
                omega
            · have hne : π j ≠ π i := fun e' => ej (rI_inj hI j i hj hi e')
              have hne' : π k ≠ π i := fun e' => ek (rI_inj hI k i hk hi e')
              simp (disch := omega) only [rb_upn]
              exact hL.2.2 j k hj hk
      · refine rT_frame hT (by omega) (by omega) (Nat.le_refl _) (fun k hk hk' => ?_) (fun x hx => ?_) (fun k hk hk' => ?_) <;> simp (disch := omega) only [rb_upn]
    · intro k hk
      simp (disch := omega) only [rb_upn]
    · refine ⟨fun k hk => ?_, ?_, fun u f hu hf => ?_, fun u f hu hf => ?_⟩ <;> simp (disch := omega) only [rb_upn]
  · refine ⟨c, a, s, s', ?_, ?_, hR, rF_refl c, rG_refl a, Or.inr ⟨?_, rfl, rfl, rfl⟩⟩
    · unfold XX1_putOnList
      simp (disch := omega) only [li_0, li_1, li_2, li_3, li_4, li_5, li_6, li_7, li_8, li_9, li_10, li_11, li_12, li_13, li_14, li_15, li_16, li_17, li_18, li_19, li_20, li_21, li_22, li_23, li_24, li_25, li_26, li_27, li_28, li_29, li_30, li_31, li_32, li_33, li_34, li_35, li_36, li_37, li_38, li_39, li_40, li_41, li_42, li_47, li_50, li_60, li_63, li_75, li_100, li_103, li_131, li_159, li_184, li_187, li_215, li_243, li_256, li_271, li_296, li_299, li_323, li_347, li_371, li_395, li_419, li_443, li_467, li_491, li_515, li_539, li_545, li_551, li_557, li_560, li_563, li_569, li_575, li_581, li_587, li_593, li_599, li_605, li_629, li_653, li_677, li_725, li_773, li_794, li_795, li_796, li_1000, li_1546, li_1592, li_6184, li_9552, li_10049, li_10348, li_100000, rb_mI, nI_add, nI_mul, nI_leI, nI_ltI, nI_eq, rb_rdn, rb_wrn, rb_n0, rb_m0, rb_m1n, rb_nm1, rb_m1lt, rb_m1le, rb_0m1, rb_ltm1, rb_lem1, Nat.add_zero, Option.bind_some, Option.bind_none, Option.some.injEq, if_true, if_false, ite_true, ite_false, Sum.elim_inl, Sum.elim_inr, p4]
      rw [if_pos (by omega)]
    · unfold XX7_list
      simp (disch := omega) only [li_0, li_1, li_2, li_3, li_4, li_5, li_6, li_7, li_8, li_9, li_10, li_11, li_12, li_13, li_14, li_15, li_16, li_17, li_18, li_19, li_20, li_21, li_22, li_23, li_24, li_25, li_26, li_27, li_28, li_29, li_30, li_31, li_32, li_33, li_34, li_35, li_36, li_37, li_38, li_39, li_40, li_41, li_42, li_47, li_50, li_60, li_63, li_75, li_100, li_103, li_131, li_159, li_184, li_187, li_215, li_243, li_256, li_271, li_296, li_299, li_323, li_347, li_371, li_395, li_419, li_443, li_467, li_491, li_515, li_539, li_545, li_551, li_557, li_560, li_563, li_569, li_575, li_581, li_587, li_593, li_599, li_605, li_629, li_653, li_677, li_725, li_773, li_794, li_795, li_796, li_1000, li_1546, li_1592, li_6184, li_9552, li_10049, li_10348, li_100000, rb_mI, nI_add, nI_mul, nI_leI, nI_ltI, nI_eq, rb_rdn, rb_wrn, rb_n0, rb_m0, rb_m1n, rb_nm1, rb_m1lt, rb_m1le, rb_0m1, rb_ltm1, rb_lem1, Nat.add_zero, Option.bind_some, Option.bind_none, Option.some.injEq, if_true, if_false, ite_true, ite_false, Sum.elim_inl, Sum.elim_inr, xn_ofObject, xn_ofPipe, xn_ofInterest, xn_ofTask, xn_kindOf, xn_bitsOf7, xn_isInterest, xn_isAsleep, xn_objectAt, xn_pipeAt, xn_interestAt, xn_taskAt, rb_nz0, rb_nz1, rb_n10, Nat.one_ne_zero, eq_self, p5]
      rw [if_neg (by omega)]
    · rw [p4]; exact rb_nmm (by omega)
