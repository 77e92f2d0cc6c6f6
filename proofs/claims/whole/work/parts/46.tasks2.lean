def bdT2 : (Int32 × rb_Row) → Option ((Int32 × rb_Row) ⊕ (rb_Row)) := fun (s36 : Int32 × rb_Row) => if 6 ≤ s36.1 then some (.inr s36.2) else (XX7_isAsleep s36.2 s36.1).bind fun t45 => ((if t45 = 0 then some s36.2 else (XX7_ofTask s36.2 s36.1 3).bind fun t51 => (rb_rd s36.2 796 794).bind fun v53 => if t51 = v53 then (XX7_gotNothing s36.2 s36.1).bind fun t56 => some t56 else some s36.2) : Option (rb_Row)).bind fun j47 => some (.inl ((s36.1 + 1), j47))
def bdG2 (x0 : Int32) : (Int32 × rb_Row) → Option ((Int32 × rb_Row) ⊕ (rb_Row)) := fun (s28 : Int32 × rb_Row) => if 6 ≤ s28.1 then some (.inr s28.2) else (XX7_ofTask s28.2 s28.1 0).bind fun t37 => ((if t37 = x0 then (XX7_gotNothing s28.2 s28.1).bind fun t43 => some t43 else some s28.2) : Option (rb_Row)).bind fun j39 => some (.inl ((s28.1 + 1), j39))
theorem rI_frame2 {n : Nat} {π : Nat → Nat} {s' t' : Nat} {c a c' a' : rb_Row} (hn : n ≤ 24) (h : rI n π s' c a) (hs' : s' ≤ t') (hc1 : ∀ k, 2 ≤ k → k < 419 → c' k = c k) (ha1 : ∀ t f, t < 24 → (f < 5 ∨ f = 6) → a' (296 + 11 * t + f) = a (296 + 11 * t + f)) : rI n π t' c' a' := by
  obtain ⟨h1, h2, h3, h4, h5, h6, h7, h8⟩ := h
  have ha0 : ∀ t, t < 24 → a' (296 + 11 * t) = a (296 + 11 * t) := fun t ht => ha1 t 0 ht (by omega)
  refine ⟨?_, ?_, ?_, ?_, ?_, ?_, ?_, ?_⟩
  · intro i hi
    have := (h1 i hi).1
    simp (disch := omega) only [hc1, ha1, ha0]
    exact h1 i hi
  · intro i hi
    obtain ⟨x, p1, p2, p3, g, p4, p5⟩ := h2 i hi
    exact ⟨x, p1, by simp (disch := omega) only [hc1]; exact p2, by simp (disch := omega) only [hc1]; exact p3, g, p4, by simp (disch := omega) only [hc1]; exact p5⟩
  · intro i hi
    obtain ⟨x, p1, p2, ⟨k, p3, p6⟩, g, p4, p5⟩ := h3 i hi
    exact ⟨x, p1, by simp (disch := omega) only [hc1]; exact p2, ⟨k, p3, by simp (disch := omega) only [hc1]; exact p6⟩, g, p4, by simp (disch := omega) only [hc1]; exact p5⟩
  · intro i hi
    have := (h1 i hi).1
    obtain ⟨p1, p2, p3, p4, v, p5, p6, p7⟩ := h4 i hi
    simp (disch := omega) only [hc1, ha1, ha0]
    exact ⟨p1, p2, p3, p4, v, p5, by omega, p7⟩
  · intro i j hi hj
    have := (h1 i (by omega)).1
    have := (h1 j hj).1
    simp (disch := omega) only [ha1, ha0]
    exact h5 i j hi hj
  · intro t ht hne
    simp (disch := omega) only [ha1, ha0]
    exact h6 t ht hne
  · intro i j k x hi hj hk e1 e2 hx e3
    simp (disch := omega) only [hc1] at e1 e2 e3 ⊢
    exact h7 i j k x hi hj hk e1 e2 hx e3
  · intro i j hi hj
    simp (disch := omega) only [hc1]
    exact h8 i j hi hj
theorem rR_gen {z W W' q n : Nat} {π : Nat → Nat} {s s' t t' : Nat} {c a c' a' : rb_Row} (h : rR z W q n π s s' c a) (hs : s ≤ t) (hs' : s' ≤ t') (hS : rS q n t t' c' a') (hc : ∀ k, 2 ≤ k → k < 539 → c' k = c k) (ha : ∀ k, k < 560 → a' k = a k) (hT : rT t t' W' c' a') : rR z W' q n π t t' c' a' := by
  obtain ⟨⟨p1, p2, p3, p4, p5, p6, p7, p8⟩, hH, hI, hL, _⟩ := h
  refine ⟨hS, rH_frame hH hs hs' (fun k p q => hc k (by omega) (by omega)) (fun k p => ha k (by omega)), rI_frame2 p8 hI hs' (fun k p q => hc k (by omega) (by omega)) (fun t f ht hf => ha _ (by omega)), rL_frame p8 (fun i hi => (hI.1 i hi).1) hL hs hs' (fun k p q => hc k (by omega) (by omega)) (fun u f hu hf hf' => ha _ (by omega)), hT⟩
theorem rp_time {z W q n : Nat} {π : Nat → Nat} {s s' : Nat} {c a : rb_Row} (h : rR z W q n π s s' c a) {t : Nat} (ht : t ≤ 100000) : rR z W q n π s s' (upd c 0 (nI t)) (upd a 794 (nI t)) := by
  obtain ⟨⟨p1, p2, p3, p4, p5, p6, p7, p8⟩, hH, hI, hL, hT⟩ := id h
  refine rR_gen h (Nat.le_refl _) (Nat.le_refl _) ⟨?_, ⟨t, ht, rb_upe rfl⟩, ?_, ?_, p5, p6, ?_, p8⟩ (fun k hk hk' => rb_upn (by omega)) (fun k hk => rb_upn (by omega)) (rT_frame hT (Nat.le_refl _) (Nat.le_refl _) (Nat.le_refl _) (fun k hk hk' => rb_upn (by omega)) (fun x hx => rb_upn (by omega)) (fun k hk hk' => rb_upn (by omega)))
  · rw [rb_upe rfl, rb_upe rfl]
  · rw [rb_upn (by omega)]; exact p3
  · rw [rb_upn (by omega)]; exact p4
  · rw [rb_upn (by omega)]; exact p7
def rb_guC (c : rb_Row) (t : Nat) : rb_Row := upd (upd (upd (upd c (539 + t) mI) (557 + t) mI) (563 + t) (nI 0)) (587 + t) (c (587 + t) + nI 1)
def rb_guA (a : rb_Row) (t : Nat) : rb_Row := upd (upd (upd a (560 + 39 * t) mI) (560 + 39 * t + 3) mI) (560 + 39 * t + 8) (a (560 + 39 * t + 8) + nI 1)
theorem xn_giveUp (c : rb_Row) {t : Nat} (ht : t < 6) : XX4_giveUp c (nI t) = some (rb_guC c t) := by
  unfold XX4_giveUp rb_guC
  simp (disch := omega) only [li_0, li_1, li_2, li_3, li_4, li_5, li_6, li_7, li_8, li_9, li_10, li_11, li_12, li_13, li_14, li_15, li_16, li_17, li_18, li_19, li_20, li_21, li_22, li_23, li_24, li_25, li_26, li_27, li_28, li_29, li_30, li_31, li_32, li_33, li_34, li_35, li_36, li_37, li_38, li_39, li_40, li_41, li_42, li_47, li_50, li_60, li_63, li_75, li_100, li_103, li_131, li_159, li_184, li_187, li_215, li_243, li_256, li_271, li_296, li_299, li_323, li_347, li_371, li_395, li_419, li_443, li_467, li_491, li_515, li_539, li_545, li_551, li_557, li_560, li_563, li_569, li_575, li_581, li_587, li_593, li_599, li_605, li_629, li_653, li_677, li_725, li_773, li_794, li_795, li_796, li_1000, li_1546, li_1592, li_6184, li_9552, li_10049, li_10348, li_100000, rb_mI, nI_add, nI_mul, nI_leI, nI_ltI, nI_eq, rb_rdn, rb_wrn, rb_n0, rb_m0, rb_m1n, rb_nm1, rb_m1lt, rb_m1le, rb_0m1, rb_ltm1, rb_lem1, Nat.add_zero, Nat.zero_le, Nat.not_lt_zero, Nat.one_ne_zero, Option.bind_some, Option.bind_none, Option.some.injEq, if_true, if_false, ite_true, ite_false, Sum.elim_inl, Sum.elim_inr, xn_getUp, rb_upn]
theorem yn_gotNothing (a : rb_Row) {t : Nat} (ht : t < 6) : XX7_gotNothing a (nI t) = some (rb_guA a t) := by
  unfold XX7_gotNothing rb_guA
  simp (disch := omega) only [li_0, li_1, li_2, li_3, li_4, li_5, li_6, li_7, li_8, li_9, li_10, li_11, li_12, li_13, li_14, li_15, li_16, li_17, li_18, li_19, li_20, li_21, li_22, li_23, li_24, li_25, li_26, li_27, li_28, li_29, li_30, li_31, li_32, li_33, li_34, li_35, li_36, li_37, li_38, li_39, li_40, li_41, li_42, li_47, li_50, li_60, li_63, li_75, li_100, li_103, li_131, li_159, li_184, li_187, li_215, li_243, li_256, li_271, li_296, li_299, li_323, li_347, li_371, li_395, li_419, li_443, li_467, li_491, li_515, li_539, li_545, li_551, li_557, li_560, li_563, li_569, li_575, li_581, li_587, li_593, li_599, li_605, li_629, li_653, li_677, li_725, li_773, li_794, li_795, li_796, li_1000, li_1546, li_1592, li_6184, li_9552, li_10049, li_10348, li_100000, rb_mI, nI_add, nI_mul, nI_leI, nI_ltI, nI_eq, rb_rdn, rb_wrn, rb_n0, rb_m0, rb_m1n, rb_nm1, rb_m1lt, rb_m1le, rb_0m1, rb_ltm1, rb_lem1, Nat.add_zero, Nat.zero_le, Nat.not_lt_zero, Nat.one_ne_zero, Option.bind_some, Option.bind_none, Option.some.injEq, if_true, if_false, ite_true, ite_false, Sum.elim_inl, Sum.elim_inr, xn_ofObject, xn_ofPipe, xn_ofInterest, xn_ofTask, xn_kindOf, xn_bitsOf7, xn_isInterest, xn_isAsleep, xn_objectAt, xn_pipeAt, xn_interestAt, xn_taskAt, rb_nz0, rb_nz1, rb_n10, Nat.one_ne_zero, eq_self, yn_sleepNoMore, rb_upn]
set_option maxHeartbeats 8000000 in
theorem rp_giveUp {z W q n : Nat} {π : Nat → Nat} {s s' : Nat} {c a : rb_Row} (h : rR z W q n π s s' c a) {t : Nat} (ht : t < 6) (h0 : c (539 + t) ≠ mI) : rR z W q n π s s' (rb_guC c t) (rb_guA a t) := by
  unfold rb_guC rb_guA
  obtain ⟨⟨p1, p2, p3, p4, p5, p6, p7, p8⟩, hH, hI, hL, hT⟩ := id h
  have e0 : c (563 + t) = nI 0 := by
    rcases hT.2.2.1 t ht with g | ⟨_, g, _⟩
    · exact absurd g h0
    · exact g
  refine rR_gen h (Nat.le_refl _) (Nat.le_refl _) ⟨?_, ?_, ?_, ?_, p5, p6, ?_, p8⟩ (fun k hk hk' => by simp (disch := omega) only [rb_upn]) (fun k hk => by simp (disch := omega) only [rb_upn]) ?_
  · simp (disch := omega) only [rb_upn]; exact p1
  · simp (disch := omega) only [rb_upn]; exact p2
  · simp (disch := omega) only [rb_upn]; exact p3
  · simp (disch := omega) only [rb_upn]; exact p4
  · simp (disch := omega) only [rb_upn]; exact p7
  · obtain ⟨h1, h2, h3, h4, h5, h6⟩ := hT
    refine ⟨?_, ?_, ?_, ?_, ?_, ?_⟩
    · intro u hu
      obtain ⟨p1, p2, p3, p4, p5, p6, p7, p8, p9⟩ := h1 u hu
      by_cases e : u = t
      · subst e
        simp (disch := omega) only [rb_upn, rb_upe]
        exact ⟨trivial, p2, trivial, by rw [p4]; exact e0, p5, p6, p7, by rw [p8], p9⟩
      · simp (disch := omega) only [rb_upn]
        exact ⟨p1, p2, p3, p4, p5, p6, p7, p8, p9⟩
    · intro u hu
      obtain ⟨p1, p2, p3, p4, p5⟩ := h2 u hu
      by_cases e : u = t
      · subst e
        simp (disch := omega) only [rb_upn, rb_upe]
        exact ⟨p1, p2, ⟨0, by omega, rfl⟩, p4, p5⟩
      · simp (disch := omega) only [rb_upn]
        exact ⟨p1, p2, p3, p4, p5⟩
    · intro u hu
      by_cases e : u = t
      · subst e
        refine Or.inl ?_
        simp (disch := omega) only [rb_upn, rb_upe]
      · simp (disch := omega) only [rb_upn]
        rcases h3 u hu with p | ⟨⟨x, p1, p2, p3⟩, p4⟩
        · exact Or.inl p
        · refine Or.inr ⟨⟨x, p1, p2, ?_⟩, p4⟩
          simp (disch := omega) only [rb_upn]
          exact p3
    · intro u v hu hv
      by_cases e : u = t
      · subst e
        simp (disch := omega) only [rb_upn, rb_upe]
        intro g; exact absurd rfl g
      · by_cases e' : v = t
        · subst e'
          simp (disch := omega) only [rb_upn, rb_upe]
          intro _ g; exact absurd rfl g
        · simp (disch := omega) only [rb_upn]
          exact h4 u v hu hv
    · intro u k hu hk
      rcases Nat.lt_trichotomy t u with e | e | e <;> simp (disch := omega) only [rb_upn] <;> exact h5 u k hu hk
    · intro u k l hu hk hl
      rcases Nat.lt_trichotomy t u with e | e | e <;> simp (disch := omega) only [rb_upn] <;> exact h6 u k l hu hk hl
theorem rb_asl_gu {c : rb_Row} {t : Nat} (ht : t < 6) (h0 : c (539 + t) ≠ mI) : rb_asl c = rb_asl (rb_guC c t) + 1 := by
  unfold rb_asl rb_guC
  refine rb_cn_drop ht (by simp [h0]) ?_ (fun i hi hne => ?_)
  · simp (disch := omega) only [rb_upn, rb_upe]
    simp
  · simp (disch := omega) only [rb_upn]
/-- some tasks give up -/
def rb_GU (z W q n : Nat) (π : Nat → Nat) (s s' : Nat) (c0 : rb_Row) (c a : rb_Row) : Prop := rR z W q n π s s' c a ∧ rb_asl c ≤ rb_asl c0 ∧ (∀ k, k < 539 → c k = c0 k) ∧ (∀ t, t < 6 → (c (539 + t) = mI ∨ c (539 + t) = c0 (539 + t)) ∧ c (575 + t) = c0 (575 + t) ∧ c (581 + t) = c0 (581 + t)) ∧ (∀ k, (593 ≤ k ∨ (569 ≤ k ∧ k < 575)) → c k = c0 k)
theorem rb_GU_step {z W q n : Nat} {π : Nat → Nat} {s s' : Nat} {c0 c a : rb_Row} (h : rb_GU z W q n π s s' c0 c a) {t : Nat} (ht : t < 6) (h0 : c (539 + t) ≠ mI) : rb_GU z W q n π s s' c0 (rb_guC c t) (rb_guA a t) := by
  obtain ⟨h1, h2, h3, h4, h6⟩ := h
  have h5 := rb_asl_gu ht h0
  refine ⟨rp_giveUp h1 ht h0, by omega, fun k hk => ?_, fun u hu => ?_, fun k hk => by unfold rb_guC; simp (disch := omega) only [rb_upn]; exact h6 k hk⟩
  · unfold rb_guC
    simp (disch := omega) only [rb_upn]
    exact h3 k hk
  · unfold rb_guC
    obtain ⟨g1, g2, g3⟩ := h4 u hu
    by_cases e : u = t
    · subst e
      simp (disch := omega) only [rb_upn, rb_upe]
      exact ⟨Or.inl trivial, g2, g3⟩
    · simp (disch := omega) only [rb_upn]
      exact ⟨g1, g2, g3⟩
theorem rp_late {z W q n : Nat} {π : Nat → Nat} {s s' : Nat} {c a : rb_Row} (h : rR z W q n π s s' c a) : ∃ c' a', XX4_dismissLate c = some c' ∧ rb_lp bdT2 100000 (nI 0, a) = some a' ∧ rb_GU z W q n π s s' c c' a' := by
  obtain ⟨c', a', h1, h2, h3⟩ := rb_lpjb (f := fun x => some x) (f' := fun x => some x) (T := fun c' a' => rb_GU z W q n π s s' c c' a') (body := fun (s1 : Int32 × rb_Row) => if 6 ≤ s1.1 then some (.inr s1.2) else (rb_rd s1.2 773 (539 + s1.1)).bind fun v10 => ((if v10 < 0 then some s1.2 else (rb_rd s1.2 773 (557 + s1.1)).bind fun v16 => (rb_rd s1.2 773 0).bind fun v18 => if v16 = v18 then (XX4_giveUp s1.2 s1.1).bind fun t21 => some t21 else some s1.2) : Option (rb_Row)).bind fun j12 => some (.inl ((s1.1 + 1), j12))) (body' := bdT2) (N := 100000) (N' := 100000) (s0 := (0, c)) (s0' := (nI 0, a)) (fun j c => (nI j, c)) (fun j a => (nI j, a)) 6 (fun _ c' a' => rb_GU z W q n π s s' c c' a') (fun c' a' => rb_GU z W q n π s s' c c' a') c a rfl rfl ⟨h, Nat.le_refl _, fun _ _ => rfl, fun t ht => ⟨Or.inr rfl, rfl, rfl⟩, fun _ _ => rfl⟩ (by omega) (by omega) (by
      intro j c' a' hj hG
      refine Or.inl ?_
      have hT := hG.1.2.2.2.2
      have e1 := (hT.1 j hj).1
      have e2 := (hT.1 j hj).2.2.1
      have e3 : a' 794 = c' 0 := hG.1.1.1
      rcases hT.2.2.1 j hj with g | ⟨⟨x, hx, g, _⟩, _⟩
      · refine ⟨c', a', ?_, ?_, hG⟩
        · simp (disch := omega) only [li_0, li_1, li_2, li_3, li_4, li_5, li_6, li_7, li_8, li_9, li_10, li_11, li_12, li_13, li_14, li_15, li_16, li_17, li_18, li_19, li_20, li_21, li_22, li_23, li_24, li_25, li_26, li_27, li_28, li_29, li_30, li_31, li_32, li_33, li_34, li_35, li_36, li_37, li_38, li_39, li_40, li_41, li_42, li_47, li_50, li_60, li_63, li_75, li_100, li_103, li_131, li_159, li_184, li_187, li_215, li_243, li_256, li_271, li_296, li_299, li_323, li_347, li_371, li_395, li_419, li_443, li_467, li_491, li_515, li_539, li_545, li_551, li_557, li_560, li_563, li_569, li_575, li_581, li_587, li_593, li_599, li_605, li_629, li_653, li_677, li_725, li_773, li_794, li_795, li_796, li_1000, li_1546, li_1592, li_6184, li_9552, li_10049, li_10348, li_100000, rb_mI, nI_add, nI_mul, nI_leI, nI_ltI, nI_eq, rb_rdn, rb_wrn, rb_n0, rb_m0, rb_m1n, rb_nm1, rb_m1lt, rb_m1le, rb_0m1, rb_ltm1, rb_lem1, Nat.add_zero, Nat.zero_le, Nat.not_lt_zero, Nat.one_ne_zero, Option.bind_some, Option.bind_none, Option.some.injEq, if_true, if_false, ite_true, ite_false, Sum.elim_inl, Sum.elim_inr, g]
          rw [if_neg (by omega)]
        · unfold bdT2
          simp (disch := omega) only [↓reduceIte, Nat.reduceEqDiff, Nat.reduceLeDiff, eq_self, not_true_eq_false, not_false_eq_true, li_0, li_1, li_2, li_3, li_4, li_5, li_6, li_7, li_8, li_9, li_10, li_11, li_12, li_13, li_14, li_15, li_16, li_17, li_18, li_19, li_20, li_21, li_22, li_23, li_24, li_25, li_26, li_27, li_28, li_29, li_30, li_31, li_32, li_33, li_34, li_35, li_36, li_37, li_38, li_39, li_40, li_41, li_42, li_47, li_50, li_60, li_63, li_75, li_100, li_103, li_131, li_159, li_184, li_187, li_215, li_243, li_256, li_271, li_296, li_299, li_323, li_347, li_371, li_395, li_419, li_443, li_467, li_491, li_515, li_539, li_545, li_551, li_557, li_560, li_563, li_569, li_575, li_581, li_587, li_593, li_599, li_605, li_629, li_653, li_677, li_725, li_773, li_794, li_795, li_796, li_1000, li_1546, li_1592, li_6184, li_9552, li_10049, li_10348, li_100000, rb_mI, nI_add, nI_mul, nI_leI, nI_ltI, nI_eq, rb_rdn, rb_wrn, rb_n0, rb_m0, rb_m1n, rb_nm1, rb_m1lt, rb_m1le, rb_0m1, rb_ltm1, rb_lem1, Nat.add_zero, Nat.zero_le, Nat.not_lt_zero, Nat.one_ne_zero, Option.bind_some, Option.bind_none, Option.some.injEq, if_true, if_false, ite_true, ite_false, Sum.elim_inl, Sum.elim_inr, xn_ofObject, xn_ofPipe, xn_ofInterest, xn_ofTask, xn_kindOf, xn_bitsOf7, xn_isInterest, xn_isAsleep, xn_objectAt, xn_pipeAt, xn_interestAt, xn_taskAt, rb_nz0, rb_nz1, rb_n10, Nat.one_ne_zero, eq_self, e1, g]
          rw [if_neg (by omega)]
      · have hne : c' (539 + j) ≠ mI := by rw [g]; exact rb_nmm (by omega)
        by_cases ht : c' (557 + j) = c' 0
        · refine ⟨rb_guC c' j, rb_guA a' j, ?_, ?_, rb_GU_step hG hj hne⟩
          · simp (disch := omega) only [li_0, li_1, li_2, li_3, li_4, li_5, li_6, li_7, li_8, li_9, li_10, li_11, li_12, li_13, li_14, li_15, li_16, li_17, li_18, li_19, li_20, li_21, li_22, li_23, li_24, li_25, li_26, li_27, li_28, li_29, li_30, li_31, li_32, li_33, li_34, li_35, li_36, li_37, li_38, li_39, li_40, li_41, li_42, li_47, li_50, li_60, li_63, li_75, li_100, li_103, li_131, li_159, li_184, li_187, li_215, li_243, li_256, li_271, li_296, li_299, li_323, li_347, li_371, li_395, li_419, li_443, li_467, li_491, li_515, li_539, li_545, li_551, li_557, li_560, li_563, li_569, li_575, li_581, li_587, li_593, li_599, li_605, li_629, li_653, li_677, li_725, li_773, li_794, li_795, li_796, li_1000, li_1546, li_1592, li_6184, li_9552, li_10049, li_10348, li_100000, rb_mI, nI_add, nI_mul, nI_leI, nI_ltI, nI_eq, rb_rdn, rb_wrn, rb_n0, rb_m0, rb_m1n, rb_nm1, rb_m1lt, rb_m1le, rb_0m1, rb_ltm1, rb_lem1, Nat.add_zero, Nat.zero_le, Nat.not_lt_zero, Nat.one_ne_zero, Option.bind_some, Option.bind_none, Option.some.injEq, if_true, if_false, ite_true, ite_false, Sum.elim_inl, Sum.elim_inr, g, ht, xn_giveUp]
            rw [if_neg (by omega)]
          · unfold bdT2
            simp (disch := omega) only [↓reduceIte, Nat.reduceEqDiff, Nat.reduceLeDiff, eq_self, not_true_eq_false, not_false_eq_true, li_0, li_1, li_2, li_3, li_4, li_5, li_6, li_7, li_8, li_9, li_10, li_11, li_12, li_13, li_14, li_15, li_16, li_17, li_18, li_19, li_20, li_21, li_22, li_23, li_24, li_25, li_26, li_27, li_28, li_29, li_30, li_31, li_32, li_33, li_34, li_35, li_36, li_37, li_38, li_39, li_40, li_41, li_42, li_47, li_50, li_60, li_63, li_75, li_100, li_103, li_131, li_159, li_184, li_187, li_215, li_243, li_256, li_271, li_296, li_299, li_323, li_347, li_371, li_395, li_419, li_443, li_467, li_491, li_515, li_539, li_545, li_551, li_557, li_560, li_563, li_569, li_575, li_581, li_587, li_593, li_599, li_605, li_629, li_653, li_677, li_725, li_773, li_794, li_795, li_796, li_1000, li_1546, li_1592, li_6184, li_9552, li_10049, li_10348, li_100000, rb_mI, nI_add, nI_mul, nI_leI, nI_ltI, nI_eq, rb_rdn, rb_wrn, rb_n0, rb_m0, rb_m1n, rb_nm1, rb_m1lt, rb_m1le, rb_0m1, rb_ltm1, rb_lem1, Nat.add_zero, Nat.zero_le, Nat.not_lt_zero, Nat.one_ne_zero, Option.bind_some, Option.bind_none, Option.some.injEq, if_true, if_false, ite_true, ite_false, Sum.elim_inl, Sum.elim_inr, xn_ofObject, xn_ofPipe, xn_ofInterest, xn_ofTask, xn_kindOf, xn_bitsOf7, xn_isInterest, xn_isAsleep, xn_objectAt, xn_pipeAt, xn_interestAt, xn_taskAt, rb_nz0, rb_nz1, rb_n10, Nat.one_ne_zero, eq_self, e1, g, e2, e3, ht, yn_gotNothing]
            rw [if_neg (by omega)]
        · refine ⟨c', a', ?_, ?_, hG⟩
          · simp (disch := omega) only [li_0, li_1, li_2, li_3, li_4, li_5, li_6, li_7, li_8, li_9, li_10, li_11, li_12, li_13, li_14, li_15, li_16, li_17, li_18, li_19, li_20, li_21, li_22, li_23, li_24, li_25, li_26, li_27, li_28, li_29, li_30, li_31, li_32, li_33, li_34, li_35, li_36, li_37, li_38, li_39, li_40, li_41, li_42, li_47, li_50, li_60, li_63, li_75, li_100, li_103, li_131, li_159, li_184, li_187, li_215, li_243, li_256, li_271, li_296, li_299, li_323, li_347, li_371, li_395, li_419, li_443, li_467, li_491, li_515, li_539, li_545, li_551, li_557, li_560, li_563, li_569, li_575, li_581, li_587, li_593, li_599, li_605, li_629, li_653, li_677, li_725, li_773, li_794, li_795, li_796, li_1000, li_1546, li_1592, li_6184, li_9552, li_10049, li_10348, li_100000, rb_mI, nI_add, nI_mul, nI_leI, nI_ltI, nI_eq, rb_rdn, rb_wrn, rb_n0, rb_m0, rb_m1n, rb_nm1, rb_m1lt, rb_m1le, rb_0m1, rb_ltm1, rb_lem1, Nat.add_zero, Nat.zero_le, Nat.not_lt_zero, Nat.one_ne_zero, Option.bind_some, Option.bind_none, Option.some.injEq, if_true, if_false, ite_true, ite_false, Sum.elim_inl, Sum.elim_inr, g, ht]
            rw [if_neg (by omega)]
          · unfold bdT2
            simp (disch := omega) only [↓reduceIte, Nat.reduceEqDiff, Nat.reduceLeDiff, eq_self, not_true_eq_false, not_false_eq_true, li_0, li_1, li_2, li_3, li_4, li_5, li_6, li_7, li_8, li_9, li_10, li_11, li_12, li_13, li_14, li_15, li_16, li_17, li_18, li_19, li_20, li_21, li_22, li_23, li_24, li_25, li_26, li_27, li_28, li_29, li_30, li_31, li_32, li_33, li_34, li_35, li_36, li_37, li_38, li_39, li_40, li_41, li_42, li_47, li_50, li_60, li_63, li_75, li_100, li_103, li_131, li_159, li_184, li_187, li_215, li_243, li_256, li_271, li_296, li_299, li_323, li_347, li_371, li_395, li_419, li_443, li_467, li_491, li_515, li_539, li_545, li_551, li_557, li_560, li_563, li_569, li_575, li_581, li_587, li_593, li_599, li_605, li_629, li_653, li_677, li_725, li_773, li_794, li_795, li_796, li_1000, li_1546, li_1592, li_6184, li_9552, li_10049, li_10348, li_100000, rb_mI, nI_add, nI_mul, nI_leI, nI_ltI, nI_eq, rb_rdn, rb_wrn, rb_n0, rb_m0, rb_m1n, rb_nm1, rb_m1lt, rb_m1le, rb_0m1, rb_ltm1, rb_lem1, Nat.add_zero, Nat.zero_le, Nat.not_lt_zero, Nat.one_ne_zero, Option.bind_some, Option.bind_none, Option.some.injEq, if_true, if_false, ite_true, ite_false, Sum.elim_inl, Sum.elim_inr, xn_ofObject, xn_ofPipe, xn_ofInterest, xn_ofTask, xn_kindOf, xn_bitsOf7, xn_isInterest, xn_isAsleep, xn_objectAt, xn_pipeAt, xn_interestAt, xn_taskAt, rb_nz0, rb_nz1, rb_n10, Nat.one_ne_zero, eq_self, e1, g, e2, e3, ht]
            rw [if_neg (by omega)]) (by
      intro c' a' hG
      refine ⟨c', a', ?_, ?_, hG⟩
      · simp (disch := omega) only [li_0, li_1, li_2, li_3, li_4, li_5, li_6, li_7, li_8, li_9, li_10, li_11, li_12, li_13, li_14, li_15, li_16, li_17, li_18, li_19, li_20, li_21, li_22, li_23, li_24, li_25, li_26, li_27, li_28, li_29, li_30, li_31, li_32, li_33, li_34, li_35, li_36, li_37, li_38, li_39, li_40, li_41, li_42, li_47, li_50, li_60, li_63, li_75, li_100, li_103, li_131, li_159, li_184, li_187, li_215, li_243, li_256, li_271, li_296, li_299, li_323, li_347, li_371, li_395, li_419, li_443, li_467, li_491, li_515, li_539, li_545, li_551, li_557, li_560, li_563, li_569, li_575, li_581, li_587, li_593, li_599, li_605, li_629, li_653, li_677, li_725, li_773, li_794, li_795, li_796, li_1000, li_1546, li_1592, li_6184, li_9552, li_10049, li_10348, li_100000, rb_mI, nI_add, nI_mul, nI_leI, nI_ltI, nI_eq, rb_rdn, rb_wrn, rb_n0, rb_m0, rb_m1n, rb_nm1, rb_m1lt, rb_m1le, rb_0m1, rb_ltm1, rb_lem1, Nat.add_zero, Nat.zero_le, Nat.not_lt_zero, Nat.one_ne_zero, Option.bind_some, Option.bind_none, Option.some.injEq, if_true, if_false, ite_true, ite_false, Sum.elim_inl, Sum.elim_inr]
        rw [if_pos (by omega)]
      · unfold bdT2
        simp (disch := omega) only [li_0, li_1, li_2, li_3, li_4, li_5, li_6, li_7, li_8, li_9, li_10, li_11, li_12, li_13, li_14, li_15, li_16, li_17, li_18, li_19, li_20, li_21, li_22, li_23, li_24, li_25, li_26, li_27, li_28, li_29, li_30, li_31, li_32, li_33, li_34, li_35, li_36, li_37, li_38, li_39, li_40, li_41, li_42, li_47, li_50, li_60, li_63, li_75, li_100, li_103, li_131, li_159, li_184, li_187, li_215, li_243, li_256, li_271, li_296, li_299, li_323, li_347, li_371, li_395, li_419, li_443, li_467, li_491, li_515, li_539, li_545, li_551, li_557, li_560, li_563, li_569, li_575, li_581, li_587, li_593, li_599, li_605, li_629, li_653, li_677, li_725, li_773, li_794, li_795, li_796, li_1000, li_1546, li_1592, li_6184, li_9552, li_10049, li_10348, li_100000, rb_mI, nI_add, nI_mul, nI_leI, nI_ltI, nI_eq, rb_rdn, rb_wrn, rb_n0, rb_m0, rb_m1n, rb_nm1, rb_m1lt, rb_m1le, rb_0m1, rb_ltm1, rb_lem1, Nat.add_zero, Nat.zero_le, Nat.not_lt_zero, Nat.one_ne_zero, Option.bind_some, Option.bind_none, Option.some.injEq, if_true, if_false, ite_true, ite_false, Sum.elim_inl, Sum.elim_inr]
        rw [if_pos (by omega)]) (fun c' a' h => ⟨c', a', rfl, rfl, h⟩)
  obtain ⟨r, g1, g2⟩ := rb_bd h2
  cases g2
  exact ⟨c', a', h1, g1, h3⟩
theorem rp_from {z W q n : Nat} {π : Nat → Nat} {s s' : Nat} {c a : rb_Row} (h : rR z W q n π s s' c a) {x : Nat} (hx : x < 28) : ∃ c' a', XX4_dismissFrom c (nI x) = some c' ∧ rb_lp (bdG2 (nI x)) 100000 (nI 0, a) = some a' ∧ rb_GU z W q n π s s' c c' a' ∧ (∀ t, t < 6 → c' (539 + t) ≠ nI x) := by
  obtain ⟨c', a', h1, h2, h3⟩ := rb_lpjb (f := fun x => some x) (f' := fun x => some x) (T := fun c' a' => rb_GU z W q n π s s' c c' a' ∧ (∀ t, t < 6 → c' (539 + t) ≠ nI x)) (body := fun (s1 : Int32 × rb_Row) => if 6 ≤ s1.1 then some (.inr s1.2) else (rb_rd s1.2 773 (539 + s1.1)).bind fun v10 => ((if v10 = nI x then (XX4_giveUp s1.2 s1.1).bind fun t16 => some t16 else some s1.2) : Option (rb_Row)).bind fun j12 => some (.inl ((s1.1 + 1), j12))) (body' := bdG2 (nI x)) (N := 100000) (N' := 100000) (s0 := (0, c)) (s0' := (nI 0, a)) (fun j c => (nI j, c)) (fun j a => (nI j, a)) 6 (fun j c' a' => rb_GU z W q n π s s' c c' a' ∧ (∀ t, t < j → c' (539 + t) ≠ nI x)) (fun c' a' => rb_GU z W q n π s s' c c' a' ∧ (∀ t, t < 6 → c' (539 + t) ≠ nI x)) c a rfl rfl ⟨⟨h, Nat.le_refl _, fun _ _ => rfl, fun t ht => ⟨Or.inr rfl, rfl, rfl⟩, fun _ _ => rfl⟩, fun t ht => absurd ht (Nat.not_lt_zero _)⟩ (by omega) (by omega) (by
      rintro j c' a' hj ⟨hG, hP⟩
      refine Or.inl ?_
      have hT := hG.1.2.2.2.2
      have e1 := (hT.1 j hj).1
      by_cases ht : c' (539 + j) = nI x
      · have hne : c' (539 + j) ≠ mI := by rw [ht]; exact rb_nmm (by omega)
        refine ⟨rb_guC c' j, rb_guA a' j, ?_, ?_, rb_GU_step hG hj hne, fun t ht' => ?_⟩
        · simp (disch := omega) only [li_0, li_1, li_2, li_3, li_4, li_5, li_6, li_7, li_8, li_9, li_10, li_11, li_12, li_13, li_14, li_15, li_16, li_17, li_18, li_19, li_20, li_21, li_22, li_23, li_24, li_25, li_26, li_27, li_28, li_29, li_30, li_31, li_32, li_33, li_34, li_35, li_36, li_37, li_38, li_39, li_40, li_41, li_42, li_47, li_50, li_60, li_63, li_75, li_100, li_103, li_131, li_159, li_184, li_187, li_215, li_243, li_256, li_271, li_296, li_299, li_323, li_347, li_371, li_395, li_419, li_443, li_467, li_491, li_515, li_539, li_545, li_551, li_557, li_560, li_563, li_569, li_575, li_581, li_587, li_593, li_599, li_605, li_629, li_653, li_677, li_725, li_773, li_794, li_795, li_796, li_1000, li_1546, li_1592, li_6184, li_9552, li_10049, li_10348, li_100000, rb_mI, nI_add, nI_mul, nI_leI, nI_ltI, nI_eq, rb_rdn, rb_wrn, rb_n0, rb_m0, rb_m1n, rb_nm1, rb_m1lt, rb_m1le, rb_0m1, rb_ltm1, rb_lem1, Nat.add_zero, Nat.zero_le, Nat.not_lt_zero, Nat.one_ne_zero, Option.bind_some, Option.bind_none, Option.some.injEq, if_true, if_false, ite_true, ite_false, Sum.elim_inl, Sum.elim_inr, ht, xn_giveUp]
          rw [if_neg (by omega)]
        · unfold bdG2
          simp (disch := omega) only [↓reduceIte, Nat.reduceEqDiff, Nat.reduceLeDiff, eq_self, not_true_eq_false, not_false_eq_true, li_0, li_1, li_2, li_3, li_4, li_5, li_6, li_7, li_8, li_9, li_10, li_11, li_12, li_13, li_14, li_15, li_16, li_17, li_18, li_19, li_20, li_21, li_22, li_23, li_24, li_25, li_26, li_27, li_28, li_29, li_30, li_31, li_32, li_33, li_34, li_35, li_36, li_37, li_38, li_39, li_40, li_41, li_42, li_47, li_50, li_60, li_63, li_75, li_100, li_103, li_131, li_159, li_184, li_187, li_215, li_243, li_256, li_271, li_296, li_299, li_323, li_347, li_371, li_395, li_419, li_443, li_467, li_491, li_515, li_539, li_545, li_551, li_557, li_560, li_563, li_569, li_575, li_581, li_587, li_593, li_599, li_605, li_629, li_653, li_677, li_725, li_773, li_794, li_795, li_796, li_1000, li_1546, li_1592, li_6184, li_9552, li_10049, li_10348, li_100000, rb_mI, nI_add, nI_mul, nI_leI, nI_ltI, nI_eq, rb_rdn, rb_wrn, rb_n0, rb_m0, rb_m1n, rb_nm1, rb_m1lt, rb_m1le, rb_0m1, rb_ltm1, rb_lem1, Nat.add_zero, Nat.zero_le, Nat.not_lt_zero, Nat.one_ne_zero, Option.bind_some, Option.bind_none, Option.some.injEq, if_true, if_false, ite_true, ite_false, Sum.elim_inl, Sum.elim_inr, xn_ofObject, xn_ofPipe, xn_ofInterest, xn_ofTask, xn_kindOf, xn_bitsOf7, xn_isInterest, xn_isAsleep, xn_objectAt, xn_pipeAt, xn_interestAt, xn_taskAt, rb_nz0, rb_nz1, rb_n10, Nat.one_ne_zero, eq_self, e1, ht, yn_gotNothing]
          rw [if_neg (by omega)]
        · unfold rb_guC
          by_cases e : t = j
          · subst e
            simp (disch := omega) only [rb_upn, rb_upe]
            exact fun g => rb_nmm (k := x) (by omega) g.symm
          · simp (disch := omega) only [rb_upn]
            exact hP t (by omega)
      · refine ⟨c', a', ?_, ?_, hG, fun t ht' => ?_⟩
        · simp (disch := omega) only [li_0, li_1, li_2, li_3, li_4, li_5, li_6, li_7, li_8, li_9, li_10, li_11, li_12, li_13, li_14, li_15, li_16, li_17, li_18, li_19, li_20, li_21, li_22, li_23, li_24, li_25, li_26, li_27, li_28, li_29, li_30, li_31, li_32, li_33, li_34, li_35, li_36, li_37, li_38, li_39, li_40, li_41, li_42, li_47, li_50, li_60, li_63, li_75, li_100, li_103, li_131, li_159, li_184, li_187, li_215, li_243, li_256, li_271, li_296, li_299, li_323, li_347, li_371, li_395, li_419, li_443, li_467, li_491, li_515, li_539, li_545, li_551, li_557, li_560, li_563, li_569, li_575, li_581, li_587, li_593, li_599, li_605, li_629, li_653, li_677, li_725, li_773, li_794, li_795, li_796, li_1000, li_1546, li_1592, li_6184, li_9552, li_10049, li_10348, li_100000, rb_mI, nI_add, nI_mul, nI_leI, nI_ltI, nI_eq, rb_rdn, rb_wrn, rb_n0, rb_m0, rb_m1n, rb_nm1, rb_m1lt, rb_m1le, rb_0m1, rb_ltm1, rb_lem1, Nat.add_zero, Nat.zero_le, Nat.not_lt_zero, Nat.one_ne_zero, Option.bind_some, Option.bind_none, Option.some.injEq, if_true, if_false, ite_true, ite_false, Sum.elim_inl, Sum.elim_inr, ht]
          rw [if_neg (by omega)]
        · unfold bdG2
          simp (disch := omega) only [↓reduceIte, Nat.reduceEqDiff, Nat.reduceLeDiff, eq_self, not_true_eq_false, not_false_eq_true, li_0, li_1, li_2, li_3, li_4, li_5, li_6, li_7, li_8, li_9, li_10, li_11, li_12, li_13, li_14, li_15, li_16, li_17, li_18, li_19, li_20, li_21, li_22, li_23, li_24, li_25, li_26, li_27, li_28, li_29, li_30, li_31, li_32, li_33, li_34, li_35, li_36, li_37, li_38, li_39, li_40, li_41, li_42, li_47, li_50, li_60, li_63, li_75, li_100, li_103, li_131, li_159, li_184, li_187, li_215, li_243, li_256, li_271, li_296, li_299, li_323, li_347, li_371, li_395, li_419, li_443, li_467, li_491, li_515, li_539, li_545, li_551, li_557, li_560, li_563, li_569, li_575, li_581, li_587, li_593, li_599, li_605, li_629, li_653, li_677, li_725, li_773, li_794, li_795, li_796, li_1000, li_1546, li_1592, li_6184, li_9552, li_10049, li_10348, li_100000, rb_mI, nI_add, nI_mul, nI_leI, nI_ltI, nI_eq, rb_rdn, rb_wrn, rb_n0, rb_m0, rb_m1n, rb_nm1, rb_m1lt, rb_m1le, rb_0m1, rb_ltm1, rb_lem1, Nat.add_zero, Nat.zero_le, Nat.not_lt_zero, Nat.one_ne_zero, Option.bind_some, Option.bind_none, Option.some.injEq, if_true, if_false, ite_true, ite_false, Sum.elim_inl, Sum.elim_inr, xn_ofObject, xn_ofPipe, xn_ofInterest, xn_ofTask, xn_kindOf, xn_bitsOf7, xn_isInterest, xn_isAsleep, xn_objectAt, xn_pipeAt, xn_interestAt, xn_taskAt, rb_nz0, rb_nz1, rb_n10, Nat.one_ne_zero, eq_self, e1, ht]
          rw [if_neg (by omega)]
        · by_cases e : t = j
          · subst e; exact ht
          · exact hP t (by omega)) (by
      rintro c' a' ⟨hG, hP⟩
      refine ⟨c', a', ?_, ?_, hG, hP⟩
      · simp (disch := omega) only [li_0, li_1, li_2, li_3, li_4, li_5, li_6, li_7, li_8, li_9, li_10, li_11, li_12, li_13, li_14, li_15, li_16, li_17, li_18, li_19, li_20, li_21, li_22, li_23, li_24, li_25, li_26, li_27, li_28, li_29, li_30, li_31, li_32, li_33, li_34, li_35, li_36, li_37, li_38, li_39, li_40, li_41, li_42, li_47, li_50, li_60, li_63, li_75, li_100, li_103, li_131, li_159, li_184, li_187, li_215, li_243, li_256, li_271, li_296, li_299, li_323, li_347, li_371, li_395, li_419, li_443, li_467, li_491, li_515, li_539, li_545, li_551, li_557, li_560, li_563, li_569, li_575, li_581, li_587, li_593, li_599, li_605, li_629, li_653, li_677, li_725, li_773, li_794, li_795, li_796, li_1000, li_1546, li_1592, li_6184, li_9552, li_10049, li_10348, li_100000, rb_mI, nI_add, nI_mul, nI_leI, nI_ltI, nI_eq, rb_rdn, rb_wrn, rb_n0, rb_m0, rb_m1n, rb_nm1, rb_m1lt, rb_m1le, rb_0m1, rb_ltm1, rb_lem1, Nat.add_zero, Nat.zero_le, Nat.not_lt_zero, Nat.one_ne_zero, Option.bind_some, Option.bind_none, Option.some.injEq, if_true, if_false, ite_true, ite_false, Sum.elim_inl, Sum.elim_inr]
        rw [if_pos (by omega)]
      · unfold bdG2
        simp (disch := omega) only [li_0, li_1, li_2, li_3, li_4, li_5, li_6, li_7, li_8, li_9, li_10, li_11, li_12, li_13, li_14, li_15, li_16, li_17, li_18, li_19, li_20, li_21, li_22, li_23, li_24, li_25, li_26, li_27, li_28, li_29, li_30, li_31, li_32, li_33, li_34, li_35, li_36, li_37, li_38, li_39, li_40, li_41, li_42, li_47, li_50, li_60, li_63, li_75, li_100, li_103, li_131, li_159, li_184, li_187, li_215, li_243, li_256, li_271, li_296, li_299, li_323, li_347, li_371, li_395, li_419, li_443, li_467, li_491, li_515, li_539, li_545, li_551, li_557, li_560, li_563, li_569, li_575, li_581, li_587, li_593, li_599, li_605, li_629, li_653, li_677, li_725, li_773, li_794, li_795, li_796, li_1000, li_1546, li_1592, li_6184, li_9552, li_10049, li_10348, li_100000, rb_mI, nI_add, nI_mul, nI_leI, nI_ltI, nI_eq, rb_rdn, rb_wrn, rb_n0, rb_m0, rb_m1n, rb_nm1, rb_m1lt, rb_m1le, rb_0m1, rb_ltm1, rb_lem1, Nat.add_zero, Nat.zero_le, Nat.not_lt_zero, Nat.one_ne_zero, Option.bind_some, Option.bind_none, Option.some.injEq, if_true, if_false, ite_true, ite_false, Sum.elim_inl, Sum.elim_inr]
        rw [if_pos (by omega)]) (fun c' a' h => ⟨c', a', rfl, rfl, h⟩)
  obtain ⟨r, g1, g2⟩ := rb_bd h2
  cases g2
  exact ⟨c', a', h1, g1, h3⟩
