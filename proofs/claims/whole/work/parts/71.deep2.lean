theorem rb_sh1 : ∀ t u : Fin 28, t ≠ u → ((1 : Int32) <<< (nI u.val &&& 31)) >>> (nI t.val &&& 31) &&& 1 = 0 := by decide
theorem rb_and_or (x y : Int32) (h : y &&& 1 = 0) : (x ||| y) &&& 1 = x &&& 1 := by
  have e : (x ||| y) &&& 1 = (x &&& 1) ||| (y &&& 1) := Int32.toBitVec_inj.1 (by
    simp only [Int32.toBitVec_and, Int32.toBitVec_or]
    exact BitVec.eq_of_getLsbD_eq (fun i hi => by simp [Bool.and_or_distrib_right]))
  rw [e, h, Int32.or_zero]
theorem rb_bit1 {x t : Nat} (hx : x < 28) (ht : t < 28) (h : ((1 : Int32) <<< (nI x &&& 31)) >>> (nI t &&& 31) &&& 1 = 1) : t = x := by
  by_cases q : t = x
  · exact q
  · have e : ((1 : Int32) <<< (nI x &&& 31)) >>> (nI t &&& 31) &&& 1 = 0 := rb_sh1 ⟨t, ht⟩ ⟨x, hx⟩ (fun e => q (Fin.mk.inj e))
    rw [e] at h; exact absurd h (by decide)
theorem rb_bit2 {m : Int32} {u t : Nat} (hu : u < 28) (ht : t < 28) (h : (m ||| (1 <<< (nI u &&& 31))) >>> (nI t &&& 31) &&& 1 = 1) : m >>> (nI t &&& 31) &&& 1 = 1 ∨ t = u := by
  by_cases q : t = u
  · exact Or.inr q
  · have e : ((1 : Int32) <<< (nI u &&& 31)) >>> (nI t &&& 31) &&& 1 = 0 := rb_sh1 ⟨t, ht⟩ ⟨u, hu⟩ (fun e => q (Fin.mk.inj e))
    rw [Int32.shiftRight_or, rb_and_or _ _ e] at h
    exact Or.inl h
/-- what stands in the mask -/
def rb_MK (n : Nat) (S T : Nat → Nat) (K : Nat → Bool) (x1 : Nat) (m : Int32) : Prop := ∀ y, y < 28 → m >>> (nI y &&& 31) &&& 1 = 1 → y = x1 ∨ K y = false ∨ (2 ≤ rb_dp n S T K 2 x1 ∧ 2 ≤ rb_dp n T S (fun _ => true) 2 y)
set_option maxHeartbeats 16000000 in
theorem yn_standsIn0 {n : Nat} {S T : Nat → Nat} {K : Nat → Bool} {a : rb_Row} (h : rb_SL n S T K a) {x0 x1 : Nat} (h0 : x0 < 28) (h1 : x1 < 28) (hk : K x0 = true) (hne : x0 ≠ x1) : ∃ o, XX7_standsIn a (nI x0) (nI x1) = some o ∧ ∃ b, o = nI b ∧ (b = 0 ∨ (b = 1 ∧ 4 ≤ rb_dp n T S (fun _ => true) 2 x0 + rb_dp n S T K 2 x1)) := by
  obtain ⟨g1, g2, g3, g4, g5⟩ := h
  unfold XX7_standsIn
  refine rb_lpib (fun p (m : Int32) => (m, nI p)) 3 (fun _ m => rb_MK n S T K x1 m) (fun m => rb_MK n S T K x1 m) (1 <<< (nI x1 &&& 31)) rfl (fun y hy e => Or.inl (rb_bit1 h1 hy e)) (by omega) ?_ ?_ ?_
  · intro p m hp hm
    left
    have q0 : ¬ (3 : Int32) ≤ nI p := by rw [show (3 : Int32) = nI 3 from rfl, nI_leI (by omega) (by omega)]; omega
    refine rb_use (rb_lpib (f := fun (q11 : Int32) => (some (.inl (q11, nI p + 1)) : Option ((Int32 × Int32) ⊕ Int32))) (N := 100000) (s0 := (m, 0)) (T := fun o => ∃ m', o = .inl (m', nI (p + 1)) ∧ rb_MK n S T K x1 m') (body := fun (s10 : Int32 × Int32) => if 24 ≤ s10.2 then some (.inr s10.1) else (XX7_isInterest a s10.2).bind fun t19 => ((if t19 = 0 then some s10.1 else (XX7_ofInterest a s10.2 0).bind fun t25 => if ((s10.1 >>> (t25 &&& 31)) &&& 1) = 1 then (XX7_ofInterest a s10.2 1).bind fun t28 => some (s10.1 ||| (1 <<< (t28 &&& 31))) else some s10.1) : Option (Int32)).bind fun j21 => some (.inl (j21, (s10.2 + 1)))) (fun j (m : Int32) => (m, nI j)) 24 (fun _ m => rb_MK n S T K x1 m) (fun m => rb_MK n S T K x1 m) m rfl hm (by omega) ?_ ?_ ?_) ?_
    · intro j m hj hm
      left
      have q1 : ¬ (24 : Int32) ≤ nI j := by rw [show (24 : Int32) = nI 24 from rfl, nI_leI (by omega) (by omega)]; omega
      have p2 : nI j + 1 = nI (j + 1) := nI_add j 1
      rcases g2 j hj with e | ⟨i, hi, e2, e3⟩
      · refine ⟨m, (if_neg q1).trans (rb_bnd (nI 0) ?_ (rb_bnd m (if_pos rfl) (by rw [← p2]))), hm⟩
        show XX7_isInterest a (nI j) = _
        simp (disch := omega) only [↓reduceIte, Nat.reduceEqDiff, Nat.reduceLeDiff, eq_self, not_true_eq_false, not_false_eq_true, li_0, li_1, li_2, li_3, li_4, li_5, li_6, li_7, li_8, li_9, li_10, li_11, li_12, li_13, li_14, li_15, li_16, li_17, li_18, li_19, li_20, li_21, li_22, li_23, li_24, li_25, li_26, li_27, li_28, li_29, li_30, li_31, li_32, li_33, li_34, li_35, li_36, li_37, li_38, li_39, li_40, li_41, li_42, li_47, li_50, li_60, li_63, li_75, li_100, li_103, li_131, li_159, li_184, li_187, li_215, li_243, li_256, li_271, li_296, li_299, li_323, li_347, li_371, li_395, li_419, li_443, li_467, li_491, li_515, li_539, li_545, li_551, li_557, li_560, li_563, li_569, li_575, li_581, li_587, li_593, li_599, li_605, li_629, li_653, li_677, li_725, li_773, li_794, li_795, li_796, li_1000, li_1546, li_1592, li_6184, li_9552, li_10049, li_10348, li_100000, rb_mI, nI_add, nI_mul, nI_leI, nI_ltI, nI_eq, rb_rdn, rb_wrn, rb_n0, rb_m0, rb_m1n, rb_nm1, rb_m1lt, rb_m1le, rb_0m1, rb_ltm1, rb_lem1, Nat.add_zero, Nat.zero_le, Nat.not_lt_zero, Nat.one_ne_zero, Option.bind_some, Option.bind_none, Option.some.injEq, if_true, if_false, ite_true, ite_false, Sum.elim_inl, Sum.elim_inr, xn_ofObject, xn_ofPipe, xn_ofInterest, xn_ofTask, xn_kindOf, xn_bitsOf7, xn_isInterest, xn_isAsleep, xn_objectAt, xn_pipeAt, xn_interestAt, xn_taskAt, rb_nz0, rb_nz1, rb_n10, Nat.one_ne_zero, eq_self, e]
      · obtain ⟨s1, s2, s3⟩ := g4 i hi
        have x1' : XX7_isInterest a (nI j) = some (nI 1) := by simp (disch := omega) only [↓reduceIte, Nat.reduceEqDiff, Nat.reduceLeDiff, eq_self, not_true_eq_false, not_false_eq_true, li_0, li_1, li_2, li_3, li_4, li_5, li_6, li_7, li_8, li_9, li_10, li_11, li_12, li_13, li_14, li_15, li_16, li_17, li_18, li_19, li_20, li_21, li_22, li_23, li_24, li_25, li_26, li_27, li_28, li_29, li_30, li_31, li_32, li_33, li_34, li_35, li_36, li_37, li_38, li_39, li_40, li_41, li_42, li_47, li_50, li_60, li_63, li_75, li_100, li_103, li_131, li_159, li_184, li_187, li_215, li_243, li_256, li_271, li_296, li_299, li_323, li_347, li_371, li_395, li_419, li_443, li_467, li_491, li_515, li_539, li_545, li_551, li_557, li_560, li_563, li_569, li_575, li_581, li_587, li_593, li_599, li_605, li_629, li_653, li_677, li_725, li_773, li_794, li_795, li_796, li_1000, li_1546, li_1592, li_6184, li_9552, li_10049, li_10348, li_100000, rb_mI, nI_add, nI_mul, nI_leI, nI_ltI, nI_eq, rb_rdn, rb_wrn, rb_n0, rb_m0, rb_m1n, rb_nm1, rb_m1lt, rb_m1le, rb_0m1, rb_ltm1, rb_lem1, Nat.add_zero, Nat.zero_le, Nat.not_lt_zero, Nat.one_ne_zero, Option.bind_some, Option.bind_none, Option.some.injEq, if_true, if_false, ite_true, ite_false, Sum.elim_inl, Sum.elim_inr, xn_ofObject, xn_ofPipe, xn_ofInterest, xn_ofTask, xn_kindOf, xn_bitsOf7, xn_isInterest, xn_isAsleep, xn_objectAt, xn_pipeAt, xn_interestAt, xn_taskAt, rb_nz0, rb_nz1, rb_n10, Nat.one_ne_zero, eq_self, e2]
        have x2 : XX7_ofInterest a (nI j) 1 = some (nI (T i)) := by simp (disch := omega) only [↓reduceIte, Nat.reduceEqDiff, Nat.reduceLeDiff, eq_self, not_true_eq_false, not_false_eq_true, li_0, li_1, li_2, li_3, li_4, li_5, li_6, li_7, li_8, li_9, li_10, li_11, li_12, li_13, li_14, li_15, li_16, li_17, li_18, li_19, li_20, li_21, li_22, li_23, li_24, li_25, li_26, li_27, li_28, li_29, li_30, li_31, li_32, li_33, li_34, li_35, li_36, li_37, li_38, li_39, li_40, li_41, li_42, li_47, li_50, li_60, li_63, li_75, li_100, li_103, li_131, li_159, li_184, li_187, li_215, li_243, li_256, li_271, li_296, li_299, li_323, li_347, li_371, li_395, li_419, li_443, li_467, li_491, li_515, li_539, li_545, li_551, li_557, li_560, li_563, li_569, li_575, li_581, li_587, li_593, li_599, li_605, li_629, li_653, li_677, li_725, li_773, li_794, li_795, li_796, li_1000, li_1546, li_1592, li_6184, li_9552, li_10049, li_10348, li_100000, rb_mI, nI_add, nI_mul, nI_leI, nI_ltI, nI_eq, rb_rdn, rb_wrn, rb_n0, rb_m0, rb_m1n, rb_nm1, rb_m1lt, rb_m1le, rb_0m1, rb_ltm1, rb_lem1, Nat.add_zero, Nat.zero_le, Nat.not_lt_zero, Nat.one_ne_zero, Option.bind_some, Option.bind_none, Option.some.injEq, if_true, if_false, ite_true, ite_false, Sum.elim_inl, Sum.elim_inr, xn_ofObject, xn_ofPipe, xn_ofInterest, xn_ofTask, xn_kindOf, xn_bitsOf7, xn_isInterest, xn_isAsleep, xn_objectAt, xn_pipeAt, xn_interestAt, xn_taskAt, rb_nz0, rb_nz1, rb_n10, Nat.one_ne_zero, eq_self, e3]
        have x3 : XX7_ofInterest a (nI j) 0 = some (nI (S i)) := by simp (disch := omega) only [↓reduceIte, Nat.reduceEqDiff, Nat.reduceLeDiff, eq_self, not_true_eq_false, not_false_eq_true, li_0, li_1, li_2, li_3, li_4, li_5, li_6, li_7, li_8, li_9, li_10, li_11, li_12, li_13, li_14, li_15, li_16, li_17, li_18, li_19, li_20, li_21, li_22, li_23, li_24, li_25, li_26, li_27, li_28, li_29, li_30, li_31, li_32, li_33, li_34, li_35, li_36, li_37, li_38, li_39, li_40, li_41, li_42, li_47, li_50, li_60, li_63, li_75, li_100, li_103, li_131, li_159, li_184, li_187, li_215, li_243, li_256, li_271, li_296, li_299, li_323, li_347, li_371, li_395, li_419, li_443, li_467, li_491, li_515, li_539, li_545, li_551, li_557, li_560, li_563, li_569, li_575, li_581, li_587, li_593, li_599, li_605, li_629, li_653, li_677, li_725, li_773, li_794, li_795, li_796, li_1000, li_1546, li_1592, li_6184, li_9552, li_10049, li_10348, li_100000, rb_mI, nI_add, nI_mul, nI_leI, nI_ltI, nI_eq, rb_rdn, rb_wrn, rb_n0, rb_m0, rb_m1n, rb_nm1, rb_m1lt, rb_m1le, rb_0m1, rb_ltm1, rb_lem1, Nat.add_zero, Nat.zero_le, Nat.not_lt_zero, Nat.one_ne_zero, Option.bind_some, Option.bind_none, Option.some.injEq, if_true, if_false, ite_true, ite_false, Sum.elim_inl, Sum.elim_inr, xn_ofObject, xn_ofPipe, xn_ofInterest, xn_ofTask, xn_kindOf, xn_bitsOf7, xn_isInterest, xn_isAsleep, xn_objectAt, xn_pipeAt, xn_interestAt, xn_taskAt, rb_nz0, rb_nz1, rb_n10, Nat.one_ne_zero, eq_self, e2]
        by_cases q : m >>> (nI (S i) &&& 31) &&& 1 = 1
        · refine ⟨m ||| (1 <<< (nI (T i) &&& 31)), (if_neg q1).trans (rb_bnd _ x1' (rb_bnd (m ||| (1 <<< (nI (T i) &&& 31))) ((if_neg (by decide)).trans (rb_bnd _ x3 ((if_pos q).trans (rb_bnd _ x2 rfl)))) (by rw [← p2]))), ?_⟩
          intro y hy ey
          rcases rb_bit2 s2 hy ey with ey | ey
          · exact hm y hy ey
          · subst ey
            rcases hq : K (T i) with _ | _
            · exact Or.inr (Or.inl rfl)
            · have up := g5 i hi hq
              have o1 := rb_dp_one n S T K 2 (T i)
              have o2 := rb_dp_one n T S (fun _ => true) 2 (S i)
              rcases hm _ s1 q with w | w | w
              · have up1 : rb_dp n S T K 2 (T i) + 1 ≤ rb_dp n S T K 2 x1 := by rw [← w]; exact up.1
                exact Or.inr (Or.inr ⟨by omega, by omega⟩)
              · rw [s3] at w; cases w
              · exact Or.inr (Or.inr ⟨by omega, by omega⟩)
        · exact ⟨m, (if_neg q1).trans (rb_bnd _ x1' (rb_bnd m ((if_neg (by decide)).trans (rb_bnd _ x3 (if_neg q))) (by rw [← p2]))), hm⟩
    · intro m hm
      have q24 : (24 : Int32) ≤ nI 24 := by decide
      exact ⟨m, if_pos q24, hm⟩
    · intro m hm
      exact ⟨_, rfl, m, by rw [← nI_add p 1]; rfl, hm⟩
    · rintro o ho ⟨m', e, hm'⟩
      subst e
      exact ⟨m', (if_neg q0).trans ho, hm'⟩
  · intro m hm
    have q3 : (3 : Int32) ≤ nI 3 := by decide
    exact ⟨m, if_pos q3, hm⟩
  · intro m hm
    by_cases q : m >>> (nI x0 &&& 31) &&& 1 = 1
    · refine ⟨nI 1, if_pos q, 1, rfl, Or.inr ⟨rfl, ?_⟩⟩
      rcases hm x0 h0 q with w | w | w
      · exact absurd w hne
      · rw [hk] at w; cases w
      · omega
    · exact ⟨nI 0, if_neg q, 0, rfl, Or.inl rfl⟩
theorem yn_standsIn {n : Nat} {S T : Nat → Nat} {K : Nat → Bool} {a : rb_Row} (h : rb_SL n S T K a) {x0 x1 : Nat} (h0 : x0 < 28) (h1 : x1 < 28) (hk : K x0 = true) (hne : x0 ≠ x1) : ∃ b, XX7_standsIn a (nI x0) (nI x1) = some (nI b) ∧ (b = 0 ∨ (b = 1 ∧ 4 ≤ rb_dp n T S (fun _ => true) 2 x0 + rb_dp n S T K 2 x1)) := by
  obtain ⟨o, ho, b, e, hb⟩ := yn_standsIn0 h h0 h1 hk hne
  subst e
  exact ⟨b, ho, hb⟩
theorem yn_isTooDeep {n : Nat} {S T : Nat → Nat} {K : Nat → Bool} {a : rb_Row} (h : rb_SL n S T K a) {x0 x1 : Nat} (h0 : x0 < 28) (h1 : x1 < 28) (hk : K x0 = true) (hne : x0 ≠ x1) (be ab : rb_Row) : ∃ b be' ab', XX7_isTooDeep be ab a (nI x0) (nI x1) = some (nI b, be', ab') ∧ ((b = 0 ∧ (K x1 = false ∨ rb_dp n T S (fun _ => true) 2 x0 + rb_dp n S T K 2 x1 ≤ 3)) ∨ (b = 1 ∧ K x1 = true ∧ ¬ rb_dp n T S (fun _ => true) 2 x0 + rb_dp n S T K 2 x1 ≤ 3)) := by
  unfold XX7_isTooDeep
  have e0 := xn_kindOf a h1
  have k1 := h.1 x1 h1
  rcases hq : K x1 with _ | _
  · have k2 : a (16 + 6 * x1) ≠ nI 4 := fun e => by rw [k1.mpr e] at hq; cases hq
    exact ⟨0, be, ab, rb_bnd _ e0 (if_neg k2), Or.inl ⟨rfl, Or.inl rfl⟩⟩
  · have k2 : a (16 + 6 * x1) = nI 4 := k1.mp hq
    obtain ⟨o, e1, be', ab', e2, e3⟩ := yn_layDepths h be ab
    subst e2
    obtain ⟨b, e4, hb⟩ := yn_standsIn h h0 h1 hk hne
    have i1 := rb_dp_le n S T K 2 x1
    have i2 := rb_dp_le n T S (fun _ => true) 2 x0
    have b0 := (e3 x0 h0).2
    have b1 := (e3 x1 h1).1
    rw [if_pos hk] at b0
    rw [if_pos hq] at b1
    generalize rb_dp n S T K 2 x1 = D at i1 b1 hb
    generalize rb_dp n T S (fun _ => true) 2 x0 = U at i2 b0 hb
    have es : nI U + nI D = nI (U + D) := nI_add U D
    by_cases q : U + D ≤ 3
    · have hb0 : b = 0 := by omega
      subst hb0
      have q' : nI U + nI D ≤ (3 : Int32) := by rw [es, show (3 : Int32) = nI 3 from rfl]; exact (nI_leI (by omega) (by omega)).mpr q
      exact ⟨0, be', ab', rb_bnd _ e0 ((if_pos k2).trans (rb_bnd _ e1 (rb_bnd _ e4 ((if_pos rfl).trans (rb_bnd (nI U) ((rb_rdn h0 (by omega)).trans (congrArg some b0)) (rb_bnd (nI D) ((rb_rdn h1 (by omega)).trans (congrArg some b1)) (if_pos q'))))))), Or.inl ⟨rfl, Or.inr q⟩⟩
    · refine ⟨1, be', ab', rb_bnd _ e0 ((if_pos k2).trans (rb_bnd _ e1 (rb_bnd _ e4 ?_))), Or.inr ⟨rfl, rfl, q⟩⟩
      rcases hb with hb | ⟨hb, _⟩
      · subst hb
        have q' : ¬ nI U + nI D ≤ (3 : Int32) := by rw [es, show (3 : Int32) = nI 3 from rfl]; exact fun h => q ((nI_leI (by omega) (by omega)).mp h)
        exact (if_pos rfl).trans (rb_bnd (nI U) ((rb_rdn h0 (by omega)).trans (congrArg some b0)) (rb_bnd (nI D) ((rb_rdn h1 (by omega)).trans (congrArg some b1)) (if_neg q')))
      · subst hb
        exact if_neg (by decide)
/-- the relation gives what the depths need -/
theorem rp_SL {z W q n : Nat} {π : Nat → Nat} {s s' : Nat} {c a : rb_Row} (h : rR z W q n π s s' c a) : ∃ S T, rb_SL n S T (fun y => decide (c (19 + y) = nI 4)) a ∧ (∀ i, i < n → S i < 28 ∧ c (299 + i) = nI (S i)) ∧ (∀ i, i < n → T i < 28 ∧ c (323 + i) = nI (T i)) := by
  obtain ⟨hS, hH, hI, hL, hT⟩ := id h
  obtain ⟨i1, i2, i3, i4, i5, i6, i7, i8⟩ := hI
  have hS : ∀ i, ∃ x, i < n → x < 28 ∧ c (299 + i) = nI x ∧ c (19 + x) = nI 4 := fun i => by
    by_cases q : i < n
    · obtain ⟨x, g1, g2, g3, _⟩ := i2 i q
      exact ⟨x, fun _ => ⟨g1, g2, g3⟩⟩
    · exact ⟨0, fun e => absurd e q⟩
  have hT : ∀ i, ∃ x, i < n → x < 28 ∧ c (323 + i) = nI x := fun i => by
    by_cases q : i < n
    · obtain ⟨x, g1, g2, _⟩ := i3 i q
      exact ⟨x, fun _ => ⟨g1, g2⟩⟩
    · exact ⟨0, fun e => absurd e q⟩
  obtain ⟨S, hS⟩ := Classical.axiomOfChoice hS
  obtain ⟨T, hT⟩ := Classical.axiomOfChoice hT
  refine ⟨S, T, ⟨fun x hx => ?_, fun t ht => ?_, fun i hi => ?_, fun i hi => ?_, fun i hi hk => ?_⟩, fun i hi => ⟨(hS i hi).1, (hS i hi).2.1⟩, hT⟩
  · rw [(hH.2.1 x hx).1]; exact decide_eq_true_iff
  · by_cases q : ∀ i, i < n → π i ≠ t
    · exact Or.inl (i6 t ht q)
    · right
      obtain ⟨i, hi0⟩ := Classical.not_forall.mp q
      obtain ⟨hi, e⟩ := Classical.not_imp.mp hi0
      clear hi0
      have e : π i = t := Classical.not_not.mp e
      subst e
      obtain ⟨_, g1, g2, _⟩ := i1 i hi
      exact ⟨i, hi, by rw [g1]; exact (hS i hi).2.1, by rw [g2]; exact (hT i hi).2⟩
  · obtain ⟨g0, g1, g2, _⟩ := i1 i hi
    exact ⟨π i, g0, by rw [g1]; exact (hS i hi).2.1, by rw [g2]; exact (hT i hi).2⟩
  · exact ⟨(hS i hi).1, (hT i hi).1, decide_eq_true (hS i hi).2.2⟩
  · have inj : ∀ {i j}, i < n → j < n → T i = S j → c (323 + i) = c (299 + j) := fun {i j} hi hj e => by rw [(hT i hi).2, (hS j hj).2.1, e]
    have chain : ∀ i j k, i < n → j < n → k < n → T i = S j → T j = S k → c (19 + T k) = nI 4 → False := fun i j k hi hj hk e1 e2 e3 =>
      i7 i j k (T k) hi hj hk (inj hi hj e1) (inj hj hk e2) (hT k hk).1 (hT k hk).2 e3
    have hk' : c (19 + T i) = nI 4 := of_decide_eq_true hk
    constructor
    · exact rb_dp_up hi rfl rfl hk (fun j' j'' h1 h2 e1 k1 e2 k2 => chain i j' j'' hi h1 h2 e1.symm e2.symm (of_decide_eq_true k2))
    · exact rb_dp_up (K := fun _ => true) hi rfl rfl rfl (fun j' j'' h1 h2 e1 _ e2 _ => chain j'' j' i h2 h1 hi e2 e1 hk')
