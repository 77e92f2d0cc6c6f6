/-- interests behind one move up -/
def rb_rmv (c : rb_Row) (i n j : Nat) : rb_Row := fun k => if 299 ≤ k ∧ k < 299 + 24 * j ∧ i ≤ (k - 299) % 24 ∧ (k - 299) % 24 + 1 < n then c (k + 1) else c k
theorem rb_rmv_at {c : rb_Row} {i n t j : Nat} (ht : t < 10) (hj : j < 24) : rb_rmv c i n 10 (299 + 24 * t + j) = if i ≤ j ∧ j + 1 < n then c (299 + 24 * t + j + 1) else c (299 + 24 * t + j) := by
  unfold rb_rmv
  have e : (299 + 24 * t + j - 299) % 24 = j := by omega
  rw [e]
  by_cases h : i ≤ j ∧ j + 1 < n
  · rw [if_pos h, if_pos ⟨by omega, by omega, h⟩]
  · rw [if_neg h, if_neg (fun g => h g.2.2)]
theorem rb_rmv_ne {c : rb_Row} {i n k : Nat} (h : k < 299 ∨ 539 ≤ k) : rb_rmv c i n 10 k = c k := by
  unfold rb_rmv
  rw [if_neg (by omega)]
theorem xn_remove {c : rb_Row} {i n : Nat} (hc : c 2 = nI n) (hn : n ≤ 24) (hi : i < n) : XX1_remove c (nI i) = some (upd (rb_rmv c i n 10) 2 (nI (n - 1))) := by
  unfold XX1_remove
  have q1 : nI n - nI i - nI 1 = nI (n - i - 1) := by rw [rb_sub (by omega), rb_sub (by omega)]
  have q2 : rb_rmv c i n 10 2 = nI n := by rw [rb_rmv_ne (by omega)]; exact hc
  have q3 : nI n - nI 1 = nI (n - 1) := rb_sub (by omega)
  simp (disch := omega) only [↓reduceIte, Nat.reduceEqDiff, Nat.reduceLeDiff, eq_self, not_true_eq_false, not_false_eq_true, li_0, li_1, li_2, li_3, li_4, li_5, li_6, li_7, li_8, li_9, li_10, li_11, li_12, li_13, li_14, li_15, li_16, li_17, li_18, li_19, li_20, li_21, li_22, li_23, li_24, li_25, li_26, li_27, li_28, li_29, li_30, li_31, li_32, li_33, li_34, li_35, li_36, li_37, li_38, li_39, li_40, li_41, li_42, li_47, li_50, li_60, li_63, li_75, li_100, li_103, li_131, li_159, li_184, li_187, li_215, li_243, li_256, li_271, li_296, li_299, li_323, li_347, li_371, li_395, li_419, li_443, li_467, li_491, li_515, li_539, li_545, li_551, li_557, li_560, li_563, li_569, li_575, li_581, li_587, li_593, li_599, li_605, li_629, li_653, li_677, li_725, li_773, li_794, li_795, li_796, li_1000, li_1546, li_1592, li_6184, li_9552, li_10049, li_10348, li_100000, rb_mI, nI_add, nI_mul, nI_leI, nI_ltI, nI_eq, rb_rdn, rb_wrn, rb_n0, rb_m0, rb_m1n, rb_nm1, rb_m1lt, rb_m1le, rb_0m1, rb_ltm1, rb_lem1, Nat.add_zero, Nat.zero_le, Nat.not_lt_zero, Nat.one_ne_zero, Option.bind_some, Option.bind_none, Option.some.injEq, if_true, if_false, ite_true, ite_false, Sum.elim_inl, Sum.elim_inr, hc, q1]
  refine rb_bnd (rb_rmv c i n 10) (rb_lps0 (fun j => (nI (299 + 24 * j), rb_rmv c i n j)) 10 _ ?_ ?_ ?_ (by omega)) ?_
  · show (nI 299, rb_rmv c i n 0) = _
    congr 1
    funext k
    unfold rb_rmv
    rw [if_neg (by omega)]
  · intro j hj
    have hcp : rb_cp (rb_rmv c i n j) 773 (nI (299 + 24 * j + i + 1)) (rb_rmv c i n j) 773 (nI (299 + 24 * j + i)) (nI (n - i - 1)) = some (rb_rmv c i n (j + 1)) := by
      unfold rb_cp
      rw [nI_clamp (by omega), nI_clamp (by omega), nI_clamp (by omega), if_neg]
      · congr 1
        funext k
        unfold va_cpy rb_rmv
        by_cases h1 : 299 + 24 * j + i ≤ k ∧ k < 299 + 24 * j + i + (n - i - 1)
        · have e1 : 299 + 24 * j + i + 1 + (k - (299 + 24 * j + i)) = k + 1 := by omega
          rw [if_pos h1, e1, if_neg (by omega), if_pos (by omega)]
        · rw [if_neg h1]
          by_cases h2 : 299 ≤ k ∧ k < 299 + 24 * j ∧ i ≤ (k - 299) % 24 ∧ (k - 299) % 24 + 1 < n
          · rw [if_pos h2, if_pos (by omega)]
          · rw [if_neg h2, if_neg (by omega)]
      · have g1 : ¬ nI (299 + 24 * j + i + 1) < 0 := nI_pos (by omega)
        have g2 : ¬ nI (299 + 24 * j + i) < 0 := nI_pos (by omega)
        have g3 : ¬ nI (n - i - 1) < 0 := nI_pos (by omega)
        rintro (h | h | h | h | h)
        · exact g1 h
        · exact g2 h
        · exact g3 h
        · omega
        · omega
    simp (disch := omega) only [↓reduceIte, Nat.reduceEqDiff, Nat.reduceLeDiff, eq_self, not_true_eq_false, not_false_eq_true, li_0, li_1, li_2, li_3, li_4, li_5, li_6, li_7, li_8, li_9, li_10, li_11, li_12, li_13, li_14, li_15, li_16, li_17, li_18, li_19, li_20, li_21, li_22, li_23, li_24, li_25, li_26, li_27, li_28, li_29, li_30, li_31, li_32, li_33, li_34, li_35, li_36, li_37, li_38, li_39, li_40, li_41, li_42, li_47, li_50, li_60, li_63, li_75, li_100, li_103, li_131, li_159, li_184, li_187, li_215, li_243, li_256, li_271, li_296, li_299, li_323, li_347, li_371, li_395, li_419, li_443, li_467, li_491, li_515, li_539, li_545, li_551, li_557, li_560, li_563, li_569, li_575, li_581, li_587, li_593, li_599, li_605, li_629, li_653, li_677, li_725, li_773, li_794, li_795, li_796, li_1000, li_1546, li_1592, li_6184, li_9552, li_10049, li_10348, li_100000, rb_mI, nI_add, nI_mul, nI_leI, nI_ltI, nI_eq, rb_rdn, rb_wrn, rb_n0, rb_m0, rb_m1n, rb_nm1, rb_m1lt, rb_m1le, rb_0m1, rb_ltm1, rb_lem1, Nat.add_zero, Nat.zero_le, Nat.not_lt_zero, Nat.one_ne_zero, Option.bind_some, Option.bind_none, Option.some.injEq, if_true, if_false, ite_true, ite_false, Sum.elim_inl, Sum.elim_inr]
    rw [if_neg (by omega), hcp]
    rfl
  · simp (disch := omega) only [↓reduceIte, Nat.reduceEqDiff, Nat.reduceLeDiff, eq_self, not_true_eq_false, not_false_eq_true, li_0, li_1, li_2, li_3, li_4, li_5, li_6, li_7, li_8, li_9, li_10, li_11, li_12, li_13, li_14, li_15, li_16, li_17, li_18, li_19, li_20, li_21, li_22, li_23, li_24, li_25, li_26, li_27, li_28, li_29, li_30, li_31, li_32, li_33, li_34, li_35, li_36, li_37, li_38, li_39, li_40, li_41, li_42, li_47, li_50, li_60, li_63, li_75, li_100, li_103, li_131, li_159, li_184, li_187, li_215, li_243, li_256, li_271, li_296, li_299, li_323, li_347, li_371, li_395, li_419, li_443, li_467, li_491, li_515, li_539, li_545, li_551, li_557, li_560, li_563, li_569, li_575, li_581, li_587, li_593, li_599, li_605, li_629, li_653, li_677, li_725, li_773, li_794, li_795, li_796, li_1000, li_1546, li_1592, li_6184, li_9552, li_10049, li_10348, li_100000, rb_mI, nI_add, nI_mul, nI_leI, nI_ltI, nI_eq, rb_rdn, rb_wrn, rb_n0, rb_m0, rb_m1n, rb_nm1, rb_m1lt, rb_m1le, rb_0m1, rb_ltm1, rb_lem1, Nat.add_zero, Nat.zero_le, Nat.not_lt_zero, Nat.one_ne_zero, Option.bind_some, Option.bind_none, Option.some.injEq, if_true, if_false, ite_true, ite_false, Sum.elim_inl, Sum.elim_inr]
    rw [if_pos (by omega)]
  · simp (disch := omega) only [↓reduceIte, Nat.reduceEqDiff, Nat.reduceLeDiff, eq_self, not_true_eq_false, not_false_eq_true, li_0, li_1, li_2, li_3, li_4, li_5, li_6, li_7, li_8, li_9, li_10, li_11, li_12, li_13, li_14, li_15, li_16, li_17, li_18, li_19, li_20, li_21, li_22, li_23, li_24, li_25, li_26, li_27, li_28, li_29, li_30, li_31, li_32, li_33, li_34, li_35, li_36, li_37, li_38, li_39, li_40, li_41, li_42, li_47, li_50, li_60, li_63, li_75, li_100, li_103, li_131, li_159, li_184, li_187, li_215, li_243, li_256, li_271, li_296, li_299, li_323, li_347, li_371, li_395, li_419, li_443, li_467, li_491, li_515, li_539, li_545, li_551, li_557, li_560, li_563, li_569, li_575, li_581, li_587, li_593, li_599, li_605, li_629, li_653, li_677, li_725, li_773, li_794, li_795, li_796, li_1000, li_1546, li_1592, li_6184, li_9552, li_10049, li_10348, li_100000, rb_mI, nI_add, nI_mul, nI_leI, nI_ltI, nI_eq, rb_rdn, rb_wrn, rb_n0, rb_m0, rb_m1n, rb_nm1, rb_m1lt, rb_m1le, rb_0m1, rb_ltm1, rb_lem1, Nat.add_zero, Nat.zero_le, Nat.not_lt_zero, Nat.one_ne_zero, Option.bind_some, Option.bind_none, Option.some.injEq, if_true, if_false, ite_true, ite_false, Sum.elim_inl, Sum.elim_inr, q2, q3]
set_option maxHeartbeats 8000000 in
/- fewer interests -/
theorem rp_fewer {z W q n n' : Nat} {π e : Nat → Nat} {s s' : Nat} {c a c' a' : rb_Row} (h : rR z W q n π s s' c a) (he : ∀ j, j < n' → e j < n) (hm : ∀ i j, i < j → j < n' → e i < e j) (hn' : n' ≤ n) (hcol : ∀ t j, t < 10 → j < n' → c' (299 + 24 * t + j) = c (299 + 24 * t + e j)) (hc : ∀ k, ((k < 299 ∧ k ≠ 2) ∨ 539 ≤ k) → c' k = c k) (h2 : c' 2 = nI n') (hsl : ∀ j, j < n' → a' (296 + 11 * π (e j)) = a (296 + 11 * π (e j))) (hgo : ∀ i, i < n → (∀ j, j < n' → e j ≠ i) → a' (296 + 11 * π i) = mI) (hno : ∀ u, u < 24 → (∀ i, i < n → π i ≠ u) → a' (296 + 11 * u) = a (296 + 11 * u)) (ha : ∀ k, (∀ u, u < 24 → k ≠ 296 + 11 * u) → a' k = a k) : rR z W q n' (fun j => π (e j)) s s' c' a' := by
  obtain ⟨⟨p1, p2, p3, p4, p5, p6, p7, p8⟩, hH, hI, hL, hT⟩ := h
  have o0 : ∀ j, j < n' → c' (299 + j) = c (299 + e j) := fun j hj => hcol 0 j (by omega) hj
  have o1 : ∀ j, j < n' → c' (323 + j) = c (323 + e j) := fun j hj => hcol 1 j (by omega) hj
  have o2 : ∀ j, j < n' → c' (347 + j) = c (347 + e j) := fun j hj => hcol 2 j (by omega) hj
  have o3 : ∀ j, j < n' → c' (371 + j) = c (371 + e j) := fun j hj => hcol 3 j (by omega) hj
  have o4 : ∀ j, j < n' → c' (395 + j) = c (395 + e j) := fun j hj => hcol 4 j (by omega) hj
  have o5 : ∀ j, j < n' → c' (419 + j) = c (419 + e j) := fun j hj => hcol 5 j (by omega) hj
  have o6 : ∀ j, j < n' → c' (443 + j) = c (443 + e j) := fun j hj => hcol 6 j (by omega) hj
  have o7 : ∀ j, j < n' → c' (467 + j) = c (467 + e j) := fun j hj => hcol 7 j (by omega) hj
  have o8 : ∀ j, j < n' → c' (491 + j) = c (491 + e j) := fun j hj => hcol 8 j (by omega) hj
  have o9 : ∀ j, j < n' → c' (515 + j) = c (515 + e j) := fun j hj => hcol 9 j (by omega) hj
  have af : ∀ u f, u < 24 → 1 ≤ f → f < 11 → a' (296 + 11 * u + f) = a (296 + 11 * u + f) := fun u f hu h1 h2 => ha _ (fun v hv => by omega)
  have hinj : ∀ i j, i < n' → j < n' → e i = e j → i = j := fun i j hi hj g => by
    rcases Nat.lt_trichotomy i j with l | l | l
    · have := hm i j l hj; omega
    · exact l
    · have := hm j i l hi; omega
  refine ⟨⟨?_, ?_, ?_, ?_, p5, p6, h2, by omega⟩, rH_frame hH (Nat.le_refl _) (Nat.le_refl _) (fun k h1 h2 => hc k (by omega)) (fun k h1 => ha k (fun u hu => by omega)), ?_, ?_, rT_frame hT (Nat.le_refl _) (Nat.le_refl _) (Nat.le_refl _) (fun k h1 h2 => hc k (by omega)) (fun x hx => hc _ (by omega)) (fun k h1 h2 => ha k (fun u hu => by omega))⟩
  · rw [hc 0 (by omega), ha 794 (fun u hu => by omega)]; exact p1
  · rw [hc 0 (by omega)]; exact p2
  · rw [hc 1 (by omega)]; exact p3
  · rw [ha 795 (fun u hu => by omega)]; exact p4
  · obtain ⟨h1, h2, h3, h4, h5, h6, h7, h8⟩ := id hI
    refine ⟨?_, ?_, ?_, ?_, ?_, ?_, ?_, ?_⟩
    · intro j hj
      obtain ⟨q1, q2, q3, q4, q5, q6⟩ := h1 (e j) (he j hj)
      rw [hsl j hj, af _ 1 q1 (by omega) (by omega), af _ 2 q1 (by omega) (by omega), af _ 3 q1 (by omega) (by omega), af _ 4 q1 (by omega) (by omega), o0 j hj, o1 j hj, o2 j hj, o3 j hj, o4 j hj]
      exact ⟨q1, q2, q3, q4, q5, q6⟩
    · intro j hj
      obtain ⟨x, g1, g2, g3, k, g4, g5⟩ := h2 (e j) (he j hj)
      rw [o0 j hj]
      exact ⟨x, g1, g2, by rw [hc _ (by omega)]; exact g3, k, g4, by rw [hc _ (by omega)]; exact g5⟩
    · intro j hj
      obtain ⟨x, g1, g2, ⟨kk, g3, g6⟩, k, g4, g5⟩ := h3 (e j) (he j hj)
      rw [o1 j hj]
      exact ⟨x, g1, g2, ⟨kk, g3, by rw [hc _ (by omega)]; exact g6⟩, k, g4, by rw [hc _ (by omega)]; exact g5⟩
    · intro j hj
      have q1 := (h1 (e j) (he j hj)).1
      rw [o0 j hj, o1 j hj, o2 j hj, o3 j hj, o4 j hj, af _ 6 q1 (by omega) (by omega)]
      exact h4 (e j) (he j hj)
    · intro i j hij hj
      have q1 := (h1 (e i) (he i (by omega))).1
      have q2 := (h1 (e j) (he j hj)).1
      rw [af _ 6 q1 (by omega) (by omega), af _ 6 q2 (by omega) (by omega)]
      exact h5 (e i) (e j) (hm i j hij hj) (he j hj)
    · intro u hu hne
      by_cases g : ∃ i, i < n ∧ π i = u
      · obtain ⟨i, hi, e'⟩ := g
        rw [← e']
        exact hgo i hi (fun j hj g => hne j hj (by show π (e j) = u; rw [g, e']))
      · have g' : ∀ i, i < n → π i ≠ u := fun i hi g2 => g ⟨i, hi, g2⟩
        rw [hno u hu g']
        exact h6 u hu g'
    · intro i j k x hi hj hk g1 g2 hx g3
      rw [o1 i hi, o0 j hj] at g1
      rw [o1 j hj, o0 k hk] at g2
      rw [o1 k hk] at g3
      rw [hc _ (by omega)]
      exact h7 (e i) (e j) (e k) x (he i hi) (he j hj) (he k hk) g1 g2 hx g3
    · intro i j hi hj g1 g2 g3
      rw [o0 i hi, o0 j hj] at g1
      rw [o2 i hi, o2 j hj] at g2
      rw [o1 i hi, o1 j hj] at g3
      exact hinj i j hi hj (h8 (e i) (e j) (he i hi) (he j hj) g1 g2 g3)
  · obtain ⟨h1, h2, h3⟩ := hL
    refine ⟨?_, ?_, ?_⟩
    · intro j hj
      have q1 := (hI.1 (e j) (he j hj)).1
      rw [o5 j hj, o7 j hj, o8 j hj, af _ 5 q1 (by omega) (by omega), af _ 8 q1 (by omega) (by omega), af _ 9 q1 (by omega) (by omega)]
      exact h1 (e j) (he j hj)
    · intro j hj
      have q1 := (hI.1 (e j) (he j hj)).1
      rw [o6 j hj, o9 j hj, af _ 7 q1 (by omega) (by omega), af _ 10 q1 (by omega) (by omega)]
      exact h2 (e j) (he j hj)
    · intro i j hi hj
      have q1 := (hI.1 (e i) (he i hi)).1
      have q2 := (hI.1 (e j) (he j hj)).1
      rw [o6 i hi, o6 j hj, af _ 7 q1 (by omega) (by omega), af _ 7 q2 (by omega) (by omega)]
      intro g1 g2
      obtain ⟨g3, g4⟩ := h3 (e i) (e j) (he i hi) (he j hj) g1 g2
      exact ⟨g3, fun g => hinj i j hi hj (g4 g)⟩
/-- one is dropped -/
theorem rp_drop1 {z W q n : Nat} {π : Nat → Nat} {s s' : Nat} {c a : rb_Row} (h : rR z W q n π s s' c a) {i : Nat} (hi : i < n) : rR z W q (n - 1) (fun j => π (if j < i then j else j + 1)) s s' (upd (rb_rmv c i n 10) 2 (nI (n - 1))) (upd a (296 + 11 * π i) mI) := by
  have hI := h.2.2.1
  have hn : n ≤ 24 := h.1.2.2.2.2.2.2.2
  have hinj := rI_inj hI
  have hp := (hI.1 i hi).1
  refine rp_fewer (e := fun j => if j < i then j else j + 1) h (fun j hj => ?_) (fun j k hjk hk => ?_) (by omega) (fun t j ht hj => ?_) (fun k hk => ?_) (rb_upe rfl) (fun j hj => ?_) (fun j hj hne => ?_) (fun u hu hne => ?_) (fun k hk => ?_)
  · show (if j < i then j else j + 1) < n
    split <;> omega
  · show (if j < i then j else j + 1) < (if k < i then k else k + 1)
    split <;> split <;> omega
  · rw [rb_upn (by omega), rb_rmv_at ht (by omega)]
    show _ = c (299 + 24 * t + (if j < i then j else j + 1))
    by_cases g : j < i
    · rw [if_neg (by omega), if_pos g]
    · rw [if_pos (by omega), if_neg g]
      congr 1
  · rw [rb_upn (by omega), rb_rmv_ne (by omega)]
  · have hlt : (if j < i then j else j + 1) < n := by split <;> omega
    have : π (if j < i then j else j + 1) ≠ π i := fun g => by
      have := hinj _ _ hlt hi g
      split at this <;> omega
    rw [rb_upn (by omega)]
  · have : j = i := by
      refine Classical.byContradiction (fun g => ?_)
      rcases Nat.lt_or_gt_of_ne g with l | l
      · exact hne j (by omega) (by show (if j < i then j else j + 1) = j; rw [if_pos l])
      · exact hne (j - 1) (by omega) (by show (if j - 1 < i then j - 1 else j - 1 + 1) = j; rw [if_neg (by omega)]; omega)
    subst this
    exact rb_upe rfl
  · have := hne i hi
    rw [rb_upn (by omega)]
  · rw [rb_upn (hk _ hp)]
