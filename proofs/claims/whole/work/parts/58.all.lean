def bdG1 (x0 : Int32) : (Int32 × rb_Row) → Option ((Int32 × rb_Row) ⊕ (rb_Row)) := fun (s3 : Int32 × rb_Row) => if 24 ≤ s3.1 then some (.inr s3.2) else (XX7_isInterest s3.2 s3.1).bind fun t12 => ((if t12 = 0 then some s3.2 else (XX7_ofInterest s3.2 s3.1 1).bind fun t18 => if t18 = x0 then (XX7_dropInterest s3.2 s3.1).bind fun t21 => some t21 else (XX7_ofInterest s3.2 s3.1 0).bind fun t23 => if t23 = x0 then (XX7_dropInterest s3.2 s3.1).bind fun t26 => some t26 else some s3.2) : Option (rb_Row)).bind fun j14 => some (.inl ((s3.1 + 1), j14))
def bdR1 (x0 : Int32) : (Int32 × rb_Row) → Option ((Int32 × rb_Row) ⊕ (rb_Row)) := fun (s3 : Int32 × rb_Row) => if s3.1 < 0 then some (.inr s3.2) else (rb_rd s3.2 773 (323 + s3.1)).bind fun v12 => ((if v12 = x0 then (XX1_remove s3.2 s3.1).bind fun t18 => some t18 else (rb_rd s3.2 773 (299 + s3.1)).bind fun v20 => if v20 = x0 then (XX1_remove s3.2 s3.1).bind fun t23 => some t23 else some s3.2) : Option (rb_Row)).bind fun j14 => some (.inl ((s3.1 + (-1)), j14))
/-- slots set free -/
def rb_ds (P : Nat → Bool) (r : rb_Row) : Nat → rb_Row
  | 0 => r
  | j + 1 => bif P j then upd (rb_ds P r j) (296 + 11 * j) mI else rb_ds P r j
theorem rb_ds_ne {P : Nat → Bool} {r : rb_Row} : ∀ j k, (∀ i, i < j → k ≠ 296 + 11 * i) → rb_ds P r j k = r k := by
  intro j
  induction j with
  | zero => intro k _; rfl
  | succ j ih =>
    intro k hk
    rw [rb_ds]
    cases P j with
    | false => exact ih k (fun i hi => hk i (by omega))
    | true =>
      simp only [cond_true]
      rw [rb_upn (hk j (by omega))]
      exact ih k (fun i hi => hk i (by omega))
theorem rb_ds_at {P : Nat → Bool} {r : rb_Row} : ∀ j u, u < j → rb_ds P r j (296 + 11 * u) = bif P u then mI else r (296 + 11 * u) := by
  intro j
  induction j with
  | zero => intro u hu; omega
  | succ j ih =>
    intro u hu
    rw [rb_ds]
    by_cases e : u = j
    · subst e
      cases P u with
      | false => simp only [cond_false]; exact rb_ds_ne u _ (fun i hi => by omega)
      | true => simp only [cond_true]; exact rb_upe rfl
    · cases P j with
      | false => simp only [cond_false]; exact ih u (by omega)
      | true => simp only [cond_true]; rw [rb_upn (by omega)]; exact ih u (by omega)
theorem yn_ds {a : rb_Row} {x : Nat} (hx : x < 28) : rb_lp (bdG1 (nI x)) 100000 (nI 0, a) = some (rb_ds (fun u => !decide (a (296 + 11 * u) < nI 0) && (decide (a (296 + 11 * u + 1) = nI x) || decide (a (296 + 11 * u) = nI x))) a 24) := by
  refine rb_lps0 (fun j => (nI j, rb_ds (fun u => !decide (a (296 + 11 * u) < nI 0) && (decide (a (296 + 11 * u + 1) = nI x) || decide (a (296 + 11 * u) = nI x))) a j)) 24 _ rfl ?_ ?_ (by omega)
  · intro j hj
    have e1 : rb_ds (fun u => !decide (a (296 + 11 * u) < nI 0) && (decide (a (296 + 11 * u + 1) = nI x) || decide (a (296 + 11 * u) = nI x))) a j (296 + 11 * j) = a (296 + 11 * j) := rb_ds_ne _ _ (fun i hi => by omega)
    have e2 : rb_ds (fun u => !decide (a (296 + 11 * u) < nI 0) && (decide (a (296 + 11 * u + 1) = nI x) || decide (a (296 + 11 * u) = nI x))) a j (296 + 11 * j + 1) = a (296 + 11 * j + 1) := rb_ds_ne _ _ (fun i hi => by omega)
    unfold bdG1 XX7_dropInterest
    simp (disch := omega) only [li_0, li_1, li_2, li_3, li_4, li_5, li_6, li_7, li_8, li_9, li_10, li_11, li_12, li_13, li_14, li_15, li_16, li_17, li_18, li_19, li_20, li_21, li_22, li_23, li_24, li_25, li_26, li_27, li_28, li_29, li_30, li_31, li_32, li_33, li_34, li_35, li_36, li_37, li_38, li_39, li_40, li_41, li_42, li_47, li_50, li_60, li_63, li_75, li_100, li_103, li_131, li_159, li_184, li_187, li_215, li_243, li_256, li_271, li_296, li_299, li_323, li_347, li_371, li_395, li_419, li_443, li_467, li_491, li_515, li_539, li_545, li_551, li_557, li_560, li_563, li_569, li_575, li_581, li_587, li_593, li_599, li_605, li_629, li_653, li_677, li_725, li_773, li_794, li_795, li_796, li_1000, li_1546, li_1592, li_6184, li_9552, li_10049, li_10348, li_100000, rb_mI, nI_add, nI_mul, nI_leI, nI_ltI, nI_eq, rb_rdn, rb_wrn, rb_n0, rb_m0, rb_m1n, rb_nm1, rb_m1lt, rb_m1le, rb_0m1, rb_ltm1, rb_lem1, Nat.add_zero, Nat.zero_le, Nat.not_lt_zero, Nat.one_ne_zero, Option.bind_some, Option.bind_none, Option.some.injEq, if_true, if_false, ite_true, ite_false, Sum.elim_inl, Sum.elim_inr, xn_ofObject, xn_ofPipe, xn_ofInterest, xn_ofTask, xn_kindOf, xn_bitsOf7, xn_isInterest, xn_isAsleep, xn_objectAt, xn_pipeAt, xn_interestAt, xn_taskAt, rb_nz0, rb_nz1, rb_n10, Nat.one_ne_zero, eq_self, e1, e2]
    rw [if_neg (by omega)]
    by_cases h3 : a (296 + 11 * j) = nI x
    · have hp : ¬ nI x < nI 0 := nI_pos (by omega)
      by_cases h2 : a (296 + 11 * j + 1) = nI x <;> simp [hp, h2, h3, rb_ds, rb_n10]
    · by_cases h1 : a (296 + 11 * j) < nI 0 <;> by_cases h2 : a (296 + 11 * j + 1) = nI x <;> simp [h1, h2, h3, rb_ds, rb_n10]
  · unfold bdG1
    simp (disch := omega) only [li_0, li_1, li_2, li_3, li_4, li_5, li_6, li_7, li_8, li_9, li_10, li_11, li_12, li_13, li_14, li_15, li_16, li_17, li_18, li_19, li_20, li_21, li_22, li_23, li_24, li_25, li_26, li_27, li_28, li_29, li_30, li_31, li_32, li_33, li_34, li_35, li_36, li_37, li_38, li_39, li_40, li_41, li_42, li_47, li_50, li_60, li_63, li_75, li_100, li_103, li_131, li_159, li_184, li_187, li_215, li_243, li_256, li_271, li_296, li_299, li_323, li_347, li_371, li_395, li_419, li_443, li_467, li_491, li_515, li_539, li_545, li_551, li_557, li_560, li_563, li_569, li_575, li_581, li_587, li_593, li_599, li_605, li_629, li_653, li_677, li_725, li_773, li_794, li_795, li_796, li_1000, li_1546, li_1592, li_6184, li_9552, li_10049, li_10348, li_100000, rb_mI, nI_add, nI_mul, nI_leI, nI_ltI, nI_eq, rb_rdn, rb_wrn, rb_n0, rb_m0, rb_m1n, rb_nm1, rb_m1lt, rb_m1le, rb_0m1, rb_ltm1, rb_lem1, Nat.add_zero, Nat.zero_le, Nat.not_lt_zero, Nat.one_ne_zero, Option.bind_some, Option.bind_none, Option.some.injEq, if_true, if_false, ite_true, ite_false, Sum.elim_inl, Sum.elim_inr]
    rw [if_pos (by omega)]
set_option maxHeartbeats 8000000 in
theorem xn_removeAll {c : rb_Row} {n x : Nat} (hc2 : c 2 = nI n) (hn : n ≤ 24) (hx : x < 28) : ∃ c', XX1_removeAllOf c (nI x) = some c' ∧ ∃ (m : Nat) (e : Nat → Nat), m ≤ n ∧ (∀ j, j < m → e j < n) ∧ (∀ i j, i < j → j < m → e i < e j) ∧ (∀ t j, t < 10 → j < m → c' (299 + 24 * t + j) = c (299 + 24 * t + e j)) ∧ (∀ k, ((k < 299 ∧ k ≠ 2) ∨ 539 ≤ k) → c' k = c k) ∧ c' 2 = nI m ∧ (∀ o, o < n → ((∃ j, j < m ∧ e j = o) ↔ (c (299 + o) ≠ nI x ∧ c (323 + o) ≠ nI x))) := by
  unfold XX1_removeAllOf
  have q0 : rb_rd c 773 2 = some (nI n) := by simp (disch := omega) only [li_0, li_1, li_2, li_3, li_4, li_5, li_6, li_7, li_8, li_9, li_10, li_11, li_12, li_13, li_14, li_15, li_16, li_17, li_18, li_19, li_20, li_21, li_22, li_23, li_24, li_25, li_26, li_27, li_28, li_29, li_30, li_31, li_32, li_33, li_34, li_35, li_36, li_37, li_38, li_39, li_40, li_41, li_42, li_47, li_50, li_60, li_63, li_75, li_100, li_103, li_131, li_159, li_184, li_187, li_215, li_243, li_256, li_271, li_296, li_299, li_323, li_347, li_371, li_395, li_419, li_443, li_467, li_491, li_515, li_539, li_545, li_551, li_557, li_560, li_563, li_569, li_575, li_581, li_587, li_593, li_599, li_605, li_629, li_653, li_677, li_725, li_773, li_794, li_795, li_796, li_1000, li_1546, li_1592, li_6184, li_9552, li_10049, li_10348, li_100000, rb_mI, nI_add, nI_mul, nI_leI, nI_ltI, nI_eq, rb_rdn, rb_wrn, rb_n0, rb_m0, rb_m1n, rb_nm1, rb_m1lt, rb_m1le, rb_0m1, rb_ltm1, rb_lem1, hc2]
  rw [q0]
  show ∃ c', (rb_lp (bdR1 (nI x)) 100000 (nI n - 1, c)).bind _ = some c' ∧ _
  refine rb_lpib (fun j r => (nI (n - j) + mI, r)) n (fun j r => ∃ (m : Nat) (e : Nat → Nat), m ≤ n ∧ (∀ k, k < m → e k < n) ∧ (∀ i k, i < k → k < m → e i < e k) ∧ (∀ t k, t < 10 → k < m → r (299 + 24 * t + k) = c (299 + 24 * t + e k)) ∧ (∀ k, ((k < 299 ∧ k ≠ 2) ∨ 539 ≤ k) → r k = c k) ∧ r 2 = nI m ∧ (∀ k, k < n - j → k < m ∧ e k = k) ∧ (∀ o, n - j ≤ o → o < n → ((∃ k, k < m ∧ e k = o) ↔ (c (299 + o) ≠ nI x ∧ c (323 + o) ≠ nI x)))) (fun r => ∃ (m : Nat) (e : Nat → Nat), m ≤ n ∧ (∀ j, j < m → e j < n) ∧ (∀ i j, i < j → j < m → e i < e j) ∧ (∀ t j, t < 10 → j < m → r (299 + 24 * t + j) = c (299 + 24 * t + e j)) ∧ (∀ k, ((k < 299 ∧ k ≠ 2) ∨ 539 ≤ k) → r k = c k) ∧ r 2 = nI m ∧ (∀ o, o < n → ((∃ j, j < m ∧ e j = o) ↔ (c (299 + o) ≠ nI x ∧ c (323 + o) ≠ nI x)))) c ?_ ?_ (by omega) ?_ ?_ (fun r hr => ⟨r, rfl, hr⟩)
  · have q : nI n + mI = nI n - 1 := by rw [Int32.sub_eq_add_neg]; rfl
    show (nI (n - 0) + mI, c) = (nI n - 1, c)
    rw [Nat.sub_zero, q]
  · exact ⟨n, fun k => k, Nat.le_refl _, fun k hk => hk, fun i k h1 _ => h1, fun t k _ _ => rfl, fun k _ => rfl, hc2, fun k hk => ⟨by omega, rfl⟩, fun o h1 h2 => by omega⟩
  · rintro j r hj ⟨m, e, g1, g2, g3, g4, g5, g6, g7, g8⟩
    refine Or.inl ?_
    obtain ⟨i, hi⟩ : ∃ i, n - j = i + 1 := ⟨n - j - 1, by omega⟩
    have hi1 : n - (j + 1) = i := by omega
    obtain ⟨him, hei⟩ := g7 i (by omega)
    have e323 : r (323 + i) = c (323 + i) := by have := g4 1 i (by omega) him; rw [hei] at this; exact this
    have e299 : r (299 + i) = c (299 + i) := by have := g4 0 i (by omega) him; rw [hei] at this; exact this
    show ∃ u, bdR1 (nI x) (nI (n - j) + mI, r) = some (.inl (nI (n - (j + 1)) + mI, u)) ∧ _
    rw [hi, hi1, rb_nIm]
    by_cases hkeep : c (299 + i) ≠ nI x ∧ c (323 + i) ≠ nI x
    · refine ⟨r, ?_, m, e, g1, g2, g3, g4, g5, g6, fun k hk => g7 k (by omega), fun o h1 h2 => ?_⟩
      · unfold bdR1
        simp (disch := omega) only [li_0, li_1, li_2, li_3, li_4, li_5, li_6, li_7, li_8, li_9, li_10, li_11, li_12, li_13, li_14, li_15, li_16, li_17, li_18, li_19, li_20, li_21, li_22, li_23, li_24, li_25, li_26, li_27, li_28, li_29, li_30, li_31, li_32, li_33, li_34, li_35, li_36, li_37, li_38, li_39, li_40, li_41, li_42, li_47, li_50, li_60, li_63, li_75, li_100, li_103, li_131, li_159, li_184, li_187, li_215, li_243, li_256, li_271, li_296, li_299, li_323, li_347, li_371, li_395, li_419, li_443, li_467, li_491, li_515, li_539, li_545, li_551, li_557, li_560, li_563, li_569, li_575, li_581, li_587, li_593, li_599, li_605, li_629, li_653, li_677, li_725, li_773, li_794, li_795, li_796, li_1000, li_1546, li_1592, li_6184, li_9552, li_10049, li_10348, li_100000, rb_mI, nI_add, nI_mul, nI_leI, nI_ltI, nI_eq, rb_rdn, rb_wrn, rb_n0, rb_m0, rb_m1n, rb_nm1, rb_m1lt, rb_m1le, rb_0m1, rb_ltm1, rb_lem1, Nat.add_zero, Nat.zero_le, Nat.not_lt_zero, Nat.one_ne_zero, Option.bind_some, Option.bind_none, Option.some.injEq, if_true, if_false, ite_true, ite_false, Sum.elim_inl, Sum.elim_inr, e323, e299, hkeep.1, hkeep.2]
      · by_cases e' : o = i
        · subst e'
          exact ⟨fun _ => hkeep, fun _ => ⟨o, him, hei⟩⟩
        · exact g8 o (by omega) h2
    · have hrem := xn_remove (c := r) (i := i) (n := m) g6 (by omega) him
      refine ⟨upd (rb_rmv r i m 10) 2 (nI (m - 1)), ?_, m - 1, fun k => e (if k < i then k else k + 1), by omega, fun k hk => ?_, fun k l hkl hl => ?_, fun t k ht hk => ?_, fun k hk => ?_, rb_upe rfl, fun k hk => ?_, fun o h1 h2 => ?_⟩
      · unfold bdR1
        by_cases h3 : c (323 + i) = nI x
        · simp (disch := omega) only [li_0, li_1, li_2, li_3, li_4, li_5, li_6, li_7, li_8, li_9, li_10, li_11, li_12, li_13, li_14, li_15, li_16, li_17, li_18, li_19, li_20, li_21, li_22, li_23, li_24, li_25, li_26, li_27, li_28, li_29, li_30, li_31, li_32, li_33, li_34, li_35, li_36, li_37, li_38, li_39, li_40, li_41, li_42, li_47, li_50, li_60, li_63, li_75, li_100, li_103, li_131, li_159, li_184, li_187, li_215, li_243, li_256, li_271, li_296, li_299, li_323, li_347, li_371, li_395, li_419, li_443, li_467, li_491, li_515, li_539, li_545, li_551, li_557, li_560, li_563, li_569, li_575, li_581, li_587, li_593, li_599, li_605, li_629, li_653, li_677, li_725, li_773, li_794, li_795, li_796, li_1000, li_1546, li_1592, li_6184, li_9552, li_10049, li_10348, li_100000, rb_mI, nI_add, nI_mul, nI_leI, nI_ltI, nI_eq, rb_rdn, rb_wrn, rb_n0, rb_m0, rb_m1n, rb_nm1, rb_m1lt, rb_m1le, rb_0m1, rb_ltm1, rb_lem1, Nat.add_zero, Nat.zero_le, Nat.not_lt_zero, Nat.one_ne_zero, Option.bind_some, Option.bind_none, Option.some.injEq, if_true, if_false, ite_true, ite_false, Sum.elim_inl, Sum.elim_inr, e323, h3, hrem]
        · have h4 : c (299 + i) = nI x := Classical.byContradiction (fun g => hkeep ⟨g, h3⟩)
          simp (disch := omega) only [li_0, li_1, li_2, li_3, li_4, li_5, li_6, li_7, li_8, li_9, li_10, li_11, li_12, li_13, li_14, li_15, li_16, li_17, li_18, li_19, li_20, li_21, li_22, li_23, li_24, li_25, li_26, li_27, li_28, li_29, li_30, li_31, li_32, li_33, li_34, li_35, li_36, li_37, li_38, li_39, li_40, li_41, li_42, li_47, li_50, li_60, li_63, li_75, li_100, li_103, li_131, li_159, li_184, li_187, li_215, li_243, li_256, li_271, li_296, li_299, li_323, li_347, li_371, li_395, li_419, li_443, li_467, li_491, li_515, li_539, li_545, li_551, li_557, li_560, li_563, li_569, li_575, li_581, li_587, li_593, li_599, li_605, li_629, li_653, li_677, li_725, li_773, li_794, li_795, li_796, li_1000, li_1546, li_1592, li_6184, li_9552, li_10049, li_10348, li_100000, rb_mI, nI_add, nI_mul, nI_leI, nI_ltI, nI_eq, rb_rdn, rb_wrn, rb_n0, rb_m0, rb_m1n, rb_nm1, rb_m1lt, rb_m1le, rb_0m1, rb_ltm1, rb_lem1, Nat.add_zero, Nat.zero_le, Nat.not_lt_zero, Nat.one_ne_zero, Option.bind_some, Option.bind_none, Option.some.injEq, if_true, if_false, ite_true, ite_false, Sum.elim_inl, Sum.elim_inr, e323, h3, e299, h4, hrem]
      · exact g2 _ (by split <;> omega)
      · exact g3 _ _ (by split <;> split <;> omega) (by split <;> omega)
      · rw [rb_upn (by omega), rb_rmv_at ht (by omega)]
        by_cases g : k < i
        · rw [if_neg (by omega)]
          show _ = c (299 + 24 * t + e (if k < i then k else k + 1))
          rw [if_pos g]; exact g4 t k ht (by omega)
        · rw [if_pos (by omega)]
          show _ = c (299 + 24 * t + e (if k < i then k else k + 1))
          rw [if_neg g]; exact g4 t (k + 1) ht (by omega)
      · rw [rb_upn (by omega), rb_rmv_ne (by omega)]
        exact g5 k hk
      · show k < m - 1 ∧ e (if k < i then k else k + 1) = k
        rw [if_pos (by omega)]
        exact ⟨by omega, (g7 k (by omega)).2⟩
      · have hinj : ∀ k, k < m → e k = i → k = i := fun k hk g => by
          rcases Nat.lt_trichotomy k i with l | l | l
          · have := g3 k i l him; omega
          · exact l
          · have := g3 i k l hk; omega
        by_cases e' : o = i
        · subst e'
          refine ⟨fun ⟨k, hk, g⟩ => ?_, fun g => absurd g hkeep⟩
          have := hinj _ (by split <;> omega) g
          exfalso
          split at this <;> omega
        · rw [← g8 o (by omega) h2]
          constructor
          · rintro ⟨k, hk, g⟩
            exact ⟨_, by split <;> omega, g⟩
          · rintro ⟨k, hk, g⟩
            have hne : k ≠ i := fun g' => e' (by rw [← g, g', hei])
            rcases Nat.lt_or_gt_of_ne hne with l | l
            · exact ⟨k, by omega, by show e (if k < i then k else k + 1) = o; rw [if_pos l]; exact g⟩
            · exact ⟨k - 1, by omega, by show e (if k - 1 < i then k - 1 else k - 1 + 1) = o; rw [if_neg (by omega), show k - 1 + 1 = k by omega]; exact g⟩
  · rintro r ⟨m, e, g1, g2, g3, g4, g5, g6, g7, g8⟩
    refine ⟨r, ?_, m, e, g1, g2, g3, g4, g5, g6, fun o h2 => g8 o (by omega) h2⟩
    show bdR1 (nI x) (nI (n - n) + mI, r) = _
    rw [Nat.sub_self]
    unfold bdR1
    exact if_pos (show nI 0 + mI < 0 by decide)
set_option maxHeartbeats 8000000 in
theorem rp_removeAll {z W q n : Nat} {π : Nat → Nat} {s s' : Nat} {c a : rb_Row} (h : rR z W q n π s s' c a) {x : Nat} (hx : x < 28) : ∃ (n' : Nat) (e : Nat → Nat) (c' a' : rb_Row), XX1_removeAllOf c (nI x) = some c' ∧ rb_lp (bdG1 (nI x)) 100000 (nI 0, a) = some a' ∧ n' ≤ n ∧ rR z W q n' (fun j => π (e j)) s s' c' a' ∧ (∀ j, j < n' → c' (299 + j) ≠ nI x ∧ c' (323 + j) ≠ nI x) ∧ (∀ k, ((k < 299 ∧ k ≠ 2) ∨ 539 ≤ k) → c' k = c k) ∧ (∀ k, (∀ u, u < 24 → k ≠ 296 + 11 * u) → a' k = a k) := by
  have hn : n ≤ 24 := h.1.2.2.2.2.2.2.2
  have hc2 : c 2 = nI n := h.1.2.2.2.2.2.2.1
  have hI := h.2.2.1
  have hcls := xn_removeAll hc2 hn hx
  obtain ⟨c', e1, m, e, g1, g2, g3, g4, g5, g6, g7⟩ := hcls
  refine ⟨m, e, c', _, e1, yn_ds hx, g1, ?_, fun j hj => ?_, g5, fun k hk => rb_ds_ne _ _ (fun i hi => hk i (by omega))⟩
  · refine rp_fewer h g2 g3 g1 g4 g5 g6 (fun j hj => ?_) (fun i hi hne => ?_) (fun u hu hne => ?_) (fun k hk => rb_ds_ne _ _ (fun i hi => hk i (by omega)))
    · have hp := (hI.1 (e j) (g2 j hj)).1
      have hkeep := (g7 (e j) (g2 j hj)).mp ⟨j, hj, rfl⟩
      rw [rb_ds_at 24 _ hp, (hI.1 (e j) (g2 j hj)).2.1, (hI.1 (e j) (g2 j hj)).2.2.1]
      simp [hkeep.1, hkeep.2]
    · have hp := (hI.1 i hi).1
      have hno : ¬ (c (299 + i) ≠ nI x ∧ c (323 + i) ≠ nI x) := fun g => by
        obtain ⟨j, hj, ej⟩ := (g7 i hi).mpr g
        exact hne j hj ej
      obtain ⟨y, hy, ey, _⟩ := hI.2.1 i hi
      have hpos : ¬ a (296 + 11 * π i) < nI 0 := by rw [(hI.1 i hi).2.1, ey]; exact nI_pos (by omega)
      rw [rb_ds_at 24 _ hp]
      have : (!decide (a (296 + 11 * π i) < nI 0) && (decide (a (296 + 11 * π i + 1) = nI x) || decide (a (296 + 11 * π i) = nI x))) = true := by
        rw [(hI.1 i hi).2.2.1]
        by_cases h3 : c (323 + i) = nI x
        · simp [hpos, h3]
        · have h4 : c (299 + i) = nI x := Classical.byContradiction (fun g => hno ⟨g, h3⟩)
          rw [(hI.1 i hi).2.1] at hpos ⊢
          simp [hpos, h4]
          exact nI_pos' (by omega)
      rw [this]
      rfl
    · have hm := hI.2.2.2.2.2.1 u hu hne
      rw [rb_ds_at 24 _ hu, hm]
      simp
  · have hkeep := (g7 (e j) (g2 j hj)).mp ⟨j, hj, rfl⟩
    have q0 : c' (299 + j) = c (299 + e j) := g4 0 j (by omega) hj
    have q1 : c' (323 + j) = c (323 + e j) := g4 1 j (by omega) hj
    rw [q0, q1]
    exact hkeep
