/-- how deep: the longest way over at most l edges, counted in sets -/
def rb_mx (w : Nat → Nat) : Nat → Nat
  | 0 => 1
  | j + 1 => if rb_mx w j < w j then w j else rb_mx w j
def rb_dp (n : Nat) (S T : Nat → Nat) (K : Nat → Bool) : Nat → Nat → Nat
  | 0, _ => 1
  | l + 1, x => rb_mx (fun j => if S j = x ∧ K (T j) = true then 1 + rb_dp n S T K l (T j) else 0) n
theorem rb_mx_ge {w : Nat → Nat} : ∀ {n j : Nat}, j < n → w j ≤ rb_mx w n := by
  intro n
  induction n with
  | zero => intro j hj; omega
  | succ n ih =>
    intro j hj
    show w j ≤ if rb_mx w n < w n then w n else rb_mx w n
    by_cases q : j = n
    · subst q; split <;> omega
    · have := ih (show j < n by omega)
      split <;> omega
theorem rb_mx_one {w : Nat → Nat} : ∀ n, 1 ≤ rb_mx w n := by
  intro n
  induction n with
  | zero => exact Nat.le_refl _
  | succ n ih => show 1 ≤ if rb_mx w n < w n then w n else rb_mx w n; split <;> omega
theorem rb_mx_le {w : Nat → Nat} {M : Nat} (hM : 1 ≤ M) : ∀ {n : Nat}, (∀ j, j < n → w j ≤ M) → rb_mx w n ≤ M := by
  intro n
  induction n with
  | zero => intro _; exact hM
  | succ n ih =>
    intro h
    have := ih (fun j hj => h j (by omega))
    have := h n (by omega)
    show (if rb_mx w n < w n then w n else rb_mx w n) ≤ M
    split <;> omega
theorem rb_dp_one (n : Nat) (S T : Nat → Nat) (K : Nat → Bool) : ∀ l x, 1 ≤ rb_dp n S T K l x
  | 0, _ => Nat.le_refl _
  | _ + 1, _ => rb_mx_one n
theorem rb_dp_le (n : Nat) (S T : Nat → Nat) (K : Nat → Bool) : ∀ l x, rb_dp n S T K l x ≤ l + 1
  | 0, _ => Nat.le_refl _
  | l + 1, x => rb_mx_le (by omega) (fun j _ => by
      have := rb_dp_le n S T K l (T j)
      show (if S j = x ∧ K (T j) = true then 1 + rb_dp n S T K l (T j) else 0) ≤ _
      split <;> omega)
theorem rb_dp_edge {n : Nat} {S T : Nat → Nat} {K : Nat → Bool} {l j x : Nat} (hj : j < n) (e : S j = x) (k : K (T j) = true) : 1 + rb_dp n S T K l (T j) ≤ rb_dp n S T K (l + 1) x := by
  have := rb_mx_ge (w := fun j => if S j = x ∧ K (T j) = true then 1 + rb_dp n S T K l (T j) else 0) hj
  simp only [e, k, and_self, if_true] at this
  exact this
theorem rb_dp_flat {n : Nat} {S T : Nat → Nat} {K : Nat → Bool} {l x M : Nat} (hM : 1 ≤ M) (h : ∀ j, j < n → S j = x → K (T j) = true → 1 + rb_dp n S T K l (T j) ≤ M) : rb_dp n S T K (l + 1) x ≤ M := by
  refine rb_mx_le hM (fun j hj => ?_)
  show (if S j = x ∧ K (T j) = true then 1 + rb_dp n S T K l (T j) else 0) ≤ M
  by_cases q : S j = x ∧ K (T j) = true
  · rw [if_pos q]; exact h j hj q.1 q.2
  · rw [if_neg q]; omega
theorem rb_dp_up {n : Nat} {S T : Nat → Nat} {K : Nat → Bool} {j x y : Nat} (hj : j < n) (e : S j = x) (e' : T j = y) (k : K y = true) (hno : ∀ j' j'', j' < n → j'' < n → S j' = y → K (T j') = true → S j'' = T j' → K (T j'') = true → False) : rb_dp n S T K 2 y + 1 ≤ rb_dp n S T K 2 x := by
  subst e'
  have h1 : 1 + rb_dp n S T K 1 (T j) ≤ rb_dp n S T K 2 x := rb_dp_edge (l := 1) hj e k
  have h2 : rb_dp n S T K 2 (T j) ≤ rb_dp n S T K 1 (T j) := by
    refine rb_dp_flat (rb_dp_one ..) (fun j' hj' e1 k1 => ?_)
    have h3 : 1 + rb_dp n S T K 0 (T j') ≤ rb_dp n S T K 1 (T j) := rb_dp_edge (l := 0) hj' e1 k1
    have h4 : rb_dp n S T K 1 (T j') ≤ 1 := rb_dp_flat (by omega) (fun j'' hj'' e2 k2 => (hno j' j'' hj' hj'' e1 k1 e2 k2).elim)
    have h5 := rb_dp_one n S T K 0 (T j')
    omega
  omega
theorem rb_maxn {a b : Nat} (ha : a < 2 ^ 31) (hb : b < 2 ^ 31) : rb_max (nI a) (nI b) = nI (if a < b then b else a) := by
  unfold rb_max
  by_cases q : a < b
  · rw [if_pos q, if_pos ((nI_ltI ha hb).mpr q)]
  · rw [if_neg q, if_neg (fun h => q ((nI_ltI ha hb).mp h))]
set_option maxHeartbeats 4000000 in
theorem xn_below {c : rb_Row} {n : Nat} {S T : Nat → Nat} {K : Nat → Bool} (hn : n ≤ 24) (hc : c 2 = nI n) (hS : ∀ i, i < n → S i < 28 ∧ c (299 + i) = nI (S i)) (hT : ∀ i, i < n → T i < 28 ∧ c (323 + i) = nI (T i)) (hK : ∀ y, y < 28 → (K y = true ↔ c (19 + y) = nI 4)) : ∀ (l k x : Nat), l ≤ 2 → x < 28 → XX1_deepBelow (l + 1 + k) c (nI x) (nI (3 - l)) = some (nI (rb_dp n S T K l x)) := by
  intro l
  induction l with
  | zero =>
    intro k x hl hx
    rw [show 0 + 1 + k = k + 1 by omega]
    unfold XX1_deepBelow
    refine rb_bnd (nI n) (by simp (disch := omega) only [↓reduceIte, Nat.reduceEqDiff, Nat.reduceLeDiff, eq_self, not_true_eq_false, not_false_eq_true, li_0, li_1, li_2, li_3, li_4, li_5, li_6, li_7, li_8, li_9, li_10, li_11, li_12, li_13, li_14, li_15, li_16, li_17, li_18, li_19, li_20, li_21, li_22, li_23, li_24, li_25, li_26, li_27, li_28, li_29, li_30, li_31, li_32, li_33, li_34, li_35, li_36, li_37, li_38, li_39, li_40, li_41, li_42, li_47, li_50, li_60, li_63, li_75, li_100, li_103, li_131, li_159, li_184, li_187, li_215, li_243, li_256, li_271, li_296, li_299, li_323, li_347, li_371, li_395, li_419, li_443, li_467, li_491, li_515, li_539, li_545, li_551, li_557, li_560, li_563, li_569, li_575, li_581, li_587, li_593, li_599, li_605, li_629, li_653, li_677, li_725, li_773, li_794, li_795, li_796, li_1000, li_1546, li_1592, li_6184, li_9552, li_10049, li_10348, li_100000, rb_mI, nI_add, nI_mul, nI_leI, nI_ltI, nI_eq, rb_rdn, rb_wrn, rb_n0, rb_m0, rb_m1n, rb_nm1, rb_m1lt, rb_m1le, rb_0m1, rb_ltm1, rb_lem1, Nat.add_zero, Nat.zero_le, Nat.not_lt_zero, Nat.one_ne_zero, Option.bind_some, Option.bind_none, Option.some.injEq, if_true, if_false, ite_true, ite_false, Sum.elim_inl, Sum.elim_inr, hc]) (rb_bnd (nI 1) (rb_lps0 (fun j => (nI 1, nI j)) 0 _ rfl (fun j hj => absurd hj (by omega)) ?_ (by omega)) rfl)
    show (if nI n ≤ nI 0 then _ else _) = _
    split
    · rfl
    · exact if_pos (by decide)
  | succ l ih =>
    intro k x hl hx
    rw [show l + 1 + 1 + k = (l + 1 + k) + 1 by omega]
    unfold XX1_deepBelow
    refine rb_bnd (nI n) (by simp (disch := omega) only [↓reduceIte, Nat.reduceEqDiff, Nat.reduceLeDiff, eq_self, not_true_eq_false, not_false_eq_true, li_0, li_1, li_2, li_3, li_4, li_5, li_6, li_7, li_8, li_9, li_10, li_11, li_12, li_13, li_14, li_15, li_16, li_17, li_18, li_19, li_20, li_21, li_22, li_23, li_24, li_25, li_26, li_27, li_28, li_29, li_30, li_31, li_32, li_33, li_34, li_35, li_36, li_37, li_38, li_39, li_40, li_41, li_42, li_47, li_50, li_60, li_63, li_75, li_100, li_103, li_131, li_159, li_184, li_187, li_215, li_243, li_256, li_271, li_296, li_299, li_323, li_347, li_371, li_395, li_419, li_443, li_467, li_491, li_515, li_539, li_545, li_551, li_557, li_560, li_563, li_569, li_575, li_581, li_587, li_593, li_599, li_605, li_629, li_653, li_677, li_725, li_773, li_794, li_795, li_796, li_1000, li_1546, li_1592, li_6184, li_9552, li_10049, li_10348, li_100000, rb_mI, nI_add, nI_mul, nI_leI, nI_ltI, nI_eq, rb_rdn, rb_wrn, rb_n0, rb_m0, rb_m1n, rb_nm1, rb_m1lt, rb_m1le, rb_0m1, rb_ltm1, rb_lem1, Nat.add_zero, Nat.zero_le, Nat.not_lt_zero, Nat.one_ne_zero, Option.bind_some, Option.bind_none, Option.some.injEq, if_true, if_false, ite_true, ite_false, Sum.elim_inl, Sum.elim_inr, hc]) (rb_bnd (nI (rb_dp n S T K (l + 1) x)) (rb_lps0 (fun j => (nI (rb_mx (fun j => if S j = x ∧ K (T j) = true then 1 + rb_dp n S T K l (T j) else 0) j), nI j)) n _ rfl ?_ ?_ (by omega)) rfl)
    · intro j hj
      obtain ⟨s1, s2⟩ := hS j hj
      obtain ⟨t1, t2⟩ := hT j hj
      have k1 := hK (T j) t1
      have hm : rb_mx (fun j => if S j = x ∧ K (T j) = true then 1 + rb_dp n S T K l (T j) else 0) j ≤ 4 := rb_mx_le (by omega) (fun i _ => by
        have := rb_dp_le n S T K l (T i)
        show (if S i = x ∧ K (T i) = true then 1 + rb_dp n S T K l (T i) else 0) ≤ 4
        split <;> omega)
      have e0 : rb_mx (fun j => if S j = x ∧ K (T j) = true then 1 + rb_dp n S T K l (T j) else 0) (j + 1) = if rb_mx (fun j => if S j = x ∧ K (T j) = true then 1 + rb_dp n S T K l (T j) else 0) j < (if S j = x ∧ K (T j) = true then 1 + rb_dp n S T K l (T j) else 0) then (if S j = x ∧ K (T j) = true then 1 + rb_dp n S T K l (T j) else 0) else rb_mx (fun j => if S j = x ∧ K (T j) = true then 1 + rb_dp n S T K l (T j) else 0) j := rfl
      rw [e0]
      generalize rb_mx (fun j => if S j = x ∧ K (T j) = true then 1 + rb_dp n S T K l (T j) else 0) j = m at hm
      have e1 := ih k (T j) (by omega) t1
      have q1 : ¬ n ≤ j := by omega
      have q2 : ¬ 3 ≤ 3 - (l + 1) := by omega
      have q3 : 3 - (l + 1) + 1 = 3 - l := by omega
      have hb := rb_dp_le n S T K l (T j)
      generalize rb_dp n S T K l (T j) = b at e1 hb
      by_cases p1 : S j = x
      · by_cases p2 : K (T j) = true
        · have p3 := k1.mp p2
          have e2 : rb_max (nI m) (nI (1 + b)) = nI (if m < 1 + b then 1 + b else m) := rb_maxn (by omega) (by omega)
          have e3 : (if S j = x ∧ K (T j) = true then 1 + b else 0) = 1 + b := if_pos ⟨p1, p2⟩
          rw [e3]
          simp (disch := omega) only [↓reduceIte, Nat.reduceEqDiff, Nat.reduceLeDiff, eq_self, not_true_eq_false, not_false_eq_true, li_0, li_1, li_2, li_3, li_4, li_5, li_6, li_7, li_8, li_9, li_10, li_11, li_12, li_13, li_14, li_15, li_16, li_17, li_18, li_19, li_20, li_21, li_22, li_23, li_24, li_25, li_26, li_27, li_28, li_29, li_30, li_31, li_32, li_33, li_34, li_35, li_36, li_37, li_38, li_39, li_40, li_41, li_42, li_47, li_50, li_60, li_63, li_75, li_100, li_103, li_131, li_159, li_184, li_187, li_215, li_243, li_256, li_271, li_296, li_299, li_323, li_347, li_371, li_395, li_419, li_443, li_467, li_491, li_515, li_539, li_545, li_551, li_557, li_560, li_563, li_569, li_575, li_581, li_587, li_593, li_599, li_605, li_629, li_653, li_677, li_725, li_773, li_794, li_795, li_796, li_1000, li_1546, li_1592, li_6184, li_9552, li_10049, li_10348, li_100000, rb_mI, nI_add, nI_mul, nI_leI, nI_ltI, nI_eq, rb_rdn, rb_wrn, rb_n0, rb_m0, rb_m1n, rb_nm1, rb_m1lt, rb_m1le, rb_0m1, rb_ltm1, rb_lem1, Nat.add_zero, Nat.zero_le, Nat.not_lt_zero, Nat.one_ne_zero, Option.bind_some, Option.bind_none, Option.some.injEq, if_true, if_false, ite_true, ite_false, Sum.elim_inl, Sum.elim_inr, q1, q2, q3, s2, t2, p1, p3, e1, e2]
        · have p3 : c (19 + T j) ≠ nI 4 := fun h => p2 (k1.mpr h)
          have p4 : ¬ (S j = x ∧ K (T j) = true) := fun h => p2 h.2
          have e3 : (if S j = x ∧ K (T j) = true then 1 + b else 0) = 0 := if_neg p4
          have e4 : (if m < 0 then 0 else m) = m := if_neg (by omega)
          rw [e3, e4]
          simp (disch := omega) only [↓reduceIte, Nat.reduceEqDiff, Nat.reduceLeDiff, eq_self, not_true_eq_false, not_false_eq_true, li_0, li_1, li_2, li_3, li_4, li_5, li_6, li_7, li_8, li_9, li_10, li_11, li_12, li_13, li_14, li_15, li_16, li_17, li_18, li_19, li_20, li_21, li_22, li_23, li_24, li_25, li_26, li_27, li_28, li_29, li_30, li_31, li_32, li_33, li_34, li_35, li_36, li_37, li_38, li_39, li_40, li_41, li_42, li_47, li_50, li_60, li_63, li_75, li_100, li_103, li_131, li_159, li_184, li_187, li_215, li_243, li_256, li_271, li_296, li_299, li_323, li_347, li_371, li_395, li_419, li_443, li_467, li_491, li_515, li_539, li_545, li_551, li_557, li_560, li_563, li_569, li_575, li_581, li_587, li_593, li_599, li_605, li_629, li_653, li_677, li_725, li_773, li_794, li_795, li_796, li_1000, li_1546, li_1592, li_6184, li_9552, li_10049, li_10348, li_100000, rb_mI, nI_add, nI_mul, nI_leI, nI_ltI, nI_eq, rb_rdn, rb_wrn, rb_n0, rb_m0, rb_m1n, rb_nm1, rb_m1lt, rb_m1le, rb_0m1, rb_ltm1, rb_lem1, Nat.add_zero, Nat.zero_le, Nat.not_lt_zero, Nat.one_ne_zero, Option.bind_some, Option.bind_none, Option.some.injEq, if_true, if_false, ite_true, ite_false, Sum.elim_inl, Sum.elim_inr, q1, q2, s2, t2, p1, p3]
      · have p4 : ¬ (S j = x ∧ K (T j) = true) := fun h => p1 h.1
        have e3 : (if S j = x ∧ K (T j) = true then 1 + b else 0) = 0 := if_neg p4
        have e4 : (if m < 0 then 0 else m) = m := if_neg (by omega)
        rw [e3, e4]
        simp (disch := omega) only [↓reduceIte, Nat.reduceEqDiff, Nat.reduceLeDiff, eq_self, not_true_eq_false, not_false_eq_true, li_0, li_1, li_2, li_3, li_4, li_5, li_6, li_7, li_8, li_9, li_10, li_11, li_12, li_13, li_14, li_15, li_16, li_17, li_18, li_19, li_20, li_21, li_22, li_23, li_24, li_25, li_26, li_27, li_28, li_29, li_30, li_31, li_32, li_33, li_34, li_35, li_36, li_37, li_38, li_39, li_40, li_41, li_42, li_47, li_50, li_60, li_63, li_75, li_100, li_103, li_131, li_159, li_184, li_187, li_215, li_243, li_256, li_271, li_296, li_299, li_323, li_347, li_371, li_395, li_419, li_443, li_467, li_491, li_515, li_539, li_545, li_551, li_557, li_560, li_563, li_569, li_575, li_581, li_587, li_593, li_599, li_605, li_629, li_653, li_677, li_725, li_773, li_794, li_795, li_796, li_1000, li_1546, li_1592, li_6184, li_9552, li_10049, li_10348, li_100000, rb_mI, nI_add, nI_mul, nI_leI, nI_ltI, nI_eq, rb_rdn, rb_wrn, rb_n0, rb_m0, rb_m1n, rb_nm1, rb_m1lt, rb_m1le, rb_0m1, rb_ltm1, rb_lem1, Nat.add_zero, Nat.zero_le, Nat.not_lt_zero, Nat.one_ne_zero, Option.bind_some, Option.bind_none, Option.some.injEq, if_true, if_false, ite_true, ite_false, Sum.elim_inl, Sum.elim_inr, q1, q2, s2, t2, p1]
    · show (if nI n ≤ nI n then _ else _) = _
      exact if_pos (by simp)
set_option maxHeartbeats 4000000 in
theorem xn_above {c : rb_Row} {n : Nat} {S T : Nat → Nat} (hn : n ≤ 24) (hc : c 2 = nI n) (hS : ∀ i, i < n → S i < 28 ∧ c (299 + i) = nI (S i)) (hT : ∀ i, i < n → T i < 28 ∧ c (323 + i) = nI (T i)) : ∀ (l k x : Nat), l ≤ 2 → x < 28 → XX1_deepAbove (l + 1 + k) c (nI x) (nI (3 - l)) = some (nI (rb_dp n T S (fun _ => true) l x)) := by
  intro l
  induction l with
  | zero =>
    intro k x hl hx
    rw [show 0 + 1 + k = k + 1 by omega]
    unfold XX1_deepAbove
    refine rb_bnd (nI n) (by simp (disch := omega) only [↓reduceIte, Nat.reduceEqDiff, Nat.reduceLeDiff, eq_self, not_true_eq_false, not_false_eq_true, li_0, li_1, li_2, li_3, li_4, li_5, li_6, li_7, li_8, li_9, li_10, li_11, li_12, li_13, li_14, li_15, li_16, li_17, li_18, li_19, li_20, li_21, li_22, li_23, li_24, li_25, li_26, li_27, li_28, li_29, li_30, li_31, li_32, li_33, li_34, li_35, li_36, li_37, li_38, li_39, li_40, li_41, li_42, li_47, li_50, li_60, li_63, li_75, li_100, li_103, li_131, li_159, li_184, li_187, li_215, li_243, li_256, li_271, li_296, li_299, li_323, li_347, li_371, li_395, li_419, li_443, li_467, li_491, li_515, li_539, li_545, li_551, li_557, li_560, li_563, li_569, li_575, li_581, li_587, li_593, li_599, li_605, li_629, li_653, li_677, li_725, li_773, li_794, li_795, li_796, li_1000, li_1546, li_1592, li_6184, li_9552, li_10049, li_10348, li_100000, rb_mI, nI_add, nI_mul, nI_leI, nI_ltI, nI_eq, rb_rdn, rb_wrn, rb_n0, rb_m0, rb_m1n, rb_nm1, rb_m1lt, rb_m1le, rb_0m1, rb_ltm1, rb_lem1, Nat.add_zero, Nat.zero_le, Nat.not_lt_zero, Nat.one_ne_zero, Option.bind_some, Option.bind_none, Option.some.injEq, if_true, if_false, ite_true, ite_false, Sum.elim_inl, Sum.elim_inr, hc]) (rb_bnd (nI 1) (rb_lps0 (fun j => (nI 1, nI j)) 0 _ rfl (fun j hj => absurd hj (by omega)) ?_ (by omega)) rfl)
    show (if nI n ≤ nI 0 then _ else _) = _
    split
    · rfl
    · exact if_pos (by decide)
  | succ l ih =>
    intro k x hl hx
    rw [show l + 1 + 1 + k = (l + 1 + k) + 1 by omega]
    unfold XX1_deepAbove
    refine rb_bnd (nI n) (by simp (disch := omega) only [↓reduceIte, Nat.reduceEqDiff, Nat.reduceLeDiff, eq_self, not_true_eq_false, not_false_eq_true, li_0, li_1, li_2, li_3, li_4, li_5, li_6, li_7, li_8, li_9, li_10, li_11, li_12, li_13, li_14, li_15, li_16, li_17, li_18, li_19, li_20, li_21, li_22, li_23, li_24, li_25, li_26, li_27, li_28, li_29, li_30, li_31, li_32, li_33, li_34, li_35, li_36, li_37, li_38, li_39, li_40, li_41, li_42, li_47, li_50, li_60, li_63, li_75, li_100, li_103, li_131, li_159, li_184, li_187, li_215, li_243, li_256, li_271, li_296, li_299, li_323, li_347, li_371, li_395, li_419, li_443, li_467, li_491, li_515, li_539, li_545, li_551, li_557, li_560, li_563, li_569, li_575, li_581, li_587, li_593, li_599, li_605, li_629, li_653, li_677, li_725, li_773, li_794, li_795, li_796, li_1000, li_1546, li_1592, li_6184, li_9552, li_10049, li_10348, li_100000, rb_mI, nI_add, nI_mul, nI_leI, nI_ltI, nI_eq, rb_rdn, rb_wrn, rb_n0, rb_m0, rb_m1n, rb_nm1, rb_m1lt, rb_m1le, rb_0m1, rb_ltm1, rb_lem1, Nat.add_zero, Nat.zero_le, Nat.not_lt_zero, Nat.one_ne_zero, Option.bind_some, Option.bind_none, Option.some.injEq, if_true, if_false, ite_true, ite_false, Sum.elim_inl, Sum.elim_inr, hc]) (rb_bnd (nI (rb_dp n T S (fun _ => true) (l + 1) x)) (rb_lps0 (fun j => (nI (rb_mx (fun j => if T j = x ∧ true = true then 1 + rb_dp n T S (fun _ => true) l (S j) else 0) j), nI j)) n _ rfl ?_ ?_ (by omega)) rfl)
    · intro j hj
      obtain ⟨s1, s2⟩ := hS j hj
      obtain ⟨t1, t2⟩ := hT j hj
      have hm : rb_mx (fun j => if T j = x ∧ true = true then 1 + rb_dp n T S (fun _ => true) l (S j) else 0) j ≤ 4 := rb_mx_le (by omega) (fun i _ => by
        have := rb_dp_le n T S (fun _ => true) l (S i)
        show (if T i = x ∧ true = true then 1 + rb_dp n T S (fun _ => true) l (S i) else 0) ≤ 4
        split <;> omega)
      have e0 : rb_mx (fun j => if T j = x ∧ true = true then 1 + rb_dp n T S (fun _ => true) l (S j) else 0) (j + 1) = if rb_mx (fun j => if T j = x ∧ true = true then 1 + rb_dp n T S (fun _ => true) l (S j) else 0) j < (if T j = x ∧ true = true then 1 + rb_dp n T S (fun _ => true) l (S j) else 0) then (if T j = x ∧ true = true then 1 + rb_dp n T S (fun _ => true) l (S j) else 0) else rb_mx (fun j => if T j = x ∧ true = true then 1 + rb_dp n T S (fun _ => true) l (S j) else 0) j := rfl
      rw [e0]
      generalize rb_mx (fun j => if T j = x ∧ true = true then 1 + rb_dp n T S (fun _ => true) l (S j) else 0) j = m at hm
      have e1 := ih k (S j) (by omega) s1
      have q1 : ¬ n ≤ j := by omega
      have q2 : ¬ 3 ≤ 3 - (l + 1) := by omega
      have q3 : 3 - (l + 1) + 1 = 3 - l := by omega
      have hb := rb_dp_le n T S (fun _ => true) l (S j)
      generalize rb_dp n T S (fun _ => true) l (S j) = b at e1 hb
      by_cases p1 : T j = x
      · have e2 : rb_max (nI m) (nI (1 + b)) = nI (if m < 1 + b then 1 + b else m) := rb_maxn (by omega) (by omega)
        have e3 : (if T j = x ∧ true = true then 1 + b else 0) = 1 + b := if_pos ⟨p1, rfl⟩
        rw [e3]
        simp (disch := omega) only [↓reduceIte, Nat.reduceEqDiff, Nat.reduceLeDiff, eq_self, not_true_eq_false, not_false_eq_true, li_0, li_1, li_2, li_3, li_4, li_5, li_6, li_7, li_8, li_9, li_10, li_11, li_12, li_13, li_14, li_15, li_16, li_17, li_18, li_19, li_20, li_21, li_22, li_23, li_24, li_25, li_26, li_27, li_28, li_29, li_30, li_31, li_32, li_33, li_34, li_35, li_36, li_37, li_38, li_39, li_40, li_41, li_42, li_47, li_50, li_60, li_63, li_75, li_100, li_103, li_131, li_159, li_184, li_187, li_215, li_243, li_256, li_271, li_296, li_299, li_323, li_347, li_371, li_395, li_419, li_443, li_467, li_491, li_515, li_539, li_545, li_551, li_557, li_560, li_563, li_569, li_575, li_581, li_587, li_593, li_599, li_605, li_629, li_653, li_677, li_725, li_773, li_794, li_795, li_796, li_1000, li_1546, li_1592, li_6184, li_9552, li_10049, li_10348, li_100000, rb_mI, nI_add, nI_mul, nI_leI, nI_ltI, nI_eq, rb_rdn, rb_wrn, rb_n0, rb_m0, rb_m1n, rb_nm1, rb_m1lt, rb_m1le, rb_0m1, rb_ltm1, rb_lem1, Nat.add_zero, Nat.zero_le, Nat.not_lt_zero, Nat.one_ne_zero, Option.bind_some, Option.bind_none, Option.some.injEq, if_true, if_false, ite_true, ite_false, Sum.elim_inl, Sum.elim_inr, q1, q2, q3, s2, t2, p1, e1, e2]
      · have p4 : ¬ (T j = x ∧ true = true) := fun h => p1 h.1
        have e3 : (if T j = x ∧ true = true then 1 + b else 0) = 0 := if_neg p4
        have e4 : (if m < 0 then 0 else m) = m := if_neg (by omega)
        rw [e3, e4]
        simp (disch := omega) only [↓reduceIte, Nat.reduceEqDiff, Nat.reduceLeDiff, eq_self, not_true_eq_false, not_false_eq_true, li_0, li_1, li_2, li_3, li_4, li_5, li_6, li_7, li_8, li_9, li_10, li_11, li_12, li_13, li_14, li_15, li_16, li_17, li_18, li_19, li_20, li_21, li_22, li_23, li_24, li_25, li_26, li_27, li_28, li_29, li_30, li_31, li_32, li_33, li_34, li_35, li_36, li_37, li_38, li_39, li_40, li_41, li_42, li_47, li_50, li_60, li_63, li_75, li_100, li_103, li_131, li_159, li_184, li_187, li_215, li_243, li_256, li_271, li_296, li_299, li_323, li_347, li_371, li_395, li_419, li_443, li_467, li_491, li_515, li_539, li_545, li_551, li_557, li_560, li_563, li_569, li_575, li_581, li_587, li_593, li_599, li_605, li_629, li_653, li_677, li_725, li_773, li_794, li_795, li_796, li_1000, li_1546, li_1592, li_6184, li_9552, li_10049, li_10348, li_100000, rb_mI, nI_add, nI_mul, nI_leI, nI_ltI, nI_eq, rb_rdn, rb_wrn, rb_n0, rb_m0, rb_m1n, rb_nm1, rb_m1lt, rb_m1le, rb_0m1, rb_ltm1, rb_lem1, Nat.add_zero, Nat.zero_le, Nat.not_lt_zero, Nat.one_ne_zero, Option.bind_some, Option.bind_none, Option.some.injEq, if_true, if_false, ite_true, ite_false, Sum.elim_inl, Sum.elim_inr, q1, q2, s2, t2, p1]
    · show (if nI n ≤ nI n then _ else _) = _
      exact if_pos (by simp)
