theorem rb_how3 : ∀ w, w < 8 → ((nI w &&& nI 3 = nI 0) ↔ (nI w &&& nI 2 = nI 0 ∧ nI w &&& nI 1 = nI 0)) := by decide
theorem xn_takeOff (c : rb_Row) {i : Nat} (hi : i < 24) : XX1_takeOffList c (nI i) = some (upd (upd c (443 + i) mI) (515 + i) (nI 0)) := by
  unfold XX1_takeOffList
  simp (disch := omega) only [li_0, li_1, li_2, li_3, li_4, li_5, li_6, li_7, li_8, li_9, li_10, li_11, li_12, li_13, li_14, li_15, li_16, li_17, li_18, li_19, li_20, li_21, li_22, li_23, li_24, li_25, li_26, li_27, li_28, li_29, li_30, li_31, li_32, li_33, li_34, li_35, li_36, li_37, li_38, li_39, li_40, li_41, li_42, li_47, li_50, li_60, li_63, li_75, li_100, li_103, li_131, li_159, li_184, li_187, li_215, li_243, li_256, li_271, li_296, li_299, li_323, li_347, li_371, li_395, li_419, li_443, li_467, li_491, li_515, li_539, li_545, li_551, li_557, li_560, li_563, li_569, li_575, li_581, li_587, li_593, li_599, li_605, li_629, li_653, li_677, li_725, li_773, li_794, li_795, li_796, li_1000, li_1546, li_1592, li_6184, li_9552, li_10049, li_10348, li_100000, rb_mI, nI_add, nI_mul, nI_leI, nI_ltI, nI_eq, rb_rdn, rb_wrn, rb_n0, rb_m0, rb_m1n, rb_nm1, rb_m1lt, rb_m1le, rb_0m1, rb_ltm1, rb_lem1, Nat.add_zero, Option.bind_some, Option.bind_none, Option.some.injEq, if_true, if_false, ite_true, ite_false, Sum.elim_inl, Sum.elim_inr]
theorem xn_bits (c : rb_Row) {i : Nat} (hi : i < 24) : XX1_bitsOf c (nI i) = some (rb_bt c i) := by
  unfold XX1_bitsOf rb_bt
  simp (disch := omega) only [li_0, li_1, li_2, li_3, li_4, li_5, li_6, li_7, li_8, li_9, li_10, li_11, li_12, li_13, li_14, li_15, li_16, li_17, li_18, li_19, li_20, li_21, li_22, li_23, li_24, li_25, li_26, li_27, li_28, li_29, li_30, li_31, li_32, li_33, li_34, li_35, li_36, li_37, li_38, li_39, li_40, li_41, li_42, li_47, li_50, li_60, li_63, li_75, li_100, li_103, li_131, li_159, li_184, li_187, li_215, li_243, li_256, li_271, li_296, li_299, li_323, li_347, li_371, li_395, li_419, li_443, li_467, li_491, li_515, li_539, li_545, li_551, li_557, li_560, li_563, li_569, li_575, li_581, li_587, li_593, li_599, li_605, li_629, li_653, li_677, li_725, li_773, li_794, li_795, li_796, li_1000, li_1546, li_1592, li_6184, li_9552, li_10049, li_10348, li_100000, rb_mI, nI_add, nI_mul, nI_leI, nI_ltI, nI_eq, rb_rdn, rb_wrn, rb_n0, rb_m0, rb_m1n, rb_nm1, rb_m1lt, rb_m1le, rb_0m1, rb_ltm1, rb_lem1, Nat.add_zero, Option.bind_some, Option.bind_none, Option.some.injEq, if_true, if_false, ite_true, ite_false, Sum.elim_inl, Sum.elim_inr]
theorem xn_countLeft (c : rb_Row) (x n : Nat) (hc : c 2 = nI n) (hn : n ≤ 24) : XX1_countLeft c (nI x) = some (rb_ic (fun i => 515 + i) (fun i => decide (c (299 + i) = nI x) && !decide (c (443 + i) < nI 0)) c n) := by
  unfold XX1_countLeft
  simp (disch := omega) only [li_0, li_1, li_2, li_3, li_4, li_5, li_6, li_7, li_8, li_9, li_10, li_11, li_12, li_13, li_14, li_15, li_16, li_17, li_18, li_19, li_20, li_21, li_22, li_23, li_24, li_25, li_26, li_27, li_28, li_29, li_30, li_31, li_32, li_33, li_34, li_35, li_36, li_37, li_38, li_39, li_40, li_41, li_42, li_47, li_50, li_60, li_63, li_75, li_100, li_103, li_131, li_159, li_184, li_187, li_215, li_243, li_256, li_271, li_296, li_299, li_323, li_347, li_371, li_395, li_419, li_443, li_467, li_491, li_515, li_539, li_545, li_551, li_557, li_560, li_563, li_569, li_575, li_581, li_587, li_593, li_599, li_605, li_629, li_653, li_677, li_725, li_773, li_794, li_795, li_796, li_1000, li_1546, li_1592, li_6184, li_9552, li_10049, li_10348, li_100000, rb_mI, nI_add, nI_mul, nI_leI, nI_ltI, nI_eq, rb_rdn, rb_wrn, rb_n0, rb_m0, rb_m1n, rb_nm1, rb_m1lt, rb_m1le, rb_0m1, rb_ltm1, rb_lem1, Nat.add_zero, Option.bind_some, Option.bind_none, Option.some.injEq, if_true, if_false, ite_true, ite_false, Sum.elim_inl, Sum.elim_inr, hc]
  refine rb_bnd _ (rb_lps0 (fun j => (nI j, rb_ic (fun i => 515 + i) (fun i => decide (c (299 + i) = nI x) && !decide (c (443 + i) < nI 0)) c j)) n _ rfl ?_ ?_ (by omega)) rfl
  · intro j hj
    have e1 : rb_ic (fun i => 515 + i) (fun i => decide (c (299 + i) = nI x) && !decide (c (443 + i) < nI 0)) c j (299 + j) = c (299 + j) := rb_ic_ne _ _ (fun i hi => by omega)
    have e2 : rb_ic (fun i => 515 + i) (fun i => decide (c (299 + i) = nI x) && !decide (c (443 + i) < nI 0)) c j (443 + j) = c (443 + j) := rb_ic_ne _ _ (fun i hi => by omega)
    simp (disch := omega) only [li_0, li_1, li_2, li_3, li_4, li_5, li_6, li_7, li_8, li_9, li_10, li_11, li_12, li_13, li_14, li_15, li_16, li_17, li_18, li_19, li_20, li_21, li_22, li_23, li_24, li_25, li_26, li_27, li_28, li_29, li_30, li_31, li_32, li_33, li_34, li_35, li_36, li_37, li_38, li_39, li_40, li_41, li_42, li_47, li_50, li_60, li_63, li_75, li_100, li_103, li_131, li_159, li_184, li_187, li_215, li_243, li_256, li_271, li_296, li_299, li_323, li_347, li_371, li_395, li_419, li_443, li_467, li_491, li_515, li_539, li_545, li_551, li_557, li_560, li_563, li_569, li_575, li_581, li_587, li_593, li_599, li_605, li_629, li_653, li_677, li_725, li_773, li_794, li_795, li_796, li_1000, li_1546, li_1592, li_6184, li_9552, li_10049, li_10348, li_100000, rb_mI, nI_add, nI_mul, nI_leI, nI_ltI, nI_eq, rb_rdn, rb_wrn, rb_n0, rb_m0, rb_m1n, rb_nm1, rb_m1lt, rb_m1le, rb_0m1, rb_ltm1, rb_lem1, Nat.add_zero, Option.bind_some, Option.bind_none, Option.some.injEq, if_true, if_false, ite_true, ite_false, Sum.elim_inl, Sum.elim_inr, e1, e2]
    rw [if_neg (by omega)]
    by_cases h1 : c (299 + j) = nI x <;> by_cases h2 : c (443 + j) < nI 0 <;> simp [h1, h2, rb_ic]
  · simp (disch := omega) only [li_0, li_1, li_2, li_3, li_4, li_5, li_6, li_7, li_8, li_9, li_10, li_11, li_12, li_13, li_14, li_15, li_16, li_17, li_18, li_19, li_20, li_21, li_22, li_23, li_24, li_25, li_26, li_27, li_28, li_29, li_30, li_31, li_32, li_33, li_34, li_35, li_36, li_37, li_38, li_39, li_40, li_41, li_42, li_47, li_50, li_60, li_63, li_75, li_100, li_103, li_131, li_159, li_184, li_187, li_215, li_243, li_256, li_271, li_296, li_299, li_323, li_347, li_371, li_395, li_419, li_443, li_467, li_491, li_515, li_539, li_545, li_551, li_557, li_560, li_563, li_569, li_575, li_581, li_587, li_593, li_599, li_605, li_629, li_653, li_677, li_725, li_773, li_794, li_795, li_796, li_1000, li_1546, li_1592, li_6184, li_9552, li_10049, li_10348, li_100000, rb_mI, nI_add, nI_mul, nI_leI, nI_ltI, nI_eq, rb_rdn, rb_wrn, rb_n0, rb_m0, rb_m1n, rb_nm1, rb_m1lt, rb_m1le, rb_0m1, rb_ltm1, rb_lem1, Nat.add_zero, Option.bind_some, Option.bind_none, Option.some.injEq, if_true, if_false, ite_true, ite_false, Sum.elim_inl, Sum.elim_inr]
    rw [if_pos (by omega)]
set_option maxHeartbeats 4000000 in
theorem rp_left {z W q n : Nat} {π : Nat → Nat} {s s' : Nat} {c a : rb_Row} (h : rR z W q n π s s' c a) (hs : s' < 2000000000) {x : Nat} (hx : x < 28) : rR z W q n π s s' (rb_ic (fun i => 515 + i) (fun i => decide (c (299 + i) = nI x) && !decide (c (443 + i) < nI 0)) c n) (rb_ic (fun u => 296 + 11 * u + 10) (fun u => decide (a (296 + 11 * u) = nI x) && !decide (a (296 + 11 * u + 7) ≤ nI 0)) a 24) ∧ (∀ k, (k < 515 ∨ 539 ≤ k) → rb_ic (fun i => 515 + i) (fun i => decide (c (299 + i) = nI x) && !decide (c (443 + i) < nI 0)) c n k = c k) ∧ rG a (rb_ic (fun u => 296 + 11 * u + 10) (fun u => decide (a (296 + 11 * u) = nI x) && !decide (a (296 + 11 * u + 7) ≤ nI 0)) a 24) := by
  have hR := h
  obtain ⟨⟨q1, q2, q3, q4, q5, q6, q7, q8⟩, hH, hI, hL, hT⟩ := h
  have hc : ∀ k, (k < 515 ∨ 539 ≤ k) → rb_ic (fun i => 515 + i) (fun i => decide (c (299 + i) = nI x) && !decide (c (443 + i) < nI 0)) c n k = c k := fun k hk => rb_ic_ne _ _ (fun i hi => by omega)
  have hc' : ∀ i, i < n → rb_ic (fun i => 515 + i) (fun i => decide (c (299 + i) = nI x) && !decide (c (443 + i) < nI 0)) c n (515 + i) = bif (decide (c (299 + i) = nI x) && !decide (c (443 + i) < nI 0)) then c (515 + i) + nI 1 else c (515 + i) := fun i hi => rb_ic_at (f := fun i => 515 + i) (fun i j e => by have : 515 + i = 515 + j := e; omega) n i hi
  have ha : ∀ k, (∀ u, u < 24 → k ≠ 296 + 11 * u + 10) → rb_ic (fun u => 296 + 11 * u + 10) (fun u => decide (a (296 + 11 * u) = nI x) && !decide (a (296 + 11 * u + 7) ≤ nI 0)) a 24 k = a k := fun k hk => rb_ic_ne _ _ hk
  have ha' : ∀ u, u < 24 → rb_ic (fun u => 296 + 11 * u + 10) (fun u => decide (a (296 + 11 * u) = nI x) && !decide (a (296 + 11 * u + 7) ≤ nI 0)) a 24 (296 + 11 * u + 10) = bif (decide (a (296 + 11 * u) = nI x) && !decide (a (296 + 11 * u + 7) ≤ nI 0)) then a (296 + 11 * u + 10) + nI 1 else a (296 + 11 * u + 10) := fun u hu => rb_ic_at (f := fun u => 296 + 11 * u + 10) (fun i j e => by have : 296 + 11 * i + 10 = 296 + 11 * j + 10 := e; omega) 24 u hu
  generalize rb_ic (fun i => 515 + i) (fun i => decide (c (299 + i) = nI x) && !decide (c (443 + i) < nI 0)) c n = c' at hc hc' ⊢
  generalize rb_ic (fun u => 296 + 11 * u + 10) (fun u => decide (a (296 + 11 * u) = nI x) && !decide (a (296 + 11 * u + 7) ≤ nI 0)) a 24 = a' at ha ha' ⊢
  have hF : rF c c' := fun k hk => hc k (by omega)
  have hG : rG a a' := ⟨fun k hk => ha k (fun u hu => by omega), ha _ (fun u hu => by omega), fun u f hu hf => ha _ (fun v hv => by omega), fun u f hu hf => ha _ (fun v hv => by omega)⟩
  have ha2 : ∀ u f, u < 24 → f < 10 → a' (296 + 11 * u + f) = a (296 + 11 * u + f) := fun u f hu hf => ha _ (fun v hv => by omega)
  refine ⟨rR_eng hR hF hG (Nat.le_refl _) (Nat.le_refl _) (by rw [hc 1 (by omega)]; exact q3) (by rw [ha 795 (fun u hu => by omega)]; exact q4) q5 q6 ?_ ?_, hc, hG⟩
  · refine ⟨fun j hj => ?_, fun j hj => ?_, fun j k hj hk => ?_⟩
    · have := (hI.1 j hj).1
      simp (disch := omega) only [hc, ha2]
      exact hL.1 j hj
    · have := (hI.1 j hj).1
      have e := rL_lst hL hs q5 hj
      rw [hc' j hj, ha' _ this]
      simp (disch := omega) only [hc, ha2]
      rw [(hI.1 j hj).2.1]
      simp only [e]
      rcases hL.2.1 j hj with ⟨p1, p2, p3⟩ | ⟨u, v, p1, p2, p3, p4, p5, p6⟩
      · refine Or.inl ⟨p1, p2, ?_⟩
        rw [p1, p3]
        simp (disch := omega) only [rb_mI, nI_add, nI_mul, nI_leI, nI_ltI, nI_eq, rb_rdn, rb_wrn, rb_n0, rb_m0, rb_m1n, rb_nm1, rb_m1lt, rb_m1le, rb_0m1, rb_ltm1, rb_lem1]
        simp
      · refine Or.inr ⟨u, v, p1, p2, p3, p4, p5, ?_⟩
        rw [p6]
    · have := (hI.1 j hj).1
      have := (hI.1 k hk).1
      simp (disch := omega) only [hc, ha2]
      exact hL.2.2 j k hj hk
  · exact rT_frame hT (Nat.le_refl _) (Nat.le_refl _) (Nat.le_refl _) (fun k hk hk' => hc k (by omega)) (fun x hx => hc _ (by omega)) (fun k hk hk' => ha k (fun u hu => by omega))
/-- what holds while a task takes from the list of a set -/
def rb_GI (z W q n : Nat) (π : Nat → Nat) (s s' x up : Nat) (c0 a0 mf0 : rb_Row) (nn kept : Nat) (c g a ag mf : rb_Row) : Prop :=
  nn ≤ up ∧ kept ≤ nn ∧ rR z W q n π s s' c a ∧ rF c0 c ∧ rG a0 a ∧ mf 3 = nI kept ∧ (∀ k, k ≠ 3 → mf k = mf0 k) ∧
  (∃ L : Nat → Nat, (∀ k, k < kept → L k < n ∧ g k = nI (L k) ∧ ag k = nI (π (L k)) ∧ c (443 + L k) = mI) ∧ ∀ k l, k < l → l < kept → L k ≠ L l) ∧
  (∀ i, i < n → c0 (299 + i) ≠ nI x → c (443 + i) = c0 (443 + i) ∧ c (419 + i) = c0 (419 + i)) ∧
  (∀ k, 539 ≤ k → k < 677 → c k = c0 k)
def rb_ls (c : rb_Row) (x i : Nat) : Bool := decide (c (299 + i) = nI x) && !decide (c (443 + i) = mI)
theorem rb_GI_up {z W q n : Nat} {π : Nat → Nat} {s s' x up : Nat} {c0 a0 mf0 : rb_Row} {nn kept : Nat} {c g a ag mf c' a' : rb_Row} (h : rb_GI z W q n π s s' x up c0 a0 mf0 nn kept c g a ag mf) (hn : n ≤ 24) (hR : rR z W q n π s s' c' a') (hF : rF c c') (hG : rG a a') {i : Nat} (hi : i < n) (hx : c (299 + i) = nI x) (h443 : ∀ k, k < 24 → k ≠ i → c' (443 + k) = c (443 + k)) (h443' : c' (443 + i) = mI) (h419 : ∀ k, k < 24 → k ≠ i → c' (419 + k) = c (419 + k)) (hT : ∀ k, 539 ≤ k → k < 677 → c' k = c k) : rb_GI z W q n π s s' x up c0 a0 mf0 nn kept c' g a' ag mf := by
  obtain ⟨p1, p2, p3, p4, p5, p6, p7, ⟨L, p8, p9⟩, p10, p11⟩ := h
  refine ⟨p1, p2, hR, rF_trans p4 hF, rG_trans p5 hG, p6, p7, ⟨L, fun k hk => ?_, p9⟩, fun j hj hne => ?_, fun k hk hk' => (hT k hk hk').trans (p11 k hk hk')⟩
  · obtain ⟨g1, g2, g3, g4⟩ := p8 k hk
    refine ⟨g1, g2, g3, ?_⟩
    by_cases e : L k = i
    · rw [e]; exact h443'
    · rw [h443 _ (by omega) e]; exact g4
  · have : j ≠ i := fun e => hne (by rw [e, ← p4 (299 + i) (by omega)]; exact hx)
    rw [h443 j (by omega) this, h419 j (by omega) this]
    exact p10 j hj hne
