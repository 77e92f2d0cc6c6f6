theorem xn_bdK0 {x k : Nat} (hk : k < 5) (c g f : rb_Row) : rb_lp (bdK (nI x) (nI k)) 100000 (nI 0, c, g, f) = some (c, g, f) := by
  refine rb_rne rb_rn0 ?_ (by omega)
  unfold bdK
  have h5 : ¬ k = 5 := by omega
  simp (disch := omega) only [↓reduceIte, Nat.reduceEqDiff, Nat.reduceLeDiff, eq_self, not_true_eq_false, not_false_eq_true, li_0, li_1, li_2, li_3, li_4, li_5, li_6, li_7, li_8, li_9, li_10, li_11, li_12, li_13, li_14, li_15, li_16, li_17, li_18, li_19, li_20, li_21, li_22, li_23, li_24, li_25, li_26, li_27, li_28, li_29, li_30, li_31, li_32, li_33, li_34, li_35, li_36, li_37, li_38, li_39, li_40, li_41, li_42, li_47, li_50, li_60, li_63, li_75, li_100, li_103, li_131, li_159, li_184, li_187, li_215, li_243, li_256, li_271, li_296, li_299, li_323, li_347, li_371, li_395, li_419, li_443, li_467, li_491, li_515, li_539, li_545, li_551, li_557, li_560, li_563, li_569, li_575, li_581, li_587, li_593, li_599, li_605, li_629, li_653, li_677, li_725, li_773, li_794, li_795, li_796, li_1000, li_1546, li_1592, li_6184, li_9552, li_10049, li_10348, li_100000, rb_mI, nI_add, nI_mul, nI_leI, nI_ltI, nI_eq, rb_rdn, rb_wrn, rb_n0, rb_m0, rb_m1n, rb_nm1, rb_m1lt, rb_m1le, rb_0m1, rb_ltm1, rb_lem1, Nat.add_zero, Nat.zero_le, Nat.not_lt_zero, Nat.one_ne_zero, Option.bind_some, Option.bind_none, Option.some.injEq, if_true, if_false, ite_true, ite_false, Sum.elim_inl, Sum.elim_inr, h5]
theorem rp_lowest {c : rb_Row} {x : Nat} (hx : x < 28) : XX5_lowestHandle c (nI x) = some (rb_oi (rb_fd (fun i => decide (c (3 + i) = nI x)) 16)) := by
  unfold XX5_lowestHandle
  have e := xn_firstNaming c (nI x)
  simp (disch := omega) only [↓reduceIte, Nat.reduceEqDiff, Nat.reduceLeDiff, eq_self, not_true_eq_false, not_false_eq_true, li_0, li_1, li_2, li_3, li_4, li_5, li_6, li_7, li_8, li_9, li_10, li_11, li_12, li_13, li_14, li_15, li_16, li_17, li_18, li_19, li_20, li_21, li_22, li_23, li_24, li_25, li_26, li_27, li_28, li_29, li_30, li_31, li_32, li_33, li_34, li_35, li_36, li_37, li_38, li_39, li_40, li_41, li_42, li_47, li_50, li_60, li_63, li_75, li_100, li_103, li_131, li_159, li_184, li_187, li_215, li_243, li_256, li_271, li_296, li_299, li_323, li_347, li_371, li_395, li_419, li_443, li_467, li_491, li_515, li_539, li_545, li_551, li_557, li_560, li_563, li_569, li_575, li_581, li_587, li_593, li_599, li_605, li_629, li_653, li_677, li_725, li_773, li_794, li_795, li_796, li_1000, li_1546, li_1592, li_6184, li_9552, li_10049, li_10348, li_100000, rb_mI, nI_add, nI_mul, nI_leI, nI_ltI, nI_eq, rb_rdn, rb_wrn, rb_n0, rb_m0, rb_m1n, rb_nm1, rb_m1lt, rb_m1le, rb_0m1, rb_ltm1, rb_lem1, Nat.add_zero, Nat.zero_le, Nat.not_lt_zero, Nat.one_ne_zero, Option.bind_some, Option.bind_none, Option.some.injEq, if_true, if_false, ite_true, ite_false, Sum.elim_inl, Sum.elim_inr, e]
/-- what comes behind the interests and the sleepers -/
def rb_tail (x k : Nat) (c g f : rb_Row) : Option (rb_Row × rb_Row × rb_Row) := (rb_lp (bdK (nI x) (nI k)) 100000 (nI 0, c, g, f)).bind fun q18 => (XX5_remove q18.1 (nI x)).bind fun t36 => ((if nI k = 1 then some 4 else some 8) : Option (Int32)).bind fun j38 => XX0_sendNotice 6 t36 q18.2.1 q18.2.2 (c (131 + x)) j38 0
set_option maxHeartbeats 8000000 in
theorem rp_tail {W q n : Nat} {π : Nat → Nat} {s s' : Nat} {c a : rb_Row} {x k B : Nat} (h : rR x W q n π s s' c a) (hW : W ≤ B) (hB : s + 8 * rb_asl c ≤ B) (hb : B + q + 30000 < 2000000000) (hx : x < 28) (hk : c (19 + x) = nI k) (hk6 : k < 6) (hw : c (243 + x) = mI) (hsl : ∀ t, t < 6 → c (539 + t) ≠ nI x) (g f rd ag mf na nb nl sv : rb_Row) : ∃ c' g' f' a' rd' ag' mf' na' nb' nl' sv', rb_tail x k c g f = some (c', g', f') ∧ ((((if nI k = 5 then (XX7_turnAway a rd ag mf na nb nl sv (nI x)).bind fun t49 => some (t49.1, t49.2.1, t49.2.2.1, t49.2.2.2.1, t49.2.2.2.2.1, t49.2.2.2.2.2.1, t49.2.2.2.2.2.2.1, t49.2.2.2.2.2.2.2) else some (a, rd, ag, mf, na, nb, nl, sv)) : Option (rb_Row × rb_Row × rb_Row × rb_Row × rb_Row × rb_Row × rb_Row × rb_Row)).bind fun j45 => (XX7_isEnd j45.1 (nI x)).bind fun t51 => if t51 = 0 then (XX7_objectAt (nI x) 0).bind fun t54 => (rb_wr j45.1 796 t54 (-1)).bind fun a56 => some (a56, j45.2.1, j45.2.2.1, j45.2.2.2.1, j45.2.2.2.2.1, j45.2.2.2.2.2.1, j45.2.2.2.2.2.2.1, j45.2.2.2.2.2.2.2) else (XX7_endGone j45.1 j45.2.1 j45.2.2.1 j45.2.2.2.1 j45.2.2.2.2.1 j45.2.2.2.2.2.1 j45.2.2.2.2.2.2.1 j45.2.2.2.2.2.2.2 (nI x)).bind fun t58 => some (t58.1, t58.2.1, t58.2.2.1, t58.2.2.2.1, t58.2.2.2.2.1, t58.2.2.2.2.2.1, t58.2.2.2.2.2.2.1, t58.2.2.2.2.2.2.2)) = some (a', rd', ag', mf', na', nb', nl', sv')) ∧ rb_RB (B + 2184) q c' a' ∧ (∀ k, k ≠ 3 → k ≠ 11 → mf' k = mf k) ∧ (∀ k, 593 ≤ k → k < 677 → c' k = c k) ∧ rb_G c c' := by
  have hH := h.2.1
  have hn : n ≤ 24 := h.1.2.2.2.2.2.2.2
  have hun : ∀ j, j < 16 → c (3 + j) ≠ nI x := fun j hj => (hH.1 j hj).2.1
  have hka : a (16 + 6 * x) = nI k := by rw [(hH.2.1 x hx).1]; exact hk
  have hend : ∀ (a : rb_Row) k, k < 6 → a (16 + 6 * x) = nI k → XX7_isEnd a (nI x) = some (if k < 2 then nI 1 else nI 0) := by
    intro a k hk6 hka
    unfold XX7_isEnd
    have : k = 0 ∨ k = 1 ∨ k = 2 ∨ k = 3 ∨ k = 4 ∨ k = 5 := by omega
    rcases this with e | e | e | e | e | e <;> subst e <;> simp (disch := omega) only [↓reduceIte, Nat.reduceEqDiff, Nat.reduceLeDiff, eq_self, not_true_eq_false, not_false_eq_true, li_0, li_1, li_2, li_3, li_4, li_5, li_6, li_7, li_8, li_9, li_10, li_11, li_12, li_13, li_14, li_15, li_16, li_17, li_18, li_19, li_20, li_21, li_22, li_23, li_24, li_25, li_26, li_27, li_28, li_29, li_30, li_31, li_32, li_33, li_34, li_35, li_36, li_37, li_38, li_39, li_40, li_41, li_42, li_47, li_50, li_60, li_63, li_75, li_100, li_103, li_131, li_159, li_184, li_187, li_215, li_243, li_256, li_271, li_296, li_299, li_323, li_347, li_371, li_395, li_419, li_443, li_467, li_491, li_515, li_539, li_545, li_551, li_557, li_560, li_563, li_569, li_575, li_581, li_587, li_593, li_599, li_605, li_629, li_653, li_677, li_725, li_773, li_794, li_795, li_796, li_1000, li_1546, li_1592, li_6184, li_9552, li_10049, li_10348, li_100000, rb_mI, nI_add, nI_mul, nI_leI, nI_ltI, nI_eq, rb_rdn, rb_wrn, rb_n0, rb_m0, rb_m1n, rb_nm1, rb_m1lt, rb_m1le, rb_0m1, rb_ltm1, rb_lem1, Nat.add_zero, Nat.zero_le, Nat.not_lt_zero, Nat.one_ne_zero, Option.bind_some, Option.bind_none, Option.some.injEq, if_true, if_false, ite_true, ite_false, Sum.elim_inl, Sum.elim_inr, xn_ofObject, xn_ofPipe, xn_ofInterest, xn_ofTask, xn_kindOf, xn_bitsOf7, xn_isInterest, xn_isAsleep, xn_objectAt, xn_pipeAt, xn_interestAt, xn_taskAt, rb_nz0, rb_nz1, rb_n10, Nat.one_ne_zero, eq_self, hka] <;> rfl
  have hpm : 2 ≤ k → c (131 + x) = mI := by
    intro hk2
    rcases (hH.2.1 x hx).2 with g | ⟨e0, p0, r, b, g0, g1, _⟩ | ⟨b, _, _, _, _, g, _⟩ | ⟨b, _, _, _, _, g, _⟩ | ⟨_, g⟩ | ⟨k, r, _, g, _⟩
    · rw [g.1] at hk; exact absurd hk.symm (rb_nmm (by omega))
    · rw [hk] at g1; have := (nI_eq (by omega) (by omega)).mp g1; omega
    · exact g
    · exact g
    · exact g
    · exact g
  have hq6 : XX7_objectAt (nI x) 0 = some (nI (16 + 6 * x)) := xn_objectAt x 0
  by_cases hk2 : k < 2
  · -- an end
    obtain ⟨v, c1, c', g', f', a', rd', ag', mf', na', nb', nl', sv', t, t', m1, m2, m3, m4, m5, m6, m7, m8, m9, m10, m11, m12, m13⟩ := rp_end (z' := 28) h (by omega) (by omega) hx hk2 hk hun (Or.inl hw) hx (Or.inr ⟨rfl, rfl⟩) g f rd ag mf na nb nl sv
    have hv : v ≤ 2184 := by
      rcases m13 with ⟨_, q⟩ | ⟨w, hw', q1, q2⟩
      · omega
      · have q3 := (m11 w hw' q1).2
        have q4 := rb_cf_A (n := n) hw' (show c (19 + w) ≠ nI 4 from rb_kne q3 (by omega) (by omega) (by omega))
        have q5 := rb_wt3 (rb_cf c n w 0) (by omega) (rb_AA c n) (by omega) (by omega)
        omega
    refine ⟨c', g', f', a', rd', ag', mf', na', nb', nl', sv', ?_, ?_, ⟨n, π, t, t', rR_mono m4 (by omega), by omega⟩, m7, fun k h1 h2 => (m8 k (by omega)).trans (m12 k (by omega) (by omega) (fun w hw _ => by omega)), rb_G_trans (rb_G_same (fun t ht => m12 _ (by omega) (by omega) (fun w hw _ => by omega))) m6.2⟩
    · have hbit : ((if nI k = 1 then some 4 else some 8) : Option Int32) = some (if k = 1 then nI 4 else nI 8) := by
        have : k = 0 ∨ k = 1 := by omega
        rcases this with q | q <;> subst q
        · rw [if_neg (by decide)]; rfl
        · rw [if_pos (by decide)]; rfl
      exact rb_bnd _ (xn_bdK0 (by omega) c g f) (rb_bnd _ m1 (rb_bnd _ hbit m2))
    · have he := hend a k hk6 hka
      rw [if_pos hk2] at he
      have h5 : ¬ nI k = 5 := rb_kne (k := 5) rfl (by omega) (by omega) (by omega)
      exact rb_bnd _ (if_neg h5) (rb_bnd _ he ((if_neg (show ¬ nI 1 = 0 by decide)).trans (rb_bnd _ m3 rfl)))
  · have hbit : ((if nI k = 1 then some 4 else some 8) : Option Int32) = some 8 := by
      rw [if_neg]
      exact rb_kne (k := 1) rfl (by omega) (by omega) (by omega)
    by_cases h5 : k = 5
    · subst h5
      have hA : rb_AA c n ≤ n := rb_cn_le _ _
      have hDA := rb_D2_A c n
      have hwt := rb_wt3 (rb_D2 c n) (by omega) (rb_AA c n) (by omega) (by omega)
      obtain ⟨o, o', e1, e2, c', g', f', a', rd', ag', mf', na', nb', nl', sv', eo, eo', hTA, hno⟩ := rp_turn (K := B + 2184) (A := rb_AA c n) (mf0 := mf) (cz := c) (by omega) hx ⟨W, s, s', h, by omega, by omega, rfl, hk, fun _ _ _ => rfl, fun _ _ _ => rfl, rb_G_same (fun _ _ => rfl)⟩ g f rd ag na nb nl sv
      subst eo eo'
      obtain ⟨W1, t, t', k1, k2, k3, k4, k5, k6, k7⟩ := hTA
      have hsl1 : ∀ u, u < 6 → c' (539 + u) ≠ nI x := by
        intro u hu q
        rcases k1.2.2.2.2.2.2.1 u hu with q1 | ⟨⟨w, q1, q2, q3⟩, _⟩
        · rw [q] at q1; exact rb_nmm (k := x) (by omega) q1
        · rw [q] at q2
          have := (nI_eq (by omega) (by omega)).mp q2
          subst this
          rw [k5] at q3; have := (nI_eq (by omega) (by omega)).mp q3; omega
      have hR2 := rp_goneO k1 hx k5 (by omega) (by omega) hno hsl1
      have hpm' : c' (131 + x) = mI := by
        rcases (k1.2.1.2.1 x hx).2 with g | ⟨e0, p0, r, b, g0, g1, _⟩ | ⟨b, _, g, _⟩ | ⟨b, _, g, _⟩ | ⟨g, _⟩ | ⟨k, r, _, g, _⟩
        · rw [g.1] at k5; exact absurd k5.symm (rb_nmm (by omega))
        · rw [k5] at g1; have := (nI_eq (by omega) (by omega)).mp g1; omega
        · rw [k5] at g; have := (nI_eq (by omega) (by omega)).mp g; omega
        · rw [k5] at g; have := (nI_eq (by omega) (by omega)).mp g; omega
        · rw [k5] at g; have := (nI_eq (by omega) (by omega)).mp g; omega
        · exact g
      have hrem : XX5_remove c' (nI x) = some (upd (upd c' (19 + x) mI) (243 + x) mI) := by
        unfold XX5_remove
        simp (disch := omega) only [↓reduceIte, Nat.reduceEqDiff, Nat.reduceLeDiff, eq_self, not_true_eq_false, not_false_eq_true, li_0, li_1, li_2, li_3, li_4, li_5, li_6, li_7, li_8, li_9, li_10, li_11, li_12, li_13, li_14, li_15, li_16, li_17, li_18, li_19, li_20, li_21, li_22, li_23, li_24, li_25, li_26, li_27, li_28, li_29, li_30, li_31, li_32, li_33, li_34, li_35, li_36, li_37, li_38, li_39, li_40, li_41, li_42, li_47, li_50, li_60, li_63, li_75, li_100, li_103, li_131, li_159, li_184, li_187, li_215, li_243, li_256, li_271, li_296, li_299, li_323, li_347, li_371, li_395, li_419, li_443, li_467, li_491, li_515, li_539, li_545, li_551, li_557, li_560, li_563, li_569, li_575, li_581, li_587, li_593, li_599, li_605, li_629, li_653, li_677, li_725, li_773, li_794, li_795, li_796, li_1000, li_1546, li_1592, li_6184, li_9552, li_10049, li_10348, li_100000, rb_mI, nI_add, nI_mul, nI_leI, nI_ltI, nI_eq, rb_rdn, rb_wrn, rb_n0, rb_m0, rb_m1n, rb_nm1, rb_m1lt, rb_m1le, rb_0m1, rb_ltm1, rb_lem1, Nat.add_zero, Nat.zero_le, Nat.not_lt_zero, Nat.one_ne_zero, Option.bind_some, Option.bind_none, Option.some.injEq, if_true, if_false, ite_true, ite_false, Sum.elim_inl, Sum.elim_inr, hpm']
      have hasl : rb_asl (upd (upd c' (19 + x) mI) (243 + x) mI) = rb_asl c' := rb_asl_congr (fun u hu => by simp (disch := omega) only [rb_upn])
      have hka' : a' (16 + 6 * x) = nI 5 := by rw [(k1.2.1.2.1 x hx).1]; exact k5
      have he := hend a' 5 (by omega) hka'
      rw [if_neg (by omega)] at he
      obtain ⟨r0, j1, j2⟩ := rb_bd e1
      cases j2
      refine ⟨upd (upd c' (19 + x) mI) (243 + x) mI, g', f', upd a' (16 + 6 * x) mI, rd', ag', mf', na', nb', nl', sv', ?_, ?_, ⟨n, π, t, t', rR_mono hR2 (by omega), by omega⟩, k6, fun k h1 h2 => by rw [rb_upn (by omega), rb_upn (by omega)]; exact k7.1 k h1 h2, rb_G_trans k7.2 (rb_G_same (fun t ht => by rw [rb_upn (by omega), rb_upn (by omega)]))⟩
      · have hsn : XX0_sendNotice 6 (upd (upd c' (19 + x) mI) (243 + x) mI) g' f' (c (131 + x)) 8 0 = some (upd (upd c' (19 + x) mI) (243 + x) mI, g', f') := by
          rw [hpm (by omega)]; exact xn_sendNone 5 _ _ _ _ _
        exact rb_bnd _ j1 (rb_bnd _ hrem (rb_bnd _ hbit hsn))
      · have hwr : rb_wr a' 796 (nI (16 + 6 * x)) (-1) = some (upd a' (16 + 6 * x) mI) := rb_wrn (by omega) (by omega)
        exact rb_bnd _ ((if_pos (show nI 5 = 5 by decide)).trans (rb_bnd _ e2 rfl)) (rb_bnd _ he ((if_pos (show nI 0 = 0 by decide)).trans (rb_bnd _ hq6 (rb_bnd _ hwr rfl))))
    · have hno : ∀ y, y < 28 → c (243 + y) ≠ nI x := by
        intro y hy q
        rcases hH.2.2.2.2.1 y hy with ⟨q1, _⟩ | ⟨l, u, v, q1, _, _, _, q2, _, q3, _⟩
        · rw [q] at q1; exact rb_nmm (k := x) (by omega) q1
        · rw [q] at q2
          have := (nI_eq (by omega) (by omega)).mp q2
          subst this
          rw [hk] at q3; have := (nI_eq (by omega) (by omega)).mp q3; omega
      have hR2 := rp_goneO h hx hk (by omega) hk6 hno hsl
      have hrem : XX5_remove c (nI x) = some (upd (upd c (19 + x) mI) (243 + x) mI) := by
        unfold XX5_remove
        simp (disch := omega) only [↓reduceIte, Nat.reduceEqDiff, Nat.reduceLeDiff, eq_self, not_true_eq_false, not_false_eq_true, li_0, li_1, li_2, li_3, li_4, li_5, li_6, li_7, li_8, li_9, li_10, li_11, li_12, li_13, li_14, li_15, li_16, li_17, li_18, li_19, li_20, li_21, li_22, li_23, li_24, li_25, li_26, li_27, li_28, li_29, li_30, li_31, li_32, li_33, li_34, li_35, li_36, li_37, li_38, li_39, li_40, li_41, li_42, li_47, li_50, li_60, li_63, li_75, li_100, li_103, li_131, li_159, li_184, li_187, li_215, li_243, li_256, li_271, li_296, li_299, li_323, li_347, li_371, li_395, li_419, li_443, li_467, li_491, li_515, li_539, li_545, li_551, li_557, li_560, li_563, li_569, li_575, li_581, li_587, li_593, li_599, li_605, li_629, li_653, li_677, li_725, li_773, li_794, li_795, li_796, li_1000, li_1546, li_1592, li_6184, li_9552, li_10049, li_10348, li_100000, rb_mI, nI_add, nI_mul, nI_leI, nI_ltI, nI_eq, rb_rdn, rb_wrn, rb_n0, rb_m0, rb_m1n, rb_nm1, rb_m1lt, rb_m1le, rb_0m1, rb_ltm1, rb_lem1, Nat.add_zero, Nat.zero_le, Nat.not_lt_zero, Nat.one_ne_zero, Option.bind_some, Option.bind_none, Option.some.injEq, if_true, if_false, ite_true, ite_false, Sum.elim_inl, Sum.elim_inr, hpm (by omega)]
      have hasl : rb_asl (upd (upd c (19 + x) mI) (243 + x) mI) = rb_asl c := rb_asl_congr (fun u hu => by simp (disch := omega) only [rb_upn])
      have he := hend a k hk6 hka
      rw [if_neg hk2] at he
      refine ⟨upd (upd c (19 + x) mI) (243 + x) mI, g, f, upd a (16 + 6 * x) mI, rd, ag, mf, na, nb, nl, sv, ?_, ?_, ⟨n, π, s, s', rR_mono hR2 (by omega), by omega⟩, fun _ _ _ => rfl, fun k h1 h2 => by rw [rb_upn (by omega), rb_upn (by omega)], rb_G_same (fun t ht => by rw [rb_upn (by omega), rb_upn (by omega)])⟩
      · have hsn : XX0_sendNotice 6 (upd (upd c (19 + x) mI) (243 + x) mI) g f (c (131 + x)) 8 0 = some (upd (upd c (19 + x) mI) (243 + x) mI, g, f) := by
          rw [hpm (by omega)]; exact xn_sendNone 5 _ _ _ _ _
        exact rb_bnd _ (xn_bdK0 (by omega) c g f) (rb_bnd _ hrem (rb_bnd _ hbit hsn))
      · have hwr : rb_wr a 796 (nI (16 + 6 * x)) (-1) = some (upd a (16 + 6 * x) mI) := rb_wrn (by omega) (by omega)
        have h5' : ¬ nI k = 5 := rb_kne (k := 5) rfl (by omega) (by omega) (by omega)
        exact rb_bnd _ (if_neg h5') (rb_bnd _ he ((if_pos (show nI 0 = 0 by decide)).trans (rb_bnd _ hq6 (rb_bnd _ hwr rfl))))
