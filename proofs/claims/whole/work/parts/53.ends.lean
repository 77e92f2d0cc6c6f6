set_option maxHeartbeats 8000000 in
theorem rp_newEnds {W q n : Nat} {π : Nat → Nat} {s s' t t' : Nat} {c a c' a' : rb_Row} (hR : rR 28 W q n π s s' c a) (hst : s ≤ t) (hst' : s' ≤ t') (hb : t' < 2000000000) (htt : t ≤ t') (htq : t' ≤ t + q) (hs1 : c' 1 = nI t) (hs2 : a' 795 = nI t') {x y p r : Nat} (hx : x < 28) (hy : y < 28) (hxy : x ≠ y) (hdx : c (19 + x) = mI) (hdy : c (19 + y) = mI) (hp : p < 28) (hr : 1 ≤ r) (hr' : r ≤ 100) (x0 : c' (19 + x) = nI 0) (y0 : c' (19 + y) = nI 1) (x1 : c' (47 + x) = nI 0) (y1 : c' (47 + y) = nI 0) (x2 : c' (75 + x) = nI r) (y2 : c' (75 + y) = nI r) (x4 : c' (131 + x) = nI y) (y4 : c' (131 + y) = nI x) (y8 : c' (243 + y) = mI) (ax0 : a' (16 + 6 * x) = nI 0) (ay0 : a' (16 + 6 * y) = nI 1) (ax1 : a' (16 + 6 * x + 1) = nI p) (ay1 : a' (16 + 6 * y + 1) = nI p) (ay4 : a' (16 + 6 * y + 4) = mI) (p0 : a' (184 + 4 * p) = nI r) (p1 : a' (184 + 4 * p + 1) = nI 0) (p2 : a' (184 + 4 * p + 2) = nI x) (p3 : a' (184 + 4 * p + 3) = nI y) (hO : ∀ w, w < 28 → w ≠ x → w ≠ y → rO 28 c' a' w) (hold : ∀ w, w < 28 → w ≠ x → w ≠ y → c' (19 + w) = c (19 + w) ∧ c' (243 + w) = c (243 + w) ∧ c' (271 + w) = c (271 + w) ∧ a' (16 + 6 * w) = a (16 + 6 * w) ∧ a' (16 + 6 * w + 1) = a (16 + 6 * w + 1) ∧ a' (16 + 6 * w + 4) = a (16 + 6 * w + 4) ∧ a' (16 + 6 * w + 5) = a (16 + 6 * w + 5)) (hpo : ∀ p', p' < 28 → p' ≠ p → a' (184 + 4 * p' + 2) = a (184 + 4 * p' + 2) ∧ a' (184 + 4 * p' + 3) = a (184 + 4 * p' + 3)) (hn : ∀ k, k < 16 → (c' (3 + k) = c (3 + k) ∧ a' k = a k) ∨ (∃ w, (w = x ∨ w = y) ∧ c' (3 + k) = nI w ∧ a' k = nI w ∧ c' (243 + w) = mI ∧ c (3 + k) = mI)) (hny : ∃ k, k < 16 ∧ c' (3 + k) = nI y) (hw : (c' (243 + x) = mI ∧ a' (16 + 6 * x + 4) = mI ∧ ∃ k, k < 16 ∧ c' (3 + k) = nI x) ∨ (∃ l, l < 28 ∧ l ≠ x ∧ l ≠ y ∧ s < t ∧ c' (243 + x) = nI l ∧ a' (16 + 6 * x + 4) = nI l ∧ c (19 + l) = nI 5 ∧ c' (271 + x) = nI s ∧ a' (16 + 6 * x + 5) = nI t' ∧ s' < t')) (h7 : rb_cn (fun y => !decide (c' (243 + y) = mI)) 28 ≤ 12) (hc : ∀ k, (k = 0 ∨ k = 2 ∨ 299 ≤ k) → c' k = c k) (ha : ∀ k, 296 ≤ k → k ≠ 795 → a' k = a k) : rR 28 W q n π t t' c' a' := by
  have hH := hR.2.1
  refine rR_obj hR hst hst' hs1 hs2 htt htq hc ha (fun w hw' hl => ?_) (fun j hj hne => ?_) ?_
  · have e1 : w ≠ x := fun e => rb_dead hdx (e ▸ hl)
    have e2 : w ≠ y := fun e => rb_dead hdy (e ▸ hl)
    exact (hold w hw' e1 e2).1
  · rcases hn j hj with g | ⟨_, _, _, _, _, g⟩
    · exact g.1
    · exact absurd g hne
  · have hne : ∀ w, (decide (w = x) || decide (w = y)) = false → w ≠ x ∧ w ≠ y := fun w hN => by
      simp only [Bool.or_eq_false_iff, decide_eq_false_iff_not] at hN
      exact hN
    have heq : ∀ w, (decide (w = x) || decide (w = y)) = true → w = x ∨ w = y := fun w hN => by
      simpa using hN
    refine rH_add hH hst hst' hb htt (fun w => decide (w = x) || decide (w = y)) (fun w hw' hN => ?_) (fun w hw' => ?_) (fun w hw' => ?_) (fun w hw' hN => ?_) (fun w hw' hN => ?_) (fun j hj => ?_) (fun w hw' hN => ?_) (fun p' e hp' he => ?_) (fun w hw' hN => ?_) h7
    · rcases heq w hN with e | e <;> subst e
      · exact hdx
      · exact hdy
    · by_cases e1 : w = x
      · subst e1
        exact Or.inr (Or.inl ⟨0, p, r, 0, by omega, x0, hp, ax1, p2, by rw [x4]; exact p3, p1, x1, p0, x2, hr, hr', by omega, Or.inr ⟨y, hy, x4⟩⟩)
      · by_cases e2 : w = y
        · subst e2
          exact Or.inr (Or.inl ⟨1, p, r, 0, by omega, y0, hp, ay1, p3, by rw [y4]; exact p2, p1, y1, p0, y2, hr, hr', by omega, Or.inr ⟨x, hx, y4⟩⟩)
        · exact hO w hw' e1 e2
    · by_cases e1 : w = x
      · subst e1; rw [ax0, x0]
      · by_cases e2 : w = y
        · subst e2; rw [ay0, y0]
        · obtain ⟨g1, _, _, g4, _⟩ := hold w hw' e1 e2
          rw [g1, g4]; exact (hH.2.1 w hw').1
    · obtain ⟨e1, e2⟩ := hne w hN
      obtain ⟨g1, g2, g3, g4, g5, _⟩ := hold w hw' e1 e2
      exact Or.inl ⟨g1, g2, g3, g5⟩
    · obtain ⟨e1, e2⟩ := hne w hN
      exact (hold w hw' e1 e2).2.2.2.2.2
    · rcases hn j hj with g | ⟨w, g1, g2⟩
      · exact Or.inl g
      · refine Or.inr ⟨w, ?_, ?_, g2⟩
        · rcases g1 with g | g <;> subst g <;> assumption
        · rcases g1 with g | g <;> simp [g]
    · rcases heq w hN with e | e <;> subst e
      · refine ⟨⟨0, by omega, x0⟩, ?_⟩
        rcases hw with ⟨_, _, g⟩ | ⟨l, hl, _, _, _, g, _⟩
        · exact Or.inr g
        · exact Or.inl (by rw [g]; exact rb_nmm (by omega))
      · exact ⟨⟨1, by omega, y0⟩, Or.inr hny⟩
    · by_cases e' : p' = p
      · subst e'
        have : e = 0 ∨ e = 1 := by omega
        rcases this with g | g <;> subst g
        · exact Or.inr ⟨x, hx, p2, x0, ax1⟩
        · exact Or.inr ⟨y, hy, p3, y0, ay1⟩
      · have : e = 0 ∨ e = 1 := by omega
        rcases this with g | g <;> subst g
        · exact Or.inl (hpo p' hp' e').1
        · exact Or.inl (hpo p' hp' e').2
    · rcases heq w hN with e | e <;> subst e
      · rcases hw with ⟨g1, g2, _⟩ | ⟨l, hl, n1, n2, g1, g2, g3, g4, g5, g6, g7⟩
        · exact Or.inl ⟨g1, g2⟩
        · refine Or.inr ⟨l, hl, by simp [n1, n2], g1, g2, g3, g4, x0, g5, g6, g7, fun v hv hN' hww => ?_⟩
          rcases heq v hN' with e | e
          · exact e
          · subst e; exact absurd y8 hww
      · exact Or.inl ⟨y8, ay4⟩
/-- a free pipe, two free objects -/
theorem rp_freePipe {s s' : Nat} {c a : rb_Row} (h : rH 28 s s' c a) (hc : rb_cn (fun x => !decide (c (19 + x) = mI)) 28 ≤ 26) : ∃ p, p < 28 ∧ a (184 + 4 * p + 2) = mI ∧ a (184 + 4 * p + 3) = mI ∧ ∀ j, j < p → ¬ a (184 + 4 * j + 2) < nI 0 ∨ ¬ a (184 + 4 * j + 3) < nI 0 := by
  have hneg : ∀ p e, p < 28 → e < 2 → (a (184 + 4 * p + (2 + e)) < nI 0 ↔ a (184 + 4 * p + (2 + e)) = mI) := by
    intro p e hp he
    rcases h.2.2.2.1 p e hp he with g | ⟨y, hy, g, _⟩
    · rw [g]; exact ⟨fun _ => rfl, fun _ => by decide⟩
    · rw [g]; exact ⟨fun g' => absurd g' (nI_pos (by omega)), fun g' => absurd g' (rb_nmm (by omega))⟩
  have hex : ∃ p, p < 28 ∧ (decide (a (184 + 4 * p + 2) = mI) && decide (a (184 + 4 * p + 3) = mI)) = true := by
    refine Classical.byContradiction (fun hno => ?_)
    have h1 : rb_cn (fun _ => true) 28 ≤ rb_cn (fun x => !decide (c (19 + x) = mI)) 28 := rb_cn_inj (R := fun k p => p < 28 ∧ a (16 + 6 * k + 1) = nI p) (fun p hp _ => by
      have g : ¬ (a (184 + 4 * p + 2) = mI ∧ a (184 + 4 * p + 3) = mI) := fun g => hno ⟨p, hp, by simp [g.1, g.2]⟩
      have g2 : ∃ e, e < 2 ∧ a (184 + 4 * p + (2 + e)) ≠ mI := by
        by_cases q : a (184 + 4 * p + 2) = mI
        · exact ⟨1, by omega, fun q' => g ⟨q, q'⟩⟩
        · exact ⟨0, by omega, q⟩
      obtain ⟨e, he, g3⟩ := g2
      rcases h.2.2.2.1 p e hp he with g4 | ⟨y, hy, g4, g5, g6⟩
      · exact absurd g4 g3
      · exact ⟨y, hy, by rw [g5]; simp; exact rb_nmm (by omega), hp, g6⟩) (fun k p p' g1 g2 => (nI_eq (by omega) (by omega)).mp (g1.2.symm.trans g2.2))
    have h2 : rb_cn (fun _ => true) 28 = 28 := by decide
    omega
  obtain ⟨p, hp, e⟩ := hex
  obtain ⟨j, ej⟩ := rb_fd_ex (p := fun p => decide (a (184 + 4 * p + 2) = mI) && decide (a (184 + 4 * p + 3) = mI)) hp e
  obtain ⟨g1, g2, g3⟩ := rb_fd_some ej
  simp only [Bool.and_eq_true, decide_eq_true_eq] at g2
  refine ⟨j, g1, g2.1, g2.2, fun i hi => ?_⟩
  have := g3 i hi
  have q0 := hneg i 0 (by omega) (by omega)
  have q1 := hneg i 1 (by omega) (by omega)
  by_cases q : a (184 + 4 * i + 2) = mI
  · refine Or.inr (fun g => ?_)
    have := q1.mp g
    simp [q, this] at *
  · exact Or.inl (fun g => q (q0.mp g))
theorem rp_dead1 {s s' : Nat} {c a : rb_Row} (h : rH 28 s s' c a) (hc : rb_cn (fun x => !decide (c (19 + x) = mI)) 28 ≤ 27) : ∃ x, x < 28 ∧ c (19 + x) = mI ∧ ∀ y, y < x → ∃ k, k < 6 ∧ c (19 + y) = nI k := by
  obtain ⟨x, hx, e⟩ := rb_cn_lt (p := fun x => !decide (c (19 + x) = mI)) (n := 28) (by omega)
  obtain ⟨j, ej⟩ := rb_fd_ex (p := fun x => decide (c (19 + x) = mI)) hx (by simpa using e)
  obtain ⟨g1, g2, g3⟩ := rb_fd_some ej
  refine ⟨j, g1, by simpa using g2, fun y hy => ?_⟩
  have := g3 y hy
  rcases rH_kind h (x := y) (by omega) with g | g
  · simp [g] at this
  · exact g
/-- the second free one -/
theorem rp_dead2 {s s' : Nat} {c a : rb_Row} (h : rH 28 s s' c a) (hc : rb_cn (fun x => !decide (c (19 + x) = mI)) 28 ≤ 26) {x : Nat} (hx : x < 28) (hd : c (19 + x) = mI) : ∃ y, y < 28 ∧ y ≠ x ∧ c (19 + y) = mI ∧ ∀ w, w < y → w = x ∨ ∃ k, k < 6 ∧ c (19 + w) = nI k := by
  have h1 := rb_cn_drop (p := fun w => !decide (c (19 + w) = mI) || decide (w = x)) (q := fun w => !decide (c (19 + w) = mI)) hx (by simp) (by simp [hd]) (fun i hi hne => by simp [hne])
  obtain ⟨y, hy, e⟩ := rb_cn_lt (p := fun w => !decide (c (19 + w) = mI) || decide (w = x)) (n := 28) (by omega)
  obtain ⟨j, ej⟩ := rb_fd_ex (p := fun w => decide (c (19 + w) = mI) && !decide (w = x)) hy (by
    simp only [Bool.or_eq_false_iff, Bool.not_eq_false', decide_eq_true_eq, decide_eq_false_iff_not] at e
    simp [e.1, e.2])
  obtain ⟨g1, g2, g3⟩ := rb_fd_some ej
  simp only [Bool.and_eq_true, Bool.not_eq_true', decide_eq_true_eq, decide_eq_false_iff_not] at g2
  refine ⟨j, g1, g2.2, g2.1, fun w hw => ?_⟩
  have := g3 w hw
  by_cases q : w = x
  · exact Or.inl q
  · rcases rH_kind h (x := w) (by omega) with g | g
    · simp [g, q] at this
    · exact Or.inr g
def rb_meC (c : rb_Row) (x y : Nat) (r : Int32) : rb_Row := upd (upd (upd (upd (rb_mkC (rb_mkC c x (nI 0)) y (nI 1)) (75 + x) r) (75 + y) r) (131 + x) (nI y)) (131 + y) (nI x)
def rb_meA (a : rb_Row) (x y p : Nat) (r : Int32) : rb_Row := upd (rb_mkA (upd (rb_mkA (upd (upd a (184 + 4 * p) r) (184 + 4 * p + 1) (nI 0)) x (nI 0) (nI p) (nI 0) (nI 0)) (184 + 4 * p + 2) (nI x)) y (nI 1) (nI p) (nI 0) (nI 0)) (184 + 4 * p + 3) (nI y)
set_option maxHeartbeats 8000000 in
theorem rp_makeEnds {s s' : Nat} {c a : rb_Row} (h : rH 28 s s' c a) (hc : rb_cn (fun x => !decide (c (19 + x) = mI)) 28 ≤ 26) (r : Int32) : ∃ x y p, x < 28 ∧ y < 28 ∧ p < 28 ∧ x ≠ y ∧ c (19 + x) = mI ∧ c (19 + y) = mI ∧ a (184 + 4 * p + 2) = mI ∧ a (184 + 4 * p + 3) = mI ∧ XX5_makeEnds c r = some (nI x, rb_meC c x y r) ∧ XX7_newPipe a r = some (nI p, rb_meA a x y p r) := by
  obtain ⟨x, hx, hdx, hxm⟩ := rp_dead1 h (by omega)
  obtain ⟨y, hy, hyx, hdy, hym⟩ := rp_dead2 h hc hx hdx
  obtain ⟨p, hp, hp2, hp3, hpm⟩ := rp_freePipe h hc
  have hka : ∀ w, w < 28 → a (16 + 6 * w) = c (19 + w) := fun w hw => (h.2.1 w hw).1
  refine ⟨x, y, p, hx, hy, hp, fun e => hyx e.symm, hdx, hdy, hp2, hp3, ?_, ?_⟩
  · unfold XX5_makeEnds rb_meC
    have e1 := xn_makeThing hx hxm hdx (0 : Int32)
    have e2 := xn_makeThing (c := rb_mkC c x (nI 0)) hy (fun w hw => by
      unfold rb_mkC
      rcases hym w hw with g | ⟨k, hk, g⟩
      · subst g
        exact ⟨0, by omega, by simp (disch := omega) only [rb_upn, rb_upe]⟩
      · by_cases q : w = x
        · subst q
          exact ⟨0, by omega, by simp (disch := omega) only [rb_upn, rb_upe]⟩
        · exact ⟨k, hk, by simp (disch := omega) only [rb_upn]; exact g⟩) (by unfold rb_mkC; simp (disch := omega) only [rb_upn]; exact hdy) (1 : Int32)
    rw [e1]
    show ((XX5_makeThing (rb_mkC c x (nI 0)) 1).bind _) = _
    rw [e2]
    simp (disch := omega) only [↓reduceIte, Nat.reduceEqDiff, Nat.reduceLeDiff, eq_self, not_true_eq_false, not_false_eq_true, li_0, li_1, li_2, li_3, li_4, li_5, li_6, li_7, li_8, li_9, li_10, li_11, li_12, li_13, li_14, li_15, li_16, li_17, li_18, li_19, li_20, li_21, li_22, li_23, li_24, li_25, li_26, li_27, li_28, li_29, li_30, li_31, li_32, li_33, li_34, li_35, li_36, li_37, li_38, li_39, li_40, li_41, li_42, li_47, li_50, li_60, li_63, li_75, li_100, li_103, li_131, li_159, li_184, li_187, li_215, li_243, li_256, li_271, li_296, li_299, li_323, li_347, li_371, li_395, li_419, li_443, li_467, li_491, li_515, li_539, li_545, li_551, li_557, li_560, li_563, li_569, li_575, li_581, li_587, li_593, li_599, li_605, li_629, li_653, li_677, li_725, li_773, li_794, li_795, li_796, li_1000, li_1546, li_1592, li_6184, li_9552, li_10049, li_10348, li_100000, rb_mI, nI_add, nI_mul, nI_leI, nI_ltI, nI_eq, rb_rdn, rb_wrn, rb_n0, rb_m0, rb_m1n, rb_nm1, rb_m1lt, rb_m1le, rb_0m1, rb_ltm1, rb_lem1, Nat.add_zero, Nat.zero_le, Nat.not_lt_zero, Nat.one_ne_zero, Option.bind_some, Option.bind_none, Option.some.injEq, if_true, if_false, ite_true, ite_false, Sum.elim_inl, Sum.elim_inr]
  · unfold XX7_newPipe rb_meA
    refine rb_bnd _ (rb_lps0 (fun j => nI j) p (nI p) rfl ?_ ?_ (by omega)) ?_
    · intro j hj
      simp (disch := omega) only [li_0, li_1, li_2, li_3, li_4, li_5, li_6, li_7, li_8, li_9, li_10, li_11, li_12, li_13, li_14, li_15, li_16, li_17, li_18, li_19, li_20, li_21, li_22, li_23, li_24, li_25, li_26, li_27, li_28, li_29, li_30, li_31, li_32, li_33, li_34, li_35, li_36, li_37, li_38, li_39, li_40, li_41, li_42, li_47, li_50, li_60, li_63, li_75, li_100, li_103, li_131, li_159, li_184, li_187, li_215, li_243, li_256, li_271, li_296, li_299, li_323, li_347, li_371, li_395, li_419, li_443, li_467, li_491, li_515, li_539, li_545, li_551, li_557, li_560, li_563, li_569, li_575, li_581, li_587, li_593, li_599, li_605, li_629, li_653, li_677, li_725, li_773, li_794, li_795, li_796, li_1000, li_1546, li_1592, li_6184, li_9552, li_10049, li_10348, li_100000, rb_mI, nI_add, nI_mul, nI_leI, nI_ltI, nI_eq, rb_rdn, rb_wrn, rb_n0, rb_m0, rb_m1n, rb_nm1, rb_m1lt, rb_m1le, rb_0m1, rb_ltm1, rb_lem1, Nat.add_zero, Nat.zero_le, Nat.not_lt_zero, Nat.one_ne_zero, Option.bind_some, Option.bind_none, Option.some.injEq, if_true, if_false, ite_true, ite_false, Sum.elim_inl, Sum.elim_inr, xn_ofObject, xn_ofPipe, xn_ofInterest, xn_ofTask, xn_kindOf, xn_bitsOf7, xn_isInterest, xn_isAsleep, xn_objectAt, xn_pipeAt, xn_interestAt, xn_taskAt, rb_nz0, rb_nz1, rb_n10, Nat.one_ne_zero, eq_self]
      rcases h.2.2.2.1 j 0 (by omega) (by omega) with g | ⟨w, hw, g, _⟩
      · have g' : a (184 + 4 * j + 2) = mI := g
        rcases hpm j hj with q | q
        · rw [g'] at q; exact absurd (by decide) q
        · have q' : nI 0 ≤ a (184 + 4 * j + 3) := Int32.not_lt.mp q
          simp (disch := omega) only [rb_mI, nI_add, nI_mul, nI_leI, nI_ltI, nI_eq, rb_rdn, rb_wrn, rb_n0, rb_m0, rb_m1n, rb_nm1, rb_m1lt, rb_m1le, rb_0m1, rb_ltm1, rb_lem1, Nat.add_zero, Nat.zero_le, Nat.not_lt_zero, Nat.one_ne_zero, Option.bind_some, Option.bind_none, Option.some.injEq, if_true, if_false, ite_true, ite_false, Sum.elim_inl, Sum.elim_inr, g', q]
      · have g' : a (184 + 4 * j + 2) = nI w := g
        simp (disch := omega) only [rb_mI, nI_add, nI_mul, nI_leI, nI_ltI, nI_eq, rb_rdn, rb_wrn, rb_n0, rb_m0, rb_m1n, rb_nm1, rb_m1lt, rb_m1le, rb_0m1, rb_ltm1, rb_lem1, Nat.add_zero, Nat.zero_le, Nat.not_lt_zero, Nat.one_ne_zero, Option.bind_some, Option.bind_none, Option.some.injEq, if_true, if_false, ite_true, ite_false, Sum.elim_inl, Sum.elim_inr, g']
    · simp (disch := omega) only [li_0, li_1, li_2, li_3, li_4, li_5, li_6, li_7, li_8, li_9, li_10, li_11, li_12, li_13, li_14, li_15, li_16, li_17, li_18, li_19, li_20, li_21, li_22, li_23, li_24, li_25, li_26, li_27, li_28, li_29, li_30, li_31, li_32, li_33, li_34, li_35, li_36, li_37, li_38, li_39, li_40, li_41, li_42, li_47, li_50, li_60, li_63, li_75, li_100, li_103, li_131, li_159, li_184, li_187, li_215, li_243, li_256, li_271, li_296, li_299, li_323, li_347, li_371, li_395, li_419, li_443, li_467, li_491, li_515, li_539, li_545, li_551, li_557, li_560, li_563, li_569, li_575, li_581, li_587, li_593, li_599, li_605, li_629, li_653, li_677, li_725, li_773, li_794, li_795, li_796, li_1000, li_1546, li_1592, li_6184, li_9552, li_10049, li_10348, li_100000, rb_mI, nI_add, nI_mul, nI_leI, nI_ltI, nI_eq, rb_rdn, rb_wrn, rb_n0, rb_m0, rb_m1n, rb_nm1, rb_m1lt, rb_m1le, rb_0m1, rb_ltm1, rb_lem1, Nat.add_zero, Nat.zero_le, Nat.not_lt_zero, Nat.one_ne_zero, Option.bind_some, Option.bind_none, Option.some.injEq, if_true, if_false, ite_true, ite_false, Sum.elim_inl, Sum.elim_inr, xn_ofObject, xn_ofPipe, xn_ofInterest, xn_ofTask, xn_kindOf, xn_bitsOf7, xn_isInterest, xn_isAsleep, xn_objectAt, xn_pipeAt, xn_interestAt, xn_taskAt, rb_nz0, rb_nz1, rb_n10, Nat.one_ne_zero, eq_self, hp2, hp3]
    · have e1 := yn_newObject (a := upd (upd a (184 + 4 * p) r) (184 + 4 * p + 1) (nI 0)) hx (fun w hw => by
        obtain ⟨k, hk, g⟩ := hxm w hw
        exact ⟨k, hk, by simp (disch := omega) only [rb_upn]; rw [hka w (by omega)]; exact g⟩) (by simp (disch := omega) only [rb_upn]; rw [hka x hx]; exact hdx) (nI 0) (nI p) (nI 0) (nI 0)
      have e2 := yn_newObject (a := upd (rb_mkA (upd (upd a (184 + 4 * p) r) (184 + 4 * p + 1) (nI 0)) x (nI 0) (nI p) (nI 0) (nI 0)) (184 + 4 * p + 2) (nI x)) hy (fun w hw => by
        unfold rb_mkA
        by_cases q : w = x
        · subst q
          exact ⟨0, by omega, by simp (disch := omega) only [rb_upn, rb_upe]⟩
        · rcases hym w hw with g | ⟨k, hk, g⟩
          · exact absurd g q
          · exact ⟨k, hk, by simp (disch := omega) only [rb_upn]; rw [hka w (by omega)]; exact g⟩) (by unfold rb_mkA; simp (disch := omega) only [rb_upn]; rw [hka y hy]; exact hdy) (nI 1) (nI p) (nI 0) (nI 0)
      simp (disch := omega) only [↓reduceIte, Nat.reduceEqDiff, Nat.reduceLeDiff, eq_self, not_true_eq_false, not_false_eq_true, li_0, li_1, li_2, li_3, li_4, li_5, li_6, li_7, li_8, li_9, li_10, li_11, li_12, li_13, li_14, li_15, li_16, li_17, li_18, li_19, li_20, li_21, li_22, li_23, li_24, li_25, li_26, li_27, li_28, li_29, li_30, li_31, li_32, li_33, li_34, li_35, li_36, li_37, li_38, li_39, li_40, li_41, li_42, li_47, li_50, li_60, li_63, li_75, li_100, li_103, li_131, li_159, li_184, li_187, li_215, li_243, li_256, li_271, li_296, li_299, li_323, li_347, li_371, li_395, li_419, li_443, li_467, li_491, li_515, li_539, li_545, li_551, li_557, li_560, li_563, li_569, li_575, li_581, li_587, li_593, li_599, li_605, li_629, li_653, li_677, li_725, li_773, li_794, li_795, li_796, li_1000, li_1546, li_1592, li_6184, li_9552, li_10049, li_10348, li_100000, rb_mI, nI_add, nI_mul, nI_leI, nI_ltI, nI_eq, rb_rdn, rb_wrn, rb_n0, rb_m0, rb_m1n, rb_nm1, rb_m1lt, rb_m1le, rb_0m1, rb_ltm1, rb_lem1, Nat.add_zero, Nat.zero_le, Nat.not_lt_zero, Nat.one_ne_zero, Option.bind_some, Option.bind_none, Option.some.injEq, if_true, if_false, ite_true, ite_false, Sum.elim_inl, Sum.elim_inr, xn_ofObject, xn_ofPipe, xn_ofInterest, xn_ofTask, xn_kindOf, xn_bitsOf7, xn_isInterest, xn_isAsleep, xn_objectAt, xn_pipeAt, xn_interestAt, xn_taskAt, rb_nz0, rb_nz1, rb_n10, Nat.one_ne_zero, eq_self, e1, e2]
