/-- writing ends that aren't alone, as interests see them -/
def rb_D2 (c : rb_Row) (n : Nat) : Nat := rb_cn (fun i => decide (c (19 + nt (c (323 + i))) = nI 1) && !decide (c (131 + nt (c (323 + i))) = mI)) n
theorem rb_D2_A (c : rb_Row) (n : Nat) : rb_D2 c n + rb_AA c n ≤ n := by
  refine rb_cn_two (fun i hi hp => ?_)
  simp only [Bool.and_eq_true, decide_eq_true_eq] at hp
  rw [decide_eq_false_iff_not, hp.1]
  exact rb_kne rfl (by omega) (by omega) (by omega)
theorem rb_D2_same {c c' : rb_Row} {n : Nat} (hn : n ≤ 24) (ha : rb_aims c n) (h : ∀ k, 2 ≤ k → k < 419 → c' k = c k) : rb_D2 c' n = rb_D2 c n ∧ rb_AA c' n = rb_AA c n := by
  refine ⟨rb_cn_congr (fun i hi => ?_), rb_cn_congr (fun i hi => ?_)⟩
  · obtain ⟨y, hy, ey, _⟩ := ha i hi
    rw [h (323 + i) (by omega) (by omega), nt_n ey (by omega), h (19 + y) (by omega) (by omega), h (131 + y) (by omega) (by omega)]
  · obtain ⟨y, hy, ey, _⟩ := ha i hi
    rw [h (323 + i) (by omega) (by omega), nt_n ey (by omega), h (19 + y) (by omega) (by omega)]
theorem rb_D2_drop {c c' : rb_Row} {n w : Nat} (hn : n ≤ 24) (hw : w < 28) (ha : rb_aims c n) (hk : c (19 + w) = nI 1) (hp : c (131 + w) ≠ mI) (hp' : c' (131 + w) = mI) (h1 : ∀ i, i < n → c' (323 + i) = c (323 + i)) (h2 : ∀ i v, i < n → v < 28 → c (323 + i) = nI v → c' (19 + v) = c (19 + v)) (h3 : ∀ i v, i < n → v < 28 → v ≠ w → c (323 + i) = nI v → c' (131 + v) = c (131 + v)) : rb_D2 c' n + rb_cf c n w 0 = rb_D2 c n := by
  unfold rb_D2 rb_cf
  have key : ∀ m, m ≤ n → rb_cn (fun i => decide (c' (19 + nt (c' (323 + i))) = nI 1) && !decide (c' (131 + nt (c' (323 + i))) = mI)) m + rb_cn (fun j => decide (0 ≤ j) && decide (c (323 + j) = nI w)) m = rb_cn (fun i => decide (c (19 + nt (c (323 + i))) = nI 1) && !decide (c (131 + nt (c (323 + i))) = mI)) m := by
    intro m
    induction m with
    | zero => intro _; rfl
    | succ m ih =>
      intro hm
      have ih' := ih (by omega)
      simp only [rb_cn]
      obtain ⟨y, hy, ey, _⟩ := ha m (by omega)
      rw [h1 m (by omega), nt_n ey (by omega), h2 m y (by omega) hy ey]
      by_cases e : y = w
      · subst e
        have e1 : decide (c (323 + m) = nI y) = true := by simp [ey]
        rw [e1, hp', hk]
        simp [hp] at ih' ⊢
        omega
      · have e1 : decide (c (323 + m) = nI w) = false := by
          rw [ey]
          simp
          intro g
          exact e ((nI_eq (by omega) (by omega)).mp g)
        rw [e1, h3 m y (by omega) hy e ey]
        simp at ih' ⊢
        omega
  exact key n (Nat.le_refl _)
def rb_TA (q n : Nat) (π : Nat → Nat) (K A x : Nat) (mf0 cz c a mf : rb_Row) : Prop :=
  ∃ W s s', rR x W q n π s s' c a ∧ W + rb_D2 c n * rb_wt A 3 ≤ K ∧ s + 8 * rb_asl c + rb_D2 c n * rb_wt A 3 ≤ K ∧ rb_AA c n = A ∧ c (19 + x) = nI 5 ∧ (∀ k, k ≠ 3 → k ≠ 11 → mf k = mf0 k) ∧ (∀ k, 593 ≤ k → k < 677 → c k = cz k) ∧ rb_G cz c
set_option maxHeartbeats 8000000 in
theorem rp_turn {q n : Nat} {π : Nat → Nat} {K A x : Nat} {c a mf mf0 cz : rb_Row} (hK : K + q + 20000 < 2000000000) (hx : x < 28) (h : rb_TA q n π K A x mf0 cz c a mf) (g f rd ag na nb nl sv : rb_Row) : ∃ o o', (rb_lp (bdK (nI x) (nI 5)) 100000 (nI 0, c, g, f)).bind (fun r => some r) = some o ∧ XX7_turnAway a rd ag mf na nb nl sv (nI x) = some o' ∧ ∃ c' g' f' a' rd' ag' mf' na' nb' nl' sv', o = (c', g', f') ∧ o' = (a', rd', ag', mf', na', nb', nl', sv') ∧ rb_TA q n π K A x mf0 cz c' a' mf' ∧ (∀ y, y < 28 → c' (243 + y) ≠ nI x) := by
  unfold XX7_turnAway
  obtain ⟨W0, s0, s0', hR0, _⟩ := id h
  obtain ⟨o0, _, el0, _⟩ := rp_longest hR0.2.1 hx
  have hcn0 : rb_cn (fun y => decide (c (243 + y) = nI x)) 28 ≤ 12 := Nat.le_trans (rb_cn_mono (fun y hy hp => by
    simp only [decide_eq_true_eq] at hp
    rw [hp]; simp; exact rb_nmm (by omega))) hR0.2.1.2.2.2.2.2.2
  rw [el0]
  show ∃ o o', _ ∧ (rb_lp (bdTA (nI x)) 100000 (rb_oi o0, a, rd, ag, mf, na, nb, nl, sv)).bind _ = some o' ∧ _
  refine rb_lpjb (fun j (σ : rb_Row × rb_Row × rb_Row) => (nI j, σ.1, σ.2.1, σ.2.2)) (fun j (σ : Int32 × rb_Row × rb_Row × rb_Row × rb_Row × rb_Row × rb_Row × rb_Row × rb_Row) => σ) 12 (fun j σ σ' => rb_TA q n π K A x mf0 cz σ.1 σ'.2.1 σ'.2.2.2.2.1 ∧ XX7_longestWaiting σ'.2.1 (nI x) = some σ'.1 ∧ rb_cn (fun y => decide (σ.1 (243 + y) = nI x)) 28 + j ≤ 12) (fun r r' => rb_TA q n π K A x mf0 cz r.1 r'.1 r'.2.2.2.1 ∧ ∀ y, y < 28 → r.1 (243 + y) ≠ nI x) (c, g, f) (rb_oi o0, a, rd, ag, mf, na, nb, nl, sv) rfl rfl ⟨h, el0, by simp only; omega⟩ (by omega) (by omega) ?_ ?_ ?_
  · rintro j ⟨c1, g1, f1⟩ ⟨iR, a1, rd1, ag1, mf1, na1, nb1, nl1, sv1⟩ hj ⟨hTA, el, hcn⟩
    simp only at hTA el hcn ⊢
    obtain ⟨W, s, s', k1, k2, k3, k4, k5, k6, k7⟩ := id hTA
    have hH := k1.2.1
    have hI := k1.2.2.1
    have hn : n ≤ 24 := k1.1.2.2.2.2.2.2.2
    obtain ⟨o, e1, e2, hno, hso⟩ := rp_longest hH hx
    rw [e2] at el
    cases o with
    | none =>
      have ei : iR = mI := (Option.some.inj el).symm
      subst ei
      refine Or.inr ⟨(c1, g1, f1), (a1, rd1, ag1, mf1, na1, nb1, nl1, sv1), ?_, ?_, hTA, hno rfl⟩
      · unfold bdK
        simp (maxSteps := 3000000) (disch := omega) only [↓reduceIte, Nat.reduceEqDiff, Nat.reduceLeDiff, eq_self, not_true_eq_false, not_false_eq_true, li_0, li_1, li_2, li_3, li_4, li_5, li_6, li_7, li_8, li_9, li_10, li_11, li_12, li_13, li_14, li_15, li_16, li_17, li_18, li_19, li_20, li_21, li_22, li_23, li_24, li_25, li_26, li_27, li_28, li_29, li_30, li_31, li_32, li_33, li_34, li_35, li_36, li_37, li_38, li_39, li_40, li_41, li_42, li_47, li_50, li_60, li_63, li_75, li_100, li_103, li_131, li_159, li_184, li_187, li_215, li_243, li_256, li_271, li_296, li_299, li_323, li_347, li_371, li_395, li_419, li_443, li_467, li_491, li_515, li_539, li_545, li_551, li_557, li_560, li_563, li_569, li_575, li_581, li_587, li_593, li_599, li_605, li_629, li_653, li_677, li_725, li_773, li_794, li_795, li_796, li_1000, li_1546, li_1592, li_6184, li_9552, li_10049, li_10348, li_100000, rb_mI, nI_add, nI_mul, nI_leI, nI_ltI, nI_eq, rb_rdn, rb_wrn, rb_n0, rb_m0, rb_m1n, rb_nm1, rb_m1lt, rb_m1le, rb_0m1, rb_ltm1, rb_lem1, Nat.add_zero, Nat.zero_le, Nat.not_lt_zero, Nat.one_ne_zero, Option.bind_some, Option.bind_none, Option.some.injEq, if_true, if_false, ite_true, ite_false, Sum.elim_inl, Sum.elim_inr, e1, rb_oi]
        rw [if_neg (by omega)]
      · unfold bdTA
        exact if_pos (show mI < 0 by decide)
    | some y =>
      have ei : iR = nI y := (Option.some.inj el).symm
      subst ei
      obtain ⟨hy, hwy⟩ := hso y rfl
      have hk0 : c1 (19 + y) = nI 0 := by
        rcases hH.2.2.2.2.1 y hy with ⟨q1, _⟩ | ⟨l, u, v, _, _, _, _, _, _, _, q, _⟩
        · rw [hwy] at q1; exact absurd q1 (rb_nmm (by omega))
        · exact q
      have hyx : y ≠ x := fun q => by rw [q, k5] at hk0; have := (nI_eq (by omega) (by omega)).mp hk0; omega
      have hun : ∀ j, j < 16 → c1 (3 + j) ≠ nI y := fun j hj q => by
        rcases (hH.1 j hj).2.2 with q1 | ⟨w, q1, q2, _, q3⟩
        · rw [q] at q1; exact rb_nmm (k := y) (by omega) q1
        · rw [q] at q2
          have := (nI_eq (by omega) (by omega)).mp q2
          subst this
          rw [hwy] at q3; exact rb_nmm (k := x) (by omega) q3
      obtain ⟨v, c2, c', g', f', a', rd', ag', mf', na', nb', nl', sv', t, t', m1, m2, m3, m4, m5, m6, m7, m8, m9, m10, m11, m12, m13⟩ := rp_end (z' := x) k1 (by omega) (by omega) hy (by omega) hk0 hun (Or.inr hwy) hx (Or.inl ⟨rfl, hyx⟩) g1 f1 rd1 ag1 mf1 na1 nb1 nl1 sv1
      have hc419 : ∀ k, 299 ≤ k → c2 k = c1 k := fun k hk => m12 k (by omega) (by omega) (fun w hw _ => by omega)
      have hcells : ∀ k, 2 ≤ k → k < 419 → c' k = c2 k := fun k h1 h2 => m8 k (by omega)
      have h19 : ∀ v', v' < 28 → v' ≠ y → c2 (19 + v') = c1 (19 + v') := fun v' hv' hne => m12 _ (by omega) (by omega) (fun w hw _ => by omega)
      have haims2 : rb_aims c2 n := fun i hi => by
        obtain ⟨v', q1, q2, q3, _⟩ := hI.2.2.1 i hi
        have hne : v' ≠ y := fun q => (rb_unz k1 hy hun hi).2 (by rw [q2, q])
        obtain ⟨k, q4, q5⟩ := q3
        exact ⟨v', q1, by rw [hc419 _ (by omega)]; exact q2, k, q4, by rw [h19 v' q1 hne]; exact q5⟩
      obtain ⟨d1, d2⟩ := rb_D2_same hn haims2 hcells
      have hAe : rb_AA c2 n = rb_AA c1 n := by
        refine rb_cn_congr (fun i hi => ?_)
        obtain ⟨v', q1, q2, _⟩ := hI.2.2.1 i hi
        have q3 : c2 (323 + i) = nI v' := by rw [hc419 _ (by omega)]; exact q2
        have hne : v' ≠ y := fun q => (rb_unz k1 hy hun hi).2 (by rw [q2, q])
        rw [nt_n q3 (by omega), nt_n q2 (by omega), h19 v' q1 hne]
      have hbud : v + rb_D2 c2 n * rb_wt A 3 ≤ rb_D2 c1 n * rb_wt A 3 := by
        rcases m13 with ⟨q1, q2⟩ | ⟨w, hw, q1, q2⟩
        · have : rb_D2 c2 n = rb_D2 c1 n := by
            refine rb_cn_congr (fun i hi => ?_)
            obtain ⟨v', q3, q4, _⟩ := hI.2.2.1 i hi
            have q5 : c2 (323 + i) = nI v' := by rw [hc419 _ (by omega)]; exact q4
            have hne : v' ≠ y := fun q => (rb_unz k1 hy hun hi).2 (by rw [q4, q])
            have q6 : c2 (131 + v') = c1 (131 + v') := m12 _ (by omega) (by omega) (fun w hw q => by rw [q1] at q; exact absurd q.symm (rb_nmm (by omega)))
            rw [nt_n q5 (by omega), nt_n q4 (by omega), h19 v' q3 hne, q6]
          rw [this]; omega
        · obtain ⟨q3, q4⟩ := m11 w hw q1
          have hpw : c1 (131 + w) ≠ mI := by
            obtain ⟨p, hp, hv, hoe, _⟩ := rp_endk hH hy (by omega) hk0
            obtain ⟨kw, vw⟩ := rb_pk hH hy (by omega) hp hoe hw q1
            obtain ⟨p', hp', hv', hoe', _⟩ := rp_endk hH hw (e := 1) (by omega) kw
            have : p' = p := by rw [vw] at hv'; exact ((nI_eq (by omega) (by omega)).mp hv').symm
            subst this
            rcases (hH.2.1 y hy).2 with z1 | ⟨e0, p0, r, b, z0, z1, z2, z3, z4, _⟩ | ⟨b, _, z1, _⟩ | ⟨b, _, z1, _⟩ | ⟨z1, _⟩ | ⟨k, r, z1, _⟩
            · rw [z1.1] at hk0; exact absurd hk0.symm (rb_nmm (by omega))
            · rw [hk0] at z1
              have := (nI_eq (by omega) (by omega)).mp z1
              subst this
              rw [hv] at z3
              have := (nI_eq (by omega) (by omega)).mp z3
              subst this
              have z5 : a1 (184 + 4 * p' + 2) = nI y := z4
              have z6 : a1 (184 + 4 * p' + 2) = c1 (131 + w) := hoe'
              rw [← z6, z5]; exact rb_nmm (by omega)
            · rw [z1] at hk0; have := (nI_eq (by omega) (by omega)).mp hk0; omega
            · rw [z1] at hk0; have := (nI_eq (by omega) (by omega)).mp hk0; omega
            · rw [z1] at hk0; have := (nI_eq (by omega) (by omega)).mp hk0; omega
            · rw [z1] at hk0; have := (nI_eq (by omega) (by omega)).mp hk0; omega
          have hD := rb_D2_drop (c := c1) (c' := c2) hn hw (rI_aims hI) q4 hpw q3 (fun i hi => hc419 _ (by omega)) (fun i v' hi hv' ev => h19 v' hv' (fun q => (rb_unz k1 hy hun hi).2 (by rw [ev, q]))) (fun i v' hi hv' hne ev => m12 _ (by omega) (by omega) (fun u hu q => by
            rw [q1] at q
            have := (nI_eq (by omega) (by omega)).mp q
            omega))
          rw [k4] at q2
          rw [← hD, Nat.add_mul]
          omega
      have hcount : rb_cn (fun y => decide (c1 (243 + y) = nI x)) 28 = rb_cn (fun y => decide (c' (243 + y) = nI x)) 28 + 1 := by
        refine rb_cn_drop hy (by simp [hwy]) ?_ (fun i hi hne => ?_)
        · rw [hcells _ (by omega) (by omega), m10, decide_eq_false_iff_not]
          exact fun q => rb_nmm (k := x) (by omega) q.symm
        · rw [hcells _ (by omega) (by omega), m12 _ (by omega) (by omega) (fun w hw _ => by omega)]
      obtain ⟨o2, _, el2, _⟩ := rp_longest m4.2.1 hx
      refine Or.inl ⟨(c', g', f'), (rb_oi o2, a', rd', ag', mf', na', nb', nl', sv'), ?_, ?_, ⟨W + v, t, t', m4, ?_, ?_, ?_, ?_, fun k h1 h2 => (m7 k h1 h2).trans (k6 k h1 h2), fun k h1 h2 => (m8 k (by omega)).trans ((hc419 k (by omega)).trans (k7.1 k h1 h2)), rb_G_trans k7.2 (rb_G_trans (rb_G_same (fun t ht => hc419 _ (by omega))) m6.2)⟩, el2, ?_⟩
      · unfold bdK
        have q1 : ¬ 12 ≤ j := by omega
        simp (maxSteps := 3000000) (disch := omega) only [↓reduceIte, Nat.reduceEqDiff, Nat.reduceLeDiff, eq_self, not_true_eq_false, not_false_eq_true, li_0, li_1, li_2, li_3, li_4, li_5, li_6, li_7, li_8, li_9, li_10, li_11, li_12, li_13, li_14, li_15, li_16, li_17, li_18, li_19, li_20, li_21, li_22, li_23, li_24, li_25, li_26, li_27, li_28, li_29, li_30, li_31, li_32, li_33, li_34, li_35, li_36, li_37, li_38, li_39, li_40, li_41, li_42, li_47, li_50, li_60, li_63, li_75, li_100, li_103, li_131, li_159, li_184, li_187, li_215, li_243, li_256, li_271, li_296, li_299, li_323, li_347, li_371, li_395, li_419, li_443, li_467, li_491, li_515, li_539, li_545, li_551, li_557, li_560, li_563, li_569, li_575, li_581, li_587, li_593, li_599, li_605, li_629, li_653, li_677, li_725, li_773, li_794, li_795, li_796, li_1000, li_1546, li_1592, li_6184, li_9552, li_10049, li_10348, li_100000, rb_mI, nI_add, nI_mul, nI_leI, nI_ltI, nI_eq, rb_rdn, rb_wrn, rb_n0, rb_m0, rb_m1n, rb_nm1, rb_m1lt, rb_m1le, rb_0m1, rb_ltm1, rb_lem1, Nat.add_zero, Nat.zero_le, Nat.not_lt_zero, Nat.one_ne_zero, Option.bind_some, Option.bind_none, Option.some.injEq, if_true, if_false, ite_true, ite_false, Sum.elim_inl, Sum.elim_inr, e1, rb_oi, q1, m1]
        have m2' : XX0_sendNotice 6 c2 g1 f1 (c1 (131 + y)) (nI 8) (nI 0) = some (c', g', f') := m2
        exact rb_bnd _ m2' rfl
      · unfold bdTA
        exact (if_neg (nI_pos (by omega))).trans (rb_bnd _ m3 (rb_bnd _ el2 rfl))
      · show W + v + rb_D2 c' n * rb_wt A 3 ≤ K
        rw [d1]; omega
      · show t + 8 * rb_asl c' + rb_D2 c' n * rb_wt A 3 ≤ K
        rw [d1]; omega
      · show rb_AA c' n = A
        rw [d2, hAe]; exact k4
      · show c' (19 + x) = nI 5
        rw [hcells _ (by omega) (by omega), h19 x hx (fun q => hyx q.symm)]; exact k5
      · show rb_cn (fun y => decide (c' (243 + y) = nI x)) 28 + (j + 1) ≤ 12
        omega
  · rintro ⟨c1, g1, f1⟩ ⟨iR, a1, rd1, ag1, mf1, na1, nb1, nl1, sv1⟩ ⟨hTA, el, hcn⟩
    simp only at hTA el hcn ⊢
    obtain ⟨W, s, s', k1, k2, k3, k4, k5, k6, k7⟩ := id hTA
    obtain ⟨o, e1, e2, hno, hso⟩ := rp_longest k1.2.1 hx
    rw [e2] at el
    cases o with
    | none =>
      have ei : iR = mI := (Option.some.inj el).symm
      subst ei
      refine ⟨(c1, g1, f1), (a1, rd1, ag1, mf1, na1, nb1, nl1, sv1), ?_, ?_, hTA, hno rfl⟩
      · unfold bdK
        simp (maxSteps := 3000000) (disch := omega) only [↓reduceIte, Nat.reduceEqDiff, Nat.reduceLeDiff, eq_self, not_true_eq_false, not_false_eq_true, li_0, li_1, li_2, li_3, li_4, li_5, li_6, li_7, li_8, li_9, li_10, li_11, li_12, li_13, li_14, li_15, li_16, li_17, li_18, li_19, li_20, li_21, li_22, li_23, li_24, li_25, li_26, li_27, li_28, li_29, li_30, li_31, li_32, li_33, li_34, li_35, li_36, li_37, li_38, li_39, li_40, li_41, li_42, li_47, li_50, li_60, li_63, li_75, li_100, li_103, li_131, li_159, li_184, li_187, li_215, li_243, li_256, li_271, li_296, li_299, li_323, li_347, li_371, li_395, li_419, li_443, li_467, li_491, li_515, li_539, li_545, li_551, li_557, li_560, li_563, li_569, li_575, li_581, li_587, li_593, li_599, li_605, li_629, li_653, li_677, li_725, li_773, li_794, li_795, li_796, li_1000, li_1546, li_1592, li_6184, li_9552, li_10049, li_10348, li_100000, rb_mI, nI_add, nI_mul, nI_leI, nI_ltI, nI_eq, rb_rdn, rb_wrn, rb_n0, rb_m0, rb_m1n, rb_nm1, rb_m1lt, rb_m1le, rb_0m1, rb_ltm1, rb_lem1, Nat.add_zero, Nat.zero_le, Nat.not_lt_zero, Nat.one_ne_zero, Option.bind_some, Option.bind_none, Option.some.injEq, if_true, if_false, ite_true, ite_false, Sum.elim_inl, Sum.elim_inr]
      · unfold bdTA
        exact if_pos (show mI < 0 by decide)
    | some y =>
      obtain ⟨hy, hwy⟩ := hso y rfl
      have := rb_cn_pos (p := fun y => decide (c1 (243 + y) = nI x)) hy (by simp [hwy])
      omega
  · rintro ⟨c1, g1, f1⟩ ⟨a1, rd1, ag1, mf1, na1, nb1, nl1, sv1⟩ ⟨hTA, hno⟩
    exact ⟨_, _, rfl, rfl, c1, g1, f1, a1, rd1, ag1, mf1, na1, nb1, nl1, sv1, rfl, rfl, hTA, hno⟩
