def rb_AA (c : rb_Row) (n : Nat) : Nat := rb_cn (fun i => decide (c (19 + nt (c (323 + i))) = nI 4)) n
theorem rb_A_set {n : Nat} {π : Nat → Nat} {s' : Nat} {c a : rb_Row} (h : rI n π s' c a) {i y : Nat} (hi : i < n) (hy : y < 28) (ey : c (299 + i) = nI y) : rb_cf c n y 0 ≤ rb_AA c n := by
  obtain ⟨y', hy', ey', k4, _⟩ := h.2.1 i hi
  have : y' = y := by
    rw [ey] at ey'
    exact ((nI_eq (by omega) (by omega)).mp ey').symm
  subst this
  refine rb_cn_mono (fun j hj hp => ?_)
  simp only [Bool.and_eq_true, decide_eq_true_eq] at hp
  rw [decide_eq_true_eq, nt_n hp.2 (by omega)]
  exact k4
theorem rb_cn_two {p q : Nat → Bool} {n : Nat} (h : ∀ i, i < n → p i = true → q i = false) : rb_cn p n + rb_cn q n ≤ n := by
  induction n with
  | zero => exact Nat.le_refl 0
  | succ n ih =>
    simp only [rb_cn]
    have a := ih (fun i hi => h i (by omega))
    cases hp : p n with
    | false => cases q n <;> simp only [cond_false, cond_true] <;> omega
    | true => rw [h n (by omega) hp]; simp only [cond_false, cond_true]; omega
theorem rb_cf_A {c : rb_Row} {n x : Nat} (hx : x < 28) (h : c (19 + x) ≠ nI 4) : rb_cf c n x 0 + rb_AA c n ≤ n := by
  refine rb_cn_two (fun i hi hp => ?_)
  simp only [Bool.and_eq_true, decide_eq_true_eq] at hp
  rw [decide_eq_false_iff_not, nt_n hp.2 (by omega)]
  exact h
theorem rb_wt3 : ∀ b, b < 25 → ∀ A, A < 25 → b + A ≤ 24 → b * rb_wt A 3 ≤ 2184 := by decide
theorem rb_wt3' : ∀ b, b < 25 → ∀ A, A < 25 → b * rb_wt A 3 ≤ 14424 := by decide
theorem rb_wt2 : ∀ b, b < 25 → ∀ A, A < 25 → b * rb_wt A 2 ≤ 600 := by decide
set_option maxHeartbeats 4000000 in
theorem rp_notice {z W q n : Nat} {π : Nat → Nat} {s s' : Nat} {c a : rb_Row} (hR : rR z W q n π s s' c a) (hs : s + 8 * rb_asl c + 14424 + q + 3000 < 2000000000) (hW : W + 14424 + 20 < 2000000000) {x : Nat} (hx : x < 28) (bit : Int32) (g f rd ag mf na nb nl sv : rb_Row) : ∃ v c' g' f' a' rd' ag' mf' na' nb' nl' sv', XX0_sendNotice 6 c g f (nI x) bit (nI 0) = some (c', g', f') ∧ XX7_notice a rd ag mf na nb nl sv (nI x) bit = some (a', rd', ag', mf', na', nb', nl', sv') ∧ v ≤ rb_cf c n x 0 * rb_wt (rb_AA c n) 3 ∧ rb_NQ z W q n π s c a f mf v c' f' a' mf' := by
  have hn : n ≤ 24 := hR.1.2.2.2.2.2.2.2
  have hI := hR.2.2.1
  have hA : rb_AA c n ≤ n := rb_cn_le _ _
  have hcf : rb_cf c n x 0 ≤ n := rb_cn_le _ _
  have hv := rb_wt3' (rb_cf c n x 0) (by omega) (rb_AA c n) (by omega)
  obtain ⟨st, v, c', g', f', a', rd', ag', mf', na', nb', nl', sv', k1, k2, k3, k4, k5, k6⟩ := rp_NS (z := z) (q := q) (π := π) (ab := a) hn (fun i y hi hy ey => rb_A_set hI hi hy ey) 3 x 6 0 0 bit hx (rI_hu3 hI x) (by omega) (by omega) (by omega) W s s' c g f a rd ag mf (upd na 0 (nI x)) (upd nb 0 bit) (upd nl 0 (nI 0)) (upd sv 0 (nI 0)) hR (rF_refl c) (rG_refl a) (by omega) (by omega) (rb_upe rfl) (rb_upe rfl) (rb_upe rfl) (rb_upe rfl)
  refine ⟨v, c', g', f', a', rd', ag', mf', na', nb', nl', sv', k1, ?_, k4, k5⟩
  unfold XX7_notice XX7_beginNotice
  simp (disch := omega) only [li_0, li_1, li_2, li_3, li_4, li_5, li_6, li_7, li_8, li_9, li_10, li_11, li_12, li_13, li_14, li_15, li_16, li_17, li_18, li_19, li_20, li_21, li_22, li_23, li_24, li_25, li_26, li_27, li_28, li_29, li_30, li_31, li_32, li_33, li_34, li_35, li_36, li_37, li_38, li_39, li_40, li_41, li_42, li_47, li_50, li_60, li_63, li_75, li_100, li_103, li_131, li_159, li_184, li_187, li_215, li_243, li_256, li_271, li_296, li_299, li_323, li_347, li_371, li_395, li_419, li_443, li_467, li_491, li_515, li_539, li_545, li_551, li_557, li_560, li_563, li_569, li_575, li_581, li_587, li_593, li_599, li_605, li_629, li_653, li_677, li_725, li_773, li_794, li_795, li_796, li_1000, li_1546, li_1592, li_6184, li_9552, li_10049, li_10348, li_100000, rb_mI, nI_add, nI_mul, nI_leI, nI_ltI, nI_eq, rb_rdn, rb_wrn, rb_n0, rb_m0, rb_m1n, rb_nm1, rb_m1lt, rb_m1le, rb_0m1, rb_ltm1, rb_lem1, Nat.add_zero, Nat.zero_le, Nat.not_lt_zero, Nat.one_ne_zero, Option.bind_some, Option.bind_none, Option.some.injEq, if_true, if_false, ite_true, ite_false, Sum.elim_inl, Sum.elim_inr, rb_nz0]
  have e : XX7_goOnWith a rd ag mf (upd na 0 (nI x)) (upd nb 0 bit) (upd nl 0 (nI 0)) (upd sv 0 (nI 0)) (nI 0) = some (a', rd', ag', mf', na', nb', nl', sv') := by
    show XX7_goOnWith a rd ag mf (upd na 0 (nI x)) (upd nb 0 bit) (upd nl 0 (nI 0)) (upd sv 0 (nI 0)) 0 = _
    rw [yn_goOn]
    refine rb_rne k2 ?_ (by
      have : rb_its 3 = 28849 := by decide
      omega)
    unfold bdR
    rw [if_pos]
    show nI 0 + mI < nI 0
    decide
  rw [e]
  rfl
set_option maxHeartbeats 4000000 in
theorem rp_call {z W q n : Nat} {π : Nat → Nat} {s s' : Nat} {c a : rb_Row} (hR : rR z W q n π s s' c a) (hs : s + 8 * rb_asl c + 700 + q + 3000 < 2000000000) (hW : W + 700 + 20 < 2000000000) {i x : Nat} (hi : i < n) (hx : x < 28) (ex : c (299 + i) = nI x) (g f rd ag mf na nb nl sv : rb_Row) : ∃ v b c1 g1 f1 c' g' f' a' rd' ag' mf' na' nb' nl' sv', XX0_callSleepers c g f (nI x) = some (nI b, c1, g1, f1) ∧ XX0_sendNotice 6 c1 g1 f1 (nI x) (nI 1) (nI 1) = some (c', g', f') ∧ XX7_call a rd ag mf na nb nl sv (nI x) = some (a', rd', ag', mf', na', nb', nl', sv') ∧ v ≤ 601 ∧ ∃ t t', rR z (W + v) q n π t t' c' a' ∧ rF c c' ∧ rG a a' ∧ t + 8 * rb_asl c' ≤ s + 8 * rb_asl c + v ∧ s ≤ t ∧ (∀ k, k ≠ 3 → k ≠ 11 → mf' k = mf k) ∧ rb_G c c' := by
  have hn : n ≤ 24 := hR.1.2.2.2.2.2.2.2
  have hI := hR.2.2.1
  have hA : rb_AA c n ≤ n := rb_cn_le _ _
  have hcf : rb_cf c n x 0 ≤ n := rb_cn_le _ _
  have hsq : s' ≤ s + q := hR.1.2.2.2.2.2.1
  have hv := rb_wt2 (rb_cf c n x 0) (by omega) (rb_AA c n) (by omega)
  obtain ⟨x', hx', ex', k4', _⟩ := hI.2.1 i hi
  have exx : x' = x := by
    rw [ex] at ex'
    exact ((nI_eq (by omega) (by omega)).mp ex').symm
  subst exx
  obtain ⟨o, o', eo, eo', b, c1, g1, f1, a1, rd1, ag1, mf1, e1, e1', hb, t, t', r1, r2, r3, r4, r5, r6, r7, _, rFED, _⟩ := rp_wake hR (by omega) (by omega) hx k4' g f rd ag mf
  subst e1 e1'
  obtain ⟨st, v, c', g', f', a', rd', ag', mf', na', nb', nl', sv', k1, k2, k3, k4, k5, k6⟩ := rp_NS (z := z) (q := q) (π := π) (cb := c) (ab := a) hn (fun i y hi hy ey => rb_A_set hI hi hy ey) 2 x' 6 0 1 (nI 1) hx (rI_hu2 hI hi hx ex) (by omega) (by omega) (by omega) (W + 1) t t' c1 g1 f1 a1 rd1 ag1 mf1 (upd na 0 (nI x')) (upd nb 0 (nI 1)) (upd nl 0 (nI 0)) (upd sv 0 (nI 0)) r1 r2 r3 (by omega) (by omega) (rb_upe rfl) (rb_upe rfl) (rb_upe rfl) (rb_upe rfl)
  obtain ⟨u, u', p1, p2, p3, p4, p5, p6, _, pFED, _⟩ := k5
  refine ⟨1 + v, b, c1, g1, f1, c', g', f', a', rd', ag', mf', na', nb', nl', sv', eo, k1, ?_, by omega, u, u', by rw [← Nat.add_assoc]; exact p1, rF_trans r2 p2, rG_trans r3 p3, by omega, by omega, fun k hk hk' => (p6 k hk hk').trans (r7 k hk), rb_G_trans (rb_G_same (fun t ht => rfl)) (rb_G_of (fun cb hF => pFED cb (rFED cb hF)))⟩
  unfold XX7_call XX7_notice XX7_beginNotice
  rw [eo']
  simp (disch := omega) only [li_0, li_1, li_2, li_3, li_4, li_5, li_6, li_7, li_8, li_9, li_10, li_11, li_12, li_13, li_14, li_15, li_16, li_17, li_18, li_19, li_20, li_21, li_22, li_23, li_24, li_25, li_26, li_27, li_28, li_29, li_30, li_31, li_32, li_33, li_34, li_35, li_36, li_37, li_38, li_39, li_40, li_41, li_42, li_47, li_50, li_60, li_63, li_75, li_100, li_103, li_131, li_159, li_184, li_187, li_215, li_243, li_256, li_271, li_296, li_299, li_323, li_347, li_371, li_395, li_419, li_443, li_467, li_491, li_515, li_539, li_545, li_551, li_557, li_560, li_563, li_569, li_575, li_581, li_587, li_593, li_599, li_605, li_629, li_653, li_677, li_725, li_773, li_794, li_795, li_796, li_1000, li_1546, li_1592, li_6184, li_9552, li_10049, li_10348, li_100000, rb_mI, nI_add, nI_mul, nI_leI, nI_ltI, nI_eq, rb_rdn, rb_wrn, rb_n0, rb_m0, rb_m1n, rb_nm1, rb_m1lt, rb_m1le, rb_0m1, rb_ltm1, rb_lem1, Nat.add_zero, Nat.zero_le, Nat.not_lt_zero, Nat.one_ne_zero, Option.bind_some, Option.bind_none, Option.some.injEq, if_true, if_false, ite_true, ite_false, Sum.elim_inl, Sum.elim_inr, rb_nz0]
  have e : XX7_goOnWith a1 rd1 ag1 mf1 (upd na 0 (nI x')) (upd nb 0 (nI 1)) (upd nl 0 (nI 0)) (upd sv 0 (nI 0)) (nI 0) = some (a', rd', ag', mf', na', nb', nl', sv') := by
    show XX7_goOnWith a1 rd1 ag1 mf1 (upd na 0 (nI x')) (upd nb 0 (nI 1)) (upd nl 0 (nI 0)) (upd sv 0 (nI 0)) 0 = _
    rw [yn_goOn]
    refine rb_rne k2 ?_ (by
      have : rb_its 2 = 1201 := by decide
      omega)
    unfold bdR
    rw [if_pos]
    show nI 0 + mI < nI 0
    decide
  rw [e]
  rfl
