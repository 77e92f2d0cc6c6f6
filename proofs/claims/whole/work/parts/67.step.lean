def XS0 (g f : rb_Row) (x0 v1 v3 v5 : Int32) (t7 : rb_Row) : Option (Int32 × rb_Row × rb_Row × rb_Row) := if v1 = 0 then (XX0_writeTo t7 g f v3 v5).bind fun t10 => some (t10.1, t10.2.1, t10.2.2.1, t10.2.2.2) else if v1 = 1 then (XX0_readFrom t7 g f v3 v5).bind fun t13 => some (t13.1, t13.2.1, t13.2.2.1, t13.2.2.2) else if v1 = 2 then (XX0_collectAt t7 g x0 v3 v5).bind fun t16 => some (t16.1, t16.2.1, t16.2.2, f) else if v1 = 3 then (XX0_awaitAt t7 g x0 v3 v5 0).bind fun t19 => some (t19.1, t19.2.1, t19.2.2, f) else if v1 = 4 then (XX0_closeHandle t7 g f v3).bind fun t22 => if t22.1 = 0 then some (0, t22.2.1, t22.2.2.1, t22.2.2.2) else some (1, t22.2.1, t22.2.2.1, t22.2.2.2) else if v1 = 5 then (XX0_findInterest t7 v3 v5).bind fun t26 => (XX0_armInterest t7 g f t26).bind fun t28 => if t28.1 = 0 then some (0, t28.2.1, t28.2.2.1, t28.2.2.2) else some (1, t28.2.1, t28.2.2.1, t28.2.2.2) else if v1 = 6 then (XX0_acceptFrom t7 v3).bind fun t32 => some (t32.1, t32.2, g, f) else if v1 = 7 then (XX0_connectTo t7 g f v3).bind fun t35 => some (t35.1, t35.2.1, t35.2.2.1, t35.2.2.2) else some ((-1), t7, g, f)
def XS7 (rd ag mf na nb nl sv wa : rb_Row) (x0 v3 v5 v7 : Int32) (j30 : rb_Row) : Option (Int32 × rb_Row × rb_Row × rb_Row × rb_Row × rb_Row × rb_Row × rb_Row × rb_Row × rb_Row) := if v3 = 0 then (XX7_goWrite j30 rd ag mf na nb nl sv wa v5 v7 0).bind fun t37 => some (t37.1, t37.2.1, t37.2.2.1, t37.2.2.2.1, t37.2.2.2.2.1, t37.2.2.2.2.2.1, t37.2.2.2.2.2.2.1, t37.2.2.2.2.2.2.2.1, t37.2.2.2.2.2.2.2.2.1, t37.2.2.2.2.2.2.2.2.2) else if v3 = 1 then (XX7_goRead j30 rd ag mf na nb nl sv wa v5 v7 0).bind fun t40 => some (t40.1, t40.2.1, t40.2.2.1, t40.2.2.2.1, t40.2.2.2.2.1, t40.2.2.2.2.2.1, t40.2.2.2.2.2.2.1, t40.2.2.2.2.2.2.2.1, t40.2.2.2.2.2.2.2.2.1, t40.2.2.2.2.2.2.2.2.2) else if v3 = 2 then (XX7_goCollectAt j30 rd ag mf wa x0 v5 v7 0).bind fun t43 => some (t43.1, t43.2.1, t43.2.2.1, t43.2.2.2.1, t43.2.2.2.2.1, na, nb, nl, sv, t43.2.2.2.2.2) else if v3 = 3 then (XX7_goAwait j30 rd ag mf wa x0 v5 v7 0 0).bind fun t46 => some (t46.1, t46.2.1, t46.2.2.1, t46.2.2.2.1, t46.2.2.2.2.1, na, nb, nl, sv, t46.2.2.2.2.2) else if v3 = 4 then (XX7_goClose j30 rd ag mf na nb nl sv wa v5 0).bind fun t49 => if t49.1 = 0 then some (0, t49.2.1, t49.2.2.1, t49.2.2.2.1, t49.2.2.2.2.1, t49.2.2.2.2.2.1, t49.2.2.2.2.2.2.1, t49.2.2.2.2.2.2.2.1, t49.2.2.2.2.2.2.2.2.1, t49.2.2.2.2.2.2.2.2.2) else some (1, t49.2.1, t49.2.2.1, t49.2.2.2.1, t49.2.2.2.2.1, t49.2.2.2.2.2.1, t49.2.2.2.2.2.2.1, t49.2.2.2.2.2.2.2.1, t49.2.2.2.2.2.2.2.2.1, t49.2.2.2.2.2.2.2.2.2) else if v3 = 5 then (XX7_changeAsIs j30 rd ag mf na nb nl sv v5 v7).bind fun t53 => if t53.1 = 0 then some (0, t53.2.1, t53.2.2.1, t53.2.2.2.1, t53.2.2.2.2.1, t53.2.2.2.2.2.1, t53.2.2.2.2.2.2.1, t53.2.2.2.2.2.2.2.1, t53.2.2.2.2.2.2.2.2, wa) else some (1, t53.2.1, t53.2.2.1, t53.2.2.2.1, t53.2.2.2.2.1, t53.2.2.2.2.2.1, t53.2.2.2.2.2.2.1, t53.2.2.2.2.2.2.2.1, t53.2.2.2.2.2.2.2.2, wa) else if v3 = 6 then (XX7_goAccept j30 mf wa v5 0).bind fun t57 => some (t57.1, t57.2.1, rd, ag, t57.2.2.1, na, nb, nl, sv, t57.2.2.2) else (XX7_goConnect j30 rd ag mf na nb nl sv wa v5 0).bind fun t59 => some (t59.1, t59.2.1, t59.2.2.1, t59.2.2.2.1, t59.2.2.2.2.1, t59.2.2.2.2.2.1, t59.2.2.2.2.2.2.1, t59.2.2.2.2.2.2.2.1, t59.2.2.2.2.2.2.2.2.1, t59.2.2.2.2.2.2.2.2.2)

theorem xs_do {c c1 g f : rb_Row} {t o : Nat} {r : Int32 × rb_Row × rb_Row × rb_Row} (ht : t < 6) (e1 : c (605 + t * 4) = nI o) (ep : XX4_turnProgram c (nI t) = some c1) (h : XS0 g f (nI t) (nI o) (c (629 + t * 4)) (c (653 + t * 4)) c1 = some r) : XX0_doStep c g f (nI t) = some r := by
  unfold XX0_doStep
  have q1 : (605 : Int32) + nI t * 4 = nI (605 + t * 4) := by rw [show (4 : Int32) = nI 4 from rfl, show (605 : Int32) = nI 605 from rfl, nI_mul, nI_add]
  have q2 : (629 : Int32) + nI t * 4 = nI (629 + t * 4) := by rw [show (4 : Int32) = nI 4 from rfl, show (629 : Int32) = nI 629 from rfl, nI_mul, nI_add]
  have q3 : (653 : Int32) + nI t * 4 = nI (653 + t * 4) := by rw [show (4 : Int32) = nI 4 from rfl, show (653 : Int32) = nI 653 from rfl, nI_mul, nI_add]
  refine rb_bnd (nI o) (by rw [q1, rb_rdn (by omega) (by omega), e1]) (rb_bnd _ (by rw [q2, rb_rdn (by omega) (by omega)]) (rb_bnd _ (by rw [q3, rb_rdn (by omega) (by omega)]) (rb_bnd _ ep ?_)))
  exact h
theorem xs_go {a a1 rd ag mf na nb nl sv wa : rb_Row} {t o l : Nat} {v5 v7 : Int32} {d : Int32} {r : Int32 × rb_Row × rb_Row × rb_Row × rb_Row × rb_Row × rb_Row × rb_Row × rb_Row × rb_Row} (ht : t < 6) (h1 : 1 ≤ l) (e1 : a (560 + 39 * t + 10) = nI o) (e2 : a (560 + 39 * t + 10 + 1) = v5) (e3 : a (560 + 39 * t + 10 + 2) = v7) (e9 : a (560 + 39 * t + 9) = nI l) (e38 : a (560 + 39 * t + 38) = d)
    (ep : ((if d = nI 1 then (XX7_putStep (upd (rb_tc a (560 + 39 * t + 10) 9 3) (560 + 39 * t + 9) (nI (l - 1))) (nI t) (nI o) v5 v7).bind fun t34 => some t34 else some (upd (rb_tc a (560 + 39 * t + 10) 9 3) (560 + 39 * t + 9) (nI (l - 1)))) : Option rb_Row) = some a1)
    (h : XS7 rd ag mf na nb nl sv wa (nI t) (nI o) v5 v7 a1 = some r) : XX7_goStep a rd ag mf na nb nl sv wa (nI t) = some r := by
  unfold XX7_goStep
  have k1 : rb_tc a (560 + 39 * t + 10) 9 3 (560 + 39 * t + 9) = nI l := by unfold rb_tc; rw [if_neg (by omega)]; exact e9
  have k2 : upd (rb_tc a (560 + 39 * t + 10) 9 3) (560 + 39 * t + 9) (nI (l - 1)) (560 + 39 * t + 38) = d := by rw [rb_upn (by omega)]; unfold rb_tc; rw [if_neg (by omega)]; exact e38
  have q1 : nI l - 1 = nI (l - 1) := rb_sub h1
  have t10 : XX7_taskAt (nI t) 10 = some (nI (560 + 39 * t + 10)) := by simp (disch := omega) only [↓reduceIte, Nat.reduceEqDiff, Nat.reduceLeDiff, eq_self, not_true_eq_false, not_false_eq_true, li_0, li_1, li_2, li_3, li_4, li_5, li_6, li_7, li_8, li_9, li_10, li_11, li_12, li_13, li_14, li_15, li_16, li_17, li_18, li_19, li_20, li_21, li_22, li_23, li_24, li_25, li_26, li_27, li_28, li_29, li_30, li_31, li_32, li_33, li_34, li_35, li_36, li_37, li_38, li_39, li_40, li_41, li_42, li_47, li_50, li_60, li_63, li_75, li_100, li_103, li_131, li_159, li_184, li_187, li_215, li_243, li_256, li_271, li_296, li_299, li_323, li_347, li_371, li_395, li_419, li_443, li_467, li_491, li_515, li_539, li_545, li_551, li_557, li_560, li_563, li_569, li_575, li_581, li_587, li_593, li_599, li_605, li_629, li_653, li_677, li_725, li_773, li_794, li_795, li_796, li_1000, li_1546, li_1592, li_6184, li_9552, li_10049, li_10348, li_100000, rb_mI, nI_add, nI_mul, nI_leI, nI_ltI, nI_eq, rb_rdn, rb_wrn, rb_n0, rb_m0, rb_m1n, rb_nm1, rb_m1lt, rb_m1le, rb_0m1, rb_ltm1, rb_lem1, Nat.add_zero, Nat.zero_le, Nat.not_lt_zero, Nat.one_ne_zero, Option.bind_some, Option.bind_none, Option.some.injEq, if_true, if_false, ite_true, ite_false, Sum.elim_inl, Sum.elim_inr, xn_ofObject, xn_ofPipe, xn_ofInterest, xn_ofTask, xn_kindOf, xn_bitsOf7, xn_isInterest, xn_isAsleep, xn_objectAt, xn_pipeAt, xn_interestAt, xn_taskAt, rb_nz0, rb_nz1, rb_n10, Nat.one_ne_zero, eq_self]
  have t9 : XX7_taskAt (nI t) 9 = some (nI (560 + 39 * t + 9)) := by simp (disch := omega) only [↓reduceIte, Nat.reduceEqDiff, Nat.reduceLeDiff, eq_self, not_true_eq_false, not_false_eq_true, li_0, li_1, li_2, li_3, li_4, li_5, li_6, li_7, li_8, li_9, li_10, li_11, li_12, li_13, li_14, li_15, li_16, li_17, li_18, li_19, li_20, li_21, li_22, li_23, li_24, li_25, li_26, li_27, li_28, li_29, li_30, li_31, li_32, li_33, li_34, li_35, li_36, li_37, li_38, li_39, li_40, li_41, li_42, li_47, li_50, li_60, li_63, li_75, li_100, li_103, li_131, li_159, li_184, li_187, li_215, li_243, li_256, li_271, li_296, li_299, li_323, li_347, li_371, li_395, li_419, li_443, li_467, li_491, li_515, li_539, li_545, li_551, li_557, li_560, li_563, li_569, li_575, li_581, li_587, li_593, li_599, li_605, li_629, li_653, li_677, li_725, li_773, li_794, li_795, li_796, li_1000, li_1546, li_1592, li_6184, li_9552, li_10049, li_10348, li_100000, rb_mI, nI_add, nI_mul, nI_leI, nI_ltI, nI_eq, rb_rdn, rb_wrn, rb_n0, rb_m0, rb_m1n, rb_nm1, rb_m1lt, rb_m1le, rb_0m1, rb_ltm1, rb_lem1, Nat.add_zero, Nat.zero_le, Nat.not_lt_zero, Nat.one_ne_zero, Option.bind_some, Option.bind_none, Option.some.injEq, if_true, if_false, ite_true, ite_false, Sum.elim_inl, Sum.elim_inr, xn_ofObject, xn_ofPipe, xn_ofInterest, xn_ofTask, xn_kindOf, xn_bitsOf7, xn_isInterest, xn_isAsleep, xn_objectAt, xn_pipeAt, xn_interestAt, xn_taskAt, rb_nz0, rb_nz1, rb_n10, Nat.one_ne_zero, eq_self]
  have p1 : nI (560 + 39 * t + 10) + 1 = nI (560 + 39 * t + 10 + 1) := nI_add _ 1
  have p2 : nI (560 + 39 * t + 10) + 2 = nI (560 + 39 * t + 10 + 2) := nI_add _ 2
  refine rb_bnd _ t10 (rb_bnd (nI o) (by rw [rb_rdn (by omega) (by omega), e1]) (rb_bnd v5 (by rw [p1, rb_rdn (by omega) (by omega), e2]) (rb_bnd v7 (by rw [p2, rb_rdn (by omega) (by omega), e3]) (rb_bnd _ (yn_shift ht) (rb_bnd _ t9 (rb_bnd (nI l) (by rw [rb_rdn (by omega) (by omega), k1]) (rb_bnd (upd (rb_tc a (560 + 39 * t + 10) 9 3) (560 + 39 * t + 9) (nI (l - 1))) (by rw [q1, rb_wrn (by omega) (by omega)]) (rb_bnd d ?_ (rb_bnd _ ep ?_)))))))))
  · generalize upd (rb_tc a (560 + 39 * t + 10) 9 3) (560 + 39 * t + 9) (nI (l - 1)) = aa at k2
    simp (disch := omega) only [↓reduceIte, Nat.reduceEqDiff, Nat.reduceLeDiff, eq_self, not_true_eq_false, not_false_eq_true, li_0, li_1, li_2, li_3, li_4, li_5, li_6, li_7, li_8, li_9, li_10, li_11, li_12, li_13, li_14, li_15, li_16, li_17, li_18, li_19, li_20, li_21, li_22, li_23, li_24, li_25, li_26, li_27, li_28, li_29, li_30, li_31, li_32, li_33, li_34, li_35, li_36, li_37, li_38, li_39, li_40, li_41, li_42, li_47, li_50, li_60, li_63, li_75, li_100, li_103, li_131, li_159, li_184, li_187, li_215, li_243, li_256, li_271, li_296, li_299, li_323, li_347, li_371, li_395, li_419, li_443, li_467, li_491, li_515, li_539, li_545, li_551, li_557, li_560, li_563, li_569, li_575, li_581, li_587, li_593, li_599, li_605, li_629, li_653, li_677, li_725, li_773, li_794, li_795, li_796, li_1000, li_1546, li_1592, li_6184, li_9552, li_10049, li_10348, li_100000, rb_mI, nI_add, nI_mul, nI_leI, nI_ltI, nI_eq, rb_rdn, rb_wrn, rb_n0, rb_m0, rb_m1n, rb_nm1, rb_m1lt, rb_m1le, rb_0m1, rb_ltm1, rb_lem1, Nat.add_zero, Nat.zero_le, Nat.not_lt_zero, Nat.one_ne_zero, Option.bind_some, Option.bind_none, Option.some.injEq, if_true, if_false, ite_true, ite_false, Sum.elim_inl, Sum.elim_inr, xn_ofObject, xn_ofPipe, xn_ofInterest, xn_ofTask, xn_kindOf, xn_bitsOf7, xn_isInterest, xn_isAsleep, xn_objectAt, xn_pipeAt, xn_interestAt, xn_taskAt, rb_nz0, rb_nz1, rb_n10, Nat.one_ne_zero, eq_self, k2]
  · exact h
theorem rb_oq_RB {B K q K' : Nat} {did : Prop} {c0 a0 mf0 wa0 c a mf wa : rb_Row} (h : rb_oq B K q did c0 a0 mf0 wa0 mf0 wa0 c a mf wa) (h0 : rb_RB B q c0 a0) (hK : K ≤ K') : rb_RB (B + K') q c a ∧ (∀ k, k ≠ 3 → k ≠ 11 → mf k = mf0 k) ∧ wa = wa0 ∧ (∀ k, 593 ≤ k → k < 677 → c k = c0 k) ∧ rb_GT c0 c := by
  rcases h with ⟨_, h2, h3, h4, h5⟩ | ⟨_, h2, h3, h4, h5⟩
  · exact ⟨rb_RB_mono h2 (by omega), h3, h4, h5⟩
  · subst h2 h3 h4 h5
    exact ⟨rb_RB_mono h0 (by omega), fun _ _ _ => rfl, rfl, fun _ _ _ => rfl, rb_GT_same (fun _ _ => rfl)⟩
theorem rb_out_RB {B K q K' : Nat} {did : Prop} {c0 a0 f0 mf0 wa0 c a f mf wa : rb_Row} (h : rb_out B K q did c0 a0 f0 mf0 wa0 mf0 wa0 c a f mf wa) (h0 : rb_RB B q c0 a0) (hK : K ≤ K') : rb_RB (B + K') q c a ∧ (∀ k, k ≠ 3 → k ≠ 11 → mf k = mf0 k) ∧ wa = wa0 ∧ (∀ k, 593 ≤ k → k < 677 → c k = c0 k) ∧ rb_GT c0 c := by
  exact rb_oq_RB (rb_oq_out h) h0 hK
set_option maxHeartbeats 16000000 in
/-- one step of a task's program -/
theorem ra_step {B q : Nat} {c a : rb_Row} (h : rb_RB B q c a) (hb : B + q + 40000 < 2000000000) {t l : Nat} (ht : t < 6) (h1 : 1 ≤ l) (h4 : l ≤ 4) (hl : c (599 + t) = nI l) (g f rd ag mf na nb nl sv wa : rb_Row) : ∃ ans c' g' f' a' rd' ag' mf' na' nb' nl' sv', XX0_doStep c g f (nI t) = some (ans, c', g', f') ∧ XX7_goStep a rd ag mf na nb nl sv wa (nI t) = some (ans, a', rd', ag', mf', na', nb', nl', sv', wa) ∧ rb_RB (B + 2200) q c' a' ∧ (∀ k, k ≠ 3 → k ≠ 11 → mf' k = mf k) ∧ (∀ k, 593 ≤ k → k < 599 → c' k = c k) ∧ (∀ u, u < 6 → u ≠ t → c' (599 + u) = c (599 + u)) ∧ (c (593 + t) = nI 0 → c' (599 + t) = nI (l - 1)) ∧ rb_GT c c' := by
  obtain ⟨n, π, s, s', hR, hs⟩ := h
  obtain ⟨c1, a1, o, ho, e1, e2, e3, e4, hp, hq, hR1, hfr, hoth, hle⟩ := rp_prog hR ht h1 h4 hl
  have hB : rb_RB B q c1 a1 := ⟨n, π, s, s', hR1, by rw [rb_asl_congr (fun u hu => hfr (539 + u) (by omega))]; exact hs⟩
  have hT := hR.2.2.2.2
  have e9 : a (560 + 39 * t + 9) = nI l := by rw [(hT.1 t ht).2.2.2.2.2.2.2.2.1]; exact hl
  have e38 : a (560 + 39 * t + 38) = c (593 + t) := (hT.1 t ht).2.2.2.2.2.2.2.2.2
  have fin : ∀ {ans : Int32} {c' g' f' a' rd' ag' mf' na' nb' nl' sv' : rb_Row}, XS0 g f (nI t) (nI o) (c (629 + t * 4)) (c (653 + t * 4)) c1 = some (ans, c', g', f') → XS7 rd ag mf na nb nl sv wa (nI t) (nI o) (c (629 + t * 4)) (c (653 + t * 4)) a1 = some (ans, a', rd', ag', mf', na', nb', nl', sv', wa) → rb_RB (B + 2200) q c' a' → (∀ k, k ≠ 3 → k ≠ 11 → mf' k = mf k) → ((∀ k, 593 ≤ k → k < 677 → c' k = c1 k) ∧ rb_GT c1 c') → ∃ ans c' g' f' a' rd' ag' mf' na' nb' nl' sv', XX0_doStep c g f (nI t) = some (ans, c', g', f') ∧ XX7_goStep a rd ag mf na nb nl sv wa (nI t) = some (ans, a', rd', ag', mf', na', nb', nl', sv', wa) ∧ rb_RB (B + 2200) q c' a' ∧ (∀ k, k ≠ 3 → k ≠ 11 → mf' k = mf k) ∧ (∀ k, 593 ≤ k → k < 599 → c' k = c k) ∧ (∀ u, u < 6 → u ≠ t → c' (599 + u) = c (599 + u)) ∧ (c (593 + t) = nI 0 → c' (599 + t) = nI (l - 1)) ∧ rb_GT c c' := fun {ans c' g' f' a' rd' ag' mf' na' nb' nl' sv'} g1 g2 g3 g4 g5 =>
    ⟨ans, c', g', f', a', rd', ag', mf', na', nb', nl', sv', xs_do ht e1 hp g1, xs_go ht h1 e2 e3 e4 e9 e38 hq g2, g3, g4, fun k i1 i2 => (g5.1 k i1 (by omega)).trans (hfr k i2), fun u hu hne => (g5.1 _ (by omega) (by omega)).trans (hoth u hu hne), fun i => (g5.1 _ (by omega) (by omega)).trans (hle i), rb_GT_base g5.2 (fun u hu => hfr _ (by omega))⟩
  generalize c (629 + t * 4) = v5 at fin
  generalize c (653 + t * 4) = v7 at fin
  clear hq hp e1 e2 e3 e4 hR hR1 hT
  have KP : ∀ x, x = nI 0 → rb_KP x mf wa a1 mf wa := fun x hx => Or.inl ⟨hx, rfl, rfl⟩
  match o, ho with
  | 0, _ =>
    obtain ⟨ans, c', g', f', a', rd', ag', mf', na', nb', nl', sv', wa', x1, x2, x3⟩ := ra_write hB (by omega) v5 v7 0 g f rd ag mf na nb nl sv wa mf wa (KP _ rfl)
    obtain ⟨y1, y2, y3, y4⟩ := rb_out_RB x3 hB (K' := 2200) (by omega)
    subst y3
    exact fin (rb_bnd _ x1 rfl) (rb_bnd _ x2 rfl) y1 y2 y4
  | 1, _ =>
    obtain ⟨ans, c', g', f', a', rd', ag', mf', na', nb', nl', sv', wa', x1, x2, x3⟩ := ra_read hB (by omega) v5 v7 0 g f rd ag mf na nb nl sv wa mf wa (KP _ rfl)
    obtain ⟨y1, y2, y3, y4⟩ := rb_out_RB x3 hB (K' := 2200) (by omega)
    subst y3
    exact fin (rb_bnd _ x1 rfl) (rb_bnd _ x2 rfl) y1 y2 y4
  | 2, _ =>
    obtain ⟨ans, c', g', a', rd', ag', mf', wa', x1, x2, x3⟩ := ra_collect hB (by omega) (nI t) v5 v7 0 g rd ag mf wa mf wa (KP _ rfl)
    obtain ⟨y1, y2, y3, y4⟩ := rb_oq_RB x3 hB (K' := 2200) (by omega)
    subst y3
    exact fin (f' := f) (na' := na) (nb' := nb) (nl' := nl) (sv' := sv) (rb_bnd _ x1 rfl) (rb_bnd _ x2 rfl) y1 y2 y4
  | 3, _ =>
    obtain ⟨ans, c', g', a', rd', ag', mf', wa', x1, x2, x3⟩ := ra_await hB (by omega) (nI t) v5 v7 0 0 g rd ag mf wa mf wa (KP _ rfl)
    obtain ⟨y1, y2, y3, y4⟩ := rb_oq_RB x3 hB (K' := 2200) (by omega)
    subst y3
    exact fin (f' := f) (na' := na) (nb' := nb) (nl' := nl) (sv' := sv) (rb_bnd _ x1 rfl) (rb_bnd _ x2 rfl) y1 y2 y4
  | 4, _ =>
    obtain ⟨ans, c', g', f', a', rd', ag', mf', na', nb', nl', sv', wa', x1, x2, x0, x3⟩ := ra_close hB (by omega) v5 0 g f rd ag mf na nb nl sv wa mf wa (KP _ rfl)
    obtain ⟨y1, y2, y3, y4⟩ := rb_oq_RB x3 hB (K' := 2200) (by omega)
    subst y3
    rcases x0 with x0 | x0 <;> subst x0
    · exact fin (rb_bnd _ x1 rfl) (rb_bnd _ x2 rfl) y1 y2 y4
    · exact fin (rb_bnd _ x1 rfl) (rb_bnd _ x2 rfl) y1 y2 y4
  | 5, _ =>
    obtain ⟨b, th, c', g', f', a', rd', ag', mf', na', nb', nl', sv', x0, x4, x1, x2, y1, y2, y4⟩ := ra_rearm hB (by omega) v5 v7 g f rd ag mf na nb nl sv
    have y1' := rb_RB_mono y1 (show B + 700 ≤ B + 2200 by omega)
    match b, x0 with
    | 0, _ => exact fin (rb_bnd _ x4 (rb_bnd _ x1 rfl)) (rb_bnd _ x2 rfl) y1' y2 y4
    | 1, _ => exact fin (rb_bnd _ x4 (rb_bnd _ x1 rfl)) (rb_bnd _ x2 rfl) y1' y2 y4
  | 6, _ =>
    obtain ⟨ans, c', a', mf', wa', x1, x2, x3⟩ := ra_accept hB (by omega) v5 0 mf wa mf wa (KP _ rfl)
    obtain ⟨y1, y2, y3, y4⟩ := rb_oq_RB x3 hB (K' := 2200) (by omega)
    subst y3
    exact fin (g' := g) (f' := f) (rd' := rd) (ag' := ag) (na' := na) (nb' := nb) (nl' := nl) (sv' := sv) (rb_bnd _ x1 rfl) (rb_bnd _ x2 rfl) y1 y2 y4
  | 7, _ =>
    obtain ⟨ans, c', g', f', a', rd', ag', mf', na', nb', nl', sv', wa', x1, x2, x3⟩ := ra_connect hB (by omega) v5 0 g f rd ag mf na nb nl sv wa mf wa (KP _ rfl)
    obtain ⟨y1, y2, y3, y4⟩ := rb_oq_RB x3 hB (K' := 2200) (by omega)
    subst y3
    exact fin (rb_bnd _ x1 rfl) (rb_bnd _ x2 rfl) y1 y2 y4
