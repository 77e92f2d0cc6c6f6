def bdK (t1 v9 : Int32) : (Int32 × rb_Row × rb_Row × rb_Row) → Option ((Int32 × rb_Row × rb_Row × rb_Row) ⊕ (rb_Row × rb_Row × rb_Row)) := fun (s17 : Int32 × rb_Row × rb_Row × rb_Row) => if 12 ≤ s17.1 then some (.inr (s17.2.1, s17.2.2.1, s17.2.2.2)) else if v9 = 5 then (XX5_longestWaiting s17.2.1 t1).bind fun t27 => if 0 ≤ t27 then (rb_rd s17.2.1 773 (131 + t27)).bind fun v30 => (XX5_remove s17.2.1 t27).bind fun t32 => (XX0_sendNotice 6 t32 s17.2.2.1 s17.2.2.2 v30 8 0).bind fun t34 => some (.inl ((s17.1 + 1), t34.1, t34.2.1, t34.2.2)) else some (.inr (s17.2.1, s17.2.2.1, s17.2.2.2)) else some (.inr (s17.2.1, s17.2.2.1, s17.2.2.2))
def bdTA (x0 : Int32) : (Int32 × rb_Row × rb_Row × rb_Row × rb_Row × rb_Row × rb_Row × rb_Row × rb_Row) → Option ((Int32 × rb_Row × rb_Row × rb_Row × rb_Row × rb_Row × rb_Row × rb_Row × rb_Row) ⊕ (rb_Row × rb_Row × rb_Row × rb_Row × rb_Row × rb_Row × rb_Row × rb_Row)) := fun (s3 : Int32 × rb_Row × rb_Row × rb_Row × rb_Row × rb_Row × rb_Row × rb_Row × rb_Row) => if s3.1 < 0 then some (.inr (s3.2.1, s3.2.2.1, s3.2.2.2.1, s3.2.2.2.2.1, s3.2.2.2.2.2.1, s3.2.2.2.2.2.2.1, s3.2.2.2.2.2.2.2.1, s3.2.2.2.2.2.2.2.2)) else (XX7_endGone s3.2.1 s3.2.2.1 s3.2.2.2.1 s3.2.2.2.2.1 s3.2.2.2.2.2.1 s3.2.2.2.2.2.2.1 s3.2.2.2.2.2.2.2.1 s3.2.2.2.2.2.2.2.2 s3.1).bind fun t12 => (XX7_longestWaiting t12.1 x0).bind fun t14 => some (.inl (t14, t12.1, t12.2.1, t12.2.2.1, t12.2.2.2.1, t12.2.2.2.2.1, t12.2.2.2.2.2.1, t12.2.2.2.2.2.2.1, t12.2.2.2.2.2.2.2))
theorem xn_removeT {c : rb_Row} {y : Nat} (hy : y < 28) (h : c (131 + y) = mI ∨ ∃ w, w < 28 ∧ c (131 + y) = nI w) : ∃ c', XX5_remove c (nI y) = some c' ∧ c' (19 + y) = mI ∧ c' (243 + y) = mI ∧ (∀ w, w < 28 → c (131 + y) = nI w → c' (131 + w) = mI) ∧ (∀ k, k ≠ 19 + y → k ≠ 243 + y → (∀ w, w < 28 → c (131 + y) = nI w → k ≠ 131 + w) → c' k = c k) := by
  unfold XX5_remove
  rcases h with h | ⟨v, hv, h⟩
  · refine ⟨upd (upd c (19 + y) mI) (243 + y) mI, ?_, ?_, rb_upe rfl, fun w hw e => ?_, fun k h1 h2 _ => ?_⟩
    · simp (disch := omega) only [↓reduceIte, Nat.reduceEqDiff, Nat.reduceLeDiff, eq_self, not_true_eq_false, not_false_eq_true, li_0, li_1, li_2, li_3, li_4, li_5, li_6, li_7, li_8, li_9, li_10, li_11, li_12, li_13, li_14, li_15, li_16, li_17, li_18, li_19, li_20, li_21, li_22, li_23, li_24, li_25, li_26, li_27, li_28, li_29, li_30, li_31, li_32, li_33, li_34, li_35, li_36, li_37, li_38, li_39, li_40, li_41, li_42, li_47, li_50, li_60, li_63, li_75, li_100, li_103, li_131, li_159, li_184, li_187, li_215, li_243, li_256, li_271, li_296, li_299, li_323, li_347, li_371, li_395, li_419, li_443, li_467, li_491, li_515, li_539, li_545, li_551, li_557, li_560, li_563, li_569, li_575, li_581, li_587, li_593, li_599, li_605, li_629, li_653, li_677, li_725, li_773, li_794, li_795, li_796, li_1000, li_1546, li_1592, li_6184, li_9552, li_10049, li_10348, li_100000, rb_mI, nI_add, nI_mul, nI_leI, nI_ltI, nI_eq, rb_rdn, rb_wrn, rb_n0, rb_m0, rb_m1n, rb_nm1, rb_m1lt, rb_m1le, rb_0m1, rb_ltm1, rb_lem1, Nat.add_zero, Nat.zero_le, Nat.not_lt_zero, Nat.one_ne_zero, Option.bind_some, Option.bind_none, Option.some.injEq, if_true, if_false, ite_true, ite_false, Sum.elim_inl, Sum.elim_inr, h]
    · rw [rb_upn (by omega)]; exact rb_upe rfl
    · rw [h] at e; exact absurd e.symm (rb_nmm (by omega))
    · rw [rb_upn h2, rb_upn h1]
  · refine ⟨upd (upd (upd c (131 + v) mI) (19 + y) mI) (243 + y) mI, ?_, ?_, rb_upe rfl, fun w hw e => ?_, fun k h1 h2 h3 => ?_⟩
    · simp (disch := omega) only [↓reduceIte, Nat.reduceEqDiff, Nat.reduceLeDiff, eq_self, not_true_eq_false, not_false_eq_true, li_0, li_1, li_2, li_3, li_4, li_5, li_6, li_7, li_8, li_9, li_10, li_11, li_12, li_13, li_14, li_15, li_16, li_17, li_18, li_19, li_20, li_21, li_22, li_23, li_24, li_25, li_26, li_27, li_28, li_29, li_30, li_31, li_32, li_33, li_34, li_35, li_36, li_37, li_38, li_39, li_40, li_41, li_42, li_47, li_50, li_60, li_63, li_75, li_100, li_103, li_131, li_159, li_184, li_187, li_215, li_243, li_256, li_271, li_296, li_299, li_323, li_347, li_371, li_395, li_419, li_443, li_467, li_491, li_515, li_539, li_545, li_551, li_557, li_560, li_563, li_569, li_575, li_581, li_587, li_593, li_599, li_605, li_629, li_653, li_677, li_725, li_773, li_794, li_795, li_796, li_1000, li_1546, li_1592, li_6184, li_9552, li_10049, li_10348, li_100000, rb_mI, nI_add, nI_mul, nI_leI, nI_ltI, nI_eq, rb_rdn, rb_wrn, rb_n0, rb_m0, rb_m1n, rb_nm1, rb_m1lt, rb_m1le, rb_0m1, rb_ltm1, rb_lem1, Nat.add_zero, Nat.zero_le, Nat.not_lt_zero, Nat.one_ne_zero, Option.bind_some, Option.bind_none, Option.some.injEq, if_true, if_false, ite_true, ite_false, Sum.elim_inl, Sum.elim_inr, h]
    · rw [rb_upn (by omega)]; exact rb_upe rfl
    · rw [h] at e
      have := (nI_eq (by omega) (by omega)).mp e
      subst this
      rw [rb_upn (by omega), rb_upn (by omega)]; exact rb_upe rfl
    · rw [rb_upn h2, rb_upn h1, rb_upn (h3 v hv h)]
theorem rp_endk {z s s' : Nat} {c a : rb_Row} (h : rH z s s' c a) {y e : Nat} (hy : y < 28) (he : e < 2) (hk : c (19 + y) = nI e) : ∃ p, p < 28 ∧ a (16 + 6 * y + 1) = nI p ∧ a (184 + 4 * p + (3 - e)) = c (131 + y) ∧ (c (131 + y) = mI ∨ ∃ w, w < 28 ∧ c (131 + y) = nI w) := by
  rcases (h.2.1 y hy).2 with g | ⟨e0, p0, r, b, g0, g1, g2, g3, g4, g5, g6, g7, g8, g9, g10, g11, g12, g13⟩ | ⟨b, _, g, _⟩ | ⟨b, _, g, _⟩ | ⟨g, _⟩ | ⟨k, r, g, _⟩
  · rw [g.1] at hk; exact absurd hk.symm (rb_nmm (by omega))
  · rw [hk] at g1
    have q1 := (nI_eq (by omega) (by omega)).mp g1
    subst q1
    exact ⟨p0, g2, g3, g5, g13⟩
  · rw [g] at hk; have := (nI_eq (by omega) (by omega)).mp hk; omega
  · rw [g] at hk; have := (nI_eq (by omega) (by omega)).mp hk; omega
  · rw [g] at hk; have := (nI_eq (by omega) (by omega)).mp hk; omega
  · rw [g] at hk; have := (nI_eq (by omega) (by omega)).mp hk; omega
set_option maxHeartbeats 8000000 in
theorem rp_end {z z' W q n : Nat} {π : Nat → Nat} {s s' : Nat} {c a : rb_Row} (h : rR z W q n π s s' c a) (hs : s + 8 * rb_asl c + 14424 + q + 3000 < 2000000000) (hW : W + 14424 + 20 < 2000000000) {y e : Nat} (hy : y < 28) (he : e < 2) (hk : c (19 + y) = nI e) (hun : ∀ j, j < 16 → c (3 + j) ≠ nI y) (hwy : c (243 + y) = mI ∨ c (243 + y) = nI z) (hz28 : z < 28) (hz : (z' = z ∧ y ≠ z) ∨ (z' = 28 ∧ y = z)) (g f rd ag mf na nb nl sv : rb_Row) : ∃ v c1 c' g' f' a' rd' ag' mf' na' nb' nl' sv' t t', XX5_remove c (nI y) = some c1 ∧ XX0_sendNotice 6 c1 g f (c (131 + y)) (if e = 1 then nI 4 else nI 8) (nI 0) = some (c', g', f') ∧ XX7_endGone a rd ag mf na nb nl sv (nI y) = some (a', rd', ag', mf', na', nb', nl', sv') ∧ rR z' (W + v) q n π t t' c' a' ∧ t + 8 * rb_asl c' ≤ s + 8 * rb_asl c + v ∧ (s ≤ t ∧ rb_G c1 c') ∧ (∀ k, k ≠ 3 → k ≠ 11 → mf' k = mf k) ∧ rF c1 c' ∧ c1 (19 + y) = mI ∧ c1 (243 + y) = mI ∧ (∀ w, w < 28 → c (131 + y) = nI w → c1 (131 + w) = mI ∧ c (19 + w) = nI (1 - e)) ∧ (∀ k, k ≠ 19 + y → k ≠ 243 + y → (∀ w, w < 28 → c (131 + y) = nI w → k ≠ 131 + w) → c1 k = c k) ∧ ((c (131 + y) = mI ∧ v = 0) ∨ ∃ w, w < 28 ∧ c (131 + y) = nI w ∧ v ≤ rb_cf c n w 0 * rb_wt (rb_AA c n) 3) := by
  have hH := h.2.1
  have hI := h.2.2.1
  have hn : n ≤ 24 := h.1.2.2.2.2.2.2.2
  obtain ⟨p, hp, hv, hoe, hpa⟩ := rp_endk hH hy he hk
  obtain ⟨c1, r1, r2, r3, r4, r5⟩ := xn_removeT hy hpa
  have hR1 := rp_endGone h hy he hp hk hv hun hwy hz28 hz r2 r3 r4 r5
  have hka : a (16 + 6 * y) = nI e := by rw [(hH.2.1 y hy).1]; exact hk
  have ho := yn_otherEnd a hy hp he hka hv
  rw [hoe] at ho
  have hasl : rb_asl c1 = rb_asl c := rb_asl_congr (fun t ht => r5 _ (by omega) (by omega) (fun w hw _ => by omega))
  have hc419 : ∀ k, 299 ≤ k → c1 k = c k := fun k hk => r5 k (by omega) (by omega) (fun w hw _ => by omega)
  have hbit : (if nI e = nI 1 then some (nI 4) else some (nI 8)) = some (if e = 1 then nI 4 else nI 8) := by
    have : e = 0 ∨ e = 1 := by omega
    rcases this with q | q <;> subst q <;> simp [ke_01]
  have q1 : XX7_kindOf a (nI y) = some (nI e) := by rw [xn_kindOf a hy, hka]
  have q3 : XX7_ofObject a (nI y) 1 = some (nI p) := by
    have := xn_ofObject a hy (f := 1) (by omega)
    rw [hv] at this
    exact this
  have q4 : XX7_pipeAt (nI p) (2 + nI e) = some (nI (184 + 4 * p + (2 + e))) := by
    have := xn_pipeAt p (2 + e)
    rw [← nI_add] at this
    exact this
  have q5 : rb_wr a 796 (nI (184 + 4 * p + (2 + e))) (-1) = some (upd a (184 + 4 * p + (2 + e)) mI) := rb_wrn (by omega) (by omega)
  have q6 : XX7_objectAt (nI y) 0 = some (nI (16 + 6 * y)) := xn_objectAt y 0
  have q7 : rb_wr (upd a (184 + 4 * p + (2 + e)) mI) 796 (nI (16 + 6 * y)) (-1) = some (upd (upd a (184 + 4 * p + (2 + e)) mI) (16 + 6 * y) mI) := rb_wrn (by omega) (by omega)
  have q8 : XX7_objectAt (nI y) 4 = some (nI (16 + 6 * y + 4)) := xn_objectAt y 4
  have q9 : rb_wr (upd (upd a (184 + 4 * p + (2 + e)) mI) (16 + 6 * y) mI) 796 (nI (16 + 6 * y + 4)) (-1) = some (upd (upd (upd a (184 + 4 * p + (2 + e)) mI) (16 + 6 * y) mI) (16 + 6 * y + 4) mI) := rb_wrn (by omega) (by omega)
  rcases hpa with hpa | ⟨w, hw, hpa⟩
  · refine ⟨0, c1, c1, g, f, _, rd, ag, mf, na, nb, nl, sv, s, s', r1, ?_, ?_, hR1, by omega, ⟨Nat.le_refl _, rb_G_same (fun _ _ => rfl)⟩, fun _ _ _ => rfl, rF_refl _, r2, r3, fun w hw q => ?_, r5, Or.inl ⟨hpa, rfl⟩⟩
    · rw [hpa]; exact xn_sendNone 5 c1 g f _ _
    · rw [hpa] at ho
      unfold XX7_endGone
      exact rb_bnd _ q1 (rb_bnd _ ho (rb_bnd _ q3 (rb_bnd _ q4 (rb_bnd _ q5 (rb_bnd _ q6 (rb_bnd _ q7 (rb_bnd _ q8 (rb_bnd _ q9 (if_pos (show mI < 0 by decide))))))))))
    · rw [hpa] at q; exact absurd q.symm (rb_nmm (by omega))
  · have hkw := rb_pk hH hy he hp hoe hw hpa
    obtain ⟨v, c', g', f', a', rd', ag', mf', na', nb', nl', sv', m1, m2, m3, t, t', n1, n2, n3, n4, n5, n6, _, nFED, _⟩ := rp_notice hR1 (by omega) hW hw (if e = 1 then nI 4 else nI 8) g f rd ag mf na nb nl sv
    have hcfe : rb_cf c1 n w 0 = rb_cf c n w 0 := rb_cn_congr (fun i hi => by rw [hc419 _ (by omega)])
    have hAe : rb_AA c1 n = rb_AA c n := by
      refine rb_cn_congr (fun i hi => ?_)
      obtain ⟨v', q1, q2, _⟩ := hI.2.2.1 i hi
      have q3 : c1 (323 + i) = nI v' := by rw [hc419 _ (by omega)]; exact q2
      rw [nt_n q3 (by omega), nt_n q2 (by omega)]
      have hne : v' ≠ y := fun q => (rb_unz h hy hun hi).2 (by rw [q2, q])
      rw [r5 _ (by omega) (by omega) (fun w hw _ => by omega)]
    rw [hcfe, hAe] at m3
    refine ⟨v, c1, c', g', f', a', rd', ag', mf', na', nb', nl', sv', t, t', r1, by rw [hpa]; exact m1, ?_, n1, by omega, ⟨n5, rb_G_of nFED⟩, n6, n2, r2, r3, fun u hu q => ⟨r4 u hu q, ?_⟩, r5, Or.inr ⟨w, hw, hpa, m3⟩⟩
    · rw [hpa] at ho
      unfold XX7_endGone
      exact rb_bnd _ q1 (rb_bnd _ ho (rb_bnd _ q3 (rb_bnd _ q4 (rb_bnd _ q5 (rb_bnd _ q6 (rb_bnd _ q7 (rb_bnd _ q8 (rb_bnd _ q9 ((if_neg (nI_pos (by omega))).trans (rb_bnd _ hbit (rb_bnd _ m2 rfl)))))))))))
    · rw [hpa] at q
      have := (nI_eq (by omega) (by omega)).mp q
      subst this; exact hkw.1
