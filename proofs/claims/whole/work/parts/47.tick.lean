def bdP1 (v1 : Int32) : (Int32 × rb_Row × rb_Row × rb_Row) → Option ((Int32 × rb_Row × rb_Row × rb_Row) ⊕ (rb_Row × rb_Row × rb_Row)) := fun (s5 : Int32 × rb_Row × rb_Row × rb_Row) => if 16 ≤ s5.1 then some (.inr (s5.2.1, s5.2.2.1, s5.2.2.2)) else (rb_rd s5.2.1 773 (3 + s5.1)).bind fun v14 => ((if v14 < 0 then some (s5.2.1, s5.2.2.1, s5.2.2.2) else (rb_rd s5.2.1 773 (19 + v14)).bind fun v20 => if v20 = 3 then (rb_rd s5.2.1 773 (159 + v14)).bind fun v23 => if v23 = (v1 + 1) then (rb_rd s5.2.1 773 (47 + v14)).bind fun v26 => (rb_wr s5.2.1 773 (47 + v14) (rb_min 1000 (v26 + 1))).bind fun c28 => (rb_rd c28 773 (187 + v14)).bind fun v30 => ((if v30 = 0 then some (-1) else (rb_rd c28 773 (187 + v14)).bind fun v36 => some ((v1 + 1) + v36)) : Option (Int32)).bind fun j32 => (rb_wr c28 773 (159 + v14) j32).bind fun c38 => (XX0_sendNotice 6 c38 s5.2.2.1 s5.2.2.2 v14 1 0).bind fun t40 => some (t40.1, t40.2.1, t40.2.2) else some (s5.2.1, s5.2.2.1, s5.2.2.2) else some (s5.2.1, s5.2.2.1, s5.2.2.2)) : Option (rb_Row × rb_Row × rb_Row)).bind fun j16 => some (.inl ((s5.1 + 1), j16.1, j16.2.1, j16.2.2))
def bdT1 : (Int32 × rb_Row × rb_Row × rb_Row × rb_Row × rb_Row × rb_Row × rb_Row × rb_Row) → Option ((Int32 × rb_Row × rb_Row × rb_Row × rb_Row × rb_Row × rb_Row × rb_Row × rb_Row) ⊕ (rb_Row × rb_Row × rb_Row × rb_Row × rb_Row × rb_Row × rb_Row × rb_Row)) := fun (s5 : Int32 × rb_Row × rb_Row × rb_Row × rb_Row × rb_Row × rb_Row × rb_Row × rb_Row) => if 16 ≤ s5.1 then some (.inr (s5.2.1, s5.2.2.1, s5.2.2.2.1, s5.2.2.2.2.1, s5.2.2.2.2.2.1, s5.2.2.2.2.2.2.1, s5.2.2.2.2.2.2.2.1, s5.2.2.2.2.2.2.2.2)) else (XX7_names s5.2.1 s5.1 3).bind fun t14 => ((if t14 = 0 then some (s5.2.1, s5.2.2.1, s5.2.2.2.1, s5.2.2.2.2.1, s5.2.2.2.2.2.1, s5.2.2.2.2.2.2.1, s5.2.2.2.2.2.2.2.1, s5.2.2.2.2.2.2.2.2) else (rb_rd s5.2.1 796 s5.1).bind fun v20 => (XX7_lowestOf s5.2.1 v20).bind fun t22 => if t22 = s5.1 then (rb_rd s5.2.1 796 s5.1).bind fun v25 => (XX7_ofObject s5.2.1 v25 2).bind fun t27 => (rb_rd s5.2.1 796 794).bind fun v29 => if t27 = v29 then (rb_rd s5.2.1 796 s5.1).bind fun v32 => (XX7_fire s5.2.1 s5.2.2.1 s5.2.2.2.1 s5.2.2.2.2.1 s5.2.2.2.2.2.1 s5.2.2.2.2.2.2.1 s5.2.2.2.2.2.2.2.1 s5.2.2.2.2.2.2.2.2 v32).bind fun t34 => some (t34.1, t34.2.1, t34.2.2.1, t34.2.2.2.1, t34.2.2.2.2.1, t34.2.2.2.2.2.1, t34.2.2.2.2.2.2.1, t34.2.2.2.2.2.2.2) else some (s5.2.1, s5.2.2.1, s5.2.2.2.1, s5.2.2.2.2.1, s5.2.2.2.2.2.1, s5.2.2.2.2.2.2.1, s5.2.2.2.2.2.2.2.1, s5.2.2.2.2.2.2.2.2) else some (s5.2.1, s5.2.2.1, s5.2.2.2.1, s5.2.2.2.2.1, s5.2.2.2.2.2.1, s5.2.2.2.2.2.2.1, s5.2.2.2.2.2.2.2.1, s5.2.2.2.2.2.2.2.2)) : Option (rb_Row × rb_Row × rb_Row × rb_Row × rb_Row × rb_Row × rb_Row × rb_Row)).bind fun j16 => some (.inl ((s5.1 + 1), j16.1, j16.2.1, j16.2.2.1, j16.2.2.2.1, j16.2.2.2.2.1, j16.2.2.2.2.2.1, j16.2.2.2.2.2.2.1, j16.2.2.2.2.2.2.2))
/-- timers that are due, as interests see them -/
def rb_DD (c : rb_Row) (n : Nat) (now : Int32) : Nat := rb_cn (fun i => decide (c (19 + nt (c (323 + i))) = nI 3) && decide (c (159 + nt (c (323 + i))) = now)) n
theorem rb_D_A (c : rb_Row) (n : Nat) (now : Int32) : rb_DD c n now + rb_AA c n ≤ n := by
  refine rb_cn_two (fun i hi hp => ?_)
  simp only [Bool.and_eq_true, decide_eq_true_eq] at hp
  rw [decide_eq_false_iff_not, hp.1]
  exact rb_kne rfl (by omega) (by omega) (by omega)
theorem rb_D_same {c c' : rb_Row} {n : Nat} (hn : n ≤ 24) (ha : rb_aims c n) (h : ∀ k, 2 ≤ k → k < 419 → c' k = c k) (now : Int32) : rb_DD c' n now = rb_DD c n now ∧ rb_AA c' n = rb_AA c n := by
  refine ⟨rb_cn_congr (fun i hi => ?_), rb_cn_congr (fun i hi => ?_)⟩
  · obtain ⟨y, hy, ey, _⟩ := ha i hi
    rw [h (323 + i) (by omega) (by omega), nt_n ey (by omega), h (19 + y) (by omega) (by omega), h (159 + y) (by omega) (by omega)]
  · obtain ⟨y, hy, ey, _⟩ := ha i hi
    rw [h (323 + i) (by omega) (by omega), nt_n ey (by omega), h (19 + y) (by omega) (by omega)]
theorem rb_D_fire {c c' : rb_Row} {n x : Nat} {now : Int32} (hn : n ≤ 24) (hx : x < 28) (ha : rb_aims c n) (hk : c (19 + x) = nI 3) (hnx : c (159 + x) = now) (hnx' : c' (159 + x) ≠ now) (h : ∀ k, (k < 47 ∨ 243 ≤ k) → c' k = c k) (h2 : ∀ y, y < 28 → y ≠ x → c' (159 + y) = c (159 + y)) : rb_DD c' n now + rb_cf c n x 0 = rb_DD c n now := by
  unfold rb_DD rb_cf
  have key : ∀ m, m ≤ n → rb_cn (fun i => decide (c' (19 + nt (c' (323 + i))) = nI 3) && decide (c' (159 + nt (c' (323 + i))) = now)) m + rb_cn (fun j => decide (0 ≤ j) && decide (c (323 + j) = nI x)) m = rb_cn (fun i => decide (c (19 + nt (c (323 + i))) = nI 3) && decide (c (159 + nt (c (323 + i))) = now)) m := by
    intro m
    induction m with
    | zero => intro _; rfl
    | succ m ih =>
      intro hm
      have ih' := ih (by omega)
      simp only [rb_cn]
      obtain ⟨y, hy, ey, _⟩ := ha m (by omega)
      rw [h (323 + m) (by omega), nt_n ey (by omega), h (19 + y) (by omega)]
      by_cases e : y = x
      · subst e
        have e1 : decide (c (323 + m) = nI y) = true := by simp [ey]
        have e2 : decide (c' (159 + y) = now) = false := by simp [hnx']
        rw [e1, e2, hk, hnx]
        simp at ih' ⊢
        omega
      · have e1 : decide (c (323 + m) = nI x) = false := by
          rw [ey]
          simp
          intro g
          exact e ((nI_eq (by omega) (by omega)).mp g)
        rw [e1, h2 y hy e]
        simp at ih' ⊢
        omega
  exact key n (Nat.le_refl _)
/-- a moment goes by: handles one by one -/
def rb_TI (q n : Nat) (π : Nat → Nat) (K wt A j : Nat) (now : Int32) (c0 f0 mf0 c f a mf : rb_Row) : Prop :=
  ∃ W s s', rR 28 W q n π s s' c a ∧ c 0 = now ∧ W + rb_DD c n now * wt ≤ K ∧ s + 8 * rb_asl c + rb_DD c n now * wt ≤ K ∧ rb_AA c n = A ∧ (∀ h x, h < j → h < 16 → x < 28 → c (3 + h) = nI x → c (19 + x) = nI 3 → c (159 + x) ≠ now) ∧ (∀ k, 3 ≤ k → k < 47 → c k = c0 k) ∧ (∀ k, k ≠ 3 → k ≠ 11 → mf k = mf0 k) ∧ (∀ cb, rb_WOK cb c0 f0 → rb_WOK cb c f)
theorem rb_add0 {v e : Int32} (h : v + e = v) : e = 0 := by
  have : v + e - v = v - v := by rw [h]
  rw [Int32.sub_self, Int32.add_comm, Int32.add_sub_cancel] at this
  exact this
set_option maxHeartbeats 16000000 in
theorem rp_fire {q n : Nat} {π : Nat → Nat} {K A j x : Nat} {now : Int32} {c0 f0 mf0 c f a mf : rb_Row} (hK : K + q + 20000 < 2000000000) (hj : j < 16) (h : rb_TI q n π K (rb_wt A 3) A j now c0 f0 mf0 c f a mf) (hx : x < 28) (ec : c (3 + j) = nI x) (hk : c (19 + x) = nI 3) (hnx : c (159 + x) = now) (g rd ag na nb nl sv : rb_Row) : ∃ b ev c' g' f' a' rd' ag' mf' na' nb' nl' sv', c (47 + x) = nI b ∧ b ≤ 1000 ∧ c (187 + x) = ev ∧ XX0_sendNotice 6 (upd (upd c (47 + x) (nI (min 1000 (b + 1)))) (159 + x) (if ev = nI 0 then mI else now + ev)) g f (nI x) (nI 1) (nI 0) = some (c', g', f') ∧ XX7_fire a rd ag mf na nb nl sv (nI x) = some (a', rd', ag', mf', na', nb', nl', sv') ∧ rb_TI q n π K (rb_wt A 3) A (j + 1) now c0 f0 mf0 c' f' a' mf' := by
  obtain ⟨W, s, s', hR, hnow, hW, hB, hA, hdone, hnm, hmf, hwok⟩ := h
  have hn : n ≤ 24 := hR.1.2.2.2.2.2.2.2
  have hH := hR.2.1
  have hI := hR.2.2.1
  have hka := (hH.2.1 x hx).1
  obtain ⟨b, b1, b2, b3, b4, b5, b6, b7⟩ : ∃ b, b ≤ 1000 ∧ c (47 + x) = nI b ∧ a (16 + 6 * x + 1) = nI b ∧ c (131 + x) = mI ∧ c (103 + x) = nI 0 ∧ a (16 + 6 * x + 2) = c (159 + x) ∧ (c (159 + x) = mI ∨ a (16 + 6 * x + 3) = c (187 + x)) := by
    rcases (hH.2.1 x hx).2 with g | ⟨e, p, r, b, g0, g1, _⟩ | ⟨b, _, g, _⟩ | ⟨b, g1, g2, g3⟩ | ⟨g, _⟩ | ⟨k, r, g, _⟩
    · rw [g.1] at hk; exact absurd hk.symm (rb_nmm (by omega))
    · rw [g1] at hk; have := (nI_eq (by omega) (by omega)).mp hk; omega
    · rw [g] at hk; have := (nI_eq (by omega) (by omega)).mp hk; omega
    · exact ⟨b, g1, g3⟩
    · rw [g] at hk; have := (nI_eq (by omega) (by omega)).mp hk; omega
    · rw [g] at hk; have := (nI_eq (by omega) (by omega)).mp hk; omega
  have hnm1 : now ≠ mI := by
    obtain ⟨t, ht, et⟩ := hR.1.2.1
    rw [← hnow, et]; exact rb_nmm (by omega)
  have hev : a (16 + 6 * x + 3) = c (187 + x) := by
    rcases b7 with g | g
    · rw [hnx] at g; exact absurd g hnm1
    · exact g
  have hnx' : (if c (187 + x) = nI 0 then mI else now + c (187 + x)) ≠ now := by
    by_cases e : c (187 + x) = nI 0
    · rw [if_pos e]; exact fun g => hnm1 g.symm
    · rw [if_neg e]; exact fun g => e (rb_add0 g)
  have hR1 := rp_val hR hx (Or.inr hk) (b := min 1000 (b + 1)) (by omega)
  have hR2 := rp_next hR1 hx (by rw [rb_upn (by omega)]; exact hk) (if c (187 + x) = nI 0 then mI else now + c (187 + x)) (c (187 + x)) (a (16 + 6 * x + 3)) (Or.inr hev)
  have hid : upd (upd (upd c (47 + x) (nI (min 1000 (b + 1)))) (159 + x) (if c (187 + x) = nI 0 then mI else now + c (187 + x))) (187 + x) (c (187 + x)) = upd (upd c (47 + x) (nI (min 1000 (b + 1)))) (159 + x) (if c (187 + x) = nI 0 then mI else now + c (187 + x)) := by
    funext k
    by_cases e : k = 187 + x
    · subst e; simp (disch := omega) only [rb_upn, rb_upe]
    · rw [rb_upn e]
  have hid2 : upd (upd (upd a (16 + 6 * x + 1) (nI (min 1000 (b + 1)))) (16 + 6 * x + 2) (if c (187 + x) = nI 0 then mI else now + c (187 + x))) (16 + 6 * x + 3) (a (16 + 6 * x + 3)) = upd (upd a (16 + 6 * x + 1) (nI (min 1000 (b + 1)))) (16 + 6 * x + 2) (if c (187 + x) = nI 0 then mI else now + c (187 + x)) := by
    funext k
    by_cases e : k = 16 + 6 * x + 3
    · subst e; simp (disch := omega) only [rb_upn, rb_upe]
    · rw [rb_upn e]
  rw [hid, hid2] at hR2
  have hasl : rb_asl (upd (upd c (47 + x) (nI (min 1000 (b + 1)))) (159 + x) (if c (187 + x) = nI 0 then mI else now + c (187 + x))) = rb_asl c := rb_asl_congr (fun t ht => by simp (disch := omega) only [rb_upn])
  have hD := rb_D_fire (c' := upd (upd c (47 + x) (nI (min 1000 (b + 1)))) (159 + x) (if c (187 + x) = nI 0 then mI else now + c (187 + x))) hn hx (rI_aims hI) hk hnx (by rw [rb_upe rfl]; exact hnx') (fun k hk => by simp (disch := omega) only [rb_upn]) (fun y hy hne => by simp (disch := omega) only [rb_upn])
  have hmul : rb_DD c n now * rb_wt A 3 = rb_DD (upd (upd c (47 + x) (nI (min 1000 (b + 1)))) (159 + x) (if c (187 + x) = nI 0 then mI else now + c (187 + x))) n now * rb_wt A 3 + rb_cf c n x 0 * rb_wt A 3 := by rw [← hD, Nat.add_mul]
  have hcfe : rb_cf (upd (upd c (47 + x) (nI (min 1000 (b + 1)))) (159 + x) (if c (187 + x) = nI 0 then mI else now + c (187 + x))) n x 0 = rb_cf c n x 0 := rb_cn_congr (fun i hi => by simp (disch := omega) only [rb_upn])
  have hAe : rb_AA (upd (upd c (47 + x) (nI (min 1000 (b + 1)))) (159 + x) (if c (187 + x) = nI 0 then mI else now + c (187 + x))) n = A := by
    rw [← hA]
    refine rb_cn_congr (fun i hi => ?_)
    obtain ⟨y, hy, ey, _⟩ := hI.2.2.1 i hi
    have e1 : (upd (upd c (47 + x) (nI (min 1000 (b + 1)))) (159 + x) (if c (187 + x) = nI 0 then mI else now + c (187 + x))) (323 + i) = nI y := by
      simp (disch := omega) only [rb_upn]; exact ey
    rw [nt_n e1 (by omega), nt_n ey (by omega)]
    simp (disch := omega) only [rb_upn]
  obtain ⟨v, c', g', f', a', rd', ag', mf', na', nb', nl', sv', e1, e2, hv, t, t', r1, r2, r3, r4, r5, r6, r7, r8, r9⟩ := rp_notice hR2 (by omega) (by omega) hx (nI 1) g f rd ag mf na nb nl sv
  rw [hcfe, hAe] at hv
  have hR2I := hR2.2.2.1
  obtain ⟨d1, d2⟩ := rb_D_same (c := upd (upd c (47 + x) (nI (min 1000 (b + 1)))) (159 + x) (if c (187 + x) = nI 0 then mI else now + c (187 + x))) (c' := c') hn (rI_aims hR2I) (fun k h1 h2 => r2 k (by omega)) now
  refine ⟨b, c (187 + x), c', g', f', a', rd', ag', mf', na', nb', nl', sv', b2, b1, rfl, e1, ?_, W + v, t, t', r1, ?_, ?_, ?_, ?_, ?_, ?_, ?_, ?_⟩
  · unfold XX7_fire
    have e794 : a 794 = now := by rw [hR.1.1]; exact hnow
    by_cases hb : 1000 ≤ b
    · have eb : b = 1000 := by omega
      subst eb
      have em : min 1000 (1000 + 1) = 1000 := by decide
      rw [em] at e2
      have ea : upd a (16 + 6 * x + 1) (nI 1000) = a := by
        funext k
        by_cases e : k = 16 + 6 * x + 1
        · subst e; rw [rb_upe rfl]; exact b3.symm
        · rw [rb_upn e]
      rw [ea] at e2
      by_cases e : c (187 + x) = nI 0
      · simp only [e, if_true] at e2
        simp (maxSteps := 3000000) (disch := omega) only [↓reduceIte, Nat.reduceEqDiff, Nat.reduceLeDiff, eq_self, not_true_eq_false, not_false_eq_true, li_0, li_1, li_2, li_3, li_4, li_5, li_6, li_7, li_8, li_9, li_10, li_11, li_12, li_13, li_14, li_15, li_16, li_17, li_18, li_19, li_20, li_21, li_22, li_23, li_24, li_25, li_26, li_27, li_28, li_29, li_30, li_31, li_32, li_33, li_34, li_35, li_36, li_37, li_38, li_39, li_40, li_41, li_42, li_47, li_50, li_60, li_63, li_75, li_100, li_103, li_131, li_159, li_184, li_187, li_215, li_243, li_256, li_271, li_296, li_299, li_323, li_347, li_371, li_395, li_419, li_443, li_467, li_491, li_515, li_539, li_545, li_551, li_557, li_560, li_563, li_569, li_575, li_581, li_587, li_593, li_599, li_605, li_629, li_653, li_677, li_725, li_773, li_794, li_795, li_796, li_1000, li_1546, li_1592, li_6184, li_9552, li_10049, li_10348, li_100000, rb_mI, nI_add, nI_mul, nI_leI, nI_ltI, nI_eq, rb_rdn, rb_wrn, rb_n0, rb_m0, rb_m1n, rb_nm1, rb_m1lt, rb_m1le, rb_0m1, rb_ltm1, rb_lem1, Nat.add_zero, Nat.zero_le, Nat.not_lt_zero, Nat.one_ne_zero, Option.bind_some, Option.bind_none, Option.some.injEq, if_true, if_false, ite_true, ite_false, Sum.elim_inl, Sum.elim_inr, xn_ofObject, xn_ofPipe, xn_ofInterest, xn_ofTask, xn_kindOf, xn_bitsOf7, xn_isInterest, xn_isAsleep, xn_objectAt, xn_pipeAt, xn_interestAt, xn_taskAt, rb_nz0, rb_nz1, rb_n10, Nat.one_ne_zero, eq_self, b3, hev, e, e2]
      · simp only [e, if_false] at e2
        simp (maxSteps := 3000000) (disch := omega) only [↓reduceIte, Nat.reduceEqDiff, Nat.reduceLeDiff, eq_self, not_true_eq_false, not_false_eq_true, li_0, li_1, li_2, li_3, li_4, li_5, li_6, li_7, li_8, li_9, li_10, li_11, li_12, li_13, li_14, li_15, li_16, li_17, li_18, li_19, li_20, li_21, li_22, li_23, li_24, li_25, li_26, li_27, li_28, li_29, li_30, li_31, li_32, li_33, li_34, li_35, li_36, li_37, li_38, li_39, li_40, li_41, li_42, li_47, li_50, li_60, li_63, li_75, li_100, li_103, li_131, li_159, li_184, li_187, li_215, li_243, li_256, li_271, li_296, li_299, li_323, li_347, li_371, li_395, li_419, li_443, li_467, li_491, li_515, li_539, li_545, li_551, li_557, li_560, li_563, li_569, li_575, li_581, li_587, li_593, li_599, li_605, li_629, li_653, li_677, li_725, li_773, li_794, li_795, li_796, li_1000, li_1546, li_1592, li_6184, li_9552, li_10049, li_10348, li_100000, rb_mI, nI_add, nI_mul, nI_leI, nI_ltI, nI_eq, rb_rdn, rb_wrn, rb_n0, rb_m0, rb_m1n, rb_nm1, rb_m1lt, rb_m1le, rb_0m1, rb_ltm1, rb_lem1, Nat.add_zero, Nat.zero_le, Nat.not_lt_zero, Nat.one_ne_zero, Option.bind_some, Option.bind_none, Option.some.injEq, if_true, if_false, ite_true, ite_false, Sum.elim_inl, Sum.elim_inr, xn_ofObject, xn_ofPipe, xn_ofInterest, xn_ofTask, xn_kindOf, xn_bitsOf7, xn_isInterest, xn_isAsleep, xn_objectAt, xn_pipeAt, xn_interestAt, xn_taskAt, rb_nz0, rb_nz1, rb_n10, Nat.one_ne_zero, eq_self, b3, hev, e, e794, e2]
    · have em : min 1000 (b + 1) = b + 1 := by omega
      rw [em] at e2
      by_cases e : c (187 + x) = nI 0
      · simp only [e, if_true] at e2
        simp (maxSteps := 3000000) (disch := omega) only [↓reduceIte, Nat.reduceEqDiff, Nat.reduceLeDiff, eq_self, not_true_eq_false, not_false_eq_true, li_0, li_1, li_2, li_3, li_4, li_5, li_6, li_7, li_8, li_9, li_10, li_11, li_12, li_13, li_14, li_15, li_16, li_17, li_18, li_19, li_20, li_21, li_22, li_23, li_24, li_25, li_26, li_27, li_28, li_29, li_30, li_31, li_32, li_33, li_34, li_35, li_36, li_37, li_38, li_39, li_40, li_41, li_42, li_47, li_50, li_60, li_63, li_75, li_100, li_103, li_131, li_159, li_184, li_187, li_215, li_243, li_256, li_271, li_296, li_299, li_323, li_347, li_371, li_395, li_419, li_443, li_467, li_491, li_515, li_539, li_545, li_551, li_557, li_560, li_563, li_569, li_575, li_581, li_587, li_593, li_599, li_605, li_629, li_653, li_677, li_725, li_773, li_794, li_795, li_796, li_1000, li_1546, li_1592, li_6184, li_9552, li_10049, li_10348, li_100000, rb_mI, nI_add, nI_mul, nI_leI, nI_ltI, nI_eq, rb_rdn, rb_wrn, rb_n0, rb_m0, rb_m1n, rb_nm1, rb_m1lt, rb_m1le, rb_0m1, rb_ltm1, rb_lem1, Nat.add_zero, Nat.zero_le, Nat.not_lt_zero, Nat.one_ne_zero, Option.bind_some, Option.bind_none, Option.some.injEq, if_true, if_false, ite_true, ite_false, Sum.elim_inl, Sum.elim_inr, xn_ofObject, xn_ofPipe, xn_ofInterest, xn_ofTask, xn_kindOf, xn_bitsOf7, xn_isInterest, xn_isAsleep, xn_objectAt, xn_pipeAt, xn_interestAt, xn_taskAt, rb_nz0, rb_nz1, rb_n10, Nat.one_ne_zero, eq_self, b3, hb, rb_upn, hev, e, e2]
      · simp only [e, if_false] at e2
        simp (maxSteps := 3000000) (disch := omega) only [↓reduceIte, Nat.reduceEqDiff, Nat.reduceLeDiff, eq_self, not_true_eq_false, not_false_eq_true, li_0, li_1, li_2, li_3, li_4, li_5, li_6, li_7, li_8, li_9, li_10, li_11, li_12, li_13, li_14, li_15, li_16, li_17, li_18, li_19, li_20, li_21, li_22, li_23, li_24, li_25, li_26, li_27, li_28, li_29, li_30, li_31, li_32, li_33, li_34, li_35, li_36, li_37, li_38, li_39, li_40, li_41, li_42, li_47, li_50, li_60, li_63, li_75, li_100, li_103, li_131, li_159, li_184, li_187, li_215, li_243, li_256, li_271, li_296, li_299, li_323, li_347, li_371, li_395, li_419, li_443, li_467, li_491, li_515, li_539, li_545, li_551, li_557, li_560, li_563, li_569, li_575, li_581, li_587, li_593, li_599, li_605, li_629, li_653, li_677, li_725, li_773, li_794, li_795, li_796, li_1000, li_1546, li_1592, li_6184, li_9552, li_10049, li_10348, li_100000, rb_mI, nI_add, nI_mul, nI_leI, nI_ltI, nI_eq, rb_rdn, rb_wrn, rb_n0, rb_m0, rb_m1n, rb_nm1, rb_m1lt, rb_m1le, rb_0m1, rb_ltm1, rb_lem1, Nat.add_zero, Nat.zero_le, Nat.not_lt_zero, Nat.one_ne_zero, Option.bind_some, Option.bind_none, Option.some.injEq, if_true, if_false, ite_true, ite_false, Sum.elim_inl, Sum.elim_inr, xn_ofObject, xn_ofPipe, xn_ofInterest, xn_ofTask, xn_kindOf, xn_bitsOf7, xn_isInterest, xn_isAsleep, xn_objectAt, xn_pipeAt, xn_interestAt, xn_taskAt, rb_nz0, rb_nz1, rb_n10, Nat.one_ne_zero, eq_self, b3, hb, rb_upn, hev, e, e794, e2]
  · rw [r2 0 (by omega)]; simp (disch := omega) only [rb_upn]; exact hnow
  · rw [d1]; omega
  · rw [d1]; omega
  · rw [d2]; exact hAe
  · intro h y hh h16 hy e3 e4
    rw [r2 _ (by omega)] at e3 e4
    rw [r2 _ (by omega)]
    simp (disch := omega) only [rb_upn] at e3 e4
    by_cases e5 : y = x
    · subst e5; rw [rb_upe rfl]; exact hnx'
    · simp (disch := omega) only [rb_upn]
      by_cases e6 : h = j
      · subst e6
        rw [ec] at e3
        exact absurd ((nI_eq (by omega) (by omega)).mp e3).symm e5
      · exact hdone h y (by omega) h16 hy e3 e4
  · intro k h1 h2
    rw [r2 k (by omega)]
    simp (disch := omega) only [rb_upn]
    exact hnm k h1 h2
  · exact fun k h1 h2 => (r6 k h1 h2).trans (hmf k h1 h2)
  · intro cb hcb
    exact r9 cb (rb_WOK_same (fun t ht => Or.inr (by simp (disch := omega) only [rb_upn])) (fun t ht => by simp (disch := omega) only [rb_upn]; exact ⟨trivial, trivial⟩) rfl (hwok cb hcb))
