theorem xn_getUp (c : rb_Row) {t : Nat} (ht : t < 6) : XX4_getUp c (nI t) = some (upd (upd c (539 + t) mI) (557 + t) mI) := by
  unfold XX4_getUp
  simp (disch := omega) only [li_0, li_1, li_2, li_3, li_4, li_5, li_6, li_7, li_8, li_9, li_10, li_11, li_12, li_13, li_14, li_15, li_16, li_17, li_18, li_19, li_20, li_21, li_22, li_23, li_24, li_25, li_26, li_27, li_28, li_29, li_30, li_31, li_32, li_33, li_34, li_35, li_36, li_37, li_38, li_39, li_40, li_41, li_42, li_47, li_50, li_60, li_63, li_75, li_100, li_103, li_131, li_159, li_184, li_187, li_215, li_243, li_256, li_271, li_296, li_299, li_323, li_347, li_371, li_395, li_419, li_443, li_467, li_491, li_515, li_539, li_545, li_551, li_557, li_560, li_563, li_569, li_575, li_581, li_587, li_593, li_599, li_605, li_629, li_653, li_677, li_725, li_773, li_794, li_795, li_796, li_1000, li_1546, li_1592, li_6184, li_9552, li_10049, li_10348, li_100000, rb_mI, nI_add, nI_mul, nI_leI, nI_ltI, nI_eq, rb_rdn, rb_wrn, rb_n0, rb_m0, rb_m1n, rb_nm1, rb_m1lt, rb_m1le, rb_0m1, rb_ltm1, rb_lem1, Nat.add_zero, Nat.zero_le, Nat.not_lt_zero, Nat.one_ne_zero, Option.bind_some, Option.bind_none, Option.some.injEq, if_true, if_false, ite_true, ite_false, Sum.elim_inl, Sum.elim_inr]
theorem yn_sleepNoMore (a : rb_Row) {t : Nat} (ht : t < 6) : XX7_sleepNoMore a (nI t) = some (upd (upd a (560 + 39 * t) mI) (560 + 39 * t + 3) mI) := by
  unfold XX7_sleepNoMore
  simp (disch := omega) only [li_0, li_1, li_2, li_3, li_4, li_5, li_6, li_7, li_8, li_9, li_10, li_11, li_12, li_13, li_14, li_15, li_16, li_17, li_18, li_19, li_20, li_21, li_22, li_23, li_24, li_25, li_26, li_27, li_28, li_29, li_30, li_31, li_32, li_33, li_34, li_35, li_36, li_37, li_38, li_39, li_40, li_41, li_42, li_47, li_50, li_60, li_63, li_75, li_100, li_103, li_131, li_159, li_184, li_187, li_215, li_243, li_256, li_271, li_296, li_299, li_323, li_347, li_371, li_395, li_419, li_443, li_467, li_491, li_515, li_539, li_545, li_551, li_557, li_560, li_563, li_569, li_575, li_581, li_587, li_593, li_599, li_605, li_629, li_653, li_677, li_725, li_773, li_794, li_795, li_796, li_1000, li_1546, li_1592, li_6184, li_9552, li_10049, li_10348, li_100000, rb_mI, nI_add, nI_mul, nI_leI, nI_ltI, nI_eq, rb_rdn, rb_wrn, rb_n0, rb_m0, rb_m1n, rb_nm1, rb_m1lt, rb_m1le, rb_0m1, rb_ltm1, rb_lem1, Nat.add_zero, Nat.zero_le, Nat.not_lt_zero, Nat.one_ne_zero, Option.bind_some, Option.bind_none, Option.some.injEq, if_true, if_false, ite_true, ite_false, Sum.elim_inl, Sum.elim_inr, xn_ofObject, xn_ofPipe, xn_ofInterest, xn_ofTask, xn_kindOf, xn_bitsOf7, xn_isInterest, xn_isAsleep, xn_objectAt, xn_pipeAt, xn_interestAt, xn_taskAt, rb_nz0, rb_nz1, rb_n10, Nat.one_ne_zero, eq_self]
set_option maxHeartbeats 8000000 in
theorem rp_wake {z W q n : Nat} {π : Nat → Nat} {s s' : Nat} {c0 a0 : rb_Row} (h : rR z W q n π s s' c0 a0) (hs : s' + 1000 < 2000000000) (hW : W + 10 < 2000000000) {x : Nat} (hx : x < 28) (hk : c0 (19 + x) = nI 4) (g0 f0 rd0 ag0 mf0 : rb_Row) : ∃ o o', XX0_callSleepers c0 g0 f0 (nI x) = some o ∧ XX7_wake a0 rd0 ag0 mf0 (nI x) = some o' ∧ ∃ b c g f a rd ag mf, o = (nI b, c, g, f) ∧ o' = (nI b, a, rd, ag, mf) ∧ rb_WQ z (W + 1) q n π s s' c0 a0 mf0 (upd f0 5 (f0 5 ||| rb_b x)) 48 b c f a mf := by
  have hn : n ≤ 24 := h.1.2.2.2.2.2.2.2
  unfold XX0_callSleepers XX7_wake
  have eb : (1 : Int32) <<< (nI x &&& 31) = rb_b x := rfl
  simp only [rb_pf, Option.bind_some, eb]
  refine rb_lpk (fun j (σ : Nat × rb_Row × rb_Row × rb_Row) => (nI σ.1, nI j, σ.2.1, σ.2.2.1, σ.2.2.2)) (fun j (σ : Nat × rb_Row × rb_Row × rb_Row × rb_Row) => (nI σ.1, nI 1, nI j, σ.2.1, σ.2.2.1, σ.2.2.2.1, σ.2.2.2.2)) 6 (fun j σ σ' => σ'.1 = σ.1 ∧ rb_WQ z W q n π s s' c0 a0 mf0 (upd f0 5 (f0 5 ||| rb_b x)) (8 * j) σ.1 σ.2.1 σ.2.2.2 σ'.2.1 σ'.2.2.2.2) (fun r r' => ∃ b c g f a rd ag mf, r = (nI b, c, g, f) ∧ (r' = .inl (nI b, a, rd, ag, mf) ∨ r' = .inr (nI b, a, rd, ag, mf)) ∧ rb_WQ z (W + 1) q n π s s' c0 a0 mf0 (upd f0 5 (f0 5 ||| rb_b x)) 48 b c f a mf) (0, c0, g0, upd f0 5 (f0 5 ||| rb_b x)) (0, a0, rd0, ag0, mf0) rfl rfl ?_ (by omega) (by omega) ?_ ?_ ?_
  · exact ⟨rfl, by omega, s, s', h, rF_refl _, rG_refl _, Nat.le_refl _, Nat.le_refl _, by omega, fun _ _ => rfl, rfl, fun _ h => h, fun _ h => h⟩
  · rintro j ⟨b, c, g, f⟩ ⟨b', a, rd, ag, mf⟩ hj ⟨e1, hWQ⟩
    simp only at e1 hWQ ⊢
    subst e1
    obtain ⟨hb, t, t', hR, hF, hG, hB, hst, ht', hmf, hf5, hFED, hWOK⟩ := id hWQ
    have htt : t ≤ t' := hR.1.2.2.2.2.1
    obtain ⟨o, ef, el, hno, hso⟩ := rp_sleeper hR (by omega) hx
    cases o with
    | none =>
      refine Or.inr (Or.inl ⟨(nI b', c, g, f), .inr (nI b', a, rd, ag, mf), ?_, ?_, b', c, g, f, a, rd, ag, mf, rfl, Or.inr rfl, rb_WQ_mono hWQ (by omega) (by omega)⟩)
      · simp (disch := omega) only [li_0, li_1, li_2, li_3, li_4, li_5, li_6, li_7, li_8, li_9, li_10, li_11, li_12, li_13, li_14, li_15, li_16, li_17, li_18, li_19, li_20, li_21, li_22, li_23, li_24, li_25, li_26, li_27, li_28, li_29, li_30, li_31, li_32, li_33, li_34, li_35, li_36, li_37, li_38, li_39, li_40, li_41, li_42, li_47, li_50, li_60, li_63, li_75, li_100, li_103, li_131, li_159, li_184, li_187, li_215, li_243, li_256, li_271, li_296, li_299, li_323, li_347, li_371, li_395, li_419, li_443, li_467, li_491, li_515, li_539, li_545, li_551, li_557, li_560, li_563, li_569, li_575, li_581, li_587, li_593, li_599, li_605, li_629, li_653, li_677, li_725, li_773, li_794, li_795, li_796, li_1000, li_1546, li_1592, li_6184, li_9552, li_10049, li_10348, li_100000, rb_mI, nI_add, nI_mul, nI_leI, nI_ltI, nI_eq, rb_rdn, rb_wrn, rb_n0, rb_m0, rb_m1n, rb_nm1, rb_m1lt, rb_m1le, rb_0m1, rb_ltm1, rb_lem1, Nat.add_zero, Nat.zero_le, Nat.not_lt_zero, Nat.one_ne_zero, Option.bind_some, Option.bind_none, Option.some.injEq, if_true, if_false, ite_true, ite_false, Sum.elim_inl, Sum.elim_inr, ef, rb_oi]
        rw [if_neg (by omega)]
      · simp (disch := omega) only [li_0, li_1, li_2, li_3, li_4, li_5, li_6, li_7, li_8, li_9, li_10, li_11, li_12, li_13, li_14, li_15, li_16, li_17, li_18, li_19, li_20, li_21, li_22, li_23, li_24, li_25, li_26, li_27, li_28, li_29, li_30, li_31, li_32, li_33, li_34, li_35, li_36, li_37, li_38, li_39, li_40, li_41, li_42, li_47, li_50, li_60, li_63, li_75, li_100, li_103, li_131, li_159, li_184, li_187, li_215, li_243, li_256, li_271, li_296, li_299, li_323, li_347, li_371, li_395, li_419, li_443, li_467, li_491, li_515, li_539, li_545, li_551, li_557, li_560, li_563, li_569, li_575, li_581, li_587, li_593, li_599, li_605, li_629, li_653, li_677, li_725, li_773, li_794, li_795, li_796, li_1000, li_1546, li_1592, li_6184, li_9552, li_10049, li_10348, li_100000, rb_mI, nI_add, nI_mul, nI_leI, nI_ltI, nI_eq, rb_rdn, rb_wrn, rb_n0, rb_m0, rb_m1n, rb_nm1, rb_m1lt, rb_m1le, rb_0m1, rb_ltm1, rb_lem1, Nat.add_zero, Nat.zero_le, Nat.not_lt_zero, Nat.one_ne_zero, Option.bind_some, Option.bind_none, Option.some.injEq, if_true, if_false, ite_true, ite_false, Sum.elim_inl, Sum.elim_inr, el, rb_oi, rb_nzb]
        rw [if_neg (by omega)]
    | some u =>
      obtain ⟨hu, hux⟩ := hso u rfl
      have hune : c (539 + u) ≠ mI := by rw [hux]; exact rb_nmm (by omega)
      have hT := hR.2.2.2.2
      have hup : ∃ up, 1 ≤ up ∧ up ≤ 8 ∧ c (551 + u) = nI up := by
        rcases hT.2.2.1 u hu with g | ⟨_, _, g, _⟩
        · exact absurd g hune
        · exact g
      obtain ⟨up, hup1, hup8, eup⟩ := hup
      have eup' : a (560 + 39 * u + 2) = nI up := by rw [(hT.1 u hu).2.1]; exact eup
      have hkc : c (19 + x) = nI 4 := by rw [hF (19 + x) (by omega)]; exact hk
      have hc1 : c 1 = nI t := hR.1.2.2.1
      obtain ⟨o2, o2', eg, ec, nn, kept, c2, a2, g2, rd2, ag2, mf2, hn1, hn2, e2, e2', hR2, hF2, hG2, hm3, hmk, hTc, hold⟩ := rp_gather0 hR (by omega) hx hkc hu hup1 hup8 g rd ag mf
      subst e2 e2'
      have hune2 : c2 (539 + u) ≠ mI := by rw [hTc _ (by omega) (by omega)]; exact hune
      have hWFu : ∃ w, w ≤ t ∧ c2 (575 + u) = nI w := by
        obtain ⟨_, _, _, _, w, g1, g2⟩ := hT.2.1 u hu
        exact ⟨w, g1, by rw [hTc _ (by omega) (by omega)]; exact g2⟩
      obtain ⟨w, hw, ew⟩ := hWFu
      have hmf2 : ∀ k, k ≠ 3 → mf2 k = mf0 k := fun k hk => (hmk k hk).trans (hmf k hk)
      by_cases hnn : nn = 0
      · subst hnn
        have hk0 : kept = 0 := by omega
        subst hk0
        obtain ⟨k1, k2, k3⟩ := rp_latest hR2 hu (nn := 0) (by omega) (Or.inr rfl) (c2 (569 + u) + nI 0) (a2 (560 + 39 * u + 5) + nI 0) (fun e => by rw [e])
        obtain ⟨k4, k5, k6⟩ := rp_vain k1 hu
        simp (disch := omega) only [rb_upn] at k4 k5 k6
        refine Or.inr (Or.inl ⟨(nI b', upd (upd (upd c2 (563 + u) (nI 0)) (569 + u) (c2 (569 + u) + nI 0)) (581 + u) (c2 (581 + u) + nI 1), g2, upd f 6 (f 6 ||| rb_b x)), .inr (nI b', upd (upd (upd a2 (560 + 39 * u + 4) (nI 0)) (560 + 39 * u + 5) (a2 (560 + 39 * u + 5) + nI 0)) (560 + 39 * u + 7) (a2 (560 + 39 * u + 7) + nI 1), rd2, ag2, mf2), ?_, ?_, b', _, g2, _, _, rd2, ag2, mf2, rfl, Or.inr rfl, hb, t + 0, t' + 0, k4, ?_, ?_, ?_, by omega, by omega, hmf2, ?_, ?_, ?_⟩)
        · simp (disch := omega) only [li_0, li_1, li_2, li_3, li_4, li_5, li_6, li_7, li_8, li_9, li_10, li_11, li_12, li_13, li_14, li_15, li_16, li_17, li_18, li_19, li_20, li_21, li_22, li_23, li_24, li_25, li_26, li_27, li_28, li_29, li_30, li_31, li_32, li_33, li_34, li_35, li_36, li_37, li_38, li_39, li_40, li_41, li_42, li_47, li_50, li_60, li_63, li_75, li_100, li_103, li_131, li_159, li_184, li_187, li_215, li_243, li_256, li_271, li_296, li_299, li_323, li_347, li_371, li_395, li_419, li_443, li_467, li_491, li_515, li_539, li_545, li_551, li_557, li_560, li_563, li_569, li_575, li_581, li_587, li_593, li_599, li_605, li_629, li_653, li_677, li_725, li_773, li_794, li_795, li_796, li_1000, li_1546, li_1592, li_6184, li_9552, li_10049, li_10348, li_100000, rb_mI, nI_add, nI_mul, nI_leI, nI_ltI, nI_eq, rb_rdn, rb_wrn, rb_n0, rb_m0, rb_m1n, rb_nm1, rb_m1lt, rb_m1le, rb_0m1, rb_ltm1, rb_lem1, Nat.add_zero, Nat.zero_le, Nat.not_lt_zero, Nat.one_ne_zero, Option.bind_some, Option.bind_none, Option.some.injEq, if_true, if_false, ite_true, ite_false, Sum.elim_inl, Sum.elim_inr, ef, rb_oi, eup, eg, rb_upn, eb]
          rw [if_neg (by omega)]
        · simp (disch := omega) only [li_0, li_1, li_2, li_3, li_4, li_5, li_6, li_7, li_8, li_9, li_10, li_11, li_12, li_13, li_14, li_15, li_16, li_17, li_18, li_19, li_20, li_21, li_22, li_23, li_24, li_25, li_26, li_27, li_28, li_29, li_30, li_31, li_32, li_33, li_34, li_35, li_36, li_37, li_38, li_39, li_40, li_41, li_42, li_47, li_50, li_60, li_63, li_75, li_100, li_103, li_131, li_159, li_184, li_187, li_215, li_243, li_256, li_271, li_296, li_299, li_323, li_347, li_371, li_395, li_419, li_443, li_467, li_491, li_515, li_539, li_545, li_551, li_557, li_560, li_563, li_569, li_575, li_581, li_587, li_593, li_599, li_605, li_629, li_653, li_677, li_725, li_773, li_794, li_795, li_796, li_1000, li_1546, li_1592, li_6184, li_9552, li_10049, li_10348, li_100000, rb_mI, nI_add, nI_mul, nI_leI, nI_ltI, nI_eq, rb_rdn, rb_wrn, rb_n0, rb_m0, rb_m1n, rb_nm1, rb_m1lt, rb_m1le, rb_0m1, rb_ltm1, rb_lem1, Nat.add_zero, Nat.zero_le, Nat.not_lt_zero, Nat.one_ne_zero, Option.bind_some, Option.bind_none, Option.some.injEq, if_true, if_false, ite_true, ite_false, Sum.elim_inl, Sum.elim_inr, xn_ofObject, xn_ofPipe, xn_ofInterest, xn_ofTask, xn_kindOf, xn_bitsOf7, xn_isInterest, xn_isAsleep, xn_objectAt, xn_pipeAt, xn_interestAt, xn_taskAt, rb_nz0, rb_nz1, rb_n10, Nat.one_ne_zero, eq_self, el, rb_oi, eup', ec, rb_upn, rb_nzb]
          rw [if_neg (by omega)]
        · exact rF_trans hF (rF_trans hF2 (rF_trans k2 k5))
        · exact rG_trans hG (rG_trans hG2 (rG_trans k3 k6))
        · have : rb_asl (upd (upd (upd c2 (563 + u) (nI 0)) (569 + u) (c2 (569 + u) + nI 0)) (581 + u) (c2 (581 + u) + nI 1)) = rb_asl c := rb_asl_congr (fun v hv => by
            simp (disch := omega) only [rb_upn]
            exact hTc _ (by omega) (by omega))
          omega
        · rw [rb_upn (by omega)]; exact hf5
        · intro cb hcb
          refine rb_FED_gen (fun v hv => Or.inl ⟨?_, ?_⟩) (fun v hv => ?_) (rb_upn (by omega)) (hFED cb hcb)
          · simp (disch := omega) only [rb_upn]
            exact hTc _ (by omega) (by omega)
          · rw [rb_upn (by omega)]
            by_cases g : v = u
            · subst g
              rw [rb_upe rfl, rb_ad0]
              exact hTc _ (by omega) (by omega)
            · rw [rb_upn (by omega), rb_upn (by omega)]
              exact hTc _ (by omega) (by omega)
          · simp (disch := omega) only [rb_upn]
            exact hTc _ (by omega) (by omega)
        · intro cb hcb
          obtain ⟨_, _, _, ⟨w', p4, p5⟩, _⟩ := hT.2.1 u hu
          have e7 : c2 (581 + u) = nI w' := by rw [hTc _ (by omega) (by omega)]; exact p5
          refine rb_WOK_one hu hx hux (fun v hv => Or.inr ?_) ?_ (fun v hv hne => ?_) (rb_upe rfl) (hWOK cb hcb)
          · simp (disch := omega) only [rb_upn]
            exact hTc _ (by omega) (by omega)
          · unfold rb_sm
            simp (disch := omega) only [rb_upn, rb_upe]
            rw [hTc (575 + u) (by omega) (by omega), e7, nI_add, p5, nI_toInt (by omega), nI_toInt (by omega)]
            omega
          · unfold rb_sm
            simp (disch := omega) only [rb_upn]
            rw [hTc (575 + v) (by omega) (by omega), hTc (581 + v) (by omega) (by omega)]
      · obtain ⟨k1, k2, k3⟩ := rp_fed hR2 hu (nn := nn) (by omega) hune2
        obtain ⟨b1, e3, hb1⟩ := xn_showsOlder k1 (s0 := t) hx
        obtain ⟨b2, rd3, e4, hb2⟩ := yn_isSomeLeft k1 (by omega) hx rd2 ag2 mf2 (kept := kept) (by omega) hm3
        have hbb : b1 = b2 := by
          rw [Bool.eq_iff_iff, hb1, hb2]
          have key : ∀ i, i < n → rb_tr (rb_upC c2 u nn) (rq (rb_upC c2 u nn) n 4) x i = true → ((rb_upC c2 u nn) (443 + i) < nI t ↔ ∀ k, k < kept → ag2 k ≠ nI (π i)) := by
            intro i hi htr
            unfold rb_tr at htr
            simp only [Bool.and_eq_true, Bool.not_eq_true', decide_eq_false_iff_not, decide_eq_true_eq] at htr
            have e5 : (rb_upC c2 u nn) (443 + i) = c2 (443 + i) := by unfold rb_upC; simp (disch := omega) only [rb_upn]
            have e6 : (rb_upC c2 u nn) (299 + i) = c2 (299 + i) := by unfold rb_upC; simp (disch := omega) only [rb_upn]
            rw [e5]
            refine hold i hi (by rw [← e6]; exact htr.1) ?_
            rw [← e5]
            intro g
            exact htr.2.1 (by rw [g]; simp (disch := omega) only [rb_mI, nI_add, nI_mul, nI_leI, nI_ltI, nI_eq, rb_rdn, rb_wrn, rb_n0, rb_m0, rb_m1n, rb_nm1, rb_m1lt, rb_m1le, rb_0m1, rb_ltm1, rb_lem1])
          constructor
          · rintro ⟨i, hi, p, r⟩; exact ⟨i, hi, p, (key i hi p).mp r⟩
          · rintro ⟨i, hi, p, r⟩; exact ⟨i, hi, p, (key i hi p).mpr r⟩
        subst hbb
        have hWQ' : rb_WQ z W q n π s s' c0 a0 mf0 (upd f0 5 (f0 5 ||| rb_b x)) (8 * (j + 1)) 1 (rb_upC c2 u nn) (upd (upd f 6 (f 6 ||| rb_b x)) 7 (f 7 ||| rb_b u)) (rb_upA a2 u nn) mf2 := by
          refine ⟨Nat.le_refl _, t + kept, t' + kept, k1, rF_trans hF (rF_trans hF2 k2), rG_trans hG (rG_trans hG2 k3), ?_, by omega, by omega, hmf2, ?_, ?_, ?_⟩
          · have g1 := rb_asl_up (nn := nn) hu hune2
            have g2 : rb_asl c2 = rb_asl c := rb_asl_congr (fun v hv => hTc _ (by omega) (by omega))
            omega
          · rw [rb_upn (by omega), rb_upn (by omega)]; exact hf5
          · intro cb hcb
            have e8 : c (575 + u) = nI w := by rw [← hTc (575 + u) (by omega) (by omega)]; exact ew
            refine rb_FED_one (fun v hv => ?_) hu (w := w) (by omega) e8 ?_ (fun v hv hne => ?_) ?_ (hFED cb hcb)
            · by_cases g : v = u
              · subst g
                refine Or.inr ⟨?_, ?_, nn, by omega, ?_⟩
                · rw [← hTc _ (by omega) (by omega)]; exact hune2
                · unfold rb_upC
                  simp (disch := omega) only [rb_upn, rb_upe]
                · unfold rb_upC
                  simp (disch := omega) only [rb_upn, rb_upe]
                  rw [hTc (569 + v) (by omega) (by omega)]
              · refine Or.inl ⟨?_, ?_⟩
                · unfold rb_upC
                  simp (disch := omega) only [rb_upn]
                  exact hTc _ (by omega) (by omega)
                · unfold rb_upC
                  simp (disch := omega) only [rb_upn]
                  exact hTc _ (by omega) (by omega)
            · unfold rb_upC
              simp (disch := omega) only [rb_upn, rb_upe]
              rw [ew, nI_add]
            · unfold rb_upC
              simp (disch := omega) only [rb_upn]
              exact hTc _ (by omega) (by omega)
            · rw [rb_upe rfl]
          · intro cb hcb
            have e8 : c (575 + u) = nI w := by rw [← hTc (575 + u) (by omega) (by omega)]; exact ew
            refine rb_WOK_one hu hx hux (fun v hv => ?_) ?_ (fun v hv hne => ?_) ?_ (hWOK cb hcb)
            · by_cases g : v = u
              · subst g
                refine Or.inl ?_
                unfold rb_upC
                simp (disch := omega) only [rb_upn, rb_upe]
              · refine Or.inr ?_
                unfold rb_upC
                simp (disch := omega) only [rb_upn]
                exact hTc _ (by omega) (by omega)
            · unfold rb_sm rb_upC
              simp (disch := omega) only [rb_upn, rb_upe]
              rw [ew, nI_add, hTc (581 + u) (by omega) (by omega), e8, nI_toInt (by omega), nI_toInt (by omega)]
              omega
            · unfold rb_sm rb_upC
              simp (disch := omega) only [rb_upn]
              rw [hTc (575 + v) (by omega) (by omega), hTc (581 + v) (by omega) (by omega)]
            · rw [rb_upn (by omega), rb_upe rfl]
        have e7 : (f 6 ||| rb_b x) = (f 6 ||| rb_b x) := rfl
        unfold rb_upC at e3
        unfold rb_upA at e4
        have eb' : nI 1 <<< (nI x &&& nI 31) = rb_b x := rfl
        have eb2 : nI 1 <<< (nI u &&& nI 31) = rb_b u := rfl
        cases b1 with
        | false =>
          refine Or.inr (Or.inr ⟨(nI 1, rb_upC c2 u nn, g2, upd (upd f 6 (f 6 ||| rb_b x)) 7 (f 7 ||| rb_b u)), (nI 1, nI 0, nI (j + 1), rb_upA a2 u nn, rd3, ag2, mf2), .inl (nI 1, rb_upA a2 u nn, rd3, ag2, mf2), ?_, ?_, ?_, 1, _, g2, _, _, rd3, ag2, mf2, rfl, Or.inl rfl, rb_WQ_mono hWQ' (by omega) (by omega)⟩)
          · unfold rb_upC
            simp (disch := omega) only [li_0, li_1, li_2, li_3, li_4, li_5, li_6, li_7, li_8, li_9, li_10, li_11, li_12, li_13, li_14, li_15, li_16, li_17, li_18, li_19, li_20, li_21, li_22, li_23, li_24, li_25, li_26, li_27, li_28, li_29, li_30, li_31, li_32, li_33, li_34, li_35, li_36, li_37, li_38, li_39, li_40, li_41, li_42, li_47, li_50, li_60, li_63, li_75, li_100, li_103, li_131, li_159, li_184, li_187, li_215, li_243, li_256, li_271, li_296, li_299, li_323, li_347, li_371, li_395, li_419, li_443, li_467, li_491, li_515, li_539, li_545, li_551, li_557, li_560, li_563, li_569, li_575, li_581, li_587, li_593, li_599, li_605, li_629, li_653, li_677, li_725, li_773, li_794, li_795, li_796, li_1000, li_1546, li_1592, li_6184, li_9552, li_10049, li_10348, li_100000, rb_mI, nI_add, nI_mul, nI_leI, nI_ltI, nI_eq, rb_rdn, rb_wrn, rb_n0, rb_m0, rb_m1n, rb_nm1, rb_m1lt, rb_m1le, rb_0m1, rb_ltm1, rb_lem1, Nat.add_zero, Nat.zero_le, Nat.not_lt_zero, Nat.one_ne_zero, Option.bind_some, Option.bind_none, Option.some.injEq, if_true, if_false, ite_true, ite_false, Sum.elim_inl, Sum.elim_inr, ef, rb_oi, eup, eg, hnn, xn_getUp, rb_upn, hc1, eb', eb2, e3, cond_true, cond_false]
            rw [if_neg (by omega)]
          · unfold rb_upA
            simp (disch := omega) only [li_0, li_1, li_2, li_3, li_4, li_5, li_6, li_7, li_8, li_9, li_10, li_11, li_12, li_13, li_14, li_15, li_16, li_17, li_18, li_19, li_20, li_21, li_22, li_23, li_24, li_25, li_26, li_27, li_28, li_29, li_30, li_31, li_32, li_33, li_34, li_35, li_36, li_37, li_38, li_39, li_40, li_41, li_42, li_47, li_50, li_60, li_63, li_75, li_100, li_103, li_131, li_159, li_184, li_187, li_215, li_243, li_256, li_271, li_296, li_299, li_323, li_347, li_371, li_395, li_419, li_443, li_467, li_491, li_515, li_539, li_545, li_551, li_557, li_560, li_563, li_569, li_575, li_581, li_587, li_593, li_599, li_605, li_629, li_653, li_677, li_725, li_773, li_794, li_795, li_796, li_1000, li_1546, li_1592, li_6184, li_9552, li_10049, li_10348, li_100000, rb_mI, nI_add, nI_mul, nI_leI, nI_ltI, nI_eq, rb_rdn, rb_wrn, rb_n0, rb_m0, rb_m1n, rb_nm1, rb_m1lt, rb_m1le, rb_0m1, rb_ltm1, rb_lem1, Nat.add_zero, Nat.zero_le, Nat.not_lt_zero, Nat.one_ne_zero, Option.bind_some, Option.bind_none, Option.some.injEq, if_true, if_false, ite_true, ite_false, Sum.elim_inl, Sum.elim_inr, xn_ofObject, xn_ofPipe, xn_ofInterest, xn_ofTask, xn_kindOf, xn_bitsOf7, xn_isInterest, xn_isAsleep, xn_objectAt, xn_pipeAt, xn_interestAt, xn_taskAt, rb_nz0, rb_nz1, rb_n10, Nat.one_ne_zero, eq_self, el, rb_oi, eup', ec, hnn, yn_sleepNoMore, rb_upn, e4, cond_true, cond_false]
            rw [if_neg (by omega)]
          · simp (disch := omega) only [li_0, li_1, li_2, li_3, li_4, li_5, li_6, li_7, li_8, li_9, li_10, li_11, li_12, li_13, li_14, li_15, li_16, li_17, li_18, li_19, li_20, li_21, li_22, li_23, li_24, li_25, li_26, li_27, li_28, li_29, li_30, li_31, li_32, li_33, li_34, li_35, li_36, li_37, li_38, li_39, li_40, li_41, li_42, li_47, li_50, li_60, li_63, li_75, li_100, li_103, li_131, li_159, li_184, li_187, li_215, li_243, li_256, li_271, li_296, li_299, li_323, li_347, li_371, li_395, li_419, li_443, li_467, li_491, li_515, li_539, li_545, li_551, li_557, li_560, li_563, li_569, li_575, li_581, li_587, li_593, li_599, li_605, li_629, li_653, li_677, li_725, li_773, li_794, li_795, li_796, li_1000, li_1546, li_1592, li_6184, li_9552, li_10049, li_10348, li_100000, rb_mI, nI_add, nI_mul, nI_leI, nI_ltI, nI_eq, rb_rdn, rb_wrn, rb_n0, rb_m0, rb_m1n, rb_nm1, rb_m1lt, rb_m1le, rb_0m1, rb_ltm1, rb_lem1, Nat.add_zero, Nat.zero_le, Nat.not_lt_zero, Nat.one_ne_zero, Option.bind_some, Option.bind_none, Option.some.injEq, if_true, if_false, ite_true, ite_false, Sum.elim_inl, Sum.elim_inr]
            by_cases g : 6 ≤ j + 1 <;> simp [g]
        | true =>
          refine Or.inl ⟨(1, rb_upC c2 u nn, g2, upd (upd f 6 (f 6 ||| rb_b x)) 7 (f 7 ||| rb_b u)), (1, rb_upA a2 u nn, rd3, ag2, mf2), ?_, ?_, rfl, hWQ'⟩
          · unfold rb_upC
            simp (disch := omega) only [li_0, li_1, li_2, li_3, li_4, li_5, li_6, li_7, li_8, li_9, li_10, li_11, li_12, li_13, li_14, li_15, li_16, li_17, li_18, li_19, li_20, li_21, li_22, li_23, li_24, li_25, li_26, li_27, li_28, li_29, li_30, li_31, li_32, li_33, li_34, li_35, li_36, li_37, li_38, li_39, li_40, li_41, li_42, li_47, li_50, li_60, li_63, li_75, li_100, li_103, li_131, li_159, li_184, li_187, li_215, li_243, li_256, li_271, li_296, li_299, li_323, li_347, li_371, li_395, li_419, li_443, li_467, li_491, li_515, li_539, li_545, li_551, li_557, li_560, li_563, li_569, li_575, li_581, li_587, li_593, li_599, li_605, li_629, li_653, li_677, li_725, li_773, li_794, li_795, li_796, li_1000, li_1546, li_1592, li_6184, li_9552, li_10049, li_10348, li_100000, rb_mI, nI_add, nI_mul, nI_leI, nI_ltI, nI_eq, rb_rdn, rb_wrn, rb_n0, rb_m0, rb_m1n, rb_nm1, rb_m1lt, rb_m1le, rb_0m1, rb_ltm1, rb_lem1, Nat.add_zero, Nat.zero_le, Nat.not_lt_zero, Nat.one_ne_zero, Option.bind_some, Option.bind_none, Option.some.injEq, if_true, if_false, ite_true, ite_false, Sum.elim_inl, Sum.elim_inr, ef, rb_oi, eup, eg, hnn, xn_getUp, rb_upn, hc1, eb', eb2, e3, cond_true, cond_false]
            rw [if_neg (by omega)]
          · unfold rb_upA
            simp (disch := omega) only [li_0, li_1, li_2, li_3, li_4, li_5, li_6, li_7, li_8, li_9, li_10, li_11, li_12, li_13, li_14, li_15, li_16, li_17, li_18, li_19, li_20, li_21, li_22, li_23, li_24, li_25, li_26, li_27, li_28, li_29, li_30, li_31, li_32, li_33, li_34, li_35, li_36, li_37, li_38, li_39, li_40, li_41, li_42, li_47, li_50, li_60, li_63, li_75, li_100, li_103, li_131, li_159, li_184, li_187, li_215, li_243, li_256, li_271, li_296, li_299, li_323, li_347, li_371, li_395, li_419, li_443, li_467, li_491, li_515, li_539, li_545, li_551, li_557, li_560, li_563, li_569, li_575, li_581, li_587, li_593, li_599, li_605, li_629, li_653, li_677, li_725, li_773, li_794, li_795, li_796, li_1000, li_1546, li_1592, li_6184, li_9552, li_10049, li_10348, li_100000, rb_mI, nI_add, nI_mul, nI_leI, nI_ltI, nI_eq, rb_rdn, rb_wrn, rb_n0, rb_m0, rb_m1n, rb_nm1, rb_m1lt, rb_m1le, rb_0m1, rb_ltm1, rb_lem1, Nat.add_zero, Nat.zero_le, Nat.not_lt_zero, Nat.one_ne_zero, Option.bind_some, Option.bind_none, Option.some.injEq, if_true, if_false, ite_true, ite_false, Sum.elim_inl, Sum.elim_inr, xn_ofObject, xn_ofPipe, xn_ofInterest, xn_ofTask, xn_kindOf, xn_bitsOf7, xn_isInterest, xn_isAsleep, xn_objectAt, xn_pipeAt, xn_interestAt, xn_taskAt, rb_nz0, rb_nz1, rb_n10, Nat.one_ne_zero, eq_self, el, rb_oi, eup', ec, hnn, yn_sleepNoMore, rb_upn, e4, cond_true, cond_false]
            rw [if_neg (by omega)]
  · rintro ⟨b, c, g, f⟩ ⟨b', a, rd, ag, mf⟩ ⟨e1, hWQ⟩
    simp only at e1 hWQ ⊢
    subst e1
    refine ⟨(nI b', c, g, f), .inl (nI b', a, rd, ag, mf), ?_, ?_, b', c, g, f, a, rd, ag, mf, rfl, Or.inl rfl, rb_WQ_mono hWQ (by omega) (by omega)⟩
    · simp (disch := omega) only [li_0, li_1, li_2, li_3, li_4, li_5, li_6, li_7, li_8, li_9, li_10, li_11, li_12, li_13, li_14, li_15, li_16, li_17, li_18, li_19, li_20, li_21, li_22, li_23, li_24, li_25, li_26, li_27, li_28, li_29, li_30, li_31, li_32, li_33, li_34, li_35, li_36, li_37, li_38, li_39, li_40, li_41, li_42, li_47, li_50, li_60, li_63, li_75, li_100, li_103, li_131, li_159, li_184, li_187, li_215, li_243, li_256, li_271, li_296, li_299, li_323, li_347, li_371, li_395, li_419, li_443, li_467, li_491, li_515, li_539, li_545, li_551, li_557, li_560, li_563, li_569, li_575, li_581, li_587, li_593, li_599, li_605, li_629, li_653, li_677, li_725, li_773, li_794, li_795, li_796, li_1000, li_1546, li_1592, li_6184, li_9552, li_10049, li_10348, li_100000, rb_mI, nI_add, nI_mul, nI_leI, nI_ltI, nI_eq, rb_rdn, rb_wrn, rb_n0, rb_m0, rb_m1n, rb_nm1, rb_m1lt, rb_m1le, rb_0m1, rb_ltm1, rb_lem1, Nat.add_zero, Nat.zero_le, Nat.not_lt_zero, Nat.one_ne_zero, Option.bind_some, Option.bind_none, Option.some.injEq, if_true, if_false, ite_true, ite_false, Sum.elim_inl, Sum.elim_inr]
      rw [if_pos (by omega)]
    · simp (disch := omega) only [li_0, li_1, li_2, li_3, li_4, li_5, li_6, li_7, li_8, li_9, li_10, li_11, li_12, li_13, li_14, li_15, li_16, li_17, li_18, li_19, li_20, li_21, li_22, li_23, li_24, li_25, li_26, li_27, li_28, li_29, li_30, li_31, li_32, li_33, li_34, li_35, li_36, li_37, li_38, li_39, li_40, li_41, li_42, li_47, li_50, li_60, li_63, li_75, li_100, li_103, li_131, li_159, li_184, li_187, li_215, li_243, li_256, li_271, li_296, li_299, li_323, li_347, li_371, li_395, li_419, li_443, li_467, li_491, li_515, li_539, li_545, li_551, li_557, li_560, li_563, li_569, li_575, li_581, li_587, li_593, li_599, li_605, li_629, li_653, li_677, li_725, li_773, li_794, li_795, li_796, li_1000, li_1546, li_1592, li_6184, li_9552, li_10049, li_10348, li_100000, rb_mI, nI_add, nI_mul, nI_leI, nI_ltI, nI_eq, rb_rdn, rb_wrn, rb_n0, rb_m0, rb_m1n, rb_nm1, rb_m1lt, rb_m1le, rb_0m1, rb_ltm1, rb_lem1, Nat.add_zero, Nat.zero_le, Nat.not_lt_zero, Nat.one_ne_zero, Option.bind_some, Option.bind_none, Option.some.injEq, if_true, if_false, ite_true, ite_false, Sum.elim_inl, Sum.elim_inr]
      rw [if_pos (by omega)]
  · rintro r r' ⟨b, c, g, f, a, rd, ag, mf, e1, e2, hWQ⟩
    subst e1
    have hb := hWQ.1
    rcases e2 with e2 | e2 <;> subst e2
    · refine ⟨_, _, rfl, rfl, b, c, g, f, a, rd, ag, mf, ?_, ?_, hWQ⟩
      · simp only [rb_nzb hb]
      · simp only [rb_nzb hb]
    · refine ⟨_, _, rfl, rfl, b, c, g, f, a, rd, ag, mf, ?_, rfl, hWQ⟩
      simp only [rb_nzb hb]
