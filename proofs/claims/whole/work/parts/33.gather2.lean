theorem rb_bR {α α' β : Type} {F : Option α} {x : Option β} {f : β → Option α'} {T : α → α' → Prop} {y : β} (hx : x = some y) (h : ∃ o o', F = some o ∧ f y = some o' ∧ T o o') : ∃ o o', F = some o ∧ x.bind f = some o' ∧ T o o' := by
  rw [hx]; exact h
theorem rb_bL {α α' β : Type} {F : Option α'} {x : Option β} {f : β → Option α} {T : α → α' → Prop} {y : β} (hx : x = some y) (h : ∃ o o', f y = some o ∧ F = some o' ∧ T o o') : ∃ o o', x.bind f = some o ∧ F = some o' ∧ T o o' := by
  rw [hx]; exact h
theorem yn_take (a ag mf rd : rb_Row) {t p nn kept y w : Nat} (ht : t < 6) (hp : p < 24) (hnn : nn < 8) (hk : kept < 8) (hy : y < 28) (ey : a (296 + 11 * p + 1) = nI y) (ew : a (296 + 11 * p + 4) = nI w) (em : mf 3 = nI kept) : XX7_take a ag mf rd (nI t) (nI p) (nI nn) = some (if nI w &&& nI 2 = nI 0 then upd (upd (upd a (560 + 39 * t + (22 + 2 * nn)) (a (296 + 11 * p + 2))) (560 + 39 * t + (22 + 2 * nn + 1)) (rd y &&& ((a (296 + 11 * p + 3) ||| nI 4) ||| nI 8))) (296 + 11 * p + 9) (a (296 + 11 * p + 9) + nI 1) else upd (upd (upd (upd a (560 + 39 * t + (22 + 2 * nn)) (a (296 + 11 * p + 2))) (560 + 39 * t + (22 + 2 * nn + 1)) (rd y &&& ((a (296 + 11 * p + 3) ||| nI 4) ||| nI 8))) (296 + 11 * p + 9) (a (296 + 11 * p + 9) + nI 1)) (296 + 11 * p + 5) (nI 0), if nI w &&& nI 3 = nI 0 then upd ag kept (nI p) else ag, if nI w &&& nI 3 = nI 0 then upd mf 3 (nI (kept + 1)) else mf) := by
  unfold XX7_take
  simp (disch := omega) only [li_0, li_1, li_2, li_3, li_4, li_5, li_6, li_7, li_8, li_9, li_10, li_11, li_12, li_13, li_14, li_15, li_16, li_17, li_18, li_19, li_20, li_21, li_22, li_23, li_24, li_25, li_26, li_27, li_28, li_29, li_30, li_31, li_32, li_33, li_34, li_35, li_36, li_37, li_38, li_39, li_40, li_41, li_42, li_47, li_50, li_60, li_63, li_75, li_100, li_103, li_131, li_159, li_184, li_187, li_215, li_243, li_256, li_271, li_296, li_299, li_323, li_347, li_371, li_395, li_419, li_443, li_467, li_491, li_515, li_539, li_545, li_551, li_557, li_560, li_563, li_569, li_575, li_581, li_587, li_593, li_599, li_605, li_629, li_653, li_677, li_725, li_773, li_794, li_795, li_796, li_1000, li_1546, li_1592, li_6184, li_9552, li_10049, li_10348, li_100000, rb_mI, nI_add, nI_mul, nI_leI, nI_ltI, nI_eq, rb_rdn, rb_wrn, rb_n0, rb_m0, rb_m1n, rb_nm1, rb_m1lt, rb_m1le, rb_0m1, rb_ltm1, rb_lem1, Nat.add_zero, Nat.zero_le, Nat.not_lt_zero, Nat.one_ne_zero, Option.bind_some, Option.bind_none, Option.some.injEq, if_true, if_false, ite_true, ite_false, Sum.elim_inl, Sum.elim_inr, xn_ofObject, xn_ofPipe, xn_ofInterest, xn_ofTask, xn_kindOf, xn_bitsOf7, xn_isInterest, xn_isAsleep, xn_objectAt, xn_pipeAt, xn_interestAt, xn_taskAt, rb_nz0, rb_nz1, rb_n10, Nat.one_ne_zero, eq_self, ey, rb_upn, ew, rb_pf, em]
  by_cases g2 : nI w &&& nI 2 = nI 0 <;> by_cases g3 : nI w &&& nI 3 = nI 0 <;> simp (disch := omega) only [li_0, li_1, li_2, li_3, li_4, li_5, li_6, li_7, li_8, li_9, li_10, li_11, li_12, li_13, li_14, li_15, li_16, li_17, li_18, li_19, li_20, li_21, li_22, li_23, li_24, li_25, li_26, li_27, li_28, li_29, li_30, li_31, li_32, li_33, li_34, li_35, li_36, li_37, li_38, li_39, li_40, li_41, li_42, li_47, li_50, li_60, li_63, li_75, li_100, li_103, li_131, li_159, li_184, li_187, li_215, li_243, li_256, li_271, li_296, li_299, li_323, li_347, li_371, li_395, li_419, li_443, li_467, li_491, li_515, li_539, li_545, li_551, li_557, li_560, li_563, li_569, li_575, li_581, li_587, li_593, li_599, li_605, li_629, li_653, li_677, li_725, li_773, li_794, li_795, li_796, li_1000, li_1546, li_1592, li_6184, li_9552, li_10049, li_10348, li_100000, rb_mI, nI_add, nI_mul, nI_leI, nI_ltI, nI_eq, rb_rdn, rb_wrn, rb_n0, rb_m0, rb_m1n, rb_nm1, rb_m1lt, rb_m1le, rb_0m1, rb_ltm1, rb_lem1, Nat.add_zero, Nat.zero_le, Nat.not_lt_zero, Nat.one_ne_zero, Option.bind_some, Option.bind_none, Option.some.injEq, if_true, if_false, ite_true, ite_false, Sum.elim_inl, Sum.elim_inr, xn_ofObject, xn_ofPipe, xn_ofInterest, xn_ofTask, xn_kindOf, xn_bitsOf7, xn_isInterest, xn_isAsleep, xn_objectAt, xn_pipeAt, xn_interestAt, xn_taskAt, rb_nz0, rb_nz1, rb_n10, Nat.one_ne_zero, eq_self, ey, rb_upn, ew, rb_pf, em, g2, g3]
theorem rb_GI_nn {z W q n : Nat} {π : Nat → Nat} {s s' x up : Nat} {c0 a0 mf0 : rb_Row} {nn kept : Nat} {c g a ag mf : rb_Row} (h : rb_GI z W q n π s s' x up c0 a0 mf0 nn kept c g a ag mf) (hu : nn < up) : rb_GI z W q n π s s' x up c0 a0 mf0 (nn + 1) kept c g a ag mf := by
  obtain ⟨p1, p2, p3⟩ := h
  exact ⟨by omega, by omega, p3⟩
theorem rb_GI_ag {z W q n : Nat} {π : Nat → Nat} {s s' x up : Nat} {c0 a0 mf0 : rb_Row} {nn kept : Nat} {c g a ag mf : rb_Row} (h : rb_GI z W q n π s s' x up c0 a0 mf0 nn kept c g a ag mf) (hk : kept < nn) {i : Nat} (hi : i < n) (hn : n ≤ 24) (hm : c (443 + i) = mI) (hg : ∀ k, k < kept → g k ≠ nI i) : rb_GI z W q n π s s' x up c0 a0 mf0 nn (kept + 1) c (upd g kept (nI i)) a (upd ag kept (nI (π i))) (upd mf 3 (nI (kept + 1))) := by
  obtain ⟨p1, p2, p3, p4, p5, p6, p7, ⟨L, p8, p9⟩, p10, p11⟩ := h
  refine ⟨p1, by omega, p3, p4, p5, rb_upe rfl, fun k hk => by rw [rb_upn hk]; exact p7 k hk, ⟨fun k => if k = kept then i else L k, fun k hk' => ?_, fun k l h1 h2 => ?_⟩, p10, p11⟩
  · by_cases e : k = kept
    · subst e
      simp only [if_true, rb_upe]
      exact ⟨hi, trivial, trivial, hm⟩
    · simp only [e, if_false]
      rw [rb_upn e, rb_upn e]
      exact p8 k (by omega)
  · by_cases e : l = kept
    · have e' : k ≠ kept := by omega
      simp only [e, e', if_true, if_false]
      intro e2
      exact hg k (by omega) (by rw [(p8 k (by omega)).2.1, e2])
    · have e' : k ≠ kept := by omega
      simp only [e, e', if_false]
      exact p9 k l h1 (by omega)
set_option maxHeartbeats 8000000 in
theorem rp_gather0 {z W q n : Nat} {π : Nat → Nat} {s s' : Nat} {c0 a0 : rb_Row} (h : rR z W q n π s s' c0 a0) (hs : s' + 100 < 2000000000) {x t up : Nat} (hx : x < 28) (hk : c0 (19 + x) = nI 4) (ht : t < 6) (hup : 1 ≤ up) (hup' : up ≤ 8) (g0 rd ag0 mf0 : rb_Row) : ∃ o o', XX0_gather c0 g0 (nI t) (nI x) (nI up) = some o ∧ XX7_goCollect a0 rd ag0 mf0 (nI t) (nI x) (nI up) = some o' ∧ ∃ nn kept c2 a2 g' rd' ag' mf', nn ≤ up ∧ kept ≤ nn ∧ o = (nI nn, upd (upd c2 (563 + t) (nI nn)) (569 + t) (c2 (569 + t) + nI nn), g') ∧ o' = (nI nn, upd (upd a2 (560 + 39 * t + 4) (nI nn)) (560 + 39 * t + 5) (a2 (560 + 39 * t + 5) + nI nn), rd', ag', mf') ∧ rR z W q n π (s + kept) (s' + kept) c2 a2 ∧ rF c0 c2 ∧ rG a0 a2 ∧ mf' 3 = nI kept ∧ (∀ k, k ≠ 3 → mf' k = mf0 k) ∧ (∀ k, 539 ≤ k → k < 677 → c2 k = c0 k) ∧ (∀ i, i < n → c2 (299 + i) = nI x → c2 (443 + i) ≠ mI → (c2 (443 + i) < nI s ↔ ∀ k, k < kept → ag' k ≠ nI (π i))) := by
  obtain ⟨rd1, er, hrd⟩ := yn_layReady h (by omega) rd
  have hn : n ≤ 24 := h.1.2.2.2.2.2.2.2
  have hss : s ≤ s' := h.1.2.2.2.2.1
  have hI0 := h.2.2.1
  unfold XX0_gather XX7_goCollect
  obtain ⟨o0, ef0, el0, hno0, hso0⟩ := rp_first h (by omega) hx
  rw [er]
  have el0' : XX7_listedBehind a0 (nI x) 0 = some (rb_oi (o0.map π)) := el0
  simp only [Option.bind_some, el0', rb_pf]
  refine rb_lpjb (fun j (σ : Nat × Nat × rb_Row × rb_Row) => (nI σ.1, nI σ.2.1, nI j, σ.2.2.1, σ.2.2.2)) (fun j (σ : Nat × Int32 × rb_Row × rb_Row × rb_Row) => (nI σ.1, σ.2.1, σ.2.2.1, σ.2.2.2.1, σ.2.2.2.2)) 24 (fun j σ σ' => σ'.1 = σ.1 ∧ rb_GI z W q n π s s' x up c0 a0 mf0 σ.1 σ.2.1 σ.2.2.1 σ.2.2.2 σ'.2.2.1 σ'.2.2.2.1 σ'.2.2.2.2 ∧ XX7_listedBehind σ'.2.2.1 (nI x) (nI 0) = some σ'.2.1 ∧ rb_cn (rb_ls σ.2.2.1 x) n + j ≤ 24) (fun r r' => ∃ nn kept, r.1 = nI nn ∧ r.2.1 = nI kept ∧ r'.1 = nI nn ∧ rb_GI z W q n π s s' x up c0 a0 mf0 nn kept r.2.2.1 r.2.2.2 r'.2.1 r'.2.2.1 r'.2.2.2) (0, 0, c0, g0) (0, rb_oi (o0.map π), a0, ag0, upd mf0 3 0) rfl rfl ?_ (by omega) (by omega) ?_ ?_ ?_
  · refine ⟨rfl, ⟨by omega, Nat.le_refl 0, h, rF_refl _, rG_refl _, ?_, fun k hk => ?_, ⟨fun _ => 0, fun k hk => ?_, fun k l h1 h2 => ?_⟩, fun i hi hne => ⟨rfl, rfl⟩, fun k _ _ => rfl⟩, el0, ?_⟩
    · show upd mf0 3 0 3 = nI 0
      rw [rb_upe rfl]; rfl
    · exact rb_upn hk
    · exact absurd hk (Nat.not_lt_zero _)
    · exact absurd h2 (Nat.not_lt_zero _)
    · have := rb_cn_le (rb_ls c0 x) n
      show rb_cn (rb_ls c0 x) n + 0 ≤ 24
      omega
  · rintro j ⟨nn, kept, c, g⟩ ⟨nn', iR, a, ag, mf⟩ hj ⟨e1, hGI, el, hcn⟩
    simp only at e1 hGI el hcn ⊢
    subst e1
    obtain ⟨p1, p2, p3, p4, p5, p6, p7, p8, p9, p10⟩ := id hGI
    by_cases hnu : up ≤ nn'
    · refine Or.inr ⟨(nI nn', nI kept, c, g), (nI nn', a, ag, mf), ?_, ?_, ⟨nn', kept, rfl, rfl, rfl, hGI⟩⟩
      · simp (disch := omega) only [li_0, li_1, li_2, li_3, li_4, li_5, li_6, li_7, li_8, li_9, li_10, li_11, li_12, li_13, li_14, li_15, li_16, li_17, li_18, li_19, li_20, li_21, li_22, li_23, li_24, li_25, li_26, li_27, li_28, li_29, li_30, li_31, li_32, li_33, li_34, li_35, li_36, li_37, li_38, li_39, li_40, li_41, li_42, li_47, li_50, li_60, li_63, li_75, li_100, li_103, li_131, li_159, li_184, li_187, li_215, li_243, li_256, li_271, li_296, li_299, li_323, li_347, li_371, li_395, li_419, li_443, li_467, li_491, li_515, li_539, li_545, li_551, li_557, li_560, li_563, li_569, li_575, li_581, li_587, li_593, li_599, li_605, li_629, li_653, li_677, li_725, li_773, li_794, li_795, li_796, li_1000, li_1546, li_1592, li_6184, li_9552, li_10049, li_10348, li_100000, rb_mI, nI_add, nI_mul, nI_leI, nI_ltI, nI_eq, rb_rdn, rb_wrn, rb_n0, rb_m0, rb_m1n, rb_nm1, rb_m1lt, rb_m1le, rb_0m1, rb_ltm1, rb_lem1]
        rw [if_neg (by omega), if_pos (by omega)]
      · simp (disch := omega) only [li_0, li_1, li_2, li_3, li_4, li_5, li_6, li_7, li_8, li_9, li_10, li_11, li_12, li_13, li_14, li_15, li_16, li_17, li_18, li_19, li_20, li_21, li_22, li_23, li_24, li_25, li_26, li_27, li_28, li_29, li_30, li_31, li_32, li_33, li_34, li_35, li_36, li_37, li_38, li_39, li_40, li_41, li_42, li_47, li_50, li_60, li_63, li_75, li_100, li_103, li_131, li_159, li_184, li_187, li_215, li_243, li_256, li_271, li_296, li_299, li_323, li_347, li_371, li_395, li_419, li_443, li_467, li_491, li_515, li_539, li_545, li_551, li_557, li_560, li_563, li_569, li_575, li_581, li_587, li_593, li_599, li_605, li_629, li_653, li_677, li_725, li_773, li_794, li_795, li_796, li_1000, li_1546, li_1592, li_6184, li_9552, li_10049, li_10348, li_100000, rb_mI, nI_add, nI_mul, nI_leI, nI_ltI, nI_eq, rb_rdn, rb_wrn, rb_n0, rb_m0, rb_m1n, rb_nm1, rb_m1lt, rb_m1le, rb_0m1, rb_ltm1, rb_lem1]
        rw [if_pos (by omega)]
    obtain ⟨o, ef, el', hno, hso⟩ := rp_first p3 (by omega) hx
    rw [el'] at el
    cases o with
    | none =>
      have ei : iR = mI := (Option.some.inj el).symm
      subst ei
      refine Or.inr ⟨(nI nn', nI kept, c, g), (nI nn', a, ag, mf), ?_, ?_, ⟨nn', kept, rfl, rfl, rfl, hGI⟩⟩
      · simp (disch := omega) only [li_0, li_1, li_2, li_3, li_4, li_5, li_6, li_7, li_8, li_9, li_10, li_11, li_12, li_13, li_14, li_15, li_16, li_17, li_18, li_19, li_20, li_21, li_22, li_23, li_24, li_25, li_26, li_27, li_28, li_29, li_30, li_31, li_32, li_33, li_34, li_35, li_36, li_37, li_38, li_39, li_40, li_41, li_42, li_47, li_50, li_60, li_63, li_75, li_100, li_103, li_131, li_159, li_184, li_187, li_215, li_243, li_256, li_271, li_296, li_299, li_323, li_347, li_371, li_395, li_419, li_443, li_467, li_491, li_515, li_539, li_545, li_551, li_557, li_560, li_563, li_569, li_575, li_581, li_587, li_593, li_599, li_605, li_629, li_653, li_677, li_725, li_773, li_794, li_795, li_796, li_1000, li_1546, li_1592, li_6184, li_9552, li_10049, li_10348, li_100000, rb_mI, nI_add, nI_mul, nI_leI, nI_ltI, nI_eq, rb_rdn, rb_wrn, rb_n0, rb_m0, rb_m1n, rb_nm1, rb_m1lt, rb_m1le, rb_0m1, rb_ltm1, rb_lem1]
        rw [if_neg (by omega), if_neg (by omega), if_neg (by omega), ef]
        simp (disch := omega) only [li_0, li_1, li_2, li_3, li_4, li_5, li_6, li_7, li_8, li_9, li_10, li_11, li_12, li_13, li_14, li_15, li_16, li_17, li_18, li_19, li_20, li_21, li_22, li_23, li_24, li_25, li_26, li_27, li_28, li_29, li_30, li_31, li_32, li_33, li_34, li_35, li_36, li_37, li_38, li_39, li_40, li_41, li_42, li_47, li_50, li_60, li_63, li_75, li_100, li_103, li_131, li_159, li_184, li_187, li_215, li_243, li_256, li_271, li_296, li_299, li_323, li_347, li_371, li_395, li_419, li_443, li_467, li_491, li_515, li_539, li_545, li_551, li_557, li_560, li_563, li_569, li_575, li_581, li_587, li_593, li_599, li_605, li_629, li_653, li_677, li_725, li_773, li_794, li_795, li_796, li_1000, li_1546, li_1592, li_6184, li_9552, li_10049, li_10348, li_100000, rb_mI, nI_add, nI_mul, nI_leI, nI_ltI, nI_eq, rb_rdn, rb_wrn, rb_n0, rb_m0, rb_m1n, rb_nm1, rb_m1lt, rb_m1le, rb_0m1, rb_ltm1, rb_lem1, Nat.add_zero, Nat.zero_le, Nat.not_lt_zero, Nat.one_ne_zero, Option.bind_some, Option.bind_none, Option.some.injEq, if_true, if_false, ite_true, ite_false, Sum.elim_inl, Sum.elim_inr, rb_oi]
      · simp (disch := omega) only [li_0, li_1, li_2, li_3, li_4, li_5, li_6, li_7, li_8, li_9, li_10, li_11, li_12, li_13, li_14, li_15, li_16, li_17, li_18, li_19, li_20, li_21, li_22, li_23, li_24, li_25, li_26, li_27, li_28, li_29, li_30, li_31, li_32, li_33, li_34, li_35, li_36, li_37, li_38, li_39, li_40, li_41, li_42, li_47, li_50, li_60, li_63, li_75, li_100, li_103, li_131, li_159, li_184, li_187, li_215, li_243, li_256, li_271, li_296, li_299, li_323, li_347, li_371, li_395, li_419, li_443, li_467, li_491, li_515, li_539, li_545, li_551, li_557, li_560, li_563, li_569, li_575, li_581, li_587, li_593, li_599, li_605, li_629, li_653, li_677, li_725, li_773, li_794, li_795, li_796, li_1000, li_1546, li_1592, li_6184, li_9552, li_10049, li_10348, li_100000, rb_mI, nI_add, nI_mul, nI_leI, nI_ltI, nI_eq, rb_rdn, rb_wrn, rb_n0, rb_m0, rb_m1n, rb_nm1, rb_m1lt, rb_m1le, rb_0m1, rb_ltm1, rb_lem1]
        rw [if_neg (by omega)]
        simp (disch := omega) only [li_0, li_1, li_2, li_3, li_4, li_5, li_6, li_7, li_8, li_9, li_10, li_11, li_12, li_13, li_14, li_15, li_16, li_17, li_18, li_19, li_20, li_21, li_22, li_23, li_24, li_25, li_26, li_27, li_28, li_29, li_30, li_31, li_32, li_33, li_34, li_35, li_36, li_37, li_38, li_39, li_40, li_41, li_42, li_47, li_50, li_60, li_63, li_75, li_100, li_103, li_131, li_159, li_184, li_187, li_215, li_243, li_256, li_271, li_296, li_299, li_323, li_347, li_371, li_395, li_419, li_443, li_467, li_491, li_515, li_539, li_545, li_551, li_557, li_560, li_563, li_569, li_575, li_581, li_587, li_593, li_599, li_605, li_629, li_653, li_677, li_725, li_773, li_794, li_795, li_796, li_1000, li_1546, li_1592, li_6184, li_9552, li_10049, li_10348, li_100000, rb_mI, nI_add, nI_mul, nI_leI, nI_ltI, nI_eq, rb_rdn, rb_wrn, rb_n0, rb_m0, rb_m1n, rb_nm1, rb_m1lt, rb_m1le, rb_0m1, rb_ltm1, rb_lem1, Nat.add_zero, Nat.zero_le, Nat.not_lt_zero, Nat.one_ne_zero, Option.bind_some, Option.bind_none, Option.some.injEq, if_true, if_false, ite_true, ite_false, Sum.elim_inl, Sum.elim_inr]
    | some i =>
      have ei : iR = nI (π i) := (Option.some.inj el).symm
      subst ei
      obtain ⟨hi, hix, hil⟩ := hso i rfl
      have hp := (p3.2.2.1.1 i hi).1
      have hI := p3.2.2.1
      obtain ⟨r1, r2, r3⟩ := rp_unlist p3 hi
      have hG1 := rb_GI_up hGI hn r1 r2 r3 hi hix (fun k hk hne => by simp (disch := omega) only [rb_upn]) (by simp (disch := omega) only [rb_upn, rb_upe]) (fun k hk hne => by simp (disch := omega) only [rb_upn]) (fun k hk hk' => by simp (disch := omega) only [rb_upn])
      have hcn1 : rb_cn (rb_ls (upd (upd c (443 + i) mI) (515 + i) (nI 0)) x) n + (j + 1) ≤ 24 := by
        have := rb_cn_drop (p := rb_ls c x) (q := rb_ls (upd (upd c (443 + i) mI) (515 + i) (nI 0)) x) hi (by simp [rb_ls, hix, hil]) (by
          unfold rb_ls
          simp (disch := omega) only [rb_upn, rb_upe]
          simp) (fun k hk hne => by
          unfold rb_ls
          simp (disch := omega) only [rb_upn])
        omega
      obtain ⟨y, hy, ey, hly, _⟩ := hI.2.2.1 i hi
      obtain ⟨_, _, _, ⟨w, hw, ew⟩, _⟩ := hI.2.2.2.1 i hi
      have hoi : c0 (299 + i) = nI x := by rw [← p4 (299 + i) (by omega)]; exact hix
      have hoy : c0 (323 + i) = nI y := by rw [← p4 (323 + i) (by omega)]; exact ey
      have hz : y ≠ z ∧ rb_live c0 y := rb_exz h.2.1 hI0 hi hy hoy
      have hrq : rq (upd (upd c (443 + i) mI) (515 + i) (nI 0)) n 4 y = rq c0 n 4 y := by
        refine rq_inv hI0 hn hG1.2.2.2.1 hx (fun k hk hne => ?_) hi hoi hy hoy
        have := hG1.2.2.2.2.2.2.2.2.1 k hk hne
        rw [this.1, this.2]
        exact ⟨Iff.rfl, rfl⟩
      have hrdy : rd1 y = rq c0 n 4 y := hrd y hy hz.1 hz.2
      have hrdy5 := xn_ready5 r1 hy (c := upd (upd c (443 + i) mI) (515 + i) (nI 0)) (by
        obtain ⟨k, hk6, ek⟩ := hly
        exact ⟨k, hk6, by simp (disch := omega) only [rb_upn]; exact ek⟩)
      rw [hrq, ← hrdy] at hrdy5
      have e419 := p3.2.2.2.1.1 i hi
      have hit := rb_tells (rd := rd1) (F := rd1) r1.2.2.1 r1.2.2.2.1 hi rfl
      have hisT := yn_isTrue (upd a (296 + 11 * π i + 7) (nI 0)) rd1 hp ⟨y, hy, by simp (disch := omega) only [rb_upn]; rw [(hI.1 i hi).2.2.1]; exact ey⟩
      rw [hit] at hisT
      have ebt : rb_bt (upd (upd c (443 + i) mI) (515 + i) (nI 0)) i = rb_bt c i := by
        unfold rb_bt
        simp (disch := omega) only [rb_upn]
      rw [ebt] at hisT
      simp (disch := omega) only [rb_upn] at hisT
      rw [nt_n ey (by omega)] at hisT
      have ebits := xn_bits (upd (upd c (443 + i) mI) (515 + i) (nI 0)) (i := i) (by omega)
      rw [ebt] at ebits
      by_cases hb : c (419 + i) = nI 1 ∧ ¬ rb_bt c i &&& rd1 y = nI 0
      · have hisF : XX7_isTrue (upd a (296 + 11 * π i + 7) (nI 0)) rd1 (nI (π i)) = some (nI 1) := by
          rw [hisT, hb.1]
          simp [hb.2, ke_10]
        have hnn8 : nn' < 8 := by omega
        -- what both sides hold behind the taking
        obtain ⟨r4, r5, r6⟩ := rp_got r1 ht hnn8 (c (347 + i)) (rb_bt c i &&& rd1 y)
        obtain ⟨r7, r8, r9⟩ := rp_taken r4 hi
        simp (disch := omega) only [rb_upn] at r7 r8 r9
        have hG2 := rb_GI_nn (rb_GI_up hG1 hn r7 (rF_trans r5 r8) (rG_trans r6 r9) hi (by simp (disch := omega) only [rb_upn]; exact hix) (fun k hk hne => by simp (disch := omega) only [rb_upn]) (by simp (disch := omega) only [rb_upn, rb_upe]) (fun k hk hne => by simp (disch := omega) only [rb_upn]) (fun k hk hk' => by simp (disch := omega) only [rb_upn])) (by omega)
        obtain ⟨r10, r11, r12⟩ := rp_armed r7 hi (v := nI 0) (Or.inl rfl)
        have hG3 := rb_GI_up hG2 hn r10 r11 r12 hi (by simp (disch := omega) only [rb_upn]; exact hix) (fun k hk hne => by simp (disch := omega) only [rb_upn]) (by simp (disch := omega) only [rb_upn, rb_upe]) (fun k hk hne => by simp (disch := omega) only [rb_upn]) (fun k hk hk' => by simp (disch := omega) only [rb_upn])
        have hgi : ∀ k, k < kept → g k ≠ nI i := by
          intro k hk e
          obtain ⟨L, p8, _⟩ := p8
          obtain ⟨h1, h2, _, h4⟩ := p8 k hk
          rw [h2] at e
          have := (nI_eq (by omega) (by omega)).mp e
          rw [this] at h4
          exact hil h4
        have hG4 := rb_GI_ag hG2 (by omega) hi hn (by simp (disch := omega) only [rb_upn, rb_upe]) hgi
        have hv : a (296 + 11 * π i + 2) = c (347 + i) := (hI.1 i hi).2.2.2.1
        have hbv : (a (296 + 11 * π i + 3) ||| nI 4) ||| nI 8 = rb_bt c i := by
          unfold rb_bt
          rw [(hI.1 i hi).2.2.2.2.1]
        have hyv : a (296 + 11 * π i + 1) = nI y := by rw [(hI.1 i hi).2.2.1]; exact ey
        have hwv : a (296 + 11 * π i + 4) = nI w := by rw [(hI.1 i hi).2.2.2.2.2]; exact ew
        have hco := Int32.and_comm (rb_bt c i) (rd1 y)
        have htk := yn_take (upd a (296 + 11 * π i + 7) (nI 0)) ag mf rd1 ht hp hnn8 (kept := kept) (y := y) (w := w) (by omega) hy (by simp (disch := omega) only [rb_upn]; exact hyv) (by simp (disch := omega) only [rb_upn]; exact hwv) p6
        simp (disch := omega) only [rb_upn, hv, hbv] at htk
        rw [← hco] at htk
        have hcn2 : ∀ cc : rb_Row, (∀ k, k < 24 → cc (299 + k) = c (299 + k)) → (∀ k, k < 24 → cc (443 + k) = (upd (upd c (443 + i) mI) (515 + i) (nI 0)) (443 + k)) → rb_cn (rb_ls cc x) n + (j + 1) ≤ 24 := by
          intro cc h1 h2
          rw [rb_cn_congr (q := rb_ls (upd (upd c (443 + i) mI) (515 + i) (nI 0)) x)]
          · exact hcn1
          · intro k hk
            unfold rb_ls
            rw [h1 k (by omega), h2 k (by omega)]
            simp (disch := omega) only [rb_upn]
        by_cases g2 : nI w &&& nI 2 = nI 0
        · by_cases g1 : nI w &&& nI 1 = nI 0
          · -- again
            have g3 : nI w &&& nI 3 = nI 0 := (rb_how3 w hw).mpr ⟨g2, g1⟩
            simp only [g2, g3, if_true] at htk
            obtain ⟨o1, ef1, el1, _, _⟩ := rp_first r7 (by omega) hx
            refine Or.inl ⟨(nn' + 1, kept + 1, upd (upd (upd (upd (upd c (443 + i) mI) (515 + i) (nI 0)) (677 + t * 8 + nn') (c (347 + i))) (725 + t * 8 + nn') (rb_bt c i &&& rd1 y)) (491 + i) (c (491 + i) + nI 1), upd g kept (nI i)), (nn' + 1, rb_oi (o1.map π), upd (upd (upd (upd a (296 + 11 * π i + 7) (nI 0)) (560 + 39 * t + (22 + 2 * nn')) (c (347 + i))) (560 + 39 * t + (22 + 2 * nn' + 1)) (rb_bt c i &&& rd1 y)) (296 + 11 * π i + 9) (a (296 + 11 * π i + 9) + nI 1), upd ag kept (nI (π i)), upd mf 3 (nI (kept + 1))), ?_, ?_, rfl, hG4, el1, ?_⟩
            · simp (disch := omega) only [li_0, li_1, li_2, li_3, li_4, li_5, li_6, li_7, li_8, li_9, li_10, li_11, li_12, li_13, li_14, li_15, li_16, li_17, li_18, li_19, li_20, li_21, li_22, li_23, li_24, li_25, li_26, li_27, li_28, li_29, li_30, li_31, li_32, li_33, li_34, li_35, li_36, li_37, li_38, li_39, li_40, li_41, li_42, li_47, li_50, li_60, li_63, li_75, li_100, li_103, li_131, li_159, li_184, li_187, li_215, li_243, li_256, li_271, li_296, li_299, li_323, li_347, li_371, li_395, li_419, li_443, li_467, li_491, li_515, li_539, li_545, li_551, li_557, li_560, li_563, li_569, li_575, li_581, li_587, li_593, li_599, li_605, li_629, li_653, li_677, li_725, li_773, li_794, li_795, li_796, li_1000, li_1546, li_1592, li_6184, li_9552, li_10049, li_10348, li_100000, rb_mI, nI_add, nI_mul, nI_leI, nI_ltI, nI_eq, rb_rdn, rb_wrn, rb_n0, rb_m0, rb_m1n, rb_nm1, rb_m1lt, rb_m1le, rb_0m1, rb_ltm1, rb_lem1]
              rw [if_neg (by omega), if_neg (by omega), if_neg (by omega), ef]
              simp (disch := omega) only [li_0, li_1, li_2, li_3, li_4, li_5, li_6, li_7, li_8, li_9, li_10, li_11, li_12, li_13, li_14, li_15, li_16, li_17, li_18, li_19, li_20, li_21, li_22, li_23, li_24, li_25, li_26, li_27, li_28, li_29, li_30, li_31, li_32, li_33, li_34, li_35, li_36, li_37, li_38, li_39, li_40, li_41, li_42, li_47, li_50, li_60, li_63, li_75, li_100, li_103, li_131, li_159, li_184, li_187, li_215, li_243, li_256, li_271, li_296, li_299, li_323, li_347, li_371, li_395, li_419, li_443, li_467, li_491, li_515, li_539, li_545, li_551, li_557, li_560, li_563, li_569, li_575, li_581, li_587, li_593, li_599, li_605, li_629, li_653, li_677, li_725, li_773, li_794, li_795, li_796, li_1000, li_1546, li_1592, li_6184, li_9552, li_10049, li_10348, li_100000, rb_mI, nI_add, nI_mul, nI_leI, nI_ltI, nI_eq, rb_rdn, rb_wrn, rb_n0, rb_m0, rb_m1n, rb_nm1, rb_m1lt, rb_m1le, rb_0m1, rb_ltm1, rb_lem1, Nat.add_zero, Nat.zero_le, Nat.not_lt_zero, Nat.one_ne_zero, Option.bind_some, Option.bind_none, Option.some.injEq, if_true, if_false, ite_true, ite_false, Sum.elim_inl, Sum.elim_inr, rb_oi, xn_takeOff, rb_upn, ebits, ey, hrdy5, hb.1, hb.2, ew, g1, g2]
            · simp (disch := omega) only [li_0, li_1, li_2, li_3, li_4, li_5, li_6, li_7, li_8, li_9, li_10, li_11, li_12, li_13, li_14, li_15, li_16, li_17, li_18, li_19, li_20, li_21, li_22, li_23, li_24, li_25, li_26, li_27, li_28, li_29, li_30, li_31, li_32, li_33, li_34, li_35, li_36, li_37, li_38, li_39, li_40, li_41, li_42, li_47, li_50, li_60, li_63, li_75, li_100, li_103, li_131, li_159, li_184, li_187, li_215, li_243, li_256, li_271, li_296, li_299, li_323, li_347, li_371, li_395, li_419, li_443, li_467, li_491, li_515, li_539, li_545, li_551, li_557, li_560, li_563, li_569, li_575, li_581, li_587, li_593, li_599, li_605, li_629, li_653, li_677, li_725, li_773, li_794, li_795, li_796, li_1000, li_1546, li_1592, li_6184, li_9552, li_10049, li_10348, li_100000, rb_mI, nI_add, nI_mul, nI_leI, nI_ltI, nI_eq, rb_rdn, rb_wrn, rb_n0, rb_m0, rb_m1n, rb_nm1, rb_m1lt, rb_m1le, rb_0m1, rb_ltm1, rb_lem1]
              rw [if_neg (by omega)]
              simp (disch := omega) only [li_0, li_1, li_2, li_3, li_4, li_5, li_6, li_7, li_8, li_9, li_10, li_11, li_12, li_13, li_14, li_15, li_16, li_17, li_18, li_19, li_20, li_21, li_22, li_23, li_24, li_25, li_26, li_27, li_28, li_29, li_30, li_31, li_32, li_33, li_34, li_35, li_36, li_37, li_38, li_39, li_40, li_41, li_42, li_47, li_50, li_60, li_63, li_75, li_100, li_103, li_131, li_159, li_184, li_187, li_215, li_243, li_256, li_271, li_296, li_299, li_323, li_347, li_371, li_395, li_419, li_443, li_467, li_491, li_515, li_539, li_545, li_551, li_557, li_560, li_563, li_569, li_575, li_581, li_587, li_593, li_599, li_605, li_629, li_653, li_677, li_725, li_773, li_794, li_795, li_796, li_1000, li_1546, li_1592, li_6184, li_9552, li_10049, li_10348, li_100000, rb_mI, nI_add, nI_mul, nI_leI, nI_ltI, nI_eq, rb_rdn, rb_wrn, rb_n0, rb_m0, rb_m1n, rb_nm1, rb_m1lt, rb_m1le, rb_0m1, rb_ltm1, rb_lem1, Nat.add_zero, Nat.zero_le, Nat.not_lt_zero, Nat.one_ne_zero, Option.bind_some, Option.bind_none, Option.some.injEq, if_true, if_false, ite_true, ite_false, Sum.elim_inl, Sum.elim_inr, xn_ofObject, xn_ofPipe, xn_ofInterest, xn_ofTask, xn_kindOf, xn_bitsOf7, xn_isInterest, xn_isAsleep, xn_objectAt, xn_pipeAt, xn_interestAt, xn_taskAt, rb_nz0, rb_nz1, rb_n10, Nat.one_ne_zero, eq_self, hisF, htk, el1]
            · exact hcn2 _ (fun k hk => by simp (disch := omega) only [rb_upn]) (fun k hk => by simp (disch := omega) only [rb_upn])
          · have g3 : ¬ nI w &&& nI 3 = nI 0 := fun g => g1 ((rb_how3 w hw).mp g).2
            simp only [g2, g3, if_true, if_false] at htk
            obtain ⟨o1, ef1, el1, _, _⟩ := rp_first r7 (by omega) hx
            refine Or.inl ⟨(nn' + 1, kept, upd (upd (upd (upd (upd c (443 + i) mI) (515 + i) (nI 0)) (677 + t * 8 + nn') (c (347 + i))) (725 + t * 8 + nn') (rb_bt c i &&& rd1 y)) (491 + i) (c (491 + i) + nI 1), g), (nn' + 1, rb_oi (o1.map π), upd (upd (upd (upd a (296 + 11 * π i + 7) (nI 0)) (560 + 39 * t + (22 + 2 * nn')) (c (347 + i))) (560 + 39 * t + (22 + 2 * nn' + 1)) (rb_bt c i &&& rd1 y)) (296 + 11 * π i + 9) (a (296 + 11 * π i + 9) + nI 1), ag, mf), ?_, ?_, rfl, hG2, el1, ?_⟩
            · simp (disch := omega) only [li_0, li_1, li_2, li_3, li_4, li_5, li_6, li_7, li_8, li_9, li_10, li_11, li_12, li_13, li_14, li_15, li_16, li_17, li_18, li_19, li_20, li_21, li_22, li_23, li_24, li_25, li_26, li_27, li_28, li_29, li_30, li_31, li_32, li_33, li_34, li_35, li_36, li_37, li_38, li_39, li_40, li_41, li_42, li_47, li_50, li_60, li_63, li_75, li_100, li_103, li_131, li_159, li_184, li_187, li_215, li_243, li_256, li_271, li_296, li_299, li_323, li_347, li_371, li_395, li_419, li_443, li_467, li_491, li_515, li_539, li_545, li_551, li_557, li_560, li_563, li_569, li_575, li_581, li_587, li_593, li_599, li_605, li_629, li_653, li_677, li_725, li_773, li_794, li_795, li_796, li_1000, li_1546, li_1592, li_6184, li_9552, li_10049, li_10348, li_100000, rb_mI, nI_add, nI_mul, nI_leI, nI_ltI, nI_eq, rb_rdn, rb_wrn, rb_n0, rb_m0, rb_m1n, rb_nm1, rb_m1lt, rb_m1le, rb_0m1, rb_ltm1, rb_lem1]
              rw [if_neg (by omega), if_neg (by omega), if_neg (by omega), ef]
              simp (disch := omega) only [li_0, li_1, li_2, li_3, li_4, li_5, li_6, li_7, li_8, li_9, li_10, li_11, li_12, li_13, li_14, li_15, li_16, li_17, li_18, li_19, li_20, li_21, li_22, li_23, li_24, li_25, li_26, li_27, li_28, li_29, li_30, li_31, li_32, li_33, li_34, li_35, li_36, li_37, li_38, li_39, li_40, li_41, li_42, li_47, li_50, li_60, li_63, li_75, li_100, li_103, li_131, li_159, li_184, li_187, li_215, li_243, li_256, li_271, li_296, li_299, li_323, li_347, li_371, li_395, li_419, li_443, li_467, li_491, li_515, li_539, li_545, li_551, li_557, li_560, li_563, li_569, li_575, li_581, li_587, li_593, li_599, li_605, li_629, li_653, li_677, li_725, li_773, li_794, li_795, li_796, li_1000, li_1546, li_1592, li_6184, li_9552, li_10049, li_10348, li_100000, rb_mI, nI_add, nI_mul, nI_leI, nI_ltI, nI_eq, rb_rdn, rb_wrn, rb_n0, rb_m0, rb_m1n, rb_nm1, rb_m1lt, rb_m1le, rb_0m1, rb_ltm1, rb_lem1, Nat.add_zero, Nat.zero_le, Nat.not_lt_zero, Nat.one_ne_zero, Option.bind_some, Option.bind_none, Option.some.injEq, if_true, if_false, ite_true, ite_false, Sum.elim_inl, Sum.elim_inr, rb_oi, xn_takeOff, rb_upn, ebits, ey, hrdy5, hb.1, hb.2, ew, g1, g2]
            · simp (disch := omega) only [li_0, li_1, li_2, li_3, li_4, li_5, li_6, li_7, li_8, li_9, li_10, li_11, li_12, li_13, li_14, li_15, li_16, li_17, li_18, li_19, li_20, li_21, li_22, li_23, li_24, li_25, li_26, li_27, li_28, li_29, li_30, li_31, li_32, li_33, li_34, li_35, li_36, li_37, li_38, li_39, li_40, li_41, li_42, li_47, li_50, li_60, li_63, li_75, li_100, li_103, li_131, li_159, li_184, li_187, li_215, li_243, li_256, li_271, li_296, li_299, li_323, li_347, li_371, li_395, li_419, li_443, li_467, li_491, li_515, li_539, li_545, li_551, li_557, li_560, li_563, li_569, li_575, li_581, li_587, li_593, li_599, li_605, li_629, li_653, li_677, li_725, li_773, li_794, li_795, li_796, li_1000, li_1546, li_1592, li_6184, li_9552, li_10049, li_10348, li_100000, rb_mI, nI_add, nI_mul, nI_leI, nI_ltI, nI_eq, rb_rdn, rb_wrn, rb_n0, rb_m0, rb_m1n, rb_nm1, rb_m1lt, rb_m1le, rb_0m1, rb_ltm1, rb_lem1]
              rw [if_neg (by omega)]
              simp (disch := omega) only [li_0, li_1, li_2, li_3, li_4, li_5, li_6, li_7, li_8, li_9, li_10, li_11, li_12, li_13, li_14, li_15, li_16, li_17, li_18, li_19, li_20, li_21, li_22, li_23, li_24, li_25, li_26, li_27, li_28, li_29, li_30, li_31, li_32, li_33, li_34, li_35, li_36, li_37, li_38, li_39, li_40, li_41, li_42, li_47, li_50, li_60, li_63, li_75, li_100, li_103, li_131, li_159, li_184, li_187, li_215, li_243, li_256, li_271, li_296, li_299, li_323, li_347, li_371, li_395, li_419, li_443, li_467, li_491, li_515, li_539, li_545, li_551, li_557, li_560, li_563, li_569, li_575, li_581, li_587, li_593, li_599, li_605, li_629, li_653, li_677, li_725, li_773, li_794, li_795, li_796, li_1000, li_1546, li_1592, li_6184, li_9552, li_10049, li_10348, li_100000, rb_mI, nI_add, nI_mul, nI_leI, nI_ltI, nI_eq, rb_rdn, rb_wrn, rb_n0, rb_m0, rb_m1n, rb_nm1, rb_m1lt, rb_m1le, rb_0m1, rb_ltm1, rb_lem1, Nat.add_zero, Nat.zero_le, Nat.not_lt_zero, Nat.one_ne_zero, Option.bind_some, Option.bind_none, Option.some.injEq, if_true, if_false, ite_true, ite_false, Sum.elim_inl, Sum.elim_inr, xn_ofObject, xn_ofPipe, xn_ofInterest, xn_ofTask, xn_kindOf, xn_bitsOf7, xn_isInterest, xn_isAsleep, xn_objectAt, xn_pipeAt, xn_interestAt, xn_taskAt, rb_nz0, rb_nz1, rb_n10, Nat.one_ne_zero, eq_self, hisF, htk, el1]
            · exact hcn2 _ (fun k hk => by simp (disch := omega) only [rb_upn]) (fun k hk => by simp (disch := omega) only [rb_upn])
        · have g3 : ¬ nI w &&& nI 3 = nI 0 := fun g => g2 ((rb_how3 w hw).mp g).1
          simp only [g2, g3, if_false] at htk
          obtain ⟨o1, ef1, el1, _, _⟩ := rp_first r10 (by omega) hx
          refine Or.inl ⟨(nn' + 1, kept, upd (upd (upd (upd (upd (upd c (443 + i) mI) (515 + i) (nI 0)) (677 + t * 8 + nn') (c (347 + i))) (725 + t * 8 + nn') (rb_bt c i &&& rd1 y)) (491 + i) (c (491 + i) + nI 1)) (419 + i) (nI 0), g), (nn' + 1, rb_oi (o1.map π), upd (upd (upd (upd (upd a (296 + 11 * π i + 7) (nI 0)) (560 + 39 * t + (22 + 2 * nn')) (c (347 + i))) (560 + 39 * t + (22 + 2 * nn' + 1)) (rb_bt c i &&& rd1 y)) (296 + 11 * π i + 9) (a (296 + 11 * π i + 9) + nI 1)) (296 + 11 * π i + 5) (nI 0), ag, mf), ?_, ?_, rfl, hG3, el1, ?_⟩
          · simp (disch := omega) only [li_0, li_1, li_2, li_3, li_4, li_5, li_6, li_7, li_8, li_9, li_10, li_11, li_12, li_13, li_14, li_15, li_16, li_17, li_18, li_19, li_20, li_21, li_22, li_23, li_24, li_25, li_26, li_27, li_28, li_29, li_30, li_31, li_32, li_33, li_34, li_35, li_36, li_37, li_38, li_39, li_40, li_41, li_42, li_47, li_50, li_60, li_63, li_75, li_100, li_103, li_131, li_159, li_184, li_187, li_215, li_243, li_256, li_271, li_296, li_299, li_323, li_347, li_371, li_395, li_419, li_443, li_467, li_491, li_515, li_539, li_545, li_551, li_557, li_560, li_563, li_569, li_575, li_581, li_587, li_593, li_599, li_605, li_629, li_653, li_677, li_725, li_773, li_794, li_795, li_796, li_1000, li_1546, li_1592, li_6184, li_9552, li_10049, li_10348, li_100000, rb_mI, nI_add, nI_mul, nI_leI, nI_ltI, nI_eq, rb_rdn, rb_wrn, rb_n0, rb_m0, rb_m1n, rb_nm1, rb_m1lt, rb_m1le, rb_0m1, rb_ltm1, rb_lem1]
            rw [if_neg (by omega), if_neg (by omega), if_neg (by omega), ef]
            simp (disch := omega) only [li_0, li_1, li_2, li_3, li_4, li_5, li_6, li_7, li_8, li_9, li_10, li_11, li_12, li_13, li_14, li_15, li_16, li_17, li_18, li_19, li_20, li_21, li_22, li_23, li_24, li_25, li_26, li_27, li_28, li_29, li_30, li_31, li_32, li_33, li_34, li_35, li_36, li_37, li_38, li_39, li_40, li_41, li_42, li_47, li_50, li_60, li_63, li_75, li_100, li_103, li_131, li_159, li_184, li_187, li_215, li_243, li_256, li_271, li_296, li_299, li_323, li_347, li_371, li_395, li_419, li_443, li_467, li_491, li_515, li_539, li_545, li_551, li_557, li_560, li_563, li_569, li_575, li_581, li_587, li_593, li_599, li_605, li_629, li_653, li_677, li_725, li_773, li_794, li_795, li_796, li_1000, li_1546, li_1592, li_6184, li_9552, li_10049, li_10348, li_100000, rb_mI, nI_add, nI_mul, nI_leI, nI_ltI, nI_eq, rb_rdn, rb_wrn, rb_n0, rb_m0, rb_m1n, rb_nm1, rb_m1lt, rb_m1le, rb_0m1, rb_ltm1, rb_lem1, Nat.add_zero, Nat.zero_le, Nat.not_lt_zero, Nat.one_ne_zero, Option.bind_some, Option.bind_none, Option.some.injEq, if_true, if_false, ite_true, ite_false, Sum.elim_inl, Sum.elim_inr, rb_oi, xn_takeOff, rb_upn, ebits, ey, hrdy5, hb.1, hb.2, ew, g2]
          · simp (disch := omega) only [li_0, li_1, li_2, li_3, li_4, li_5, li_6, li_7, li_8, li_9, li_10, li_11, li_12, li_13, li_14, li_15, li_16, li_17, li_18, li_19, li_20, li_21, li_22, li_23, li_24, li_25, li_26, li_27, li_28, li_29, li_30, li_31, li_32, li_33, li_34, li_35, li_36, li_37, li_38, li_39, li_40, li_41, li_42, li_47, li_50, li_60, li_63, li_75, li_100, li_103, li_131, li_159, li_184, li_187, li_215, li_243, li_256, li_271, li_296, li_299, li_323, li_347, li_371, li_395, li_419, li_443, li_467, li_491, li_515, li_539, li_545, li_551, li_557, li_560, li_563, li_569, li_575, li_581, li_587, li_593, li_599, li_605, li_629, li_653, li_677, li_725, li_773, li_794, li_795, li_796, li_1000, li_1546, li_1592, li_6184, li_9552, li_10049, li_10348, li_100000, rb_mI, nI_add, nI_mul, nI_leI, nI_ltI, nI_eq, rb_rdn, rb_wrn, rb_n0, rb_m0, rb_m1n, rb_nm1, rb_m1lt, rb_m1le, rb_0m1, rb_ltm1, rb_lem1]
            rw [if_neg (by omega)]
            simp (disch := omega) only [li_0, li_1, li_2, li_3, li_4, li_5, li_6, li_7, li_8, li_9, li_10, li_11, li_12, li_13, li_14, li_15, li_16, li_17, li_18, li_19, li_20, li_21, li_22, li_23, li_24, li_25, li_26, li_27, li_28, li_29, li_30, li_31, li_32, li_33, li_34, li_35, li_36, li_37, li_38, li_39, li_40, li_41, li_42, li_47, li_50, li_60, li_63, li_75, li_100, li_103, li_131, li_159, li_184, li_187, li_215, li_243, li_256, li_271, li_296, li_299, li_323, li_347, li_371, li_395, li_419, li_443, li_467, li_491, li_515, li_539, li_545, li_551, li_557, li_560, li_563, li_569, li_575, li_581, li_587, li_593, li_599, li_605, li_629, li_653, li_677, li_725, li_773, li_794, li_795, li_796, li_1000, li_1546, li_1592, li_6184, li_9552, li_10049, li_10348, li_100000, rb_mI, nI_add, nI_mul, nI_leI, nI_ltI, nI_eq, rb_rdn, rb_wrn, rb_n0, rb_m0, rb_m1n, rb_nm1, rb_m1lt, rb_m1le, rb_0m1, rb_ltm1, rb_lem1, Nat.add_zero, Nat.zero_le, Nat.not_lt_zero, Nat.one_ne_zero, Option.bind_some, Option.bind_none, Option.some.injEq, if_true, if_false, ite_true, ite_false, Sum.elim_inl, Sum.elim_inr, xn_ofObject, xn_ofPipe, xn_ofInterest, xn_ofTask, xn_kindOf, xn_bitsOf7, xn_isInterest, xn_isAsleep, xn_objectAt, xn_pipeAt, xn_interestAt, xn_taskAt, rb_nz0, rb_nz1, rb_n10, Nat.one_ne_zero, eq_self, hisF, htk, el1]
          · exact hcn2 _ (fun k hk => by simp (disch := omega) only [rb_upn]) (fun k hk => by simp (disch := omega) only [rb_upn])
      · have hisF : XX7_isTrue (upd a (296 + 11 * π i + 7) (nI 0)) rd1 (nI (π i)) = some (nI 0) := by
          rw [hisT]
          rcases e419.1 with e | e
          · rw [e]; simp
          · have hb' : rb_bt c i &&& rd1 y = nI 0 := Classical.byContradiction (fun g => hb ⟨e, g⟩)
            rw [hb']; simp
        obtain ⟨o1, ef1, el1, _, _⟩ := rp_first r1 (by omega) hx
        refine Or.inl ⟨(nn', kept, upd (upd c (443 + i) mI) (515 + i) (nI 0), g), (nn', rb_oi (o1.map π), upd a (296 + 11 * π i + 7) (nI 0), ag, mf), ?_, ?_, rfl, hG1, el1, hcn1⟩
        · simp (disch := omega) only [li_0, li_1, li_2, li_3, li_4, li_5, li_6, li_7, li_8, li_9, li_10, li_11, li_12, li_13, li_14, li_15, li_16, li_17, li_18, li_19, li_20, li_21, li_22, li_23, li_24, li_25, li_26, li_27, li_28, li_29, li_30, li_31, li_32, li_33, li_34, li_35, li_36, li_37, li_38, li_39, li_40, li_41, li_42, li_47, li_50, li_60, li_63, li_75, li_100, li_103, li_131, li_159, li_184, li_187, li_215, li_243, li_256, li_271, li_296, li_299, li_323, li_347, li_371, li_395, li_419, li_443, li_467, li_491, li_515, li_539, li_545, li_551, li_557, li_560, li_563, li_569, li_575, li_581, li_587, li_593, li_599, li_605, li_629, li_653, li_677, li_725, li_773, li_794, li_795, li_796, li_1000, li_1546, li_1592, li_6184, li_9552, li_10049, li_10348, li_100000, rb_mI, nI_add, nI_mul, nI_leI, nI_ltI, nI_eq, rb_rdn, rb_wrn, rb_n0, rb_m0, rb_m1n, rb_nm1, rb_m1lt, rb_m1le, rb_0m1, rb_ltm1, rb_lem1]
          rw [if_neg (by omega), if_neg (by omega), if_neg (by omega), ef]
          simp (disch := omega) only [li_0, li_1, li_2, li_3, li_4, li_5, li_6, li_7, li_8, li_9, li_10, li_11, li_12, li_13, li_14, li_15, li_16, li_17, li_18, li_19, li_20, li_21, li_22, li_23, li_24, li_25, li_26, li_27, li_28, li_29, li_30, li_31, li_32, li_33, li_34, li_35, li_36, li_37, li_38, li_39, li_40, li_41, li_42, li_47, li_50, li_60, li_63, li_75, li_100, li_103, li_131, li_159, li_184, li_187, li_215, li_243, li_256, li_271, li_296, li_299, li_323, li_347, li_371, li_395, li_419, li_443, li_467, li_491, li_515, li_539, li_545, li_551, li_557, li_560, li_563, li_569, li_575, li_581, li_587, li_593, li_599, li_605, li_629, li_653, li_677, li_725, li_773, li_794, li_795, li_796, li_1000, li_1546, li_1592, li_6184, li_9552, li_10049, li_10348, li_100000, rb_mI, nI_add, nI_mul, nI_leI, nI_ltI, nI_eq, rb_rdn, rb_wrn, rb_n0, rb_m0, rb_m1n, rb_nm1, rb_m1lt, rb_m1le, rb_0m1, rb_ltm1, rb_lem1, Nat.add_zero, Nat.zero_le, Nat.not_lt_zero, Nat.one_ne_zero, Option.bind_some, Option.bind_none, Option.some.injEq, if_true, if_false, ite_true, ite_false, Sum.elim_inl, Sum.elim_inr, rb_oi, xn_takeOff, rb_upn, ebits, ey, hrdy5]
          rcases e419.1 with e | e
          · simp (disch := omega) only [li_0, li_1, li_2, li_3, li_4, li_5, li_6, li_7, li_8, li_9, li_10, li_11, li_12, li_13, li_14, li_15, li_16, li_17, li_18, li_19, li_20, li_21, li_22, li_23, li_24, li_25, li_26, li_27, li_28, li_29, li_30, li_31, li_32, li_33, li_34, li_35, li_36, li_37, li_38, li_39, li_40, li_41, li_42, li_47, li_50, li_60, li_63, li_75, li_100, li_103, li_131, li_159, li_184, li_187, li_215, li_243, li_256, li_271, li_296, li_299, li_323, li_347, li_371, li_395, li_419, li_443, li_467, li_491, li_515, li_539, li_545, li_551, li_557, li_560, li_563, li_569, li_575, li_581, li_587, li_593, li_599, li_605, li_629, li_653, li_677, li_725, li_773, li_794, li_795, li_796, li_1000, li_1546, li_1592, li_6184, li_9552, li_10049, li_10348, li_100000, rb_mI, nI_add, nI_mul, nI_leI, nI_ltI, nI_eq, rb_rdn, rb_wrn, rb_n0, rb_m0, rb_m1n, rb_nm1, rb_m1lt, rb_m1le, rb_0m1, rb_ltm1, rb_lem1, Nat.add_zero, Nat.zero_le, Nat.not_lt_zero, Nat.one_ne_zero, Option.bind_some, Option.bind_none, Option.some.injEq, if_true, if_false, ite_true, ite_false, Sum.elim_inl, Sum.elim_inr, e]
          · have hb' : rb_bt c i &&& rd1 y = nI 0 := Classical.byContradiction (fun g => hb ⟨e, g⟩)
            simp (disch := omega) only [li_0, li_1, li_2, li_3, li_4, li_5, li_6, li_7, li_8, li_9, li_10, li_11, li_12, li_13, li_14, li_15, li_16, li_17, li_18, li_19, li_20, li_21, li_22, li_23, li_24, li_25, li_26, li_27, li_28, li_29, li_30, li_31, li_32, li_33, li_34, li_35, li_36, li_37, li_38, li_39, li_40, li_41, li_42, li_47, li_50, li_60, li_63, li_75, li_100, li_103, li_131, li_159, li_184, li_187, li_215, li_243, li_256, li_271, li_296, li_299, li_323, li_347, li_371, li_395, li_419, li_443, li_467, li_491, li_515, li_539, li_545, li_551, li_557, li_560, li_563, li_569, li_575, li_581, li_587, li_593, li_599, li_605, li_629, li_653, li_677, li_725, li_773, li_794, li_795, li_796, li_1000, li_1546, li_1592, li_6184, li_9552, li_10049, li_10348, li_100000, rb_mI, nI_add, nI_mul, nI_leI, nI_ltI, nI_eq, rb_rdn, rb_wrn, rb_n0, rb_m0, rb_m1n, rb_nm1, rb_m1lt, rb_m1le, rb_0m1, rb_ltm1, rb_lem1, Nat.add_zero, Nat.zero_le, Nat.not_lt_zero, Nat.one_ne_zero, Option.bind_some, Option.bind_none, Option.some.injEq, if_true, if_false, ite_true, ite_false, Sum.elim_inl, Sum.elim_inr, e, hb', ke_10, ↓reduceIte]
        · simp (disch := omega) only [li_0, li_1, li_2, li_3, li_4, li_5, li_6, li_7, li_8, li_9, li_10, li_11, li_12, li_13, li_14, li_15, li_16, li_17, li_18, li_19, li_20, li_21, li_22, li_23, li_24, li_25, li_26, li_27, li_28, li_29, li_30, li_31, li_32, li_33, li_34, li_35, li_36, li_37, li_38, li_39, li_40, li_41, li_42, li_47, li_50, li_60, li_63, li_75, li_100, li_103, li_131, li_159, li_184, li_187, li_215, li_243, li_256, li_271, li_296, li_299, li_323, li_347, li_371, li_395, li_419, li_443, li_467, li_491, li_515, li_539, li_545, li_551, li_557, li_560, li_563, li_569, li_575, li_581, li_587, li_593, li_599, li_605, li_629, li_653, li_677, li_725, li_773, li_794, li_795, li_796, li_1000, li_1546, li_1592, li_6184, li_9552, li_10049, li_10348, li_100000, rb_mI, nI_add, nI_mul, nI_leI, nI_ltI, nI_eq, rb_rdn, rb_wrn, rb_n0, rb_m0, rb_m1n, rb_nm1, rb_m1lt, rb_m1le, rb_0m1, rb_ltm1, rb_lem1]
          rw [if_neg (by omega)]
          simp (disch := omega) only [li_0, li_1, li_2, li_3, li_4, li_5, li_6, li_7, li_8, li_9, li_10, li_11, li_12, li_13, li_14, li_15, li_16, li_17, li_18, li_19, li_20, li_21, li_22, li_23, li_24, li_25, li_26, li_27, li_28, li_29, li_30, li_31, li_32, li_33, li_34, li_35, li_36, li_37, li_38, li_39, li_40, li_41, li_42, li_47, li_50, li_60, li_63, li_75, li_100, li_103, li_131, li_159, li_184, li_187, li_215, li_243, li_256, li_271, li_296, li_299, li_323, li_347, li_371, li_395, li_419, li_443, li_467, li_491, li_515, li_539, li_545, li_551, li_557, li_560, li_563, li_569, li_575, li_581, li_587, li_593, li_599, li_605, li_629, li_653, li_677, li_725, li_773, li_794, li_795, li_796, li_1000, li_1546, li_1592, li_6184, li_9552, li_10049, li_10348, li_100000, rb_mI, nI_add, nI_mul, nI_leI, nI_ltI, nI_eq, rb_rdn, rb_wrn, rb_n0, rb_m0, rb_m1n, rb_nm1, rb_m1lt, rb_m1le, rb_0m1, rb_ltm1, rb_lem1, Nat.add_zero, Nat.zero_le, Nat.not_lt_zero, Nat.one_ne_zero, Option.bind_some, Option.bind_none, Option.some.injEq, if_true, if_false, ite_true, ite_false, Sum.elim_inl, Sum.elim_inr, xn_ofObject, xn_ofPipe, xn_ofInterest, xn_ofTask, xn_kindOf, xn_bitsOf7, xn_isInterest, xn_isAsleep, xn_objectAt, xn_pipeAt, xn_interestAt, xn_taskAt, rb_nz0, rb_nz1, rb_n10, Nat.one_ne_zero, eq_self, hisF, el1]
  · rintro ⟨nn, kept, c, g⟩ ⟨nn', iR, a, ag, mf⟩ ⟨e1, hGI, el, hcn⟩
    simp only at e1 hGI el hcn ⊢
    subst e1
    obtain ⟨p1, p2, p3, p4, p5, p6, p7, p8, p9, p10⟩ := id hGI
    refine ⟨(nI nn', nI kept, c, g), (nI nn', a, ag, mf), ?_, ?_, ⟨nn', kept, rfl, rfl, rfl, hGI⟩⟩
    · simp (disch := omega) only [li_0, li_1, li_2, li_3, li_4, li_5, li_6, li_7, li_8, li_9, li_10, li_11, li_12, li_13, li_14, li_15, li_16, li_17, li_18, li_19, li_20, li_21, li_22, li_23, li_24, li_25, li_26, li_27, li_28, li_29, li_30, li_31, li_32, li_33, li_34, li_35, li_36, li_37, li_38, li_39, li_40, li_41, li_42, li_47, li_50, li_60, li_63, li_75, li_100, li_103, li_131, li_159, li_184, li_187, li_215, li_243, li_256, li_271, li_296, li_299, li_323, li_347, li_371, li_395, li_419, li_443, li_467, li_491, li_515, li_539, li_545, li_551, li_557, li_560, li_563, li_569, li_575, li_581, li_587, li_593, li_599, li_605, li_629, li_653, li_677, li_725, li_773, li_794, li_795, li_796, li_1000, li_1546, li_1592, li_6184, li_9552, li_10049, li_10348, li_100000, rb_mI, nI_add, nI_mul, nI_leI, nI_ltI, nI_eq, rb_rdn, rb_wrn, rb_n0, rb_m0, rb_m1n, rb_nm1, rb_m1lt, rb_m1le, rb_0m1, rb_ltm1, rb_lem1]
      rw [if_pos (by omega)]
    · obtain ⟨o, ef, el', hno, hso⟩ := rp_first p3 (by omega) hx
      rw [el'] at el
      cases o with
      | none =>
        have ei : iR = mI := (Option.some.inj el).symm
        subst ei
        simp (disch := omega) only [li_0, li_1, li_2, li_3, li_4, li_5, li_6, li_7, li_8, li_9, li_10, li_11, li_12, li_13, li_14, li_15, li_16, li_17, li_18, li_19, li_20, li_21, li_22, li_23, li_24, li_25, li_26, li_27, li_28, li_29, li_30, li_31, li_32, li_33, li_34, li_35, li_36, li_37, li_38, li_39, li_40, li_41, li_42, li_47, li_50, li_60, li_63, li_75, li_100, li_103, li_131, li_159, li_184, li_187, li_215, li_243, li_256, li_271, li_296, li_299, li_323, li_347, li_371, li_395, li_419, li_443, li_467, li_491, li_515, li_539, li_545, li_551, li_557, li_560, li_563, li_569, li_575, li_581, li_587, li_593, li_599, li_605, li_629, li_653, li_677, li_725, li_773, li_794, li_795, li_796, li_1000, li_1546, li_1592, li_6184, li_9552, li_10049, li_10348, li_100000, rb_mI, nI_add, nI_mul, nI_leI, nI_ltI, nI_eq, rb_rdn, rb_wrn, rb_n0, rb_m0, rb_m1n, rb_nm1, rb_m1lt, rb_m1le, rb_0m1, rb_ltm1, rb_lem1, Nat.add_zero, Nat.zero_le, Nat.not_lt_zero, Nat.one_ne_zero, Option.bind_some, Option.bind_none, Option.some.injEq, if_true, if_false, ite_true, ite_false, Sum.elim_inl, Sum.elim_inr]
        by_cases g : up ≤ nn' <;> simp [g]
      | some i =>
        obtain ⟨hi, hix, hil⟩ := hso i rfl
        have := rb_cn_pos (p := rb_ls c x) hi (by simp [rb_ls, hix, hil])
        omega
  · rintro ⟨r1, r2, c, g⟩ ⟨r1', a, ag, mf⟩ ⟨nn, kept, e1, e2, e3, hGI⟩
    simp only at e1 e2 e3 hGI
    subst e1 e2 e3
    obtain ⟨p1, p2, p3, p4, p5, p6, p7, ⟨L, p8, p8'⟩, p9, p10⟩ := id hGI
    simp only
    have hc2 : c 2 = nI n := p3.1.2.2.2.2.2.2.1
    have hI := p3.2.2.1
    refine rb_bL (xn_countLeft c x n hc2 hn) ?_
    obtain ⟨rL1, hcl, hal⟩ := rp_left p3 (by omega) hx
    refine rb_bR (rb_lps0 (fun j => (nI j, rb_ic (fun u => 296 + 11 * u + 10) (fun u => decide (a (296 + 11 * u) = nI x) && !decide (a (296 + 11 * u + 7) ≤ nI 0)) a j)) 24 (rb_ic (fun u => 296 + 11 * u + 10) (fun u => decide (a (296 + 11 * u) = nI x) && !decide (a (296 + 11 * u + 7) ≤ nI 0)) a 24) rfl ?_ ?_ (by omega)) ?_
    · intro j hj
      have e1 : rb_ic (fun u => 296 + 11 * u + 10) (fun u => decide (a (296 + 11 * u) = nI x) && !decide (a (296 + 11 * u + 7) ≤ nI 0)) a j (296 + 11 * j) = a (296 + 11 * j) := rb_ic_ne _ _ (fun i hi => by omega)
      have e2 : rb_ic (fun u => 296 + 11 * u + 10) (fun u => decide (a (296 + 11 * u) = nI x) && !decide (a (296 + 11 * u + 7) ≤ nI 0)) a j (296 + 11 * j + 7) = a (296 + 11 * j + 7) := rb_ic_ne _ _ (fun i hi => by omega)
      simp (disch := omega) only [li_0, li_1, li_2, li_3, li_4, li_5, li_6, li_7, li_8, li_9, li_10, li_11, li_12, li_13, li_14, li_15, li_16, li_17, li_18, li_19, li_20, li_21, li_22, li_23, li_24, li_25, li_26, li_27, li_28, li_29, li_30, li_31, li_32, li_33, li_34, li_35, li_36, li_37, li_38, li_39, li_40, li_41, li_42, li_47, li_50, li_60, li_63, li_75, li_100, li_103, li_131, li_159, li_184, li_187, li_215, li_243, li_256, li_271, li_296, li_299, li_323, li_347, li_371, li_395, li_419, li_443, li_467, li_491, li_515, li_539, li_545, li_551, li_557, li_560, li_563, li_569, li_575, li_581, li_587, li_593, li_599, li_605, li_629, li_653, li_677, li_725, li_773, li_794, li_795, li_796, li_1000, li_1546, li_1592, li_6184, li_9552, li_10049, li_10348, li_100000, rb_mI, nI_add, nI_mul, nI_leI, nI_ltI, nI_eq, rb_rdn, rb_wrn, rb_n0, rb_m0, rb_m1n, rb_nm1, rb_m1lt, rb_m1le, rb_0m1, rb_ltm1, rb_lem1, Nat.add_zero, Nat.zero_le, Nat.not_lt_zero, Nat.one_ne_zero, Option.bind_some, Option.bind_none, Option.some.injEq, if_true, if_false, ite_true, ite_false, Sum.elim_inl, Sum.elim_inr, xn_ofObject, xn_ofPipe, xn_ofInterest, xn_ofTask, xn_kindOf, xn_bitsOf7, xn_isInterest, xn_isAsleep, xn_objectAt, xn_pipeAt, xn_interestAt, xn_taskAt, rb_nz0, rb_nz1, rb_n10, Nat.one_ne_zero, eq_self, e1, e2]
      rw [if_neg (by omega)]
      by_cases h1 : a (296 + 11 * j) = nI x <;> by_cases h2 : a (296 + 11 * j + 7) ≤ nI 0 <;> simp [h1, h2, rb_ic]
    · simp (disch := omega) only [li_0, li_1, li_2, li_3, li_4, li_5, li_6, li_7, li_8, li_9, li_10, li_11, li_12, li_13, li_14, li_15, li_16, li_17, li_18, li_19, li_20, li_21, li_22, li_23, li_24, li_25, li_26, li_27, li_28, li_29, li_30, li_31, li_32, li_33, li_34, li_35, li_36, li_37, li_38, li_39, li_40, li_41, li_42, li_47, li_50, li_60, li_63, li_75, li_100, li_103, li_131, li_159, li_184, li_187, li_215, li_243, li_256, li_271, li_296, li_299, li_323, li_347, li_371, li_395, li_419, li_443, li_467, li_491, li_515, li_539, li_545, li_551, li_557, li_560, li_563, li_569, li_575, li_581, li_587, li_593, li_599, li_605, li_629, li_653, li_677, li_725, li_773, li_794, li_795, li_796, li_1000, li_1546, li_1592, li_6184, li_9552, li_10049, li_10348, li_100000, rb_mI, nI_add, nI_mul, nI_leI, nI_ltI, nI_eq, rb_rdn, rb_wrn, rb_n0, rb_m0, rb_m1n, rb_nm1, rb_m1lt, rb_m1le, rb_0m1, rb_ltm1, rb_lem1, Nat.add_zero, Nat.zero_le, Nat.not_lt_zero, Nat.one_ne_zero, Option.bind_some, Option.bind_none, Option.some.injEq, if_true, if_false, ite_true, ite_false, Sum.elim_inl, Sum.elim_inr]
      rw [if_pos (by omega)]
    have hcl4 : ∀ i, i < n → rb_ic (fun i => 515 + i) (fun i => decide (c (299 + i) = nI x) && !decide (c (443 + i) < nI 0)) c n (443 + i) = c (443 + i) := fun i hi => hcl _ (by omega)
    generalize rb_ic (fun i => 515 + i) (fun i => decide (c (299 + i) = nI x) && !decide (c (443 + i) < nI 0)) c n = cL at rL1 hcl hcl4 ⊢
    generalize rb_ic (fun u => 296 + 11 * u + 10) (fun u => decide (a (296 + 11 * u) = nI x) && !decide (a (296 + 11 * u + 7) ≤ nI 0)) a 24 = aL at rL1 hal ⊢
    rw [p6]
    refine rb_lpjb (fun j (c : rb_Row) => (nI j, c)) (fun j (a : rb_Row) => (nI j, a)) kept (fun j c' a' => rR z W q n π (s + j) (s' + j) c' a' ∧ rF c0 c' ∧ rG a0 a' ∧ (∀ l, j ≤ l → l < kept → c' (443 + L l) = mI) ∧ (∀ l, l < j → ∃ u, s ≤ u ∧ u < s + j ∧ c' (443 + L l) = nI u) ∧ (∀ i, i < n → (∀ l, l < kept → L l ≠ i) → c' (443 + i) = cL (443 + i)) ∧ (∀ k, 539 ≤ k → k < 677 → c' k = c0 k)) (fun c' a' => rR z W q n π (s + kept) (s' + kept) c' a' ∧ rF c0 c' ∧ rG a0 a' ∧ (∀ l, l < kept → ∃ u, s ≤ u ∧ u < s + kept ∧ c' (443 + L l) = nI u) ∧ (∀ i, i < n → (∀ l, l < kept → L l ≠ i) → c' (443 + i) = cL (443 + i)) ∧ (∀ k, 539 ≤ k → k < 677 → c' k = c0 k)) cL aL rfl rfl ?_ (by omega) (by omega) ?_ ?_ ?_
    · refine ⟨rL1, rF_trans p4 (fun k hk => hcl k (by omega)), rG_trans p5 hal, fun l _ hl => ?_, fun l hl => absurd hl (Nat.not_lt_zero _), fun i hi _ => rfl, fun k hk hk' => (hcl k (by omega)).trans (p10 k hk hk')⟩
      rw [hcl4 _ (p8 l hl).1]; exact (p8 l hl).2.2.2
    · rintro j c' a' hj ⟨g1, g2, g3, g4, g5, g6, g7⟩
      refine Or.inl ?_
      obtain ⟨hLn, hgj, hagj, _⟩ := p8 j hj
      obtain ⟨c'', a'', t1, t1', e1, e2, k1, k2, k3, k4⟩ := rp_list g1 (by omega) hLn
      rcases k4 with ⟨m1, m2, m3, m4⟩ | ⟨m1, _⟩
      · subst m2 m3 m4
        refine ⟨_, a'', ?_, ?_, k1, rF_trans g2 k2, rG_trans g3 k3, fun l hl hl' => ?_, fun l hl => ?_, fun i hi hne => ?_, fun k hk hk' => ?_⟩
        · simp (disch := omega) only [li_0, li_1, li_2, li_3, li_4, li_5, li_6, li_7, li_8, li_9, li_10, li_11, li_12, li_13, li_14, li_15, li_16, li_17, li_18, li_19, li_20, li_21, li_22, li_23, li_24, li_25, li_26, li_27, li_28, li_29, li_30, li_31, li_32, li_33, li_34, li_35, li_36, li_37, li_38, li_39, li_40, li_41, li_42, li_47, li_50, li_60, li_63, li_75, li_100, li_103, li_131, li_159, li_184, li_187, li_215, li_243, li_256, li_271, li_296, li_299, li_323, li_347, li_371, li_395, li_419, li_443, li_467, li_491, li_515, li_539, li_545, li_551, li_557, li_560, li_563, li_569, li_575, li_581, li_587, li_593, li_599, li_605, li_629, li_653, li_677, li_725, li_773, li_794, li_795, li_796, li_1000, li_1546, li_1592, li_6184, li_9552, li_10049, li_10348, li_100000, rb_mI, nI_add, nI_mul, nI_leI, nI_ltI, nI_eq, rb_rdn, rb_wrn, rb_n0, rb_m0, rb_m1n, rb_nm1, rb_m1lt, rb_m1le, rb_0m1, rb_ltm1, rb_lem1, Nat.add_zero, Nat.zero_le, Nat.not_lt_zero, Nat.one_ne_zero, Option.bind_some, Option.bind_none, Option.some.injEq, if_true, if_false, ite_true, ite_false, Sum.elim_inl, Sum.elim_inr, hgj, e1]
          rw [if_neg (by omega)]
        · simp (disch := omega) only [li_0, li_1, li_2, li_3, li_4, li_5, li_6, li_7, li_8, li_9, li_10, li_11, li_12, li_13, li_14, li_15, li_16, li_17, li_18, li_19, li_20, li_21, li_22, li_23, li_24, li_25, li_26, li_27, li_28, li_29, li_30, li_31, li_32, li_33, li_34, li_35, li_36, li_37, li_38, li_39, li_40, li_41, li_42, li_47, li_50, li_60, li_63, li_75, li_100, li_103, li_131, li_159, li_184, li_187, li_215, li_243, li_256, li_271, li_296, li_299, li_323, li_347, li_371, li_395, li_419, li_443, li_467, li_491, li_515, li_539, li_545, li_551, li_557, li_560, li_563, li_569, li_575, li_581, li_587, li_593, li_599, li_605, li_629, li_653, li_677, li_725, li_773, li_794, li_795, li_796, li_1000, li_1546, li_1592, li_6184, li_9552, li_10049, li_10348, li_100000, rb_mI, nI_add, nI_mul, nI_leI, nI_ltI, nI_eq, rb_rdn, rb_wrn, rb_n0, rb_m0, rb_m1n, rb_nm1, rb_m1lt, rb_m1le, rb_0m1, rb_ltm1, rb_lem1, Nat.add_zero, Nat.zero_le, Nat.not_lt_zero, Nat.one_ne_zero, Option.bind_some, Option.bind_none, Option.some.injEq, if_true, if_false, ite_true, ite_false, Sum.elim_inl, Sum.elim_inr, hagj, e2]
          rw [if_neg (by omega)]
        · have := p8' j l (by omega) hl'
          have h2 := (p8 l hl').1
          rw [rb_upn (by omega), rb_upn (by omega), rb_upn (by omega)]
          exact g4 l (by omega) hl'
        · have h2 := (p8 l (by omega)).1
          by_cases e : l = j
          · subst e
            exact ⟨s + l, by omega, by omega, by simp (disch := omega) only [rb_upn, rb_upe]⟩
          · have := p8' l j (by omega) hj
            obtain ⟨u, u1, u2, u3⟩ := g5 l (by omega)
            refine ⟨u, u1, by omega, ?_⟩
            rw [rb_upn (by omega), rb_upn (by omega), rb_upn (by omega)]
            exact u3
        · have := hne j hj
          rw [rb_upn (by omega), rb_upn (by omega), rb_upn (by omega)]
          exact g6 i hi hne
        · rw [rb_upn (by omega), rb_upn (by omega), rb_upn (by omega)]
          exact g7 k hk hk'
      · exact absurd (g4 j (Nat.le_refl _) hj) m1
    · rintro c' a' ⟨g1, g2, g3, g4, g5, g6, g7⟩
      refine ⟨c', a', ?_, ?_, g1, g2, g3, g5, g6, g7⟩
      · simp (disch := omega) only [li_0, li_1, li_2, li_3, li_4, li_5, li_6, li_7, li_8, li_9, li_10, li_11, li_12, li_13, li_14, li_15, li_16, li_17, li_18, li_19, li_20, li_21, li_22, li_23, li_24, li_25, li_26, li_27, li_28, li_29, li_30, li_31, li_32, li_33, li_34, li_35, li_36, li_37, li_38, li_39, li_40, li_41, li_42, li_47, li_50, li_60, li_63, li_75, li_100, li_103, li_131, li_159, li_184, li_187, li_215, li_243, li_256, li_271, li_296, li_299, li_323, li_347, li_371, li_395, li_419, li_443, li_467, li_491, li_515, li_539, li_545, li_551, li_557, li_560, li_563, li_569, li_575, li_581, li_587, li_593, li_599, li_605, li_629, li_653, li_677, li_725, li_773, li_794, li_795, li_796, li_1000, li_1546, li_1592, li_6184, li_9552, li_10049, li_10348, li_100000, rb_mI, nI_add, nI_mul, nI_leI, nI_ltI, nI_eq, rb_rdn, rb_wrn, rb_n0, rb_m0, rb_m1n, rb_nm1, rb_m1lt, rb_m1le, rb_0m1, rb_ltm1, rb_lem1, Nat.add_zero, Nat.zero_le, Nat.not_lt_zero, Nat.one_ne_zero, Option.bind_some, Option.bind_none, Option.some.injEq, if_true, if_false, ite_true, ite_false, Sum.elim_inl, Sum.elim_inr]
        rw [if_pos (by omega)]
      · simp (disch := omega) only [li_0, li_1, li_2, li_3, li_4, li_5, li_6, li_7, li_8, li_9, li_10, li_11, li_12, li_13, li_14, li_15, li_16, li_17, li_18, li_19, li_20, li_21, li_22, li_23, li_24, li_25, li_26, li_27, li_28, li_29, li_30, li_31, li_32, li_33, li_34, li_35, li_36, li_37, li_38, li_39, li_40, li_41, li_42, li_47, li_50, li_60, li_63, li_75, li_100, li_103, li_131, li_159, li_184, li_187, li_215, li_243, li_256, li_271, li_296, li_299, li_323, li_347, li_371, li_395, li_419, li_443, li_467, li_491, li_515, li_539, li_545, li_551, li_557, li_560, li_563, li_569, li_575, li_581, li_587, li_593, li_599, li_605, li_629, li_653, li_677, li_725, li_773, li_794, li_795, li_796, li_1000, li_1546, li_1592, li_6184, li_9552, li_10049, li_10348, li_100000, rb_mI, nI_add, nI_mul, nI_leI, nI_ltI, nI_eq, rb_rdn, rb_wrn, rb_n0, rb_m0, rb_m1n, rb_nm1, rb_m1lt, rb_m1le, rb_0m1, rb_ltm1, rb_lem1, Nat.add_zero, Nat.zero_le, Nat.not_lt_zero, Nat.one_ne_zero, Option.bind_some, Option.bind_none, Option.some.injEq, if_true, if_false, ite_true, ite_false, Sum.elim_inl, Sum.elim_inr]
        rw [if_pos (by omega)]
    · rintro c' a' ⟨g1, g2, g3, g5, g6, g7⟩
      refine ⟨_, _, ?_, ?_, nn, kept, c', a', g, rd1, ag, mf, p1, p2, rfl, rfl, g1, g2, g3, p6, p7, g7, fun i hi ex hne => ?_⟩
      · simp (disch := omega) only [li_0, li_1, li_2, li_3, li_4, li_5, li_6, li_7, li_8, li_9, li_10, li_11, li_12, li_13, li_14, li_15, li_16, li_17, li_18, li_19, li_20, li_21, li_22, li_23, li_24, li_25, li_26, li_27, li_28, li_29, li_30, li_31, li_32, li_33, li_34, li_35, li_36, li_37, li_38, li_39, li_40, li_41, li_42, li_47, li_50, li_60, li_63, li_75, li_100, li_103, li_131, li_159, li_184, li_187, li_215, li_243, li_256, li_271, li_296, li_299, li_323, li_347, li_371, li_395, li_419, li_443, li_467, li_491, li_515, li_539, li_545, li_551, li_557, li_560, li_563, li_569, li_575, li_581, li_587, li_593, li_599, li_605, li_629, li_653, li_677, li_725, li_773, li_794, li_795, li_796, li_1000, li_1546, li_1592, li_6184, li_9552, li_10049, li_10348, li_100000, rb_mI, nI_add, nI_mul, nI_leI, nI_ltI, nI_eq, rb_rdn, rb_wrn, rb_n0, rb_m0, rb_m1n, rb_nm1, rb_m1lt, rb_m1le, rb_0m1, rb_ltm1, rb_lem1, Nat.add_zero, Nat.zero_le, Nat.not_lt_zero, Nat.one_ne_zero, Option.bind_some, Option.bind_none, Option.some.injEq, if_true, if_false, ite_true, ite_false, Sum.elim_inl, Sum.elim_inr, rb_upn]
      · simp (disch := omega) only [li_0, li_1, li_2, li_3, li_4, li_5, li_6, li_7, li_8, li_9, li_10, li_11, li_12, li_13, li_14, li_15, li_16, li_17, li_18, li_19, li_20, li_21, li_22, li_23, li_24, li_25, li_26, li_27, li_28, li_29, li_30, li_31, li_32, li_33, li_34, li_35, li_36, li_37, li_38, li_39, li_40, li_41, li_42, li_47, li_50, li_60, li_63, li_75, li_100, li_103, li_131, li_159, li_184, li_187, li_215, li_243, li_256, li_271, li_296, li_299, li_323, li_347, li_371, li_395, li_419, li_443, li_467, li_491, li_515, li_539, li_545, li_551, li_557, li_560, li_563, li_569, li_575, li_581, li_587, li_593, li_599, li_605, li_629, li_653, li_677, li_725, li_773, li_794, li_795, li_796, li_1000, li_1546, li_1592, li_6184, li_9552, li_10049, li_10348, li_100000, rb_mI, nI_add, nI_mul, nI_leI, nI_ltI, nI_eq, rb_rdn, rb_wrn, rb_n0, rb_m0, rb_m1n, rb_nm1, rb_m1lt, rb_m1le, rb_0m1, rb_ltm1, rb_lem1, Nat.add_zero, Nat.zero_le, Nat.not_lt_zero, Nat.one_ne_zero, Option.bind_some, Option.bind_none, Option.some.injEq, if_true, if_false, ite_true, ite_false, Sum.elim_inl, Sum.elim_inr, xn_ofObject, xn_ofPipe, xn_ofInterest, xn_ofTask, xn_kindOf, xn_bitsOf7, xn_isInterest, xn_isAsleep, xn_objectAt, xn_pipeAt, xn_interestAt, xn_taskAt, rb_nz0, rb_nz1, rb_n10, Nat.one_ne_zero, eq_self, rb_upn]
      · by_cases hl : ∃ l, l < kept ∧ L l = i
        · obtain ⟨l, hl, el⟩ := hl
          obtain ⟨u, u1, u2, u3⟩ := g5 l hl
          rw [el] at u3
          constructor
          · intro hlt
            rw [u3, nI_ltI (by omega) (by omega)] at hlt
            omega
          · intro hall
            exact absurd (by rw [(p8 l hl).2.2.1, el]) (hall l hl)
        · have hne' : ∀ l, l < kept → L l ≠ i := fun l h1 h2 => hl ⟨l, h1, h2⟩
          have e1 := g6 i hi hne'
          rw [hcl4 i hi] at e1
          rw [e1] at hne ⊢
          rcases p3.2.2.2.1.2.1 i hi with ⟨k1, _⟩ | ⟨u, v, k1, k2, k3, k4, _⟩
          · exact absurd k1 hne
          · constructor
            · intro _ k hk e
              obtain ⟨m1, m2, m3, _⟩ := p8 k hk
              rw [m3] at e
              have b1 := (hI.1 _ m1).1
              have b2 := (hI.1 _ hi).1
              have := (nI_eq (by omega) (by omega)).mp e
              exact hne' k hk (rI_inj hI _ _ m1 hi this)
            · intro _
              rw [k4, nI_ltI (by omega) (by omega)]
              exact k1
