/-- a loop with a counter, an invariant and ways out -/
theorem rb_lpi {σ τ ρ : Type} {body : σ → Option (σ ⊕ ρ)} (st : Nat → τ → σ) (h : Nat) (P : Nat → τ → Prop) (Q : ρ → Prop) (hstep : ∀ j s, j < h → P j s → (∃ u, body (st j s) = some (.inl (st (j + 1) u)) ∧ P (j + 1) u) ∨ (∃ r, body (st j s) = some (.inr r) ∧ Q r)) (hend : ∀ s, P h s → ∃ r, body (st h s) = some (.inr r) ∧ Q r) {N : Nat} (hN : h < N) {s : τ} (h0 : P 0 s) : ∃ r, rb_lp body N (st 0 s) = some r ∧ Q r := by
  have key : ∀ (d j : Nat) (s : τ), j + d = h → P j s → ∀ N, d < N → ∃ r, rb_lp body N (st j s) = some r ∧ Q r := by
    intro d
    induction d with
    | zero =>
      intro j s hj hp N hN
      have e : j = h := by omega
      subst e
      obtain ⟨r, h1, h2⟩ := hend s hp
      obtain ⟨M, rfl⟩ : ∃ k, N = k + 1 := ⟨N - 1, by omega⟩
      refine ⟨r, ?_, h2⟩
      show (body (st j s)).bind _ = _
      rw [h1]
      rfl
    | succ d ih =>
      intro j s hj hp N hN
      obtain ⟨M, rfl⟩ : ∃ k, N = k + 1 := ⟨N - 1, by omega⟩
      rcases hstep j s (by omega) hp with ⟨u, h1, h2⟩ | ⟨r, h1, h2⟩
      · obtain ⟨r, h3, h4⟩ := ih (j + 1) u (by omega) h2 M (by omega)
        refine ⟨r, ?_, h4⟩
        show (body (st j s)).bind _ = _
        rw [h1]
        exact h3
      · refine ⟨r, ?_, h2⟩
        show (body (st j s)).bind _ = _
        rw [h1]
        rfl
  exact key h 0 s (by omega) h0 N hN
/-- two loops side by side -/
theorem rb_lpj {σ τ ρ σ' τ' ρ' : Type} {body : σ → Option (σ ⊕ ρ)} {body' : σ' → Option (σ' ⊕ ρ')} (st : Nat → τ → σ) (st' : Nat → τ' → σ') (h : Nat) (P : Nat → τ → τ' → Prop) (Q : ρ → ρ' → Prop) (hstep : ∀ j s s', j < h → P j s s' → (∃ u u', body (st j s) = some (.inl (st (j + 1) u)) ∧ body' (st' j s') = some (.inl (st' (j + 1) u')) ∧ P (j + 1) u u') ∨ (∃ r r', body (st j s) = some (.inr r) ∧ body' (st' j s') = some (.inr r') ∧ Q r r')) (hend : ∀ s s', P h s s' → ∃ r r', body (st h s) = some (.inr r) ∧ body' (st' h s') = some (.inr r') ∧ Q r r') {N N' : Nat} (hN : h < N) (hN' : h < N') {s : τ} {s' : τ'} (h0 : P 0 s s') : ∃ r r', rb_lp body N (st 0 s) = some r ∧ rb_lp body' N' (st' 0 s') = some r' ∧ Q r r' := by
  have key : ∀ (d j : Nat) (s : τ) (s' : τ'), j + d = h → P j s s' → ∀ N N', d < N → d < N' → ∃ r r', rb_lp body N (st j s) = some r ∧ rb_lp body' N' (st' j s') = some r' ∧ Q r r' := by
    intro d
    induction d with
    | zero =>
      intro j s s' hj hp N N' hN hN'
      have e : j = h := by omega
      subst e
      obtain ⟨r, r', h1, h1', h2⟩ := hend s s' hp
      obtain ⟨M, rfl⟩ : ∃ k, N = k + 1 := ⟨N - 1, by omega⟩
      obtain ⟨M', rfl⟩ : ∃ k, N' = k + 1 := ⟨N' - 1, by omega⟩
      refine ⟨r, r', ?_, ?_, h2⟩
      · show (body (st j s)).bind _ = _
        rw [h1]
        rfl
      · show (body' (st' j s')).bind _ = _
        rw [h1']
        rfl
    | succ d ih =>
      intro j s s' hj hp N N' hN hN'
      obtain ⟨M, rfl⟩ : ∃ k, N = k + 1 := ⟨N - 1, by omega⟩
      obtain ⟨M', rfl⟩ : ∃ k, N' = k + 1 := ⟨N' - 1, by omega⟩
      rcases hstep j s s' (by omega) hp with ⟨u, u', h1, h1', h2⟩ | ⟨r, r', h1, h1', h2⟩
      · obtain ⟨r, r', h3, h3', h4⟩ := ih (j + 1) u u' (by omega) h2 M M' (by omega) (by omega)
        refine ⟨r, r', ?_, ?_, h4⟩
        · show (body (st j s)).bind _ = _
          rw [h1]
          exact h3
        · show (body' (st' j s')).bind _ = _
          rw [h1']
          exact h3'
      · refine ⟨r, r', ?_, ?_, h2⟩
        · show (body (st j s)).bind _ = _
          rw [h1]
          rfl
        · show (body' (st' j s')).bind _ = _
          rw [h1']
          rfl
  exact key h 0 s s' (by omega) h0 N N' hN hN'
/-- the same, behind which something follows -/
theorem rb_lpib {σ τ ρ α : Type} {body : σ → Option (σ ⊕ ρ)} {N : Nat} {s0 : σ} {f : ρ → Option α} {T : α → Prop} (st : Nat → τ → σ) (h : Nat) (P : Nat → τ → Prop) (Q : ρ → Prop) (s : τ) (hs0 : st 0 s = s0) (h0 : P 0 s) (hN : h < N) (hstep : ∀ j s, j < h → P j s → (∃ u, body (st j s) = some (.inl (st (j + 1) u)) ∧ P (j + 1) u) ∨ (∃ r, body (st j s) = some (.inr r) ∧ Q r)) (hend : ∀ s, P h s → ∃ r, body (st h s) = some (.inr r) ∧ Q r) (hf : ∀ r, Q r → ∃ o, f r = some o ∧ T o) : ∃ o, (rb_lp body N s0).bind f = some o ∧ T o := by
  obtain ⟨r, h1, h2⟩ := rb_lpi st h P Q hstep hend hN h0
  rw [hs0] at h1
  rw [h1]
  exact hf r h2
theorem rb_lpjb {σ τ ρ σ' τ' ρ' α α' : Type} {body : σ → Option (σ ⊕ ρ)} {body' : σ' → Option (σ' ⊕ ρ')} {N N' : Nat} {s0 : σ} {s0' : σ'} {f : ρ → Option α} {f' : ρ' → Option α'} {T : α → α' → Prop} (st : Nat → τ → σ) (st' : Nat → τ' → σ') (h : Nat) (P : Nat → τ → τ' → Prop) (Q : ρ → ρ' → Prop) (s : τ) (s' : τ') (hs0 : st 0 s = s0) (hs0' : st' 0 s' = s0') (h0 : P 0 s s') (hN : h < N) (hN' : h < N') (hstep : ∀ j s s', j < h → P j s s' → (∃ u u', body (st j s) = some (.inl (st (j + 1) u)) ∧ body' (st' j s') = some (.inl (st' (j + 1) u')) ∧ P (j + 1) u u') ∨ (∃ r r', body (st j s) = some (.inr r) ∧ body' (st' j s') = some (.inr r') ∧ Q r r')) (hend : ∀ s s', P h s s' → ∃ r r', body (st h s) = some (.inr r) ∧ body' (st' h s') = some (.inr r') ∧ Q r r') (hf : ∀ r r', Q r r' → ∃ o o', f r = some o ∧ f' r' = some o' ∧ T o o') : ∃ o o', (rb_lp body N s0).bind f = some o ∧ (rb_lp body' N' s0').bind f' = some o' ∧ T o o' := by
  obtain ⟨r, r', h1, h1', h2⟩ := rb_lpj st st' h P Q hstep hend hN hN' h0
  rw [hs0] at h1
  rw [hs0'] at h1'
  rw [h1, h1']
  exact hf r r' h2
theorem rb_s30 : nI 3 - nI 0 = nI 3 := by decide
theorem rb_s31 : nI 3 - nI 1 = nI 2 := by decide
theorem rb_dead {c : rb_Row} {x : Nat} (h : c (19 + x) = mI) : ¬ rb_live c x := by
  rintro ⟨k, hk, e⟩
  rw [h] at e
  simp (disch := omega) only [rb_mI, nI_add, nI_mul, nI_leI, nI_ltI, nI_eq, rb_rdn, rb_wrn, rb_n0, rb_m0, rb_m1n, rb_nm1, rb_m1lt, rb_m1le, rb_0m1, rb_ltm1, rb_lem1] at e
theorem rb_lvk {c : rb_Row} {x k : Nat} (h : c (19 + x) = nI k) (hk : k < 6) : rb_live c x := ⟨k, hk, h⟩
theorem rb_nlt0 {v : Int32} {k : Nat} (e : v = nI k) (hk : k < 2 ^ 31) : ¬ v < nI 0 := by rw [e]; exact nI_pos hk
/-- one or the other -/
theorem rH_kind {z s s' : Nat} {c a : rb_Row} (h : rH z s s' c a) {x : Nat} (hx : x < 28) : c (19 + x) = mI ∨ rb_live c x := by
  rcases (h.2.1 x hx).2 with h | ⟨e, p, r, b, h0, h1, _⟩ | ⟨b, _, h, _⟩ | ⟨b, _, h, _⟩ | h | ⟨k, r, h, _⟩
  · exact Or.inl h.1
  · exact Or.inr ⟨e, by omega, h1⟩
  · exact Or.inr ⟨2, by omega, h⟩
  · exact Or.inr ⟨3, by omega, h⟩
  · exact Or.inr ⟨4, by omega, h.1⟩
  · exact Or.inr ⟨5, by omega, h⟩
theorem rH_wait {z s s' : Nat} {c a : rb_Row} (h : rH z s s' c a) {x y : Nat} (hy : y < 28) (hx : x < 28) : (!decide (a (16 + 6 * y) < nI 0) && (!decide (a (16 + 6 * y + 4) < nI 0) && (decide (nI x < nI 0) || decide (a (16 + 6 * y + 4) = nI x)))) = decide (c (243 + y) = nI x) := by
  have hk := (h.2.1 y hy).1
  have h0 : ¬ nI x < nI 0 := nI_pos (by omega)
  rcases h.2.2.2.2.1 y hy with ⟨q1, q2⟩ | ⟨l, u, v, q1, q2, q3, q4, q5, q6, q7, q8, _⟩
  · have e : ¬ c (243 + y) = nI x := by rw [q1]; simp (disch := omega) only [rb_mI, nI_add, nI_mul, nI_leI, nI_ltI, nI_eq, rb_rdn, rb_wrn, rb_n0, rb_m0, rb_m1n, rb_nm1, rb_m1lt, rb_m1le, rb_0m1, rb_ltm1, rb_lem1]; exact not_false
    rcases rH_kind h hy with hd | hl
    · have : a (16 + 6 * y) < nI 0 := by rw [hk, hd]; simp (disch := omega) only [rb_mI, nI_add, nI_mul, nI_leI, nI_ltI, nI_eq, rb_rdn, rb_wrn, rb_n0, rb_m0, rb_m1n, rb_nm1, rb_m1lt, rb_m1le, rb_0m1, rb_ltm1, rb_lem1]
      simp [this, e]
    · have : a (16 + 6 * y + 4) < nI 0 := by rw [q2 hl]; simp (disch := omega) only [rb_mI, nI_add, nI_mul, nI_leI, nI_ltI, nI_eq, rb_rdn, rb_wrn, rb_n0, rb_m0, rb_m1n, rb_nm1, rb_m1lt, rb_m1le, rb_0m1, rb_ltm1, rb_lem1]
      simp [this, e]
  · have e1 : ¬ a (16 + 6 * y) < nI 0 := by rw [hk]; exact rb_nlt0 q8 (by omega)
    have e2 : ¬ a (16 + 6 * y + 4) < nI 0 := rb_nlt0 q6 (by omega)
    rw [q5, q6]
    rw [q6] at e2
    simp [e1, e2, h0]
theorem yn_waits {z s s' : Nat} {c a : rb_Row} (h : rH z s s' c a) {x : Nat} (hx : x < 28) : XX7_waitingAt a (nI x) = some (nI (rb_cn (fun y => decide (c (243 + y) = nI x)) 28)) := by
  rw [yn_waitingAt, rb_cn_congr (fun y hy => rH_wait h hy hx)]
theorem yn_otherEnd (a : rb_Row) {x p e : Nat} (hx : x < 28) (hp : p < 28) (he : e < 2) (h0 : a (16 + 6 * x) = nI e) (h1 : a (16 + 6 * x + 1) = nI p) : XX7_otherEnd a (nI x) = some (a (184 + 4 * p + (3 - e))) := by
  unfold XX7_otherEnd
  have : e = 0 ∨ e = 1 := by omega
  rcases this with r | r <;> subst r <;> simp (disch := omega) only [li_0, li_1, li_2, li_3, li_4, li_5, li_6, li_7, li_8, li_9, li_10, li_11, li_12, li_13, li_14, li_15, li_16, li_17, li_18, li_19, li_20, li_21, li_22, li_23, li_24, li_25, li_26, li_27, li_28, li_29, li_30, li_31, li_32, li_33, li_34, li_35, li_36, li_37, li_38, li_39, li_40, li_41, li_42, li_47, li_50, li_60, li_63, li_75, li_100, li_103, li_131, li_159, li_184, li_187, li_215, li_243, li_256, li_271, li_296, li_299, li_323, li_347, li_371, li_395, li_419, li_443, li_467, li_491, li_515, li_539, li_545, li_551, li_557, li_560, li_563, li_569, li_575, li_581, li_587, li_593, li_599, li_605, li_629, li_653, li_677, li_725, li_773, li_794, li_795, li_796, li_1000, li_1546, li_1592, li_6184, li_9552, li_10049, li_10348, li_100000, rb_mI, nI_add, nI_mul, nI_leI, nI_ltI, nI_eq, rb_rdn, rb_wrn, rb_n0, rb_m0, rb_m1n, rb_nm1, rb_m1lt, rb_m1le, rb_0m1, rb_ltm1, rb_lem1, Nat.add_zero, Option.bind_some, Option.bind_none, Option.some.injEq, if_true, if_false, ite_true, ite_false, Sum.elim_inl, Sum.elim_inr, xn_ofObject, xn_ofPipe, xn_ofInterest, xn_ofTask, xn_kindOf, xn_bitsOf7, xn_isInterest, xn_isAsleep, xn_objectAt, xn_pipeAt, xn_interestAt, xn_taskAt, rb_nz0, rb_nz1, rb_n10, Nat.one_ne_zero, eq_self, h0, h1, rb_s30, rb_s31]
set_option maxHeartbeats 4000000 in
theorem yn_readyPlain {z s s' : Nat} {c a : rb_Row} (h : rH z s s' c a) {x : Nat} (hx : x < 28) (hl : rb_live c x) : ∃ v, XX7_readyPlain a (nI x) = some v ∧ (x ≠ z → c (19 + x) ≠ nI 4 → v = rb_pl c x) := by
  obtain ⟨hk, hO⟩ := h.2.1 x hx
  unfold XX7_readyPlain
  rcases hO with h' | ⟨e, p, r, b, h0, h1, h2, h3, h4, h5, h6, h7, h8, h9, h10⟩ | ⟨b, g1, g2, g3, g4, g5, g6⟩ | ⟨b, g1, g2, g3, g4, g5, g6⟩ | ⟨g1, g2⟩ | ⟨k, r, g1, g2, g3, g4, g5, g6, g7, g8, g9, g10, g11⟩
  · exact absurd hl (rb_dead h'.1)
  · rw [h1] at hk
    have ho := yn_otherEnd a hx h2 h0 hk h3
    have he : e = 0 ∨ e = 1 := by omega
    rcases he with q | q
    · subst q
      refine ⟨rb_pl c x, ?_, fun _ _ => rfl⟩
      simp (disch := omega) only [li_0, li_1, li_2, li_3, li_4, li_5, li_6, li_7, li_8, li_9, li_10, li_11, li_12, li_13, li_14, li_15, li_16, li_17, li_18, li_19, li_20, li_21, li_22, li_23, li_24, li_25, li_26, li_27, li_28, li_29, li_30, li_31, li_32, li_33, li_34, li_35, li_36, li_37, li_38, li_39, li_40, li_41, li_42, li_47, li_50, li_60, li_63, li_75, li_100, li_103, li_131, li_159, li_184, li_187, li_215, li_243, li_256, li_271, li_296, li_299, li_323, li_347, li_371, li_395, li_419, li_443, li_467, li_491, li_515, li_539, li_545, li_551, li_557, li_560, li_563, li_569, li_575, li_581, li_587, li_593, li_599, li_605, li_629, li_653, li_677, li_725, li_773, li_794, li_795, li_796, li_1000, li_1546, li_1592, li_6184, li_9552, li_10049, li_10348, li_100000, rb_mI, nI_add, nI_mul, nI_leI, nI_ltI, nI_eq, rb_rdn, rb_wrn, rb_n0, rb_m0, rb_m1n, rb_nm1, rb_m1lt, rb_m1le, rb_0m1, rb_ltm1, rb_lem1, Nat.add_zero, Option.bind_some, Option.bind_none, Option.some.injEq, if_true, if_false, ite_true, ite_false, Sum.elim_inl, Sum.elim_inr, xn_ofObject, xn_ofPipe, xn_ofInterest, xn_ofTask, xn_kindOf, xn_bitsOf7, xn_isInterest, xn_isAsleep, xn_objectAt, xn_pipeAt, xn_interestAt, xn_taskAt, rb_nz0, rb_nz1, rb_n10, Nat.one_ne_zero, eq_self, hk, h3, ho, h5, h6]
      simp (disch := omega) only [rb_pl, h1, h7, rb_mI, nI_add, nI_mul, nI_leI, nI_ltI, nI_eq, rb_rdn, rb_wrn, rb_n0, rb_m0, rb_m1n, rb_nm1, rb_m1lt, rb_m1le, rb_0m1, rb_ltm1, rb_lem1]
      by_cases g : nI 0 ≤ c (131 + x) <;> by_cases g' : b ≤ 0 <;> simp [g, g']
    · subst q
      refine ⟨rb_pl c x, ?_, fun _ _ => rfl⟩
      simp (disch := omega) only [li_0, li_1, li_2, li_3, li_4, li_5, li_6, li_7, li_8, li_9, li_10, li_11, li_12, li_13, li_14, li_15, li_16, li_17, li_18, li_19, li_20, li_21, li_22, li_23, li_24, li_25, li_26, li_27, li_28, li_29, li_30, li_31, li_32, li_33, li_34, li_35, li_36, li_37, li_38, li_39, li_40, li_41, li_42, li_47, li_50, li_60, li_63, li_75, li_100, li_103, li_131, li_159, li_184, li_187, li_215, li_243, li_256, li_271, li_296, li_299, li_323, li_347, li_371, li_395, li_419, li_443, li_467, li_491, li_515, li_539, li_545, li_551, li_557, li_560, li_563, li_569, li_575, li_581, li_587, li_593, li_599, li_605, li_629, li_653, li_677, li_725, li_773, li_794, li_795, li_796, li_1000, li_1546, li_1592, li_6184, li_9552, li_10049, li_10348, li_100000, rb_mI, nI_add, nI_mul, nI_leI, nI_ltI, nI_eq, rb_rdn, rb_wrn, rb_n0, rb_m0, rb_m1n, rb_nm1, rb_m1lt, rb_m1le, rb_0m1, rb_ltm1, rb_lem1, Nat.add_zero, Option.bind_some, Option.bind_none, Option.some.injEq, if_true, if_false, ite_true, ite_false, Sum.elim_inl, Sum.elim_inr, xn_ofObject, xn_ofPipe, xn_ofInterest, xn_ofTask, xn_kindOf, xn_bitsOf7, xn_isInterest, xn_isAsleep, xn_objectAt, xn_pipeAt, xn_interestAt, xn_taskAt, rb_nz0, rb_nz1, rb_n10, Nat.one_ne_zero, eq_self, hk, h3, ho, h5, h6, h8]
      simp (disch := omega) only [rb_pl, h1, h7, h9, rb_mI, nI_add, nI_mul, nI_leI, nI_ltI, nI_eq, rb_rdn, rb_wrn, rb_n0, rb_m0, rb_m1n, rb_nm1, rb_m1lt, rb_m1le, rb_0m1, rb_ltm1, rb_lem1]
      by_cases g : nI 0 ≤ c (131 + x) <;> by_cases g' : r ≤ b <;> simp [g, g']
  · rw [g2] at hk
    refine ⟨rb_pl c x, ?_, fun _ _ => rfl⟩
    simp (disch := omega) only [li_0, li_1, li_2, li_3, li_4, li_5, li_6, li_7, li_8, li_9, li_10, li_11, li_12, li_13, li_14, li_15, li_16, li_17, li_18, li_19, li_20, li_21, li_22, li_23, li_24, li_25, li_26, li_27, li_28, li_29, li_30, li_31, li_32, li_33, li_34, li_35, li_36, li_37, li_38, li_39, li_40, li_41, li_42, li_47, li_50, li_60, li_63, li_75, li_100, li_103, li_131, li_159, li_184, li_187, li_215, li_243, li_256, li_271, li_296, li_299, li_323, li_347, li_371, li_395, li_419, li_443, li_467, li_491, li_515, li_539, li_545, li_551, li_557, li_560, li_563, li_569, li_575, li_581, li_587, li_593, li_599, li_605, li_629, li_653, li_677, li_725, li_773, li_794, li_795, li_796, li_1000, li_1546, li_1592, li_6184, li_9552, li_10049, li_10348, li_100000, rb_mI, nI_add, nI_mul, nI_leI, nI_ltI, nI_eq, rb_rdn, rb_wrn, rb_n0, rb_m0, rb_m1n, rb_nm1, rb_m1lt, rb_m1le, rb_0m1, rb_ltm1, rb_lem1, Nat.add_zero, Option.bind_some, Option.bind_none, Option.some.injEq, if_true, if_false, ite_true, ite_false, Sum.elim_inl, Sum.elim_inr, xn_ofObject, xn_ofPipe, xn_ofInterest, xn_ofTask, xn_kindOf, xn_bitsOf7, xn_isInterest, xn_isAsleep, xn_objectAt, xn_pipeAt, xn_interestAt, xn_taskAt, rb_nz0, rb_nz1, rb_n10, Nat.one_ne_zero, eq_self, hk, g4]
    simp (disch := omega) only [rb_pl, g2, g3, rb_mI, nI_add, nI_mul, nI_leI, nI_ltI, nI_eq, rb_rdn, rb_wrn, rb_n0, rb_m0, rb_m1n, rb_nm1, rb_m1lt, rb_m1le, rb_0m1, rb_ltm1, rb_lem1]
    by_cases g : 1000 ≤ b <;> by_cases g' : b ≤ 0 <;> simp [g, g']
  · rw [g2] at hk
    refine ⟨rb_pl c x, ?_, fun _ _ => rfl⟩
    simp (disch := omega) only [li_0, li_1, li_2, li_3, li_4, li_5, li_6, li_7, li_8, li_9, li_10, li_11, li_12, li_13, li_14, li_15, li_16, li_17, li_18, li_19, li_20, li_21, li_22, li_23, li_24, li_25, li_26, li_27, li_28, li_29, li_30, li_31, li_32, li_33, li_34, li_35, li_36, li_37, li_38, li_39, li_40, li_41, li_42, li_47, li_50, li_60, li_63, li_75, li_100, li_103, li_131, li_159, li_184, li_187, li_215, li_243, li_256, li_271, li_296, li_299, li_323, li_347, li_371, li_395, li_419, li_443, li_467, li_491, li_515, li_539, li_545, li_551, li_557, li_560, li_563, li_569, li_575, li_581, li_587, li_593, li_599, li_605, li_629, li_653, li_677, li_725, li_773, li_794, li_795, li_796, li_1000, li_1546, li_1592, li_6184, li_9552, li_10049, li_10348, li_100000, rb_mI, nI_add, nI_mul, nI_leI, nI_ltI, nI_eq, rb_rdn, rb_wrn, rb_n0, rb_m0, rb_m1n, rb_nm1, rb_m1lt, rb_m1le, rb_0m1, rb_ltm1, rb_lem1, Nat.add_zero, Option.bind_some, Option.bind_none, Option.some.injEq, if_true, if_false, ite_true, ite_false, Sum.elim_inl, Sum.elim_inr, xn_ofObject, xn_ofPipe, xn_ofInterest, xn_ofTask, xn_kindOf, xn_bitsOf7, xn_isInterest, xn_isAsleep, xn_objectAt, xn_pipeAt, xn_interestAt, xn_taskAt, rb_nz0, rb_nz1, rb_n10, Nat.one_ne_zero, eq_self, hk, g4]
    simp (disch := omega) only [rb_pl, g2, g3, rb_mI, nI_add, nI_mul, nI_leI, nI_ltI, nI_eq, rb_rdn, rb_wrn, rb_n0, rb_m0, rb_m1n, rb_nm1, rb_m1lt, rb_m1le, rb_0m1, rb_ltm1, rb_lem1]
    by_cases g' : b ≤ 0 <;> simp [g']
  · rw [g1] at hk
    refine ⟨nI 0, ?_, fun _ h => absurd g1 h⟩
    simp (disch := omega) only [li_0, li_1, li_2, li_3, li_4, li_5, li_6, li_7, li_8, li_9, li_10, li_11, li_12, li_13, li_14, li_15, li_16, li_17, li_18, li_19, li_20, li_21, li_22, li_23, li_24, li_25, li_26, li_27, li_28, li_29, li_30, li_31, li_32, li_33, li_34, li_35, li_36, li_37, li_38, li_39, li_40, li_41, li_42, li_47, li_50, li_60, li_63, li_75, li_100, li_103, li_131, li_159, li_184, li_187, li_215, li_243, li_256, li_271, li_296, li_299, li_323, li_347, li_371, li_395, li_419, li_443, li_467, li_491, li_515, li_539, li_545, li_551, li_557, li_560, li_563, li_569, li_575, li_581, li_587, li_593, li_599, li_605, li_629, li_653, li_677, li_725, li_773, li_794, li_795, li_796, li_1000, li_1546, li_1592, li_6184, li_9552, li_10049, li_10348, li_100000, rb_mI, nI_add, nI_mul, nI_leI, nI_ltI, nI_eq, rb_rdn, rb_wrn, rb_n0, rb_m0, rb_m1n, rb_nm1, rb_m1lt, rb_m1le, rb_0m1, rb_ltm1, rb_lem1, Nat.add_zero, Option.bind_some, Option.bind_none, Option.some.injEq, if_true, if_false, ite_true, ite_false, Sum.elim_inl, Sum.elim_inr, xn_ofObject, xn_ofPipe, xn_ofInterest, xn_ofTask, xn_kindOf, xn_bitsOf7, xn_isInterest, xn_isAsleep, xn_objectAt, xn_pipeAt, xn_interestAt, xn_taskAt, rb_nz0, rb_nz1, rb_n10, Nat.one_ne_zero, eq_self, hk]
    simp
  · rw [g1] at hk
    have hw := yn_waits h hx
    have hb := rb_cn_le (fun y => decide (c (243 + y) = nI x)) 28
    refine ⟨if rb_cn (fun y => decide (c (243 + y) = nI x)) 28 ≤ 0 then nI 0 else nI 1, ?_, fun hz _ => ?_⟩
    · simp (disch := omega) only [li_0, li_1, li_2, li_3, li_4, li_5, li_6, li_7, li_8, li_9, li_10, li_11, li_12, li_13, li_14, li_15, li_16, li_17, li_18, li_19, li_20, li_21, li_22, li_23, li_24, li_25, li_26, li_27, li_28, li_29, li_30, li_31, li_32, li_33, li_34, li_35, li_36, li_37, li_38, li_39, li_40, li_41, li_42, li_47, li_50, li_60, li_63, li_75, li_100, li_103, li_131, li_159, li_184, li_187, li_215, li_243, li_256, li_271, li_296, li_299, li_323, li_347, li_371, li_395, li_419, li_443, li_467, li_491, li_515, li_539, li_545, li_551, li_557, li_560, li_563, li_569, li_575, li_581, li_587, li_593, li_599, li_605, li_629, li_653, li_677, li_725, li_773, li_794, li_795, li_796, li_1000, li_1546, li_1592, li_6184, li_9552, li_10049, li_10348, li_100000, rb_mI, nI_add, nI_mul, nI_leI, nI_ltI, nI_eq, rb_rdn, rb_wrn, rb_n0, rb_m0, rb_m1n, rb_nm1, rb_m1lt, rb_m1le, rb_0m1, rb_ltm1, rb_lem1, Nat.add_zero, Option.bind_some, Option.bind_none, Option.some.injEq, if_true, if_false, ite_true, ite_false, Sum.elim_inl, Sum.elim_inr, xn_ofObject, xn_ofPipe, xn_ofInterest, xn_ofTask, xn_kindOf, xn_bitsOf7, xn_isInterest, xn_isAsleep, xn_objectAt, xn_pipeAt, xn_interestAt, xn_taskAt, rb_nz0, rb_nz1, rb_n10, Nat.one_ne_zero, eq_self, hk, hw]
      by_cases g' : rb_cn (fun y => decide (c (243 + y) = nI x)) 28 ≤ 0 <;> simp [g']
    · obtain ⟨g12, g13⟩ := g11 hz
      simp (disch := omega) only [rb_pl, g1, g12, rb_mI, nI_add, nI_mul, nI_leI, nI_ltI, nI_eq, rb_rdn, rb_wrn, rb_n0, rb_m0, rb_m1n, rb_nm1, rb_m1lt, rb_m1le, rb_0m1, rb_ltm1, rb_lem1]
      simp
/-- heights -/
def rb_hm (c : rb_Row) (n : Nat) : Nat → Nat → Prop
  | 0, _ => False
  | m + 1, x => ∀ i y, i < n → c (299 + i) = nI x → y < 28 → c (323 + i) = nI y → c (19 + y) = nI 4 → rb_hm c n m y
theorem rb_hm_up {c : rb_Row} {n : Nat} : ∀ m x, rb_hm c n m x → rb_hm c n (m + 1) x := by
  intro m
  induction m with
  | zero => intro x h; exact h.elim
  | succ m ih => intro x h i y hi e1 hy e2 e3; exact ih y (h i y hi e1 hy e2 e3)
theorem rI_hm3 {n : Nat} {π : Nat → Nat} {s' : Nat} {c a : rb_Row} (h : rI n π s' c a) (x : Nat) : rb_hm c n 3 x := by
  intro i y hi e1 hy e2 e3 j w hj f1 hw f2 f3 k v hk g1 hv g2 g3
  exact absurd g3 (h.2.2.2.2.2.2.1 i j k v hi hj hk (by rw [e2, f1]) (by rw [f2, g1]) hv g2)
theorem rI_aims {n : Nat} {π : Nat → Nat} {s' : Nat} {c a : rb_Row} (h : rI n π s' c a) : rb_aims c n := by
  intro i hi
  obtain ⟨y, p1, p2, p3, _⟩ := h.2.2.1 i hi
  exact ⟨y, p1, p2, p3⟩
theorem rb_tr_congr {c : rb_Row} {F G : Nat → Int32} {x i : Nat} (h : c (299 + i) = nI x → F (nt (c (323 + i))) = G (nt (c (323 + i)))) : rb_tr c F x i = rb_tr c G x i := by
  unfold rb_tr
  by_cases e : c (299 + i) = nI x
  · rw [h e]
  · simp [e]
theorem rq_stab {c : rb_Row} {n : Nat} (ha : rb_aims c n) : ∀ m x l l', (c (19 + x) ≠ nI 4 ∨ rb_hm c n m x) → m + 1 ≤ l → m + 1 ≤ l' → rq c n l x = rq c n l' x := by
  intro m
  induction m with
  | zero =>
    intro x l l' h hl hl'
    obtain ⟨l, rfl⟩ : ∃ k, l = k + 1 := ⟨l - 1, by omega⟩
    obtain ⟨l', rfl⟩ : ∃ k, l' = k + 1 := ⟨l' - 1, by omega⟩
    rcases h with h | h
    · simp only [rq, h, if_false]
    · exact h.elim
  | succ m ih =>
    intro x l l' h hl hl'
    obtain ⟨l, rfl⟩ : ∃ k, l = k + 1 := ⟨l - 1, by omega⟩
    obtain ⟨l', rfl⟩ : ∃ k, l' = k + 1 := ⟨l' - 1, by omega⟩
    by_cases hk : c (19 + x) = nI 4
    · simp only [rq, hk, if_true]
      have hh : rb_hm c n (m + 1) x := by
        rcases h with h | h
        · exact absurd hk h
        · exact h
      rw [rb_fd_congr (p := rb_tr c (rq c n l) x) (q := rb_tr c (rq c n l') x)]
      intro i hi
      refine rb_tr_congr (fun e => ?_)
      obtain ⟨y, hy, ey, _⟩ := ha i hi
      rw [nt_n ey (by omega)]
      refine ih y l l' ?_ (by omega) (by omega)
      by_cases g : c (19 + y) = nI 4
      · exact Or.inr (hh i y hi e hy ey g)
      · exact Or.inl g
    · simp only [rq, hk, if_false]
theorem rq_fix {n : Nat} {π : Nat → Nat} {s' : Nat} {c a : rb_Row} (h : rI n π s' c a) {x : Nat} (hk : c (19 + x) = nI 4) : rq c n 4 x = if rb_cn (rb_tr c (rq c n 4) x) n ≤ 0 then nI 0 else nI 1 := by
  have e : rb_fd (rb_tr c (rq c n 3) x) n = rb_fd (rb_tr c (rq c n 4) x) n := rb_fd_congr (fun i hi => rb_tr_congr (fun e => by
    obtain ⟨y, hy, ey, _⟩ := rI_aims h i hi
    rw [nt_n ey (by omega)]
    refine rq_stab (rI_aims h) 2 y 3 4 ?_ (by omega) (by omega)
    by_cases g : c (19 + y) = nI 4
    · exact Or.inr (rI_hm3 h x i y hi e hy ey g)
    · exact Or.inl g))
  have e' : rq c n 4 x = (match rb_fd (rb_tr c (rq c n 3) x) n with
    | some _ => nI 1
    | none => nI 0) := by 
        rw [show (4 : Nat) = 3 + 1 from rfl, rq, if_pos hk]
        cases rb_fd (rb_tr c (rq c n 3) x) n <;> rfl
  rw [e', e]
  cases hf : rb_fd (rb_tr c (rq c n 4) x) n with
  | none => rw [if_pos (by rw [rb_cn_zero (rb_fd_none hf)]; exact Nat.le_refl 0)]
  | some i =>
    obtain ⟨h1, h2, _⟩ := rb_fd_some hf
    have := rb_cn_pos h1 h2
    rw [if_neg (by omega)]
theorem rI_inj {n : Nat} {π : Nat → Nat} {s' : Nat} {c a : rb_Row} (h : rI n π s' c a) : ∀ i j, i < n → j < n → π i = π j → i = j := by
  intro i j hi hj e
  rcases Nat.lt_trichotomy i j with l | l | l
  · have := h.2.2.2.2.1 i j l hj
    rw [e] at this
    omega
  · exact l
  · have := h.2.2.2.2.1 j i l hi
    rw [e] at this
    omega
theorem rI_slot {n : Nat} {π : Nat → Nat} {s' : Nat} {c a : rb_Row} (h : rI n π s' c a) {t : Nat} (ht : t < 24) (hne : a (296 + 11 * t) ≠ mI) : ∃ i, i < n ∧ π i = t := by
  refine Classical.byContradiction (fun hn => hne (h.2.2.2.2.2.1 t ht (fun i hi e => hn ⟨i, hi, e⟩)))
theorem rI_slots {n : Nat} {π : Nat → Nat} {s' : Nat} {c a : rb_Row} (h : rI n π s' c a) : rb_slots a := by
  intro t ht hne
  obtain ⟨i, hi, e⟩ := rI_slot h ht (fun e => hne (by rw [e]; simp (disch := omega) only [rb_mI, nI_add, nI_mul, nI_leI, nI_ltI, nI_eq, rb_rdn, rb_wrn, rb_n0, rb_m0, rb_m1n, rb_nm1, rb_m1lt, rb_m1le, rb_0m1, rb_ltm1, rb_lem1]))
  obtain ⟨y, hy, ey, _⟩ := h.2.2.1 i hi
  exact ⟨y, hy, by rw [← e, (h.1 i hi).2.2.1, ey]⟩
theorem rL_lst {n : Nat} {π : Nat → Nat} {s s' : Nat} {c a : rb_Row} (h : rL n π s s' c a) (hs : s' < 2000000000) (hss : s ≤ s') {i : Nat} (hi : i < n) : (a (296 + 11 * π i + 7) ≤ nI 0) = (c (443 + i) < nI 0) := by
  rcases h.2.1 i hi with ⟨p1, p2, _⟩ | ⟨u, v, p1, p2, p3, p4, p5, _⟩
  · rw [p1, p2]; simp (disch := omega) only [rb_mI, nI_add, nI_mul, nI_leI, nI_ltI, nI_eq, rb_rdn, rb_wrn, rb_n0, rb_m0, rb_m1n, rb_nm1, rb_m1lt, rb_m1le, rb_0m1, rb_ltm1, rb_lem1]; exact eq_true (by omega)
  · rw [p4, p5]; exact propext ⟨fun h => absurd h (nI_ge (by omega) (by omega)), fun h => absurd h (nI_pos (by omega))⟩
/-- an interest tells, on both sides -/
theorem rb_tells {n : Nat} {π : Nat → Nat} {s s' : Nat} {c a rd : rb_Row} {F : Nat → Int32} (hI : rI n π s' c a) (hL : rL n π s s' c a) {i : Nat} (hi : i < n) (hF : rd (nt (c (323 + i))) = F (nt (c (323 + i)))) : rb_it a rd (π i) = (!decide (c (419 + i) = nI 0) && !decide (rb_bt c i &&& F (nt (c (323 + i))) = nI 0)) := by
  unfold rb_it rb_bt
  obtain ⟨q1, q2, q3, q4, q5, q6⟩ := hI.1 i hi
  obtain ⟨p1, p2, _⟩ := hL.1 i hi
  rw [q3, q5, p2, hF, Int32.and_comm]
  rcases p1 with p | p <;> rw [p] <;> simp [rb_n10, ke_01]
theorem yn_shows {n : Nat} {π : Nat → Nat} {s s' : Nat} {c a rd : rb_Row} {F : Nat → Int32} (hI : rI n π s' c a) (hL : rL n π s s' c a) (hs : s' < 2000000000) (hss : s ≤ s') {x : Nat} (hx : x < 28) (hF : ∀ i, i < n → c (299 + i) = nI x → rd (nt (c (323 + i))) = F (nt (c (323 + i)))) : XX7_showsOf a rd (nI x) = some (nI (rb_cn (rb_tr c F x) n)) := by
  rw [yn_showsOf a rd x hx (rI_slots hI)]
  rw [rb_cn_pi (n := n) (π := π) (fun i hi => (hI.1 i hi).1) (rI_inj hI) ?_]
  · rw [rb_cn_congr]
    intro i hi
    unfold rb_tr
    have e := rL_lst hL hs hss hi
    rw [(hI.1 i hi).2.1]
    simp only [e]
    by_cases g : c (299 + i) = nI x
    · rw [rb_tells hI hL hi (hF i hi g)]
    · simp [g]
  · intro t ht hp
    refine rI_slot hI ht (fun e => ?_)
    rw [e] at hp
    simp (disch := omega) only [rb_mI, nI_add, nI_mul, nI_leI, nI_ltI, nI_eq, rb_rdn, rb_wrn, rb_n0, rb_m0, rb_m1n, rb_nm1, rb_m1lt, rb_m1le, rb_0m1, rb_ltm1, rb_lem1] at hp
    simp at hp
def rb_wrs (V : Nat → Int32) (r : rb_Row) : Nat → rb_Row
  | 0 => r
  | j + 1 => upd (rb_wrs V r j) j (V j)
theorem rb_wrs_at (V : Nat → Int32) (r : rb_Row) : ∀ j x, rb_wrs V r j x = if x < j then V x else r x := by
  intro j
  induction j with
  | zero => intro x; rfl
  | succ j ih =>
    intro x
    simp only [rb_wrs, rb_upi, ih]
    by_cases e : x = j
    · subst e; simp
    · by_cases g : x < j
      · rw [if_neg e, if_pos g, if_pos (by omega)]
      · rw [if_neg e, if_neg g, if_neg (by omega)]
/-- all that is exact up to a height -/
def rb_ex (z n m : Nat) (c rd : rb_Row) : Prop := ∀ x, x < 28 → x ≠ z → rb_live c x → (c (19 + x) ≠ nI 4 ∨ rb_hm c n m x) → rd x = rq c n 4 x
theorem rb_exz {z s s' n : Nat} {π : Nat → Nat} {c a : rb_Row} (hH : rH z s s' c a) (hI : rI n π s' c a) {i y : Nat} (hi : i < n) (hy : y < 28) (e : c (323 + i) = nI y) : y ≠ z ∧ rb_live c y := by
  obtain ⟨y', h1, h2, h3, g, h4, h5⟩ := hI.2.2.1 i hi
  have : y = y' := by
    rw [e] at h2
    exact (nI_eq (by omega) (by omega)).mp h2
  subst this
  refine ⟨fun e => ?_, h3⟩
  exact (hH.1 g h4).2.1 (by rw [h5, e])
theorem rb_exs {z W q n : Nat} {π : Nat → Nat} {s s' : Nat} {c a : rb_Row} (h : rR z W q n π s s' c a) {m x : Nat} {rd : rb_Row} (hx : rb_ex z n m c rd) (hk : c (19 + x) = nI 4) (hm : rb_hm c n (m + 1) x) : (if rb_cn (rb_tr c rd x) n ≤ 0 then nI 0 else nI 1) = rq c n 4 x := by
  obtain ⟨hS, hH, hI, hL, hT⟩ := h
  rw [rq_fix hI hk, rb_cn_congr]
  intro i hi
  refine rb_tr_congr (fun e => ?_)
  obtain ⟨y, hy, ey, _⟩ := rI_aims hI i hi
  rw [nt_n ey (by omega)]
  obtain ⟨h1, h2⟩ := rb_exz hH hI hi hy ey
  refine hx y hy h1 h2 ?_
  by_cases g : c (19 + y) = nI 4
  · exact Or.inr (hm i y hi e hy ey g)
  · exact Or.inl g
theorem rb_lev {k : Nat} (h : k < 2 ^ 31) {v : Int32} (e : v = nI k) : nI 0 ≤ v := by rw [e]; exact nI_pos' h
set_option maxHeartbeats 4000000 in
theorem yn_layReady {z W q n : Nat} {π : Nat → Nat} {s s' : Nat} {c a : rb_Row} (h : rR z W q n π s s' c a) (hs : s' < 2000000000) (rd : rb_Row) : ∃ rd', XX7_layReady rd a = some rd' ∧ ∀ x, x < 28 → x ≠ z → rb_live c x → rd' x = rq c n 4 x := by
  have hR := h
  obtain ⟨hS, hH, hI, hL, hT⟩ := h
  have hss : s ≤ s' := hS.2.2.2.2.1
  unfold XX7_layReady
  refine rb_lpib (fun j r => (nI j, r)) 28 (fun j r => ∀ x, x < j → x ≠ z → rb_live c x → c (19 + x) ≠ nI 4 → r x = rq c n 4 x) (rb_ex z n 0 c) rd rfl (by intro x hx; omega) (by omega) ?_ ?_ ?_
  · intro j r hj hp
    refine Or.inl ?_
    have hk := (hH.2.1 j hj).1
    rcases rH_kind hH hj with hd | hl
    · refine ⟨upd r j (nI 0), ?_, ?_⟩
      · simp (disch := omega) only [li_0, li_1, li_2, li_3, li_4, li_5, li_6, li_7, li_8, li_9, li_10, li_11, li_12, li_13, li_14, li_15, li_16, li_17, li_18, li_19, li_20, li_21, li_22, li_23, li_24, li_25, li_26, li_27, li_28, li_29, li_30, li_31, li_32, li_33, li_34, li_35, li_36, li_37, li_38, li_39, li_40, li_41, li_42, li_47, li_50, li_60, li_63, li_75, li_100, li_103, li_131, li_159, li_184, li_187, li_215, li_243, li_256, li_271, li_296, li_299, li_323, li_347, li_371, li_395, li_419, li_443, li_467, li_491, li_515, li_539, li_545, li_551, li_557, li_560, li_563, li_569, li_575, li_581, li_587, li_593, li_599, li_605, li_629, li_653, li_677, li_725, li_773, li_794, li_795, li_796, li_1000, li_1546, li_1592, li_6184, li_9552, li_10049, li_10348, li_100000, rb_mI, nI_add, nI_mul, nI_leI, nI_ltI, nI_eq, rb_rdn, rb_wrn, rb_n0, rb_m0, rb_m1n, rb_nm1, rb_m1lt, rb_m1le, rb_0m1, rb_ltm1, rb_lem1, Nat.add_zero, Option.bind_some, Option.bind_none, Option.some.injEq, if_true, if_false, ite_true, ite_false, Sum.elim_inl, Sum.elim_inr, xn_ofObject, xn_ofPipe, xn_ofInterest, xn_ofTask, xn_kindOf, xn_bitsOf7, xn_isInterest, xn_isAsleep, xn_objectAt, xn_pipeAt, xn_interestAt, xn_taskAt, rb_nz0, rb_nz1, rb_n10, Nat.one_ne_zero, eq_self, hk, hd]
        rw [if_neg (by omega)]
      · intro x hx hz hl hk4
        have : x ≠ j := fun e => rb_dead hd (e ▸ hl)
        rw [rb_upn this]
        exact hp x (by omega) hz hl hk4
    · obtain ⟨v, ev, hv⟩ := yn_readyPlain hH hj hl
      refine ⟨upd r j v, ?_, ?_⟩
      · obtain ⟨k, hk6, ek⟩ := hl
        simp (disch := omega) only [li_0, li_1, li_2, li_3, li_4, li_5, li_6, li_7, li_8, li_9, li_10, li_11, li_12, li_13, li_14, li_15, li_16, li_17, li_18, li_19, li_20, li_21, li_22, li_23, li_24, li_25, li_26, li_27, li_28, li_29, li_30, li_31, li_32, li_33, li_34, li_35, li_36, li_37, li_38, li_39, li_40, li_41, li_42, li_47, li_50, li_60, li_63, li_75, li_100, li_103, li_131, li_159, li_184, li_187, li_215, li_243, li_256, li_271, li_296, li_299, li_323, li_347, li_371, li_395, li_419, li_443, li_467, li_491, li_515, li_539, li_545, li_551, li_557, li_560, li_563, li_569, li_575, li_581, li_587, li_593, li_599, li_605, li_629, li_653, li_677, li_725, li_773, li_794, li_795, li_796, li_1000, li_1546, li_1592, li_6184, li_9552, li_10049, li_10348, li_100000, rb_mI, nI_add, nI_mul, nI_leI, nI_ltI, nI_eq, rb_rdn, rb_wrn, rb_n0, rb_m0, rb_m1n, rb_nm1, rb_m1lt, rb_m1le, rb_0m1, rb_ltm1, rb_lem1, Nat.add_zero, Option.bind_some, Option.bind_none, Option.some.injEq, if_true, if_false, ite_true, ite_false, Sum.elim_inl, Sum.elim_inr, xn_ofObject, xn_ofPipe, xn_ofInterest, xn_ofTask, xn_kindOf, xn_bitsOf7, xn_isInterest, xn_isAsleep, xn_objectAt, xn_pipeAt, xn_interestAt, xn_taskAt, rb_nz0, rb_nz1, rb_n10, Nat.one_ne_zero, eq_self, hk, ek, ev]
        rw [if_neg (by omega), if_pos (by omega)]
        simp (disch := omega) only [rb_mI, nI_add, nI_mul, nI_leI, nI_ltI, nI_eq, rb_rdn, rb_wrn, rb_n0, rb_m0, rb_m1n, rb_nm1, rb_m1lt, rb_m1le, rb_0m1, rb_ltm1, rb_lem1, Nat.add_zero, Option.bind_some, Option.bind_none, Option.some.injEq, if_true, if_false, ite_true, ite_false, Sum.elim_inl, Sum.elim_inr]
      · intro x hx hz hl hk4
        by_cases e : x = j
        · subst e
          rw [rb_upe rfl, hv hz hk4]
          simp only [rq, hk4, if_false]
        · rw [rb_upn e]
          exact hp x (by omega) hz hl hk4
  · intro r hp
    refine ⟨r, ?_, ?_⟩
    · simp (disch := omega) only [li_0, li_1, li_2, li_3, li_4, li_5, li_6, li_7, li_8, li_9, li_10, li_11, li_12, li_13, li_14, li_15, li_16, li_17, li_18, li_19, li_20, li_21, li_22, li_23, li_24, li_25, li_26, li_27, li_28, li_29, li_30, li_31, li_32, li_33, li_34, li_35, li_36, li_37, li_38, li_39, li_40, li_41, li_42, li_47, li_50, li_60, li_63, li_75, li_100, li_103, li_131, li_159, li_184, li_187, li_215, li_243, li_256, li_271, li_296, li_299, li_323, li_347, li_371, li_395, li_419, li_443, li_467, li_491, li_515, li_539, li_545, li_551, li_557, li_560, li_563, li_569, li_575, li_581, li_587, li_593, li_599, li_605, li_629, li_653, li_677, li_725, li_773, li_794, li_795, li_796, li_1000, li_1546, li_1592, li_6184, li_9552, li_10049, li_10348, li_100000, rb_mI, nI_add, nI_mul, nI_leI, nI_ltI, nI_eq, rb_rdn, rb_wrn, rb_n0, rb_m0, rb_m1n, rb_nm1, rb_m1lt, rb_m1le, rb_0m1, rb_ltm1, rb_lem1, Nat.add_zero, Option.bind_some, Option.bind_none, Option.some.injEq, if_true, if_false, ite_true, ite_false, Sum.elim_inl, Sum.elim_inr]
      rw [if_pos (by omega)]
    · intro x hx hz hl hk
      rcases hk with hk | hk
      · exact hp x hx hz hl hk
      · exact hk.elim
  · intro r hr
    refine rb_lpib (fun j r => (nI j, r)) 3 (fun j r => rb_ex z n j c r) (rb_ex z n 3 c) r rfl hr (by omega) ?_ ?_ ?_
    · intro m r hm hex
      refine Or.inl ?_
      have inner : ∃ o, (rb_lp (ρ := rb_Row) (fun (s29 : Int32 × rb_Row) => if 28 ≤ s29.1 then some (.inr s29.2) else (XX7_kindOf a s29.1).bind fun t38 => ((if t38 = 4 then (XX7_showsOf a s29.2 s29.1).bind fun t44 => ((if t44 ≤ 0 then some 0 else some 1) : Option (Int32)).bind fun j46 => (rb_wr s29.2 28 s29.1 j46).bind fun rd50 => some rd50 else some s29.2) : Option (rb_Row)).bind fun j40 => some (.inl ((s29.1 + 1), j40))) 100000 (0, r)).bind (fun q30 => some q30) = some o ∧ rb_ex z n (m + 1) c o := by
        refine rb_lpib (fun j r => (nI j, r)) 28 (fun j r => rb_ex z n m c r ∧ ∀ x, x < j → x ≠ z → rb_live c x → c (19 + x) = nI 4 → rb_hm c n (m + 1) x → r x = rq c n 4 x) (rb_ex z n (m + 1) c) r rfl ⟨hex, by intro x hx; omega⟩ (by omega) ?_ ?_ (fun r hr => ⟨r, rfl, hr⟩)
        · intro j r hj hp
          obtain ⟨hp1, hp2⟩ := hp
          refine Or.inl ?_
          have hk := (hH.2.1 j hj).1
          by_cases h4 : c (19 + j) = nI 4
          · have e1 := yn_shows (rd := r) (F := r) hI hL hs hss hj (fun _ _ _ => rfl)
            have hb := rb_cn_le (rb_tr c r j) n
            have hn := hS.2.2.2.2.2.2.2
            refine ⟨upd r j (if rb_cn (rb_tr c r j) n ≤ 0 then nI 0 else nI 1), ?_, ?_, ?_⟩
            · simp (disch := omega) only [li_0, li_1, li_2, li_3, li_4, li_5, li_6, li_7, li_8, li_9, li_10, li_11, li_12, li_13, li_14, li_15, li_16, li_17, li_18, li_19, li_20, li_21, li_22, li_23, li_24, li_25, li_26, li_27, li_28, li_29, li_30, li_31, li_32, li_33, li_34, li_35, li_36, li_37, li_38, li_39, li_40, li_41, li_42, li_47, li_50, li_60, li_63, li_75, li_100, li_103, li_131, li_159, li_184, li_187, li_215, li_243, li_256, li_271, li_296, li_299, li_323, li_347, li_371, li_395, li_419, li_443, li_467, li_491, li_515, li_539, li_545, li_551, li_557, li_560, li_563, li_569, li_575, li_581, li_587, li_593, li_599, li_605, li_629, li_653, li_677, li_725, li_773, li_794, li_795, li_796, li_1000, li_1546, li_1592, li_6184, li_9552, li_10049, li_10348, li_100000, rb_mI, nI_add, nI_mul, nI_leI, nI_ltI, nI_eq, rb_rdn, rb_wrn, rb_n0, rb_m0, rb_m1n, rb_nm1, rb_m1lt, rb_m1le, rb_0m1, rb_ltm1, rb_lem1, Nat.add_zero, Option.bind_some, Option.bind_none, Option.some.injEq, if_true, if_false, ite_true, ite_false, Sum.elim_inl, Sum.elim_inr, xn_ofObject, xn_ofPipe, xn_ofInterest, xn_ofTask, xn_kindOf, xn_bitsOf7, xn_isInterest, xn_isAsleep, xn_objectAt, xn_pipeAt, xn_interestAt, xn_taskAt, rb_nz0, rb_nz1, rb_n10, Nat.one_ne_zero, eq_self, hk, h4, e1]
              rw [if_neg (by omega)]
              by_cases g : rb_cn (rb_tr c r j) n ≤ 0 <;> simp (disch := omega) only [g, Nat.add_zero, Option.bind_some, Option.bind_none, Option.some.injEq, if_true, if_false, ite_true, ite_false, Sum.elim_inl, Sum.elim_inr, rb_mI, nI_add, nI_mul, nI_leI, nI_ltI, nI_eq, rb_rdn, rb_wrn, rb_n0, rb_m0, rb_m1n, rb_nm1, rb_m1lt, rb_m1le, rb_0m1, rb_ltm1, rb_lem1]
            · intro x hx hz hl hkx
              by_cases e : x = j
              · subst e
                rw [rb_upe rfl]
                rcases hkx with hkx | hkx
                · exact absurd h4 hkx
                · exact rb_exs hR hp1 h4 (rb_hm_up _ _ hkx)
              · rw [rb_upn e]; exact hp1 x hx hz hl hkx
            · intro x hx hz hl hk hm
              by_cases e : x = j
              · subst e
                rw [rb_upe rfl]
                exact rb_exs hR hp1 h4 hm
              · rw [rb_upn e]; exact hp2 x (by omega) hz hl hk hm
          · refine ⟨r, ?_, hp1, ?_⟩
            · simp (disch := omega) only [li_0, li_1, li_2, li_3, li_4, li_5, li_6, li_7, li_8, li_9, li_10, li_11, li_12, li_13, li_14, li_15, li_16, li_17, li_18, li_19, li_20, li_21, li_22, li_23, li_24, li_25, li_26, li_27, li_28, li_29, li_30, li_31, li_32, li_33, li_34, li_35, li_36, li_37, li_38, li_39, li_40, li_41, li_42, li_47, li_50, li_60, li_63, li_75, li_100, li_103, li_131, li_159, li_184, li_187, li_215, li_243, li_256, li_271, li_296, li_299, li_323, li_347, li_371, li_395, li_419, li_443, li_467, li_491, li_515, li_539, li_545, li_551, li_557, li_560, li_563, li_569, li_575, li_581, li_587, li_593, li_599, li_605, li_629, li_653, li_677, li_725, li_773, li_794, li_795, li_796, li_1000, li_1546, li_1592, li_6184, li_9552, li_10049, li_10348, li_100000, rb_mI, nI_add, nI_mul, nI_leI, nI_ltI, nI_eq, rb_rdn, rb_wrn, rb_n0, rb_m0, rb_m1n, rb_nm1, rb_m1lt, rb_m1le, rb_0m1, rb_ltm1, rb_lem1, Nat.add_zero, Option.bind_some, Option.bind_none, Option.some.injEq, if_true, if_false, ite_true, ite_false, Sum.elim_inl, Sum.elim_inr, xn_ofObject, xn_ofPipe, xn_ofInterest, xn_ofTask, xn_kindOf, xn_bitsOf7, xn_isInterest, xn_isAsleep, xn_objectAt, xn_pipeAt, xn_interestAt, xn_taskAt, rb_nz0, rb_nz1, rb_n10, Nat.one_ne_zero, eq_self, hk]
              rw [if_neg (by omega), if_neg h4]
              simp only [Nat.add_zero, Option.bind_some, Option.bind_none, Option.some.injEq, if_true, if_false, ite_true, ite_false, Sum.elim_inl, Sum.elim_inr]
            · intro x hx hz hl hkx hm
              by_cases e : x = j
              · subst e; exact absurd hkx h4
              · exact hp2 x (by omega) hz hl hkx hm
        · intro r hp
          obtain ⟨hp1, hp2⟩ := hp
          refine ⟨r, ?_, ?_⟩
          · simp (disch := omega) only [li_0, li_1, li_2, li_3, li_4, li_5, li_6, li_7, li_8, li_9, li_10, li_11, li_12, li_13, li_14, li_15, li_16, li_17, li_18, li_19, li_20, li_21, li_22, li_23, li_24, li_25, li_26, li_27, li_28, li_29, li_30, li_31, li_32, li_33, li_34, li_35, li_36, li_37, li_38, li_39, li_40, li_41, li_42, li_47, li_50, li_60, li_63, li_75, li_100, li_103, li_131, li_159, li_184, li_187, li_215, li_243, li_256, li_271, li_296, li_299, li_323, li_347, li_371, li_395, li_419, li_443, li_467, li_491, li_515, li_539, li_545, li_551, li_557, li_560, li_563, li_569, li_575, li_581, li_587, li_593, li_599, li_605, li_629, li_653, li_677, li_725, li_773, li_794, li_795, li_796, li_1000, li_1546, li_1592, li_6184, li_9552, li_10049, li_10348, li_100000, rb_mI, nI_add, nI_mul, nI_leI, nI_ltI, nI_eq, rb_rdn, rb_wrn, rb_n0, rb_m0, rb_m1n, rb_nm1, rb_m1lt, rb_m1le, rb_0m1, rb_ltm1, rb_lem1, Nat.add_zero, Option.bind_some, Option.bind_none, Option.some.injEq, if_true, if_false, ite_true, ite_false, Sum.elim_inl, Sum.elim_inr]
            rw [if_pos (by omega)]
          · intro x hx hz hl hk
            by_cases h4 : c (19 + x) = nI 4
            · rcases hk with hk | hk
              · exact absurd h4 hk
              · exact hp2 x hx hz hl h4 hk
            · exact hp1 x hx hz hl (Or.inl h4)
      obtain ⟨o, ho, hex'⟩ := inner
      refine ⟨o, ?_, hex'⟩
      obtain ⟨o', h1, h2⟩ := rb_bd ho
      cases h2
      simp (disch := omega) only [li_0, li_1, li_2, li_3, li_4, li_5, li_6, li_7, li_8, li_9, li_10, li_11, li_12, li_13, li_14, li_15, li_16, li_17, li_18, li_19, li_20, li_21, li_22, li_23, li_24, li_25, li_26, li_27, li_28, li_29, li_30, li_31, li_32, li_33, li_34, li_35, li_36, li_37, li_38, li_39, li_40, li_41, li_42, li_47, li_50, li_60, li_63, li_75, li_100, li_103, li_131, li_159, li_184, li_187, li_215, li_243, li_256, li_271, li_296, li_299, li_323, li_347, li_371, li_395, li_419, li_443, li_467, li_491, li_515, li_539, li_545, li_551, li_557, li_560, li_563, li_569, li_575, li_581, li_587, li_593, li_599, li_605, li_629, li_653, li_677, li_725, li_773, li_794, li_795, li_796, li_1000, li_1546, li_1592, li_6184, li_9552, li_10049, li_10348, li_100000, rb_mI, nI_add, nI_mul, nI_leI, nI_ltI, nI_eq, rb_rdn, rb_wrn, rb_n0, rb_m0, rb_m1n, rb_nm1, rb_m1lt, rb_m1le, rb_0m1, rb_ltm1, rb_lem1, Nat.add_zero, Option.bind_some, Option.bind_none, Option.some.injEq, if_true, if_false, ite_true, ite_false, Sum.elim_inl, Sum.elim_inr] at h1 ⊢
      rw [if_neg (by omega), h1]
      simp only [Nat.add_zero, Option.bind_some, Option.bind_none, Option.some.injEq, if_true, if_false, ite_true, ite_false, Sum.elim_inl, Sum.elim_inr]
    · intro r hp
      refine ⟨r, ?_, hp⟩
      simp (disch := omega) only [li_0, li_1, li_2, li_3, li_4, li_5, li_6, li_7, li_8, li_9, li_10, li_11, li_12, li_13, li_14, li_15, li_16, li_17, li_18, li_19, li_20, li_21, li_22, li_23, li_24, li_25, li_26, li_27, li_28, li_29, li_30, li_31, li_32, li_33, li_34, li_35, li_36, li_37, li_38, li_39, li_40, li_41, li_42, li_47, li_50, li_60, li_63, li_75, li_100, li_103, li_131, li_159, li_184, li_187, li_215, li_243, li_256, li_271, li_296, li_299, li_323, li_347, li_371, li_395, li_419, li_443, li_467, li_491, li_515, li_539, li_545, li_551, li_557, li_560, li_563, li_569, li_575, li_581, li_587, li_593, li_599, li_605, li_629, li_653, li_677, li_725, li_773, li_794, li_795, li_796, li_1000, li_1546, li_1592, li_6184, li_9552, li_10049, li_10348, li_100000, rb_mI, nI_add, nI_mul, nI_leI, nI_ltI, nI_eq, rb_rdn, rb_wrn, rb_n0, rb_m0, rb_m1n, rb_nm1, rb_m1lt, rb_m1le, rb_0m1, rb_ltm1, rb_lem1, Nat.add_zero, Option.bind_some, Option.bind_none, Option.some.injEq, if_true, if_false, ite_true, ite_false, Sum.elim_inl, Sum.elim_inr]
      rw [if_pos (by omega)]
    · intro r hr
      refine ⟨r, rfl, fun x hx hz hl => hr x hx hz hl ?_⟩
      by_cases h4 : c (19 + x) = nI 4
      · exact Or.inr (rI_hm3 hI x)
      · exact Or.inl h4
