theorem rb_use {α : Type} {p q : α → Prop} {C : Prop} (h : ∃ o, p o ∧ q o) (k : ∀ o, p o → q o → C) : C := by
  obtain ⟨o, h1, h2⟩ := h
  exact k o h1 h2
theorem rb_rise {be : rb_Row} {bn : Nat → Nat} (hb : ∀ z, z < 28 → be z = nI (bn z)) (hB : ∀ z, z < 28 → bn z ≤ 100) {x y : Nat} (hx : x < 28) (hy : y < 28) : ∃ (be' : rb_Row) (bn' : Nat → Nat), ((be y < be x ∧ be' = be) ∨ (¬ be y < be x ∧ be' = upd be x (be y + 1))) ∧ (∀ z, z < 28 → be' z = nI (bn' z)) ∧ (∀ z, bn z ≤ bn' z) ∧ bn y + 1 ≤ bn' x ∧ (∀ z, z ≠ x → bn' z = bn z) ∧ (bn' x = bn x ∨ bn' x = bn y + 1) := by
  have h1 := hB x hx
  have h2 := hB y hy
  by_cases q : bn y < bn x
  · exact ⟨be, bn, Or.inl ⟨by rw [hb x hx, hb y hy]; exact (nI_ltI (by omega) (by omega)).mpr q, rfl⟩, hb, fun _ => Nat.le_refl _, q, fun _ _ => rfl, Or.inl rfl⟩
  · refine ⟨upd be x (be y + 1), fun z => if z = x then bn y + 1 else bn z, Or.inr ⟨by rw [hb x hx, hb y hy]; exact fun h => q ((nI_ltI (by omega) (by omega)).mp h), rfl⟩, fun z hz => ?_, fun z => ?_, ?_, fun z hz => if_neg hz, Or.inr (if_pos rfl)⟩
    · by_cases e : z = x
      · subst e
        rw [rb_upe rfl, hb y hy]
        show nI (bn y) + nI 1 = nI (if z = z then bn y + 1 else bn z)
        rw [nI_add, if_pos rfl]
      · rw [rb_upn e, hb z hz]
        show _ = nI (if z = x then bn y + 1 else bn z)
        rw [if_neg e]
    · show bn z ≤ if z = x then bn y + 1 else bn z
      by_cases e : z = x
      · subst e; rw [if_pos rfl]; omega
      · rw [if_neg e]; exact Nat.le_refl _
    · show bn y + 1 ≤ if x = x then bn y + 1 else bn x
      rw [if_pos rfl]; exact Nat.le_refl _
/-- what holds of the depths after p passes -/
def rb_LD (n : Nat) (S T : Nat → Nat) (K : Nat → Bool) (p : Nat) (be ab : rb_Row) (bn an : Nat → Nat) : Prop :=
  (∀ z, z < 28 → be z = nI (bn z)) ∧ (∀ z, z < 28 → ab z = nI (an z)) ∧
  ∀ z, z < 28 → (K z = false → bn z = 0 ∧ an z = 0) ∧ (K z = true → rb_dp n S T K (min p 2) z ≤ bn z ∧ bn z ≤ rb_dp n S T K 2 z ∧ rb_dp n T S (fun _ => true) (min p 2) z ≤ an z ∧ an z ≤ rb_dp n T S (fun _ => true) 2 z)
def rb_SL (n : Nat) (S T : Nat → Nat) (K : Nat → Bool) (a : rb_Row) : Prop :=
  (∀ x, x < 28 → (K x = true ↔ a (16 + 6 * x) = nI 4)) ∧
  (∀ t, t < 24 → a (296 + 11 * t) = mI ∨ ∃ i, i < n ∧ a (296 + 11 * t) = nI (S i) ∧ a (296 + 11 * t + 1) = nI (T i)) ∧
  (∀ i, i < n → ∃ t, t < 24 ∧ a (296 + 11 * t) = nI (S i) ∧ a (296 + 11 * t + 1) = nI (T i)) ∧
  (∀ i, i < n → S i < 28 ∧ T i < 28 ∧ K (S i) = true) ∧
  (∀ i, i < n → K (T i) = true → rb_dp n S T K 2 (T i) + 1 ≤ rb_dp n S T K 2 (S i) ∧ rb_dp n T S (fun _ => true) 2 (S i) + 1 ≤ rb_dp n T S (fun _ => true) 2 (T i))
set_option maxHeartbeats 16000000 in
theorem yn_layDepths {n : Nat} {S T : Nat → Nat} {K : Nat → Bool} {a : rb_Row} (h : rb_SL n S T K a) (be ab : rb_Row) : ∃ o, XX7_layDepths be ab a = some o ∧ ∃ be' ab', o = (be', ab') ∧ ∀ x, x < 28 → be' x = nI (if K x = true then rb_dp n S T K 2 x else 0) ∧ ab' x = nI (if K x = true then rb_dp n T S (fun _ => true) 2 x else 0) := by
  obtain ⟨h1, h2, h3, h4, h5⟩ := h
  have hd : ∀ l x, rb_dp n S T K l x ≤ l + 1 := rb_dp_le n S T K
  have hu : ∀ l x, rb_dp n T S (fun _ => true) l x ≤ l + 1 := rb_dp_le n T S _
  have hbd : ∀ {p : Nat} {be ab : rb_Row} {bn an : Nat → Nat}, rb_LD n S T K p be ab bn an → ∀ z, z < 28 → bn z ≤ 3 ∧ an z ≤ 3 := fun {p be ab bn an} ⟨_, _, g3⟩ z hz => by
    have i1 := hd 2 z
    have i2 := hu 2 z
    obtain ⟨j1, j2⟩ := g3 z hz
    rcases hq : K z with _ | _
    · have := j1 hq; omega
    · have := j2 hq; omega
  unfold XX7_layDepths
  have e1 : rb_lp (ρ := rb_Row × rb_Row) (fun (s1 : Int32 × rb_Row × rb_Row) => if 28 ≤ s1.1 then some (.inr (s1.2.1, s1.2.2)) else (XX7_kindOf a s1.1).bind fun t10 => ((if t10 = 4 then some 1 else some 0) : Option (Int32)).bind fun j12 => (rb_wr s1.2.1 28 s1.1 j12).bind fun be16 => (rb_rd be16 28 s1.1).bind fun v18 => (rb_wr s1.2.2 28 s1.1 v18).bind fun ab20 => some (.inl ((s1.1 + 1), be16, ab20))) 100000 (0, be, ab) = some ((fun k => if k < 28 then (if K k = true then nI 1 else nI 0) else be k), (fun k => if k < 28 then (if K k = true then nI 1 else nI 0) else ab k)) := by
    refine rb_lps0 (fun j => (nI j, (fun k => if k < j then (if K k = true then nI 1 else nI 0) else be k), (fun k => if k < j then (if K k = true then nI 1 else nI 0) else ab k))) 28 _ ?_ ?_ ?_ (by omega)
    · show (nI 0, _, _) = _
      simp only [Nat.not_lt_zero, if_false]
      rfl
    · intro j hj
      have u : ∀ (f : rb_Row) (v : Int32), v = (if K j = true then nI 1 else nI 0) → upd (fun k => if k < j then (if K k = true then nI 1 else nI 0) else f k) j v = fun k => if k < j + 1 then (if K k = true then nI 1 else nI 0) else f k := by
        intro f v hv
        funext k
        by_cases q : k = j
        · subst q; rw [rb_upe rfl, if_pos (by omega), hv]
        · rw [rb_upn q]
          by_cases q2 : k < j
          · rw [if_pos q2, if_pos (show k < j + 1 by omega)]
          · rw [if_neg q2, if_neg (show ¬ k < j + 1 by omega)]
      have q1 : ¬ 28 ≤ j := by omega
      have k1 := h1 j hj
      rcases hq : K j with _ | _
      · have k2 : a (16 + 6 * j) ≠ nI 4 := fun e => by rw [k1.mpr e] at hq; cases hq
        have u1 := u be (nI 0) (by rw [hq]; rfl)
        have u2 := u ab (nI 0) (by rw [hq]; rfl)
        simp (disch := omega) only [↓reduceIte, Nat.reduceEqDiff, Nat.reduceLeDiff, eq_self, not_true_eq_false, not_false_eq_true, li_0, li_1, li_2, li_3, li_4, li_5, li_6, li_7, li_8, li_9, li_10, li_11, li_12, li_13, li_14, li_15, li_16, li_17, li_18, li_19, li_20, li_21, li_22, li_23, li_24, li_25, li_26, li_27, li_28, li_29, li_30, li_31, li_32, li_33, li_34, li_35, li_36, li_37, li_38, li_39, li_40, li_41, li_42, li_47, li_50, li_60, li_63, li_75, li_100, li_103, li_131, li_159, li_184, li_187, li_215, li_243, li_256, li_271, li_296, li_299, li_323, li_347, li_371, li_395, li_419, li_443, li_467, li_491, li_515, li_539, li_545, li_551, li_557, li_560, li_563, li_569, li_575, li_581, li_587, li_593, li_599, li_605, li_629, li_653, li_677, li_725, li_773, li_794, li_795, li_796, li_1000, li_1546, li_1592, li_6184, li_9552, li_10049, li_10348, li_100000, rb_mI, nI_add, nI_mul, nI_leI, nI_ltI, nI_eq, rb_rdn, rb_wrn, rb_n0, rb_m0, rb_m1n, rb_nm1, rb_m1lt, rb_m1le, rb_0m1, rb_ltm1, rb_lem1, Nat.add_zero, Nat.zero_le, Nat.not_lt_zero, Nat.one_ne_zero, Option.bind_some, Option.bind_none, Option.some.injEq, if_true, if_false, ite_true, ite_false, Sum.elim_inl, Sum.elim_inr, xn_ofObject, xn_ofPipe, xn_ofInterest, xn_ofTask, xn_kindOf, xn_bitsOf7, xn_isInterest, xn_isAsleep, xn_objectAt, xn_pipeAt, xn_interestAt, xn_taskAt, rb_nz0, rb_nz1, rb_n10, Nat.one_ne_zero, eq_self, q1, k2, u1]
        rw [if_pos (show j < j + 1 by omega), hq]
        simp only [Bool.false_eq_true, if_false, u2]
      · have k2 : a (16 + 6 * j) = nI 4 := k1.mp hq
        have u1 := u be (nI 1) (by rw [hq]; rfl)
        have u2 := u ab (nI 1) (by rw [hq]; rfl)
        simp (disch := omega) only [↓reduceIte, Nat.reduceEqDiff, Nat.reduceLeDiff, eq_self, not_true_eq_false, not_false_eq_true, li_0, li_1, li_2, li_3, li_4, li_5, li_6, li_7, li_8, li_9, li_10, li_11, li_12, li_13, li_14, li_15, li_16, li_17, li_18, li_19, li_20, li_21, li_22, li_23, li_24, li_25, li_26, li_27, li_28, li_29, li_30, li_31, li_32, li_33, li_34, li_35, li_36, li_37, li_38, li_39, li_40, li_41, li_42, li_47, li_50, li_60, li_63, li_75, li_100, li_103, li_131, li_159, li_184, li_187, li_215, li_243, li_256, li_271, li_296, li_299, li_323, li_347, li_371, li_395, li_419, li_443, li_467, li_491, li_515, li_539, li_545, li_551, li_557, li_560, li_563, li_569, li_575, li_581, li_587, li_593, li_599, li_605, li_629, li_653, li_677, li_725, li_773, li_794, li_795, li_796, li_1000, li_1546, li_1592, li_6184, li_9552, li_10049, li_10348, li_100000, rb_mI, nI_add, nI_mul, nI_leI, nI_ltI, nI_eq, rb_rdn, rb_wrn, rb_n0, rb_m0, rb_m1n, rb_nm1, rb_m1lt, rb_m1le, rb_0m1, rb_ltm1, rb_lem1, Nat.add_zero, Nat.zero_le, Nat.not_lt_zero, Nat.one_ne_zero, Option.bind_some, Option.bind_none, Option.some.injEq, if_true, if_false, ite_true, ite_false, Sum.elim_inl, Sum.elim_inr, xn_ofObject, xn_ofPipe, xn_ofInterest, xn_ofTask, xn_kindOf, xn_bitsOf7, xn_isInterest, xn_isAsleep, xn_objectAt, xn_pipeAt, xn_interestAt, xn_taskAt, rb_nz0, rb_nz1, rb_n10, Nat.one_ne_zero, eq_self, q1, k2, u1]
        rw [if_pos (show j < j + 1 by omega), hq]
        simp only [if_true, u2]
    · have q28 : (28 : Int32) ≤ nI 28 := by decide
      exact if_pos q28
  refine rb_use (rb_lpib (f := fun (q23 : rb_Row × rb_Row) => some (q23.1, q23.2)) (N := 100000) (T := fun o => ∃ (bn an : Nat → Nat), rb_LD n S T K 3 o.1 o.2 bn an) (body := fun (s22 : Int32 × rb_Row × rb_Row) => if 3 ≤ s22.1 then some (.inr (s22.2.1, s22.2.2)) else (rb_lp (ρ := rb_Row × rb_Row) (fun (s31 : Int32 × rb_Row × rb_Row) => if 24 ≤ s31.1 then some (.inr (s31.2.1, s31.2.2)) else (XX7_isInterest a s31.1).bind fun t40 => ((if t40 = 0 then some (s31.2.1, s31.2.2) else (XX7_ofInterest a s31.1 1).bind fun t46 => (XX7_kindOf a t46).bind fun t48 => if t48 = 4 then (XX7_ofInterest a s31.1 0).bind fun t51 => (XX7_ofInterest a s31.1 1).bind fun t53 => (rb_rd s31.2.1 28 t53).bind fun v55 => (rb_rd s31.2.1 28 t51).bind fun v57 => ((if v55 < v57 then some s31.2.1 else (rb_rd s31.2.1 28 t53).bind fun v63 => (rb_wr s31.2.1 28 t51 (v63 + 1)).bind fun be65 => some be65) : Option (rb_Row)).bind fun j59 => (rb_rd s31.2.2 28 t51).bind fun v67 => (rb_rd s31.2.2 28 t53).bind fun v69 => if v67 < v69 then some (j59, s31.2.2) else (rb_rd s31.2.2 28 t51).bind fun v72 => (rb_wr s31.2.2 28 t53 (v72 + 1)).bind fun ab74 => some (j59, ab74) else some (s31.2.1, s31.2.2)) : Option (rb_Row × rb_Row)).bind fun j42 => some (.inl ((s31.1 + 1), j42.1, j42.2))) 100000 (0, s22.2.1, s22.2.2)).bind fun q32 => some (.inl ((s22.1 + 1), q32.1, q32.2))) (s0 := (0, (fun k => if k < 28 then (if K k = true then nI 1 else nI 0) else be k), (fun k => if k < 28 then (if K k = true then nI 1 else nI 0) else ab k))) (fun p (σ : rb_Row × rb_Row) => (nI p, σ.1, σ.2)) 3 (fun p σ => ∃ (bn an : Nat → Nat), rb_LD n S T K p σ.1 σ.2 bn an) (fun σ => ∃ (bn an : Nat → Nat), rb_LD n S T K 3 σ.1 σ.2 bn an) ((fun k => if k < 28 then (if K k = true then nI 1 else nI 0) else be k), (fun k => if k < 28 then (if K k = true then nI 1 else nI 0) else ab k)) rfl ?_ (by omega) ?_ ?_ ?_) ?_
  · refine ⟨fun k => if K k = true then 1 else 0, fun k => if K k = true then 1 else 0, fun z hz => ?_, fun z hz => ?_, fun z hz => ⟨fun hq => ?_, fun hq => ?_⟩⟩
    · show (if z < 28 then (if K z = true then nI 1 else nI 0) else be z) = nI (if K z = true then 1 else 0)
      rw [if_pos hz]; split <;> rfl
    · show (if z < 28 then (if K z = true then nI 1 else nI 0) else ab z) = nI (if K z = true then 1 else 0)
      rw [if_pos hz]; split <;> rfl
    · exact ⟨by simp [hq], by simp [hq]⟩
    · have i1 := rb_dp_one n S T K 2 z
      have i2 := rb_dp_one n T S (fun _ => true) 2 z
      simp only [hq, if_true]
      exact ⟨Nat.le_refl _, i1, Nat.le_refl _, i2⟩
  · rintro p ⟨b0, a0⟩ hp ⟨bn, an, hLD⟩
    left
    have q0 : ¬ (3 : Int32) ≤ nI p := by rw [show (3 : Int32) = nI 3 from rfl, nI_leI (by omega) (by omega)]; omega
    refine rb_use (rb_lpib (f := fun (q32 : rb_Row × rb_Row) => (some (.inl ((nI p + 1), q32.1, q32.2)) : Option ((Int32 × rb_Row × rb_Row) ⊕ (rb_Row × rb_Row)))) (N := 100000) (T := fun o => ∃ b1 a1, o = .inl (nI (p + 1), b1, a1) ∧ ∃ (bn an : Nat → Nat), rb_LD n S T K (p + 1) b1 a1 bn an) (body := fun (s31 : Int32 × rb_Row × rb_Row) => if 24 ≤ s31.1 then some (.inr (s31.2.1, s31.2.2)) else (XX7_isInterest a s31.1).bind fun t40 => ((if t40 = 0 then some (s31.2.1, s31.2.2) else (XX7_ofInterest a s31.1 1).bind fun t46 => (XX7_kindOf a t46).bind fun t48 => if t48 = 4 then (XX7_ofInterest a s31.1 0).bind fun t51 => (XX7_ofInterest a s31.1 1).bind fun t53 => (rb_rd s31.2.1 28 t53).bind fun v55 => (rb_rd s31.2.1 28 t51).bind fun v57 => ((if v55 < v57 then some s31.2.1 else (rb_rd s31.2.1 28 t53).bind fun v63 => (rb_wr s31.2.1 28 t51 (v63 + 1)).bind fun be65 => some be65) : Option (rb_Row)).bind fun j59 => (rb_rd s31.2.2 28 t51).bind fun v67 => (rb_rd s31.2.2 28 t53).bind fun v69 => if v67 < v69 then some (j59, s31.2.2) else (rb_rd s31.2.2 28 t51).bind fun v72 => (rb_wr s31.2.2 28 t53 (v72 + 1)).bind fun ab74 => some (j59, ab74) else some (s31.2.1, s31.2.2)) : Option (rb_Row × rb_Row)).bind fun j42 => some (.inl ((s31.1 + 1), j42.1, j42.2))) (s0 := (0, b0, a0)) (fun j (σ : rb_Row × rb_Row) => (nI j, σ.1, σ.2)) 24 (fun j σ => ∃ (bn an : Nat → Nat), rb_LD n S T K p σ.1 σ.2 bn an ∧ ∀ t i, t < j → i < n → a (296 + 11 * t) = nI (S i) → a (296 + 11 * t + 1) = nI (T i) → K (T i) = true → 1 + rb_dp n S T K (min p 2) (T i) ≤ bn (S i) ∧ 1 + rb_dp n T S (fun _ => true) (min p 2) (S i) ≤ an (T i)) (fun σ => ∃ (bn an : Nat → Nat), rb_LD n S T K (p + 1) σ.1 σ.2 bn an) (b0, a0) rfl ⟨bn, an, hLD, fun t i ht => absurd ht (by omega)⟩ (by omega) ?_ ?_ ?_) ?_
    · rintro j ⟨b1, a1⟩ hj ⟨bn1, an1, hL, hpr⟩
      left
      have q1 : ¬ (24 : Int32) ≤ nI j := by rw [show (24 : Int32) = nI 24 from rfl, nI_leI (by omega) (by omega)]; omega
      have p2 : nI j + 1 = nI (j + 1) := nI_add j 1
      rcases h2 j hj with e | ⟨i, hi, e2, e3⟩
      · refine ⟨(b1, a1), ?_, bn1, an1, hL, fun t i ht hi g1 g2 g3 => ?_⟩
        · refine (if_neg q1).trans (rb_bnd (nI 0) ?_ (rb_bnd (b1, a1) (if_pos rfl) (by rw [← p2])))
          show XX7_isInterest a (nI j) = _
          simp (disch := omega) only [↓reduceIte, Nat.reduceEqDiff, Nat.reduceLeDiff, eq_self, not_true_eq_false, not_false_eq_true, li_0, li_1, li_2, li_3, li_4, li_5, li_6, li_7, li_8, li_9, li_10, li_11, li_12, li_13, li_14, li_15, li_16, li_17, li_18, li_19, li_20, li_21, li_22, li_23, li_24, li_25, li_26, li_27, li_28, li_29, li_30, li_31, li_32, li_33, li_34, li_35, li_36, li_37, li_38, li_39, li_40, li_41, li_42, li_47, li_50, li_60, li_63, li_75, li_100, li_103, li_131, li_159, li_184, li_187, li_215, li_243, li_256, li_271, li_296, li_299, li_323, li_347, li_371, li_395, li_419, li_443, li_467, li_491, li_515, li_539, li_545, li_551, li_557, li_560, li_563, li_569, li_575, li_581, li_587, li_593, li_599, li_605, li_629, li_653, li_677, li_725, li_773, li_794, li_795, li_796, li_1000, li_1546, li_1592, li_6184, li_9552, li_10049, li_10348, li_100000, rb_mI, nI_add, nI_mul, nI_leI, nI_ltI, nI_eq, rb_rdn, rb_wrn, rb_n0, rb_m0, rb_m1n, rb_nm1, rb_m1lt, rb_m1le, rb_0m1, rb_ltm1, rb_lem1, Nat.add_zero, Nat.zero_le, Nat.not_lt_zero, Nat.one_ne_zero, Option.bind_some, Option.bind_none, Option.some.injEq, if_true, if_false, ite_true, ite_false, Sum.elim_inl, Sum.elim_inr, xn_ofObject, xn_ofPipe, xn_ofInterest, xn_ofTask, xn_kindOf, xn_bitsOf7, xn_isInterest, xn_isAsleep, xn_objectAt, xn_pipeAt, xn_interestAt, xn_taskAt, rb_nz0, rb_nz1, rb_n10, Nat.one_ne_zero, eq_self, e]
        · by_cases q : t = j
          · subst q; rw [e] at g1; exact absurd g1.symm (rb_nmm (by have := (h4 i hi).1; omega))
          · exact hpr t i (by omega) hi g1 g2 g3
      · obtain ⟨s1, s2, s3⟩ := h4 i hi
        have x1 : XX7_isInterest a (nI j) = some (nI 1) := by simp (disch := omega) only [↓reduceIte, Nat.reduceEqDiff, Nat.reduceLeDiff, eq_self, not_true_eq_false, not_false_eq_true, li_0, li_1, li_2, li_3, li_4, li_5, li_6, li_7, li_8, li_9, li_10, li_11, li_12, li_13, li_14, li_15, li_16, li_17, li_18, li_19, li_20, li_21, li_22, li_23, li_24, li_25, li_26, li_27, li_28, li_29, li_30, li_31, li_32, li_33, li_34, li_35, li_36, li_37, li_38, li_39, li_40, li_41, li_42, li_47, li_50, li_60, li_63, li_75, li_100, li_103, li_131, li_159, li_184, li_187, li_215, li_243, li_256, li_271, li_296, li_299, li_323, li_347, li_371, li_395, li_419, li_443, li_467, li_491, li_515, li_539, li_545, li_551, li_557, li_560, li_563, li_569, li_575, li_581, li_587, li_593, li_599, li_605, li_629, li_653, li_677, li_725, li_773, li_794, li_795, li_796, li_1000, li_1546, li_1592, li_6184, li_9552, li_10049, li_10348, li_100000, rb_mI, nI_add, nI_mul, nI_leI, nI_ltI, nI_eq, rb_rdn, rb_wrn, rb_n0, rb_m0, rb_m1n, rb_nm1, rb_m1lt, rb_m1le, rb_0m1, rb_ltm1, rb_lem1, Nat.add_zero, Nat.zero_le, Nat.not_lt_zero, Nat.one_ne_zero, Option.bind_some, Option.bind_none, Option.some.injEq, if_true, if_false, ite_true, ite_false, Sum.elim_inl, Sum.elim_inr, xn_ofObject, xn_ofPipe, xn_ofInterest, xn_ofTask, xn_kindOf, xn_bitsOf7, xn_isInterest, xn_isAsleep, xn_objectAt, xn_pipeAt, xn_interestAt, xn_taskAt, rb_nz0, rb_nz1, rb_n10, Nat.one_ne_zero, eq_self, e2]
        have x2 : XX7_ofInterest a (nI j) 1 = some (nI (T i)) := by simp (disch := omega) only [↓reduceIte, Nat.reduceEqDiff, Nat.reduceLeDiff, eq_self, not_true_eq_false, not_false_eq_true, li_0, li_1, li_2, li_3, li_4, li_5, li_6, li_7, li_8, li_9, li_10, li_11, li_12, li_13, li_14, li_15, li_16, li_17, li_18, li_19, li_20, li_21, li_22, li_23, li_24, li_25, li_26, li_27, li_28, li_29, li_30, li_31, li_32, li_33, li_34, li_35, li_36, li_37, li_38, li_39, li_40, li_41, li_42, li_47, li_50, li_60, li_63, li_75, li_100, li_103, li_131, li_159, li_184, li_187, li_215, li_243, li_256, li_271, li_296, li_299, li_323, li_347, li_371, li_395, li_419, li_443, li_467, li_491, li_515, li_539, li_545, li_551, li_557, li_560, li_563, li_569, li_575, li_581, li_587, li_593, li_599, li_605, li_629, li_653, li_677, li_725, li_773, li_794, li_795, li_796, li_1000, li_1546, li_1592, li_6184, li_9552, li_10049, li_10348, li_100000, rb_mI, nI_add, nI_mul, nI_leI, nI_ltI, nI_eq, rb_rdn, rb_wrn, rb_n0, rb_m0, rb_m1n, rb_nm1, rb_m1lt, rb_m1le, rb_0m1, rb_ltm1, rb_lem1, Nat.add_zero, Nat.zero_le, Nat.not_lt_zero, Nat.one_ne_zero, Option.bind_some, Option.bind_none, Option.some.injEq, if_true, if_false, ite_true, ite_false, Sum.elim_inl, Sum.elim_inr, xn_ofObject, xn_ofPipe, xn_ofInterest, xn_ofTask, xn_kindOf, xn_bitsOf7, xn_isInterest, xn_isAsleep, xn_objectAt, xn_pipeAt, xn_interestAt, xn_taskAt, rb_nz0, rb_nz1, rb_n10, Nat.one_ne_zero, eq_self, e3]
        have x3 : XX7_ofInterest a (nI j) 0 = some (nI (S i)) := by simp (disch := omega) only [↓reduceIte, Nat.reduceEqDiff, Nat.reduceLeDiff, eq_self, not_true_eq_false, not_false_eq_true, li_0, li_1, li_2, li_3, li_4, li_5, li_6, li_7, li_8, li_9, li_10, li_11, li_12, li_13, li_14, li_15, li_16, li_17, li_18, li_19, li_20, li_21, li_22, li_23, li_24, li_25, li_26, li_27, li_28, li_29, li_30, li_31, li_32, li_33, li_34, li_35, li_36, li_37, li_38, li_39, li_40, li_41, li_42, li_47, li_50, li_60, li_63, li_75, li_100, li_103, li_131, li_159, li_184, li_187, li_215, li_243, li_256, li_271, li_296, li_299, li_323, li_347, li_371, li_395, li_419, li_443, li_467, li_491, li_515, li_539, li_545, li_551, li_557, li_560, li_563, li_569, li_575, li_581, li_587, li_593, li_599, li_605, li_629, li_653, li_677, li_725, li_773, li_794, li_795, li_796, li_1000, li_1546, li_1592, li_6184, li_9552, li_10049, li_10348, li_100000, rb_mI, nI_add, nI_mul, nI_leI, nI_ltI, nI_eq, rb_rdn, rb_wrn, rb_n0, rb_m0, rb_m1n, rb_nm1, rb_m1lt, rb_m1le, rb_0m1, rb_ltm1, rb_lem1, Nat.add_zero, Nat.zero_le, Nat.not_lt_zero, Nat.one_ne_zero, Option.bind_some, Option.bind_none, Option.some.injEq, if_true, if_false, ite_true, ite_false, Sum.elim_inl, Sum.elim_inr, xn_ofObject, xn_ofPipe, xn_ofInterest, xn_ofTask, xn_kindOf, xn_bitsOf7, xn_isInterest, xn_isAsleep, xn_objectAt, xn_pipeAt, xn_interestAt, xn_taskAt, rb_nz0, rb_nz1, rb_n10, Nat.one_ne_zero, eq_self, e2]
        have x4 : XX7_kindOf a (nI (T i)) = some (a (16 + 6 * T i)) := xn_kindOf a s2
        have same : ∀ i', i' < n → a (296 + 11 * j) = nI (S i') → a (296 + 11 * j + 1) = nI (T i') → S i' = S i ∧ T i' = T i := fun i' hi' g1 g2 => by
          obtain ⟨s1', s2', _⟩ := h4 i' hi'
          rw [e2] at g1; rw [e3] at g2
          exact ⟨((nI_eq (by omega) (by omega)).mp g1).symm, ((nI_eq (by omega) (by omega)).mp g2).symm⟩
        rcases hq : K (T i) with _ | _
        · have k2 : a (16 + 6 * T i) ≠ nI 4 := fun e => by rw [(h1 _ s2).mpr e] at hq; cases hq
          refine ⟨(b1, a1), ?_, bn1, an1, hL, fun t i' ht hi' g1 g2 g3 => ?_⟩
          · exact (if_neg q1).trans (rb_bnd _ x1 (rb_bnd (b1, a1) ((if_neg (by decide)).trans (rb_bnd _ x2 (rb_bnd _ x4 (if_neg k2)))) (by rw [← p2])))
          · by_cases q : t = j
            · subst q
              rw [(same i' hi' g1 g2).2, hq] at g3; cases g3
            · exact hpr t i' (by omega) hi' g1 g2 g3
        · have k2 : a (16 + 6 * T i) = nI 4 := (h1 _ s2).mp hq
          have hb3 := hbd hL
          obtain ⟨gb, ga, gz⟩ := id hL
          obtain ⟨b2, bn2, c1, c2, c3, c4, c5, c6⟩ := rb_rise gb (fun z hz => by have := (hb3 z hz).1; omega) s1 s2
          obtain ⟨a2, an2, d1, d2, d3, d4, d5, d6⟩ := rb_rise ga (fun z hz => by have := (hb3 z hz).2; omega) s2 s1
          have up := h5 i hi hq
          have zS := (gz _ s1).2 s3
          have zT := (gz _ s2).2 hq
          refine ⟨(b2, a2), ?_, bn2, an2, ⟨c2, d2, fun z hz => ⟨fun hz0 => ?_, fun hz1 => ?_⟩⟩, fun t i' ht hi' g1 g2 g3 => ?_⟩
          · refine (if_neg q1).trans (rb_bnd _ x1 (rb_bnd (b2, a2) ((if_neg (by decide)).trans (rb_bnd _ x2 (rb_bnd _ x4 ((if_pos k2).trans (rb_bnd _ x3 (rb_bnd _ x2 (rb_bnd _ (rb_rdn s2 (by omega)) (rb_bnd _ (rb_rdn s1 (by omega)) (rb_bnd b2 ?_ (rb_bnd _ (rb_rdn s1 (by omega)) (rb_bnd _ (rb_rdn s2 (by omega)) ?_))))))))))) (by rw [← p2])))
            · rcases c1 with ⟨c1, c1'⟩ | ⟨c1, c1'⟩
              · subst c1'; exact if_pos c1
              · subst c1'; exact (if_neg c1).trans (rb_bnd _ (rb_rdn s2 (by omega)) (rb_bnd _ (rb_wrn s1 (by omega)) rfl))
            · rcases d1 with ⟨d1, d1'⟩ | ⟨d1, d1'⟩
              · subst d1'; exact if_pos d1
              · subst d1'; exact (if_neg d1).trans (rb_bnd _ (rb_rdn s1 (by omega)) (rb_bnd _ (rb_wrn s2 (by omega)) rfl))
          · have := (gz z hz).1 hz0
            rw [c5 z (fun e => by subst e; rw [s3] at hz0; cases hz0), d5 z (fun e => by subst e; rw [hq] at hz0; cases hz0)]
            exact this
          · have w := (gz z hz).2 hz1
            have w1 := c3 z
            have w2 := d3 z
            refine ⟨by omega, ?_, by omega, ?_⟩
            · by_cases q : z = S i
              · subst q; omega
              · rw [c5 z q]; exact w.2.1
            · by_cases q : z = T i
              · subst q; omega
              · rw [d5 z q]; exact w.2.2.2
          · by_cases q : t = j
            · subst q
              obtain ⟨y1, y2⟩ := same i' hi' g1 g2
              rw [y1, y2]
              omega
            · have w := hpr t i' (by omega) hi' g1 g2 g3
              have w1 := c3 (S i')
              have w2 := d3 (T i')
              omega
    · rintro ⟨b1, a1⟩ ⟨bn1, an1, hL, hpr⟩
      have q24 : (24 : Int32) ≤ nI 24 := by decide
      refine ⟨(b1, a1), if_pos q24, bn1, an1, hL.1, hL.2.1, fun z hz => ⟨(hL.2.2 z hz).1, fun hz1 => ?_⟩⟩
      obtain ⟨w1, w2, w3, w4⟩ := (hL.2.2 z hz).2 hz1
      by_cases hp2 : p < 2
      · rw [show min p 2 = p by omega] at hpr w1 w3
        rw [show min (p + 1) 2 = p + 1 by omega]
        have v1 := rb_dp_one n S T K p z
        have v2 := rb_dp_one n T S (fun _ => true) p z
        refine ⟨rb_dp_flat (by omega) (fun i hi g1 g2 => ?_), w2, rb_dp_flat (by omega) (fun i hi g1 _ => ?_), w4⟩
        · obtain ⟨t, ht, y1, y2⟩ := h3 i hi
          rw [← g1]
          exact (hpr t i ht hi y1 y2 g2).1
        · obtain ⟨t, ht, y1, y2⟩ := h3 i hi
          rw [← g1]
          exact (hpr t i ht hi y1 y2 (by rw [g1]; exact hz1)).2
      · rw [show min p 2 = 2 by omega] at w1 w3
        rw [show min (p + 1) 2 = 2 by omega]
        exact ⟨w1, w2, w3, w4⟩
    · rintro ⟨b1, a1⟩ hQ
      exact ⟨_, rfl, b1, a1, by rw [← nI_add p 1]; rfl, hQ⟩
    · intro o ho hT
      obtain ⟨b1, a1, e2, h6⟩ := hT
      subst e2
      exact ⟨(b1, a1), (if_neg q0).trans ho, h6⟩
  · rintro ⟨b1, a1⟩ hP
    have q3 : (3 : Int32) ≤ nI 3 := by decide
    exact ⟨(b1, a1), if_pos q3, hP⟩
  · rintro ⟨b1, a1⟩ hQ
    exact ⟨_, rfl, hQ⟩
  · intro o ho hT
    refine ⟨o, rb_bnd _ e1 ho, o.1, o.2, rfl, ?_⟩
    obtain ⟨bn, an, g1, g2, g3⟩ := hT
    intro x hx
    rw [g1 x hx, g2 x hx]
    obtain ⟨j1, j2⟩ := g3 x hx
    rcases hq : K x with _ | _
    · obtain ⟨i1, i2⟩ := j1 hq
      rw [i1, i2, if_neg (by decide), if_neg (by decide)]
      exact ⟨rfl, rfl⟩
    · obtain ⟨i1, i2, i3, i4⟩ := j2 hq
      rw [show min 3 2 = 2 from rfl] at i1 i3
      rw [if_pos rfl, if_pos rfl, show bn x = rb_dp n S T K 2 x by omega, show an x = rb_dp n T S (fun _ => true) 2 x by omega]
      exact ⟨rfl, rfl⟩
