theorem rb_cn_inj {P Q : Nat → Bool} {R : Nat → Nat → Prop} {n m : Nat} (h : ∀ x, x < n → P x = true → ∃ k, k < m ∧ Q k = true ∧ R k x) (hR : ∀ k x y, R k x → R k y → x = y) : rb_cn P n ≤ rb_cn Q m := by
  induction n generalizing Q with
  | zero => exact Nat.zero_le _
  | succ n ih =>
    simp only [rb_cn]
    cases hp : P n with
    | false => simp only [cond_false]; exact ih (fun x hx => h x (by omega))
    | true =>
      simp only [cond_true]
      obtain ⟨k, hk, hq, hr⟩ := h n (by omega) hp
      have := @ih (fun j => Q j && !decide (j = k)) (fun x hx hpx => by
        obtain ⟨j, hj, hqj, hrj⟩ := h x (by omega) hpx
        have hne : j ≠ k := fun e => by
          subst e
          have := hR j x n hrj hr
          omega
        exact ⟨j, hj, by simp [hqj, hne], hrj⟩)
      have h2 := rb_cn_drop (p := Q) (q := fun j => Q j && !decide (j = k)) hk hq (by simp) (fun i hi hne => by simp [hne])
      omega
theorem rb_cn_or {p q r : Nat → Bool} {n : Nat} (h : ∀ i, i < n → p i = true → q i = true ∨ r i = true) : rb_cn p n ≤ rb_cn q n + rb_cn r n := by
  induction n with
  | zero => exact Nat.zero_le _
  | succ n ih =>
    simp only [rb_cn]
    have a := ih (fun i hi => h i (by omega))
    cases hp : p n with
    | false => simp only [cond_false]; omega
    | true =>
      rcases h n (by omega) hp with g | g <;> rw [g] <;> simp only [cond_true] <;> omega
theorem rb_cn_compl {p q : Nat → Bool} {n : Nat} (h : ∀ i, i < n → p i = !q i) : rb_cn p n + rb_cn q n = n := by
  induction n with
  | zero => rfl
  | succ n ih =>
    simp only [rb_cn]
    have a := ih (fun i hi => h i (by omega))
    rw [h n (by omega)]
    cases q n <;> simp <;> omega
theorem rb_cn_lt {p : Nat → Bool} {n : Nat} (h : rb_cn p n < n) : ∃ i, i < n ∧ p i = false := by
  induction n with
  | zero => omega
  | succ n ih =>
    simp only [rb_cn] at h
    cases hp : p n with
    | false => exact ⟨n, by omega, hp⟩
    | true =>
      rw [hp] at h
      simp only [cond_true] at h
      obtain ⟨i, hi, e⟩ := ih (by omega)
      exact ⟨i, by omega, e⟩
/-- how many live -/
theorem rp_alive {s s' : Nat} {c a : rb_Row} (h : rH 28 s s' c a) : rb_cn (fun x => !decide (c (19 + x) = mI)) 28 + rb_cn (fun k => decide (c (3 + k) = mI)) 16 ≤ 16 + rb_cn (fun y => !decide (c (243 + y) = mI)) 28 := by
  have h1 : rb_cn (fun x => !decide (c (19 + x) = mI)) 28 ≤ rb_cn (fun x => !decide (c (19 + x) = mI) && decide (c (243 + x) = mI)) 28 + rb_cn (fun y => !decide (c (243 + y) = mI)) 28 := rb_cn_or (fun i hi hp => by
    by_cases g : c (243 + i) = mI
    · exact Or.inl (by simp at hp; simp [hp, g])
    · exact Or.inr (by simp [g]))
  have h2 : rb_cn (fun x => !decide (c (19 + x) = mI) && decide (c (243 + x) = mI)) 28 ≤ rb_cn (fun k => !decide (c (3 + k) = mI)) 16 := rb_cn_inj (R := fun k x => x < 28 ∧ c (3 + k) = nI x) (fun x hx hp => by
    simp only [Bool.and_eq_true, Bool.not_eq_true', decide_eq_false_iff_not, decide_eq_true_eq] at hp
    have hl : rb_live c x := by
      rcases rH_kind h hx with g | g
      · exact absurd g hp.1
      · exact g
    obtain ⟨k, hk, e⟩ := h.2.2.1 x hx (by omega) hl hp.2
    exact ⟨k, hk, by rw [e]; simp; exact rb_nmm (by omega), hx, e⟩) (fun k x y h1 h2 => by
    have := h1.2.symm.trans h2.2
    exact (nI_eq (by omega) (by omega)).mp this)
  have h3 := rb_cn_compl (p := fun k => !decide (c (3 + k) = mI)) (q := fun k => decide (c (3 + k) = mI)) (n := 16) (fun i hi => rfl)
  omega
theorem rH_add {s s' t t' : Nat} {c a c' a' : rb_Row} (h : rH 28 s s' c a) (hs : s ≤ t) (hs' : s' ≤ t') (hb : t' < 2000000000) (htt : t ≤ t') (New : Nat → Bool) (hdead : ∀ x, x < 28 → New x = true → c (19 + x) = mI) (hO : ∀ x, x < 28 → rO 28 c' a' x) (hka : ∀ x, x < 28 → a' (16 + 6 * x) = c' (19 + x)) (hk : ∀ w, w < 28 → New w = false → c' (19 + w) = c (19 + w) ∧ c' (243 + w) = c (243 + w) ∧ c' (271 + w) = c (271 + w) ∧ a' (16 + 6 * w + 1) = a (16 + 6 * w + 1) ∨ c (19 + w) = mI ∧ False) (hk2 : ∀ w, w < 28 → New w = false → a' (16 + 6 * w + 4) = a (16 + 6 * w + 4) ∧ a' (16 + 6 * w + 5) = a (16 + 6 * w + 5)) (hn : ∀ k, k < 16 → (c' (3 + k) = c (3 + k) ∧ a' k = a k) ∨ (∃ x, x < 28 ∧ New x = true ∧ c' (3 + k) = nI x ∧ a' k = nI x ∧ c' (243 + x) = mI ∧ c (3 + k) = mI)) (hnew : ∀ x, x < 28 → New x = true → rb_live c' x ∧ (c' (243 + x) ≠ mI ∨ ∃ k, k < 16 ∧ c' (3 + k) = nI x)) (hp : ∀ p e, p < 28 → e < 2 → a' (184 + 4 * p + (2 + e)) = a (184 + 4 * p + (2 + e)) ∨ ∃ y, y < 28 ∧ a' (184 + 4 * p + (2 + e)) = nI y ∧ c' (19 + y) = nI e ∧ a' (16 + 6 * y + 1) = nI p) (hw : ∀ x, x < 28 → New x = true → (c' (243 + x) = mI ∧ a' (16 + 6 * x + 4) = mI) ∨ (∃ l, l < 28 ∧ New l = false ∧ s < t ∧ c' (243 + x) = nI l ∧ a' (16 + 6 * x + 4) = nI l ∧ c (19 + l) = nI 5 ∧ c' (19 + x) = nI 0 ∧ c' (271 + x) = nI s ∧ a' (16 + 6 * x + 5) = nI t' ∧ s' < t' ∧ ∀ y, y < 28 → New y = true → c' (243 + y) ≠ mI → y = x)) (h7 : rb_cn (fun y => !decide (c' (243 + y) = mI)) 28 ≤ 12) : rH 28 t t' c' a' := by
  obtain ⟨h1, h2, h3, h4, h5, h6, _⟩ := id h
  have hk1 : ∀ w, w < 28 → New w = false → c' (19 + w) = c (19 + w) ∧ c' (243 + w) = c (243 + w) ∧ c' (271 + w) = c (271 + w) ∧ a' (16 + 6 * w + 1) = a (16 + 6 * w + 1) := fun w hw' hN => by
    rcases hk w hw' hN with g | g
    · exact g
    · exact g.2.elim
  have hlive : ∀ w, w < 28 → rb_live c w → New w = false := fun w hw' hl => by
    cases e : New w with
    | false => rfl
    | true => exact absurd hl (rb_dead (hdead w hw' e))
  have hlv : ∀ w, w < 28 → New w = false → (rb_live c' w ↔ rb_live c w) := fun w hw' hN => by unfold rb_live; rw [(hk1 w hw' hN).1]
  refine ⟨?_, fun x hx => ⟨hka x hx, hO x hx⟩, ?_, ?_, ?_, ?_, h7⟩
  · intro k hk'
    obtain ⟨p1, p2, p3⟩ := h1 k hk'
    rcases hn k hk' with ⟨g1, g2⟩ | ⟨x, hx, g1, g2, g3, g4, g5⟩
    · rw [g1, g2]
      refine ⟨p1, p2, ?_⟩
      rcases p3 with p3 | ⟨x, hx, e, hl, hw'⟩
      · exact Or.inl p3
      · have hN := hlive x hx hl
        exact Or.inr ⟨x, hx, e, (hlv x hx hN).mpr hl, by rw [(hk1 x hx hN).2.1]; exact hw'⟩
    · rw [g2, g3]
      refine ⟨rfl, fun e => ?_, Or.inr ⟨x, hx, rfl, (hnew x hx g1).1, g4⟩⟩
      have := (nI_eq (by omega) (by omega)).mp e
      omega
  · intro x hx hz hl hw'
    cases hN : New x with
    | true =>
      rcases (hnew x hx hN).2 with g | g
      · exact absurd hw' g
      · exact g
    | false =>
      rw [(hk1 x hx hN).2.1] at hw'
      obtain ⟨k, hk', e⟩ := h3 x hx hz ((hlv x hx hN).mp hl) hw'
      rcases hn k hk' with ⟨g1, _⟩ | ⟨_, _, _, _, _, _, g⟩
      · exact ⟨k, hk', by rw [g1]; exact e⟩
      · rw [g] at e; exact absurd e.symm (rb_nmm (by omega))
  · intro p e hp' he
    rcases hp p e hp' he with g | g
    · rw [g]
      rcases h4 p e hp' he with g' | ⟨y, hy, g1, g2, g3⟩
      · exact Or.inl g'
      · have hN := hlive y hy ⟨e, by omega, g2⟩
        exact Or.inr ⟨y, hy, g1, by rw [(hk1 y hy hN).1]; exact g2, by rw [(hk1 y hy hN).2.2.2]; exact g3⟩
    · exact Or.inr g
  · intro x hx
    cases hN : New x with
    | true =>
      rcases hw x hx hN with ⟨g1, g2⟩ | ⟨l, hl, gN, gs, g1, g2, g3, g4, g5, g6, g7, _⟩
      · exact Or.inl ⟨g1, fun _ => g2⟩
      · exact Or.inr ⟨l, s, t', hl, gs, by omega, Nat.le_refl _, g1, g2, by rw [(hk1 l hl gN).1]; exact g3, g4, g5, g6⟩
    | false =>
      obtain ⟨k1, k2, k3, k4⟩ := hk1 x hx hN
      obtain ⟨k5, k6⟩ := hk2 x hx hN
      rw [k1, k2, k3, k5, k6]
      rcases h5 x hx with ⟨g1, g2⟩ | ⟨l, u, v, g1, g2, g3, g4, g5, g6, g7, g8⟩
      · exact Or.inl ⟨g1, fun hl => g2 ((hlv x hx hN).mp hl)⟩
      · have hNl := hlive l g1 ⟨5, by omega, g7⟩
        exact Or.inr ⟨l, u, v, g1, by omega, g3, by omega, g5, g6, by rw [(hk1 l g1 hNl).1]; exact g7, g8⟩
  · intro x y hx hy hwx hwy
    have hold : ∀ w, w < 28 → New w = false → c' (243 + w) ≠ mI → ∃ u v, u < s ∧ v ≤ s' ∧ c' (271 + w) = nI u ∧ a' (16 + 6 * w + 5) = nI v := by
      intro w hw' hN hww
      obtain ⟨k1, k2, k3, k4⟩ := hk1 w hw' hN
      rw [k2] at hww
      rcases h5 w hw' with ⟨g1, _⟩ | ⟨l, u, v, g1, g2, g3, g4, g5, g6, g7, g8, g9, g10⟩
      · exact absurd g1 hww
      · exact ⟨u, v, g2, g4, by rw [k3]; exact g9, by rw [(hk2 w hw' hN).2]; exact g10⟩
    have hnw : ∀ w, w < 28 → New w = true → c' (243 + w) ≠ mI → s < t ∧ s' < t' ∧ c' (271 + w) = nI s ∧ a' (16 + 6 * w + 5) = nI t' ∧ ∀ y, y < 28 → New y = true → c' (243 + y) ≠ mI → y = w := by
      intro w hw' hN hww
      rcases hw w hw' hN with ⟨g1, _⟩ | ⟨l, hl, gN, gs, g1, g2, g3, g4, g5, g6, g7, g8⟩
      · exact absurd g1 hww
      · exact ⟨gs, g7, g5, g6, g8⟩
    cases hNx : New x with
    | true =>
      obtain ⟨s1, s2, s3, s4, s5⟩ := hnw x hx hNx hwx
      cases hNy : New y with
      | true =>
        have := s5 y hy hNy hwy
        subst this
        refine ⟨?_, fun _ => rfl⟩
        constructor <;> intro g <;> exact absurd g (Int.lt_irrefl _)
      | false =>
        obtain ⟨u, v, u1, u2, u3, u4⟩ := hold y hy hNy hwy
        rw [s3, s4, u3, u4, nI_toInt (by omega), nI_toInt (by omega), nI_toInt (by omega), nI_toInt (by omega)]
        refine ⟨by omega, fun e => ?_⟩
        have := (nI_eq (by omega) (by omega)).mp e
        omega
    | false =>
      cases hNy : New y with
      | true =>
        obtain ⟨s1, s2, s3, s4, s5⟩ := hnw y hy hNy hwy
        obtain ⟨u, v, u1, u2, u3, u4⟩ := hold x hx hNx hwx
        rw [s3, s4, u3, u4, nI_toInt (by omega), nI_toInt (by omega), nI_toInt (by omega), nI_toInt (by omega)]
        refine ⟨by omega, fun e => ?_⟩
        have := (nI_eq (by omega) (by omega)).mp e
        omega
      | false =>
        obtain ⟨k1, k2, k3, k4⟩ := hk1 x hx hNx
        obtain ⟨m1, m2, m3, m4⟩ := hk1 y hy hNy
        rw [k2] at hwx
        rw [m2] at hwy
        rw [k3, m3, (hk2 x hx hNx).2, (hk2 y hy hNy).2]
        exact h6 x y hx hy hwx hwy
/-- the rows with a new object -/
def rb_mkC (c : rb_Row) (x : Nat) (kd : Int32) : rb_Row := upd (upd (upd (upd (upd (upd (upd (upd (upd (upd c (19 + x) kd) (47 + x) (nI 0)) (75 + x) (nI 0)) (103 + x) (nI 0)) (131 + x) mI) (159 + x) mI) (187 + x) (nI 0)) (215 + x) (nI 0)) (243 + x) mI) (271 + x) (nI 0)
def rb_mkA (a : rb_Row) (x : Nat) (kd v m t : Int32) : rb_Row := upd (upd (upd (upd (upd (upd a (16 + 6 * x) kd) (16 + 6 * x + 1) v) (16 + 6 * x + 2) m) (16 + 6 * x + 3) t) (16 + 6 * x + 4) mI) (16 + 6 * x + 5) (nI 0)
theorem xn_makeThing {c : rb_Row} {x : Nat} (hx : x < 28) (hk : ∀ y, y < x → ∃ k, k < 6 ∧ c (19 + y) = nI k) (hd : c (19 + x) = mI) (kd : Int32) : XX5_makeThing c kd = some (nI x, rb_mkC c x kd) := by
  unfold XX5_makeThing
  refine rb_bnd _ (rb_lps0 (fun j => (nI j, c)) x (.inr (nI x, rb_mkC c x kd)) rfl ?_ ?_ (by omega)) rfl
  · intro j hj
    obtain ⟨k, hk6, e⟩ := hk j hj
    simp (disch := omega) only [li_0, li_1, li_2, li_3, li_4, li_5, li_6, li_7, li_8, li_9, li_10, li_11, li_12, li_13, li_14, li_15, li_16, li_17, li_18, li_19, li_20, li_21, li_22, li_23, li_24, li_25, li_26, li_27, li_28, li_29, li_30, li_31, li_32, li_33, li_34, li_35, li_36, li_37, li_38, li_39, li_40, li_41, li_42, li_47, li_50, li_60, li_63, li_75, li_100, li_103, li_131, li_159, li_184, li_187, li_215, li_243, li_256, li_271, li_296, li_299, li_323, li_347, li_371, li_395, li_419, li_443, li_467, li_491, li_515, li_539, li_545, li_551, li_557, li_560, li_563, li_569, li_575, li_581, li_587, li_593, li_599, li_605, li_629, li_653, li_677, li_725, li_773, li_794, li_795, li_796, li_1000, li_1546, li_1592, li_6184, li_9552, li_10049, li_10348, li_100000, rb_mI, nI_add, nI_mul, nI_leI, nI_ltI, nI_eq, rb_rdn, rb_wrn, rb_n0, rb_m0, rb_m1n, rb_nm1, rb_m1lt, rb_m1le, rb_0m1, rb_ltm1, rb_lem1, Nat.add_zero, Nat.zero_le, Nat.not_lt_zero, Nat.one_ne_zero, Option.bind_some, Option.bind_none, Option.some.injEq, if_true, if_false, ite_true, ite_false, Sum.elim_inl, Sum.elim_inr, e]
    rw [if_neg (by omega)]
  · unfold rb_mkC
    simp (disch := omega) only [li_0, li_1, li_2, li_3, li_4, li_5, li_6, li_7, li_8, li_9, li_10, li_11, li_12, li_13, li_14, li_15, li_16, li_17, li_18, li_19, li_20, li_21, li_22, li_23, li_24, li_25, li_26, li_27, li_28, li_29, li_30, li_31, li_32, li_33, li_34, li_35, li_36, li_37, li_38, li_39, li_40, li_41, li_42, li_47, li_50, li_60, li_63, li_75, li_100, li_103, li_131, li_159, li_184, li_187, li_215, li_243, li_256, li_271, li_296, li_299, li_323, li_347, li_371, li_395, li_419, li_443, li_467, li_491, li_515, li_539, li_545, li_551, li_557, li_560, li_563, li_569, li_575, li_581, li_587, li_593, li_599, li_605, li_629, li_653, li_677, li_725, li_773, li_794, li_795, li_796, li_1000, li_1546, li_1592, li_6184, li_9552, li_10049, li_10348, li_100000, rb_mI, nI_add, nI_mul, nI_leI, nI_ltI, nI_eq, rb_rdn, rb_wrn, rb_n0, rb_m0, rb_m1n, rb_nm1, rb_m1lt, rb_m1le, rb_0m1, rb_ltm1, rb_lem1, Nat.add_zero, Nat.zero_le, Nat.not_lt_zero, Nat.one_ne_zero, Option.bind_some, Option.bind_none, Option.some.injEq, if_true, if_false, ite_true, ite_false, Sum.elim_inl, Sum.elim_inr, hd]
    rw [if_neg (by omega)]
theorem yn_newObject {a : rb_Row} {x : Nat} (hx : x < 28) (hk : ∀ y, y < x → ∃ k, k < 6 ∧ a (16 + 6 * y) = nI k) (hd : a (16 + 6 * x) = mI) (kd v m t : Int32) : XX7_newObject a kd v m t = some (nI x, rb_mkA a x kd v m t) := by
  unfold XX7_newObject
  refine rb_bnd _ (rb_lps0 (fun j => nI j) x (nI x) rfl ?_ ?_ (by omega)) ?_
  · intro j hj
    obtain ⟨k, hk6, e⟩ := hk j hj
    simp (disch := omega) only [li_0, li_1, li_2, li_3, li_4, li_5, li_6, li_7, li_8, li_9, li_10, li_11, li_12, li_13, li_14, li_15, li_16, li_17, li_18, li_19, li_20, li_21, li_22, li_23, li_24, li_25, li_26, li_27, li_28, li_29, li_30, li_31, li_32, li_33, li_34, li_35, li_36, li_37, li_38, li_39, li_40, li_41, li_42, li_47, li_50, li_60, li_63, li_75, li_100, li_103, li_131, li_159, li_184, li_187, li_215, li_243, li_256, li_271, li_296, li_299, li_323, li_347, li_371, li_395, li_419, li_443, li_467, li_491, li_515, li_539, li_545, li_551, li_557, li_560, li_563, li_569, li_575, li_581, li_587, li_593, li_599, li_605, li_629, li_653, li_677, li_725, li_773, li_794, li_795, li_796, li_1000, li_1546, li_1592, li_6184, li_9552, li_10049, li_10348, li_100000, rb_mI, nI_add, nI_mul, nI_leI, nI_ltI, nI_eq, rb_rdn, rb_wrn, rb_n0, rb_m0, rb_m1n, rb_nm1, rb_m1lt, rb_m1le, rb_0m1, rb_ltm1, rb_lem1, Nat.add_zero, Nat.zero_le, Nat.not_lt_zero, Nat.one_ne_zero, Option.bind_some, Option.bind_none, Option.some.injEq, if_true, if_false, ite_true, ite_false, Sum.elim_inl, Sum.elim_inr, xn_ofObject, xn_ofPipe, xn_ofInterest, xn_ofTask, xn_kindOf, xn_bitsOf7, xn_isInterest, xn_isAsleep, xn_objectAt, xn_pipeAt, xn_interestAt, xn_taskAt, rb_nz0, rb_nz1, rb_n10, Nat.one_ne_zero, eq_self, e]
  · simp (disch := omega) only [li_0, li_1, li_2, li_3, li_4, li_5, li_6, li_7, li_8, li_9, li_10, li_11, li_12, li_13, li_14, li_15, li_16, li_17, li_18, li_19, li_20, li_21, li_22, li_23, li_24, li_25, li_26, li_27, li_28, li_29, li_30, li_31, li_32, li_33, li_34, li_35, li_36, li_37, li_38, li_39, li_40, li_41, li_42, li_47, li_50, li_60, li_63, li_75, li_100, li_103, li_131, li_159, li_184, li_187, li_215, li_243, li_256, li_271, li_296, li_299, li_323, li_347, li_371, li_395, li_419, li_443, li_467, li_491, li_515, li_539, li_545, li_551, li_557, li_560, li_563, li_569, li_575, li_581, li_587, li_593, li_599, li_605, li_629, li_653, li_677, li_725, li_773, li_794, li_795, li_796, li_1000, li_1546, li_1592, li_6184, li_9552, li_10049, li_10348, li_100000, rb_mI, nI_add, nI_mul, nI_leI, nI_ltI, nI_eq, rb_rdn, rb_wrn, rb_n0, rb_m0, rb_m1n, rb_nm1, rb_m1lt, rb_m1le, rb_0m1, rb_ltm1, rb_lem1, Nat.add_zero, Nat.zero_le, Nat.not_lt_zero, Nat.one_ne_zero, Option.bind_some, Option.bind_none, Option.some.injEq, if_true, if_false, ite_true, ite_false, Sum.elim_inl, Sum.elim_inr, xn_ofObject, xn_ofPipe, xn_ofInterest, xn_ofTask, xn_kindOf, xn_bitsOf7, xn_isInterest, xn_isAsleep, xn_objectAt, xn_pipeAt, xn_interestAt, xn_taskAt, rb_nz0, rb_nz1, rb_n10, Nat.one_ne_zero, eq_self, hd]
  · unfold rb_mkA
    simp (disch := omega) only [li_0, li_1, li_2, li_3, li_4, li_5, li_6, li_7, li_8, li_9, li_10, li_11, li_12, li_13, li_14, li_15, li_16, li_17, li_18, li_19, li_20, li_21, li_22, li_23, li_24, li_25, li_26, li_27, li_28, li_29, li_30, li_31, li_32, li_33, li_34, li_35, li_36, li_37, li_38, li_39, li_40, li_41, li_42, li_47, li_50, li_60, li_63, li_75, li_100, li_103, li_131, li_159, li_184, li_187, li_215, li_243, li_256, li_271, li_296, li_299, li_323, li_347, li_371, li_395, li_419, li_443, li_467, li_491, li_515, li_539, li_545, li_551, li_557, li_560, li_563, li_569, li_575, li_581, li_587, li_593, li_599, li_605, li_629, li_653, li_677, li_725, li_773, li_794, li_795, li_796, li_1000, li_1546, li_1592, li_6184, li_9552, li_10049, li_10348, li_100000, rb_mI, nI_add, nI_mul, nI_leI, nI_ltI, nI_eq, rb_rdn, rb_wrn, rb_n0, rb_m0, rb_m1n, rb_nm1, rb_m1lt, rb_m1le, rb_0m1, rb_ltm1, rb_lem1, Nat.add_zero, Nat.zero_le, Nat.not_lt_zero, Nat.one_ne_zero, Option.bind_some, Option.bind_none, Option.some.injEq, if_true, if_false, ite_true, ite_false, Sum.elim_inl, Sum.elim_inr, xn_ofObject, xn_ofPipe, xn_ofInterest, xn_ofTask, xn_kindOf, xn_bitsOf7, xn_isInterest, xn_isAsleep, xn_objectAt, xn_pipeAt, xn_interestAt, xn_taskAt, rb_nz0, rb_nz1, rb_n10, Nat.one_ne_zero, eq_self]
theorem rp_freeHandle {s s' : Nat} {c a : rb_Row} (h : rH 28 s s' c a) : XX5_freeHandle c = some (rb_oi (rb_fd (fun k => decide (c (3 + k) = mI)) 16)) ∧ XX7_freeHandle a = some (rb_oi (rb_fd (fun k => decide (c (3 + k) = mI)) 16)) := by
  refine ⟨?_, ?_⟩
  · unfold XX5_freeHandle
    have : XX5_firstNaming c (-1) = some (rb_oi (rb_fd (fun i => decide (c (3 + i) = mI)) 16)) := xn_firstNaming c mI
    rw [this]
    rfl
  · rw [yn_freeHandle, rb_fd_congr]
    intro k hk
    obtain ⟨e1, _, e3⟩ := h.1 k hk
    rw [e1]
    rcases e3 with e3 | ⟨x, hx, e3, _⟩
    · rw [e3]; decide
    · rw [e3]
      have g1 : ¬ nI x < nI 0 := nI_pos (by omega)
      have g2 : ¬ nI x = mI := rb_nmm (by omega)
      simp [g1, g2]
theorem rp_freeHandles {s s' : Nat} {c a : rb_Row} (h : rH 28 s s' c a) : XX5_freeHandles c = some (nI (rb_cn (fun k => decide (c (3 + k) = mI)) 16)) ∧ XX7_freeHandles a = some (nI (rb_cn (fun k => decide (c (3 + k) = mI)) 16)) := by
  refine ⟨?_, ?_⟩
  · unfold XX5_freeHandles
    have : XX5_handlesOf c (-1) = some (nI (rb_cn (fun i => decide (c (3 + i) = mI)) 16)) := xn_handlesOf c mI
    rw [this]
    rfl
  · rw [yn_freeHandles, rb_cn_congr]
    intro k hk
    obtain ⟨e1, _, e3⟩ := h.1 k hk
    rw [e1]
    rcases e3 with e3 | ⟨x, hx, e3, _⟩
    · rw [e3]; decide
    · rw [e3]
      have g1 : nI 0 ≤ nI x := nI_pos' (by omega)
      have g2 : ¬ nI x = mI := rb_nmm (by omega)
      simp [g1, g2]
/-- a handle free: an object free, the first -/
theorem rp_dead {s s' : Nat} {c a : rb_Row} (h : rH 28 s s' c a) (hf : 1 ≤ rb_cn (fun k => decide (c (3 + k) = mI)) 16) : ∃ x, x < 28 ∧ c (19 + x) = mI ∧ ∀ y, y < x → ∃ k, k < 6 ∧ c (19 + y) = nI k := by
  have h1 := rp_alive h
  have h2 := h.2.2.2.2.2.2
  obtain ⟨x, hx, e⟩ := rb_cn_lt (p := fun x => !decide (c (19 + x) = mI)) (n := 28) (by omega)
  obtain ⟨j, ej⟩ := rb_fd_ex (p := fun x => decide (c (19 + x) = mI)) hx (by simpa using e)
  obtain ⟨g1, g2, g3⟩ := rb_fd_some ej
  refine ⟨j, g1, by simpa using g2, fun y hy => ?_⟩
  have := g3 y hy
  rcases rH_kind h (x := y) (by omega) with g | g
  · simp [g] at this
  · exact g
