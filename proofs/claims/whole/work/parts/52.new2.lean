set_option maxHeartbeats 8000000 in
theorem rp_new1 {W q n : Nat} {π : Nat → Nat} {s s' : Nat} {c a c' a' : rb_Row} (hR : rR 28 W q n π s s' c a) (hs : s' < 2000000000) {x k kd : Nat} (hx : x < 28) (hd : c (19 + x) = mI) (hk : k < 16) (hf : c (3 + k) = mI) (hkd : 2 ≤ kd) (hkd' : kd < 6) (hc' : ∀ j, (∀ i, i < 10 → j ≠ 19 + 28 * i + x) → j ≠ 3 + k → c' j = c j) (ha' : ∀ j, (∀ f, f < 6 → j ≠ 16 + 6 * x + f) → j ≠ k → a' j = a j) (e1 : c' (3 + k) = nI x) (e2 : a' k = nI x) (e3 : c' (19 + x) = nI kd) (e4 : a' (16 + 6 * x) = nI kd) (e5 : c' (243 + x) = mI) (e6 : a' (16 + 6 * x + 4) = mI) (hO : rO 28 c' a' x) : rR 28 W q n π s s' c' a' := by
  have hH := hR.2.1
  have hss : s ≤ s' := hR.1.2.2.2.2.1
  have hwx : c (243 + x) = mI := by
    rcases hH.2.2.2.2.1 x hx with g | ⟨l, u, v, _, _, _, _, _, _, _, g, _⟩
    · exact g.1
    · rw [hd] at g; exact absurd g.symm (rb_nmm (by omega))
  have hcw : ∀ w j, w < 28 → w ≠ x → j < 10 → c' (19 + 28 * j + w) = c (19 + 28 * j + w) := fun w j hw hne hj => hc' _ (fun i hi => by omega) (by omega)
  have haw : ∀ w f, w < 28 → w ≠ x → f < 6 → a' (16 + 6 * w + f) = a (16 + 6 * w + f) := fun w f hw hne hf => ha' _ (fun i hi => by omega) (by omega)
  have hwait : ∀ y, y < 28 → c' (243 + y) = c (243 + y) := fun y hy => by
    by_cases e : y = x
    · subst e; rw [e5, hwx]
    · exact hcw y 8 hy e (by omega)
  refine rR_obj hR (Nat.le_refl _) (Nat.le_refl _) (by rw [hc' 1 (fun i hi => by omega) (by omega)]; exact hR.1.2.2.1) (by rw [ha' 795 (fun i hi => by omega) (by omega)]; exact hR.1.2.2.2.1) hR.1.2.2.2.2.1 hR.1.2.2.2.2.2.1 (fun j hj => hc' j (fun i hi => by omega) (by omega)) (fun j hj _ => ha' j (fun i hi => by omega) (by omega)) (fun w hw hl => ?_) (fun j hj hne => ?_) ?_
  · have : w ≠ x := fun e => rb_dead hd (e ▸ hl)
    exact hcw w 0 hw this (by omega)
  · have : j ≠ k := fun e => hne (e ▸ hf)
    exact hc' _ (fun i hi => by omega) (by omega)
  · refine rH_add hH (Nat.le_refl _) (Nat.le_refl _) hs hss (fun y => decide (y = x)) (fun y hy hN => ?_) (fun w hw => ?_) (fun w hw => ?_) (fun w hw hN => ?_) (fun w hw hN => ?_) (fun j hj => ?_) (fun y hy hN => ?_) (fun p e hp he => ?_) (fun y hy hN => ?_) ?_
    · simp only [decide_eq_true_eq] at hN
      subst hN; exact hd
    · by_cases e : w = x
      · subst e; exact hO
      · refine rO_keep hw (fun j hj => hcw w j hw e (by omega)) (fun f h1 h2 => haw w f hw e (by omega)) (fun p e hp he h1 h2 f hf => ha' _ (fun i hi => by omega) (by omega)) (fun _ _ => ?_) (hH.2.1 w hw).2
        exact rb_cn_congr (fun y hy => by rw [hwait y hy])
    · by_cases e : w = x
      · subst e; rw [e4, e3]
      · have q1 := haw w 0 hw e (by omega)
        have q2 := hcw w 0 hw e (by omega)
        exact q1.trans ((hH.2.1 w hw).1.trans q2.symm)
    · have e : w ≠ x := by simpa using hN
      exact Or.inl ⟨hcw w 0 hw e (by omega), hwait w hw, hcw w 9 hw e (by omega), haw w 1 hw e (by omega)⟩
    · have e : w ≠ x := by simpa using hN
      exact ⟨haw w 4 hw e (by omega), haw w 5 hw e (by omega)⟩
    · by_cases e : j = k
      · subst e
        exact Or.inr ⟨x, hx, by simp, e1, e2, e5, hf⟩
      · exact Or.inl ⟨hc' _ (fun i hi => by omega) (by omega), ha' _ (fun i hi => by omega) e⟩
    · have e : y = x := by simpa using hN
      subst e
      exact ⟨⟨kd, hkd', e3⟩, Or.inr ⟨k, hk, e1⟩⟩
    · exact Or.inl (ha' _ (fun i hi => by omega) (by omega))
    · have e : y = x := by simpa using hN
      subst e
      exact Or.inl ⟨e5, e6⟩
    · rw [rb_cn_congr (q := fun y => !decide (c (243 + y) = mI)) (fun y hy => by rw [hwait y hy])]
      exact hH.2.2.2.2.2.2
theorem rp_named {W q n : Nat} {π : Nat → Nat} {s s' : Nat} {c a : rb_Row} (hR : rR 28 W q n π s s' c a) (kd : Int32) : (XX0_makeNamed c kd = some (mI, c) ∧ XX7_freeHandle a = some mI) ∨ (∃ k x, k < 16 ∧ x < 28 ∧ c (3 + k) = mI ∧ c (19 + x) = mI ∧ XX0_makeNamed c kd = some (nI k, upd (rb_mkC c x kd) (3 + k) (nI x)) ∧ XX7_freeHandle a = some (nI k) ∧ ∀ v m t, XX7_newObject a kd v m t = some (nI x, rb_mkA a x kd v m t) ∧ XX7_newHandle (rb_mkA a x kd v m t) (nI x) = some (nI k, upd (rb_mkA a x kd v m t) k (nI x))) := by
  have hH := hR.2.1
  obtain ⟨e1, e2⟩ := rp_freeHandle hH
  unfold XX0_makeNamed
  cases hf : rb_fd (fun k => decide (c (3 + k) = mI)) 16 with
  | none =>
    rw [hf] at e1 e2
    refine Or.inl ⟨?_, e2⟩
    rw [e1]
    simp (disch := omega) only [↓reduceIte, Nat.reduceEqDiff, Nat.reduceLeDiff, eq_self, not_true_eq_false, not_false_eq_true, li_0, li_1, li_2, li_3, li_4, li_5, li_6, li_7, li_8, li_9, li_10, li_11, li_12, li_13, li_14, li_15, li_16, li_17, li_18, li_19, li_20, li_21, li_22, li_23, li_24, li_25, li_26, li_27, li_28, li_29, li_30, li_31, li_32, li_33, li_34, li_35, li_36, li_37, li_38, li_39, li_40, li_41, li_42, li_47, li_50, li_60, li_63, li_75, li_100, li_103, li_131, li_159, li_184, li_187, li_215, li_243, li_256, li_271, li_296, li_299, li_323, li_347, li_371, li_395, li_419, li_443, li_467, li_491, li_515, li_539, li_545, li_551, li_557, li_560, li_563, li_569, li_575, li_581, li_587, li_593, li_599, li_605, li_629, li_653, li_677, li_725, li_773, li_794, li_795, li_796, li_1000, li_1546, li_1592, li_6184, li_9552, li_10049, li_10348, li_100000, rb_mI, nI_add, nI_mul, nI_leI, nI_ltI, nI_eq, rb_rdn, rb_wrn, rb_n0, rb_m0, rb_m1n, rb_nm1, rb_m1lt, rb_m1le, rb_0m1, rb_ltm1, rb_lem1, Nat.add_zero, Nat.zero_le, Nat.not_lt_zero, Nat.one_ne_zero, Option.bind_some, Option.bind_none, Option.some.injEq, if_true, if_false, ite_true, ite_false, Sum.elim_inl, Sum.elim_inr, rb_oi]
  | some k =>
    rw [hf] at e1 e2
    obtain ⟨hk, hp, hmin⟩ := rb_fd_some hf
    have hfk : c (3 + k) = mI := by simpa using hp
    obtain ⟨x, hx, hd, hal⟩ := rp_dead hH (by have := rb_cn_pos (p := fun k => decide (c (3 + k) = mI)) hk hp; omega)
    have hda : a (16 + 6 * x) = mI := by rw [(hH.2.1 x hx).1]; exact hd
    have hala : ∀ y, y < x → ∃ k, k < 6 ∧ a (16 + 6 * y) = nI k := fun y hy => by
      obtain ⟨k, h1, h2⟩ := hal y hy
      exact ⟨k, h1, by rw [(hH.2.1 y (by omega)).1]; exact h2⟩
    refine Or.inr ⟨k, x, hk, hx, hfk, hd, ?_, e2, fun v m t => ⟨yn_newObject hx hala hda kd v m t, ?_⟩⟩
    · rw [e1, xn_makeThing hx hal hd]
      unfold XX5_giveName
      simp (disch := omega) only [↓reduceIte, Nat.reduceEqDiff, Nat.reduceLeDiff, eq_self, not_true_eq_false, not_false_eq_true, li_0, li_1, li_2, li_3, li_4, li_5, li_6, li_7, li_8, li_9, li_10, li_11, li_12, li_13, li_14, li_15, li_16, li_17, li_18, li_19, li_20, li_21, li_22, li_23, li_24, li_25, li_26, li_27, li_28, li_29, li_30, li_31, li_32, li_33, li_34, li_35, li_36, li_37, li_38, li_39, li_40, li_41, li_42, li_47, li_50, li_60, li_63, li_75, li_100, li_103, li_131, li_159, li_184, li_187, li_215, li_243, li_256, li_271, li_296, li_299, li_323, li_347, li_371, li_395, li_419, li_443, li_467, li_491, li_515, li_539, li_545, li_551, li_557, li_560, li_563, li_569, li_575, li_581, li_587, li_593, li_599, li_605, li_629, li_653, li_677, li_725, li_773, li_794, li_795, li_796, li_1000, li_1546, li_1592, li_6184, li_9552, li_10049, li_10348, li_100000, rb_mI, nI_add, nI_mul, nI_leI, nI_ltI, nI_eq, rb_rdn, rb_wrn, rb_n0, rb_m0, rb_m1n, rb_nm1, rb_m1lt, rb_m1le, rb_0m1, rb_ltm1, rb_lem1, Nat.add_zero, Nat.zero_le, Nat.not_lt_zero, Nat.one_ne_zero, Option.bind_some, Option.bind_none, Option.some.injEq, if_true, if_false, ite_true, ite_false, Sum.elim_inl, Sum.elim_inr, rb_oi]
      rw [if_neg (by omega)]
      rfl
    · unfold XX7_newHandle
      have e3 : XX7_freeHandle (rb_mkA a x kd v m t) = some (nI k) := by
        rw [← show XX7_freeHandle a = some (nI k) from e2, yn_freeHandle, yn_freeHandle]
        congr 2
        refine rb_fd_congr (fun i hi => ?_)
        unfold rb_mkA
        simp (disch := omega) only [rb_upn]
      rw [e3]
      simp (disch := omega) only [↓reduceIte, Nat.reduceEqDiff, Nat.reduceLeDiff, eq_self, not_true_eq_false, not_false_eq_true, li_0, li_1, li_2, li_3, li_4, li_5, li_6, li_7, li_8, li_9, li_10, li_11, li_12, li_13, li_14, li_15, li_16, li_17, li_18, li_19, li_20, li_21, li_22, li_23, li_24, li_25, li_26, li_27, li_28, li_29, li_30, li_31, li_32, li_33, li_34, li_35, li_36, li_37, li_38, li_39, li_40, li_41, li_42, li_47, li_50, li_60, li_63, li_75, li_100, li_103, li_131, li_159, li_184, li_187, li_215, li_243, li_256, li_271, li_296, li_299, li_323, li_347, li_371, li_395, li_419, li_443, li_467, li_491, li_515, li_539, li_545, li_551, li_557, li_560, li_563, li_569, li_575, li_581, li_587, li_593, li_599, li_605, li_629, li_653, li_677, li_725, li_773, li_794, li_795, li_796, li_1000, li_1546, li_1592, li_6184, li_9552, li_10049, li_10348, li_100000, rb_mI, nI_add, nI_mul, nI_leI, nI_ltI, nI_eq, rb_rdn, rb_wrn, rb_n0, rb_m0, rb_m1n, rb_nm1, rb_m1lt, rb_m1le, rb_0m1, rb_ltm1, rb_lem1, Nat.add_zero, Nat.zero_le, Nat.not_lt_zero, Nat.one_ne_zero, Option.bind_some, Option.bind_none, Option.some.injEq, if_true, if_false, ite_true, ite_false, Sum.elim_inl, Sum.elim_inr]
set_option maxHeartbeats 8000000 in
theorem rp_newCounter {W q n : Nat} {π : Nat → Nat} {s s' : Nat} {c a : rb_Row} (hR : rR 28 W q n π s s' c a) (hs : s' < 2000000000) {x k v b : Nat} (hx : x < 28) (hd : c (19 + x) = mI) (hk : k < 16) (hf : c (3 + k) = mI) (hv : v ≤ 1000) (hb : b ≤ 1) : rR 28 W q n π s s' (upd (upd (upd (rb_mkC c x (nI 2)) (3 + k) (nI x)) (47 + x) (nI v)) (103 + x) (nI b)) (upd (rb_mkA a x (nI 2) (nI v) (nI b) (nI 0)) k (nI x)) := by
  have hb' : b = 0 ∨ b = 1 := by omega
  unfold rb_mkC rb_mkA
  refine rp_new1 hR hs hx hd hk hf (kd := 2) (by omega) (by omega) (fun j h1 h2 => ?_) (fun j h1 h2 => ?_) ?_ ?_ ?_ ?_ ?_ ?_ ?_
  · have q0 := h1 0 (by omega); have q1 := h1 1 (by omega); have q2 := h1 2 (by omega); have q3 := h1 3 (by omega); have q4 := h1 4 (by omega); have q5 := h1 5 (by omega); have q6 := h1 6 (by omega); have q7 := h1 7 (by omega); have q8 := h1 8 (by omega); have q9 := h1 9 (by omega)
    simp (disch := omega) only [rb_upn]
  · have q0 := h1 0 (by omega); have q1 := h1 1 (by omega); have q2 := h1 2 (by omega); have q3 := h1 3 (by omega); have q4 := h1 4 (by omega); have q5 := h1 5 (by omega)
    simp (disch := omega) only [rb_upn]
  · simp (disch := omega) only [rb_upn, rb_upe]
  · simp (disch := omega) only [rb_upn, rb_upe]
  · simp (disch := omega) only [rb_upn, rb_upe]
  · simp (disch := omega) only [rb_upn, rb_upe]
  · simp (disch := omega) only [rb_upn, rb_upe]
  · simp (disch := omega) only [rb_upn, rb_upe]
  · refine Or.inr (Or.inr (Or.inl ⟨v, hv, ?_⟩))
    simp (disch := omega) only [rb_upn, rb_upe]
    refine ⟨trivial, trivial, trivial, trivial, trivial, ?_⟩
    rcases hb' with e | e <;> rw [e]
    · exact Or.inl rfl
    · exact Or.inr rfl
set_option maxHeartbeats 8000000 in
theorem rp_newTimer {W q n : Nat} {π : Nat → Nat} {s s' : Nat} {c a : rb_Row} (hR : rR 28 W q n π s s' c a) (hs : s' < 2000000000) {x k : Nat} (hx : x < 28) (hd : c (19 + x) = mI) (hk : k < 16) (hf : c (3 + k) = mI) : rR 28 W q n π s s' (upd (rb_mkC c x (nI 3)) (3 + k) (nI x)) (upd (rb_mkA a x (nI 3) (nI 0) mI (nI 0)) k (nI x)) := by
  unfold rb_mkC rb_mkA
  refine rp_new1 hR hs hx hd hk hf (kd := 3) (by omega) (by omega) (fun j h1 h2 => ?_) (fun j h1 h2 => ?_) ?_ ?_ ?_ ?_ ?_ ?_ ?_
  · have q0 := h1 0 (by omega); have q1 := h1 1 (by omega); have q2 := h1 2 (by omega); have q3 := h1 3 (by omega); have q4 := h1 4 (by omega); have q5 := h1 5 (by omega); have q6 := h1 6 (by omega); have q7 := h1 7 (by omega); have q8 := h1 8 (by omega); have q9 := h1 9 (by omega)
    simp (disch := omega) only [rb_upn]
  · have q0 := h1 0 (by omega); have q1 := h1 1 (by omega); have q2 := h1 2 (by omega); have q3 := h1 3 (by omega); have q4 := h1 4 (by omega); have q5 := h1 5 (by omega)
    simp (disch := omega) only [rb_upn]
  · simp (disch := omega) only [rb_upn, rb_upe]
  · simp (disch := omega) only [rb_upn, rb_upe]
  · simp (disch := omega) only [rb_upn, rb_upe]
  · simp (disch := omega) only [rb_upn, rb_upe]
  · simp (disch := omega) only [rb_upn, rb_upe]
  · simp (disch := omega) only [rb_upn, rb_upe]
  · refine Or.inr (Or.inr (Or.inr (Or.inl ⟨0, by omega, ?_⟩)))
    simp (disch := omega) only [rb_upn, rb_upe]
    exact ⟨trivial, trivial, trivial, trivial, trivial, trivial, Or.inl trivial⟩
set_option maxHeartbeats 8000000 in
theorem rp_newSet {W q n : Nat} {π : Nat → Nat} {s s' : Nat} {c a : rb_Row} (hR : rR 28 W q n π s s' c a) (hs : s' < 2000000000) {x k : Nat} (hx : x < 28) (hd : c (19 + x) = mI) (hk : k < 16) (hf : c (3 + k) = mI) : rR 28 W q n π s s' (upd (rb_mkC c x (nI 4)) (3 + k) (nI x)) (upd (rb_mkA a x (nI 4) (nI 0) (nI 0) (nI 0)) k (nI x)) := by
  unfold rb_mkC rb_mkA
  refine rp_new1 hR hs hx hd hk hf (kd := 4) (by omega) (by omega) (fun j h1 h2 => ?_) (fun j h1 h2 => ?_) ?_ ?_ ?_ ?_ ?_ ?_ ?_
  · have q0 := h1 0 (by omega); have q1 := h1 1 (by omega); have q2 := h1 2 (by omega); have q3 := h1 3 (by omega); have q4 := h1 4 (by omega); have q5 := h1 5 (by omega); have q6 := h1 6 (by omega); have q7 := h1 7 (by omega); have q8 := h1 8 (by omega); have q9 := h1 9 (by omega)
    simp (disch := omega) only [rb_upn]
  · have q0 := h1 0 (by omega); have q1 := h1 1 (by omega); have q2 := h1 2 (by omega); have q3 := h1 3 (by omega); have q4 := h1 4 (by omega); have q5 := h1 5 (by omega)
    simp (disch := omega) only [rb_upn]
  · simp (disch := omega) only [rb_upn, rb_upe]
  · simp (disch := omega) only [rb_upn, rb_upe]
  · simp (disch := omega) only [rb_upn, rb_upe]
  · simp (disch := omega) only [rb_upn, rb_upe]
  · simp (disch := omega) only [rb_upn, rb_upe]
  · simp (disch := omega) only [rb_upn, rb_upe]
  · refine Or.inr (Or.inr (Or.inr (Or.inr (Or.inl ?_))))
    simp (disch := omega) only [rb_upn, rb_upe]
    exact ⟨trivial, trivial⟩
set_option maxHeartbeats 8000000 in
theorem rp_newListener {W q n : Nat} {π : Nat → Nat} {s s' : Nat} {c a : rb_Row} (hR : rR 28 W q n π s s' c a) (hs : s' < 2000000000) {x k v b : Nat} (hx : x < 28) (hd : c (19 + x) = mI) (hk : k < 16) (hf : c (3 + k) = mI) (hv : 1 ≤ v) (hv' : v ≤ 12) (hb : 1 ≤ b) (hb' : b ≤ 100) : rR 28 W q n π s s' (upd (upd (upd (rb_mkC c x (nI 5)) (3 + k) (nI x)) (215 + x) (nI v)) (75 + x) (nI b)) (upd (rb_mkA a x (nI 5) (nI 0) (nI v) (nI b)) k (nI x)) := by
  have hH := hR.2.1
  have hcn : rb_cn (fun y => decide ((upd (upd (upd (rb_mkC c x (nI 5)) (3 + k) (nI x)) (215 + x) (nI v)) (75 + x) (nI b)) (243 + y) = nI x)) 28 = 0 := by
    refine rb_cn_zero (fun y hy => ?_)
    rw [decide_eq_false_iff_not]
    unfold rb_mkC
    by_cases e : y = x
    · subst e
      simp (disch := omega) only [rb_upn, rb_upe]
      exact fun g => rb_nmm (k := y) (by omega) g.symm
    · simp (disch := omega) only [rb_upn]
      intro g
      rcases hH.2.2.2.2.1 y hy with ⟨q1, _⟩ | ⟨l, u, w, q1, _, _, _, q5, _, q7, _⟩
      · rw [q1] at g; exact rb_nmm (k := x) (by omega) g.symm
      · rw [g] at q5
        have := (nI_eq (by omega) (by omega)).mp q5
        subst this
        rw [hd] at q7
        exact rb_nmm (k := 5) (by omega) q7.symm
  refine rp_new1 hR hs hx hd hk hf (kd := 5) (by omega) (by omega) (fun j h1 h2 => ?_) (fun j h1 h2 => ?_) ?_ ?_ ?_ ?_ ?_ ?_ ?_
  · have q0 := h1 0 (by omega); have q1 := h1 1 (by omega); have q2 := h1 2 (by omega); have q3 := h1 3 (by omega); have q4 := h1 4 (by omega); have q5 := h1 5 (by omega); have q6 := h1 6 (by omega); have q7 := h1 7 (by omega); have q8 := h1 8 (by omega); have q9 := h1 9 (by omega)
    unfold rb_mkC
    simp (disch := omega) only [rb_upn]
  · have q0 := h1 0 (by omega); have q1 := h1 1 (by omega); have q2 := h1 2 (by omega); have q3 := h1 3 (by omega); have q4 := h1 4 (by omega); have q5 := h1 5 (by omega)
    unfold rb_mkA
    simp (disch := omega) only [rb_upn]
  · unfold rb_mkC
    simp (disch := omega) only [rb_upn, rb_upe]
  · unfold rb_mkA
    simp (disch := omega) only [rb_upn, rb_upe]
  · unfold rb_mkC
    simp (disch := omega) only [rb_upn, rb_upe]
  · unfold rb_mkA
    simp (disch := omega) only [rb_upn, rb_upe]
  · unfold rb_mkC
    simp (disch := omega) only [rb_upn, rb_upe]
  · unfold rb_mkA
    simp (disch := omega) only [rb_upn, rb_upe]
  · refine Or.inr (Or.inr (Or.inr (Or.inr (Or.inr ⟨v, b, ?_⟩))))
    rw [hcn]
    unfold rb_mkC rb_mkA
    simp (disch := omega) only [rb_upn, rb_upe]
    exact ⟨trivial, trivial, hv, hv', hb, hb', trivial, trivial, trivial, trivial, fun _ => ⟨trivial, by omega⟩⟩
/-- one more handle -/
theorem rp_twin {W q n : Nat} {π : Nat → Nat} {s s' : Nat} {c a : rb_Row} (hR : rR 28 W q n π s s' c a) {x k : Nat} (hx : x < 28) (hl : rb_live c x) (hw : c (243 + x) = mI) (hk : k < 16) (hf : c (3 + k) = mI) : rR 28 W q n π s s' (upd c (3 + k) (nI x)) (upd a k (nI x)) := by
  obtain ⟨h1, h2, h3, h4, h5, h6, h7⟩ := id hR.2.1
  refine rR_obj hR (Nat.le_refl _) (Nat.le_refl _) (by rw [rb_upn (by omega)]; exact hR.1.2.2.1) (by rw [rb_upn (by omega)]; exact hR.1.2.2.2.1) hR.1.2.2.2.2.1 hR.1.2.2.2.2.2.1 (fun j hj => rb_upn (by omega)) (fun j hj _ => rb_upn (by omega)) (fun w hw hl => rb_upn (by omega)) (fun j hj hne => rb_upn (fun e => hne ((show j = k by omega) ▸ hf))) ?_
  have hlv : ∀ w, w < 28 → (rb_live (upd c (3 + k) (nI x)) w ↔ rb_live c w) := fun w hw => by unfold rb_live; rw [rb_upn (by omega)]
  refine ⟨?_, ?_, ?_, ?_, ?_, ?_, ?_⟩
  · intro j hj
    by_cases e : j = k
    · subst e
      rw [rb_upe rfl, rb_upe rfl]
      refine ⟨rfl, fun e => ?_, Or.inr ⟨x, hx, rfl, (hlv x hx).mpr hl, by rw [rb_upn (by omega)]; exact hw⟩⟩
      have := (nI_eq (by omega) (by omega)).mp e
      omega
    · rw [rb_upn e, rb_upn (by omega)]
      obtain ⟨p1, p2, p3⟩ := h1 j hj
      refine ⟨p1, p2, ?_⟩
      rcases p3 with p3 | ⟨w, q1, q2, q3, q4⟩
      · exact Or.inl p3
      · exact Or.inr ⟨w, q1, q2, (hlv w q1).mpr q3, by rw [rb_upn (by omega)]; exact q4⟩
  · intro w hw'
    refine ⟨by simp (disch := omega) only [rb_upn]; exact (h2 w hw').1, rO_keep hw' (fun j hj => rb_upn (by omega)) (fun f h1 h2 => rb_upn (by omega)) (fun p e hp he h1 h2 f hf => rb_upn (by omega)) (fun _ _ => rb_cn_congr (fun y hy => by rw [rb_upn (by omega)])) (h2 w hw').2⟩
  · intro w hw' hz hl' hww
    rw [rb_upn (by omega)] at hww
    obtain ⟨j, hj, e⟩ := h3 w hw' hz ((hlv w hw').mp hl') hww
    have : j ≠ k := fun g => by
      subst g
      rw [hf] at e
      exact rb_nmm (k := w) (by omega) e.symm
    exact ⟨j, hj, by rw [rb_upn (by omega)]; exact e⟩
  · intro p e hp he
    rw [rb_upn (by omega)]
    rcases h4 p e hp he with g | ⟨y, g1, g2, g3, g4⟩
    · exact Or.inl g
    · exact Or.inr ⟨y, g1, g2, by rw [rb_upn (by omega)]; exact g3, by rw [rb_upn (by omega)]; exact g4⟩
  · intro w hw'
    simp (disch := omega) only [rb_upn]
    rcases h5 w hw' with ⟨g1, g2⟩ | ⟨l, u, v, g1, g2, g3, g4, g5, g6, g7, g8⟩
    · exact Or.inl ⟨g1, fun hl' => g2 ((hlv w hw').mp hl')⟩
    · exact Or.inr ⟨l, u, v, g1, g2, g3, g4, g5, g6, g7, g8⟩
  · intro w y hw' hy
    simp (disch := omega) only [rb_upn]
    exact h6 w y hw' hy
  · rw [rb_cn_congr (q := fun y => !decide (c (243 + y) = mI)) (fun i hi => by rw [rb_upn (by omega)])]
    exact h7
