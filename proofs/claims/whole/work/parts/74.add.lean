set_option maxHeartbeats 4000000 in
theorem rp_deep7 {n : Nat} {S T : Nat → Nat} {K : Nat → Bool} {c2 : rb_Row} {x y : Nat} (hS : ∀ i, i < n → S i < 28 ∧ c2 (299 + i) = nI (S i)) (hT : ∀ i, i < n → T i < 28 ∧ c2 (323 + i) = nI (T i)) (e299 : c2 (299 + n) = nI x) (e323 : c2 (323 + n) = nI y) (hx : x < 28) (hy : y < 28) (hxy : x ≠ y) (hK : ∀ z, z < 28 → (K z = true ↔ c2 (19 + z) = nI 4)) (hKS : ∀ i, i < n → K (S i) = true) (hKx : K x = true) (old : ∀ i j k, i < n → j < n → k < n → T i = S j → T j = S k → K (T k) = true → False) (hd : K y = false ∨ rb_dp n T S (fun _ => true) 2 x + rb_dp n S T K 2 y ≤ 3) : ∀ i j k z, i < n + 1 → j < n + 1 → k < n + 1 → c2 (323 + i) = c2 (299 + j) → c2 (323 + j) = c2 (299 + k) → z < 28 → c2 (323 + k) = nI z → c2 (19 + z) ≠ nI 4 := by
  intro i j k z hi hj hk q1 q2 hz q3 q4
  have kz : K z = true := (hK z hz).mpr q4
  have o1 := rb_dp_one n T S (fun _ => true) 2 x
  have o2 := rb_dp_one n S T K 2 y
  have toS : ∀ j, j < n → ∀ u, u < 28 → nI u = c2 (299 + j) → u = S j := fun j hj u hu e => by
    obtain ⟨g1, g2⟩ := hS j hj
    rw [g2] at e
    exact (nI_eq (by omega) (by omega)).mp e
  have toX : ∀ u, u < 28 → nI u = c2 (299 + n) → u = x := fun u hu e => by
    rw [e299] at e
    exact (nI_eq (by omega) (by omega)).mp e
  have up2 : ∀ i, i < n → T i = x → 2 ≤ rb_dp n T S (fun _ => true) 2 x := fun i hi e => by
    have h1 : 1 + rb_dp n T S (fun _ => true) 1 (S i) ≤ rb_dp n T S (fun _ => true) 2 x := rb_dp_edge (l := 1) (K := fun _ => true) hi e rfl
    have h2 := rb_dp_one n T S (fun _ => true) 1 (S i)
    omega
  have up3 : ∀ i j, i < n → j < n → T i = S j → T j = x → 3 ≤ rb_dp n T S (fun _ => true) 2 x := fun i j hi hj e1 e => by
    have h1 : 1 + rb_dp n T S (fun _ => true) 1 (S j) ≤ rb_dp n T S (fun _ => true) 2 x := rb_dp_edge (l := 1) (K := fun _ => true) hj e rfl
    have h2 : 1 + rb_dp n T S (fun _ => true) 0 (S i) ≤ rb_dp n T S (fun _ => true) 1 (S j) := rb_dp_edge (l := 0) (K := fun _ => true) hi e1 rfl
    have h3 := rb_dp_one n T S (fun _ => true) 0 (S i)
    omega
  have dn2 : ∀ k, k < n → S k = y → K (T k) = true → 2 ≤ rb_dp n S T K 2 y := fun k hk e kk => by
    have h1 : 1 + rb_dp n S T K 1 (T k) ≤ rb_dp n S T K 2 y := rb_dp_edge (l := 1) hk e kk
    have h2 := rb_dp_one n S T K 1 (T k)
    omega
  have dn3 : ∀ j k, j < n → k < n → S j = y → T j = S k → K (T k) = true → 3 ≤ rb_dp n S T K 2 y := fun j k hj hk e e1 kk => by
    have h1 : 1 + rb_dp n S T K 1 (T j) ≤ rb_dp n S T K 2 y := rb_dp_edge (l := 1) hj e (by rw [e1]; exact hKS k hk)
    have h2 : 1 + rb_dp n S T K 0 (T k) ≤ rb_dp n S T K 1 (T j) := rb_dp_edge (l := 0) hk e1.symm kk
    have h3 := rb_dp_one n S T K 0 (T k)
    omega
  have last : ∀ i, i < n + 1 → i < n ∨ i = n := fun i hi => by omega
  -- the last edge's aim
  have zk : (k < n → z = T k) ∧ (k = n → z = y) := ⟨fun h => by
    obtain ⟨g1, g2⟩ := hT k h
    rw [g2] at q3
    exact ((nI_eq (by omega) (by omega)).mp q3).symm, fun h => by
    subst h
    rw [e323] at q3
    exact ((nI_eq (by omega) (by omega)).mp q3).symm⟩
  rcases last i hi with ci | ci <;> rcases last j hj with cj | cj <;> rcases last k hk with ck | ck
  · rw [(hT i ci).2] at q1; rw [(hT j cj).2] at q2
    exact old i j k ci cj ck (toS j cj _ (hT i ci).1 q1) (toS k ck _ (hT j cj).1 q2) (by rw [← zk.1 ck]; exact kz)
  · subst ck
    rw [(hT i ci).2] at q1; rw [(hT j cj).2] at q2
    have u := up3 i j ci cj (toS j cj _ (hT i ci).1 q1) (toX _ (hT j cj).1 q2)
    have e := zk.2 rfl
    rw [e] at kz
    rcases hd with hd | hd
    · rw [hd] at kz; cases kz
    · omega
  · subst cj
    rw [(hT i ci).2] at q1; rw [e323] at q2
    have u := up2 i ci (toX _ (hT i ci).1 q1)
    have e1 := toS k ck y hy q2
    have d := dn2 k ck e1.symm (by rw [← zk.1 ck]; exact kz)
    rcases hd with hd | hd
    · rw [e1, hKS k ck] at hd; cases hd
    · omega
  · subst cj ck
    rw [e323] at q2
    exact hxy (toX y hy q2).symm
  · subst ci
    rw [e323] at q1; rw [(hT j cj).2] at q2
    have e1 := toS j cj y hy q1
    have d := dn3 j k cj ck e1.symm (toS k ck _ (hT j cj).1 q2) (by rw [← zk.1 ck]; exact kz)
    rcases hd with hd | hd
    · rw [e1, hKS j cj] at hd; cases hd
    · omega
  · subst ci ck
    rw [e323] at q1; rw [(hT j cj).2] at q2
    have e1 := toS j cj y hy q1
    have e2 := toX _ (hT j cj).1 q2
    have u := up2 j cj e2
    have d := dn2 j cj e1.symm (by rw [e2]; exact hKx)
    rcases hd with hd | hd
    · rw [e1, hKS j cj] at hd; cases hd
    · omega
  · subst ci cj
    rw [e323] at q1
    exact hxy (toX y hy q1).symm
  · subst ci cj ck
    rw [e323] at q1
    exact hxy (toX y hy q1).symm
/-- the program's new row -/
def rb_ap (c : rb_Row) (n x y : Nat) (hh m w : Int32) : rb_Row := upd (upd (upd (upd (upd (upd (upd (upd (upd (upd (upd c 2 (nI (n + 1))) (299 + n) (nI x)) (323 + n) (nI y)) (347 + n) hh) (371 + n) m) (395 + n) w) (419 + n) (nI 0)) (443 + n) mI) (467 + n) (nI 0)) (491 + n) (nI 0)) (515 + n) (nI 0)
theorem xn_append {c : rb_Row} {n : Nat} (hc : c 2 = nI n) (hn : n < 24) (x y : Nat) (hh m w : Int32) : XX1_append c (nI x) hh (nI y) m w = some (nI n, rb_ap c n x y hh m w) := by
  unfold XX1_append rb_ap
  have q : (nI n < 24) := by rw [show (24 : Int32) = nI 24 from rfl, nI_ltI (by omega) (by omega)]; omega
  refine rb_bnd (nI n) (by simp (disch := omega) only [↓reduceIte, Nat.reduceEqDiff, Nat.reduceLeDiff, eq_self, not_true_eq_false, not_false_eq_true, li_0, li_1, li_2, li_3, li_4, li_5, li_6, li_7, li_8, li_9, li_10, li_11, li_12, li_13, li_14, li_15, li_16, li_17, li_18, li_19, li_20, li_21, li_22, li_23, li_24, li_25, li_26, li_27, li_28, li_29, li_30, li_31, li_32, li_33, li_34, li_35, li_36, li_37, li_38, li_39, li_40, li_41, li_42, li_47, li_50, li_60, li_63, li_75, li_100, li_103, li_131, li_159, li_184, li_187, li_215, li_243, li_256, li_271, li_296, li_299, li_323, li_347, li_371, li_395, li_419, li_443, li_467, li_491, li_515, li_539, li_545, li_551, li_557, li_560, li_563, li_569, li_575, li_581, li_587, li_593, li_599, li_605, li_629, li_653, li_677, li_725, li_773, li_794, li_795, li_796, li_1000, li_1546, li_1592, li_6184, li_9552, li_10049, li_10348, li_100000, rb_mI, nI_add, nI_mul, nI_leI, nI_ltI, nI_eq, rb_rdn, rb_wrn, rb_n0, rb_m0, rb_m1n, rb_nm1, rb_m1lt, rb_m1le, rb_0m1, rb_ltm1, rb_lem1, Nat.add_zero, Nat.zero_le, Nat.not_lt_zero, Nat.one_ne_zero, Option.bind_some, Option.bind_none, Option.some.injEq, if_true, if_false, ite_true, ite_false, Sum.elim_inl, Sum.elim_inr, hc]) ((if_pos q).trans ?_)
  have a1 : nI n + 1 = nI (n + 1) := nI_add n 1
  have b : ∀ k : Nat, nI k + nI n = nI (k + n) := fun k => nI_add k n
  rw [a1]
  refine rb_bnd _ (rb_wrn (k := 2) (by omega) (by omega)) (rb_bnd _ ((congrArg (fun i => rb_wr _ 773 i _) (b 299)).trans (rb_wrn (by omega) (by omega))) (rb_bnd _ ((congrArg (fun i => rb_wr _ 773 i _) (b 323)).trans (rb_wrn (by omega) (by omega))) (rb_bnd _ ((congrArg (fun i => rb_wr _ 773 i _) (b 347)).trans (rb_wrn (by omega) (by omega))) (rb_bnd _ ((congrArg (fun i => rb_wr _ 773 i _) (b 371)).trans (rb_wrn (by omega) (by omega))) (rb_bnd _ ((congrArg (fun i => rb_wr _ 773 i _) (b 395)).trans (rb_wrn (by omega) (by omega))) (rb_bnd _ ((congrArg (fun i => rb_wr _ 773 i _) (b 419)).trans (rb_wrn (by omega) (by omega))) (rb_bnd _ ((congrArg (fun i => rb_wr _ 773 i _) (b 443)).trans (rb_wrn (by omega) (by omega))) (rb_bnd _ ((congrArg (fun i => rb_wr _ 773 i _) (b 467)).trans (rb_wrn (by omega) (by omega))) (rb_bnd _ ((congrArg (fun i => rb_wr _ 773 i _) (b 491)).trans (rb_wrn (by omega) (by omega))) (rb_bnd _ ((congrArg (fun i => rb_wr _ 773 i _) (b 515)).trans (rb_wrn (by omega) (by omega))) rfl))))))))))
