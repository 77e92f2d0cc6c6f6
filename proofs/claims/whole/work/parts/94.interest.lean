theorem rb_cn_succ (p : Nat → Bool) (n : Nat) : rb_cn p (n + 1) = rb_cn p n + (bif p n then 1 else 0) := by
  cases h : p n <;> simp [rb_cn, h]
theorem rb_cn_pre {p : Nat → Bool} {e : Nat} : ∀ {n : Nat}, e ≤ n → n < 1000 → rb_cn (fun l => p l && decide (nI l < nI e)) n = rb_cn p e := by
  intro n
  induction n with
  | zero =>
    intro h _
    have : e = 0 := by omega
    subst this
    rfl
  | succ n ih =>
    intro h hn
    by_cases he : e = n + 1
    · subst he
      refine rb_cn_congr (fun l hl => ?_)
      have : nI l < nI (n + 1) := by rw [nI_ltI (by omega) (by omega)]; exact hl
      simp [this]
    · rw [rb_cn_succ, ih (by omega) (by omega)]
      have : ¬ nI n < nI e := by rw [nI_ltI (by omega) (by omega)]; omega
      simp [this]
theorem xn_ofSet {c : rb_Row} {n : Nat} (hc : c 2 = nI n) (hn : n ≤ 24) (x w : Int32) : XX1_ofSet c x w = some (rb_oi (rb_fd (fun i => decide (c (299 + i) = x) && decide (nI (rb_cn (fun j => decide (c (299 + j) = x)) i) = w)) n)) := by
  have r2 : rb_rd c 773 2 = some (nI n) := (rb_rdn (k := 2) (by omega) (by omega)).trans (congrArg some hc)
  unfold XX1_ofSet
  have key : ∃ o, ((rb_lp (ρ := (Unit) ⊕ (Int32)) (fun (s3 : Int32 × Int32) => if nI n ≤ s3.2 then some (.inr (.inl ())) else (rb_rd c 773 (299 + s3.2)).bind fun v13 => if v13 = x then if s3.1 = w then some (.inr (.inr s3.2)) else some (.inl ((s3.1 + 1), (s3.2 + 1))) else some (.inl (s3.1, (s3.2 + 1)))) 100000 (0, 0)).bind fun q4 => Sum.elim (fun (z11 : Unit) => some (-1)) (fun (w17 : Int32) => some w17) q4) = some o ∧ o = rb_oi (rb_fd (fun i => decide (c (299 + i) = x) && decide (nI (rb_cn (fun j => decide (c (299 + j) = x)) i) = w)) n) := by
    refine rb_lpib (τ := Unit) (fun j _ => (nI (rb_cn (fun l => decide (c (299 + l) = x)) j), nI j)) n (fun j _ => ∀ i, i < j → (decide (c (299 + i) = x) && decide (nI (rb_cn (fun l => decide (c (299 + l) = x)) i) = w)) = false) (fun r => Sum.elim (fun (z11 : Unit) => some (-1 : Int32)) (fun (w17 : Int32) => some w17) r = some (rb_oi (rb_fd (fun i => decide (c (299 + i) = x) && decide (nI (rb_cn (fun j => decide (c (299 + j) = x)) i) = w)) n))) () rfl (fun i hi => absurd hi (Nat.not_lt_zero i)) (by omega) ?_ ?_ (fun r hr => ⟨_, hr, rfl⟩)
    · intro j _ hj hno
      have q1 : ¬ nI n ≤ nI j := by rw [nI_leI (by omega) (by omega)]; omega
      have p2 : nI j + 1 = nI (j + 1) := nI_add j 1
      have a1 : rb_rd c 773 (299 + nI j) = some (c (299 + j)) := (congrArg (rb_rd c 773) (nI_add 299 j)).trans (rb_rdn (by omega) (by omega))
      have sc := rb_cn_succ (fun l => decide (c (299 + l) = x)) j
      by_cases h1 : c (299 + j) = x
      · by_cases h2 : nI (rb_cn (fun l => decide (c (299 + l) = x)) j) = w
        · right
          refine ⟨.inr (nI j), (if_neg q1).trans (rb_bnd _ a1 ((if_pos h1).trans (if_pos h2))), ?_⟩
          rw [rb_fd_eq hj (by simp [h1, h2]) hno]; rfl
        · left
          refine ⟨(), (if_neg q1).trans (rb_bnd _ a1 ((if_pos h1).trans ((if_neg h2).trans ?_))), fun i hi => ?_⟩
          · have : rb_cn (fun l => decide (c (299 + l) = x)) (j + 1) = rb_cn (fun l => decide (c (299 + l) = x)) j + 1 := by rw [sc]; simp [h1]
            rw [this, ← p2, show nI (rb_cn (fun l => decide (c (299 + l) = x)) j + 1) = nI (rb_cn (fun l => decide (c (299 + l) = x)) j) + 1 from (nI_add _ 1).symm]
          · by_cases g : i = j
            · subst g; simp [h2]
            · exact hno i (by omega)
      · left
        refine ⟨(), (if_neg q1).trans (rb_bnd _ a1 ((if_neg h1).trans ?_)), fun i hi => ?_⟩
        · have : rb_cn (fun l => decide (c (299 + l) = x)) (j + 1) = rb_cn (fun l => decide (c (299 + l) = x)) j := by rw [sc]; simp [h1]
          rw [this, ← p2]
        · by_cases g : i = j
          · subst g; simp [h1]
          · exact hno i (by omega)
    · intro _ hno
      refine ⟨.inl (), if_pos (show nI n ≤ nI n by rw [nI_leI (by omega) (by omega)]; exact Nat.le_refl _), ?_⟩
      rw [rb_fd_all hno]; rfl
  obtain ⟨o, k1, k2⟩ := key
  subst k2
  exact rb_bnd _ r2 k1
theorem rp_addedSet {W q n : Nat} {π : Nat → Nat} {s s' : Nat} {c a : rb_Row} (hR : rR 28 W q n π s s' c a) {x : Nat} (hx : x < 28) (R : Nat → Bool) (st : Int32) (h2 : ∀ i, i < n → (decide (c (299 + i) = nI x) && decide (st < a (296 + 11 * π i + 6))) = R i) : XX7_addedBehind a (nI x) 1 st = some (rb_oi ((rb_am R (fun i => nI i) n).map π)) := by
  have hI := hR.2.2.1
  have hn24 : n ≤ 24 := hR.1.2.2.2.2.2.2.2
  have h3 := yn_addedBehind1 a (nI x) st (nI_pos (by omega))
  refine Eq.trans h3 ?_
  rw [rb_am_pi (p := R) (k := fun i => nI i) (n := n) (π := π) (fun i hi => (hI.1 i hi).1) (fun t ht hp => ?_) (fun i hi => ?_) (fun i j hi hj pi pj => ?_) (fun i j hi hj pi pj e => (nI_eq (by omega) (by omega)).mp e)]
  · refine rI_slot hI ht (fun e => ?_)
    rw [e] at hp
    simp only [Bool.and_eq_true] at hp
    exact absurd hp.1 (by decide)
  · obtain ⟨y, hy, g1, _⟩ := hI.2.1 i hi
    have g2 : ¬ a (296 + 11 * π i) < nI 0 := by rw [(hI.1 i hi).2.1, g1]; exact nI_pos (by omega)
    rw [← h2 i hi, decide_eq_false g2, (hI.1 i hi).2.1]
    rfl
  · rw [nI_toInt (by omega), nI_toInt (by omega)]
    rcases Nat.lt_trichotomy i j with g | g | g
    · have := hI.2.2.2.2.1 i j g hj
      exact ⟨fun _ => this, fun _ => by omega⟩
    · subst g
      exact ⟨fun q => by omega, fun q => by omega⟩
    · have := hI.2.2.2.2.1 j i g hi
      exact ⟨fun q => by omega, fun q => by omega⟩
theorem rp_place {W q n : Nat} {π : Nat → Nat} {s s' : Nat} {c a : rb_Row} (hR : rR 28 W q n π s s' c a) (hs : s' < 2000000000) {x e : Nat} (hx : x < 28) (he : e < n) (hex : c (299 + e) = nI x) : ∃ d, XX1_placeOf c (nI e) = some d ∧ XX7_placeOf a (nI (π e)) = some d := by
  have hn24 : n ≤ 24 := hR.1.2.2.2.2.2.2.2
  have hI := hR.2.2.1
  have hL := hR.2.2.2.1
  have hπ := (hI.1 e he).1
  have r443 : rb_rd c 773 (443 + nI e) = some (c (443 + e)) := (congrArg (rb_rd c 773) (nI_add 443 e)).trans (rb_rdn (by omega) (by omega))
  have o7 := xn_ofInterest a (f := 7) hπ (by omega)
  have o0 := xn_ofInterest a (f := 0) hπ (by omega)
  rw [Nat.add_zero, (hI.1 e he).2.1, hex] at o0
  unfold XX1_placeOf XX7_placeOf
  rcases hL.2.1 e he with ⟨g1, g2, _⟩ | ⟨u, v, hu, v0, v1, g1, g2, _⟩
  · have q1 : ¬ (0 : Int32) ≤ c (443 + e) := by rw [g1]; decide
    exact ⟨-1, rb_bnd _ r443 (if_neg q1), rb_bnd _ o7 (if_pos g2)⟩
  · have hss := hR.1.2.2.2.2.1
    have q1 : (0 : Int32) ≤ c (443 + e) := by rw [g1]; exact nI_pos' (by omega)
    have q2 : ¬ a (296 + 11 * π e + 7) = (0 : Int32) := by rw [g2, show (0 : Int32) = nI 0 from rfl, nI_eq (by omega) (by omega)]; omega
    have ah := xn_aheadOf hR he hex 0 (by omega)
    have em : c (443 + e) ≠ mI := by rw [g1]; exact rb_nmm (by omega)
    have cp : rb_cn (fun t => decide (a (296 + 11 * t) = nI x) && (!decide (a (296 + 11 * t + 7) ≤ nI 0) && decide (a (296 + 11 * t + 7) < a (296 + 11 * π e + 7)))) 24 = rb_cn (fun j => (rb_lsd c x j && (decide (0 = 0) || rb_tl c n j)) && decide (c (443 + j) < c (443 + e))) n := by
      rw [rb_cn_pi (π := π) (n := n) (fun i hi => (hI.1 i hi).1) (rI_inj hI) (fun t ht ht2 => ?_)]
      · refine rb_cn_congr (fun i hi => ?_)
        have l := rL_lst hL hs hss hi
        rw [(hI.1 i hi).2.1]
        unfold rb_lsd
        by_cases h1 : c (299 + i) = nI x
        · by_cases h2 : c (443 + i) < nI 0
          · simp [l, h2]
          · have im : c (443 + i) ≠ mI := fun g => h2 (by rw [g]; decide)
            have o := (hL.2.2 i e hi he im em).1
            have o' : (a (296 + 11 * π i + 7) < a (296 + 11 * π e + 7)) = (c (443 + i) < c (443 + e)) := by
              rw [Int32.lt_iff_toInt_lt, Int32.lt_iff_toInt_lt]; exact propext o.symm
            simp [h1, l, h2, o']
        · simp [h1]
      · refine rI_slot hI ht (fun g => ?_)
        rw [g] at ht2
        simp only [Bool.and_eq_true, decide_eq_true_eq] at ht2
        exact absurd ht2.1.symm (rb_nmm (by omega))
    rw [← cp] at ah
    refine ⟨nI (rb_cn (fun t => decide (a (296 + 11 * t) = nI x) && (!decide (a (296 + 11 * t + 7) ≤ nI 0) && decide (a (296 + 11 * t + 7) < a (296 + 11 * π e + 7)))) 24), rb_bnd _ r443 ((if_pos q1).trans (rb_bnd _ ah rfl)), rb_bnd _ o7 ((if_neg q2).trans (rb_bnd _ (rb_lpc0 (fun t => decide (a (296 + 11 * t) = nI x) && (!decide (a (296 + 11 * t + 7) ≤ nI 0) && decide (a (296 + 11 * t + 7) < a (296 + 11 * π e + 7)))) 24 (by omega) (fun j m hj hm => ?_) (fun m hm => if_pos (show (24 : Int32) ≤ nI 24 by decide))) rfl))⟩
    have w1 : ¬ (24 : Int32) ≤ nI j := by rw [show (24 : Int32) = nI 24 from rfl, nI_leI (by omega) (by omega)]; omega
    have p2 : nI j + 1 = nI (j + 1) := nI_add j 1
    have j0 := xn_ofInterest a (f := 0) hj (by omega)
    rw [Nat.add_zero] at j0
    have j7 := xn_ofInterest a (f := 7) hj (by omega)
    by_cases h0 : a (296 + 11 * j) = nI x
    · by_cases h7 : a (296 + 11 * j + 7) ≤ nI 0
      · have ee : (m + bif (decide (a (296 + 11 * j) = nI x) && (!decide (a (296 + 11 * j + 7) ≤ nI 0) && decide (a (296 + 11 * j + 7) < a (296 + 11 * π e + 7)))) then 1 else 0) = m := by simp [h7]
        rw [ee]
        exact (if_neg w1).trans (rb_bnd _ j0 (rb_bnd _ o0 (rb_bnd (nI m) ((if_pos h0).trans (rb_bnd _ j7 (if_pos h7))) (by rw [← p2]))))
      · by_cases h8 : a (296 + 11 * π e + 7) ≤ a (296 + 11 * j + 7)
        · have h8' := rb_nlt.mp h8
          have ee : (m + bif (decide (a (296 + 11 * j) = nI x) && (!decide (a (296 + 11 * j + 7) ≤ nI 0) && decide (a (296 + 11 * j + 7) < a (296 + 11 * π e + 7)))) then 1 else 0) = m := by simp [h8']
          rw [ee]
          exact (if_neg w1).trans (rb_bnd _ j0 (rb_bnd _ o0 (rb_bnd (nI m) ((if_pos h0).trans (rb_bnd _ j7 ((if_neg h7).trans (rb_bnd _ j7 (rb_bnd _ o7 (if_pos h8)))))) (by rw [← p2]))))
        · have h8' : a (296 + 11 * j + 7) < a (296 + 11 * π e + 7) := Decidable.not_not.mp (fun g => h8 (rb_nlt.mpr g))
          have ee : (m + bif (decide (a (296 + 11 * j) = nI x) && (!decide (a (296 + 11 * j + 7) ≤ nI 0) && decide (a (296 + 11 * j + 7) < a (296 + 11 * π e + 7)))) then 1 else 0) = m + 1 := by simp [h0, h7, h8']
          rw [ee]
          exact (if_neg w1).trans (rb_bnd _ j0 (rb_bnd _ o0 (rb_bnd (nI m + 1) ((if_pos h0).trans (rb_bnd _ j7 ((if_neg h7).trans (rb_bnd _ j7 (rb_bnd _ o7 (if_neg h8)))))) (by rw [← p2, show nI m + 1 = nI (m + 1) from nI_add m 1]))))
    · have ee : (m + bif (decide (a (296 + 11 * j) = nI x) && (!decide (a (296 + 11 * j + 7) ≤ nI 0) && decide (a (296 + 11 * j + 7) < a (296 + 11 * π e + 7)))) then 1 else 0) = m := by simp [h0]
      rw [ee]
      exact (if_neg w1).trans (rb_bnd _ j0 (rb_bnd _ o0 (rb_bnd (nI m) (if_neg h0) (by rw [← p2]))))
