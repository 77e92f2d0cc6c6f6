theorem rb_cn_sub {p q : Nat → Bool} {N i : Nat} (hi : i < N) (hq : q i = true) (hp : p i = false) (h : ∀ j, j < N → p j = true → q j = true) : rb_cn p N < rb_cn q N := by
  have d : rb_cn q N = rb_cn (fun j => q j && !decide (j = i)) N + 1 := rb_cn_drop hi hq (by simp) (fun j hj hne => by simp [hne])
  have m : rb_cn p N ≤ rb_cn (fun j => q j && !decide (j = i)) N := rb_cn_mono (fun j hj e => by
    have hne : j ≠ i := fun g => by rw [g, hp] at e; cases e
    simp [h j hj e, hne])
  omega
theorem rk_step {P R T : Nat → Bool} {k : Nat → Int32} {N i : Nat} (hTP : ∀ j, j < N → T j = true → P j = true) (hRP : ∀ j, j < N → R j = true → P j = true) (hlow : ∀ j l, j < N → l < N → P j = true → R j = false → R l = true → k j < k l) (hinj : ∀ j l, j < N → l < N → P j = true → P l = true → k j = k l → j = l) (h : rb_am R k N = some i) : i < N ∧ R i = true ∧ rb_cn (fun j => T j && decide (k j < k i)) N = rb_cn (fun j => T j && !R j) N ∧ rb_cn (fun j => T j && !(P j && decide (k i < k j))) N = rb_cn (fun j => T j && !R j) N + (bif T i then 1 else 0) := by
  obtain ⟨hi, hRi⟩ := rb_am_lt h
  have hmin := rb_am_min h
  have hne : ∀ j, j < N → j ≠ i → T j = true → (T j && !(P j && decide (k i < k j))) = (T j && !R j) := by
    intro j hj hji ht
    have hP := hTP j hj ht
    cases hR : R j with
    | true =>
      have g1 := hmin j hj hR
      have g2 : k i < k j := by
        rw [Int32.lt_iff_toInt_lt]
        rw [Int32.le_iff_toInt_le] at g1
        have : (k i).toInt ≠ (k j).toInt := fun e => hji (hinj j i hj hi hP (hRP i hi hRi) (Int32.toInt_inj.mp e.symm))
        omega
      simp [ht, hP, g2]
    | false =>
      have g1 := hlow j i hj hi hP hR hRi
      have g2 : ¬ k i < k j := by
        rw [Int32.lt_iff_toInt_lt] at g1 ⊢
        omega
      simp [ht, hP, g2]
  refine ⟨hi, hRi, rb_cn_congr (fun j hj => ?_), ?_⟩
  · cases ht : T j with
    | false => simp
    | true =>
      have hP := hTP j hj ht
      cases hR : R j with
      | true =>
        have g1 := rb_nlt.mp (hmin j hj hR)
        simp [g1]
      | false =>
        have g1 := hlow j i hj hi hP hR hRi
        simp [g1]
  · cases ht : T i with
    | true =>
      refine rb_cn_drop hi ?_ (by simp [hRi]) (fun j hj hji => ?_)
      · have g2 : ¬ k i < k i := by rw [Int32.lt_iff_toInt_lt]; omega
        simp [ht, g2]
      · cases htj : T j with
        | false => simp
        | true =>
          have := hne j hj hji htj
          rw [htj] at this
          exact this
    | false =>
      refine rb_cn_congr (fun j hj => ?_)
      by_cases hji : j = i
      · simp [hji, ht]
      · cases htj : T j with
        | false => simp
        | true =>
          have := hne j hj hji htj
          rw [htj] at this
          exact this
theorem rk_uniq {T : Nat → Bool} {k : Nat → Int32} {N i l : Nat} (hinj : ∀ j l, j < N → l < N → T j = true → T l = true → k j = k l → j = l) (hi : i < N) (hl : l < N) (ti : T i = true) (tl : T l = true) (e : rb_cn (fun j => T j && decide (k j < k i)) N = rb_cn (fun j => T j && decide (k j < k l)) N) : i = l := by
  have aux : ∀ a b, a < N → b < N → T a = true → T b = true → k a < k b → rb_cn (fun j => T j && decide (k j < k a)) N < rb_cn (fun j => T j && decide (k j < k b)) N := by
    intro a b ha hb ta tb hab
    refine rb_cn_sub ha (by simp [ta, hab]) ?_ (fun j hj ej => ?_)
    · have g2 : ¬ k a < k a := by rw [Int32.lt_iff_toInt_lt]; omega
      simp [g2]
    · simp only [Bool.and_eq_true, decide_eq_true_eq] at ej ⊢
      refine ⟨ej.1, ?_⟩
      have := ej.2
      rw [Int32.lt_iff_toInt_lt] at this hab ⊢
      omega
  by_cases h : k i = k l
  · exact hinj i l hi hl ti tl h
  · exfalso
    have hne : (k i).toInt ≠ (k l).toInt := fun g => h (Int32.toInt_inj.mp g)
    rcases (show (k i).toInt < (k l).toInt ∨ (k l).toInt < (k i).toInt by omega) with g | g
    · have := aux i l hi hl ti tl (Int32.lt_iff_toInt_lt.mpr g); omega
    · have := aux l i hl hi tl ti (Int32.lt_iff_toInt_lt.mpr g); omega
theorem rk_all {P R T : Nat → Bool} {k : Nat → Int32} {N : Nat} (hTP : ∀ j, j < N → T j = true → P j = true) (h : ∀ j, j < N → R j = false) {i : Nat} (hi : i < N) (ti : T i = true) : rb_cn (fun j => T j && decide (k j < k i)) N < rb_cn (fun j => T j && !R j) N := by
  refine rb_cn_sub hi (by simp [ti, h i hi]) ?_ (fun j hj ej => ?_)
  · have g2 : ¬ k i < k i := by rw [Int32.lt_iff_toInt_lt]; omega
    simp [g2]
  · simp only [Bool.and_eq_true] at ej
    simp [ej.1, h j hj]
theorem rp_set {W q n : Nat} {π : Nat → Nat} {s s' : Nat} {c a : rb_Row} (hR : rR 28 W q n π s s' c a) (v : Int32) : (XX6_setOf c v = some mI ∧ XX7_names a v (nI 4) = some (nI 0)) ∨ (∃ k x, k < 16 ∧ x < 28 ∧ v = nI k ∧ c (3 + k) = nI x ∧ a k = nI x ∧ c (19 + x) = nI 4 ∧ XX6_setOf c v = some (nI x) ∧ XX7_names a v (nI 4) = some (nI 1) ∧ rb_rd a 796 v = some (nI x)) := by
  unfold XX6_setOf
  rcases rp_thing hR.2.1 v with ⟨e1, e2⟩ | ⟨k, x, hk', hx, ev, ec, ea, hl, hw, hz, e1, e2⟩
  · exact Or.inl ⟨rb_bnd _ (xn_kindOf5n 4 e1) rfl, yn_namesn _ e2⟩
  · subst ev
    have k5 := xn_kindOf5 (nI 4) hx e1
    have kn := yn_names (nI 4) hk' hx ea e2
    rw [(hR.2.1.2.1 x hx).1] at kn
    by_cases h4 : c (19 + x) = nI 4
    · rw [if_pos h4] at k5 kn
      exact Or.inr ⟨k, x, hk', hx, rfl, ec, ea, h4, rb_bnd _ k5 rfl, kn, (rb_rdn (by omega) (by omega)).trans (congrArg some ea)⟩
    · rw [if_neg h4] at k5 kn
      exact Or.inl ⟨rb_bnd _ k5 rfl, kn⟩
theorem xn_sleepersAhead (c : rb_Row) {t : Nat} (ht : t < 6) : XX4_sleepersAhead c (nI t) = some (nI (rb_cn (fun j => decide (c (539 + j) = c (539 + t)) && decide (c (545 + j) < c (545 + t))) 6)) := by
  unfold XX4_sleepersAhead
  have rd : ∀ col j, col ≤ 545 → j < 6 → rb_rd c 773 (nI col + nI j) = some (c (col + j)) := fun col j h1 h2 => (congrArg (rb_rd c 773) (nI_add col j)).trans (rb_rdn (by omega) (by omega))
  refine rb_bnd _ (rb_lpc0 (fun j => decide (c (539 + j) = c (539 + t)) && decide (c (545 + j) < c (545 + t))) 6 (by omega) (fun j m hj hm => ?_) (fun m hm => if_pos (show (6 : Int32) ≤ nI 6 by decide))) rfl
  have q1 : ¬ (6 : Int32) ≤ nI j := by rw [show (6 : Int32) = nI 6 from rfl, nI_leI (by omega) (by omega)]; omega
  have p2 : nI j + 1 = nI (j + 1) := nI_add j 1
  have a1 := rd 539 j (by omega) hj
  have a2 := rd 539 t (by omega) ht
  have a3 := rd 545 j (by omega) hj
  have a4 := rd 545 t (by omega) ht
  by_cases h1 : c (539 + j) = c (539 + t)
  · by_cases h2 : c (545 + t) ≤ c (545 + j)
    · have h3 : ¬ c (545 + j) < c (545 + t) := rb_nlt.mp h2
      have e : (m + bif (decide (c (539 + j) = c (539 + t)) && decide (c (545 + j) < c (545 + t))) then 1 else 0) = m := by simp [h1, h3]
      rw [e]
      exact (if_neg q1).trans (rb_bnd _ a1 (rb_bnd _ a2 (rb_bnd (nI m) ((if_pos h1).trans (rb_bnd _ a3 (rb_bnd _ a4 (if_pos h2)))) (by rw [← p2]))))
    · have h3 : c (545 + j) < c (545 + t) := Decidable.not_not.mp (fun g => h2 (rb_nlt.mpr g))
      have e : (m + bif (decide (c (539 + j) = c (539 + t)) && decide (c (545 + j) < c (545 + t))) then 1 else 0) = m + 1 := by simp [h1, h3]
      rw [e]
      exact (if_neg q1).trans (rb_bnd _ a1 (rb_bnd _ a2 (rb_bnd (nI m + 1) ((if_pos h1).trans (rb_bnd _ a3 (rb_bnd _ a4 (if_neg h2)))) (by rw [← p2, show nI m + 1 = nI (m + 1) from nI_add m 1]))))
  · have e : (m + bif (decide (c (539 + j) = c (539 + t)) && decide (c (545 + j) < c (545 + t))) then 1 else 0) = m := by simp [h1]
    rw [e]
    exact (if_neg q1).trans (rb_bnd _ a1 (rb_bnd _ a2 (rb_bnd (nI m) (if_neg h1) (by rw [← p2]))))
theorem xn_sleeping (c : rb_Row) (x w : Int32) : XX4_sleeping c x w = some (rb_oi (rb_fd (fun t => decide (c (539 + t) = x) && decide (nI (rb_cn (fun j => decide (c (539 + j) = x) && decide (c (545 + j) < c (545 + t))) 6) = w)) 6)) := by
  unfold XX4_sleeping
  refine rb_bnd _ (rb_lpg (fun t => decide (c (539 + t) = x) && decide (nI (rb_cn (fun j => decide (c (539 + j) = x) && decide (c (545 + j) < c (545 + t))) 6) = w)) nI 6 (by omega) (fun j hj hp => ?_) (fun j hj hp => ?_) (if_pos (by decide))) ?_
  · have q1 : ¬ (6 : Int32) ≤ nI j := by rw [show (6 : Int32) = nI 6 from rfl, nI_leI (by omega) (by omega)]; omega
    have p2 : nI j + 1 = nI (j + 1) := nI_add j 1
    have a1 : rb_rd c 773 (539 + nI j) = some (c (539 + j)) := (congrArg (rb_rd c 773) (nI_add 539 j)).trans (rb_rdn (by omega) (by omega))
    by_cases h1 : c (539 + j) = x
    · have a2 := xn_sleepersAhead c hj
      rw [h1] at a2
      have h2 : ¬ nI (rb_cn (fun l => decide (c (539 + l) = x) && decide (c (545 + l) < c (545 + j))) 6) = w := fun g => by simp [h1, g] at hp
      exact (if_neg q1).trans (rb_bnd _ a1 ((if_pos h1).trans (rb_bnd _ a2 ((if_neg h2).trans (by rw [p2])))))
    · exact (if_neg q1).trans (rb_bnd _ a1 ((if_neg h1).trans (by rw [p2])))
  · have q1 : ¬ (6 : Int32) ≤ nI j := by rw [show (6 : Int32) = nI 6 from rfl, nI_leI (by omega) (by omega)]; omega
    have a1 : rb_rd c 773 (539 + nI j) = some (c (539 + j)) := (congrArg (rb_rd c 773) (nI_add 539 j)).trans (rb_rdn (by omega) (by omega))
    simp only [Bool.and_eq_true, decide_eq_true_eq] at hp
    have a2 := xn_sleepersAhead c hj
    rw [hp.1] at a2
    exact (if_neg q1).trans (rb_bnd _ a1 ((if_pos hp.1).trans (rb_bnd _ a2 (if_pos hp.2))))
  · cases rb_fd (fun t => decide (c (539 + t) = x) && decide (nI (rb_cn (fun j => decide (c (539 + j) = x) && decide (c (545 + j) < c (545 + t))) 6) = w)) 6 <;> rfl
theorem rb_neg {w : Int32} (h : ¬ (0 : Int32) ≤ w) (m : Nat) (hm : m < 2 ^ 31) : ¬ nI m = w := fun e => h (by rw [← e]; exact nI_pos' hm)
theorem rb_nonneg {w : Int32} (h : (0 : Int32) ≤ w) : ∃ k, k < 2 ^ 31 ∧ w = nI k := by
  rw [Int32.le_iff_toInt_le, show (0 : Int32).toInt = 0 by decide] at h
  have hu := Int32.toInt_lt w
  refine ⟨w.toInt.toNat, by omega, ?_⟩
  apply Int32.toInt_inj.mp
  rw [nI_toInt (by omega)]
  omega
theorem rs_sleeper : rb_S_sleeper rb_Inv := by
  intro n μ v1 v2 hn h
  obtain ⟨nn, π, s, s', hR, hB⟩ := h.1
  have hsq := hR.1.2.2.2.2.2.1
  have h01 : ¬ (nI 1 = (0 : Int32)) := by decide
  have qm : ¬ (0 : Int32) ≤ mI := by decide
  rcases rp_set hR v1 with ⟨e1, e2⟩ | ⟨k, x, hk, hx, ev, ec, ea, h4, e1, e2, e3⟩
  · exact ⟨-1, -1, rb_bnd _ e1 (if_neg qm), rb_bnd _ e2 (if_pos rfl), rfl, rb_Inv_mono n μ h⟩
  · have qx : (0 : Int32) ≤ nI x := nI_pos' (by omega)
    have e4 := xn_sleeping (μ 5) (nI x) v2
    have e5 := rb_bnd (f := fun t1 => if 0 ≤ t1 then (XX4_sleeping (μ 5) t1 v2).bind fun t4 => some t4 else some (-1)) _ e1 ((if_pos qx).trans (rb_bnd _ e4 rfl))
    by_cases hv : (0 : Int32) ≤ v2
    · obtain ⟨w, hw, ew⟩ := rb_nonneg hv
      have hT := hR.2.2.2.2
      have hslp : ∀ t, t < 6 → μ 5 (539 + t) = nI x → ∃ v, 0 < v ∧ v ≤ s' ∧ μ 20 (560 + 39 * t + 1) = nI v := fun t ht e => by
        rcases hT.2.2.1 t ht with g | ⟨_, _, _, ⟨u, v, _, g1, g2, _, g3⟩, _⟩
        · rw [g] at e; exact absurd e.symm (rb_nmm (by omega))
        · exact ⟨v, g1, g2, g3⟩
      have hne : ∀ t, μ 5 (539 + t) = nI x → μ 5 (539 + t) ≠ mI := fun t e g => by rw [e] at g; exact absurd g (rb_nmm (by omega))
      have hinj : ∀ j l, j < 6 → l < 6 → decide (μ 5 (539 + j) = nI x) = true → decide (μ 5 (539 + l) = nI x) = true → μ 5 (545 + j) = μ 5 (545 + l) → j = l := fun j l hj hl ej el e => by
        simp only [decide_eq_true_eq] at ej el
        exact (hT.2.2.2.1 j l hj hl (hne j ej) (hne l el)).2 e
      -- behind
      have beh : ∀ (R : Nat → Bool) (st : Int32), (∀ t, t < 6 → (decide (μ 20 (560 + 39 * t) = nI x) && decide (st < μ 20 (560 + 39 * t + 1))) = R t) → (∀ t, t < 6 → R t = true → decide (μ 5 (539 + t) = nI x) = true) → XX7_sleeperBehind (μ 20) (nI x) st = some (rb_oi (rb_am R (fun t => μ 5 (545 + t)) 6)) := by
        intro R st hR1 hR2
        rw [yn_sleeperBehind]
        have := rb_am_pi (p := R) (P := fun i => decide (μ 20 (560 + 39 * i) = nI x) && decide (st < μ 20 (560 + 39 * i + 1))) (k := fun t => μ 5 (545 + t)) (K := fun i => μ 20 (560 + 39 * i + 1)) (n := 6) (m := 6) (π := fun i => i) (fun i hi => hi) (fun t ht _ => ⟨t, ht, rfl⟩) (fun i hi => hR1 i hi) (fun i j hi hj pi pj => by
          have ei := hR2 i hi pi
          have ej := hR2 j hj pj
          simp only [decide_eq_true_eq] at ei ej
          exact (hT.2.2.2.1 i j hi hj (hne i ei) (hne j ej)).1) (fun i j hi hj pi pj e => hinj i j hi hj (hR2 i hi pi) (hR2 j hj pj) e)
        rw [this]
        cases rb_am R (fun t => μ 5 (545 + t)) 6 <;> rfl
      have b0 := beh (fun t => decide (μ 5 (539 + t) = nI x)) 0 (fun t ht => by
        rw [(hT.1 t ht).1]
        by_cases e : μ 5 (539 + t) = nI x
        · obtain ⟨v, g1, g2, g3⟩ := hslp t ht e
          have : (0 : Int32) < nI v := by rw [show (0 : Int32) = nI 0 from rfl, nI_ltI (by omega) (by omega)]; exact g1
          rw [g3]; simp [e, this]
        · simp [e]) (fun t ht e => e)
      have b1 : ∀ e, e < 6 → μ 5 (539 + e) = nI x → XX7_sleeperBehind (μ 20) (nI x) (μ 20 (560 + 39 * e + 1)) = some (rb_oi (rb_am (fun t => decide (μ 5 (539 + t) = nI x) && decide (μ 5 (545 + e) < μ 5 (545 + t))) (fun t => μ 5 (545 + t)) 6)) := fun e he hee => beh _ _ (fun t ht => by
        rw [(hT.1 t ht).1]
        by_cases g : μ 5 (539 + t) = nI x
        · have o := (hT.2.2.2.1 e t he ht (hne e hee) (hne t g)).1
          have o' : (μ 20 (560 + 39 * e + 1) < μ 20 (560 + 39 * t + 1)) = (μ 5 (545 + e) < μ 5 (545 + t)) := by
            rw [Int32.lt_iff_toInt_lt, Int32.lt_iff_toInt_lt]; exact propext o.symm
          simp [g, o']
        · simp [g]) (fun t ht e => by simp only [Bool.and_eq_true] at e; exact e.1)
      have hTP : ∀ j, j < 6 → decide (μ 5 (539 + j) = nI x) = true → decide (μ 5 (539 + j) = nI x) = true := fun _ _ e => e
      have key : ∃ o, (rb_lp (ρ := Int32) (fun (s9 : Int32 × Int32) => if v2 ≤ s9.2 then some (.inr s9.1) else if s9.1 < 0 then some (.inr s9.1) else (rb_rd (μ 20) 796 v1).bind fun v19 => (XX7_ofTask (μ 20) s9.1 1).bind fun t21 => (XX7_sleeperBehind (μ 20) v19 t21).bind fun t23 => some (.inl (t23, (s9.2 + 1)))) 100000 (rb_oi (rb_am (fun t => decide (μ 5 (539 + t) = nI x)) (fun t => μ 5 (545 + t)) 6), 0)).bind (fun q10 => some q10) = some o ∧ o = rb_oi (rb_fd (fun t => decide (μ 5 (539 + t) = nI x) && decide (nI (rb_cn (fun j => decide (μ 5 (539 + j) = nI x) && decide (μ 5 (545 + j) < μ 5 (545 + t))) 6) = v2)) 6) := by
        subst ew
        refine rb_lpib (τ := Int32) (fun j z => (z, nI j)) 7 (fun j z => j ≤ w ∧ ∃ R : Nat → Bool, (∀ t, t < 6 → R t = true → decide (μ 5 (539 + t) = nI x) = true) ∧ (∀ i l, i < 6 → l < 6 → decide (μ 5 (539 + i) = nI x) = true → R i = false → R l = true → μ 5 (545 + i) < μ 5 (545 + l)) ∧ rb_cn (fun t => decide (μ 5 (539 + t) = nI x) && !R t) 6 = j ∧ z = rb_oi (rb_am R (fun t => μ 5 (545 + t)) 6)) (fun z => z = rb_oi (rb_fd (fun t => decide (μ 5 (539 + t) = nI x) && decide (nI (rb_cn (fun j => decide (μ 5 (539 + j) = nI x) && decide (μ 5 (545 + j) < μ 5 (545 + t))) 6) = nI w)) 6)) _ rfl ⟨by omega, fun t => decide (μ 5 (539 + t) = nI x), fun t ht e => e, (fun i l _ _ e1 e2 _ => absurd (e1.symm.trans e2) (by decide)), rb_cn_zero (fun i hi => by simp), rfl⟩ (by omega) ?_ ?_ (fun r hr => ⟨r, rfl, hr⟩)
        · rintro j z hj ⟨hjw, R, r1, r2, r3, r4⟩
          have hcl : ∀ p : Nat → Bool, rb_cn p 6 ≤ 6 := fun p => rb_cn_le p 6
          cases hf : rb_am R (fun t => μ 5 (545 + t)) 6 with
          | none =>
            rw [hf] at r4
            have hno := rb_am_none hf
            right
            have hfin : rb_oi (rb_fd (fun t => decide (μ 5 (539 + t) = nI x) && decide (nI (rb_cn (fun j => decide (μ 5 (539 + j) = nI x) && decide (μ 5 (545 + j) < μ 5 (545 + t))) 6) = nI w)) 6) = mI := by
              rw [rb_fd_all]; rfl
              intro i hi
              cases ti : decide (μ 5 (539 + i) = nI x) with
              | false => rfl
              | true =>
                have := rk_all (P := fun t => decide (μ 5 (539 + t) = nI x)) (T := fun t => decide (μ 5 (539 + t) = nI x)) (k := fun t => μ 5 (545 + t)) hTP hno hi ti
                have h6 := hcl (fun j => decide (μ 5 (539 + j) = nI x) && decide (μ 5 (545 + j) < μ 5 (545 + i)))
                have : ¬ nI (rb_cn (fun j => decide (μ 5 (539 + j) = nI x) && decide (μ 5 (545 + j) < μ 5 (545 + i))) 6) = nI w := by
                  rw [nI_eq (by omega) (by omega)]; omega
                simp [this]
            have zm : z = mI := r4
            refine ⟨mI, ?_, hfin.symm⟩
            subst zm
            by_cases q : nI w ≤ nI j
            · exact if_pos q
            · exact (if_neg q).trans (if_pos (show mI < (0 : Int32) by decide))
          | some e =>
            rw [hf] at r4
            have z4 : z = nI e := r4
            subst z4
            obtain ⟨s1, s2, s3, s4⟩ := rk_step (P := fun t => decide (μ 5 (539 + t) = nI x)) (T := fun t => decide (μ 5 (539 + t) = nI x)) (k := fun t => μ 5 (545 + t)) hTP r1 r2 hinj hf
            have pe := r1 e s1 s2
            have pe' : μ 5 (539 + e) = nI x := by simpa using pe
            rw [r3] at s3 s4
            by_cases q : w ≤ j
            · right
              have hjj : j = w := by omega
              subst hjj
              refine ⟨nI e, if_pos (by rw [nI_leI (by omega) (by omega)]; exact q), ?_⟩
              rw [rb_fd_uni s1 (by simp only [Bool.and_eq_true, decide_eq_true_eq]; exact ⟨pe', by rw [s3]⟩) (fun l hl el => ?_)]; rfl
              simp only [Bool.and_eq_true, decide_eq_true_eq] at el
              have h6 := hcl (fun j => decide (μ 5 (539 + j) = nI x) && decide (μ 5 (545 + j) < μ 5 (545 + l)))
              have h7 := (nI_eq (by omega) (by omega)).mp el.2
              exact rk_uniq (T := fun t => decide (μ 5 (539 + t) = nI x)) (k := fun t => μ 5 (545 + t)) hinj hl s1 (by simp [el.1]) pe (by rw [s3]; exact h7)
            · left
              have q1 : ¬ nI w ≤ nI j := by rw [nI_leI (by omega) (by omega)]; exact q
              have q2 : ¬ nI e < (0 : Int32) := nI_pos (by omega)
              refine ⟨_, (if_neg q1).trans ((if_neg q2).trans (rb_bnd _ e3 (rb_bnd _ (xn_ofTask (μ 20) (f := 1) s1 (by omega)) (rb_bnd _ (b1 e s1 pe') (congrArg (fun u => some (Sum.inl (_, u))) (nI_add j 1)))))), by omega, _, fun t ht g => by simp only [Bool.and_eq_true] at g; exact g.1, fun i l hi hl g1 g2 g3 => ?_, ?_, rfl⟩
              · simp only [g1, Bool.true_and, decide_eq_false_iff_not] at g2
                simp only [Bool.and_eq_true, decide_eq_true_eq] at g3
                have g4 := g3.2
                rw [Int32.lt_iff_toInt_lt] at g2 g4 ⊢
                omega
              · rw [s4, pe]; rfl
        · rintro z ⟨hjw, R, r1, r2, r3, r4⟩
          have := rb_cn_le (fun t => decide (μ 5 (539 + t) = nI x) && !R t) 6
          omega
      obtain ⟨o, k1, k2⟩ := key
      refine ⟨_, o, e5, rb_bnd _ e2 ((if_neg h01).trans ((if_pos hv).trans (rb_bnd _ e3 (rb_bnd _ b0 k1)))), k2.symm, rb_Inv_mono n μ h⟩
    · refine ⟨_, -1, e5, rb_bnd _ e2 ((if_neg h01).trans (if_neg hv)), ?_, rb_Inv_mono n μ h⟩
      rw [rb_fd_all]; rfl
      intro i hi
      have h6 := rb_cn_le (fun j => decide (μ 5 (539 + j) = nI x) && decide (μ 5 (545 + j) < μ 5 (545 + i))) 6
      have := rb_neg hv (rb_cn (fun j => decide (μ 5 (539 + j) = nI x) && decide (μ 5 (545 + j) < μ 5 (545 + i))) 6) (by omega)
      simp [this]
