theorem rs_stuck : rb_S_stuck rb_Inv := by
  intro n μ hn h
  have hc : rb_RB (n * 1000000) n (va_cpy (μ 5) (μ 11) 0 0 773) (μ 20) := rb_RB_congr h.1 (Nat.le_refl _) (Nat.le_refl _) (fun k hk => rb_vsame hk) (fun _ _ => rfl)
  have rh := xn_rehearse (μ 11) (μ 7) (μ 5)
  generalize va_cpy (μ 5) (μ 11) 0 0 773 = cb at hc rh
  generalize rb_frs (μ 7) = fb at rh
  have pa := yn_putAside (μ 29) (μ 20)
  have key : ∃ (o1 : Int32 × rb_Row × rb_Row × rb_Row) (o2 : Int32 × rb_Row × rb_Row × rb_Row × rb_Row × rb_Row × rb_Row × rb_Row × rb_Row × rb_Row × rb_Row), (rb_lp (ρ := rb_Row × rb_Row × rb_Row) (fun (s3 : Int32 × rb_Row × rb_Row × rb_Row) => if 60 ≤ s3.1 then some (.inr (s3.2.1, s3.2.2.1, s3.2.2.2)) else (XX0_goOneRound s3.2.1 s3.2.2.1 s3.2.2.2).bind fun t12 => (XX0_time t12.2.1).bind fun t14 => ((if 100000 ≤ t14 then some (t12.2.1, t12.2.2.1, t12.2.2.2) else (XX0_passTime t12.2.1 t12.2.2.1 t12.2.2.2).bind fun t20 => some (t20.1, t20.2.1, t20.2.2)) : Option (rb_Row × rb_Row × rb_Row)).bind fun j16 => some (.inl ((s3.1 + 1), j16.1, j16.2.1, j16.2.2))) 100000 (0, cb, μ 12, fb)).bind (fun q4 => (XX4_asleep q4.1).bind fun t22 => some (t22, q4.1, q4.2.1, q4.2.2)) = some o1 ∧ (rb_lp (ρ := Int32 × rb_Row × rb_Row × rb_Row × rb_Row × rb_Row × rb_Row × rb_Row × rb_Row × rb_Row) (fun (s3 : Int32 × Int32 × rb_Row × rb_Row × rb_Row × rb_Row × rb_Row × rb_Row × rb_Row × rb_Row × rb_Row) => if 60 ≤ s3.2.1 then some (.inr (s3.1, s3.2.2.1, s3.2.2.2.1, s3.2.2.2.2.1, s3.2.2.2.2.2.1, s3.2.2.2.2.2.2.1, s3.2.2.2.2.2.2.2.1, s3.2.2.2.2.2.2.2.2.1, s3.2.2.2.2.2.2.2.2.2.1, s3.2.2.2.2.2.2.2.2.2.2)) else (XX7_goRoundOnce s3.2.2.1 s3.2.2.2.1 s3.2.2.2.2.1 s3.2.2.2.2.2.1 s3.2.2.2.2.2.2.1 s3.2.2.2.2.2.2.2.1 s3.2.2.2.2.2.2.2.2.1 s3.2.2.2.2.2.2.2.2.2.1 s3.2.2.2.2.2.2.2.2.2.2).bind fun t12 => (rb_rd t12.2.1 796 794).bind fun v14 => ((if 100000 ≤ v14 then some (t12.2.1, t12.2.2.1, t12.2.2.2.1, t12.2.2.2.2.1, t12.2.2.2.2.2.1, t12.2.2.2.2.2.2.1, t12.2.2.2.2.2.2.2.1, t12.2.2.2.2.2.2.2.2.1) else (XX7_tickOnce t12.2.1 t12.2.2.1 t12.2.2.2.1 t12.2.2.2.2.1 t12.2.2.2.2.2.1 t12.2.2.2.2.2.2.1 t12.2.2.2.2.2.2.2.1 t12.2.2.2.2.2.2.2.2.1).bind fun t20 => some (t20.1, t20.2.1, t20.2.2.1, t20.2.2.2.1, t20.2.2.2.2.1, t20.2.2.2.2.2.1, t20.2.2.2.2.2.2.1, t20.2.2.2.2.2.2.2)) : Option (rb_Row × rb_Row × rb_Row × rb_Row × rb_Row × rb_Row × rb_Row × rb_Row)).bind fun j16 => some (.inl ((s3.1 + t12.1), (s3.2.1 + 1), j16.1, j16.2.1, j16.2.2.1, j16.2.2.2.1, j16.2.2.2.2.1, j16.2.2.2.2.2.1, j16.2.2.2.2.2.2.1, j16.2.2.2.2.2.2.2, t12.2.2.2.2.2.2.2.2.2))) 100000 (0, 0, μ 20, μ 21, μ 22, μ 19, μ 23, μ 24, μ 25, μ 26, μ 31)).bind (fun q4 => ((if 0 ≤ q4.1 then (XX7_asleepNow q4.2.1).bind fun t26 => some t26 else some 0) : Option (Int32)).bind fun j22 => (XX7_bringBack q4.2.1 (rb_ovr (μ 20) (μ 29))).bind fun t28 => some (j22, t28, q4.2.2.1, q4.2.2.2.1, q4.2.2.2.2.1, q4.2.2.2.2.2.1, q4.2.2.2.2.2.2.1, q4.2.2.2.2.2.2.2.1, q4.2.2.2.2.2.2.2.2.1, (rb_ovr (μ 20) (μ 29)), q4.2.2.2.2.2.2.2.2.2)) = some o2 ∧ (o1.1 = o2.1 ∧ rb_Inv (n + 1) (rb_ov (rb_ov μ [(11, o1.2.1), (12, o1.2.2.1), (7, o1.2.2.2)]) [(20, o2.2.1), (21, o2.2.2.1), (22, o2.2.2.2.1), (19, o2.2.2.2.2.1), (23, o2.2.2.2.2.2.1), (24, o2.2.2.2.2.2.2.1), (25, o2.2.2.2.2.2.2.2.1), (26, o2.2.2.2.2.2.2.2.2.1), (29, o2.2.2.2.2.2.2.2.2.2.1), (31, o2.2.2.2.2.2.2.2.2.2.2)])) := by
    refine rb_lpjb (τ := rb_Row × rb_Row × rb_Row) (τ' := Int32 × rb_Row × rb_Row × rb_Row × rb_Row × rb_Row × rb_Row × rb_Row × rb_Row × rb_Row) (T := fun (o1 : Int32 × rb_Row × rb_Row × rb_Row) (o2 : Int32 × rb_Row × rb_Row × rb_Row × rb_Row × rb_Row × rb_Row × rb_Row × rb_Row × rb_Row × rb_Row) => o1.1 = o2.1 ∧ rb_Inv (n + 1) (rb_ov (rb_ov μ [(11, o1.2.1), (12, o1.2.2.1), (7, o1.2.2.2)]) [(20, o2.2.1), (21, o2.2.2.1), (22, o2.2.2.2.1), (19, o2.2.2.2.2.1), (23, o2.2.2.2.2.2.1), (24, o2.2.2.2.2.2.2.1), (25, o2.2.2.2.2.2.2.2.1), (26, o2.2.2.2.2.2.2.2.2.1), (29, o2.2.2.2.2.2.2.2.2.2.1), (31, o2.2.2.2.2.2.2.2.2.2.2)])) (fun j z => (nI j, z)) (fun j z => (z.1, nI j, z.2)) 60 (fun j z z' => ∃ m, m ≤ 6 * j ∧ z'.1 = nI m ∧ rb_RB (n * 1000000 + 15384 * j) n z.1 z'.2.1 ∧ z'.2.2.2.2.1 16 = μ 19 16 ∧ z'.2.2.2.2.1 17 = μ 19 17 ∧ z'.2.2.2.2.2.2.2.2.2 = μ 31) (fun z z' => ∃ m, m ≤ 6 * 60 ∧ z'.1 = nI m ∧ rb_RB (n * 1000000 + 15384 * 60) n z.1 z'.2.1 ∧ z'.2.2.2.2.1 16 = μ 19 16 ∧ z'.2.2.2.2.1 17 = μ 19 17 ∧ z'.2.2.2.2.2.2.2.2.2 = μ 31) (cb, μ 12, fb) (0, μ 20, μ 21, μ 22, μ 19, μ 23, μ 24, μ 25, μ 26, μ 31) rfl rfl ⟨0, by omega, rfl, rb_RB_mono hc (by omega), rfl, rfl, rfl⟩ (by omega) (by omega) ?_ ?_ ?_
    · rintro j ⟨c, g, f⟩ ⟨v', a, rd, ag, mf, na, nb, nl, sv, wa⟩ hj ⟨m, z0, z2, z3, z4, z5, z6⟩
      left
      have qj : ¬ (60 : Int32) ≤ nI j := by rw [show (60 : Int32) = nI 60 from rfl, nI_leI (by omega) (by omega)]; omega
      obtain ⟨_, _, t1, t2, k, c', g', f', a', rd', ag', mf', na', nb', nl', sv', t0, rfl, rfl, t3, t4⟩ := ra_round z3 (by omega) g f rd ag mf na nb nl sv wa
      have z2' : v' = nI m := z2
      subst z2'
      obtain ⟨n2, π2, s2, s2', hR2, _⟩ := id t3
      obtain ⟨tm, htm, etm⟩ := hR2.1.2.1
      have tc : XX0_time c' = some (nI tm) := rb_bnd _ (rb_rdn (k := 0) (by omega) (by omega)) (congrArg some etm)
      have ta : rb_rd a' 796 794 = some (nI tm) := (rb_rdn (k := 794) (by omega) (by omega)).trans (congrArg some (hR2.1.1.trans etm))
      have p1 : nI m + nI k = nI (m + k) := nI_add m k
      have p2 : nI j + 1 = nI (j + 1) := nI_add j 1
      by_cases ht : 100000 ≤ tm
      · have qt : (100000 : Int32) ≤ nI tm := by rw [show (100000 : Int32) = nI 100000 from rfl, nI_leI (by omega) (by omega)]; exact ht
        exact ⟨(c', g', f'), (nI (m + k), a', rd', ag', mf', na', nb', nl', sv', wa), (if_neg qj).trans (rb_bnd _ t1 (rb_bnd _ tc (rb_bnd _ (if_pos qt) (by rw [← p2])))), (if_neg qj).trans (rb_bnd _ t2 (rb_bnd _ ta (rb_bnd _ (if_pos qt) (by rw [← p1, ← p2])))), m + k, by omega, rfl, rb_RB_mono t3 (by omega), (t4 16 (by omega) (by omega) (by omega)).trans z4, (t4 17 (by omega) (by omega) (by omega)).trans z5, z6⟩
      · have qt : ¬ (100000 : Int32) ≤ nI tm := by rw [show (100000 : Int32) = nI 100000 from rfl, nI_leI (by omega) (by omega)]; exact ht
        obtain ⟨_, _, u1, u2, c2, g2, f2, a2, rd2, ag2, mf2, na2, nb2, nl2, sv2, rfl, rfl, u3, u4, _, u5, _⟩ := ra_tick t3 (by omega) etm (by omega) g' f' rd' ag' mf' na' nb' nl' sv'
        exact ⟨(c2, g2, f2), (nI (m + k), a2, rd2, ag2, mf2, na2, nb2, nl2, sv2, wa), (if_neg qj).trans (rb_bnd _ t1 (rb_bnd _ tc (rb_bnd _ ((if_neg qt).trans (rb_bnd _ u1 rfl)) (by rw [← p2])))), (if_neg qj).trans (rb_bnd _ t2 (rb_bnd _ ta (rb_bnd _ ((if_neg qt).trans (rb_bnd _ u2 rfl)) (by rw [← p1, ← p2])))), m + k, by omega, rfl, rb_RB_mono u3 (by omega), ((u5 16 (by omega) (by omega)).trans (t4 16 (by omega) (by omega) (by omega))).trans z4, ((u5 17 (by omega) (by omega)).trans (t4 17 (by omega) (by omega) (by omega))).trans z5, z6⟩
    · rintro ⟨c, g, f⟩ ⟨v', a, rd, ag, mf, na, nb, nl, sv, wa⟩ hz
      have qj : (60 : Int32) ≤ nI 60 := by decide
      exact ⟨(c, g, f), (v', a, rd, ag, mf, na, nb, nl, sv, wa), if_pos qj, if_pos qj, hz⟩
    · rintro ⟨c, g, f⟩ ⟨v', a, rd, ag, mf, na, nb, nl, sv, wa⟩ ⟨m, z0, z2, z3, z4, z5, z6⟩
      have z2' : v' = nI m := z2
      subst z2'
      obtain ⟨n2, π2, s2, s2', hR2, _⟩ := id z3
      obtain ⟨o2, o2', p4, p5, p6⟩ := rp_asleepBits hR2
      subst p6
      have qn : (0 : Int32) ≤ nI m := nI_pos' (by omega)
      have bb := yn_bringBack a (rb_ovr (μ 20) (μ 29))
      exact ⟨(o2, c, g, f), (o2, rb_ovr (rb_ovr (μ 20) (μ 29)) a, rd, ag, mf, na, nb, nl, sv, rb_ovr (μ 20) (μ 29), wa), rb_bnd _ p4 rfl, rb_bnd _ ((if_pos qn).trans (rb_bnd _ p5 rfl)) (rb_bnd _ bb rfl), rfl, rb_fin2 h rfl rfl rfl (fun k hk => (rb_ovr_in hk).trans (rb_ovr_in hk)) z4 z5 z6 rfl rfl rfl rfl⟩
  obtain ⟨o1, o2, k1, k2, k3, k4⟩ := key
  exact ⟨o1, o2, rb_bnd _ rh k1, rb_bnd _ pa k2, k3, k4⟩
theorem rp_shows {W q n : Nat} {π : Nat → Nat} {s s' : Nat} {c a : rb_Row} (hR : rR 28 W q n π s s' c a) (hs : s' < 2000000000) {k x : Nat} (hk : k < 16) (hx : x < 28) (ec : c (3 + k) = nI x) (h4 : c (19 + x) = nI 4) (rd : rb_Row) : ∃ rd', XX7_shows rd a (nI k) = some (nI (rb_cn (rb_tr c (rq c n 4) x) n), rd') ∧ XX1_ready 5 c (nI x) 0 = some (if rb_cn (rb_tr c (rq c n 4) x) n ≤ 0 then nI 0 else nI 1) := by
  have h01 : ¬ (nI 1 = (0 : Int32)) := by decide
  have ea : a k = nI x := ((hR.2.1.1 k hk).1).trans ec
  have e3 : rb_rd a 796 (nI k) = some (nI x) := (rb_rdn (by omega) (by omega)).trans (congrArg some ea)
  have e2 : XX7_names a (nI k) 4 = some (nI 1) := by
    rcases rp_set hR (nI k) with ⟨g1, _⟩ | ⟨_, _, _, _, _, _, _, _, _, g, _⟩
    · exfalso
      have : XX6_setOf c (nI k) = some (nI x) := by
        unfold XX6_setOf
        have t := xn_thingk (c := c) hk
        rw [ec] at t
        have k5 := xn_kindOf5 (nI 4) hx t
        rw [if_pos h4] at k5
        exact rb_bnd _ k5 rfl
      rw [this] at g1
      exact absurd (Option.some.inj g1) (rb_nmm (by omega))
    · exact g
  obtain ⟨rd', b1, b2⟩ := yn_layReady hR hs rd
  have b3 := yn_shows (rd := rd') (F := rq c n 4) hR.2.2.1 hR.2.2.2.1 hs hR.1.2.2.2.2.1 hx (fun i hi _ => by
    obtain ⟨y, hy, ey, hl, _⟩ := hR.2.2.1.2.2.1 i hi
    rw [nt_n ey (by omega)]
    exact b2 y hy (by omega) hl)
  refine ⟨rd', rb_bnd _ e2 ((if_neg h01).trans (rb_bnd _ b1 (rb_bnd _ e3 (rb_bnd _ b3 rfl)))), ?_⟩
  rw [← rq_fix hR.2.2.1 h4]
  exact xn_ready5 hR hx ⟨4, by omega, h4⟩
theorem yn_wasWoken {W q n : Nat} {π : Nat → Nat} {s s' W2 q2 n2 : Nat} {π2 : Nat → Nat} {s2 s2' : Nat} {cb a0 c a sd : rb_Row} (hR0 : rR 28 W q n π s s' cb a0) (hR : rR 28 W2 q2 n2 π2 s2 s2' c a) (hb : s + W < 2000000000) (hb2 : s2 + W2 < 2000000000) (hsd : ∀ k, k < 796 → sd k = a0 k) (x : Int32) : XX7_wasWoken a sd x = some (bif (rb_fd (fun t => decide (cb (539 + t) = x) && decide (rb_sm cb t < rb_sm c t)) 6).isSome then nI 1 else nI 0) := by
  unfold XX7_wasWoken
  have sm : ∀ {W s s' : Nat} {c a : rb_Row}, rT s s' W c a → s + W < 2000000000 → ∀ t, t < 6 → ∃ m : Nat, m < 2000000000 ∧ c (575 + t) + c (581 + t) = nI m ∧ rb_sm c t = m := fun hT hb t ht => by
    obtain ⟨_, _, _, ⟨w, w1, w2⟩, v, v1, v2⟩ := hT.2.1 t ht
    refine ⟨v + w, by omega, ?_, ?_⟩
    · rw [v2, w2]; exact nI_add v w
    · unfold rb_sm
      rw [v2, w2, nI_toInt (by omega), nI_toInt (by omega)]
      omega
  refine rb_bnd _ (rb_lpg (fun t => decide (cb (539 + t) = x) && decide (rb_sm cb t < rb_sm c t)) (fun _ => rb_nz 1) 6 (by omega) (fun j hj hp => ?_) (fun j hj hp => ?_) (if_pos (show (6 : Int32) ≤ nI 6 by decide))) ?_
  · have q1 : ¬ (6 : Int32) ≤ nI j := by rw [show (6 : Int32) = nI 6 from rfl, nI_leI (by omega) (by omega)]; omega
    have p2 : nI j + 1 = nI (j + 1) := nI_add j 1
    obtain ⟨f1, _, _, _, _, f6, f7, _⟩ := hR0.2.2.2.2.1 j hj
    obtain ⟨_, _, _, _, _, g6, g7, _⟩ := hR.2.2.2.2.1 j hj
    have r0 : rb_rd sd 796 (nI (560 + 39 * j + 0)) = some (cb (539 + j)) := (rb_rdn (by omega) (by omega)).trans (congrArg some ((hsd _ (by omega)).trans f1))
    have r6 : rb_rd sd 796 (nI (560 + 39 * j + 6)) = some (cb (575 + j)) := (rb_rdn (by omega) (by omega)).trans (congrArg some ((hsd _ (by omega)).trans f6))
    have r7 : rb_rd sd 796 (nI (560 + 39 * j + 7)) = some (cb (581 + j)) := (rb_rdn (by omega) (by omega)).trans (congrArg some ((hsd _ (by omega)).trans f7))
    have o6 := xn_ofTask a (f := 6) hj (by omega)
    rw [g6] at o6
    have o7 := xn_ofTask a (f := 7) hj (by omega)
    rw [g7] at o7
    by_cases h1 : cb (539 + j) = x
    · obtain ⟨m, m1, m2, m3⟩ := sm hR0.2.2.2.2 hb j hj
      obtain ⟨m', m1', m2', m3'⟩ := sm hR.2.2.2.2 hb2 j hj
      have h2 : ¬ rb_sm cb j < rb_sm c j := fun g => by
        rw [decide_eq_true h1, decide_eq_true g] at hp; cases hp
      have q : c (575 + j) + c (581 + j) ≤ cb (575 + j) + cb (581 + j) := by
        rw [m2, m2', nI_leI (by omega) (by omega)]; omega
      exact (if_neg q1).trans (rb_bnd _ (xn_taskAt j 0) (rb_bnd _ r0 ((if_pos h1).trans (rb_bnd _ o6 (rb_bnd _ o7 (rb_bnd _ (xn_taskAt j 6) (rb_bnd _ r6 (rb_bnd _ (xn_taskAt j 7) (rb_bnd _ r7 ((if_pos q).trans (by rw [p2])))))))))))
    · exact (if_neg q1).trans (rb_bnd _ (xn_taskAt j 0) (rb_bnd _ r0 ((if_neg h1).trans (by rw [p2]))))
  · have q1 : ¬ (6 : Int32) ≤ nI j := by rw [show (6 : Int32) = nI 6 from rfl, nI_leI (by omega) (by omega)]; omega
    obtain ⟨f1, _, _, _, _, f6, f7, _⟩ := hR0.2.2.2.2.1 j hj
    obtain ⟨_, _, _, _, _, g6, g7, _⟩ := hR.2.2.2.2.1 j hj
    have r0 : rb_rd sd 796 (nI (560 + 39 * j + 0)) = some (cb (539 + j)) := (rb_rdn (by omega) (by omega)).trans (congrArg some ((hsd _ (by omega)).trans f1))
    have r6 : rb_rd sd 796 (nI (560 + 39 * j + 6)) = some (cb (575 + j)) := (rb_rdn (by omega) (by omega)).trans (congrArg some ((hsd _ (by omega)).trans f6))
    have r7 : rb_rd sd 796 (nI (560 + 39 * j + 7)) = some (cb (581 + j)) := (rb_rdn (by omega) (by omega)).trans (congrArg some ((hsd _ (by omega)).trans f7))
    have o6 := xn_ofTask a (f := 6) hj (by omega)
    rw [g6] at o6
    have o7 := xn_ofTask a (f := 7) hj (by omega)
    rw [g7] at o7
    simp only [Bool.and_eq_true, decide_eq_true_eq] at hp
    obtain ⟨m, m1, m2, m3⟩ := sm hR0.2.2.2.2 hb j hj
    obtain ⟨m', m1', m2', m3'⟩ := sm hR.2.2.2.2 hb2 j hj
    have q : ¬ c (575 + j) + c (581 + j) ≤ cb (575 + j) + cb (581 + j) := by
      have := hp.2
      rw [m2, m2', nI_leI (by omega) (by omega)]; omega
    exact (if_neg q1).trans (rb_bnd _ (xn_taskAt j 0) (rb_bnd _ r0 ((if_pos hp.1).trans (rb_bnd _ o6 (rb_bnd _ o7 (rb_bnd _ (xn_taskAt j 6) (rb_bnd _ r6 (rb_bnd _ (xn_taskAt j 7) (rb_bnd _ r7 (if_neg q))))))))))
  · cases rb_fd (fun t => decide (cb (539 + t) = x) && decide (rb_sm cb t < rb_sm c t)) 6 <;> rfl
