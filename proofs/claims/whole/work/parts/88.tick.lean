theorem rs_step : rb_S_step rb_Inv := by
  intro n μ v1 hn h
  obtain ⟨mf1, wa1, hk, hm⟩ := rb_Kex h
  obtain ⟨nn, π, s, s', hR, hB⟩ := h.1
  have h01 : ¬ (nI 1 = (0 : Int32)) := by decide
  have q00 : nI 0 = (0 : Int32) := rfl
  rcases rp_task v1 with ⟨t, ht, ev, e1, e2⟩ | ⟨e1, e2⟩
  · subst ev
    have asl := xn_isAsleep (μ 20) ht
    rw [(hR.2.2.2.2.1 t ht).1] at asl
    have r1 : rb_rd (μ 5) 773 (539 + nI t) = some (μ 5 (539 + t)) := (congrArg (rb_rd (μ 5) 773) (nI_add 539 t)).trans (rb_rdn (by omega) (by omega))
    have r2 : rb_rd (μ 5) 773 (599 + nI t) = some (μ 5 (599 + t)) := (congrArg (rb_rd (μ 5) 773) (nI_add 599 t)).trans (rb_rdn (by omega) (by omega))
    rcases hR.2.2.2.2.2.2.1 t ht with hs | ⟨⟨x, hx, hs, _⟩, _⟩
    · have em : μ 5 (539 + t) < nI 0 := by rw [hs]; decide
      rw [if_pos em] at asl
      rcases rp_canGo hR ht with ⟨l, l1, l4, _, hl, _, cs⟩ | ⟨hno, _, cs⟩
      · have q0 : ¬ μ 5 (599 + t) = (0 : Int32) := by rw [hl, show (0 : Int32) = nI 0 from rfl, nI_eq (by omega) (by omega)]; omega
        obtain ⟨ans, c', g', f', a', rd', ag', mf', na', nb', nl', sv', s1, s2, s3, s4, _⟩ := ra_step h.1 (by omega) ht l1 l4 hl (μ 6) (μ 1) (μ 21) (μ 22) mf1 (μ 23) (μ 24) (μ 25) (μ 26) wa1
        obtain ⟨pr', pf', e4, hI⟩ := rb_fin1 h (rb_RB_congr s3 (by omega) (by omega) (fun _ _ => rfl) (fun _ _ => rfl)) hk
        exact ⟨(ans, c', g', f', pr', pf'), (ans, a', rd', ag', mf', na', nb', nl', sv', wa1), rb_bnd _ e1 ((if_neg h01).trans (rb_bnd _ r1 ((if_pos em).trans (rb_bnd _ r2 ((if_neg q0).trans (rb_bnd _ s1 (rb_bnd _ e4 rfl))))))), rb_bnd _ e2 ((if_neg h01).trans (rb_bnd _ asl ((if_pos q00).trans (rb_bnd _ e2 ((if_neg h01).trans (rb_bnd _ cs ((if_neg h01).trans (rb_bnd _ hk (rb_bnd _ s2 rfl))))))))), rfl, hI _ rfl rfl rfl rfl (s4 16 (by omega) (by omega)) (s4 17 (by omega) (by omega)) rfl rfl rfl rfl rfl⟩
      · have q0 : μ 5 (599 + t) = (0 : Int32) := by
          rcases hno with g | g
          · exact absurd hs g
          · exact g
        exact ⟨(-4, μ 5, μ 6, μ 1, μ 14, μ 13), (-4, μ 20, μ 21, μ 22, μ 19, μ 23, μ 24, μ 25, μ 26, μ 31), rb_bnd _ e1 ((if_neg h01).trans (rb_bnd _ r1 ((if_pos em).trans (rb_bnd _ r2 (if_pos q0))))), rb_bnd _ e2 ((if_neg h01).trans (rb_bnd _ asl ((if_pos q00).trans (rb_bnd _ e2 ((if_neg h01).trans (rb_bnd _ cs (if_pos rfl))))))), rfl, rb_fin0 h rfl rfl rfl rfl rfl rfl rfl rfl rfl rfl rfl⟩
    · have em : ¬ μ 5 (539 + t) < nI 0 := by rw [hs]; exact nI_pos (by omega)
      rw [if_neg em] at asl
      exact ⟨(-3, μ 5, μ 6, μ 1, μ 14, μ 13), (-3, μ 20, μ 21, μ 22, μ 19, μ 23, μ 24, μ 25, μ 26, μ 31), rb_bnd _ e1 ((if_neg h01).trans (rb_bnd _ r1 (if_neg em))), rb_bnd _ e2 ((if_neg h01).trans (rb_bnd _ asl (if_neg h01))), rfl, rb_fin0 h rfl rfl rfl rfl rfl rfl rfl rfl rfl rfl rfl⟩
  · exact ⟨(-4, μ 5, μ 6, μ 1, μ 14, μ 13), (-4, μ 20, μ 21, μ 22, μ 19, μ 23, μ 24, μ 25, μ 26, μ 31), rb_bnd _ e1 (if_pos rfl), rb_bnd _ e2 ((if_pos rfl).trans (rb_bnd _ e2 (if_pos rfl))), rfl, rb_fin0 h rfl rfl rfl rfl rfl rfl rfl rfl rfl rfl rfl⟩
theorem rs_tick : rb_S_tick rb_Inv := by
  intro n μ v1 hn h
  obtain ⟨mf1, wa1, hk, hm⟩ := rb_Kex h
  obtain ⟨nn, π, s, s', hR, hB⟩ := id h.1
  have h01 : ¬ (nI 1 = (0 : Int32)) := by decide
  obtain ⟨t, ht, et⟩ := hR.1.2.1
  have r0 : rb_rd (μ 5) 773 0 = some (nI t) := (rb_rdn (k := 0) (by omega) (by omega)).trans (congrArg some et)
  have r7 : rb_rd (μ 20) 796 794 = some (nI t) := (rb_rdn (k := 794) (by omega) (by omega)).trans (congrArg some (hR.1.1.trans et))
  rcases rp_between v1 (l := 1) (m := 100) (by omega) (by omega) with ⟨w, hw1, hw2, ew, b1, b2⟩ | ⟨b1, b2⟩
  · subst ew
    by_cases hq : t + w ≤ 100000
    · have q1 : nI t + nI w ≤ (100000 : Int32) := by rw [show (100000 : Int32) = nI 100000 from rfl, nI_add, nI_leI (by omega) (by omega)]; exact hq
      have key : ∃ (o1 : Int32 × rb_Row × rb_Row × rb_Row × rb_Row × rb_Row) (o2 : Int32 × rb_Row × rb_Row × rb_Row × rb_Row × rb_Row × rb_Row × rb_Row × rb_Row × rb_Row), (rb_lp (ρ := rb_Row × rb_Row × rb_Row) (fun (s7 : Int32 × rb_Row × rb_Row × rb_Row) => if nI w ≤ s7.1 then some (.inr (s7.2.1, s7.2.2.1, s7.2.2.2)) else (XX0_passTime s7.2.1 s7.2.2.1 s7.2.2.2).bind fun t16 => some (.inl ((s7.1 + 1), t16.1, t16.2.1, t16.2.2))) 100000 (0, μ 5, μ 6, μ 1)).bind (fun q8 => (rb_rd q8.1 773 0).bind fun v18 => (XX6_keptFrom (μ 14) (μ 13) q8.1 0 v18).bind fun t20 => some (t20.1, q8.1, q8.2.1, q8.2.2, t20.2.1, t20.2.2)) = some o1 ∧ (rb_lp (ρ := rb_Row × rb_Row × rb_Row × rb_Row × rb_Row × rb_Row × rb_Row × rb_Row) (fun (s9 : Int32 × rb_Row × rb_Row × rb_Row × rb_Row × rb_Row × rb_Row × rb_Row × rb_Row) => if nI w ≤ s9.1 then some (.inr (s9.2.1, s9.2.2.1, s9.2.2.2.1, s9.2.2.2.2.1, s9.2.2.2.2.2.1, s9.2.2.2.2.2.2.1, s9.2.2.2.2.2.2.2.1, s9.2.2.2.2.2.2.2.2)) else (XX7_tickOnce s9.2.1 s9.2.2.1 s9.2.2.2.1 s9.2.2.2.2.1 s9.2.2.2.2.2.1 s9.2.2.2.2.2.2.1 s9.2.2.2.2.2.2.2.1 s9.2.2.2.2.2.2.2.2).bind fun t18 => some (.inl ((s9.1 + 1), t18.1, t18.2.1, t18.2.2.1, t18.2.2.2.1, t18.2.2.2.2.1, t18.2.2.2.2.2.1, t18.2.2.2.2.2.2.1, t18.2.2.2.2.2.2.2))) 100000 (0, μ 20, μ 21, μ 22, mf1, μ 23, μ 24, μ 25, μ 26)).bind (fun q10 => (rb_rd q10.1 796 794).bind fun v20 => some (v20, q10.1, q10.2.1, q10.2.2.1, q10.2.2.2.1, q10.2.2.2.2.1, q10.2.2.2.2.2.1, q10.2.2.2.2.2.2.1, q10.2.2.2.2.2.2.2, wa1)) = some o2 ∧ (o1.1 = o2.1 ∧ rb_Inv (n + 1) (rb_ov (rb_ov μ [(5, o1.2.1), (6, o1.2.2.1), (1, o1.2.2.2.1), (14, o1.2.2.2.2.1), (13, o1.2.2.2.2.2)]) [(20, o2.2.1), (21, o2.2.2.1), (22, o2.2.2.2.1), (19, o2.2.2.2.2.1), (23, o2.2.2.2.2.2.1), (24, o2.2.2.2.2.2.2.1), (25, o2.2.2.2.2.2.2.2.1), (26, o2.2.2.2.2.2.2.2.2.1), (31, o2.2.2.2.2.2.2.2.2.2)])) := by
        refine rb_lpjb (τ := rb_Row × rb_Row × rb_Row) (τ' := rb_Row × rb_Row × rb_Row × rb_Row × rb_Row × rb_Row × rb_Row × rb_Row) (T := fun (o1 : Int32 × rb_Row × rb_Row × rb_Row × rb_Row × rb_Row) (o2 : Int32 × rb_Row × rb_Row × rb_Row × rb_Row × rb_Row × rb_Row × rb_Row × rb_Row × rb_Row) => o1.1 = o2.1 ∧ rb_Inv (n + 1) (rb_ov (rb_ov μ [(5, o1.2.1), (6, o1.2.2.1), (1, o1.2.2.2.1), (14, o1.2.2.2.2.1), (13, o1.2.2.2.2.2)]) [(20, o2.2.1), (21, o2.2.2.1), (22, o2.2.2.2.1), (19, o2.2.2.2.2.1), (23, o2.2.2.2.2.2.1), (24, o2.2.2.2.2.2.2.1), (25, o2.2.2.2.2.2.2.2.1), (26, o2.2.2.2.2.2.2.2.2.1), (31, o2.2.2.2.2.2.2.2.2.2)])) (fun j z => (nI j, z)) (fun j z => (nI j, z)) w (fun j z z' => rb_RB (n * 1000000 + 2184 * j) n z.1 z'.1 ∧ z.1 0 = nI (t + j) ∧ z'.2.2.2.1 16 = mf1 16 ∧ z'.2.2.2.1 17 = mf1 17) (fun z z' => rb_RB (n * 1000000 + 2184 * w) n z.1 z'.1 ∧ z.1 0 = nI (t + w) ∧ z'.2.2.2.1 16 = mf1 16 ∧ z'.2.2.2.1 17 = mf1 17) (μ 5, μ 6, μ 1) (μ 20, μ 21, μ 22, mf1, μ 23, μ 24, μ 25, μ 26) rfl rfl ⟨rb_RB_mono h.1 (by omega), et, rfl, rfl⟩ (by omega) (by omega) ?_ ?_ ?_
        · rintro j ⟨c, g, f⟩ ⟨a, rd, ag, mf, na, nb, nl, sv⟩ hj ⟨z1, z2, z3, z4⟩
          left
          have qj : ¬ nI w ≤ nI j := by rw [nI_leI (by omega) (by omega)]; omega
          obtain ⟨_, _, t1, t2, c', g', f', a', rd', ag', mf', na', nb', nl', sv', rfl, rfl, t3, t4, _, t5, _⟩ := ra_tick z1 (by omega) z2 (by omega) g f rd ag mf na nb nl sv
          exact ⟨(c', g', f'), (a', rd', ag', mf', na', nb', nl', sv'), (if_neg qj).trans (rb_bnd _ t1 (congrArg (fun u => some (Sum.inl (u, c', g', f'))) (nI_add j 1))), (if_neg qj).trans (rb_bnd _ t2 (congrArg (fun u => some (Sum.inl (u, a', rd', ag', mf', na', nb', nl', sv'))) (nI_add j 1))), rb_RB_mono t3 (by omega), t4, (t5 16 (by omega) (by omega)).trans z3, (t5 17 (by omega) (by omega)).trans z4⟩
        · rintro ⟨c, g, f⟩ ⟨a, rd, ag, mf, na, nb, nl, sv⟩ hz
          have qj : nI w ≤ nI w := by rw [nI_leI (by omega) (by omega)]; exact Nat.le_refl _
          exact ⟨(c, g, f), (a, rd, ag, mf, na, nb, nl, sv), if_pos qj, if_pos qj, hz⟩
        · rintro ⟨c, g, f⟩ ⟨a, rd, ag, mf, na, nb, nl, sv⟩ ⟨z1, z2, z3, z4⟩
          have z1' : rb_RB (n * 1000000 + 2184 * w) n c a := z1
          have z2' : c 0 = nI (t + w) := z2
          obtain ⟨n2, π2, s2, s2', hR2, _⟩ := id z1'
          have x0 : rb_rd c 773 0 = some (nI (t + w)) := (rb_rdn (k := 0) (by omega) (by omega)).trans (congrArg some z2')
          have x7 : rb_rd a 796 794 = some (nI (t + w)) := (rb_rdn (k := 794) (by omega) (by omega)).trans (congrArg some (hR2.1.1.trans z2'))
          obtain ⟨pr', pf', e4, hI⟩ := rb_kf h hk (x := nI 0) (ans := nI (t + w)) (did := True) (mf' := mf) ⟨fun _ => nI_pos (by omega), fun _ => trivial⟩ (Or.inl ⟨trivial, rb_RB_congr z1' (by omega) (by omega) (fun _ _ => rfl) (fun _ _ => rfl), z3, z4, rfl⟩)
          exact ⟨(nI (t + w), c, g, f, pr', pf'), (nI (t + w), a, rd, ag, mf, na, nb, nl, sv, wa1), rb_bnd _ x0 (rb_bnd _ e4 rfl), rb_bnd _ x7 rfl, rfl, hI _ rfl rfl rfl rfl rfl rfl rfl rfl rfl rfl⟩
      obtain ⟨o1, o2, k1, k2, k3, k4⟩ := key
      exact ⟨o1, o2, rb_bnd _ b1 ((if_neg h01).trans (rb_bnd _ r0 ((if_pos q1).trans k1))), rb_bnd _ b2 ((if_neg h01).trans (rb_bnd _ r7 ((if_pos q1).trans (rb_bnd _ hk k2)))), k3, k4⟩
    · have q1 : ¬ nI t + nI w ≤ (100000 : Int32) := by rw [show (100000 : Int32) = nI 100000 from rfl, nI_add, nI_leI (by omega) (by omega)]; exact hq
      exact ⟨(-1, μ 5, μ 6, μ 1, μ 14, μ 13), (-1, μ 20, μ 21, μ 22, μ 19, μ 23, μ 24, μ 25, μ 26, μ 31), rb_bnd _ b1 ((if_neg h01).trans (rb_bnd _ r0 (if_neg q1))), rb_bnd _ b2 ((if_neg h01).trans (rb_bnd _ r7 (if_neg q1))), rfl, rb_fin0 h rfl rfl rfl rfl rfl rfl rfl rfl rfl rfl rfl⟩
  · exact ⟨(-1, μ 5, μ 6, μ 1, μ 14, μ 13), (-1, μ 20, μ 21, μ 22, μ 19, μ 23, μ 24, μ 25, μ 26, μ 31), rb_bnd _ b1 (if_pos rfl), rb_bnd _ b2 (if_pos rfl), rfl, rb_fin0 h rfl rfl rfl rfl rfl rfl rfl rfl rfl rfl rfl⟩
theorem rs_rounds : rb_S_rounds rb_Inv := by
  intro n μ v1 hn h
  obtain ⟨mf1, wa1, hk, hm⟩ := rb_Kex h
  have h01 : ¬ (nI 1 = (0 : Int32)) := by decide
  rcases rp_between v1 (l := 1) (m := 50) (by omega) (by omega) with ⟨w, hw1, hw2, ew, b1, b2⟩ | ⟨b1, b2⟩
  · subst ew
    have key : ∃ (o1 : Int32 × rb_Row × rb_Row × rb_Row × rb_Row × rb_Row) (o2 : Int32 × rb_Row × rb_Row × rb_Row × rb_Row × rb_Row × rb_Row × rb_Row × rb_Row × rb_Row), (rb_lp (ρ := Int32 × rb_Row × rb_Row × rb_Row) (fun (s4 : Int32 × Int32 × rb_Row × rb_Row × rb_Row) => if nI w ≤ s4.2.1 then some (.inr (s4.1, s4.2.2.1, s4.2.2.2.1, s4.2.2.2.2)) else (XX0_goOneRound s4.2.2.1 s4.2.2.2.1 s4.2.2.2.2).bind fun t13 => some (.inl ((s4.1 + t13.1), (s4.2.1 + 1), t13.2.1, t13.2.2.1, t13.2.2.2))) 100000 (0, 0, μ 5, μ 6, μ 1)).bind (fun q5 => (XX6_keptFrom (μ 14) (μ 13) q5.2.1 0 q5.1).bind fun t15 => some (t15.1, q5.2.1, q5.2.2.1, q5.2.2.2, t15.2.1, t15.2.2)) = some o1 ∧ (rb_lp (ρ := Int32 × rb_Row × rb_Row × rb_Row × rb_Row × rb_Row × rb_Row × rb_Row × rb_Row × rb_Row) (fun (s6 : Int32 × Int32 × rb_Row × rb_Row × rb_Row × rb_Row × rb_Row × rb_Row × rb_Row × rb_Row × rb_Row) => if nI w ≤ s6.2.1 then some (.inr (s6.1, s6.2.2.1, s6.2.2.2.1, s6.2.2.2.2.1, s6.2.2.2.2.2.1, s6.2.2.2.2.2.2.1, s6.2.2.2.2.2.2.2.1, s6.2.2.2.2.2.2.2.2.1, s6.2.2.2.2.2.2.2.2.2.1, s6.2.2.2.2.2.2.2.2.2.2)) else (XX7_goRoundOnce s6.2.2.1 s6.2.2.2.1 s6.2.2.2.2.1 s6.2.2.2.2.2.1 s6.2.2.2.2.2.2.1 s6.2.2.2.2.2.2.2.1 s6.2.2.2.2.2.2.2.2.1 s6.2.2.2.2.2.2.2.2.2.1 s6.2.2.2.2.2.2.2.2.2.2).bind fun t15 => some (.inl ((s6.1 + t15.1), (s6.2.1 + 1), t15.2.1, t15.2.2.1, t15.2.2.2.1, t15.2.2.2.2.1, t15.2.2.2.2.2.1, t15.2.2.2.2.2.2.1, t15.2.2.2.2.2.2.2.1, t15.2.2.2.2.2.2.2.2.1, t15.2.2.2.2.2.2.2.2.2))) 100000 (0, 0, μ 20, μ 21, μ 22, mf1, μ 23, μ 24, μ 25, μ 26, wa1)).bind (fun q7 => some (q7.1, q7.2.1, q7.2.2.1, q7.2.2.2.1, q7.2.2.2.2.1, q7.2.2.2.2.2.1, q7.2.2.2.2.2.2.1, q7.2.2.2.2.2.2.2.1, q7.2.2.2.2.2.2.2.2.1, q7.2.2.2.2.2.2.2.2.2)) = some o2 ∧ (o1.1 = o2.1 ∧ rb_Inv (n + 1) (rb_ov (rb_ov μ [(5, o1.2.1), (6, o1.2.2.1), (1, o1.2.2.2.1), (14, o1.2.2.2.2.1), (13, o1.2.2.2.2.2)]) [(20, o2.2.1), (21, o2.2.2.1), (22, o2.2.2.2.1), (19, o2.2.2.2.2.1), (23, o2.2.2.2.2.2.1), (24, o2.2.2.2.2.2.2.1), (25, o2.2.2.2.2.2.2.2.1), (26, o2.2.2.2.2.2.2.2.2.1), (31, o2.2.2.2.2.2.2.2.2.2)])) := by
      refine rb_lpjb (τ := Int32 × rb_Row × rb_Row × rb_Row) (τ' := Int32 × rb_Row × rb_Row × rb_Row × rb_Row × rb_Row × rb_Row × rb_Row × rb_Row × rb_Row) (T := fun (o1 : Int32 × rb_Row × rb_Row × rb_Row × rb_Row × rb_Row) (o2 : Int32 × rb_Row × rb_Row × rb_Row × rb_Row × rb_Row × rb_Row × rb_Row × rb_Row × rb_Row) => o1.1 = o2.1 ∧ rb_Inv (n + 1) (rb_ov (rb_ov μ [(5, o1.2.1), (6, o1.2.2.1), (1, o1.2.2.2.1), (14, o1.2.2.2.2.1), (13, o1.2.2.2.2.2)]) [(20, o2.2.1), (21, o2.2.2.1), (22, o2.2.2.2.1), (19, o2.2.2.2.2.1), (23, o2.2.2.2.2.2.1), (24, o2.2.2.2.2.2.2.1), (25, o2.2.2.2.2.2.2.2.1), (26, o2.2.2.2.2.2.2.2.2.1), (31, o2.2.2.2.2.2.2.2.2.2)])) (fun j z => (z.1, nI j, z.2)) (fun j z => (z.1, nI j, z.2)) w (fun j z z' => ∃ m, m ≤ 6 * j ∧ z.1 = nI m ∧ z'.1 = nI m ∧ rb_RB (n * 1000000 + 13200 * j) n z.2.1 z'.2.1 ∧ z'.2.2.2.2.1 16 = mf1 16 ∧ z'.2.2.2.2.1 17 = mf1 17 ∧ z'.2.2.2.2.2.2.2.2.2 = wa1) (fun z z' => ∃ m, m ≤ 6 * w ∧ z.1 = nI m ∧ z'.1 = nI m ∧ rb_RB (n * 1000000 + 13200 * w) n z.2.1 z'.2.1 ∧ z'.2.2.2.2.1 16 = mf1 16 ∧ z'.2.2.2.2.1 17 = mf1 17 ∧ z'.2.2.2.2.2.2.2.2.2 = wa1) (0, μ 5, μ 6, μ 1) (0, μ 20, μ 21, μ 22, mf1, μ 23, μ 24, μ 25, μ 26, wa1) rfl rfl ⟨0, by omega, rfl, rfl, rb_RB_mono h.1 (by omega), rfl, rfl, rfl⟩ (by omega) (by omega) ?_ ?_ ?_
      · rintro j ⟨v, c, g, f⟩ ⟨v', a, rd, ag, mf, na, nb, nl, sv, wa⟩ hj ⟨m, z0, z1, z2, z3, z4, z5, z6⟩
        left
        have qj : ¬ nI w ≤ nI j := by rw [nI_leI (by omega) (by omega)]; omega
        obtain ⟨_, _, t1, t2, k, c', g', f', a', rd', ag', mf', na', nb', nl', sv', t0, rfl, rfl, t3, t4⟩ := ra_round z3 (by omega) g f rd ag mf na nb nl sv wa
        have z1' : v = nI m := z1
        have z2' : v' = nI m := z2
        subst z1' z2'
        have p1 : nI m + nI k = nI (m + k) := nI_add m k
        have p2 : nI j + 1 = nI (j + 1) := nI_add j 1
        exact ⟨(nI (m + k), c', g', f'), (nI (m + k), a', rd', ag', mf', na', nb', nl', sv', wa), (if_neg qj).trans (rb_bnd _ t1 (by rw [← p1, ← p2])), (if_neg qj).trans (rb_bnd _ t2 (by rw [← p1, ← p2])), m + k, by omega, rfl, rfl, rb_RB_mono t3 (by omega), (t4 16 (by omega) (by omega) (by omega)).trans z4, (t4 17 (by omega) (by omega) (by omega)).trans z5, z6⟩
      · rintro ⟨v, c, g, f⟩ ⟨v', a, rd, ag, mf, na, nb, nl, sv, wa⟩ hz
        have qj : nI w ≤ nI w := by rw [nI_leI (by omega) (by omega)]; exact Nat.le_refl _
        exact ⟨(v, c, g, f), (v', a, rd, ag, mf, na, nb, nl, sv, wa), if_pos qj, if_pos qj, hz⟩
      · rintro ⟨v, c, g, f⟩ ⟨v', a, rd, ag, mf, na, nb, nl, sv, wa⟩ ⟨m, z0, z1, z2, z3, z4, z5, z6⟩
        have z1' : v = nI m := z1
        have z2' : v' = nI m := z2
        have z6' : wa = wa1 := z6
        subst z1' z2' z6'
        have z3' : rb_RB (n * 1000000 + 13200 * w) n c a := z3
        obtain ⟨pr', pf', e4, hI⟩ := rb_kf h hk (x := nI 0) (ans := nI m) (did := True) (mf' := mf) ⟨fun _ => nI_pos (by omega), fun _ => trivial⟩ (Or.inl ⟨trivial, rb_RB_congr z3' (by omega) (by omega) (fun _ _ => rfl) (fun _ _ => rfl), z4, z5, rfl⟩)
        exact ⟨(nI m, c, g, f, pr', pf'), (nI m, a, rd, ag, mf, na, nb, nl, sv, wa), rb_bnd _ e4 rfl, rfl, rfl, hI _ rfl rfl rfl rfl rfl rfl rfl rfl rfl rfl⟩
    obtain ⟨o1, o2, k1, k2, k3, k4⟩ := key
    exact ⟨o1, o2, rb_bnd _ b1 ((if_neg h01).trans k1), rb_bnd _ b2 ((if_neg h01).trans (rb_bnd _ hk k2)), k3, k4⟩
  · exact ⟨(-1, μ 5, μ 6, μ 1, μ 14, μ 13), (-1, μ 20, μ 21, μ 22, μ 19, μ 23, μ 24, μ 25, μ 26, μ 31), rb_bnd _ b1 (if_pos rfl), rb_bnd _ b2 (if_pos rfl), rfl, rb_fin0 h rfl rfl rfl rfl rfl rfl rfl rfl rfl rfl rfl⟩
