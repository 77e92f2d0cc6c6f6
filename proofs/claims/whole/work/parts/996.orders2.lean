theorem rs_orders : rb_S_orders rb_Inv := by
  intro n μ v1 v2 v3 hn h
  obtain ⟨nn, π, s, s', hR, hB⟩ := id h.1
  have n10 : ¬ nI 1 = (0 : Int32) := by decide
  have no : XX6_orders (μ 11) (μ 12) (μ 7) (μ 16) (μ 17) (μ 15) (μ 5) v1 v2 v3 = some (-1, μ 11, μ 12, μ 7, μ 16, μ 17, μ 15) → XX7_orders (μ 20) (μ 21) (μ 22) (μ 19) (μ 23) (μ 24) (μ 25) (μ 26) (μ 29) (μ 30) (μ 31) v1 v2 v3 = some (-1, μ 20, μ 21, μ 22, μ 19, μ 23, μ 24, μ 25, μ 26, μ 29, μ 30, μ 31) → ∃ (o1 : Int32 × rb_Row × rb_Row × rb_Row × rb_Row × rb_Row × rb_Row) (o2 : Int32 × rb_Row × rb_Row × rb_Row × rb_Row × rb_Row × rb_Row × rb_Row × rb_Row × rb_Row × rb_Row × rb_Row), XX6_orders (μ 11) (μ 12) (μ 7) (μ 16) (μ 17) (μ 15) (μ 5) v1 v2 v3 = some o1 ∧ XX7_orders (μ 20) (μ 21) (μ 22) (μ 19) (μ 23) (μ 24) (μ 25) (μ 26) (μ 29) (μ 30) (μ 31) v1 v2 v3 = some o2 ∧ o1.1 = o2.1 ∧ rb_Inv (n + 1) (rb_ov (rb_ov μ [(11, o1.2.1), (12, o1.2.2.1), (7, o1.2.2.2.1), (16, o1.2.2.2.2.1), (17, o1.2.2.2.2.2.1), (15, o1.2.2.2.2.2.2)]) [(20, o2.2.1), (21, o2.2.2.1), (22, o2.2.2.2.1), (19, o2.2.2.2.2.1), (23, o2.2.2.2.2.2.1), (24, o2.2.2.2.2.2.2.1), (25, o2.2.2.2.2.2.2.2.1), (26, o2.2.2.2.2.2.2.2.2.1), (29, o2.2.2.2.2.2.2.2.2.2.1), (30, o2.2.2.2.2.2.2.2.2.2.2.1), (31, o2.2.2.2.2.2.2.2.2.2.2.2)]) := fun e1 e2 =>
    ⟨_, _, e1, e2, rfl, rb_fin0 h rfl rfl rfl rfl rfl rfl rfl rfl rfl rfl rfl⟩
  rcases rp_task v1 with ⟨t0, h0, e0, a1, a2⟩ | ⟨a1, a2⟩
  · rcases rp_task v2 with ⟨t1, h1, e1, b1, b2⟩ | ⟨b1, b2⟩
    · subst e0 e1
      by_cases hne : t0 = t1
      · subst hne
        exact no (rb_bnd _ a1 ((if_neg n10).trans (rb_bnd _ b1 ((if_neg n10).trans (if_pos rfl))))) (rb_bnd _ a2 ((if_neg n10).trans (rb_bnd _ b2 ((if_neg n10).trans (if_pos rfl)))))
      · have qne : ¬ nI t0 = nI t1 := by rw [nI_eq (by omega) (by omega)]; exact hne
        have fl : ∀ t, t < 6 → ∃ r, r ≤ 1 ∧ μ 5 (593 + t) = nI r ∧ rb_rd (μ 5) 773 (593 + nI t) = some (nI r) ∧ XX7_ofTask (μ 20) (nI t) 38 = some (nI r) := fun t ht => by
          have o38 := xn_ofTask (μ 20) (f := 38) ht (by omega)
          rw [(hR.2.2.2.2.1 t ht).2.2.2.2.2.2.2.2.2] at o38
          have r593 : rb_rd (μ 5) 773 (593 + nI t) = some (μ 5 (593 + t)) := (congrArg (rb_rd (μ 5) 773) (nI_add 593 t)).trans (rb_rdn (by omega) (by omega))
          rcases (hR.2.2.2.2.2.1 t ht).1 with g | g
          · rw [g] at o38 r593
            exact ⟨0, by omega, g, r593, o38⟩
          · rw [g] at o38 r593
            exact ⟨1, by omega, g, r593, o38⟩
        obtain ⟨r0, r01, r02, r03, r04⟩ := fl t0 h0
        obtain ⟨r1, r11, r12, r13, r14⟩ := fl t1 h1
        have sm : nI r0 + nI r1 = nI (r0 + r1) := nI_add r0 r1
        by_cases z : r0 = 0 ∧ r1 = 0
        · obtain ⟨z0, z1⟩ := z
          subst z0 z1
          have hc : rb_RB (n * 1000000) n (va_cpy (μ 5) (μ 11) 0 0 773) (μ 20) := rb_RB_congr h.1 (Nat.le_refl _) (Nat.le_refl _) (fun k hk => rb_vsame hk) (fun _ _ => rfl)
          have rh := xn_rehearse (μ 11) (μ 7) (μ 5)
          have hsame : ∀ k, k < 773 → va_cpy (μ 5) (μ 11) 0 0 773 k = μ 5 k := fun k hk => rb_vsame hk
          generalize va_cpy (μ 5) (μ 11) 0 0 773 = cb at hc rh hsame
          obtain ⟨ty0, tf0, g1, g2, g3, g4, g5⟩ := xn_begin h0 h1 (μ 17) (μ 15) cb
          obtain ⟨_, ⟨l0, hl0, el0⟩, _⟩ := hR.2.2.2.2.2.1 t0 h0
          obtain ⟨_, ⟨l1, hl1, el1⟩, _⟩ := hR.2.2.2.2.2.1 t1 h1
          have hN : rb_ND t0 t1 (cb (569 + t0) + cb (569 + t1)) 0 l0 l1 0 cb := ⟨(hsame _ (by omega)).trans r02, (hsame _ (by omega)).trans r12, (hsame _ (by omega)).trans el0, (hsame _ (by omega)).trans el1, hl0, hl1, (rb_ad0 _).symm, Nat.zero_le _⟩
          obtain ⟨c', g', f', tr', ty', V, x1, x2, x3, x4, x5, x6, x7⟩ := re_expl (base := cb (569 + t0) + cb (569 + t1)) (BL := n * 1000000 + 17600) (q := n) h0 h1 hne (by omega) (l0 + l1) 10 0 8 l0 l1 0 (n * 1000000) cb (μ 12) (rb_frs (μ 7)) (μ 16) ty0 tf0 (0, 0, 0, 0, 0) rfl (by omega) (by omega) (by omega) rfl (by omega) hN ⟨μ 20, hc⟩ g2 g3 g4 ⟨Nat.zero_le _, Nat.zero_le _, Nat.zero_le _⟩ (by decide) g5
          have e256 : 2 ^ 8 = 256 := by decide
          rw [e256] at x4 x5 x6
          have prog : ∀ d, XX3_tallyOf ty' v3 = some d → XX6_orders (μ 11) (μ 12) (μ 7) (μ 16) (μ 17) (μ 15) (μ 5) (nI t0) (nI t1) v3 = some (d, c', g', f', tr', ty', tf0) := fun d e => rb_bnd _ a1 ((if_neg n10).trans (rb_bnd _ b1 ((if_neg n10).trans ((if_neg qne).trans (rb_bnd _ r03 ((if_pos rfl).trans (rb_bnd _ r13 ((if_pos rfl).trans (rb_bnd _ rh (rb_bnd _ g1 (rb_bnd _ x1 (rb_bnd _ e rfl))))))))))))
          rcases rp_between v3 (l := 0) (m := 4) (by omega) (by omega) with ⟨w, _, hw, ew, _, w2⟩ | ⟨_, w2⟩
          · subst ew
            have pa := yn_putAside (μ 29) (μ 20)
            have s0 : μ 20 (560 + 39 * t0 + 5) = cb (569 + t0) := ((hR.2.2.2.2.1 t0 h0).2.2.2.2.1).trans (hsame _ (by omega)).symm
            have s1 : μ 20 (560 + 39 * t1 + 5) = cb (569 + t1) := ((hR.2.2.2.2.1 t1 h1).2.2.2.2.1).trans (hsame _ (by omega)).symm
            have ter : rb_erT (upd (upd (upd (upd (upd (μ 30) 0 (nI 0)) 1 (nI 0)) 2 (nI 0)) 3 mI) 4 (nI 0)) (0, 0, 0, 0, 0) := by
              refine ⟨?_, ?_, ?_, ?_, rb_upe rfl⟩
              · rw [rb_upn (by omega), rb_upn (by omega), rb_upn (by omega), rb_upn (by omega)]; exact rb_upe rfl
              · rw [rb_upn (by omega), rb_upn (by omega), rb_upn (by omega)]; exact rb_upe rfl
              · rw [rb_upn (by omega), rb_upn (by omega)]; exact rb_upe rfl
              · rw [rb_upn (by omega)]; exact rb_upe rfl
            obtain ⟨a', rd', ag', mf', na', nb', nl', sv', ta', y1, y2, y3, y4, y5⟩ := re_loop h0 h1 (by omega) x7 hc (sd := rb_ovr (μ 20) (μ 29)) (fun k hk => rb_ovr_in hk) s0 s1 (μ 21) (μ 22) (μ 19) (μ 23) (μ 24) (μ 25) (μ 26) (μ 31) ter
            have qs : nI 0 + nI 0 ≤ (0 : Int32) := by decide
            have eqw : ta' w = ty' w := by
              obtain ⟨m0, m1, m2, m3, m4⟩ := x4
              obtain ⟨k0, k1, k2, k3, k4⟩ := y5
              have hpos : (rb_fo V 256 (0, 0, 0, 0, 0)).1 ≠ 0 := by
                have : (0 : Nat) < (rb_fo V 256 (0, 0, 0, 0, 0)).1 := x6
                omega
              rw [if_neg hpos] at k3
              match w, hw with
              | 0, _ => exact k0.trans m0.symm
              | 1, _ => exact k1.trans m1.symm
              | 2, _ => exact k2.trans m2.symm
              | 3, _ => exact k3.trans m3.symm
              | 4, _ => exact k4.trans m4.symm
            have rw1 : rb_rd ta' 5 (nI w) = some (ty' w) := (rb_rd5 (by omega)).trans (congrArg some eqw)
            have q0 : ¬ nI w < (0 : Int32) := nI_pos (by omega)
            have q5 : ¬ (5 : Int32) ≤ nI w := by rw [show (5 : Int32) = nI 5 from rfl, nI_leI (by omega) (by omega)]; omega
            have tal : XX3_tallyOf ty' (nI w) = some (ty' w) := (if_neg q0).trans ((if_neg q5).trans (rb_bnd _ (rb_rd5 (by omega)) rfl))
            refine ⟨_, (ty' w, a', rd', ag', mf', na', nb', nl', sv', rb_ovr (μ 20) (μ 29), ta', μ 31), prog _ tal, ?_, rfl, rb_fin2 h rfl rfl rfl y2 y3 y4 rfl rfl rfl rfl rfl⟩
            have y1' : rb_lp (bdN (rb_ovr (μ 20) (μ 29)) (nI t0) (nI t1)) 100000 (0, μ 20, μ 21, μ 22, μ 19, μ 23, μ 24, μ 25, μ 26, upd (upd (upd (upd (upd (μ 30) 0 (nI 0)) 1 (nI 0)) 2 (nI 0)) 3 mI) 4 (nI 0), μ 31) = some (a', rd', ag', mf', na', nb', nl', sv', ta', μ 31) := y1
            exact rb_bnd _ a2 ((if_neg n10).trans (rb_bnd _ b2 ((if_neg n10).trans ((if_neg qne).trans (rb_bnd _ w2 ((if_neg n10).trans (rb_bnd _ r04 (rb_bnd _ r14 ((if_pos qs).trans (rb_bnd _ (rb_ta0 (μ 30)) (rb_bnd _ pa (rb_bnd _ y1' (rb_bnd _ rw1 rfl)))))))))))))
          · have tal : XX3_tallyOf ty' v3 = some (-1) := by
              unfold XX3_tallyOf
              rcases rp_inm (m := 4) (by omega) w2 with g | ⟨g1, g2⟩
              · exact if_pos g
              · exact (if_neg g1).trans (if_pos g2)
            exact ⟨_, (-1, μ 20, μ 21, μ 22, μ 19, μ 23, μ 24, μ 25, μ 26, μ 29, μ 30, μ 31), prog _ tal, rb_bnd _ a2 ((if_neg n10).trans (rb_bnd _ b2 ((if_neg n10).trans ((if_neg qne).trans (rb_bnd _ w2 (if_pos rfl)))))), rfl, rb_fin0 h rfl rfl rfl rfl rfl rfl rfl rfl rfl rfl rfl⟩
        · refine no ?_ ?_
          · by_cases z0 : r0 = 0
            · subst z0
              have q1 : ¬ nI r1 = (0 : Int32) := by rw [show (0 : Int32) = nI 0 from rfl, nI_eq (by omega) (by omega)]; omega
              exact rb_bnd _ a1 ((if_neg n10).trans (rb_bnd _ b1 ((if_neg n10).trans ((if_neg qne).trans (rb_bnd _ r03 ((if_pos rfl).trans (rb_bnd _ r13 (if_neg q1))))))))
            · have q1 : ¬ nI r0 = (0 : Int32) := by rw [show (0 : Int32) = nI 0 from rfl, nI_eq (by omega) (by omega)]; exact z0
              exact rb_bnd _ a1 ((if_neg n10).trans (rb_bnd _ b1 ((if_neg n10).trans ((if_neg qne).trans (rb_bnd _ r03 (if_neg q1))))))
          · have qs : ¬ nI r0 + nI r1 ≤ (0 : Int32) := by rw [sm, show (0 : Int32) = nI 0 from rfl, nI_leI (by omega) (by omega)]; omega
            rcases rp_between v3 (l := 0) (m := 4) (by omega) (by omega) with ⟨w, _, hw, ew, _, w2⟩ | ⟨_, w2⟩
            · exact rb_bnd _ a2 ((if_neg n10).trans (rb_bnd _ b2 ((if_neg n10).trans ((if_neg qne).trans (rb_bnd _ w2 ((if_neg n10).trans (rb_bnd _ r04 (rb_bnd _ r14 (if_neg qs)))))))))
            · exact rb_bnd _ a2 ((if_neg n10).trans (rb_bnd _ b2 ((if_neg n10).trans ((if_neg qne).trans (rb_bnd _ w2 (if_pos rfl))))))
    · exact no (rb_bnd _ a1 (by
        subst e0
        exact (if_neg n10).trans (rb_bnd _ b1 (if_pos rfl)))) (rb_bnd _ a2 ((if_neg n10).trans (rb_bnd _ b2 (if_pos rfl))))
  · exact no (rb_bnd _ a1 (if_pos rfl)) (rb_bnd _ a2 (if_pos rfl))
