theorem rs_soon : rb_S_soon rb_Inv := by
  intro n μ v1 hn h
  obtain ⟨nn, π, s, s', hR, hB⟩ := id h.1
  have hsq := hR.1.2.2.2.2.2.1
  have h01 : ¬ (nI 1 = (0 : Int32)) := by decide
  have qm : ¬ (0 : Int32) ≤ mI := by decide
  have qm0 : ¬ mI = (0 : Int32) := by decide
  rcases rp_set hR v1 with ⟨e1, e2⟩ | ⟨k, x, hk, hx, ev, ec, ea, h4, e1, e2, e3⟩
  · have s7 : XX7_shows (μ 21) (μ 20) v1 = some (mI, μ 21) := rb_bnd _ e2 (if_pos rfl)
    exact ⟨(-1, μ 11, μ 12, μ 7), (-1, μ 20, μ 21, μ 22, μ 19, μ 23, μ 24, μ 25, μ 26, μ 29), rb_bnd _ e1 (if_neg qm), rb_bnd _ s7 ((if_neg qm0).trans (if_neg qm)), rfl, rb_fin0 h rfl rfl rfl rfl rfl rfl rfl rfl rfl rfl rfl⟩
  · subst ev
    have qx : (0 : Int32) ≤ nI x := nI_pos' (by omega)
    obtain ⟨rd0, s7, rdy⟩ := rp_shows hR (by omega) hk hx ec h4 (μ 21)
    have hcl := rb_cn_le (rb_tr (μ 5) (rq (μ 5) nn 4) x) nn
    have hn24 : nn ≤ 24 := hR.1.2.2.2.2.2.2.2
    by_cases hS : rb_cn (rb_tr (μ 5) (rq (μ 5) nn 4) x) nn ≤ 0
    · rw [if_pos hS] at rdy
      have hS0 : rb_cn (rb_tr (μ 5) (rq (μ 5) nn 4) x) nn = 0 := by omega
      rw [hS0] at s7
      have hc : rb_RB (n * 1000000) n (va_cpy (μ 5) (μ 11) 0 0 773) (μ 20) := rb_RB_congr h.1 (Nat.le_refl _) (Nat.le_refl _) (fun k hk => rb_vsame hk) (fun _ _ => rfl)
      have rh := xn_rehearse (μ 11) (μ 7) (μ 5)
      have hsame : ∀ k, k < 773 → va_cpy (μ 5) (μ 11) 0 0 773 k = μ 5 k := fun k hk => rb_vsame hk
      generalize va_cpy (μ 5) (μ 11) 0 0 773 = cb at hc rh hsame
      obtain ⟨n0, π0, s0, s0', hR0, hB0⟩ := id hc
      have pa := yn_putAside (μ 29) (μ 20)
      have key : ∃ (o1 : Int32 × rb_Row × rb_Row × rb_Row) (o2 : Int32 × rb_Row × rb_Row × rb_Row × rb_Row × rb_Row × rb_Row × rb_Row × rb_Row × rb_Row), (rb_lp (ρ := (rb_Row × rb_Row × rb_Row) ⊕ (Int32 × rb_Row × rb_Row × rb_Row)) (fun (s9 : Int32 × rb_Row × rb_Row × rb_Row) => if 100 ≤ s9.1 then some (.inr (.inl (s9.2.1, s9.2.2.1, s9.2.2.2))) else (XX0_time s9.2.1).bind fun t19 => if 100000 ≤ t19 then some (.inr (.inl (s9.2.1, s9.2.2.1, s9.2.2.2))) else (XX0_passTime s9.2.1 s9.2.2.1 s9.2.2.2).bind fun t22 => (XX0_hasWokenAt t22.2.2 (nI x)).bind fun t24 => if t24 = 0 then (XX1_ready 5 t22.1 (nI x) 0).bind fun t27 => if t27 = 0 then some (.inl ((s9.1 + 1), t22.1, t22.2.1, t22.2.2)) else (XX0_time t22.1).bind fun t30 => some (.inr (.inr (t30, t22.1, t22.2.1, t22.2.2))) else (XX0_time t22.1).bind fun t32 => some (.inr (.inr (t32, t22.1, t22.2.1, t22.2.2)))) 100000 (0, cb, μ 12, rb_frs (μ 7))).bind (fun q10 => Sum.elim (fun (z17 : rb_Row × rb_Row × rb_Row) => some ((-1), z17.1, z17.2.1, z17.2.2)) (fun (w34 : Int32 × rb_Row × rb_Row × rb_Row) => some w34) q10) = some o1 ∧ (rb_lp (ρ := Int32 × rb_Row × rb_Row × rb_Row × rb_Row × rb_Row × rb_Row × rb_Row × rb_Row) (fun (s8 : Int32 × Int32 × rb_Row × rb_Row × rb_Row × rb_Row × rb_Row × rb_Row × rb_Row × rb_Row) => if 100 ≤ s8.2.1 then some (.inr (s8.1, s8.2.2.1, s8.2.2.2.1, s8.2.2.2.2.1, s8.2.2.2.2.2.1, s8.2.2.2.2.2.2.1, s8.2.2.2.2.2.2.2.1, s8.2.2.2.2.2.2.2.2.1, s8.2.2.2.2.2.2.2.2.2)) else if s8.1 = 0 then (rb_rd s8.2.2.1 796 794).bind fun v18 => if 100000 ≤ v18 then some (.inr (s8.1, s8.2.2.1, s8.2.2.2.1, s8.2.2.2.2.1, s8.2.2.2.2.2.1, s8.2.2.2.2.2.2.1, s8.2.2.2.2.2.2.2.1, s8.2.2.2.2.2.2.2.2.1, s8.2.2.2.2.2.2.2.2.2)) else (XX7_tickOnce s8.2.2.1 s8.2.2.2.1 s8.2.2.2.2.1 s8.2.2.2.2.2.1 s8.2.2.2.2.2.2.1 s8.2.2.2.2.2.2.2.1 s8.2.2.2.2.2.2.2.2.1 s8.2.2.2.2.2.2.2.2.2).bind fun t21 => (XX7_shows t21.2.1 t21.1 (nI k)).bind fun t23 => ((if 0 < t23.1 then some 1 else (XX7_wasWoken t21.1 (rb_ovr (μ 20) (μ 29)) (nI x)).bind fun t29 => if t29 = 0 then some 0 else some 1) : Option (Int32)).bind fun j25 => some (.inl (j25, (s8.2.1 + 1), t21.1, t23.2, t21.2.2.1, t21.2.2.2.1, t21.2.2.2.2.1, t21.2.2.2.2.2.1, t21.2.2.2.2.2.2.1, t21.2.2.2.2.2.2.2)) else some (.inr (s8.1, s8.2.2.1, s8.2.2.2.1, s8.2.2.2.2.1, s8.2.2.2.2.2.1, s8.2.2.2.2.2.2.1, s8.2.2.2.2.2.2.2.1, s8.2.2.2.2.2.2.2.2.1, s8.2.2.2.2.2.2.2.2.2))) 100000 (0, 0, μ 20, rd0, μ 22, μ 19, μ 23, μ 24, μ 25, μ 26)).bind (fun q9 => ((if q9.1 = 0 then some (-1) else (rb_rd q9.2.1 796 794).bind fun v36 => some v36) : Option (Int32)).bind fun j32 => (XX7_bringBack q9.2.1 (rb_ovr (μ 20) (μ 29))).bind fun t38 => some (j32, t38, q9.2.2.1, q9.2.2.2.1, q9.2.2.2.2.1, q9.2.2.2.2.2.1, q9.2.2.2.2.2.2.1, q9.2.2.2.2.2.2.2.1, q9.2.2.2.2.2.2.2.2, rb_ovr (μ 20) (μ 29))) = some o2 ∧ (o1.1 = o2.1 ∧ rb_Inv (n + 1) (rb_ov (rb_ov μ [(11, o1.2.1), (12, o1.2.2.1), (7, o1.2.2.2)]) [(20, o2.2.1), (21, o2.2.2.1), (22, o2.2.2.2.1), (19, o2.2.2.2.2.1), (23, o2.2.2.2.2.2.1), (24, o2.2.2.2.2.2.2.1), (25, o2.2.2.2.2.2.2.2.1), (26, o2.2.2.2.2.2.2.2.2.1), (29, o2.2.2.2.2.2.2.2.2.2)])) := by
        refine rb_lpk (τ := rb_Row × rb_Row × rb_Row) (τ' := rb_Row × rb_Row × rb_Row × rb_Row × rb_Row × rb_Row × rb_Row × rb_Row) (T := fun (o1 : Int32 × rb_Row × rb_Row × rb_Row) (o2 : Int32 × rb_Row × rb_Row × rb_Row × rb_Row × rb_Row × rb_Row × rb_Row × rb_Row × rb_Row) => o1.1 = o2.1 ∧ rb_Inv (n + 1) (rb_ov (rb_ov μ [(11, o1.2.1), (12, o1.2.2.1), (7, o1.2.2.2)]) [(20, o2.2.1), (21, o2.2.2.1), (22, o2.2.2.2.1), (19, o2.2.2.2.2.1), (23, o2.2.2.2.2.2.1), (24, o2.2.2.2.2.2.2.1), (25, o2.2.2.2.2.2.2.2.1), (26, o2.2.2.2.2.2.2.2.2.1), (29, o2.2.2.2.2.2.2.2.2.2)])) (fun j z => (nI j, z)) (fun j z => (nI 0, nI j, z)) 100 (fun j z z' => rb_RB (n * 1000000 + 2184 * j) n z.1 z'.1 ∧ (∀ k, 3 ≤ k → k < 47 → z.1 k = cb k) ∧ rb_WOK cb z.1 z.2.2 ∧ z'.2.2.2.1 16 = μ 19 16 ∧ z'.2.2.2.1 17 = μ 19 17) (fun r r' => ∃ d c g f, Sum.elim (fun (z17 : rb_Row × rb_Row × rb_Row) => some ((-1 : Int32), z17.1, z17.2.1, z17.2.2)) (fun (w34 : Int32 × rb_Row × rb_Row × rb_Row) => some w34) r = some (d, c, g, f) ∧ (if r'.1 = 0 then some (-1) else (rb_rd r'.2.1 796 794).bind fun v36 => some v36 : Option Int32) = some d ∧ r'.2.2.2.2.1 16 = μ 19 16 ∧ r'.2.2.2.2.1 17 = μ 19 17) (cb, μ 12, rb_frs (μ 7)) (μ 20, rd0, μ 22, μ 19, μ 23, μ 24, μ 25, μ 26) rfl rfl ⟨rb_RB_mono hc (by omega), fun _ _ _ => rfl, rb_WOK_base cb (μ 7), rfl, rfl⟩ (by omega) (by omega) ?_ ?_ ?_
        · rintro j ⟨c, g, f⟩ ⟨a, rd, ag, mf, na, nb, nl, sv⟩ hj ⟨z1, z2, z3, z4, z5⟩
          have z1' : rb_RB (n * 1000000 + 2184 * j) n c a := z1
          have qj : ¬ (100 : Int32) ≤ nI j := by rw [show (100 : Int32) = nI 100 from rfl, nI_leI (by omega) (by omega)]; omega
          obtain ⟨n1, π1, s1, s1', hR1, hB1⟩ := id z1'
          obtain ⟨tm, htm, etm⟩ := hR1.1.2.1
          have tc : XX0_time c = some (nI tm) := rb_bnd _ (rb_rdn (k := 0) (by omega) (by omega)) (congrArg some etm)
          have ta : rb_rd a 796 794 = some (nI tm) := (rb_rdn (k := 794) (by omega) (by omega)).trans (congrArg some (hR1.1.1.trans etm))
          have q00 : nI 0 = (0 : Int32) := rfl
          by_cases ht : 100000 ≤ tm
          · right; left
            have qt : (100000 : Int32) ≤ nI tm := by rw [show (100000 : Int32) = nI 100000 from rfl, nI_leI (by omega) (by omega)]; exact ht
            exact ⟨.inl (c, g, f), (nI 0, a, rd, ag, mf, na, nb, nl, sv), (if_neg qj).trans (rb_bnd _ tc (if_pos qt)), (if_neg qj).trans ((if_pos q00).trans (rb_bnd _ ta (if_pos qt))), -1, c, g, f, rfl, if_pos q00, z4, z5⟩
          · have qt : ¬ (100000 : Int32) ≤ nI tm := by rw [show (100000 : Int32) = nI 100000 from rfl, nI_leI (by omega) (by omega)]; exact ht
            obtain ⟨_, _, u1, u2, c2, g2, f2, a2, rd2, ag2, mf2, na2, nb2, nl2, sv2, rfl, rfl, u3, u4, u6, u5, u7⟩ := ra_tick z1' (by omega) etm (by omega) g f rd ag mf na nb nl sv
            obtain ⟨n3, π3, s3, s3', hR3, hB3⟩ := id u3
            have hsq3 := hR3.1.2.2.2.2.2.1
            have hk2 : ∀ i, 3 ≤ i → i < 47 → c2 i = cb i := fun i h1 h2 => (u6 i h1 h2).trans (z2 i h1 h2)
            have ec2 : c2 (3 + k) = nI x := (hk2 (3 + k) (by omega) (by omega)).trans ((hsame _ (by omega)).trans ec)
            have h42 : c2 (19 + x) = nI 4 := (hk2 (19 + x) (by omega) (by omega)).trans ((hsame _ (by omega)).trans h4)
            obtain ⟨rd3, s73, rdy3⟩ := rp_shows hR3 (by omega) hk hx ec2 h42 rd2
            have hw3 := u7 cb z3
            have ww := yn_wasWoken (sd := rb_ovr (μ 20) (μ 29)) hR0 hR3 (by omega) (by omega) (fun k hk => rb_ovr_in hk) (nI x)
            have hcl3 := rb_cn_le (rb_tr c2 (rq c2 n3 4) x) n3
            have hn3 : n3 ≤ 24 := hR3.1.2.2.2.2.2.2.2
            have tc2 : XX0_time c2 = some (nI (tm + 1)) := rb_bnd _ (rb_rdn (k := 0) (by omega) (by omega)) (congrArg some u4)
            have ta2 : rb_rd a2 796 794 = some (nI (tm + 1)) := (rb_rdn (k := 794) (by omega) (by omega)).trans (congrArg some (hR3.1.1.trans u4))
            have m16 := (u5 16 (by omega) (by omega)).trans z4
            have m17 := (u5 17 (by omega) (by omega)).trans z5
            have bit : XX0_hasWokenAt f2 (nI x) = some (bif (rb_fd (fun t => decide (cb (539 + t) = nI x) && decide (rb_sm cb t < rb_sm c2 t)) 6).isSome then nI 1 else nI 0) := by
              unfold XX0_hasWokenAt
              have mb := rb_mk_bit (P := fun x => (rb_fd (fun t => decide (cb (539 + t) = nI x) && decide (rb_sm cb t < rb_sm c2 t)) 6).isSome) (x := x) 28 hx (Nat.le_refl _)
              rw [← hw3.2.2] at mb
              cases hp : (rb_fd (fun t => decide (cb (539 + t) = nI x) && decide (rb_sm cb t < rb_sm c2 t)) 6).isSome with
              | true => exact if_neg (fun g => by have := mb.mp g; rw [hp] at this; cases this)
              | false => exact if_pos (mb.mpr hp)
            have p2 : nI j + 1 = nI (j + 1) := nI_add j 1
            -- done: it rings
            have done : ∀ (hd : (fun (s9 : Int32 × rb_Row × rb_Row × rb_Row) => if 100 ≤ s9.1 then some (.inr (.inl (s9.2.1, s9.2.2.1, s9.2.2.2))) else (XX0_time s9.2.1).bind fun t19 => if 100000 ≤ t19 then some (.inr (.inl (s9.2.1, s9.2.2.1, s9.2.2.2))) else (XX0_passTime s9.2.1 s9.2.2.1 s9.2.2.2).bind fun t22 => (XX0_hasWokenAt t22.2.2 (nI x)).bind fun t24 => if t24 = 0 then (XX1_ready 5 t22.1 (nI x) 0).bind fun t27 => if t27 = 0 then some (.inl ((s9.1 + 1), t22.1, t22.2.1, t22.2.2)) else (XX0_time t22.1).bind fun t30 => some (.inr (.inr (t30, t22.1, t22.2.1, t22.2.2))) else (XX0_time t22.1).bind fun t32 => some (.inr (.inr (t32, t22.1, t22.2.1, t22.2.2)))) (nI j, c, g, f) = (some (.inr (.inr (nI (tm + 1), c2, g2, f2))) : Option ((Int32 × rb_Row × rb_Row × rb_Row) ⊕ ((rb_Row × rb_Row × rb_Row) ⊕ (Int32 × rb_Row × rb_Row × rb_Row))))) (hj25 : ((if 0 < nI (rb_cn (rb_tr c2 (rq c2 n3 4) x) n3) then some 1 else (XX7_wasWoken a2 (rb_ovr (μ 20) (μ 29)) (nI x)).bind fun t29 => if t29 = 0 then some 0 else some 1) : Option Int32) = some (nI 1)), ∃ r v r', (fun (s9 : Int32 × rb_Row × rb_Row × rb_Row) => if 100 ≤ s9.1 then some (.inr (.inl (s9.2.1, s9.2.2.1, s9.2.2.2))) else (XX0_time s9.2.1).bind fun t19 => if 100000 ≤ t19 then some (.inr (.inl (s9.2.1, s9.2.2.1, s9.2.2.2))) else (XX0_passTime s9.2.1 s9.2.2.1 s9.2.2.2).bind fun t22 => (XX0_hasWokenAt t22.2.2 (nI x)).bind fun t24 => if t24 = 0 then (XX1_ready 5 t22.1 (nI x) 0).bind fun t27 => if t27 = 0 then some (.inl ((s9.1 + 1), t22.1, t22.2.1, t22.2.2)) else (XX0_time t22.1).bind fun t30 => some (.inr (.inr (t30, t22.1, t22.2.1, t22.2.2))) else (XX0_time t22.1).bind fun t32 => some (.inr (.inr (t32, t22.1, t22.2.1, t22.2.2)))) (nI j, c, g, f) = (some (.inr r) : Option ((Int32 × rb_Row × rb_Row × rb_Row) ⊕ ((rb_Row × rb_Row × rb_Row) ⊕ (Int32 × rb_Row × rb_Row × rb_Row)))) ∧ (fun (s8 : Int32 × Int32 × rb_Row × rb_Row × rb_Row × rb_Row × rb_Row × rb_Row × rb_Row × rb_Row) => if 100 ≤ s8.2.1 then some (.inr (s8.1, s8.2.2.1, s8.2.2.2.1, s8.2.2.2.2.1, s8.2.2.2.2.2.1, s8.2.2.2.2.2.2.1, s8.2.2.2.2.2.2.2.1, s8.2.2.2.2.2.2.2.2.1, s8.2.2.2.2.2.2.2.2.2)) else if s8.1 = 0 then (rb_rd s8.2.2.1 796 794).bind fun v18 => if 100000 ≤ v18 then some (.inr (s8.1, s8.2.2.1, s8.2.2.2.1, s8.2.2.2.2.1, s8.2.2.2.2.2.1, s8.2.2.2.2.2.2.1, s8.2.2.2.2.2.2.2.1, s8.2.2.2.2.2.2.2.2.1, s8.2.2.2.2.2.2.2.2.2)) else (XX7_tickOnce s8.2.2.1 s8.2.2.2.1 s8.2.2.2.2.1 s8.2.2.2.2.2.1 s8.2.2.2.2.2.2.1 s8.2.2.2.2.2.2.2.1 s8.2.2.2.2.2.2.2.2.1 s8.2.2.2.2.2.2.2.2.2).bind fun t21 => (XX7_shows t21.2.1 t21.1 (nI k)).bind fun t23 => ((if 0 < t23.1 then some 1 else (XX7_wasWoken t21.1 (rb_ovr (μ 20) (μ 29)) (nI x)).bind fun t29 => if t29 = 0 then some 0 else some 1) : Option (Int32)).bind fun j25 => some (.inl (j25, (s8.2.1 + 1), t21.1, t23.2, t21.2.2.1, t21.2.2.2.1, t21.2.2.2.2.1, t21.2.2.2.2.2.1, t21.2.2.2.2.2.2.1, t21.2.2.2.2.2.2.2)) else some (.inr (s8.1, s8.2.2.1, s8.2.2.2.1, s8.2.2.2.2.1, s8.2.2.2.2.2.1, s8.2.2.2.2.2.2.1, s8.2.2.2.2.2.2.2.1, s8.2.2.2.2.2.2.2.2.1, s8.2.2.2.2.2.2.2.2.2))) (nI 0, nI j, a, rd, ag, mf, na, nb, nl, sv) = (some (.inl v) : Option ((Int32 × Int32 × rb_Row × rb_Row × rb_Row × rb_Row × rb_Row × rb_Row × rb_Row × rb_Row) ⊕ (Int32 × rb_Row × rb_Row × rb_Row × rb_Row × rb_Row × rb_Row × rb_Row × rb_Row))) ∧ (fun (s8 : Int32 × Int32 × rb_Row × rb_Row × rb_Row × rb_Row × rb_Row × rb_Row × rb_Row × rb_Row) => if 100 ≤ s8.2.1 then some (.inr (s8.1, s8.2.2.1, s8.2.2.2.1, s8.2.2.2.2.1, s8.2.2.2.2.2.1, s8.2.2.2.2.2.2.1, s8.2.2.2.2.2.2.2.1, s8.2.2.2.2.2.2.2.2.1, s8.2.2.2.2.2.2.2.2.2)) else if s8.1 = 0 then (rb_rd s8.2.2.1 796 794).bind fun v18 => if 100000 ≤ v18 then some (.inr (s8.1, s8.2.2.1, s8.2.2.2.1, s8.2.2.2.2.1, s8.2.2.2.2.2.1, s8.2.2.2.2.2.2.1, s8.2.2.2.2.2.2.2.1, s8.2.2.2.2.2.2.2.2.1, s8.2.2.2.2.2.2.2.2.2)) else (XX7_tickOnce s8.2.2.1 s8.2.2.2.1 s8.2.2.2.2.1 s8.2.2.2.2.2.1 s8.2.2.2.2.2.2.1 s8.2.2.2.2.2.2.2.1 s8.2.2.2.2.2.2.2.2.1 s8.2.2.2.2.2.2.2.2.2).bind fun t21 => (XX7_shows t21.2.1 t21.1 (nI k)).bind fun t23 => ((if 0 < t23.1 then some 1 else (XX7_wasWoken t21.1 (rb_ovr (μ 20) (μ 29)) (nI x)).bind fun t29 => if t29 = 0 then some 0 else some 1) : Option (Int32)).bind fun j25 => some (.inl (j25, (s8.2.1 + 1), t21.1, t23.2, t21.2.2.1, t21.2.2.2.1, t21.2.2.2.2.1, t21.2.2.2.2.2.1, t21.2.2.2.2.2.2.1, t21.2.2.2.2.2.2.2)) else some (.inr (s8.1, s8.2.2.1, s8.2.2.2.1, s8.2.2.2.2.1, s8.2.2.2.2.2.1, s8.2.2.2.2.2.2.1, s8.2.2.2.2.2.2.2.1, s8.2.2.2.2.2.2.2.2.1, s8.2.2.2.2.2.2.2.2.2))) v = (some (.inr r') : Option ((Int32 × Int32 × rb_Row × rb_Row × rb_Row × rb_Row × rb_Row × rb_Row × rb_Row × rb_Row) ⊕ (Int32 × rb_Row × rb_Row × rb_Row × rb_Row × rb_Row × rb_Row × rb_Row × rb_Row))) ∧ (∃ d c g f, Sum.elim (fun (z17 : rb_Row × rb_Row × rb_Row) => some ((-1 : Int32), z17.1, z17.2.1, z17.2.2)) (fun (w34 : Int32 × rb_Row × rb_Row × rb_Row) => some w34) r = some (d, c, g, f) ∧ (if r'.1 = 0 then some (-1) else (rb_rd r'.2.1 796 794).bind fun v36 => some v36 : Option Int32) = some d ∧ r'.2.2.2.2.1 16 = μ 19 16 ∧ r'.2.2.2.2.1 17 = μ 19 17) := fun hd hj25 => by
              refine ⟨.inr (nI (tm + 1), c2, g2, f2), (nI 1, nI j + 1, a2, rd3, ag2, mf2, na2, nb2, nl2, sv2), (nI 1, a2, rd3, ag2, mf2, na2, nb2, nl2, sv2), hd, (if_neg qj).trans ((if_pos q00).trans (rb_bnd _ ta ((if_neg qt).trans (rb_bnd _ u2 (rb_bnd _ s73 (rb_bnd _ hj25 rfl)))))), ?_, nI (tm + 1), c2, g2, f2, rfl, (if_neg h01).trans (rb_bnd _ ta2 rfl), m16, m17⟩
              by_cases q : (100 : Int32) ≤ nI j + 1
              · exact if_pos q
              · exact (if_neg q).trans (if_neg h01)
            cases hW : (rb_fd (fun t => decide (cb (539 + t) = nI x) && decide (rb_sm cb t < rb_sm c2 t)) 6).isSome with
            | true =>
              right; right
              rw [hW] at bit ww
              refine done ((if_neg qj).trans (rb_bnd _ tc ((if_neg qt).trans (rb_bnd _ u1 (rb_bnd _ bit ((if_neg h01).trans (rb_bnd _ tc2 rfl))))))) ?_
              by_cases q : (0 : Int32) < nI (rb_cn (rb_tr c2 (rq c2 n3 4) x) n3)
              · exact if_pos q
              · exact (if_neg q).trans (rb_bnd _ ww (if_neg h01))
            | false =>
              rw [hW] at bit ww
              by_cases hS3 : rb_cn (rb_tr c2 (rq c2 n3 4) x) n3 ≤ 0
              · left
                rw [if_pos hS3] at rdy3
                have q : ¬ (0 : Int32) < nI (rb_cn (rb_tr c2 (rq c2 n3 4) x) n3) := by rw [show (0 : Int32) = nI 0 from rfl, nI_ltI (by omega) (by omega)]; omega
                exact ⟨(c2, g2, f2), (a2, rd3, ag2, mf2, na2, nb2, nl2, sv2), (if_neg qj).trans (rb_bnd _ tc ((if_neg qt).trans (rb_bnd _ u1 (rb_bnd _ bit ((if_pos rfl).trans (rb_bnd _ rdy3 ((if_pos rfl).trans (by rw [← p2])))))))), (if_neg qj).trans ((if_pos q00).trans (rb_bnd _ ta ((if_neg qt).trans (rb_bnd _ u2 (rb_bnd _ s73 (rb_bnd (nI 0) ((if_neg q).trans (rb_bnd _ ww (if_pos rfl))) (by rw [← p2]))))))), rb_RB_mono u3 (by omega), hk2, hw3, m16, m17⟩
              · right; right
                rw [if_neg hS3] at rdy3
                have q : (0 : Int32) < nI (rb_cn (rb_tr c2 (rq c2 n3 4) x) n3) := by rw [show (0 : Int32) = nI 0 from rfl, nI_ltI (by omega) (by omega)]; omega
                exact done ((if_neg qj).trans (rb_bnd _ tc ((if_neg qt).trans (rb_bnd _ u1 (rb_bnd _ bit ((if_pos rfl).trans (rb_bnd _ rdy3 ((if_neg h01).trans (rb_bnd _ tc2 rfl))))))))) (if_pos q)
        · rintro ⟨c, g, f⟩ ⟨a, rd, ag, mf, na, nb, nl, sv⟩ ⟨z1, z2, z3, z4, z5⟩
          have qj : (100 : Int32) ≤ nI 100 := by decide
          exact ⟨.inl (c, g, f), (nI 0, a, rd, ag, mf, na, nb, nl, sv), if_pos qj, if_pos qj, -1, c, g, f, rfl, if_pos rfl, z4, z5⟩
        · rintro r ⟨fl, a, rd, ag, mf, na, nb, nl, sv⟩ ⟨d, c, g, f, z1, z2, z3, z4⟩
          have bb := yn_bringBack a (rb_ovr (μ 20) (μ 29))
          exact ⟨(d, c, g, f), (d, rb_ovr (rb_ovr (μ 20) (μ 29)) a, rd, ag, mf, na, nb, nl, sv, rb_ovr (μ 20) (μ 29)), z1, rb_bnd _ z2 (rb_bnd _ bb rfl), rfl, rb_fin2 h rfl rfl rfl (fun k hk => (rb_ovr_in hk).trans (rb_ovr_in hk)) z3 z4 rfl rfl rfl rfl rfl⟩
      obtain ⟨o1, o2, k1, k2, k3, k4⟩ := key
      exact ⟨o1, o2, rb_bnd _ e1 ((if_pos qx).trans (rb_bnd _ rdy ((if_pos rfl).trans (rb_bnd _ rh k1)))), rb_bnd _ s7 ((if_pos rfl).trans (rb_bnd _ pa (rb_bnd _ e3 k2))), k3, k4⟩
    · rw [if_neg hS] at rdy
      have r0 : rb_rd (μ 5) 773 0 = some (μ 5 0) := rb_rdn (k := 0) (by omega) (by omega)
      have r7 : rb_rd (μ 20) 796 794 = some (μ 5 0) := (rb_rdn (k := 794) (by omega) (by omega)).trans (congrArg some hR.1.1)
      have q1 : ¬ nI (rb_cn (rb_tr (μ 5) (rq (μ 5) nn 4) x) nn) = (0 : Int32) := by rw [show (0 : Int32) = nI 0 from rfl, nI_eq (by omega) (by omega)]; omega
      have q2 : (0 : Int32) ≤ nI (rb_cn (rb_tr (μ 5) (rq (μ 5) nn 4) x) nn) := nI_pos' (by omega)
      exact ⟨(μ 5 0, μ 11, μ 12, μ 7), (μ 5 0, μ 20, rd0, μ 22, μ 19, μ 23, μ 24, μ 25, μ 26, μ 29), rb_bnd _ e1 ((if_pos qx).trans (rb_bnd _ rdy ((if_neg h01).trans (rb_bnd _ r0 rfl)))), rb_bnd _ s7 ((if_neg q1).trans ((if_pos q2).trans (rb_bnd _ r7 rfl))), rfl, rb_fin0 h rfl rfl rfl rfl rfl rfl rfl rfl rfl rfl rfl⟩
