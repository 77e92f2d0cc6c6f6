theorem rb_bb : ∀ j x : Fin 28, j ≠ x → rb_b j.val &&& rb_b x.val = nI 0 := by decide
theorem rb_bs : ∀ x : Fin 28, rb_b x.val &&& rb_b x.val = rb_b x.val ∧ ¬ rb_b x.val = nI 0 := by decide
theorem rb_aor (x y z : Int32) : (x ||| y) &&& z = (x &&& z) ||| (y &&& z) := Int32.toBitVec_inj.1 (by
    simp only [Int32.toBitVec_and, Int32.toBitVec_or]
    exact BitVec.eq_of_getLsbD_eq (fun i hi => by simp [Bool.and_or_distrib_right]))
theorem rb_mk_hi {P : Nat → Bool} {x : Nat} (hx : x < 28) : ∀ n, n ≤ x → rb_mk P n &&& rb_b x = nI 0 := by
  intro n
  induction n with
  | zero => intro _; exact Int32.zero_and
  | succ n ih =>
    intro h
    show (bif P n then rb_mk P n ||| rb_b n else rb_mk P n) &&& rb_b x = _
    cases P n with
    | true =>
      show (rb_mk P n ||| rb_b n) &&& rb_b x = _
      rw [rb_aor, ih (by omega), rb_bb ⟨n, by omega⟩ ⟨x, hx⟩ (fun e => by have := Fin.mk.inj e; omega)]
      decide
    | false => exact ih (by omega)
theorem rb_mk_bit {P : Nat → Bool} {x : Nat} : ∀ n, x < n → n ≤ 28 → (rb_mk P n &&& rb_b x = nI 0 ↔ P x = false) := by
  intro n
  induction n with
  | zero => intro h; omega
  | succ n ih =>
    intro h hn
    show (bif P n then rb_mk P n ||| rb_b n else rb_mk P n) &&& rb_b x = _ ↔ _
    by_cases e : x = n
    · subst e
      cases hp : P x with
      | true =>
        show (rb_mk P x ||| rb_b x) &&& rb_b x = _ ↔ _
        rw [rb_aor, rb_mk_hi (by omega) x (Nat.le_refl _), (rb_bs ⟨x, by omega⟩).1]
        have : nI 0 ||| rb_b x = rb_b x := Int32.zero_or
        rw [this]
        exact ⟨fun g => absurd g (rb_bs ⟨x, by omega⟩).2, fun g => by cases g⟩
      | false =>
        show rb_mk P x &&& rb_b x = _ ↔ _
        rw [rb_mk_hi (by omega) x (Nat.le_refl _)]
        exact ⟨fun _ => rfl, fun _ => rfl⟩
    · have hi := ih (by omega) (by omega)
      cases hp : P n with
      | true =>
        show (rb_mk P n ||| rb_b n) &&& rb_b x = _ ↔ _
        rw [rb_aor, rb_bb ⟨n, by omega⟩ ⟨x, by omega⟩ (fun g => e (Fin.mk.inj g).symm)]
        have : ∀ u : Int32, u ||| nI 0 = u := fun u => Int32.or_zero
        rw [this]; exact hi
      | false => exact hi
theorem xn_called {c f : rb_Row} {C : Nat → Bool} (h5 : f 5 = rb_mk C 28) (hnm : ∀ h, h < 16 → c (3 + h) = mI ∨ ∃ y, y < 28 ∧ c (3 + h) = nI y) : XX0_calledHandles c f = some (rb_mk (fun h => (rb_fd (fun y => C y && decide (rb_fd (fun h => decide (c (3 + h) = nI y)) 16 = some h)) 28).isSome) 16) := by
  unfold XX0_calledHandles
  have key : ∃ o, ((rb_lp (ρ := Int32) (fun (s1 : Int32 × Int32) => if s1.2 < 0 then some (.inr s1.1) else (rb_rd c 773 (3 + s1.2)).bind fun v10 => ((if v10 < 0 then some s1.1 else if ((f 5) &&& (1 <<< (v10 &&& 31))) = 0 then some s1.1 else (XX5_lowestHandle c v10).bind fun t17 => if t17 = s1.2 then some (s1.1 ||| (1 <<< (s1.2 &&& 31))) else some s1.1) : Option (Int32)).bind fun j12 => some (.inl (j12, (s1.2 + (-1))))) 100000 (0, 15)).bind fun q2 => some q2) = some o ∧ o = rb_mk (fun h => (rb_fd (fun y => C y && decide (rb_fd (fun h => decide (c (3 + h) = nI y)) 16 = some h)) 28).isSome) 16 := by
    refine rb_lpib (τ := Int32) (fun j z => (z, if j < 16 then nI (15 - j) else mI)) 16 (fun j z => rb_mk (fun h => (rb_fd (fun y => C y && decide (rb_fd (fun h => decide (c (3 + h) = nI y)) 16 = some h)) 28).isSome) (16 - j) ||| z = rb_mk (fun h => (rb_fd (fun y => C y && decide (rb_fd (fun h => decide (c (3 + h) = nI y)) 16 = some h)) 28).isSome) 16) (fun z => z = rb_mk (fun h => (rb_fd (fun y => C y && decide (rb_fd (fun h => decide (c (3 + h) = nI y)) 16 = some h)) 28).isSome) 16) 0 rfl Int32.or_zero (by omega) ?_ ?_ (fun r hr => ⟨r, rfl, hr⟩)
    · intro j z hj hz
      left
      obtain ⟨h, hh, eh⟩ : ∃ h, h < 16 ∧ j = 15 - h := ⟨15 - j, by omega, by omega⟩
      subst eh
      have ix : (if 15 - h < 16 then nI (15 - (15 - h)) else mI) = nI h := by rw [if_pos (by omega)]; exact congrArg nI (by omega)
      have e16 : 16 - (15 - h) = h + 1 := by omega
      rw [e16] at hz
      have q1 : ¬ nI h < (0 : Int32) := nI_pos (by omega)
      have r3 : rb_rd c 773 (3 + nI h) = some (c (3 + h)) := (congrArg (rb_rd c 773) (nI_add 3 h)).trans (rb_rdn (by omega) (by omega))
      have nx : nI h + (-1) = (if 15 - h + 1 < 16 then nI (15 - (15 - h + 1)) else mI) := by
        by_cases g : h = 0
        · subst g; decide
        · obtain ⟨h', e⟩ : ∃ h', h = h' + 1 := ⟨h - 1, by omega⟩
          subst e
          rw [if_pos (by omega)]
          exact (rb_nIm h').trans (congrArg nI (by omega))
      have e17 : 16 - (15 - h + 1) = h := by omega
      -- what stands at h
      have bit0 : ∀ y, y < 28 → ((f 5 &&& (1 <<< (nI y &&& 31))) = 0 ↔ C y = false) := fun y hy => by
        rw [h5]; exact rb_mk_bit 28 hy (Nat.le_refl _)
      have res : ∀ v, ((if c (3 + h) < 0 then some z else if ((f 5) &&& (1 <<< (c (3 + h) &&& 31))) = 0 then some z else (XX5_lowestHandle c (c (3 + h))).bind fun t17 => if t17 = nI h then some (z ||| (1 <<< (nI h &&& 31))) else some z) : Option Int32) = some v → rb_mk (fun h => (rb_fd (fun y => C y && decide (rb_fd (fun h => decide (c (3 + h) = nI y)) 16 = some h)) 28).isSome) h ||| v = rb_mk (fun h => (rb_fd (fun y => C y && decide (rb_fd (fun h => decide (c (3 + h) = nI y)) 16 = some h)) 28).isSome) 16 → ∃ u, (fun (s1 : Int32 × Int32) => if s1.2 < 0 then some (.inr s1.1) else (rb_rd c 773 (3 + s1.2)).bind fun v10 => ((if v10 < 0 then some s1.1 else if ((f 5) &&& (1 <<< (v10 &&& 31))) = 0 then some s1.1 else (XX5_lowestHandle c v10).bind fun t17 => if t17 = s1.2 then some (s1.1 ||| (1 <<< (s1.2 &&& 31))) else some s1.1) : Option (Int32)).bind fun j12 => some (.inl (j12, (s1.2 + (-1))))) (z, if 15 - h < 16 then nI (15 - (15 - h)) else mI) = (some (.inl (u, if 15 - h + 1 < 16 then nI (15 - (15 - h + 1)) else mI)) : Option ((Int32 × Int32) ⊕ Int32)) ∧ rb_mk (fun h => (rb_fd (fun y => C y && decide (rb_fd (fun h => decide (c (3 + h) = nI y)) 16 = some h)) 28).isSome) (16 - (15 - h + 1)) ||| u = rb_mk (fun h => (rb_fd (fun y => C y && decide (rb_fd (fun h => decide (c (3 + h) = nI y)) 16 = some h)) 28).isSome) 16 := fun v e1 e2 => by
        rw [ix, e17, ← nx]
        exact ⟨v, (if_neg q1).trans (rb_bnd _ r3 (rb_bnd _ e1 rfl)), e2⟩
      have hstep : rb_mk (fun h => (rb_fd (fun y => C y && decide (rb_fd (fun h => decide (c (3 + h) = nI y)) 16 = some h)) 28).isSome) (h + 1) = bif (rb_fd (fun y => C y && decide (rb_fd (fun h => decide (c (3 + h) = nI y)) 16 = some h)) 28).isSome then rb_mk (fun h => (rb_fd (fun y => C y && decide (rb_fd (fun h => decide (c (3 + h) = nI y)) 16 = some h)) 28).isSome) h ||| rb_b h else rb_mk (fun h => (rb_fd (fun y => C y && decide (rb_fd (fun h => decide (c (3 + h) = nI y)) 16 = some h)) 28).isSome) h := rfl
      rw [hstep] at hz
      have no : (rb_fd (fun y => C y && decide (rb_fd (fun h => decide (c (3 + h) = nI y)) 16 = some h)) 28).isSome = false → rb_mk (fun h => (rb_fd (fun y => C y && decide (rb_fd (fun h => decide (c (3 + h) = nI y)) 16 = some h)) 28).isSome) h ||| z = rb_mk (fun h => (rb_fd (fun y => C y && decide (rb_fd (fun h => decide (c (3 + h) = nI y)) 16 = some h)) 28).isSome) 16 := fun g => by
        rw [g] at hz; exact hz
      have isf : ∀ y0, c (3 + h) = y0 → (∀ y, y < 28 → y0 = nI y → C y = true → rb_fd (fun h => decide (c (3 + h) = nI y)) 16 ≠ some h) → (rb_fd (fun y => C y && decide (rb_fd (fun h => decide (c (3 + h) = nI y)) 16 = some h)) 28).isSome = false := fun y0 e0 g => by
        rw [rb_fd_all (fun y hy => ?_)]; rfl
        cases hC : C y with
        | false => rfl
        | true =>
          refine decide_eq_false (fun q => ?_)
          obtain ⟨_, p1, _⟩ := rb_fd_some q
          simp only [decide_eq_true_eq] at p1
          exact g y hy (e0.symm.trans p1) hC q
      rcases hnm h hh with em | ⟨y, hy, ey⟩
      · refine res z (if_pos (by rw [em]; decide)) (no (isf _ em (fun y hy e => absurd e.symm (rb_nmm (by omega)))))
      · have q2 : ¬ c (3 + h) < (0 : Int32) := by rw [ey]; exact nI_pos (by omega)
        cases hC : C y with
        | false =>
          refine res z ((if_neg q2).trans (if_pos (by rw [ey]; exact (bit0 y hy).mpr hC))) (no (isf _ ey (fun y' hy' e g => ?_)))
          have := (nI_eq (by omega) (by omega)).mp e
          subst this
          rw [hC] at g; cases g
        | true =>
          have q3 : ¬ ((f 5) &&& (1 <<< (c (3 + h) &&& 31))) = 0 := by
            rw [ey]; exact fun g => by rw [(bit0 y hy).mp g] at hC; cases hC
          have lw := rp_lowest (c := c) hy
          rw [← ey] at lw
          obtain ⟨h1, hf⟩ := rb_fd_ex (p := fun i => decide (c (3 + i) = nI y)) hh (by simp [ey])
          obtain ⟨hh1, _, _⟩ := rb_fd_some hf
          have lw' : XX5_lowestHandle c (c (3 + h)) = some (nI h1) := by rw [lw, ey, hf]; rfl
          by_cases g : h1 = h
          · subst g
            have ys : (rb_fd (fun y => C y && decide (rb_fd (fun h => decide (c (3 + h) = nI y)) 16 = some h1)) 28).isSome = true := rb_fd_iff.mpr ⟨y, hy, by rw [hC, decide_eq_true hf]; rfl⟩
            rw [ys] at hz
            refine res _ ((if_neg q2).trans ((if_neg q3).trans (rb_bnd _ lw' (if_pos rfl)))) ?_
            have hz' : (rb_mk (fun h => (rb_fd (fun y => C y && decide (rb_fd (fun h => decide (c (3 + h) = nI y)) 16 = some h)) 28).isSome) h1 ||| rb_b h1) ||| z = rb_mk (fun h => (rb_fd (fun y => C y && decide (rb_fd (fun h => decide (c (3 + h) = nI y)) 16 = some h)) 28).isSome) 16 := hz
            rw [← hz', Int32.or_assoc, Int32.or_comm (rb_b h1) z]; rfl
          · have q4 : ¬ nI h1 = nI h := by rw [nI_eq (by omega) (by omega)]; exact g
            refine res z ((if_neg q2).trans ((if_neg q3).trans (rb_bnd _ lw' (if_neg q4)))) (no (isf _ ey (fun y' hy' e _ q => ?_)))
            have := (nI_eq (by omega) (by omega)).mp e
            subst this
            rw [hf] at q
            exact g (Option.some.inj q)
    · intro z hz
      refine ⟨z, if_pos (show (if 16 < 16 then nI (15 - 16) else mI) < (0 : Int32) by decide), ?_⟩
      rw [← hz]
      exact (Int32.zero_or).symm
  obtain ⟨o, k1, k2⟩ := key
  rw [← k2]; exact k1
theorem rs_calls : rb_S_calls rb_Inv := by
  intro n μ v1 v2 hn h
  obtain ⟨nn, π, s, s', hR, hB⟩ := h.1
  have hn24 : nn ≤ 24 := hR.1.2.2.2.2.2.2.2
  have h01 : ¬ (nI 1 = (0 : Int32)) := by decide
  have qm : mI < (0 : Int32) := by decide
  obtain ⟨b, hb, ej⟩ : ∃ b, b ≤ 1 ∧ ((if v2 = 1 then some 1 else if v2 = 2 then some 1 else if v2 = 4 then some 1 else if v2 = 8 then some 1 else some 0) : Option Int32) = some (nI b) := by
    by_cases g1 : v2 = 1
    · exact ⟨1, by omega, if_pos g1⟩
    · by_cases g2 : v2 = 2
      · exact ⟨1, by omega, (if_neg g1).trans (if_pos g2)⟩
      · by_cases g4 : v2 = 4
        · exact ⟨1, by omega, (if_neg g1).trans ((if_neg g2).trans (if_pos g4))⟩
        · by_cases g8 : v2 = 8
          · exact ⟨1, by omega, (if_neg g1).trans ((if_neg g2).trans ((if_neg g4).trans (if_pos g8)))⟩
          · exact ⟨0, by omega, (if_neg g1).trans ((if_neg g2).trans ((if_neg g4).trans (if_neg g8)))⟩
  rcases rp_thing hR.2.1 v1 with ⟨e1, e2⟩ | ⟨k, x, hk', hx, ev, ec, ea, hl, hw, hz, e1, e2⟩
  · exact ⟨(-1, μ 11, μ 12, μ 7), (-1, μ 20, μ 21, μ 22, μ 19, μ 23, μ 24, μ 25, μ 26, μ 29), rb_bnd _ e1 (rb_bnd _ ej (if_pos qm)), rb_bnd _ e2 (if_pos rfl), rfl, rb_fin0 h rfl rfl rfl rfl rfl rfl rfl rfl rfl rfl rfl⟩
  · have qx : ¬ nI x < (0 : Int32) := nI_pos (by omega)
    have rx : rb_rd (μ 20) 796 v1 = some (nI x) := by rw [ev, rb_rdn (by omega) (by omega), ea]
    have hc : rb_RB (n * 1000000) n (va_cpy (μ 5) (μ 11) 0 0 773) (μ 20) := rb_RB_congr h.1 (Nat.le_refl _) (Nat.le_refl _) (fun k hk => rb_vsame hk) (fun _ _ => rfl)
    have rh := xn_rehearse (μ 11) (μ 7) (μ 5)
    have hsame : ∀ k, k < 773 → va_cpy (μ 5) (μ 11) 0 0 773 k = μ 5 k := fun k hk => rb_vsame hk
    generalize va_cpy (μ 5) (μ 11) 0 0 773 = cb at hc rh hsame
    obtain ⟨n2, π2, s2, s2', hR2, hB2⟩ := hc
    obtain ⟨v, c', g', f', a', rd', ag', mf', na', nb', nl', sv', w1, w2, w3, tt, tt', r1, r2, r3, r4, r5, r6, r7, r8, r9⟩ := rp_notice hR2 (by omega) (by omega) hx v2 (μ 12) (rb_frs (μ 7)) (μ 21) (μ 22) (upd (μ 19) 11 (nI 0)) (μ 23) (μ 24) (μ 25) (μ 26)
    obtain ⟨C, c5, c11⟩ := r7 c' (fun hh h16 => r2 (3 + hh) (by omega)) (rb_CR_base c' (μ 7) (μ 19))
    have cd := xn_called c5 (fun hh h16 => by
      rcases (r1.2.1.1 hh h16).2.2 with g | ⟨y, hy, g, _⟩
      · exact Or.inl g
      · exact Or.inr ⟨y, hy, g⟩)
    rw [← c11] at cd
    have pa := yn_putAside (μ 29) (μ 20)
    have bb := yn_bringBack a' (rb_ovr (μ 20) (μ 29))
    have hI := fun (o1 : Int32 × rb_Row × rb_Row × rb_Row) (ha : ∀ k, k < 796 → rb_ovr (rb_ovr (μ 20) (μ 29)) a' k = μ 20 k) => rb_fin2 (μ' := rb_ov (rb_ov μ [(11, o1.2.1), (12, o1.2.2.1), (7, o1.2.2.2)]) [(20, rb_ovr (rb_ovr (μ 20) (μ 29)) a'), (21, rd'), (22, ag'), (19, mf'), (23, na'), (24, nb'), (25, nl'), (26, sv'), (29, rb_ovr (μ 20) (μ 29))]) h rfl rfl rfl ha ((r6 16 (by omega) (by omega)).trans (rb_upn (by omega))) ((r6 17 (by omega) (by omega)).trans (rb_upn (by omega))) rfl rfl rfl rfl rfl
    have ha : ∀ k, k < 796 → rb_ovr (rb_ovr (μ 20) (μ 29)) a' k = μ 20 k := fun k hk => (rb_ovr_in hk).trans (rb_ovr_in hk)
    have prog : ¬ nI b = (0 : Int32) → XX6_calls (μ 11) (μ 12) (μ 7) (μ 5) v1 v2 = some (mf' 11, c', g', f') := fun qb => rb_bnd _ e1 (rb_bnd _ ej ((if_neg qx).trans ((if_neg qb).trans (rb_bnd _ rh (rb_bnd _ w1 (rb_bnd _ cd rfl))))))
    have ref : ((XX7_putAside (μ 29) (μ 20)).bind fun t5 => (rb_pf (μ 19) 11 0).bind fun mf7 => (rb_rd (μ 20) 796 v1).bind fun v9 => (XX7_notice (μ 20) (μ 21) (μ 22) mf7 (μ 23) (μ 24) (μ 25) (μ 26) v9 v2).bind fun t11 => (XX7_bringBack t11.1 t5).bind fun t13 => some ((t11.2.2.2.1 11), t13, t11.2.1, t11.2.2.1, t11.2.2.2.1, t11.2.2.2.2.1, t11.2.2.2.2.2.1, t11.2.2.2.2.2.2.1, t11.2.2.2.2.2.2.2, t5)) = some (mf' 11, rb_ovr (rb_ovr (μ 20) (μ 29)) a', rd', ag', mf', na', nb', nl', sv', rb_ovr (μ 20) (μ 29)) := rb_bnd _ pa (rb_bnd _ rfl (rb_bnd _ rx (rb_bnd _ w2 (rb_bnd _ bb rfl))))
    by_cases g1 : v2 = 1
    · have qb : ¬ nI b = (0 : Int32) := by rw [← Option.some.inj ((if_pos g1).symm.trans ej)]; decide
      exact ⟨_, _, prog qb, rb_bnd _ e2 ((if_neg h01).trans ((if_pos g1).trans ref)), rfl, hI _ ha⟩
    · by_cases g2 : v2 = 2
      · have qb : ¬ nI b = (0 : Int32) := by rw [← Option.some.inj (((if_neg g1).trans (if_pos g2)).symm.trans ej)]; decide
        exact ⟨_, _, prog qb, rb_bnd _ e2 ((if_neg h01).trans ((if_neg g1).trans ((if_pos g2).trans ref))), rfl, hI _ ha⟩
      · by_cases g4 : v2 = 4
        · have qb : ¬ nI b = (0 : Int32) := by rw [← Option.some.inj (((if_neg g1).trans ((if_neg g2).trans (if_pos g4))).symm.trans ej)]; decide
          exact ⟨_, _, prog qb, rb_bnd _ e2 ((if_neg h01).trans ((if_neg g1).trans ((if_neg g2).trans ((if_pos g4).trans ref)))), rfl, hI _ ha⟩
        · by_cases g8 : v2 = 8
          · have qb : ¬ nI b = (0 : Int32) := by rw [← Option.some.inj (((if_neg g1).trans ((if_neg g2).trans ((if_neg g4).trans (if_pos g8)))).symm.trans ej)]; decide
            exact ⟨_, _, prog qb, rb_bnd _ e2 ((if_neg h01).trans ((if_neg g1).trans ((if_neg g2).trans ((if_neg g4).trans ((if_pos g8).trans ref))))), rfl, hI _ ha⟩
          · have qb : nI b = (0 : Int32) := (Option.some.inj (((if_neg g1).trans ((if_neg g2).trans ((if_neg g4).trans (if_neg g8)))).symm.trans ej)).symm
            exact ⟨(-1, μ 11, μ 12, μ 7), (-1, μ 20, μ 21, μ 22, μ 19, μ 23, μ 24, μ 25, μ 26, μ 29), rb_bnd _ e1 (rb_bnd _ ej ((if_neg qx).trans (if_pos qb))), rb_bnd _ e2 ((if_neg h01).trans ((if_neg g1).trans ((if_neg g2).trans ((if_neg g4).trans (if_neg g8))))), rfl, rb_fin0 h rfl rfl rfl rfl rfl rfl rfl rfl rfl rfl rfl⟩
