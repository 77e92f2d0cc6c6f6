theorem rb_goBack {c pf pr : rb_Row} {now m un : Nat} (hn : now < 13) (hm : m < 12) (h3 : pf 1 = nI now) (h4 : pf 2 = nI (m + 1)) (h5 : pf 3 = nI un) : ∃ pf', XX2_goBack c pf pr = some (rb_nz 1, va_cpy pr c (((now + 12) % 13) * 773) 0 773, pf') ∧ pf' 1 = nI ((now + 12) % 13) ∧ pf' 2 = nI m ∧ pf' 3 = nI (un + 1) := by
  unfold XX2_goBack
  have q4 : ¬ pf 2 = (0 : Int32) := by rw [h4, show (0 : Int32) = nI 0 from rfl, nI_eq (by omega) (by omega)]; omega
  have h13 : (now + 12) % 13 < 13 := Nat.mod_lt _ (by omega)
  have p1 : ((pf 1 + 13) - 1) - ((pf 1 + 13) - 1) / 13 * 13 = nI ((now + 12) % 13) := by rw [h3]; exact rb_pv now hn
  generalize hA : ((pf 1 + 13) - 1) - ((pf 1 + 13) - 1) / 13 * 13 = A at p1
  have p2 : upd pf 1 A 2 - 1 = nI m := by rw [rb_upn (by omega), h4]; exact rb_sub (a := m + 1) (b := 1) (by omega)
  have p3 : upd (upd pf 1 A) 2 (upd pf 1 A 2 - 1) 3 + 1 = nI (un + 1) := by rw [rb_upn (by omega), rb_upn (by omega), h5]; exact nI_add un 1
  have p4 : upd (upd (upd pf 1 A) 2 (upd pf 1 A 2 - 1)) 3 (upd (upd pf 1 A) 2 (upd pf 1 A 2 - 1) 3 + 1) 1 = nI ((now + 12) % 13) := by rw [rb_upn (by omega), rb_upn (by omega), rb_upe rfl]; exact p1
  have hcp : rb_cp pr 10049 (upd (upd (upd pf 1 A) 2 (upd pf 1 A 2 - 1)) 3 (upd (upd pf 1 A) 2 (upd pf 1 A 2 - 1) 3 + 1) 1 * 773) c 773 0 773 = some (va_cpy pr c (((now + 12) % 13) * 773) 0 773) := by
    rw [p4]
    exact (congrArg (fun t => rb_cp pr 10049 t c 773 0 773) (nI_mul ((now + 12) % 13) 773)).trans (rb_cpn (dp := 0) (n := 773) (by omega) (by omega) (by omega) (by omega))
  refine ⟨_, (if_neg q4).trans (rb_bnd (upd pf 1 A) rfl (rb_bnd _ rfl (rb_bnd _ rfl (rb_bnd _ hcp rfl)))), p4, ?_, ?_⟩
  · rw [rb_upn (by omega), rb_upe rfl]; exact p2
  · rw [rb_upe rfl]; exact p3
theorem rb_goForth {c pf pr : rb_Row} {now ac un : Nat} (hn : now < 13) (hm : ac < 12) (hu : un < 12) (h3 : pf 1 = nI now) (h4 : pf 2 = nI ac) (h5 : pf 3 = nI (un + 1)) : ∃ pf', XX2_goForth c pf pr = some (rb_nz 1, va_cpy pr c (((now + 1) % 13) * 773) 0 773, pf') ∧ pf' 1 = nI ((now + 1) % 13) ∧ pf' 2 = nI (ac + 1) ∧ pf' 3 = nI un := by
  unfold XX2_goForth
  have q4 : ¬ pf 3 = (0 : Int32) := by rw [h5, show (0 : Int32) = nI 0 from rfl, nI_eq (by omega) (by omega)]; omega
  have h13 : (now + 1) % 13 < 13 := Nat.mod_lt _ (by omega)
  have p1 : (pf 1 + 1) - (pf 1 + 1) / 13 * 13 = nI ((now + 1) % 13) := by rw [h3]; exact rb_nx now hn
  generalize hA : (pf 1 + 1) - (pf 1 + 1) / 13 * 13 = A at p1
  have p2 : upd pf 1 A 2 + 1 = nI (ac + 1) := by rw [rb_upn (by omega), h4]; exact nI_add ac 1
  have p3 : upd (upd pf 1 A) 2 (upd pf 1 A 2 + 1) 3 - 1 = nI un := by rw [rb_upn (by omega), rb_upn (by omega), h5]; exact rb_sub (a := un + 1) (b := 1) (by omega)
  have p4 : upd (upd (upd pf 1 A) 2 (upd pf 1 A 2 + 1)) 3 (upd (upd pf 1 A) 2 (upd pf 1 A 2 + 1) 3 - 1) 1 = nI ((now + 1) % 13) := by rw [rb_upn (by omega), rb_upn (by omega), rb_upe rfl]; exact p1
  have hcp : rb_cp pr 10049 (upd (upd (upd pf 1 A) 2 (upd pf 1 A 2 + 1)) 3 (upd (upd pf 1 A) 2 (upd pf 1 A 2 + 1) 3 - 1) 1 * 773) c 773 0 773 = some (va_cpy pr c (((now + 1) % 13) * 773) 0 773) := by
    rw [p4]
    exact (congrArg (fun t => rb_cp pr 10049 t c 773 0 773) (nI_mul ((now + 1) % 13) 773)).trans (rb_cpn (dp := 0) (n := 773) (by omega) (by omega) (by omega) (by omega))
  refine ⟨_, (if_neg q4).trans (rb_bnd (upd pf 1 A) rfl (rb_bnd _ rfl (rb_bnd _ rfl (rb_bnd _ hcp rfl)))), p4, ?_, ?_⟩
  · rw [rb_upn (by omega), rb_upe rfl]; exact p2
  · rw [rb_upe rfl]; exact p3
theorem rs_undo : rb_S_undo rb_Inv := by
  intro n μ hn h
  obtain ⟨now, ac, un, h1, h2, h3, h4, h5, h6, h7, h8, h9, h10⟩ := h.2.1
  by_cases h0 : ac = 0
  · subst h0
    exact ⟨(rb_nz (rb_nz 0), μ 5, μ 13), (rb_nz 0, μ 20, μ 19, μ 31), rb_bnd _ (if_pos h4) rfl, if_pos h6, rb_nzz0, rb_fin0 h rfl rfl rfl rfl rfl rfl rfl rfl rfl rfl rfl⟩
  · obtain ⟨m, em⟩ : ∃ m, ac = m + 1 := ⟨ac - 1, by omega⟩
    subst em
    obtain ⟨pf', e1, k1, k2, k3⟩ := rb_goBack (c := μ 5) (pr := μ 14) h1 (by omega) h3 h4 h5
    have q6 : ¬ μ 19 16 = (0 : Int32) := by rw [h6, show (0 : Int32) = nI 0 from rfl, nI_eq (by omega) (by omega)]; omega
    have m1 : μ 19 16 - 1 = nI m := by rw [h6]; exact rb_sub (a := m + 1) (b := 1) (by omega)
    have m2 : upd (μ 19) 16 (μ 19 16 - 1) 17 + 1 = nI (un + 1) := by rw [rb_upn (by omega), h7]; exact nI_add un 1
    have m3 : upd (upd (μ 19) 16 (μ 19 16 - 1)) 17 (upd (μ 19) 16 (μ 19 16 - 1) 17 + 1) 16 = nI m := by rw [rb_upn (by omega), rb_upe rfl]; exact m1
    have m4 : upd (upd (μ 19) 16 (μ 19 16 - 1)) 17 (upd (μ 19) 16 (μ 19 16 - 1) 17 + 1) 17 = nI (un + 1) := by rw [rb_upe rfl]; exact m2
    have sw := rb_swap (μ 20) (μ 31) _ (show m < 13 by omega) m3
    have h13 : (now + 12) % 13 < 13 := Nat.mod_lt _ (by omega)
    have B1 : n * 1000000 ≤ (n + 1) * 1000000 := by omega
    refine ⟨(rb_nz (rb_nz 1), _, pf'), (rb_nz 1, _, _, _), rb_bnd _ e1 rfl, (if_neg q6).trans (rb_bnd _ rfl (rb_bnd _ rfl (rb_bnd _ sw rfl))), rb_nzz1, ?_, ?_, (rb_Inv_mono n μ h).2.2⟩
    · refine rb_RB_congr (h9 m (by omega)) B1 (by omega) (fun k hk => ?_) (fun k hk => if_pos hk)
      have e : (now + 13 - (m + 1 - m)) % 13 = (now + 12) % 13 := by omega
      rw [e]
      refine (rb_vcin (by omega) (by omega)).trans (congrArg (μ 14) (by omega))
    · refine ⟨(now + 12) % 13, m, un + 1, h13, by omega, k1, k2, k3, m3, m4, fun k hk => ?_, fun i hi => ?_, fun i hi => ?_⟩
      · refine Eq.symm ((rb_vcin (by omega) (by omega)).trans (congrArg (μ 14) (by omega)))
      · have e : ((now + 12) % 13 + 13 - (m - i)) % 13 = (now + 13 - (m + 1 - i)) % 13 := by omega
        rw [e]
        exact rb_RB_congr (h9 i (by omega)) B1 (by omega) (fun _ _ => rfl) (fun k hk => if_neg (by omega))
      · by_cases e0 : i = 0
        · subst e0
          have e : ((now + 12) % 13 + 1 + 0) % 13 = now := by omega
          rw [e]
          refine rb_RB_congr h.1 B1 (by omega) (fun k hk => h8 k hk) (fun k hk => (if_pos (by omega)).trans (congrArg (μ 20) (by omega)))
        · obtain ⟨j, ej⟩ : ∃ j, i = j + 1 := ⟨i - 1, by omega⟩
          subst ej
          have e : ((now + 12) % 13 + 1 + (j + 1)) % 13 = (now + 1 + j) % 13 := by omega
          rw [e]
          refine rb_RB_congr (h10 j (by omega)) B1 (by omega) (fun _ _ => rfl) (fun k hk => (if_neg (by omega)).trans (congrArg (μ 31) (by omega)))
theorem rs_redo : rb_S_redo rb_Inv := by
  intro n μ hn h
  obtain ⟨now, ac, un, h1, h2, h3, h4, h5, h6, h7, h8, h9, h10⟩ := h.2.1
  by_cases h0 : un = 0
  · subst h0
    exact ⟨(rb_nz (rb_nz 0), μ 5, μ 13), (rb_nz 0, μ 20, μ 19, μ 31), rb_bnd _ (if_pos h5) rfl, if_pos h7, rb_nzz0, rb_fin0 h rfl rfl rfl rfl rfl rfl rfl rfl rfl rfl rfl⟩
  · obtain ⟨m, em⟩ : ∃ m, un = m + 1 := ⟨un - 1, by omega⟩
    subst em
    obtain ⟨pf', e1, k1, k2, k3⟩ := rb_goForth (c := μ 5) (pr := μ 14) h1 (by omega) (by omega) h3 h4 h5
    have q7 : ¬ μ 19 17 = (0 : Int32) := by rw [h7, show (0 : Int32) = nI 0 from rfl, nI_eq (by omega) (by omega)]; omega
    have m1 : μ 19 16 + 1 = nI (ac + 1) := by rw [h6]; exact nI_add ac 1
    have m2 : upd (μ 19) 16 (μ 19 16 + 1) 17 - 1 = nI m := by rw [rb_upn (by omega), h7]; exact rb_sub (a := m + 1) (b := 1) (by omega)
    have m3 : upd (upd (μ 19) 16 (μ 19 16 + 1)) 17 (upd (μ 19) 16 (μ 19 16 + 1) 17 - 1) 16 = nI (ac + 1) := by rw [rb_upn (by omega), rb_upe rfl]; exact m1
    have m4 : upd (upd (μ 19) 16 (μ 19 16 + 1)) 17 (upd (μ 19) 16 (μ 19 16 + 1) 17 - 1) 17 = nI m := by rw [rb_upe rfl]; exact m2
    have sw := rb_swap (μ 20) (μ 31) (μ 19) (show ac < 13 by omega) h6
    have h13 : (now + 1) % 13 < 13 := Nat.mod_lt _ (by omega)
    have B1 : n * 1000000 ≤ (n + 1) * 1000000 := by omega
    refine ⟨(rb_nz (rb_nz 1), _, pf'), (rb_nz 1, _, _, _), rb_bnd _ e1 rfl, (if_neg q7).trans (rb_bnd _ sw (rb_bnd _ rfl (rb_bnd _ rfl rfl))), rb_nzz1, ?_, ?_, (rb_Inv_mono n μ h).2.2⟩
    · refine rb_RB_congr (h10 0 (by omega)) B1 (by omega) (fun k hk => ?_) (fun k hk => (if_pos hk).trans (congrArg (μ 31) (by omega)))
      refine (rb_vcin (by omega) (by omega)).trans (congrArg (μ 14) (by omega))
    · refine ⟨(now + 1) % 13, ac + 1, m, h13, by omega, k1, k2, k3, m3, m4, fun k hk => ?_, fun i hi => ?_, fun i hi => ?_⟩
      · refine Eq.symm ((rb_vcin (by omega) (by omega)).trans (congrArg (μ 14) (by omega)))
      · by_cases e0 : i = ac
        · subst e0
          have e : ((now + 1) % 13 + 13 - (i + 1 - i)) % 13 = now := by omega
          rw [e]
          refine rb_RB_congr h.1 B1 (by omega) (fun k hk => h8 k hk) (fun k hk => (if_pos (by omega)).trans (congrArg (μ 20) (by omega)))
        · have e : ((now + 1) % 13 + 13 - (ac + 1 - i)) % 13 = (now + 13 - (ac - i)) % 13 := by omega
          rw [e]
          exact rb_RB_congr (h9 i (by omega)) B1 (by omega) (fun _ _ => rfl) (fun k hk => if_neg (by omega))
      · have e : ((now + 1) % 13 + 1 + i) % 13 = (now + 1 + (i + 1)) % 13 := by omega
        rw [e]
        refine rb_RB_congr (h10 (i + 1) (by omega)) B1 (by omega) (fun _ _ => rfl) (fun k hk => (if_neg (by omega)).trans (congrArg (μ 31) (by omega)))
theorem rs_about : rb_S_about rb_Inv := by
  intro n μ v1 hn h
  obtain ⟨now, ac, un, h1, h2, h3, h4, h5, h6, h7, h8, h9, h10⟩ := h.2.1
  obtain ⟨nn, π, s, s', hR, hB⟩ := h.1
  obtain ⟨o1, o1', p1, p2, p3⟩ := rp_bits hR
  obtain ⟨o2, o2', p4, p5, p6⟩ := rp_asleepBits hR
  subst p3 p6
  have l1 := xn_living (μ 5)
  have l2 := rp_living hR
  have i2 := yn_interestsNow hR
  have r2 : rb_rd (μ 5) 773 2 = some (nI nn) := (rb_rdn (k := 2) (by omega) (by omega)).trans (congrArg some hR.1.2.2.2.2.2.2.1)
  have r0 : rb_rd (μ 5) 773 0 = some (μ 5 0) := rb_rdn (k := 0) (by omega) (by omega)
  have r7 : rb_rd (μ 20) 796 794 = some (μ 5 0) := (rb_rdn (k := 794) (by omega) (by omega)).trans (congrArg some hR.1.1)
  have key : ∃ d, XX6_about (μ 5) (μ 13) v1 = some d ∧ XX7_about (μ 20) (μ 19) v1 = some d := by
    unfold XX6_about XX7_about
    by_cases g0 : v1 = 0
    · exact ⟨o1, (if_pos g0).trans (rb_bnd _ p1 rfl), (if_pos g0).trans (rb_bnd _ p2 rfl)⟩
    · rw [if_neg g0, if_neg g0]
      by_cases g1 : v1 = 1
      · exact ⟨nI nn, (if_pos g1).trans (rb_bnd _ r2 rfl), (if_pos g1).trans (rb_bnd _ i2 rfl)⟩
      · rw [if_neg g1, if_neg g1]
        by_cases g2 : v1 = 2
        · exact ⟨μ 5 0, (if_pos g2).trans (rb_bnd _ r0 rfl), (if_pos g2).trans (rb_bnd _ r7 rfl)⟩
        · rw [if_neg g2, if_neg g2]
          by_cases g3 : v1 = 3
          · exact ⟨o2, (if_pos g3).trans (rb_bnd _ p4 rfl), (if_pos g3).trans (rb_bnd _ p5 rfl)⟩
          · rw [if_neg g3, if_neg g3]
            by_cases g4 : v1 = 4
            · exact ⟨nI ac, (if_pos g4).trans (congrArg some h4), (if_pos g4).trans (congrArg some h6)⟩
            · rw [if_neg g4, if_neg g4]
              by_cases g5 : v1 = 5
              · exact ⟨nI un, (if_pos g5).trans (congrArg some h5), (if_pos g5).trans (congrArg some h7)⟩
              · rw [if_neg g5, if_neg g5]
                by_cases g6 : v1 = 6
                · exact ⟨_, (if_pos g6).trans (rb_bnd _ l1 rfl), (if_pos g6).trans (rb_bnd _ l2 rfl)⟩
                · rw [if_neg g6, if_neg g6]
                  exact ⟨-1, rfl, rfl⟩
  obtain ⟨d, k1, k2⟩ := key
  exact ⟨d, d, k1, k2, rfl, rb_Inv_mono n μ h⟩
theorem rb_bit4 : ∀ m, m < 4 → ((nI m &&& (1 <<< (nI 0 &&& 31)) = 0) ↔ m % 2 = 0) ∧ ((nI m &&& (1 <<< (nI 1 &&& 31)) = 0) ↔ m / 2 = 0) ∧ nI m ||| (1 <<< (nI 0 &&& 31)) = nI (m / 2 * 2 + 1) ∧ nI m ||| (1 <<< (nI 1 &&& 31)) = nI (m % 2 + 2) := by decide
theorem rp_in01 (v : Int32) : (∃ j, j < 2 ∧ v = nI j ∧ XX7_isIn v 0 1 = some (nI 1)) ∨ ((v < 0 ∨ (¬ v < 0 ∧ (2 : Int32) ≤ v)) ∧ XX7_isIn v 0 1 = some (nI 0)) := by
  rcases rp_between v (l := 0) (m := 1) (by omega) (by omega) with ⟨k, _, h2, e, _, b2⟩ | ⟨_, b2⟩
  · exact Or.inl ⟨k, by omega, e, b2⟩
  · refine Or.inr ⟨?_, b2⟩
    by_cases h0 : v < 0
    · exact Or.inl h0
    · by_cases h1 : (2 : Int32) ≤ v
      · exact Or.inr ⟨h0, h1⟩
      · exfalso
        rw [Int32.lt_iff_toInt_lt] at h0
        rw [Int32.le_iff_toInt_le] at h1
        have e0 : (0 : Int32).toInt = 0 := by decide
        have e2 : (2 : Int32).toInt = 2 := by decide
        rw [e0] at h0
        rw [e2] at h1
        rcases (show v.toInt = 0 ∨ v.toInt = 1 by omega) with g | g
        · have : v = nI 0 := Int32.toInt_inj.mp (g.trans (by decide))
          subst this
          exact absurd b2 (by decide)
        · have : v = nI 1 := Int32.toInt_inj.mp (g.trans (by decide))
          subst this
          exact absurd b2 (by decide)
theorem rb_cpb1 (c bx : rb_Row) {j : Nat} (hj : j < 2) : rb_cp c 773 0 bx 1546 (nI j * 773) 773 = some (va_cpy c bx 0 (j * 773) 773) := (congrArg (fun t => rb_cp c 773 0 bx 1546 t 773) (nI_mul j 773)).trans (rb_cpn (sp := 0) (n := 773) (by omega) (by omega) (by omega) (by omega))
theorem rb_cpb2 (bx c : rb_Row) {j : Nat} (hj : j < 2) : rb_cp bx 1546 (nI j * 773) c 773 0 773 = some (va_cpy bx c (j * 773) 0 773) := (congrArg (fun t => rb_cp bx 1546 t c 773 0 773) (nI_mul j 773)).trans (rb_cpn (dp := 0) (n := 773) (by omega) (by omega) (by omega) (by omega))
theorem rb_cpr (c pr : rb_Row) {now : Nat} (hj : now < 13) : rb_cp c 773 0 pr 10049 (nI now * 773) 773 = some (va_cpy c pr 0 (now * 773) 773) := (congrArg (fun t => rb_cp c 773 0 pr 10049 t 773) (nI_mul now 773)).trans (rb_cpn (sp := 0) (n := 773) (by omega) (by omega) (by omega) (by omega))
theorem rb_vs1 (c bx : rb_Row) {i k : Nat} (hk : k < 773) : rb_slc (va_cpy c bx 0 (i * 773) 773) 773 i k = c k := (rb_vcin (by omega) (by omega)).trans (congrArg c (by omega))
theorem rb_vs2 (c bx : rb_Row) {i j k : Nat} (hk : k < 773) (hne : i ≠ j) : rb_slc (va_cpy c bx 0 (j * 773) 773) 773 i k = bx (773 * i + k) := rb_vcout (by omega)
theorem rb_vs3 (bx c : rb_Row) {j k : Nat} (hk : k < 773) : va_cpy bx c (j * 773) 0 773 k = bx (773 * j + k) := (rb_vcin (by omega) (by omega)).trans (congrArg bx (by omega))
theorem rb_vs4 (c pr : rb_Row) {now k : Nat} (hk : k < 773) : va_cpy c pr 0 (now * 773) 773 (773 * now + k) = c k := (rb_vcin (by omega) (by omega)).trans (congrArg c (by omega))
theorem rs_image : rb_S_image rb_Inv := by
  intro n μ v1 hn h
  obtain ⟨m, h1, h2, h3, h4, h5⟩ := h.2.2
  obtain ⟨nn, π, s, s', hR, hB⟩ := h.1
  have h01 : ¬ (nI 1 = (0 : Int32)) := by decide
  have l1 := xn_living (μ 5)
  have l2 := rp_living hR
  have B1 : n * 1000000 ≤ (n + 1) * 1000000 := by omega
  rcases rp_in01 v1 with ⟨j, hj, e, b⟩ | ⟨hv, b⟩
  · subst e
    have q0 : ¬ nI j < (0 : Int32) := nI_pos (by omega)
    have q2 : nI j < (2 : Int32) := by rw [show (2 : Int32) = nI 2 from rfl, nI_ltI (by omega) (by omega)]; exact hj
    have cp := rb_cpb1 (μ 5) (μ 18) hj
    have ci := rb_cpin (μ 20) (μ 32) (nI j) j 1592 rfl (by omega) (by omega)
    have wi : rb_wr (μ 33) 2 (nI j) (rb_nz 1) = some (upd (μ 33) j (rb_nz 1)) := rb_wrn (by omega) (by omega)
    refine ⟨(_, _, _), (_, _, _), (if_neg q0).trans ((if_pos q2).trans (rb_bnd _ cp (rb_bnd _ rfl (rb_bnd _ l1 rfl)))), rb_bnd _ b ((if_neg h01).trans (rb_bnd _ ci (rb_bnd _ wi (rb_bnd _ l2 rfl)))), rfl, (rb_Inv_mono n μ h).1, (rb_Inv_mono n μ h).2.1, ?_⟩
    have hbx : ∀ i, i < 2 → upd (μ 33) j (rb_nz 1) i = nI 1 → rb_RB ((n + 1) * 1000000) (n + 1) (rb_slc (va_cpy (μ 5) (μ 18) 0 (j * 773) 773) 773 i) (rb_slc (fun k => if 796 * j ≤ k ∧ k < 796 * j + 796 then μ 20 (k - 796 * j) else μ 32 k) 796 i) := by
      intro i hi ei
      by_cases e : i = j
      · subst e
        exact rb_RB_congr h.1 B1 (by omega) (fun k hk => rb_vs1 _ _ hk) (fun k hk => (if_pos (by omega)).trans (congrArg (μ 20) (by omega)))
      · rw [rb_upn e] at ei
        exact rb_RB_congr (h5 i hi ei) B1 (by omega) (fun k hk => rb_vs2 _ _ hk e) (fun k hk => if_neg (by omega))
    obtain ⟨_, _, d3, d4⟩ := rb_bit4 m h1
    have z1 : rb_nz 1 = nI 1 := by decide
    rcases (show j = 0 ∨ j = 1 by omega) with e | e
    · subst e
      refine ⟨m / 2 * 2 + 1, by omega, ?_, ?_, ?_, hbx⟩
      · show upd (μ 0) 6 (μ 0 6 ||| (1 <<< (nI 0 &&& 31))) 6 = _
        rw [rb_upe rfl, h2]; exact d3
      · show upd (μ 33) 0 (rb_nz 1) 0 = _
        rw [rb_upe rfl, z1]; exact congrArg nI (by omega)
      · show upd (μ 33) 0 (rb_nz 1) 1 = _
        rw [rb_upn (by omega), h4]; exact congrArg nI (by omega)
    · subst e
      refine ⟨m % 2 + 2, by omega, ?_, ?_, ?_, hbx⟩
      · show upd (μ 0) 6 (μ 0 6 ||| (1 <<< (nI 1 &&& 31))) 6 = _
        rw [rb_upe rfl, h2]; exact d4
      · show upd (μ 33) 1 (rb_nz 1) 0 = _
        rw [rb_upn (by omega), h3]; exact congrArg nI (by omega)
      · show upd (μ 33) 1 (rb_nz 1) 1 = _
        rw [rb_upe rfl, z1]; exact congrArg nI (by omega)
  · have e1 : XX6_image (μ 18) (μ 0) (μ 5) v1 = some (-1, μ 18, μ 0) := by
      unfold XX6_image
      rcases hv with g | ⟨g1, g2⟩
      · exact if_pos g
      · exact (if_neg g1).trans (if_neg (rb_nlt.mp g2))
    exact ⟨(-1, μ 18, μ 0), (-1, μ 32, μ 33), e1, rb_bnd _ b (if_pos rfl), rfl, rb_fin0 h rfl rfl rfl rfl rfl rfl rfl rfl rfl rfl rfl⟩
theorem rb_cpout (bo a : rb_Row) (u : Int32) (j N : Nat) (hu : u = nI j) (hN : 796 * j + 796 ≤ N) (hN2 : N < 2000000) : rb_lp (ρ := rb_Row) (fun (s7 : Int32 × rb_Row) => if 796 ≤ s7.1 then some (.inr s7.2) else (rb_rd bo N ((796 * u) + s7.1)).bind fun v16 => (rb_wr s7.2 796 s7.1 v16).bind fun a18 => some (.inl ((s7.1 + 1), a18))) 100000 (0, a) = some (fun k => if k < 796 then bo (796 * j + k) else a k) := by
  subst hu
  refine rb_lps0 (fun i => (nI i, fun k => if k < i then bo (796 * j + k) else a k)) 796 _ ?_ ?_ ?_ (by omega)
  · refine Prod.ext rfl (funext fun k => (if_neg (Nat.not_lt_zero k) : (if k < 0 then bo (796 * j + k) else a k) = a k))
  · intro i hi
    have q1 : ¬ (796 : Int32) ≤ nI i := by rw [show (796 : Int32) = nI 796 from rfl, nI_leI (by omega) (by omega)]; omega
    have e : (796 : Int32) * nI j + nI i = nI (796 * j + i) := (congrArg (· + nI i) (nI_mul 796 j)).trans (nI_add _ _)
    have u1 : upd (fun k => if k < i then bo (796 * j + k) else a k) i (bo (796 * j + i)) = (fun k => if k < i + 1 then bo (796 * j + k) else a k) := by
      funext k
      by_cases h : k = i
      · rw [rb_upe h, if_pos (by omega), h]
      · rw [rb_upn h]
        by_cases h2 : k < i
        · rw [if_pos h2, if_pos (by omega)]
        · rw [if_neg h2, if_neg (by omega)]
    refine (if_neg q1).trans (rb_bnd _ ((congrArg (rb_rd bo N) e).trans (rb_rdn (by omega) (by omega))) (rb_bnd _ (rb_wrn (by omega) (by omega)) ?_))
    exact congrArg some (congrArg Sum.inl (Prod.ext (nI_add i 1) u1))
  · exact if_pos (by show (796 : Int32) ≤ nI 796; decide)
theorem rs_back : rb_S_back rb_Inv := by
  intro n μ v1 hn h
  obtain ⟨m, h1, h2, h3, h4, h5⟩ := h.2.2
  obtain ⟨now, ac, un, g1, g2, g3, g4, g5, g6, g7, g8, g9, g10⟩ := h.2.1
  have h01 : ¬ (nI 1 = (0 : Int32)) := by decide
  have B1 : n * 1000000 ≤ (n + 1) * 1000000 := by omega
  rcases rp_in01 v1 with ⟨j, hj, e, b⟩ | ⟨hv, b⟩
  · subst e
    have q0 : ¬ nI j < (0 : Int32) := nI_pos (by omega)
    have q2 : ¬ (2 : Int32) ≤ nI j := by rw [show (2 : Int32) = nI 2 from rfl, nI_leI (by omega) (by omega)]; omega
    have ri : rb_rd (μ 33) 2 (nI j) = some (μ 33 j) := rb_rdn (by omega) (by omega)
    obtain ⟨d1, d2, _, _⟩ := rb_bit4 m h1
    have hbit : (μ 33 j = nI 0 ∧ (μ 0 6 &&& (1 <<< (nI j &&& 31))) = 0) ∨ (μ 33 j = nI 1 ∧ ¬ (μ 0 6 &&& (1 <<< (nI j &&& 31))) = 0) := by
      rw [h2]
      rcases (show j = 0 ∨ j = 1 by omega) with e | e
      · subst e
        rw [h3]
        rcases (show m % 2 = 0 ∨ m % 2 = 1 by omega) with q | q
        · exact Or.inl ⟨by rw [q], d1.mpr q⟩
        · exact Or.inr ⟨by rw [q], fun x => by have := d1.mp x; omega⟩
      · subst e
        rw [h4]
        rcases (show m / 2 = 0 ∨ m / 2 = 1 by omega) with q | q
        · exact Or.inl ⟨by rw [q], d2.mpr q⟩
        · exact Or.inr ⟨by rw [q], fun x => by have := d2.mp x; omega⟩
    rcases hbit with ⟨i1, i2⟩ | ⟨i1, i2⟩
    · exact ⟨(-1, μ 5, μ 14, μ 13), (-1, μ 20, μ 19), (if_neg q0).trans ((if_neg q2).trans (if_pos i2)), rb_bnd _ b ((if_neg h01).trans (rb_bnd _ ri (if_pos i1))), rfl, rb_fin0 h rfl rfl rfl rfl rfl rfl rfl rfl rfl rfl rfl⟩
    · have i3 : ¬ μ 33 j = (0 : Int32) := by rw [i1]; exact h01
      have cp := rb_cpb2 (μ 18) (μ 5) hj
      have co := rb_cpout (μ 32) (μ 20) (nI j) j 1592 rfl (by omega) (by omega)
      have hRB : rb_RB ((n + 1) * 1000000) (n + 1) (va_cpy (μ 18) (μ 5) (j * 773) 0 773) (fun k => if k < 796 then μ 32 (796 * j + k) else μ 20 k) := rb_RB_congr (h5 j hj i1) B1 (by omega) (fun k hk => rb_vs3 _ _ hk) (fun k hk => if_pos hk)
      generalize va_cpy (μ 18) (μ 5) (j * 773) 0 773 = c' at cp hRB
      generalize (fun k => if k < 796 then μ 32 (796 * j + k) else μ 20 k) = a' at co hRB
      obtain ⟨n2, π2, s2, s2', hR2, _⟩ := id hRB
      have l1 := xn_living c'
      have l2 := rp_living hR2
      have x1 : upd (upd (μ 13) 2 (0 : Int32)) 3 (0 : Int32) 1 = nI now := by rw [rb_upn (by omega), rb_upn (by omega)]; exact g3
      have rs : XX2_restart (μ 14) (μ 13) c' = some (va_cpy c' (μ 14) 0 (now * 773) 773, upd (upd (μ 13) 2 (0 : Int32)) 3 (0 : Int32)) := by
        unfold XX2_restart
        refine rb_bnd _ rfl (rb_bnd _ rfl (rb_bnd _ ?_ rfl))
        rw [x1]
        exact rb_cpr c' (μ 14) g1
      refine ⟨(_, c', _, _), (_, a', _), (if_neg q0).trans ((if_neg q2).trans ((if_neg i2).trans (rb_bnd _ cp (rb_bnd _ rs (rb_bnd _ l1 rfl))))), rb_bnd _ b ((if_neg h01).trans (rb_bnd _ ri ((if_neg i3).trans (rb_bnd _ co (rb_bnd _ rfl (rb_bnd _ rfl (rb_bnd _ l2 rfl))))))), rfl, hRB, ?_, (rb_Inv_mono n μ h).2.2⟩
      refine ⟨now, 0, 0, g1, by omega, x1, ?_, ?_, ?_, ?_, fun k hk => ?_, fun i hi => absurd hi (by omega), fun i hi => absurd hi (by omega)⟩
      · show upd (upd (μ 13) 2 (0 : Int32)) 3 (0 : Int32) 2 = nI 0
        rw [rb_upn (by omega), rb_upe rfl]; rfl
      · show upd (upd (μ 13) 2 (0 : Int32)) 3 (0 : Int32) 3 = nI 0
        exact rb_upe rfl
      · show upd (upd (μ 19) 16 (0 : Int32)) 17 (0 : Int32) 16 = nI 0
        rw [rb_upn (by omega), rb_upe rfl]; rfl
      · show upd (upd (μ 19) 16 (0 : Int32)) 17 (0 : Int32) 17 = nI 0
        exact rb_upe rfl
      · exact rb_vs4 c' (μ 14) hk
  · have e1 : XX6_back (μ 5) (μ 14) (μ 13) (μ 18) (μ 0) v1 = some (-1, μ 5, μ 14, μ 13) := by
      unfold XX6_back
      rcases hv with g | ⟨g1, g2⟩
      · exact if_pos g
      · exact (if_neg g1).trans (if_pos g2)
    exact ⟨(-1, μ 5, μ 14, μ 13), (-1, μ 20, μ 19), e1, rb_bnd _ b (if_pos rfl), rfl, rb_fin0 h rfl rfl rfl rfl rfl rfl rfl rfl rfl rfl rfl⟩
