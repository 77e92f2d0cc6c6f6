theorem rb_cpx (src dst : rb_Row) : rb_lp (ρ := rb_Row) (fun (s1 : Int32 × rb_Row) => if 796 ≤ s1.1 then some (.inr s1.2) else (rb_rd src 796 s1.1).bind fun v10 => (rb_wr s1.2 796 s1.1 v10).bind fun sd12 => some (.inl ((s1.1 + 1), sd12))) 100000 (0, dst) = some (fun k => if k < 796 then src k else dst k) := by
  refine rb_lps0 (fun i => (nI i, fun k => if k < i then src k else dst k)) 796 _ ?_ ?_ ?_ (by omega)
  · refine Prod.ext rfl (funext fun k => (if_neg (Nat.not_lt_zero k) : (if k < 0 then src k else dst k) = dst k))
  · intro i hi
    have q1 : ¬ (796 : Int32) ≤ nI i := by rw [show (796 : Int32) = nI 796 from rfl, nI_leI (by omega) (by omega)]; omega
    have u1 : upd (fun k => if k < i then src k else dst k) i (src i) = (fun k => if k < i + 1 then src k else dst k) := by
      funext k
      by_cases h : k = i
      · rw [rb_upe h, if_pos (by omega), h]
      · rw [rb_upn h]
        by_cases h2 : k < i
        · rw [if_pos h2, if_pos (by omega)]
        · rw [if_neg h2, if_neg (by omega)]
    refine (if_neg q1).trans (rb_bnd _ (rb_rdn (by omega) (by omega)) (rb_bnd _ (rb_wrn (by omega) (by omega)) ?_))
    exact congrArg some (congrArg Sum.inl (Prod.ext (nI_add i 1) u1))
  · exact if_pos (by show (796 : Int32) ≤ nI 796; decide)
def rb_ovr (src dst : rb_Row) : rb_Row := fun k => if k < 796 then src k else dst k
theorem rb_ovr_in {src dst : rb_Row} {k : Nat} (h : k < 796) : rb_ovr src dst k = src k := if_pos h
theorem yn_putAside (sd a : rb_Row) : XX7_putAside sd a = some (rb_ovr a sd) := rb_bnd _ (rb_cpx a sd) rfl
theorem yn_bringBack (a sd : rb_Row) : XX7_bringBack a sd = some (rb_ovr sd a) := rb_bnd _ (rb_cpx sd a) rfl
def rb_frs (f : rb_Row) : rb_Row := upd (upd (upd f 5 (nI 0)) 6 (nI 0)) 7 (nI 0)
theorem xn_rehearse (c1 f1 c0 : rb_Row) : XX6_rehearse c1 f1 c0 = some (va_cpy c0 c1 0 0 773, rb_frs f1) :=
  rb_bnd _ (rb_bnd _ (rb_cpn (sp := 0) (dp := 0) (n := 773) (by omega) (by omega) (by omega) (by omega)) (rb_bnd _ rfl (rb_bnd _ rfl (rb_bnd _ rfl rfl)))) rfl
theorem rb_vsame {c0 c1 : rb_Row} {k : Nat} (h : k < 773) : va_cpy c0 c1 0 0 773 k = c0 k := (rb_vcin (by omega) (by omega)).trans (congrArg c0 (by omega))
theorem rb_fin2 {n : Nat} {μ μ' : rb_Mem} (h : rb_Inv n μ) (h1 : μ' 5 = μ 5) (h2 : μ' 14 = μ 14) (h3 : μ' 13 = μ 13) (h4 : ∀ k, k < 796 → μ' 20 k = μ 20 k) (h5 : μ' 19 16 = μ 19 16) (h6 : μ' 19 17 = μ 19 17) (h7 : μ' 31 = μ 31) (h8 : μ' 18 = μ 18) (h9 : μ' 0 = μ 0) (h10 : μ' 32 = μ 32) (h11 : μ' 33 = μ 33) : rb_Inv (n + 1) μ' := by
  have g := rb_Inv_mono n μ h
  refine ⟨by rw [h1]; exact rb_RB_congr g.1 (Nat.le_refl _) (Nat.le_refl _) (fun _ _ => rfl) h4, ?_, by rw [h8, h9, h10, h11]; exact g.2.2⟩
  rw [h1, h2, h3, h7]
  exact rb_HI_mono g.2.1 (Nat.le_refl _) (Nat.le_refl _) h5 h6
theorem rb_mk_zero {P : Nat → Bool} {n : Nat} (h : ∀ i, i < n → P i = false) : rb_mk P n = nI 0 := by
  induction n with
  | zero => rfl
  | succ n ih => 
    show (bif P n then _ else _) = _
    rw [h n (by omega)]
    exact ih (fun i hi => h i (by omega))
theorem rb_FED_base (c f : rb_Row) : rb_FED (upd c 5000 (nI 0)) c (rb_frs f) := by
  refine ⟨rb_G_same (fun t ht => (rb_upn (by omega)).symm), fun t ht => by rw [rb_upn (by omega)]; exact Int.le_refl _, ?_⟩
  rw [rb_mk_zero (fun i hi => by rw [rb_upn (by omega)]; simp), rb_upe rfl]
  exact rb_upe rfl
theorem rb_WOK_base (c f : rb_Row) : rb_WOK c c (rb_frs f) := by
  refine ⟨fun t _ => Or.inr rfl, fun t _ => Int.le_refl _, ?_⟩
  rw [rb_mk_zero (fun i _ => ?_)]
  · show upd (upd (upd f 5 (nI 0)) 6 (nI 0)) 7 (nI 0) 6 = _
    rw [rb_upn (by omega)]; exact rb_upe rfl
  · rw [rb_fd_all (fun t _ => by simp)]; rfl
theorem rb_CR_base (cb f mf : rb_Row) : rb_CR cb (rb_frs f) (upd mf 11 (nI 0)) := by
  refine ⟨fun _ => false, ?_, ?_⟩
  · rw [rb_mk_zero (fun i _ => rfl)]
    show upd (upd (upd f 5 (nI 0)) 6 (nI 0)) 7 (nI 0) 5 = _
    rw [rb_upn (by omega), rb_upn (by omega)]; exact rb_upe rfl
  · rw [rb_mk_zero (fun i _ => ?_)]
    · exact rb_upe rfl
    · rw [rb_fd_all (fun t _ => by simp)]; rfl
theorem rs_wakes : rb_S_wakes rb_Inv := by
  intro n μ v1 hn h
  obtain ⟨nn, π, s, s', hR, hB⟩ := h.1
  have h01 : ¬ (nI 1 = (0 : Int32)) := by decide
  have qm : ¬ (0 : Int32) ≤ mI := by decide
  rcases rp_thing hR.2.1 v1 with ⟨e1, e2⟩ | ⟨k, x, hk', hx, ev, ec, ea, hl, hw, hz, e1, e2⟩
  · exact ⟨(-1, μ 11, μ 12, μ 7), (-1, μ 20, μ 21, μ 22, μ 19, μ 23, μ 24, μ 25, μ 26, μ 29, μ 31), rb_bnd _ e1 (if_neg qm), rb_bnd _ e2 (if_pos rfl), rfl, rb_fin0 h rfl rfl rfl rfl rfl rfl rfl rfl rfl rfl rfl⟩
  · have qx : (0 : Int32) ≤ nI x := nI_pos' (by omega)
    have hc : rb_RB (n * 1000000) n (va_cpy (μ 5) (μ 11) 0 0 773) (μ 20) := rb_RB_congr h.1 (Nat.le_refl _) (Nat.le_refl _) (fun k hk => rb_vsame hk) (fun _ _ => rfl)
    have rh := xn_rehearse (μ 11) (μ 7) (μ 5)
    have hsame : ∀ k, k < 773 → va_cpy (μ 5) (μ 11) 0 0 773 k = μ 5 k := fun k hk => rb_vsame hk
    generalize va_cpy (μ 5) (μ 11) 0 0 773 = cb at hc rh hsame
    obtain ⟨ans, c', g', f', a', rd', ag', mf', na', nb', nl', sv', wa', w1, w2, ho⟩ := ra_write hc (by omega) v1 (nI 1) (nI 0) (μ 12) (rb_frs (μ 7)) (μ 21) (μ 22) (μ 19) (μ 23) (μ 24) (μ 25) (μ 26) (μ 31) (μ 19) (μ 31) (Or.inl ⟨rfl, rfl, rfl⟩)
    have pa := yn_putAside (μ 29) (μ 20)
    have bb := yn_bringBack a' (rb_ovr (μ 20) (μ 29))
    have prog : XX6_wakes (μ 11) (μ 12) (μ 7) (μ 5) v1 = some (f' 7, c', g', f') := rb_bnd _ e1 ((if_pos qx).trans (rb_bnd _ rh (rb_bnd _ w1 rfl)))
    have fin : ∀ (lp : rb_lp (ρ := Int32) (fun (s8 : Int32 × Int32) => if 6 ≤ s8.2 then some (.inr s8.1) else if ans ≤ 0 then some (.inr s8.1) else (XX7_ofTask a' s8.2 6).bind fun t18 => (XX7_taskAt s8.2 6).bind fun t20 => (rb_rd (rb_ovr (μ 20) (μ 29)) 796 t20).bind fun v22 => ((if t18 ≤ v22 then some s8.1 else some (s8.1 ||| (1 <<< (s8.2 &&& 31)))) : Option (Int32)).bind fun j24 => some (.inl (j24, (s8.2 + 1)))) 100000 (0, 0) = some (f' 7)), mf' 16 = μ 19 16 → mf' 17 = μ 19 17 → wa' = μ 31 → ∃ (o1 : Int32 × rb_Row × rb_Row × rb_Row) (o2 : Int32 × rb_Row × rb_Row × rb_Row × rb_Row × rb_Row × rb_Row × rb_Row × rb_Row × rb_Row × rb_Row), XX6_wakes (μ 11) (μ 12) (μ 7) (μ 5) v1 = some o1 ∧ XX7_wakes (μ 20) (μ 21) (μ 22) (μ 19) (μ 23) (μ 24) (μ 25) (μ 26) (μ 29) (μ 31) v1 = some o2 ∧ o1.1 = o2.1 ∧ rb_Inv (n + 1) (rb_ov (rb_ov μ [(11, o1.2.1), (12, o1.2.2.1), (7, o1.2.2.2)]) [(20, o2.2.1), (21, o2.2.2.1), (22, o2.2.2.2.1), (19, o2.2.2.2.2.1), (23, o2.2.2.2.2.2.1), (24, o2.2.2.2.2.2.2.1), (25, o2.2.2.2.2.2.2.2.1), (26, o2.2.2.2.2.2.2.2.2.1), (29, o2.2.2.2.2.2.2.2.2.2.1), (31, o2.2.2.2.2.2.2.2.2.2.2)]) := fun lp m1 m2 m3 =>
      ⟨(f' 7, c', g', f'), (f' 7, _, rd', ag', mf', na', nb', nl', sv', _, wa'), prog, rb_bnd _ e2 ((if_neg h01).trans (rb_bnd _ pa (rb_bnd _ w2 (rb_bnd _ lp (rb_bnd _ bb rfl))))), rfl, rb_fin2 h rfl rfl rfl (fun k hk => (rb_ovr_in hk).trans (rb_ovr_in hk)) m1 m2 m3 rfl rfl rfl rfl⟩
    rcases ho with ⟨d1, d2, d3, d4, d5, d6⟩ | ⟨d1, d2, d3, d4, d5, d6⟩
    · obtain ⟨n2, π2, t2, t2', hR2, _⟩ := id d2
      obtain ⟨_, fd1, fd2⟩ := d5 _ (rb_FED_base cb (μ 7))
      have fd3 : f' 7 = rb_mk (fun t => decide ((cb (575 + t)).toInt < (c' (575 + t)).toInt)) 6 := by
        rw [fd2, rb_upe rfl]
        refine (Int32.zero_or).trans (rb_mk_congr (fun t ht => by rw [rb_upn (by omega)]))
      refine fin ?_ (d3 16 (by omega) (by omega)) (d3 17 (by omega) (by omega)) d4
      rw [fd3]
      refine rb_lps0 (fun j => (rb_mk (fun t => decide ((cb (575 + t)).toInt < (c' (575 + t)).toInt)) j, nI j)) 6 _ rfl (fun j hj => ?_) (if_pos (show (6 : Int32) ≤ nI 6 by decide)) (by omega)
      have q1 : ¬ (6 : Int32) ≤ nI j := by rw [show (6 : Int32) = nI 6 from rfl, nI_leI (by omega) (by omega)]; omega
      have q2 : ¬ ans ≤ (0 : Int32) := by
        rw [Int32.le_iff_toInt_le] at d1 ⊢
        rw [nI_toInt (by omega)] at d1
        rw [show (0 : Int32).toInt = 0 by decide]
        omega
      have o6 := xn_ofTask a' (f := 6) hj (by omega)
      rw [(hR2.2.2.2.2.1 j hj).2.2.2.2.2.1] at o6
      have r6 : rb_rd (rb_ovr (μ 20) (μ 29)) 796 (nI (560 + 39 * j + 6)) = some (cb (575 + j)) := (rb_rdn (by omega) (by omega)).trans (congrArg some ((rb_ovr_in (by omega)).trans (((hR.2.2.2.2.1 j hj).2.2.2.2.2.1).trans (hsame _ (by omega)).symm)))
      by_cases g : c' (575 + j) ≤ cb (575 + j)
      · have g' : ¬ (cb (575 + j)).toInt < (c' (575 + j)).toInt := by rw [Int32.le_iff_toInt_le] at g; omega
        refine (if_neg q1).trans ((if_neg q2).trans (rb_bnd _ o6 (rb_bnd _ (xn_taskAt j 6) (rb_bnd _ r6 (rb_bnd _ (if_pos g) ?_)))))
        refine congrArg (fun u => some (Sum.inl u)) (Prod.ext ?_ (nI_add j 1))
        show rb_mk _ j = bif decide _ then _ else _
        rw [decide_eq_false g']; rfl
      · have g' : (cb (575 + j)).toInt < (c' (575 + j)).toInt := by rw [Int32.le_iff_toInt_le] at g; omega
        refine (if_neg q1).trans ((if_neg q2).trans (rb_bnd _ o6 (rb_bnd _ (xn_taskAt j 6) (rb_bnd _ r6 (rb_bnd _ (if_neg g) ?_)))))
        refine congrArg (fun u => some (Sum.inl u)) (Prod.ext ?_ (nI_add j 1))
        show rb_mk _ j ||| _ = bif decide _ then _ else _
        rw [decide_eq_true g']; rfl
    · subst d2 d3 d4 d5 d6
      have f0 : rb_frs (μ 7) 7 = nI 0 := rb_upe rfl
      refine fin ?_ rfl rfl rfl
      rw [f0]
      have q2 : ans ≤ (0 : Int32) := by
        rw [Int32.le_iff_toInt_le] at d1 ⊢
        rw [nI_toInt (by omega)] at d1
        rw [show (0 : Int32).toInt = 0 by decide]
        omega
      exact rb_lps0 (fun j => (nI 0, nI j)) 0 _ rfl (fun j hj => absurd hj (Nat.not_lt_zero j)) ((if_neg (show ¬ (6 : Int32) ≤ nI 0 by decide)).trans (if_pos q2)) (by omega)
