def rb_HI (B q : Nat) (c pr pf mf wa : rb_Row) : Prop := ∃ now ac un, now < 13 ∧ ac + un ≤ 12 ∧ pf 1 = nI now ∧ pf 2 = nI ac ∧ pf 3 = nI un ∧ mf 16 = nI ac ∧ mf 17 = nI un ∧ (∀ k, k < 773 → pr (773 * now + k) = c k) ∧ (∀ i, i < ac → rb_RB B q (rb_slc pr 773 ((now + 13 - (ac - i)) % 13)) (rb_slc wa 796 i)) ∧ (∀ i, i < un → rb_RB B q (rb_slc pr 773 ((now + 1 + i) % 13)) (rb_slc wa 796 (ac + i)))
theorem rb_HI_mono {B q B' q' : Nat} {c pr pf mf wa mf' : rb_Row} (h : rb_HI B q c pr pf mf wa) (hB : B ≤ B') (hq : q ≤ q') (e1 : mf' 16 = mf 16) (e2 : mf' 17 = mf 17) : rb_HI B' q' c pr pf mf' wa := by
  obtain ⟨now, ac, un, h1, h2, h3, h4, h5, h6, h7, h8, h9, h10⟩ := h
  exact ⟨now, ac, un, h1, h2, h3, h4, h5, e1.trans h6, e2.trans h7, h8, fun i hi => rb_RB_congr (h9 i hi) hB hq (fun _ _ => rfl) (fun _ _ => rfl), fun i hi => rb_RB_congr (h10 i hi) hB hq (fun _ _ => rfl) (fun _ _ => rfl)⟩
theorem rp_keepAct {mf wa : rb_Row} {ac : Nat} (hac : ac ≤ 12) (e : mf 16 = nI ac) (a : rb_Row) : ∃ mf1 wa1, XX7_keepAct mf wa a = some (mf1, wa1) ∧ (∀ k, k ≠ 16 → k ≠ 17 → mf1 k = mf k) ∧ mf1 17 = nI 0 ∧ ((ac < 12 ∧ mf1 16 = nI (ac + 1) ∧ wa1 = (fun k => if 796 * ac ≤ k ∧ k < 796 * ac + 796 then a (k - 796 * ac) else wa k)) ∨ (ac = 12 ∧ mf1 16 = nI 12 ∧ wa1 = (fun k => if 796 * 11 ≤ k ∧ k < 796 * 11 + 796 then a (k - 796 * 11) else if k < 9552 then wa (k + 796) else wa k))) := by
  unfold XX7_keepAct
  by_cases h : ac = 12
  · subst h
    have g : mf 16 = (12 : Int32) := e
    have p1 : mf 16 - 1 = nI 11 := by rw [g]; decide
    have p2 : upd mf 16 (mf 16 - 1) 16 = nI 11 := (rb_upe rfl).trans p1
    refine ⟨_, _, rb_bnd _ ((if_pos g).trans (rb_bnd _ (rb_shift wa) (rb_bnd (upd mf 16 (mf 16 - 1)) rfl rfl))) (rb_bnd _ (rb_cpin a _ _ 11 10348 p2 (by omega) (by omega)) (rb_bnd (upd (upd mf 16 (mf 16 - 1)) 16 (nI 11 + 1)) (congrArg (fun v => some (upd (upd mf 16 (mf 16 - 1)) 16 (v + 1))) p2) (rb_bnd _ rfl rfl))), fun k h1 h2 => ?_, ?_, Or.inr ⟨rfl, ?_, rfl⟩⟩
    · show upd (upd (upd mf 16 _) 16 _) 17 _ k = _
      rw [rb_upn h2, rb_upn h1, rb_upn h1]
    · show upd (upd (upd mf 16 _) 16 _) 17 _ 17 = _
      exact rb_upe rfl
    · show upd (upd (upd mf 16 _) 16 _) 17 _ 16 = _
      rw [rb_upn (by omega)]
      exact (rb_upe rfl).trans (by decide)
  · have g : ¬ mf 16 = (12 : Int32) := by rw [e, show (12 : Int32) = nI 12 from rfl, nI_eq (by omega) (by omega)]; exact h
    refine ⟨_, _, rb_bnd (mf, wa) (if_neg g) (rb_bnd _ (rb_cpin a wa _ ac 10348 e (by omega) (by omega)) (rb_bnd (upd mf 16 (nI (ac + 1))) (congrArg (fun v => some (upd mf 16 v)) ((congrArg (· + 1) e).trans (nI_add ac 1))) (rb_bnd _ rfl rfl))), fun k h1 h2 => ?_, ?_, Or.inl ⟨by omega, ?_, rfl⟩⟩
    · show upd (upd mf 16 _) 17 _ k = _
      rw [rb_upn h2, rb_upn h1]
    · show upd (upd mf 16 _) 17 _ 17 = _
      exact rb_upe rfl
    · show upd (upd mf 16 _) 17 _ 16 = _
      rw [rb_upn (by omega)]
      exact rb_upe rfl
theorem rb_nx : ∀ j, j < 13 → (nI j + 1) - (nI j + 1) / 13 * 13 = nI ((j + 1) % 13) := by decide
theorem rb_pv : ∀ j, j < 13 → ((nI j + 13) - 1) - ((nI j + 13) - 1) / 13 * 13 = nI ((j + 12) % 13) := by decide
theorem rb_mn : ∀ j, j < 13 → rb_min 12 (nI j + 1) = nI (min 12 (j + 1)) := by decide
theorem rb_vcin {f g : rb_Row} {sp dp n k : Nat} (h1 : dp ≤ k) (h2 : k < dp + n) : va_cpy f g sp dp n k = f (sp + (k - dp)) := if_pos ⟨h1, h2⟩
theorem rb_vcout {f g : rb_Row} {sp dp n k : Nat} (h : ¬ (dp ≤ k ∧ k < dp + n)) : va_cpy f g sp dp n k = g k := if_neg h
theorem rb_keep {pr pf : rb_Row} {now ac : Nat} (hn : now < 13) (hac : ac ≤ 12) (e1 : pf 1 = nI now) (e2 : pf 2 = nI ac) (c : rb_Row) : ∃ pf', XX2_keep pr pf c = some (va_cpy c pr 0 (((now + 1) % 13) * 773) 773, pf') ∧ pf' 1 = nI ((now + 1) % 13) ∧ pf' 2 = nI (min 12 (ac + 1)) ∧ pf' 3 = nI 0 := by
  unfold XX2_keep
  have p1 : pf 1 + 1 - (pf 1 + 1) / 13 * 13 = nI ((now + 1) % 13) := by rw [e1]; exact rb_nx now hn
  have p2 : rb_min 12 (upd pf 1 (pf 1 + 1 - (pf 1 + 1) / 13 * 13) 2 + 1) = nI (min 12 (ac + 1)) := by rw [rb_upn (by omega), e2]; exact rb_mn ac (by omega)
  have p3 : upd (upd (upd pf 1 (pf 1 + 1 - (pf 1 + 1) / 13 * 13)) 2 (rb_min 12 (upd pf 1 (pf 1 + 1 - (pf 1 + 1) / 13 * 13) 2 + 1))) 3 (0 : Int32) 1 = nI ((now + 1) % 13) := by rw [rb_upn (by omega), rb_upn (by omega), rb_upe rfl, p1]
  have h13 : (now + 1) % 13 < 13 := Nat.mod_lt _ (by omega)
  have hcp : rb_cp c 773 0 pr 10049 (upd (upd (upd pf 1 (pf 1 + 1 - (pf 1 + 1) / 13 * 13)) 2 (rb_min 12 (upd pf 1 (pf 1 + 1 - (pf 1 + 1) / 13 * 13) 2 + 1))) 3 (0 : Int32) 1 * 773) 773 = some (va_cpy c pr 0 (((now + 1) % 13) * 773) 773) := by
    rw [p3]
    exact (congrArg (fun t => rb_cp c 773 0 pr 10049 t 773) (nI_mul ((now + 1) % 13) 773)).trans (rb_cpn (sp := 0) (n := 773) (by omega) (by omega) (by omega) (by omega))
  refine ⟨_, rb_bnd _ rfl (rb_bnd _ rfl (rb_bnd _ rfl (rb_bnd _ hcp rfl))), p3, ?_, ?_⟩
  · rw [rb_upn (by omega), rb_upe rfl, p2]
  · exact rb_upe rfl
theorem rb_HI_keep {B q : Nat} {c a pr pf mf wa mf1 wa1 : rb_Row} (h : rb_HI B q c pr pf mf wa) (hR : rb_RB B q c a) (hk : XX7_keepAct mf wa a = some (mf1, wa1)) (c' : rb_Row) : ∃ pr' pf', XX2_keep pr pf c' = some (pr', pf') ∧ ∀ mf', mf' 16 = mf1 16 → mf' 17 = mf1 17 → rb_HI B q c' pr' pf' mf' wa1 := by
  obtain ⟨now, ac, un, h1, h2, h3, h4, h5, h6, h7, h8, h9, h10⟩ := h
  obtain ⟨pf', ek, k1, k2, k3⟩ := rb_keep h1 (by omega) h3 h4 c'
  obtain ⟨mf2, wa2, ea, m1, m2, m3⟩ := rp_keepAct (wa := wa) (show ac ≤ 12 by omega) h6 a
  rw [hk] at ea
  have ee := Prod.mk.inj (Option.some.inj ea)
  obtain ⟨ee1, ee2⟩ := ee
  subst ee1 ee2
  refine ⟨_, pf', ek, fun mf' e1 e2 => ?_⟩
  have h13 : (now + 1) % 13 < 13 := Nat.mod_lt _ (by omega)
  have s1 : ∀ p k, p < 13 → p ≠ (now + 1) % 13 → k < 773 → rb_slc (va_cpy c' pr 0 (((now + 1) % 13) * 773) 773) 773 p k = rb_slc pr 773 p k := by
    intro p k hp hne hk
    exact rb_vcout (by omega)
  rcases m3 with ⟨g1, g2, g3⟩ | ⟨g1, g2, g3⟩
  · refine ⟨(now + 1) % 13, ac + 1, 0, h13, by omega, k1, by rw [k2, Nat.min_eq_right (by omega)], k3, e1.trans g2, e2.trans m2, fun k hk => ?_, fun i hi => ?_, fun i hi => absurd hi (by omega)⟩
    · rw [rb_vcin (by omega) (by omega)]
      congr 1; omega
    · subst g3
      by_cases hi2 : i = ac
      · subst hi2
        have e : ((now + 1) % 13 + 13 - (i + 1 - i)) % 13 = now := by omega
        rw [e]
        refine rb_RB_congr hR (Nat.le_refl _) (Nat.le_refl _) (fun k hk => ?_) (fun k hk => ?_)
        · rw [s1 now k h1 (by omega) hk]; exact h8 k hk
        · show (if 796 * i ≤ 796 * i + k ∧ 796 * i + k < 796 * i + 796 then a (796 * i + k - 796 * i) else _) = _
          rw [if_pos (by omega)]; exact congrArg a (by omega)
      · have e : ((now + 1) % 13 + 13 - (ac + 1 - i)) % 13 = (now + 13 - (ac - i)) % 13 := by omega
        rw [e]
        refine rb_RB_congr (h9 i (by omega)) (Nat.le_refl _) (Nat.le_refl _) (fun k hk => ?_) (fun k hk => ?_)
        · exact s1 _ k (Nat.mod_lt _ (by omega)) (by omega) hk
        · exact if_neg (by omega)
  · subst g1
    refine ⟨(now + 1) % 13, 12, 0, h13, by omega, k1, by rw [k2]; rfl, k3, e1.trans g2, e2.trans m2, fun k hk => ?_, fun i hi => ?_, fun i hi => absurd hi (by omega)⟩
    · rw [rb_vcin (by omega) (by omega)]
      congr 1; omega
    · subst g3
      by_cases hi2 : i = 11
      · subst hi2
        have e : ((now + 1) % 13 + 13 - (12 - 11)) % 13 = now := by omega
        rw [e]
        refine rb_RB_congr hR (Nat.le_refl _) (Nat.le_refl _) (fun k hk => ?_) (fun k hk => ?_)
        · rw [s1 now k h1 (by omega) hk]; exact h8 k hk
        · show (if 796 * 11 ≤ 796 * 11 + k ∧ 796 * 11 + k < 796 * 11 + 796 then a (796 * 11 + k - 796 * 11) else _) = _
          rw [if_pos (by omega)]; exact congrArg a (by omega)
      · have e : ((now + 1) % 13 + 13 - (12 - i)) % 13 = (now + 13 - (12 - (i + 1))) % 13 := by omega
        rw [e]
        refine rb_RB_congr (h9 (i + 1) (by omega)) (Nat.le_refl _) (Nat.le_refl _) (fun k hk => ?_) (fun k hk => ?_)
        · exact s1 _ k (Nat.mod_lt _ (by omega)) (by omega) hk
        · show (if 796 * 11 ≤ 796 * i + k ∧ 796 * i + k < 796 * 11 + 796 then _ else if 796 * i + k < 9552 then wa (796 * i + k + 796) else _) = wa (796 * (i + 1) + k)
          rw [if_neg (by omega), if_pos (by omega)]; exact congrArg wa (by omega)
def rb_BX (B q : Nat) (bx rf bo ib : rb_Row) : Prop := ∃ m, m < 4 ∧ rf 6 = nI m ∧ ib 0 = nI (m % 2) ∧ ib 1 = nI (m / 2) ∧ ∀ j, j < 2 → ib j = nI 1 → rb_RB B q (rb_slc bx 773 j) (rb_slc bo 796 j)
theorem rb_BX_mono {B q B' q' : Nat} {bx rf bo ib : rb_Row} (h : rb_BX B q bx rf bo ib) (hB : B ≤ B') (hq : q ≤ q') : rb_BX B' q' bx rf bo ib := by
  obtain ⟨m, h1, h2, h3, h4, h5⟩ := h
  exact ⟨m, h1, h2, h3, h4, fun j hj e => rb_RB_congr (h5 j hj e) hB hq (fun _ _ => rfl) (fun _ _ => rfl)⟩
def rb_Inv (n : Nat) (μ : rb_Mem) : Prop := rb_RB (n * 1000000) n (μ 5) (μ 20) ∧ rb_HI (n * 1000000) n (μ 5) (μ 14) (μ 13) (μ 19) (μ 31) ∧ rb_BX (n * 1000000) n (μ 18) (μ 0) (μ 32) (μ 33)
theorem rb_Inv_mono (n : Nat) (μ : rb_Mem) (h : rb_Inv n μ) : rb_Inv (n + 1) μ :=
  ⟨rb_RB_congr h.1 (by omega) (by omega) (fun _ _ => rfl) (fun _ _ => rfl), rb_HI_mono h.2.1 (by omega) (by omega) rfl rfl, rb_BX_mono h.2.2 (by omega) (by omega)⟩
theorem rb_fin0 {n : Nat} {μ μ' : rb_Mem} (h : rb_Inv n μ) (h1 : μ' 5 = μ 5) (h2 : μ' 14 = μ 14) (h3 : μ' 13 = μ 13) (h4 : μ' 20 = μ 20) (h5 : μ' 19 16 = μ 19 16) (h6 : μ' 19 17 = μ 19 17) (h7 : μ' 31 = μ 31) (h8 : μ' 18 = μ 18) (h9 : μ' 0 = μ 0) (h10 : μ' 32 = μ 32) (h11 : μ' 33 = μ 33) : rb_Inv (n + 1) μ' := by
  have g := rb_Inv_mono n μ h
  refine ⟨by rw [h1, h4]; exact g.1, ?_, by rw [h8, h9, h10, h11]; exact g.2.2⟩
  rw [h1, h2, h3, h7]
  exact rb_HI_mono g.2.1 (Nat.le_refl _) (Nat.le_refl _) h5 h6
theorem rb_fin1 {n : Nat} {μ : rb_Mem} (h : rb_Inv n μ) {c' a' mf1 wa1 : rb_Row} (hR : rb_RB ((n + 1) * 1000000) (n + 1) c' a') (hk : XX7_keepAct (μ 19) (μ 31) (μ 20) = some (mf1, wa1)) : ∃ pr' pf', XX2_keep (μ 14) (μ 13) c' = some (pr', pf') ∧ ∀ μ' : rb_Mem, μ' 5 = c' → μ' 14 = pr' → μ' 13 = pf' → μ' 20 = a' → μ' 19 16 = mf1 16 → μ' 19 17 = mf1 17 → μ' 31 = wa1 → μ' 18 = μ 18 → μ' 0 = μ 0 → μ' 32 = μ 32 → μ' 33 = μ 33 → rb_Inv (n + 1) μ' := by
  obtain ⟨pr', pf', e, hH⟩ := rb_HI_keep h.2.1 h.1 hk c'
  refine ⟨pr', pf', e, fun μ' h1 h2 h3 h4 h5 h6 h7 h8 h9 h10 h11 => ⟨by rw [h1, h4]; exact hR, ?_, by rw [h8, h9, h10, h11]; exact (rb_Inv_mono n μ h).2.2⟩⟩
  rw [h1, h2, h3, h7]
  exact rb_HI_mono (hH (μ' 19) h5 h6) (by omega) (by omega) rfl rfl
theorem rb_Kex {n : Nat} {μ : rb_Mem} (h : rb_Inv n μ) : ∃ mf1 wa1, XX7_keepAct (μ 19) (μ 31) (μ 20) = some (mf1, wa1) ∧ ∀ k, k ≠ 16 → k ≠ 17 → mf1 k = μ 19 k := by
  obtain ⟨now, ac, un, h1, h2, h3, h4, h5, h6, h7, h8, h9, h10⟩ := h.2.1
  obtain ⟨mf2, wa2, ea, m1, m2, m3⟩ := rp_keepAct (wa := μ 31) (show ac ≤ 12 by omega) h6 (μ 20)
  exact ⟨mf2, wa2, ea, m1⟩
