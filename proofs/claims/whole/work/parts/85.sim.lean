theorem rb_oqx {n K : Nat} {did : Prop} {c0 a0 mf0 wa0 mf1 wa1 c a mf wa : rb_Row} (h : rb_oq (n * 1000000) K n did c0 a0 mf0 wa0 mf1 wa1 c a mf wa) (hK : K ≤ 1000000) : (did ∧ rb_RB ((n + 1) * 1000000) (n + 1) c a ∧ mf 16 = mf1 16 ∧ mf 17 = mf1 17 ∧ wa = wa1) ∨ (¬ did ∧ c = c0 ∧ a = a0 ∧ mf = mf0 ∧ wa = wa0) := by
  rcases h with ⟨h1, h2, h3, h4, _⟩ | h
  · exact Or.inl ⟨h1, rb_RB_congr h2 (by omega) (by omega) (fun _ _ => rfl) (fun _ _ => rfl), h3 16 (by omega) (by omega), h3 17 (by omega) (by omega), h4⟩
  · exact Or.inr h
theorem rb_kf {n : Nat} {μ : rb_Mem} (h : rb_Inv n μ) {mf1 wa1 : rb_Row} (hk : XX7_keepAct (μ 19) (μ 31) (μ 20) = some (mf1, wa1)) {x ans : Int32} {c' a' mf' wa' : rb_Row} {did : Prop} (hd : did ↔ ¬ ans < x) (ho : (did ∧ rb_RB ((n + 1) * 1000000) (n + 1) c' a' ∧ mf' 16 = mf1 16 ∧ mf' 17 = mf1 17 ∧ wa' = wa1) ∨ (¬ did ∧ c' = μ 5 ∧ a' = μ 20 ∧ mf' = μ 19 ∧ wa' = μ 31)) : ∃ pr' pf', XX6_keptFrom (μ 14) (μ 13) c' x ans = some (ans, pr', pf') ∧ ∀ μ' : rb_Mem, μ' 5 = c' → μ' 14 = pr' → μ' 13 = pf' → μ' 20 = a' → μ' 19 = mf' → μ' 31 = wa' → μ' 18 = μ 18 → μ' 0 = μ 0 → μ' 32 = μ 32 → μ' 33 = μ 33 → rb_Inv (n + 1) μ' := by
  unfold XX6_keptFrom
  rcases ho with ⟨h1, h2, h3, h4, h5⟩ | ⟨h1, h2, h3, h4, h5⟩
  · obtain ⟨pr', pf', e, hH⟩ := rb_fin1 h h2 hk
    exact ⟨pr', pf', (if_neg (hd.mp h1)).trans (rb_bnd _ e rfl), fun μ' g1 g2 g3 g4 g5 g6 g7 g8 g9 g10 => hH μ' g1 g2 g3 g4 (by rw [g5]; exact h3) (by rw [g5]; exact h4) (g6.trans h5) g7 g8 g9 g10⟩
  · refine ⟨μ 14, μ 13, if_pos (Decidable.not_not.mp (fun hh => h1 (hd.mpr hh))), fun μ' g1 g2 g3 g4 g5 g6 g7 g8 g9 g10 => rb_fin0 h (g1.trans h2) g2 g3 (g4.trans h3) (by rw [g5, h4]) (by rw [g5, h4]) (g6.trans h5) g7 g8 g9 g10⟩
theorem rb_ki {n : Nat} {μ : rb_Mem} (h : rb_Inv n μ) {mf1 wa1 : rb_Row} (hk : XX7_keepAct (μ 19) (μ 31) (μ 20) = some (mf1, wa1)) {ans : Int32} {c' a' mf' wa' : rb_Row} {did : Prop} (hd : did ↔ ans ≠ nI 0) (ho : (did ∧ rb_RB ((n + 1) * 1000000) (n + 1) c' a' ∧ mf' 16 = mf1 16 ∧ mf' 17 = mf1 17 ∧ wa' = wa1) ∨ (¬ did ∧ c' = μ 5 ∧ a' = μ 20 ∧ mf' = μ 19 ∧ wa' = μ 31)) : ∃ pr' pf', XX6_keptIf (μ 14) (μ 13) c' ans = some (rb_nz ans, pr', pf') ∧ ∀ μ' : rb_Mem, μ' 5 = c' → μ' 14 = pr' → μ' 13 = pf' → μ' 20 = a' → μ' 19 = mf' → μ' 31 = wa' → μ' 18 = μ 18 → μ' 0 = μ 0 → μ' 32 = μ 32 → μ' 33 = μ 33 → rb_Inv (n + 1) μ' := by
  unfold XX6_keptIf
  rcases ho with ⟨h1, h2, h3, h4, h5⟩ | ⟨h1, h2, h3, h4, h5⟩
  · obtain ⟨pr', pf', e, hH⟩ := rb_fin1 h h2 hk
    exact ⟨pr', pf', (if_neg (hd.mp h1)).trans (rb_bnd _ e rfl), fun μ' g1 g2 g3 g4 g5 g6 g7 g8 g9 g10 => hH μ' g1 g2 g3 g4 (by rw [g5]; exact h3) (by rw [g5]; exact h4) (g6.trans h5) g7 g8 g9 g10⟩
  · refine ⟨μ 14, μ 13, if_pos (Decidable.not_not.mp (fun hh => h1 (hd.mpr hh))), fun μ' g1 g2 g3 g4 g5 g6 g7 g8 g9 g10 => rb_fin0 h (g1.trans h2) g2 g3 (g4.trans h3) (by rw [g5, h4]) (by rw [g5, h4]) (g6.trans h5) g7 g8 g9 g10⟩
theorem rb_nlt {x y : Int32} : y ≤ x ↔ ¬ x < y := by rw [Int32.le_iff_toInt_le, Int32.lt_iff_toInt_lt]; omega
theorem rs_write : rb_S_write rb_Inv := by
  intro n μ v1 v2 hn h
  obtain ⟨mf1, wa1, hk, hm⟩ := rb_Kex h
  obtain ⟨ans, c', g', f', a', rd', ag', mf', na', nb', nl', sv', wa', e1, e2, ho⟩ := ra_write h.1 (by omega) v1 v2 (nI 1) (μ 6) (μ 1) (μ 21) (μ 22) (μ 19) (μ 23) (μ 24) (μ 25) (μ 26) (μ 31) mf1 wa1 (Or.inr ⟨rfl, hk⟩)
  obtain ⟨pr', pf', e3, hI⟩ := rb_kf h hk (x := nI 1) rb_nlt (rb_oqx (rb_oq_out ho) (by omega))
  exact ⟨(ans, c', g', f', pr', pf'), (ans, a', rd', ag', mf', na', nb', nl', sv', wa'), rb_bnd _ e1 (rb_bnd _ e3 rfl), rb_bnd _ e2 rfl, rfl, hI _ rfl rfl rfl rfl rfl rfl rfl rfl rfl rfl⟩
theorem rs_read : rb_S_read rb_Inv := by
  intro n μ v1 v2 hn h
  obtain ⟨mf1, wa1, hk, hm⟩ := rb_Kex h
  obtain ⟨ans, c', g', f', a', rd', ag', mf', na', nb', nl', sv', wa', e1, e2, ho⟩ := ra_read h.1 (by omega) v1 v2 (nI 1) (μ 6) (μ 1) (μ 21) (μ 22) (μ 19) (μ 23) (μ 24) (μ 25) (μ 26) (μ 31) mf1 wa1 (Or.inr ⟨rfl, hk⟩)
  obtain ⟨pr', pf', e3, hI⟩ := rb_kf h hk (x := nI 1) rb_nlt (rb_oqx (rb_oq_out ho) (by omega))
  exact ⟨(ans, c', g', f', pr', pf'), (ans, a', rd', ag', mf', na', nb', nl', sv', wa'), rb_bnd _ e1 (rb_bnd _ e3 rfl), rb_bnd _ e2 rfl, rfl, hI _ rfl rfl rfl rfl rfl rfl rfl rfl rfl rfl⟩
theorem rs_connect : rb_S_connect rb_Inv := by
  intro n μ v1 hn h
  obtain ⟨mf1, wa1, hk, hm⟩ := rb_Kex h
  obtain ⟨ans, c', g', f', a', rd', ag', mf', na', nb', nl', sv', wa', e1, e2, ho⟩ := ra_connect h.1 (by omega) v1 (nI 1) (μ 6) (μ 1) (μ 21) (μ 22) (μ 19) (μ 23) (μ 24) (μ 25) (μ 26) (μ 31) mf1 wa1 (Or.inr ⟨rfl, hk⟩)
  obtain ⟨pr', pf', e3, hI⟩ := rb_kf h hk (x := nI 0) rb_nlt (rb_oqx ho (by omega))
  exact ⟨(ans, c', g', f', pr', pf'), (ans, a', rd', ag', mf', na', nb', nl', sv', wa'), rb_bnd _ e1 (rb_bnd _ e3 rfl), rb_bnd _ e2 rfl, rfl, hI _ rfl rfl rfl rfl rfl rfl rfl rfl rfl rfl⟩
theorem rs_accept : rb_S_accept rb_Inv := by
  intro n μ v1 hn h
  obtain ⟨mf1, wa1, hk, hm⟩ := rb_Kex h
  obtain ⟨ans, c', a', mf', wa', e1, e2, ho⟩ := ra_accept h.1 (by omega) v1 (nI 1) (μ 19) (μ 31) mf1 wa1 (Or.inr ⟨rfl, hk⟩)
  obtain ⟨pr', pf', e3, hI⟩ := rb_kf h hk (x := nI 0) rb_nlt (rb_oqx ho (by omega))
  exact ⟨(ans, c', pr', pf'), (ans, a', mf', wa'), rb_bnd _ e1 (rb_bnd _ e3 rfl), rb_bnd _ e2 rfl, rfl, hI _ rfl rfl rfl rfl rfl rfl rfl rfl rfl rfl⟩
theorem rs_close : rb_S_close rb_Inv := by
  intro n μ v1 hn h
  obtain ⟨mf1, wa1, hk, hm⟩ := rb_Kex h
  obtain ⟨ans, c', g', f', a', rd', ag', mf', na', nb', nl', sv', wa', e1, e2, h01, ho⟩ := ra_close h.1 (by omega) v1 (nI 1) (μ 6) (μ 1) (μ 21) (μ 22) (μ 19) (μ 23) (μ 24) (μ 25) (μ 26) (μ 31) mf1 wa1 (Or.inr ⟨rfl, hk⟩)
  obtain ⟨pr', pf', e3, hI⟩ := rb_ki h hk Iff.rfl (rb_oqx ho (by omega))
  have hz : rb_nz (rb_nz ans) = rb_nz ans := by rcases h01 with e | e <;> (rw [e]; decide)
  exact ⟨(rb_nz (rb_nz ans), c', g', f', pr', pf'), (rb_nz ans, a', rd', ag', mf', na', nb', nl', sv', wa'), rb_bnd _ e1 (rb_bnd _ e3 rfl), rb_bnd _ e2 rfl, hz, hI _ rfl rfl rfl rfl rfl rfl rfl rfl rfl rfl⟩
theorem rs_collect : rb_S_collect rb_Inv := by
  intro n μ v1 v2 v3 hn h
  obtain ⟨mf1, wa1, hk, hm⟩ := rb_Kex h
  obtain ⟨ans, c', g', a', rd', ag', mf', wa', e1, e2, ho⟩ := ra_collect h.1 (by omega) v1 v2 v3 (nI 1) (μ 6) (μ 21) (μ 22) (μ 19) (μ 31) mf1 wa1 (Or.inr ⟨rfl, hk⟩)
  obtain ⟨pr', pf', e3, hI⟩ := rb_kf h hk (x := nI 0) rb_nlt (rb_oqx ho (by omega))
  exact ⟨(ans, c', g', pr', pf'), (ans, a', rd', ag', mf', wa'), rb_bnd _ e1 (rb_bnd _ e3 rfl), rb_bnd _ e2 rfl, rfl, hI _ rfl rfl rfl rfl rfl rfl rfl rfl rfl rfl⟩
theorem rs_await : rb_S_await rb_Inv := by
  intro n μ v1 v2 v3 v4 hn h
  obtain ⟨mf1, wa1, hk, hm⟩ := rb_Kex h
  obtain ⟨ans, c', g', a', rd', ag', mf', wa', e1, e2, ho⟩ := ra_await h.1 (by omega) v1 v2 v3 v4 (nI 1) (μ 6) (μ 21) (μ 22) (μ 19) (μ 31) mf1 wa1 (Or.inr ⟨rfl, hk⟩)
  by_cases hd : ans = mI
  · obtain ⟨pr', pf', e3, hI⟩ := rb_ki h hk (ans := nI 0) (did := ans ≠ mI) (by simp [hd]) (rb_oqx ho (by omega))
    exact ⟨(ans, c', g', pr', pf'), (ans, a', rd', ag', mf', wa'), rb_bnd _ e1 (rb_bnd (nI 0) (if_pos hd) (rb_bnd _ e3 rfl)), rb_bnd _ e2 rfl, rfl, hI _ rfl rfl rfl rfl rfl rfl rfl rfl rfl rfl⟩
  · have h10 : nI 1 ≠ nI 0 := by decide
    obtain ⟨pr', pf', e3, hI⟩ := rb_ki h hk (ans := nI 1) (did := ans ≠ mI) (by simp [hd, h10]) (rb_oqx ho (by omega))
    exact ⟨(ans, c', g', pr', pf'), (ans, a', rd', ag', mf', wa'), rb_bnd _ e1 (rb_bnd (nI 1) (if_neg hd) (rb_bnd _ e3 rfl)), rb_bnd _ e2 rfl, rfl, hI _ rfl rfl rfl rfl rfl rfl rfl rfl rfl rfl⟩
theorem rs_add : rb_S_add rb_Inv := by
  intro n μ v1 v2 v3 v4 hn h
  obtain ⟨mf1, wa1, hk, hm⟩ := rb_Kex h
  obtain ⟨ans, c', g', f', a', rd', ag', mf', na', nb', nl', sv', be', ab', wa', e1, e2, ho⟩ := ra_add h.1 (by omega) v1 v2 v3 v4 (μ 6) (μ 1) (μ 21) (μ 22) (μ 19) (μ 23) (μ 24) (μ 25) (μ 26) (μ 27) (μ 28) (μ 31) mf1 wa1 hk
  have ho' : (nI 1 ≤ ans ∧ rb_RB ((n + 1) * 1000000) (n + 1) c' a' ∧ mf' 16 = mf1 16 ∧ mf' 17 = mf1 17 ∧ wa' = wa1) ∨ (¬ nI 1 ≤ ans ∧ c' = μ 5 ∧ a' = μ 20 ∧ mf' = μ 19 ∧ wa' = μ 31) := by
    rcases ho with ⟨g1, g2, g3, g4⟩ | g
    · exact Or.inl ⟨g1, rb_RB_congr g2 (by omega) (by omega) (fun _ _ => rfl) (fun _ _ => rfl), g3 16 (by omega) (by omega), g3 17 (by omega) (by omega), g4⟩
    · exact Or.inr g
  obtain ⟨pr', pf', e3, hI⟩ := rb_kf h hk (x := nI 1) rb_nlt ho'
  exact ⟨(ans, c', g', f', pr', pf'), (ans, a', rd', ag', mf', na', nb', nl', sv', be', ab', wa'), rb_bnd _ e1 (rb_bnd _ e3 rfl), e2, rfl, hI _ rfl rfl rfl rfl rfl rfl rfl rfl rfl rfl⟩
theorem rs_other : rb_S_other rb_Inv := by
  intro n μ v1 hn h
  obtain ⟨d, e1, e2⟩ := ra_other h.1 v1
  exact ⟨d, d, e1, e2, rfl, rb_Inv_mono n μ h⟩
theorem rs_depth : rb_S_depth rb_Inv := by
  intro n μ v1 hn h
  obtain ⟨d, be', ab', e1, e2⟩ := ra_depth h.1 v1 (μ 27) (μ 28)
  exact ⟨d, (d, be', ab'), e1, e2, rfl, rb_fin0 h rfl rfl rfl rfl rfl rfl rfl rfl rfl rfl rfl⟩
theorem rs_task : rb_S_task rb_Inv := by
  intro n μ v1 v2 hn h
  obtain ⟨d, e1, e2⟩ := ra_task h.1 v1 v2
  exact ⟨d, d, e1, e2, rfl, rb_Inv_mono n μ h⟩
theorem rs_got : rb_S_got rb_Inv := by
  intro n μ v1 v2 v3 hn h
  obtain ⟨d, e1, e2⟩ := ra_got h.1 v1 v2 v3
  exact ⟨d, d, e1, e2, rfl, rb_Inv_mono n μ h⟩
