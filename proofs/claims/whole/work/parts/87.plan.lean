theorem rb_nzz1 : rb_nz (rb_nz 1) = rb_nz 1 := by decide
theorem rb_nzz0 : rb_nz (rb_nz 0) = rb_nz 0 := by decide
theorem rR_prog {z W q n : Nat} {π : Nat → Nat} {s s' : Nat} {c a c' a' : rb_Row} (h : rR z W q n π s s' c a) {t lz : Nat} (ht : t < 6) (hlz : lz ≤ 4) (hcx : ∀ k, k ≠ 593 + t → k ≠ 599 + t → (k < 605 ∨ 677 ≤ k) → c' k = c k) (hoth : ∀ u k, u < 6 → u ≠ t → k < 4 → c' (605 + u * 4 + k) = c (605 + u * 4 + k) ∧ c' (629 + u * 4 + k) = c (629 + u * 4 + k) ∧ c' (653 + u * 4 + k) = c (653 + u * 4 + k)) (ha' : ∀ k, (k < 560 + 39 * t + 9 ∨ 560 + 39 * t + 22 ≤ k) → k ≠ 560 + 39 * t + 38 → a' k = a k) (hr : c' (593 + t) = nI 0 ∨ c' (593 + t) = nI 1) (har : a' (560 + 39 * t + 38) = c' (593 + t)) (hcl : c' (599 + t) = nI lz) (hal : a' (560 + 39 * t + 9) = nI lz) (hsteps : ∀ k, k < lz → a' (560 + 39 * t + (10 + 3 * k)) = c' (605 + t * 4 + k) ∧ a' (560 + 39 * t + (10 + 3 * k) + 1) = c' (629 + t * 4 + k) ∧ a' (560 + 39 * t + (10 + 3 * k) + 2) = c' (653 + t * 4 + k) ∧ ∃ o, o < 8 ∧ c' (605 + t * 4 + k) = nI o) : rR z W q n π s s' c' a' := by
  obtain ⟨⟨p1, p2, p3, p4, p5, p6, p7, p8⟩, hH, hI, hL, hT⟩ := id h
  have hax : ∀ u f, u < 6 → f < 39 → (u ≠ t ∨ f < 9 ∨ (22 ≤ f ∧ f < 38)) → a' (560 + 39 * u + f) = a (560 + 39 * u + f) := fun u f hu hf hq => by
    refine ha' _ ?_ ?_
    · rcases Nat.lt_trichotomy u t with q | q | q <;> omega
    · rcases Nat.lt_trichotomy u t with q | q | q <;> omega
  have hax0 : ∀ u, u < 6 → a' (560 + 39 * u) = a (560 + 39 * u) := fun u hu => hax u 0 hu (by omega) (by omega)
  refine rR_gen h (Nat.le_refl _) (Nat.le_refl _) ⟨?_, ?_, ?_, ?_, p5, p6, ?_, p8⟩ (fun k q1 q2 => hcx k (by omega) (by omega) (by omega)) (fun k q1 => ha' k (by omega) (by omega)) ?_
  · rw [hcx 0 (by omega) (by omega) (by omega), ha' 794 (by omega) (by omega)]; exact p1
  · rw [hcx 0 (by omega) (by omega) (by omega)]; exact p2
  · rw [hcx 1 (by omega) (by omega) (by omega)]; exact p3
  · rw [ha' 795 (by omega) (by omega)]; exact p4
  · rw [hcx 2 (by omega) (by omega) (by omega)]; exact p7
  · obtain ⟨h1', h2', h3', h4', h5', h6'⟩ := hT
    refine ⟨?_, ?_, ?_, ?_, ?_, ?_⟩
    · intro u hu
      obtain ⟨g1, g2, g3, g4, g5, g6, g7, g8, g9, g10⟩ := h1' u hu
      rw [hax0 u hu, hax u 2 hu (by omega) (by omega), hax u 3 hu (by omega) (by omega), hax u 4 hu (by omega) (by omega), hax u 5 hu (by omega) (by omega), hax u 6 hu (by omega) (by omega), hax u 7 hu (by omega) (by omega), hax u 8 hu (by omega) (by omega), hcx (539 + u) (by omega) (by omega) (by omega), hcx (551 + u) (by omega) (by omega) (by omega), hcx (557 + u) (by omega) (by omega) (by omega), hcx (563 + u) (by omega) (by omega) (by omega), hcx (569 + u) (by omega) (by omega) (by omega), hcx (575 + u) (by omega) (by omega) (by omega), hcx (581 + u) (by omega) (by omega) (by omega), hcx (587 + u) (by omega) (by omega) (by omega)]
      refine ⟨g1, g2, g3, g4, g5, g6, g7, g8, ?_, ?_⟩
      · by_cases q : u = t
        · subst q; rw [hal, hcl]
        · rw [hax u 9 hu (by omega) (by omega), hcx (599 + u) (by omega) (by omega) (by omega)]; exact g9
      · by_cases q : u = t
        · subst q; exact har
        · rw [hax u 38 hu (by omega) (by omega), hcx (593 + u) (by omega) (by omega) (by omega)]; exact g10
    · intro u hu
      obtain ⟨g1, g2, g3, g4, g5⟩ := h2' u hu
      rw [hcx (563 + u) (by omega) (by omega) (by omega), hcx (575 + u) (by omega) (by omega) (by omega), hcx (581 + u) (by omega) (by omega) (by omega)]
      refine ⟨?_, ?_, g3, g4, g5⟩
      · by_cases q : u = t
        · subst q; exact hr
        · rw [hcx (593 + u) (by omega) (by omega) (by omega)]; exact g1
      · by_cases q : u = t
        · subst q; exact ⟨lz, hlz, hcl⟩
        · rw [hcx (599 + u) (by omega) (by omega) (by omega)]; exact g2
    · intro u hu
      rw [hcx (539 + u) (by omega) (by omega) (by omega), hcx (563 + u) (by omega) (by omega) (by omega), hcx (551 + u) (by omega) (by omega) (by omega), hcx (545 + u) (by omega) (by omega) (by omega), hcx (575 + u) (by omega) (by omega) (by omega), hax u 1 hu (by omega) (by omega)]
      rcases h3' u hu with g | ⟨⟨y, g1, g2, g3⟩, g4⟩
      · exact Or.inl g
      · exact Or.inr ⟨⟨y, g1, g2, by rw [hcx _ (by omega) (by omega) (by omega)]; exact g3⟩, g4⟩
    · intro u v hu hv
      rw [hcx (539 + u) (by omega) (by omega) (by omega), hcx (539 + v) (by omega) (by omega) (by omega), hcx (545 + u) (by omega) (by omega) (by omega), hcx (545 + v) (by omega) (by omega) (by omega), hax u 1 hu (by omega) (by omega), hax v 1 hv (by omega) (by omega)]
      exact h4' u v hu hv
    · intro u k hu hk
      rw [hax u (22 + 2 * k) hu (by omega) (by omega), hax u (22 + 2 * k + 1) hu (by omega) (by omega), hcx _ (by omega) (by omega) (by omega), hcx _ (by omega) (by omega) (by omega)]
      exact h5' u k hu hk
    · intro u k l' hu hk hl' hc599
      by_cases q : u = t
      · subst q
        rw [hcl] at hc599
        have := (nI_eq (by omega) (by omega)).mp hc599
        subst this
        exact hsteps k hk
      · rw [hcx (599 + u) (by omega) (by omega) (by omega)] at hc599
        obtain ⟨g1, g2, g3⟩ := hoth u k hu q (by omega)
        have a1 := hax u (10 + 3 * k) hu (by omega) (Or.inl q)
        have a2 := hax u (10 + 3 * k + 1) hu (by omega) (Or.inl q)
        have a3 := hax u (10 + 3 * k + 2) hu (by omega) (Or.inl q)
        rw [g1, g2, g3, a1]
        obtain ⟨e1, e2, e3, e4⟩ := h6' u k l' hu hk hl' hc599
        exact ⟨e1, a2.trans e2, a3.trans e3, e4⟩
theorem rs_plan : rb_S_plan rb_Inv := by
  intro n μ v1 v2 v3 v4 hn h
  obtain ⟨mf1, wa1, hk, hm⟩ := rb_Kex h
  obtain ⟨nn, π, s, s', hR, hB⟩ := h.1
  have h01 : ¬ (nI 1 = (0 : Int32)) := by decide
  rcases rp_task v1 with ⟨t, ht, ev, e1, e2⟩ | ⟨e1, e2⟩
  · rcases rp_between v2 (l := 0) (m := 7) (by omega) (by omega) with ⟨o, _, ho, eo, b1, b2⟩ | ⟨b1, b2⟩
    · subst ev eo
      obtain ⟨hrd, ⟨l, hl4, hl⟩, _⟩ := hR.2.2.2.2.2.1 t ht
      have hl9 : μ 20 (560 + 39 * t + 9) = nI l := ((hR.2.2.2.2.1 t ht).2.2.2.2.2.2.2.2.1).trans hl
      have h38 := (hR.2.2.2.2.1 t ht).2.2.2.2.2.2.2.2.2
      have r1 : rb_rd (μ 5) 773 (599 + nI t) = some (nI l) := (congrArg (rb_rd (μ 5) 773) (nI_add 599 t)).trans ((rb_rdn (by omega) (by omega)).trans (congrArg some hl))
      have o9 : XX7_ofTask (μ 20) (nI t) 9 = some (nI l) := (xn_ofTask (μ 20) (f := 9) ht (by omega)).trans (congrArg some hl9)
      by_cases h4 : l < 4
      · have q4 : nI l < (4 : Int32) := by rw [show (4 : Int32) = nI 4 from rfl, nI_ltI (by omega) (by omega)]; exact h4
        have q4' : ¬ nI l = (4 : Int32) := by rw [show (4 : Int32) = nI 4 from rfl, nI_eq (by omega) (by omega)]; omega
        have ix : nI t * 4 + nI l = nI (t * 4 + l) := (congrArg (· + nI l) (nI_mul t 4)).trans (nI_add _ _)
        have w1 : ∀ r : rb_Row, rb_wr r 773 (605 + (nI t * 4 + nI l)) (nI o) = some (upd r (605 + (t * 4 + l)) (nI o)) := fun r => (congrArg (fun u => rb_wr r 773 (605 + u) (nI o)) ix).trans ((congrArg (fun u => rb_wr r 773 u (nI o)) (nI_add 605 _)).trans (rb_wrn (by omega) (by omega)))
        have w2 : ∀ r : rb_Row, rb_wr r 773 (629 + (nI t * 4 + nI l)) v3 = some (upd r (629 + (t * 4 + l)) v3) := fun r => (congrArg (fun u => rb_wr r 773 (629 + u) v3) ix).trans ((congrArg (fun u => rb_wr r 773 u v3) (nI_add 629 _)).trans (rb_wrn (by omega) (by omega)))
        have w3 : ∀ r : rb_Row, rb_wr r 773 (653 + (nI t * 4 + nI l)) v4 = some (upd r (653 + (t * 4 + l)) v4) := fun r => (congrArg (fun u => rb_wr r 773 (653 + u) v4) ix).trans ((congrArg (fun u => rb_wr r 773 u v4) (nI_add 653 _)).trans (rb_wrn (by omega) (by omega)))
        have w4 : ∀ r : rb_Row, rb_wr r 773 (599 + nI t) (nI l + 1) = some (upd r (599 + t) (nI (l + 1))) := fun r => (congrArg (fun u => rb_wr r 773 u (nI l + 1)) (nI_add 599 t)).trans ((rb_wrn (by omega) (by omega)).trans (congrArg (fun u => some (upd r (599 + t) u)) (nI_add l 1)))
        have p7 := yn_putStep (a := μ 20) ht (show 1 ≤ l + 1 by omega) (show l + 1 ≤ 4 by omega) (by rw [Nat.add_sub_cancel]; exact hl9) (nI o) v3 v4
        simp only [Nat.add_sub_cancel] at p7
        have hr := rR_prog (lz := l + 1) (c' := upd (upd (upd (upd (μ 5) (605 + (t * 4 + l)) (nI o)) (629 + (t * 4 + l)) v3) (653 + (t * 4 + l)) v4) (599 + t) (nI (l + 1))) (a' := upd (upd (upd (upd (μ 20) (560 + 39 * t + (10 + 3 * l)) (nI o)) (560 + 39 * t + (10 + 3 * l) + 1) v3) (560 + 39 * t + (10 + 3 * l) + 2) v4) (560 + 39 * t + 9) (nI (l + 1))) hR ht (by omega) (fun k _ _ _ => by rw [rb_upn (by omega), rb_upn (by omega), rb_upn (by omega), rb_upn (by omega)]) (fun u k hu hne hk => by
            rcases Nat.lt_or_gt_of_ne hne with q | q
            · exact ⟨by rw [rb_upn (by omega), rb_upn (by omega), rb_upn (by omega), rb_upn (by omega)], by rw [rb_upn (by omega), rb_upn (by omega), rb_upn (by omega), rb_upn (by omega)], by rw [rb_upn (by omega), rb_upn (by omega), rb_upn (by omega), rb_upn (by omega)]⟩
            · exact ⟨by rw [rb_upn (by omega), rb_upn (by omega), rb_upn (by omega), rb_upn (by omega)], by rw [rb_upn (by omega), rb_upn (by omega), rb_upn (by omega), rb_upn (by omega)], by rw [rb_upn (by omega), rb_upn (by omega), rb_upn (by omega), rb_upn (by omega)]⟩) (fun k _ _ => by rw [rb_upn (by omega), rb_upn (by omega), rb_upn (by omega), rb_upn (by omega)]) (by rw [rb_upn (by omega), rb_upn (by omega), rb_upn (by omega), rb_upn (by omega)]; exact hrd) (by rw [rb_upn (by omega), rb_upn (by omega), rb_upn (by omega), rb_upn (by omega), rb_upn (by omega), rb_upn (by omega), rb_upn (by omega), rb_upn (by omega)]; exact h38) (rb_upe rfl) (rb_upe rfl) (fun k hk => by
            by_cases e : k = l
            · subst e
              refine ⟨?_, ?_, ?_, o, by omega, ?_⟩
              · rw [rb_upn (by omega), rb_upn (by omega), rb_upn (by omega), rb_upe rfl, rb_upn (by omega), rb_upn (by omega), rb_upn (by omega), rb_upe (by omega)]
              · rw [rb_upn (by omega), rb_upn (by omega), rb_upe rfl, rb_upn (by omega), rb_upn (by omega), rb_upe (by omega)]
              · rw [rb_upn (by omega), rb_upe rfl, rb_upn (by omega), rb_upe (by omega)]
              · rw [rb_upn (by omega), rb_upn (by omega), rb_upn (by omega), rb_upe (by omega)]
            · obtain ⟨g1, g2, g3, g4⟩ := hR.2.2.2.2.2.2.2.2.2 t k l ht (by omega) hl4 hl
              rw [rb_upn (by omega), rb_upn (by omega), rb_upn (by omega), rb_upn (by omega), rb_upn (by omega), rb_upn (by omega), rb_upn (by omega), rb_upn (by omega), rb_upn (by omega), rb_upn (by omega), rb_upn (by omega), rb_upn (by omega), rb_upn (by omega), rb_upn (by omega), rb_upn (by omega), rb_upn (by omega), rb_upn (by omega), rb_upn (by omega), rb_upn (by omega), rb_upn (by omega), rb_upn (by omega), rb_upn (by omega), rb_upn (by omega), rb_upn (by omega)]
              exact ⟨g1, g2, g3, g4⟩)
        obtain ⟨pr', pf', e4, hI⟩ := rb_kf h hk (x := nI 0) (ans := nI (l + 1)) (did := True) ⟨fun _ => nI_pos (by omega), fun _ => trivial⟩ (Or.inl ⟨trivial, rb_RBn hr hB (fun u hu => by rw [rb_upn (by omega), rb_upn (by omega), rb_upn (by omega), rb_upn (by omega)]), rfl, rfl, rfl⟩)
        have e5 : XX6_keptFrom (μ 14) (μ 13) (upd (upd (upd (upd (μ 5) (605 + (t * 4 + l)) (nI o)) (629 + (t * 4 + l)) v3) (653 + (t * 4 + l)) v4) (599 + t) (nI (l + 1))) 0 (nI l + 1) = some (nI (l + 1), pr', pf') := (congrArg (XX6_keptFrom (μ 14) (μ 13) _ 0) (nI_add l 1)).trans e4
        have o10 : XX7_ofTask (upd (upd (upd (upd (μ 20) (560 + 39 * t + (10 + 3 * l)) (nI o)) (560 + 39 * t + (10 + 3 * l) + 1) v3) (560 + 39 * t + (10 + 3 * l) + 2) v4) (560 + 39 * t + 9) (nI (l + 1))) (nI t) 9 = some (nI (l + 1)) := (xn_ofTask _ (f := 9) ht (by omega)).trans (congrArg some (rb_upe rfl))
        exact ⟨(nI (l + 1), _, pr', pf'), (nI (l + 1), _, mf1, wa1), rb_bnd _ e1 ((if_neg h01).trans (rb_bnd _ b1 ((if_neg h01).trans (rb_bnd _ (rb_bnd _ r1 ((if_pos q4).trans (rb_bnd _ (w1 _) (rb_bnd _ (w2 _) (rb_bnd _ (w3 _) (rb_bnd _ (w4 _) rfl)))))) (rb_bnd _ e5 rfl))))), rb_bnd _ e2 ((if_neg h01).trans (rb_bnd _ b2 ((if_neg h01).trans (rb_bnd _ o9 ((if_neg q4').trans (rb_bnd _ hk (rb_bnd _ p7 (rb_bnd _ o10 rfl)))))))), rfl, hI _ rfl rfl rfl rfl rfl rfl rfl rfl rfl rfl⟩
      · have : l = 4 := by omega
        subst this
        have q4 : ¬ nI 4 < (4 : Int32) := by decide
        have q4' : nI 4 = (4 : Int32) := rfl
        obtain ⟨pr', pf', e4, hI⟩ := rb_kf h hk (x := nI 0) (ans := mI) (did := False) (by decide) (Or.inr ⟨id, rfl, rfl, rfl, rfl⟩)
        exact ⟨(mI, μ 5, pr', pf'), (mI, μ 20, μ 19, μ 31), rb_bnd _ e1 ((if_neg h01).trans (rb_bnd _ b1 ((if_neg h01).trans (rb_bnd _ (rb_bnd _ r1 (if_neg q4)) (rb_bnd _ e4 rfl))))), rb_bnd _ e2 ((if_neg h01).trans (rb_bnd _ b2 ((if_neg h01).trans (rb_bnd _ o9 (if_pos q4'))))), rfl, hI _ rfl rfl rfl rfl rfl rfl rfl rfl rfl rfl⟩
    · exact ⟨(mI, μ 5, μ 14, μ 13), (mI, μ 20, μ 19, μ 31), rb_bnd _ e1 ((if_neg h01).trans (rb_bnd _ b1 (if_pos rfl))), rb_bnd _ e2 ((if_neg h01).trans (rb_bnd _ b2 (if_pos rfl))), rfl, rb_fin0 h rfl rfl rfl rfl rfl rfl rfl rfl rfl rfl rfl⟩
  · exact ⟨(mI, μ 5, μ 14, μ 13), (mI, μ 20, μ 19, μ 31), rb_bnd _ e1 (if_pos rfl), rb_bnd _ e2 (if_pos rfl), rfl, rb_fin0 h rfl rfl rfl rfl rfl rfl rfl rfl rfl rfl rfl⟩
theorem rs_forget : rb_S_forget rb_Inv := by
  intro n μ v1 hn h
  obtain ⟨mf1, wa1, hk, hm⟩ := rb_Kex h
  obtain ⟨nn, π, s, s', hR, hB⟩ := h.1
  have h01 : ¬ (nI 1 = (0 : Int32)) := by decide
  rcases rp_task v1 with ⟨t, ht, ev, e1, e2⟩ | ⟨e1, e2⟩
  · subst ev
    obtain ⟨hrd, ⟨l, hl4, hl⟩, _⟩ := hR.2.2.2.2.2.1 t ht
    have hl9 : μ 20 (560 + 39 * t + 9) = nI l := ((hR.2.2.2.2.1 t ht).2.2.2.2.2.2.2.2.1).trans hl
    have h38 := (hR.2.2.2.2.1 t ht).2.2.2.2.2.2.2.2.2
    have r1 : rb_rd (μ 5) 773 (599 + nI t) = some (nI l) := (congrArg (rb_rd (μ 5) 773) (nI_add 599 t)).trans ((rb_rdn (by omega) (by omega)).trans (congrArg some hl))
    have o9 : XX7_ofTask (μ 20) (nI t) 9 = some (nI l) := (xn_ofTask (μ 20) (f := 9) ht (by omega)).trans (congrArg some hl9)
    by_cases h0 : l = 0
    · subst h0
      exact ⟨(mI, μ 5, μ 14, μ 13), (mI, μ 20, μ 19, μ 31), rb_bnd _ e1 ((if_neg h01).trans (rb_bnd _ r1 (if_pos rfl))), rb_bnd _ e2 ((if_neg h01).trans (rb_bnd _ o9 (if_pos rfl))), rfl, rb_fin0 h rfl rfl rfl rfl rfl rfl rfl rfl rfl rfl rfl⟩
    · have q0 : ¬ nI l = (0 : Int32) := by rw [show (0 : Int32) = nI 0 from rfl, nI_eq (by omega) (by omega)]; exact h0
      have w4 : rb_wr (μ 5) 773 (599 + nI t) 0 = some (upd (μ 5) (599 + t) (nI 0)) := (congrArg (fun u => rb_wr (μ 5) 773 u 0) (nI_add 599 t)).trans (rb_wrn (by omega) (by omega))
      have w5 : rb_wr (μ 20) 796 (nI (560 + 39 * t + 9)) 0 = some (upd (μ 20) (560 + 39 * t + 9) (nI 0)) := rb_wrn (by omega) (by omega)
      have hr := rR_prog (lz := 0) (c' := upd (μ 5) (599 + t) (nI 0)) (a' := upd (μ 20) (560 + 39 * t + 9) (nI 0)) hR ht (by omega) (fun k _ _ _ => rb_upn (by omega)) (fun u k hu hne hk => ⟨rb_upn (by omega), rb_upn (by omega), rb_upn (by omega)⟩) (fun k _ _ => rb_upn (by omega)) (by rw [rb_upn (by omega)]; exact hrd) (by rw [rb_upn (by omega), rb_upn (by omega)]; exact h38) (rb_upe rfl) (rb_upe rfl) (fun k hk => absurd hk (by omega))
      obtain ⟨pr', pf', e4, hI⟩ := rb_kf h hk (x := nI 0) (ans := nI l) (did := True) ⟨fun _ => nI_pos (by omega), fun _ => trivial⟩ (Or.inl ⟨trivial, rb_RBn hr hB (fun u hu => rb_upn (by omega)), rfl, rfl, rfl⟩)
      exact ⟨(nI l, _, pr', pf'), (nI l, _, mf1, wa1), rb_bnd _ e1 ((if_neg h01).trans (rb_bnd _ r1 ((if_neg q0).trans (rb_bnd _ r1 (rb_bnd _ w4 (rb_bnd _ e4 rfl)))))), rb_bnd _ e2 ((if_neg h01).trans (rb_bnd _ o9 ((if_neg q0).trans (rb_bnd _ hk (rb_bnd _ o9 (rb_bnd _ (xn_taskAt t 9) (rb_bnd _ w5 rfl))))))), rfl, hI _ rfl rfl rfl rfl rfl rfl rfl rfl rfl rfl⟩
  · exact ⟨(mI, μ 5, μ 14, μ 13), (mI, μ 20, μ 19, μ 31), rb_bnd _ e1 (if_pos rfl), rb_bnd _ e2 (if_pos rfl), rfl, rb_fin0 h rfl rfl rfl rfl rfl rfl rfl rfl rfl rfl rfl⟩
theorem rs_round : rb_S_round rb_Inv := by
  intro n μ v1 v2 hn h hv
  obtain ⟨mf1, wa1, hk, hm⟩ := rb_Kex h
  obtain ⟨nn, π, s, s', hR, hB⟩ := h.1
  have h01 : ¬ (nI 1 = (0 : Int32)) := by decide
  obtain ⟨w, hw, ew, ej⟩ : ∃ w, w ≤ 1 ∧ v2 = nI w ∧ (if v2 = 0 then some 0 else some 1 : Option Int32) = some (nI w) := by
    rcases hv with e | e
    · exact ⟨0, by omega, e, if_pos e⟩
    · exact ⟨1, by omega, e, if_neg (by rw [e]; decide)⟩
  subst ew
  rcases rp_task v1 with ⟨t, ht, ev, e1, e2⟩ | ⟨e1, e2⟩
  · subst ev
    obtain ⟨hrd, ⟨l, hl4, hl⟩, _⟩ := hR.2.2.2.2.2.1 t ht
    have hl9 : μ 20 (560 + 39 * t + 9) = nI l := ((hR.2.2.2.2.1 t ht).2.2.2.2.2.2.2.2.1).trans hl
    have h38 := (hR.2.2.2.2.1 t ht).2.2.2.2.2.2.2.2.2
    obtain ⟨b, hb, eb⟩ : ∃ b, b ≤ 1 ∧ μ 5 (593 + t) = nI b := by
      rcases hrd with e | e
      · exact ⟨0, by omega, e⟩
      · exact ⟨1, by omega, e⟩
    have r1 : rb_rd (μ 5) 773 (593 + nI t) = some (nI b) := (congrArg (rb_rd (μ 5) 773) (nI_add 593 t)).trans ((rb_rdn (by omega) (by omega)).trans (congrArg some eb))
    have o38 : XX7_ofTask (μ 20) (nI t) 38 = some (nI b) := (xn_ofTask (μ 20) (f := 38) ht (by omega)).trans (congrArg some (h38.trans eb))
    have j6 : (if nI b = 1 then some 1 else some 0 : Option Int32) = some (nI b) := by
      rcases (show b = 0 ∨ b = 1 by omega) with e | e <;> (subst e; rfl)
    by_cases hbw : b = w
    · subst hbw
      exact ⟨(rb_nz 0, μ 5, μ 14, μ 13), (rb_nz 0, μ 20, μ 19, μ 31), rb_bnd _ ej (rb_bnd _ e1 ((if_neg h01).trans (rb_bnd _ r1 (if_pos rfl)))), rb_bnd _ e2 ((if_neg h01).trans (rb_bnd _ o38 (rb_bnd _ j6 (if_pos rfl)))), rfl, rb_fin0 h rfl rfl rfl rfl rfl rfl rfl rfl rfl rfl rfl⟩
    · have q0 : ¬ nI b = nI w := by rw [nI_eq (by omega) (by omega)]; exact hbw
      have w4 : rb_wr (μ 5) 773 (593 + nI t) (nI w) = some (upd (μ 5) (593 + t) (nI w)) := (congrArg (fun u => rb_wr (μ 5) 773 u (nI w)) (nI_add 593 t)).trans (rb_wrn (by omega) (by omega))
      have w5 : ∀ v, rb_wr (μ 20) 796 (nI (560 + 39 * t + 38)) v = some (upd (μ 20) (560 + 39 * t + 38) v) := fun v => rb_wrn (by omega) (by omega)
      have hr := rR_prog (lz := l) (c' := upd (μ 5) (593 + t) (nI w)) (a' := upd (μ 20) (560 + 39 * t + 38) (nI w)) hR ht (by omega) (fun k _ _ _ => rb_upn (by omega)) (fun u k hu hne hk => ⟨rb_upn (by omega), rb_upn (by omega), rb_upn (by omega)⟩) (fun k _ _ => rb_upn (by omega)) (by rw [rb_upe rfl]; rcases (show w = 0 ∨ w = 1 by omega) with e | e <;> simp [e]) (by rw [rb_upe rfl, rb_upe rfl]) (by rw [rb_upn (by omega)]; exact hl) (by rw [rb_upn (by omega)]; exact hl9) (fun k hk => by
        rw [rb_upn (by omega), rb_upn (by omega), rb_upn (by omega), rb_upn (by omega), rb_upn (by omega), rb_upn (by omega)]
        exact hR.2.2.2.2.2.2.2.2.2 t k l ht hk hl4 hl)
      obtain ⟨pr', pf', e4, hI⟩ := rb_ki h hk (ans := nI 1) (did := True) ⟨fun _ => by decide, fun _ => trivial⟩ (Or.inl ⟨trivial, rb_RBn hr hB (fun u hu => rb_upn (by omega)), rfl, rfl, rfl⟩)
      have ref : (if nI w = 0 then (rb_wr (μ 20) 796 (nI (560 + 39 * t + 38)) 0).bind fun a16 => some ((rb_nz 1), a16, mf1, wa1) else (rb_wr (μ 20) 796 (nI (560 + 39 * t + 38)) 1).bind fun a18 => some ((rb_nz 1), a18, mf1, wa1)) = some (rb_nz 1, upd (μ 20) (560 + 39 * t + 38) (nI w), mf1, wa1) := by
        rcases (show w = 0 ∨ w = 1 by omega) with e | e
        · subst e; exact (if_pos rfl).trans (rb_bnd _ (w5 _) rfl)
        · subst e; exact (if_neg h01).trans (rb_bnd _ (w5 _) rfl)
      exact ⟨(rb_nz (rb_nz 1), _, pr', pf'), (rb_nz 1, _, mf1, wa1), rb_bnd _ ej (rb_bnd _ e1 ((if_neg h01).trans (rb_bnd _ r1 ((if_neg q0).trans (rb_bnd _ w4 (rb_bnd _ e4 rfl)))))), rb_bnd _ e2 ((if_neg h01).trans (rb_bnd _ o38 (rb_bnd _ j6 ((if_neg q0).trans (rb_bnd _ hk (rb_bnd _ (xn_taskAt t 38) ref)))))), rb_nzz1, hI _ rfl rfl rfl rfl rfl rfl rfl rfl rfl rfl⟩
  · exact ⟨(rb_nz 0, μ 5, μ 14, μ 13), (rb_nz 0, μ 20, μ 19, μ 31), rb_bnd _ ej (rb_bnd _ e1 (if_pos rfl)), rb_bnd _ e2 (if_pos rfl), rfl, rb_fin0 h rfl rfl rfl rfl rfl rfl rfl rfl rfl rfl rfl⟩
theorem rs_arm : rb_S_arm rb_Inv := by
  intro n μ v1 v2 v3 hn h
  obtain ⟨mf1, wa1, hk, hm⟩ := rb_Kex h
  obtain ⟨nn, π, s, s', hR, hB⟩ := h.1
  have h01 : ¬ (nI 1 = (0 : Int32)) := by decide
  have qm : mI < (0 : Int32) := by decide
  obtain ⟨pr0, pf0, n4, nI'⟩ := rb_ki h hk (ans := nI 0) (c' := μ 5) (a' := μ 20) (mf' := μ 19) (wa' := μ 31) (did := False) (by simp) (Or.inr ⟨id, rfl, rfl, rfl, rfl⟩)
  have n4' : XX6_keptIf (μ 14) (μ 13) (μ 5) (rb_nz 0) = some (rb_nz 0, pr0, pf0) := n4
  have noC : ∀ X : Option (Int32 × rb_Row), X = some (rb_nz 0, μ 5) → (X.bind fun t1 => (XX6_keptIf (μ 14) (μ 13) t1.2 t1.1).bind fun t3 => some ((rb_nz t3.1), t1.2, t3.2.1, t3.2.2)) = some (rb_nz (rb_nz 0), μ 5, pr0, pf0) := fun X e => rb_bnd _ e (rb_bnd _ n4' rfl)
  have no : ∀ (e1 : XX0_armTimer (μ 5) v1 v2 v3 = some (rb_nz 0, μ 5)) (e2 : XX7_arm (μ 20) (μ 19) (μ 31) v1 v2 v3 = some (rb_nz 0, μ 20, μ 19, μ 31)), ∃ (o1 : Int32 × rb_Row × rb_Row × rb_Row) (o2 : Int32 × rb_Row × rb_Row × rb_Row), XX6_arm (μ 5) (μ 14) (μ 13) v1 v2 v3 = some o1 ∧ XX7_arm (μ 20) (μ 19) (μ 31) v1 v2 v3 = some o2 ∧ o1.1 = o2.1 ∧ rb_Inv (n + 1) (rb_ov (rb_ov μ [(5, o1.2.1), (14, o1.2.2.1), (13, o1.2.2.2)]) [(20, o2.2.1), (19, o2.2.2.1), (31, o2.2.2.2)]) := fun e1 e2 =>
    ⟨(rb_nz (rb_nz 0), μ 5, pr0, pf0), (rb_nz 0, μ 20, μ 19, μ 31), noC _ e1, e2, rb_nzz0, nI' _ rfl rfl rfl rfl rfl rfl rfl rfl rfl rfl⟩
  rcases rp_thing hR.2.1 v1 with ⟨e1, e2⟩ | ⟨k, x, hk', hx, ev, ec, ea, hl, hw, hz, e1, e2⟩
  · exact no (rb_bnd _ (xn_kindOf5n 3 e1) (if_pos qm)) (rb_bnd _ (yn_namesn 3 e2) (if_pos rfl))
  · subst ev
    have k5 := xn_kindOf5 (nI 3) hx e1
    have kn := yn_names (nI 3) hk' hx ea e2
    rw [(hR.2.1.2.1 x hx).1] at kn
    by_cases h3 : μ 5 (19 + x) = nI 3
    · rw [if_pos h3] at k5 kn
      have qx : ¬ nI x < (0 : Int32) := nI_pos (by omega)
      rcases rp_between v2 (l := 0) (m := 1000) (by omega) (by omega) with ⟨d, _, hd, ed, b1, b2⟩ | ⟨b1, b2⟩
      · rcases rp_between v3 (l := 0) (m := 1000) (by omega) (by omega) with ⟨w, _, hw2, ew, b3, b4⟩ | ⟨b3, b4⟩
        · have hr0 := rp_val hR hx (b := 0) (Or.inr h3) (by omega)
          have rx : rb_rd (μ 20) 796 (nI k) = some (nI x) := (rb_rdn (by omega) (by omega)).trans (congrArg some ea)
          have w1 : rb_wr (μ 5) 773 (47 + nI x) 0 = some (upd (μ 5) (47 + x) (nI 0)) := (congrArg (fun u => rb_wr (μ 5) 773 u 0) (nI_add 47 x)).trans (rb_wrn (by omega) (by omega))
          have w2 : ∀ (r : rb_Row) v, rb_wr r 773 (159 + nI x) v = some (upd r (159 + x) v) := fun r v => (congrArg (fun u => rb_wr r 773 u v) (nI_add 159 x)).trans (rb_wrn (by omega) (by omega))
          have w3 : ∀ (r : rb_Row) v, rb_wr r 773 (187 + nI x) v = some (upd r (187 + x) v) := fun r v => (congrArg (fun u => rb_wr r 773 u v) (nI_add 187 x)).trans (rb_wrn (by omega) (by omega))
          have y1 : ∀ (r : rb_Row) v f, f < 6 → rb_wr r 796 (nI (16 + 6 * x + f)) v = some (upd r (16 + 6 * x + f) v) := fun r v f hf => rb_wrn (by omega) (by omega)
          by_cases h0 : v2 = 0
          · have hr := rp_next hr0 hx (by rw [rb_upn (by omega)]; exact h3) mI v3 (nI 0) (Or.inl rfl)
            obtain ⟨pr', pf', e4, hI⟩ := rb_ki h hk (ans := nI 1) (did := True) ⟨fun _ => by decide, fun _ => trivial⟩ (Or.inl ⟨trivial, rb_RBn hr hB (fun u hu => by rw [rb_upn (by omega), rb_upn (by omega), rb_upn (by omega)]), rfl, rfl, rfl⟩)
            exact ⟨(rb_nz (rb_nz 1), _, pr', pf'), (rb_nz 1, _, mf1, wa1), rb_bnd _ (rb_bnd _ k5 ((if_neg qx).trans (rb_bnd _ b1 ((if_neg h01).trans (rb_bnd _ b3 ((if_neg h01).trans (rb_bnd _ w1 (rb_bnd mI (if_pos h0) (rb_bnd _ (w2 _ _) (rb_bnd _ (w3 _ _) rfl)))))))))) (rb_bnd _ e4 rfl), rb_bnd _ kn ((if_neg h01).trans (rb_bnd _ b2 ((if_neg h01).trans (rb_bnd _ b4 ((if_neg h01).trans (rb_bnd _ hk (rb_bnd _ rx (rb_bnd _ (xn_objectAt x 1) (rb_bnd _ (y1 _ _ 1 (by omega)) (rb_bnd _ (xn_objectAt x 2) (rb_bnd mI (if_pos h0) (rb_bnd _ (y1 _ _ 2 (by omega)) (rb_bnd _ (xn_objectAt x 3) ((if_pos h0).trans (rb_bnd _ (y1 _ _ 3 (by omega)) rfl))))))))))))))), rb_nzz1, hI _ rfl rfl rfl rfl rfl rfl rfl rfl rfl rfl⟩
          · have hr := rp_next hr0 hx (by rw [rb_upn (by omega)]; exact h3) (μ 5 0 + v2) v3 v3 (Or.inr rfl)
            obtain ⟨pr', pf', e4, hI⟩ := rb_ki h hk (ans := nI 1) (did := True) ⟨fun _ => by decide, fun _ => trivial⟩ (Or.inl ⟨trivial, rb_RBn hr hB (fun u hu => by rw [rb_upn (by omega), rb_upn (by omega), rb_upn (by omega)]), rfl, rfl, rfl⟩)
            have j1 : (if v2 = 0 then some (-1) else (rb_rd (upd (μ 5) (47 + x) (nI 0)) 773 0).bind fun v16 => some (v16 + v2) : Option Int32) = some (μ 5 0 + v2) := (if_neg h0).trans (rb_bnd _ ((rb_rdn (k := 0) (by omega) (by omega)).trans (congrArg some (rb_upn (by omega)))) rfl)
            have j2 : (if v2 = 0 then some (-1) else (rb_rd (upd (μ 20) (16 + 6 * x + 1) (nI 0)) 796 794).bind fun v16 => some (v16 + v2) : Option Int32) = some (μ 5 0 + v2) := (if_neg h0).trans (rb_bnd _ ((rb_rdn (k := 794) (by omega) (by omega)).trans (congrArg some ((rb_upn (by omega)).trans hR.1.1))) rfl)
            exact ⟨(rb_nz (rb_nz 1), _, pr', pf'), (rb_nz 1, _, mf1, wa1), rb_bnd _ (rb_bnd _ k5 ((if_neg qx).trans (rb_bnd _ b1 ((if_neg h01).trans (rb_bnd _ b3 ((if_neg h01).trans (rb_bnd _ w1 (rb_bnd _ j1 (rb_bnd _ (w2 _ _) (rb_bnd _ (w3 _ _) rfl)))))))))) (rb_bnd _ e4 rfl), rb_bnd _ kn ((if_neg h01).trans (rb_bnd _ b2 ((if_neg h01).trans (rb_bnd _ b4 ((if_neg h01).trans (rb_bnd _ hk (rb_bnd _ rx (rb_bnd _ (xn_objectAt x 1) (rb_bnd _ (y1 _ _ 1 (by omega)) (rb_bnd _ (xn_objectAt x 2) (rb_bnd _ j2 (rb_bnd _ (y1 _ _ 2 (by omega)) (rb_bnd _ (xn_objectAt x 3) ((if_neg h0).trans (rb_bnd _ (y1 _ _ 3 (by omega)) rfl))))))))))))))), rb_nzz1, hI _ rfl rfl rfl rfl rfl rfl rfl rfl rfl rfl⟩
        · exact no (rb_bnd _ k5 ((if_neg qx).trans (rb_bnd _ b1 ((if_neg h01).trans (rb_bnd _ b3 (if_pos rfl)))))) (rb_bnd _ kn ((if_neg h01).trans (rb_bnd _ b2 ((if_neg h01).trans (rb_bnd _ b4 (if_pos rfl))))))
      · exact no (rb_bnd _ k5 ((if_neg qx).trans (rb_bnd _ b1 (if_pos rfl)))) (rb_bnd _ kn ((if_neg h01).trans (rb_bnd _ b2 (if_pos rfl))))
    · rw [if_neg h3] at k5 kn
      exact no (rb_bnd _ k5 (if_pos qm)) (rb_bnd _ kn (if_pos rfl))
theorem rs_change : rb_S_change rb_Inv := by
  intro n μ v1 v2 v3 v4 hn h
  obtain ⟨mf1, wa1, hk, hm⟩ := rb_Kex h
  obtain ⟨nn, π, s, s', hR, hB⟩ := h.1
  have hn24 : nn ≤ 24 := hR.1.2.2.2.2.2.2.2
  have h01 : ¬ (nI 1 = (0 : Int32)) := by decide
  have qm : mI < (0 : Int32) := by decide
  have no : ∀ (e1 : XX6_change (μ 5) (μ 6) (μ 1) (μ 14) (μ 13) v1 v2 v3 v4 = some (rb_nz 0, μ 5, μ 6, μ 1, μ 14, μ 13)) (e2 : XX7_change (μ 20) (μ 21) (μ 22) (μ 19) (μ 23) (μ 24) (μ 25) (μ 26) (μ 31) v1 v2 v3 v4 = some (rb_nz 0, μ 20, μ 21, μ 22, μ 19, μ 23, μ 24, μ 25, μ 26, μ 31)), ∃ (o1 : Int32 × rb_Row × rb_Row × rb_Row × rb_Row × rb_Row) (o2 : Int32 × rb_Row × rb_Row × rb_Row × rb_Row × rb_Row × rb_Row × rb_Row × rb_Row × rb_Row), XX6_change (μ 5) (μ 6) (μ 1) (μ 14) (μ 13) v1 v2 v3 v4 = some o1 ∧ XX7_change (μ 20) (μ 21) (μ 22) (μ 19) (μ 23) (μ 24) (μ 25) (μ 26) (μ 31) v1 v2 v3 v4 = some o2 ∧ o1.1 = o2.1 ∧ rb_Inv (n + 1) (rb_ov (rb_ov μ [(5, o1.2.1), (6, o1.2.2.1), (1, o1.2.2.2.1), (14, o1.2.2.2.2.1), (13, o1.2.2.2.2.2)]) [(20, o2.2.1), (21, o2.2.2.1), (22, o2.2.2.2.1), (19, o2.2.2.2.2.1), (23, o2.2.2.2.2.2.1), (24, o2.2.2.2.2.2.2.1), (25, o2.2.2.2.2.2.2.2.1), (26, o2.2.2.2.2.2.2.2.2.1), (31, o2.2.2.2.2.2.2.2.2.2)]) := fun e1 e2 =>
    ⟨_, _, e1, e2, rfl, rb_fin0 h rfl rfl rfl rfl rfl rfl rfl rfl rfl rfl rfl⟩
  obtain ⟨o, f1, f2, f3⟩ := rp_found hR v1 v2
  cases o with
  | none => exact no (rb_bnd _ f1 (if_pos qm)) (rb_bnd _ f2 (if_pos qm))
  | some i =>
    have hi := f3 i rfl
    have hπ := (hR.2.2.1.1 i hi).1
    have qi : ¬ nI i < (0 : Int32) := nI_pos (by omega)
    have qp : ¬ nI (π i) < (0 : Int32) := nI_pos (by omega)
    rcases rp_between v3 (l := 0) (m := 3) (by omega) (by omega) with ⟨m, _, hm3, em, b1, b2⟩ | ⟨b1, b2⟩
    · rcases rp_between v4 (l := 0) (m := 7) (by omega) (by omega) with ⟨w, _, hw7, ew, b3, b4⟩ | ⟨b3, b4⟩
      · have is1 : XX7_isSuch v3 v4 = some (nI 1) := rb_bnd _ b2 ((if_neg h01).trans (rb_bnd _ b4 (if_neg h01)))
        subst em ew
        have hr := rp_mask hR hi (show m < 4 by omega) (show w < 8 by omega)
        obtain ⟨c', g', f', a', rd', ag', mf', na', nb', nl', sv', t1, t2, t3, t4, _⟩ := rp_tell hr (by rw [rb_asl_congr (c := μ 5) (fun u hu => by rw [rb_upn (by omega), rb_upn (by omega)])]; exact hB) (by omega) hi (nI m) (nI w) rfl (μ 6) (μ 1) (μ 21) (μ 22) mf1 (μ 23) (μ 24) (μ 25) (μ 26)
        obtain ⟨pr', pf', e4, hI⟩ := rb_ki h hk (ans := nI 1) (did := True) (mf' := mf') ⟨fun _ => by decide, fun _ => trivial⟩ (Or.inl ⟨trivial, rb_RB_congr t3 (by omega) (by omega) (fun _ _ => rfl) (fun _ _ => rfl), t4 16 (by omega) (by omega), t4 17 (by omega) (by omega), rfl⟩)
        have w1 : rb_wr (μ 5) 773 (371 + nI i) (nI m) = some (upd (μ 5) (371 + i) (nI m)) := (congrArg (fun u => rb_wr (μ 5) 773 u (nI m)) (nI_add 371 i)).trans (rb_wrn (by omega) (by omega))
        have w2 : ∀ r : rb_Row, rb_wr r 773 (395 + nI i) (nI w) = some (upd r (395 + i) (nI w)) := fun r => (congrArg (fun u => rb_wr r 773 u (nI w)) (nI_add 395 i)).trans (rb_wrn (by omega) (by omega))
        exact ⟨(rb_nz (rb_nz 1), c', g', f', pr', pf'), (rb_nz 1, a', rd', ag', mf', na', nb', nl', sv', wa1), rb_bnd _ f1 ((if_neg qi).trans (rb_bnd _ b1 ((if_neg h01).trans (rb_bnd _ b3 ((if_neg h01).trans (rb_bnd _ w1 (rb_bnd _ (w2 _) (rb_bnd _ t1 (rb_bnd _ e4 rfl))))))))), rb_bnd _ f2 ((if_neg qp).trans (rb_bnd _ is1 ((if_neg h01).trans (rb_bnd _ hk (rb_bnd _ t2 rfl))))), rb_nzz1, hI _ rfl rfl rfl rfl rfl rfl rfl rfl rfl rfl⟩
      · have is0 : XX7_isSuch v3 v4 = some (nI 0) := rb_bnd _ b2 ((if_neg h01).trans (rb_bnd _ b4 (if_pos rfl)))
        exact no (rb_bnd _ f1 ((if_neg qi).trans (rb_bnd _ b1 ((if_neg h01).trans (rb_bnd _ b3 (if_pos rfl)))))) (rb_bnd _ f2 ((if_neg qp).trans (rb_bnd _ is0 (if_pos rfl))))
    · have is0 : XX7_isSuch v3 v4 = some (nI 0) := rb_bnd _ b2 (if_pos rfl)
      exact no (rb_bnd _ f1 ((if_neg qi).trans (rb_bnd _ b1 (if_pos rfl)))) (rb_bnd _ f2 ((if_neg qp).trans (rb_bnd _ is0 (if_pos rfl))))
theorem rs_drop : rb_S_drop rb_Inv := by
  intro n μ v1 v2 hn h
  obtain ⟨mf1, wa1, hk, hm⟩ := rb_Kex h
  obtain ⟨nn, π, s, s', hR, hB⟩ := h.1
  have hn24 : nn ≤ 24 := hR.1.2.2.2.2.2.2.2
  have qm : ¬ (0 : Int32) ≤ mI := by decide
  obtain ⟨o, f1, f2, f3⟩ := rp_found hR v1 v2
  cases o with
  | none => exact ⟨(rb_nz 0, μ 5, μ 14, μ 13), (rb_nz 0, μ 20, μ 19, μ 31), rb_bnd _ f1 (if_neg qm), rb_bnd _ f2 (if_neg qm), rfl, rb_fin0 h rfl rfl rfl rfl rfl rfl rfl rfl rfl rfl rfl⟩
  | some i =>
    have hi := f3 i rfl
    have hπ := (hR.2.2.1.1 i hi).1
    have qi : (0 : Int32) ≤ nI i := nI_pos' (by omega)
    have qp : (0 : Int32) ≤ nI (π i) := nI_pos' (by omega)
    have hr := rp_drop1 hR hi
    obtain ⟨pr', pf', e4, hI⟩ := rb_ki h hk (ans := nI 1) (did := True) ⟨fun _ => by decide, fun _ => trivial⟩ (Or.inl ⟨trivial, rb_RBn hr hB (fun u hu => by rw [rb_upn (by omega), rb_rmv_ne (by omega)]), rfl, rfl, rfl⟩)
    have d1 : XX7_dropInterest (μ 20) (nI (π i)) = some (upd (μ 20) (296 + 11 * π i) mI) := by
      unfold XX7_dropInterest
      exact rb_bnd _ (xn_interestAt (π i) 0) (rb_bnd _ (rb_wrn (by omega) (by omega)) rfl)
    exact ⟨(rb_nz (rb_nz 1), _, pr', pf'), (rb_nz 1, _, mf1, wa1), rb_bnd _ f1 ((if_pos qi).trans (rb_bnd _ (xn_remove hR.1.2.2.2.2.2.2.1 hn24 hi) (rb_bnd _ e4 rfl))), rb_bnd _ f2 ((if_pos qp).trans (rb_bnd _ hk (rb_bnd _ d1 rfl))), rb_nzz1, hI _ rfl rfl rfl rfl rfl rfl rfl rfl rfl rfl⟩
