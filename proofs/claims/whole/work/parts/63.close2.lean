set_option maxHeartbeats 8000000 in
theorem rp_close1 {W q n : Nat} {π : Nat → Nat} {s s' : Nat} {c a : rb_Row} (h : rR 28 W q n π s s' c a) {k x : Nat} (hk : k < 16) (hx : x < 28) (ek : c (3 + k) = nI x) (honly : ∀ j, j < 16 → j ≠ k → c (3 + j) ≠ nI x) : ∃ (m : Nat) (e : Nat → Nat) (c1 a1 : rb_Row), XX1_removeAllOf (upd c (3 + k) mI) (nI x) = some c1 ∧ rb_lp (bdG1 (nI x)) 100000 (nI 0, upd a k mI) = some a1 ∧ rR x W q m (fun j => π (e j)) s s' c1 a1 ∧ (∀ j, (j < 299 ∧ j ≠ 2 ∧ j ≠ 3 + k) ∨ 539 ≤ j → c1 j = c j) ∧ c1 (3 + k) = mI := by
  have hn : n ≤ 24 := h.1.2.2.2.2.2.2.2
  have hc2 : (upd c (3 + k) mI) 2 = nI n := by rw [rb_upn (by omega)]; exact h.1.2.2.2.2.2.2.1
  have hI := h.2.2.1
  have eka : a k = nI x := by rw [(h.2.1.1 k hk).1]; exact ek
  obtain ⟨c1, e1, m, e, g1, g2, g3, g4, g5, g6, g7⟩ := xn_removeAll hc2 hn hx
  have hds := yn_ds (a := upd a k mI) hx
  have hcol : ∀ t j, t < 10 → j < 24 → (upd c (3 + k) mI) (299 + 24 * t + j) = c (299 + 24 * t + j) := fun t j ht hj => rb_upn (by omega)
  have hck : c1 (3 + k) = mI := by rw [g5 _ (by omega)]; exact rb_upe rfl
  have hdk : rb_ds (fun u => !decide ((upd a k mI) (296 + 11 * u) < nI 0) && (decide ((upd a k mI) (296 + 11 * u + 1) = nI x) || decide ((upd a k mI) (296 + 11 * u) = nI x))) (upd a k mI) 24 k = mI := by rw [rb_ds_ne _ _ (fun i hi => by omega)]; exact rb_upe rfl
  have hkp : ∀ o, o < n → ((upd c (3 + k) mI) (299 + o) = c (299 + o) ∧ (upd c (3 + k) mI) (323 + o) = c (323 + o)) := fun o ho => ⟨rb_upn (by omega), rb_upn (by omega)⟩
  have hR1 : rR 28 W q m (fun j => π (e j)) s s' (upd c1 (3 + k) (nI x)) (upd (rb_ds (fun u => !decide ((upd a k mI) (296 + 11 * u) < nI 0) && (decide ((upd a k mI) (296 + 11 * u + 1) = nI x) || decide ((upd a k mI) (296 + 11 * u) = nI x))) (upd a k mI) 24) k (nI x)) := by
    refine rp_fewer h g2 g3 g1 (fun t j ht hj => ?_) (fun j hj => ?_) ?_ (fun j hj => ?_) (fun i hi hne => ?_) (fun u hu hne => ?_) (fun j hj => ?_)
    · have := g2 j hj
      rw [rb_upn (by omega), g4 t j ht hj, hcol t _ ht (by omega)]
    · by_cases q : j = 3 + k
      · subst q; rw [rb_upe rfl]; exact ek.symm
      · rw [rb_upn q, g5 j (by omega), rb_upn q]
    · rw [rb_upn (by omega)]; exact g6
    · have hp := (hI.1 (e j) (g2 j hj)).1
      have hkeep := (g7 (e j) (g2 j hj)).mp ⟨j, hj, rfl⟩
      rw [(hkp _ (g2 j hj)).1, (hkp _ (g2 j hj)).2] at hkeep
      rw [rb_upn (by omega), rb_ds_at 24 _ hp, rb_upn (by omega), rb_upn (by omega), (hI.1 (e j) (g2 j hj)).2.1, (hI.1 (e j) (g2 j hj)).2.2.1]
      simp [hkeep.1, hkeep.2]
    · have hp := (hI.1 i hi).1
      have hno : ¬ (c (299 + i) ≠ nI x ∧ c (323 + i) ≠ nI x) := fun g => by
        obtain ⟨j, hj, ej⟩ := (g7 i hi).mpr (by rw [(hkp i hi).1, (hkp i hi).2]; exact g)
        exact hne j hj ej
      obtain ⟨y, hy, ey, _⟩ := hI.2.1 i hi
      have hpos : ¬ a (296 + 11 * π i) < nI 0 := by rw [(hI.1 i hi).2.1, ey]; exact nI_pos (by omega)
      rw [rb_upn (by omega), rb_ds_at 24 _ hp, rb_upn (by omega), rb_upn (by omega)]
      have : (!decide (a (296 + 11 * π i) < nI 0) && (decide (a (296 + 11 * π i + 1) = nI x) || decide (a (296 + 11 * π i) = nI x))) = true := by
        rw [(hI.1 i hi).2.2.1]
        by_cases h3 : c (323 + i) = nI x
        · simp [hpos, h3]
        · have h4 : c (299 + i) = nI x := Classical.byContradiction (fun g => hno ⟨g, h3⟩)
          rw [(hI.1 i hi).2.1] at hpos ⊢
          simp [hpos, h4]
          exact nI_pos' (by omega)
      rw [this]
      rfl
    · have hm := hI.2.2.2.2.2.1 u hu hne
      rw [rb_upn (by omega), rb_ds_at 24 _ hu, rb_upn (by omega), rb_upn (by omega), hm]
      simp
    · by_cases q : j = k
      · subst q; rw [rb_upe rfl]; exact eka.symm
      · rw [rb_upn q, rb_ds_ne _ _ (fun i hi => hj i (by omega)), rb_upn q]
  have hU := rp_unname hR1 (z := x) hk hx (rb_upe rfl) (Or.inr ⟨rfl, fun j hj hne => ?_, fun i hi => ?_⟩)
  · have q1 : upd (upd c1 (3 + k) (nI x)) (3 + k) mI = c1 := by
      funext j
      by_cases q : j = 3 + k
      · subst q; rw [rb_upe rfl, hck]
      · rw [rb_upn q, rb_upn q]
    have q2 : upd (upd (rb_ds (fun u => !decide ((upd a k mI) (296 + 11 * u) < nI 0) && (decide ((upd a k mI) (296 + 11 * u + 1) = nI x) || decide ((upd a k mI) (296 + 11 * u) = nI x))) (upd a k mI) 24) k (nI x)) k mI = rb_ds (fun u => !decide ((upd a k mI) (296 + 11 * u) < nI 0) && (decide ((upd a k mI) (296 + 11 * u + 1) = nI x) || decide ((upd a k mI) (296 + 11 * u) = nI x))) (upd a k mI) 24 := by
      funext j
      by_cases q : j = k
      · subst q; rw [rb_upe rfl, hdk]
      · rw [rb_upn q, rb_upn q]
    rw [q1, q2] at hU
    exact ⟨m, e, c1, _, e1, hds, hU, fun j hj => by rw [g5 j (by omega), rb_upn (by omega)], hck⟩
  · rw [rb_upn (by omega), g5 _ (by omega), rb_upn (by omega)]
    exact honly j hj hne
  · have := g2 i hi
    have hkeep := (g7 (e i) this).mp ⟨i, hi, rfl⟩
    rw [(hkp _ this).1, (hkp _ this).2] at hkeep
    have q0 : c1 (299 + i) = c (299 + e i) := by have := g4 0 i (by omega) hi; rw [hcol 0 _ (by omega) (by omega)] at this; exact this
    have q1 : c1 (323 + i) = c (323 + e i) := by have := g4 1 i (by omega) hi; rw [hcol 1 _ (by omega) (by omega)] at this; exact this
    rw [rb_upn (by omega), rb_upn (by omega), q0, q1]
    exact hkeep
