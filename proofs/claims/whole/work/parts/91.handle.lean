theorem yn_isEnd {a : rb_Row} {x k : Nat} (hx : x < 28) (hk : k < 6) (e : a (16 + 6 * x) = nI k) : XX7_isEnd a (nI x) = some (if k < 2 then nI 1 else nI 0) := by
  have kd := xn_kindOf a hx
  rw [e] at kd
  unfold XX7_isEnd
  by_cases k0 : k = 0
  · subst k0; exact rb_bnd _ kd (if_pos rfl)
  · have q0 : ¬ nI k = (0 : Int32) := by rw [show (0 : Int32) = nI 0 from rfl, nI_eq (by omega) (by omega)]; exact k0
    by_cases k1 : k = 1
    · subst k1; exact rb_bnd _ kd ((if_neg q0).trans (rb_bnd _ kd (if_pos rfl)))
    · have q1 : ¬ nI k = (1 : Int32) := by rw [show (1 : Int32) = nI 1 from rfl, nI_eq (by omega) (by omega)]; exact k1
      rw [if_neg (show ¬ k < 2 by omega)]
      exact rb_bnd _ kd ((if_neg q0).trans (rb_bnd _ kd (if_neg q1)))
theorem rp_holds {W q n : Nat} {π : Nat → Nat} {s s' : Nat} {c a : rb_Row} (hR : rR 28 W q n π s s' c a) {x : Nat} (hx : x < 28) (hl : rb_live c x) : ∃ d, ((rb_rd c 773 (19 + nI x)).bind fun v8 => if v8 = 4 then (XX1_heldBy c (nI x)).bind fun t11 => some t11 else (rb_rd c 773 (47 + nI x)).bind fun v13 => some v13) = some d ∧ XX7_holdsOf a (nI x) = some d := by
  have n10 : ¬ nI 1 = (0 : Int32) := by decide
  have r19 : rb_rd c 773 (19 + nI x) = some (c (19 + x)) := (congrArg (rb_rd c 773) (nI_add 19 x)).trans (rb_rdn (by omega) (by omega))
  have r47 : rb_rd c 773 (47 + nI x) = some (c (47 + x)) := (congrArg (rb_rd c 773) (nI_add 47 x)).trans (rb_rdn (by omega) (by omega))
  obtain ⟨ek, hO⟩ := hR.2.1.2.1 x hx
  have kd := xn_kindOf a hx
  rw [ek] at kd
  have o1 := xn_ofObject a (f := 1) hx (by omega)
  unfold XX7_holdsOf
  rcases hO with ⟨e1, _⟩ | ⟨e, p, r, b, he, e1, hp, e2, e3, e4, e5, e6, _⟩ | ⟨b, _, e1, e2, e3, _⟩ | ⟨b, _, e1, e2, e3, _⟩ | ⟨e1, e2⟩ | ⟨k, r, e1, e2, _, _, _, _, _, _, _, _, e3⟩
  · exact absurd hl (rb_dead e1)
  · have ie := yn_isEnd hx (show e < 6 by omega) (ek.trans e1)
    rw [if_pos he] at ie
    have q4 : ¬ c (19 + x) = (4 : Int32) := rb_kne e1 (by omega) (k := 4) (by omega) (by omega)
    rw [e2] at o1
    have op := xn_ofPipe a (f := 1) hp (by omega)
    exact ⟨nI b, rb_bnd _ r19 ((if_neg q4).trans (rb_bnd _ r47 (congrArg some e6))), rb_bnd _ ie ((if_neg n10).trans (rb_bnd _ o1 (rb_bnd _ op (congrArg some e5))))⟩
  · have ie := yn_isEnd hx (show 2 < 6 by omega) (ek.trans e1)
    have q4 : ¬ c (19 + x) = (4 : Int32) := rb_kne e1 (by omega) (k := 4) (by omega) (by omega)
    have q5 : ¬ c (19 + x) = (5 : Int32) := rb_kne e1 (by omega) (k := 5) (by omega) (by omega)
    exact ⟨nI b, rb_bnd _ r19 ((if_neg q4).trans (rb_bnd _ r47 (congrArg some e2))), rb_bnd _ ie ((if_pos rfl).trans (rb_bnd _ kd ((if_neg q4).trans (rb_bnd _ kd ((if_neg q5).trans (rb_bnd _ o1 (congrArg some e3)))))))⟩
  · have ie := yn_isEnd hx (show 3 < 6 by omega) (ek.trans e1)
    have q4 : ¬ c (19 + x) = (4 : Int32) := rb_kne e1 (by omega) (k := 4) (by omega) (by omega)
    have q5 : ¬ c (19 + x) = (5 : Int32) := rb_kne e1 (by omega) (k := 5) (by omega) (by omega)
    exact ⟨nI b, rb_bnd _ r19 ((if_neg q4).trans (rb_bnd _ r47 (congrArg some e2))), rb_bnd _ ie ((if_pos rfl).trans (rb_bnd _ kd ((if_neg q4).trans (rb_bnd _ kd ((if_neg q5).trans (rb_bnd _ o1 (congrArg some e3)))))))⟩
  · have ie := yn_isEnd hx (show 4 < 6 by omega) (ek.trans e1)
    have q4 : c (19 + x) = (4 : Int32) := e1
    obtain ⟨h1, h2⟩ := rp_heldBy hR hx
    exact ⟨_, rb_bnd _ r19 ((if_pos q4).trans (rb_bnd _ h1 rfl)), rb_bnd _ ie ((if_pos rfl).trans (rb_bnd _ kd ((if_pos q4).trans (rb_bnd _ h2 rfl))))⟩
  · have ie := yn_isEnd hx (show 5 < 6 by omega) (ek.trans e1)
    have q4 : ¬ c (19 + x) = (4 : Int32) := rb_kne e1 (by omega) (k := 4) (by omega) (by omega)
    have q5 : c (19 + x) = (5 : Int32) := e1
    have wt := yn_waits hR.2.1 hx
    exact ⟨_, rb_bnd _ r19 ((if_neg q4).trans (rb_bnd _ r47 (congrArg some (e3 (by omega)).1))), rb_bnd _ ie ((if_pos rfl).trans (rb_bnd _ kd ((if_neg q4).trans (rb_bnd _ kd ((if_pos q5).trans (rb_bnd _ wt rfl))))))⟩
theorem yn_sleepersAt {W q n : Nat} {π : Nat → Nat} {s s' : Nat} {c a : rb_Row} (hR : rR 28 W q n π s s' c a) (x : Int32) : XX7_sleepersAt a x = some (nI (rb_cn (fun i => decide (c (539 + i) = x)) 6)) := by
  unfold XX7_sleepersAt
  refine rb_bnd _ (rb_lpc0 (fun i => decide (c (539 + i) = x)) 6 (by omega) (fun j m hj hm => ?_) (fun m hm => if_pos (show (6 : Int32) ≤ nI 6 by decide))) rfl
  have q1 : ¬ (6 : Int32) ≤ nI j := by rw [show (6 : Int32) = nI 6 from rfl, nI_leI (by omega) (by omega)]; omega
  have p2 : nI j + 1 = nI (j + 1) := nI_add j 1
  have o0 := xn_ofTask a (f := 0) hj (by omega)
  rw [Nat.add_zero, (hR.2.2.2.2.1 j hj).1] at o0
  by_cases h1 : c (539 + j) = x
  · have e : (m + bif decide (c (539 + j) = x) then 1 else 0) = m + 1 := by simp [h1]
    rw [e]
    exact (if_neg q1).trans (rb_bnd _ o0 (rb_bnd (nI 1) (if_pos h1) (by rw [← p2, show nI m + nI 1 = nI (m + 1) from nI_add m 1])))
  · have e : (m + bif decide (c (539 + j) = x) then 1 else 0) = m := by simp [h1]
    rw [e]
    exact (if_neg q1).trans (rb_bnd _ o0 (rb_bnd (nI 0) (if_neg h1) (by rw [← p2, show nI m + nI 0 = nI m from nI_add m 0])))
theorem rp_fifth {W q n : Nat} {π : Nat → Nat} {s s' : Nat} {c a : rb_Row} (hR : rR 28 W q n π s s' c a) {x : Nat} (hx : x < 28) (hl : rb_live c x) : ∃ d, XX6_measureOf c (nI x) = some d ∧ XX7_fifthOf a (nI x) = some d := by
  have n10 : ¬ nI 1 = (0 : Int32) := by decide
  have rd : ∀ col, col ≤ 215 → rb_rd c 773 (nI col + nI x) = some (c (col + x)) := fun col h => (congrArg (rb_rd c 773) (nI_add col x)).trans (rb_rdn (by omega) (by omega))
  have r19 := rd 19 (by omega)
  obtain ⟨ek, hO⟩ := hR.2.1.2.1 x hx
  have kd := xn_kindOf a hx
  rw [ek] at kd
  have o1 := xn_ofObject a (f := 1) hx (by omega)
  have o2 := xn_ofObject a (f := 2) hx (by omega)
  unfold XX6_measureOf XX7_fifthOf
  have nk : ∀ j, j < 6 → c (19 + x) = nI j → ∀ i, i < 6 → i ≠ j → ¬ c (19 + x) = nI i := fun j hj e i hi hne => rb_kne e (by omega) (by omega) (fun g => hne g.symm)
  rcases hO with ⟨e1, _⟩ | ⟨e, p, r, b, he, e1, hp, e2, e3, e4, e5, e6, e7, e8, _⟩ | ⟨b, _, e1, e2, e3, _, e4, _⟩ | ⟨b, _, e1, e2, e3, _, _, e4, _⟩ | ⟨e1, e2⟩ | ⟨k, r, e1, e2, _, _, _, _, e3, e4, _⟩
  · exact absurd hl (rb_dead e1)
  · have ie := yn_isEnd hx (show e < 6 by omega) (ek.trans e1)
    rw [if_pos he] at ie
    rw [e2] at o1
    have op := xn_ofPipe a (f := 0) hp (by omega)
    rw [Nat.add_zero, e7] at op
    refine ⟨nI r, ?_, rb_bnd _ ie ((if_neg n10).trans (rb_bnd _ o1 (rb_bnd _ op rfl)))⟩
    rcases (show e = 0 ∨ e = 1 by omega) with g | g
    · subst g
      exact rb_bnd _ r19 ((if_pos e1).trans (rb_bnd _ (rd 75 (by omega)) (congrArg some e8)))
    · subst g
      exact rb_bnd _ r19 ((if_neg (nk 1 (by omega) e1 0 (by omega) (by omega))).trans ((if_pos e1).trans (rb_bnd _ (rd 75 (by omega)) (congrArg some e8))))
  · have ie := yn_isEnd hx (show 2 < 6 by omega) (ek.trans e1)
    have nk2 := nk 2 (by omega) e1
    exact ⟨_, rb_bnd _ r19 ((if_neg (nk2 0 (by omega) (by omega))).trans ((if_neg (nk2 1 (by omega) (by omega))).trans ((if_pos e1).trans (rb_bnd _ (rd 103 (by omega)) rfl)))), rb_bnd _ ie ((if_pos rfl).trans (rb_bnd _ kd ((if_neg (nk2 4 (by omega) (by omega))).trans (rb_bnd _ o2 (congrArg some e4)))))⟩
  · have ie := yn_isEnd hx (show 3 < 6 by omega) (ek.trans e1)
    have nk2 := nk 3 (by omega) e1
    exact ⟨_, rb_bnd _ r19 ((if_neg (nk2 0 (by omega) (by omega))).trans ((if_neg (nk2 1 (by omega) (by omega))).trans ((if_neg (nk2 2 (by omega) (by omega))).trans ((if_pos e1).trans (rb_bnd _ (rd 159 (by omega)) rfl))))), rb_bnd _ ie ((if_pos rfl).trans (rb_bnd _ kd ((if_neg (nk2 4 (by omega) (by omega))).trans (rb_bnd _ o2 (congrArg some e4)))))⟩
  · have ie := yn_isEnd hx (show 4 < 6 by omega) (ek.trans e1)
    have nk2 := nk 4 (by omega) e1
    exact ⟨_, rb_bnd _ r19 ((if_neg (nk2 0 (by omega) (by omega))).trans ((if_neg (nk2 1 (by omega) (by omega))).trans ((if_neg (nk2 2 (by omega) (by omega))).trans ((if_neg (nk2 3 (by omega) (by omega))).trans ((if_pos e1).trans (rb_bnd _ (xn_sleepersAt c (nI x)) rfl)))))), rb_bnd _ ie ((if_pos rfl).trans (rb_bnd _ kd ((if_pos e1).trans (rb_bnd _ (yn_sleepersAt hR (nI x)) rfl))))⟩
  · have ie := yn_isEnd hx (show 5 < 6 by omega) (ek.trans e1)
    have nk2 := nk 5 (by omega) e1
    exact ⟨nI k, rb_bnd _ r19 ((if_neg (nk2 0 (by omega) (by omega))).trans ((if_neg (nk2 1 (by omega) (by omega))).trans ((if_neg (nk2 2 (by omega) (by omega))).trans ((if_neg (nk2 3 (by omega) (by omega))).trans ((if_neg (nk2 4 (by omega) (by omega))).trans ((if_pos e1).trans (rb_bnd _ (rd 215 (by omega)) (congrArg some e4)))))))), rb_bnd _ ie ((if_pos rfl).trans (rb_bnd _ kd ((if_neg (nk2 4 (by omega) (by omega))).trans (rb_bnd _ o2 (congrArg some e3)))))⟩
theorem rp_handlesOf {W q n : Nat} {π : Nat → Nat} {s s' : Nat} {c a : rb_Row} (hR : rR 28 W q n π s s' c a) (x : Int32) : ∃ d, XX5_handlesOf c x = some d ∧ XX7_handlesOf a x = some d := by
  refine ⟨nI (rb_cn (fun i => decide (c (3 + i) = x)) 16), ?_, ?_⟩
  · unfold XX5_handlesOf
    refine rb_bnd _ (rb_lpc0 (fun i => decide (c (3 + i) = x)) 16 (by omega) (fun j m hj hm => ?_) (fun m hm => if_pos (show (16 : Int32) ≤ nI 16 by decide))) rfl
    have q1 : ¬ (16 : Int32) ≤ nI j := by rw [show (16 : Int32) = nI 16 from rfl, nI_leI (by omega) (by omega)]; omega
    have p2 : nI j + 1 = nI (j + 1) := nI_add j 1
    have r0 : rb_rd c 773 (3 + nI j) = some (c (3 + j)) := (congrArg (rb_rd c 773) (nI_add 3 j)).trans (rb_rdn (by omega) (by omega))
    by_cases h1 : c (3 + j) = x
    · have e : (m + bif decide (c (3 + j) = x) then 1 else 0) = m + 1 := by simp [h1]
      rw [e]
      exact (if_neg q1).trans (rb_bnd _ r0 (rb_bnd (nI m + 1) (if_pos h1) (by rw [← p2, show nI m + 1 = nI (m + 1) from nI_add m 1])))
    · have e : (m + bif decide (c (3 + j) = x) then 1 else 0) = m := by simp [h1]
      rw [e]
      exact (if_neg q1).trans (rb_bnd _ r0 (rb_bnd (nI m) (if_neg h1) (by rw [← p2])))
  · unfold XX7_handlesOf
    refine rb_bnd _ (rb_lpc0 (fun i => decide (c (3 + i) = x)) 16 (by omega) (fun j m hj hm => ?_) (fun m hm => if_pos (show (16 : Int32) ≤ nI 16 by decide))) rfl
    have q1 : ¬ (16 : Int32) ≤ nI j := by rw [show (16 : Int32) = nI 16 from rfl, nI_leI (by omega) (by omega)]; omega
    have p2 : nI j + 1 = nI (j + 1) := nI_add j 1
    have r0 : rb_rd a 796 (nI j) = some (c (3 + j)) := (rb_rdn (by omega) (by omega)).trans (congrArg some (hR.2.1.1 j hj).1)
    by_cases h1 : c (3 + j) = x
    · have e : (m + bif decide (c (3 + j) = x) then 1 else 0) = m + 1 := by simp [h1]
      rw [e]
      exact (if_neg q1).trans (rb_bnd _ r0 (rb_bnd (nI 1) (if_pos h1) (by rw [← p2, show nI m + nI 1 = nI (m + 1) from nI_add m 1])))
    · have e : (m + bif decide (c (3 + j) = x) then 1 else 0) = m := by simp [h1]
      rw [e]
      exact (if_neg q1).trans (rb_bnd _ r0 (rb_bnd (nI 0) (if_neg h1) (by rw [← p2, show nI m + nI 0 = nI m from nI_add m 0])))
theorem rp_aimed {W q n : Nat} {π : Nat → Nat} {s s' : Nat} {c a : rb_Row} (hR : rR 28 W q n π s s' c a) {x : Nat} (hx : x < 28) : ∃ d, XX1_aimedAt c (nI x) = some d ∧ XX7_interestsIn a (nI x) = some d := by
  have hn : n ≤ 24 := hR.1.2.2.2.2.2.2.2
  have hI := hR.2.2.1
  refine ⟨nI (rb_cn (fun i => decide (c (323 + i) = nI x)) n), rb_bnd _ (xn_countOf c (nI x) 323 n hR.1.2.2.2.2.2.2.1 hn (by omega)) rfl, ?_⟩
  unfold XX7_interestsIn
  have cp : rb_cn (fun t => !decide (a (296 + 11 * t) < nI 0) && decide (a (296 + 11 * t + 1) = nI x)) 24 = rb_cn (fun i => decide (c (323 + i) = nI x)) n := by
    rw [rb_cn_pi (π := π) (n := n) (fun i hi => (hI.1 i hi).1) (rI_inj hI) (fun t ht ht2 => ?_)]
    · refine rb_cn_congr (fun i hi => ?_)
      obtain ⟨y, hy, g1, _⟩ := hI.2.1 i hi
      have g2 : ¬ a (296 + 11 * π i) < nI 0 := by rw [(hI.1 i hi).2.1, g1]; exact nI_pos (by omega)
      rw [(hI.1 i hi).2.2.1]
      simp [g2]
    · refine rI_slot hI ht (fun e => ?_)
      rw [e] at ht2
      simp only [Bool.and_eq_true] at ht2
      exact absurd ht2.1 (by decide)
  rw [← cp]
  refine rb_bnd _ (rb_lpc0 (fun t => !decide (a (296 + 11 * t) < nI 0) && decide (a (296 + 11 * t + 1) = nI x)) 24 (by omega) (fun j m hj hm => ?_) (fun m hm => if_pos (show (24 : Int32) ≤ nI 24 by decide))) rfl
  have q1 : ¬ (24 : Int32) ≤ nI j := by rw [show (24 : Int32) = nI 24 from rfl, nI_leI (by omega) (by omega)]; omega
  have p2 : nI j + 1 = nI (j + 1) := nI_add j 1
  have ii := xn_isInterest a hj
  have o1 := xn_ofInterest a (f := 1) hj (by omega)
  by_cases h0 : a (296 + 11 * j) < nI 0
  · rw [if_pos h0] at ii
    have e : (m + bif (!decide (a (296 + 11 * j) < nI 0) && decide (a (296 + 11 * j + 1) = nI x)) then 1 else 0) = m := by simp [h0]
    rw [e]
    exact (if_neg q1).trans (rb_bnd _ ii (rb_bnd (nI 0) (if_pos rfl) (by rw [← p2, show nI m + nI 0 = nI m from nI_add m 0])))
  · rw [if_neg h0] at ii
    have n10 : ¬ nI 1 = (0 : Int32) := by decide
    by_cases h1 : a (296 + 11 * j + 1) = nI x
    · have e : (m + bif (!decide (a (296 + 11 * j) < nI 0) && decide (a (296 + 11 * j + 1) = nI x)) then 1 else 0) = m + 1 := by simp [h0, h1]
      rw [e]
      exact (if_neg q1).trans (rb_bnd _ ii (rb_bnd (nI 1) ((if_neg n10).trans (rb_bnd _ o1 (if_pos h1))) (by rw [← p2, show nI m + nI 1 = nI (m + 1) from nI_add m 1])))
    · have e : (m + bif (!decide (a (296 + 11 * j) < nI 0) && decide (a (296 + 11 * j + 1) = nI x)) then 1 else 0) = m := by simp [h1]
      rw [e]
      exact (if_neg q1).trans (rb_bnd _ ii (rb_bnd (nI 0) ((if_neg n10).trans (rb_bnd _ o1 (if_neg h1))) (by rw [← p2, show nI m + nI 0 = nI m from nI_add m 0])))
theorem rs_handle : rb_S_handle rb_Inv := by
  intro n μ v1 v2 hn h
  obtain ⟨nn, π, s, s', hR, hB⟩ := h.1
  have hsq := hR.1.2.2.2.2.2.1
  have m0 : ¬ (0 : Int32) ≤ mI := by decide
  have n10 : ¬ nI 1 = (0 : Int32) := by decide
  have key : ∃ d rd', XX6_handle (μ 5) v1 v2 = some d ∧ XX7_handle (μ 21) (μ 20) v1 v2 = some (d, rd') := by
    unfold XX6_handle XX7_handle
    rcases rp_thing hR.2.1 v1 with ⟨r1, r2⟩ | ⟨k, x, hk, hx, ev, ec, ea, hl, hw, hz, r1, r2⟩
    · exact ⟨-1, μ 21, rb_bnd _ r1 (if_neg m0), rb_bnd _ r2 (if_pos rfl)⟩
    · subst ev
      have x0 : (0 : Int32) ≤ nI x := nI_pos' (by omega)
      have rk : rb_rd (μ 20) 796 (nI k) = some (nI x) := (rb_rdn (by omega) (by omega)).trans (congrArg some ea)
      have r19 : rb_rd (μ 5) 773 (19 + nI x) = some (μ 5 (19 + x)) := (congrArg (rb_rd (μ 5) 773) (nI_add 19 x)).trans (rb_rdn (by omega) (by omega))
      have kd := xn_kindOf (μ 20) hx
      rw [(hR.2.1.2.1 x hx).1] at kd
      obtain ⟨d1, a1, a2⟩ := rp_holds hR hx hl
      obtain ⟨rd', b1, b2⟩ := yn_layReady hR (by omega) (μ 21)
      have b3 := xn_ready5 hR hx hl
      have b4 : rb_rd rd' 28 (nI x) = some (rq (μ 5) nn 4 x) := (rb_rdn (by omega) (by omega)).trans (congrArg some (b2 x hx hz hl))
      obtain ⟨d3, c1, c2⟩ := rp_handlesOf hR (nI x)
      obtain ⟨d4, c3, c4⟩ := rp_aimed hR hx
      obtain ⟨d5, c5, c6⟩ := rp_fifth hR hx hl
      by_cases g0 : v2 = 0
      · exact ⟨_, _, rb_bnd _ r1 ((if_pos x0).trans ((if_pos g0).trans (rb_bnd _ r19 rfl))), rb_bnd _ r2 ((if_neg n10).trans (rb_bnd _ rk ((if_pos g0).trans (rb_bnd _ kd rfl))))⟩
      · by_cases g1 : v2 = 1
        · exact ⟨_, _, rb_bnd _ r1 ((if_pos x0).trans ((if_neg g0).trans ((if_pos g1).trans a1))), rb_bnd _ r2 ((if_neg n10).trans (rb_bnd _ rk ((if_neg g0).trans ((if_pos g1).trans (rb_bnd _ a2 rfl)))))⟩
        · by_cases g2 : v2 = 2
          · exact ⟨_, _, rb_bnd _ r1 ((if_pos x0).trans ((if_neg g0).trans ((if_neg g1).trans ((if_pos g2).trans (rb_bnd _ b3 rfl))))), rb_bnd _ r2 ((if_neg n10).trans (rb_bnd _ rk ((if_neg g0).trans ((if_neg g1).trans ((if_pos g2).trans (rb_bnd _ b1 (rb_bnd _ b4 rfl)))))))⟩
          · by_cases g3 : v2 = 3
            · exact ⟨_, _, rb_bnd _ r1 ((if_pos x0).trans ((if_neg g0).trans ((if_neg g1).trans ((if_neg g2).trans ((if_pos g3).trans (rb_bnd _ c1 rfl)))))), rb_bnd _ r2 ((if_neg n10).trans (rb_bnd _ rk ((if_neg g0).trans ((if_neg g1).trans ((if_neg g2).trans ((if_pos g3).trans (rb_bnd _ c2 rfl)))))))⟩
            · by_cases g4 : v2 = 4
              · exact ⟨_, _, rb_bnd _ r1 ((if_pos x0).trans ((if_neg g0).trans ((if_neg g1).trans ((if_neg g2).trans ((if_neg g3).trans ((if_pos g4).trans (rb_bnd _ c3 rfl))))))), rb_bnd _ r2 ((if_neg n10).trans (rb_bnd _ rk ((if_neg g0).trans ((if_neg g1).trans ((if_neg g2).trans ((if_neg g3).trans ((if_pos g4).trans (rb_bnd _ c4 rfl))))))))⟩
              · by_cases g5 : v2 = 5
                · exact ⟨_, _, rb_bnd _ r1 ((if_pos x0).trans ((if_neg g0).trans ((if_neg g1).trans ((if_neg g2).trans ((if_neg g3).trans ((if_neg g4).trans ((if_pos g5).trans (rb_bnd _ c5 rfl)))))))), rb_bnd _ r2 ((if_neg n10).trans (rb_bnd _ rk ((if_neg g0).trans ((if_neg g1).trans ((if_neg g2).trans ((if_neg g3).trans ((if_neg g4).trans ((if_pos g5).trans (rb_bnd _ c6 rfl)))))))))⟩
                · exact ⟨_, _, rb_bnd _ r1 ((if_pos x0).trans ((if_neg g0).trans ((if_neg g1).trans ((if_neg g2).trans ((if_neg g3).trans ((if_neg g4).trans (if_neg g5))))))), rb_bnd _ r2 ((if_neg n10).trans (rb_bnd _ rk ((if_neg g0).trans ((if_neg g1).trans ((if_neg g2).trans ((if_neg g3).trans ((if_neg g4).trans (if_neg g5))))))))⟩
  obtain ⟨d, rd', k1, k2⟩ := key
  exact ⟨d, (d, rd'), k1, k2, rfl, rb_fin0 h rfl rfl rfl rfl rfl rfl rfl rfl rfl rfl rfl⟩
theorem rs_listed : rb_S_listed rb_Inv := by
  intro n μ v1 hn h
  obtain ⟨nn, π, s, s', hR, hB⟩ := h.1
  have hn24 : nn ≤ 24 := hR.1.2.2.2.2.2.2.2
  have hsq := hR.1.2.2.2.2.2.1
  have hI := hR.2.2.1
  have h01 : ¬ (nI 1 = (0 : Int32)) := by decide
  have qm : ¬ (0 : Int32) ≤ mI := by decide
  rcases rp_set hR v1 with ⟨e1, e2⟩ | ⟨k, x, hk, hx, ev, ec, ea, h4, e1, e2, e3⟩
  · exact ⟨-1, -1, rb_bnd _ e1 (if_neg qm), rb_bnd _ e2 (if_pos rfl), rfl, rb_Inv_mono n μ h⟩
  · have qx : (0 : Int32) ≤ nI x := nI_pos' (by omega)
    have e4 := xn_listedBy (μ 5) (nI x) nn hR.1.2.2.2.2.2.2.1 hn24
    have cp : rb_cn (fun t => decide (μ 20 (296 + 11 * t) = nI x) && !decide (μ 20 (296 + 11 * t + 7) ≤ nI 0)) 24 = rb_cn (fun i => decide (μ 5 (299 + i) = nI x) && !decide (μ 5 (443 + i) < nI 0)) nn := by
      rw [rb_cn_pi (π := π) (n := nn) (fun i hi => (hI.1 i hi).1) (rI_inj hI) (fun t ht ht2 => ?_)]
      · refine rb_cn_congr (fun i hi => ?_)
        have := rL_lst hR.2.2.2.1 (by omega) hR.1.2.2.2.2.1 hi
        rw [(hI.1 i hi).2.1]
        simp [this]
      · refine rI_slot hI ht (fun e => ?_)
        rw [e] at ht2
        simp only [Bool.and_eq_true, decide_eq_true_eq] at ht2
        exact absurd ht2.1.symm (rb_nmm (by omega))
    refine ⟨_, nI (rb_cn (fun t => decide (μ 20 (296 + 11 * t) = nI x) && !decide (μ 20 (296 + 11 * t + 7) ≤ nI 0)) 24), rb_bnd _ e1 ((if_pos qx).trans (rb_bnd _ e4 rfl)), rb_bnd _ e2 ((if_neg h01).trans (rb_bnd _ (rb_lpc0 (fun t => decide (μ 20 (296 + 11 * t) = nI x) && !decide (μ 20 (296 + 11 * t + 7) ≤ nI 0)) 24 (by omega) (fun j m hj hm => ?_) (fun m hm => if_pos (show (24 : Int32) ≤ nI 24 by decide))) rfl)), by rw [cp], rb_Inv_mono n μ h⟩
    have q1 : ¬ (24 : Int32) ≤ nI j := by rw [show (24 : Int32) = nI 24 from rfl, nI_leI (by omega) (by omega)]; omega
    have p2 : nI j + 1 = nI (j + 1) := nI_add j 1
    have o0 := xn_ofInterest (μ 20) (f := 0) hj (by omega)
    rw [Nat.add_zero] at o0
    have o7 := xn_ofInterest (μ 20) (f := 7) hj (by omega)
    by_cases h0 : μ 20 (296 + 11 * j) = nI x
    · by_cases h7 : μ 20 (296 + 11 * j + 7) ≤ nI 0
      · have e : (m + bif (decide (μ 20 (296 + 11 * j) = nI x) && !decide (μ 20 (296 + 11 * j + 7) ≤ nI 0)) then 1 else 0) = m := by simp [h7]
        rw [e]
        exact (if_neg q1).trans (rb_bnd _ o0 (rb_bnd _ e3 (rb_bnd (nI 0) ((if_pos h0).trans (rb_bnd _ o7 (if_pos h7))) (by rw [← p2, show nI m + nI 0 = nI m from nI_add m 0]))))
      · have e : (m + bif (decide (μ 20 (296 + 11 * j) = nI x) && !decide (μ 20 (296 + 11 * j + 7) ≤ nI 0)) then 1 else 0) = m + 1 := by simp [h0, h7]
        rw [e]
        exact (if_neg q1).trans (rb_bnd _ o0 (rb_bnd _ e3 (rb_bnd (nI 1) ((if_pos h0).trans (rb_bnd _ o7 (if_neg h7))) (by rw [← p2, show nI m + nI 1 = nI (m + 1) from nI_add m 1]))))
    · have e : (m + bif (decide (μ 20 (296 + 11 * j) = nI x) && !decide (μ 20 (296 + 11 * j + 7) ≤ nI 0)) then 1 else 0) = m := by simp [h0]
      rw [e]
      exact (if_neg q1).trans (rb_bnd _ o0 (rb_bnd _ e3 (rb_bnd (nI 0) (if_neg h0) (by rw [← p2, show nI m + nI 0 = nI m from nI_add m 0]))))
