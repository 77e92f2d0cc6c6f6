/-- depth -/
theorem ra_depth {B q : Nat} {c a : rb_Row} (h : rb_RB B q c a) (v : Int32) (be ab : rb_Row) : ∃ d be' ab', XX6_depth c v = some d ∧ XX7_depth be ab a v = some (d, be', ab') := by
  obtain ⟨n, π, s, s', hR, hs⟩ := h
  have hH := hR.2.1
  have hn : n ≤ 24 := hR.1.2.2.2.2.2.2.2
  have hc2 : c 2 = nI n := hR.1.2.2.2.2.2.2.1
  have m0 : ¬ (0 : Int32) ≤ mI := by decide
  have n10 : ¬ nI 1 = 0 := by decide
  unfold XX6_depth XX7_depth XX6_setOf
  rcases rp_thing hH v with ⟨r1, r2⟩ | ⟨k, x, hk, hx, ev, ec, ea, hl, hw, hz, r1, r2⟩
  · exact ⟨-1, be, ab, rb_bnd _ (rb_bnd _ (xn_kindOf5n 4 r1) rfl) (if_neg m0), rb_bnd _ (yn_namesn 4 r2) (if_pos rfl)⟩
  · subst ev
    have k5 := xn_kindOf5 (nI 4) hx r1
    have kn := yn_names (nI 4) hk hx ea r2
    rw [(hH.2.1 x hx).1] at kn
    by_cases h4 : c (19 + x) = nI 4
    · rw [if_pos h4] at k5 kn
      obtain ⟨S, T, hSL, hS, hT⟩ := rp_SL hR
      have db : XX1_deepBelow 5 c (nI x) 1 = some (nI (rb_dp n S T (fun y => decide (c (19 + y) = nI 4)) 2 x)) := xn_below hn hc2 hS hT (fun z hz => decide_eq_true_iff) 2 2 x (by omega) hx
      obtain ⟨o, e1, be', ab', e2, e3⟩ := yn_layDepths hSL be ab
      subst e2
      have b1 := (e3 x hx).1
      rw [if_pos (decide_eq_true h4)] at b1
      have x0 : (0 : Int32) ≤ nI x := by rw [show (0 : Int32) = nI 0 from rfl, nI_leI (by omega) (by omega)]; omega
      exact ⟨_, be', ab', rb_bnd _ (rb_bnd _ k5 rfl) ((if_pos x0).trans (rb_bnd _ db rfl)), rb_bnd _ kn ((if_neg n10).trans (rb_bnd _ e1 (rb_bnd (nI x) ((rb_rdn (by omega) (by omega)).trans (congrArg some ea)) (rb_bnd _ ((rb_rdn hx (by omega)).trans (congrArg some b1)) rfl))))⟩
    · rw [if_neg h4] at k5 kn
      exact ⟨-1, be, ab, rb_bnd _ (rb_bnd _ k5 rfl) (if_neg m0), rb_bnd _ kn (if_pos rfl)⟩
