/-- other -/
theorem ra_other {B q : Nat} {c a : rb_Row} (h : rb_RB B q c a) (v : Int32) : ∃ d, XX6_other c v = some d ∧ XX7_other a v = some d := by
  obtain ⟨n, π, s, s', hR, hs⟩ := h
  have hH := hR.2.1
  have m0 : ¬ (0 : Int32) ≤ mI := by decide
  have n10 : ¬ nI 1 = 0 := by decide
  unfold XX6_other XX7_other
  rcases rp_thing hH v with ⟨r1, r2⟩ | ⟨k, x, hk, hx, ev, ec, ea, hl, hw, hz, r1, r2⟩
  · exact ⟨-1, rb_bnd _ r1 (if_neg m0), rb_bnd _ r2 (if_pos rfl)⟩
  · subst ev
    have x0 : (0 : Int32) ≤ nI x := by rw [show (0 : Int32) = nI 0 from rfl, nI_leI (by omega) (by omega)]; omega
    have r131 : rb_rd c 773 (131 + nI x) = some (c (131 + x)) := (congrArg (rb_rd c 773) (nI_add 131 x)).trans (rb_rdn (by omega) (by omega))
    have rk : rb_rd a 796 (nI k) = some (nI x) := (rb_rdn (by omega) (by omega)).trans (congrArg some ea)
    obtain ⟨ek, hO⟩ := hH.2.1 x hx
    have kd := xn_kindOf a hx
    rw [ek] at kd
    have none1 : c (131 + x) = mI → c (19 + x) ≠ nI 0 → c (19 + x) ≠ nI 1 → ∃ d, ((XX5_thingOf c (nI k)).bind fun t1 => if 0 ≤ t1 then (rb_rd c 773 (131 + t1)).bind fun v4 => (XX5_lowestHandle c v4).bind fun t6 => some t6 else some (-1)) = some d ∧ ((XX7_isHandle a (nI k)).bind fun t1 => if t1 = 0 then some (-1) else (rb_rd a 796 (nI k)).bind fun v4 => (XX7_isEnd a v4).bind fun t6 => if t6 = 0 then some (-1) else (rb_rd a 796 (nI k)).bind fun v9 => (XX7_otherEnd a v9).bind fun t11 => (XX7_lowestOf a t11).bind fun t13 => some t13) = some d := fun e1 e2 e3 => by
      have ie : XX7_isEnd a (nI x) = some (nI 0) := by
        unfold XX7_isEnd
        exact rb_bnd _ kd ((if_neg e2).trans (rb_bnd _ kd (if_neg e3)))
      exact ⟨mI, rb_bnd _ r1 ((if_pos x0).trans (rb_bnd _ r131 (rb_bnd mI (by rw [e1]; exact (rp_lowestm (a := a)).1) rfl))), rb_bnd _ r2 ((if_neg n10).trans (rb_bnd _ rk (rb_bnd _ ie (if_pos rfl))))⟩
    rcases hO with ⟨e1, _⟩ | ⟨e, p, r, b, he, e1, hp, e2, e3, e4, _, _, _, _, _, _, _, e5⟩ | ⟨b, _, e1, _, _, e2, _⟩ | ⟨b, _, e1, _, _, e2, _⟩ | ⟨e1, e2⟩ | ⟨_, _, e1, e2, _⟩
    · exact absurd hl (rb_dead e1)
    · have ie : XX7_isEnd a (nI x) = some (nI 1) := by
        unfold XX7_isEnd
        by_cases z : c (19 + x) = nI 0
        · exact rb_bnd _ kd (if_pos z)
        · refine rb_bnd _ kd ((if_neg z).trans (rb_bnd _ kd (if_pos ?_)))
          match e, he with
          | 0, _ => exact absurd e1 z
          | 1, _ => exact e1
      have oe := yn_otherEnd a hx hp he (ek.trans e1) e2
      rw [e4] at oe
      have low : ∃ d, XX5_lowestHandle c (c (131 + x)) = some d ∧ XX7_lowestOf a (c (131 + x)) = some d := by
        rcases e5 with e | ⟨y, hy, e⟩
        · rw [e]; exact ⟨_, rp_lowestm⟩
        · rw [e]; exact ⟨_, rp_lowest hy, yn_lowest hy (fun h hh => (hH.1 h hh).1)⟩
      obtain ⟨d, l1, l2⟩ := low
      exact ⟨d, rb_bnd _ r1 ((if_pos x0).trans (rb_bnd _ r131 (rb_bnd _ l1 rfl))), rb_bnd _ r2 ((if_neg n10).trans (rb_bnd _ rk (rb_bnd _ ie ((if_neg n10).trans (rb_bnd _ rk (rb_bnd _ oe (rb_bnd _ l2 rfl)))))))⟩
    · exact none1 e2 (by rw [e1]; decide) (by rw [e1]; decide)
    · exact none1 e2 (by rw [e1]; decide) (by rw [e1]; decide)
    · exact none1 e2 (by rw [e1]; decide) (by rw [e1]; decide)
    · exact none1 e2 (by rw [e1]; decide) (by rw [e1]; decide)
