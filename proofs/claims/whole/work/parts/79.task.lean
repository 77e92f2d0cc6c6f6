theorem rp_taskcell {z W q n : Nat} {π : Nat → Nat} {s s' : Nat} {c a : rb_Row} (h : rR z W q n π s s' c a) {t : Nat} (ht : t < 6) {col e : Nat} (he : e < 39) (hcol : col ≤ 700) (E : a (560 + 39 * t + e) = c (col + t)) : (rb_rd c 773 (nI col + nI t)).bind (fun v => some v) = some (c (col + t)) ∧ (XX7_ofTask a (nI t) (nI e)).bind (fun v => some v) = some (c (col + t)) := by
  constructor
  · exact rb_bnd _ ((congrArg (rb_rd c 773) (nI_add col t)).trans (rb_rdn (by omega) (by omega))) rfl
  · exact rb_bnd _ ((xn_ofTask a ht he).trans (congrArg some E)) rfl
theorem rp_lowestm {a c : rb_Row} : XX5_lowestHandle c mI = some mI ∧ XX7_lowestOf a mI = some mI := by
  constructor
  · unfold XX5_lowestHandle
    exact if_neg (show ¬ (0 : Int32) ≤ mI by decide)
  · rw [yn_lowestOf, rb_fd_all (fun i hi => by rw [show decide (mI < nI 0) = true by decide]; simp)]
    rfl
set_option maxHeartbeats 8000000 in
/-- task -/
theorem ra_task {B q : Nat} {c a : rb_Row} (h : rb_RB B q c a) (v w : Int32) : ∃ d, XX6_task c v w = some d ∧ XX7_task a v w = some d := by
  obtain ⟨n, π, s, s', hR, hs⟩ := h
  have hT := hR.2.2.2.2
  unfold XX6_task XX7_task
  have n10 : ¬ nI 1 = 0 := by decide
  rcases rp_task v with ⟨t, ht, e, t1, t2⟩ | ⟨t1, t2⟩
  · subst e
    obtain ⟨g0, g2, g3, g4, g5, g6, g7, g8, g9, g38⟩ := hT.1 t ht
    have low : ∃ d, XX5_lowestHandle c (c (539 + t)) = some d ∧ XX7_lowestOf a (c (539 + t)) = some d := by
      rcases hT.2.2.1 t ht with e | ⟨⟨x, hx, e, _⟩, _⟩
      · rw [e]; exact ⟨_, rp_lowestm⟩
      · rw [e]; exact ⟨_, rp_lowest hx, yn_lowest hx (fun h hh => (hR.2.1.1 h hh).1)⟩
    obtain ⟨d, l1, l2⟩ := low
    have r539 : rb_rd c 773 (539 + nI t) = some (c (539 + t)) := (congrArg (rb_rd c 773) (nI_add 539 t)).trans (rb_rdn (by omega) (by omega))
    have asl := xn_isAsleep a ht
    rw [g0] at asl
    have o0 : XX7_ofTask a (nI t) 0 = some (c (539 + t)) := (xn_ofTask a (f := 0) ht (by omega)).trans (congrArg some g0)
    obtain ⟨a2, b2⟩ := rp_taskcell hR ht (col := 563) (e := 4) (by omega) (by omega) g4
    obtain ⟨a3, b3⟩ := rp_taskcell hR ht (col := 569) (e := 5) (by omega) (by omega) g5
    obtain ⟨a4, b4⟩ := rp_taskcell hR ht (col := 575) (e := 6) (by omega) (by omega) g6
    obtain ⟨a5, b5⟩ := rp_taskcell hR ht (col := 581) (e := 7) (by omega) (by omega) g7
    obtain ⟨a6, b6⟩ := rp_taskcell hR ht (col := 587) (e := 8) (by omega) (by omega) g8
    obtain ⟨a7, b7⟩ := rp_taskcell hR ht (col := 557) (e := 3) (by omega) (by omega) g3
    obtain ⟨a8, b8⟩ := rp_taskcell hR ht (col := 599) (e := 9) (by omega) (by omega) g9
    obtain ⟨a9, b9⟩ := rp_taskcell hR ht (col := 593) (e := 38) (by omega) (by omega) g38
    have R : ∀ {α β : Type} {x : Option Int32} {y : Option Int32} (f : Int32 → Option Int32) (f' : Int32 → Option Int32), x = some (nI 1) → y = some (nI 1) → (∃ d, f (nI 1) = some d ∧ f' (nI 1) = some d) → ∃ d, x.bind f = some d ∧ y.bind f' = some d := fun f f' hx hy ⟨d, e1, e2⟩ => ⟨d, rb_bnd _ hx e1, rb_bnd _ hy e2⟩
    refine R (α := Unit) (β := Unit) _ _ t1 t2 ?_
    simp only [n10, if_false]
    by_cases q0 : w = 0
    · simp only [q0, if_true]
      by_cases z : c (539 + t) < nI 0
      · rw [if_pos z] at asl
        exact ⟨0, rb_bnd _ r539 (if_pos z), rb_bnd _ asl (if_pos rfl)⟩
      · rw [if_neg z] at asl
        exact ⟨1, rb_bnd _ r539 (if_neg z), rb_bnd _ asl (if_neg n10)⟩
    by_cases q1 : w = 1
    · simp only [q0, q1, if_true, if_false]
      exact ⟨d, rb_bnd _ r539 (rb_bnd _ l1 rfl), rb_bnd _ o0 (rb_bnd _ l2 rfl)⟩
    simp only [q0, q1, if_false]
    by_cases q2 : w = 2
    · rw [if_pos q2, if_pos q2]; exact ⟨_, a2, b2⟩
    rw [if_neg q2, if_neg q2]
    by_cases q3 : w = 3
    · rw [if_pos q3, if_pos q3]; exact ⟨_, a3, b3⟩
    rw [if_neg q3, if_neg q3]
    by_cases q4 : w = 4
    · rw [if_pos q4, if_pos q4]; exact ⟨_, a4, b4⟩
    rw [if_neg q4, if_neg q4]
    by_cases q5 : w = 5
    · rw [if_pos q5, if_pos q5]; exact ⟨_, a5, b5⟩
    rw [if_neg q5, if_neg q5]
    by_cases q6 : w = 6
    · rw [if_pos q6, if_pos q6]; exact ⟨_, a6, b6⟩
    rw [if_neg q6, if_neg q6]
    by_cases q7 : w = 7
    · rw [if_pos q7, if_pos q7]; exact ⟨_, a7, b7⟩
    rw [if_neg q7, if_neg q7]
    by_cases q8 : w = 8
    · rw [if_pos q8, if_pos q8]; exact ⟨_, a8, b8⟩
    rw [if_neg q8, if_neg q8]
    by_cases q9 : w = 9
    · rw [if_pos q9, if_pos q9]; exact ⟨_, a9, b9⟩
    rw [if_neg q9, if_neg q9]
    exact ⟨_, rfl, rfl⟩
  · exact ⟨-1, rb_bnd _ t1 (if_pos rfl), rb_bnd _ t2 (if_pos rfl)⟩
