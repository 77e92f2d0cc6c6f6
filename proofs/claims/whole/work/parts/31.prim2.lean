set_option maxHeartbeats 4000000 in
theorem rp_noticed {z W q n : Nat} {π : Nat → Nat} {s s' : Nat} {c a : rb_Row} (h : rR z W q n π s s' c a) {i : Nat} (hi : i < n)  : rR z W q n π s s' (upd c (467 + i) (c (467 + i) + nI 1)) (upd a (296 + 11 * π i + 8) (a (296 + 11 * π i + 8) + nI 1)) ∧ rF c (upd c (467 + i) (c (467 + i) + nI 1)) ∧ rG a (upd a (296 + 11 * π i + 8) (a (296 + 11 * π i + 8) + nI 1)) := by
  have hR := h
  obtain ⟨⟨q1, q2, q3, q4, q5, q6, q7, q8⟩, hH, hI, hL, hT⟩ := h
  have hp := (hI.1 i hi).1
  have hF : rF c (upd c (467 + i) (c (467 + i) + nI 1)) := by
    intro k hk
    simp (disch := omega) only [rb_upn]
  have hG : rG a (upd a (296 + 11 * π i + 8) (a (296 + 11 * π i + 8) + nI 1)) := by
    refine ⟨fun k hk => ?_, ?_, fun u f hu hf => ?_, fun u f hu hf => ?_⟩ <;> simp (disch := omega) only [rb_upn]
  refine ⟨rR_eng hR hF hG (Nat.le_refl _) (Nat.le_refl _) ?_ ?_ q5 q6 ?_ ?_, hF, hG⟩
  · simp (disch := omega) only [rb_upn]; exact q3
  · simp (disch := omega) only [rb_upn]; exact q4
  · refine ⟨fun j hj => ?_, fun j hj => ?_, fun j k hj hk => ?_⟩
    · have := (hI.1 j hj).1
      obtain ⟨p1, p2, p3, p4⟩ := hL.1 j hj
      by_cases e : j = i
      · subst e
        simp (disch := omega) only [rb_upn, rb_upe]
        exact ⟨p1, p2, by rw [p3], p4⟩
      · have hne : π j ≠ π i := fun e' => e (rI_inj hI j i hj hi e')
        simp (disch := omega) only [rb_upn]
        exact ⟨p1, p2, p3, p4⟩
    · have := (hI.1 j hj).1
      simp (disch := omega) only [rb_upn]
      exact hL.2.1 j hj
    · have := (hI.1 j hj).1
      have := (hI.1 k hk).1
      simp (disch := omega) only [rb_upn]
      exact hL.2.2 j k hj hk
  · refine rT_frame hT (Nat.le_refl _) (Nat.le_refl _) (Nat.le_refl _) (fun k hk hk' => ?_) (fun x hx => ?_) (fun k hk hk' => ?_) <;> simp (disch := omega) only [rb_upn]
set_option maxHeartbeats 4000000 in
theorem rp_taken {z W q n : Nat} {π : Nat → Nat} {s s' : Nat} {c a : rb_Row} (h : rR z W q n π s s' c a) {i : Nat} (hi : i < n)  : rR z W q n π s s' (upd c (491 + i) (c (491 + i) + nI 1)) (upd a (296 + 11 * π i + 9) (a (296 + 11 * π i + 9) + nI 1)) ∧ rF c (upd c (491 + i) (c (491 + i) + nI 1)) ∧ rG a (upd a (296 + 11 * π i + 9) (a (296 + 11 * π i + 9) + nI 1)) := by
  have hR := h
  obtain ⟨⟨q1, q2, q3, q4, q5, q6, q7, q8⟩, hH, hI, hL, hT⟩ := h
  have hp := (hI.1 i hi).1
  have hF : rF c (upd c (491 + i) (c (491 + i) + nI 1)) := by
    intro k hk
    simp (disch := omega) only [rb_upn]
  have hG : rG a (upd a (296 + 11 * π i + 9) (a (296 + 11 * π i + 9) + nI 1)) := by
    refine ⟨fun k hk => ?_, ?_, fun u f hu hf => ?_, fun u f hu hf => ?_⟩ <;> simp (disch := omega) only [rb_upn]
  refine ⟨rR_eng hR hF hG (Nat.le_refl _) (Nat.le_refl _) ?_ ?_ q5 q6 ?_ ?_, hF, hG⟩
  · simp (disch := omega) only [rb_upn]; exact q3
  · simp (disch := omega) only [rb_upn]; exact q4
  · refine ⟨fun j hj => ?_, fun j hj => ?_, fun j k hj hk => ?_⟩
    · have := (hI.1 j hj).1
      obtain ⟨p1, p2, p3, p4⟩ := hL.1 j hj
      by_cases e : j = i
      · subst e
        simp (disch := omega) only [rb_upn, rb_upe]
        exact ⟨p1, p2, p3, by rw [p4]⟩
      · have hne : π j ≠ π i := fun e' => e (rI_inj hI j i hj hi e')
        simp (disch := omega) only [rb_upn]
        exact ⟨p1, p2, p3, p4⟩
    · have := (hI.1 j hj).1
      simp (disch := omega) only [rb_upn]
      exact hL.2.1 j hj
    · have := (hI.1 j hj).1
      have := (hI.1 k hk).1
      simp (disch := omega) only [rb_upn]
      exact hL.2.2 j k hj hk
  · refine rT_frame hT (Nat.le_refl _) (Nat.le_refl _) (Nat.le_refl _) (fun k hk hk' => ?_) (fun x hx => ?_) (fun k hk hk' => ?_) <;> simp (disch := omega) only [rb_upn]
set_option maxHeartbeats 4000000 in
theorem rp_armed {z W q n : Nat} {π : Nat → Nat} {s s' : Nat} {c a : rb_Row} (h : rR z W q n π s s' c a) {i : Nat} (hi : i < n) {v : Int32} (hv : v = nI 0 ∨ v = nI 1) : rR z W q n π s s' (upd c (419 + i) v) (upd a (296 + 11 * π i + 5) v) ∧ rF c (upd c (419 + i) v) ∧ rG a (upd a (296 + 11 * π i + 5) v) := by
  have hR := h
  obtain ⟨⟨q1, q2, q3, q4, q5, q6, q7, q8⟩, hH, hI, hL, hT⟩ := h
  have hp := (hI.1 i hi).1
  have hF : rF c (upd c (419 + i) v) := by
    intro k hk
    simp (disch := omega) only [rb_upn]
  have hG : rG a (upd a (296 + 11 * π i + 5) v) := by
    refine ⟨fun k hk => ?_, ?_, fun u f hu hf => ?_, fun u f hu hf => ?_⟩ <;> simp (disch := omega) only [rb_upn]
  refine ⟨rR_eng hR hF hG (Nat.le_refl _) (Nat.le_refl _) ?_ ?_ q5 q6 ?_ ?_, hF, hG⟩
  · simp (disch := omega) only [rb_upn]; exact q3
  · simp (disch := omega) only [rb_upn]; exact q4
  · refine ⟨fun j hj => ?_, fun j hj => ?_, fun j k hj hk => ?_⟩
    · have := (hI.1 j hj).1
      obtain ⟨p1, p2, p3, p4⟩ := hL.1 j hj
      by_cases e : j = i
      · subst e
        simp (disch := omega) only [rb_upn, rb_upe]
        exact ⟨hv, trivial, p3, p4⟩
      · have hne : π j ≠ π i := fun e' => e (rI_inj hI j i hj hi e')
        simp (disch := omega) only [rb_upn]
        exact ⟨p1, p2, p3, p4⟩
    · have := (hI.1 j hj).1
      simp (disch := omega) only [rb_upn]
      exact hL.2.1 j hj
    · have := (hI.1 j hj).1
      have := (hI.1 k hk).1
      simp (disch := omega) only [rb_upn]
      exact hL.2.2 j k hj hk
  · refine rT_frame hT (Nat.le_refl _) (Nat.le_refl _) (Nat.le_refl _) (fun k hk hk' => ?_) (fun x hx => ?_) (fun k hk hk' => ?_) <;> simp (disch := omega) only [rb_upn]
set_option maxHeartbeats 4000000 in
theorem rp_unlist {z W q n : Nat} {π : Nat → Nat} {s s' : Nat} {c a : rb_Row} (h : rR z W q n π s s' c a) {i : Nat} (hi : i < n) : rR z W q n π s s' (upd (upd c (443 + i) mI) (515 + i) (nI 0)) (upd a (296 + 11 * π i + 7) (nI 0)) ∧ rF c (upd (upd c (443 + i) mI) (515 + i) (nI 0)) ∧ rG a (upd a (296 + 11 * π i + 7) (nI 0)) := by
  have hR := h
  obtain ⟨⟨q1, q2, q3, q4, q5, q6, q7, q8⟩, hH, hI, hL, hT⟩ := h
  have hp := (hI.1 i hi).1
  have hF : rF c (upd (upd c (443 + i) mI) (515 + i) (nI 0)) := by
    intro k hk
    simp (disch := omega) only [rb_upn]
  have hG : rG a (upd a (296 + 11 * π i + 7) (nI 0)) := by
    refine ⟨fun k hk => ?_, ?_, fun u f hu hf => ?_, fun u f hu hf => ?_⟩ <;> simp (disch := omega) only [rb_upn]
  refine ⟨rR_eng hR hF hG (Nat.le_refl _) (Nat.le_refl _) ?_ ?_ q5 q6 ?_ ?_, hF, hG⟩
  · simp (disch := omega) only [rb_upn]; exact q3
  · simp (disch := omega) only [rb_upn]; exact q4
  · refine ⟨fun j hj => ?_, fun j hj => ?_, fun j k hj hk => ?_⟩
    · have := (hI.1 j hj).1
      simp (disch := omega) only [rb_upn]
      exact hL.1 j hj
    · have := (hI.1 j hj).1
      by_cases e : j = i
      · subst e
        refine Or.inl ?_
        simp (disch := omega) only [rb_upn, rb_upe]
        exact ⟨trivial, trivial, trivial⟩
      · have hne : π j ≠ π i := fun e' => e (rI_inj hI j i hj hi e')
        simp (disch := omega) only [rb_upn]
        exact hL.2.1 j hj
    · have := (hI.1 j hj).1
      have := (hI.1 k hk).1
      by_cases ej : j = i
      · subst ej
        simp (disch := omega) only [rb_upn, rb_upe]
        intro h; exact absurd rfl h
      · by_cases ek : k = i
        · subst ek
          simp (disch := omega) only [rb_upn, rb_upe]
          intro _ h; exact absurd rfl h
        · have hne : π j ≠ π i := fun e' => ej (rI_inj hI j i hj hi e')
          have hne' : π k ≠ π i := fun e' => ek (rI_inj hI k i hk hi e')
          simp (disch := omega) only [rb_upn]
          exact hL.2.2 j k hj hk
  · refine rT_frame hT (Nat.le_refl _) (Nat.le_refl _) (Nat.le_refl _) (fun k hk hk' => ?_) (fun x hx => ?_) (fun k hk hk' => ?_) <;> simp (disch := omega) only [rb_upn]
set_option maxHeartbeats 4000000 in
theorem rp_got {z W q n : Nat} {π : Nat → Nat} {s s' : Nat} {c a : rb_Row} (h : rR z W q n π s s' c a) {t k : Nat} (ht : t < 6) (hk : k < 8) (v w : Int32) : rR z W q n π s s' (upd (upd c (677 + t * 8 + k) v) (725 + t * 8 + k) w) (upd (upd a (560 + 39 * t + (22 + 2 * k)) v) (560 + 39 * t + (22 + 2 * k + 1)) w) ∧ rF c (upd (upd c (677 + t * 8 + k) v) (725 + t * 8 + k) w) ∧ rG a (upd (upd a (560 + 39 * t + (22 + 2 * k)) v) (560 + 39 * t + (22 + 2 * k + 1)) w) := by
  have hR := h
  obtain ⟨⟨q1, q2, q3, q4, q5, q6, q7, q8⟩, hH, hI, hL, hT⟩ := h
  have hF : rF c (upd (upd c (677 + t * 8 + k) v) (725 + t * 8 + k) w) := by
    intro k hk
    simp (disch := omega) only [rb_upn]
  have hG : rG a (upd (upd a (560 + 39 * t + (22 + 2 * k)) v) (560 + 39 * t + (22 + 2 * k + 1)) w) := by
    refine ⟨fun k hk => ?_, ?_, fun u f hu hf => ?_, fun u f hu hf => ?_⟩
    · simp (disch := omega) only [rb_upn]
    · simp (disch := omega) only [rb_upn]
    · simp (disch := omega) only [rb_upn]
    · rcases Nat.lt_trichotomy t u with e | e | e <;> simp (disch := omega) only [rb_upn]
  refine ⟨rR_eng hR hF hG (Nat.le_refl _) (Nat.le_refl _) ?_ ?_ q5 q6 ?_ ?_, hF, hG⟩
  · simp (disch := omega) only [rb_upn]; exact q3
  · simp (disch := omega) only [rb_upn]; exact q4
  · refine rL_frame q8 (fun i hi => (hI.1 i hi).1) hL (Nat.le_refl _) (Nat.le_refl _) (fun k hk hk' => ?_) (fun u f hu hf hf' => ?_) <;> simp (disch := omega) only [rb_upn]
  · obtain ⟨h1, h2, h3, h4, h5, h6⟩ := hT
    refine ⟨?_, ?_, ?_, ?_, ?_, ?_⟩
    · intro u hu
      simp (disch := omega) only [rb_upn]
      exact h1 u hu
    · intro u hu
      simp (disch := omega) only [rb_upn]
      exact h2 u hu
    · intro u hu
      simp (disch := omega) only [rb_upn]
      rcases h3 u hu with p | ⟨⟨x, p1, p2, p3⟩, p4⟩
      · exact Or.inl p
      · refine Or.inr ⟨⟨x, p1, p2, ?_⟩, p4⟩
        simp (disch := omega) only [rb_upn]
        exact p3
    · intro u v hu hv
      simp (disch := omega) only [rb_upn]
      exact h4 u v hu hv
    · intro u j hu hj
      by_cases e : u = t
      · subst e
        by_cases e' : j = k
        · subst e'
          simp (disch := omega) only [rb_upn, rb_upe]
          exact ⟨trivial, trivial⟩
        · simp (disch := omega) only [rb_upn]
          exact h5 u j hu hj
      · simp (disch := omega) only [rb_upn]
        exact h5 u j hu hj
    · intro u j l hu hj hl
      rcases Nat.lt_trichotomy t u with e | e | e <;> simp (disch := omega) only [rb_upn] <;> exact h6 u j l hu hj hl
theorem rp_first {z W q n : Nat} {π : Nat → Nat} {s s' : Nat} {c a : rb_Row} (h : rR z W q n π s s' c a) (hs : s' < 2000000000) {x : Nat} (hx : x < 28) : ∃ o : Option Nat, XX1_firstListed c (nI x) = some (rb_oi o) ∧ XX7_listedBehind a (nI x) (nI 0) = some (rb_oi (o.map π)) ∧ (o = none → ∀ i, i < n → c (299 + i) = nI x → c (443 + i) = mI) ∧ (∀ i, o = some i → i < n ∧ c (299 + i) = nI x ∧ c (443 + i) ≠ mI) := by
  have hR := h
  obtain ⟨⟨q1, q2, q3, q4, q5, q6, q7, q8⟩, hH, hI, hL, hT⟩ := h
  have hm : ∀ i, i < n → (c (443 + i) < nI 0 ↔ c (443 + i) = mI) := by
    intro i hi
    rcases hL.2.1 i hi with ⟨p1, p2, p3⟩ | ⟨u, v, p1, p2, p3, p4, p5, p6⟩
    · rw [p1]; simp (disch := omega) only [rb_mI, nI_add, nI_mul, nI_leI, nI_ltI, nI_eq, rb_rdn, rb_wrn, rb_n0, rb_m0, rb_m1n, rb_nm1, rb_m1lt, rb_m1le, rb_0m1, rb_ltm1, rb_lem1]
    · rw [p4]; exact ⟨fun h => absurd h (nI_pos (by omega)), fun h => absurd h (rb_nmm (by omega))⟩
  refine ⟨rb_am (fun i => decide (c (299 + i) = nI x) && !decide (c (443 + i) < nI 0)) (fun i => c (443 + i)) n, xn_firstListed c (nI x) n q7 q8, ?_, ?_, ?_⟩
  · rw [yn_listedBehind, rb_am_pi (p := fun i => decide (c (299 + i) = nI x) && !decide (c (443 + i) < nI 0)) (k := fun i => c (443 + i)) (n := n) (π := π) (fun i hi => (hI.1 i hi).1)]
    · intro u hu hp
      refine rI_slot hI hu (fun e => ?_)
      simp only [e] at hp
      simp (disch := omega) only [rb_mI, nI_add, nI_mul, nI_leI, nI_ltI, nI_eq, rb_rdn, rb_wrn, rb_n0, rb_m0, rb_m1n, rb_nm1, rb_m1lt, rb_m1le, rb_0m1, rb_ltm1, rb_lem1] at hp
      simp at hp
    · intro i hi
      show (decide (a (296 + 11 * π i) = nI x) && decide (nI 0 < a (296 + 11 * π i + 7))) = _
      rw [(hI.1 i hi).2.1]
      congr 1
      rcases hL.2.1 i hi with ⟨p1, p2, p3⟩ | ⟨u, v, p1, p2, p3, p4, p5, p6⟩
      · rw [p1, p2]; decide
      · rw [p4, p5]
        simp (disch := omega) only [rb_mI, nI_add, nI_mul, nI_leI, nI_ltI, nI_eq, rb_rdn, rb_wrn, rb_n0, rb_m0, rb_m1n, rb_nm1, rb_m1lt, rb_m1le, rb_0m1, rb_ltm1, rb_lem1]
        simp
        omega
    · intro i j hi hj hpi hpj
      simp only [Bool.and_eq_true, Bool.not_eq_true', decide_eq_false_iff_not, decide_eq_true_eq] at hpi hpj
      rw [hm i hi] at hpi
      rw [hm j hj] at hpj
      exact (hL.2.2 i j hi hj hpi.2 hpj.2).1
    · intro i j hi hj hpi hpj
      simp only [Bool.and_eq_true, Bool.not_eq_true', decide_eq_false_iff_not, decide_eq_true_eq] at hpi hpj
      rw [hm i hi] at hpi
      rw [hm j hj] at hpj
      exact (hL.2.2 i j hi hj hpi.2 hpj.2).2
  · intro e i hi ex
    have := rb_am_none e i hi
    simp only [ex, decide_true, Bool.true_and, Bool.not_eq_false', decide_eq_true_eq] at this
    exact (hm i hi).mp this
  · intro i e
    obtain ⟨h1, h2⟩ := rb_am_lt e
    simp only [Bool.and_eq_true, Bool.not_eq_true', decide_eq_false_iff_not, decide_eq_true_eq] at h2
    rw [hm i h1] at h2
    exact ⟨h1, h2.1, h2.2⟩
/-- what is below a set doesn't heed the set's own list -/
theorem rq_one {c c0 : rb_Row} {n x l y : Nat} (hF : rF c0 c) (hy : y < 28) (ha : rb_aims c0 n) (hn : n ≤ 24) (hne : c0 (19 + y) = nI 4 → y ≠ x) (hx : x < 28) (hsame : ∀ i, i < n → c0 (299 + i) ≠ nI x → (c (443 + i) < nI 0 ↔ c0 (443 + i) < nI 0) ∧ c (419 + i) = c0 (419 + i)) (ih : c0 (19 + y) = nI 4 → ∀ i v, i < n → c0 (299 + i) = nI y → v < 28 → c0 (323 + i) = nI v → rq c n l v = rq c0 n l v) : rq c n (l + 1) y = rq c0 n (l + 1) y := by
  have hc1 : ∀ k, 2 ≤ k → k < 419 → c k = c0 k := fun k p q => hF k (by omega)
  by_cases h4 : c0 (19 + y) = nI 4
  · have h4' : c (19 + y) = nI 4 := by rw [hc1 (19 + y) (by omega) (by omega)]; exact h4
    rw [rq, rq, if_pos h4, if_pos h4', rb_fd_congr (p := rb_tr c (rq c n l) y) (q := rb_tr c0 (rq c0 n l) y)]
    intro i hi
    unfold rb_tr rb_bt
    obtain ⟨v, hv, ev, _⟩ := ha i hi
    rw [hc1 (299 + i) (by omega) (by omega), hc1 (371 + i) (by omega) (by omega), hc1 (323 + i) (by omega) (by omega)]
    by_cases e : c0 (299 + i) = nI y
    · have hxy : c0 (299 + i) ≠ nI x := by
        rw [e]
        intro e'
        exact hne h4 ((nI_eq (by omega) (by omega)).mp e')
      obtain ⟨g1, g2⟩ := hsame i hi hxy
      rw [g2, nt_n ev (by omega), ih h4 i v hi e hv ev]
      simp only [g1]
    · simp [e]
  · have h4' : c (19 + y) ≠ nI 4 := by rw [hc1 (19 + y) (by omega) (by omega)]; exact h4
    rw [rq, rq, if_neg h4, if_neg h4']
    unfold rb_pl
    simp (disch := omega) only [hc1]
theorem rq_inv {n : Nat} {π : Nat → Nat} {s' : Nat} {c0 a0 c : rb_Row} (hI : rI n π s' c0 a0) (hn : n ≤ 24) (hF : rF c0 c) {x i y : Nat} (hx : x < 28) (hsame : ∀ i, i < n → c0 (299 + i) ≠ nI x → (c (443 + i) < nI 0 ↔ c0 (443 + i) < nI 0) ∧ c (419 + i) = c0 (419 + i)) (hi : i < n) (ex : c0 (299 + i) = nI x) (hy : y < 28) (ey : c0 (323 + i) = nI y) : rq c n 4 y = rq c0 n 4 y := by
  have ha := rI_aims hI
  have ch := hI.2.2.2.2.2.2.1
  have hoa := (hI.2.2.2.1 i hi).1
  refine rq_one hF hy ha hn (fun _ e => hoa (by rw [ex, ey, e])) hx hsame ?_
  intro h4 j v hj ej hv ev
  refine rq_one hF hv ha hn ?_ hx hsame ?_
  · intro h4v e
    subst e
    exact ch i j i y hi hj hi (by rw [ey, ej]) (by rw [ev, ex]) hy ey h4
  · intro h4v k w hk ek hw ew
    have h4w : c0 (19 + w) ≠ nI 4 := ch i j k w hi hj hk (by rw [ey, ej]) (by rw [ev, ek]) hw ew
    exact rq_one hF hw ha hn (fun h => absurd h h4w) hx hsame (fun h => absurd h h4w)
theorem xn_ready5 {z W q n : Nat} {π : Nat → Nat} {s s' : Nat} {c a : rb_Row} (h : rR z W q n π s s' c a) {y : Nat} (hy : y < 28) (hl : rb_live c y) : XX1_ready 5 c (nI y) (nI 0) = some (rq c n 4 y) := by
  have hR := h
  obtain ⟨⟨q1, q2, q3, q4, q5, q6, q7, q8⟩, hH, hI, hL, hT⟩ := h
  exact xn_ready c n q7 q8 (rI_aims hI) 4 y (by omega) hy hl
/-- adding one in some places -/
def rb_ic (f : Nat → Nat) (P : Nat → Bool) (r : rb_Row) : Nat → rb_Row
  | 0 => r
  | j + 1 => bif P j then upd (rb_ic f P r j) (f j) (rb_ic f P r j (f j) + nI 1) else rb_ic f P r j
theorem rb_ic_ne {f : Nat → Nat} {P : Nat → Bool} {r : rb_Row} : ∀ j k, (∀ i, i < j → k ≠ f i) → rb_ic f P r j k = r k := by
  intro j
  induction j with
  | zero => intro k _; rfl
  | succ j ih =>
    intro k hk
    rw [rb_ic]
    cases P j with
    | false => exact ih k (fun i hi => hk i (by omega))
    | true =>
      simp only [cond_true]
      rw [rb_upn (hk j (by omega))]
      exact ih k (fun i hi => hk i (by omega))
theorem rb_ic_at {f : Nat → Nat} {P : Nat → Bool} {r : rb_Row} (hf : ∀ i j, f i = f j → i = j) : ∀ j u, u < j → rb_ic f P r j (f u) = bif P u then r (f u) + nI 1 else r (f u) := by
  intro j
  induction j with
  | zero => intro u hu; omega
  | succ j ih =>
    intro u hu
    rw [rb_ic]
    by_cases e : u = j
    · subst e
      have e' : rb_ic f P r u (f u) = r (f u) := rb_ic_ne u (f u) (fun i hi e => by have := hf _ _ e; omega)
      cases P u with
      | false => simp only [cond_false]; exact e'
      | true => simp only [cond_true]; rw [rb_upe rfl, e']
    · have hne : f u ≠ f j := fun e' => e (hf _ _ e')
      cases P j with
      | false => simp only [cond_false]; exact ih u (by omega)
      | true => simp only [cond_true]; rw [rb_upn hne]; exact ih u (by omega)
