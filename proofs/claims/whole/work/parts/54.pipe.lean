theorem rb_mkC_at {c : rb_Row} {x k : Nat} {kd : Int32} (h : ∀ i, i < 10 → k ≠ 19 + 28 * i + x) : rb_mkC c x kd k = c k := by
  have q0 := h 0 (by omega); have q1 := h 1 (by omega); have q2 := h 2 (by omega); have q3 := h 3 (by omega); have q4 := h 4 (by omega); have q5 := h 5 (by omega); have q6 := h 6 (by omega); have q7 := h 7 (by omega); have q8 := h 8 (by omega); have q9 := h 9 (by omega)
  unfold rb_mkC
  simp (disch := omega) only [rb_upn]
theorem rb_mkA_at {a : rb_Row} {x k : Nat} {kd v m t : Int32} (h : ∀ f, f < 6 → k ≠ 16 + 6 * x + f) : rb_mkA a x kd v m t k = a k := by
  have q0 := h 0 (by omega); have q1 := h 1 (by omega); have q2 := h 2 (by omega); have q3 := h 3 (by omega); have q4 := h 4 (by omega); have q5 := h 5 (by omega)
  unfold rb_mkA
  simp (disch := omega) only [rb_upn]
theorem rb_meC_at {c : rb_Row} {x y k : Nat} {r : Int32} (h : ∀ i, i < 10 → k ≠ 19 + 28 * i + x ∧ k ≠ 19 + 28 * i + y) : rb_meC c x y r k = c k := by
  have q2 := h 2 (by omega); have q4 := h 4 (by omega)
  unfold rb_meC
  rw [rb_upn (by omega), rb_upn (by omega), rb_upn (by omega), rb_upn (by omega), rb_mkC_at (fun i hi => (h i hi).2), rb_mkC_at (fun i hi => (h i hi).1)]
theorem rb_meA_at {a : rb_Row} {x y p k : Nat} {r : Int32} (h : ∀ f, f < 6 → k ≠ 16 + 6 * x + f ∧ k ≠ 16 + 6 * y + f) (h2 : ∀ f, f < 4 → k ≠ 184 + 4 * p + f) : rb_meA a x y p r k = a k := by
  have q0 := h2 0 (by omega); have q1 := h2 1 (by omega); have q2 := h2 2 (by omega); have q3 := h2 3 (by omega)
  unfold rb_meA
  rw [rb_upn q3, rb_mkA_at (fun i hi => (h i hi).2), rb_upn q2, rb_mkA_at (fun i hi => (h i hi).1), rb_upn q1, rb_upn (by omega)]
theorem rb_meC_x {c : rb_Row} {x y : Nat} {r : Int32} (hx : x < 28) (hy : y < 28) (hxy : x ≠ y) : rb_meC c x y r (19 + x) = nI 0 ∧ rb_meC c x y r (19 + y) = nI 1 ∧ rb_meC c x y r (47 + x) = nI 0 ∧ rb_meC c x y r (47 + y) = nI 0 ∧ rb_meC c x y r (75 + x) = r ∧ rb_meC c x y r (75 + y) = r ∧ rb_meC c x y r (131 + x) = nI y ∧ rb_meC c x y r (131 + y) = nI x ∧ rb_meC c x y r (243 + x) = mI ∧ rb_meC c x y r (243 + y) = mI := by
  unfold rb_meC rb_mkC
  simp (disch := omega) only [rb_upn, rb_upe]
  exact ⟨trivial, trivial, trivial, trivial, trivial, trivial, trivial, trivial, trivial, trivial⟩
theorem rb_meA_x {a : rb_Row} {x y p : Nat} {r : Int32} (hx : x < 28) (hy : y < 28) (hp : p < 28) (hxy : x ≠ y) : rb_meA a x y p r (16 + 6 * x) = nI 0 ∧ rb_meA a x y p r (16 + 6 * y) = nI 1 ∧ rb_meA a x y p r (16 + 6 * x + 1) = nI p ∧ rb_meA a x y p r (16 + 6 * y + 1) = nI p ∧ rb_meA a x y p r (16 + 6 * x + 4) = mI ∧ rb_meA a x y p r (16 + 6 * y + 4) = mI ∧ rb_meA a x y p r (184 + 4 * p) = r ∧ rb_meA a x y p r (184 + 4 * p + 1) = nI 0 ∧ rb_meA a x y p r (184 + 4 * p + 2) = nI x ∧ rb_meA a x y p r (184 + 4 * p + 3) = nI y := by
  unfold rb_meA rb_mkA
  simp (disch := omega) only [rb_upn, rb_upe]
  exact ⟨trivial, trivial, trivial, trivial, trivial, trivial, trivial, trivial, trivial, trivial⟩
/-- an end's pipe isn't a free one -/
theorem rb_pne {z s s' : Nat} {c a : rb_Row} (h : rH z s s' c a) {w e p' p : Nat} (hw : w < 28) (he : e < 2) (hp' : p' < 28) (hk : c (19 + w) = nI e) (hv : a (16 + 6 * w + 1) = nI p') (hp2 : a (184 + 4 * p + 2) = mI) (hp3 : a (184 + 4 * p + 3) = mI) : p' ≠ p := by
  intro g
  subst g
  rcases (h.2.1 w hw).2 with g | ⟨e', p2, r, b, g0, g1, g2, g3, g4, _⟩ | ⟨b, _, g, _⟩ | ⟨b, _, g, _⟩ | ⟨g, _⟩ | ⟨k, r, g, _⟩
  · rw [g.1] at hk; exact absurd hk.symm (rb_nmm (by omega))
  · rw [hv] at g3
    have := (nI_eq (by omega) (by omega)).mp g3
    subst this
    have q : e' = 0 ∨ e' = 1 := by omega
    rcases q with q | q <;> subst q
    · rw [hp2] at g4; exact rb_nmm (k := w) (by omega) g4.symm
    · rw [hp3] at g4; exact rb_nmm (k := w) (by omega) g4.symm
  · rw [g] at hk; have := (nI_eq (by omega) (by omega)).mp hk; omega
  · rw [g] at hk; have := (nI_eq (by omega) (by omega)).mp hk; omega
  · rw [g] at hk; have := (nI_eq (by omega) (by omega)).mp hk; omega
  · rw [g] at hk; have := (nI_eq (by omega) (by omega)).mp hk; omega
theorem rb_wd {z s s' : Nat} {c a : rb_Row} (h : rH z s s' c a) {x : Nat} (hx : x < 28) (hd : c (19 + x) = mI) : c (243 + x) = mI := by
  rcases h.2.2.2.2.1 x hx with g | ⟨l, u, v, _, _, _, _, _, _, _, g, _⟩
  · exact g.1
  · rw [hd] at g; exact absurd g.symm (rb_nmm (by omega))
set_option maxHeartbeats 8000000 in
theorem rp_pipe {W q n : Nat} {π : Nat → Nat} {s s' : Nat} {c a : rb_Row} (hR : rR 28 W q n π s s' c a) (hs : s' < 2000000000) {x y p r k0 k1 : Nat} (hx : x < 28) (hy : y < 28) (hp : p < 28) (hxy : x ≠ y) (hdx : c (19 + x) = mI) (hdy : c (19 + y) = mI) (hp2 : a (184 + 4 * p + 2) = mI) (hp3 : a (184 + 4 * p + 3) = mI) (hr : 1 ≤ r) (hr' : r ≤ 100) (hk0 : k0 < 16) (hk1 : k1 < 16) (hkk : k0 ≠ k1) (hf0 : c (3 + k0) = mI) (hf1 : c (3 + k1) = mI) : rR 28 W q n π s s' (upd (upd (rb_meC c x y (nI r)) (3 + k0) (nI x)) (3 + k1) (nI y)) (upd (upd (rb_meA a x y p (nI r)) k0 (nI x)) k1 (nI y)) := by
  have hH := hR.2.1
  obtain ⟨x0, y0, x1, y1, x2, y2, x4, y4, x8, y8⟩ := rb_meC_x (c := c) (r := nI r) hx hy hxy
  obtain ⟨ax0, ay0, ax1, ay1, ax4, ay4, p0, p1, p2, p3⟩ := rb_meA_x (a := a) (r := nI r) hx hy hp hxy
  have hcw : ∀ w j, w < 28 → w ≠ x → w ≠ y → j < 10 → (upd (upd (rb_meC c x y (nI r)) (3 + k0) (nI x)) (3 + k1) (nI y)) (19 + 28 * j + w) = c (19 + 28 * j + w) := fun w j hw h1 h2 hj => by
    rw [rb_upn (by omega), rb_upn (by omega), rb_meC_at (fun i hi => by omega)]
  have haw : ∀ w f, w < 28 → w ≠ x → w ≠ y → f < 6 → (upd (upd (rb_meA a x y p (nI r)) k0 (nI x)) k1 (nI y)) (16 + 6 * w + f) = a (16 + 6 * w + f) := fun w f hw h1 h2 hf => by
    rw [rb_upn (by omega), rb_upn (by omega), rb_meA_at (fun i hi => by omega) (fun i hi => by omega)]
  have hwait : ∀ w, w < 28 → (upd (upd (rb_meC c x y (nI r)) (3 + k0) (nI x)) (3 + k1) (nI y)) (243 + w) = c (243 + w) := fun w hw => by
    by_cases e1 : w = x
    · subst e1
      rw [rb_upn (by omega), rb_upn (by omega), x8, rb_wd hH hx hdx]
    · by_cases e2 : w = y
      · subst e2
        rw [rb_upn (by omega), rb_upn (by omega), y8, rb_wd hH hy hdy]
      · exact hcw w 8 hw e1 e2 (by omega)
  refine rp_newEnds hR (Nat.le_refl _) (Nat.le_refl _) hs hR.1.2.2.2.2.1 hR.1.2.2.2.2.2.1 ?_ ?_ hx hy hxy hdx hdy hp hr hr' ?_ ?_ ?_ ?_ ?_ ?_ ?_ ?_ ?_ ?_ ?_ ?_ ?_ ?_ ?_ ?_ ?_ ?_ (fun w hw h1 h2 => ?_) (fun w hw h1 h2 => ?_) (fun p' hp' hne => ?_) (fun k hk => ?_) ⟨k1, hk1, rb_upe rfl⟩ (Or.inl ⟨?_, ?_, k0, hk0, ?_⟩) ?_ (fun k hk => ?_) (fun k hk _ => ?_)
  · rw [rb_upn (by omega), rb_upn (by omega), rb_meC_at (fun i hi => by omega)]; exact hR.1.2.2.1
  · rw [rb_upn (by omega), rb_upn (by omega), rb_meA_at (fun i hi => by omega) (fun i hi => by omega)]; exact hR.1.2.2.2.1
  · rw [rb_upn (by omega), rb_upn (by omega)]; exact x0
  · rw [rb_upn (by omega), rb_upn (by omega)]; exact y0
  · rw [rb_upn (by omega), rb_upn (by omega)]; exact x1
  · rw [rb_upn (by omega), rb_upn (by omega)]; exact y1
  · rw [rb_upn (by omega), rb_upn (by omega)]; exact x2
  · rw [rb_upn (by omega), rb_upn (by omega)]; exact y2
  · rw [rb_upn (by omega), rb_upn (by omega)]; exact x4
  · rw [rb_upn (by omega), rb_upn (by omega)]; exact y4
  · rw [rb_upn (by omega), rb_upn (by omega)]; exact y8
  · rw [rb_upn (by omega), rb_upn (by omega)]; exact ax0
  · rw [rb_upn (by omega), rb_upn (by omega)]; exact ay0
  · rw [rb_upn (by omega), rb_upn (by omega)]; exact ax1
  · rw [rb_upn (by omega), rb_upn (by omega)]; exact ay1
  · rw [rb_upn (by omega), rb_upn (by omega)]; exact ay4
  · rw [rb_upn (by omega), rb_upn (by omega)]; exact p0
  · rw [rb_upn (by omega), rb_upn (by omega)]; exact p1
  · rw [rb_upn (by omega), rb_upn (by omega)]; exact p2
  · rw [rb_upn (by omega), rb_upn (by omega)]; exact p3
  · refine rO_keep hw (fun j hj => hcw w j hw h1 h2 (by omega)) (fun f g1 g2 => haw w f hw h1 h2 (by omega)) (fun p' e hp' he g1 g2 f hf => ?_) (fun _ _ => rb_cn_congr (fun v hv => by rw [hwait v hv])) (hH.2.1 w hw).2
    have := rb_pne hH hw he hp' g1 g2 hp2 hp3
    rw [rb_upn (by omega), rb_upn (by omega), rb_meA_at (fun i hi => by omega) (fun i hi => by omega)]
  · exact ⟨hcw w 0 hw h1 h2 (by omega), hwait w hw, hcw w 9 hw h1 h2 (by omega), haw w 0 hw h1 h2 (by omega), haw w 1 hw h1 h2 (by omega), haw w 4 hw h1 h2 (by omega), haw w 5 hw h1 h2 (by omega)⟩
  · rw [rb_upn (by omega), rb_upn (by omega), rb_upn (by omega), rb_upn (by omega), rb_meA_at (fun i hi => by omega) (fun i hi => by omega), rb_meA_at (fun i hi => by omega) (fun i hi => by omega)]
    exact ⟨rfl, rfl⟩
  · by_cases e1 : k = k1
    · subst e1
      refine Or.inr ⟨y, Or.inr rfl, rb_upe rfl, rb_upe rfl, ?_, hf1⟩
      rw [rb_upn (by omega), rb_upn (by omega)]; exact y8
    · by_cases e0 : k = k0
      · subst e0
        refine Or.inr ⟨x, Or.inl rfl, ?_, ?_, ?_, hf0⟩
        · rw [rb_upn (by omega)]; exact rb_upe rfl
        · rw [rb_upn (by omega)]; exact rb_upe rfl
        · rw [rb_upn (by omega), rb_upn (by omega)]; exact x8
      · refine Or.inl ⟨?_, ?_⟩
        · rw [rb_upn (by omega), rb_upn (by omega), rb_meC_at (fun i hi => by omega)]
        · rw [rb_upn (by omega), rb_upn (by omega), rb_meA_at (fun i hi => by omega) (fun i hi => by omega)]
  · rw [rb_upn (by omega), rb_upn (by omega)]; exact x8
  · rw [rb_upn (by omega), rb_upn (by omega)]; exact ax4
  · rw [rb_upn (by omega)]; exact rb_upe rfl
  · rw [rb_cn_congr (q := fun y => !decide (c (243 + y) = mI)) (fun i hi => by rw [hwait i hi])]
    exact hH.2.2.2.2.2.2
  · rw [rb_upn (by omega), rb_upn (by omega), rb_meC_at (fun i hi => by omega)]
  · rw [rb_upn (by omega), rb_upn (by omega), rb_meA_at (fun i hi => by omega) (fun i hi => by omega)]
set_option maxHeartbeats 8000000 in
theorem rp_connect {W q n : Nat} {π : Nat → Nat} {s s' : Nat} {c a : rb_Row} (hR : rR 28 W q n π s s' c a) (hs : s' + 10 < 2000000000) {x y p r k l v m : Nat} (hx : x < 28) (hy : y < 28) (hp : p < 28) (hxy : x ≠ y) (hdx : c (19 + x) = mI) (hdy : c (19 + y) = mI) (hp2 : a (184 + 4 * p + 2) = mI) (hp3 : a (184 + 4 * p + 3) = mI) (hr : 1 ≤ r) (hr' : r ≤ 100) (hk : k < 16) (hf : c (3 + k) = mI) (hl : l < 28) (h5 : c (19 + l) = nI 5) (hcl : c (131 + l) = mI) (hv : c (47 + l) = nI v) (hv' : v = rb_cn (fun y => decide (c (243 + y) = nI l)) 28) (hm : c (215 + l) = nI m) (hm' : a (16 + 6 * l + 2) = nI m) (hvm : v < m) (hm1 : m ≤ 12) (hrl : c (75 + l) = nI r) (hrl' : a (16 + 6 * l + 3) = nI r) (hall : rb_cn (fun y => !decide (c (243 + y) = mI)) 28 < 12) : rR 28 W q n π (s + 1) (s' + 1) (upd (upd (upd (upd (upd (rb_meC c x y (nI r)) (243 + x) (nI l)) 1 (nI (s + 1))) (271 + x) (nI s)) (47 + l) (nI (v + 1))) (3 + k) (nI y)) (upd (upd (upd (upd (rb_meA a x y p (nI r)) (16 + 6 * x + 4) (nI l)) 795 (nI (s' + 1))) (16 + 6 * x + 5) (nI (s' + 1))) k (nI y)) := by
  have hH := hR.2.1
  have hss : s ≤ s' := hR.1.2.2.2.2.1
  have hsq : s' ≤ s + q := hR.1.2.2.2.2.2.1
  have hlx : l ≠ x := fun e => by rw [e, hdx] at h5; exact rb_nmm (k := 5) (by omega) h5.symm
  have hly : l ≠ y := fun e => by rw [e, hdy] at h5; exact rb_nmm (k := 5) (by omega) h5.symm
  obtain ⟨x0, y0, x1, y1, x2, y2, x4, y4, x8, y8⟩ := rb_meC_x (c := c) (r := nI r) hx hy hxy
  obtain ⟨ax0, ay0, ax1, ay1, ax4, ay4, p0, p1, p2, p3⟩ := rb_meA_x (a := a) (r := nI r) hx hy hp hxy
  have hcm : ∀ j, j ≠ 243 + x → j ≠ 1 → j ≠ 271 + x → j ≠ 47 + l → j ≠ 3 + k → (upd (upd (upd (upd (upd (rb_meC c x y (nI r)) (243 + x) (nI l)) 1 (nI (s + 1))) (271 + x) (nI s)) (47 + l) (nI (v + 1))) (3 + k) (nI y)) j = rb_meC c x y (nI r) j := fun j h1 h2 h3 h4 h5 => by
    rw [rb_upn h5, rb_upn h4, rb_upn h3, rb_upn h2, rb_upn h1]
  have ham : ∀ j, j ≠ 16 + 6 * x + 4 → j ≠ 795 → j ≠ 16 + 6 * x + 5 → j ≠ k → (upd (upd (upd (upd (rb_meA a x y p (nI r)) (16 + 6 * x + 4) (nI l)) 795 (nI (s' + 1))) (16 + 6 * x + 5) (nI (s' + 1))) k (nI y)) j = rb_meA a x y p (nI r) j := fun j h1 h2 h3 h4 => by
    rw [rb_upn h4, rb_upn h3, rb_upn h2, rb_upn h1]
  have e243 : (upd (upd (upd (upd (upd (rb_meC c x y (nI r)) (243 + x) (nI l)) 1 (nI (s + 1))) (271 + x) (nI s)) (47 + l) (nI (v + 1))) (3 + k) (nI y)) (243 + x) = nI l := by
    simp (disch := omega) only [rb_upn, rb_upe]
  have e271 : (upd (upd (upd (upd (upd (rb_meC c x y (nI r)) (243 + x) (nI l)) 1 (nI (s + 1))) (271 + x) (nI s)) (47 + l) (nI (v + 1))) (3 + k) (nI y)) (271 + x) = nI s := by
    simp (disch := omega) only [rb_upn, rb_upe]
  have e47 : (upd (upd (upd (upd (upd (rb_meC c x y (nI r)) (243 + x) (nI l)) 1 (nI (s + 1))) (271 + x) (nI s)) (47 + l) (nI (v + 1))) (3 + k) (nI y)) (47 + l) = nI (v + 1) := by
    simp (disch := omega) only [rb_upn, rb_upe]
  have e1 : (upd (upd (upd (upd (upd (rb_meC c x y (nI r)) (243 + x) (nI l)) 1 (nI (s + 1))) (271 + x) (nI s)) (47 + l) (nI (v + 1))) (3 + k) (nI y)) 1 = nI (s + 1) := by
    simp (disch := omega) only [rb_upn, rb_upe]
  have e3 : (upd (upd (upd (upd (upd (rb_meC c x y (nI r)) (243 + x) (nI l)) 1 (nI (s + 1))) (271 + x) (nI s)) (47 + l) (nI (v + 1))) (3 + k) (nI y)) (3 + k) = nI y := rb_upe rfl
  have f795 : (upd (upd (upd (upd (rb_meA a x y p (nI r)) (16 + 6 * x + 4) (nI l)) 795 (nI (s' + 1))) (16 + 6 * x + 5) (nI (s' + 1))) k (nI y)) 795 = nI (s' + 1) := by
    simp (disch := omega) only [rb_upn, rb_upe]
  have f4 : (upd (upd (upd (upd (rb_meA a x y p (nI r)) (16 + 6 * x + 4) (nI l)) 795 (nI (s' + 1))) (16 + 6 * x + 5) (nI (s' + 1))) k (nI y)) (16 + 6 * x + 4) = nI l := by
    simp (disch := omega) only [rb_upn, rb_upe]
  have f5 : (upd (upd (upd (upd (rb_meA a x y p (nI r)) (16 + 6 * x + 4) (nI l)) 795 (nI (s' + 1))) (16 + 6 * x + 5) (nI (s' + 1))) k (nI y)) (16 + 6 * x + 5) = nI (s' + 1) := by
    simp (disch := omega) only [rb_upn, rb_upe]
  have fk : (upd (upd (upd (upd (rb_meA a x y p (nI r)) (16 + 6 * x + 4) (nI l)) 795 (nI (s' + 1))) (16 + 6 * x + 5) (nI (s' + 1))) k (nI y)) k = nI y := rb_upe rfl
  generalize upd (upd (upd (upd (upd (rb_meC c x y (nI r)) (243 + x) (nI l)) 1 (nI (s + 1))) (271 + x) (nI s)) (47 + l) (nI (v + 1))) (3 + k) (nI y) = c' at hcm e243 e271 e47 e1 e3 ⊢
  generalize upd (upd (upd (upd (rb_meA a x y p (nI r)) (16 + 6 * x + 4) (nI l)) 795 (nI (s' + 1))) (16 + 6 * x + 5) (nI (s' + 1))) k (nI y) = a' at ham f795 f4 f5 fk ⊢
  have hcw : ∀ w j, w < 28 → w ≠ x → w ≠ y → j < 10 → (w = l → j ≠ 1) → c' (19 + 28 * j + w) = c (19 + 28 * j + w) := fun w j hw h1 h2 hj h3 => by
    rw [hcm _ (by omega) (by omega) (by omega) (fun g => by
      have q1 : w = l ∧ j = 1 := by omega
      exact h3 q1.1 q1.2) (by omega), rb_meC_at (fun i hi => by omega)]
  have haw : ∀ w f, w < 28 → w ≠ x → w ≠ y → f < 6 → a' (16 + 6 * w + f) = a (16 + 6 * w + f) := fun w f hw h1 h2 hf => by
    rw [ham _ (by omega) (by omega) (by omega) (by omega), rb_meA_at (fun i hi => by omega) (fun i hi => by omega)]
  have hwait : ∀ w, w < 28 → w ≠ x → c' (243 + w) = c (243 + w) := fun w hw h1 => by
    by_cases e2 : w = y
    · subst e2
      rw [hcm _ (by omega) (by omega) (by omega) (by omega) (by omega), y8, rb_wd hH hy hdy]
    · exact hcw w 8 hw h1 e2 (by omega) (by omega)
  have hwx := rb_wd hH hx hdx
  have hcntl : rb_cn (fun y => decide (c' (243 + y) = nI l)) 28 = v + 1 := by
    rw [hv']
    exact rb_cn_drop hx (by rw [e243]; simp) (by rw [hwx]; simp; exact fun g => rb_nmm (k := l) (by omega) g.symm) (fun i hi hne => by rw [hwait i hi hne])
  have hcnto : ∀ w, w < 28 → w ≠ l → rb_cn (fun y => decide (c' (243 + y) = nI w)) 28 = rb_cn (fun y => decide (c (243 + y) = nI w)) 28 := fun w hw hne => by
    refine rb_cn_congr (fun i hi => ?_)
    by_cases e : i = x
    · subst e
      rw [e243, hwx]
      have q1 : ¬ nI l = nI w := fun g => hne ((nI_eq (by omega) (by omega)).mp g).symm
      have q2 : ¬ mI = nI w := fun g => rb_nmm (k := w) (by omega) g.symm
      simp [q1, q2]
    · rw [hwait i hi e]
  refine rp_newEnds hR (by omega) (by omega) (by omega) (by omega) (by omega) e1 f795 hx hy hxy hdx hdy hp hr hr' ?_ ?_ ?_ ?_ ?_ ?_ ?_ ?_ ?_ ?_ ?_ ?_ ?_ ?_ ?_ ?_ ?_ ?_ (fun w hw h1 h2 => ?_) (fun w hw h1 h2 => ?_) (fun p' hp' hne => ?_) (fun j hj => ?_) ⟨k, hk, e3⟩ (Or.inr ⟨l, hl, hlx, hly, by omega, e243, f4, h5, e271, f5, by omega⟩) ?_ (fun j hj => ?_) (fun j hj h795 => ?_)
  · rw [hcm _ (by omega) (by omega) (by omega) (by omega) (by omega)]; exact x0
  · rw [hcm _ (by omega) (by omega) (by omega) (by omega) (by omega)]; exact y0
  · rw [hcm _ (by omega) (by omega) (by omega) (by omega) (by omega)]; exact x1
  · rw [hcm _ (by omega) (by omega) (by omega) (by omega) (by omega)]; exact y1
  · rw [hcm _ (by omega) (by omega) (by omega) (by omega) (by omega)]; exact x2
  · rw [hcm _ (by omega) (by omega) (by omega) (by omega) (by omega)]; exact y2
  · rw [hcm _ (by omega) (by omega) (by omega) (by omega) (by omega)]; exact x4
  · rw [hcm _ (by omega) (by omega) (by omega) (by omega) (by omega)]; exact y4
  · rw [hcm _ (by omega) (by omega) (by omega) (by omega) (by omega)]; exact y8
  · rw [ham _ (by omega) (by omega) (by omega) (by omega)]; exact ax0
  · rw [ham _ (by omega) (by omega) (by omega) (by omega)]; exact ay0
  · rw [ham _ (by omega) (by omega) (by omega) (by omega)]; exact ax1
  · rw [ham _ (by omega) (by omega) (by omega) (by omega)]; exact ay1
  · rw [ham _ (by omega) (by omega) (by omega) (by omega)]; exact ay4
  · rw [ham _ (by omega) (by omega) (by omega) (by omega)]; exact p0
  · rw [ham _ (by omega) (by omega) (by omega) (by omega)]; exact p1
  · rw [ham _ (by omega) (by omega) (by omega) (by omega)]; exact p2
  · rw [ham _ (by omega) (by omega) (by omega) (by omega)]; exact p3
  · by_cases e : w = l
    · subst e
      refine Or.inr (Or.inr (Or.inr (Or.inr (Or.inr ⟨m, r, ?_, ?_, by omega, hm1, hr, hr', ?_, ?_, ?_, ?_, fun _ => ?_⟩))))
      · have := hcw w 0 hw h1 h2 (by omega) (by omega); exact this.trans h5
      · have := hcw w 4 hw h1 h2 (by omega) (by omega); exact this.trans hcl
      · rw [haw w 2 hw h1 h2 (by omega)]; exact hm'
      · have := hcw w 7 hw h1 h2 (by omega) (by omega); exact this.trans hm
      · rw [haw w 3 hw h1 h2 (by omega)]; exact hrl'
      · have := hcw w 2 hw h1 h2 (by omega) (by omega); exact this.trans hrl
      · rw [hcntl]; exact ⟨e47, by omega⟩
    · refine rO_keep hw (fun j hj => hcw w j hw h1 h2 (by omega) (fun g => absurd g e)) (fun f g1 g2 => haw w f hw h1 h2 (by omega)) (fun p' e hp' he g1 g2 f hf => ?_) (fun _ _ => hcnto w hw e) (hH.2.1 w hw).2
      have := rb_pne hH hw he hp' g1 g2 hp2 hp3
      rw [ham _ (by omega) (by omega) (by omega) (by omega), rb_meA_at (fun i hi => by omega) (fun i hi => by omega)]
  · exact ⟨hcw w 0 hw h1 h2 (by omega) (by omega), hwait w hw h1, hcw w 9 hw h1 h2 (by omega) (by omega), haw w 0 hw h1 h2 (by omega), haw w 1 hw h1 h2 (by omega), haw w 4 hw h1 h2 (by omega), haw w 5 hw h1 h2 (by omega)⟩
  · rw [ham _ (by omega) (by omega) (by omega) (by omega), ham _ (by omega) (by omega) (by omega) (by omega), rb_meA_at (fun i hi => by omega) (fun i hi => by omega), rb_meA_at (fun i hi => by omega) (fun i hi => by omega)]
    exact ⟨rfl, rfl⟩
  · by_cases ek : j = k
    · subst ek
      refine Or.inr ⟨y, Or.inr rfl, e3, fk, ?_, hf⟩
      rw [hcm _ (by omega) (by omega) (by omega) (by omega) (by omega)]; exact y8
    · refine Or.inl ⟨?_, ?_⟩
      · rw [hcm _ (by omega) (by omega) (by omega) (by omega) (by omega), rb_meC_at (fun i hi => by omega)]
      · rw [ham _ (by omega) (by omega) (by omega) (by omega), rb_meA_at (fun i hi => by omega) (fun i hi => by omega)]
  · have := rb_cn_drop (p := fun y => !decide (c' (243 + y) = mI)) (q := fun y => !decide (c (243 + y) = mI)) hx (by rw [e243]; simp; exact rb_nmm (by omega)) (by rw [hwx]; simp) (fun i hi hne => by rw [hwait i hi hne])
    omega
  · rw [hcm _ (by omega) (by omega) (by omega) (by omega) (by omega), rb_meC_at (fun i hi => by omega)]
  · rw [ham _ (by omega) h795 (by omega) (by omega), rb_meA_at (fun i hi => by omega) (fun i hi => by omega)]
