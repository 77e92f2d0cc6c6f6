set_option maxHeartbeats 8000000 in
theorem rp_endGone {z z' W q n : Nat} {π : Nat → Nat} {s s' : Nat} {c a c' : rb_Row} (h : rR z W q n π s s' c a) {y e p : Nat} (hy : y < 28) (he : e < 2) (hp : p < 28) (hk : c (19 + y) = nI e) (hv : a (16 + 6 * y + 1) = nI p) (hun : ∀ j, j < 16 → c (3 + j) ≠ nI y) (hwy : c (243 + y) = mI ∨ c (243 + y) = nI z) (hz28 : z < 28) (hz : (z' = z ∧ y ≠ z) ∨ (z' = 28 ∧ y = z)) (e1 : c' (19 + y) = mI) (e2 : c' (243 + y) = mI) (e3 : ∀ w, w < 28 → c (131 + y) = nI w → c' (131 + w) = mI) (e4 : ∀ k, k ≠ 19 + y → k ≠ 243 + y → (∀ w, w < 28 → c (131 + y) = nI w → k ≠ 131 + w) → c' k = c k) : rR z' W q n π s s' c' (upd (upd (upd a (184 + 4 * p + (2 + e)) mI) (16 + 6 * y) mI) (16 + 6 * y + 4) mI) := by
  have hH := h.2.1
  obtain ⟨h1, h2, h3, h4, h5, h6, h7⟩ := id hH
  obtain ⟨g4, g5⟩ : a (184 + 4 * p + (2 + e)) = nI y ∧ a (184 + 4 * p + (3 - e)) = c (131 + y) := by
    rcases (h2 y hy).2 with g | ⟨e0, p0, r, b, g0, g1, g2, g3, g4, g5, _⟩ | ⟨b, _, g, _⟩ | ⟨b, _, g, _⟩ | ⟨g, _⟩ | ⟨k, r, g, _⟩
    · rw [g.1] at hk; exact absurd hk.symm (rb_nmm (by omega))
    · rw [hk] at g1
      have q1 := (nI_eq (by omega) (by omega)).mp g1
      subst q1
      rw [hv] at g3
      have q2 := (nI_eq (by omega) (by omega)).mp g3
      subst q2
      exact ⟨g4, g5⟩
    · rw [g] at hk; have := (nI_eq (by omega) (by omega)).mp hk; omega
    · rw [g] at hk; have := (nI_eq (by omega) (by omega)).mp hk; omega
    · rw [g] at hk; have := (nI_eq (by omega) (by omega)).mp hk; omega
    · rw [g] at hk; have := (nI_eq (by omega) (by omega)).mp hk; omega
  have hcp : ∀ k, k ≠ 19 + y → k ≠ 243 + y → (k < 131 ∨ 159 ≤ k) → c' k = c k := fun k q1 q2 q3 => e4 k q1 q2 (fun w hw _ => by omega)
  have hcw : ∀ w j, w < 28 → w ≠ y → j < 10 → j ≠ 4 → c' (19 + 28 * j + w) = c (19 + 28 * j + w) := fun w j hw hne hj h4 => hcp _ (by omega) (by omega) (by omega)
  have hap : ∀ k, k ≠ 184 + 4 * p + (2 + e) → k ≠ 16 + 6 * y → k ≠ 16 + 6 * y + 4 → (upd (upd (upd a (184 + 4 * p + (2 + e)) mI) (16 + 6 * y) mI) (16 + 6 * y + 4) mI) k = a k := fun k q1 q2 q3 => by
    rw [rb_upn q3, rb_upn q2, rb_upn q1]
  have ha1 : (upd (upd (upd a (184 + 4 * p + (2 + e)) mI) (16 + 6 * y) mI) (16 + 6 * y + 4) mI) (184 + 4 * p + (2 + e)) = mI := by
    rw [rb_upn (by omega), rb_upn (by omega)]; exact rb_upe rfl
  have ha2 : (upd (upd (upd a (184 + 4 * p + (2 + e)) mI) (16 + 6 * y) mI) (16 + 6 * y + 4) mI) (16 + 6 * y) = mI := by
    rw [rb_upn (by omega)]; exact rb_upe rfl
  have ha3 : (upd (upd (upd a (184 + 4 * p + (2 + e)) mI) (16 + 6 * y) mI) (16 + 6 * y + 4) mI) (16 + 6 * y + 4) = mI := rb_upe rfl
  generalize upd (upd (upd a (184 + 4 * p + (2 + e)) mI) (16 + 6 * y) mI) (16 + 6 * y + 4) mI = a' at hap ha1 ha2 ha3 ⊢
  have haw : ∀ w f, w < 28 → w ≠ y → f < 6 → a' (16 + 6 * w + f) = a (16 + 6 * w + f) := fun w f hw hne hf => hap _ (by omega) (by omega) (by omega)
  have hlv : ∀ w, w < 28 → w ≠ y → (rb_live c' w ↔ rb_live c w) := fun w hw hne => by
    unfold rb_live
    have : c' (19 + w) = c (19 + w) := hcw w 0 hw hne (by omega) (by omega)
    rw [this]
  have hdy : ¬ rb_live c' y := rb_dead e1
  have hwo : ∀ w, w < 28 → w ≠ y → c' (243 + w) = c (243 + w) := fun w hw hne => hcw w 8 hw hne (by omega) (by omega)
  have hzz : ∀ w, w < 28 → w ≠ y → w ≠ z' → w ≠ z := fun w hw hne hz' => by
    rcases hz with ⟨g1, _⟩ | ⟨_, g2⟩
    · rw [← g1]; exact hz'
    · rw [← g2]; exact hne
  have hpk := fun w hw g => rb_pk hH hy he hp g5 (y := w) hw g
  refine rR_names h (fun j hj => hcp j (by omega) (by omega) (by omega)) (fun j hj => hap j (by omega) (by omega) (by omega)) (fun i v hi hv' ev => ?_) (fun t v ht hv' ev => ?_) ?_
  · obtain ⟨n1, n2⟩ := rb_unz h hy hun hi
    have hne : v ≠ y := fun g => by
      subst g
      rcases ev with ev | ev
      · exact n1 ev
      · exact n2 ev
    refine ⟨hcw v 0 hv' hne (by omega) (by omega), ?_⟩
    rcases ev with ev | ev
    · obtain ⟨y', q1, q2, _, j, q3, q4⟩ := h.2.2.1.2.1 i hi
      rw [ev] at q2
      have := (nI_eq (by omega) (by omega)).mp q2
      subst this; exact ⟨j, q3, by rw [hcp _ (by omega) (by omega) (by omega)]; exact q4⟩
    · obtain ⟨y', q1, q2, _, j, q3, q4⟩ := h.2.2.1.2.2.1 i hi
      rw [ev] at q2
      have := (nI_eq (by omega) (by omega)).mp q2
      subst this; exact ⟨j, q3, by rw [hcp _ (by omega) (by omega) (by omega)]; exact q4⟩
  · have hne : v ≠ y := fun g => by
      subst g
      rcases h.2.2.2.2.2.2.1 t ht with q | ⟨⟨w, q1, q2, q3⟩, _⟩
      · rw [ev] at q; exact rb_nmm (k := v) (by omega) q
      · rw [ev] at q2
        have := (nI_eq (by omega) (by omega)).mp q2
        subst this
        rw [hk] at q3
        have := (nI_eq (by omega) (by omega)).mp q3; omega
    exact hcw v 0 hv' hne (by omega) (by omega)
  · refine ⟨?_, ?_, ?_, ?_, ?_, ?_, ?_⟩
    · intro j hj
      rw [hcp _ (by omega) (by omega) (by omega), hap _ (by omega) (by omega) (by omega)]
      obtain ⟨p1, p2, p3⟩ := h1 j hj
      refine ⟨p1, fun g => ?_, ?_⟩
      · rcases hz with ⟨g1, _⟩ | ⟨g1, _⟩
        · rw [g1] at g; exact p2 g
        · rw [g1] at g
          rcases p3 with p3 | ⟨w, q1, q2, _⟩
          · rw [p3] at g; exact rb_nmm (k := 28) (by omega) g.symm
          · rw [q2] at g; have := (nI_eq (by omega) (by omega)).mp g; omega
      · rcases p3 with p3 | ⟨w, q1, q2, q3, q4⟩
        · exact Or.inl p3
        · have hne : w ≠ y := fun g => hun j hj (by rw [q2, g])
          exact Or.inr ⟨w, q1, q2, (hlv w q1 hne).mpr q3, by rw [hwo w q1 hne]; exact q4⟩
    · intro w hw
      by_cases ew : w = y
      · subst ew
        exact ⟨by rw [ha2, e1], Or.inl ⟨e1, e2⟩⟩
      · have k0 : c' (19 + w) = c (19 + w) := hcw w 0 hw ew (by omega) (by omega)
        refine ⟨by rw [k0]; have := haw w 0 hw ew (by omega); exact this.trans (h2 w hw).1, ?_⟩
        by_cases epw : c (131 + y) = nI w
        · -- the other end
          obtain ⟨kw, vw⟩ := hpk w hw epw
          rcases (h2 w hw).2 with g | ⟨e0, p0, r, b, m0, m1, m2, m3, m4, m5, m6, m7, m8, m9, m10, m11, m12, m13⟩ | ⟨b, _, g, _⟩ | ⟨b, _, g, _⟩ | ⟨g, _⟩ | ⟨k, r, g, _⟩
          · rw [g.1] at kw; exact absurd kw.symm (rb_nmm (by omega))
          · rw [kw] at m1
            have q1 := (nI_eq (by omega) (by omega)).mp m1
            rw [vw] at m3
            have q2 := (nI_eq (by omega) (by omega)).mp m3
            subst q2
            have k1 : c' (47 + w) = c (47 + w) := hcw w 1 hw ew (by omega) (by omega)
            have k2 : c' (75 + w) = c (75 + w) := hcw w 2 hw ew (by omega) (by omega)
            have kp := e3 w hw epw
            have q3 : 2 + e0 ≠ 2 + e := by omega
            have q4 : 3 - e0 = 2 + e := by omega
            refine Or.inr (Or.inl ⟨e0, p, r, b, m0, by rw [k0, kw, q1], hp, by rw [haw w 1 hw ew (by omega)]; exact vw, ?_, ?_, ?_, by rw [k1]; exact m7, ?_, by rw [k2]; exact m9, m10, m11, m12, Or.inl kp⟩)
            · rw [hap _ (by omega) (by omega) (by omega)]; exact m4
            · rw [q4, kp]; exact ha1
            · rw [hap _ (by omega) (by omega) (by omega)]; exact m6
            · rw [hap _ (by omega) (by omega) (by omega)]; exact m8
          · rw [g] at kw; have := (nI_eq (by omega) (by omega)).mp kw; omega
          · rw [g] at kw; have := (nI_eq (by omega) (by omega)).mp kw; omega
          · rw [g] at kw; have := (nI_eq (by omega) (by omega)).mp kw; omega
          · rw [g] at kw; have := (nI_eq (by omega) (by omega)).mp kw; omega
        · have hO : rO z' c a w := by
            rcases (h2 w hw).2 with g | g | g | g | g | ⟨k, r, g1, g2, g3, g4, g5, g6, g7, g8, g9, g10, g11⟩
            · exact Or.inl g
            · exact Or.inr (Or.inl g)
            · exact Or.inr (Or.inr (Or.inl g))
            · exact Or.inr (Or.inr (Or.inr (Or.inl g)))
            · exact Or.inr (Or.inr (Or.inr (Or.inr (Or.inl g))))
            · exact Or.inr (Or.inr (Or.inr (Or.inr (Or.inr ⟨k, r, g1, g2, g3, g4, g5, g6, g7, g8, g9, g10, fun q => g11 (hzz w hw ew q)⟩))))
          refine rO_keep hw (fun j hj => ?_) (fun f q1 q2 => haw w f hw ew (by omega)) (fun p' e' hp' he' q1 q2 f hf => ?_) (fun q1 q2 => ?_) hO
          · by_cases ej : j = 4
            · subst ej
              exact e4 _ (by omega) (by omega) (fun v hv' q => fun g => epw ((show v = w by omega) ▸ q))
            · exact hcw w j hw ew (by omega) ej
          · -- another pipe
            refine hap _ (fun g => ?_) (by omega) (by omega)
            have hpp : p' = p := by omega
            subst hpp
            rcases (h2 w hw).2 with m | ⟨e0, p0, r, b, m0, m1, m2, m3, m4, m5, _⟩ | ⟨b, _, m, _⟩ | ⟨b, _, m, _⟩ | ⟨m, _⟩ | ⟨k, r, m, _⟩
            · rw [m.1] at q1; exact absurd q1.symm (rb_nmm (by omega))
            · rw [q2] at m3
              have z2 := (nI_eq (by omega) (by omega)).mp m3
              subst z2
              have z1 : e0 = 0 ∨ e0 = 1 := by omega
              have z3 : e = 0 ∨ e = 1 := by omega
              rcases z1 with z1 | z1 <;> rcases z3 with z3 | z3 <;> subst z1 <;> subst z3
              · rw [g4] at m4; exact ew ((nI_eq (by omega) (by omega)).mp m4).symm
              · exact epw (by rw [← g5]; exact m4)
              · exact epw (by rw [← g5]; exact m4)
              · rw [g4] at m4; exact ew ((nI_eq (by omega) (by omega)).mp m4).symm
            · rw [m] at q1; have := (nI_eq (by omega) (by omega)).mp q1; omega
            · rw [m] at q1; have := (nI_eq (by omega) (by omega)).mp q1; omega
            · rw [m] at q1; have := (nI_eq (by omega) (by omega)).mp q1; omega
            · rw [m] at q1; have := (nI_eq (by omega) (by omega)).mp q1; omega
          · refine rb_cn_congr (fun v hv' => ?_)
            by_cases ev : v = y
            · subst ev
              have n1 : ¬ mI = nI w := fun g => rb_nmm (k := w) (by omega) g.symm
              rw [e2]
              rcases hwy with g | g <;> rw [g]
              have n2 : ¬ nI z = nI w := fun g => hzz w hw ew q2 ((nI_eq (by omega) (by omega)).mp g).symm
              simp [n1, n2]
            · rw [hwo v hv' ev]
    · intro w hw hz' hl hww
      have hne : w ≠ y := fun g => hdy (g ▸ hl)
      rw [hwo w hw hne] at hww
      obtain ⟨j, hj, ej⟩ := h3 w hw (hzz w hw hne hz') ((hlv w hw hne).mp hl) hww
      exact ⟨j, hj, by rw [hcp _ (by omega) (by omega) (by omega)]; exact ej⟩
    · intro p' e' hp' he'
      by_cases g : p' = p ∧ e' = e
      · rw [g.1, g.2]; exact Or.inl ha1
      · rw [hap _ (by omega) (by omega) (by omega)]
        rcases h4 p' e' hp' he' with q | ⟨w, q1, q2, q3, q4⟩
        · exact Or.inl q
        · have hne : w ≠ y := fun g' => by
            subst g'
            rw [hv] at q4
            rw [hk] at q3
            exact g ⟨((nI_eq (by omega) (by omega)).mp q4).symm, ((nI_eq (by omega) (by omega)).mp q3).symm⟩
          exact Or.inr ⟨w, q1, q2, (hcw w 0 q1 hne (by omega) (by omega)).trans q3, by rw [haw w 1 q1 hne (by omega)]; exact q4⟩
    · intro w hw
      by_cases ew : w = y
      · subst ew
        exact Or.inl ⟨e2, fun hl => absurd hl hdy⟩
      · rw [hwo w hw ew, haw w 4 hw ew (by omega), haw w 5 hw ew (by omega)]
        have k0 : c' (19 + w) = c (19 + w) := hcw w 0 hw ew (by omega) (by omega)
        have k9 : c' (271 + w) = c (271 + w) := hcw w 9 hw ew (by omega) (by omega)
        rw [k0, k9]
        rcases h5 w hw with ⟨m1, m2⟩ | ⟨l, u, v, m1, m2, m3, m4, m5, m6, m7, m8⟩
        · exact Or.inl ⟨m1, fun hl => m2 ((hlv w hw ew).mp hl)⟩
        · have hne : l ≠ y := fun g => by subst g; rw [hk] at m7; have := (nI_eq (by omega) (by omega)).mp m7; omega
          exact Or.inr ⟨l, u, v, m1, m2, m3, m4, m5, m6, (hcw l 0 m1 hne (by omega) (by omega)).trans m7, m8⟩
    · intro w v hw hv' hww hvv
      have n1 : w ≠ y := fun g => hww (g ▸ e2)
      have n2 : v ≠ y := fun g => hvv (g ▸ e2)
      rw [hwo w hw n1] at hww
      rw [hwo v hv' n2] at hvv
      have k9 : c' (271 + w) = c (271 + w) := hcw w 9 hw n1 (by omega) (by omega)
      have l9 : c' (271 + v) = c (271 + v) := hcw v 9 hv' n2 (by omega) (by omega)
      rw [k9, l9, haw w 5 hw n1 (by omega), haw v 5 hv' n2 (by omega)]
      exact h6 w v hw hv' hww hvv
    · refine Nat.le_trans (rb_cn_mono (fun w hw hp => ?_)) h7
      by_cases ew : w = y
      · subst ew; rw [e2] at hp; simp at hp
      · rw [hwo w hw ew] at hp; exact hp
