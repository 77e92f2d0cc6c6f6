theorem rO_z {z : Nat} {c a : rb_Row} {x : Nat} (hx : x < 28) (h : rO 28 c a x) : rO z c a x := by
  rcases h with h | h | h | h | h | ⟨k, r, h1, h2, h3, h4, h5, h6, h7, h8, h9, h10, h11⟩
  · exact Or.inl h
  · exact Or.inr (Or.inl h)
  · exact Or.inr (Or.inr (Or.inl h))
  · exact Or.inr (Or.inr (Or.inr (Or.inl h)))
  · exact Or.inr (Or.inr (Or.inr (Or.inr (Or.inl h))))
  · exact Or.inr (Or.inr (Or.inr (Or.inr (Or.inr ⟨k, r, h1, h2, h3, h4, h5, h6, h7, h8, h9, h10, fun _ => h11 (by omega)⟩))))
/-- objects and names have changed; interests and sleepers still have theirs -/
theorem rR_names {z z' W q n : Nat} {π : Nat → Nat} {s s' : Nat} {c a c' a' : rb_Row} (h : rR z W q n π s s' c a) (hc : ∀ k, (k < 3 ∨ 299 ≤ k) → c' k = c k) (ha : ∀ k, 296 ≤ k → a' k = a k) (hi : ∀ i y, i < n → y < 28 → (c (299 + i) = nI y ∨ c (323 + i) = nI y) → c' (19 + y) = c (19 + y) ∧ ∃ k, k < 16 ∧ c' (3 + k) = nI y) (ht : ∀ t y, t < 6 → y < 28 → c (539 + t) = nI y → c' (19 + y) = c (19 + y)) (hH : rH z' s s' c' a') : rR z' W q n π s s' c' a' := by
  obtain ⟨⟨q1, q2, q3, q4, q5, q6, q7, q8⟩, _, hI, hL, hT⟩ := h
  refine ⟨⟨?_, ?_, ?_, ?_, q5, q6, ?_, q8⟩, hH, ?_, ?_, ?_⟩
  · rw [hc 0 (by omega), ha 794 (by omega)]; exact q1
  · rw [hc 0 (by omega)]; exact q2
  · rw [hc 1 (by omega)]; exact q3
  · rw [ha 795 (by omega)]; exact q4
  · rw [hc 2 (by omega)]; exact q7
  · obtain ⟨h1, h2, h3, h4, h5, h6, h7, h8⟩ := hI
    have hc1 : ∀ k, 299 ≤ k → c' k = c k := fun k p => hc k (by omega)
    have ha1 : ∀ k, 296 ≤ k → a' k = a k := ha
    refine ⟨?_, ?_, ?_, ?_, ?_, ?_, ?_, ?_⟩
    · intro i hi'
      simp (disch := omega) only [hc1, ha1]
      exact h1 i hi'
    · intro i hi'
      obtain ⟨x, p1, p2, p3, _⟩ := h2 i hi'
      obtain ⟨g1, g2⟩ := hi i x hi' p1 (Or.inl p2)
      exact ⟨x, p1, by simp (disch := omega) only [hc1]; exact p2, by rw [g1]; exact p3, g2⟩
    · intro i hi'
      obtain ⟨x, p1, p2, ⟨k, p3, p4⟩, _⟩ := h3 i hi'
      obtain ⟨g1, g2⟩ := hi i x hi' p1 (Or.inr p2)
      exact ⟨x, p1, by simp (disch := omega) only [hc1]; exact p2, ⟨k, p3, by rw [g1]; exact p4⟩, g2⟩
    · intro i hi'
      simp (disch := omega) only [hc1, ha1]
      exact h4 i hi'
    · intro i j hi' hj
      simp (disch := omega) only [ha1]
      exact h5 i j hi' hj
    · intro u hu hne
      simp (disch := omega) only [ha1]
      exact h6 u hu hne
    · intro i j k x hi' hj hk g1 g2 hx g3
      simp (disch := omega) only [hc1] at g1 g2 g3
      rw [(hi k x hk hx (Or.inr g3)).1]
      exact h7 i j k x hi' hj hk g1 g2 hx g3
    · intro i j hi' hj
      simp (disch := omega) only [hc1]
      exact h8 i j hi' hj
  · exact rL_frame q8 (fun i hi => (hI.1 i hi).1) hL (Nat.le_refl _) (Nat.le_refl _) (fun k hk hk' => hc k (by omega)) (fun u f hu hf hf' => ha _ (by omega))
  · obtain ⟨h1, h2, h3, h4, h5, h6⟩ := hT
    have hc1 : ∀ k, 299 ≤ k → c' k = c k := fun k p => hc k (by omega)
    have ha1 : ∀ k, 296 ≤ k → a' k = a k := ha
    refine ⟨?_, ?_, ?_, ?_, ?_, ?_⟩
    · intro u hu
      simp (disch := omega) only [hc1, ha1]
      exact h1 u hu
    · intro u hu
      simp (disch := omega) only [hc1]
      exact h2 u hu
    · intro u hu
      simp (disch := omega) only [hc1, ha1]
      rcases h3 u hu with p | ⟨⟨x, p1, p2, p3⟩, p4⟩
      · exact Or.inl p
      · exact Or.inr ⟨⟨x, p1, p2, by rw [ht u x hu p1 p2]; exact p3⟩, p4⟩
    · intro u v hu hv
      simp (disch := omega) only [hc1, ha1]
      exact h4 u v hu hv
    · intro u k hu hk
      simp (disch := omega) only [hc1, ha1]
      exact h5 u k hu hk
    · intro u k l hu hk hl
      simp (disch := omega) only [hc1, ha1]
      exact h6 u k l hu hk hl
/-- a handle is closed; z: 28 if the object has another -/
theorem rp_unname {W q n : Nat} {π : Nat → Nat} {s s' : Nat} {c a : rb_Row} (h : rR 28 W q n π s s' c a) {k x z : Nat} (hk : k < 16) (hx : x < 28) (ek : c (3 + k) = nI x) (hz : (z = 28 ∧ ∃ j, j < 16 ∧ j ≠ k ∧ c (3 + j) = nI x) ∨ (z = x ∧ (∀ j, j < 16 → j ≠ k → c (3 + j) ≠ nI x) ∧ ∀ i, i < n → c (299 + i) ≠ nI x ∧ c (323 + i) ≠ nI x)) : rR z W q n π s s' (upd c (3 + k) mI) (upd a k mI) := by
  have hH := h.2.1
  have hI := h.2.2.1
  obtain ⟨h1, h2, h3, h4, h5, h6, h7⟩ := id hH
  have hlv : ∀ w, w < 28 → (rb_live (upd c (3 + k) mI) w ↔ rb_live c w) := fun w hw => by unfold rb_live; rw [rb_upn (by omega)]
  have hnm : ∀ y, y < 28 → y ≠ z → (∃ j, j < 16 ∧ c (3 + j) = nI y) → ∃ j, j < 16 ∧ (upd c (3 + k) mI) (3 + j) = nI y := by
    rintro y hy hyz ⟨j, hj, e⟩
    by_cases g : j = k
    · subst g
      rw [ek] at e
      have := (nI_eq (by omega) (by omega)).mp e
      subst this
      rcases hz with ⟨_, j', h1, h2, h3⟩ | ⟨g1, _⟩
      · exact ⟨j', h1, by rw [rb_upn (by omega)]; exact h3⟩
      · exact absurd g1.symm hyz
    · exact ⟨j, hj, by rw [rb_upn (by omega)]; exact e⟩
  refine rR_names h (fun j hj => rb_upn (by omega)) (fun j hj => rb_upn (by omega)) (fun i y hi hy e => ⟨rb_upn (by omega), ?_⟩) (fun t y ht hy e => rb_upn (by omega)) ?_
  · have hyz : y ≠ z := by
      intro g
      rcases hz with ⟨g1, _⟩ | ⟨g1, _, g2⟩
      · omega
      · subst g1
        subst g
        rcases e with e | e
        · exact (g2 i hi).1 e
        · exact (g2 i hi).2 e
    refine hnm y hy hyz ?_
    rcases e with e | e
    · obtain ⟨y', g1, g2, _, g3⟩ := hI.2.1 i hi
      rw [e] at g2
      have := (nI_eq (by omega) (by omega)).mp g2
      subst this; exact g3
    · obtain ⟨y', g1, g2, _, g3⟩ := hI.2.2.1 i hi
      rw [e] at g2
      have := (nI_eq (by omega) (by omega)).mp g2
      subst this; exact g3
  · refine ⟨?_, ?_, ?_, ?_, ?_, ?_, ?_⟩
    · intro j hj
      by_cases e : j = k
      · subst e
        rw [rb_upe rfl, rb_upe rfl]
        refine ⟨rfl, fun g => rb_nmm (k := z) (by omega) g.symm, Or.inl rfl⟩
      · rw [rb_upn e, rb_upn (by omega)]
        obtain ⟨p1, p2, p3⟩ := h1 j hj
        refine ⟨p1, fun g => ?_, ?_⟩
        · rcases hz with ⟨g1, _⟩ | ⟨g1, g2, _⟩
          · rw [g1] at g; exact p2 g
          · subst g1; exact g2 j hj e g
        · rcases p3 with p3 | ⟨w, q1, q2, q3, q4⟩
          · exact Or.inl p3
          · exact Or.inr ⟨w, q1, q2, (hlv w q1).mpr q3, by rw [rb_upn (by omega)]; exact q4⟩
    · intro w hw
      exact ⟨by simp (disch := omega) only [rb_upn]; exact (h2 w hw).1, rO_keep hw (fun j hj => rb_upn (by omega)) (fun f h1 h2 => rb_upn (by omega)) (fun p e hp he h1 h2 f hf => rb_upn (by omega)) (fun _ _ => rb_cn_congr (fun y hy => by rw [rb_upn (by omega)])) (rO_z hw (h2 w hw).2)⟩
    · intro w hw hwz hl hww
      rw [rb_upn (by omega)] at hww
      exact hnm w hw hwz (h3 w hw (by omega) ((hlv w hw).mp hl) hww)
    · intro p e hp he
      rw [rb_upn (by omega)]
      rcases h4 p e hp he with g | ⟨y, g1, g2, g3, g4⟩
      · exact Or.inl g
      · exact Or.inr ⟨y, g1, g2, by rw [rb_upn (by omega)]; exact g3, by rw [rb_upn (by omega)]; exact g4⟩
    · intro w hw
      simp (disch := omega) only [rb_upn]
      rcases h5 w hw with ⟨g1, g2⟩ | ⟨l, u, v, g1, g2, g3, g4, g5, g6, g7, g8⟩
      · exact Or.inl ⟨g1, fun hl => g2 ((hlv w hw).mp hl)⟩
      · exact Or.inr ⟨l, u, v, g1, g2, g3, g4, g5, g6, g7, g8⟩
    · intro w y hw hy
      simp (disch := omega) only [rb_upn]
      exact h6 w y hw hy
    · rw [rb_cn_congr (q := fun y => !decide (c (243 + y) = mI)) (fun i hi => by rw [rb_upn (by omega)])]
      exact h7
theorem rb_unz {z W q n : Nat} {π : Nat → Nat} {s s' : Nat} {c a : rb_Row} (h : rR z W q n π s s' c a) {y : Nat} (hy : y < 28) (hun : ∀ j, j < 16 → c (3 + j) ≠ nI y) {i : Nat} (hi : i < n) : c (299 + i) ≠ nI y ∧ c (323 + i) ≠ nI y := by
  have hI := h.2.2.1
  refine ⟨fun e => ?_, fun e => ?_⟩
  · obtain ⟨y', g1, g2, _, j, g3, g4⟩ := hI.2.1 i hi
    rw [e] at g2
    have := (nI_eq (by omega) (by omega)).mp g2
    subst this; exact hun j g3 g4
  · obtain ⟨y', g1, g2, _, j, g3, g4⟩ := hI.2.2.1 i hi
    rw [e] at g2
    have := (nI_eq (by omega) (by omega)).mp g2
    subst this; exact hun j g3 g4
/-- an object that is no end is gone -/
theorem rp_goneO {W q n : Nat} {π : Nat → Nat} {s s' : Nat} {c a : rb_Row} {x k : Nat} (h : rR x W q n π s s' c a) (hx : x < 28) (hk : c (19 + x) = nI k) (hk2 : 2 ≤ k) (hk6 : k < 6) (hw : ∀ y, y < 28 → c (243 + y) ≠ nI x) (hsl : ∀ t, t < 6 → c (539 + t) ≠ nI x) : rR 28 W q n π s s' (upd (upd c (19 + x) mI) (243 + x) mI) (upd a (16 + 6 * x) mI) := by
  have hH := h.2.1
  obtain ⟨h1, h2, h3, h4, h5, h6, h7⟩ := id hH
  have hun : ∀ j, j < 16 → c (3 + j) ≠ nI x := fun j hj => (h1 j hj).2.1
  have hwx : c (243 + x) = mI := by
    rcases h5 x hx with ⟨g, _⟩ | ⟨l, u, v, _, _, _, _, _, _, _, g, _⟩
    · exact g
    · rw [hk] at g; have := (nI_eq (by omega) (by omega)).mp g; omega
  have hlv : ∀ w, w < 28 → w ≠ x → (rb_live (upd (upd c (19 + x) mI) (243 + x) mI) w ↔ rb_live c w) := fun w hw hne => by unfold rb_live; rw [rb_upn (by omega), rb_upn (by omega)]
  have hdx : ¬ rb_live (upd (upd c (19 + x) mI) (243 + x) mI) x := rb_dead (by rw [rb_upn (by omega)]; exact rb_upe rfl)
  have hwo : ∀ w, w < 28 → (upd (upd c (19 + x) mI) (243 + x) mI) (243 + w) = c (243 + w) := fun w hw => by
    by_cases e : w = x
    · subst e; rw [rb_upe rfl, hwx]
    · rw [rb_upn (by omega), rb_upn (by omega)]
  refine rR_names h (fun j hj => by simp (disch := omega) only [rb_upn]) (fun j hj => by simp (disch := omega) only [rb_upn]) (fun i y hi hy e => ?_) (fun t y ht hy e => ?_) ?_
  · have hne : y ≠ x := fun g => by
      subst g
      obtain ⟨g1, g2⟩ := rb_unz h hx hun hi
      rcases e with e | e
      · exact g1 e
      · exact g2 e
    refine ⟨by simp (disch := omega) only [rb_upn], ?_⟩
    rcases e with e | e
    · obtain ⟨y', g1, g2, _, j, g3, g4⟩ := h.2.2.1.2.1 i hi
      rw [e] at g2
      have := (nI_eq (by omega) (by omega)).mp g2
      subst this; exact ⟨j, g3, by simp (disch := omega) only [rb_upn]; exact g4⟩
    · obtain ⟨y', g1, g2, _, j, g3, g4⟩ := h.2.2.1.2.2.1 i hi
      rw [e] at g2
      have := (nI_eq (by omega) (by omega)).mp g2
      subst this; exact ⟨j, g3, by simp (disch := omega) only [rb_upn]; exact g4⟩
  · have hne : y ≠ x := fun g => hsl t ht (g ▸ e)
    simp (disch := omega) only [rb_upn]
  · refine ⟨?_, ?_, ?_, ?_, ?_, ?_, ?_⟩
    · intro j hj
      simp (disch := omega) only [rb_upn]
      obtain ⟨p1, p2, p3⟩ := h1 j hj
      rcases p3 with p3 | ⟨w, q1, q2, q3, q4⟩
      · exact ⟨p1, by rw [p3]; exact fun g => rb_nmm (k := 28) (by omega) g.symm, Or.inl p3⟩
      · have hne : w ≠ x := fun g => p2 (by rw [q2, g])
        refine ⟨p1, fun g => ?_, Or.inr ⟨w, q1, q2, (hlv w q1 hne).mpr q3, by rw [hwo w q1]; exact q4⟩⟩
        rw [q2] at g
        have := (nI_eq (by omega) (by omega)).mp g
        omega
    · intro w hw'
      by_cases e : w = x
      · subst e
        refine ⟨?_, Or.inl ⟨?_, rb_upe rfl⟩⟩
        · rw [rb_upe rfl, rb_upn (by omega), rb_upe rfl]
        · rw [rb_upn (by omega)]; exact rb_upe rfl
      · refine ⟨by simp (disch := omega) only [rb_upn]; exact (h2 w hw').1, ?_⟩
        have hO : rO 28 c a w := by
          rcases (h2 w hw').2 with g | g | g | g | g | ⟨k, r, g1, g2, g3, g4, g5, g6, g7, g8, g9, g10, g11⟩
          · exact Or.inl g
          · exact Or.inr (Or.inl g)
          · exact Or.inr (Or.inr (Or.inl g))
          · exact Or.inr (Or.inr (Or.inr (Or.inl g)))
          · exact Or.inr (Or.inr (Or.inr (Or.inr (Or.inl g))))
          · exact Or.inr (Or.inr (Or.inr (Or.inr (Or.inr ⟨k, r, g1, g2, g3, g4, g5, g6, g7, g8, g9, g10, fun _ => g11 e⟩))))
        exact rO_keep hw' (fun j hj => by simp (disch := omega) only [rb_upn]) (fun f h1 h2 => by simp (disch := omega) only [rb_upn]) (fun p e hp he h1 h2 f hf => by simp (disch := omega) only [rb_upn]) (fun _ _ => rb_cn_congr (fun y hy => by rw [hwo y hy])) hO
    · intro w hw' hz hl hww
      have hne : w ≠ x := fun g => hdx (g ▸ hl)
      rw [hwo w hw'] at hww
      obtain ⟨j, hj, ej⟩ := h3 w hw' hne ((hlv w hw' hne).mp hl) hww
      exact ⟨j, hj, by simp (disch := omega) only [rb_upn]; exact ej⟩
    · intro p e hp he
      rw [rb_upn (by omega)]
      rcases h4 p e hp he with g | ⟨y, g1, g2, g3, g4⟩
      · exact Or.inl g
      · have hne : y ≠ x := fun g => by
          subst g; rw [hk] at g3; have := (nI_eq (by omega) (by omega)).mp g3; omega
        exact Or.inr ⟨y, g1, g2, by simp (disch := omega) only [rb_upn]; exact g3, by simp (disch := omega) only [rb_upn]; exact g4⟩
    · intro w hw'
      rw [hwo w hw']
      by_cases e : w = x
      · subst e
        exact Or.inl ⟨hwx, fun hl => absurd hl hdx⟩
      · simp (disch := omega) only [rb_upn]
        rcases h5 w hw' with ⟨g1, g2⟩ | ⟨l, u, v, g1, g2, g3, g4, g5, g6, g7, g8⟩
        · exact Or.inl ⟨g1, fun hl => g2 ((hlv w hw' e).mp hl)⟩
        · have hne : l ≠ x := fun g => hw w hw' (by rw [g5, g])
          exact Or.inr ⟨l, u, v, g1, g2, g3, g4, g5, g6, by simp (disch := omega) only [rb_upn]; exact g7, g8⟩
    · intro w y hw' hy
      rw [hwo w hw', hwo y hy]
      simp (disch := omega) only [rb_upn]
      exact h6 w y hw' hy
    · rw [rb_cn_congr (q := fun y => !decide (c (243 + y) = mI)) (fun i hi => by rw [hwo i hi])]
      exact h7
