theorem rO_keep {z : Nat} {c a c' a' : rb_Row} {w : Nat} (hw : w < 28) (hc : ∀ j, j < 9 → c' (19 + 28 * j + w) = c (19 + 28 * j + w)) (ha : ∀ f, 1 ≤ f → f ≤ 3 → a' (16 + 6 * w + f) = a (16 + 6 * w + f)) (hp : ∀ p e, p < 28 → e < 2 → c (19 + w) = nI e → a (16 + 6 * w + 1) = nI p → ∀ f, f < 4 → a' (184 + 4 * p + f) = a (184 + 4 * p + f)) (hn : c (19 + w) = nI 5 → w ≠ z → rb_cn (fun y => decide (c' (243 + y) = nI w)) 28 = rb_cn (fun y => decide (c (243 + y) = nI w)) 28) (h : rO z c a w) : rO z c' a' w := by
  have c0 : c' (19 + w) = c (19 + w) := hc 0 (by omega)
  have c1 : c' (47 + w) = c (47 + w) := hc 1 (by omega)
  have c2 : c' (75 + w) = c (75 + w) := hc 2 (by omega)
  have c3 : c' (103 + w) = c (103 + w) := hc 3 (by omega)
  have c4 : c' (131 + w) = c (131 + w) := hc 4 (by omega)
  have c5 : c' (159 + w) = c (159 + w) := hc 5 (by omega)
  have c6 : c' (187 + w) = c (187 + w) := hc 6 (by omega)
  have c7 : c' (215 + w) = c (215 + w) := hc 7 (by omega)
  have c8 : c' (243 + w) = c (243 + w) := hc 8 (by omega)
  have a1 := ha 1 (by omega) (by omega)
  have a2 := ha 2 (by omega) (by omega)
  have a3 := ha 3 (by omega) (by omega)
  unfold rO
  rw [c0, c1, c2, c3, c4, c5, c6, c7, c8, a1, a2, a3]
  rcases h with h | ⟨e, p, r, b, h0, h1, h2, h3, h4, h5, h6, h7, h8, h9, h10⟩ | ⟨b, h⟩ | ⟨b, h⟩ | h | ⟨k, r, h1, h2, h3, h4, h5, h6, h7, h8, h9, h10, h11⟩
  · exact Or.inl h
  · have hq := hp p e h2 h0 h1 h3
    have q0 : a' (184 + 4 * p) = a (184 + 4 * p) := hq 0 (by omega)
    refine Or.inr (Or.inl ⟨e, p, r, b, h0, h1, h2, h3, ?_, ?_, ?_, h7, ?_, h9, h10⟩)
    · rw [hq (2 + e) (by omega)]; exact h4
    · rw [hq (3 - e) (by omega)]; exact h5
    · rw [hq 1 (by omega)]; exact h6
    · rw [q0]; exact h8
  · exact Or.inr (Or.inr (Or.inl ⟨b, h⟩))
  · exact Or.inr (Or.inr (Or.inr (Or.inl ⟨b, h⟩)))
  · exact Or.inr (Or.inr (Or.inr (Or.inr (Or.inl h))))
  · refine Or.inr (Or.inr (Or.inr (Or.inr (Or.inr ⟨k, r, h1, h2, h3, h4, h5, h6, h7, h8, h9, h10, fun hz => ?_⟩))))
    rw [hn h1 hz]
    exact h11 hz
/-- data alone have changed -/
theorem rH_data {z s s' : Nat} {c a c' a' : rb_Row} (h : rH z s s' c a) (hn : ∀ k, k < 16 → c' (3 + k) = c (3 + k) ∧ a' k = a k) (hk : ∀ x, x < 28 → c' (19 + x) = c (19 + x) ∧ a' (16 + 6 * x) = a (16 + 6 * x)) (hw : ∀ x, x < 28 → c' (243 + x) = c (243 + x) ∧ c' (271 + x) = c (271 + x) ∧ a' (16 + 6 * x + 4) = a (16 + 6 * x + 4) ∧ a' (16 + 6 * x + 5) = a (16 + 6 * x + 5)) (hp : ∀ p, p < 28 → a' (184 + 4 * p + 2) = a (184 + 4 * p + 2) ∧ a' (184 + 4 * p + 3) = a (184 + 4 * p + 3)) (hv : ∀ y e, y < 28 → e < 2 → c (19 + y) = nI e → a' (16 + 6 * y + 1) = a (16 + 6 * y + 1)) (hO : ∀ x, x < 28 → rO z c' a' x) : rH z s s' c' a' := by
  obtain ⟨h1, h2, h3, h4, h5, h6, h7⟩ := h
  have hlv : ∀ x, x < 28 → (rb_live c' x ↔ rb_live c x) := fun x hx => by unfold rb_live; rw [(hk x hx).1]
  refine ⟨?_, ?_, ?_, ?_, ?_, ?_, ?_⟩
  · intro k hk'
    rw [(hn k hk').1, (hn k hk').2]
    obtain ⟨p1, p2, p3⟩ := h1 k hk'
    refine ⟨p1, p2, ?_⟩
    rcases p3 with p3 | ⟨x, p4, p5, p6, p7⟩
    · exact Or.inl p3
    · exact Or.inr ⟨x, p4, p5, (hlv x p4).mpr p6, by rw [(hw x p4).1]; exact p7⟩
  · intro x hx
    rw [(hk x hx).1, (hk x hx).2]
    exact ⟨(h2 x hx).1, hO x hx⟩
  · intro x hx hz hl he
    rw [(hw x hx).1] at he
    obtain ⟨g, g1, g2⟩ := h3 x hx hz ((hlv x hx).mp hl) he
    exact ⟨g, g1, by rw [(hn g g1).1]; exact g2⟩
  · intro p e hp' he
    have he' : e = 0 ∨ e = 1 := by omega
    have eq : a' (184 + 4 * p + (2 + e)) = a (184 + 4 * p + (2 + e)) := by
      rcases he' with r | r <;> subst r
      · exact (hp p hp').1
      · exact (hp p hp').2
    rw [eq]
    rcases h4 p e hp' he with g | ⟨y, g1, g2, g3, g4⟩
    · exact Or.inl g
    · exact Or.inr ⟨y, g1, g2, by rw [(hk y g1).1]; exact g3, by rw [hv y e g1 he g3]; exact g4⟩
  · intro x hx
    obtain ⟨w1, w2, w3, w4⟩ := hw x hx
    rw [w1, w2, w3, w4, (hk x hx).1]
    rcases h5 x hx with ⟨g1, g2⟩ | ⟨l, u, v, g1, g2, g3, g4, g5, g6, g7, g8⟩
    · exact Or.inl ⟨g1, fun hl => g2 ((hlv x hx).mp hl)⟩
    · exact Or.inr ⟨l, u, v, g1, g2, g3, g4, g5, g6, by rw [(hk l g1).1]; exact g7, g8⟩
  · intro x y hx hy
    rw [(hw x hx).1, (hw y hy).1, (hw x hx).2.1, (hw y hy).2.1, (hw x hx).2.2.2, (hw y hy).2.2.2]
    exact h6 x y hx hy
  · rw [rb_cn_congr (q := fun y => !decide (c (243 + y) = mI)) (fun i hi => by rw [(hw i hi).1])]
    exact h7
/-- objects alone have changed, and none that is named is gone -/
theorem rR_obj {z z' W q n : Nat} {π : Nat → Nat} {s s' t t' : Nat} {c a c' a' : rb_Row} (h : rR z W q n π s s' c a) (hs : s ≤ t) (hs' : s' ≤ t') (e1 : c' 1 = nI t) (e2 : a' 795 = nI t') (e3 : t ≤ t') (e4 : t' ≤ t + q) (hc : ∀ k, (k = 0 ∨ k = 2 ∨ 299 ≤ k) → c' k = c k) (ha : ∀ k, 296 ≤ k → k ≠ 795 → a' k = a k) (hk : ∀ x, x < 28 → rb_live c x → c' (19 + x) = c (19 + x)) (hn : ∀ k, k < 16 → c (3 + k) ≠ mI → c' (3 + k) = c (3 + k)) (hH : rH z' t t' c' a') : rR z' W q n π t t' c' a' := by
  obtain ⟨⟨q1, q2, q3, q4, q5, q6, q7, q8⟩, _, hI, hL, hT⟩ := h
  have hnm : ∀ k x, k < 16 → x < 28 → c (3 + k) = nI x → c' (3 + k) = nI x := fun k x hk hx e => by
    rw [hn k hk (by rw [e]; exact rb_nmm (by omega))]; exact e
  refine ⟨⟨?_, ?_, e1, e2, e3, e4, ?_, q8⟩, hH, ?_, ?_, ?_⟩
  · rw [hc 0 (by omega), ha 794 (by omega) (by omega)]; exact q1
  · rw [hc 0 (by omega)]; exact q2
  · rw [hc 2 (by omega)]; exact q7
  · obtain ⟨h1, h2, h3, h4, h5, h6, h7, h8⟩ := hI
    have hc1 : ∀ k, 299 ≤ k → c' k = c k := fun k p => hc k (by omega)
    have ha1 : ∀ u f, u < 24 → f < 11 → a' (296 + 11 * u + f) = a (296 + 11 * u + f) := fun u f hu hf => ha _ (by omega) (by omega)
    have ha0 : ∀ u, u < 24 → a' (296 + 11 * u) = a (296 + 11 * u) := fun u hu => ha _ (by omega) (by omega)
    refine ⟨?_, ?_, ?_, ?_, ?_, ?_, ?_, ?_⟩
    · intro i hi
      have := (h1 i hi).1
      simp (disch := omega) only [hc1, ha1, ha0]
      exact h1 i hi
    · intro i hi
      obtain ⟨x, p1, p2, p3, g, p4, p5⟩ := h2 i hi
      exact ⟨x, p1, by simp (disch := omega) only [hc1]; exact p2, by rw [hk x p1 ⟨4, by omega, p3⟩]; exact p3, g, p4, hnm g x p4 p1 p5⟩
    · intro i hi
      obtain ⟨x, p1, p2, p3, g, p4, p5⟩ := h3 i hi
      obtain ⟨k, p6, p7⟩ := id p3
      exact ⟨x, p1, by simp (disch := omega) only [hc1]; exact p2, ⟨k, p6, by rw [hk x p1 p3]; exact p7⟩, g, p4, hnm g x p4 p1 p5⟩
    · intro i hi
      have := (h1 i hi).1
      obtain ⟨p1, p2, p3, p4, v, p5, p6, p7⟩ := h4 i hi
      simp (disch := omega) only [hc1, ha1, ha0]
      exact ⟨p1, p2, p3, p4, v, p5, by omega, p7⟩
    · intro i j hi hj
      have := (h1 i (by omega)).1
      have := (h1 j hj).1
      simp (disch := omega) only [ha1]
      exact h5 i j hi hj
    · intro u hu hne
      simp (disch := omega) only [ha0]
      exact h6 u hu hne
    · intro i j k x hi hj hk' g1 g2 hx g3
      simp (disch := omega) only [hc1] at g1 g2 g3
      obtain ⟨x', p1, p2, p3, _⟩ := h3 k hk'
      have : x' = x := by
        rw [g3] at p2
        exact ((nI_eq (by omega) (by omega)).mp p2).symm
      subst this
      rw [hk x' hx p3]
      exact h7 i j k x' hi hj hk' g1 g2 hx g3
    · intro i j hi hj
      simp (disch := omega) only [hc1]
      exact h8 i j hi hj
  · exact rL_frame q8 (fun i hi => (hI.1 i hi).1) hL hs hs' (fun k hk hk' => hc k (by omega)) (fun u f hu hf hf' => ha _ (by omega) (by omega))
  · obtain ⟨h1, h2, h3, h4, h5, h6⟩ := hT
    have hc1 : ∀ k, 299 ≤ k → c' k = c k := fun k p => hc k (by omega)
    have ha1 : ∀ k, 560 ≤ k → k < 794 → a' k = a k := fun k p1 p2 => ha k (by omega) (by omega)
    refine ⟨?_, ?_, ?_, ?_, ?_, ?_⟩
    · intro u hu
      simp (disch := omega) only [hc1, ha1]
      exact h1 u hu
    · intro u hu
      simp (disch := omega) only [hc1]
      obtain ⟨p1, p2, p3, p4, ⟨w', p6, p7⟩⟩ := h2 u hu
      exact ⟨p1, p2, p3, p4, ⟨w', by omega, p7⟩⟩
    · intro u hu
      simp (disch := omega) only [hc1]
      rcases h3 u hu with p | ⟨⟨x, p1, p2, p3⟩, p4, p5, ⟨v, w, p6, p7, p8, p9, p10⟩, ⟨w', p11, p12⟩⟩
      · exact Or.inl p
      · refine Or.inr ⟨⟨x, p1, p2, by rw [hk x p1 ⟨4, by omega, p3⟩]; exact p3⟩, p4, p5, ⟨v, w, by omega, p7, by omega, p9, ?_⟩, ⟨w', by omega, p12⟩⟩
        simp (disch := omega) only [ha1]; exact p10
    · intro u v hu hv
      simp (disch := omega) only [hc1, ha1]
      exact h4 u v hu hv
    · intro u k hu hk
      simp (disch := omega) only [hc1, ha1]
      exact h5 u k hu hk
    · intro u k l hu hk hl
      simp (disch := omega) only [hc1, ha1]
      exact h6 u k l hu hk hl
theorem rR_data {z W q n : Nat} {π : Nat → Nat} {s s' : Nat} {c a c' a' : rb_Row} (h : rR z W q n π s s' c a) (hc : ∀ k, (k < 47 ∨ 243 ≤ k) → c' k = c k) (ha : ∀ k, (k < 16 ∨ 296 ≤ k) → a' k = a k) (ha2 : ∀ x, x < 28 → a' (16 + 6 * x) = a (16 + 6 * x) ∧ a' (16 + 6 * x + 4) = a (16 + 6 * x + 4) ∧ a' (16 + 6 * x + 5) = a (16 + 6 * x + 5)) (hp : ∀ p, p < 28 → a' (184 + 4 * p + 2) = a (184 + 4 * p + 2) ∧ a' (184 + 4 * p + 3) = a (184 + 4 * p + 3)) (hv : ∀ y e, y < 28 → e < 2 → c (19 + y) = nI e → a' (16 + 6 * y + 1) = a (16 + 6 * y + 1)) (hO : ∀ x, x < 28 → rO z c' a' x) : rR z W q n π s s' c' a' := by
  refine rR_obj h (Nat.le_refl _) (Nat.le_refl _) (by rw [hc 1 (by omega)]; exact h.1.2.2.1) (by rw [ha 795 (by omega)]; exact h.1.2.2.2.1) h.1.2.2.2.2.1 h.1.2.2.2.2.2.1 (fun k hk => hc k (by omega)) (fun k hk _ => ha k (by omega)) (fun x hx _ => hc _ (by omega)) (fun k hk _ => hc _ (by omega)) ?_
  refine rH_data h.2.1 (fun k hk => ⟨hc _ (by omega), ha _ (by omega)⟩) (fun x hx => ⟨hc _ (by omega), (ha2 x hx).1⟩) (fun x hx => ⟨hc _ (by omega), hc _ (by omega), (ha2 x hx).2⟩) hp hv hO
/-- a counter's or a timer's value -/
theorem rp_val {z W q n : Nat} {π : Nat → Nat} {s s' : Nat} {c a : rb_Row} (h : rR z W q n π s s' c a) {x b : Nat} (hx : x < 28) (hk : c (19 + x) = nI 2 ∨ c (19 + x) = nI 3) (hb : b ≤ 1000) : rR z W q n π s s' (upd c (47 + x) (nI b)) (upd a (16 + 6 * x + 1) (nI b)) := by
  refine rR_data h (fun k hk => by simp (disch := omega) only [rb_upn]) (fun k hk => by simp (disch := omega) only [rb_upn]) (fun y hy => by simp (disch := omega) only [rb_upn]; exact ⟨trivial, trivial, trivial⟩) (fun p hp => by simp (disch := omega) only [rb_upn]; exact ⟨trivial, trivial⟩) (fun y e hy he ey => ?_) (fun w hw => ?_)
  · have : y ≠ x := fun g => by
      subst g
      rw [ey] at hk
      rcases hk with hk | hk
      · have := (nI_eq (by omega) (by omega)).mp hk; omega
      · have := (nI_eq (by omega) (by omega)).mp hk; omega
    simp (disch := omega) only [rb_upn]
  · by_cases e : w = x
    · subst e
      rcases (h.2.1.2.1 w hw).2 with g | ⟨e, p, r, b, g0, g1, _⟩ | ⟨b', g1, g2, g3, g4, g5⟩ | ⟨b', g1, g2, g3, g4, g5⟩ | g | ⟨k, r, g1, g⟩
      · rw [g.1] at hk
        rcases hk with hk | hk <;> exact absurd hk.symm (rb_nmm (by omega))
      · rw [g1] at hk
        rcases hk with hk | hk
        · have := (nI_eq (by omega) (by omega)).mp hk; omega
        · have := (nI_eq (by omega) (by omega)).mp hk; omega
      · refine Or.inr (Or.inr (Or.inl ⟨b, hb, ?_⟩))
        simp (disch := omega) only [rb_upn, rb_upe]
        exact ⟨g2, trivial, trivial, g5⟩
      · refine Or.inr (Or.inr (Or.inr (Or.inl ⟨b, hb, ?_⟩)))
        simp (disch := omega) only [rb_upn, rb_upe]
        exact ⟨g2, trivial, trivial, g5⟩
      · rw [g.1] at hk
        rcases hk with hk | hk <;> (have := (nI_eq (by omega) (by omega)).mp hk; omega)
      · rw [g1] at hk
        rcases hk with hk | hk <;> (have := (nI_eq (by omega) (by omega)).mp hk; omega)
    · refine rO_keep hw (fun j hj => ?_) (fun f h1 h2 => ?_) (fun p e hp he h1 h2 f hf => ?_) (fun _ _ => ?_) (h.2.1.2.1 w hw).2
      · simp (disch := omega) only [rb_upn]
      · simp (disch := omega) only [rb_upn]
      · simp (disch := omega) only [rb_upn]
      · exact rb_cn_congr (fun y hy => by simp (disch := omega) only [rb_upn])
