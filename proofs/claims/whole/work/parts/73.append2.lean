set_option maxHeartbeats 8000000 in
/-- a new interest, not yet told -/
theorem rp_append {W q n : Nat} {π : Nat → Nat} {s s' : Nat} {c a c2 a2 : rb_Row} (h : rR 28 W q n π s s' c a) (hn : n < 24) (hs : s' + 1 < 2000000000) {x y hh m w t : Nat} (hx : x < 28) (hx4 : c (19 + x) = nI 4) (hxh : ∃ k, k < 16 ∧ c (3 + k) = nI x) (hy : y < 28) (hyl : rb_live c y) (hyh : ∃ k, k < 16 ∧ c (3 + k) = nI y) (hxy : x ≠ y) (hhh : hh < 16) (hm : m < 4) (hw : w < 8) (ht : t < 24) (hfree : ∀ i, i < n → π i ≠ t)
    (hnew : ∀ i, i < n → c (299 + i) = nI x → c (347 + i) = nI hh → c (323 + i) = nI y → False)
    (h7 : ∀ i j k z, i < n + 1 → j < n + 1 → k < n + 1 → c2 (323 + i) = c2 (299 + j) → c2 (323 + j) = c2 (299 + k) → z < 28 → c2 (323 + k) = nI z → c2 (19 + z) ≠ nI 4)
    (hc : ∀ k, k ≠ 2 → (∀ u, u < 10 → k ≠ 299 + 24 * u + n) → c2 k = c k) (e2 : c2 2 = nI (n + 1)) (e299 : c2 (299 + n) = nI x) (e323 : c2 (323 + n) = nI y) (e347 : c2 (347 + n) = nI hh) (e371 : c2 (371 + n) = nI m) (e395 : c2 (395 + n) = nI w) (e419 : c2 (419 + n) = nI 0) (e443 : c2 (443 + n) = mI) (e467 : c2 (467 + n) = nI 0) (e491 : c2 (491 + n) = nI 0) (e515 : c2 (515 + n) = nI 0)
    (ha : ∀ k, k ≠ 795 → (k < 296 + 11 * t ∨ 296 + 11 * t + 11 ≤ k) → a2 k = a k) (a795 : a2 795 = nI (s' + 1)) (f0 : a2 (296 + 11 * t) = nI x) (f1 : a2 (296 + 11 * t + 1) = nI y) (f2 : a2 (296 + 11 * t + 2) = nI hh) (f3 : a2 (296 + 11 * t + 3) = nI m) (f4 : a2 (296 + 11 * t + 4) = nI w) (f5 : a2 (296 + 11 * t + 5) = nI 0) (f6 : a2 (296 + 11 * t + 6) = nI (s' + 1)) (f7 : a2 (296 + 11 * t + 7) = nI 0) (f8 : a2 (296 + 11 * t + 8) = nI 0) (f9 : a2 (296 + 11 * t + 9) = nI 0) :
    rR 28 W (q + 1) (n + 1) (fun i => if i < n then π i else t) s (s' + 1) c2 a2 := by
  obtain ⟨⟨p1, p2, p3, p4, p5, p6, p7, p8⟩, hH, hI, hL, hT⟩ := id h
  have hlow : ∀ k, 3 ≤ k → k < 299 → c2 k = c k := fun k h1 h2 => hc k (by omega) (fun u hu => by omega)
  have hhigh : ∀ k, 539 ≤ k → c2 k = c k := fun k h1 => hc k (by omega) (fun u hu => by omega)
  have hmid : ∀ u i, u < 10 → i < n → c2 (299 + 24 * u + i) = c (299 + 24 * u + i) := fun u i hu hi => hc _ (by omega) (fun v hv => by
    rcases Nat.lt_trichotomy u v with g | g | g <;> omega)
  have hsl : ∀ u f, u < 24 → f < 11 → u ≠ t → a2 (296 + 11 * u + f) = a (296 + 11 * u + f) := fun u f hu hf hne => ha _ (by omega) (by
    rcases Nat.lt_trichotomy u t with g | g | g <;> omega)
  have hsl0 : ∀ u, u < 24 → u ≠ t → a2 (296 + 11 * u) = a (296 + 11 * u) := fun u hu hne => hsl u 0 hu (by omega) hne
  have hlive : ∀ z, z < 28 → (rb_live c2 z ↔ rb_live c z) := fun z hz => by unfold rb_live; rw [hlow (19 + z) (by omega) (by omega)]
  have hpi : ∀ i, i < n → (fun i => if i < n then π i else t) i = π i := fun i hi => if_pos hi
  have hpn : (fun i => if i < n then π i else t) n = t := if_neg (by omega)
  generalize (fun i => if i < n then π i else t) = ρ at hpi hpn
  have last : ∀ i, i < n + 1 → i < n ∨ i = n := fun i hi => by omega
  refine ⟨⟨?_, ?_, ?_, a795, by omega, by omega, e2, by omega⟩, rH_frame hH (Nat.le_refl _) (by omega) hlow (fun k hk => ha k (by omega) (by omega)), ⟨?_, ?_, ?_, ?_, ?_, ?_, h7, ?_⟩, ⟨?_, ?_, ?_⟩, rT_frame hT (Nat.le_refl _) (by omega) (Nat.le_refl _) (fun k h1 _ => hhigh k h1) (fun z hz => hlow _ (by omega) (by omega)) (fun k h1 h2 => ha k (by omega) (by omega))⟩
  · rw [ha 794 (by omega) (by omega), hc 0 (by omega) (fun u hu => by omega)]; exact p1
  · rw [hc 0 (by omega) (fun u hu => by omega)]; exact p2
  · rw [hc 1 (by omega) (fun u hu => by omega)]; exact p3
  · intro i hi
    rcases last i hi with g | g
    · obtain ⟨g1, g2, g3, g4, g5, g6⟩ := hI.1 i g
      have hne := hfree i g
      rw [hpi i g, hsl0 _ g1 hne, hsl _ 1 g1 (by omega) hne, hsl _ 2 g1 (by omega) hne, hsl _ 3 g1 (by omega) hne, hsl _ 4 g1 (by omega) hne, hmid 0 i (by omega) g, hmid 1 i (by omega) g, hmid 2 i (by omega) g, hmid 3 i (by omega) g, hmid 4 i (by omega) g]
      exact ⟨g1, g2, g3, g4, g5, g6⟩
    · subst g
      rw [hpn, f0, f1, f2, f3, f4, e299, e323, e347, e371, e395]
      exact ⟨ht, rfl, rfl, rfl, rfl, rfl⟩
  · intro i hi
    rcases last i hi with g | g
    · obtain ⟨z, g1, g2, g3, k, g4, g5⟩ := hI.2.1 i g
      exact ⟨z, g1, (hmid 0 i (by omega) g).trans g2, (hlow _ (by omega) (by omega)).trans g3, k, g4, (hlow _ (by omega) (by omega)).trans g5⟩
    · subst g
      obtain ⟨k, g4, g5⟩ := hxh
      exact ⟨x, hx, e299, (hlow _ (by omega) (by omega)).trans hx4, k, g4, (hlow _ (by omega) (by omega)).trans g5⟩
  · intro i hi
    rcases last i hi with g | g
    · obtain ⟨z, g1, g2, g3, k, g4, g5⟩ := hI.2.2.1 i g
      exact ⟨z, g1, (hmid 1 i (by omega) g).trans g2, (hlive z g1).mpr g3, k, g4, (hlow _ (by omega) (by omega)).trans g5⟩
    · subst g
      obtain ⟨k, g4, g5⟩ := hyh
      exact ⟨y, hy, e323, (hlive y hy).mpr hyl, k, g4, (hlow _ (by omega) (by omega)).trans g5⟩
  · intro i hi
    rcases last i hi with g | g
    · obtain ⟨g1, g2, g3, g4, v, g5, g6, g7⟩ := hI.2.2.2.1 i g
      have l1 := hmid 0 i (by omega) g
      have l2 := hmid 1 i (by omega) g
      have l3 := hmid 2 i (by omega) g
      have l4 := hmid 3 i (by omega) g
      have l5 := hmid 4 i (by omega) g
      simp only [Nat.reduceMul, Nat.reduceAdd] at l1 l2 l3 l4 l5
      rw [l1, l2, l3, l4, l5, hpi i g, hsl _ 6 (hI.1 i g).1 (by omega) (hfree i g)]
      exact ⟨g1, g2, g3, g4, v, g5, by omega, g7⟩
    · subst g
      rw [e299, e323, e347, e371, e395, hpn, f6]
      exact ⟨fun e => hxy ((nI_eq (by omega) (by omega)).mp e), ⟨hh, hhh, rfl⟩, ⟨m, hm, rfl⟩, ⟨w, hw, rfl⟩, s' + 1, by omega, by omega, rfl⟩
  · intro i j hij hj
    have g : i < n := by omega
    rw [hpi i g, hsl _ 6 (hI.1 i g).1 (by omega) (hfree i g)]
    rcases last j hj with k | k
    · rw [hpi j k, hsl _ 6 (hI.1 j k).1 (by omega) (hfree j k)]
      exact hI.2.2.2.2.1 i j hij k
    · subst k
      obtain ⟨_, _, _, _, v, g5, g6, g7⟩ := hI.2.2.2.1 i g
      rw [hpn, f6, g7]
      have := (nI_ltI (a := v) (b := s' + 1) (by omega) (by omega)).mpr (by omega)
      exact Int32.lt_iff_toInt_lt.mp this
  · intro u hu hne
    have h1 : u ≠ t := fun e => hne n (by omega) (by rw [hpn, e])
    rw [hsl0 u hu h1]
    exact hI.2.2.2.2.2.1 u hu (fun i hi e => hne i (by omega) (by rw [hpi i hi, e]))
  · intro i j hi hj q1 q2 q3
    have lm : ∀ i, i < n → c2 (299 + i) = c (299 + i) ∧ c2 (347 + i) = c (347 + i) ∧ c2 (323 + i) = c (323 + i) := fun i hi => ⟨hmid 0 i (by omega) hi, hmid 2 i (by omega) hi, hmid 1 i (by omega) hi⟩
    rcases last i hi with g | g <;> rcases last j hj with k | k
    · obtain ⟨u1, u2, u3⟩ := lm i g
      obtain ⟨v1, v2, v3⟩ := lm j k
      rw [u1, v1] at q1; rw [u2, v2] at q2; rw [u3, v3] at q3
      exact hI.2.2.2.2.2.2.2 i j g k q1 q2 q3
    · subst k
      obtain ⟨u1, u2, u3⟩ := lm i g
      rw [u1, e299] at q1; rw [u2, e347] at q2; rw [u3, e323] at q3
      exact (hnew i g q1 q2 q3).elim
    · subst g
      obtain ⟨u1, u2, u3⟩ := lm j k
      rw [u1, e299] at q1; rw [u2, e347] at q2; rw [u3, e323] at q3
      exact (hnew j k q1.symm q2.symm q3.symm).elim
    · omega
  · intro i hi
    rcases last i hi with g | g
    · have l1 := hmid 5 i (by omega) g
      have l2 := hmid 7 i (by omega) g
      have l3 := hmid 8 i (by omega) g
      simp only [Nat.reduceMul, Nat.reduceAdd] at l1 l2 l3
      rw [l1, l2, l3, hpi i g, hsl _ 5 (hI.1 i g).1 (by omega) (hfree i g), hsl _ 8 (hI.1 i g).1 (by omega) (hfree i g), hsl _ 9 (hI.1 i g).1 (by omega) (hfree i g)]
      exact hL.1 i g
    · subst g
      rw [e419, e467, e491, hpn, f5, f8, f9]
      exact ⟨Or.inl rfl, rfl, rfl, rfl⟩
  · intro i hi
    rcases last i hi with g | g
    · have l1 := hmid 6 i (by omega) g
      have l2 := hmid 9 i (by omega) g
      simp only [Nat.reduceMul, Nat.reduceAdd] at l1 l2
      rw [l1, l2, hpi i g, hsl _ 7 (hI.1 i g).1 (by omega) (hfree i g), hsl _ 10 (hI.1 i g).1 (by omega) (hfree i g)]
      rcases hL.2.1 i g with k | ⟨u, v, k1, k2, k3, k4⟩
      · exact Or.inl k
      · exact Or.inr ⟨u, v, k1, k2, by omega, k4⟩
    · subst g
      rw [e443, e515, hpn, f7]
      exact Or.inl ⟨rfl, rfl, rfl⟩
  · intro i j hi hj q1 q2
    rcases last i hi with g | g
    · rcases last j hj with k | k
      · have l1 := hmid 6 i (by omega) g
        have l2 := hmid 6 j (by omega) k
        simp only [Nat.reduceMul, Nat.reduceAdd] at l1 l2
        rw [l1] at q1 ⊢
        rw [l2] at q2 ⊢
        rw [hpi i g, hpi j k, hsl _ 7 (hI.1 i g).1 (by omega) (hfree i g), hsl _ 7 (hI.1 j k).1 (by omega) (hfree j k)]
        exact hL.2.2 i j g k q1 q2
      · subst k; exact absurd e443 q2
    · subst g; exact absurd e443 q1
