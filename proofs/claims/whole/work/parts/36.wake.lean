/-- two loops side by side; the second may take one step more -/
theorem rb_lpk {σ τ ρ σ' τ' ρ' α α' : Type} {body : σ → Option (σ ⊕ ρ)} {body' : σ' → Option (σ' ⊕ ρ')} {N N' : Nat} {s0 : σ} {s0' : σ'} {f : ρ → Option α} {f' : ρ' → Option α'} {T : α → α' → Prop} (st : Nat → τ → σ) (st' : Nat → τ' → σ') (h : Nat) (P : Nat → τ → τ' → Prop) (Q : ρ → ρ' → Prop) (s : τ) (s' : τ') (hs0 : st 0 s = s0) (hs0' : st' 0 s' = s0') (h0 : P 0 s s') (hN : h < N) (hN' : h < N') (hstep : ∀ j s s', j < h → P j s s' → (∃ u u', body (st j s) = some (.inl (st (j + 1) u)) ∧ body' (st' j s') = some (.inl (st' (j + 1) u')) ∧ P (j + 1) u u') ∨ (∃ r r', body (st j s) = some (.inr r) ∧ body' (st' j s') = some (.inr r') ∧ Q r r') ∨ (∃ r v r', body (st j s) = some (.inr r) ∧ body' (st' j s') = some (.inl v) ∧ body' v = some (.inr r') ∧ Q r r')) (hend : ∀ s s', P h s s' → ∃ r r', body (st h s) = some (.inr r) ∧ body' (st' h s') = some (.inr r') ∧ Q r r') (hf : ∀ r r', Q r r' → ∃ o o', f r = some o ∧ f' r' = some o' ∧ T o o') : ∃ o o', (rb_lp body N s0).bind f = some o ∧ (rb_lp body' N' s0').bind f' = some o' ∧ T o o' := by
  have key : ∀ (d j : Nat) (s : τ) (s' : τ'), j + d = h → P j s s' → ∀ N N', d < N → d < N' → ∃ r r', rb_lp body N (st j s) = some r ∧ rb_lp body' N' (st' j s') = some r' ∧ Q r r' := by
    intro d
    induction d with
    | zero =>
      intro j s s' hj hp N N' hN hN'
      have e : j = h := by omega
      subst e
      obtain ⟨r, r', h1, h1', h2⟩ := hend s s' hp
      obtain ⟨M, rfl⟩ : ∃ k, N = k + 1 := ⟨N - 1, by omega⟩
      obtain ⟨M', rfl⟩ : ∃ k, N' = k + 1 := ⟨N' - 1, by omega⟩
      refine ⟨r, r', ?_, ?_, h2⟩
      · show (body (st j s)).bind _ = _
        rw [h1]
        rfl
      · show (body' (st' j s')).bind _ = _
        rw [h1']
        rfl
    | succ d ih =>
      intro j s s' hj hp N N' hN hN'
      obtain ⟨M, rfl⟩ : ∃ k, N = k + 1 := ⟨N - 1, by omega⟩
      obtain ⟨M', rfl⟩ : ∃ k, N' = k + 1 := ⟨N' - 1, by omega⟩
      rcases hstep j s s' (by omega) hp with ⟨u, u', h1, h1', h2⟩ | ⟨r, r', h1, h1', h2⟩ | ⟨r, v, r', h1, h1', h1'', h2⟩
      · obtain ⟨r, r', h3, h3', h4⟩ := ih (j + 1) u u' (by omega) h2 M M' (by omega) (by omega)
        refine ⟨r, r', ?_, ?_, h4⟩
        · show (body (st j s)).bind _ = _
          rw [h1]
          exact h3
        · show (body' (st' j s')).bind _ = _
          rw [h1']
          exact h3'
      · refine ⟨r, r', ?_, ?_, h2⟩
        · show (body (st j s)).bind _ = _
          rw [h1]
          rfl
        · show (body' (st' j s')).bind _ = _
          rw [h1']
          rfl
      · refine ⟨r, r', ?_, ?_, h2⟩
        · show (body (st j s)).bind _ = _
          rw [h1]
          rfl
        · show (body' (st' j s')).bind _ = _
          rw [h1']
          obtain ⟨M'', rfl⟩ : ∃ k, M' = k + 1 := ⟨M' - 1, by omega⟩
          show (body' v).bind _ = _
          rw [h1'']
          rfl
  obtain ⟨r, r', h1, h1', h2⟩ := key h 0 s s' (by omega) h0 N N' hN hN'
  rw [hs0] at h1
  rw [hs0'] at h1'
  rw [h1, h1']
  exact hf r r' h2
/-- who was fed, at which sets some were woken, since a row -/
def rb_G (c0 c : rb_Row) : Prop := ∀ t, t < 6 → (c (539 + t) = c0 (539 + t) ∧ c (569 + t) = c0 (569 + t)) ∨ (c0 (539 + t) ≠ mI ∧ c (539 + t) = mI ∧ ∃ k, k ≤ 8 ∧ c (569 + t) = c0 (569 + t) + nI k)
def rb_GT (c0 c : rb_Row) : Prop := ∀ t, t < 6 → ∃ k, k ≤ 8 ∧ c (569 + t) = c0 (569 + t) + nI k
theorem rb_ad0 (v : Int32) : v + nI 0 = v := by rw [show nI 0 = (0 : Int32) from rfl, Int32.add_zero]
theorem rb_G_same {c0 c : rb_Row} (h : ∀ t, t < 48 → c (539 + t) = c0 (539 + t)) : rb_G c0 c := fun t ht => Or.inl ⟨h t (by omega), by have := h (30 + t) (by omega); rwa [show 539 + (30 + t) = 569 + t by omega] at this⟩
theorem rb_G_trans {c0 c1 c2 : rb_Row} (h1 : rb_G c0 c1) (h2 : rb_G c1 c2) : rb_G c0 c2 := fun t ht => by
  rcases h1 t ht with ⟨a1, a2⟩ | ⟨a1, a2, k, a3, a4⟩
  · rcases h2 t ht with ⟨b1, b2⟩ | ⟨b1, b2, k', b3, b4⟩
    · exact Or.inl ⟨b1.trans a1, b2.trans a2⟩
    · exact Or.inr ⟨fun e => b1 (a1.trans e), b2, k', b3, by rw [b4, a2]⟩
  · rcases h2 t ht with ⟨b1, b2⟩ | ⟨b1, b2, k', b3, b4⟩
    · exact Or.inr ⟨a1, b1.trans a2, k, a3, b2.trans a4⟩
    · exact absurd a2 b1
theorem rb_GT_G {c0 c : rb_Row} (h : rb_G c0 c) : rb_GT c0 c := fun t ht => by
  rcases h t ht with ⟨_, a2⟩ | ⟨_, _, k, a3, a4⟩
  · exact ⟨0, by omega, by rw [a2, rb_ad0]⟩
  · exact ⟨k, a3, a4⟩
theorem rb_GT_same {c0 c : rb_Row} (h : ∀ t, t < 6 → c (569 + t) = c0 (569 + t)) : rb_GT c0 c := fun t ht => ⟨0, by omega, by rw [h t ht, rb_ad0]⟩
theorem rb_GT_base {c0 c1 c : rb_Row} (h : rb_GT c1 c) (h1 : ∀ t, t < 6 → c1 (569 + t) = c0 (569 + t)) : rb_GT c0 c := fun t ht => by
  obtain ⟨k, k1, k2⟩ := h t ht
  exact ⟨k, k1, by rw [k2, h1 t ht]⟩
def rb_FED (cb c f : rb_Row) : Prop := rb_G cb c ∧ (∀ t, t < 6 → (cb (575 + t)).toInt ≤ (c (575 + t)).toInt) ∧ f 7 = cb 5000 ||| rb_mk (fun t => decide ((cb (575 + t)).toInt < (c (575 + t)).toInt)) 6
def rb_sm (c : rb_Row) (t : Nat) : Int := (c (575 + t)).toInt + (c (581 + t)).toInt
def rb_WOK (cb c f : rb_Row) : Prop := (∀ t, t < 6 → c (539 + t) = mI ∨ cb (539 + t) = c (539 + t)) ∧ (∀ t, t < 6 → rb_sm cb t ≤ rb_sm c t) ∧ f 6 = rb_mk (fun x => (rb_fd (fun t => decide (cb (539 + t) = nI x) && decide (rb_sm cb t < rb_sm c t)) 6).isSome) 28
theorem rb_FED_gen {cb c c' f f' : rb_Row} (hG : rb_G c c') (h : ∀ t, t < 6 → c' (575 + t) = c (575 + t)) (hf : f' 7 = f 7) (hh : rb_FED cb c f) : rb_FED cb c' f' := by
  obtain ⟨h0, h1, h2⟩ := hh
  refine ⟨rb_G_trans h0 hG, fun t ht => by rw [h t ht]; exact h1 t ht, ?_⟩
  rw [hf, h2]
  congr 1
  exact rb_mk_congr (fun t ht => by rw [h t ht])
theorem rb_FED_same {cb c c' f f' : rb_Row} (h : ∀ t, t < 48 → c' (539 + t) = c (539 + t)) (hf : f' 7 = f 7) (hh : rb_FED cb c f) : rb_FED cb c' f' := rb_FED_gen (rb_G_same h) (fun t ht => by have := h (36 + t) (by omega); rwa [show 539 + (36 + t) = 575 + t by omega] at this) hf hh
theorem rb_mk_zero0 {P : Nat → Bool} {n : Nat} (h : ∀ i, i < n → P i = false) : rb_mk P n = nI 0 := by
  induction n with
  | zero => rfl
  | succ n ih =>
    show (bif P n then _ else _) = _
    rw [h n (by omega)]
    exact ih (fun i hi => h i (by omega))
theorem rb_G_of {c f c' f' : rb_Row} (h : ∀ cb, rb_FED cb c f → rb_FED cb c' f') : rb_G c c' := by
  have hb : rb_FED (upd c 5000 (f 7)) c f := by
    refine ⟨fun t ht => Or.inl ⟨(rb_upn (by omega)).symm, (rb_upn (by omega)).symm⟩, fun t ht => by rw [rb_upn (by omega)]; exact Int.le_refl _, ?_⟩
    rw [rb_mk_zero0 (fun i hi => by rw [rb_upn (by omega)]; simp), rb_upe rfl]
    exact (Int32.or_zero).symm
  have hg := (h _ hb).1
  intro t ht
  rcases hg t ht with ⟨a1, a2⟩ | ⟨a1, a2, k, a3, a4⟩
  · rw [rb_upn (by omega)] at a1 a2
    exact Or.inl ⟨a1, a2⟩
  · rw [rb_upn (by omega)] at a1 a4
    exact Or.inr ⟨a1, a2, k, a3, a4⟩
theorem rb_WOK_same {cb c c' f f' : rb_Row} (h0 : ∀ t, t < 6 → c' (539 + t) = mI ∨ c' (539 + t) = c (539 + t)) (h : ∀ t, t < 6 → c' (575 + t) = c (575 + t) ∧ c' (581 + t) = c (581 + t)) (hf : f' 6 = f 6) (hh : rb_WOK cb c f) : rb_WOK cb c' f' := by
  obtain ⟨h1, h2, h3⟩ := hh
  have hs : ∀ t, t < 6 → rb_sm c' t = rb_sm c t := fun t ht => by unfold rb_sm; rw [(h t ht).1, (h t ht).2]
  refine ⟨fun t ht => ?_, fun t ht => by rw [hs t ht]; exact h2 t ht, ?_⟩
  · rcases h0 t ht with g | g
    · exact Or.inl g
    · rw [g]; exact h1 t ht
  · rw [hf, h3]
    refine rb_mk_congr (fun x hx => ?_)
    rw [rb_fd_congr (p := fun t => decide (cb (539 + t) = nI x) && decide (rb_sm cb t < rb_sm c t)) (q := fun t => decide (cb (539 + t) = nI x) && decide (rb_sm cb t < rb_sm c' t)) (fun t ht => by rw [hs t ht])]
/-- one task more: fed (d = 575) or in vain (d = 581) -/
theorem rb_FED_one {cb c c' f f' : rb_Row} {t w : Nat} (hG : rb_G c c') (ht : t < 6) (hw : w < 2000000000) (e : c (575 + t) = nI w) (e' : c' (575 + t) = nI (w + 1)) (h : ∀ u, u < 6 → u ≠ t → c' (575 + u) = c (575 + u)) (hf : f' 7 = f 7 ||| rb_b t) (hh : rb_FED cb c f) : rb_FED cb c' f' := by
  obtain ⟨h0, h1, h2⟩ := hh
  have hi : (c (575 + t)).toInt = w := by rw [e]; exact nI_toInt (by omega)
  have hi' : (c' (575 + t)).toInt = w + 1 := by rw [e']; exact nI_toInt (by omega)
  refine ⟨rb_G_trans h0 hG, fun u hu => ?_, ?_⟩
  · by_cases g : u = t
    · subst g
      have := h1 u hu
      omega
    · rw [h u hu g]; exact h1 u hu
  · rw [hf, h2, Int32.or_assoc]
    congr 1
    refine (rb_mk_or1 ht (fun u hu => ?_)).symm
    by_cases g : u = t
    · subst g
      have := h1 u hu
      have : (cb (575 + u)).toInt < (c' (575 + u)).toInt := by omega
      simp [this]
    · rw [h u hu g]; simp [g]
theorem rb_WOK_one {cb c c' f f' : rb_Row} {t x : Nat} (ht : t < 6) (hx : x < 28) (e0 : c (539 + t) = nI x) (e0' : ∀ u, u < 6 → c' (539 + u) = mI ∨ c' (539 + u) = c (539 + u)) (e : rb_sm c' t = rb_sm c t + 1) (h : ∀ u, u < 6 → u ≠ t → rb_sm c' u = rb_sm c u) (hf : f' 6 = f 6 ||| rb_b x) (hh : rb_WOK cb c f) : rb_WOK cb c' f' := by
  obtain ⟨h1, h2, h3⟩ := hh
  have ecb : cb (539 + t) = nI x := by
    rcases h1 t ht with g | g
    · rw [e0] at g; exact absurd g (rb_nmm (by omega))
    · rw [g]; exact e0
  refine ⟨fun u hu => ?_, fun u hu => ?_, ?_⟩
  · rcases e0' u hu with g | g
    · exact Or.inl g
    · rw [g]; exact h1 u hu
  · by_cases g : u = t
    · subst g; have := h2 u hu; omega
    · rw [h u hu g]; exact h2 u hu
  · rw [hf, h3]
    refine (rb_mk_or1 hx (fun y hy => ?_)).symm
    by_cases g : y = x
    · subst g
      have : (rb_fd (fun t => decide (cb (539 + t) = nI y) && decide (rb_sm cb t < rb_sm c' t)) 6).isSome = true := rb_fd_iff.mpr ⟨t, ht, by
        have := h2 t ht
        have h4 : rb_sm cb t < rb_sm c' t := by omega
        simp [ecb, h4]⟩
      rw [this]; simp
    · rw [rb_fd_congr (q := fun t => decide (cb (539 + t) = nI y) && decide (rb_sm cb t < rb_sm c t))]
      · simp [g]
      · intro u hu
        by_cases g' : u = t
        · subst g'
          have : ¬ cb (539 + u) = nI y := by
            rw [ecb]
            intro e
            exact g ((nI_eq (by omega) (by omega)).mp e).symm
          simp [this]
        · rw [h u hu g']
theorem rb_nzb {b : Nat} (h : b ≤ 1) : rb_nz (nI b) = nI b := by
  have : b = 0 ∨ b = 1 := by omega
  rcases this with e | e <;> subst e <;> decide
/-- what a waking leaves -/
def rb_WQ (z W q n : Nat) (π : Nat → Nat) (s s' : Nat) (c0 a0 mf0 f0 : rb_Row) (m b : Nat) (c f a mf : rb_Row) : Prop :=
  b ≤ 1 ∧ ∃ t t', rR z W q n π t t' c a ∧ rF c0 c ∧ rG a0 a ∧ t + 8 * rb_asl c ≤ s + 8 * rb_asl c0 ∧ s ≤ t ∧ t' ≤ s' + m ∧ (∀ k, k ≠ 3 → mf k = mf0 k) ∧ f 5 = f0 5 ∧ (∀ cb, rb_FED cb c0 f0 → rb_FED cb c f) ∧ (∀ cb, rb_WOK cb c0 f0 → rb_WOK cb c f)
theorem rT_mono {s s' W W' : Nat} {c a : rb_Row} (h : rT s s' W c a) (hW : W ≤ W') : rT s s' W' c a := rT_frame h (Nat.le_refl _) (Nat.le_refl _) hW (fun _ _ _ => rfl) (fun _ _ => rfl) (fun _ _ _ => rfl)
theorem rR_mono {z W W' q n : Nat} {π : Nat → Nat} {s s' : Nat} {c a : rb_Row} (h : rR z W q n π s s' c a) (hW : W ≤ W') : rR z W' q n π s s' c a := ⟨h.1, h.2.1, h.2.2.1, h.2.2.2.1, rT_mono h.2.2.2.2 hW⟩
theorem rb_WQ_mono {z W W' q n : Nat} {π : Nat → Nat} {s s' : Nat} {c0 a0 mf0 f0 : rb_Row} {m m' b : Nat} {c f a mf : rb_Row} (h : rb_WQ z W q n π s s' c0 a0 mf0 f0 m b c f a mf) (hW : W ≤ W') (hm : m ≤ m') : rb_WQ z W' q n π s s' c0 a0 mf0 f0 m' b c f a mf := by
  obtain ⟨h1, t, t', h2, h3, h4, h5, h6, h7, h8⟩ := h
  exact ⟨h1, t, t', rR_mono h2 hW, h3, h4, h5, h6, by omega, h8⟩
