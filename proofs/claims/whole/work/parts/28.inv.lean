theorem rb_cn_congr {p q : Nat → Bool} {n : Nat} (h : ∀ i, i < n → p i = q i) : rb_cn p n = rb_cn q n := by
  induction n with
  | zero => rfl
  | succ n ih =>
    simp only [rb_cn]
    rw [ih (fun i hi => h i (by omega)), h n (by omega)]
theorem rb_cn_zero {p : Nat → Bool} {n : Nat} (h : ∀ i, i < n → p i = false) : rb_cn p n = 0 := by
  induction n with
  | zero => rfl
  | succ n ih =>
    simp only [rb_cn]
    rw [ih (fun i hi => h i (by omega)), h n (by omega)]
    rfl
theorem rb_cn_mono {p q : Nat → Bool} {n : Nat} (h : ∀ i, i < n → p i = true → q i = true) : rb_cn p n ≤ rb_cn q n := by
  induction n with
  | zero => exact Nat.le_refl 0
  | succ n ih =>
    simp only [rb_cn]
    have a := ih (fun i hi => h i (by omega))
    have b := h n (by omega)
    cases hp : p n with
    | false => simp only [cond_false]; omega
    | true => rw [b hp]; simp only [cond_true]; omega
theorem rb_cn_drop {p q : Nat → Bool} {n k : Nat} (hk : k < n) (hp : p k = true) (hq : q k = false) (h : ∀ i, i < n → i ≠ k → p i = q i) : rb_cn p n = rb_cn q n + 1 := by
  induction n with
  | zero => omega
  | succ n ih =>
    simp only [rb_cn]
    rcases Nat.lt_or_ge k n with l | l
    · rw [ih l (fun i hi => h i (by omega)), h n (by omega) (by omega)]; omega
    · have e : k = n := by omega
      subst e
      rw [rb_cn_congr (p := p) (q := q) (fun i hi => h i (by omega) (by omega)), hp, hq]
      rfl
theorem rb_cn_pos {p : Nat → Bool} {n i : Nat} (hi : i < n) (hp : p i = true) : 0 < rb_cn p n := by
  induction n with
  | zero => omega
  | succ n ih =>
    simp only [rb_cn]
    rcases Nat.lt_or_ge i n with l | l
    · have := ih l; omega
    · have e : i = n := by omega
      subst e
      rw [hp]; simp only [cond_true]; omega
theorem rb_cn_ex {p : Nat → Bool} {n : Nat} (h : 0 < rb_cn p n) : ∃ i, i < n ∧ p i = true := by
  induction n with
  | zero => exact absurd h (Nat.lt_irrefl 0)
  | succ n ih =>
    simp only [rb_cn] at h
    cases hp : p n with
    | true => exact ⟨n, by omega, hp⟩
    | false =>
      rw [hp] at h
      obtain ⟨i, hi, hpi⟩ := ih (by simpa using h)
      exact ⟨i, by omega, hpi⟩
theorem rb_cn_pi {p : Nat → Bool} {m : Nat} {π : Nat → Nat} : ∀ {n : Nat}, (∀ i, i < n → π i < m) → (∀ i j, i < n → j < n → π i = π j → i = j) → (∀ s, s < m → p s = true → ∃ i, i < n ∧ π i = s) → rb_cn p m = rb_cn (fun i => p (π i)) n := by
  intro n
  induction n generalizing p with
  | zero =>
    intro _ _ h3
    refine rb_cn_zero (fun i hi => ?_)
    cases hp : p i with
    | false => rfl
    | true => obtain ⟨j, hj, _⟩ := h3 i hi hp; omega
  | succ n ih =>
    intro h1 h2 h3
    simp only [rb_cn]
    have ih' := @ih (fun s => p s && !decide (s = π n)) (fun i hi => h1 i (by omega)) (fun i j hi hj => h2 i j (by omega) (by omega)) (by
      intro s hs hp
      rw [Bool.and_eq_true] at hp
      obtain ⟨i, hi, e⟩ := h3 s hs hp.1
      have : i ≠ n := by
        intro e'
        rw [← e, e'] at hp
        simp at hp
      exact ⟨i, by omega, e⟩)
    have e2 : rb_cn (fun i => (fun s => p s && !decide (s = π n)) (π i)) n = rb_cn (fun i => p (π i)) n := rb_cn_congr (by
      intro i hi
      have : π i ≠ π n := fun e => by have := h2 i n (by omega) (by omega) e; omega
      simp [this])
    rw [← e2, ← ih']
    cases hp : p (π n) with
    | false =>
      simp only [cond_false, Nat.add_zero]
      refine rb_cn_congr (fun i hi => ?_)
      by_cases e : i = π n
      · rw [e, hp]; rfl
      · simp [e]
    | true =>
      simp only [cond_true]
      refine rb_cn_drop (h1 n (by omega)) hp (by simp) (fun i hi hne => by simp [hne])
theorem rb_fd_all {p : Nat → Bool} {n : Nat} (h : ∀ i, i < n → p i = false) : rb_fd p n = none := by
  cases hf : rb_fd p n with
  | none => rfl
  | some i =>
    obtain ⟨h1, h2, _⟩ := rb_fd_some hf
    rw [h i h1] at h2
    cases h2
theorem rb_fd_ex {p : Nat → Bool} {n i : Nat} (hi : i < n) (hp : p i = true) : ∃ j, rb_fd p n = some j := by
  cases hf : rb_fd p n with
  | none => rw [rb_fd_none hf i hi] at hp; cases hp
  | some j => exact ⟨j, rfl⟩
theorem rb_fd_eq {p : Nat → Bool} {n i : Nat} (hi : i < n) (hp : p i = true) (h : ∀ j, j < i → p j = false) : rb_fd p n = some i := by
  obtain ⟨j, e⟩ := rb_fd_ex hi hp
  obtain ⟨h1, h2, h3⟩ := rb_fd_some e
  rcases Nat.lt_trichotomy i j with l | l | l
  · rw [h3 i l] at hp; cases hp
  · rw [e, l]
  · rw [h j l] at h2; cases h2
theorem rb_fd_congr {p q : Nat → Bool} {n : Nat} (h : ∀ i, i < n → p i = q i) : rb_fd p n = rb_fd q n := by
  induction n with
  | zero => rfl
  | succ n ih =>
    simp only [rb_fd]
    rw [ih (fun i hi => h i (by omega)), h n (by omega)]
theorem rb_am_uniq {p : Nat → Bool} {k : Nat → Int32} {n i : Nat} (hi : i < n) (hp : p i = true) (h : ∀ j, j < n → p j = true → j ≠ i → k i < k j) : rb_am p k n = some i := by
  cases hf : rb_am p k n with
  | none => rw [rb_am_none hf i hi] at hp; cases hp
  | some b =>
    obtain ⟨h1, h2⟩ := rb_am_lt hf
    have h3 := rb_am_min hf i hi hp
    by_cases e : b = i
    · rw [e]
    · exact absurd (h b h1 h2 e) (Int32.not_lt.mpr h3)
theorem rb_am_all {p : Nat → Bool} {k : Nat → Int32} {n : Nat} (h : ∀ i, i < n → p i = false) : rb_am p k n = none := by
  cases hf : rb_am p k n with
  | none => rfl
  | some i =>
    obtain ⟨h1, h2⟩ := rb_am_lt hf
    rw [h i h1] at h2
    cases h2
/-- the least one, on both sides -/
theorem rb_am_pi {p P : Nat → Bool} {k K : Nat → Int32} {n m : Nat} {π : Nat → Nat} (h1 : ∀ i, i < n → π i < m) (h2 : ∀ s, s < m → P s = true → ∃ i, i < n ∧ π i = s) (h3 : ∀ i, i < n → P (π i) = p i) (h4 : ∀ i j, i < n → j < n → p i = true → p j = true → ((k i).toInt < (k j).toInt ↔ (K (π i)).toInt < (K (π j)).toInt)) (h5 : ∀ i j, i < n → j < n → p i = true → p j = true → k i = k j → i = j) : rb_am P K m = (rb_am p k n).map π := by
  cases hf : rb_am p k n with
  | none =>
    have hn := rb_am_none hf
    refine rb_am_all (fun s hs => ?_)
    cases hp : P s with
    | false => rfl
    | true =>
      obtain ⟨i, hi, e⟩ := h2 s hs hp
      rw [← e, h3 i hi, hn i hi] at hp
      cases hp
  | some i =>
    obtain ⟨hi, hpi⟩ := rb_am_lt hf
    refine rb_am_uniq (h1 i hi) (by rw [h3 i hi, hpi]) (fun s hs hps hne => ?_)
    obtain ⟨j, hj, e⟩ := h2 s hs hps
    rw [← e] at hps hne ⊢
    rw [h3 j hj] at hps
    have hij : j ≠ i := fun e' => hne (by rw [e'])
    have h6 := rb_am_min hf j hj hps
    have h7 : k i ≠ k j := fun e' => hij (h5 j i hj hi hps hpi e'.symm)
    rw [Int32.lt_iff_toInt_lt, ← h4 i j hi hj hpi hps]
    rw [Int32.le_iff_toInt_le] at h6
    have h8 : (k i).toInt ≠ (k j).toInt := fun e' => h7 (Int32.toInt_inj.mp e')
    omega
/-- handles, objects, pipes, ends that wait; z: an object that is being closed (28: none) -/
def rO (z : Nat) (c a : rb_Row) (x : Nat) : Prop :=
  (c (19 + x) = mI ∧ c (243 + x) = mI) ∨
  (∃ e p r b, e < 2 ∧ c (19 + x) = nI e ∧ p < 28 ∧ a (16 + 6 * x + 1) = nI p ∧ a (184 + 4 * p + (2 + e)) = nI x ∧ a (184 + 4 * p + (3 - e)) = c (131 + x) ∧ a (184 + 4 * p + 1) = nI b ∧ c (47 + x) = nI b ∧ a (184 + 4 * p) = nI r ∧ c (75 + x) = nI r ∧ 1 ≤ r ∧ r ≤ 100 ∧ b ≤ r ∧ (c (131 + x) = mI ∨ ∃ y, y < 28 ∧ c (131 + x) = nI y)) ∨
  (∃ b, b ≤ 1000 ∧ c (19 + x) = nI 2 ∧ c (47 + x) = nI b ∧ a (16 + 6 * x + 1) = nI b ∧ c (131 + x) = mI ∧ a (16 + 6 * x + 2) = c (103 + x) ∧ (c (103 + x) = nI 0 ∨ c (103 + x) = nI 1)) ∨
  (∃ b, b ≤ 1000 ∧ c (19 + x) = nI 3 ∧ c (47 + x) = nI b ∧ a (16 + 6 * x + 1) = nI b ∧ c (131 + x) = mI ∧ c (103 + x) = nI 0 ∧ a (16 + 6 * x + 2) = c (159 + x) ∧ (c (159 + x) = mI ∨ a (16 + 6 * x + 3) = c (187 + x))) ∨
  (c (19 + x) = nI 4 ∧ c (131 + x) = mI) ∨
  (∃ k r, c (19 + x) = nI 5 ∧ c (131 + x) = mI ∧ 1 ≤ k ∧ k ≤ 12 ∧ 1 ≤ r ∧ r ≤ 100 ∧ a (16 + 6 * x + 2) = nI k ∧ c (215 + x) = nI k ∧ a (16 + 6 * x + 3) = nI r ∧ c (75 + x) = nI r ∧ (x ≠ z → c (47 + x) = nI (rb_cn (fun y => decide (c (243 + y) = nI x)) 28) ∧ rb_cn (fun y => decide (c (243 + y) = nI x)) 28 ≤ k))
def rH (z s s' : Nat) (c a : rb_Row) : Prop :=
  (∀ h, h < 16 → a h = c (3 + h) ∧ c (3 + h) ≠ nI z ∧ (c (3 + h) = mI ∨ ∃ x, x < 28 ∧ c (3 + h) = nI x ∧ rb_live c x ∧ c (243 + x) = mI)) ∧
  (∀ x, x < 28 → a (16 + 6 * x) = c (19 + x) ∧ rO z c a x) ∧
  (∀ x, x < 28 → x ≠ z → rb_live c x → c (243 + x) = mI → ∃ h, h < 16 ∧ c (3 + h) = nI x) ∧
  (∀ p e, p < 28 → e < 2 → a (184 + 4 * p + (2 + e)) = mI ∨ ∃ y, y < 28 ∧ a (184 + 4 * p + (2 + e)) = nI y ∧ c (19 + y) = nI e ∧ a (16 + 6 * y + 1) = nI p) ∧
  (∀ x, x < 28 → (c (243 + x) = mI ∧ (rb_live c x → a (16 + 6 * x + 4) = mI)) ∨ (∃ l u v, l < 28 ∧ u < s ∧ 0 < v ∧ v ≤ s' ∧ c (243 + x) = nI l ∧ a (16 + 6 * x + 4) = nI l ∧ c (19 + l) = nI 5 ∧ c (19 + x) = nI 0 ∧ c (271 + x) = nI u ∧ a (16 + 6 * x + 5) = nI v)) ∧
  (∀ x y, x < 28 → y < 28 → c (243 + x) ≠ mI → c (243 + y) ≠ mI → ((c (271 + x)).toInt < (c (271 + y)).toInt ↔ (a (16 + 6 * x + 5)).toInt < (a (16 + 6 * y + 5)).toInt) ∧ (c (271 + x) = c (271 + y) → x = y)) ∧
  rb_cn (fun y => !decide (c (243 + y) = mI)) 28 ≤ 12
/-- interests: what stays -/
def rI (n : Nat) (π : Nat → Nat) (s' : Nat) (c a : rb_Row) : Prop :=
  (∀ i, i < n → π i < 24 ∧ a (296 + 11 * π i) = c (299 + i) ∧ a (296 + 11 * π i + 1) = c (323 + i) ∧ a (296 + 11 * π i + 2) = c (347 + i) ∧ a (296 + 11 * π i + 3) = c (371 + i) ∧ a (296 + 11 * π i + 4) = c (395 + i)) ∧
  (∀ i, i < n → ∃ x, x < 28 ∧ c (299 + i) = nI x ∧ c (19 + x) = nI 4 ∧ ∃ h, h < 16 ∧ c (3 + h) = nI x) ∧
  (∀ i, i < n → ∃ y, y < 28 ∧ c (323 + i) = nI y ∧ rb_live c y ∧ ∃ h, h < 16 ∧ c (3 + h) = nI y) ∧
  (∀ i, i < n → c (299 + i) ≠ c (323 + i) ∧ (∃ h, h < 16 ∧ c (347 + i) = nI h) ∧ (∃ m, m < 4 ∧ c (371 + i) = nI m) ∧ (∃ w, w < 8 ∧ c (395 + i) = nI w) ∧ ∃ v, 0 < v ∧ v ≤ s' ∧ a (296 + 11 * π i + 6) = nI v) ∧
  (∀ i j, i < j → j < n → (a (296 + 11 * π i + 6)).toInt < (a (296 + 11 * π j + 6)).toInt) ∧
  (∀ t, t < 24 → (∀ i, i < n → π i ≠ t) → a (296 + 11 * t) = mI) ∧
  (∀ i j k x, i < n → j < n → k < n → c (323 + i) = c (299 + j) → c (323 + j) = c (299 + k) → x < 28 → c (323 + k) = nI x → c (19 + x) ≠ nI 4) ∧
  (∀ i j, i < n → j < n → c (299 + i) = c (299 + j) → c (347 + i) = c (347 + j) → c (323 + i) = c (323 + j) → i = j)
/-- interests: armed, listed, counted -/
def rL (n : Nat) (π : Nat → Nat) (s s' : Nat) (c a : rb_Row) : Prop :=
  (∀ i, i < n → (c (419 + i) = nI 0 ∨ c (419 + i) = nI 1) ∧ a (296 + 11 * π i + 5) = c (419 + i) ∧ a (296 + 11 * π i + 8) = c (467 + i) ∧ a (296 + 11 * π i + 9) = c (491 + i)) ∧
  (∀ i, i < n → (c (443 + i) = mI ∧ a (296 + 11 * π i + 7) = nI 0 ∧ c (515 + i) = nI 0) ∨ (∃ u v, u < s ∧ 0 < v ∧ v ≤ s' ∧ c (443 + i) = nI u ∧ a (296 + 11 * π i + 7) = nI v ∧ a (296 + 11 * π i + 10) = c (515 + i))) ∧
  (∀ i j, i < n → j < n → c (443 + i) ≠ mI → c (443 + j) ≠ mI → ((c (443 + i)).toInt < (c (443 + j)).toInt ↔ (a (296 + 11 * π i + 7)).toInt < (a (296 + 11 * π j + 7)).toInt) ∧ (c (443 + i) = c (443 + j) → i = j))
/-- tasks -/
def rT (s s' B : Nat) (c a : rb_Row) : Prop :=
  (∀ t, t < 6 → a (560 + 39 * t) = c (539 + t) ∧ a (560 + 39 * t + 2) = c (551 + t) ∧ a (560 + 39 * t + 3) = c (557 + t) ∧ a (560 + 39 * t + 4) = c (563 + t) ∧ a (560 + 39 * t + 5) = c (569 + t) ∧ a (560 + 39 * t + 6) = c (575 + t) ∧ a (560 + 39 * t + 7) = c (581 + t) ∧ a (560 + 39 * t + 8) = c (587 + t) ∧ a (560 + 39 * t + 9) = c (599 + t) ∧ a (560 + 39 * t + 38) = c (593 + t)) ∧
  (∀ t, t < 6 → (c (593 + t) = nI 0 ∨ c (593 + t) = nI 1) ∧ (∃ l, l ≤ 4 ∧ c (599 + t) = nI l) ∧ (∃ q, q ≤ 8 ∧ c (563 + t) = nI q) ∧ (∃ w, w ≤ B ∧ c (581 + t) = nI w) ∧ ∃ w, w ≤ s ∧ c (575 + t) = nI w) ∧
  (∀ t, t < 6 → c (539 + t) = mI ∨ ((∃ x, x < 28 ∧ c (539 + t) = nI x ∧ c (19 + x) = nI 4) ∧ c (563 + t) = nI 0 ∧ (∃ u, 1 ≤ u ∧ u ≤ 8 ∧ c (551 + t) = nI u) ∧ (∃ u v, u < s ∧ 0 < v ∧ v ≤ s' ∧ c (545 + t) = nI u ∧ a (560 + 39 * t + 1) = nI v) ∧ ∃ w, w + 1 ≤ s ∧ c (575 + t) = nI w)) ∧
  (∀ t u, t < 6 → u < 6 → c (539 + t) ≠ mI → c (539 + u) ≠ mI → ((c (545 + t)).toInt < (c (545 + u)).toInt ↔ (a (560 + 39 * t + 1)).toInt < (a (560 + 39 * u + 1)).toInt) ∧ (c (545 + t) = c (545 + u) → t = u)) ∧
  (∀ t k, t < 6 → k < 8 → a (560 + 39 * t + (22 + 2 * k)) = c (677 + t * 8 + k) ∧ a (560 + 39 * t + (22 + 2 * k + 1)) = c (725 + t * 8 + k)) ∧
  (∀ t k l, t < 6 → k < l → l ≤ 4 → c (599 + t) = nI l → a (560 + 39 * t + (10 + 3 * k)) = c (605 + t * 4 + k) ∧ a (560 + 39 * t + (10 + 3 * k) + 1) = c (629 + t * 4 + k) ∧ a (560 + 39 * t + (10 + 3 * k) + 2) = c (653 + t * 4 + k) ∧ ∃ o, o < 8 ∧ c (605 + t * 4 + k) = nI o)
def rb_asl (c : rb_Row) : Nat := rb_cn (fun t => !decide (c (539 + t) = mI)) 6
/-- time, stamps, how many -/
def rS (q n s s' : Nat) (c a : rb_Row) : Prop :=
  a 794 = c 0 ∧ (∃ t, t ≤ 100000 ∧ c 0 = nI t) ∧ c 1 = nI s ∧ a 795 = nI s' ∧ s ≤ s' ∧ s' ≤ s + q ∧ c 2 = nI n ∧ n ≤ 24
def rR (z W q n : Nat) (π : Nat → Nat) (s s' : Nat) (c a : rb_Row) : Prop := rS q n s s' c a ∧ rH z s s' c a ∧ rI n π s' c a ∧ rL n π s s' c a ∧ rT s s' W c a
/-- what notices leave as it is -/
def rF (c c' : rb_Row) : Prop := ∀ k, (k = 0 ∨ (2 ≤ k ∧ k < 419) ∨ (587 ≤ k ∧ k < 677)) → c' k = c k
def rG (a a' : rb_Row) : Prop := (∀ k, k < 296 → a' k = a k) ∧ a' 794 = a 794 ∧ (∀ t f, t < 24 → (f < 5 ∨ f = 6) → a' (296 + 11 * t + f) = a (296 + 11 * t + f)) ∧ (∀ t f, t < 6 → ((8 ≤ f ∧ f < 22) ∨ f = 38) → a' (560 + 39 * t + f) = a (560 + 39 * t + f))
theorem rF_refl (c : rb_Row) : rF c c := fun _ _ => rfl
theorem rF_trans {c c' c'' : rb_Row} (h : rF c c') (h' : rF c' c'') : rF c c'' := fun k hk => (h' k hk).trans (h k hk)
theorem rG_refl (a : rb_Row) : rG a a := ⟨fun _ _ => rfl, rfl, fun _ _ _ _ => rfl, fun _ _ _ _ => rfl⟩
theorem rG_trans {a a' a'' : rb_Row} (h : rG a a') (h' : rG a' a'') : rG a a'' := ⟨fun k hk => (h'.1 k hk).trans (h.1 k hk), h'.2.1.trans h.2.1, fun t f ht hf => (h'.2.2.1 t f ht hf).trans (h.2.2.1 t f ht hf), fun t f ht hf => (h'.2.2.2 t f ht hf).trans (h.2.2.2 t f ht hf)⟩
theorem rO_frame {z : Nat} {c a c' a' : rb_Row} {x : Nat} (hx : x < 28) (hc : ∀ k, 3 ≤ k → k < 299 → c' k = c k) (ha : ∀ k, k < 296 → a' k = a k) (h : rO z c a x) : rO z c' a' x := by
  have e3 : (fun y => decide (c' (243 + y) = nI x)) = (fun y => decide (c' (243 + y) = nI x)) := rfl
  have hw : rb_cn (fun y => decide (c' (243 + y) = nI x)) 28 = rb_cn (fun y => decide (c (243 + y) = nI x)) 28 := rb_cn_congr (fun i hi => by rw [hc (243 + i) (by omega) (by omega)])
  rcases h with h | ⟨e, p, r, b, h0, h1, h2, h3, h4, h5, h6, h7, h8, h9, h10⟩ | ⟨b, h⟩ | ⟨b, h⟩ | h | ⟨k, r, h⟩
  · refine Or.inl ?_
    simp (disch := omega) only [hc, ha]
    exact h
  · refine Or.inr (Or.inl ⟨e, p, r, b, h0, ?_, h2, ?_⟩)
    · simp (disch := omega) only [hc, ha]; exact h1
    · simp (disch := omega) only [hc, ha]; exact ⟨h3, h4, h5, h6, h7, h8, h9, h10⟩
  · refine Or.inr (Or.inr (Or.inl ⟨b, ?_⟩))
    simp (disch := omega) only [hc, ha]; exact h
  · refine Or.inr (Or.inr (Or.inr (Or.inl ⟨b, ?_⟩)))
    simp (disch := omega) only [hc, ha]; exact h
  · refine Or.inr (Or.inr (Or.inr (Or.inr (Or.inl ?_))))
    simp (disch := omega) only [hc, ha]; exact h
  · refine Or.inr (Or.inr (Or.inr (Or.inr (Or.inr ⟨k, r, ?_⟩))))
    rw [hw]
    simp (disch := omega) only [hc, ha]; exact h
theorem rb_live_frame {c c' : rb_Row} {x : Nat} (hx : x < 28) (hc : ∀ k, 3 ≤ k → k < 299 → c' k = c k) : rb_live c' x ↔ rb_live c x := by
  unfold rb_live
  rw [hc (19 + x) (by omega) (by omega)]
theorem rH_frame {z s s' t t' : Nat} {c a c' a' : rb_Row} (h : rH z s s' c a) (hs : s ≤ t) (hs' : s' ≤ t') (hc : ∀ k, 3 ≤ k → k < 299 → c' k = c k) (ha : ∀ k, k < 296 → a' k = a k) : rH z t t' c' a' := by
  obtain ⟨h1, h2, h3, h4, h5, h6, h7⟩ := h
  refine ⟨?_, ?_, ?_, ?_, ?_, ?_, ?_⟩
  · intro h hh
    obtain ⟨p1, p2, p3⟩ := h1 h hh
    simp (disch := omega) only [hc, ha]
    refine ⟨p1, p2, ?_⟩
    rcases p3 with p3 | ⟨x, p4, p5, p6, p7⟩
    · exact Or.inl p3
    · exact Or.inr ⟨x, p4, p5, (rb_live_frame p4 hc).mpr p6, by simp (disch := omega) only [hc]; exact p7⟩
  · intro x hx
    obtain ⟨p1, p2⟩ := h2 x hx
    exact ⟨by simp (disch := omega) only [hc, ha]; exact p1, rO_frame hx hc ha p2⟩
  · intro x hx hz hl hw
    simp (disch := omega) only [hc] at hw
    obtain ⟨h, hh, e⟩ := h3 x hx hz ((rb_live_frame hx hc).mp hl) hw
    exact ⟨h, hh, by simp (disch := omega) only [hc]; exact e⟩
  · intro p e hp he
    simp (disch := omega) only [ha]
    rcases h4 p e hp he with q | ⟨y, q1, q2, q3, q4⟩
    · exact Or.inl q
    · exact Or.inr ⟨y, q1, q2, by simp (disch := omega) only [hc]; exact q3, by simp (disch := omega) only [ha]; exact q4⟩
  · intro x hx
    rcases h5 x hx with ⟨q1, q2⟩ | ⟨l, u, v, q1, q2, q3, q4, q5⟩
    · refine Or.inl ⟨by simp (disch := omega) only [hc]; exact q1, fun hl => ?_⟩
      simp (disch := omega) only [ha]
      exact q2 ((rb_live_frame hx hc).mp hl)
    · refine Or.inr ⟨l, u, v, q1, by omega, q3, by omega, ?_⟩
      simp (disch := omega) only [hc, ha]
      exact q5
  · intro x y hx hy
    simp (disch := omega) only [hc, ha]
    exact h6 x y hx hy
  · rw [rb_cn_congr (q := fun y => !decide (c (243 + y) = mI)) (fun i hi => by rw [hc (243 + i) (by omega) (by omega)])]
    exact h7
theorem rI_frame {n : Nat} {π : Nat → Nat} {s' t' : Nat} {c a c' a' : rb_Row} (hn : n ≤ 24) (h : rI n π s' c a) (hs' : s' ≤ t') (hc : rF c c') (ha : rG a a') : rI n π t' c' a' := by
  obtain ⟨h1, h2, h3, h4, h5, h6, h7, h8⟩ := h
  have hc1 : ∀ k, 2 ≤ k → k < 419 → c' k = c k := fun k p q => hc k (by omega)
  have ha1 := ha.2.2.1
  have ha0 : ∀ t, t < 24 → a' (296 + 11 * t) = a (296 + 11 * t) := fun t ht => ha1 t 0 ht (by omega)
  refine ⟨?_, ?_, ?_, ?_, ?_, ?_, ?_, ?_⟩
  · intro i hi
    have := (h1 i hi).1
    simp (disch := omega) only [hc1, ha1, ha0]
    exact h1 i hi
  · intro i hi
    obtain ⟨x, p1, p2, p3, g, p4, p5⟩ := h2 i hi
    exact ⟨x, p1, by simp (disch := omega) only [hc1]; exact p2, by simp (disch := omega) only [hc1]; exact p3, g, p4, by simp (disch := omega) only [hc1]; exact p5⟩
  · intro i hi
    obtain ⟨x, p1, p2, ⟨k, p3, p6⟩, g, p4, p5⟩ := h3 i hi
    exact ⟨x, p1, by simp (disch := omega) only [hc1]; exact p2, ⟨k, p3, by simp (disch := omega) only [hc1]; exact p6⟩, g, p4, by simp (disch := omega) only [hc1]; exact p5⟩
  · intro i hi
    have := (h1 i hi).1
    obtain ⟨p1, p2, p3, p4, v, p5, p6, p7⟩ := h4 i hi
    simp (disch := omega) only [hc1, ha1, ha0]
    exact ⟨p1, p2, p3, p4, v, p5, by omega, p7⟩
  · intro i j hi hj
    have := (h1 i (by omega)).1
    have := (h1 j hj).1
    simp (disch := omega) only [ha1, ha0]
    exact h5 i j hi hj
  · intro t ht hne
    simp (disch := omega) only [ha1, ha0]
    exact h6 t ht hne
  · intro i j k x hi hj hk e1 e2 hx e3
    simp (disch := omega) only [hc1] at e1 e2 e3 ⊢
    exact h7 i j k x hi hj hk e1 e2 hx e3
  · intro i j hi hj
    simp (disch := omega) only [hc1]
    exact h8 i j hi hj
theorem rR_eng {z W W' q n : Nat} {π : Nat → Nat} {s s' t t' : Nat} {c a c' a' : rb_Row} (h : rR z W q n π s s' c a) (hf : rF c c') (hg : rG a a') (hs : s ≤ t) (hs' : s' ≤ t') (e1 : c' 1 = nI t) (e2 : a' 795 = nI t') (e3 : t ≤ t') (e4 : t' ≤ t + q) (hL : rL n π t t' c' a') (hT : rT t t' W' c' a') : rR z W' q n π t t' c' a' := by
  obtain ⟨⟨p1, p2, p3, p4, p5, p6, p7, p8⟩, hH, hI, _, _⟩ := h
  refine ⟨⟨?_, ?_, e1, e2, e3, e4, ?_, p8⟩, rH_frame hH hs hs' (fun k p q => hf k (by omega)) hg.1, rI_frame p8 hI hs' hf hg, hL, hT⟩
  · rw [hg.2.1, hf 0 (by omega)]; exact p1
  · rw [hf 0 (by omega)]; exact p2
  · rw [hf 2 (by omega)]; exact p7
