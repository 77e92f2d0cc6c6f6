theorem rp_added_at {n : Nat} {π : Nat → Nat} {s' : Nat} {c a : rb_Row} (hI : rI n π s' c a) (hs : s' < 2000000000) {i x : Nat} (hi : i < n) (hx : x < 28) (ex : c (323 + i) = nI x) (last : Int32) (hl : ∀ j, j < n → c (323 + j) = nI x → (last < a (296 + 11 * π j + 6) ↔ i ≤ j)) : XX7_addedBehind a (nI x) (nI 0) last = some (nI (π i)) := by
  obtain ⟨q1, q2, q3, _⟩ := hI.1 i hi
  obtain ⟨y, hy, ey, _⟩ := hI.2.1 i hi
  rw [yn_addedBehind0, rb_am_uniq (i := π i) q1]
  · rfl
  · have h1 : ¬ a (296 + 11 * π i) < nI 0 := by rw [q2, ey]; exact nI_pos (by omega)
    have h2 : last < a (296 + 11 * π i + 6) := (hl i hi ex).mpr (Nat.le_refl _)
    rw [q3, ex]
    simp [h1, h2]
  · intro t ht hp hne
    simp only [Bool.and_eq_true, Bool.not_eq_true', decide_eq_false_iff_not, decide_eq_true_eq] at hp
    obtain ⟨j, hj, e⟩ := rI_slot hI ht (fun e => hp.1 (by rw [e]; simp (disch := omega) only [rb_mI, nI_add, nI_mul, nI_leI, nI_ltI, nI_eq, rb_rdn, rb_wrn, rb_n0, rb_m0, rb_m1n, rb_nm1, rb_m1lt, rb_m1le, rb_0m1, rb_ltm1, rb_lem1]))
    subst e
    have e2 : c (323 + j) = nI x := by rw [← (hI.1 j hj).2.2.1]; exact hp.2.1
    have h3 := (hl j hj e2).mp hp.2.2
    have h4 : i ≠ j := fun e => hne (by rw [e])
    rw [Int32.lt_iff_toInt_lt]
    exact hI.2.2.2.2.1 i j (by omega) hj
theorem rp_added_no {n : Nat} {π : Nat → Nat} {s' : Nat} {c a : rb_Row} (hI : rI n π s' c a) {x : Nat} (last : Int32) (hl : ∀ j, j < n → c (323 + j) = nI x → ¬ last < a (296 + 11 * π j + 6)) : XX7_addedBehind a (nI x) (nI 0) last = some mI := by
  rw [yn_addedBehind0, rb_am_all]
  · rfl
  · intro t ht
    cases hp : (!decide (a (296 + 11 * t) < nI 0) && (decide (a (296 + 11 * t + 1) = nI x) && decide (last < a (296 + 11 * t + 6)))) with
    | false => rfl
    | true =>
      simp only [Bool.and_eq_true, Bool.not_eq_true', decide_eq_false_iff_not, decide_eq_true_eq] at hp
      obtain ⟨j, hj, e⟩ := rI_slot hI ht (fun e => hp.1 (by rw [e]; simp (disch := omega) only [rb_mI, nI_add, nI_mul, nI_leI, nI_ltI, nI_eq, rb_rdn, rb_wrn, rb_n0, rb_m0, rb_m1n, rb_nm1, rb_m1lt, rb_m1le, rb_0m1, rb_ltm1, rb_lem1]))
      subst e
      have e2 : c (323 + j) = nI x := by rw [← (hI.1 j hj).2.2.1]; exact hp.2.1
      exact absurd hp.2.2 (hl j hj e2)
/-- which sets were called -/
def rb_CR (cb f mf : rb_Row) : Prop := ∃ C : Nat → Bool, f 5 = rb_mk C 28 ∧ mf 11 = rb_mk (fun h => (rb_fd (fun y => C y && decide (rb_fd (fun h => decide (cb (3 + h) = nI y)) 16 = some h)) 28).isSome) 16
theorem rb_CR_one {cb f mf f' mf' : rb_Row} {y h : Nat} (hy : y < 28) (hh : rb_fd (fun h => decide (cb (3 + h) = nI y)) 16 = some h) (e1 : f' 5 = f 5 ||| rb_b y) (e2 : mf' 11 = mf 11 ||| rb_b h) (hC : rb_CR cb f mf) : rb_CR cb f' mf' := by
  obtain ⟨C, h1, h2⟩ := hC
  refine ⟨fun k => C k || decide (k = y), ?_, ?_⟩
  · rw [e1, h1, rb_mk_or hy]
  · rw [e2, h2]
    refine (rb_mk_or1 (rb_fd_some hh).1 (fun k hk => ?_)).symm
    rw [Bool.eq_iff_iff, rb_fd_iff, Bool.or_eq_true, rb_fd_iff, decide_eq_true_eq]
    constructor
    · rintro ⟨v, hv, g⟩
      simp only [Bool.and_eq_true, Bool.or_eq_true, decide_eq_true_eq] at g
      rcases g.1 with g1 | g1
      · exact Or.inl ⟨v, hv, by simp [g1, g.2]⟩
      · refine Or.inr ?_
        have := g.2
        rw [g1, hh] at this
        exact (Option.some.inj this).symm
    · rintro (⟨v, hv, g⟩ | g)
      · simp only [Bool.and_eq_true, decide_eq_true_eq] at g
        exact ⟨v, hv, by simp [g.1, g.2]⟩
      · exact ⟨y, hy, by simp [g, hh]⟩
/-- what notices leave behind -/
def rb_NQ (z W q n : Nat) (π : Nat → Nat) (s0 : Nat) (c0 a0 f0 mf0 : rb_Row) (v : Nat) (c f a mf : rb_Row) : Prop :=
  ∃ t t', rR z (W + v) q n π t t' c a ∧ rF c0 c ∧ rG a0 a ∧ t + 8 * rb_asl c ≤ s0 + 8 * rb_asl c0 + v ∧ s0 ≤ t ∧ (∀ k, k ≠ 3 → k ≠ 11 → mf k = mf0 k) ∧ (∀ cb, (∀ h, h < 16 → cb (3 + h) = c0 (3 + h)) → rb_CR cb f0 mf0 → rb_CR cb f mf) ∧ (∀ cb, rb_FED cb c0 f0 → rb_FED cb c f) ∧ (∀ cb, rb_WOK cb c0 f0 → rb_WOK cb c f)
theorem rb_NQ_refl {z W q n : Nat} {π : Nat → Nat} {s s' : Nat} {c a f mf : rb_Row} (h : rR z W q n π s s' c a) : rb_NQ z W q n π s c a f mf 0 c f a mf := ⟨s, s', h, rF_refl _, rG_refl _, Nat.le_refl _, Nat.le_refl _, fun _ _ _ => rfl, fun _ _ h => h, fun _ h => h, fun _ h => h⟩
theorem rb_NQ_trans {z W q n : Nat} {π : Nat → Nat} {s0 s1 : Nat} {c0 a0 f0 mf0 c1 a1 f1 mf1 c2 a2 f2 mf2 : rb_Row} {v1 v2 : Nat} (hF : rF c0 c1) (hG : rG a0 a1) (h1 : s1 + 8 * rb_asl c1 ≤ s0 + 8 * rb_asl c0 + v1) (h2 : s0 ≤ s1) (h3 : ∀ k, k ≠ 3 → k ≠ 11 → mf1 k = mf0 k) (h4 : ∀ cb, (∀ h, h < 16 → cb (3 + h) = c0 (3 + h)) → rb_CR cb f0 mf0 → rb_CR cb f1 mf1) (h5 : ∀ cb, rb_FED cb c0 f0 → rb_FED cb c1 f1) (h6 : ∀ cb, rb_WOK cb c0 f0 → rb_WOK cb c1 f1) (h : rb_NQ z (W + v1) q n π s1 c1 a1 f1 mf1 v2 c2 f2 a2 mf2) : rb_NQ z W q n π s0 c0 a0 f0 mf0 (v1 + v2) c2 f2 a2 mf2 := by
  obtain ⟨t, t', g1, g2, g3, g4, g5, g6, g7, g8, g9⟩ := h
  refine ⟨t, t', by rw [← Nat.add_assoc]; exact g1, rF_trans hF g2, rG_trans hG g3, by omega, by omega, fun k hk hk' => (g6 k hk hk').trans (h3 k hk hk'), fun cb hcb hC => g7 cb (fun h hh => ?_) (h4 cb hcb hC), fun cb h => g8 cb (h5 cb h), fun cb h => g9 cb (h6 cb h)⟩
  rw [hcb h hh, hF (3 + h) (by omega)]
theorem yn_lowest {a c : rb_Row} {y : Nat} (hy : y < 28) (ha : ∀ h, h < 16 → a h = c (3 + h)) : XX7_lowestOf a (nI y) = some (rb_oi (rb_fd (fun h => decide (c (3 + h) = nI y)) 16)) := by
  rw [yn_lowestOf, rb_fd_congr]
  intro h hh
  have : ¬ nI y < nI 0 := nI_pos (by omega)
  rw [ha h hh]
  simp [this]
set_option maxHeartbeats 8000000 in
/- one interest is noticed, and its set called -/
theorem rp_visit {z W q n : Nat} {π : Nat → Nat} {s s' : Nat} {c a : rb_Row} (h : rR z W q n π s s' c a) (hs : s' + 1100 < 2000000000) (hW : W + 10 < 2000000000) {i y : Nat} (hi : i < n) (hy : y < 28) (ey : c (299 + i) = nI y) (g f rd ag mf : rb_Row) : ∃ cL aL c2 g2 f2 a2 rd2 ag2 mf2 b hd, b ≤ 1 ∧ hd < 16 ∧ XX1_putOnList c (nI i) = some cL ∧ cL (299 + i) = nI y ∧ XX0_callSleepers (upd cL (467 + i) (cL (467 + i) + nI 1)) g f (nI y) = some (nI b, c2, g2, f2) ∧ XX7_list a (nI (π i)) = some aL ∧ aL (296 + 11 * π i) = nI y ∧ XX7_lowestOf (upd aL (296 + 11 * π i + 8) (aL (296 + 11 * π i + 8) + nI 1)) (nI y) = some (nI hd) ∧ XX7_wake (upd aL (296 + 11 * π i + 8) (aL (296 + 11 * π i + 8) + nI 1)) rd ag (upd mf 11 (mf 11 ||| rb_b hd)) (nI y) = some (nI b, a2, rd2, ag2, mf2) ∧ rb_NQ z W q n π s c a f mf 1 c2 f2 a2 mf2 := by
  have hn : n ≤ 24 := h.1.2.2.2.2.2.2.2
  obtain ⟨cL, aL, t, t', e1, e2, hR1, hF1, hG1, hcase⟩ := rp_list h (by omega) hi
  obtain ⟨hR2, hF2, hG2⟩ := rp_noticed hR1 hi
  have hp := (hR1.2.2.1.1 i hi).1
  have eyL : cL (299 + i) = nI y := by rw [hF1 (299 + i) (by omega)]; exact ey
  have eyA : aL (296 + 11 * π i) = nI y := by rw [(hR1.2.2.1.1 i hi).2.1]; exact eyL
  obtain ⟨y', hy', ey', hk4, hh, hh16, ehh⟩ := h.2.2.1.2.1 i hi
  have hyy : y' = y := by
    rw [ey] at ey'
    exact ((nI_eq (by omega) (by omega)).mp ey').symm
  subst hyy
  obtain ⟨hd, ehd⟩ := rb_fd_ex (p := fun h => decide (c (3 + h) = nI y')) hh16 (by simp [ehh])
  have hd16 := (rb_fd_some ehd).1
  have hkL : (upd cL (467 + i) (cL (467 + i) + nI 1)) (19 + y') = nI 4 := by
    rw [hF2 _ (by omega), hF1 _ (by omega)]; exact hk4
  have ht' : t' ≤ s' + 1 ∧ t ≤ s + 1 ∧ s ≤ t := by rcases hcase with ⟨_, _, g3, g4⟩ | ⟨_, _, g3, g4⟩ <;> omega
  obtain ⟨o, o', eo, eo', b, c2, g2, f2, a2, rd2, ag2, mf2, k1, k2, hb, u, u', kR, kF, kG, kB, ks, ks', kmf, kf5, kFED, kWOK⟩ := rp_wake hR2 (by omega) hW hy hkL g f rd ag (upd mf 11 (mf 11 ||| rb_b hd))
  subst k1 k2
  have hcN : ∀ k, 539 ≤ k → (upd cL (467 + i) (cL (467 + i) + nI 1)) k = c k := by
    intro k hk
    rw [rb_upn (by omega)]
    rcases hcase with ⟨_, g2, _⟩ | ⟨_, g2, _⟩
    · rw [g2]
      simp (disch := omega) only [rb_upn]
    · rw [g2]
  have hasl : rb_asl (upd cL (467 + i) (cL (467 + i) + nI 1)) = rb_asl c := rb_asl_congr (fun v hv => hcN _ (by omega))
  refine ⟨cL, aL, c2, g2, f2, a2, rd2, ag2, mf2, b, hd, hb, hd16, e1, eyL, eo, e2, eyA, ?_, eo', u, u', kR, rF_trans hF1 (rF_trans hF2 kF), rG_trans hG1 (rG_trans hG2 kG), by omega, by omega, fun k hk hk' => ?_, fun cb hcb hC => ?_, fun cb hF => ?_, fun cb hF => ?_⟩
  · rw [yn_lowest (c := c) hy (fun h hh => ?_), ehd]
    · rfl
    · rw [hG2.1 h (by omega), hG1.1 h (by omega)]
      exact (‹rR z W q n π s s' c a›.2.1.1 h hh).1
  · rw [kmf k hk, rb_upn hk']
  · refine rb_CR_one (h := hd) hy ?_ (f := f) (mf := mf) ?_ ?_ hC
    · rw [← ehd]
      exact rb_fd_congr (fun h hh => by rw [hcb h hh])
    · rw [kf5, rb_upe rfl]
    · rw [kmf 11 (by omega), rb_upe rfl]
  · exact kFED cb (rb_FED_same (fun v hv => hcN _ (by omega)) (rb_upn (by omega)) hF)
  · exact kWOK cb (rb_WOK_same (fun v hv => Or.inr (hcN _ (by omega))) (fun v hv => ⟨hcN _ (by omega), hcN _ (by omega)⟩) (rb_upn (by omega)) hF)
