/-- bits -/
def rb_b (k : Nat) : Int32 := nI 1 <<< (nI k &&& nI 31)
def rb_mk (P : Nat → Bool) : Nat → Int32
  | 0 => nI 0
  | j + 1 => bif P j then rb_mk P j ||| rb_b j else rb_mk P j
theorem rb_mk_congr {P Q : Nat → Bool} {n : Nat} (h : ∀ i, i < n → P i = Q i) : rb_mk P n = rb_mk Q n := by
  induction n with
  | zero => rfl
  | succ n ih =>
    simp only [rb_mk]
    rw [ih (fun i hi => h i (by omega)), h n (by omega)]
theorem rb_mk_or {P : Nat → Bool} {n t : Nat} (ht : t < n) : rb_mk (fun k => P k || decide (k = t)) n = rb_mk P n ||| rb_b t := by
  induction n with
  | zero => omega
  | succ n ih =>
    simp only [rb_mk]
    by_cases e : t = n
    · subst e
      rw [rb_mk_congr (P := fun k => P k || decide (k = t)) (Q := P) (fun i hi => by
        have : i ≠ t := by omega
        simp [this])]
      cases P t with
      | false => simp
      | true => simp [Int32.or_assoc]
    · rw [ih (by omega)]
      have : ¬ n = t := fun h => e h.symm
      cases P n with
      | false => simp [this]
      | true =>
        simp [this]
        rw [Int32.or_assoc, Int32.or_assoc, Int32.or_comm (rb_b t)]
theorem rb_mk_or1 {P Q : Nat → Bool} {n t : Nat} (ht : t < n) (h : ∀ k, k < n → Q k = (P k || decide (k = t))) : rb_mk Q n = rb_mk P n ||| rb_b t := by
  rw [rb_mk_congr h, rb_mk_or ht]
set_option maxHeartbeats 8000000 in
theorem rp_latest {z W q n : Nat} {π : Nat → Nat} {s s' : Nat} {c a : rb_Row} (h : rR z W q n π s s' c a) {t nn : Nat} (ht : t < 6) (hnn : nn ≤ 8) (h0 : c (539 + t) = mI ∨ nn = 0) (v : Int32) (w : Int32) (hvw : a (560 + 39 * t + 5) = c (569 + t) → v = w) : rR z W q n π s s' (upd (upd c (563 + t) (nI nn)) (569 + t) v) (upd (upd a (560 + 39 * t + 4) (nI nn)) (560 + 39 * t + 5) w) ∧ rF c (upd (upd c (563 + t) (nI nn)) (569 + t) v) ∧ rG a (upd (upd a (560 + 39 * t + 4) (nI nn)) (560 + 39 * t + 5) w) := by
  have hR := h
  obtain ⟨⟨q1, q2, q3, q4, q5, q6, q7, q8⟩, hH, hI, hL, hT⟩ := h
  have hF : rF c (upd (upd c (563 + t) (nI nn)) (569 + t) v) := by
    intro k hk
    simp (disch := omega) only [rb_upn]
  have hG : rG a (upd (upd a (560 + 39 * t + 4) (nI nn)) (560 + 39 * t + 5) w) := by
    refine ⟨fun k hk => ?_, ?_, fun u f hu hf => ?_, fun u f hu hf => ?_⟩
    · simp (disch := omega) only [rb_upn]
    · simp (disch := omega) only [rb_upn]
    · simp (disch := omega) only [rb_upn]
    · rcases Nat.lt_trichotomy t u with e | e | e <;> simp (disch := omega) only [rb_upn]
  refine ⟨rR_eng hR hF hG (Nat.le_refl _) (Nat.le_refl _) ?_ ?_ q5 q6 ?_ ?_, hF, hG⟩
  · simp (disch := omega) only [rb_upn]; exact q3
  · simp (disch := omega) only [rb_upn]; exact q4
  · refine rL_frame q8 (fun i hi => (hI.1 i hi).1) hL (Nat.le_refl _) (Nat.le_refl _) (fun k hk hk' => ?_) (fun u f hu hf hf' => ?_) <;> simp (disch := omega) only [rb_upn]
  · obtain ⟨h1, h2, h3, h4, h5, h6⟩ := hT
    refine ⟨?_, ?_, ?_, ?_, ?_, ?_⟩
    · intro u hu
      obtain ⟨p1, p2, p3, p4, p5, p6⟩ := h1 u hu
      by_cases e : u = t
      · subst e
        simp (disch := omega) only [rb_upn, rb_upe]
        exact ⟨p1, p2, p3, trivial, (hvw p5).symm, p6⟩
      · simp (disch := omega) only [rb_upn]
        exact ⟨p1, p2, p3, p4, p5, p6⟩
    · intro u hu
      obtain ⟨p1, p2, p3, p4⟩ := h2 u hu
      by_cases e : u = t
      · subst e
        simp (disch := omega) only [rb_upn, rb_upe]
        exact ⟨p1, p2, ⟨nn, hnn, rfl⟩, p4⟩
      · simp (disch := omega) only [rb_upn]
        exact ⟨p1, p2, p3, p4⟩
    · intro u hu
      by_cases e : u = t
      · subst e
        simp (disch := omega) only [rb_upn, rb_upe]
        rcases h3 u hu with p | ⟨⟨x, p1, p2, p3⟩, p4, p5, p6, p7⟩
        · exact Or.inl p
        · refine Or.inr ⟨⟨x, p1, p2, ?_⟩, ?_, p5, p6, p7⟩
          · simp (disch := omega) only [rb_upn]
            exact p3
          · rcases h0 with h0 | h0
            · rw [h0] at p2; exact absurd p2.symm (rb_nmm (by omega))
            · rw [h0]
      · simp (disch := omega) only [rb_upn]
        rcases h3 u hu with p | ⟨⟨x, p1, p2, p3⟩, p4⟩
        · exact Or.inl p
        · refine Or.inr ⟨⟨x, p1, p2, ?_⟩, p4⟩
          simp (disch := omega) only [rb_upn]
          exact p3
    · intro u v hu hv
      simp (disch := omega) only [rb_upn]
      exact h4 u v hu hv
    · intro u k hu hk
      rcases Nat.lt_trichotomy t u with e | e | e <;> simp (disch := omega) only [rb_upn] <;> exact h5 u k hu hk
    · intro u k l hu hk hl
      rcases Nat.lt_trichotomy t u with e | e | e <;> simp (disch := omega) only [rb_upn] <;> exact h6 u k l hu hk hl
set_option maxHeartbeats 8000000 in
theorem rp_vain {z W q n : Nat} {π : Nat → Nat} {s s' : Nat} {c a : rb_Row} (h : rR z W q n π s s' c a) {t : Nat} (ht : t < 6) : rR z (W + 1) q n π s s' (upd c (581 + t) (c (581 + t) + nI 1)) (upd a (560 + 39 * t + 7) (a (560 + 39 * t + 7) + nI 1)) ∧ rF c (upd c (581 + t) (c (581 + t) + nI 1)) ∧ rG a (upd a (560 + 39 * t + 7) (a (560 + 39 * t + 7) + nI 1)) := by
  have hR := h
  obtain ⟨⟨q1, q2, q3, q4, q5, q6, q7, q8⟩, hH, hI, hL, hT⟩ := h
  have hF : rF c (upd c (581 + t) (c (581 + t) + nI 1)) := by
    intro k hk
    simp (disch := omega) only [rb_upn]
  have hG : rG a (upd a (560 + 39 * t + 7) (a (560 + 39 * t + 7) + nI 1)) := by
    refine ⟨fun k hk => ?_, ?_, fun u f hu hf => ?_, fun u f hu hf => ?_⟩
    · simp (disch := omega) only [rb_upn]
    · simp (disch := omega) only [rb_upn]
    · simp (disch := omega) only [rb_upn]
    · rcases Nat.lt_trichotomy t u with e | e | e <;> simp (disch := omega) only [rb_upn]
  refine ⟨rR_eng hR hF hG (Nat.le_refl _) (Nat.le_refl _) ?_ ?_ q5 q6 ?_ ?_, hF, hG⟩
  · simp (disch := omega) only [rb_upn]; exact q3
  · simp (disch := omega) only [rb_upn]; exact q4
  · refine rL_frame q8 (fun i hi => (hI.1 i hi).1) hL (Nat.le_refl _) (Nat.le_refl _) (fun k hk hk' => ?_) (fun u f hu hf hf' => ?_) <;> simp (disch := omega) only [rb_upn]
  · obtain ⟨h1, h2, h3, h4, h5, h6⟩ := hT
    refine ⟨?_, ?_, ?_, ?_, ?_, ?_⟩
    · intro u hu
      obtain ⟨p1, p2, p3, p4, p5, p6, p7, p8⟩ := h1 u hu
      by_cases e : u = t
      · subst e
        simp (disch := omega) only [rb_upn, rb_upe]
        exact ⟨p1, p2, p3, p4, p5, p6, by rw [p7], p8⟩
      · simp (disch := omega) only [rb_upn]
        exact ⟨p1, p2, p3, p4, p5, p6, p7, p8⟩
    · intro u hu
      obtain ⟨p1, p2, p3, ⟨w, p4, p5⟩, p6⟩ := h2 u hu
      by_cases e : u = t
      · subst e
        simp (disch := omega) only [rb_upn, rb_upe]
        exact ⟨p1, p2, p3, ⟨w + 1, by omega, by rw [p5, nI_add]⟩, p6⟩
      · simp (disch := omega) only [rb_upn]
        exact ⟨p1, p2, p3, ⟨w, by omega, p5⟩, p6⟩
    · intro u hu
      simp (disch := omega) only [rb_upn]
      rcases h3 u hu with p | ⟨⟨x, p1, p2, p3⟩, p4⟩
      · exact Or.inl p
      · refine Or.inr ⟨⟨x, p1, p2, ?_⟩, p4⟩
        simp (disch := omega) only [rb_upn]
        exact p3
    · intro u v hu hv
      simp (disch := omega) only [rb_upn]
      exact h4 u v hu hv
    · intro u k hu hk
      rcases Nat.lt_trichotomy t u with e | e | e <;> simp (disch := omega) only [rb_upn] <;> exact h5 u k hu hk
    · intro u k l hu hk hl
      rcases Nat.lt_trichotomy t u with e | e | e <;> simp (disch := omega) only [rb_upn] <;> exact h6 u k l hu hk hl
/-- a sleeper that got some gets up -/
def rb_upC (c : rb_Row) (t nn : Nat) : rb_Row := upd (upd (upd (upd (upd c (563 + t) (nI nn)) (569 + t) (c (569 + t) + nI nn)) (539 + t) mI) (557 + t) mI) (575 + t) (c (575 + t) + nI 1)
def rb_upA (a : rb_Row) (t nn : Nat) : rb_Row := upd (upd (upd (upd (upd a (560 + 39 * t + 4) (nI nn)) (560 + 39 * t + 5) (a (560 + 39 * t + 5) + nI nn)) (560 + 39 * t + 6) (a (560 + 39 * t + 6) + nI 1)) (560 + 39 * t) mI) (560 + 39 * t + 3) mI
set_option maxHeartbeats 8000000 in
theorem rp_fed {z W q n : Nat} {π : Nat → Nat} {s s' : Nat} {c a : rb_Row} (h : rR z W q n π s s' c a) {t nn : Nat} (ht : t < 6) (hnn : nn ≤ 8) (h0 : c (539 + t) ≠ mI) : rR z W q n π s s' (rb_upC c t nn) (rb_upA a t nn) ∧ rF c (rb_upC c t nn) ∧ rG a (rb_upA a t nn) := by
  unfold rb_upC rb_upA
  have hR := h
  obtain ⟨⟨q1, q2, q3, q4, q5, q6, q7, q8⟩, hH, hI, hL, hT⟩ := h
  have hF : rF c (upd (upd (upd (upd (upd c (563 + t) (nI nn)) (569 + t) (c (569 + t) + nI nn)) (539 + t) mI) (557 + t) mI) (575 + t) (c (575 + t) + nI 1)) := by
    intro k hk
    simp (disch := omega) only [rb_upn]
  have hG : rG a (upd (upd (upd (upd (upd a (560 + 39 * t + 4) (nI nn)) (560 + 39 * t + 5) (a (560 + 39 * t + 5) + nI nn)) (560 + 39 * t + 6) (a (560 + 39 * t + 6) + nI 1)) (560 + 39 * t) mI) (560 + 39 * t + 3) mI) := by
    refine ⟨fun k hk => ?_, ?_, fun u f hu hf => ?_, fun u f hu hf => ?_⟩
    · simp (disch := omega) only [rb_upn]
    · simp (disch := omega) only [rb_upn]
    · simp (disch := omega) only [rb_upn]
    · rcases Nat.lt_trichotomy t u with e | e | e <;> simp (disch := omega) only [rb_upn]
  refine ⟨rR_eng hR hF hG (Nat.le_refl _) (Nat.le_refl _) ?_ ?_ q5 q6 ?_ ?_, hF, hG⟩
  · simp (disch := omega) only [rb_upn]; exact q3
  · simp (disch := omega) only [rb_upn]; exact q4
  · refine rL_frame q8 (fun i hi => (hI.1 i hi).1) hL (Nat.le_refl _) (Nat.le_refl _) (fun k hk hk' => ?_) (fun u f hu hf hf' => ?_) <;> simp (disch := omega) only [rb_upn]
  · obtain ⟨h1, h2, h3, h4, h5, h6⟩ := hT
    refine ⟨?_, ?_, ?_, ?_, ?_, ?_⟩
    · intro u hu
      obtain ⟨p1, p2, p3, p4, p5, p6, p7, p8⟩ := h1 u hu
      by_cases e : u = t
      · subst e
        simp (disch := omega) only [rb_upn, rb_upe]
        exact ⟨trivial, p2, trivial, trivial, by rw [p5], by rw [p6], p7, p8⟩
      · simp (disch := omega) only [rb_upn]
        exact ⟨p1, p2, p3, p4, p5, p6, p7, p8⟩
    · intro u hu
      obtain ⟨p1, p2, p3, p4, p5⟩ := h2 u hu
      by_cases e : u = t
      · subst e
        simp (disch := omega) only [rb_upn, rb_upe]
        rcases h3 u hu with p | ⟨_, _, _, _, ⟨w, p6, p7⟩⟩
        · exact absurd p h0
        · exact ⟨p1, p2, ⟨nn, hnn, rfl⟩, p4, ⟨w + 1, p6, by rw [p7, nI_add]⟩⟩
      · simp (disch := omega) only [rb_upn]
        exact ⟨p1, p2, p3, p4, p5⟩
    · intro u hu
      by_cases e : u = t
      · subst e
        refine Or.inl ?_
        simp (disch := omega) only [rb_upn, rb_upe]
      · simp (disch := omega) only [rb_upn]
        rcases h3 u hu with p | ⟨⟨x, p1, p2, p3⟩, p4⟩
        · exact Or.inl p
        · refine Or.inr ⟨⟨x, p1, p2, ?_⟩, p4⟩
          simp (disch := omega) only [rb_upn]
          exact p3
    · intro u v hu hv
      by_cases e : u = t
      · subst e
        simp (disch := omega) only [rb_upn, rb_upe]
        intro g; exact absurd rfl g
      · by_cases e' : v = t
        · subst e'
          simp (disch := omega) only [rb_upn, rb_upe]
          intro _ g; exact absurd rfl g
        · simp (disch := omega) only [rb_upn]
          exact h4 u v hu hv
    · intro u k hu hk
      rcases Nat.lt_trichotomy t u with e | e | e <;> simp (disch := omega) only [rb_upn] <;> exact h5 u k hu hk
    · intro u k l hu hk hl
      rcases Nat.lt_trichotomy t u with e | e | e <;> simp (disch := omega) only [rb_upn] <;> exact h6 u k l hu hk hl
theorem rb_asl_up {c : rb_Row} {t nn : Nat} (ht : t < 6) (h0 : c (539 + t) ≠ mI) : rb_asl c = rb_asl (rb_upC c t nn) + 1 := by
  unfold rb_asl rb_upC
  refine rb_cn_drop ht (by simp [h0]) ?_ (fun i hi hne => ?_)
  · simp (disch := omega) only [rb_upn, rb_upe]
    simp
  · simp (disch := omega) only [rb_upn]
theorem rb_asl_congr {c c' : rb_Row} (h : ∀ t, t < 6 → c' (539 + t) = c (539 + t)) : rb_asl c' = rb_asl c := rb_cn_congr (fun i hi => by rw [h i hi])
