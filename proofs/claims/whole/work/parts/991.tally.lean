def rb_ta (T : Nat × Nat × Nat × Nat × Nat) (x : Nat × Nat × Nat) : Nat × Nat × Nat × Nat × Nat := (T.1 + 1, T.2.1 + x.2.1, T.2.2.1 + x.2.2, (if T.1 = 0 then x.1 else min T.2.2.2.1 x.1), max T.2.2.2.2 x.1)
theorem rb_ta_comm (T : Nat × Nat × Nat × Nat × Nat) (x y : Nat × Nat × Nat) : rb_ta (rb_ta T x) y = rb_ta (rb_ta T y) x := by
  unfold rb_ta
  refine Prod.ext rfl (Prod.ext ?_ (Prod.ext ?_ (Prod.ext ?_ ?_)))
  · show T.2.1 + x.2.1 + y.2.1 = T.2.1 + y.2.1 + x.2.1
    omega
  · show T.2.2.1 + x.2.2 + y.2.2 = T.2.2.1 + y.2.2 + x.2.2
    omega
  · show (if T.1 + 1 = 0 then y.1 else min (if T.1 = 0 then x.1 else min T.2.2.2.1 x.1) y.1) = (if T.1 + 1 = 0 then x.1 else min (if T.1 = 0 then y.1 else min T.2.2.2.1 y.1) x.1)
    rw [if_neg (Nat.succ_ne_zero T.1), if_neg (Nat.succ_ne_zero T.1)]
    by_cases h : T.1 = 0
    · rw [if_pos h, if_pos h]; omega
    · rw [if_neg h, if_neg h]; omega
  · show max (max T.2.2.2.2 x.1) y.1 = max (max T.2.2.2.2 y.1) x.1
    omega
def rb_tao (T : Nat × Nat × Nat × Nat × Nat) (o : Option (Nat × Nat × Nat)) : Nat × Nat × Nat × Nat × Nat := match o with
  | some x => rb_ta T x
  | none => T
def rb_fo (V : Nat → Option (Nat × Nat × Nat)) : Nat → Nat × Nat × Nat × Nat × Nat → Nat × Nat × Nat × Nat × Nat
  | 0, T => T
  | k + 1, T => rb_tao (rb_fo V k T) (V k)
theorem rb_tao_com (T : Nat × Nat × Nat × Nat × Nat) (o p : Option (Nat × Nat × Nat)) : rb_tao (rb_tao T o) p = rb_tao (rb_tao T p) o := by
  cases o with
  | none => rfl
  | some x =>
    cases p with
    | none => rfl
    | some y => exact rb_ta_comm T x y
theorem rb_fo_tao (V : Nat → Option (Nat × Nat × Nat)) (o : Option (Nat × Nat × Nat)) (T : Nat × Nat × Nat × Nat × Nat) : ∀ k, rb_fo V k (rb_tao T o) = rb_tao (rb_fo V k T) o := by
  intro k
  induction k with
  | zero => rfl
  | succ k ih =>
    show rb_tao (rb_fo V k (rb_tao T o)) (V k) = rb_tao (rb_tao (rb_fo V k T) (V k)) o
    rw [ih, rb_tao_com]
theorem rb_fo_two {V V0 V1 : Nat → Option (Nat × Nat × Nat)} (T : Nat × Nat × Nat × Nat × Nat) : ∀ k, (∀ m, m < k → V (2 * m) = V0 m ∧ V (2 * m + 1) = V1 m) → rb_fo V (2 * k) T = rb_fo V1 k (rb_fo V0 k T) := by
  intro k
  induction k with
  | zero => intro _; rfl
  | succ k ih =>
    intro h
    have e : 2 * (k + 1) = 2 * k + 1 + 1 := by omega
    rw [e]
    show rb_tao (rb_tao (rb_fo V (2 * k) T) (V (2 * k))) (V (2 * k + 1)) = rb_tao (rb_fo V1 k (rb_tao (rb_fo V0 k T) (V0 k))) (V1 k)
    rw [ih (fun m hm => h m (by omega)), (h k (by omega)).1, (h k (by omega)).2, rb_fo_tao]
theorem rb_fo_congr {V V' : Nat → Option (Nat × Nat × Nat)} (T : Nat × Nat × Nat × Nat × Nat) : ∀ k, (∀ m, m < k → V m = V' m) → rb_fo V k T = rb_fo V' k T := by
  intro k
  induction k with
  | zero => intro _; rfl
  | succ k ih =>
    intro h
    show rb_tao (rb_fo V k T) (V k) = rb_tao (rb_fo V' k T) (V' k)
    rw [ih (fun m hm => h m (by omega)), h k (by omega)]
theorem rb_fo_one {V : Nat → Option (Nat × Nat × Nat)} {x : Nat × Nat × Nat} (T : Nat × Nat × Nat × Nat × Nat) (h0 : V 0 = some x) : ∀ k, (∀ m, 0 < m → m < k → V m = none) → 1 ≤ k → rb_fo V k T = rb_ta T x := by
  intro k
  induction k with
  | zero => intro _ h; omega
  | succ k ih =>
    intro h _
    by_cases hk : k = 0
    · subst hk
      show rb_tao T (V 0) = _
      rw [h0]; rfl
    · show rb_tao (rb_fo V k T) (V k) = _
      rw [ih (fun m h1 h2 => h m h1 (by omega)) (by omega), h k (by omega) (by omega)]; rfl
theorem rb_fo_cnt (V : Nat → Option (Nat × Nat × Nat)) (T : Nat × Nat × Nat × Nat × Nat) : ∀ k, T.1 ≤ (rb_fo V k T).1 ∧ (rb_fo V k T).1 ≤ T.1 + k := by
  intro k
  induction k with
  | zero => exact ⟨Nat.le_refl _, Nat.le_refl _⟩
  | succ k ih =>
    have e : rb_fo V (k + 1) T = rb_tao (rb_fo V k T) (V k) := rfl
    rw [e]
    cases V k with
    | none =>
      show T.1 ≤ (rb_fo V k T).1 ∧ (rb_fo V k T).1 ≤ _
      omega
    | some x =>
      show T.1 ≤ (rb_fo V k T).1 + 1 ∧ (rb_fo V k T).1 + 1 ≤ _
      omega
def rb_ok (T : Nat × Nat × Nat × Nat × Nat) : Prop := T.1 ≤ 2000 ∧ T.2.2.2.1 ≤ 128 ∧ T.2.2.2.2 ≤ 128
theorem rb_ok_ta {T : Nat × Nat × Nat × Nat × Nat} {x : Nat × Nat × Nat} (h : rb_ok T) (h1 : T.1 < 2000) (hx : x.1 ≤ 128) : rb_ok (rb_ta T x) := by
  obtain ⟨a, b, c⟩ := h
  refine ⟨by show T.1 + 1 ≤ 2000; omega, ?_, by show max T.2.2.2.2 x.1 ≤ 128; omega⟩
  show (if T.1 = 0 then x.1 else min T.2.2.2.1 x.1) ≤ 128
  by_cases h : T.1 = 0
  · rw [if_pos h]; exact hx
  · rw [if_neg h]; omega
def rb_enT (r : rb_Row) (T : Nat × Nat × Nat × Nat × Nat) : Prop := r 0 = nI T.1 ∧ r 1 = nI T.2.1 ∧ r 2 = nI T.2.2.1 ∧ r 3 = nI T.2.2.2.1 ∧ r 4 = nI T.2.2.2.2
def rb_erT (r : rb_Row) (T : Nat × Nat × Nat × Nat × Nat) : Prop := r 0 = nI T.1 ∧ r 1 = nI T.2.1 ∧ r 2 = nI T.2.2.1 ∧ r 3 = (if T.1 = 0 then mI else nI T.2.2.2.1) ∧ r 4 = nI T.2.2.2.2
/-- what a leaf counts -/
def rb_LF (t0 t1 : Nat) (base : Int32) (c : rb_Row) (x : Nat × Nat × Nat) : Prop := c (569 + t0) + c (569 + t1) = base + nI x.1 ∧ x.1 ≤ 128 ∧ x.2.1 = (if c (539 + t0) = mI ∧ c (539 + t1) = mI then 0 else 1) ∧ ∃ p0 p1, p0 ≤ 1 ∧ p1 ≤ 1 ∧ XX3_missesSome c (nI t0) = some (nI p0) ∧ XX3_missesSome c (nI t1) = some (nI p1) ∧ x.2.2 = (if p0 = 0 ∧ p1 = 0 then 0 else 1)
theorem rb_addsub (b v : Int32) : (b + v) - b = v := by rw [Int32.add_comm, Int32.add_sub_cancel]
theorem rb_minI {m k : Nat} (hm : m < 2 ^ 31) (hk : k < 2 ^ 31) : rb_min (nI m) (nI k) = nI (min m k) := by
  unfold rb_min
  by_cases h : k < m
  · rw [if_pos (by rw [nI_ltI hk hm]; exact h)]; exact congrArg nI (by omega)
  · rw [if_neg (by rw [nI_ltI hk hm]; exact h)]; exact congrArg nI (by omega)
theorem rb_maxI {m k : Nat} (hm : m < 2 ^ 31) (hk : k < 2 ^ 31) : rb_max (nI m) (nI k) = nI (max m k) := by
  unfold rb_max
  by_cases h : m < k
  · rw [if_pos (by rw [nI_ltI hm hk]; exact h)]; exact congrArg nI (by omega)
  · rw [if_neg (by rw [nI_ltI hm hk]; exact h)]; exact congrArg nI (by omega)
theorem rb_rd5 {r : rb_Row} {k : Nat} (hk : k < 5) : rb_rd r 5 (nI k) = some (r k) := rb_rdn hk (by omega)
theorem rb_wr5 {r : rb_Row} {k : Nat} (hk : k < 5) (v : Int32) : rb_wr r 5 (nI k) v = some (upd r k v) := rb_wrn hk (by omega)
theorem xn_countEnd {t0 t1 : Nat} (h0 : t0 < 6) (h1 : t1 < 6) {base : Int32} {c ty tf : rb_Row} {T : Nat × Nat × Nat × Nat × Nat} {x : Nat × Nat × Nat} (hL : rb_LF t0 t1 base c x) (hs0 : c (539 + t0) = mI ∨ ∃ y, y < 28 ∧ c (539 + t0) = nI y) (hs1 : c (539 + t1) = mI ∨ ∃ y, y < 28 ∧ c (539 + t1) = nI y) (f4 : tf 4 = nI t0) (f5 : tf 5 = nI t1) (f6 : tf 6 = base) (hT : rb_ok T) (hn : T.1 < 2000) (he : rb_enT ty T) : ∃ ty', XX3_countEnd ty c tf = some ty' ∧ rb_enT ty' (rb_ta T x) := by
  obtain ⟨l1, l2, l3, p0, p1, q0, q1, l4, l5, l6⟩ := hL
  obtain ⟨y0, y1, y2, y3, y4⟩ := he
  obtain ⟨o1, o2, o3⟩ := hT
  have rd : ∀ col t, col ≤ 569 → t < 6 → rb_rd c 773 (nI col + nI t) = some (c (col + t)) := fun col t hc ht => (congrArg (rb_rd c 773) (nI_add col t)).trans (rb_rdn (by omega) (by omega))
  have val : (c (569 + t0) + c (569 + t1)) - tf 6 = nI x.1 := by rw [l1, f6]; exact rb_addsub base _
  have hj7 : ((if ty 0 = 0 then some ((c (569 + t0) + c (569 + t1)) - (tf 6)) else (rb_rd ty 5 3).bind fun v11 => some (rb_min v11 ((c (569 + t0) + c (569 + t1)) - (tf 6)))) : Option Int32) = some (nI (if T.1 = 0 then x.1 else min T.2.2.2.1 x.1)) := by
    rw [val, y0]
    by_cases h : T.1 = 0
    · rw [if_pos h, h]; exact if_pos rfl
    · rw [if_neg h]
      have q : ¬ nI T.1 = (0 : Int32) := by rw [show (0 : Int32) = nI 0 from rfl, nI_eq (by omega) (by omega)]; exact h
      exact (if_neg q).trans (rb_bnd _ ((rb_rd5 (k := 3) (by omega)).trans (congrArg some y3)) (congrArg some (rb_minI (by omega) (by omega))))
  have a4 : rb_rd c 773 (569 + tf 4) = some (c (569 + t0)) := by rw [f4]; exact rd 569 t0 (by omega) h0
  have a5 : rb_rd c 773 (569 + tf 5) = some (c (569 + t1)) := by rw [f5]; exact rd 569 t1 (by omega) h1
  have b4 : rb_rd c 773 (539 + tf 4) = some (c (539 + t0)) := by rw [f4]; exact rd 539 t0 (by omega) h0
  have b5 : rb_rd c 773 (539 + tf 5) = some (c (539 + t1)) := by rw [f5]; exact rd 539 t1 (by omega) h1
  rw [← f4] at l4
  rw [← f5] at l5
  unfold XX3_countEnd
  obtain ⟨R, hR0, hR1, hR2, hR3, hR4, hpre⟩ : ∃ R : rb_Row, R 0 = nI (T.1 + 1) ∧ R 1 = nI T.2.1 ∧ R 2 = nI T.2.2.1 ∧ R 3 = nI (if T.1 = 0 then x.1 else min T.2.2.2.1 x.1) ∧ R 4 = nI (max T.2.2.2.2 x.1) ∧ ∀ {F : rb_Row → Option rb_Row} {o : rb_Row}, F R = some o → ((rb_rd c 773 (569 + (tf 4))).bind fun v1 => (rb_rd c 773 (569 + (tf 5))).bind fun v3 => (rb_rd ty 5 0).bind fun v5 => ((if v5 = 0 then some ((v1 + v3) - (tf 6)) else (rb_rd ty 5 3).bind fun v11 => some (rb_min v11 ((v1 + v3) - (tf 6)))) : Option (Int32)).bind fun j7 => (rb_wr ty 5 3 j7).bind fun ty13 => (rb_rd ty13 5 4).bind fun v15 => (rb_wr ty13 5 4 (rb_max v15 ((v1 + v3) - (tf 6)))).bind fun ty17 => (rb_rd ty17 5 0).bind fun v19 => (rb_wr ty17 5 0 (v19 + 1)).bind fun ty21 => F ty21) = some o := by
    refine ⟨upd (upd (upd ty 3 (nI (if T.1 = 0 then x.1 else min T.2.2.2.1 x.1))) 4 (nI (max T.2.2.2.2 x.1))) 0 (nI (T.1 + 1)), rb_upe rfl, ?_, ?_, ?_, ?_, fun hF => ?_⟩
    · rw [rb_upn (by omega), rb_upn (by omega), rb_upn (by omega)]; exact y1
    · rw [rb_upn (by omega), rb_upn (by omega), rb_upn (by omega)]; exact y2
    · rw [rb_upn (by omega), rb_upn (by omega)]; exact rb_upe rfl
    · rw [rb_upn (by omega)]; exact rb_upe rfl
    · have r4 : rb_rd (upd ty 3 (nI (if T.1 = 0 then x.1 else min T.2.2.2.1 x.1))) 5 4 = some (nI T.2.2.2.2) := (rb_rd5 (k := 4) (by omega)).trans (congrArg some ((rb_upn (by omega)).trans y4))
      have w4 : rb_wr (upd ty 3 (nI (if T.1 = 0 then x.1 else min T.2.2.2.1 x.1))) 5 4 (rb_max (nI T.2.2.2.2) ((c (569 + t0) + c (569 + t1)) - (tf 6))) = some (upd (upd ty 3 (nI (if T.1 = 0 then x.1 else min T.2.2.2.1 x.1))) 4 (nI (max T.2.2.2.2 x.1))) := (rb_wr5 (k := 4) (by omega) _).trans (congrArg (fun u => some (upd _ 4 u)) (by rw [val]; exact rb_maxI (by omega) (by omega)))
      have r0 : rb_rd (upd (upd ty 3 (nI (if T.1 = 0 then x.1 else min T.2.2.2.1 x.1))) 4 (nI (max T.2.2.2.2 x.1))) 5 0 = some (nI T.1) := (rb_rd5 (k := 0) (by omega)).trans (congrArg some ((rb_upn (by omega)).trans ((rb_upn (by omega)).trans y0)))
      have w0 : rb_wr (upd (upd ty 3 (nI (if T.1 = 0 then x.1 else min T.2.2.2.1 x.1))) 4 (nI (max T.2.2.2.2 x.1))) 5 0 (nI T.1 + 1) = some (upd (upd (upd ty 3 (nI (if T.1 = 0 then x.1 else min T.2.2.2.1 x.1))) 4 (nI (max T.2.2.2.2 x.1))) 0 (nI (T.1 + 1))) := (rb_wr5 (k := 0) (by omega) _).trans (congrArg (fun u => some (upd _ 0 u)) (nI_add T.1 1))
      exact rb_bnd _ a4 (rb_bnd _ a5 (rb_bnd _ (rb_rd5 (k := 0) (by omega)) (rb_bnd _ hj7 (rb_bnd _ (rb_wr5 (k := 3) (by omega) _) (rb_bnd _ r4 (rb_bnd _ w4 (rb_bnd _ r0 (rb_bnd _ w0 hF))))))))
  have hinc : ∀ (r : rb_Row) k, k < 5 → ∀ (v : Nat), r k = nI v → ((rb_rd r 5 (nI k)).bind fun v29 => (rb_wr r 5 (nI k) (v29 + 1)).bind fun ty31 => some ty31) = some (upd r k (nI (v + 1))) := fun r k hk v e => rb_bnd _ ((rb_rd5 hk).trans (congrArg some e)) (rb_bnd _ ((rb_wr5 hk _).trans (congrArg (fun u => some (upd r k u)) (nI_add v 1))) rfl)
  obtain ⟨S, hS, hS1, hSo⟩ : ∃ S : rb_Row, ((if 0 ≤ c (539 + t0) then (rb_rd R 5 1).bind fun v29 => (rb_wr R 5 1 (v29 + 1)).bind fun ty31 => some ty31 else (rb_rd c 773 (539 + (tf 5))).bind fun v33 => if v33 < 0 then some R else (rb_rd R 5 1).bind fun v36 => (rb_wr R 5 1 (v36 + 1)).bind fun ty38 => some ty38) : Option (rb_Row)) = some S ∧ S 1 = nI (T.2.1 + x.2.1) ∧ ∀ k, k ≠ 1 → S k = R k := by
    rcases hs0 with g0 | ⟨y, hy, g0⟩
    · have qa : ¬ (0 : Int32) ≤ c (539 + t0) := by rw [g0]; decide
      rcases hs1 with g1 | ⟨z, hz, g1⟩
      · refine ⟨R, (if_neg qa).trans (rb_bnd _ b5 (if_pos (by rw [g1]; decide))), ?_, fun _ _ => rfl⟩
        rw [l3, if_pos ⟨g0, g1⟩, hR1]; rfl
      · refine ⟨upd R 1 (nI (T.2.1 + 1)), (if_neg qa).trans (rb_bnd _ b5 ((if_neg (by rw [g1]; exact nI_pos (by omega))).trans (hinc R 1 (by omega) _ hR1))), ?_, fun k hk => rb_upn hk⟩
        rw [rb_upe rfl, l3, if_neg (fun g => by rw [g1] at g; exact rb_nmm (k := z) (by omega) g.2)]
    · have qa : (0 : Int32) ≤ c (539 + t0) := by rw [g0]; exact nI_pos' (by omega)
      refine ⟨upd R 1 (nI (T.2.1 + 1)), (if_pos qa).trans (hinc R 1 (by omega) _ hR1), ?_, fun k hk => rb_upn hk⟩
      rw [rb_upe rfl, l3, if_neg (fun g => by rw [g0] at g; exact rb_nmm (k := y) (by omega) g.1)]
  obtain ⟨U, hU, hU2, hUo⟩ : ∃ U : rb_Row, ((XX3_missesSome c (tf 4)).bind fun t40 => if t40 = 0 then (XX3_missesSome c (tf 5)).bind fun t43 => if t43 = 0 then some S else (rb_rd S 5 2).bind fun v46 => (rb_wr S 5 2 (v46 + 1)).bind fun ty48 => some ty48 else (rb_rd S 5 2).bind fun v50 => (rb_wr S 5 2 (v50 + 1)).bind fun ty52 => some ty52) = some U ∧ U 2 = nI (T.2.2.1 + x.2.2) ∧ ∀ k, k ≠ 2 → U k = S k := by
    have hS2 : S 2 = nI T.2.2.1 := (hSo 2 (by omega)).trans hR2
    by_cases e0 : p0 = 0
    · subst e0
      by_cases e1 : p1 = 0
      · subst e1
        refine ⟨S, rb_bnd _ l4 ((if_pos rfl).trans (rb_bnd _ l5 (if_pos rfl))), ?_, fun _ _ => rfl⟩
        rw [l6, if_pos ⟨rfl, rfl⟩, hS2]; rfl
      · have q : ¬ nI p1 = (0 : Int32) := by rw [show (0 : Int32) = nI 0 from rfl, nI_eq (by omega) (by omega)]; exact e1
        refine ⟨upd S 2 (nI (T.2.2.1 + 1)), rb_bnd _ l4 ((if_pos rfl).trans (rb_bnd _ l5 ((if_neg q).trans (hinc S 2 (by omega) _ hS2)))), ?_, fun k hk => rb_upn hk⟩
        rw [rb_upe rfl, l6, if_neg (fun g => e1 g.2)]
    · have q : ¬ nI p0 = (0 : Int32) := by rw [show (0 : Int32) = nI 0 from rfl, nI_eq (by omega) (by omega)]; exact e0
      refine ⟨upd S 2 (nI (T.2.2.1 + 1)), rb_bnd _ l4 ((if_neg q).trans (hinc S 2 (by omega) _ hS2)), ?_, fun k hk => rb_upn hk⟩
      rw [rb_upe rfl, l6, if_neg (fun g => e0 g.1)]
  refine ⟨U, hpre (rb_bnd _ b4 (rb_bnd _ hS hU)), ?_, ?_, hU2, ?_, ?_⟩
  · rw [hUo 0 (by omega), hSo 0 (by omega)]; exact hR0
  · rw [hUo 1 (by omega)]; exact hS1
  · rw [hUo 3 (by omega), hSo 3 (by omega)]; exact hR3
  · rw [hUo 4 (by omega), hSo 4 (by omega)]; exact hR4
