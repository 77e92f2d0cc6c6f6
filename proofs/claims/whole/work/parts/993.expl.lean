def bdE (fuel : Nat) (tf : rb_Row) (x0 : Int32) : (Int32 × Int32 × rb_Row × rb_Row × rb_Row × rb_Row × rb_Row) → Option ((Int32 × Int32 × rb_Row × rb_Row × rb_Row × rb_Row × rb_Row) ⊕ (Int32 × rb_Row × rb_Row × rb_Row × rb_Row × rb_Row)) := fun (s1 : Int32 × Int32 × rb_Row × rb_Row × rb_Row × rb_Row × rb_Row) => if 2 ≤ s1.2.1 then some (.inr (s1.1, s1.2.2.1, s1.2.2.2.1, s1.2.2.2.2.1, s1.2.2.2.2.2.1, s1.2.2.2.2.2.2)) else if 8 ≤ x0 then some (.inr (s1.1, s1.2.2.1, s1.2.2.2.1, s1.2.2.2.2.1, s1.2.2.2.2.2.1, s1.2.2.2.2.2.2)) else ((if s1.2.1 = 0 then some (tf 4) else some (tf 5)) : Option (Int32)).bind fun j11 => (XX4_canGo s1.2.2.1 j11).bind fun t15 => ((if t15 = 0 then some (s1.1, s1.2.2.1, s1.2.2.2.1, s1.2.2.2.2.1, s1.2.2.2.2.2.1, s1.2.2.2.2.2.2) else (rb_cp s1.2.2.1 773 0 s1.2.2.2.2.2.1 6184 (x0 * 773) 773).bind fun tr21 => (XX0_doStep s1.2.2.1 s1.2.2.2.1 s1.2.2.2.2.1 j11).bind fun t23 => (XX3_explore fuel t23.2.1 t23.2.2.1 t23.2.2.2 tr21 s1.2.2.2.2.2.2 tf (x0 + 1)).bind fun t25 => (rb_cp t25.2.2.2.1 6184 (x0 * 773) t25.1 773 0 773).bind fun c127 => some (1, c127, t25.2.1, t25.2.2.1, t25.2.2.2.1, t25.2.2.2.2)) : Option (Int32 × rb_Row × rb_Row × rb_Row × rb_Row × rb_Row)).bind fun j17 => some (.inl (j17.1, (s1.2.1 + 1), j17.2.1, j17.2.2.1, j17.2.2.2.1, j17.2.2.2.2.1, j17.2.2.2.2.2))
def bdO (x0 x1 : Int32) : (Int32 × Int32 × rb_Row × rb_Row × rb_Row × rb_Row × rb_Row × rb_Row × rb_Row × rb_Row × rb_Row) → Option ((Int32 × Int32 × rb_Row × rb_Row × rb_Row × rb_Row × rb_Row × rb_Row × rb_Row × rb_Row × rb_Row) ⊕ (Int32 × rb_Row × rb_Row × rb_Row × rb_Row × rb_Row × rb_Row × rb_Row × rb_Row × rb_Row)) := fun (s1 : Int32 × Int32 × rb_Row × rb_Row × rb_Row × rb_Row × rb_Row × rb_Row × rb_Row × rb_Row × rb_Row) => if 8 ≤ s1.2.1 then some (.inr (s1.1, s1.2.2.1, s1.2.2.2.1, s1.2.2.2.2.1, s1.2.2.2.2.2.1, s1.2.2.2.2.2.2.1, s1.2.2.2.2.2.2.2.1, s1.2.2.2.2.2.2.2.2.1, s1.2.2.2.2.2.2.2.2.2.1, s1.2.2.2.2.2.2.2.2.2.2)) else (XX7_canStep s1.2.2.1 x0).bind fun t10 => if t10 = 0 then (XX7_canStep s1.2.2.1 x1).bind fun t13 => if t13 = 0 then some (.inr (s1.1, s1.2.2.1, s1.2.2.2.1, s1.2.2.2.2.1, s1.2.2.2.2.2.1, s1.2.2.2.2.2.2.1, s1.2.2.2.2.2.2.2.1, s1.2.2.2.2.2.2.2.2.1, s1.2.2.2.2.2.2.2.2.2.1, s1.2.2.2.2.2.2.2.2.2.2)) else (XX7_canStep s1.2.2.1 x0).bind fun t16 => ((if t16 = 0 then some 0 else (XX7_canStep s1.2.2.1 x1).bind fun t22 => if t22 = 0 then some 0 else some 1) : Option (Int32)).bind fun j18 => ((if j18 = 0 then (XX7_canStep s1.2.2.1 x0).bind fun t29 => if t29 = 0 then some 1 else some 0 else some (s1.1 &&& 1)) : Option (Int32)).bind fun j25 => ((if j18 = 0 then some s1.1 else some (s1.1 >>> (1 &&& 31))) : Option (Int32)).bind fun j32 => ((if j25 = 0 then some x0 else some x1) : Option (Int32)).bind fun j36 => (XX7_goStep s1.2.2.1 s1.2.2.2.1 s1.2.2.2.2.1 s1.2.2.2.2.2.1 s1.2.2.2.2.2.2.1 s1.2.2.2.2.2.2.2.1 s1.2.2.2.2.2.2.2.2.1 s1.2.2.2.2.2.2.2.2.2.1 s1.2.2.2.2.2.2.2.2.2.2 j36).bind fun t40 => (rb_pf t40.2.2.2.2.1 13 t40.1).bind fun mf42 => some (.inl (j32, (s1.2.1 + 1), t40.2.1, t40.2.2.1, t40.2.2.2.1, mf42, t40.2.2.2.2.2.1, t40.2.2.2.2.2.2.1, t40.2.2.2.2.2.2.2.1, t40.2.2.2.2.2.2.2.2.1, t40.2.2.2.2.2.2.2.2.2)) else (XX7_canStep s1.2.2.1 x0).bind fun t44 => ((if t44 = 0 then some 0 else (XX7_canStep s1.2.2.1 x1).bind fun t50 => if t50 = 0 then some 0 else some 1) : Option (Int32)).bind fun j46 => ((if j46 = 0 then (XX7_canStep s1.2.2.1 x0).bind fun t57 => if t57 = 0 then some 1 else some 0 else some (s1.1 &&& 1)) : Option (Int32)).bind fun j53 => ((if j46 = 0 then some s1.1 else some (s1.1 >>> (1 &&& 31))) : Option (Int32)).bind fun j60 => ((if j53 = 0 then some x0 else some x1) : Option (Int32)).bind fun j64 => (XX7_goStep s1.2.2.1 s1.2.2.2.1 s1.2.2.2.2.1 s1.2.2.2.2.2.1 s1.2.2.2.2.2.2.1 s1.2.2.2.2.2.2.2.1 s1.2.2.2.2.2.2.2.2.1 s1.2.2.2.2.2.2.2.2.2.1 s1.2.2.2.2.2.2.2.2.2.2 j64).bind fun t68 => (rb_pf t68.2.2.2.2.1 13 t68.1).bind fun mf70 => some (.inl (j60, (s1.2.1 + 1), t68.2.1, t68.2.2.1, t68.2.2.2.1, mf70, t68.2.2.2.2.2.1, t68.2.2.2.2.2.2.1, t68.2.2.2.2.2.2.2.1, t68.2.2.2.2.2.2.2.2.1, t68.2.2.2.2.2.2.2.2.2))
theorem xn_explore (fuel : Nat) (c g f tr ty tf : rb_Row) (x0 : Int32) : XX3_explore (fuel + 1) c g f tr ty tf x0 = (rb_lp (bdE fuel tf x0) 100000 (0, 0, c, g, f, tr, ty)).bind fun q2 => if q2.1 = 0 then (XX3_countEnd q2.2.2.2.2.2 q2.2.1 tf).bind fun t30 => some (q2.2.1, q2.2.2.1, q2.2.2.2.1, q2.2.2.2.2.1, t30) else some (q2.2.1, q2.2.2.1, q2.2.2.2.1, q2.2.2.2.2.1, q2.2.2.2.2.2) := rfl
theorem rb_lpl {σ ρ : Type} {body : σ → Option (σ ⊕ ρ)} {s s' : σ} {N : Nat} (h : body s = some (.inl s')) : rb_lp body (N + 1) s = rb_lp body N s' := by
  show (body s).bind _ = _
  rw [h]; rfl
theorem rb_lpr {σ ρ : Type} {body : σ → Option (σ ⊕ ρ)} {s : σ} {r : ρ} {N : Nat} (h : body s = some (.inr r)) : rb_lp body (N + 1) s = some r := by
  show (body s).bind _ = _
  rw [h]; rfl
def rb_go (c : rb_Row) (t : Nat) : Prop := c (539 + t) = mI ∧ c (599 + t) ≠ nI 0
theorem rp_goes {B q : Nat} {c a : rb_Row} (h : rb_RB B q c a) {t : Nat} (ht : t < 6) : (rb_go c t → XX4_canGo c (nI t) = some (nI 1) ∧ XX7_canStep a (nI t) = some (nI 1)) ∧ (¬ rb_go c t → XX4_canGo c (nI t) = some (nI 0) ∧ XX7_canStep a (nI t) = some (nI 0)) := by
  obtain ⟨n, π, s, s', hR, _⟩ := h
  rcases rp_canGo hR ht with ⟨l, l1, l4, g1, g2, g3, g4⟩ | ⟨g1, g3, g4⟩
  · refine ⟨fun _ => ⟨g3, g4⟩, fun q => absurd ⟨g1, ?_⟩ q⟩
    rw [g2]
    exact fun e => by have := (nI_eq (by omega) (by omega)).mp e; omega
  · refine ⟨fun q => ?_, fun _ => ⟨g3, g4⟩⟩
    rcases g1 with g | g
    · exact absurd q.1 g
    · exact absurd g q.2
def rb_ND (t0 t1 : Nat) (base : Int32) (d l0 l1 K : Nat) (c : rb_Row) : Prop := c (593 + t0) = nI 0 ∧ c (593 + t1) = nI 0 ∧ c (599 + t0) = nI l0 ∧ c (599 + t1) = nI l1 ∧ l0 ≤ 4 ∧ l1 ≤ 4 ∧ c (569 + t0) + c (569 + t1) = base + nI K ∧ K ≤ 16 * d
theorem rb_ND_congr {t0 t1 : Nat} (h0 : t0 < 6) (h1 : t1 < 6) {base : Int32} {d l0 l1 K : Nat} {c c' : rb_Row} (h : rb_ND t0 t1 base d l0 l1 K c) (hc : ∀ i, i < 773 → c' i = c i) : rb_ND t0 t1 base d l0 l1 K c' := by
  unfold rb_ND
  rw [hc _ (by omega), hc _ (by omega), hc _ (by omega), hc _ (by omega), hc _ (by omega), hc _ (by omega)]
  exact h
theorem rb_go_congr {t : Nat} (ht : t < 6) {c c' : rb_Row} (hc : ∀ i, i < 773 → c' i = c i) : rb_go c' t ↔ rb_go c t := by
  unfold rb_go
  rw [hc _ (by omega), hc _ (by omega)]
/-- the orders from a place on, by numbers -/
def rb_RF (B q BL t0 t1 : Nat) (base : Int32) (V : Nat → Option (Nat × Nat × Nat)) (d k : Nat) (c : rb_Row) : Prop := ∀ m, m < 2 ^ k → ∀ (a rd ag mf na nb nl sv wa : rb_Row) (N : Nat), rb_RB B q c a → 9 ≤ N + d → ∃ m' a' rd' ag' mf' na' nb' nl' sv', rb_lp (bdO (nI t0) (nI t1)) N (nI m, nI d, a, rd, ag, mf, na, nb, nl, sv, wa) = some (nI m', a', rd', ag', mf', na', nb', nl', sv', wa) ∧ mf' 16 = mf 16 ∧ mf' 17 = mf 17 ∧ m' < 256 ∧ XX7_canStep a' (nI t0) = some (nI 0) ∧ XX7_canStep a' (nI t1) = some (nI 0) ∧ ((∃ x, V m = some x ∧ m' = 0 ∧ ∃ c', rb_RB BL q c' a' ∧ rb_LF t0 t1 base c' x) ∨ (V m = none ∧ m' ≠ 0))
def rb_EX (t0 t1 : Nat) (base : Int32) (BL q L : Nat) : Prop := ∀ (fuel d k l0 l1 K B : Nat) (c g f tr ty tf : rb_Row) (T : Nat × Nat × Nat × Nat × Nat), l0 + l1 = L → d + L ≤ 8 → L ≤ k → k ≤ 8 → fuel + d = 10 → B + 2200 * L ≤ BL → rb_ND t0 t1 base d l0 l1 K c → (∃ a, rb_RB B q c a) → tf 4 = nI t0 → tf 5 = nI t1 → tf 6 = base → rb_ok T → T.1 + 2 ^ k ≤ 1000 → rb_enT ty T → ∃ c' g' f' tr' ty' V, XX3_explore fuel c g f tr ty tf (nI d) = some (c', g', f', tr', ty') ∧ (∀ i, i < 773 → c' i = c i) ∧ (∀ i, i < d * 773 → tr' i = tr i) ∧ rb_enT ty' (rb_fo V (2 ^ k) T) ∧ rb_ok (rb_fo V (2 ^ k) T) ∧ T.1 < (rb_fo V (2 ^ k) T).1 ∧ rb_RF B q BL t0 t1 base V d k c
theorem rp_LF {B q : Nat} {c a : rb_Row} (h : rb_RB B q c a) (hb : B + q + 1000 < 2000000000) {t0 t1 : Nat} (h0 : t0 < 6) (h1 : t1 < 6) {base : Int32} {K : Nat} (hK : K ≤ 128) (e : c (569 + t0) + c (569 + t1) = base + nI K) : ∃ x, rb_LF t0 t1 base c x ∧ x.1 ≤ 128 := by
  obtain ⟨n, π, s, s', hR, hB⟩ := h
  have hsq := hR.1.2.2.2.2.2.1
  obtain ⟨rd', er, hrd⟩ := yn_layReady hR (by omega) c
  have ex : ∀ t, t < 6 → ∃ p, p ≤ 1 ∧ XX3_missesSome c (nI t) = some (nI p) := fun t ht => by
    rcases rp_miss hR (by omega) hrd ht with ⟨_, g, _⟩ | ⟨_, cnt, _, _, _, g, _⟩
    · exact ⟨0, by omega, g⟩
    · refine ⟨_, ?_, g⟩
      by_cases z : cnt = 0
      · rw [if_pos z]; omega
      · rw [if_neg z]; omega
  obtain ⟨p0, a0, b0⟩ := ex t0 h0
  obtain ⟨p1, a1, b1⟩ := ex t1 h1
  exact ⟨(K, _, _), ⟨e, hK, rfl, p0, p1, a0, a1, b0, b1, rfl⟩, hK⟩
theorem rb_two1 (k : Nat) : 1 ≤ 2 ^ k := Nat.one_le_two_pow
theorem re_leaf {t0 t1 : Nat} (h0 : t0 < 6) (h1 : t1 < 6) {base : Int32} {BL q : Nat} (hBL : BL + q + 60000 < 2000000000) {fuel d k l0 l1 K B : Nat} {c g f tr ty tf : rb_Row} {T : Nat × Nat × Nat × Nat × Nat} (hd : d ≤ 8) (hk : k ≤ 8) (hB : B ≤ BL) (hN : rb_ND t0 t1 base d l0 l1 K c) (hRB : ∃ a, rb_RB B q c a) (f4 : tf 4 = nI t0) (f5 : tf 5 = nI t1) (f6 : tf 6 = base) (hT : rb_ok T) (hT2 : T.1 + 2 ^ k ≤ 1000) (hE : rb_enT ty T) (g0 : ¬ rb_go c t0) (g1 : ¬ rb_go c t1) : ∃ c' g' f' tr' ty' V, XX3_explore (fuel + 1) c g f tr ty tf (nI d) = some (c', g', f', tr', ty') ∧ (∀ i, i < 773 → c' i = c i) ∧ (∀ i, i < d * 773 → tr' i = tr i) ∧ rb_enT ty' (rb_fo V (2 ^ k) T) ∧ rb_ok (rb_fo V (2 ^ k) T) ∧ T.1 < (rb_fo V (2 ^ k) T).1 ∧ rb_RF B q BL t0 t1 base V d k c := by
  obtain ⟨a0, hR0⟩ := hRB
  have h2k := rb_two1 k
  obtain ⟨x, hx, hx1⟩ := rp_LF hR0 (by omega) h0 h1 (show K ≤ 128 by have := hN.2.2.2.2.2.2.2; omega) hN.2.2.2.2.2.2.1
  obtain ⟨n, π, s, s', hRR, _⟩ := id hR0
  have slp : ∀ t, t < 6 → c (539 + t) = mI ∨ ∃ y, y < 28 ∧ c (539 + t) = nI y := fun t ht => by
    rcases hRR.2.2.2.2.2.2.1 t ht with g | ⟨⟨y, hy, g, _⟩, _⟩
    · exact Or.inl g
    · exact Or.inr ⟨y, hy, g⟩
  obtain ⟨ty', ce, en'⟩ := xn_countEnd h0 h1 hx (slp t0 h0) (slp t1 h1) f4 f5 f6 hT (by omega) hE
  have cg0 := ((rp_goes hR0 h0).2 g0).1
  have cg1 := ((rp_goes hR0 h1).2 g1).1
  have fo : rb_fo (fun m => if m = 0 then some x else none) (2 ^ k) T = rb_ta T x := rb_fo_one T (if_pos rfl) (2 ^ k) (fun m h1 _ => if_neg (by omega)) h2k
  refine ⟨c, g, f, tr, ty', fun m => if m = 0 then some x else none, ?_, fun _ _ => rfl, fun _ _ => rfl, by rw [fo]; exact en', by rw [fo]; exact rb_ok_ta hT (by omega) hx1, by rw [fo]; exact Nat.lt_succ_self _, ?_⟩
  · have lp : rb_lp (bdE fuel tf (nI d)) 100000 (0, 0, c, g, f, tr, ty) = some (0, c, g, f, tr, ty) := by
      have q2 : ¬ (2 : Int32) ≤ 0 := by decide
      have q21 : ¬ (2 : Int32) ≤ nI 1 := by decide
      have n10 : ¬ nI 1 = (0 : Int32) := by decide
      by_cases d8 : d = 8
      · subst d8
        exact rb_lpr ((if_neg q2).trans (if_pos (show (8 : Int32) ≤ nI 8 by decide)))
      · have q8 : ¬ (8 : Int32) ≤ nI d := by rw [show (8 : Int32) = nI 8 from rfl, nI_leI (by omega) (by omega)]; omega
        have s0 : bdE fuel tf (nI d) (0, 0, c, g, f, tr, ty) = some (.inl (0, nI 1, c, g, f, tr, ty)) := (if_neg q2).trans ((if_neg q8).trans (rb_bnd (nI t0) ((if_pos rfl).trans (congrArg some f4)) (rb_bnd _ cg0 (rb_bnd (0, c, g, f, tr, ty) (if_pos rfl) rfl))))
        have s1 : bdE fuel tf (nI d) (0, nI 1, c, g, f, tr, ty) = some (.inl (0, nI 2, c, g, f, tr, ty)) := (if_neg q21).trans ((if_neg q8).trans (rb_bnd (nI t1) ((if_neg n10).trans (congrArg some f5)) (rb_bnd _ cg1 (rb_bnd (0, c, g, f, tr, ty) (if_pos rfl) rfl))))
        have s2 : bdE fuel tf (nI d) (0, nI 2, c, g, f, tr, ty) = some (.inr (0, c, g, f, tr, ty)) := if_pos (show (2 : Int32) ≤ nI 2 by decide)
        exact (rb_lpl s0).trans ((rb_lpl s1).trans (rb_lpr s2))
    rw [xn_explore]
    exact rb_bnd _ lp ((if_pos rfl).trans (rb_bnd _ ce rfl))
  · intro m hm a rd ag mf na nb nl sv wa N hR hN9
    have hm8 : m < 256 := Nat.lt_of_lt_of_le hm (show 2 ^ k ≤ 2 ^ 8 from Nat.pow_le_pow_right (by omega) hk)
    have st0 := ((rp_goes hR h0).2 g0).2
    have st1 := ((rp_goes hR h1).2 g1).2
    obtain ⟨N', eN⟩ : ∃ N', N = N' + 1 := ⟨N - 1, by omega⟩
    subst eN
    refine ⟨m, a, rd, ag, mf, na, nb, nl, sv, rb_lpr ?_, rfl, rfl, hm8, st0, st1, ?_⟩
    · by_cases d8 : d = 8
      · subst d8
        exact if_pos (show (8 : Int32) ≤ nI 8 by decide)
      · have q8 : ¬ (8 : Int32) ≤ nI d := by rw [show (8 : Int32) = nI 8 from rfl, nI_leI (by omega) (by omega)]; omega
        exact (if_neg q8).trans (rb_bnd _ st0 ((if_pos rfl).trans (rb_bnd _ st1 (if_pos rfl))))
    · by_cases m0 : m = 0
      · exact Or.inl ⟨x, if_pos m0, m0, c, rb_RB_mono hR hB, hx⟩
      · exact Or.inr ⟨if_neg m0, m0⟩
theorem rb_cpt1 (c tr : rb_Row) {d : Nat} (hd : d < 8) : rb_cp c 773 0 tr 6184 (nI d * 773) 773 = some (va_cpy c tr 0 (d * 773) 773) := (congrArg (fun u => rb_cp c 773 0 tr 6184 u 773) (nI_mul d 773)).trans (rb_cpn (sp := 0) (n := 773) (by omega) (by omega) (by omega) (by omega))
theorem rb_cpt2 (tr c : rb_Row) {d : Nat} (hd : d < 8) : rb_cp tr 6184 (nI d * 773) c 773 0 773 = some (va_cpy tr c (d * 773) 0 773) := (congrArg (fun u => rb_cp tr 6184 u c 773 0 773) (nI_mul d 773)).trans (rb_cpn (dp := 0) (n := 773) (by omega) (by omega) (by omega) (by omega))
theorem rb_trback {c tr tr2 c2 : rb_Row} {d i : Nat} (hi : i < 773) (h : ∀ i, i < (d + 1) * 773 → tr2 i = va_cpy c tr 0 (d * 773) 773 i) : va_cpy tr2 c2 (d * 773) 0 773 i = c i := by
  rw [rb_vcin (by omega) (by omega), h _ (by omega), rb_vcin (by omega) (by omega)]
  exact congrArg c (by omega)
theorem rb_trlow {c tr tr2 : rb_Row} {d i : Nat} (hi : i < d * 773) (h : ∀ i, i < (d + 1) * 773 → tr2 i = va_cpy c tr 0 (d * 773) 773 i) : tr2 i = tr i := by
  rw [h i (Nat.lt_of_lt_of_le hi (Nat.mul_le_mul_right 773 (Nat.le_succ d)))]
  exact rb_vcout (by omega)
theorem rb_sum4 (x y p r : Int32) : (x + p) + (y + r) = (x + y) + (p + r) := by
  rw [Int32.add_assoc, ← Int32.add_assoc p y r, Int32.add_comm p y, Int32.add_assoc y p r, ← Int32.add_assoc]
theorem re_child {t0 t1 : Nat} (h0 : t0 < 6) (h1 : t1 < 6) (hne : t0 ≠ t1) {base : Int32} {BL q L : Nat} (hBL : BL + q + 60000 < 2000000000) (ih : rb_EX t0 t1 base BL q L) {fuel d k l0 l1 K B : Nat} {c g f tr ty tf : rb_Row} {T : Nat × Nat × Nat × Nat × Nat} (hL : l0 + l1 = L + 1) (hd : d + (L + 1) ≤ 8) (hk : L ≤ k) (hk8 : k ≤ 8) (hf : fuel + (d + 1) = 10) (hB : B + 2200 * (L + 1) ≤ BL) (hN : rb_ND t0 t1 base d l0 l1 K c) (hRB : ∃ a, rb_RB B q c a) (f4 : tf 4 = nI t0) (f5 : tf 5 = nI t1) (f6 : tf 6 = base) (hT : rb_ok T) (hT2 : T.1 + 2 ^ k ≤ 1000) (hE : rb_enT ty T) {j t : Nat} (hj : j = 0 ∧ t = t0 ∨ j = 1 ∧ t = t1) (hgo : rb_go c t) (any : Int32) : ∃ c1 c3 g3 f3 tr3 ty3 V, bdE fuel tf (nI d) (any, nI j, c, g, f, tr, ty) = some (.inl (nI 1, nI (j + 1), c3, g3, f3, tr3, ty3)) ∧ (∀ i, i < 773 → c3 i = c i) ∧ (∀ i, i < d * 773 → tr3 i = tr i) ∧ rb_enT ty3 (rb_fo V (2 ^ k) T) ∧ rb_ok (rb_fo V (2 ^ k) T) ∧ T.1 < (rb_fo V (2 ^ k) T).1 ∧ rb_RF (B + 2200) q BL t0 t1 base V (d + 1) k c1 ∧ (∀ a rd ag mf na nb nl sv wa, rb_RB B q c a → ∃ ans a1 rd1 ag1 mf1 na1 nb1 nl1 sv1, XX7_goStep a rd ag mf na nb nl sv wa (nI t) = some (ans, a1, rd1, ag1, mf1, na1, nb1, nl1, sv1, wa) ∧ mf1 16 = mf 16 ∧ mf1 17 = mf 17 ∧ rb_RB (B + 2200) q c1 a1) := by
  obtain ⟨a0, hR0⟩ := hRB
  have ht : t < 6 := by rcases hj with ⟨_, e⟩ | ⟨_, e⟩ <;> omega
  obtain ⟨n1, n2, n3, n4, n5, n6, n7, n8⟩ := hN
  obtain ⟨l, el, hl4, hcl⟩ : ∃ l, c (599 + t) = nI l ∧ l ≤ 4 ∧ (j = 0 ∧ l = l0 ∨ j = 1 ∧ l = l1) := by
    rcases hj with ⟨e, e'⟩ | ⟨e, e'⟩
    · subst e'; exact ⟨l0, n3, n5, Or.inl ⟨e, rfl⟩⟩
    · subst e'; exact ⟨l1, n4, n6, Or.inr ⟨e, rfl⟩⟩
  have hl1 : 1 ≤ l := by
    rcases Nat.eq_zero_or_pos l with e | e
    · exfalso; apply hgo.2; rw [el, e]
    · exact e
  have hr0 : c (593 + t) = nI 0 := by rcases hj with ⟨_, e⟩ | ⟨_, e⟩ <;> subst e <;> assumption
  obtain ⟨ans, c1, g1, f1, a1, rd1, ag1, mf1, na1, nb1, nl1, sv1, s1, s2, s3, s4, s5, s6, s7, s8⟩ := ra_step hR0 (by omega) ht hl1 hl4 el g f c c c c c c c c
  obtain ⟨k0, kk0, ek0⟩ := s8 t0 h0
  obtain ⟨k1, kk1, ek1⟩ := s8 t1 h1
  have hN1 : rb_ND t0 t1 base (d + 1) (if j = 0 then l0 - 1 else l0) (if j = 0 then l1 else l1 - 1) (K + (k0 + k1)) c1 := by
    refine ⟨(s5 (593 + t0) (Nat.le_add_right _ _) (by omega)).trans n1, (s5 (593 + t1) (Nat.le_add_right _ _) (by omega)).trans n2, ?_, ?_, ?_, ?_, ?_, by omega⟩
    · rcases hj with ⟨e, e'⟩ | ⟨e, e'⟩
      · subst e e'
        rw [if_pos rfl]
        rcases hcl with ⟨_, z⟩ | ⟨z, _⟩
        · subst z; exact s7 hr0
        · omega
      · subst e e'
        rw [if_neg (by omega)]
        exact (s6 t0 h0 hne).trans n3
    · rcases hj with ⟨e, e'⟩ | ⟨e, e'⟩
      · subst e e'
        rw [if_pos rfl]
        exact (s6 t1 h1 (fun z => hne z.symm)).trans n4
      · subst e e'
        rw [if_neg (by omega)]
        rcases hcl with ⟨z, _⟩ | ⟨_, z⟩
        · omega
        · subst z; exact s7 hr0
    · rcases hj with ⟨e, _⟩ | ⟨e, _⟩
      · rw [if_pos e]; omega
      · rw [if_neg (by omega)]; exact n5
    · rcases hj with ⟨e, _⟩ | ⟨e, _⟩
      · rw [if_pos e]; exact n6
      · rw [if_neg (by omega)]; omega
    · rw [ek0, ek1, rb_sum4, n7, Int32.add_assoc, nI_add, nI_add]
  have hsum : (if j = 0 then l0 - 1 else l0) + (if j = 0 then l1 else l1 - 1) = L := by
    rcases hj with ⟨e, _⟩ | ⟨e, _⟩
    · rw [if_pos e, if_pos e]
      rcases hcl with ⟨_, z⟩ | ⟨z, _⟩ <;> omega
    · rw [if_neg (by omega), if_neg (by omega)]
      rcases hcl with ⟨z, _⟩ | ⟨_, z⟩ <;> omega
  obtain ⟨c2, g2, f2, tr2, ty2, V, x1, x2, x3, x4, x5, x6, x7⟩ := ih fuel (d + 1) k _ _ _ (B + 2200) c1 g1 f1 (va_cpy c tr 0 (d * 773) 773) ty tf T hsum (by omega) hk hk8 hf (by omega) hN1 ⟨a1, s3⟩ f4 f5 f6 hT hT2 hE
  have cp1 := rb_cpt1 c tr (show d < 8 by omega)
  have cp2 := rb_cpt2 tr2 c2 (show d < 8 by omega)
  have cg := ((rp_goes hR0 ht).1 hgo).1
  have n10 : ¬ nI 1 = (0 : Int32) := by decide
  have q8 : ¬ (8 : Int32) ≤ nI d := by rw [show (8 : Int32) = nI 8 from rfl, nI_leI (by omega) (by omega)]; omega
  have q2 : ¬ (2 : Int32) ≤ nI j := by rw [show (2 : Int32) = nI 2 from rfl, nI_leI (by omega) (by omega)]; omega
  have j11 : ((if nI j = 0 then some (tf 4) else some (tf 5)) : Option Int32) = some (nI t) := by
    rcases hj with ⟨e, e'⟩ | ⟨e, e'⟩
    · subst e e'; exact (if_pos rfl).trans (congrArg some f4)
    · subst e e'; exact (if_neg n10).trans (congrArg some f5)
  have x1' : XX3_explore fuel c1 g1 f1 (va_cpy c tr 0 (d * 773) 773) ty tf (nI d + 1) = some (c2, g2, f2, tr2, ty2) := (congrArg (XX3_explore fuel c1 g1 f1 (va_cpy c tr 0 (d * 773) 773) ty tf) (nI_add d 1)).trans x1
  refine ⟨c1, va_cpy tr2 c2 (d * 773) 0 773, g2, f2, tr2, ty2, V, ?_, fun i hi => ?_, fun i hi => ?_, x4, x5, x6, x7, fun a rd ag mf na nb nl sv wa hR => ?_⟩
  · refine (if_neg q2).trans ((if_neg q8).trans (rb_bnd _ j11 (rb_bnd _ cg (rb_bnd (nI 1, va_cpy tr2 c2 (d * 773) 0 773, g2, f2, tr2, ty2) ((if_neg n10).trans (rb_bnd _ cp1 (rb_bnd _ s1 (rb_bnd _ x1' (rb_bnd _ cp2 rfl))))) ?_))))
    exact congrArg (fun u => some (Sum.inl (nI 1, u, va_cpy tr2 c2 (d * 773) 0 773, g2, f2, tr2, ty2))) (nI_add j 1)
  · exact rb_trback hi x3
  · exact rb_trlow hi x3
  · obtain ⟨ans', c1', g1', f1', a1', rd1', ag1', mf1', na1', nb1', nl1', sv1', u1, u2, u3, u4, _⟩ := ra_step hR (by omega) ht hl1 hl4 el g f rd ag mf na nb nl sv wa
    rw [s1] at u1
    have eq := Option.some.inj u1
    have ec : c1 = c1' := congrArg (fun z : Int32 × rb_Row × rb_Row × rb_Row => z.2.1) eq
    exact ⟨ans', a1', rd1', ag1', mf1', na1', nb1', nl1', sv1', u2, u4 16 (by omega) (by omega), u4 17 (by omega) (by omega), by rw [ec]; exact u3⟩
