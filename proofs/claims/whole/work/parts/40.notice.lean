/-- how many interests aim at an object, from one on -/
def rb_cf (cb : rb_Row) (n x i : Nat) : Nat := rb_cn (fun j => decide (i ≤ j) && decide (cb (323 + j) = nI x)) n
theorem rb_cf_eq {cb : rb_Row} {n x i : Nat} (hi : i < n) (e : cb (323 + i) = nI x) : rb_cf cb n x i = rb_cf cb n x (i + 1) + 1 := by
  unfold rb_cf
  refine rb_cn_drop hi (by simp [e]) (by simp; intro h; omega) (fun j hj hne => ?_)
  have : (i ≤ j) = (i + 1 ≤ j) := propext ⟨fun h => by omega, fun h => by omega⟩
  simp only [this]
theorem rb_cf_ne {cb : rb_Row} {n x i : Nat} (e : ¬ cb (323 + i) = nI x) : rb_cf cb n x i = rb_cf cb n x (i + 1) := by
  unfold rb_cf
  refine rb_cn_congr (fun j hj => ?_)
  by_cases g : j = i
  · subst g; simp [e]
  · have : (i ≤ j) = (i + 1 ≤ j) := propext ⟨fun h => by omega, fun h => by omega⟩
    simp only [this]
/-- what a notice to a set does, on both sides -/
def rb_NS (z q n : Nat) (π : Nat → Nat) (cb ab : rb_Row) (k L lv y cw ci : Nat) (bit : Int32) : Prop := ∀ (W s s' : Nat) (c g f a rd ag mf na nb nl sv : rb_Row), rR z W q n π s s' c a → rF cb c → rG ab a → s + 8 * rb_asl c + cw + q + 3000 < 2000000000 → W + cw + 20 < 2000000000 → na L = nI y → nb L = bit → nl L = nI 0 → sv L = nI 0 → ∃ (st v : Nat) (c' g' f' a' rd' ag' mf' na' nb' nl' sv' : rb_Row), XX0_sendNotice k c g f (nI y) bit (nI lv) = some (c', g', f') ∧ rb_rn (bdR 0) st (nI L, a, rd, ag, mf, na, nb, nl, sv) (nI L + mI, a', rd', ag', mf', na', nb', nl', sv') ∧ st ≤ ci ∧ v ≤ cw ∧ rb_NQ z W q n π s c a f mf v c' f' a' mf' ∧ (∀ j, j < L → na' j = na j ∧ nb' j = nb j ∧ nl' j = nl j ∧ sv' j = sv j)
set_option maxHeartbeats 8000000 in
theorem rp_loop {z q n : Nat} {π : Nat → Nat} {cb ab : rb_Row} {k L lv x cw ci : Nat} {bit : Int32} (hx : x < 28) (hL : L + 1 < 6) (hn : n ≤ 24) (hrec : ∀ i y, i < n → cb (323 + i) = nI x → y < 28 → cb (299 + i) = nI y → rb_NS z q n π cb ab k (L + 1) (lv + 1) y cw ci (nI 1)) : ∀ d i, i + d = n → ∀ (W s s' svn : Nat) (c g f a rd ag mf na nb nl sv : rb_Row), rR z W q n π s s' c a → rF cb c → rG ab a → svn ≤ 1 → s + 8 * rb_asl c + rb_cf cb n x i * (1 + cw) + q + 3000 < 2000000000 → W + rb_cf cb n x i * (1 + cw) + 20 < 2000000000 → na L = nI x → nb L = bit → sv L = nI svn → (∀ j, j < n → cb (323 + j) = nI x → (nl L < ab (296 + 11 * π j + 6) ↔ i ≤ j)) → ∃ (st v : Nat) (c' g' f' a' rd' ag' mf' na' nb' nl' sv' : rb_Row), (∀ N, d < N → rb_lp (bdC k (nI x) bit (nI lv) (nI n)) N (nI svn, nI i, c, g, f) = some (c', g', f')) ∧ rb_rn (bdR 0) st (nI L, a, rd, ag, mf, na, nb, nl, sv) (nI L + mI, a', rd', ag', mf', na', nb', nl', sv') ∧ st ≤ rb_cf cb n x i * (1 + ci) + 1 ∧ v ≤ rb_cf cb n x i * (1 + cw) ∧ rb_NQ z W q n π s c a f mf v c' f' a' mf' ∧ (∀ j, j < L → na' j = na j ∧ nb' j = nb j ∧ nl' j = nl j ∧ sv' j = sv j) := by
  intro d
  induction d with
  | zero =>
    intro i hid W s s' svn c g f a rd ag mf na nb nl sv hR hF hG hsv hB hW ena enb esv hl
    have hss : s ≤ s' := hR.1.2.2.2.2.1
    have hsq : s' ≤ s + q := hR.1.2.2.2.2.2.1
    refine ⟨1, 0, c, g, f, a, rd, ag, mf, na, nb, nl, sv, ?_, ?_, by omega, by omega, rb_NQ_refl hR, fun _ _ => ⟨rfl, rfl, rfl, rfl⟩⟩
    · intro N hN
      exact rb_rne rb_rn0 (rs_C0 (by omega) (by omega)) hN
    · refine rb_rn1 (rs_R0 (by omega) ena (rp_added_no hR.2.2.1 (x := x) (nl L) (fun j hj e => ?_)))
      have e' : cb (323 + j) = nI x := by rw [← hF (323 + j) (by omega)]; exact e
      rw [hG.2.2.1 (π j) 6 (hR.2.2.1.1 j hj).1 (by omega), hl j hj e']
      omega
  | succ d ih =>
    intro i hid W s s' svn c g f a rd ag mf na nb nl sv hR hF hG hsv hB hW ena enb esv hl
    have hss : s ≤ s' := hR.1.2.2.2.2.1
    have hsq : s' ≤ s + q := hR.1.2.2.2.2.2.1
    have hi : i < n := by omega
    have hI := hR.2.2.1
    have hp := (hI.1 i hi).1
    have hIn := hI.1 i hi
    by_cases hx' : cb (323 + i) = nI x
    · have hxc : c (323 + i) = nI x := by rw [hF (323 + i) (by omega)]; exact hx'
      obtain ⟨_, _, _, ⟨w, hw, ew⟩, _⟩ := hI.2.2.2.1 i hi
      obtain ⟨y, hy, ey, _⟩ := hI.2.1 i hi
      have ewA : a (296 + 11 * π i + 4) = nI w := by rw [hIn.2.2.2.2.2]; exact ew
      have hlc : ∀ j, j < n → c (323 + j) = nI x → (nl L < a (296 + 11 * π j + 6) ↔ i ≤ j) := by
        intro j hj e
        rw [hG.2.2.1 (π j) 6 (hI.1 j hj).1 (by omega)]
        exact hl j hj (by rw [← hF (323 + j) (by omega)]; exact e)
      have eadd := rp_added_at hI (by omega) hi hx hxc (nl L) hlc
      have hcf := rb_cf_eq hi hx'
      have hmul : rb_cf cb n x i * (1 + cw) = rb_cf cb n x (i + 1) * (1 + cw) + (1 + cw) := by rw [hcf, Nat.succ_mul]
      have ebt : (a (296 + 11 * π i + 3) ||| nI 4) ||| nI 8 = rb_bt c i := by unfold rb_bt; rw [hIn.2.2.2.2.1]
      have e5 : a (296 + 11 * π i + 5) = c (419 + i) := (hR.2.2.2.1.1 i hi).2.1
      -- the stamp of this one
      have hl' : ∀ nl' : rb_Row, nl' L = a (296 + 11 * π i + 6) → ∀ j, j < n → cb (323 + j) = nI x → (nl' L < ab (296 + 11 * π j + 6) ↔ i + 1 ≤ j) := by
        intro nl' enl j hj e
        rw [enl, ← hG.2.2.1 (π j) 6 (hI.1 j hj).1 (by omega), Int32.lt_iff_toInt_lt]
        rcases Nat.lt_trichotomy i j with l | l | l
        · have := hI.2.2.2.2.1 i j l hj
          exact ⟨fun _ => l, fun _ => this⟩
        · subst l
          exact ⟨fun h => absurd h (Int.lt_irrefl _), fun h => by omega⟩
        · have := hI.2.2.2.2.1 j i l hi
          exact ⟨fun h => by omega, fun h => by omega⟩
      by_cases hskip : c (419 + i) = nI 0 ∨ rb_bt c i &&& bit = nI 0 ∨ (¬ nI w &&& nI 4 = nI 0 ∧ ¬ nI svn = nI 0)
      · obtain ⟨st, v, c', g', f', a', rd', ag', mf', na', nb', nl', sv', k1, k2, k3, k4, k5, k6⟩ := ih (i + 1) (by omega) W s s' svn c g f a rd ag mf na nb (upd nl L (a (296 + 11 * π i + 6))) sv hR hF hG hsv (by omega) (by omega) ena enb esv (hl' _ (rb_upe rfl))
        refine ⟨1 + st, v, c', g', f', a', rd', ag', mf', na', nb', nl', sv', ?_, ?_, ?_, by omega, k5, fun j hj => ?_⟩
        · intro N hN
          obtain ⟨M, rfl⟩ : ∃ k, N = k + 1 := ⟨N - 1, by omega⟩
          have := rb_rn1 (rs_C2 (k := k) (lv := lv) (g := g) (f := f) hi hn hx hxc ew hskip) M
          rw [this]
          exact k1 M (by omega)
        · refine rb_rnt (rb_rn1 (rs_R1 (by omega) hp ena eadd ewA ?_)) k2
          rw [e5, ebt, enb, esv]
          exact hskip
        · rw [hcf, Nat.succ_mul]; omega
        · have := k6 j hj
          rw [rb_upn (by omega)] at this
          exact this
      · have hgo : ¬ c (419 + i) = nI 0 ∧ ¬ rb_bt c i &&& bit = nI 0 ∧ (nI w &&& nI 4 = nI 0 ∨ svn = 0) := by
          refine ⟨fun g => hskip (Or.inl g), fun g => hskip (Or.inr (Or.inl g)), ?_⟩
          by_cases g : nI w &&& nI 4 = nI 0
          · exact Or.inl g
          · refine Or.inr (Classical.byContradiction (fun g' => hskip (Or.inr (Or.inr ⟨g, fun e => g' ?_⟩))))
            exact (nI_eq (by omega) (by omega)).mp e
        obtain ⟨g1, g2, g3⟩ := hgo
        obtain ⟨cL, aL, c2, gg2, f2, a2, rd2, ag2, mf2, b, hd, hb, hd16, e1, eyL, e2, e3, eyA, e4, e6, hNQ⟩ := rp_visit hR (by omega) (by omega) hi hy ey g f rd ag mf
        obtain ⟨t, t', r1, r2, r3, r4, r5, r6, r7, r8, r9⟩ := id hNQ
        have eycb : cb (299 + i) = nI y := by rw [← hF (299 + i) (by omega)]; exact ey
        have hNS := hrec i y hi hx' hy eycb
        obtain ⟨st1, v1, c3, gg3, f3, a3, rd3, ag3, mf3, na3, nb3, nl3, sv3, m1, m2, m3, m4, m5, m6⟩ := hNS (W + 1) t t' c2 gg2 f2 a2 rd2 ag2 mf2 (upd na (L + 1) (nI y)) (upd nb (L + 1) (nI 1)) (upd (upd nl L (a (296 + 11 * π i + 6))) (L + 1) (nI 0)) (upd (if nI w &&& nI 4 = nI 0 then sv else if b = 0 then sv else upd sv L (nI 1)) (L + 1) (nI 0)) r1 (rF_trans hF r2) (rG_trans hG r3) (by omega) (by omega) (rb_upe rfl) (rb_upe rfl) (rb_upe rfl) (rb_upe rfl)
        obtain ⟨u, u', p1, p2, p3, p4, p5, p6, p7, p8, p9⟩ := id m5
        obtain ⟨j1, j2, j3, j4⟩ := m6 L (by omega)
        rw [rb_upn (by omega)] at j1 j2 j3 j4
        rw [rb_upe rfl] at j3
        have hsv3 : sv3 L = nI (if nI w &&& nI 4 = nI 0 then svn else b) := by
          rw [j4]
          by_cases g : nI w &&& nI 4 = nI 0
          · simp only [g, if_true]; exact esv
          · have hs0 : svn = 0 := by
              rcases g3 with g3 | g3
              · exact absurd g3 g
              · exact g3
            have hb' : b = 0 ∨ b = 1 := by omega
            rcases hb' with e | e
            · simp only [g, e, if_true, if_false]; rw [esv, hs0]
            · simp only [g, e, if_false]
              rw [if_neg (by omega), rb_upe rfl]
        obtain ⟨st, v, c', g', f', a', rd', ag', mf', na', nb', nl', sv', k1, k2, k3, k4, k5, k6⟩ := ih (i + 1) (by omega) (W + 1 + v1) u u' (if nI w &&& nI 4 = nI 0 then svn else b) c3 gg3 f3 a3 rd3 ag3 mf3 na3 nb3 nl3 sv3 p1 (rF_trans hF (rF_trans r2 p2)) (rG_trans hG (rG_trans r3 p3)) (by split <;> omega) (by omega) (by omega) (by rw [j1]; exact ena) (by rw [j2]; exact enb) hsv3 (hl' _ j3)
        refine ⟨1 + (st1 + st), 1 + (v1 + v), c', g', f', a', rd', ag', mf', na', nb', nl', sv', ?_, ?_, ?_, by omega, ?_, fun j hj => ?_⟩
        · intro N hN
          obtain ⟨M, rfl⟩ : ∃ k, N = k + 1 := ⟨N - 1, by omega⟩
          have ey2 : c2 (299 + i) = nI y := by rw [r2 (299 + i) (by omega)]; exact ey
          have := rb_rn1 (rs_C3 (k := k) (lv := lv) hi hn hx hb hsv hxc ew g1 g2 g3 e1 eyL e2 ey2 m1) M
          rw [this]
          exact k1 M (by omega)
        · have hR2 := rs_R2 (nb := nb) (nl := nl) (sv := sv) (L := L) (x := x) (p := π i) (w := w) (y := y) (h := hd) (b := b) hL hp hd16 hb ena eadd ewA (by rw [e5]; exact g1) (by rw [ebt, enb]; exact g2) (by
            rcases g3 with g3 | g3
            · exact Or.inl g3
            · exact Or.inr (by rw [esv, g3])) e3 eyA e4 e6
          have m2' := m2
          rw [rb_nIm] at m2'
          exact rb_rnt (rb_rn1 hR2) (rb_rnt m2' k2)
        · rw [hcf, Nat.succ_mul]; omega
        · exact rb_NQ_trans r2 r3 r4 r5 r6 r7 r8 r9 (rb_NQ_trans p2 p3 p4 p5 p6 p7 p8 p9 k5)
        · have q1 := k6 j hj
          have q2 := m6 j (by omega)
          rw [rb_upn (by omega), rb_upn (by omega), rb_upn (by omega), rb_upn (by omega), rb_upn (by omega)] at q2
          refine ⟨q1.1.trans q2.1, q1.2.1.trans q2.2.1, q1.2.2.1.trans q2.2.2.1, (q1.2.2.2.trans q2.2.2.2).trans ?_⟩
          by_cases g : nI w &&& nI 4 = nI 0
          · simp only [g, if_true]
          · by_cases e : b = 0
            · simp only [g, e, if_true, if_false]
            · simp only [g, e, if_false]
              rw [rb_upn (by omega)]
    · have hxc : ¬ c (323 + i) = nI x := by rw [hF (323 + i) (by omega)]; exact hx'
      have hcf := rb_cf_ne (n := n) hx'
      rw [hcf] at hB hW
      obtain ⟨st, v, c', g', f', a', rd', ag', mf', na', nb', nl', sv', k1, k2, k3, k4, k5, k6⟩ := ih (i + 1) (by omega) W s s' svn c g f a rd ag mf na nb nl sv hR hF hG hsv hB hW ena enb esv (fun j hj e => by
        have : j ≠ i := fun g => hx' (g ▸ e)
        rw [hl j hj e]
        omega)
      refine ⟨st, v, c', g', f', a', rd', ag', mf', na', nb', nl', sv', ?_, k2, ?_, by rw [hcf]; exact k4, k5, k6⟩
      · intro N hN
        obtain ⟨M, rfl⟩ : ∃ k, N = k + 1 := ⟨N - 1, by omega⟩
        have := rb_rn1 (rs_C1 (k := k) (lv := lv) (sv := nI svn) (bit := bit) (g := g) (f := f) hi hn hxc) M
        rw [this]
        exact k1 M (by omega)
      · rw [hcf]; exact k3
/-- how high sets stand above -/
def rb_hu (cb : rb_Row) (n : Nat) : Nat → Nat → Prop
  | 0, x => ∀ i, i < n → cb (323 + i) ≠ nI x
  | m + 1, x => ∀ i y, i < n → cb (323 + i) = nI x → y < 28 → cb (299 + i) = nI y → rb_hu cb n m y
theorem rI_hu3 {n : Nat} {π : Nat → Nat} {s' : Nat} {c a : rb_Row} (h : rI n π s' c a) (x : Nat) : rb_hu c n 3 x := by
  intro i y hi e1 hy e2 j w hj f1 hw f2 k v hk g1 hv g2 l hl g3
  obtain ⟨y', hy', ey', k4, _⟩ := h.2.1 i hi
  refine h.2.2.2.2.2.2.1 l k j y' hl hk hj (by rw [g3, g2]) (by rw [g1, f2]) hy' (by rw [f1, ← e2]; exact ey') k4
theorem rI_hu2 {n : Nat} {π : Nat → Nat} {s' : Nat} {c a : rb_Row} (h : rI n π s' c a) {i y : Nat} (hi : i < n) (hy : y < 28) (e : c (299 + i) = nI y) : rb_hu c n 2 y := by
  obtain ⟨x, hx, ex, _⟩ := h.2.2.1 i hi
  exact rI_hu3 h x i y hi ex hy e
def rb_wt (A : Nat) : Nat → Nat
  | 0 => 0
  | m + 1 => 1 + A * rb_wt A m
def rb_its : Nat → Nat
  | 0 => 1
  | m + 1 => 24 * (1 + rb_its m) + 1
set_option maxHeartbeats 4000000 in
theorem rp_NS {z q n : Nat} {π : Nat → Nat} {cb ab : rb_Row} {A : Nat} (hn : n ≤ 24) (hset : ∀ i y, i < n → y < 28 → cb (299 + i) = nI y → rb_cf cb n y 0 ≤ A) : ∀ m x k L lv bit, x < 28 → rb_hu cb n m x → L + m < 5 → lv + m ≤ 3 → m + 1 ≤ k → rb_NS z q n π cb ab k L lv x (rb_cf cb n x 0 * rb_wt A m) (rb_its m) bit := by
  intro m
  induction m with
  | zero =>
    intro x k L lv bit hx hu hL hlv hk W s s' c g f a rd ag mf na nb nl sv hR hF hG hB hW ena enb enl esv
    have hc2 : c 2 = nI n := hR.1.2.2.2.2.2.2.1
    obtain ⟨k, rfl⟩ : ∃ j, k = j + 1 := ⟨k - 1, by omega⟩
    have hcf : rb_cf cb n x 0 = 0 := rb_cn_zero (fun i hi => by simp [hu i hi])
    obtain ⟨st, v, c', g', f', a', rd', ag', mf', na', nb', nl', sv', k1, k2, k3, k4, k5, k6⟩ := rp_loop (k := k) (L := L) (lv := lv) (cw := 0) (ci := 0) (bit := bit) (z := z) (q := q) (π := π) (ab := ab) hx (by omega) hn (fun i y hi e => absurd e (hu i hi)) n 0 (by omega) W s s' 0 c g f a rd ag mf na nb nl sv hR hF hG (by omega) (by rw [hcf]; omega) (by rw [hcf]; omega) ena enb esv (fun j hj e => absurd e (hu j hj))
    refine ⟨st, v, c', g', f', a', rd', ag', mf', na', nb', nl', sv', ?_, k2, ?_, ?_, k5, k6⟩
    · rw [xn_send k c g f hx (by omega) hc2]
      exact k1 100000 (by omega)
    · show st ≤ 1
      rw [hcf] at k3; omega
    · rw [hcf] at k4 ⊢; omega
  | succ m ih =>
    intro x k L lv bit hx hu hL hlv hk W s s' c g f a rd ag mf na nb nl sv hR hF hG hB hW ena enb enl esv
    have hc2 : c 2 = nI n := hR.1.2.2.2.2.2.2.1
    obtain ⟨k, rfl⟩ : ∃ j, k = j + 1 := ⟨k - 1, by omega⟩
    have hI := hR.2.2.1
    obtain ⟨st, v, c', g', f', a', rd', ag', mf', na', nb', nl', sv', k1, k2, k3, k4, k5, k6⟩ := rp_loop (k := k) (L := L) (lv := lv) (cw := A * rb_wt A m) (ci := rb_its m) (bit := bit) (z := z) (q := q) (π := π) (ab := ab) hx (by omega) hn (fun i y hi e hy ey => by
      have hns := ih y k (L + 1) (lv + 1) (nI 1) hy (hu i y hi e hy ey) (by omega) (by omega) (by omega)
      have hle : rb_cf cb n y 0 * rb_wt A m ≤ A * rb_wt A m := Nat.mul_le_mul_right _ (hset i y hi hy ey)
      intro W s s' c g f a rd ag mf na nb nl sv hR hF hG hB hW e1 e2 e3 e4
      obtain ⟨st, v, c', g', f', a', rd', ag', mf', na', nb', nl', sv', k1, k2, k3, k4, k5⟩ := hns W s s' c g f a rd ag mf na nb nl sv hR hF hG (by omega) (by omega) e1 e2 e3 e4
      exact ⟨st, v, c', g', f', a', rd', ag', mf', na', nb', nl', sv', k1, k2, k3, by omega, k5⟩) n 0 (by omega) W s s' 0 c g f a rd ag mf na nb nl sv hR hF hG (by omega) hB hW ena enb esv (fun j hj e => by
      obtain ⟨_, _, _, _, v, h1, h2, h3⟩ := hI.2.2.2.1 j hj
      have hp := (hI.1 j hj).1
      rw [enl, ← hG.2.2.1 (π j) 6 hp (by omega), h3]
      have hss : s' ≤ s + q := hR.1.2.2.2.2.2.1
      have : nI 0 < nI v := nI_lt h1 (by omega)
      exact ⟨fun _ => Nat.zero_le _, fun _ => this⟩)
    refine ⟨st, v, c', g', f', a', rd', ag', mf', na', nb', nl', sv', ?_, k2, ?_, k4, k5, k6⟩
    · rw [xn_send k c g f hx (by omega) hc2]
      exact k1 100000 (by omega)
    · show st ≤ 24 * (1 + rb_its m) + 1
      have h0 : rb_cf cb n x 0 ≤ 24 := Nat.le_trans (rb_cn_le _ _) hn
      have : rb_cf cb n x 0 * (1 + rb_its m) ≤ 24 * (1 + rb_its m) := Nat.mul_le_mul_right _ h0
      omega
