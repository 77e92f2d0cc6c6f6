theorem rb_shm0 : ∀ i j : Fin 16, nI (16 * i.val + j.val) &&& 1 = nI ((16 * i.val + j.val) % 2) ∧ nI (16 * i.val + j.val) >>> (1 &&& 31) = nI ((16 * i.val + j.val) / 2) := by decide
theorem rb_shm {m : Nat} (hm : m < 256) : nI m &&& 1 = nI (m % 2) ∧ nI m >>> (1 &&& 31) = nI (m / 2) := by
  have h := rb_shm0 ⟨m / 16, by omega⟩ ⟨m % 16, by omega⟩
  have e : 16 * (m / 16) + m % 16 = m := by omega
  simp only [e] at h
  exact h
theorem bo_0 {t0 t1 m d : Nat} (hd : d < 8) {ans : Int32} {a rd ag mf na nb nl sv wa a1 rd1 ag1 mf1 na1 nb1 nl1 sv1 : rb_Row} (s0 : XX7_canStep a (nI t0) = some (nI 1)) (s1 : XX7_canStep a (nI t1) = some (nI 0)) (eg : XX7_goStep a rd ag mf na nb nl sv wa (nI t0) = some (ans, a1, rd1, ag1, mf1, na1, nb1, nl1, sv1, wa)) : bdO (nI t0) (nI t1) (nI m, nI d, a, rd, ag, mf, na, nb, nl, sv, wa) = some (.inl (nI m, nI (d + 1), a1, rd1, ag1, upd mf1 13 ans, na1, nb1, nl1, sv1, wa)) := by
  have n10 : ¬ nI 1 = (0 : Int32) := by decide
  have q8 : ¬ (8 : Int32) ≤ nI d := by rw [show (8 : Int32) = nI 8 from rfl, nI_leI (by omega) (by omega)]; omega
  refine (if_neg q8).trans (rb_bnd _ s0 ((if_neg n10).trans (rb_bnd _ s0 (rb_bnd (nI 0) ((if_neg n10).trans (rb_bnd _ s1 (if_pos rfl))) (rb_bnd (nI 0) ((if_pos rfl).trans (rb_bnd _ s0 (if_neg n10))) (rb_bnd (nI m) (if_pos rfl) (rb_bnd (nI t0) (if_pos rfl) (rb_bnd _ eg (rb_bnd _ rfl ?_)))))))))
  exact congrArg (fun u => some (Sum.inl (nI m, u, a1, rd1, ag1, upd mf1 13 ans, na1, nb1, nl1, sv1, wa))) (nI_add d 1)
theorem bo_1 {t0 t1 m d : Nat} (hd : d < 8) {ans : Int32} {a rd ag mf na nb nl sv wa a1 rd1 ag1 mf1 na1 nb1 nl1 sv1 : rb_Row} (s0 : XX7_canStep a (nI t0) = some (nI 0)) (s1 : XX7_canStep a (nI t1) = some (nI 1)) (eg : XX7_goStep a rd ag mf na nb nl sv wa (nI t1) = some (ans, a1, rd1, ag1, mf1, na1, nb1, nl1, sv1, wa)) : bdO (nI t0) (nI t1) (nI m, nI d, a, rd, ag, mf, na, nb, nl, sv, wa) = some (.inl (nI m, nI (d + 1), a1, rd1, ag1, upd mf1 13 ans, na1, nb1, nl1, sv1, wa)) := by
  have n10 : ¬ nI 1 = (0 : Int32) := by decide
  have q8 : ¬ (8 : Int32) ≤ nI d := by rw [show (8 : Int32) = nI 8 from rfl, nI_leI (by omega) (by omega)]; omega
  refine (if_neg q8).trans (rb_bnd _ s0 ((if_pos rfl).trans (rb_bnd _ s1 ((if_neg n10).trans (rb_bnd _ s0 (rb_bnd (nI 0) (if_pos rfl) (rb_bnd (nI 1) ((if_pos rfl).trans (rb_bnd _ s0 (if_pos rfl))) (rb_bnd (nI m) (if_pos rfl) (rb_bnd (nI t1) (if_neg n10) (rb_bnd _ eg (rb_bnd _ rfl ?_)))))))))))
  exact congrArg (fun u => some (Sum.inl (nI m, u, a1, rd1, ag1, upd mf1 13 ans, na1, nb1, nl1, sv1, wa))) (nI_add d 1)
theorem bo_b {t0 t1 m d t : Nat} (hd : d < 8) (hm : m < 256) (ht : m % 2 = 0 ∧ t = t0 ∨ m % 2 = 1 ∧ t = t1) {ans : Int32} {a rd ag mf na nb nl sv wa a1 rd1 ag1 mf1 na1 nb1 nl1 sv1 : rb_Row} (s0 : XX7_canStep a (nI t0) = some (nI 1)) (s1 : XX7_canStep a (nI t1) = some (nI 1)) (eg : XX7_goStep a rd ag mf na nb nl sv wa (nI t) = some (ans, a1, rd1, ag1, mf1, na1, nb1, nl1, sv1, wa)) : bdO (nI t0) (nI t1) (nI m, nI d, a, rd, ag, mf, na, nb, nl, sv, wa) = some (.inl (nI (m / 2), nI (d + 1), a1, rd1, ag1, upd mf1 13 ans, na1, nb1, nl1, sv1, wa)) := by
  have n10 : ¬ nI 1 = (0 : Int32) := by decide
  have q8 : ¬ (8 : Int32) ≤ nI d := by rw [show (8 : Int32) = nI 8 from rfl, nI_leI (by omega) (by omega)]; omega
  obtain ⟨w1', w2'⟩ := rb_shm hm
  have j64 : ((if nI (m % 2) = 0 then some (nI t0) else some (nI t1)) : Option Int32) = some (nI t) := by
    rcases ht with ⟨e, e'⟩ | ⟨e, e'⟩
    · rw [e, e']; exact if_pos rfl
    · rw [e, e']; exact if_neg n10
  refine (if_neg q8).trans (rb_bnd _ s0 ((if_neg n10).trans (rb_bnd _ s0 (rb_bnd (nI 1) ((if_neg n10).trans (rb_bnd _ s1 (if_neg n10))) (rb_bnd (nI (m % 2)) ((if_neg n10).trans (congrArg some w1')) (rb_bnd (nI (m / 2)) ((if_neg n10).trans (congrArg some w2')) (rb_bnd _ j64 (rb_bnd _ eg (rb_bnd _ rfl ?_)))))))))
  exact congrArg (fun u => some (Sum.inl (nI (m / 2), u, a1, rd1, ag1, upd mf1 13 ans, na1, nb1, nl1, sv1, wa))) (nI_add d 1)
theorem re_ref {B q BL t0 t1 : Nat} {base : Int32} {V V1 : Nat → Option (Nat × Nat × Nat)} {d k1 m m1 N : Nat} {c1 : rb_Row} (hRF : rb_RF B q BL t0 t1 base V1 (d + 1) k1 c1) (hm1 : m1 < 2 ^ k1) (hV : V m = V1 m1) {ans : Int32} {a rd ag mf na nb nl sv wa a1 rd1 ag1 mf1 na1 nb1 nl1 sv1 : rb_Row} (eb : bdO (nI t0) (nI t1) (nI m, nI d, a, rd, ag, mf, na, nb, nl, sv, wa) = some (.inl (nI m1, nI (d + 1), a1, rd1, ag1, upd mf1 13 ans, na1, nb1, nl1, sv1, wa))) (hR1 : rb_RB B q c1 a1) (h16 : mf1 16 = mf 16) (h17 : mf1 17 = mf 17) (hN : 9 ≤ N + d) (hd : d < 8) : ∃ m' a' rd' ag' mf' na' nb' nl' sv', rb_lp (bdO (nI t0) (nI t1)) N (nI m, nI d, a, rd, ag, mf, na, nb, nl, sv, wa) = some (nI m', a', rd', ag', mf', na', nb', nl', sv', wa) ∧ mf' 16 = mf 16 ∧ mf' 17 = mf 17 ∧ m' < 256 ∧ XX7_canStep a' (nI t0) = some (nI 0) ∧ XX7_canStep a' (nI t1) = some (nI 0) ∧ ((∃ x, V m = some x ∧ m' = 0 ∧ ∃ c', rb_RB BL q c' a' ∧ rb_LF t0 t1 base c' x) ∨ (V m = none ∧ m' ≠ 0)) := by
  obtain ⟨N', eN⟩ : ∃ N', N = N' + 1 := ⟨N - 1, by omega⟩
  subst eN
  obtain ⟨m', a', rd', ag', mf', na', nb', nl', sv', x1, x2, x3, x4, x5, x6, x7⟩ := hRF m1 hm1 a1 rd1 ag1 (upd mf1 13 ans) na1 nb1 nl1 sv1 wa N' hR1 (by omega)
  refine ⟨m', a', rd', ag', mf', na', nb', nl', sv', (rb_lpl eb).trans x1, (x2.trans (rb_upn (by omega))).trans h16, (x3.trans (rb_upn (by omega))).trans h17, x4, x5, x6, ?_⟩
  rw [hV]; exact x7
theorem rb_p2 (k : Nat) : 2 ^ (k + 1) = 2 * 2 ^ k := by rw [Nat.pow_succ, Nat.mul_comm]
theorem re_expl {t0 t1 : Nat} (h0 : t0 < 6) (h1 : t1 < 6) (hne : t0 ≠ t1) {base : Int32} {BL q : Nat} (hBL : BL + q + 60000 < 2000000000) : ∀ L, rb_EX t0 t1 base BL q L := by
  intro L
  induction L with
  | zero =>
    intro fuel d k l0 l1 K B c g f tr ty tf T hL hd hk hk8 hf hB hN hRB f4 f5 f6 hT hT2 hE
    obtain ⟨fuel', ef⟩ : ∃ fuel', fuel = fuel' + 1 := ⟨fuel - 1, by omega⟩
    subst ef
    have e0 : l0 = 0 := by omega
    have e1 : l1 = 0 := by omega
    refine re_leaf h0 h1 hBL (by omega) hk8 (by omega) hN hRB f4 f5 f6 hT hT2 hE (fun q => q.2 ?_) (fun q => q.2 ?_)
    · rw [hN.2.2.1, e0]
    · rw [hN.2.2.2.1, e1]
  | succ L ih =>
    intro fuel d k l0 l1 K B c g f tr ty tf T hL hd hk hk8 hf hB hN hRB f4 f5 f6 hT hT2 hE
    obtain ⟨fuel', ef⟩ : ∃ fuel', fuel = fuel' + 1 := ⟨fuel - 1, by omega⟩
    subst ef
    have hf' : fuel' + (d + 1) = 10 := by omega
    have hd8 : d < 8 := by omega
    have q8 : ¬ (8 : Int32) ≤ nI d := by rw [show (8 : Int32) = nI 8 from rfl, nI_leI (by omega) (by omega)]; omega
    have q2 : ¬ (2 : Int32) ≤ 0 := by decide
    have q21 : ¬ (2 : Int32) ≤ nI 1 := by decide
    have n10 : ¬ nI 1 = (0 : Int32) := by decide
    obtain ⟨a0, hR0⟩ := hRB
    by_cases g0 : rb_go c t0
    · by_cases g1 : rb_go c t1
      · -- both
        obtain ⟨k', ek⟩ : ∃ k', k = k' + 1 := ⟨k - 1, by omega⟩
        subst ek
        have hp := rb_p2 k'
        obtain ⟨c1, c3, g3, f3, tr3, ty3, V0, x1, x2, x3, x4, x5, x6, x7, x8⟩ := re_child (k := k') (ty := ty) (g := g) (f := f) (tr := tr) h0 h1 hne hBL ih hL hd (by omega) (by omega) hf' hB hN ⟨a0, hR0⟩ f4 f5 f6 hT (by omega) hE (Or.inl ⟨rfl, rfl⟩) g0 0
        have cn0 := rb_fo_cnt V0 T (2 ^ k')
        have hN3 := rb_ND_congr h0 h1 hN x2
        obtain ⟨c4, c5, g5, f5', tr5, ty5, V1, y1, y2, y3, y4, y5, y6, y7, y8⟩ := re_child (k := k') (ty := ty3) (g := g3) (f := f3) (tr := tr3) h0 h1 hne hBL ih hL hd (by omega) (by omega) hf' hB hN3 ⟨a0, rb_RB_congr hR0 (Nat.le_refl _) (Nat.le_refl _) x2 (fun _ _ => rfl)⟩ f4 f5 f6 x5 (by omega) x4 (Or.inr ⟨rfl, rfl⟩) ((rb_go_congr h1 x2).mpr g1) (nI 1)
        have fo : rb_fo (fun m => if m % 2 = 0 then V0 (m / 2) else V1 (m / 2)) (2 ^ (k' + 1)) T = rb_fo V1 (2 ^ k') (rb_fo V0 (2 ^ k') T) := by
          rw [hp]
          refine rb_fo_two T (2 ^ k') (fun m hm => ⟨?_, ?_⟩)
          · show (if (2 * m) % 2 = 0 then V0 (2 * m / 2) else V1 (2 * m / 2)) = V0 m
            rw [if_pos (by omega)]; exact congrArg V0 (by omega)
          · show (if (2 * m + 1) % 2 = 0 then V0 ((2 * m + 1) / 2) else V1 ((2 * m + 1) / 2)) = V1 m
            rw [if_neg (by omega)]; exact congrArg V1 (by omega)
        refine ⟨c5, g5, f5', tr5, ty5, fun m => if m % 2 = 0 then V0 (m / 2) else V1 (m / 2), ?_, fun i hi => (y2 i hi).trans (x2 i hi), fun i hi => (y3 i hi).trans (x3 i hi), by rw [fo]; exact y4, by rw [fo]; exact y5, by rw [fo]; exact Nat.lt_trans x6 y6, ?_⟩
        · rw [xn_explore]
          have lp : rb_lp (bdE fuel' tf (nI d)) 100000 (0, 0, c, g, f, tr, ty) = some (nI 1, c5, g5, f5', tr5, ty5) := (rb_lpl x1).trans ((rb_lpl y1).trans (rb_lpr (if_pos (show (2 : Int32) ≤ nI 2 by decide))))
          exact rb_bnd _ lp (if_neg n10)
        · intro m hm a rd ag mf na nb nl sv wa N hR hN9
          have hm8 : m < 256 := Nat.lt_of_lt_of_le hm (show 2 ^ (k' + 1) ≤ 2 ^ 8 from Nat.pow_le_pow_right (by omega) hk8)
          have st0 := ((rp_goes hR h0).1 g0).2
          have st1 := ((rp_goes hR h1).1 g1).2
          by_cases e : m % 2 = 0
          · obtain ⟨ans, a1, rd1, ag1, mf1, na1, nb1, nl1, sv1, z1, z2, z3, z4⟩ := x8 a rd ag mf na nb nl sv wa hR
            exact re_ref (V := fun m => if m % 2 = 0 then V0 (m / 2) else V1 (m / 2)) x7 (show m / 2 < 2 ^ k' by omega) (if_pos e) (bo_b hd8 hm8 (Or.inl ⟨e, rfl⟩) st0 st1 z1) z4 z2 z3 hN9 hd8
          · obtain ⟨ans, a1, rd1, ag1, mf1, na1, nb1, nl1, sv1, z1, z2, z3, z4⟩ := y8 a rd ag mf na nb nl sv wa (rb_RB_congr hR (Nat.le_refl _) (Nat.le_refl _) x2 (fun _ _ => rfl))
            exact re_ref (V := fun m => if m % 2 = 0 then V0 (m / 2) else V1 (m / 2)) y7 (show m / 2 < 2 ^ k' by omega) (if_neg e) (bo_b hd8 hm8 (Or.inr ⟨by omega, rfl⟩) st0 st1 z1) z4 z2 z3 hN9 hd8
      · -- the first alone
        obtain ⟨c1, c3, g3, f3, tr3, ty3, V0, x1, x2, x3, x4, x5, x6, x7, x8⟩ := re_child (ty := ty) (g := g) (f := f) (tr := tr) h0 h1 hne hBL ih hL hd (show L ≤ k by omega) hk8 hf' hB hN ⟨a0, hR0⟩ f4 f5 f6 hT hT2 hE (Or.inl ⟨rfl, rfl⟩) g0 0
        have cg1 := ((rp_goes (rb_RB_congr hR0 (Nat.le_refl _) (Nat.le_refl _) x2 (fun _ _ => rfl)) h1).2 (fun q => g1 ((rb_go_congr h1 x2).mp q))).1
        refine ⟨c3, g3, f3, tr3, ty3, V0, ?_, x2, x3, x4, x5, x6, ?_⟩
        · rw [xn_explore]
          have s1 : bdE fuel' tf (nI d) (nI 1, nI 1, c3, g3, f3, tr3, ty3) = some (.inl (nI 1, nI 2, c3, g3, f3, tr3, ty3)) := (if_neg q21).trans ((if_neg q8).trans (rb_bnd (nI t1) ((if_neg n10).trans (congrArg some f5)) (rb_bnd _ cg1 (rb_bnd (nI 1, c3, g3, f3, tr3, ty3) (if_pos rfl) rfl))))
          have lp : rb_lp (bdE fuel' tf (nI d)) 100000 (0, 0, c, g, f, tr, ty) = some (nI 1, c3, g3, f3, tr3, ty3) := (rb_lpl x1).trans ((rb_lpl s1).trans (rb_lpr (if_pos (show (2 : Int32) ≤ nI 2 by decide))))
          exact rb_bnd _ lp (if_neg n10)
        · intro m hm a rd ag mf na nb nl sv wa N hR hN9
          have st0 := ((rp_goes hR h0).1 g0).2
          have st1 := ((rp_goes hR h1).2 g1).2
          obtain ⟨ans, a1, rd1, ag1, mf1, na1, nb1, nl1, sv1, z1, z2, z3, z4⟩ := x8 a rd ag mf na nb nl sv wa hR
          exact re_ref x7 hm rfl (bo_0 hd8 st0 st1 z1) z4 z2 z3 hN9 hd8
    · by_cases g1 : rb_go c t1
      · -- the second alone
        have cg0 := ((rp_goes hR0 h0).2 g0).1
        obtain ⟨c1, c3, g3, f3, tr3, ty3, V0, x1, x2, x3, x4, x5, x6, x7, x8⟩ := re_child (ty := ty) (g := g) (f := f) (tr := tr) h0 h1 hne hBL ih hL hd (show L ≤ k by omega) hk8 hf' hB hN ⟨a0, hR0⟩ f4 f5 f6 hT hT2 hE (Or.inr ⟨rfl, rfl⟩) g1 0
        refine ⟨c3, g3, f3, tr3, ty3, V0, ?_, x2, x3, x4, x5, x6, ?_⟩
        · rw [xn_explore]
          have s0 : bdE fuel' tf (nI d) (0, 0, c, g, f, tr, ty) = some (.inl (0, nI 1, c, g, f, tr, ty)) := (if_neg q2).trans ((if_neg q8).trans (rb_bnd (nI t0) ((if_pos rfl).trans (congrArg some f4)) (rb_bnd _ cg0 (rb_bnd (0, c, g, f, tr, ty) (if_pos rfl) rfl))))
          have lp : rb_lp (bdE fuel' tf (nI d)) 100000 (0, 0, c, g, f, tr, ty) = some (nI 1, c3, g3, f3, tr3, ty3) := (rb_lpl s0).trans ((rb_lpl x1).trans (rb_lpr (if_pos (show (2 : Int32) ≤ nI 2 by decide))))
          exact rb_bnd _ lp (if_neg n10)
        · intro m hm a rd ag mf na nb nl sv wa N hR hN9
          have st0 := ((rp_goes hR h0).2 g0).2
          have st1 := ((rp_goes hR h1).1 g1).2
          obtain ⟨ans, a1, rd1, ag1, mf1, na1, nb1, nl1, sv1, z1, z2, z3, z4⟩ := x8 a rd ag mf na nb nl sv wa hR
          exact re_ref x7 hm rfl (bo_1 hd8 st0 st1 z1) z4 z2 z3 hN9 hd8
      · exact re_leaf h0 h1 hBL (by omega) hk8 (by omega) hN ⟨a0, hR0⟩ f4 f5 f6 hT hT2 hE g0 g1
