def bdN (sd : rb_Row) (x0 x1 : Int32) : (Int32 × rb_Row × rb_Row × rb_Row × rb_Row × rb_Row × rb_Row × rb_Row × rb_Row × rb_Row × rb_Row) → Option ((Int32 × rb_Row × rb_Row × rb_Row × rb_Row × rb_Row × rb_Row × rb_Row × rb_Row × rb_Row × rb_Row) ⊕ (rb_Row × rb_Row × rb_Row × rb_Row × rb_Row × rb_Row × rb_Row × rb_Row × rb_Row × rb_Row)) := fun (s33 : Int32 × rb_Row × rb_Row × rb_Row × rb_Row × rb_Row × rb_Row × rb_Row × rb_Row × rb_Row × rb_Row) => if 256 ≤ s33.1 then some (.inr (s33.2.1, s33.2.2.1, s33.2.2.2.1, s33.2.2.2.2.1, s33.2.2.2.2.2.1, s33.2.2.2.2.2.2.1, s33.2.2.2.2.2.2.2.1, s33.2.2.2.2.2.2.2.2.1, s33.2.2.2.2.2.2.2.2.2.1, s33.2.2.2.2.2.2.2.2.2.2)) else (XX7_tryOrder s33.2.1 s33.2.2.1 s33.2.2.2.1 s33.2.2.2.2.1 s33.2.2.2.2.2.1 s33.2.2.2.2.2.2.1 s33.2.2.2.2.2.2.2.1 s33.2.2.2.2.2.2.2.2.1 s33.2.2.2.2.2.2.2.2.2.2 x0 x1 s33.1).bind fun t42 => ((if t42.1 = 0 then some (t42.2.2.1, s33.2.2.2.2.2.2.2.2.2.1) else (XX7_tallyNow t42.2.2.1 s33.2.2.2.2.2.2.2.2.2.1 t42.2.1 sd x0 x1).bind fun t48 => some (t48.1, t48.2)) : Option (rb_Row × rb_Row)).bind fun j44 => (XX7_bringBack t42.2.1 sd).bind fun t50 => some (.inl ((s33.1 + 1), t50, j44.1, t42.2.2.2.1, t42.2.2.2.2.1, t42.2.2.2.2.2.1, t42.2.2.2.2.2.2.1, t42.2.2.2.2.2.2.2.1, t42.2.2.2.2.2.2.2.2.1, j44.2, t42.2.2.2.2.2.2.2.2.2))
theorem yn_try {B q BL t0 t1 : Nat} {base : Int32} {V : Nat → Option (Nat × Nat × Nat)} {c : rb_Row} (hRF : rb_RF B q BL t0 t1 base V 0 8 c) {m : Nat} (hm : m < 256) {a : rb_Row} (hR : rb_RB B q c a) (rd ag mf na nb nl sv wa : rb_Row) : ∃ b a' rd' ag' mf' na' nb' nl' sv', XX7_tryOrder a rd ag mf na nb nl sv wa (nI t0) (nI t1) (nI m) = some (nI b, a', rd', ag', mf', na', nb', nl', sv', wa) ∧ mf' 16 = mf 16 ∧ mf' 17 = mf 17 ∧ ((∃ x, V m = some x ∧ b = 1 ∧ ∃ c', rb_RB BL q c' a' ∧ rb_LF t0 t1 base c' x) ∨ (V m = none ∧ b = 0)) := by
  obtain ⟨m', a', rd', ag', mf', na', nb', nl', sv', x1, x2, x3, x4, x5, x6, x7⟩ := hRF m hm a rd ag mf na nb nl sv wa 100000 hR (by omega)
  unfold XX7_tryOrder
  have x1' : rb_lp (bdO (nI t0) (nI t1)) 100000 (nI m, 0, a, rd, ag, mf, na, nb, nl, sv, wa) = some (nI m', a', rd', ag', mf', na', nb', nl', sv', wa) := x1
  rcases x7 with ⟨x, e1, e2, e3⟩ | ⟨e1, e2⟩
  · subst e2
    exact ⟨1, a', rd', ag', mf', na', nb', nl', sv', rb_bnd _ x1' ((if_pos rfl).trans (rb_bnd _ x5 ((if_pos rfl).trans (rb_bnd _ x6 ((if_pos rfl).trans rfl))))), x2, x3, Or.inl ⟨x, e1, rfl, e3⟩⟩
  · have q : ¬ nI m' = (0 : Int32) := by rw [show (0 : Int32) = nI 0 from rfl, nI_eq (by omega) (by omega)]; exact e2
    exact ⟨0, a', rd', ag', mf', na', nb', nl', sv', rb_bnd _ x1' ((if_neg q).trans rfl), x2, x3, Or.inr ⟨e1, rfl⟩⟩
theorem rp_inm {v : Int32} {m : Nat} (hm : m < 1000) (h : XX7_isIn v 0 (nI m) = some (nI 0)) : v < 0 ∨ (¬ v < 0 ∧ nI (m + 1) ≤ v) := by
  by_cases h0 : v < 0
  · exact Or.inl h0
  · refine Or.inr ⟨h0, ?_⟩
    by_cases h1 : nI m < v
    · rw [Int32.lt_iff_toInt_lt, nI_toInt (by omega)] at h1
      rw [Int32.le_iff_toInt_le, nI_toInt (by omega)]
      omega
    · exfalso
      unfold XX7_isIn at h
      rw [if_neg h0, if_neg h1] at h
      exact absurd h (by decide)
theorem rb_ta0 (ta : rb_Row) : rb_lp (ρ := rb_Row) (fun (s16 : Int32 × rb_Row) => if 5 ≤ s16.1 then some (.inr s16.2) else ((if s16.1 = 3 then some (-1) else some 0) : Option (Int32)).bind fun j25 => (rb_wr s16.2 5 s16.1 j25).bind fun ta29 => some (.inl ((s16.1 + 1), ta29))) 100000 (0, ta) = some (upd (upd (upd (upd (upd ta 0 (nI 0)) 1 (nI 0)) 2 (nI 0)) 3 mI) 4 (nI 0)) := by
  have st : ∀ (j : Nat) (r : rb_Row) (v : Int32), j < 5 → ((if nI j = 3 then some (-1) else some 0) : Option Int32) = some v → (fun (s16 : Int32 × rb_Row) => if 5 ≤ s16.1 then some (.inr s16.2) else ((if s16.1 = 3 then some (-1) else some 0) : Option (Int32)).bind fun j25 => (rb_wr s16.2 5 s16.1 j25).bind fun ta29 => some (.inl ((s16.1 + 1), ta29))) (nI j, r) = (some (.inl (nI (j + 1), upd r j v)) : Option ((Int32 × rb_Row) ⊕ rb_Row)) := fun j r v hj e => by
    have q : ¬ (5 : Int32) ≤ nI j := by rw [show (5 : Int32) = nI 5 from rfl, nI_leI (by omega) (by omega)]; omega
    exact (if_neg q).trans (rb_bnd _ e (rb_bnd _ (rb_wr5 hj v) (congrArg (fun u => some (Sum.inl (u, upd r j v))) (nI_add j 1))))
  exact (rb_lpl (st 0 ta (nI 0) (by omega) (if_neg (by decide)))).trans ((rb_lpl (st 1 _ (nI 0) (by omega) (if_neg (by decide)))).trans ((rb_lpl (st 2 _ (nI 0) (by omega) (if_neg (by decide)))).trans ((rb_lpl (st 3 _ mI (by omega) (if_pos (by decide)))).trans ((rb_lpl (st 4 _ (nI 0) (by omega) (if_neg (by decide)))).trans (rb_lpr (if_pos (show (5 : Int32) ≤ nI 5 by decide)))))))
theorem xn_begin {t0 t1 : Nat} (h0 : t0 < 6) (h1 : t1 < 6) (ty tf c : rb_Row) : ∃ ty' tf', XX3_begin ty tf c (nI t0) (nI t1) = some (ty', tf') ∧ tf' 4 = nI t0 ∧ tf' 5 = nI t1 ∧ tf' 6 = c (569 + t0) + c (569 + t1) ∧ rb_enT ty' (0, 0, 0, 0, 0) := by
  unfold XX3_begin
  have st : ∀ (j : Nat) (r : rb_Row), j < 5 → (fun (s11 : Int32 × rb_Row) => if 5 ≤ s11.1 then some (.inr s11.2) else (rb_wr s11.2 5 s11.1 0).bind fun ty20 => some (.inl ((s11.1 + 1), ty20))) (nI j, r) = (some (.inl (nI (j + 1), upd r j (nI 0))) : Option ((Int32 × rb_Row) ⊕ rb_Row)) := fun j r hj => by
    have q : ¬ (5 : Int32) ≤ nI j := by rw [show (5 : Int32) = nI 5 from rfl, nI_leI (by omega) (by omega)]; omega
    exact (if_neg q).trans (rb_bnd _ (rb_wr5 hj _) (congrArg (fun u => some (Sum.inl (u, upd r j (nI 0)))) (nI_add j 1)))
  have lp : rb_lp (ρ := rb_Row) (fun (s11 : Int32 × rb_Row) => if 5 ≤ s11.1 then some (.inr s11.2) else (rb_wr s11.2 5 s11.1 0).bind fun ty20 => some (.inl ((s11.1 + 1), ty20))) 100000 (0, ty) = some (upd (upd (upd (upd (upd ty 0 (nI 0)) 1 (nI 0)) 2 (nI 0)) 3 (nI 0)) 4 (nI 0)) := (rb_lpl (st 0 ty (by omega))).trans ((rb_lpl (st 1 _ (by omega))).trans ((rb_lpl (st 2 _ (by omega))).trans ((rb_lpl (st 3 _ (by omega))).trans ((rb_lpl (st 4 _ (by omega))).trans (rb_lpr (if_pos (show (5 : Int32) ≤ nI 5 by decide)))))))
  have e4 : upd (upd tf 4 (nI t0)) 5 (nI t1) 4 = nI t0 := by rw [rb_upn (by omega)]; exact rb_upe rfl
  have e5 : upd (upd tf 4 (nI t0)) 5 (nI t1) 5 = nI t1 := rb_upe rfl
  have r4 : rb_rd c 773 (569 + upd (upd tf 4 (nI t0)) 5 (nI t1) 4) = some (c (569 + t0)) := by
    rw [e4]; exact (congrArg (rb_rd c 773) (nI_add 569 t0)).trans (rb_rdn (by omega) (by omega))
  have r5 : rb_rd c 773 (569 + upd (upd tf 4 (nI t0)) 5 (nI t1) 5) = some (c (569 + t1)) := by
    rw [e5]; exact (congrArg (rb_rd c 773) (nI_add 569 t1)).trans (rb_rdn (by omega) (by omega))
  refine ⟨_, upd (upd (upd tf 4 (nI t0)) 5 (nI t1)) 6 (c (569 + t0) + c (569 + t1)), rb_bnd _ rfl (rb_bnd _ rfl (rb_bnd _ r4 (rb_bnd _ r5 (rb_bnd _ rfl (rb_bnd _ lp rfl))))), ?_, ?_, rb_upe rfl, ?_, ?_, ?_, ?_, ?_⟩
  · rw [rb_upn (by omega)]; exact e4
  · rw [rb_upn (by omega)]; exact e5
  · rw [rb_upn (by omega), rb_upn (by omega), rb_upn (by omega), rb_upn (by omega)]; exact rb_upe rfl
  · rw [rb_upn (by omega), rb_upn (by omega), rb_upn (by omega)]; exact rb_upe rfl
  · rw [rb_upn (by omega), rb_upn (by omega)]; exact rb_upe rfl
  · rw [rb_upn (by omega)]; exact rb_upe rfl
  · exact rb_upe rfl
theorem re_loop {B q BL t0 t1 : Nat} (h0 : t0 < 6) (h1 : t1 < 6) (hBL : BL + q + 60000 < 2000000000) {b0 b1 : Int32} {V : Nat → Option (Nat × Nat × Nat)} {c a0 : rb_Row} (hRF : rb_RF B q BL t0 t1 (b0 + b1) V 0 8 c) (hR : rb_RB B q c a0) {sd : rb_Row} (hsd : ∀ k, k < 796 → sd k = a0 k) (hs0 : a0 (560 + 39 * t0 + 5) = b0) (hs1 : a0 (560 + 39 * t1 + 5) = b1) (rd ag mf na nb nl sv wa : rb_Row) {ta : rb_Row} (he : rb_erT ta (0, 0, 0, 0, 0)) : ∃ a' rd' ag' mf' na' nb' nl' sv' ta', rb_lp (bdN sd (nI t0) (nI t1)) 100000 (0, a0, rd, ag, mf, na, nb, nl, sv, ta, wa) = some (a', rd', ag', mf', na', nb', nl', sv', ta', wa) ∧ (∀ k, k < 796 → a' k = a0 k) ∧ mf' 16 = mf 16 ∧ mf' 17 = mf 17 ∧ rb_erT ta' (rb_fo V 256 (0, 0, 0, 0, 0)) := by
  have lp := rb_lpi (body := bdN sd (nI t0) (nI t1)) (τ := rb_Row × rb_Row × rb_Row × rb_Row × rb_Row × rb_Row × rb_Row × rb_Row × rb_Row × rb_Row) (N := 100000) (fun j z => (nI j, z)) 256 (fun j z => (∀ k, k < 796 → z.1 k = a0 k) ∧ z.2.2.2.1 16 = mf 16 ∧ z.2.2.2.1 17 = mf 17 ∧ rb_erT z.2.2.2.2.2.2.2.2.1 (rb_fo V j (0, 0, 0, 0, 0)) ∧ rb_ok (rb_fo V j (0, 0, 0, 0, 0)) ∧ z.2.2.2.2.2.2.2.2.2 = wa) (fun z => (∀ k, k < 796 → z.1 k = a0 k) ∧ z.2.2.2.1 16 = mf 16 ∧ z.2.2.2.1 17 = mf 17 ∧ rb_erT z.2.2.2.2.2.2.2.2.1 (rb_fo V 256 (0, 0, 0, 0, 0)) ∧ z.2.2.2.2.2.2.2.2.2 = wa) (fun j z hj hP => by
      obtain ⟨a, rd1, ag1, mf1, na1, nb1, nl1, sv1, ta1, wa1⟩ := z
      obtain ⟨p1, p2, p3, p4, p5, p6⟩ := hP
      have p1' : ∀ k, k < 796 → a k = a0 k := p1
      have p4' : rb_erT ta1 (rb_fo V j (0, 0, 0, 0, 0)) := p4
      have p6' : wa1 = wa := p6
      subst p6'
      left
      have q : ¬ (256 : Int32) ≤ nI j := by rw [show (256 : Int32) = nI 256 from rfl, nI_leI (by omega) (by omega)]; omega
      have cn := rb_fo_cnt V (0, 0, 0, 0, 0) j
      have cn2 : (rb_fo V j (0, 0, 0, 0, 0)).1 ≤ 0 + j := cn.2
      obtain ⟨b, a', rd', ag', mf', na', nb', nl', sv', t1', t2, t3, t4⟩ := yn_try hRF hj (rb_RB_congr hR (Nat.le_refl _) (Nat.le_refl _) (fun _ _ => rfl) p1') rd1 ag1 mf1 na1 nb1 nl1 sv1 wa1
      have bb := yn_bringBack a' sd
      have hov : ∀ k, k < 796 → rb_ovr sd a' k = a0 k := fun k hk => (rb_ovr_in hk).trans (hsd k hk)
      have stp : rb_fo V (j + 1) (0, 0, 0, 0, 0) = rb_tao (rb_fo V j (0, 0, 0, 0, 0)) (V j) := rfl
      rcases t4 with ⟨x, e1, e2, c', e3, e4⟩ | ⟨e1, e2⟩
      · subst e2
        obtain ⟨rd2, ta2, y1, y2⟩ := yn_tallyNow e3 (by omega) h0 h1 e4 ((hsd _ (by omega)).trans hs0) ((hsd _ (by omega)).trans hs1) p5 (by omega) p4' rd'
        refine ⟨(rb_ovr sd a', rd2, ag', mf', na', nb', nl', sv', ta2, wa1), (if_neg q).trans (rb_bnd _ t1' (rb_bnd (rd2, ta2) ((if_neg (show ¬ nI 1 = (0 : Int32) by decide)).trans (rb_bnd _ y1 rfl)) (rb_bnd _ bb ?_))), hov, t2.trans p2, t3.trans p3, ?_, ?_, rfl⟩
        · exact congrArg (fun u => some (Sum.inl (u, rb_ovr sd a', rd2, ag', mf', na', nb', nl', sv', ta2, wa1))) (nI_add j 1)
        · rw [stp, e1]; exact y2
        · rw [stp, e1]; exact rb_ok_ta p5 (by omega) e4.2.1
      · subst e2
        refine ⟨(rb_ovr sd a', rd', ag', mf', na', nb', nl', sv', ta1, wa1), (if_neg q).trans (rb_bnd _ t1' (rb_bnd (rd', ta1) (if_pos rfl) (rb_bnd _ bb ?_))), hov, t2.trans p2, t3.trans p3, ?_, ?_, rfl⟩
        · exact congrArg (fun u => some (Sum.inl (u, rb_ovr sd a', rd', ag', mf', na', nb', nl', sv', ta1, wa1))) (nI_add j 1)
        · rw [stp, e1]; exact p4'
        · rw [stp, e1]; exact p5) (fun z hP => by
      obtain ⟨a, rd1, ag1, mf1, na1, nb1, nl1, sv1, ta1, wa1⟩ := z
      obtain ⟨p1, p2, p3, p4, p5, p6⟩ := hP
      exact ⟨(a, rd1, ag1, mf1, na1, nb1, nl1, sv1, ta1, wa1), if_pos (show (256 : Int32) ≤ nI 256 by decide), p1, p2, p3, p4, p6⟩) (by omega) (s := (a0, rd, ag, mf, na, nb, nl, sv, ta, wa)) ⟨fun _ _ => rfl, rfl, rfl, he, ⟨Nat.zero_le _, Nat.zero_le _, Nat.zero_le _⟩, rfl⟩
  obtain ⟨⟨a', rd', ag', mf', na', nb', nl', sv', ta', wa'⟩, l1, l2, l3, l4, l5, l6⟩ := lp
  have l6' : wa' = wa := l6
  subst l6'
  exact ⟨a', rd', ag', mf', na', nb', nl', sv', ta', l1, l2, l3, l4, l5⟩
