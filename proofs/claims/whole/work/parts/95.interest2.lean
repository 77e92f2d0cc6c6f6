theorem rb_cn_up (p : Nat → Bool) {i n : Nat} (h : i ≤ n) : rb_cn p i ≤ rb_cn p n := by
  induction n with
  | zero =>
    have : i = 0 := by omega
    subst this; exact Nat.le_refl _
  | succ n ih =>
    by_cases e : i = n + 1
    · subst e; exact Nat.le_refl _
    · have := ih (by omega)
      rw [rb_cn_succ]; omega
theorem rb_cn_lti {p : Nat → Bool} {i n : Nat} (h : i < n) (hp : p i = true) : rb_cn p i < rb_cn p n := by
  have := rb_cn_up p (show i + 1 ≤ n by omega)
  rw [rb_cn_succ, hp] at this
  simp only [cond_true] at this
  omega
theorem rp_nth {W q n : Nat} {π : Nat → Nat} {s s' : Nat} {c a : rb_Row} (hR : rR 28 W q n π s s' c a) (hs : s' < 2000000000) {x k : Nat} (hx : x < 28) {v1 : Int32} (e3 : rb_rd a 796 v1 = some (nI x)) (hk : k < rb_cn (fun i => decide (c (299 + i) = nI x)) n) : ∃ t13 e, XX7_addedBehind a (nI x) 1 0 = some t13 ∧ e < n ∧ c (299 + e) = nI x ∧ rb_cn (fun i => decide (c (299 + i) = nI x)) e = k ∧ rb_lp (ρ := Int32) (fun (s15 : Int32 × Int32) => if nI k ≤ s15.2 then some (.inr s15.1) else (rb_rd a 796 v1).bind fun v24 => (XX7_ofInterest a s15.1 6).bind fun t26 => (XX7_addedBehind a v24 1 t26).bind fun t28 => some (.inl (t28, (s15.2 + 1)))) 100000 (t13, 0) = some (nI (π e)) := by
  have hn24 : n ≤ 24 := hR.1.2.2.2.2.2.2.2
  have hI := hR.2.2.1
  have hcl : ∀ p : Nat → Bool, rb_cn p n ≤ 24 := fun p => Nat.le_trans (rb_cn_le p n) hn24
  have hcl' := hcl (fun i => decide (c (299 + i) = nI x))
  have f0 := rp_addedSet hR hx (fun i => decide (c (299 + i) = nI x)) 0 (fun i hi => by
    obtain ⟨_, _, _, _, v, v0, v1, ev⟩ := hI.2.2.2.1 i hi
    have : (0 : Int32) < nI v := by rw [show (0 : Int32) = nI 0 from rfl, nI_ltI (by omega) (by omega)]; exact v0
    rw [ev, decide_eq_true this, Bool.and_true])
  have f1 : ∀ e, e < n → c (299 + e) = nI x → XX7_addedBehind a (nI x) 1 (a (296 + 11 * π e + 6)) = some (rb_oi ((rb_am (fun i => decide (c (299 + i) = nI x) && decide (nI e < nI i)) (fun i => nI i) n).map π)) := fun e he _ => by
    refine rp_addedSet hR hx _ _ (fun i hi => ?_)
    congr 1
    refine decide_eq_decide.mpr ?_
    rw [nI_ltI (by omega) (by omega), Int32.lt_iff_toInt_lt]
    rcases Nat.lt_trichotomy e i with g | g | g
    · have := hI.2.2.2.2.1 e i g hi
      exact ⟨fun _ => g, fun _ => this⟩
    · subst g
      exact ⟨fun q => by omega, fun q => by omega⟩
    · have := hI.2.2.2.2.1 i e g he
      exact ⟨fun q => by omega, fun q => by omega⟩
  have hinj : ∀ j l, j < n → l < n → decide (c (299 + j) = nI x) = true → decide (c (299 + l) = nI x) = true → nI j = nI l → j = l := fun j l hj hl _ _ e => (nI_eq (by omega) (by omega)).mp e
  have ex : ∀ R : Nat → Bool, rb_cn (fun i => decide (c (299 + i) = nI x) && !R i) n < rb_cn (fun i => decide (c (299 + i) = nI x)) n → ∃ e, rb_am R (fun i => nI i) n = some e := fun R hlt => by
    cases hf : rb_am R (fun i => nI i) n with
    | some e => exact ⟨e, rfl⟩
    | none =>
      exfalso
      have hno := rb_am_none hf
      have : rb_cn (fun i => decide (c (299 + i) = nI x) && !R i) n = rb_cn (fun i => decide (c (299 + i) = nI x)) n := rb_cn_congr (fun i hi => by simp [hno i hi])
      omega
  have lp := rb_lpi (body := fun (s15 : Int32 × Int32) => if nI k ≤ s15.2 then some (.inr s15.1) else (rb_rd a 796 v1).bind fun v24 => (XX7_ofInterest a s15.1 6).bind fun t26 => (XX7_addedBehind a v24 1 t26).bind fun t28 => some (.inl (t28, (s15.2 + 1)))) (τ := Int32) (ρ := Int32) (N := 100000) (fun j z => (z, nI j)) k (fun j z => ∃ R : Nat → Bool, (∀ t, t < n → R t = true → decide (c (299 + t) = nI x) = true) ∧ (∀ i l, i < n → l < n → decide (c (299 + i) = nI x) = true → R i = false → R l = true → nI i < nI l) ∧ rb_cn (fun t => decide (c (299 + t) = nI x) && !R t) n = j ∧ z = rb_oi ((rb_am R (fun i => nI i) n).map π)) (fun r => ∃ e, e < n ∧ c (299 + e) = nI x ∧ rb_cn (fun i => decide (c (299 + i) = nI x)) e = k ∧ r = nI (π e)) (fun j z hj hP => by
      obtain ⟨R, r1, r2, r3, r4⟩ := hP
      left
      obtain ⟨e, hf⟩ := ex R (by omega)
      obtain ⟨s1, s2, s3, s4⟩ := rk_step (P := fun t => decide (c (299 + t) = nI x)) (T := fun t => decide (c (299 + t) = nI x)) (k := fun i => nI i) (fun _ _ g => g) r1 r2 hinj hf
      have pe := r1 e s1 s2
      have pe' : c (299 + e) = nI x := by simpa using pe
      rw [r3, pe] at s4
      rw [hf] at r4
      have r4' : z = nI (π e) := r4
      subst r4'
      have q1 : ¬ nI k ≤ nI j := by rw [nI_leI (by omega) (by omega)]; omega
      have o6 := xn_ofInterest a (f := 6) (hI.1 e s1).1 (by omega)
      refine ⟨_, (if_neg q1).trans (rb_bnd _ e3 (rb_bnd _ o6 (rb_bnd _ (f1 e s1 pe') (congrArg (fun u => some (Sum.inl (_, u))) (nI_add j 1))))), _, fun t ht g => by rw [Bool.and_eq_true] at g; exact g.1, fun i l hi hl g1 g2 g3 => ?_, s4, rfl⟩
      simp only [g1, Bool.true_and, decide_eq_false_iff_not] at g2
      simp only [Bool.and_eq_true, decide_eq_true_eq] at g3
      have g4 := g3.2
      rw [Int32.lt_iff_toInt_lt] at g2 g4 ⊢
      omega) (fun z hP => by
      obtain ⟨R, r1, r2, r3, r4⟩ := hP
      obtain ⟨e, hf⟩ := ex R (by omega)
      obtain ⟨s1, s2, s3, s4⟩ := rk_step (P := fun t => decide (c (299 + t) = nI x)) (T := fun t => decide (c (299 + t) = nI x)) (k := fun i => nI i) (fun _ _ g => g) r1 r2 hinj hf
      have pe := r1 e s1 s2
      have pe' : c (299 + e) = nI x := by simpa using pe
      rw [hf] at r4
      refine ⟨z, if_pos (show nI k ≤ nI k by rw [nI_leI (by omega) (by omega)]; exact Nat.le_refl _), e, s1, pe', ?_, r4⟩
      have := rb_cn_pre (p := fun i => decide (c (299 + i) = nI x)) (show e ≤ n by omega) (by omega)
      rw [← this, s3]; exact r3) (by omega) (s := rb_oi ((rb_am (fun i => decide (c (299 + i) = nI x)) (fun i => nI i) n).map π)) ⟨fun i => decide (c (299 + i) = nI x), fun _ _ g => g, fun i l _ _ g1 g2 _ => absurd (g1.symm.trans g2) (by decide), rb_cn_zero (fun i hi => by simp), rfl⟩
  obtain ⟨r, l1, e, l2, l3, l4, l5⟩ := lp
  subst l5
  exact ⟨_, e, f0, l2, l3, l4, l1⟩
theorem rs_interest : rb_S_interest rb_Inv := by
  intro n μ v1 v2 v3 hn h
  obtain ⟨nn, π, s, s', hR, hB⟩ := h.1
  have hn24 : nn ≤ 24 := hR.1.2.2.2.2.2.2.2
  have hsq := hR.1.2.2.2.2.2.1
  have hI := hR.2.2.1
  have hL := hR.2.2.2.1
  have h01 : ¬ (nI 1 = (0 : Int32)) := by decide
  have qm : ¬ (0 : Int32) ≤ mI := by decide
  have key : ∃ d rd', XX6_interest (μ 5) v1 v2 v3 = some d ∧ XX7_interest (μ 21) (μ 20) v1 v2 v3 = some (d, rd') := by
    unfold XX6_interest XX7_interest
    rcases rp_set hR v1 with ⟨e1, e2⟩ | ⟨k, x, hk, hx, ev, ec, ea, h4, e1, e2, e3⟩
    · exact ⟨-1, μ 21, rb_bnd _ e1 (rb_bnd mI (if_neg qm) (if_neg qm)), rb_bnd _ e2 (if_pos rfl)⟩
    · have qx : (0 : Int32) ≤ nI x := nI_pos' (by omega)
      have os := xn_ofSet hR.1.2.2.2.2.2.2.1 hn24 (nI x) v2
      obtain ⟨_, hb⟩ := rp_heldBy hR hx
      have hHl : rb_cn (fun i => decide (μ 5 (299 + i) = nI x)) nn ≤ 24 := Nat.le_trans (rb_cn_le _ nn) hn24
      have hlt : ∀ i, i < nn → decide (μ 5 (299 + i) = nI x) = true → rb_cn (fun i => decide (μ 5 (299 + i) = nI x)) i < rb_cn (fun i => decide (μ 5 (299 + i) = nI x)) nn := fun i hi hp => rb_cn_lti (p := fun i => decide (μ 5 (299 + i) = nI x)) hi hp
      have no : (∀ i, i < nn → decide (μ 5 (299 + i) = nI x) = true → ¬ nI (rb_cn (fun j => decide (μ 5 (299 + j) = nI x)) i) = v2) → XX7_isIn v2 0 (nI (rb_cn (fun i => decide (μ 5 (299 + i) = nI x)) nn) - 1) = some (nI 0) → ∃ d rd', ((XX6_setOf (μ 5) v1).bind fun t1 => ((if 0 ≤ t1 then (XX1_ofSet (μ 5) t1 v2).bind fun t7 => some t7 else some (-1)) : Option (Int32)).bind fun j3 => if 0 ≤ j3 then if v3 = 0 then (rb_rd (μ 5) 773 (347 + j3)).bind fun v11 => some v11 else if v3 = 1 then (rb_rd (μ 5) 773 (371 + j3)).bind fun v14 => some v14 else if v3 = 2 then (rb_rd (μ 5) 773 (395 + j3)).bind fun v17 => some v17 else if v3 = 3 then (rb_rd (μ 5) 773 (419 + j3)).bind fun v20 => some v20 else if v3 = 4 then (XX1_placeOf (μ 5) j3).bind fun t23 => some t23 else if v3 = 5 then (XX1_tells (μ 5) j3).bind fun t26 => if t26 = 0 then some 0 else some 1 else if v3 = 6 then (rb_rd (μ 5) 773 (347 + j3)).bind fun v30 => (XX5_thingOf (μ 5) v30).bind fun t32 => (rb_rd (μ 5) 773 (323 + j3)).bind fun v34 => if t32 = v34 then some 1 else some 0 else if v3 = 7 then (rb_rd (μ 5) 773 (467 + j3)).bind fun v38 => some v38 else if v3 = 8 then (rb_rd (μ 5) 773 (491 + j3)).bind fun v41 => some v41 else if v3 = 9 then (rb_rd (μ 5) 773 (515 + j3)).bind fun v44 => some v44 else some (-1) else some (-1)) = some d ∧ XX7_interest (μ 21) (μ 20) v1 v2 v3 = some (d, rd') := fun hno hin => by
        have os' : XX1_ofSet (μ 5) (nI x) v2 = some mI := by
          rw [os, rb_fd_all (fun i hi => ?_)]; rfl
          cases hp : decide (μ 5 (299 + i) = nI x) with
          | false => rfl
          | true => rw [decide_eq_false (hno i hi hp)]; rfl
        unfold XX7_interest
        exact ⟨-1, μ 21, rb_bnd _ e1 (rb_bnd mI ((if_pos qx).trans (rb_bnd _ os' rfl)) (if_neg qm)), rb_bnd _ e2 ((if_neg h01).trans (rb_bnd _ e3 (rb_bnd _ hb (rb_bnd _ hin (if_pos rfl)))))⟩
      by_cases hH0 : rb_cn (fun i => decide (μ 5 (299 + i) = nI x)) nn = 0
      · refine no (fun i hi hp => ?_) ?_
        · have := hlt i hi hp; omega
        · rw [hH0]
          unfold XX7_isIn
          by_cases g : v2 < 0
          · exact if_pos g
          · refine (if_neg g).trans (if_pos ?_)
            rw [Int32.lt_iff_toInt_lt] at g ⊢
            rw [show (0 : Int32).toInt = 0 by decide] at g
            rw [show (nI 0 - 1 : Int32).toInt = -1 by decide]
            omega
      · obtain ⟨H, eH⟩ : ∃ H, rb_cn (fun i => decide (μ 5 (299 + i) = nI x)) nn = H + 1 := ⟨rb_cn (fun i => decide (μ 5 (299 + i) = nI x)) nn - 1, by omega⟩
        have sb : nI (rb_cn (fun i => decide (μ 5 (299 + i) = nI x)) nn) - 1 = nI H := by rw [eH]; exact rb_sub (a := H + 1) (b := 1) (by omega)
        rcases rp_between v2 (l := 0) (m := H) (by omega) (by omega) with ⟨w, _, hw, ew, _, b2⟩ | ⟨_, b2⟩
        · have hin : XX7_isIn v2 0 (nI (rb_cn (fun i => decide (μ 5 (299 + i) = nI x)) nn) - 1) = some (nI 1) := by rw [sb]; exact b2
          subst ew
          obtain ⟨t13, e, n1, n2, n3, n4, n5⟩ := rp_nth hR (by omega) hx e3 (show w < rb_cn (fun i => decide (μ 5 (299 + i) = nI x)) nn by omega)
          have os' : XX1_ofSet (μ 5) (nI x) (nI w) = some (nI e) := by
            rw [os, rb_fd_uni n2 (by simp [n3, n4]) (fun l hl el => ?_)]; rfl
            simp only [Bool.and_eq_true, decide_eq_true_eq] at el
            have hl1 := hlt l hl (by simp [el.1])
            have h7 := (nI_eq (by omega) (by omega)).mp el.2
            rcases Nat.lt_trichotomy l e with g | g | g
            · have := rb_cn_lti (p := fun i => decide (μ 5 (299 + i) = nI x)) g (by simp [el.1]); omega
            · exact g
            · have := rb_cn_lti (p := fun i => decide (μ 5 (299 + i) = nI x)) g (by simp [n3]); omega
          have qe : (0 : Int32) ≤ nI e := nI_pos' (by omega)
          have hπ := (hI.1 e n2).1
          have rd : ∀ col, col ≤ 515 → rb_rd (μ 5) 773 (nI col + nI e) = some (μ 5 (col + e)) := fun col hc => (congrArg (rb_rd (μ 5) 773) (nI_add col e)).trans (rb_rdn (by omega) (by omega))
          have of : ∀ f, f < 11 → XX7_ofInterest (μ 20) (nI (π e)) (nI f) = some (μ 20 (296 + 11 * π e + f)) := fun f hf => xn_ofInterest (μ 20) hπ hf
          obtain ⟨i0, i1, i2, i3, i4⟩ := (hI.1 e n2).2
          obtain ⟨l1, l2, l3, l4⟩ := hL.1 e n2
          obtain ⟨dp, p1, p2⟩ := rp_place hR (by omega) hx n2 n3
          obtain ⟨rd', y1, y2⟩ := yn_layReady hR (by omega) (μ 21)
          have pre : ∀ {α : Type} {F : Int32 → Option α} {o : α}, F (nI e) = some o → ((XX6_setOf (μ 5) v1).bind fun t1 => ((if 0 ≤ t1 then (XX1_ofSet (μ 5) t1 (nI w)).bind fun t7 => some t7 else some (-1)) : Option (Int32)).bind fun j3 => F j3) = some o := fun g => rb_bnd _ e1 (rb_bnd (nI e) ((if_pos qx).trans (rb_bnd _ os' rfl)) g)
          have pre7 : ∀ {F : Int32 → Option (Int32 × rb_Row)} {o : Int32 × rb_Row}, F (nI (π e)) = some o → ((XX7_names (μ 20) v1 4).bind fun t1 => if t1 = 0 then some ((-1), μ 21) else (rb_rd (μ 20) 796 v1).bind fun v4 => (XX7_heldBy (μ 20) v4).bind fun t6 => (XX7_isIn (nI w) 0 (t6 - 1)).bind fun t8 => if t8 = 0 then some ((-1), μ 21) else (rb_rd (μ 20) 796 v1).bind fun v11 => (XX7_addedBehind (μ 20) v11 1 0).bind fun t13 => (rb_lp (ρ := Int32) (fun (s15 : Int32 × Int32) => if nI w ≤ s15.2 then some (.inr s15.1) else (rb_rd (μ 20) 796 v1).bind fun v24 => (XX7_ofInterest (μ 20) s15.1 6).bind fun t26 => (XX7_addedBehind (μ 20) v24 1 t26).bind fun t28 => some (.inl (t28, (s15.2 + 1)))) 100000 (t13, 0)).bind fun q16 => F q16) = some o := fun g => rb_bnd _ e2 ((if_neg h01).trans (rb_bnd _ e3 (rb_bnd _ hb (rb_bnd _ hin ((if_neg h01).trans (rb_bnd _ e3 (rb_bnd _ n1 (rb_bnd _ n5 g))))))))
          by_cases g0 : v3 = 0
          · exact ⟨_, _, pre ((if_pos qe).trans ((if_pos g0).trans (rb_bnd _ (rd 347 (by omega)) rfl))), pre7 ((if_pos g0).trans (rb_bnd _ (of 2 (by omega)) (by rw [i2])))⟩
          · by_cases g1 : v3 = 1
            · exact ⟨_, _, pre ((if_pos qe).trans ((if_neg g0).trans ((if_pos g1).trans (rb_bnd _ (rd 371 (by omega)) rfl)))), pre7 ((if_neg g0).trans ((if_pos g1).trans (rb_bnd _ (of 3 (by omega)) (by rw [i3]))))⟩
            · by_cases g2 : v3 = 2
              · exact ⟨_, _, pre ((if_pos qe).trans ((if_neg g0).trans ((if_neg g1).trans ((if_pos g2).trans (rb_bnd _ (rd 395 (by omega)) rfl))))), pre7 ((if_neg g0).trans ((if_neg g1).trans ((if_pos g2).trans (rb_bnd _ (of 4 (by omega)) (by rw [i4])))))⟩
              · by_cases g3 : v3 = 3
                · exact ⟨_, _, pre ((if_pos qe).trans ((if_neg g0).trans ((if_neg g1).trans ((if_neg g2).trans ((if_pos g3).trans (rb_bnd _ (rd 419 (by omega)) rfl)))))), pre7 ((if_neg g0).trans ((if_neg g1).trans ((if_neg g2).trans ((if_pos g3).trans (rb_bnd _ (of 5 (by omega)) (by rw [l2]))))))⟩
                · by_cases g4 : v3 = 4
                  · exact ⟨_, _, pre ((if_pos qe).trans ((if_neg g0).trans ((if_neg g1).trans ((if_neg g2).trans ((if_neg g3).trans ((if_pos g4).trans (rb_bnd _ p1 rfl))))))), pre7 ((if_neg g0).trans ((if_neg g1).trans ((if_neg g2).trans ((if_neg g3).trans ((if_pos g4).trans (rb_bnd _ p2 rfl))))))⟩
                  · by_cases g5 : v3 = 5
                    · have tl := xn_tells hR n2
                      obtain ⟨y, hy, ey, hlv, _⟩ := hI.2.2.1 e n2
                      have tr : XX7_isTrue (μ 20) rd' (nI (π e)) = some (bif rb_tl (μ 5) nn e then nI 1 else nI 0) := by
                        rw [yn_isTrue (μ 20) rd' hπ ⟨y, hy, i1.trans ey⟩, rb_tells (F := rq (μ 5) nn 4) hI hL n2 (by rw [nt_n ey (by omega)]; exact y2 y hy (by omega) hlv)]
                        rfl
                      unfold rb_tl at tr
                      by_cases t1 : μ 5 (419 + e) = nI 0
                      · rw [if_pos t1] at tl
                        simp only [t1, decide_true, Bool.not_true, Bool.false_and, cond_false] at tr
                        exact ⟨_, _, pre ((if_pos qe).trans ((if_neg g0).trans ((if_neg g1).trans ((if_neg g2).trans ((if_neg g3).trans ((if_neg g4).trans ((if_pos g5).trans (rb_bnd _ tl (if_pos rfl))))))))), pre7 ((if_neg g0).trans ((if_neg g1).trans ((if_neg g2).trans ((if_neg g3).trans ((if_neg g4).trans ((if_pos g5).trans (rb_bnd _ y1 (rb_bnd _ tr (if_pos rfl)))))))))⟩
                      · rw [if_neg t1] at tl
                        by_cases t2 : rb_bt (μ 5) e &&& rq (μ 5) nn 4 (nt (μ 5 (323 + e))) = nI 0
                        · simp only [t2, decide_true, Bool.not_true, Bool.and_false, cond_false] at tr
                          exact ⟨_, _, pre ((if_pos qe).trans ((if_neg g0).trans ((if_neg g1).trans ((if_neg g2).trans ((if_neg g3).trans ((if_neg g4).trans ((if_pos g5).trans (rb_bnd _ tl (if_pos t2))))))))), pre7 ((if_neg g0).trans ((if_neg g1).trans ((if_neg g2).trans ((if_neg g3).trans ((if_neg g4).trans ((if_pos g5).trans (rb_bnd _ y1 (rb_bnd _ tr (if_pos rfl)))))))))⟩
                        · simp only [t1, t2, decide_false, Bool.not_false, Bool.and_self, cond_true] at tr
                          exact ⟨_, _, pre ((if_pos qe).trans ((if_neg g0).trans ((if_neg g1).trans ((if_neg g2).trans ((if_neg g3).trans ((if_neg g4).trans ((if_pos g5).trans (rb_bnd _ tl (if_neg t2))))))))), pre7 ((if_neg g0).trans ((if_neg g1).trans ((if_neg g2).trans ((if_neg g3).trans ((if_neg g4).trans ((if_pos g5).trans (rb_bnd _ y1 (rb_bnd _ tr (if_neg h01)))))))))⟩
                    · by_cases g6 : v3 = 6
                      · obtain ⟨_, ⟨hh, hh1, hh2⟩, _⟩ := hI.2.2.2.1 e n2
                        have ri := rd 347 (by omega)
                        rw [hh2] at ri
                        have of2 := of 2 (by omega)
                        rw [i2, hh2] at of2
                        have of1 := of 1 (by omega)
                        rw [i1] at of1
                        have th := xn_thingk (c := μ 5) hh1
                        have ra : rb_rd (μ 20) 796 (nI hh) = some (μ 5 (3 + hh)) := (rb_rdn (by omega) (by omega)).trans (congrArg some (hR.2.1.1 hh hh1).1)
                        by_cases t1 : μ 5 (3 + hh) = μ 5 (323 + e)
                        · exact ⟨_, _, pre ((if_pos qe).trans ((if_neg g0).trans ((if_neg g1).trans ((if_neg g2).trans ((if_neg g3).trans ((if_neg g4).trans ((if_neg g5).trans ((if_pos g6).trans (rb_bnd _ ri (rb_bnd _ th (rb_bnd _ (rd 323 (by omega)) (if_pos t1)))))))))))), pre7 ((if_neg g0).trans ((if_neg g1).trans ((if_neg g2).trans ((if_neg g3).trans ((if_neg g4).trans ((if_neg g5).trans ((if_pos g6).trans (rb_bnd _ of2 (rb_bnd _ ra (rb_bnd _ of1 (if_pos t1)))))))))))⟩
                        · exact ⟨_, _, pre ((if_pos qe).trans ((if_neg g0).trans ((if_neg g1).trans ((if_neg g2).trans ((if_neg g3).trans ((if_neg g4).trans ((if_neg g5).trans ((if_pos g6).trans (rb_bnd _ ri (rb_bnd _ th (rb_bnd _ (rd 323 (by omega)) (if_neg t1)))))))))))), pre7 ((if_neg g0).trans ((if_neg g1).trans ((if_neg g2).trans ((if_neg g3).trans ((if_neg g4).trans ((if_neg g5).trans ((if_pos g6).trans (rb_bnd _ of2 (rb_bnd _ ra (rb_bnd _ of1 (if_neg t1)))))))))))⟩
                      · by_cases g7 : v3 = 7
                        · exact ⟨_, _, pre ((if_pos qe).trans ((if_neg g0).trans ((if_neg g1).trans ((if_neg g2).trans ((if_neg g3).trans ((if_neg g4).trans ((if_neg g5).trans ((if_neg g6).trans ((if_pos g7).trans (rb_bnd _ (rd 467 (by omega)) rfl)))))))))), pre7 ((if_neg g0).trans ((if_neg g1).trans ((if_neg g2).trans ((if_neg g3).trans ((if_neg g4).trans ((if_neg g5).trans ((if_neg g6).trans ((if_pos g7).trans (rb_bnd _ (of 8 (by omega)) (by rw [l3]))))))))))⟩
                        · by_cases g8 : v3 = 8
                          · exact ⟨_, _, pre ((if_pos qe).trans ((if_neg g0).trans ((if_neg g1).trans ((if_neg g2).trans ((if_neg g3).trans ((if_neg g4).trans ((if_neg g5).trans ((if_neg g6).trans ((if_neg g7).trans ((if_pos g8).trans (rb_bnd _ (rd 491 (by omega)) rfl))))))))))), pre7 ((if_neg g0).trans ((if_neg g1).trans ((if_neg g2).trans ((if_neg g3).trans ((if_neg g4).trans ((if_neg g5).trans ((if_neg g6).trans ((if_neg g7).trans ((if_pos g8).trans (rb_bnd _ (of 9 (by omega)) (by rw [l4])))))))))))⟩
                          · by_cases g9 : v3 = 9
                            · have r9 : ((XX7_ofInterest (μ 20) (nI (π e)) 7).bind fun t66 => if t66 ≤ 0 then some ((0 : Int32), μ 21) else (XX7_ofInterest (μ 20) (nI (π e)) 10).bind fun t69 => some (t69, μ 21)) = some (μ 5 (515 + e), μ 21) := by
                                rcases hL.2.1 e n2 with ⟨_, m2, m3⟩ | ⟨u, v, _, m1, m2, _, m3, m4⟩
                                · have of7 := of 7 (by omega)
                                  rw [m2] at of7
                                  rw [m3]
                                  exact rb_bnd _ of7 (if_pos (show nI 0 ≤ (0 : Int32) by decide))
                                · have of7 := of 7 (by omega)
                                  rw [m3] at of7
                                  have of10 := of 10 (by omega)
                                  rw [m4] at of10
                                  have q : ¬ nI v ≤ (0 : Int32) := by rw [show (0 : Int32) = nI 0 from rfl, nI_leI (by omega) (by omega)]; omega
                                  exact rb_bnd _ of7 ((if_neg q).trans (rb_bnd _ of10 rfl))
                              exact ⟨_, _, pre ((if_pos qe).trans ((if_neg g0).trans ((if_neg g1).trans ((if_neg g2).trans ((if_neg g3).trans ((if_neg g4).trans ((if_neg g5).trans ((if_neg g6).trans ((if_neg g7).trans ((if_neg g8).trans ((if_pos g9).trans (rb_bnd _ (rd 515 (by omega)) rfl)))))))))))), pre7 ((if_neg g0).trans ((if_neg g1).trans ((if_neg g2).trans ((if_neg g3).trans ((if_neg g4).trans ((if_neg g5).trans ((if_neg g6).trans ((if_neg g7).trans ((if_neg g8).trans ((if_pos g9).trans r9))))))))))⟩
                            · exact ⟨_, _, pre ((if_pos qe).trans ((if_neg g0).trans ((if_neg g1).trans ((if_neg g2).trans ((if_neg g3).trans ((if_neg g4).trans ((if_neg g5).trans ((if_neg g6).trans ((if_neg g7).trans ((if_neg g8).trans (if_neg g9))))))))))), pre7 ((if_neg g0).trans ((if_neg g1).trans ((if_neg g2).trans ((if_neg g3).trans ((if_neg g4).trans ((if_neg g5).trans ((if_neg g6).trans ((if_neg g7).trans ((if_neg g8).trans (if_neg g9))))))))))⟩
        · refine no (fun i hi hp g => ?_) (by rw [sb]; exact b2)
          have h6 := hlt i hi hp
          rw [← g] at b2
          have b3 : XX7_isIn (nI (rb_cn (fun j => decide (μ 5 (299 + j) = nI x)) i)) (nI 0) (nI H) = some (nI 1) := by
            unfold XX7_isIn
            refine (if_neg (nI_pos (by omega))).trans ((if_neg ?_).trans rfl)
            rw [nI_ltI (by omega) (by omega)]; omega
          rw [b3] at b2
          exact absurd b2 (by decide)
  obtain ⟨d, rd', k1, k2⟩ := key
  exact ⟨d, (d, rd'), k1, k2, rfl, rb_fin0 h rfl rfl rfl rfl rfl rfl rfl rfl rfl rfl rfl⟩
