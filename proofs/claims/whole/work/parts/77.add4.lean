set_option maxHeartbeats 16000000 in
/-- add -/
theorem ra_add {B q : Nat} {c a : rb_Row} (h : rb_RB B q c a) (hb : B + q + 30000 < 2000000000) (v0 v1 v2 v3 : Int32) (g f rd ag mf na nb nl sv be ab wa mf1 wa1 : rb_Row) (hK : XX7_keepAct mf wa a = some (mf1, wa1)) : ∃ ans c' g' f' a' rd' ag' mf' na' nb' nl' sv' be' ab' wa', XX0_addInterest c g f v0 v1 v2 v3 = some (ans, c', g', f') ∧ XX7_add a rd ag mf na nb nl sv be ab wa v0 v1 v2 v3 = some (ans, a', rd', ag', mf', na', nb', nl', sv', be', ab', wa') ∧ ((nI 1 ≤ ans ∧ rb_RB (B + 700) (q + 1) c' a' ∧ (∀ k, k ≠ 3 → k ≠ 11 → mf' k = mf1 k) ∧ wa' = wa1) ∨ (¬ nI 1 ≤ ans ∧ c' = c ∧ a' = a ∧ mf' = mf ∧ wa' = wa)) := by
  obtain ⟨n, π, s, s', hR, hs⟩ := h
  have hH := hR.2.1
  have hn : n ≤ 24 := hR.1.2.2.2.2.2.2.2
  have hc2 : c 2 = nI n := hR.1.2.2.2.2.2.2.1
  have es : a 795 = nI s' := hR.1.2.2.2.1
  have no : ∀ (ans : Int32) (be' ab' : rb_Row), ¬ nI 1 ≤ ans → XX0_addInterest c g f v0 v1 v2 v3 = some (ans, c, g, f) → XX7_add a rd ag mf na nb nl sv be ab wa v0 v1 v2 v3 = some (ans, a, rd, ag, mf, na, nb, nl, sv, be', ab', wa) → ∃ ans c' g' f' a' rd' ag' mf' na' nb' nl' sv' be' ab' wa', XX0_addInterest c g f v0 v1 v2 v3 = some (ans, c', g', f') ∧ XX7_add a rd ag mf na nb nl sv be ab wa v0 v1 v2 v3 = some (ans, a', rd', ag', mf', na', nb', nl', sv', be', ab', wa') ∧ ((nI 1 ≤ ans ∧ rb_RB (B + 700) (q + 1) c' a' ∧ (∀ k, k ≠ 3 → k ≠ 11 → mf' k = mf1 k) ∧ wa' = wa1) ∨ (¬ nI 1 ≤ ans ∧ c' = c ∧ a' = a ∧ mf' = mf ∧ wa' = wa)) := fun ans be' ab' i1 i2 i3 =>
    ⟨ans, c, g, f, a, rd, ag, mf, na, nb, nl, sv, be', ab', wa, i2, i3, Or.inr ⟨i1, rfl, rfl, rfl, rfl⟩⟩
  have n10 : ¬ nI 1 = 0 := by decide
  have m0 : mI < (0 : Int32) := by decide
  have pos : ∀ {k : Nat}, k < 2 ^ 31 → ¬ nI k < (0 : Int32) := fun {k} hk => by
    rw [show (0 : Int32) = nI 0 from rfl, nI_ltI hk (by omega)]; omega
  have rf := rp_found hR v0 v1
  rcases rp_thing hH v0 with ⟨r1, r2⟩ | ⟨k0, x, hk0, hx, ev0, ec0, ea0, hl0, hw0, hz0, r1, r2⟩
  · obtain ⟨t3, ht3⟩ : ∃ t3, XX5_thingOf c v1 = some t3 := by
      rcases rp_thing hH v1 with ⟨p1, _⟩ | ⟨_, y, _, _, _, _, _, _, _, _, p1, _⟩
      · exact ⟨_, p1⟩
      · exact ⟨_, p1⟩
    refine no (-1) be ab (by decide) ?_ ?_
    · unfold XX0_addInterest
      exact rb_bnd _ (xn_kindOf5n 4 r1) (rb_bnd _ ht3 (if_pos m0))
    · unfold XX7_add
      exact rb_bnd _ (yn_namesn 4 r2) (if_pos rfl)
  subst ev0
  have k5 := xn_kindOf5 (nI 4) hx r1
  have kn := yn_names (nI 4) hk0 hx ea0 r2
  rw [(hH.2.1 x hx).1] at kn
  by_cases h4 : c (19 + x) = nI 4
  rotate_left
  · obtain ⟨t3, ht3⟩ : ∃ t3, XX5_thingOf c v1 = some t3 := by
      rcases rp_thing hH v1 with ⟨p1, _⟩ | ⟨_, y, _, _, _, _, _, _, _, _, p1, _⟩
      · exact ⟨_, p1⟩
      · exact ⟨_, p1⟩
    rw [if_neg h4] at k5 kn
    refine no (-1) be ab (by decide) ?_ ?_
    · unfold XX0_addInterest
      exact rb_bnd _ k5 (rb_bnd _ ht3 (if_pos m0))
    · unfold XX7_add
      exact rb_bnd _ kn (if_pos rfl)
  rw [if_pos h4] at k5 kn
  have hx0 : ¬ nI x < (0 : Int32) := pos (by omega)
  rcases rp_thing hH v1 with ⟨p1, p2⟩ | ⟨k1, y, hk1, hy, ev1, ec1, ea1, hl1, hw1, hz1, p1, p2⟩
  · refine no (-1) be ab (by decide) ?_ ?_
    · unfold XX0_addInterest
      exact rb_bnd _ k5 (rb_bnd _ p1 ((if_neg hx0).trans (if_pos m0)))
    · unfold XX7_add
      exact rb_bnd _ kn ((if_neg n10).trans (rb_bnd _ p2 (if_pos rfl)))
  subst ev1
  have hy0 : ¬ nI y < (0 : Int32) := pos (by omega)
  have rd0 : rb_rd a 796 (nI k0) = some (nI x) := (rb_rdn (by omega) (by omega)).trans (congrArg some ea0)
  have rd1 : rb_rd a 796 (nI k1) = some (nI y) := (rb_rdn (by omega) (by omega)).trans (congrArg some ea1)
  by_cases hxy : x = y
  · subst hxy
    refine no (-1) be ab (by decide) ?_ ?_
    · unfold XX0_addInterest
      exact rb_bnd _ k5 (rb_bnd _ p1 ((if_neg hx0).trans ((if_neg hy0).trans (if_pos rfl))))
    · unfold XX7_add
      exact rb_bnd _ kn ((if_neg n10).trans (rb_bnd _ p2 ((if_neg n10).trans (rb_bnd _ rd0 (rb_bnd _ rd1 (if_pos rfl))))))
  have hne : ¬ nI x = nI y := fun e => hxy ((nI_eq (by omega) (by omega)).mp e)
  rcases rp_between v2 (l := 0) (m := 3) (by omega) (by omega) with ⟨m, _, hm, ev2, b1, b2⟩ | ⟨b1, b2⟩
  rotate_left
  · have su : XX7_isSuch v2 v3 = some (nI 0) := by
      unfold XX7_isSuch
      exact rb_bnd _ b2 (if_pos rfl)
    refine no (-1) be ab (by decide) ?_ ?_
    · unfold XX0_addInterest
      exact rb_bnd _ k5 (rb_bnd _ p1 ((if_neg hx0).trans ((if_neg hy0).trans ((if_neg hne).trans (rb_bnd _ b1 (if_pos rfl))))))
    · unfold XX7_add
      exact rb_bnd _ kn ((if_neg n10).trans (rb_bnd _ p2 ((if_neg n10).trans (rb_bnd _ rd0 (rb_bnd _ rd1 ((if_neg hne).trans (rb_bnd _ su (if_pos rfl))))))))
  rcases rp_between v3 (l := 0) (m := 7) (by omega) (by omega) with ⟨w, _, hw, ev3, d1, d2⟩ | ⟨d1, d2⟩
  rotate_left
  · have su : XX7_isSuch v2 v3 = some (nI 0) := by
      unfold XX7_isSuch
      exact rb_bnd _ b2 ((if_neg n10).trans (rb_bnd _ d2 (if_pos rfl)))
    refine no (-1) be ab (by decide) ?_ ?_
    · unfold XX0_addInterest
      exact rb_bnd _ k5 (rb_bnd _ p1 ((if_neg hx0).trans ((if_neg hy0).trans ((if_neg hne).trans (rb_bnd _ b1 ((if_neg n10).trans (rb_bnd _ d1 (if_pos rfl))))))))
    · unfold XX7_add
      exact rb_bnd _ kn ((if_neg n10).trans (rb_bnd _ p2 ((if_neg n10).trans (rb_bnd _ rd0 (rb_bnd _ rd1 ((if_neg hne).trans (rb_bnd _ su (if_pos rfl))))))))
  have su : XX7_isSuch v2 v3 = some (nI 1) := by
    unfold XX7_isSuch
    exact rb_bnd _ b2 ((if_neg n10).trans (rb_bnd _ d2 (if_neg n10)))
  subst ev2 ev3
  have ef := xn_find c (nI x) (nI k1) (nI y) n hc2 hn
  have P : ∀ r, (if rb_oi (rb_fd (fun i => decide (c (299 + i) = nI x) && (decide (c (347 + i) = nI k1) && decide (c (323 + i) = nI y))) n) < 0 then (rb_rd c 773 (19 + nI y)).bind fun v17 => if v17 = 4 then (XX1_deepAbove 5 c (nI x) 1).bind fun t20 => (XX1_deepBelow 5 c (nI y) 1).bind fun t22 => if (t20 + t22) ≤ 3 then (XX1_append c (nI x) (nI k1) (nI y) (nI m) (nI w)).bind fun t25 => if 0 ≤ t25.1 then (XX0_armInterest t25.2 g f t25.1).bind fun t28 => (XX1_heldBy t28.2.1 (nI x)).bind fun t30 => some (t30, t28.2.1, t28.2.2.1, t28.2.2.2) else some ((-4), t25.2, g, f) else some ((-3), c, g, f) else (XX1_append c (nI x) (nI k1) (nI y) (nI m) (nI w)).bind fun t32 => if 0 ≤ t32.1 then (XX0_armInterest t32.2 g f t32.1).bind fun t35 => (XX1_heldBy t35.2.1 (nI x)).bind fun t37 => some (t37, t35.2.1, t35.2.2.1, t35.2.2.2) else some ((-4), t32.2, g, f) else some ((-2), c, g, f)) = some r → XX0_addInterest c g f (nI k0) (nI k1) (nI m) (nI w) = some r := fun r e => by
    unfold XX0_addInterest
    exact rb_bnd _ k5 (rb_bnd _ p1 ((if_neg hx0).trans ((if_neg hy0).trans ((if_neg hne).trans (rb_bnd _ b1 ((if_neg n10).trans (rb_bnd _ d1 ((if_neg n10).trans (rb_bnd _ ef e)))))))))
  have Q : ∀ (t15 : Int32) r, XX7_found a (nI k0) (nI k1) = some t15 → (if t15 < 0 then (rb_rd a 796 (nI k0)).bind fun v18 => (rb_rd a 796 (nI k1)).bind fun v20 => (XX7_isTooDeep be ab a v18 v20).bind fun t22 => if t22.1 = 0 then (XX7_interestsNow a).bind fun t25 => if t25 = 24 then some ((-4), a, rd, ag, mf, na, nb, nl, sv, t22.2.1, t22.2.2, wa) else (XX7_keepAct mf wa a).bind fun t28 => (rb_lp (ρ := Int32) (fun (s30 : Int32) => (XX7_isInterest a s30).bind fun t38 => if t38 = 0 then some (.inr s30) else some (.inl (s30 + 1))) 100000 0).bind fun q31 => (XX7_interestAt q31 0).bind fun t41 => (rb_rd a 796 (nI k0)).bind fun v43 => (rb_wr a 796 t41 v43).bind fun a45 => (XX7_interestAt q31 1).bind fun t47 => (rb_rd a45 796 (nI k1)).bind fun v49 => (rb_wr a45 796 t47 v49).bind fun a51 => (XX7_interestAt q31 2).bind fun t53 => (rb_wr a51 796 t53 (nI k1)).bind fun a55 => (XX7_interestAt q31 6).bind fun t57 => (XX7_stamp a55).bind fun t59 => (rb_wr t59.2 796 t57 t59.1).bind fun a61 => (XX7_interestAt q31 7).bind fun t63 => (rb_wr a61 796 t63 0).bind fun a65 => (XX7_interestAt q31 8).bind fun t67 => (rb_wr a65 796 t67 0).bind fun a69 => (XX7_interestAt q31 9).bind fun t71 => (rb_wr a69 796 t71 0).bind fun a73 => (XX7_tell a73 rd ag t28.1 na nb nl sv q31 (nI m) (nI w)).bind fun t75 => (rb_rd t75.1 796 (nI k0)).bind fun v77 => (XX7_heldBy t75.1 v77).bind fun t79 => some (t79, t75.1, t75.2.1, t75.2.2.1, t75.2.2.2.1, t75.2.2.2.2.1, t75.2.2.2.2.2.1, t75.2.2.2.2.2.2.1, t75.2.2.2.2.2.2.2, t22.2.1, t22.2.2, t28.2) else some ((-3), a, rd, ag, mf, na, nb, nl, sv, t22.2.1, t22.2.2, wa) else some ((-2), a, rd, ag, mf, na, nb, nl, sv, be, ab, wa)) = some r → XX7_add a rd ag mf na nb nl sv be ab wa (nI k0) (nI k1) (nI m) (nI w) = some r := fun t15 r e1 e => by
    unfold XX7_add
    exact rb_bnd _ kn ((if_neg n10).trans (rb_bnd _ p2 ((if_neg n10).trans (rb_bnd _ rd0 (rb_bnd _ rd1 ((if_neg hne).trans (rb_bnd _ su ((if_neg n10).trans (rb_bnd _ e1 e)))))))))
  obtain ⟨o', f1, f2, f3⟩ := rf
  have hy1 : (0 : Int32) ≤ nI y := by rw [show (0 : Int32) = nI 0 from rfl, nI_leI (by omega) (by omega)]; omega
  have ff : XX0_findInterest c (nI k0) (nI k1) = some (rb_oi (rb_fd (fun i => decide (c (299 + i) = nI x) && (decide (c (347 + i) = nI k1) && decide (c (323 + i) = nI y))) n)) := by
    unfold XX0_findInterest
    exact rb_bnd _ k5 (rb_bnd _ p1 ((if_neg hx0).trans ((if_pos hy1).trans (rb_bnd _ ef rfl))))
  rw [ff] at f1
  have f1 := Option.some.inj f1
  have hnew := @rb_fd_none (fun i => decide (c (299 + i) = nI x) && (decide (c (347 + i) = nI k1) && decide (c (323 + i) = nI y))) n
  have hsome := @rb_fd_some (fun i => decide (c (299 + i) = nI x) && (decide (c (347 + i) = nI k1) && decide (c (323 + i) = nI y))) n
  generalize rb_fd (fun i => decide (c (299 + i) = nI x) && (decide (c (347 + i) = nI k1) && decide (c (323 + i) = nI y))) n = fd at f1 P hnew hsome
  cases fd with
  | some i =>
    have hi := (hsome rfl).1
    cases o' with
    | none => exact absurd f1 (rb_nmm (by omega))
    | some j =>
      have hj := (hR.2.2.1.1 j (f3 j rfl)).1
      exact no (-2) be ab (by decide) (P _ (if_neg (pos (by omega)))) (Q _ _ f2 (if_neg (pos (by omega))))
  | none =>
  cases o' with
  | some j => exact absurd f1.symm (rb_nmm (by have := f3 j rfl; omega))
  | none =>
    have hnew' : ∀ i, i < n → c (299 + i) = nI x → c (347 + i) = nI k1 → c (323 + i) = nI y → False := fun i hi q1 q2 q3 => by
      have := hnew rfl i hi
      simp [q1, q2, q3] at this
    obtain ⟨S, T, hSL, hS, hT⟩ := rp_SL hR
    have kr : rb_rd c 773 (19 + nI y) = some (c (19 + y)) := (congrArg (rb_rd c 773) (nI_add 19 y)).trans (rb_rdn (by omega) (by omega))
    obtain ⟨b, be', ab', td, hbt⟩ := yn_isTooDeep hSL hx hy (decide_eq_true h4) hxy be ab
    have da : XX1_deepAbove 5 c (nI x) 1 = some (nI (rb_dp n T S (fun _ => true) 2 x)) := xn_above hn hc2 hS hT 2 2 x (by omega) hx
    have db : XX1_deepBelow 5 c (nI y) 1 = some (nI (rb_dp n S T (fun y => decide (c (19 + y) = nI 4)) 2 y)) := xn_below hn hc2 hS hT (fun z hz => decide_eq_true_iff) 2 2 y (by omega) hy
    have i1 := rb_dp_le n S T (fun y => decide (c (19 + y) = nI 4)) 2 y
    have i2 := rb_dp_le n T S (fun _ => true) 2 x
    have sum3 : (nI (rb_dp n T S (fun _ => true) 2 x) + nI (rb_dp n S T (fun y => decide (c (19 + y) = nI 4)) 2 y) ≤ (3 : Int32)) ↔ rb_dp n T S (fun _ => true) 2 x + rb_dp n S T (fun y => decide (c (19 + y) = nI 4)) 2 y ≤ 3 := by
      rw [nI_add, show (3 : Int32) = nI 3 from rfl]
      exact nI_leI (by omega) (by omega)
    have inow := yn_interestsNow hR
    rcases hbt with ⟨hb0, hd⟩ | ⟨hb1, hky, hnd⟩
    · subst hb0
      -- the program's way to the append
      have way : ∀ r, ((XX1_append c (nI x) (nI k1) (nI y) (nI m) (nI w)).bind fun t25 => if 0 ≤ t25.1 then (XX0_armInterest t25.2 g f t25.1).bind fun t28 => (XX1_heldBy t28.2.1 (nI x)).bind fun t30 => some (t30, t28.2.1, t28.2.2.1, t28.2.2.2) else some ((-4), t25.2, g, f)) = some r → XX0_addInterest c g f (nI k0) (nI k1) (nI m) (nI w) = some r := fun r e => by
        refine P r ((if_pos m0).trans (rb_bnd _ kr ?_))
        by_cases q : c (19 + y) = nI 4
        · refine (if_pos q).trans (rb_bnd _ da (rb_bnd _ db ((if_pos (sum3.mpr ?_)).trans e)))
          rcases hd with hd | hd
          · exact absurd q (of_decide_eq_false hd)
          · exact hd
        · exact (if_neg q).trans e
      by_cases hn24 : n = 24
      · subst hn24
        refine no (-4) be' ab' (by decide) (way _ (rb_bnd (-1, c) ?_ (if_neg (by show ¬ (0 : Int32) ≤ -1; decide)))) (Q _ _ f2 ((if_pos m0).trans (rb_bnd _ rd0 (rb_bnd _ rd1 (rb_bnd _ td ((if_pos rfl).trans (rb_bnd _ inow (if_pos rfl))))))))
        unfold XX1_append
        exact rb_bnd (nI 24) ((rb_rdn (k := 2) (by omega) (by omega)).trans (congrArg some hc2)) (if_neg (by decide))
      · have hlt : n < 24 := by omega
        obtain ⟨t, v, c', g', f', a', rd', ag', mf', na', nb', nl', sv', ht, z0, z1, r1', r2', r3, r4, hv1, hv2, y1, y2, y3⟩ := rp_add1 hR hs hb hlt hx hy hk0 hk1 ec0 ec1 h4 hl1 hxy (show m < 4 by omega) (show w < 8 by omega) hSL hS hT hd hnew' g f rd ag mf1 na nb nl sv
        have nn : ¬ nI n = (24 : Int32) := fun e => hn24 ((nI_eq (a := n) (b := 24) (by omega) (by omega)).mp e)
        have n0 : (0 : Int32) ≤ nI n := by rw [show (0 : Int32) = nI 0 from rfl, nI_leI (by omega) (by omega)]; omega
        have rk : rb_rd a' 796 (nI k0) = some (nI x) := (rb_rdn (by omega) (by omega)).trans (congrArg some y3)
        refine ⟨nI v, c', g', f', a', rd', ag', mf', na', nb', nl', sv', be', ab', wa1, way _ (rb_bnd _ (xn_append hc2 hlt x y (nI k1) (nI m) (nI w)) ((if_pos n0).trans (rb_bnd _ r1' (rb_bnd _ y1 rfl)))), Q _ _ f2 ((if_pos m0).trans (rb_bnd _ rd0 (rb_bnd _ rd1 (rb_bnd _ td ((if_pos rfl).trans (rb_bnd _ inow ((if_neg nn).trans (rb_bnd _ hK (rb_bnd _ (yn_freeSlot ht z0 z1) (yn_new ht hk0 hk1 ea0 ea1 es (rb_bnd _ r2' (rb_bnd _ rk (rb_bnd _ y2 rfl))))))))))))), Or.inl ⟨?_, r3, r4, rfl⟩⟩
        rw [nI_leI (by omega) (by omega)]; exact hv1
    · subst hb1
      have q : c (19 + y) = nI 4 := of_decide_eq_true hky
      exact no (-3) be' ab' (by decide) (P _ ((if_pos m0).trans (rb_bnd _ kr ((if_pos q).trans (rb_bnd _ da (rb_bnd _ db (if_neg (fun e => hnd (sum3.mp e))))))))) (Q _ _ f2 ((if_pos m0).trans (rb_bnd _ rd0 (rb_bnd _ rd1 (rb_bnd _ td (if_neg n10))))))
