set_option maxHeartbeats 8000000 in
theorem ra_close {B q : Nat} {c a : rb_Row} (h : rb_RB B q c a) (hb : B + q + 30000 < 2000000000) (v1 x1 : Int32) (g f rd ag mf na nb nl sv wa mf1 wa1 : rb_Row) (hK : rb_KP x1 mf wa a mf1 wa1) : ∃ ans c' g' f' a' rd' ag' mf' na' nb' nl' sv' wa', XX0_closeHandle c g f v1 = some (ans, c', g', f') ∧ XX7_goClose a rd ag mf na nb nl sv wa v1 x1 = some (ans, a', rd', ag', mf', na', nb', nl', sv', wa') ∧ (ans = nI 0 ∨ ans = nI 1) ∧ rb_oq B 2184 q (ans ≠ nI 0) c a mf wa mf1 wa1 c' a' mf' wa' := by
  obtain ⟨n, π, s, s', hR, hB⟩ := h
  have hH := hR.2.1
  have hKe := rb_KPe hK
  have hn1 : nI 1 ≠ nI 0 := by decide
  unfold XX0_closeHandle XX7_goClose
  rcases rp_thing hH v1 with ⟨e1, e2⟩ | ⟨k, x, hk, hx, ev, ec, ea, hlv, hw, hz, e1, e2⟩
  · refine ⟨nI 0, c, g, f, a, rd, ag, mf, na, nb, nl, sv, wa, ?_, ?_, Or.inl rfl, Or.inr ⟨fun h => h rfl, rfl, rfl, rfl, rfl⟩⟩
    · exact rb_bnd _ e1 (if_neg (show ¬ (0 : Int32) ≤ mI by decide))
    · exact rb_bnd _ e2 (if_pos (show nI 0 = 0 by decide))
  · subst ev
    have hgn : XX5_giveName c (nI k) (-1) = some (upd c (3 + k) mI) := by
      unfold XX5_giveName
      have q1 : ¬ 16 ≤ k := by omega
      simp (disch := omega) only [↓reduceIte, Nat.reduceEqDiff, Nat.reduceLeDiff, eq_self, not_true_eq_false, not_false_eq_true, li_0, li_1, li_2, li_3, li_4, li_5, li_6, li_7, li_8, li_9, li_10, li_11, li_12, li_13, li_14, li_15, li_16, li_17, li_18, li_19, li_20, li_21, li_22, li_23, li_24, li_25, li_26, li_27, li_28, li_29, li_30, li_31, li_32, li_33, li_34, li_35, li_36, li_37, li_38, li_39, li_40, li_41, li_42, li_47, li_50, li_60, li_63, li_75, li_100, li_103, li_131, li_159, li_184, li_187, li_215, li_243, li_256, li_271, li_296, li_299, li_323, li_347, li_371, li_395, li_419, li_443, li_467, li_491, li_515, li_539, li_545, li_551, li_557, li_560, li_563, li_569, li_575, li_581, li_587, li_593, li_599, li_605, li_629, li_653, li_677, li_725, li_773, li_794, li_795, li_796, li_1000, li_1546, li_1592, li_6184, li_9552, li_10049, li_10348, li_100000, rb_mI, nI_add, nI_mul, nI_leI, nI_ltI, nI_eq, rb_rdn, rb_wrn, rb_n0, rb_m0, rb_m1n, rb_nm1, rb_m1lt, rb_m1le, rb_0m1, rb_ltm1, rb_lem1, Nat.add_zero, Nat.zero_le, Nat.not_lt_zero, Nat.one_ne_zero, Option.bind_some, Option.bind_none, Option.some.injEq, if_true, if_false, ite_true, ite_false, Sum.elim_inl, Sum.elim_inr, q1]
    have hlow := rp_lowest (c := upd c (3 + k) mI) hx
    have hrd : rb_rd a 796 (nI k) = some (nI x) := by rw [rb_rdn (by omega) (by omega), ea]
    have hwr : rb_wr a 796 (nI k) (-1) = some (upd a k mI) := rb_wrn (by omega) (by omega)
    have hho := yn_handlesOf (upd a k mI) (nI x)
    have hhe : rb_cn (fun i => decide ((upd a k mI) i = nI x)) 16 = rb_cn (fun i => decide ((upd c (3 + k) mI) (3 + i) = nI x)) 16 := rb_cn_congr (fun i hi => by
      by_cases e : i = k
      · subst e; rw [rb_upe rfl, rb_upe rfl]
      · rw [rb_upn e, rb_upn (by omega), (hH.1 i hi).1])
    rw [hhe] at hho
    have hKe' : ((if x1 = 0 then some (mf, wa) else (XX7_keepAct mf wa a).bind fun t8 => some (t8.1, t8.2)) : Option (rb_Row × rb_Row)) = some (mf1, wa1) := hKe
    cases hf : rb_fd (fun i => decide ((upd c (3 + k) mI) (3 + i) = nI x)) 16 with
    | some j =>
      obtain ⟨hj, hpj, _⟩ := rb_fd_some hf
      rw [hf] at hlow
      have hpos := rb_cn_pos (p := fun i => decide ((upd c (3 + k) mI) (3 + i) = nI x)) hj hpj
      have hle := rb_cn_le (fun i => decide ((upd c (3 + k) mI) (3 + i) = nI x)) 16
      simp only [decide_eq_true_eq] at hpj
      have hjk : j ≠ k := fun e => by
        subst e
        rw [rb_upe rfl] at hpj
        exact rb_nmm (k := x) (by omega) hpj.symm
      rw [rb_upn (by omega)] at hpj
      have hR1 := rp_unname hR (z := 28) hk hx ec (Or.inl ⟨rfl, j, hj, hjk, hpj⟩)
      have hasl : rb_asl (upd c (3 + k) mI) = rb_asl c := rb_asl_congr (fun u hu => rb_upn (by omega))
      generalize rb_cn (fun i => decide ((upd c (3 + k) mI) (3 + i) = nI x)) 16 = cnt at hho hpos hle
      refine ⟨nI 1, upd c (3 + k) mI, g, f, upd a k mI, rd, ag, mf1, na, nb, nl, sv, wa1, ?_, ?_, Or.inr rfl, Or.inl ⟨hn1, ⟨n, π, s, s', rR_mono hR1 (by omega), by omega⟩, fun _ _ _ => rfl, rfl, fun k h1 h2 => rb_upn (by omega), rb_GT_same (fun u hu => rb_upn (by omega))⟩⟩
      · exact rb_bnd _ e1 ((if_pos (nI_pos' (by omega))).trans (rb_bnd _ hgn (rb_bnd _ hlow (if_neg (nI_pos (n := j) (by omega))))))
      · exact rb_bnd _ e2 ((if_neg (show ¬ nI 1 = 0 by decide)).trans (rb_bnd _ hKe' (rb_bnd _ hrd (rb_bnd _ hwr (rb_bnd _ hho (if_neg (nI_ne0 hpos (by omega))))))))
    | none =>
      rw [hf] at hlow
      have hnone := rb_fd_none hf
      have hcnt : rb_cn (fun i => decide ((upd c (3 + k) mI) (3 + i) = nI x)) 16 = 0 := rb_cn_zero hnone
      rw [hcnt] at hho
      have honly : ∀ j, j < 16 → j ≠ k → c (3 + j) ≠ nI x := fun j hj hne q => by
        have := hnone j hj
        rw [rb_upn (by omega), q] at this
        simp at this
      obtain ⟨m, e, c1, a1, r1, r2, r3, r4, r5⟩ := rp_close1 hR hk hx ec honly
      obtain ⟨c2, a2, d1, d2, ⟨d3, d4, d5, _, d8⟩, d7⟩ := rp_from r3 hx
      obtain ⟨kd, hkd6, ekd⟩ := hlv
      have hk2 : c2 (19 + x) = nI kd := by rw [d5 _ (by omega), r4 _ (by omega)]; exact ekd
      have hw2 : c2 (243 + x) = mI := by rw [d5 _ (by omega), r4 _ (by omega)]; exact hw
      have h131 : c2 (131 + x) = c (131 + x) := by rw [d5 _ (by omega), r4 _ (by omega)]
      have hasl1 : rb_asl c1 = rb_asl c := rb_asl_congr (fun u hu => r4 _ (by omega))
      obtain ⟨c', g', f', a', rd', ag', mf', na', nb', nl', sv', t1, t2, t3, t4, t5⟩ := rp_tail (B := B) d3 (Nat.le_refl _) (by omega) hb hx hk2 hkd6 hw2 d7 g f rd ag mf1 na nb nl sv
      refine ⟨nI 1, c', g', f', a', rd', ag', mf', na', nb', nl', sv', wa1, ?_, ?_, Or.inr rfl, Or.inl ⟨hn1, t3, t4, rfl, fun k h1 h2 => (t5.1 k h1 h2).trans ((d8 k (Or.inl h1)).trans (r4 k (by omega))), rb_GT_base (rb_GT_G t5.2) (fun u hu => (d8 _ (Or.inr (by omega))).trans (r4 _ (by omega)))⟩⟩
      · have v9 : rb_rd (upd c (3 + k) mI) 773 (19 + nI x) = some (nI kd) := by
          have : rb_rd (upd c (3 + k) mI) 773 (nI 19 + nI x) = some (nI kd) := by
            rw [nI_add, rb_rdn (by omega) (by omega), rb_upn (by omega), ekd]
          exact this
        have v11 : rb_rd (upd c (3 + k) mI) 773 (131 + nI x) = some (c2 (131 + x)) := by
          have : rb_rd (upd c (3 + k) mI) 773 (nI 131 + nI x) = some (c2 (131 + x)) := by
            rw [nI_add, rb_rdn (by omega) (by omega), rb_upn (by omega), h131]
          exact this
        unfold rb_tail at t1
        obtain ⟨q18, l1, t1⟩ := rb_bd t1
        obtain ⟨t36, l2, t1⟩ := rb_bd t1
        obtain ⟨j38, l3, l4⟩ := rb_bd t1
        exact rb_bnd _ e1 ((if_pos (nI_pos' (by omega))).trans (rb_bnd _ hgn (rb_bnd _ hlow ((if_pos (show mI < 0 by decide)).trans (rb_bnd _ v9 (rb_bnd _ v11 (rb_bnd _ r1 (rb_bnd _ d1 (rb_bnd _ l1 (rb_bnd _ l2 (rb_bnd _ l3 (rb_bnd _ l4 rfl))))))))))))
      · have hko : XX7_kindOf (upd a k mI) (nI x) = some (nI kd) := by
          rw [xn_kindOf _ hx, rb_upn (by omega), (hH.2.1 x hx).1, ekd]
        have hgone : XX7_gone (upd a k mI) rd ag mf1 na nb nl sv (nI x) = some (a', rd', ag', mf', na', nb', nl', sv') := by
          unfold XX7_gone
          exact rb_bnd _ hko (rb_bnd _ r2 (rb_bnd _ d2 t2))
        exact rb_bnd _ e2 ((if_neg (show ¬ nI 1 = 0 by decide)).trans (rb_bnd _ hKe' (rb_bnd _ hrd (rb_bnd _ hwr (rb_bnd _ hho ((if_pos (show nI 0 = 0 by decide)).trans (rb_bnd _ hgone rfl)))))))
