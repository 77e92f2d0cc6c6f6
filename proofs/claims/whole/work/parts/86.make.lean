theorem xn_giveName {c : rb_Row} {k : Nat} (hk : k < 16) (v : Int32) : XX5_giveName c (nI k) v = some (upd c (3 + k) v) := by
  unfold XX5_giveName
  have q1 : ¬ nI k < (0 : Int32) := nI_pos (by omega)
  have q2 : ¬ (16 : Int32) ≤ nI k := by rw [show (16 : Int32) = nI 16 from rfl, nI_leI (by omega) (by omega)]; omega
  exact (if_neg q1).trans ((if_neg q2).trans (rb_bnd _ ((congrArg (fun t => rb_wr c 773 t v) (nI_add 3 k)).trans (rb_wrn (by omega) (by omega))) rfl))
theorem yn_newHandle {a : rb_Row} {k : Nat} (e : XX7_freeHandle a = some (nI k)) (hk : k < 16) (v : Int32) : XX7_newHandle a v = some (nI k, upd a k v) := by
  unfold XX7_newHandle
  exact rb_bnd _ e (rb_bnd _ (rb_wrn (by omega) (by omega)) rfl)
theorem xn_thingk {c : rb_Row} {k : Nat} (hk : k < 16) : XX5_thingOf c (nI k) = some (c (3 + k)) := by
  unfold XX5_thingOf
  have q1 : ¬ nI k < (0 : Int32) := nI_pos (by omega)
  have q2 : ¬ (16 : Int32) ≤ nI k := by rw [show (16 : Int32) = nI 16 from rfl, nI_leI (by omega) (by omega)]; omega
  exact (if_neg q1).trans ((if_neg q2).trans (rb_bnd _ ((congrArg (rb_rd c 773) (nI_add 3 k)).trans (rb_rdn (by omega) (by omega))) rfl))
theorem xn_thingm (c : rb_Row) : XX5_thingOf c mI = some mI := by
  unfold XX5_thingOf
  exact if_pos (by decide)
theorem rb_mkC_asl {c : rb_Row} {x k : Nat} {kd v : Int32} (hx : x < 28) (hk : k < 16) {t : Nat} (ht : t < 6) : upd (rb_mkC c x kd) (3 + k) v (539 + t) = c (539 + t) := by
  unfold rb_mkC
  simp (disch := omega) only [rb_upn]
theorem rb_RBn {n nn : Nat} {π : Nat → Nat} {s s' : Nat} {c c' a' : rb_Row} (hr : rR 28 (n * 1000000) n nn π s s' c' a') (hB : s + 8 * rb_asl c ≤ n * 1000000) (ha : ∀ t, t < 6 → c' (539 + t) = c (539 + t)) : rb_RB ((n + 1) * 1000000) (n + 1) c' a' :=
  rb_RB_congr ⟨nn, π, s, s', hr, by rw [rb_asl_congr ha]; exact hB⟩ (by omega) (by omega) (fun _ _ => rfl) (fun _ _ => rfl)
theorem rs_timer : rb_S_timer rb_Inv := by
  intro n μ hn h
  obtain ⟨mf1, wa1, hk, hm⟩ := rb_Kex h
  obtain ⟨nn, π, s, s', hR, hB⟩ := h.1
  have hsq := hR.1.2.2.2.2.2.1
  rcases rp_named hR (nI 3) with ⟨e1, e2⟩ | ⟨k, x, hk', hx, hf, hd, e1, e2, e3⟩
  · obtain ⟨pr', pf', e4, hI⟩ := rb_kf h hk (x := nI 0) (ans := mI) (did := False) (by decide) (Or.inr ⟨id, rfl, rfl, rfl, rfl⟩)
    have q : ¬ (0 : Int32) ≤ mI := by decide
    exact ⟨(mI, μ 5, pr', pf'), (mI, μ 20, μ 19, μ 31), rb_bnd _ e1 (rb_bnd _ e4 rfl), rb_bnd _ e2 (if_neg q), rfl, hI _ rfl rfl rfl rfl rfl rfl rfl rfl rfl rfl⟩
  · have hr := rp_newTimer hR (by omega) hx hd hk' hf
    obtain ⟨o1, o2⟩ := e3 (nI 0) mI (nI 0)
    obtain ⟨pr', pf', e4, hI⟩ := rb_kf h hk (x := nI 0) (ans := nI k) (did := True) ⟨fun _ => nI_pos (by omega), fun _ => trivial⟩ (Or.inl ⟨trivial, rb_RBn hr hB (fun t ht => rb_mkC_asl hx hk' ht), rfl, rfl, rfl⟩)
    have q : (0 : Int32) ≤ nI k := nI_pos' (by omega)
    exact ⟨(nI k, _, pr', pf'), (nI k, _, mf1, wa1), rb_bnd _ e1 (rb_bnd _ e4 rfl), rb_bnd _ e2 ((if_pos q).trans (rb_bnd _ hk (rb_bnd _ o1 (rb_bnd _ o2 rfl)))), rfl, hI _ rfl rfl rfl rfl rfl rfl rfl rfl rfl rfl⟩
theorem rs_set : rb_S_set rb_Inv := by
  intro n μ hn h
  obtain ⟨mf1, wa1, hk, hm⟩ := rb_Kex h
  obtain ⟨nn, π, s, s', hR, hB⟩ := h.1
  have hsq := hR.1.2.2.2.2.2.1
  rcases rp_named hR (nI 4) with ⟨e1, e2⟩ | ⟨k, x, hk', hx, hf, hd, e1, e2, e3⟩
  · obtain ⟨pr', pf', e4, hI⟩ := rb_kf h hk (x := nI 0) (ans := mI) (did := False) (by decide) (Or.inr ⟨id, rfl, rfl, rfl, rfl⟩)
    have q : ¬ (0 : Int32) ≤ mI := by decide
    exact ⟨(mI, μ 5, pr', pf'), (mI, μ 20, μ 19, μ 31), rb_bnd _ e1 (rb_bnd _ e4 rfl), rb_bnd _ e2 (if_neg q), rfl, hI _ rfl rfl rfl rfl rfl rfl rfl rfl rfl rfl⟩
  · have hr := rp_newSet hR (by omega) hx hd hk' hf
    obtain ⟨o1, o2⟩ := e3 (nI 0) (nI 0) (nI 0)
    obtain ⟨pr', pf', e4, hI⟩ := rb_kf h hk (x := nI 0) (ans := nI k) (did := True) ⟨fun _ => nI_pos (by omega), fun _ => trivial⟩ (Or.inl ⟨trivial, rb_RBn hr hB (fun t ht => rb_mkC_asl hx hk' ht), rfl, rfl, rfl⟩)
    have q : (0 : Int32) ≤ nI k := nI_pos' (by omega)
    exact ⟨(nI k, _, pr', pf'), (nI k, _, mf1, wa1), rb_bnd _ e1 (rb_bnd _ e4 rfl), rb_bnd _ e2 ((if_pos q).trans (rb_bnd _ hk (rb_bnd _ o1 (rb_bnd _ o2 rfl)))), rfl, hI _ rfl rfl rfl rfl rfl rfl rfl rfl rfl rfl⟩
theorem rs_counter : rb_S_counter rb_Inv := by
  intro n μ v1 v2 hn h hv
  obtain ⟨mf1, wa1, hk, hm⟩ := rb_Kex h
  obtain ⟨nn, π, s, s', hR, hB⟩ := h.1
  have hsq := hR.1.2.2.2.2.2.1
  have h01 : ¬ (nI 1 = (0 : Int32)) := by decide
  have qm : ¬ (0 : Int32) ≤ mI := by decide
  rcases rp_between v1 (l := 0) (m := 1000) (by omega) (by omega) with ⟨v, _, hv2, ev, b1, b2⟩ | ⟨b1, b2⟩
  · rcases rp_named hR (nI 2) with ⟨e1, e2⟩ | ⟨k, x, hk', hx, hf, hd, e1, e2, e3⟩
    · exact ⟨(mI, μ 5, μ 14, μ 13), (mI, μ 20, μ 19, μ 31), rb_bnd _ b1 ((if_neg h01).trans (rb_bnd _ e1 (rb_bnd _ (xn_thingm _) (if_neg qm)))), rb_bnd _ b2 ((if_neg h01).trans (rb_bnd _ e2 (if_neg qm))), rfl, rb_fin0 h rfl rfl rfl rfl rfl rfl rfl rfl rfl rfl rfl⟩
    · obtain ⟨b, hb, ej⟩ : ∃ b, b ≤ 1 ∧ (if v2 = 0 then some 0 else some 1 : Option Int32) = some (nI b) := by
        rcases hv with e | e
        · exact ⟨0, by omega, if_pos e⟩
        · exact ⟨1, by omega, if_neg (by rw [e]; decide)⟩
      subst ev
      have hr := rp_newCounter hR (by omega) hx hd hk' hf hv2 hb
      obtain ⟨o1, o2⟩ := e3 (nI v) (nI b) (nI 0)
      obtain ⟨pr', pf', e4, hI⟩ := rb_kf h hk (x := nI 0) (ans := nI k) (did := True) ⟨fun _ => nI_pos (by omega), fun _ => trivial⟩ (Or.inl ⟨trivial, rb_RBn hr hB (fun t ht => by rw [rb_upn (by omega), rb_upn (by omega)]; exact rb_mkC_asl hx hk' ht), rfl, rfl, rfl⟩)
      have q : (0 : Int32) ≤ nI k := nI_pos' (by omega)
      have qx : (0 : Int32) ≤ nI x := nI_pos' (by omega)
      have t1 : XX5_thingOf (upd (rb_mkC (μ 5) x (nI 2)) (3 + k) (nI x)) (nI k) = some (nI x) := (xn_thingk hk').trans (congrArg some (rb_upe rfl))
      have w1 : ∀ r : rb_Row, rb_wr r 773 (47 + nI x) (nI v) = some (upd r (47 + x) (nI v)) := fun r => (congrArg (fun t => rb_wr r 773 t (nI v)) (nI_add 47 x)).trans (rb_wrn (by omega) (by omega))
      have w2 : ∀ r : rb_Row, rb_wr r 773 (103 + nI x) (nI b) = some (upd r (103 + x) (nI b)) := fun r => (congrArg (fun t => rb_wr r 773 t (nI b)) (nI_add 103 x)).trans (rb_wrn (by omega) (by omega))
      exact ⟨(nI k, _, pr', pf'), (nI k, _, mf1, wa1), rb_bnd _ b1 ((if_neg h01).trans (rb_bnd _ e1 (rb_bnd _ t1 ((if_pos qx).trans (rb_bnd _ (w1 _) (rb_bnd _ ej (rb_bnd _ (w2 _) (rb_bnd _ e4 rfl)))))))), rb_bnd _ b2 ((if_neg h01).trans (rb_bnd _ e2 ((if_pos q).trans (rb_bnd _ hk (rb_bnd _ ej (rb_bnd _ o1 (rb_bnd _ o2 rfl))))))), rfl, hI _ rfl rfl rfl rfl rfl rfl rfl rfl rfl rfl⟩
  · exact ⟨(mI, μ 5, μ 14, μ 13), (mI, μ 20, μ 19, μ 31), rb_bnd _ b1 (if_pos rfl), rb_bnd _ b2 (if_pos rfl), rfl, rb_fin0 h rfl rfl rfl rfl rfl rfl rfl rfl rfl rfl rfl⟩
theorem rs_listener : rb_S_listener rb_Inv := by
  intro n μ v1 v2 hn h
  obtain ⟨mf1, wa1, hk, hm⟩ := rb_Kex h
  obtain ⟨nn, π, s, s', hR, hB⟩ := h.1
  have hsq := hR.1.2.2.2.2.2.1
  have h01 : ¬ (nI 1 = (0 : Int32)) := by decide
  have qm : ¬ (0 : Int32) ≤ mI := by decide
  rcases rp_between v1 (l := 1) (m := 12) (by omega) (by omega) with ⟨v, hv1, hv2, ev, b1, b2⟩ | ⟨b1, b2⟩
  · rcases rp_between v2 (l := 1) (m := 100) (by omega) (by omega) with ⟨b, hb1, hb2, eb, b3, b4⟩ | ⟨b3, b4⟩
    · rcases rp_named hR (nI 5) with ⟨e1, e2⟩ | ⟨k, x, hk', hx, hf, hd, e1, e2, e3⟩
      · exact ⟨(mI, μ 5, μ 14, μ 13), (mI, μ 20, μ 19, μ 31), rb_bnd _ b1 ((if_neg h01).trans (rb_bnd _ b3 ((if_neg h01).trans (rb_bnd _ e1 (rb_bnd _ (xn_thingm _) (if_neg qm)))))), rb_bnd _ b2 ((if_neg h01).trans (rb_bnd _ b4 ((if_neg h01).trans (rb_bnd _ e2 (if_neg qm))))), rfl, rb_fin0 h rfl rfl rfl rfl rfl rfl rfl rfl rfl rfl rfl⟩
      · subst ev eb
        have hr := rp_newListener hR (by omega) hx hd hk' hf hv1 hv2 hb1 hb2
        obtain ⟨o1, o2⟩ := e3 (nI 0) (nI v) (nI b)
        obtain ⟨pr', pf', e4, hI⟩ := rb_kf h hk (x := nI 0) (ans := nI k) (did := True) ⟨fun _ => nI_pos (by omega), fun _ => trivial⟩ (Or.inl ⟨trivial, rb_RBn hr hB (fun t ht => by rw [rb_upn (by omega), rb_upn (by omega)]; exact rb_mkC_asl hx hk' ht), rfl, rfl, rfl⟩)
        have q : (0 : Int32) ≤ nI k := nI_pos' (by omega)
        have qx : (0 : Int32) ≤ nI x := nI_pos' (by omega)
        have t1 : XX5_thingOf (upd (rb_mkC (μ 5) x (nI 5)) (3 + k) (nI x)) (nI k) = some (nI x) := (xn_thingk hk').trans (congrArg some (rb_upe rfl))
        have w1 : ∀ r : rb_Row, rb_wr r 773 (215 + nI x) (nI v) = some (upd r (215 + x) (nI v)) := fun r => (congrArg (fun t => rb_wr r 773 t (nI v)) (nI_add 215 x)).trans (rb_wrn (by omega) (by omega))
        have w2 : ∀ r : rb_Row, rb_wr r 773 (75 + nI x) (nI b) = some (upd r (75 + x) (nI b)) := fun r => (congrArg (fun t => rb_wr r 773 t (nI b)) (nI_add 75 x)).trans (rb_wrn (by omega) (by omega))
        exact ⟨(nI k, _, pr', pf'), (nI k, _, mf1, wa1), rb_bnd _ b1 ((if_neg h01).trans (rb_bnd _ b3 ((if_neg h01).trans (rb_bnd _ e1 (rb_bnd _ t1 ((if_pos qx).trans (rb_bnd _ (w1 _) (rb_bnd _ (w2 _) (rb_bnd _ e4 rfl))))))))), rb_bnd _ b2 ((if_neg h01).trans (rb_bnd _ b4 ((if_neg h01).trans (rb_bnd _ e2 ((if_pos q).trans (rb_bnd _ hk (rb_bnd _ o1 (rb_bnd _ o2 rfl)))))))), rfl, hI _ rfl rfl rfl rfl rfl rfl rfl rfl rfl rfl⟩
    · exact ⟨(mI, μ 5, μ 14, μ 13), (mI, μ 20, μ 19, μ 31), rb_bnd _ b1 ((if_neg h01).trans (rb_bnd _ b3 (if_pos rfl))), rb_bnd _ b2 ((if_neg h01).trans (rb_bnd _ b4 (if_pos rfl))), rfl, rb_fin0 h rfl rfl rfl rfl rfl rfl rfl rfl rfl rfl rfl⟩
  · exact ⟨(mI, μ 5, μ 14, μ 13), (mI, μ 20, μ 19, μ 31), rb_bnd _ b1 (if_pos rfl), rb_bnd _ b2 (if_pos rfl), rfl, rb_fin0 h rfl rfl rfl rfl rfl rfl rfl rfl rfl rfl rfl⟩
theorem rs_twin : rb_S_twin rb_Inv := by
  intro n μ v1 hn h
  obtain ⟨mf1, wa1, hk, hm⟩ := rb_Kex h
  obtain ⟨nn, π, s, s', hR, hB⟩ := h.1
  have h01 : ¬ (nI 1 = (0 : Int32)) := by decide
  have qm : ¬ (0 : Int32) ≤ mI := by decide
  have qm2 : mI < (0 : Int32) := by decide
  obtain ⟨f1, f2⟩ := rp_freeHandle hR.2.1
  rcases rp_thing hR.2.1 v1 with ⟨e1, e2⟩ | ⟨k, x, hk', hx, ev, ec, ea, hl, hw, hz, e1, e2⟩
  · exact ⟨(mI, μ 5, μ 14, μ 13), (mI, μ 20, μ 19, μ 31), rb_bnd _ e1 (rb_bnd _ f1 (if_pos qm2)), rb_bnd _ e2 (if_pos rfl), rfl, rb_fin0 h rfl rfl rfl rfl rfl rfl rfl rfl rfl rfl rfl⟩
  · have qx : ¬ nI x < (0 : Int32) := nI_pos (by omega)
    cases hf : rb_fd (fun k => decide (μ 5 (3 + k) = mI)) 16 with
    | none =>
      rw [hf] at f1 f2
      exact ⟨(mI, μ 5, μ 14, μ 13), (mI, μ 20, μ 19, μ 31), rb_bnd _ e1 (rb_bnd _ f1 ((if_neg qx).trans (if_neg qm))), rb_bnd _ e2 ((if_neg h01).trans (rb_bnd _ f2 (if_neg qm))), rfl, rb_fin0 h rfl rfl rfl rfl rfl rfl rfl rfl rfl rfl rfl⟩
    | some k' =>
      rw [hf] at f1 f2
      obtain ⟨hk2, hpk, hmin⟩ := rb_fd_some hf
      have hfk : μ 5 (3 + k') = mI := by simpa using hpk
      have hr := rp_twin hR hx hl hw hk2 hfk
      obtain ⟨pr', pf', e4, hI⟩ := rb_kf h hk (x := nI 0) (ans := nI k') (did := True) ⟨fun _ => nI_pos (by omega), fun _ => trivial⟩ (Or.inl ⟨trivial, rb_RBn hr hB (fun t ht => rb_upn (by omega)), rfl, rfl, rfl⟩)
      have q : (0 : Int32) ≤ nI k' := nI_pos' (by omega)
      have r1 : rb_rd (μ 20) 796 v1 = some (nI x) := by rw [ev, rb_rdn (by omega) (by omega), ea]
      exact ⟨(nI k', _, pr', pf'), (nI k', _, mf1, wa1), rb_bnd _ e1 (rb_bnd _ f1 ((if_neg qx).trans ((if_pos q).trans (rb_bnd _ (xn_giveName hk2 _) (rb_bnd _ e4 rfl))))), rb_bnd _ e2 ((if_neg h01).trans (rb_bnd _ f2 ((if_pos q).trans (rb_bnd _ hk (rb_bnd _ r1 (rb_bnd _ (yn_newHandle f2 hk2 _) rfl)))))), rfl, hI _ rfl rfl rfl rfl rfl rfl rfl rfl rfl rfl⟩
theorem rs_pipe : rb_S_pipe rb_Inv := by
  intro n μ v1 hn h
  obtain ⟨mf1, wa1, hk, hm⟩ := rb_Kex h
  obtain ⟨nn, π, s, s', hR, hB⟩ := h.1
  have hsq := hR.1.2.2.2.2.2.1
  have hH := hR.2.1
  have h01 : ¬ (nI 1 = (0 : Int32)) := by decide
  have no : ∀ c', c' = μ 5 → ∃ pr' pf', XX6_keptFrom (μ 14) (μ 13) c' (nI 0) mI = some (mI, pr', pf') ∧ ∀ μ' : rb_Mem, μ' 5 = c' → μ' 14 = pr' → μ' 13 = pf' → μ' 20 = μ 20 → μ' 19 = μ 19 → μ' 31 = μ 31 → μ' 18 = μ 18 → μ' 0 = μ 0 → μ' 32 = μ 32 → μ' 33 = μ 33 → rb_Inv (n + 1) μ' :=
    fun c' e => rb_kf h hk (x := nI 0) (ans := mI) (did := False) (by decide) (Or.inr ⟨id, e, rfl, rfl, rfl⟩)
  obtain ⟨pr0, pf0, n4, nI'⟩ := no (μ 5) rfl
  rcases rp_between v1 (l := 1) (m := 100) (by omega) (by omega) with ⟨r, hr1, hr2, ev, b1, b2⟩ | ⟨b1, b2⟩
  · obtain ⟨f1, f2⟩ := rp_freeHandle hH
    obtain ⟨g1, g2⟩ := rp_freeHandles hH
    have hcl := rb_cn_le (fun k => decide (μ 5 (3 + k) = mI)) 16
    by_cases h2 : 2 ≤ rb_cn (fun k => decide (μ 5 (3 + k) = mI)) 16
    · have q2 : (2 : Int32) ≤ nI (rb_cn (fun k => decide (μ 5 (3 + k) = mI)) 16) := by rw [show (2 : Int32) = nI 2 from rfl, nI_leI (by omega) (by omega)]; exact h2
      obtain ⟨i0, hi0, hp0⟩ := rb_cn_ex (show 0 < rb_cn (fun k => decide (μ 5 (3 + k) = mI)) 16 by omega)
      obtain ⟨k0, hf⟩ := rb_fd_ex (p := fun k => decide (μ 5 (3 + k) = mI)) hi0 hp0
      rw [hf] at f1 f2
      obtain ⟨hk0, hpk, hmin⟩ := rb_fd_some hf
      have hfk : μ 5 (3 + k0) = mI := by simpa using hpk
      have hal := rp_alive hH
      have hw12 := hH.2.2.2.2.2.2
      obtain ⟨x, y, p, hx, hy, hp, hxy, hdx, hdy, hp2, hp3, m1, m2⟩ := rp_makeEnds hH (by omega) v1
      obtain ⟨x0, y0, x1, y1, x2', y2, x4, y4, x8, y8⟩ := rb_meC_x (c := μ 5) (r := v1) hx hy hxy
      obtain ⟨ax0, ay0, ax1, ay1, ax4, ay4, p0, p1, p2, p3⟩ := rb_meA_x (a := μ 20) (r := v1) hx hy hp hxy
      have hC : ∀ k, k < 16 → rb_meC (μ 5) x y v1 (3 + k) = μ 5 (3 + k) := fun k hk => rb_meC_at (fun i hi => by omega)
      have hA : ∀ k, k < 16 → rb_meA (μ 20) x y p v1 k = μ 20 k := fun k hk => rb_meA_at (fun i hi => by omega) (fun i hi => by omega)
      have hx7 : ¬ nI x = mI := rb_nmm (by omega)
      have hdr : rb_cn (fun k => decide (μ 5 (3 + k) = mI)) 16 = rb_cn (fun k => decide (upd (rb_meC (μ 5) x y v1) (3 + k0) (nI x) (3 + k) = mI)) 16 + 1 := by
        refine rb_cn_drop hk0 hpk ?_ (fun i hi hne => ?_)
        · rw [rb_upe rfl]; exact decide_eq_false hx7
        · rw [rb_upn (by omega), hC i hi]
      obtain ⟨i1, hi1, hp1'⟩ := rb_cn_ex (show 0 < rb_cn (fun k => decide (upd (rb_meC (μ 5) x y v1) (3 + k0) (nI x) (3 + k) = mI)) 16 by omega)
      obtain ⟨k1, hf1⟩ := rb_fd_ex (p := fun k => decide (upd (rb_meC (μ 5) x y v1) (3 + k0) (nI x) (3 + k) = mI)) hi1 hp1'
      obtain ⟨hk1, hpk1, hmin1⟩ := rb_fd_some hf1
      have hk1m : upd (rb_meC (μ 5) x y v1) (3 + k0) (nI x) (3 + k1) = mI := by simpa using hpk1
      have hkk : k0 ≠ k1 := fun e => by rw [e, rb_upe rfl] at hk1m; exact hx7 hk1m
      have hfk1 : μ 5 (3 + k1) = mI := by rw [rb_upn (by omega), hC k1 hk1] at hk1m; exact hk1m
      have hlt : k0 < k1 := by
        rcases Nat.lt_or_ge k0 k1 with g | g
        · exact g
        · exfalso
          have := hmin k1 (by omega)
          rw [hfk1] at this
          exact absurd this (by decide)
      have hfA : XX7_freeHandle (rb_meA (μ 20) x y p v1) = some (nI k0) := by
        rw [← show XX7_freeHandle (μ 20) = some (nI k0) from f2, yn_freeHandle, yn_freeHandle]
        congr 2
        exact rb_fd_congr (fun i hi => by rw [hA i hi])
      have hfA1 : XX7_freeHandle (upd (rb_meA (μ 20) x y p v1) k0 (nI x)) = some (nI k1) := by
        rw [yn_freeHandle]
        have : rb_fd (fun i => decide (upd (rb_meA (μ 20) x y p v1) k0 (nI x) i < nI 0)) 16 = rb_fd (fun k => decide (upd (rb_meC (μ 5) x y v1) (3 + k0) (nI x) (3 + k) = mI)) 16 := by
          refine rb_fd_congr (fun i hi => ?_)
          by_cases e : i = k0
          · rw [rb_upe e, rb_upe (by omega), decide_eq_false hx7]
            exact decide_eq_false (nI_pos (by omega))
          · rw [rb_upn e, rb_upn (by omega), hA i hi, hC i hi, (hH.1 i hi).1]
            rcases (hH.1 i hi).2.2 with e3 | ⟨w, hw, e3, _⟩
            · rw [e3]; decide
            · rw [e3]
              have g1 : ¬ nI w < nI 0 := nI_pos (by omega)
              have g2 : ¬ nI w = mI := rb_nmm (by omega)
              simp [g1, g2]
        rw [this, hf1]; rfl
      have hfC : XX5_freeHandle (rb_meC (μ 5) x y v1) = some (nI k0) := by
        have : XX5_firstNaming (rb_meC (μ 5) x y v1) (-1) = some (rb_oi (rb_fd (fun i => decide (rb_meC (μ 5) x y v1 (3 + i) = mI)) 16)) := xn_firstNaming _ mI
        unfold XX5_freeHandle
        rw [this, rb_fd_congr (fun i hi => by rw [hC i hi]), hf]; rfl
      have hfC1 : XX5_freeHandle (upd (rb_meC (μ 5) x y v1) (3 + k0) (nI x)) = some (nI k1) := by
        have : XX5_firstNaming (upd (rb_meC (μ 5) x y v1) (3 + k0) (nI x)) (-1) = some (rb_oi (rb_fd (fun i => decide (upd (rb_meC (μ 5) x y v1) (3 + k0) (nI x) (3 + i) = mI)) 16)) := xn_firstNaming _ mI
        unfold XX5_freeHandle
        rw [this, hf1]; rfl
      subst ev
      have hr := rp_pipe hR (by omega) hx hy hp hxy hdx hdy hp2 hp3 hr1 hr2 hk0 hk1 hkk hfk hfk1
      obtain ⟨pr', pf', e4, hI⟩ := rb_kf h hk (x := nI 0) (ans := nI k0) (did := True) ⟨fun _ => nI_pos (by omega), fun _ => trivial⟩ (Or.inl ⟨trivial, rb_RBn hr hB (fun t ht => by rw [rb_upn (by omega), rb_upn (by omega)]; exact rb_meC_at (fun i hi => by omega)), rfl, rfl, rfl⟩)
      have qx : (0 : Int32) ≤ nI x := nI_pos' (by omega)
      have r131 : rb_rd (upd (rb_meC (μ 5) x y (nI r)) (3 + k0) (nI x)) 773 (131 + nI x) = some (nI y) := (congrArg (rb_rd _ 773) (nI_add 131 x)).trans ((rb_rdn (by omega) (by omega)).trans (congrArg some ((rb_upn (by omega)).trans x4)))
      have o1 : XX7_ofPipe (rb_meA (μ 20) x y p (nI r)) (nI p) 2 = some (nI x) := (xn_ofPipe _ (f := 2) hp (by omega)).trans (congrArg some p2)
      have o2 : XX7_ofPipe (upd (rb_meA (μ 20) x y p (nI r)) k0 (nI x)) (nI p) 3 = some (nI y) := (xn_ofPipe _ (f := 3) hp (by omega)).trans (congrArg some ((rb_upn (by omega)).trans p3))
      have qk : ¬ nI k1 ≤ nI k0 := by rw [nI_leI (by omega) (by omega)]; omega
      exact ⟨(nI k0, _, pr', pf'), (nI k0, _, mf1, wa1), rb_bnd _ (rb_bnd _ b1 ((if_neg h01).trans (rb_bnd _ g1 ((if_pos q2).trans (rb_bnd _ m1 ((if_pos qx).trans (rb_bnd _ hfC (rb_bnd _ (xn_giveName hk0 _) (rb_bnd _ hfC1 (rb_bnd _ r131 (rb_bnd _ (xn_giveName hk1 _) rfl))))))))))) (rb_bnd _ e4 rfl), rb_bnd _ b2 ((if_neg h01).trans (rb_bnd _ g2 ((if_pos q2).trans (rb_bnd _ hk (rb_bnd _ m2 (rb_bnd _ o1 (rb_bnd _ (yn_newHandle hfA hk0 _) (rb_bnd _ o2 (rb_bnd _ (yn_newHandle hfA1 hk1 _) (if_neg qk)))))))))), rfl, hI _ rfl rfl rfl rfl rfl rfl rfl rfl rfl rfl⟩
    · have q2 : ¬ (2 : Int32) ≤ nI (rb_cn (fun k => decide (μ 5 (3 + k) = mI)) 16) := by rw [show (2 : Int32) = nI 2 from rfl, nI_leI (by omega) (by omega)]; exact h2
      exact ⟨(mI, μ 5, pr0, pf0), (mI, μ 20, μ 19, μ 31), rb_bnd (mI, μ 5) (rb_bnd _ b1 ((if_neg h01).trans (rb_bnd _ g1 (if_neg q2)))) (rb_bnd _ n4 rfl), rb_bnd _ b2 ((if_neg h01).trans (rb_bnd _ g2 (if_neg q2))), rfl, nI' _ rfl rfl rfl rfl rfl rfl rfl rfl rfl rfl⟩
  · exact ⟨(mI, μ 5, pr0, pf0), (mI, μ 20, μ 19, μ 31), rb_bnd (mI, μ 5) (rb_bnd _ b1 (if_pos rfl)) (rb_bnd _ n4 rfl), rb_bnd _ b2 (if_pos rfl), rfl, nI' _ rfl rfl rfl rfl rfl rfl rfl rfl rfl rfl⟩
