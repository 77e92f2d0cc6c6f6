theorem rp_behind {W q n : Nat} {π : Nat → Nat} {s s' : Nat} {c a : rb_Row} (hR : rR 28 W q n π s s' c a) (hs : s' < 2000000000) {x : Nat} (hx : x < 28) (R : Nat → Bool) (st : Int32) (h1 : ∀ i, i < n → R i = true → rb_lsd c x i = true) (h2 : ∀ i, i < n → (decide (c (299 + i) = nI x) && decide (st < a (296 + 11 * π i + 7))) = R i) : XX7_listedBehind a (nI x) st = some (rb_oi ((rb_am R (fun i => c (443 + i)) n).map π)) := by
  have hI := hR.2.2.1
  have hL := hR.2.2.2.1
  have lm : ∀ i, i < n → rb_lsd c x i = true → c (443 + i) ≠ mI := fun i hi e g => by
    simp only [rb_lsd, g, Bool.and_eq_true, Bool.not_eq_true'] at e
    exact absurd e.2 (by decide)
  rw [yn_listedBehind]
  rw [rb_am_pi (p := R) (k := fun i => c (443 + i)) (n := n) (π := π) (fun i hi => (hI.1 i hi).1) (fun t ht hp => ?_) (fun i hi => ?_) (fun i j hi hj pi pj => ?_) (fun i j hi hj pi pj e => ?_)]
  · refine rI_slot hI ht (fun e => ?_)
    rw [e] at hp
    simp only [Bool.and_eq_true, decide_eq_true_eq] at hp
    exact absurd hp.1.symm (rb_nmm (by omega))
  · rw [← h2 i hi, (hI.1 i hi).2.1]
  · exact (hL.2.2 i j hi hj (lm i hi (h1 i hi pi)) (lm j hj (h1 j hj pj))).1
  · exact (hL.2.2 i j hi hj (lm i hi (h1 i hi pi)) (lm j hj (h1 j hj pj))).2 e
theorem rs_shown : rb_S_shown rb_Inv := by
  intro n μ v1 v2 hn h
  obtain ⟨nn, π, s, s', hR, hB⟩ := h.1
  have hn24 : nn ≤ 24 := hR.1.2.2.2.2.2.2.2
  have hsq := hR.1.2.2.2.2.2.1
  have hI := hR.2.2.1
  have hL := hR.2.2.2.1
  have h01 : ¬ (nI 1 = (0 : Int32)) := by decide
  have qm : ¬ (0 : Int32) ≤ mI := by decide
  rcases rp_set hR v1 with ⟨e1, e2⟩ | ⟨k, x, hk, hx, ev, ec, ea, h4, e1, e2, e3⟩
  · exact ⟨-1, (-1, μ 21), rb_bnd _ e1 (rb_bnd mI (if_neg qm) (if_neg qm)), rb_bnd _ e2 (if_pos rfl), rfl, rb_fin0 h rfl rfl rfl rfl rfl rfl rfl rfl rfl rfl rfl⟩
  · have qx : (0 : Int32) ≤ nI x := nI_pos' (by omega)
    have sh := xn_showing hR x v2
    have r347 : ∀ i, i < nn → rb_rd (μ 5) 773 (347 + nI i) = some (μ 5 (347 + i)) := fun i hi => (congrArg (rb_rd (μ 5) 773) (nI_add 347 i)).trans (rb_rdn (by omega) (by omega))
    have prog : ∀ o : Option Nat, (∀ i, o = some i → i < nn) → rb_fd (fun i => (rb_lsd (μ 5) x i && rb_tl (μ 5) nn i) && decide (nI (rb_cn (fun j => (rb_lsd (μ 5) x j && rb_tl (μ 5) nn j) && decide (μ 5 (443 + j) < μ 5 (443 + i))) nn) = v2)) nn = o → XX6_shown (μ 5) v1 v2 = some (match o with | some i => μ 5 (347 + i) | none => mI) := fun o ho e => by
      rw [e] at sh
      unfold XX6_shown
      cases o with
      | none => exact rb_bnd _ e1 (rb_bnd mI ((if_pos qx).trans (rb_bnd _ sh rfl)) (if_neg qm))
      | some i =>
        have hi := ho i rfl
        have qi : (0 : Int32) ≤ nI i := nI_pos' (by omega)
        exact rb_bnd _ e1 (rb_bnd (nI i) ((if_pos qx).trans (rb_bnd _ sh rfl)) ((if_pos qi).trans (rb_bnd _ (r347 i hi) rfl)))
    by_cases hv : (0 : Int32) ≤ v2
    · obtain ⟨w, hw, ew⟩ := rb_nonneg hv
      obtain ⟨rd', b1, b2⟩ := yn_layReady hR (by omega) (μ 21)
      have hTr : ∀ i, i < nn → XX7_isTrue (μ 20) rd' (nI (π i)) = some (bif rb_tl (μ 5) nn i then nI 1 else nI 0) := fun i hi => by
        obtain ⟨y, hy, ey, hl, _⟩ := hI.2.2.1 i hi
        rw [yn_isTrue (μ 20) rd' (hI.1 i hi).1 ⟨y, hy, (hI.1 i hi).2.2.1.trans ey⟩, rb_tells (F := rq (μ 5) nn 4) hI hL hi (by rw [nt_n ey (by omega)]; exact b2 y hy (by omega) hl)]
        rfl
      have lsm : ∀ i, i < nn → rb_lsd (μ 5) x i = true → μ 5 (299 + i) = nI x ∧ ¬ μ 5 (443 + i) < nI 0 ∧ μ 5 (443 + i) ≠ mI := fun i hi e => by
        simp only [rb_lsd, Bool.and_eq_true, decide_eq_true_eq, Bool.not_eq_true', decide_eq_false_iff_not] at e
        exact ⟨e.1, e.2, fun g => e.2 (by rw [g]; decide)⟩
      have hinj : ∀ j l, j < nn → l < nn → rb_lsd (μ 5) x j = true → rb_lsd (μ 5) x l = true → μ 5 (443 + j) = μ 5 (443 + l) → j = l := fun j l hj hl ej el e => (hL.2.2 j l hj hl (lsm j hj ej).2.2 (lsm l hl el).2.2).2 e
      have hinjT : ∀ j l, j < nn → l < nn → (rb_lsd (μ 5) x j && rb_tl (μ 5) nn j) = true → (rb_lsd (μ 5) x l && rb_tl (μ 5) nn l) = true → μ 5 (443 + j) = μ 5 (443 + l) → j = l := fun j l hj hl ej el e => by
        rw [Bool.and_eq_true] at ej el
        exact hinj j l hj hl ej.1 el.1 e
      have f0 := rp_behind hR (by omega) hx (rb_lsd (μ 5) x) 0 (fun _ _ e => e) (fun i hi => by
        have := rL_lst hL (by omega) hR.1.2.2.2.2.1 hi
        unfold rb_lsd
        by_cases g : μ 5 (443 + i) < nI 0
        · have g' : ¬ (0 : Int32) < μ 20 (296 + 11 * π i + 7) := rb_nlt.mp (this.mpr g)
          rw [decide_eq_false g', decide_eq_true g]; rfl
        · have g' : (0 : Int32) < μ 20 (296 + 11 * π i + 7) := Decidable.not_not.mp (fun q => g (this.mp (rb_nlt.mpr q)))
          rw [decide_eq_true g', decide_eq_false g]; rfl)
      have f1 : ∀ e, e < nn → rb_lsd (μ 5) x e = true → XX7_listedBehind (μ 20) (nI x) (μ 20 (296 + 11 * π e + 7)) = some (rb_oi ((rb_am (fun i => rb_lsd (μ 5) x i && decide (μ 5 (443 + e) < μ 5 (443 + i))) (fun i => μ 5 (443 + i)) nn).map π)) := fun e he hee => by
        refine rp_behind hR (by omega) hx _ _ (fun i hi g => by rw [Bool.and_eq_true] at g; exact g.1) (fun i hi => ?_)
        obtain ⟨g1, g2, g3⟩ := lsm e he hee
        cases hls : rb_lsd (μ 5) x i with
        | true =>
          obtain ⟨k1, k2, k3⟩ := lsm i hi hls
          have o := (hL.2.2 e i he hi g3 k3).1
          have o' : (μ 20 (296 + 11 * π e + 7) < μ 20 (296 + 11 * π i + 7)) = (μ 5 (443 + e) < μ 5 (443 + i)) := by
            rw [Int32.lt_iff_toInt_lt, Int32.lt_iff_toInt_lt]; exact propext o.symm
          simp [k1, o']
        | false =>
          by_cases k1 : μ 5 (299 + i) = nI x
          · have k2 : μ 5 (443 + i) < nI 0 := by
              simp only [rb_lsd, k1, decide_true, Bool.true_and, Bool.not_eq_false', decide_eq_true_eq] at hls
              exact hls
            have z0 : μ 20 (296 + 11 * π i + 7) = nI 0 := by
              rcases hL.2.1 i hi with ⟨_, g, _⟩ | ⟨u, v, _, _, _, g, _⟩
              · exact g
              · rw [g] at k2; exact absurd k2 (nI_pos (by have := hL.2.1 i hi; omega))
            rcases hL.2.1 e he with ⟨g, _⟩ | ⟨u, v, _, v0, v1', _, g, _⟩
            · exact absurd g g3
            · have : ¬ nI v < nI 0 := nI_pos (by omega)
              rw [z0, g]
              simp [this]
          · simp [k1]
      have hTP : ∀ j, j < nn → (rb_lsd (μ 5) x j && rb_tl (μ 5) nn j) = true → rb_lsd (μ 5) x j = true := fun _ _ e => by rw [Bool.and_eq_true] at e; exact e.1
      subst ew
      have key : ∃ o, ((rb_lp (ρ := (Unit) ⊕ (Int32 × rb_Row)) (fun (s11 : Int32 × Int32) => if s11.2 < 0 then some (.inr (.inl ())) else (XX7_isTrue (μ 20) rd' s11.2).bind fun t21 => if t21 = 0 then (rb_rd (μ 20) 796 v1).bind fun v24 => (XX7_ofInterest (μ 20) s11.2 7).bind fun t26 => (XX7_listedBehind (μ 20) v24 t26).bind fun t28 => some (.inl (s11.1, t28)) else if s11.1 = 0 then (XX7_ofInterest (μ 20) s11.2 2).bind fun t31 => some (.inr (.inr (t31, rd'))) else (rb_rd (μ 20) 796 v1).bind fun v33 => (XX7_ofInterest (μ 20) s11.2 7).bind fun t35 => (XX7_listedBehind (μ 20) v33 t35).bind fun t37 => some (.inl ((s11.1 + (-1)), t37))) 100000 (nI w, rb_oi ((rb_am (rb_lsd (μ 5) x) (fun i => μ 5 (443 + i)) nn).map π))).bind fun q12 => Sum.elim (fun (z19 : Unit) => some ((-1), rd')) (fun (w39 : Int32 × rb_Row) => some w39) q12) = some o ∧ XX6_shown (μ 5) v1 (nI w) = some o.1 := by
        refine rb_lpib (τ := Int32 × Int32) (fun j z => z) 25 (fun j z => ∃ (R : Nat → Bool) (m : Nat), (∀ t, t < nn → R t = true → rb_lsd (μ 5) x t = true) ∧ (∀ i l, i < nn → l < nn → rb_lsd (μ 5) x i = true → R i = false → R l = true → μ 5 (443 + i) < μ 5 (443 + l)) ∧ rb_cn (fun t => rb_lsd (μ 5) x t && !R t) nn = j ∧ rb_cn (fun t => (rb_lsd (μ 5) x t && rb_tl (μ 5) nn t) && !R t) nn + m = w ∧ z = (nI m, rb_oi ((rb_am R (fun i => μ 5 (443 + i)) nn).map π))) (fun r => ∃ o, Sum.elim (fun (z19 : Unit) => some ((-1 : Int32), rd')) (fun (w39 : Int32 × rb_Row) => some w39) r = some o ∧ XX6_shown (μ 5) v1 (nI w) = some o.1) _ rfl ⟨rb_lsd (μ 5) x, w, fun _ _ e => e, fun i l _ _ g1 g2 _ => absurd (g1.symm.trans g2) (by decide), rb_cn_zero (fun i hi => by simp), by rw [rb_cn_zero (fun i hi => by cases rb_lsd (μ 5) x i <;> simp)]; omega, rfl⟩ (by omega) ?_ ?_ (fun r hr => hr)
        · rintro j z hj ⟨R, m, r1, r2, r3, r4, r5⟩
          subst r5
          have hcl : ∀ p : Nat → Bool, rb_cn p nn ≤ 24 := fun p => Nat.le_trans (rb_cn_le p nn) hn24
          cases hf : rb_am R (fun i => μ 5 (443 + i)) nn with
          | none =>
            right
            have hno := rb_am_none hf
            refine ⟨.inl (), if_pos (show mI < (0 : Int32) by decide), (-1, rd'), rfl, ?_⟩
            refine prog none (fun _ g => by cases g) (rb_fd_all (fun i hi => ?_))
            cases ti : (rb_lsd (μ 5) x i && rb_tl (μ 5) nn i) with
            | false => rfl
            | true =>
              have := rk_all (P := rb_lsd (μ 5) x) (T := fun t => rb_lsd (μ 5) x t && rb_tl (μ 5) nn t) (k := fun t => μ 5 (443 + t)) hTP hno hi ti
              have h6 := hcl (fun j => (rb_lsd (μ 5) x j && rb_tl (μ 5) nn j) && decide (μ 5 (443 + j) < μ 5 (443 + i)))
              have : ¬ nI (rb_cn (fun j => (rb_lsd (μ 5) x j && rb_tl (μ 5) nn j) && decide (μ 5 (443 + j) < μ 5 (443 + i))) nn) = nI w := by
                rw [nI_eq (by omega) (by omega)]; omega
              simp only [this, decide_false, Bool.and_false]
          | some e =>
            obtain ⟨s1, s2, s3, s4⟩ := rk_step (P := rb_lsd (μ 5) x) (T := fun t => rb_lsd (μ 5) x t && rb_tl (μ 5) nn t) (k := fun t => μ 5 (443 + t)) hTP r1 r2 hinj hf
            obtain ⟨_, _, _, s5⟩ := rk_step (P := rb_lsd (μ 5) x) (T := rb_lsd (μ 5) x) (k := fun t => μ 5 (443 + t)) (fun _ _ g => g) r1 r2 hinj hf
            have pe := r1 e s1 s2
            have hπ := (hI.1 e s1).1
            have q0 : ¬ nI (π e) < (0 : Int32) := nI_pos (by omega)
            have o7 := xn_ofInterest (μ 20) (f := 7) hπ (by omega)
            have o2 := xn_ofInterest (μ 20) (f := 2) hπ (by omega)
            rw [(hI.1 e s1).2.2.2.1] at o2
            have tr := hTr e s1
            have low' : ∀ i l, i < nn → l < nn → rb_lsd (μ 5) x i = true → (rb_lsd (μ 5) x i && decide (μ 5 (443 + e) < μ 5 (443 + i))) = false → (rb_lsd (μ 5) x l && decide (μ 5 (443 + e) < μ 5 (443 + l))) = true → μ 5 (443 + i) < μ 5 (443 + l) := fun i l hi hl g1 g2 g3 => by
              simp only [g1, Bool.true_and, decide_eq_false_iff_not] at g2
              simp only [Bool.and_eq_true, decide_eq_true_eq] at g3
              have g4 := g3.2
              rw [Int32.lt_iff_toInt_lt] at g2 g4 ⊢
              omega
            rw [pe] at s5
            rw [r3] at s5
            cases ht : rb_tl (μ 5) nn e with
            | false =>
              left
              rw [ht] at tr
              have s4' := s4
              rw [show (rb_lsd (μ 5) x e && rb_tl (μ 5) nn e) = false by rw [ht, Bool.and_false]] at s4'
              refine ⟨_, (if_neg q0).trans (rb_bnd _ tr ((if_pos rfl).trans (rb_bnd _ e3 (rb_bnd _ o7 (rb_bnd _ (f1 e s1 pe) rfl))))), _, m, fun t ht g => by rw [Bool.and_eq_true] at g; exact g.1, low', s5, ?_, rfl⟩
              rw [s4']; exact r4
            | true =>
              rw [ht] at tr
              have te : (rb_lsd (μ 5) x e && rb_tl (μ 5) nn e) = true := by rw [ht, pe]; rfl
              have s4' := s4
              rw [te] at s4'
              have hc24 := hcl (fun t => (rb_lsd (μ 5) x t && rb_tl (μ 5) nn t) && !R t)
              by_cases hm0 : m = 0
              · right
                subst hm0
                refine ⟨.inr (μ 5 (347 + e), rd'), (if_neg q0).trans (rb_bnd _ tr ((if_neg h01).trans ((if_pos rfl).trans (rb_bnd _ o2 rfl)))), (μ 5 (347 + e), rd'), rfl, ?_⟩
                refine prog (some e) (fun i g => by cases g; exact s1) (rb_fd_uni s1 ?_ (fun l hl el => ?_))
                · rw [te, s3, Bool.true_and, decide_eq_true_eq]
                  congr 1
                · rw [Bool.and_eq_true, decide_eq_true_eq] at el
                  have h6 := hcl (fun j => (rb_lsd (μ 5) x j && rb_tl (μ 5) nn j) && decide (μ 5 (443 + j) < μ 5 (443 + l)))
                  have h7 := (nI_eq (by omega) (by omega)).mp el.2
                  exact rk_uniq (T := fun t => rb_lsd (μ 5) x t && rb_tl (μ 5) nn t) (k := fun t => μ 5 (443 + t)) hinjT hl s1 el.1 te (by rw [s3]; omega)
              · left
                obtain ⟨m', em⟩ : ∃ m', m = m' + 1 := ⟨m - 1, by omega⟩
                subst em
                have qm0 : ¬ nI (m' + 1) = (0 : Int32) := by rw [show (0 : Int32) = nI 0 from rfl, nI_eq (by omega) (by omega)]; omega
                refine ⟨_, (if_neg q0).trans (rb_bnd _ tr ((if_neg h01).trans ((if_neg qm0).trans (rb_bnd _ e3 (rb_bnd _ o7 (rb_bnd _ (f1 e s1 pe) (congrArg (fun u => some (Sum.inl (u, _))) (rb_nIm m')))))))), _, m', fun t ht g => by rw [Bool.and_eq_true] at g; exact g.1, low', s5, ?_, rfl⟩
                have : rb_cn (fun j => (rb_lsd (μ 5) x j && rb_tl (μ 5) nn j) && !(rb_lsd (μ 5) x j && decide (μ 5 (443 + e) < μ 5 (443 + j)))) nn = rb_cn (fun t => (rb_lsd (μ 5) x t && rb_tl (μ 5) nn t) && !R t) nn + 1 := s4'
                rw [this]; omega
        · rintro z ⟨R, m, r1, r2, r3, r4, r5⟩
          have := rb_cn_le (fun t => rb_lsd (μ 5) x t && !R t) nn
          omega
      obtain ⟨⟨d, rd2⟩, k1, k2⟩ := key
      exact ⟨d, (d, rd2), k2, rb_bnd _ e2 ((if_neg h01).trans ((if_pos hv).trans (rb_bnd _ b1 (rb_bnd _ e3 (rb_bnd _ f0 k1))))), rfl, rb_fin0 h rfl rfl rfl rfl rfl rfl rfl rfl rfl rfl rfl⟩
    · refine ⟨-1, (-1, μ 21), prog none (fun _ g => by cases g) (rb_fd_all (fun i hi => ?_)), rb_bnd _ e2 ((if_neg h01).trans (if_neg hv)), rfl, rb_fin0 h rfl rfl rfl rfl rfl rfl rfl rfl rfl rfl rfl⟩
      have h6 := rb_cn_le (fun j => (rb_lsd (μ 5) x j && rb_tl (μ 5) nn j) && decide (μ 5 (443 + j) < μ 5 (443 + i))) nn
      have := rb_neg hv (rb_cn (fun j => (rb_lsd (μ 5) x j && rb_tl (μ 5) nn j) && decide (μ 5 (443 + j) < μ 5 (443 + i))) nn) (by omega)
      simp only [this, decide_false, Bool.and_false]
