theorem xn_tells {z W q n : Nat} {π : Nat → Nat} {s s' : Nat} {c a : rb_Row} (hR : rR z W q n π s s' c a) {i : Nat} (hi : i < n) : XX1_tells c (nI i) = some (if c (419 + i) = nI 0 then nI 0 else rb_bt c i &&& rq c n 4 (nt (c (323 + i)))) := by
  have hn24 : n ≤ 24 := hR.1.2.2.2.2.2.2.2
  have rd : ∀ col, col ≤ 419 → rb_rd c 773 (nI col + nI i) = some (c (col + i)) := fun col h => (congrArg (rb_rd c 773) (nI_add col i)).trans (rb_rdn (by omega) (by omega))
  unfold XX1_tells
  by_cases h0 : c (419 + i) = nI 0
  · rw [if_pos h0]
    exact rb_bnd _ (rd 419 (by omega)) (if_pos h0)
  · rw [if_neg h0]
    obtain ⟨y, hy, ey, hl, _⟩ := hR.2.2.1.2.2.1 i hi
    have r5 := xn_ready5 hR hy hl
    have bt : XX1_bitsOf c (nI i) = some (rb_bt c i) := rb_bnd _ (rd 371 (by omega)) rfl
    have r3 := rd 323 (by omega)
    rw [ey] at r3
    rw [nt_n ey (by omega)]
    exact rb_bnd _ (rd 419 (by omega)) ((if_neg h0).trans (rb_bnd _ bt (rb_bnd _ r3 (rb_bnd _ r5 rfl))))
theorem xn_isShown {z W q n : Nat} {π : Nat → Nat} {s s' : Nat} {c a : rb_Row} (hR : rR z W q n π s s' c a) {i : Nat} (hi : i < n) (x : Nat) : XX1_isShown c (nI i) (nI x) = some (bif rb_tr c (rq c n 4) x i then nI 1 else nI 0) := by
  have hn24 : n ≤ 24 := hR.1.2.2.2.2.2.2.2
  have rd : ∀ col, col ≤ 443 → rb_rd c 773 (nI col + nI i) = some (c (col + i)) := fun col h => (congrArg (rb_rd c 773) (nI_add col i)).trans (rb_rdn (by omega) (by omega))
  unfold XX1_isShown rb_tr
  by_cases h0 : c (299 + i) = nI x
  · by_cases h1 : c (443 + i) < nI 0
    · simp only [h1, decide_true, Bool.not_true, Bool.false_and, Bool.and_false, cond_false]
      exact rb_bnd _ (rd 299 (by omega)) ((if_pos h0).trans (rb_bnd _ (rd 443 (by omega)) (if_pos h1)))
    · have tl := xn_tells hR hi
      by_cases h2 : c (419 + i) = nI 0
      · rw [if_pos h2] at tl
        simp only [h2, decide_true, Bool.not_true, Bool.false_and, Bool.and_false, cond_false]
        exact rb_bnd _ (rd 299 (by omega)) ((if_pos h0).trans (rb_bnd _ (rd 443 (by omega)) ((if_neg h1).trans (rb_bnd _ tl (if_pos rfl)))))
      · rw [if_neg h2] at tl
        by_cases h3 : rb_bt c i &&& rq c n 4 (nt (c (323 + i))) = nI 0
        · simp only [h3, decide_true, Bool.not_true, Bool.and_false, cond_false]
          exact rb_bnd _ (rd 299 (by omega)) ((if_pos h0).trans (rb_bnd _ (rd 443 (by omega)) ((if_neg h1).trans (rb_bnd _ tl (if_pos h3)))))
        · simp only [h0, h1, h2, h3, decide_true, decide_false, Bool.not_false, Bool.and_self, cond_true]
          exact rb_bnd _ (rd 299 (by omega)) ((if_pos h0).trans (rb_bnd _ (rd 443 (by omega)) ((if_neg h1).trans (rb_bnd _ tl (if_neg h3)))))
  · simp only [h0, decide_false, Bool.false_and, cond_false]
    exact rb_bnd _ (rd 299 (by omega)) (if_neg h0)
theorem rs_shows : rb_S_shows rb_Inv := by
  intro n μ v1 hn h
  obtain ⟨nn, π, s, s', hR, hB⟩ := h.1
  have hn24 : nn ≤ 24 := hR.1.2.2.2.2.2.2.2
  have hsq := hR.1.2.2.2.2.2.1
  have h01 : ¬ (nI 1 = (0 : Int32)) := by decide
  have qm : ¬ (0 : Int32) ≤ mI := by decide
  rcases rp_set hR v1 with ⟨e1, e2⟩ | ⟨k, x, hk, hx, ev, ec, ea, h4, e1, e2, e3⟩
  · exact ⟨-1, (-1, μ 21), rb_bnd _ e1 (if_neg qm), rb_bnd _ e2 (if_pos rfl), rfl, rb_fin0 h rfl rfl rfl rfl rfl rfl rfl rfl rfl rfl rfl⟩
  · have qx : (0 : Int32) ≤ nI x := nI_pos' (by omega)
    obtain ⟨rd', b1, b2⟩ := yn_layReady hR (by omega) (μ 21)
    have b3 := yn_shows (rd := rd') (F := rq (μ 5) nn 4) hR.2.2.1 hR.2.2.2.1 (by omega) hR.1.2.2.2.2.1 hx (fun i hi _ => by
      obtain ⟨y, hy, ey, hl, _⟩ := hR.2.2.1.2.2.1 i hi
      rw [nt_n ey (by omega)]
      exact b2 y hy (by omega) hl)
    have r2 : rb_rd (μ 5) 773 2 = some (nI nn) := (rb_rdn (k := 2) (by omega) (by omega)).trans (congrArg some hR.1.2.2.2.2.2.2.1)
    have sb : XX1_shownBy (μ 5) (nI x) = some (nI (rb_cn (rb_tr (μ 5) (rq (μ 5) nn 4) x) nn)) := by
      unfold XX1_shownBy
      refine rb_bnd _ r2 (rb_bnd _ (rb_lpc0 (rb_tr (μ 5) (rq (μ 5) nn 4) x) nn (by omega) (fun j m hj hm => ?_) (fun m hm => if_pos (show nI nn ≤ nI nn by rw [nI_leI (by omega) (by omega)]; exact Nat.le_refl _))) rfl)
      have q1 : ¬ nI nn ≤ nI j := by rw [nI_leI (by omega) (by omega)]; omega
      have p2 : nI j + 1 = nI (j + 1) := nI_add j 1
      have is := xn_isShown hR hj x
      cases ht : rb_tr (μ 5) (rq (μ 5) nn 4) x j with
      | true =>
        rw [ht] at is
        exact (if_neg q1).trans (rb_bnd _ is (rb_bnd (nI m + 1) (if_neg h01) (by rw [← p2, show nI m + 1 = nI (m + 1) from nI_add m 1]; rfl)))
      | false =>
        rw [ht] at is
        exact (if_neg q1).trans (rb_bnd _ is (rb_bnd (nI m) (if_pos rfl) (by rw [← p2]; rfl)))
    exact ⟨_, (_, rd'), rb_bnd _ e1 ((if_pos qx).trans (rb_bnd _ sb rfl)), rb_bnd _ e2 ((if_neg h01).trans (rb_bnd _ b1 (rb_bnd _ e3 (rb_bnd _ b3 rfl)))), rfl, rb_fin0 h rfl rfl rfl rfl rfl rfl rfl rfl rfl rfl rfl⟩
def rb_tl (c : rb_Row) (n j : Nat) : Bool := !decide (c (419 + j) = nI 0) && !decide (rb_bt c j &&& rq c n 4 (nt (c (323 + j))) = nI 0)
def rb_lsd (c : rb_Row) (x j : Nat) : Bool := decide (c (299 + j) = nI x) && !decide (c (443 + j) < nI 0)
theorem rb_tr_ls (c : rb_Row) (n x j : Nat) : rb_tr c (rq c n 4) x j = (rb_lsd c x j && rb_tl c n j) := by
  unfold rb_tr rb_lsd rb_tl
  rw [Bool.and_assoc]
theorem xn_aheadOf {z W q n : Nat} {π : Nat → Nat} {s s' : Nat} {c a : rb_Row} (hR : rR z W q n π s s' c a) {i x : Nat} (hi : i < n) (hx : c (299 + i) = nI x) (w : Nat) (hw : w ≤ 1) : XX1_aheadOf c (nI i) (nI w) = some (nI (rb_cn (fun j => (rb_lsd c x j && (decide (w = 0) || rb_tl c n j)) && decide (c (443 + j) < c (443 + i))) n)) := by
  have hn24 : n ≤ 24 := hR.1.2.2.2.2.2.2.2
  have rd : ∀ col j, col ≤ 443 → j < n → rb_rd c 773 (nI col + nI j) = some (c (col + j)) := fun col j h hj => (congrArg (rb_rd c 773) (nI_add col j)).trans (rb_rdn (by omega) (by omega))
  have r2 : rb_rd c 773 2 = some (nI n) := (rb_rdn (k := 2) (by omega) (by omega)).trans (congrArg some hR.1.2.2.2.2.2.2.1)
  have h01 : ¬ (nI 1 = (0 : Int32)) := by decide
  unfold XX1_aheadOf
  refine rb_bnd _ r2 (rb_bnd _ (rb_lpc0 (fun j => (rb_lsd c x j && (decide (w = 0) || rb_tl c n j)) && decide (c (443 + j) < c (443 + i))) n (by omega) (fun j m hj hm => ?_) (fun m hm => if_pos (show nI n ≤ nI n by rw [nI_leI (by omega) (by omega)]; exact Nat.le_refl _))) rfl)
  have q1 : ¬ nI n ≤ nI j := by rw [nI_leI (by omega) (by omega)]; omega
  have p2 : nI j + 1 = nI (j + 1) := nI_add j 1
  have a1 := rd 299 j (by omega) hj
  have a2 := rd 299 i (by omega) hi
  have a3 := rd 443 j (by omega) hj
  have a4 := rd 443 i (by omega) hi
  refine (if_neg q1).trans (rb_bnd _ a1 (rb_bnd _ a2 ?_))
  by_cases h1 : c (299 + j) = c (299 + i)
  · have h1' : c (299 + j) = nI x := h1.trans hx
    by_cases h2 : c (443 + j) < nI 0
    · exact rb_bnd _ ((if_pos h1).trans (rb_bnd _ a3 (if_pos h2))) (rb_bnd (nI m) (if_pos rfl) (congrArg (fun u => some (Sum.inl u)) (Prod.ext (congrArg nI (Eq.symm (by simp [rb_lsd, h2] : (m + bif ((rb_lsd c x j && (decide (w = 0) || rb_tl c n j)) && decide (c (443 + j) < c (443 + i))) then 1 else 0) = m))) p2)))
    · by_cases h3 : c (443 + i) ≤ c (443 + j)
      · have h3' := rb_nlt.mp h3
        exact rb_bnd _ ((if_pos h1).trans (rb_bnd _ a3 ((if_neg h2).trans (rb_bnd _ a3 (rb_bnd _ a4 (if_pos h3)))))) (rb_bnd (nI m) (if_pos rfl) (congrArg (fun u => some (Sum.inl u)) (Prod.ext (congrArg nI (Eq.symm (by simp [h3'] : (m + bif ((rb_lsd c x j && (decide (w = 0) || rb_tl c n j)) && decide (c (443 + j) < c (443 + i))) then 1 else 0) = m))) p2)))
      · have h3' : c (443 + j) < c (443 + i) := Decidable.not_not.mp (fun g => h3 (rb_nlt.mpr g))
        have hj16 : (if c (299 + j) = c (299 + i) then (rb_rd c 773 (443 + nI j)).bind fun v20 => if v20 < 0 then some 0 else (rb_rd c 773 (443 + nI j)).bind fun v23 => (rb_rd c 773 (443 + nI i)).bind fun v25 => if v25 ≤ v23 then some 0 else some 1 else some 0 : Option Int32) = some (nI 1) := (if_pos h1).trans (rb_bnd _ a3 ((if_neg h2).trans (rb_bnd _ a3 (rb_bnd _ a4 (if_neg h3)))))
        have yes : ∀ (e : (m + bif ((rb_lsd c x j && (decide (w = 0) || rb_tl c n j)) && decide (c (443 + j) < c (443 + i))) then 1 else 0) = m + 1), some (Sum.inl (nI m + 1, nI j + 1)) = (some (Sum.inl (nI (m + bif ((rb_lsd c x j && (decide (w = 0) || rb_tl c n j)) && decide (c (443 + j) < c (443 + i))) then 1 else 0), nI (j + 1))) : Option ((Int32 × Int32) ⊕ Int32)) := fun e => by rw [e, p2, show nI m + 1 = nI (m + 1) from nI_add m 1]
        by_cases hw0 : w = 0
        · subst hw0
          exact rb_bnd _ hj16 (rb_bnd (nI m + 1) ((if_neg h01).trans (if_pos rfl)) (yes (by simp [rb_lsd, h1', h2, h3'])))
        · have : w = 1 := by omega
          subst this
          have tl := xn_tells hR hj
          by_cases h5 : c (419 + j) = nI 0
          · rw [if_pos h5] at tl
            exact rb_bnd _ hj16 (rb_bnd (nI m) ((if_neg h01).trans ((if_neg h01).trans (rb_bnd _ tl (if_pos rfl)))) (show some (Sum.inl (nI m, nI j + 1)) = _ by rw [p2, show (m + bif ((rb_lsd c x j && (decide (1 = 0) || rb_tl c n j)) && decide (c (443 + j) < c (443 + i))) then 1 else 0) = m by simp [rb_tl, h5]]))
          · rw [if_neg h5] at tl
            by_cases h6 : rb_bt c j &&& rq c n 4 (nt (c (323 + j))) = nI 0
            · exact rb_bnd _ hj16 (rb_bnd (nI m) ((if_neg h01).trans ((if_neg h01).trans (rb_bnd _ tl (if_pos h6)))) (show some (Sum.inl (nI m, nI j + 1)) = _ by rw [p2, show (m + bif ((rb_lsd c x j && (decide (1 = 0) || rb_tl c n j)) && decide (c (443 + j) < c (443 + i))) then 1 else 0) = m by simp [rb_tl, h6]]))
            · exact rb_bnd _ hj16 (rb_bnd (nI m + 1) ((if_neg h01).trans ((if_neg h01).trans (rb_bnd _ tl (if_neg h6)))) (yes (by simp [rb_lsd, rb_tl, h1', h2, h3', h5, h6])))
  · have h1' : ¬ c (299 + j) = nI x := fun g => h1 (g.trans hx.symm)
    exact rb_bnd _ (if_neg h1) (rb_bnd (nI m) (if_pos rfl) (congrArg (fun u => some (Sum.inl u)) (Prod.ext (congrArg nI (Eq.symm (by simp [rb_lsd, h1'] : (m + bif ((rb_lsd c x j && (decide (w = 0) || rb_tl c n j)) && decide (c (443 + j) < c (443 + i))) then 1 else 0) = m))) p2)))
theorem xn_showing {z W q n : Nat} {π : Nat → Nat} {s s' : Nat} {c a : rb_Row} (hR : rR z W q n π s s' c a) (x : Nat) (w : Int32) : XX1_showing c (nI x) w = some (rb_oi (rb_fd (fun i => (rb_lsd c x i && rb_tl c n i) && decide (nI (rb_cn (fun j => (rb_lsd c x j && rb_tl c n j) && decide (c (443 + j) < c (443 + i))) n) = w)) n)) := by
  have hn24 : n ≤ 24 := hR.1.2.2.2.2.2.2.2
  have r2 : rb_rd c 773 2 = some (nI n) := (rb_rdn (k := 2) (by omega) (by omega)).trans (congrArg some hR.1.2.2.2.2.2.2.1)
  have h01 : ¬ (nI 1 = (0 : Int32)) := by decide
  have ah : ∀ i, i < n → (rb_lsd c x i && rb_tl c n i) = true → XX1_aheadOf c (nI i) 1 = some (nI (rb_cn (fun j => (rb_lsd c x j && rb_tl c n j) && decide (c (443 + j) < c (443 + i))) n)) := fun i hi ht => by
    have hx : c (299 + i) = nI x := by simp only [rb_lsd, Bool.and_eq_true, decide_eq_true_eq] at ht; exact ht.1.1
    have := xn_aheadOf hR hi hx 1 (by omega)
    simp only [show decide (1 = 0) = false by decide, Bool.false_or] at this
    exact this
  unfold XX1_showing
  refine rb_bnd _ r2 (rb_bnd _ (rb_lpg (fun i => (rb_lsd c x i && rb_tl c n i) && decide (nI (rb_cn (fun j => (rb_lsd c x j && rb_tl c n j) && decide (c (443 + j) < c (443 + i))) n) = w)) nI n (by omega) (fun j hj hp => ?_) (fun j hj hp => ?_) (if_pos (show nI n ≤ nI n by rw [nI_leI (by omega) (by omega)]; exact Nat.le_refl _))) ?_)
  · have q1 : ¬ nI n ≤ nI j := by rw [nI_leI (by omega) (by omega)]; omega
    have p2 : nI j + 1 = nI (j + 1) := nI_add j 1
    have is := xn_isShown hR hj x
    rw [rb_tr_ls] at is
    cases ht : (rb_lsd c x j && rb_tl c n j) with
    | false =>
      rw [ht] at is
      exact (if_neg q1).trans (rb_bnd _ is ((if_pos rfl).trans (by rw [p2])))
    | true =>
      rw [ht] at is
      have h2 : ¬ nI (rb_cn (fun l => (rb_lsd c x l && rb_tl c n l) && decide (c (443 + l) < c (443 + j))) n) = w := fun g => by
        simp only [ht, g, decide_true, Bool.and_self] at hp; cases hp
      exact (if_neg q1).trans (rb_bnd _ is ((if_neg h01).trans (rb_bnd _ (ah j hj ht) ((if_neg h2).trans (by rw [p2])))))
  · have q1 : ¬ nI n ≤ nI j := by rw [nI_leI (by omega) (by omega)]; omega
    have is := xn_isShown hR hj x
    rw [rb_tr_ls] at is
    rw [Bool.and_eq_true, decide_eq_true_eq] at hp
    rw [hp.1] at is
    exact (if_neg q1).trans (rb_bnd _ is ((if_neg h01).trans (rb_bnd _ (ah j hj hp.1) (if_pos hp.2))))
  · cases rb_fd (fun i => (rb_lsd c x i && rb_tl c n i) && decide (nI (rb_cn (fun j => (rb_lsd c x j && rb_tl c n j) && decide (c (443 + j) < c (443 + i))) n) = w)) n <;> rfl
