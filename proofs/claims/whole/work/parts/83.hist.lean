def rb_slc (r : rb_Row) (w i : Nat) : rb_Row := fun k => r (w * i + k)
theorem rb_RB_congr {B B' q q' : Nat} {c a c' a' : rb_Row} (h : rb_RB B q c a) (hB : B ≤ B') (hq : q ≤ q') (hc : ∀ k, k < 773 → c' k = c k) (ha : ∀ k, k < 796 → a' k = a k) : rb_RB B' q' c' a' := by
  obtain ⟨n, π, s, s', h1, h2⟩ := h
  have hk : rb_asl c' = rb_asl c := rb_cn_congr (fun i hi => by show (!decide (c' (539 + i) = mI)) = _; rw [hc (539 + i) (by omega)])
  obtain ⟨g1, g2, g3, g4, g5, g6, g7, g8⟩ := h1.1
  have hS : rS q n s s' c' a' := ⟨by rw [ha 794 (by omega), hc 0 (by omega)]; exact g1, by rw [hc 0 (by omega)]; exact g2, by rw [hc 1 (by omega)]; exact g3, by rw [ha 795 (by omega)]; exact g4, g5, g6, by rw [hc 2 (by omega)]; exact g7, g8⟩
  have hT : rT s s' B' c' a' := rT_frame h1.2.2.2.2 (Nat.le_refl _) (Nat.le_refl _) hB (fun k _ h => hc k h) (fun x hx => hc (19 + x) (by omega)) (fun k _ h => ha k (by omega))
  have r := rR_gen h1 (Nat.le_refl _) (Nat.le_refl _) hS (fun k _ h => hc k (by omega)) (fun k h => ha k (by omega)) hT
  exact ⟨n, π, s, s', ⟨⟨r.1.1, r.1.2.1, r.1.2.2.1, r.1.2.2.2.1, r.1.2.2.2.2.1, by have := r.1.2.2.2.2.2.1; omega, r.1.2.2.2.2.2.2.1, r.1.2.2.2.2.2.2.2⟩, r.2⟩, by rw [hk]; omega⟩
theorem rb_cpn {f g : rb_Row} {n0 n1 sp dp n : Nat} (h0 : sp + n ≤ n0) (h1 : dp + n ≤ n1) (h2 : n0 < 2000000000) (h3 : n1 < 2000000000) : rb_cp f n0 (nI sp) g n1 (nI dp) (nI n) = some (va_cpy f g sp dp n) := by
  unfold rb_cp
  have e1 : (nI sp).toNatClampNeg = sp := nI_clamp (by omega)
  have e2 : (nI dp).toNatClampNeg = dp := nI_clamp (by omega)
  have e3 : (nI n).toNatClampNeg = n := nI_clamp (by omega)
  rw [e1, e2, e3, if_neg]
  intro h
  rcases h with h | h | h | h | h
  · rw [show (0 : Int32) = nI 0 from rfl, nI_ltI (by omega) (by omega)] at h; omega
  · rw [show (0 : Int32) = nI 0 from rfl, nI_ltI (by omega) (by omega)] at h; omega
  · rw [show (0 : Int32) = nI 0 from rfl, nI_ltI (by omega) (by omega)] at h; omega
  · omega
  · omega
theorem rb_cpin (a wa : rb_Row) (u : Int32) (j N : Nat) (hu : u = nI j) (hN : 796 * j + 796 ≤ N) (hN2 : N < 2000000) : rb_lp (ρ := rb_Row) (fun (s20 : Int32 × rb_Row) => if 796 ≤ s20.1 then some (.inr s20.2) else (rb_rd a 796 s20.1).bind fun v29 => (rb_wr s20.2 N ((796 * u) + s20.1) v29).bind fun wa31 => some (.inl ((s20.1 + 1), wa31))) 100000 (0, wa) = some (fun k => if 796 * j ≤ k ∧ k < 796 * j + 796 then a (k - 796 * j) else wa k) := by
  subst hu
  refine rb_lps0 (fun i => (nI i, fun k => if 796 * j ≤ k ∧ k < 796 * j + i then a (k - 796 * j) else wa k)) 796 _ ?_ ?_ ?_ (by omega)
  · refine Prod.ext rfl (funext fun k => if_neg (by omega))
  · intro i hi
    have q1 : ¬ (796 : Int32) ≤ nI i := by rw [show (796 : Int32) = nI 796 from rfl, nI_leI (by omega) (by omega)]; omega
    have e : (796 : Int32) * nI j + nI i = nI (796 * j + i) := (congrArg (· + nI i) (nI_mul 796 j)).trans (nI_add _ _)
    have u1 : upd (fun k => if 796 * j ≤ k ∧ k < 796 * j + i then a (k - 796 * j) else wa k) (796 * j + i) (a i) = (fun k => if 796 * j ≤ k ∧ k < 796 * j + (i + 1) then a (k - 796 * j) else wa k) := by
      funext k
      by_cases h : k = 796 * j + i
      · rw [rb_upe h, if_pos (by omega)]; congr 1; omega
      · rw [rb_upn h]
        by_cases h2 : 796 * j ≤ k ∧ k < 796 * j + i
        · rw [if_pos h2, if_pos (by omega)]
        · rw [if_neg h2, if_neg (by omega)]
    refine (if_neg q1).trans (rb_bnd _ (rb_rdn hi (by omega)) (rb_bnd _ ((congrArg (fun t => rb_wr _ N t (a i)) e).trans (rb_wrn (by omega) (by omega))) ?_))
    exact congrArg some (congrArg Sum.inl (Prod.ext (nI_add i 1) u1))
  · exact if_pos (by show (796 : Int32) ≤ nI 796; decide)
theorem rb_shift (wa : rb_Row) : rb_lp (ρ := rb_Row) (fun (s5 : Int32 × rb_Row) => if 9552 ≤ s5.1 then some (.inr s5.2) else (rb_rd s5.2 10348 (s5.1 + 796)).bind fun v14 => (rb_wr s5.2 10348 s5.1 v14).bind fun wa16 => some (.inl ((s5.1 + 1), wa16))) 100000 (0, wa) = some (fun k => if k < 9552 then wa (k + 796) else wa k) := by
  refine rb_lps0 (fun i => (nI i, fun k => if k < i then wa (k + 796) else wa k)) 9552 _ ?_ ?_ ?_ (by omega)
  · refine Prod.ext rfl (funext fun k => (if_neg (Nat.not_lt_zero k) : (if k < 0 then wa (k + 796) else wa k) = wa k))
  · intro i hi
    have q1 : ¬ (9552 : Int32) ≤ nI i := by rw [show (9552 : Int32) = nI 9552 from rfl, nI_leI (by omega) (by omega)]; omega
    have u1 : upd (fun k => if k < i then wa (k + 796) else wa k) i (wa (i + 796)) = (fun k => if k < i + 1 then wa (k + 796) else wa k) := by
      funext k
      by_cases h : k = i
      · rw [rb_upe h, if_pos (by omega), h]
      · rw [rb_upn h]
        by_cases h2 : k < i
        · rw [if_pos h2, if_pos (by omega)]
        · rw [if_neg h2, if_neg (by omega)]
    have r1 : rb_rd (fun k => if k < i then wa (k + 796) else wa k) 10348 (nI i + 796) = some (wa (i + 796)) := (congrArg (rb_rd _ 10348) (nI_add i 796)).trans ((rb_rdn (by omega) (by omega)).trans (congrArg some (if_neg (by omega))))
    refine (if_neg q1).trans (rb_bnd _ r1 (rb_bnd _ (rb_wrn (by omega) (by omega)) ?_))
    exact congrArg some (congrArg Sum.inl (Prod.ext (nI_add i 1) u1))
  · exact if_pos (by show (9552 : Int32) ≤ nI 9552; decide)
theorem rb_swap (a wa mf : rb_Row) {j : Nat} (hj : j < 13) (e : mf 16 = nI j) : XX7_swapAll a wa mf = some (fun k => if k < 796 then wa (796 * j + k) else a k, fun k => if 796 * j ≤ k ∧ k < 796 * j + 796 then a (k - 796 * j) else wa k) := by
  unfold XX7_swapAll
  rw [e]
  refine rb_bnd (fun k => if k < 796 then wa (796 * j + k) else a k, fun k => if 796 * j ≤ k ∧ k < 796 * j + 796 then a (k - 796 * j) else wa k) (rb_lps0 (fun i => (nI i, (fun k => if k < i then wa (796 * j + k) else a k), fun k => if 796 * j ≤ k ∧ k < 796 * j + i then a (k - 796 * j) else wa k)) 796 _ ?_ ?_ ?_ (by omega)) rfl
  · refine Prod.ext rfl (Prod.ext (funext fun k => (if_neg (Nat.not_lt_zero k) : (if k < 0 then wa (796 * j + k) else a k) = a k)) (funext fun k => if_neg (by omega)))
  · intro i hi
    have q1 : ¬ (796 : Int32) ≤ nI i := by rw [show (796 : Int32) = nI 796 from rfl, nI_leI (by omega) (by omega)]; omega
    have e : (796 : Int32) * nI j + nI i = nI (796 * j + i) := (congrArg (· + nI i) (nI_mul 796 j)).trans (nI_add _ _)
    have u1 : upd (fun k => if 796 * j ≤ k ∧ k < 796 * j + i then a (k - 796 * j) else wa k) (796 * j + i) (a i) = (fun k => if 796 * j ≤ k ∧ k < 796 * j + (i + 1) then a (k - 796 * j) else wa k) := by
      funext k
      by_cases h : k = 796 * j + i
      · rw [rb_upe h, if_pos (by omega)]; congr 1; omega
      · rw [rb_upn h]
        by_cases h2 : 796 * j ≤ k ∧ k < 796 * j + i
        · rw [if_pos h2, if_pos (by omega)]
        · rw [if_neg h2, if_neg (by omega)]
    have u2 : upd (fun k => if k < i then wa (796 * j + k) else a k) i (wa (796 * j + i)) = (fun k => if k < i + 1 then wa (796 * j + k) else a k) := by
      funext k
      by_cases h : k = i
      · rw [rb_upe h, if_pos (by omega), h]
      · rw [rb_upn h]
        by_cases h2 : k < i
        · rw [if_pos h2, if_pos (by omega)]
        · rw [if_neg h2, if_neg (by omega)]
    have r1 : rb_rd (fun k => if 796 * j ≤ k ∧ k < 796 * j + i then a (k - 796 * j) else wa k) 10348 ((796 : Int32) * nI j + nI i) = some (wa (796 * j + i)) := (congrArg (rb_rd _ 10348) e).trans ((rb_rdn (by omega) (by omega)).trans (congrArg some (if_neg (by omega))))
    have r2 : rb_rd (fun k => if k < i then wa (796 * j + k) else a k) 796 (nI i) = some (a i) := (rb_rdn (by omega) (by omega)).trans (congrArg some (if_neg (by omega)))
    refine (if_neg q1).trans (rb_bnd _ r1 (rb_bnd _ r2 (rb_bnd _ ((congrArg (fun t => rb_wr _ 10348 t (a i)) e).trans (rb_wrn (by omega) (by omega))) (rb_bnd _ (rb_wrn (by omega) (by omega)) ?_))))
    exact congrArg some (congrArg Sum.inl (Prod.ext (nI_add i 1) (Prod.ext u2 u1)))
  · exact if_pos (by show (796 : Int32) ≤ nI 796; decide)
