theorem rb_subs (b0 b1 v : Int32) : ((b0 + b1 + v) - b0) - b1 = v := by
  rw [Int32.add_assoc, Int32.add_comm b0 (b1 + v), Int32.add_sub_cancel, Int32.add_comm b1 v, Int32.add_sub_cancel]
theorem rp_miss {W q n : Nat} {π : Nat → Nat} {s s' : Nat} {c a rd' : rb_Row} (hR : rR 28 W q n π s s' c a) (hs : s' < 2000000000) (hrd : ∀ x, x < 28 → x ≠ 28 → rb_live c x → rd' x = rq c n 4 x) {t : Nat} (ht : t < 6) : (c (539 + t) = mI ∧ XX3_missesSome c (nI t) = some (nI 0) ∧ XX7_isAsleep a (nI t) = some (nI 0)) ∨ (∃ x cnt, x < 28 ∧ c (539 + t) = nI x ∧ cnt ≤ 24 ∧ XX3_missesSome c (nI t) = some (nI (if cnt = 0 then 0 else 1)) ∧ XX7_isAsleep a (nI t) = some (nI 1) ∧ XX7_ofTask a (nI t) 0 = some (nI x) ∧ XX7_showsOf a rd' (nI x) = some (nI cnt)) := by
  have hn24 : n ≤ 24 := hR.1.2.2.2.2.2.2.2
  have r0 : rb_rd c 773 (539 + nI t) = some (c (539 + t)) := (congrArg (rb_rd c 773) (nI_add 539 t)).trans (rb_rdn (by omega) (by omega))
  have asl := xn_isAsleep a ht
  rw [(hR.2.2.2.2.1 t ht).1] at asl
  unfold XX3_missesSome
  rcases hR.2.2.2.2.2.2.1 t ht with g | ⟨⟨x, hx, g, h4⟩, _⟩
  · left
    have em : c (539 + t) < nI 0 := by rw [g]; decide
    rw [if_pos em] at asl
    exact ⟨g, rb_bnd _ r0 (if_pos em), asl⟩
  · right
    have em : ¬ c (539 + t) < nI 0 := by rw [g]; exact nI_pos (by omega)
    rw [if_neg em] at asl
    have o0 := xn_ofTask a (f := 0) ht (by omega)
    rw [Nat.add_zero, (hR.2.2.2.2.1 t ht).1, g] at o0
    have sh := yn_shows (rd := rd') (F := rq c n 4) hR.2.2.1 hR.2.2.2.1 hs hR.1.2.2.2.2.1 hx (fun i hi _ => by
      obtain ⟨y, hy, ey, hl, _⟩ := hR.2.2.1.2.2.1 i hi
      rw [nt_n ey (by omega)]
      exact hrd y hy (by omega) hl)
    have r5 := xn_ready5 hR hx ⟨4, by omega, h4⟩
    rw [rq_fix hR.2.2.1 h4] at r5
    have hcl := rb_cn_le (rb_tr c (rq c n 4) x) n
    refine ⟨x, rb_cn (rb_tr c (rq c n 4) x) n, hx, g, by omega, ?_, asl, o0, sh⟩
    rw [g] at r0
    by_cases e : rb_cn (rb_tr c (rq c n 4) x) n = 0
    · rw [if_pos (show rb_cn (rb_tr c (rq c n 4) x) n ≤ 0 by omega)] at r5
      rw [if_pos e]
      exact rb_bnd _ r0 ((if_neg (nI_pos (by omega))).trans (rb_bnd _ r5 (if_pos rfl)))
    · rw [if_neg (show ¬ rb_cn (rb_tr c (rq c n 4) x) n ≤ 0 by omega)] at r5
      rw [if_neg e]
      exact rb_bnd _ r0 ((if_neg (nI_pos (by omega))).trans (rb_bnd _ r5 (if_neg (show ¬ nI 1 = (0 : Int32) by decide))))
theorem yn_tallyNow {B q : Nat} {c a : rb_Row} (h : rb_RB B q c a) (hb : B + q + 1000 < 2000000000) {t0 t1 : Nat} (h0 : t0 < 6) (h1 : t1 < 6) {b0 b1 : Int32} {x : Nat × Nat × Nat} (hL : rb_LF t0 t1 (b0 + b1) c x) {sd : rb_Row} (hs0 : sd (560 + 39 * t0 + 5) = b0) (hs1 : sd (560 + 39 * t1 + 5) = b1) {T : Nat × Nat × Nat × Nat × Nat} (hT : rb_ok T) (hn : T.1 < 2000) {ta : rb_Row} (he : rb_erT ta T) (rd : rb_Row) : ∃ rd' ta', XX7_tallyNow rd ta a sd (nI t0) (nI t1) = some (rd', ta') ∧ rb_erT ta' (rb_ta T x) := by
  obtain ⟨n, π, s, s', hR, hB⟩ := h
  have hsq := hR.1.2.2.2.2.2.1
  obtain ⟨l1, l2, l3, p0, p1, q0, q1, l4, l5, l6⟩ := hL
  obtain ⟨y0, y1, y2, y3, y4⟩ := he
  obtain ⟨o1, o2, o3⟩ := hT
  obtain ⟨rd', er, hrd⟩ := yn_layReady hR (by omega) rd
  have n10 : ¬ nI 1 = (0 : Int32) := by decide
  have u0 := xn_ofTask a (f := 5) h0 (by omega)
  rw [(hR.2.2.2.2.1 t0 h0).2.2.2.2.1] at u0
  have u1 := xn_ofTask a (f := 5) h1 (by omega)
  rw [(hR.2.2.2.2.1 t1 h1).2.2.2.2.1] at u1
  have v0 : rb_rd sd 796 (nI (560 + 39 * t0 + 5)) = some b0 := (rb_rdn (by omega) (by omega)).trans (congrArg some hs0)
  have v1 : rb_rd sd 796 (nI (560 + 39 * t1 + 5)) = some b1 := (rb_rdn (by omega) (by omega)).trans (congrArg some hs1)
  have val : ((c (569 + t0) + c (569 + t1)) - b0) - b1 = nI x.1 := by rw [l1]; exact rb_subs b0 b1 _
  have m0 := rp_miss hR (by omega) hrd h0
  have m1 := rp_miss hR (by omega) hrd h1
  -- asleep
  have hj23 : ∃ t21, XX7_isAsleep a (nI t0) = some t21 ∧ ((if t21 = 0 then (XX7_isAsleep a (nI t1)).bind fun t27 => if t27 = 0 then some 0 else some 1 else some 1) : Option Int32) = some (nI x.2.1) := by
    rcases m0 with ⟨g, _, e⟩ | ⟨y, _, hy, g, _, _, e, _, _⟩
    · refine ⟨_, e, (if_pos rfl).trans ?_⟩
      rcases m1 with ⟨g', _, e'⟩ | ⟨z, _, hz, g', _, _, e', _, _⟩
      · rw [l3, if_pos ⟨g, g'⟩]; exact rb_bnd _ e' (if_pos rfl)
      · rw [l3, if_neg (fun w => by rw [g'] at w; exact rb_nmm (k := z) (by omega) w.2)]; exact rb_bnd _ e' (if_neg n10)
    · refine ⟨_, e, (if_neg n10).trans ?_⟩
      rw [l3, if_neg (fun w => by rw [g] at w; exact rb_nmm (k := y) (by omega) w.1)]; rfl
  -- missed
  have hp : ∀ {cnt p : Nat}, p ≤ 1 → some (nI (if cnt = 0 then 0 else 1)) = some (nI p) → (cnt = 0 ↔ p = 0) := fun {cnt p} hp e => by
    have e' := Option.some.inj e
    by_cases g : cnt = 0
    · rw [if_pos g] at e'
      have := (nI_eq (by omega) (by omega)).mp e'
      omega
    · rw [if_neg g] at e'
      have := (nI_eq (by omega) (by omega)).mp e'
      omega
  have one : ∀ {t p : Nat} (_ : p ≤ 1) (_ : XX3_missesSome c (nI t) = some (nI p)) (_ : (c (539 + t) = mI ∧ XX3_missesSome c (nI t) = some (nI 0) ∧ XX7_isAsleep a (nI t) = some (nI 0)) ∨ (∃ x cnt, x < 28 ∧ c (539 + t) = nI x ∧ cnt ≤ 24 ∧ XX3_missesSome c (nI t) = some (nI (if cnt = 0 then 0 else 1)) ∧ XX7_isAsleep a (nI t) = some (nI 1) ∧ XX7_ofTask a (nI t) 0 = some (nI x) ∧ XX7_showsOf a rd' (nI x) = some (nI cnt))), ((XX7_isAsleep a (nI t)).bind fun t38 => if t38 = 0 then some 0 else (XX7_ofTask a (nI t) 0).bind fun t41 => (XX7_showsOf a rd' t41).bind fun t43 => if t43 ≤ 0 then some 0 else some 1) = some (nI p) := fun {t p} hp1 e m => by
    rcases m with ⟨_, g2, g3⟩ | ⟨y, cnt, hy, _, hc, g2, g3, g4, g5⟩
    · rw [g2] at e
      rw [← Option.some.inj e]
      exact rb_bnd _ g3 (if_pos rfl)
    · rw [g2] at e
      have w := hp hp1 e
      refine rb_bnd _ g3 ((if_neg n10).trans (rb_bnd _ g4 (rb_bnd _ g5 ?_)))
      by_cases z : cnt = 0
      · have : p = 0 := w.mp z
        subst this z
        exact if_pos (by decide)
      · have : p = 1 := by have := fun q => z (w.mpr q); omega
        subst this
        exact if_neg (by rw [show (0 : Int32) = nI 0 from rfl, nI_leI (by omega) (by omega)]; omega)
  have hj34 : ∃ t32 j34, XX7_isAsleep a (nI t0) = some t32 ∧ ((if t32 = 0 then (XX7_isAsleep a (nI t1)).bind fun t38 => if t38 = 0 then some 0 else (XX7_ofTask a (nI t1) 0).bind fun t41 => (XX7_showsOf a rd' t41).bind fun t43 => if t43 ≤ 0 then some 0 else some 1 else (XX7_ofTask a (nI t0) 0).bind fun t46 => (XX7_showsOf a rd' t46).bind fun t48 => if 0 < t48 then some 1 else (XX7_isAsleep a (nI t1)).bind fun t51 => if t51 = 0 then some 0 else (XX7_ofTask a (nI t1) 0).bind fun t54 => (XX7_showsOf a rd' t54).bind fun t56 => if t56 ≤ 0 then some 0 else some 1) : Option Int32) = some j34 ∧ ((if j34 = 0 then some 0 else some 1) : Option Int32) = some (nI x.2.2) := by
    have b1' := one q1 l5 m1
    rcases m0 with ⟨g, g2, e⟩ | ⟨y, cnt, hy, g, hc, g2, e, g4, g5⟩
    · rw [g2] at l4
      have hp0 : p0 = 0 := ((nI_eq (by omega) (by omega)).mp (Option.some.inj l4)).symm
      refine ⟨_, nI p1, e, (if_pos rfl).trans b1', ?_⟩
      by_cases z : p1 = 0
      · rw [show x.2.2 = 0 from l6.trans (if_pos ⟨hp0, z⟩), z]; exact if_pos rfl
      · rw [show x.2.2 = 1 from l6.trans (if_neg (fun w => z w.2))]
        exact if_neg (by rw [show (0 : Int32) = nI 0 from rfl, nI_eq (by omega) (by omega)]; exact z)
    · rw [g2] at l4
      have w := hp q0 l4
      by_cases z : cnt = 0
      · have hp0 := w.mp z
        subst z
        refine ⟨_, nI p1, e, (if_neg n10).trans (rb_bnd _ g4 (rb_bnd _ g5 ((if_neg (by decide)).trans b1'))), ?_⟩
        by_cases z : p1 = 0
        · rw [show x.2.2 = 0 from l6.trans (if_pos ⟨hp0, z⟩), z]; exact if_pos rfl
        · rw [show x.2.2 = 1 from l6.trans (if_neg (fun w => z w.2))]
          exact if_neg (by rw [show (0 : Int32) = nI 0 from rfl, nI_eq (by omega) (by omega)]; exact z)
      · refine ⟨_, nI 1, e, (if_neg n10).trans (rb_bnd _ g4 (rb_bnd _ g5 (if_pos (by rw [show (0 : Int32) = nI 0 from rfl, nI_ltI (by omega) (by omega)]; omega)))), ?_⟩
        rw [show x.2.2 = 1 from l6.trans (if_neg (fun q => z (w.mpr q.1)))]
        exact if_neg n10
  obtain ⟨t21, e21, hj23⟩ := hj23
  obtain ⟨t32, j34, e32, hj34, hj61⟩ := hj34
  have A0 : rb_wr ta 5 0 (ta 0 + 1) = some (upd ta 0 (nI (T.1 + 1))) := (rb_wr5 (k := 0) (by omega) _).trans (congrArg (fun u => some (upd ta 0 u)) (by rw [y0]; exact nI_add T.1 1))
  have r1 : rb_rd (upd ta 0 (nI (T.1 + 1))) 5 1 = some (nI T.2.1) := (rb_rd5 (k := 1) (by omega)).trans (congrArg some ((rb_upn (by omega)).trans y1))
  have A1 : rb_wr (upd ta 0 (nI (T.1 + 1))) 5 1 (nI T.2.1 + nI x.2.1) = some (upd (upd ta 0 (nI (T.1 + 1))) 1 (nI (T.2.1 + x.2.1))) := (rb_wr5 (k := 1) (by omega) _).trans (congrArg (fun u => some (upd _ 1 u)) (nI_add _ _))
  have r2 : rb_rd (upd (upd ta 0 (nI (T.1 + 1))) 1 (nI (T.2.1 + x.2.1))) 5 2 = some (nI T.2.2.1) := (rb_rd5 (k := 2) (by omega)).trans (congrArg some ((rb_upn (by omega)).trans ((rb_upn (by omega)).trans y2)))
  have A2 : rb_wr (upd (upd ta 0 (nI (T.1 + 1))) 1 (nI (T.2.1 + x.2.1))) 5 2 (nI T.2.2.1 + nI x.2.2) = some (upd (upd (upd ta 0 (nI (T.1 + 1))) 1 (nI (T.2.1 + x.2.1))) 2 (nI (T.2.2.1 + x.2.2))) := (rb_wr5 (k := 2) (by omega) _).trans (congrArg (fun u => some (upd _ 2 u)) (nI_add _ _))
  obtain ⟨C, hC, c0, c1, c2, c3, c4⟩ : ∃ C : rb_Row, upd (upd (upd ta 0 (nI (T.1 + 1))) 1 (nI (T.2.1 + x.2.1))) 2 (nI (T.2.2.1 + x.2.2)) = C ∧ C 0 = nI (T.1 + 1) ∧ C 1 = nI (T.2.1 + x.2.1) ∧ C 2 = nI (T.2.2.1 + x.2.2) ∧ C 3 = (if T.1 = 0 then mI else nI T.2.2.2.1) ∧ C 4 = nI T.2.2.2.2 := by
    refine ⟨_, rfl, ?_, ?_, rb_upe rfl, ?_, ?_⟩
    · rw [rb_upn (by omega), rb_upn (by omega)]; exact rb_upe rfl
    · rw [rb_upn (by omega)]; exact rb_upe rfl
    · rw [rb_upn (by omega), rb_upn (by omega), rb_upn (by omega)]; exact y3
    · rw [rb_upn (by omega), rb_upn (by omega), rb_upn (by omega)]; exact y4
  rw [hC] at A2
  obtain ⟨D, hD, d3, dO⟩ : ∃ D : rb_Row, ((if C 3 < 0 then (rb_wr C 5 3 (((c (569 + t0) + c (569 + t1)) - b0) - b1)).bind fun ta73 => some ta73 else (rb_rd C 5 3).bind fun v75 => if v75 ≤ (((c (569 + t0) + c (569 + t1)) - b0) - b1) then some C else (rb_wr C 5 3 (((c (569 + t0) + c (569 + t1)) - b0) - b1)).bind fun ta78 => some ta78) : Option rb_Row) = some D ∧ D 3 = nI (if T.1 = 0 then x.1 else min T.2.2.2.1 x.1) ∧ ∀ k, k ≠ 3 → D k = C k := by
    rw [val]
    by_cases g : T.1 = 0
    · rw [if_pos g] at c3
      refine ⟨upd C 3 (nI x.1), (if_pos (by rw [c3]; decide)).trans (rb_bnd _ (rb_wr5 (k := 3) (by omega) _) rfl), ?_, fun k hk => rb_upn hk⟩
      rw [if_pos g]; exact rb_upe rfl
    · rw [if_neg g] at c3
      have q : ¬ C 3 < (0 : Int32) := by rw [c3]; exact nI_pos (by omega)
      have r3 : rb_rd C 5 3 = some (nI T.2.2.2.1) := (rb_rd5 (k := 3) (by omega)).trans (congrArg some c3)
      by_cases z : T.2.2.2.1 ≤ x.1
      · refine ⟨C, (if_neg q).trans (rb_bnd _ r3 (if_pos (by rw [nI_leI (by omega) (by omega)]; exact z))), ?_, fun _ _ => rfl⟩
        rw [if_neg g, c3]; exact congrArg nI (by omega)
      · refine ⟨upd C 3 (nI x.1), (if_neg q).trans (rb_bnd _ r3 ((if_neg (by rw [nI_leI (by omega) (by omega)]; exact z)).trans (rb_bnd _ (rb_wr5 (k := 3) (by omega) _) rfl))), ?_, fun k hk => rb_upn hk⟩
        rw [rb_upe rfl, if_neg g]; exact congrArg nI (by omega)
  obtain ⟨E, hE, e4, eO⟩ : ∃ E : rb_Row, ((if (((c (569 + t0) + c (569 + t1)) - b0) - b1) ≤ D 4 then some (rd', D) else (rb_wr D 5 4 (((c (569 + t0) + c (569 + t1)) - b0) - b1)).bind fun ta83 => some (rd', ta83)) : Option (rb_Row × rb_Row)) = some (rd', E) ∧ E 4 = nI (max T.2.2.2.2 x.1) ∧ ∀ k, k ≠ 4 → E k = D k := by
    rw [val]
    have d4 : D 4 = nI T.2.2.2.2 := (dO 4 (by omega)).trans c4
    by_cases z : x.1 ≤ T.2.2.2.2
    · refine ⟨D, if_pos (by rw [d4, nI_leI (by omega) (by omega)]; exact z), ?_, fun _ _ => rfl⟩
      rw [d4]; exact congrArg nI (by omega)
    · refine ⟨upd D 4 (nI x.1), (if_neg (by rw [d4, nI_leI (by omega) (by omega)]; exact z)).trans (rb_bnd _ (rb_wr5 (k := 4) (by omega) _) rfl), ?_, fun k hk => rb_upn hk⟩
      rw [rb_upe rfl]; exact congrArg nI (by omega)
  refine ⟨rd', E, ?_, ?_, ?_, ?_, ?_, e4⟩
  · exact rb_bnd _ u0 (rb_bnd _ u1 (rb_bnd _ (xn_taskAt t0 5) (rb_bnd _ v0 (rb_bnd _ (xn_taskAt t1 5) (rb_bnd _ v1 (rb_bnd _ er (rb_bnd _ (rb_rd5 (k := 0) (by omega)) (rb_bnd _ A0 (rb_bnd _ r1 (rb_bnd _ e21 (rb_bnd _ hj23 (rb_bnd _ A1 (rb_bnd _ e32 (rb_bnd _ hj34 (rb_bnd _ r2 (rb_bnd _ hj61 (rb_bnd _ A2 (rb_bnd _ (rb_rd5 (k := 3) (by omega)) (rb_bnd _ hD (rb_bnd _ (rb_rd5 (k := 4) (by omega)) hE))))))))))))))))))))
  · rw [eO 0 (by omega), dO 0 (by omega)]; exact c0
  · rw [eO 1 (by omega), dO 1 (by omega)]; exact c1
  · rw [eO 2 (by omega), dO 2 (by omega)]; exact c2
  · rw [eO 3 (by omega), d3]
    show _ = (if T.1 + 1 = 0 then mI else nI (if T.1 = 0 then x.1 else min T.2.2.2.1 x.1))
    rw [if_neg (Nat.succ_ne_zero T.1)]
