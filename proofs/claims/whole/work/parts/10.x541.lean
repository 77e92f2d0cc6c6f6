def XX5_firstNaming (c : rb_Row) (x0 : Int32) : Option (Int32) := (rb_lp (ρ := (Unit) ⊕ (Int32)) (fun (s1 : Int32) => if 16 ≤ s1 then some (.inr (.inl ())) else (rb_rd c 773 (3 + s1)).bind fun v11 => if v11 = x0 then some (.inr (.inr s1)) else some (.inl (s1 + 1))) 100000 0).bind fun q2 => Sum.elim (fun (z9 : Unit) => some (-1)) (fun (w14 : Int32) => some w14) q2
set_option maxHeartbeats 4000000 in
set_option maxRecDepth 20000 in
theorem ct0_X5_firstNaming (μ : rb_Mem) (c : rb_Row) (x0 : Int32) (o : Int32) (hc : μ 5 = c) (h : XX5_firstNaming c x0 = some o) : rb_Ct yX5_firstNaming cX5_firstNaming 3 (some .int) 0 [.inr 2, .inl x0] μ (some o) μ := by
  unfold XX5_firstNaming at h
  have hini : rb_ov μ [(5, c)] = μ := rb_ov_sf _ _ (And.intro hc True.intro)
  have hfin := hini
  refine rb_cti (w := [(5, c)]) rfl pn_5 (Nat.le_of_ble_eq_true rfl) rfl hini ?_
  refine ev_iconst (v := 0) (pc := 0) dX5_firstNaming_0 ki_0 ?_
  refine ev_istore_n (L' := [some (.inr 2), some (.inl x0), some (.inl 0)]) (pc := 1) dX5_firstNaming_1 (Nat.le_of_ble_eq_true rfl) rfl ?_
  obtain ⟨q2, l3, h⟩ := rb_bd h
  have hx7 : ∀ z9 : Unit, q2 = .inl z9 → rb_Ev RX5 cX5_firstNaming 3 (some .int) none 0 (some o) μ 28 [none, none, none] [] (rb_ov μ [(5, c)]) := by
    intro z9 hz
    rw [hz] at h
    replace h := rb_sel h
    refine ev_iconst (v := (-1)) (pc := 28) dX5_firstNaming_28 ki_m1 ?_
    obtain rfl := Option.some.inj h
    exact ev_iret (pc := 29) dX5_firstNaming_29 rfl rfl rfl hfin
  have hr8 : ∀ w14 : Int32, q2 = .inr w14 → w14 = o := by
    intro w14 hz
    rw [hz] at h
    replace h := rb_ser h
    exact Option.some.inj h
  refine rb_lp_ev (P := fun (s1 : Int32) => rb_Ev RX5 cX5_firstNaming 3 (some .int) none 0 (some o) μ 2 [some (.inr 2), some (.inl x0), some (.inl s1)] [] (rb_ov μ [(5, c)])) ?_ 100000 0 l3
  intro s1 y4 h ih5 hE6
  refine ev_iload_n (v := s1) (pc := 2) dX5_firstNaming_2 rfl ?_
  refine ev_bipush (v := 16) (pc := 3) dX5_firstNaming_3 kb_16 ?_
  by_cases b10 : 16 ≤ s1
  · rw [if_pos b10] at h
    refine ev_icmp_ge_t (t := 28) (pc := 5) dX5_firstNaming_5 (by decide) b10 ?_
    obtain rfl := Option.some.inj h
    exact ev_fg (L := [none, none, none]) True.intro (hx7 () (hE6 _ rfl).symm)
  · rw [if_neg b10] at h
    refine ev_icmp_ge_f (t := 28) (pc := 5) dX5_firstNaming_5 (by decide) b10 ?_
    obtain ⟨v11, e12, h⟩ := rb_bd h
    refine ev_aload_n (v := 2) (pc := 8) dX5_firstNaming_8 rfl ?_
    refine ev_getr (q := 5) (pc := 9) dX5_firstNaming_9 fl_RX5_9 rfl rfl ?_
    refine ev_iconst (v := 3) (pc := 12) dX5_firstNaming_12 ki_3 ?_
    refine ev_iload_n (v := s1) (pc := 13) dX5_firstNaming_13 rfl ?_
    refine ev_iadd (pc := 14) dX5_firstNaming_14 ?_
    refine ev_iald (pc := 15) dX5_firstNaming_15 rfl e12 ?_
    refine ev_iload_n (v := x0) (pc := 16) dX5_firstNaming_16 rfl ?_
    by_cases b13 : v11 = x0
    · rw [if_pos b13] at h
      refine ev_icmp_ne_f (t := 22) (pc := 17) dX5_firstNaming_17 (by decide) b13 ?_
      refine ev_iload_n (v := s1) (pc := 20) dX5_firstNaming_20 rfl ?_
      obtain rfl := Option.some.inj h
      obtain rfl := hr8 _ (hE6 _ rfl).symm
      exact ev_iret (pc := 21) dX5_firstNaming_21 rfl rfl rfl hfin
    · rw [if_neg b13] at h
      refine ev_icmp_ne_t (t := 22) (pc := 17) dX5_firstNaming_17 (by decide) b13 ?_
      refine ev_iinc (x := s1) (v := (s1 + 1)) (L' := [some (.inr 2), some (.inl x0), some (.inl (s1 + 1))]) (pc := 22) dX5_firstNaming_22 rfl (kx_1 _) (Nat.le_of_ble_eq_true rfl) rfl ?_
      refine ev_goto (t := 2) (pc := 25) dX5_firstNaming_25 (by decide) ?_
      obtain rfl := Option.some.inj h
      exact ih5 (s1 + 1) rfl
set_option maxHeartbeats 4000000 in
set_option maxRecDepth 20000 in
theorem ct1_X5_firstNaming (μ : rb_Mem) (c : rb_Row) (x0 : Int32) (o : Int32) (hc : μ 11 = c) (h : XX5_firstNaming c x0 = some o) : rb_Ct yX5_firstNaming cX5_firstNaming 3 (some .int) 0 [.inr 8, .inl x0] μ (some o) μ := by
  unfold XX5_firstNaming at h
  have hini : rb_ov μ [(11, c)] = μ := rb_ov_sf _ _ (And.intro hc True.intro)
  have hfin := hini
  refine rb_cti (w := [(11, c)]) rfl pn_5 (Nat.le_of_ble_eq_true rfl) rfl hini ?_
  refine ev_iconst (v := 0) (pc := 0) dX5_firstNaming_0 ki_0 ?_
  refine ev_istore_n (L' := [some (.inr 8), some (.inl x0), some (.inl 0)]) (pc := 1) dX5_firstNaming_1 (Nat.le_of_ble_eq_true rfl) rfl ?_
  obtain ⟨q2, l3, h⟩ := rb_bd h
  have hx7 : ∀ z9 : Unit, q2 = .inl z9 → rb_Ev RX5 cX5_firstNaming 3 (some .int) none 0 (some o) μ 28 [none, none, none] [] (rb_ov μ [(11, c)]) := by
    intro z9 hz
    rw [hz] at h
    replace h := rb_sel h
    refine ev_iconst (v := (-1)) (pc := 28) dX5_firstNaming_28 ki_m1 ?_
    obtain rfl := Option.some.inj h
    exact ev_iret (pc := 29) dX5_firstNaming_29 rfl rfl rfl hfin
  have hr8 : ∀ w14 : Int32, q2 = .inr w14 → w14 = o := by
    intro w14 hz
    rw [hz] at h
    replace h := rb_ser h
    exact Option.some.inj h
  refine rb_lp_ev (P := fun (s1 : Int32) => rb_Ev RX5 cX5_firstNaming 3 (some .int) none 0 (some o) μ 2 [some (.inr 8), some (.inl x0), some (.inl s1)] [] (rb_ov μ [(11, c)])) ?_ 100000 0 l3
  intro s1 y4 h ih5 hE6
  refine ev_iload_n (v := s1) (pc := 2) dX5_firstNaming_2 rfl ?_
  refine ev_bipush (v := 16) (pc := 3) dX5_firstNaming_3 kb_16 ?_
  by_cases b10 : 16 ≤ s1
  · rw [if_pos b10] at h
    refine ev_icmp_ge_t (t := 28) (pc := 5) dX5_firstNaming_5 (by decide) b10 ?_
    obtain rfl := Option.some.inj h
    exact ev_fg (L := [none, none, none]) True.intro (hx7 () (hE6 _ rfl).symm)
  · rw [if_neg b10] at h
    refine ev_icmp_ge_f (t := 28) (pc := 5) dX5_firstNaming_5 (by decide) b10 ?_
    obtain ⟨v11, e12, h⟩ := rb_bd h
    refine ev_aload_n (v := 8) (pc := 8) dX5_firstNaming_8 rfl ?_
    refine ev_getr (q := 11) (pc := 9) dX5_firstNaming_9 fl_RX5_9 rfl rfl ?_
    refine ev_iconst (v := 3) (pc := 12) dX5_firstNaming_12 ki_3 ?_
    refine ev_iload_n (v := s1) (pc := 13) dX5_firstNaming_13 rfl ?_
    refine ev_iadd (pc := 14) dX5_firstNaming_14 ?_
    refine ev_iald (pc := 15) dX5_firstNaming_15 rfl e12 ?_
    refine ev_iload_n (v := x0) (pc := 16) dX5_firstNaming_16 rfl ?_
    by_cases b13 : v11 = x0
    · rw [if_pos b13] at h
      refine ev_icmp_ne_f (t := 22) (pc := 17) dX5_firstNaming_17 (by decide) b13 ?_
      refine ev_iload_n (v := s1) (pc := 20) dX5_firstNaming_20 rfl ?_
      obtain rfl := Option.some.inj h
      obtain rfl := hr8 _ (hE6 _ rfl).symm
      exact ev_iret (pc := 21) dX5_firstNaming_21 rfl rfl rfl hfin
    · rw [if_neg b13] at h
      refine ev_icmp_ne_t (t := 22) (pc := 17) dX5_firstNaming_17 (by decide) b13 ?_
      refine ev_iinc (x := s1) (v := (s1 + 1)) (L' := [some (.inr 8), some (.inl x0), some (.inl (s1 + 1))]) (pc := 22) dX5_firstNaming_22 rfl (kx_1 _) (Nat.le_of_ble_eq_true rfl) rfl ?_
      refine ev_goto (t := 2) (pc := 25) dX5_firstNaming_25 (by decide) ?_
      obtain rfl := Option.some.inj h
      exact ih5 (s1 + 1) rfl
def XX5_lowestHandle (c : rb_Row) (x0 : Int32) : Option (Int32) := if 0 ≤ x0 then (XX5_firstNaming c x0).bind fun t2 => some t2 else some (-1)
set_option maxHeartbeats 4000000 in
set_option maxRecDepth 20000 in
theorem ct0_X5_lowestHandle (μ : rb_Mem) (c : rb_Row) (x0 : Int32) (o : Int32) (hc : μ 5 = c) (h : XX5_lowestHandle c x0 = some o) : rb_Ct yX5_lowestHandle cX5_lowestHandle 2 (some .int) 1 [.inr 2, .inl x0] μ (some o) μ := by
  unfold XX5_lowestHandle at h
  have hini : rb_ov μ [(5, c)] = μ := rb_ov_sf _ _ (And.intro hc True.intro)
  have hfin := hini
  refine rb_cti (w := [(5, c)]) rfl pn_5 (Nat.le_of_ble_eq_true rfl) rfl hini ?_
  refine ev_iload_n (v := x0) (pc := 0) dX5_lowestHandle_0 rfl ?_
  by_cases b1 : 0 ≤ x0
  · rw [if_pos b1] at h
    refine ev_if_ge_t (t := 8) (pc := 1) dX5_lowestHandle_1 (by decide) b1 ?_
    obtain ⟨t2, e3, h⟩ := rb_bd h
    refine ev_aload_n (v := 2) (pc := 8) dX5_lowestHandle_8 rfl ?_
    refine ev_iload_n (v := x0) (pc := 9) dX5_lowestHandle_9 rfl ?_
    refine ev_cVi1 (pc := 10) dX5_lowestHandle_10 mv_X5_firstNaming lk_RX5_19 rp_2 (ct0_X5_firstNaming _ _ _ _ rfl e3) (Nat.le_of_ble_eq_true rfl) (Nat.le_of_ble_eq_true rfl) ?_
    obtain rfl := Option.some.inj h
    exact ev_iret (pc := 13) dX5_lowestHandle_13 rfl rfl rfl hfin
  · rw [if_neg b1] at h
    refine ev_if_ge_f (t := 8) (pc := 1) dX5_lowestHandle_1 (by decide) b1 ?_
    refine ev_iconst (v := (-1)) (pc := 4) dX5_lowestHandle_4 ki_m1 ?_
    refine ev_goto (t := 13) (pc := 5) dX5_lowestHandle_5 (by decide) ?_
    obtain rfl := Option.some.inj h
    exact ev_iret (pc := 13) dX5_lowestHandle_13 rfl rfl rfl hfin
set_option maxHeartbeats 4000000 in
set_option maxRecDepth 20000 in
theorem ct1_X5_lowestHandle (μ : rb_Mem) (c : rb_Row) (x0 : Int32) (o : Int32) (hc : μ 11 = c) (h : XX5_lowestHandle c x0 = some o) : rb_Ct yX5_lowestHandle cX5_lowestHandle 2 (some .int) 1 [.inr 8, .inl x0] μ (some o) μ := by
  unfold XX5_lowestHandle at h
  have hini : rb_ov μ [(11, c)] = μ := rb_ov_sf _ _ (And.intro hc True.intro)
  have hfin := hini
  refine rb_cti (w := [(11, c)]) rfl pn_5 (Nat.le_of_ble_eq_true rfl) rfl hini ?_
  refine ev_iload_n (v := x0) (pc := 0) dX5_lowestHandle_0 rfl ?_
  by_cases b1 : 0 ≤ x0
  · rw [if_pos b1] at h
    refine ev_if_ge_t (t := 8) (pc := 1) dX5_lowestHandle_1 (by decide) b1 ?_
    obtain ⟨t2, e3, h⟩ := rb_bd h
    refine ev_aload_n (v := 8) (pc := 8) dX5_lowestHandle_8 rfl ?_
    refine ev_iload_n (v := x0) (pc := 9) dX5_lowestHandle_9 rfl ?_
    refine ev_cVi1 (pc := 10) dX5_lowestHandle_10 mv_X5_firstNaming lk_RX5_19 rp_8 (ct1_X5_firstNaming _ _ _ _ rfl e3) (Nat.le_of_ble_eq_true rfl) (Nat.le_of_ble_eq_true rfl) ?_
    obtain rfl := Option.some.inj h
    exact ev_iret (pc := 13) dX5_lowestHandle_13 rfl rfl rfl hfin
  · rw [if_neg b1] at h
    refine ev_if_ge_f (t := 8) (pc := 1) dX5_lowestHandle_1 (by decide) b1 ?_
    refine ev_iconst (v := (-1)) (pc := 4) dX5_lowestHandle_4 ki_m1 ?_
    refine ev_goto (t := 13) (pc := 5) dX5_lowestHandle_5 (by decide) ?_
    obtain rfl := Option.some.inj h
    exact ev_iret (pc := 13) dX5_lowestHandle_13 rfl rfl rfl hfin
def XX5_freeHandle (c : rb_Row) : Option (Int32) := (XX5_firstNaming c (-1)).bind fun t1 => some t1
set_option maxHeartbeats 4000000 in
set_option maxRecDepth 20000 in
theorem ct0_X5_freeHandle (μ : rb_Mem) (c : rb_Row) (o : Int32) (hc : μ 5 = c) (h : XX5_freeHandle c = some o) : rb_Ct yX5_freeHandle cX5_freeHandle 1 (some .int) 1 [.inr 2] μ (some o) μ := by
  unfold XX5_freeHandle at h
  have hini : rb_ov μ [(5, c)] = μ := rb_ov_sf _ _ (And.intro hc True.intro)
  have hfin := hini
  refine rb_cti (w := [(5, c)]) rfl pn_5 (Nat.le_of_ble_eq_true rfl) rfl hini ?_
  obtain ⟨t1, e2, h⟩ := rb_bd h
  refine ev_aload_n (v := 2) (pc := 0) dX5_freeHandle_0 rfl ?_
  refine ev_iconst (v := (-1)) (pc := 1) dX5_freeHandle_1 ki_m1 ?_
  refine ev_cVi1 (pc := 2) dX5_freeHandle_2 mv_X5_firstNaming lk_RX5_19 rp_2 (ct0_X5_firstNaming _ _ _ _ rfl e2) (Nat.le_of_ble_eq_true rfl) (Nat.le_of_ble_eq_true rfl) ?_
  obtain rfl := Option.some.inj h
  exact ev_iret (pc := 5) dX5_freeHandle_5 rfl rfl rfl hfin
set_option maxHeartbeats 4000000 in
set_option maxRecDepth 20000 in
theorem ct1_X5_freeHandle (μ : rb_Mem) (c : rb_Row) (o : Int32) (hc : μ 11 = c) (h : XX5_freeHandle c = some o) : rb_Ct yX5_freeHandle cX5_freeHandle 1 (some .int) 1 [.inr 8] μ (some o) μ := by
  unfold XX5_freeHandle at h
  have hini : rb_ov μ [(11, c)] = μ := rb_ov_sf _ _ (And.intro hc True.intro)
  have hfin := hini
  refine rb_cti (w := [(11, c)]) rfl pn_5 (Nat.le_of_ble_eq_true rfl) rfl hini ?_
  obtain ⟨t1, e2, h⟩ := rb_bd h
  refine ev_aload_n (v := 8) (pc := 0) dX5_freeHandle_0 rfl ?_
  refine ev_iconst (v := (-1)) (pc := 1) dX5_freeHandle_1 ki_m1 ?_
  refine ev_cVi1 (pc := 2) dX5_freeHandle_2 mv_X5_firstNaming lk_RX5_19 rp_8 (ct1_X5_firstNaming _ _ _ _ rfl e2) (Nat.le_of_ble_eq_true rfl) (Nat.le_of_ble_eq_true rfl) ?_
  obtain rfl := Option.some.inj h
  exact ev_iret (pc := 5) dX5_freeHandle_5 rfl rfl rfl hfin
def XX5_makeThing (c : rb_Row) (x0 : Int32) : Option (Int32 × rb_Row) := (rb_lp (ρ := (rb_Row) ⊕ (Int32 × rb_Row)) (fun (s1 : Int32 × rb_Row) => if 28 ≤ s1.1 then some (.inr (.inl s1.2)) else (rb_rd s1.2 773 (19 + s1.1)).bind fun v11 => if 0 ≤ v11 then some (.inl ((s1.1 + 1), s1.2)) else (rb_wr s1.2 773 (19 + s1.1) x0).bind fun c14 => (rb_wr c14 773 (47 + s1.1) 0).bind fun c16 => (rb_wr c16 773 (75 + s1.1) 0).bind fun c18 => (rb_wr c18 773 (103 + s1.1) 0).bind fun c20 => (rb_wr c20 773 (131 + s1.1) (-1)).bind fun c22 => (rb_wr c22 773 (159 + s1.1) (-1)).bind fun c24 => (rb_wr c24 773 (187 + s1.1) 0).bind fun c26 => (rb_wr c26 773 (215 + s1.1) 0).bind fun c28 => (rb_wr c28 773 (243 + s1.1) (-1)).bind fun c30 => (rb_wr c30 773 (271 + s1.1) 0).bind fun c32 => some (.inr (.inr (s1.1, c32)))) 100000 (0, c)).bind fun q2 => Sum.elim (fun (z9 : rb_Row) => some ((-1), z9)) (fun (w34 : Int32 × rb_Row) => some w34) q2
set_option maxHeartbeats 4000000 in
set_option maxRecDepth 20000 in
theorem ct0_X5_makeThing (μ : rb_Mem) (c : rb_Row) (x0 : Int32) (o : Int32 × rb_Row) (hc : μ 5 = c) (h : XX5_makeThing c x0 = some o) : rb_Ct yX5_makeThing cX5_makeThing 3 (some .int) 0 [.inr 2, .inl x0] μ (some o.1) (rb_ov μ [(5, o.2)]) := by
  unfold XX5_makeThing at h
  have hini : rb_ov μ [(5, c)] = μ := rb_ov_sf _ _ (And.intro hc True.intro)
  have hfin : ∀ u0 : rb_Row, rb_ov μ [(5, u0)] = rb_ov μ [(5, u0)] := fun u0 => rfl
  refine rb_cti (w := [(5, c)]) rfl pn_5 (Nat.le_of_ble_eq_true rfl) rfl hini ?_
  refine ev_iconst (v := 0) (pc := 0) dX5_makeThing_0 ki_0 ?_
  refine ev_istore_n (L' := [some (.inr 2), some (.inl x0), some (.inl 0)]) (pc := 1) dX5_makeThing_1 (Nat.le_of_ble_eq_true rfl) rfl ?_
  obtain ⟨q2, l3, h⟩ := rb_bd h
  have hx7 : ∀ z9 : rb_Row, q2 = .inl z9 → rb_Ev RX5 cX5_makeThing 3 (some .int) none 0 (some o.1) (rb_ov μ [(5, o.2)]) 134 [none, none, none] [] (rb_ov μ [(5, z9)]) := by
    intro z9 hz
    rw [hz] at h
    replace h := rb_sel h
    refine ev_iconst (v := (-1)) (pc := 134) dX5_makeThing_134 ki_m1 ?_
    obtain rfl := Option.some.inj h
    exact ev_iret (pc := 135) dX5_makeThing_135 rfl rfl rfl (hfin _)
  have hr8 : ∀ w34 : Int32 × rb_Row, q2 = .inr w34 → w34 = o := by
    intro w34 hz
    rw [hz] at h
    replace h := rb_ser h
    exact Option.some.inj h
  refine rb_lp_ev (P := fun (s1 : Int32 × rb_Row) => rb_Ev RX5 cX5_makeThing 3 (some .int) none 0 (some o.1) (rb_ov μ [(5, o.2)]) 2 [some (.inr 2), some (.inl x0), some (.inl s1.1)] [] (rb_ov μ [(5, s1.2)])) ?_ 100000 (0, c) l3
  intro s1 y4 h ih5 hE6
  refine ev_iload_n (v := s1.1) (pc := 2) dX5_makeThing_2 rfl ?_
  refine ev_bipush (v := 28) (pc := 3) dX5_makeThing_3 kb_28 ?_
  by_cases b10 : 28 ≤ s1.1
  · rw [if_pos b10] at h
    refine ev_icmp_ge_t (t := 134) (pc := 5) dX5_makeThing_5 (by decide) b10 ?_
    obtain rfl := Option.some.inj h
    exact ev_fg (L := [none, none, none]) True.intro (hx7 s1.2 (hE6 _ rfl).symm)
  · rw [if_neg b10] at h
    refine ev_icmp_ge_f (t := 134) (pc := 5) dX5_makeThing_5 (by decide) b10 ?_
    obtain ⟨v11, e12, h⟩ := rb_bd h
    refine ev_aload_n (v := 2) (pc := 8) dX5_makeThing_8 rfl ?_
    refine ev_getr (q := 5) (pc := 9) dX5_makeThing_9 fl_RX5_9 rfl rfl ?_
    refine ev_bipush (v := 19) (pc := 12) dX5_makeThing_12 kb_19 ?_
    refine ev_iload_n (v := s1.1) (pc := 14) dX5_makeThing_14 rfl ?_
    refine ev_iadd (pc := 15) dX5_makeThing_15 ?_
    refine ev_iald (pc := 16) dX5_makeThing_16 rfl e12 ?_
    by_cases b13 : 0 ≤ v11
    · rw [if_pos b13] at h
      refine ev_if_ge_t (t := 128) (pc := 17) dX5_makeThing_17 (by decide) b13 ?_
      refine ev_iinc (x := s1.1) (v := (s1.1 + 1)) (L' := [some (.inr 2), some (.inl x0), some (.inl (s1.1 + 1))]) (pc := 128) dX5_makeThing_128 rfl (kx_1 _) (Nat.le_of_ble_eq_true rfl) rfl ?_
      refine ev_goto (t := 2) (pc := 131) dX5_makeThing_131 (by decide) ?_
      obtain rfl := Option.some.inj h
      exact ih5 ((s1.1 + 1), s1.2) rfl
    · rw [if_neg b13] at h
      refine ev_if_ge_f (t := 128) (pc := 17) dX5_makeThing_17 (by decide) b13 ?_
      obtain ⟨c14, e15, h⟩ := rb_bd h
      obtain ⟨c16, e17, h⟩ := rb_bd h
      obtain ⟨c18, e19, h⟩ := rb_bd h
      obtain ⟨c20, e21, h⟩ := rb_bd h
      obtain ⟨c22, e23, h⟩ := rb_bd h
      obtain ⟨c24, e25, h⟩ := rb_bd h
      obtain ⟨c26, e27, h⟩ := rb_bd h
      obtain ⟨c28, e29, h⟩ := rb_bd h
      obtain ⟨c30, e31, h⟩ := rb_bd h
      obtain ⟨c32, e33, h⟩ := rb_bd h
      refine ev_aload_n (v := 2) (pc := 20) dX5_makeThing_20 rfl ?_
      refine ev_getr (q := 5) (pc := 21) dX5_makeThing_21 fl_RX5_9 rfl rfl ?_
      refine ev_bipush (v := 19) (pc := 24) dX5_makeThing_24 kb_19 ?_
      refine ev_iload_n (v := s1.1) (pc := 26) dX5_makeThing_26 rfl ?_
      refine ev_iadd (pc := 27) dX5_makeThing_27 ?_
      refine ev_iload_n (v := x0) (pc := 28) dX5_makeThing_28 rfl ?_
      refine ev_iast (w' := [(5, c14)]) (pc := 29) dX5_makeThing_29 rfl e15 rfl ?_
      refine ev_aload_n (v := 2) (pc := 30) dX5_makeThing_30 rfl ?_
      refine ev_getr (q := 5) (pc := 31) dX5_makeThing_31 fl_RX5_9 rfl rfl ?_
      refine ev_bipush (v := 47) (pc := 34) dX5_makeThing_34 kb_47 ?_
      refine ev_iload_n (v := s1.1) (pc := 36) dX5_makeThing_36 rfl ?_
      refine ev_iadd (pc := 37) dX5_makeThing_37 ?_
      refine ev_iconst (v := 0) (pc := 38) dX5_makeThing_38 ki_0 ?_
      refine ev_iast (w' := [(5, c16)]) (pc := 39) dX5_makeThing_39 rfl e17 rfl ?_
      refine ev_aload_n (v := 2) (pc := 40) dX5_makeThing_40 rfl ?_
      refine ev_getr (q := 5) (pc := 41) dX5_makeThing_41 fl_RX5_9 rfl rfl ?_
      refine ev_bipush (v := 75) (pc := 44) dX5_makeThing_44 kb_75 ?_
      refine ev_iload_n (v := s1.1) (pc := 46) dX5_makeThing_46 rfl ?_
      refine ev_iadd (pc := 47) dX5_makeThing_47 ?_
      refine ev_iconst (v := 0) (pc := 48) dX5_makeThing_48 ki_0 ?_
      refine ev_iast (w' := [(5, c18)]) (pc := 49) dX5_makeThing_49 rfl e19 rfl ?_
      refine ev_aload_n (v := 2) (pc := 50) dX5_makeThing_50 rfl ?_
      refine ev_getr (q := 5) (pc := 51) dX5_makeThing_51 fl_RX5_9 rfl rfl ?_
      refine ev_bipush (v := 103) (pc := 54) dX5_makeThing_54 kb_103 ?_
      refine ev_iload_n (v := s1.1) (pc := 56) dX5_makeThing_56 rfl ?_
      refine ev_iadd (pc := 57) dX5_makeThing_57 ?_
      refine ev_iconst (v := 0) (pc := 58) dX5_makeThing_58 ki_0 ?_
      refine ev_iast (w' := [(5, c20)]) (pc := 59) dX5_makeThing_59 rfl e21 rfl ?_
      refine ev_aload_n (v := 2) (pc := 60) dX5_makeThing_60 rfl ?_
      refine ev_getr (q := 5) (pc := 61) dX5_makeThing_61 fl_RX5_9 rfl rfl ?_
      refine ev_sipush (v := 131) (pc := 64) dX5_makeThing_64 ks_131 ?_
      refine ev_iload_n (v := s1.1) (pc := 67) dX5_makeThing_67 rfl ?_
      refine ev_iadd (pc := 68) dX5_makeThing_68 ?_
      refine ev_iconst (v := (-1)) (pc := 69) dX5_makeThing_69 ki_m1 ?_
      refine ev_iast (w' := [(5, c22)]) (pc := 70) dX5_makeThing_70 rfl e23 rfl ?_
      refine ev_aload_n (v := 2) (pc := 71) dX5_makeThing_71 rfl ?_
      refine ev_getr (q := 5) (pc := 72) dX5_makeThing_72 fl_RX5_9 rfl rfl ?_
      refine ev_sipush (v := 159) (pc := 75) dX5_makeThing_75 ks_159 ?_
      refine ev_iload_n (v := s1.1) (pc := 78) dX5_makeThing_78 rfl ?_
      refine ev_iadd (pc := 79) dX5_makeThing_79 ?_
      refine ev_iconst (v := (-1)) (pc := 80) dX5_makeThing_80 ki_m1 ?_
      refine ev_iast (w' := [(5, c24)]) (pc := 81) dX5_makeThing_81 rfl e25 rfl ?_
      refine ev_aload_n (v := 2) (pc := 82) dX5_makeThing_82 rfl ?_
      refine ev_getr (q := 5) (pc := 83) dX5_makeThing_83 fl_RX5_9 rfl rfl ?_
      refine ev_sipush (v := 187) (pc := 86) dX5_makeThing_86 ks_187 ?_
      refine ev_iload_n (v := s1.1) (pc := 89) dX5_makeThing_89 rfl ?_
      refine ev_iadd (pc := 90) dX5_makeThing_90 ?_
      refine ev_iconst (v := 0) (pc := 91) dX5_makeThing_91 ki_0 ?_
      refine ev_iast (w' := [(5, c26)]) (pc := 92) dX5_makeThing_92 rfl e27 rfl ?_
      refine ev_aload_n (v := 2) (pc := 93) dX5_makeThing_93 rfl ?_
      refine ev_getr (q := 5) (pc := 94) dX5_makeThing_94 fl_RX5_9 rfl rfl ?_
      refine ev_sipush (v := 215) (pc := 97) dX5_makeThing_97 ks_215 ?_
      refine ev_iload_n (v := s1.1) (pc := 100) dX5_makeThing_100 rfl ?_
      refine ev_iadd (pc := 101) dX5_makeThing_101 ?_
      refine ev_iconst (v := 0) (pc := 102) dX5_makeThing_102 ki_0 ?_
      refine ev_iast (w' := [(5, c28)]) (pc := 103) dX5_makeThing_103 rfl e29 rfl ?_
      refine ev_aload_n (v := 2) (pc := 104) dX5_makeThing_104 rfl ?_
      refine ev_getr (q := 5) (pc := 105) dX5_makeThing_105 fl_RX5_9 rfl rfl ?_
      refine ev_sipush (v := 243) (pc := 108) dX5_makeThing_108 ks_243 ?_
      refine ev_iload_n (v := s1.1) (pc := 111) dX5_makeThing_111 rfl ?_
      refine ev_iadd (pc := 112) dX5_makeThing_112 ?_
      refine ev_iconst (v := (-1)) (pc := 113) dX5_makeThing_113 ki_m1 ?_
      refine ev_iast (w' := [(5, c30)]) (pc := 114) dX5_makeThing_114 rfl e31 rfl ?_
      refine ev_aload_n (v := 2) (pc := 115) dX5_makeThing_115 rfl ?_
      refine ev_getr (q := 5) (pc := 116) dX5_makeThing_116 fl_RX5_9 rfl rfl ?_
      refine ev_sipush (v := 271) (pc := 119) dX5_makeThing_119 ks_271 ?_
      refine ev_iload_n (v := s1.1) (pc := 122) dX5_makeThing_122 rfl ?_
      refine ev_iadd (pc := 123) dX5_makeThing_123 ?_
      refine ev_iconst (v := 0) (pc := 124) dX5_makeThing_124 ki_0 ?_
      refine ev_iast (w' := [(5, c32)]) (pc := 125) dX5_makeThing_125 rfl e33 rfl ?_
      refine ev_iload_n (v := s1.1) (pc := 126) dX5_makeThing_126 rfl ?_
      obtain rfl := Option.some.inj h
      obtain rfl := hr8 _ (hE6 _ rfl).symm
      exact ev_iret (pc := 127) dX5_makeThing_127 rfl rfl rfl (hfin _)
set_option maxHeartbeats 4000000 in
set_option maxRecDepth 20000 in
theorem ct1_X5_makeThing (μ : rb_Mem) (c : rb_Row) (x0 : Int32) (o : Int32 × rb_Row) (hc : μ 11 = c) (h : XX5_makeThing c x0 = some o) : rb_Ct yX5_makeThing cX5_makeThing 3 (some .int) 0 [.inr 8, .inl x0] μ (some o.1) (rb_ov μ [(11, o.2)]) := by
  unfold XX5_makeThing at h
  have hini : rb_ov μ [(11, c)] = μ := rb_ov_sf _ _ (And.intro hc True.intro)
  have hfin : ∀ u0 : rb_Row, rb_ov μ [(11, u0)] = rb_ov μ [(11, u0)] := fun u0 => rfl
  refine rb_cti (w := [(11, c)]) rfl pn_5 (Nat.le_of_ble_eq_true rfl) rfl hini ?_
  refine ev_iconst (v := 0) (pc := 0) dX5_makeThing_0 ki_0 ?_
  refine ev_istore_n (L' := [some (.inr 8), some (.inl x0), some (.inl 0)]) (pc := 1) dX5_makeThing_1 (Nat.le_of_ble_eq_true rfl) rfl ?_
  obtain ⟨q2, l3, h⟩ := rb_bd h
  have hx7 : ∀ z9 : rb_Row, q2 = .inl z9 → rb_Ev RX5 cX5_makeThing 3 (some .int) none 0 (some o.1) (rb_ov μ [(11, o.2)]) 134 [none, none, none] [] (rb_ov μ [(11, z9)]) := by
    intro z9 hz
    rw [hz] at h
    replace h := rb_sel h
    refine ev_iconst (v := (-1)) (pc := 134) dX5_makeThing_134 ki_m1 ?_
    obtain rfl := Option.some.inj h
    exact ev_iret (pc := 135) dX5_makeThing_135 rfl rfl rfl (hfin _)
  have hr8 : ∀ w34 : Int32 × rb_Row, q2 = .inr w34 → w34 = o := by
    intro w34 hz
    rw [hz] at h
    replace h := rb_ser h
    exact Option.some.inj h
  refine rb_lp_ev (P := fun (s1 : Int32 × rb_Row) => rb_Ev RX5 cX5_makeThing 3 (some .int) none 0 (some o.1) (rb_ov μ [(11, o.2)]) 2 [some (.inr 8), some (.inl x0), some (.inl s1.1)] [] (rb_ov μ [(11, s1.2)])) ?_ 100000 (0, c) l3
  intro s1 y4 h ih5 hE6
  refine ev_iload_n (v := s1.1) (pc := 2) dX5_makeThing_2 rfl ?_
  refine ev_bipush (v := 28) (pc := 3) dX5_makeThing_3 kb_28 ?_
  by_cases b10 : 28 ≤ s1.1
  · rw [if_pos b10] at h
    refine ev_icmp_ge_t (t := 134) (pc := 5) dX5_makeThing_5 (by decide) b10 ?_
    obtain rfl := Option.some.inj h
    exact ev_fg (L := [none, none, none]) True.intro (hx7 s1.2 (hE6 _ rfl).symm)
  · rw [if_neg b10] at h
    refine ev_icmp_ge_f (t := 134) (pc := 5) dX5_makeThing_5 (by decide) b10 ?_
    obtain ⟨v11, e12, h⟩ := rb_bd h
    refine ev_aload_n (v := 8) (pc := 8) dX5_makeThing_8 rfl ?_
    refine ev_getr (q := 11) (pc := 9) dX5_makeThing_9 fl_RX5_9 rfl rfl ?_
    refine ev_bipush (v := 19) (pc := 12) dX5_makeThing_12 kb_19 ?_
    refine ev_iload_n (v := s1.1) (pc := 14) dX5_makeThing_14 rfl ?_
    refine ev_iadd (pc := 15) dX5_makeThing_15 ?_
    refine ev_iald (pc := 16) dX5_makeThing_16 rfl e12 ?_
    by_cases b13 : 0 ≤ v11
    · rw [if_pos b13] at h
      refine ev_if_ge_t (t := 128) (pc := 17) dX5_makeThing_17 (by decide) b13 ?_
      refine ev_iinc (x := s1.1) (v := (s1.1 + 1)) (L' := [some (.inr 8), some (.inl x0), some (.inl (s1.1 + 1))]) (pc := 128) dX5_makeThing_128 rfl (kx_1 _) (Nat.le_of_ble_eq_true rfl) rfl ?_
      refine ev_goto (t := 2) (pc := 131) dX5_makeThing_131 (by decide) ?_
      obtain rfl := Option.some.inj h
      exact ih5 ((s1.1 + 1), s1.2) rfl
    · rw [if_neg b13] at h
      refine ev_if_ge_f (t := 128) (pc := 17) dX5_makeThing_17 (by decide) b13 ?_
      obtain ⟨c14, e15, h⟩ := rb_bd h
      obtain ⟨c16, e17, h⟩ := rb_bd h
      obtain ⟨c18, e19, h⟩ := rb_bd h
      obtain ⟨c20, e21, h⟩ := rb_bd h
      obtain ⟨c22, e23, h⟩ := rb_bd h
      obtain ⟨c24, e25, h⟩ := rb_bd h
      obtain ⟨c26, e27, h⟩ := rb_bd h
      obtain ⟨c28, e29, h⟩ := rb_bd h
      obtain ⟨c30, e31, h⟩ := rb_bd h
      obtain ⟨c32, e33, h⟩ := rb_bd h
      refine ev_aload_n (v := 8) (pc := 20) dX5_makeThing_20 rfl ?_
      refine ev_getr (q := 11) (pc := 21) dX5_makeThing_21 fl_RX5_9 rfl rfl ?_
      refine ev_bipush (v := 19) (pc := 24) dX5_makeThing_24 kb_19 ?_
      refine ev_iload_n (v := s1.1) (pc := 26) dX5_makeThing_26 rfl ?_
      refine ev_iadd (pc := 27) dX5_makeThing_27 ?_
      refine ev_iload_n (v := x0) (pc := 28) dX5_makeThing_28 rfl ?_
      refine ev_iast (w' := [(11, c14)]) (pc := 29) dX5_makeThing_29 rfl e15 rfl ?_
      refine ev_aload_n (v := 8) (pc := 30) dX5_makeThing_30 rfl ?_
      refine ev_getr (q := 11) (pc := 31) dX5_makeThing_31 fl_RX5_9 rfl rfl ?_
      refine ev_bipush (v := 47) (pc := 34) dX5_makeThing_34 kb_47 ?_
      refine ev_iload_n (v := s1.1) (pc := 36) dX5_makeThing_36 rfl ?_
      refine ev_iadd (pc := 37) dX5_makeThing_37 ?_
      refine ev_iconst (v := 0) (pc := 38) dX5_makeThing_38 ki_0 ?_
      refine ev_iast (w' := [(11, c16)]) (pc := 39) dX5_makeThing_39 rfl e17 rfl ?_
      refine ev_aload_n (v := 8) (pc := 40) dX5_makeThing_40 rfl ?_
      refine ev_getr (q := 11) (pc := 41) dX5_makeThing_41 fl_RX5_9 rfl rfl ?_
      refine ev_bipush (v := 75) (pc := 44) dX5_makeThing_44 kb_75 ?_
      refine ev_iload_n (v := s1.1) (pc := 46) dX5_makeThing_46 rfl ?_
      refine ev_iadd (pc := 47) dX5_makeThing_47 ?_
      refine ev_iconst (v := 0) (pc := 48) dX5_makeThing_48 ki_0 ?_
      refine ev_iast (w' := [(11, c18)]) (pc := 49) dX5_makeThing_49 rfl e19 rfl ?_
      refine ev_aload_n (v := 8) (pc := 50) dX5_makeThing_50 rfl ?_
      refine ev_getr (q := 11) (pc := 51) dX5_makeThing_51 fl_RX5_9 rfl rfl ?_
      refine ev_bipush (v := 103) (pc := 54) dX5_makeThing_54 kb_103 ?_
      refine ev_iload_n (v := s1.1) (pc := 56) dX5_makeThing_56 rfl ?_
      refine ev_iadd (pc := 57) dX5_makeThing_57 ?_
      refine ev_iconst (v := 0) (pc := 58) dX5_makeThing_58 ki_0 ?_
      refine ev_iast (w' := [(11, c20)]) (pc := 59) dX5_makeThing_59 rfl e21 rfl ?_
      refine ev_aload_n (v := 8) (pc := 60) dX5_makeThing_60 rfl ?_
      refine ev_getr (q := 11) (pc := 61) dX5_makeThing_61 fl_RX5_9 rfl rfl ?_
      refine ev_sipush (v := 131) (pc := 64) dX5_makeThing_64 ks_131 ?_
      refine ev_iload_n (v := s1.1) (pc := 67) dX5_makeThing_67 rfl ?_
      refine ev_iadd (pc := 68) dX5_makeThing_68 ?_
      refine ev_iconst (v := (-1)) (pc := 69) dX5_makeThing_69 ki_m1 ?_
      refine ev_iast (w' := [(11, c22)]) (pc := 70) dX5_makeThing_70 rfl e23 rfl ?_
      refine ev_aload_n (v := 8) (pc := 71) dX5_makeThing_71 rfl ?_
      refine ev_getr (q := 11) (pc := 72) dX5_makeThing_72 fl_RX5_9 rfl rfl ?_
      refine ev_sipush (v := 159) (pc := 75) dX5_makeThing_75 ks_159 ?_
      refine ev_iload_n (v := s1.1) (pc := 78) dX5_makeThing_78 rfl ?_
      refine ev_iadd (pc := 79) dX5_makeThing_79 ?_
      refine ev_iconst (v := (-1)) (pc := 80) dX5_makeThing_80 ki_m1 ?_
      refine ev_iast (w' := [(11, c24)]) (pc := 81) dX5_makeThing_81 rfl e25 rfl ?_
      refine ev_aload_n (v := 8) (pc := 82) dX5_makeThing_82 rfl ?_
      refine ev_getr (q := 11) (pc := 83) dX5_makeThing_83 fl_RX5_9 rfl rfl ?_
      refine ev_sipush (v := 187) (pc := 86) dX5_makeThing_86 ks_187 ?_
      refine ev_iload_n (v := s1.1) (pc := 89) dX5_makeThing_89 rfl ?_
      refine ev_iadd (pc := 90) dX5_makeThing_90 ?_
      refine ev_iconst (v := 0) (pc := 91) dX5_makeThing_91 ki_0 ?_
      refine ev_iast (w' := [(11, c26)]) (pc := 92) dX5_makeThing_92 rfl e27 rfl ?_
      refine ev_aload_n (v := 8) (pc := 93) dX5_makeThing_93 rfl ?_
      refine ev_getr (q := 11) (pc := 94) dX5_makeThing_94 fl_RX5_9 rfl rfl ?_
      refine ev_sipush (v := 215) (pc := 97) dX5_makeThing_97 ks_215 ?_
      refine ev_iload_n (v := s1.1) (pc := 100) dX5_makeThing_100 rfl ?_
      refine ev_iadd (pc := 101) dX5_makeThing_101 ?_
      refine ev_iconst (v := 0) (pc := 102) dX5_makeThing_102 ki_0 ?_
      refine ev_iast (w' := [(11, c28)]) (pc := 103) dX5_makeThing_103 rfl e29 rfl ?_
      refine ev_aload_n (v := 8) (pc := 104) dX5_makeThing_104 rfl ?_
      refine ev_getr (q := 11) (pc := 105) dX5_makeThing_105 fl_RX5_9 rfl rfl ?_
      refine ev_sipush (v := 243) (pc := 108) dX5_makeThing_108 ks_243 ?_
      refine ev_iload_n (v := s1.1) (pc := 111) dX5_makeThing_111 rfl ?_
      refine ev_iadd (pc := 112) dX5_makeThing_112 ?_
      refine ev_iconst (v := (-1)) (pc := 113) dX5_makeThing_113 ki_m1 ?_
      refine ev_iast (w' := [(11, c30)]) (pc := 114) dX5_makeThing_114 rfl e31 rfl ?_
      refine ev_aload_n (v := 8) (pc := 115) dX5_makeThing_115 rfl ?_
      refine ev_getr (q := 11) (pc := 116) dX5_makeThing_116 fl_RX5_9 rfl rfl ?_
      refine ev_sipush (v := 271) (pc := 119) dX5_makeThing_119 ks_271 ?_
      refine ev_iload_n (v := s1.1) (pc := 122) dX5_makeThing_122 rfl ?_
      refine ev_iadd (pc := 123) dX5_makeThing_123 ?_
      refine ev_iconst (v := 0) (pc := 124) dX5_makeThing_124 ki_0 ?_
      refine ev_iast (w' := [(11, c32)]) (pc := 125) dX5_makeThing_125 rfl e33 rfl ?_
      refine ev_iload_n (v := s1.1) (pc := 126) dX5_makeThing_126 rfl ?_
      obtain rfl := Option.some.inj h
      obtain rfl := hr8 _ (hE6 _ rfl).symm
      exact ev_iret (pc := 127) dX5_makeThing_127 rfl rfl rfl (hfin _)
def XX5_giveName (c : rb_Row) (x0 : Int32) (x1 : Int32) : Option (rb_Row) := if x0 < 0 then some c else if 16 ≤ x0 then some c else (rb_wr c 773 (3 + x0) x1).bind fun c3 => some c3
set_option maxHeartbeats 4000000 in
set_option maxRecDepth 20000 in
theorem ct0_X5_giveName (μ : rb_Mem) (c : rb_Row) (x0 : Int32) (x1 : Int32) (o : rb_Row) (hc : μ 5 = c) (h : XX5_giveName c x0 x1 = some o) : rb_Ct yX5_giveName cX5_giveName 3 none 0 [.inr 2, .inl x0, .inl x1] μ none (rb_ov μ [(5, o)]) := by
  unfold XX5_giveName at h
  have hini : rb_ov μ [(5, c)] = μ := rb_ov_sf _ _ (And.intro hc True.intro)
  have hfin : ∀ u0 : rb_Row, rb_ov μ [(5, u0)] = rb_ov μ [(5, u0)] := fun u0 => rfl
  refine rb_ctv (w := [(5, c)]) rfl pn_5 (Nat.le_of_ble_eq_true rfl) rfl hini ?_
  refine ev_iload_n (v := x0) (pc := 0) dX5_giveName_0 rfl ?_
  by_cases b1 : x0 < 0
  · rw [if_pos b1] at h
    refine ev_if_lt_t (t := 19) (pc := 1) dX5_giveName_1 (by decide) b1 ?_
    obtain rfl := Option.some.inj h
    exact ev_ret (pc := 19) dX5_giveName_19 rfl rfl (hfin _)
  · rw [if_neg b1] at h
    refine ev_if_lt_f (t := 19) (pc := 1) dX5_giveName_1 (by decide) b1 ?_
    refine ev_iload_n (v := x0) (pc := 4) dX5_giveName_4 rfl ?_
    refine ev_bipush (v := 16) (pc := 5) dX5_giveName_5 kb_16 ?_
    by_cases b2 : 16 ≤ x0
    · rw [if_pos b2] at h
      refine ev_icmp_ge_t (t := 19) (pc := 7) dX5_giveName_7 (by decide) b2 ?_
      obtain rfl := Option.some.inj h
      exact ev_ret (pc := 19) dX5_giveName_19 rfl rfl (hfin _)
    · rw [if_neg b2] at h
      refine ev_icmp_ge_f (t := 19) (pc := 7) dX5_giveName_7 (by decide) b2 ?_
      obtain ⟨c3, e4, h⟩ := rb_bd h
      refine ev_aload_n (v := 2) (pc := 10) dX5_giveName_10 rfl ?_
      refine ev_getr (q := 5) (pc := 11) dX5_giveName_11 fl_RX5_9 rfl rfl ?_
      refine ev_iconst (v := 3) (pc := 14) dX5_giveName_14 ki_3 ?_
      refine ev_iload_n (v := x0) (pc := 15) dX5_giveName_15 rfl ?_
      refine ev_iadd (pc := 16) dX5_giveName_16 ?_
      refine ev_iload_n (v := x1) (pc := 17) dX5_giveName_17 rfl ?_
      refine ev_iast (w' := [(5, c3)]) (pc := 18) dX5_giveName_18 rfl e4 rfl ?_
      obtain rfl := Option.some.inj h
      exact ev_ret (pc := 19) dX5_giveName_19 rfl rfl (hfin _)
set_option maxHeartbeats 4000000 in
set_option maxRecDepth 20000 in
theorem ct1_X5_giveName (μ : rb_Mem) (c : rb_Row) (x0 : Int32) (x1 : Int32) (o : rb_Row) (hc : μ 11 = c) (h : XX5_giveName c x0 x1 = some o) : rb_Ct yX5_giveName cX5_giveName 3 none 0 [.inr 8, .inl x0, .inl x1] μ none (rb_ov μ [(11, o)]) := by
  unfold XX5_giveName at h
  have hini : rb_ov μ [(11, c)] = μ := rb_ov_sf _ _ (And.intro hc True.intro)
  have hfin : ∀ u0 : rb_Row, rb_ov μ [(11, u0)] = rb_ov μ [(11, u0)] := fun u0 => rfl
  refine rb_ctv (w := [(11, c)]) rfl pn_5 (Nat.le_of_ble_eq_true rfl) rfl hini ?_
  refine ev_iload_n (v := x0) (pc := 0) dX5_giveName_0 rfl ?_
  by_cases b1 : x0 < 0
  · rw [if_pos b1] at h
    refine ev_if_lt_t (t := 19) (pc := 1) dX5_giveName_1 (by decide) b1 ?_
    obtain rfl := Option.some.inj h
    exact ev_ret (pc := 19) dX5_giveName_19 rfl rfl (hfin _)
  · rw [if_neg b1] at h
    refine ev_if_lt_f (t := 19) (pc := 1) dX5_giveName_1 (by decide) b1 ?_
    refine ev_iload_n (v := x0) (pc := 4) dX5_giveName_4 rfl ?_
    refine ev_bipush (v := 16) (pc := 5) dX5_giveName_5 kb_16 ?_
    by_cases b2 : 16 ≤ x0
    · rw [if_pos b2] at h
      refine ev_icmp_ge_t (t := 19) (pc := 7) dX5_giveName_7 (by decide) b2 ?_
      obtain rfl := Option.some.inj h
      exact ev_ret (pc := 19) dX5_giveName_19 rfl rfl (hfin _)
    · rw [if_neg b2] at h
      refine ev_icmp_ge_f (t := 19) (pc := 7) dX5_giveName_7 (by decide) b2 ?_
      obtain ⟨c3, e4, h⟩ := rb_bd h
      refine ev_aload_n (v := 8) (pc := 10) dX5_giveName_10 rfl ?_
      refine ev_getr (q := 11) (pc := 11) dX5_giveName_11 fl_RX5_9 rfl rfl ?_
      refine ev_iconst (v := 3) (pc := 14) dX5_giveName_14 ki_3 ?_
      refine ev_iload_n (v := x0) (pc := 15) dX5_giveName_15 rfl ?_
      refine ev_iadd (pc := 16) dX5_giveName_16 ?_
      refine ev_iload_n (v := x1) (pc := 17) dX5_giveName_17 rfl ?_
      refine ev_iast (w' := [(11, c3)]) (pc := 18) dX5_giveName_18 rfl e4 rfl ?_
      obtain rfl := Option.some.inj h
      exact ev_ret (pc := 19) dX5_giveName_19 rfl rfl (hfin _)
def XX6_between (x0 : Int32) (x1 : Int32) (x2 : Int32) : Option (Int32) := if x0 < x1 then some (rb_nz 0) else if x2 < x0 then some (rb_nz 0) else some (rb_nz 1)
set_option maxHeartbeats 4000000 in
set_option maxRecDepth 20000 in
theorem ct_X6_between (μ : rb_Mem) (x0 : Int32) (x1 : Int32) (x2 : Int32) (o : Int32) (h : XX6_between x0 x1 x2 = some o) : rb_Ct yX6_between cX6_between 3 (some .boolean) 0 [.inl x0, .inl x1, .inl x2] μ (some o) μ := by
  unfold XX6_between at h
  have hini : rb_ov μ [] = μ := rfl
  have hfin := hini
  refine rb_ctz (w := []) rfl pn_6 (Nat.le_of_ble_eq_true rfl) rfl hini ?_
  refine ev_iload_n (v := x0) (pc := 0) dX6_between_0 rfl ?_
  refine ev_iload_n (v := x1) (pc := 1) dX6_between_1 rfl ?_
  by_cases b1 : x0 < x1
  · rw [if_pos b1] at h
    refine ev_icmp_lt_t (t := 14) (pc := 2) dX6_between_2 (by decide) b1 ?_
    refine ev_iconst (v := 0) (pc := 14) dX6_between_14 ki_0 ?_
    obtain rfl := Option.some.inj h
    exact ev_iret (pc := 15) dX6_between_15 rfl rfl rfl hfin
  · rw [if_neg b1] at h
    refine ev_icmp_lt_f (t := 14) (pc := 2) dX6_between_2 (by decide) b1 ?_
    refine ev_iload_n (v := x0) (pc := 5) dX6_between_5 rfl ?_
    refine ev_iload_n (v := x2) (pc := 6) dX6_between_6 rfl ?_
    by_cases b2 : x2 < x0
    · rw [if_pos b2] at h
      refine ev_icmp_gt_t (t := 14) (pc := 7) dX6_between_7 (by decide) b2 ?_
      refine ev_iconst (v := 0) (pc := 14) dX6_between_14 ki_0 ?_
      obtain rfl := Option.some.inj h
      exact ev_iret (pc := 15) dX6_between_15 rfl rfl rfl hfin
    · rw [if_neg b2] at h
      refine ev_icmp_gt_f (t := 14) (pc := 7) dX6_between_7 (by decide) b2 ?_
      refine ev_iconst (v := 1) (pc := 10) dX6_between_10 ki_1 ?_
      refine ev_goto (t := 15) (pc := 11) dX6_between_11 (by decide) ?_
      obtain rfl := Option.some.inj h
      exact ev_iret (pc := 15) dX6_between_15 rfl rfl rfl hfin
def XX5_handlesOf (c : rb_Row) (x0 : Int32) : Option (Int32) := (rb_lp (ρ := Int32) (fun (s1 : Int32 × Int32) => if 16 ≤ s1.2 then some (.inr s1.1) else (rb_rd c 773 (3 + s1.2)).bind fun v10 => ((if v10 = x0 then some (s1.1 + 1) else some s1.1) : Option (Int32)).bind fun j12 => some (.inl (j12, (s1.2 + 1)))) 100000 (0, 0)).bind fun q2 => some q2
set_option maxHeartbeats 4000000 in
set_option maxRecDepth 20000 in
theorem ct0_X5_handlesOf (μ : rb_Mem) (c : rb_Row) (x0 : Int32) (o : Int32) (hc : μ 5 = c) (h : XX5_handlesOf c x0 = some o) : rb_Ct yX5_handlesOf cX5_handlesOf 4 (some .int) 0 [.inr 2, .inl x0] μ (some o) μ := by
  unfold XX5_handlesOf at h
  have hini : rb_ov μ [(5, c)] = μ := rb_ov_sf _ _ (And.intro hc True.intro)
  have hfin := hini
  refine rb_cti (w := [(5, c)]) rfl pn_5 (Nat.le_of_ble_eq_true rfl) rfl hini ?_
  refine ev_iconst (v := 0) (pc := 0) dX5_handlesOf_0 ki_0 ?_
  refine ev_istore_n (L' := [some (.inr 2), some (.inl x0), some (.inl 0), none]) (pc := 1) dX5_handlesOf_1 (Nat.le_of_ble_eq_true rfl) rfl ?_
  refine ev_iconst (v := 0) (pc := 2) dX5_handlesOf_2 ki_0 ?_
  refine ev_istore_n (L' := [some (.inr 2), some (.inl x0), some (.inl 0), some (.inl 0)]) (pc := 3) dX5_handlesOf_3 (Nat.le_of_ble_eq_true rfl) rfl ?_
  obtain ⟨q2, l3, h⟩ := rb_bd h
  have hx7 : rb_Ev RX5 cX5_handlesOf 4 (some .int) none 0 (some o) μ 31 [none, none, some (.inl q2), none] [] (rb_ov μ [(5, c)]) := by
    refine ev_iload_n (v := q2) (pc := 31) dX5_handlesOf_31 rfl ?_
    obtain rfl := Option.some.inj h
    exact ev_iret (pc := 32) dX5_handlesOf_32 rfl rfl rfl hfin
  refine rb_lp_ev (P := fun (s1 : Int32 × Int32) => rb_Ev RX5 cX5_handlesOf 4 (some .int) none 0 (some o) μ 4 [some (.inr 2), some (.inl x0), some (.inl s1.1), some (.inl s1.2)] [] (rb_ov μ [(5, c)])) ?_ 100000 (0, 0) l3
  intro s1 y4 h ih5 hE6
  refine ev_iload_n (v := s1.2) (pc := 4) dX5_handlesOf_4 rfl ?_
  refine ev_bipush (v := 16) (pc := 5) dX5_handlesOf_5 kb_16 ?_
  by_cases b9 : 16 ≤ s1.2
  · rw [if_pos b9] at h
    refine ev_icmp_ge_t (t := 31) (pc := 7) dX5_handlesOf_7 (by decide) b9 ?_
    obtain rfl := Option.some.inj h
    obtain rfl := hE6 _ rfl
    exact ev_fg (L := [none, none, some (.inl s1.1), none]) (And.intro rfl True.intro) (hx7)
  · rw [if_neg b9] at h
    refine ev_icmp_ge_f (t := 31) (pc := 7) dX5_handlesOf_7 (by decide) b9 ?_
    obtain ⟨v10, e11, h⟩ := rb_bd h
    refine ev_aload_n (v := 2) (pc := 10) dX5_handlesOf_10 rfl ?_
    refine ev_getr (q := 5) (pc := 11) dX5_handlesOf_11 fl_RX5_9 rfl rfl ?_
    refine ev_iconst (v := 3) (pc := 14) dX5_handlesOf_14 ki_3 ?_
    refine ev_iload_n (v := s1.2) (pc := 15) dX5_handlesOf_15 rfl ?_
    refine ev_iadd (pc := 16) dX5_handlesOf_16 ?_
    refine ev_iald (pc := 17) dX5_handlesOf_17 rfl e11 ?_
    refine ev_iload_n (v := x0) (pc := 18) dX5_handlesOf_18 rfl ?_
    obtain ⟨j12, e13, h⟩ := rb_bd h
    have hj14 : rb_Ev RX5 cX5_handlesOf 4 (some .int) none 0 (some o) μ 25 [some (.inr 2), some (.inl x0), some (.inl j12), some (.inl s1.2)] [] (rb_ov μ [(5, c)]) := by
      refine ev_iinc (x := s1.2) (v := (s1.2 + 1)) (L' := [some (.inr 2), some (.inl x0), some (.inl j12), some (.inl (s1.2 + 1))]) (pc := 25) dX5_handlesOf_25 rfl (kx_1 _) (Nat.le_of_ble_eq_true rfl) rfl ?_
      refine ev_goto (t := 4) (pc := 28) dX5_handlesOf_28 (by decide) ?_
      obtain rfl := Option.some.inj h
      exact ih5 (j12, (s1.2 + 1)) rfl
    replace h := e13
    by_cases b15 : v10 = x0
    · rw [if_pos b15] at h
      refine ev_icmp_ne_f (t := 25) (pc := 19) dX5_handlesOf_19 (by decide) b15 ?_
      refine ev_iinc (x := s1.1) (v := (s1.1 + 1)) (L' := [some (.inr 2), some (.inl x0), some (.inl (s1.1 + 1)), some (.inl s1.2)]) (pc := 22) dX5_handlesOf_22 rfl (kx_1 _) (Nat.le_of_ble_eq_true rfl) rfl ?_
      obtain rfl := Option.some.inj h
      exact hj14
    · rw [if_neg b15] at h
      refine ev_icmp_ne_t (t := 25) (pc := 19) dX5_handlesOf_19 (by decide) b15 ?_
      obtain rfl := Option.some.inj h
      exact hj14
set_option maxHeartbeats 4000000 in
set_option maxRecDepth 20000 in
theorem ct1_X5_handlesOf (μ : rb_Mem) (c : rb_Row) (x0 : Int32) (o : Int32) (hc : μ 11 = c) (h : XX5_handlesOf c x0 = some o) : rb_Ct yX5_handlesOf cX5_handlesOf 4 (some .int) 0 [.inr 8, .inl x0] μ (some o) μ := by
  unfold XX5_handlesOf at h
  have hini : rb_ov μ [(11, c)] = μ := rb_ov_sf _ _ (And.intro hc True.intro)
  have hfin := hini
  refine rb_cti (w := [(11, c)]) rfl pn_5 (Nat.le_of_ble_eq_true rfl) rfl hini ?_
  refine ev_iconst (v := 0) (pc := 0) dX5_handlesOf_0 ki_0 ?_
  refine ev_istore_n (L' := [some (.inr 8), some (.inl x0), some (.inl 0), none]) (pc := 1) dX5_handlesOf_1 (Nat.le_of_ble_eq_true rfl) rfl ?_
  refine ev_iconst (v := 0) (pc := 2) dX5_handlesOf_2 ki_0 ?_
  refine ev_istore_n (L' := [some (.inr 8), some (.inl x0), some (.inl 0), some (.inl 0)]) (pc := 3) dX5_handlesOf_3 (Nat.le_of_ble_eq_true rfl) rfl ?_
  obtain ⟨q2, l3, h⟩ := rb_bd h
  have hx7 : rb_Ev RX5 cX5_handlesOf 4 (some .int) none 0 (some o) μ 31 [none, none, some (.inl q2), none] [] (rb_ov μ [(11, c)]) := by
    refine ev_iload_n (v := q2) (pc := 31) dX5_handlesOf_31 rfl ?_
    obtain rfl := Option.some.inj h
    exact ev_iret (pc := 32) dX5_handlesOf_32 rfl rfl rfl hfin
  refine rb_lp_ev (P := fun (s1 : Int32 × Int32) => rb_Ev RX5 cX5_handlesOf 4 (some .int) none 0 (some o) μ 4 [some (.inr 8), some (.inl x0), some (.inl s1.1), some (.inl s1.2)] [] (rb_ov μ [(11, c)])) ?_ 100000 (0, 0) l3
  intro s1 y4 h ih5 hE6
  refine ev_iload_n (v := s1.2) (pc := 4) dX5_handlesOf_4 rfl ?_
  refine ev_bipush (v := 16) (pc := 5) dX5_handlesOf_5 kb_16 ?_
  by_cases b9 : 16 ≤ s1.2
  · rw [if_pos b9] at h
    refine ev_icmp_ge_t (t := 31) (pc := 7) dX5_handlesOf_7 (by decide) b9 ?_
    obtain rfl := Option.some.inj h
    obtain rfl := hE6 _ rfl
    exact ev_fg (L := [none, none, some (.inl s1.1), none]) (And.intro rfl True.intro) (hx7)
  · rw [if_neg b9] at h
    refine ev_icmp_ge_f (t := 31) (pc := 7) dX5_handlesOf_7 (by decide) b9 ?_
    obtain ⟨v10, e11, h⟩ := rb_bd h
    refine ev_aload_n (v := 8) (pc := 10) dX5_handlesOf_10 rfl ?_
    refine ev_getr (q := 11) (pc := 11) dX5_handlesOf_11 fl_RX5_9 rfl rfl ?_
    refine ev_iconst (v := 3) (pc := 14) dX5_handlesOf_14 ki_3 ?_
    refine ev_iload_n (v := s1.2) (pc := 15) dX5_handlesOf_15 rfl ?_
    refine ev_iadd (pc := 16) dX5_handlesOf_16 ?_
    refine ev_iald (pc := 17) dX5_handlesOf_17 rfl e11 ?_
    refine ev_iload_n (v := x0) (pc := 18) dX5_handlesOf_18 rfl ?_
    obtain ⟨j12, e13, h⟩ := rb_bd h
    have hj14 : rb_Ev RX5 cX5_handlesOf 4 (some .int) none 0 (some o) μ 25 [some (.inr 8), some (.inl x0), some (.inl j12), some (.inl s1.2)] [] (rb_ov μ [(11, c)]) := by
      refine ev_iinc (x := s1.2) (v := (s1.2 + 1)) (L' := [some (.inr 8), some (.inl x0), some (.inl j12), some (.inl (s1.2 + 1))]) (pc := 25) dX5_handlesOf_25 rfl (kx_1 _) (Nat.le_of_ble_eq_true rfl) rfl ?_
      refine ev_goto (t := 4) (pc := 28) dX5_handlesOf_28 (by decide) ?_
      obtain rfl := Option.some.inj h
      exact ih5 (j12, (s1.2 + 1)) rfl
    replace h := e13
    by_cases b15 : v10 = x0
    · rw [if_pos b15] at h
      refine ev_icmp_ne_f (t := 25) (pc := 19) dX5_handlesOf_19 (by decide) b15 ?_
      refine ev_iinc (x := s1.1) (v := (s1.1 + 1)) (L' := [some (.inr 8), some (.inl x0), some (.inl (s1.1 + 1)), some (.inl s1.2)]) (pc := 22) dX5_handlesOf_22 rfl (kx_1 _) (Nat.le_of_ble_eq_true rfl) rfl ?_
      obtain rfl := Option.some.inj h
      exact hj14
    · rw [if_neg b15] at h
      refine ev_icmp_ne_t (t := 25) (pc := 19) dX5_handlesOf_19 (by decide) b15 ?_
      obtain rfl := Option.some.inj h
      exact hj14
def XX5_freeHandles (c : rb_Row) : Option (Int32) := (XX5_handlesOf c (-1)).bind fun t1 => some t1
set_option maxHeartbeats 4000000 in
set_option maxRecDepth 20000 in
theorem ct0_X5_freeHandles (μ : rb_Mem) (c : rb_Row) (o : Int32) (hc : μ 5 = c) (h : XX5_freeHandles c = some o) : rb_Ct yX5_freeHandles cX5_freeHandles 1 (some .int) 1 [.inr 2] μ (some o) μ := by
  unfold XX5_freeHandles at h
  have hini : rb_ov μ [(5, c)] = μ := rb_ov_sf _ _ (And.intro hc True.intro)
  have hfin := hini
  refine rb_cti (w := [(5, c)]) rfl pn_5 (Nat.le_of_ble_eq_true rfl) rfl hini ?_
  obtain ⟨t1, e2, h⟩ := rb_bd h
  refine ev_aload_n (v := 2) (pc := 0) dX5_freeHandles_0 rfl ?_
  refine ev_iconst (v := (-1)) (pc := 1) dX5_freeHandles_1 ki_m1 ?_
  refine ev_cVi1 (pc := 2) dX5_freeHandles_2 mv_X5_handlesOf lk_RX5_22 rp_2 (ct0_X5_handlesOf _ _ _ _ rfl e2) (Nat.le_of_ble_eq_true rfl) (Nat.le_of_ble_eq_true rfl) ?_
  obtain rfl := Option.some.inj h
  exact ev_iret (pc := 5) dX5_freeHandles_5 rfl rfl rfl hfin
set_option maxHeartbeats 4000000 in
set_option maxRecDepth 20000 in
theorem ct1_X5_freeHandles (μ : rb_Mem) (c : rb_Row) (o : Int32) (hc : μ 11 = c) (h : XX5_freeHandles c = some o) : rb_Ct yX5_freeHandles cX5_freeHandles 1 (some .int) 1 [.inr 8] μ (some o) μ := by
  unfold XX5_freeHandles at h
  have hini : rb_ov μ [(11, c)] = μ := rb_ov_sf _ _ (And.intro hc True.intro)
  have hfin := hini
  refine rb_cti (w := [(11, c)]) rfl pn_5 (Nat.le_of_ble_eq_true rfl) rfl hini ?_
  obtain ⟨t1, e2, h⟩ := rb_bd h
  refine ev_aload_n (v := 8) (pc := 0) dX5_freeHandles_0 rfl ?_
  refine ev_iconst (v := (-1)) (pc := 1) dX5_freeHandles_1 ki_m1 ?_
  refine ev_cVi1 (pc := 2) dX5_freeHandles_2 mv_X5_handlesOf lk_RX5_22 rp_8 (ct1_X5_handlesOf _ _ _ _ rfl e2) (Nat.le_of_ble_eq_true rfl) (Nat.le_of_ble_eq_true rfl) ?_
  obtain rfl := Option.some.inj h
  exact ev_iret (pc := 5) dX5_freeHandles_5 rfl rfl rfl hfin
def XX5_makeEnds (c : rb_Row) (x0 : Int32) : Option (Int32 × rb_Row) := (XX5_makeThing c 0).bind fun t1 => (XX5_makeThing t1.2 1).bind fun t3 => if t1.1 < 0 then some ((-1), t3.2) else if 0 ≤ t3.1 then (rb_wr t3.2 773 (75 + t1.1) x0).bind fun c7 => (rb_wr c7 773 (75 + t3.1) x0).bind fun c9 => (rb_wr c9 773 (131 + t1.1) t3.1).bind fun c11 => (rb_wr c11 773 (131 + t3.1) t1.1).bind fun c13 => some (t1.1, c13) else some ((-1), t3.2)
set_option maxHeartbeats 4000000 in
set_option maxRecDepth 20000 in
theorem ct0_X5_makeEnds (μ : rb_Mem) (c : rb_Row) (x0 : Int32) (o : Int32 × rb_Row) (hc : μ 5 = c) (h : XX5_makeEnds c x0 = some o) : rb_Ct yX5_makeEnds cX5_makeEnds 4 (some .int) 1 [.inr 2, .inl x0] μ (some o.1) (rb_ov μ [(5, o.2)]) := by
  unfold XX5_makeEnds at h
  have hini : rb_ov μ [(5, c)] = μ := rb_ov_sf _ _ (And.intro hc True.intro)
  have hfin : ∀ u0 : rb_Row, rb_ov μ [(5, u0)] = rb_ov μ [(5, u0)] := fun u0 => rfl
  refine rb_cti (w := [(5, c)]) rfl pn_5 (Nat.le_of_ble_eq_true rfl) rfl hini ?_
  obtain ⟨t1, e2, h⟩ := rb_bd h
  obtain ⟨t3, e4, h⟩ := rb_bd h
  refine ev_aload_n (v := 2) (pc := 0) dX5_makeEnds_0 rfl ?_
  refine ev_iconst (v := 0) (pc := 1) dX5_makeEnds_1 ki_0 ?_
  refine ev_cVi1w (w' := [(5, t1.2)]) (pc := 2) dX5_makeEnds_2 mv_X5_makeThing lk_RX5_25 rp_2 (ct0_X5_makeThing _ _ _ _ rfl e2) (Nat.le_of_ble_eq_true rfl) (Nat.le_of_ble_eq_true rfl) rfl ?_
  refine ev_istore_n (L' := [some (.inr 2), some (.inl x0), some (.inl t1.1), none]) (pc := 5) dX5_makeEnds_5 (Nat.le_of_ble_eq_true rfl) rfl ?_
  refine ev_aload_n (v := 2) (pc := 6) dX5_makeEnds_6 rfl ?_
  refine ev_iconst (v := 1) (pc := 7) dX5_makeEnds_7 ki_1 ?_
  refine ev_cVi1w (w' := [(5, t3.2)]) (pc := 8) dX5_makeEnds_8 mv_X5_makeThing lk_RX5_25 rp_2 (ct0_X5_makeThing _ _ _ _ rfl e4) (Nat.le_of_ble_eq_true rfl) (Nat.le_of_ble_eq_true rfl) rfl ?_
  refine ev_istore_n (L' := [some (.inr 2), some (.inl x0), some (.inl t1.1), some (.inl t3.1)]) (pc := 11) dX5_makeEnds_11 (Nat.le_of_ble_eq_true rfl) rfl ?_
  refine ev_iload_n (v := t1.1) (pc := 12) dX5_makeEnds_12 rfl ?_
  by_cases b5 : t1.1 < 0
  · rw [if_pos b5] at h
    refine ev_if_lt_t (t := 20) (pc := 13) dX5_makeEnds_13 (by decide) b5 ?_
    refine ev_iconst (v := (-1)) (pc := 20) dX5_makeEnds_20 ki_m1 ?_
    obtain rfl := Option.some.inj h
    exact ev_iret (pc := 21) dX5_makeEnds_21 rfl rfl rfl (hfin _)
  · rw [if_neg b5] at h
    refine ev_if_lt_f (t := 20) (pc := 13) dX5_makeEnds_13 (by decide) b5 ?_
    refine ev_iload_n (v := t3.1) (pc := 16) dX5_makeEnds_16 rfl ?_
    by_cases b6 : 0 ≤ t3.1
    · rw [if_pos b6] at h
      refine ev_if_ge_t (t := 22) (pc := 17) dX5_makeEnds_17 (by decide) b6 ?_
      obtain ⟨c7, e8, h⟩ := rb_bd h
      obtain ⟨c9, e10, h⟩ := rb_bd h
      obtain ⟨c11, e12, h⟩ := rb_bd h
      obtain ⟨c13, e14, h⟩ := rb_bd h
      refine ev_aload_n (v := 2) (pc := 22) dX5_makeEnds_22 rfl ?_
      refine ev_getr (q := 5) (pc := 23) dX5_makeEnds_23 fl_RX5_9 rfl rfl ?_
      refine ev_bipush (v := 75) (pc := 26) dX5_makeEnds_26 kb_75 ?_
      refine ev_iload_n (v := t1.1) (pc := 28) dX5_makeEnds_28 rfl ?_
      refine ev_iadd (pc := 29) dX5_makeEnds_29 ?_
      refine ev_iload_n (v := x0) (pc := 30) dX5_makeEnds_30 rfl ?_
      refine ev_iast (w' := [(5, c7)]) (pc := 31) dX5_makeEnds_31 rfl e8 rfl ?_
      refine ev_aload_n (v := 2) (pc := 32) dX5_makeEnds_32 rfl ?_
      refine ev_getr (q := 5) (pc := 33) dX5_makeEnds_33 fl_RX5_9 rfl rfl ?_
      refine ev_bipush (v := 75) (pc := 36) dX5_makeEnds_36 kb_75 ?_
      refine ev_iload_n (v := t3.1) (pc := 38) dX5_makeEnds_38 rfl ?_
      refine ev_iadd (pc := 39) dX5_makeEnds_39 ?_
      refine ev_iload_n (v := x0) (pc := 40) dX5_makeEnds_40 rfl ?_
      refine ev_iast (w' := [(5, c9)]) (pc := 41) dX5_makeEnds_41 rfl e10 rfl ?_
      refine ev_aload_n (v := 2) (pc := 42) dX5_makeEnds_42 rfl ?_
      refine ev_getr (q := 5) (pc := 43) dX5_makeEnds_43 fl_RX5_9 rfl rfl ?_
      refine ev_sipush (v := 131) (pc := 46) dX5_makeEnds_46 ks_131 ?_
      refine ev_iload_n (v := t1.1) (pc := 49) dX5_makeEnds_49 rfl ?_
      refine ev_iadd (pc := 50) dX5_makeEnds_50 ?_
      refine ev_iload_n (v := t3.1) (pc := 51) dX5_makeEnds_51 rfl ?_
      refine ev_iast (w' := [(5, c11)]) (pc := 52) dX5_makeEnds_52 rfl e12 rfl ?_
      refine ev_aload_n (v := 2) (pc := 53) dX5_makeEnds_53 rfl ?_
      refine ev_getr (q := 5) (pc := 54) dX5_makeEnds_54 fl_RX5_9 rfl rfl ?_
      refine ev_sipush (v := 131) (pc := 57) dX5_makeEnds_57 ks_131 ?_
      refine ev_iload_n (v := t3.1) (pc := 60) dX5_makeEnds_60 rfl ?_
      refine ev_iadd (pc := 61) dX5_makeEnds_61 ?_
      refine ev_iload_n (v := t1.1) (pc := 62) dX5_makeEnds_62 rfl ?_
      refine ev_iast (w' := [(5, c13)]) (pc := 63) dX5_makeEnds_63 rfl e14 rfl ?_
      refine ev_iload_n (v := t1.1) (pc := 64) dX5_makeEnds_64 rfl ?_
      obtain rfl := Option.some.inj h
      exact ev_iret (pc := 65) dX5_makeEnds_65 rfl rfl rfl (hfin _)
    · rw [if_neg b6] at h
      refine ev_if_ge_f (t := 22) (pc := 17) dX5_makeEnds_17 (by decide) b6 ?_
      refine ev_iconst (v := (-1)) (pc := 20) dX5_makeEnds_20 ki_m1 ?_
      obtain rfl := Option.some.inj h
      exact ev_iret (pc := 21) dX5_makeEnds_21 rfl rfl rfl (hfin _)
set_option maxHeartbeats 4000000 in
set_option maxRecDepth 20000 in
theorem ct1_X5_makeEnds (μ : rb_Mem) (c : rb_Row) (x0 : Int32) (o : Int32 × rb_Row) (hc : μ 11 = c) (h : XX5_makeEnds c x0 = some o) : rb_Ct yX5_makeEnds cX5_makeEnds 4 (some .int) 1 [.inr 8, .inl x0] μ (some o.1) (rb_ov μ [(11, o.2)]) := by
  unfold XX5_makeEnds at h
  have hini : rb_ov μ [(11, c)] = μ := rb_ov_sf _ _ (And.intro hc True.intro)
  have hfin : ∀ u0 : rb_Row, rb_ov μ [(11, u0)] = rb_ov μ [(11, u0)] := fun u0 => rfl
  refine rb_cti (w := [(11, c)]) rfl pn_5 (Nat.le_of_ble_eq_true rfl) rfl hini ?_
  obtain ⟨t1, e2, h⟩ := rb_bd h
  obtain ⟨t3, e4, h⟩ := rb_bd h
  refine ev_aload_n (v := 8) (pc := 0) dX5_makeEnds_0 rfl ?_
  refine ev_iconst (v := 0) (pc := 1) dX5_makeEnds_1 ki_0 ?_
  refine ev_cVi1w (w' := [(11, t1.2)]) (pc := 2) dX5_makeEnds_2 mv_X5_makeThing lk_RX5_25 rp_8 (ct1_X5_makeThing _ _ _ _ rfl e2) (Nat.le_of_ble_eq_true rfl) (Nat.le_of_ble_eq_true rfl) rfl ?_
  refine ev_istore_n (L' := [some (.inr 8), some (.inl x0), some (.inl t1.1), none]) (pc := 5) dX5_makeEnds_5 (Nat.le_of_ble_eq_true rfl) rfl ?_
  refine ev_aload_n (v := 8) (pc := 6) dX5_makeEnds_6 rfl ?_
  refine ev_iconst (v := 1) (pc := 7) dX5_makeEnds_7 ki_1 ?_
  refine ev_cVi1w (w' := [(11, t3.2)]) (pc := 8) dX5_makeEnds_8 mv_X5_makeThing lk_RX5_25 rp_8 (ct1_X5_makeThing _ _ _ _ rfl e4) (Nat.le_of_ble_eq_true rfl) (Nat.le_of_ble_eq_true rfl) rfl ?_
  refine ev_istore_n (L' := [some (.inr 8), some (.inl x0), some (.inl t1.1), some (.inl t3.1)]) (pc := 11) dX5_makeEnds_11 (Nat.le_of_ble_eq_true rfl) rfl ?_
  refine ev_iload_n (v := t1.1) (pc := 12) dX5_makeEnds_12 rfl ?_
  by_cases b5 : t1.1 < 0
  · rw [if_pos b5] at h
    refine ev_if_lt_t (t := 20) (pc := 13) dX5_makeEnds_13 (by decide) b5 ?_
    refine ev_iconst (v := (-1)) (pc := 20) dX5_makeEnds_20 ki_m1 ?_
    obtain rfl := Option.some.inj h
    exact ev_iret (pc := 21) dX5_makeEnds_21 rfl rfl rfl (hfin _)
  · rw [if_neg b5] at h
    refine ev_if_lt_f (t := 20) (pc := 13) dX5_makeEnds_13 (by decide) b5 ?_
    refine ev_iload_n (v := t3.1) (pc := 16) dX5_makeEnds_16 rfl ?_
    by_cases b6 : 0 ≤ t3.1
    · rw [if_pos b6] at h
      refine ev_if_ge_t (t := 22) (pc := 17) dX5_makeEnds_17 (by decide) b6 ?_
      obtain ⟨c7, e8, h⟩ := rb_bd h
      obtain ⟨c9, e10, h⟩ := rb_bd h
      obtain ⟨c11, e12, h⟩ := rb_bd h
      obtain ⟨c13, e14, h⟩ := rb_bd h
      refine ev_aload_n (v := 8) (pc := 22) dX5_makeEnds_22 rfl ?_
      refine ev_getr (q := 11) (pc := 23) dX5_makeEnds_23 fl_RX5_9 rfl rfl ?_
      refine ev_bipush (v := 75) (pc := 26) dX5_makeEnds_26 kb_75 ?_
      refine ev_iload_n (v := t1.1) (pc := 28) dX5_makeEnds_28 rfl ?_
      refine ev_iadd (pc := 29) dX5_makeEnds_29 ?_
      refine ev_iload_n (v := x0) (pc := 30) dX5_makeEnds_30 rfl ?_
      refine ev_iast (w' := [(11, c7)]) (pc := 31) dX5_makeEnds_31 rfl e8 rfl ?_
      refine ev_aload_n (v := 8) (pc := 32) dX5_makeEnds_32 rfl ?_
      refine ev_getr (q := 11) (pc := 33) dX5_makeEnds_33 fl_RX5_9 rfl rfl ?_
      refine ev_bipush (v := 75) (pc := 36) dX5_makeEnds_36 kb_75 ?_
      refine ev_iload_n (v := t3.1) (pc := 38) dX5_makeEnds_38 rfl ?_
      refine ev_iadd (pc := 39) dX5_makeEnds_39 ?_
      refine ev_iload_n (v := x0) (pc := 40) dX5_makeEnds_40 rfl ?_
      refine ev_iast (w' := [(11, c9)]) (pc := 41) dX5_makeEnds_41 rfl e10 rfl ?_
      refine ev_aload_n (v := 8) (pc := 42) dX5_makeEnds_42 rfl ?_
      refine ev_getr (q := 11) (pc := 43) dX5_makeEnds_43 fl_RX5_9 rfl rfl ?_
      refine ev_sipush (v := 131) (pc := 46) dX5_makeEnds_46 ks_131 ?_
      refine ev_iload_n (v := t1.1) (pc := 49) dX5_makeEnds_49 rfl ?_
      refine ev_iadd (pc := 50) dX5_makeEnds_50 ?_
      refine ev_iload_n (v := t3.1) (pc := 51) dX5_makeEnds_51 rfl ?_
      refine ev_iast (w' := [(11, c11)]) (pc := 52) dX5_makeEnds_52 rfl e12 rfl ?_
      refine ev_aload_n (v := 8) (pc := 53) dX5_makeEnds_53 rfl ?_
      refine ev_getr (q := 11) (pc := 54) dX5_makeEnds_54 fl_RX5_9 rfl rfl ?_
      refine ev_sipush (v := 131) (pc := 57) dX5_makeEnds_57 ks_131 ?_
      refine ev_iload_n (v := t3.1) (pc := 60) dX5_makeEnds_60 rfl ?_
      refine ev_iadd (pc := 61) dX5_makeEnds_61 ?_
      refine ev_iload_n (v := t1.1) (pc := 62) dX5_makeEnds_62 rfl ?_
      refine ev_iast (w' := [(11, c13)]) (pc := 63) dX5_makeEnds_63 rfl e14 rfl ?_
      refine ev_iload_n (v := t1.1) (pc := 64) dX5_makeEnds_64 rfl ?_
      obtain rfl := Option.some.inj h
      exact ev_iret (pc := 65) dX5_makeEnds_65 rfl rfl rfl (hfin _)
    · rw [if_neg b6] at h
      refine ev_if_ge_f (t := 22) (pc := 17) dX5_makeEnds_17 (by decide) b6 ?_
      refine ev_iconst (v := (-1)) (pc := 20) dX5_makeEnds_20 ki_m1 ?_
      obtain rfl := Option.some.inj h
      exact ev_iret (pc := 21) dX5_makeEnds_21 rfl rfl rfl (hfin _)
def XX5_thingOf (c : rb_Row) (x0 : Int32) : Option (Int32) := if x0 < 0 then some (-1) else if 16 ≤ x0 then some (-1) else (rb_rd c 773 (3 + x0)).bind fun v3 => some v3
set_option maxHeartbeats 4000000 in
set_option maxRecDepth 20000 in
theorem ct0_X5_thingOf (μ : rb_Mem) (c : rb_Row) (x0 : Int32) (o : Int32) (hc : μ 5 = c) (h : XX5_thingOf c x0 = some o) : rb_Ct yX5_thingOf cX5_thingOf 2 (some .int) 0 [.inr 2, .inl x0] μ (some o) μ := by
  unfold XX5_thingOf at h
  have hini : rb_ov μ [(5, c)] = μ := rb_ov_sf _ _ (And.intro hc True.intro)
  have hfin := hini
  refine rb_cti (w := [(5, c)]) rfl pn_5 (Nat.le_of_ble_eq_true rfl) rfl hini ?_
  refine ev_iload_n (v := x0) (pc := 0) dX5_thingOf_0 rfl ?_
  by_cases b1 : x0 < 0
  · rw [if_pos b1] at h
    refine ev_if_lt_t (t := 21) (pc := 1) dX5_thingOf_1 (by decide) b1 ?_
    refine ev_iconst (v := (-1)) (pc := 21) dX5_thingOf_21 ki_m1 ?_
    obtain rfl := Option.some.inj h
    exact ev_iret (pc := 22) dX5_thingOf_22 rfl rfl rfl hfin
  · rw [if_neg b1] at h
    refine ev_if_lt_f (t := 21) (pc := 1) dX5_thingOf_1 (by decide) b1 ?_
    refine ev_iload_n (v := x0) (pc := 4) dX5_thingOf_4 rfl ?_
    refine ev_bipush (v := 16) (pc := 5) dX5_thingOf_5 kb_16 ?_
    by_cases b2 : 16 ≤ x0
    · rw [if_pos b2] at h
      refine ev_icmp_ge_t (t := 21) (pc := 7) dX5_thingOf_7 (by decide) b2 ?_
      refine ev_iconst (v := (-1)) (pc := 21) dX5_thingOf_21 ki_m1 ?_
      obtain rfl := Option.some.inj h
      exact ev_iret (pc := 22) dX5_thingOf_22 rfl rfl rfl hfin
    · rw [if_neg b2] at h
      refine ev_icmp_ge_f (t := 21) (pc := 7) dX5_thingOf_7 (by decide) b2 ?_
      obtain ⟨v3, e4, h⟩ := rb_bd h
      refine ev_aload_n (v := 2) (pc := 10) dX5_thingOf_10 rfl ?_
      refine ev_getr (q := 5) (pc := 11) dX5_thingOf_11 fl_RX5_9 rfl rfl ?_
      refine ev_iconst (v := 3) (pc := 14) dX5_thingOf_14 ki_3 ?_
      refine ev_iload_n (v := x0) (pc := 15) dX5_thingOf_15 rfl ?_
      refine ev_iadd (pc := 16) dX5_thingOf_16 ?_
      refine ev_iald (pc := 17) dX5_thingOf_17 rfl e4 ?_
      refine ev_goto (t := 22) (pc := 18) dX5_thingOf_18 (by decide) ?_
      obtain rfl := Option.some.inj h
      exact ev_iret (pc := 22) dX5_thingOf_22 rfl rfl rfl hfin
set_option maxHeartbeats 4000000 in
set_option maxRecDepth 20000 in
theorem ct1_X5_thingOf (μ : rb_Mem) (c : rb_Row) (x0 : Int32) (o : Int32) (hc : μ 11 = c) (h : XX5_thingOf c x0 = some o) : rb_Ct yX5_thingOf cX5_thingOf 2 (some .int) 0 [.inr 8, .inl x0] μ (some o) μ := by
  unfold XX5_thingOf at h
  have hini : rb_ov μ [(11, c)] = μ := rb_ov_sf _ _ (And.intro hc True.intro)
  have hfin := hini
  refine rb_cti (w := [(11, c)]) rfl pn_5 (Nat.le_of_ble_eq_true rfl) rfl hini ?_
  refine ev_iload_n (v := x0) (pc := 0) dX5_thingOf_0 rfl ?_
  by_cases b1 : x0 < 0
  · rw [if_pos b1] at h
    refine ev_if_lt_t (t := 21) (pc := 1) dX5_thingOf_1 (by decide) b1 ?_
    refine ev_iconst (v := (-1)) (pc := 21) dX5_thingOf_21 ki_m1 ?_
    obtain rfl := Option.some.inj h
    exact ev_iret (pc := 22) dX5_thingOf_22 rfl rfl rfl hfin
  · rw [if_neg b1] at h
    refine ev_if_lt_f (t := 21) (pc := 1) dX5_thingOf_1 (by decide) b1 ?_
    refine ev_iload_n (v := x0) (pc := 4) dX5_thingOf_4 rfl ?_
    refine ev_bipush (v := 16) (pc := 5) dX5_thingOf_5 kb_16 ?_
    by_cases b2 : 16 ≤ x0
    · rw [if_pos b2] at h
      refine ev_icmp_ge_t (t := 21) (pc := 7) dX5_thingOf_7 (by decide) b2 ?_
      refine ev_iconst (v := (-1)) (pc := 21) dX5_thingOf_21 ki_m1 ?_
      obtain rfl := Option.some.inj h
      exact ev_iret (pc := 22) dX5_thingOf_22 rfl rfl rfl hfin
    · rw [if_neg b2] at h
      refine ev_icmp_ge_f (t := 21) (pc := 7) dX5_thingOf_7 (by decide) b2 ?_
      obtain ⟨v3, e4, h⟩ := rb_bd h
      refine ev_aload_n (v := 8) (pc := 10) dX5_thingOf_10 rfl ?_
      refine ev_getr (q := 11) (pc := 11) dX5_thingOf_11 fl_RX5_9 rfl rfl ?_
      refine ev_iconst (v := 3) (pc := 14) dX5_thingOf_14 ki_3 ?_
      refine ev_iload_n (v := x0) (pc := 15) dX5_thingOf_15 rfl ?_
      refine ev_iadd (pc := 16) dX5_thingOf_16 ?_
      refine ev_iald (pc := 17) dX5_thingOf_17 rfl e4 ?_
      refine ev_goto (t := 22) (pc := 18) dX5_thingOf_18 (by decide) ?_
      obtain rfl := Option.some.inj h
      exact ev_iret (pc := 22) dX5_thingOf_22 rfl rfl rfl hfin
def XX5_thingOfKind (c : rb_Row) (x0 : Int32) (x1 : Int32) : Option (Int32) := (XX5_thingOf c x0).bind fun t1 => if t1 < 0 then some (-1) else (rb_rd c 773 (19 + t1)).bind fun v4 => if v4 = x1 then some t1 else some (-1)
set_option maxHeartbeats 4000000 in
set_option maxRecDepth 20000 in
theorem ct0_X5_thingOfKind (μ : rb_Mem) (c : rb_Row) (x0 : Int32) (x1 : Int32) (o : Int32) (hc : μ 5 = c) (h : XX5_thingOfKind c x0 x1 = some o) : rb_Ct yX5_thingOfKind cX5_thingOfKind 4 (some .int) 1 [.inr 2, .inl x0, .inl x1] μ (some o) μ := by
  unfold XX5_thingOfKind at h
  have hini : rb_ov μ [(5, c)] = μ := rb_ov_sf _ _ (And.intro hc True.intro)
  have hfin := hini
  refine rb_cti (w := [(5, c)]) rfl pn_5 (Nat.le_of_ble_eq_true rfl) rfl hini ?_
  obtain ⟨t1, e2, h⟩ := rb_bd h
  refine ev_aload_n (v := 2) (pc := 0) dX5_thingOfKind_0 rfl ?_
  refine ev_iload_n (v := x0) (pc := 1) dX5_thingOfKind_1 rfl ?_
  refine ev_cVi1 (pc := 2) dX5_thingOfKind_2 mv_X5_thingOf lk_RX5_15 rp_2 (ct0_X5_thingOf _ _ _ _ rfl e2) (Nat.le_of_ble_eq_true rfl) (Nat.le_of_ble_eq_true rfl) ?_
  refine ev_istore_n (L' := [some (.inr 2), some (.inl x0), some (.inl x1), some (.inl t1)]) (pc := 5) dX5_thingOfKind_5 (Nat.le_of_ble_eq_true rfl) rfl ?_
  refine ev_iload_n (v := t1) (pc := 6) dX5_thingOfKind_6 rfl ?_
  by_cases b3 : t1 < 0
  · rw [if_pos b3] at h
    refine ev_if_lt_t (t := 27) (pc := 7) dX5_thingOfKind_7 (by decide) b3 ?_
    refine ev_iconst (v := (-1)) (pc := 27) dX5_thingOfKind_27 ki_m1 ?_
    obtain rfl := Option.some.inj h
    exact ev_iret (pc := 28) dX5_thingOfKind_28 rfl rfl rfl hfin
  · rw [if_neg b3] at h
    refine ev_if_lt_f (t := 27) (pc := 7) dX5_thingOfKind_7 (by decide) b3 ?_
    obtain ⟨v4, e5, h⟩ := rb_bd h
    refine ev_aload_n (v := 2) (pc := 10) dX5_thingOfKind_10 rfl ?_
    refine ev_getr (q := 5) (pc := 11) dX5_thingOfKind_11 fl_RX5_9 rfl rfl ?_
    refine ev_bipush (v := 19) (pc := 14) dX5_thingOfKind_14 kb_19 ?_
    refine ev_iload_n (v := t1) (pc := 16) dX5_thingOfKind_16 rfl ?_
    refine ev_iadd (pc := 17) dX5_thingOfKind_17 ?_
    refine ev_iald (pc := 18) dX5_thingOfKind_18 rfl e5 ?_
    refine ev_iload_n (v := x1) (pc := 19) dX5_thingOfKind_19 rfl ?_
    by_cases b6 : v4 = x1
    · rw [if_pos b6] at h
      refine ev_icmp_ne_f (t := 27) (pc := 20) dX5_thingOfKind_20 (by decide) b6 ?_
      refine ev_iload_n (v := t1) (pc := 23) dX5_thingOfKind_23 rfl ?_
      refine ev_goto (t := 28) (pc := 24) dX5_thingOfKind_24 (by decide) ?_
      obtain rfl := Option.some.inj h
      exact ev_iret (pc := 28) dX5_thingOfKind_28 rfl rfl rfl hfin
    · rw [if_neg b6] at h
      refine ev_icmp_ne_t (t := 27) (pc := 20) dX5_thingOfKind_20 (by decide) b6 ?_
      refine ev_iconst (v := (-1)) (pc := 27) dX5_thingOfKind_27 ki_m1 ?_
      obtain rfl := Option.some.inj h
      exact ev_iret (pc := 28) dX5_thingOfKind_28 rfl rfl rfl hfin
set_option maxHeartbeats 4000000 in
set_option maxRecDepth 20000 in
theorem ct1_X5_thingOfKind (μ : rb_Mem) (c : rb_Row) (x0 : Int32) (x1 : Int32) (o : Int32) (hc : μ 11 = c) (h : XX5_thingOfKind c x0 x1 = some o) : rb_Ct yX5_thingOfKind cX5_thingOfKind 4 (some .int) 1 [.inr 8, .inl x0, .inl x1] μ (some o) μ := by
  unfold XX5_thingOfKind at h
  have hini : rb_ov μ [(11, c)] = μ := rb_ov_sf _ _ (And.intro hc True.intro)
  have hfin := hini
  refine rb_cti (w := [(11, c)]) rfl pn_5 (Nat.le_of_ble_eq_true rfl) rfl hini ?_
  obtain ⟨t1, e2, h⟩ := rb_bd h
  refine ev_aload_n (v := 8) (pc := 0) dX5_thingOfKind_0 rfl ?_
  refine ev_iload_n (v := x0) (pc := 1) dX5_thingOfKind_1 rfl ?_
  refine ev_cVi1 (pc := 2) dX5_thingOfKind_2 mv_X5_thingOf lk_RX5_15 rp_8 (ct1_X5_thingOf _ _ _ _ rfl e2) (Nat.le_of_ble_eq_true rfl) (Nat.le_of_ble_eq_true rfl) ?_
  refine ev_istore_n (L' := [some (.inr 8), some (.inl x0), some (.inl x1), some (.inl t1)]) (pc := 5) dX5_thingOfKind_5 (Nat.le_of_ble_eq_true rfl) rfl ?_
  refine ev_iload_n (v := t1) (pc := 6) dX5_thingOfKind_6 rfl ?_
  by_cases b3 : t1 < 0
  · rw [if_pos b3] at h
    refine ev_if_lt_t (t := 27) (pc := 7) dX5_thingOfKind_7 (by decide) b3 ?_
    refine ev_iconst (v := (-1)) (pc := 27) dX5_thingOfKind_27 ki_m1 ?_
    obtain rfl := Option.some.inj h
    exact ev_iret (pc := 28) dX5_thingOfKind_28 rfl rfl rfl hfin
  · rw [if_neg b3] at h
    refine ev_if_lt_f (t := 27) (pc := 7) dX5_thingOfKind_7 (by decide) b3 ?_
    obtain ⟨v4, e5, h⟩ := rb_bd h
    refine ev_aload_n (v := 8) (pc := 10) dX5_thingOfKind_10 rfl ?_
    refine ev_getr (q := 11) (pc := 11) dX5_thingOfKind_11 fl_RX5_9 rfl rfl ?_
    refine ev_bipush (v := 19) (pc := 14) dX5_thingOfKind_14 kb_19 ?_
    refine ev_iload_n (v := t1) (pc := 16) dX5_thingOfKind_16 rfl ?_
    refine ev_iadd (pc := 17) dX5_thingOfKind_17 ?_
    refine ev_iald (pc := 18) dX5_thingOfKind_18 rfl e5 ?_
    refine ev_iload_n (v := x1) (pc := 19) dX5_thingOfKind_19 rfl ?_
    by_cases b6 : v4 = x1
    · rw [if_pos b6] at h
      refine ev_icmp_ne_f (t := 27) (pc := 20) dX5_thingOfKind_20 (by decide) b6 ?_
      refine ev_iload_n (v := t1) (pc := 23) dX5_thingOfKind_23 rfl ?_
      refine ev_goto (t := 28) (pc := 24) dX5_thingOfKind_24 (by decide) ?_
      obtain rfl := Option.some.inj h
      exact ev_iret (pc := 28) dX5_thingOfKind_28 rfl rfl rfl hfin
    · rw [if_neg b6] at h
      refine ev_icmp_ne_t (t := 27) (pc := 20) dX5_thingOfKind_20 (by decide) b6 ?_
      refine ev_iconst (v := (-1)) (pc := 27) dX5_thingOfKind_27 ki_m1 ?_
      obtain rfl := Option.some.inj h
      exact ev_iret (pc := 28) dX5_thingOfKind_28 rfl rfl rfl hfin
def XX5_waitingInAll (c : rb_Row) : Option (Int32) := (rb_lp (ρ := Int32) (fun (s1 : Int32 × Int32) => if 28 ≤ s1.2 then some (.inr s1.1) else (rb_rd c 773 (243 + s1.2)).bind fun v10 => ((if v10 < 0 then some s1.1 else some (s1.1 + 1)) : Option (Int32)).bind fun j12 => some (.inl (j12, (s1.2 + 1)))) 100000 (0, 0)).bind fun q2 => some q2
set_option maxHeartbeats 4000000 in
set_option maxRecDepth 20000 in
theorem ct0_X5_waitingInAll (μ : rb_Mem) (c : rb_Row) (o : Int32) (hc : μ 5 = c) (h : XX5_waitingInAll c = some o) : rb_Ct yX5_waitingInAll cX5_waitingInAll 3 (some .int) 0 [.inr 2] μ (some o) μ := by
  unfold XX5_waitingInAll at h
  have hini : rb_ov μ [(5, c)] = μ := rb_ov_sf _ _ (And.intro hc True.intro)
  have hfin := hini
  refine rb_cti (w := [(5, c)]) rfl pn_5 (Nat.le_of_ble_eq_true rfl) rfl hini ?_
  refine ev_iconst (v := 0) (pc := 0) dX5_waitingInAll_0 ki_0 ?_
  refine ev_istore_n (L' := [some (.inr 2), some (.inl 0), none]) (pc := 1) dX5_waitingInAll_1 (Nat.le_of_ble_eq_true rfl) rfl ?_
  refine ev_iconst (v := 0) (pc := 2) dX5_waitingInAll_2 ki_0 ?_
  refine ev_istore_n (L' := [some (.inr 2), some (.inl 0), some (.inl 0)]) (pc := 3) dX5_waitingInAll_3 (Nat.le_of_ble_eq_true rfl) rfl ?_
  obtain ⟨q2, l3, h⟩ := rb_bd h
  have hx7 : rb_Ev RX5 cX5_waitingInAll 3 (some .int) none 0 (some o) μ 32 [none, some (.inl q2), none] [] (rb_ov μ [(5, c)]) := by
    refine ev_iload_n (v := q2) (pc := 32) dX5_waitingInAll_32 rfl ?_
    obtain rfl := Option.some.inj h
    exact ev_iret (pc := 33) dX5_waitingInAll_33 rfl rfl rfl hfin
  refine rb_lp_ev (P := fun (s1 : Int32 × Int32) => rb_Ev RX5 cX5_waitingInAll 3 (some .int) none 0 (some o) μ 4 [some (.inr 2), some (.inl s1.1), some (.inl s1.2)] [] (rb_ov μ [(5, c)])) ?_ 100000 (0, 0) l3
  intro s1 y4 h ih5 hE6
  refine ev_iload_n (v := s1.2) (pc := 4) dX5_waitingInAll_4 rfl ?_
  refine ev_bipush (v := 28) (pc := 5) dX5_waitingInAll_5 kb_28 ?_
  by_cases b9 : 28 ≤ s1.2
  · rw [if_pos b9] at h
    refine ev_icmp_ge_t (t := 32) (pc := 7) dX5_waitingInAll_7 (by decide) b9 ?_
    obtain rfl := Option.some.inj h
    obtain rfl := hE6 _ rfl
    exact ev_fg (L := [none, some (.inl s1.1), none]) (And.intro rfl True.intro) (hx7)
  · rw [if_neg b9] at h
    refine ev_icmp_ge_f (t := 32) (pc := 7) dX5_waitingInAll_7 (by decide) b9 ?_
    obtain ⟨v10, e11, h⟩ := rb_bd h
    refine ev_aload_n (v := 2) (pc := 10) dX5_waitingInAll_10 rfl ?_
    refine ev_getr (q := 5) (pc := 11) dX5_waitingInAll_11 fl_RX5_9 rfl rfl ?_
    refine ev_sipush (v := 243) (pc := 14) dX5_waitingInAll_14 ks_243 ?_
    refine ev_iload_n (v := s1.2) (pc := 17) dX5_waitingInAll_17 rfl ?_
    refine ev_iadd (pc := 18) dX5_waitingInAll_18 ?_
    refine ev_iald (pc := 19) dX5_waitingInAll_19 rfl e11 ?_
    obtain ⟨j12, e13, h⟩ := rb_bd h
    have hj14 : rb_Ev RX5 cX5_waitingInAll 3 (some .int) none 0 (some o) μ 26 [some (.inr 2), some (.inl j12), some (.inl s1.2)] [] (rb_ov μ [(5, c)]) := by
      refine ev_iinc (x := s1.2) (v := (s1.2 + 1)) (L' := [some (.inr 2), some (.inl j12), some (.inl (s1.2 + 1))]) (pc := 26) dX5_waitingInAll_26 rfl (kx_1 _) (Nat.le_of_ble_eq_true rfl) rfl ?_
      refine ev_goto (t := 4) (pc := 29) dX5_waitingInAll_29 (by decide) ?_
      obtain rfl := Option.some.inj h
      exact ih5 (j12, (s1.2 + 1)) rfl
    replace h := e13
    by_cases b15 : v10 < 0
    · rw [if_pos b15] at h
      refine ev_if_lt_t (t := 26) (pc := 20) dX5_waitingInAll_20 (by decide) b15 ?_
      obtain rfl := Option.some.inj h
      exact hj14
    · rw [if_neg b15] at h
      refine ev_if_lt_f (t := 26) (pc := 20) dX5_waitingInAll_20 (by decide) b15 ?_
      refine ev_iinc (x := s1.1) (v := (s1.1 + 1)) (L' := [some (.inr 2), some (.inl (s1.1 + 1)), some (.inl s1.2)]) (pc := 23) dX5_waitingInAll_23 rfl (kx_1 _) (Nat.le_of_ble_eq_true rfl) rfl ?_
      obtain rfl := Option.some.inj h
      exact hj14
set_option maxHeartbeats 4000000 in
set_option maxRecDepth 20000 in
theorem ct1_X5_waitingInAll (μ : rb_Mem) (c : rb_Row) (o : Int32) (hc : μ 11 = c) (h : XX5_waitingInAll c = some o) : rb_Ct yX5_waitingInAll cX5_waitingInAll 3 (some .int) 0 [.inr 8] μ (some o) μ := by
  unfold XX5_waitingInAll at h
  have hini : rb_ov μ [(11, c)] = μ := rb_ov_sf _ _ (And.intro hc True.intro)
  have hfin := hini
  refine rb_cti (w := [(11, c)]) rfl pn_5 (Nat.le_of_ble_eq_true rfl) rfl hini ?_
  refine ev_iconst (v := 0) (pc := 0) dX5_waitingInAll_0 ki_0 ?_
  refine ev_istore_n (L' := [some (.inr 8), some (.inl 0), none]) (pc := 1) dX5_waitingInAll_1 (Nat.le_of_ble_eq_true rfl) rfl ?_
  refine ev_iconst (v := 0) (pc := 2) dX5_waitingInAll_2 ki_0 ?_
  refine ev_istore_n (L' := [some (.inr 8), some (.inl 0), some (.inl 0)]) (pc := 3) dX5_waitingInAll_3 (Nat.le_of_ble_eq_true rfl) rfl ?_
  obtain ⟨q2, l3, h⟩ := rb_bd h
  have hx7 : rb_Ev RX5 cX5_waitingInAll 3 (some .int) none 0 (some o) μ 32 [none, some (.inl q2), none] [] (rb_ov μ [(11, c)]) := by
    refine ev_iload_n (v := q2) (pc := 32) dX5_waitingInAll_32 rfl ?_
    obtain rfl := Option.some.inj h
    exact ev_iret (pc := 33) dX5_waitingInAll_33 rfl rfl rfl hfin
  refine rb_lp_ev (P := fun (s1 : Int32 × Int32) => rb_Ev RX5 cX5_waitingInAll 3 (some .int) none 0 (some o) μ 4 [some (.inr 8), some (.inl s1.1), some (.inl s1.2)] [] (rb_ov μ [(11, c)])) ?_ 100000 (0, 0) l3
  intro s1 y4 h ih5 hE6
  refine ev_iload_n (v := s1.2) (pc := 4) dX5_waitingInAll_4 rfl ?_
  refine ev_bipush (v := 28) (pc := 5) dX5_waitingInAll_5 kb_28 ?_
  by_cases b9 : 28 ≤ s1.2
  · rw [if_pos b9] at h
    refine ev_icmp_ge_t (t := 32) (pc := 7) dX5_waitingInAll_7 (by decide) b9 ?_
    obtain rfl := Option.some.inj h
    obtain rfl := hE6 _ rfl
    exact ev_fg (L := [none, some (.inl s1.1), none]) (And.intro rfl True.intro) (hx7)
  · rw [if_neg b9] at h
    refine ev_icmp_ge_f (t := 32) (pc := 7) dX5_waitingInAll_7 (by decide) b9 ?_
    obtain ⟨v10, e11, h⟩ := rb_bd h
    refine ev_aload_n (v := 8) (pc := 10) dX5_waitingInAll_10 rfl ?_
    refine ev_getr (q := 11) (pc := 11) dX5_waitingInAll_11 fl_RX5_9 rfl rfl ?_
    refine ev_sipush (v := 243) (pc := 14) dX5_waitingInAll_14 ks_243 ?_
    refine ev_iload_n (v := s1.2) (pc := 17) dX5_waitingInAll_17 rfl ?_
    refine ev_iadd (pc := 18) dX5_waitingInAll_18 ?_
    refine ev_iald (pc := 19) dX5_waitingInAll_19 rfl e11 ?_
    obtain ⟨j12, e13, h⟩ := rb_bd h
    have hj14 : rb_Ev RX5 cX5_waitingInAll 3 (some .int) none 0 (some o) μ 26 [some (.inr 8), some (.inl j12), some (.inl s1.2)] [] (rb_ov μ [(11, c)]) := by
      refine ev_iinc (x := s1.2) (v := (s1.2 + 1)) (L' := [some (.inr 8), some (.inl j12), some (.inl (s1.2 + 1))]) (pc := 26) dX5_waitingInAll_26 rfl (kx_1 _) (Nat.le_of_ble_eq_true rfl) rfl ?_
      refine ev_goto (t := 4) (pc := 29) dX5_waitingInAll_29 (by decide) ?_
      obtain rfl := Option.some.inj h
      exact ih5 (j12, (s1.2 + 1)) rfl
    replace h := e13
    by_cases b15 : v10 < 0
    · rw [if_pos b15] at h
      refine ev_if_lt_t (t := 26) (pc := 20) dX5_waitingInAll_20 (by decide) b15 ?_
      obtain rfl := Option.some.inj h
      exact hj14
    · rw [if_neg b15] at h
      refine ev_if_lt_f (t := 26) (pc := 20) dX5_waitingInAll_20 (by decide) b15 ?_
      refine ev_iinc (x := s1.1) (v := (s1.1 + 1)) (L' := [some (.inr 8), some (.inl (s1.1 + 1)), some (.inl s1.2)]) (pc := 23) dX5_waitingInAll_23 rfl (kx_1 _) (Nat.le_of_ble_eq_true rfl) rfl ?_
      obtain rfl := Option.some.inj h
      exact hj14
def XX1_bitsOf (c : rb_Row) (x0 : Int32) : Option (Int32) := (rb_rd c 773 (371 + x0)).bind fun v1 => some ((v1 ||| 4) ||| 8)
set_option maxHeartbeats 4000000 in
set_option maxRecDepth 20000 in
theorem ct0_X1_bitsOf (μ : rb_Mem) (c : rb_Row) (x0 : Int32) (o : Int32) (hc : μ 5 = c) (h : XX1_bitsOf c x0 = some o) : rb_Ct yX1_bitsOf cX1_bitsOf 2 (some .int) 0 [.inr 3, .inl x0] μ (some o) μ := by
  unfold XX1_bitsOf at h
  have hini : rb_ov μ [(5, c)] = μ := rb_ov_sf _ _ (And.intro hc True.intro)
  have hfin := hini
  refine rb_cti (w := [(5, c)]) rfl pn_1 (Nat.le_of_ble_eq_true rfl) rfl hini ?_
  obtain ⟨v1, e2, h⟩ := rb_bd h
  refine ev_aload_n (v := 3) (pc := 0) dX1_bitsOf_0 rfl ?_
  refine ev_getr (q := 5) (pc := 1) dX1_bitsOf_1 fl_RX1_9 rfl rfl ?_
  refine ev_sipush (v := 371) (pc := 4) dX1_bitsOf_4 ks_371 ?_
  refine ev_iload_n (v := x0) (pc := 7) dX1_bitsOf_7 rfl ?_
  refine ev_iadd (pc := 8) dX1_bitsOf_8 ?_
  refine ev_iald (pc := 9) dX1_bitsOf_9 rfl e2 ?_
  refine ev_iconst (v := 4) (pc := 10) dX1_bitsOf_10 ki_4 ?_
  refine ev_ior (pc := 11) dX1_bitsOf_11 ?_
  refine ev_bipush (v := 8) (pc := 12) dX1_bitsOf_12 kb_8 ?_
  refine ev_ior (pc := 14) dX1_bitsOf_14 ?_
  obtain rfl := Option.some.inj h
  exact ev_iret (pc := 15) dX1_bitsOf_15 rfl rfl rfl hfin
set_option maxHeartbeats 4000000 in
set_option maxRecDepth 20000 in
theorem ct1_X1_bitsOf (μ : rb_Mem) (c : rb_Row) (x0 : Int32) (o : Int32) (hc : μ 11 = c) (h : XX1_bitsOf c x0 = some o) : rb_Ct yX1_bitsOf cX1_bitsOf 2 (some .int) 0 [.inr 9, .inl x0] μ (some o) μ := by
  unfold XX1_bitsOf at h
  have hini : rb_ov μ [(11, c)] = μ := rb_ov_sf _ _ (And.intro hc True.intro)
  have hfin := hini
  refine rb_cti (w := [(11, c)]) rfl pn_1 (Nat.le_of_ble_eq_true rfl) rfl hini ?_
  obtain ⟨v1, e2, h⟩ := rb_bd h
  refine ev_aload_n (v := 9) (pc := 0) dX1_bitsOf_0 rfl ?_
  refine ev_getr (q := 11) (pc := 1) dX1_bitsOf_1 fl_RX1_9 rfl rfl ?_
  refine ev_sipush (v := 371) (pc := 4) dX1_bitsOf_4 ks_371 ?_
  refine ev_iload_n (v := x0) (pc := 7) dX1_bitsOf_7 rfl ?_
  refine ev_iadd (pc := 8) dX1_bitsOf_8 ?_
  refine ev_iald (pc := 9) dX1_bitsOf_9 rfl e2 ?_
  refine ev_iconst (v := 4) (pc := 10) dX1_bitsOf_10 ki_4 ?_
  refine ev_ior (pc := 11) dX1_bitsOf_11 ?_
  refine ev_bipush (v := 8) (pc := 12) dX1_bitsOf_12 kb_8 ?_
  refine ev_ior (pc := 14) dX1_bitsOf_14 ?_
  obtain rfl := Option.some.inj h
  exact ev_iret (pc := 15) dX1_bitsOf_15 rfl rfl rfl hfin
def XX1_heeds (c : rb_Row) (x0 : Int32) (x1 : Int32) : Option (Int32) := (rb_rd c 773 (419 + x0)).bind fun v1 => if v1 = 0 then some (rb_nz 0) else (XX1_bitsOf c x0).bind fun t4 => if (t4 &&& x1) = 0 then some (rb_nz 0) else some (rb_nz 1)
set_option maxHeartbeats 4000000 in
set_option maxRecDepth 20000 in
theorem ct0_X1_heeds (μ : rb_Mem) (c : rb_Row) (x0 : Int32) (x1 : Int32) (o : Int32) (hc : μ 5 = c) (h : XX1_heeds c x0 x1 = some o) : rb_Ct yX1_heeds cX1_heeds 3 (some .boolean) 1 [.inr 3, .inl x0, .inl x1] μ (some o) μ := by
  unfold XX1_heeds at h
  have hini : rb_ov μ [(5, c)] = μ := rb_ov_sf _ _ (And.intro hc True.intro)
  have hfin := hini
  refine rb_ctz (w := [(5, c)]) rfl pn_1 (Nat.le_of_ble_eq_true rfl) rfl hini ?_
  obtain ⟨v1, e2, h⟩ := rb_bd h
  refine ev_aload_n (v := 3) (pc := 0) dX1_heeds_0 rfl ?_
  refine ev_getr (q := 5) (pc := 1) dX1_heeds_1 fl_RX1_9 rfl rfl ?_
  refine ev_sipush (v := 419) (pc := 4) dX1_heeds_4 ks_419 ?_
  refine ev_iload_n (v := x0) (pc := 7) dX1_heeds_7 rfl ?_
  refine ev_iadd (pc := 8) dX1_heeds_8 ?_
  refine ev_iald (pc := 9) dX1_heeds_9 rfl e2 ?_
  by_cases b3 : v1 = 0
  · rw [if_pos b3] at h
    refine ev_if_eq_t (t := 27) (pc := 10) dX1_heeds_10 (by decide) b3 ?_
    refine ev_iconst (v := 0) (pc := 27) dX1_heeds_27 ki_0 ?_
    obtain rfl := Option.some.inj h
    exact ev_iret (pc := 28) dX1_heeds_28 rfl rfl rfl hfin
  · rw [if_neg b3] at h
    refine ev_if_eq_f (t := 27) (pc := 10) dX1_heeds_10 (by decide) b3 ?_
    obtain ⟨t4, e5, h⟩ := rb_bd h
    refine ev_aload_n (v := 3) (pc := 13) dX1_heeds_13 rfl ?_
    refine ev_iload_n (v := x0) (pc := 14) dX1_heeds_14 rfl ?_
    refine ev_cVi1 (pc := 15) dX1_heeds_15 mv_X1_bitsOf lk_RX1_29 rp_3 (ct0_X1_bitsOf _ _ _ _ rfl e5) (Nat.le_of_ble_eq_true rfl) (Nat.le_of_ble_eq_true rfl) ?_
    refine ev_iload_n (v := x1) (pc := 18) dX1_heeds_18 rfl ?_
    refine ev_iand (pc := 19) dX1_heeds_19 ?_
    by_cases b6 : (t4 &&& x1) = 0
    · rw [if_pos b6] at h
      refine ev_if_eq_t (t := 27) (pc := 20) dX1_heeds_20 (by decide) b6 ?_
      refine ev_iconst (v := 0) (pc := 27) dX1_heeds_27 ki_0 ?_
      obtain rfl := Option.some.inj h
      exact ev_iret (pc := 28) dX1_heeds_28 rfl rfl rfl hfin
    · rw [if_neg b6] at h
      refine ev_if_eq_f (t := 27) (pc := 20) dX1_heeds_20 (by decide) b6 ?_
      refine ev_iconst (v := 1) (pc := 23) dX1_heeds_23 ki_1 ?_
      refine ev_goto (t := 28) (pc := 24) dX1_heeds_24 (by decide) ?_
      obtain rfl := Option.some.inj h
      exact ev_iret (pc := 28) dX1_heeds_28 rfl rfl rfl hfin
set_option maxHeartbeats 4000000 in
set_option maxRecDepth 20000 in
theorem ct1_X1_heeds (μ : rb_Mem) (c : rb_Row) (x0 : Int32) (x1 : Int32) (o : Int32) (hc : μ 11 = c) (h : XX1_heeds c x0 x1 = some o) : rb_Ct yX1_heeds cX1_heeds 3 (some .boolean) 1 [.inr 9, .inl x0, .inl x1] μ (some o) μ := by
  unfold XX1_heeds at h
  have hini : rb_ov μ [(11, c)] = μ := rb_ov_sf _ _ (And.intro hc True.intro)
  have hfin := hini
  refine rb_ctz (w := [(11, c)]) rfl pn_1 (Nat.le_of_ble_eq_true rfl) rfl hini ?_
  obtain ⟨v1, e2, h⟩ := rb_bd h
  refine ev_aload_n (v := 9) (pc := 0) dX1_heeds_0 rfl ?_
  refine ev_getr (q := 11) (pc := 1) dX1_heeds_1 fl_RX1_9 rfl rfl ?_
  refine ev_sipush (v := 419) (pc := 4) dX1_heeds_4 ks_419 ?_
  refine ev_iload_n (v := x0) (pc := 7) dX1_heeds_7 rfl ?_
  refine ev_iadd (pc := 8) dX1_heeds_8 ?_
  refine ev_iald (pc := 9) dX1_heeds_9 rfl e2 ?_
  by_cases b3 : v1 = 0
  · rw [if_pos b3] at h
    refine ev_if_eq_t (t := 27) (pc := 10) dX1_heeds_10 (by decide) b3 ?_
    refine ev_iconst (v := 0) (pc := 27) dX1_heeds_27 ki_0 ?_
    obtain rfl := Option.some.inj h
    exact ev_iret (pc := 28) dX1_heeds_28 rfl rfl rfl hfin
  · rw [if_neg b3] at h
    refine ev_if_eq_f (t := 27) (pc := 10) dX1_heeds_10 (by decide) b3 ?_
    obtain ⟨t4, e5, h⟩ := rb_bd h
    refine ev_aload_n (v := 9) (pc := 13) dX1_heeds_13 rfl ?_
    refine ev_iload_n (v := x0) (pc := 14) dX1_heeds_14 rfl ?_
    refine ev_cVi1 (pc := 15) dX1_heeds_15 mv_X1_bitsOf lk_RX1_29 rp_9 (ct1_X1_bitsOf _ _ _ _ rfl e5) (Nat.le_of_ble_eq_true rfl) (Nat.le_of_ble_eq_true rfl) ?_
    refine ev_iload_n (v := x1) (pc := 18) dX1_heeds_18 rfl ?_
    refine ev_iand (pc := 19) dX1_heeds_19 ?_
    by_cases b6 : (t4 &&& x1) = 0
    · rw [if_pos b6] at h
      refine ev_if_eq_t (t := 27) (pc := 20) dX1_heeds_20 (by decide) b6 ?_
      refine ev_iconst (v := 0) (pc := 27) dX1_heeds_27 ki_0 ?_
      obtain rfl := Option.some.inj h
      exact ev_iret (pc := 28) dX1_heeds_28 rfl rfl rfl hfin
    · rw [if_neg b6] at h
      refine ev_if_eq_f (t := 27) (pc := 20) dX1_heeds_20 (by decide) b6 ?_
      refine ev_iconst (v := 1) (pc := 23) dX1_heeds_23 ki_1 ?_
      refine ev_goto (t := 28) (pc := 24) dX1_heeds_24 (by decide) ?_
      obtain rfl := Option.some.inj h
      exact ev_iret (pc := 28) dX1_heeds_28 rfl rfl rfl hfin
def XX1_putOnList (c : rb_Row) (x0 : Int32) : Option (rb_Row) := (rb_rd c 773 (443 + x0)).bind fun v1 => if 0 ≤ v1 then some c else (rb_rd c 773 1).bind fun v4 => (rb_wr c 773 1 (v4 + 1)).bind fun c6 => (rb_wr c6 773 (443 + x0) v4).bind fun c8 => (rb_wr c8 773 (515 + x0) 0).bind fun c10 => some c10
set_option maxHeartbeats 4000000 in
set_option maxRecDepth 20000 in
theorem ct0_X1_putOnList (μ : rb_Mem) (c : rb_Row) (x0 : Int32) (o : rb_Row) (hc : μ 5 = c) (h : XX1_putOnList c x0 = some o) : rb_Ct yX1_putOnList cX1_putOnList 2 none 0 [.inr 3, .inl x0] μ none (rb_ov μ [(5, o)]) := by
  unfold XX1_putOnList at h
  have hini : rb_ov μ [(5, c)] = μ := rb_ov_sf _ _ (And.intro hc True.intro)
  have hfin : ∀ u0 : rb_Row, rb_ov μ [(5, u0)] = rb_ov μ [(5, u0)] := fun u0 => rfl
  refine rb_ctv (w := [(5, c)]) rfl pn_1 (Nat.le_of_ble_eq_true rfl) rfl hini ?_
  obtain ⟨v1, e2, h⟩ := rb_bd h
  refine ev_aload_n (v := 3) (pc := 0) dX1_putOnList_0 rfl ?_
  refine ev_getr (q := 5) (pc := 1) dX1_putOnList_1 fl_RX1_9 rfl rfl ?_
  refine ev_sipush (v := 443) (pc := 4) dX1_putOnList_4 ks_443 ?_
  refine ev_iload_n (v := x0) (pc := 7) dX1_putOnList_7 rfl ?_
  refine ev_iadd (pc := 8) dX1_putOnList_8 ?_
  refine ev_iald (pc := 9) dX1_putOnList_9 rfl e2 ?_
  by_cases b3 : 0 ≤ v1
  · rw [if_pos b3] at h
    refine ev_if_ge_t (t := 45) (pc := 10) dX1_putOnList_10 (by decide) b3 ?_
    obtain rfl := Option.some.inj h
    exact ev_ret (pc := 45) dX1_putOnList_45 rfl rfl (hfin _)
  · rw [if_neg b3] at h
    refine ev_if_ge_f (t := 45) (pc := 10) dX1_putOnList_10 (by decide) b3 ?_
    obtain ⟨v4, e5, h⟩ := rb_bd h
    obtain ⟨c6, e7, h⟩ := rb_bd h
    obtain ⟨c8, e9, h⟩ := rb_bd h
    obtain ⟨c10, e11, h⟩ := rb_bd h
    refine ev_aload_n (v := 3) (pc := 13) dX1_putOnList_13 rfl ?_
    refine ev_getr (q := 5) (pc := 14) dX1_putOnList_14 fl_RX1_9 rfl rfl ?_
    refine ev_sipush (v := 443) (pc := 17) dX1_putOnList_17 ks_443 ?_
    refine ev_iload_n (v := x0) (pc := 20) dX1_putOnList_20 rfl ?_
    refine ev_iadd (pc := 21) dX1_putOnList_21 ?_
    refine ev_aload_n (v := 3) (pc := 22) dX1_putOnList_22 rfl ?_
    refine ev_getr (q := 5) (pc := 23) dX1_putOnList_23 fl_RX1_9 rfl rfl ?_
    refine ev_iconst (v := 1) (pc := 26) dX1_putOnList_26 ki_1 ?_
    refine ev_dup2 (pc := 27) dX1_putOnList_27 ?_
    refine ev_iald (pc := 28) dX1_putOnList_28 rfl e5 ?_
    refine ev_dup_x2 (pc := 29) dX1_putOnList_29 ?_
    refine ev_iconst (v := 1) (pc := 30) dX1_putOnList_30 ki_1 ?_
    refine ev_iadd (pc := 31) dX1_putOnList_31 ?_
    refine ev_iast (w' := [(5, c6)]) (pc := 32) dX1_putOnList_32 rfl e7 rfl ?_
    refine ev_iast (w' := [(5, c8)]) (pc := 33) dX1_putOnList_33 rfl e9 rfl ?_
    refine ev_aload_n (v := 3) (pc := 34) dX1_putOnList_34 rfl ?_
    refine ev_getr (q := 5) (pc := 35) dX1_putOnList_35 fl_RX1_9 rfl rfl ?_
    refine ev_sipush (v := 515) (pc := 38) dX1_putOnList_38 ks_515 ?_
    refine ev_iload_n (v := x0) (pc := 41) dX1_putOnList_41 rfl ?_
    refine ev_iadd (pc := 42) dX1_putOnList_42 ?_
    refine ev_iconst (v := 0) (pc := 43) dX1_putOnList_43 ki_0 ?_
    refine ev_iast (w' := [(5, c10)]) (pc := 44) dX1_putOnList_44 rfl e11 rfl ?_
    obtain rfl := Option.some.inj h
    exact ev_ret (pc := 45) dX1_putOnList_45 rfl rfl (hfin _)
set_option maxHeartbeats 4000000 in
set_option maxRecDepth 20000 in
theorem ct1_X1_putOnList (μ : rb_Mem) (c : rb_Row) (x0 : Int32) (o : rb_Row) (hc : μ 11 = c) (h : XX1_putOnList c x0 = some o) : rb_Ct yX1_putOnList cX1_putOnList 2 none 0 [.inr 9, .inl x0] μ none (rb_ov μ [(11, o)]) := by
  unfold XX1_putOnList at h
  have hini : rb_ov μ [(11, c)] = μ := rb_ov_sf _ _ (And.intro hc True.intro)
  have hfin : ∀ u0 : rb_Row, rb_ov μ [(11, u0)] = rb_ov μ [(11, u0)] := fun u0 => rfl
  refine rb_ctv (w := [(11, c)]) rfl pn_1 (Nat.le_of_ble_eq_true rfl) rfl hini ?_
  obtain ⟨v1, e2, h⟩ := rb_bd h
  refine ev_aload_n (v := 9) (pc := 0) dX1_putOnList_0 rfl ?_
  refine ev_getr (q := 11) (pc := 1) dX1_putOnList_1 fl_RX1_9 rfl rfl ?_
  refine ev_sipush (v := 443) (pc := 4) dX1_putOnList_4 ks_443 ?_
  refine ev_iload_n (v := x0) (pc := 7) dX1_putOnList_7 rfl ?_
  refine ev_iadd (pc := 8) dX1_putOnList_8 ?_
  refine ev_iald (pc := 9) dX1_putOnList_9 rfl e2 ?_
  by_cases b3 : 0 ≤ v1
  · rw [if_pos b3] at h
    refine ev_if_ge_t (t := 45) (pc := 10) dX1_putOnList_10 (by decide) b3 ?_
    obtain rfl := Option.some.inj h
    exact ev_ret (pc := 45) dX1_putOnList_45 rfl rfl (hfin _)
  · rw [if_neg b3] at h
    refine ev_if_ge_f (t := 45) (pc := 10) dX1_putOnList_10 (by decide) b3 ?_
    obtain ⟨v4, e5, h⟩ := rb_bd h
    obtain ⟨c6, e7, h⟩ := rb_bd h
    obtain ⟨c8, e9, h⟩ := rb_bd h
    obtain ⟨c10, e11, h⟩ := rb_bd h
    refine ev_aload_n (v := 9) (pc := 13) dX1_putOnList_13 rfl ?_
    refine ev_getr (q := 11) (pc := 14) dX1_putOnList_14 fl_RX1_9 rfl rfl ?_
    refine ev_sipush (v := 443) (pc := 17) dX1_putOnList_17 ks_443 ?_
    refine ev_iload_n (v := x0) (pc := 20) dX1_putOnList_20 rfl ?_
    refine ev_iadd (pc := 21) dX1_putOnList_21 ?_
    refine ev_aload_n (v := 9) (pc := 22) dX1_putOnList_22 rfl ?_
    refine ev_getr (q := 11) (pc := 23) dX1_putOnList_23 fl_RX1_9 rfl rfl ?_
    refine ev_iconst (v := 1) (pc := 26) dX1_putOnList_26 ki_1 ?_
    refine ev_dup2 (pc := 27) dX1_putOnList_27 ?_
    refine ev_iald (pc := 28) dX1_putOnList_28 rfl e5 ?_
    refine ev_dup_x2 (pc := 29) dX1_putOnList_29 ?_
    refine ev_iconst (v := 1) (pc := 30) dX1_putOnList_30 ki_1 ?_
    refine ev_iadd (pc := 31) dX1_putOnList_31 ?_
    refine ev_iast (w' := [(11, c6)]) (pc := 32) dX1_putOnList_32 rfl e7 rfl ?_
    refine ev_iast (w' := [(11, c8)]) (pc := 33) dX1_putOnList_33 rfl e9 rfl ?_
    refine ev_aload_n (v := 9) (pc := 34) dX1_putOnList_34 rfl ?_
    refine ev_getr (q := 11) (pc := 35) dX1_putOnList_35 fl_RX1_9 rfl rfl ?_
    refine ev_sipush (v := 515) (pc := 38) dX1_putOnList_38 ks_515 ?_
    refine ev_iload_n (v := x0) (pc := 41) dX1_putOnList_41 rfl ?_
    refine ev_iadd (pc := 42) dX1_putOnList_42 ?_
    refine ev_iconst (v := 0) (pc := 43) dX1_putOnList_43 ki_0 ?_
    refine ev_iast (w' := [(11, c10)]) (pc := 44) dX1_putOnList_44 rfl e11 rfl ?_
    obtain rfl := Option.some.inj h
    exact ev_ret (pc := 45) dX1_putOnList_45 rfl rfl (hfin _)
def XX4_firstSleeper (c : rb_Row) (x0 : Int32) : Option (Int32) := (rb_lp (ρ := Int32) (fun (s1 : Int32 × Int32) => if 6 ≤ s1.2 then some (.inr s1.1) else (rb_rd c 773 (539 + s1.2)).bind fun v10 => ((if v10 = x0 then if s1.1 < 0 then some s1.2 else (rb_rd c 773 (545 + s1.2)).bind fun v17 => (rb_rd c 773 (545 + s1.1)).bind fun v19 => if v19 ≤ v17 then some s1.1 else some s1.2 else some s1.1) : Option (Int32)).bind fun j12 => some (.inl (j12, (s1.2 + 1)))) 100000 ((-1), 0)).bind fun q2 => some q2
set_option maxHeartbeats 4000000 in
set_option maxRecDepth 20000 in
theorem ct0_X4_firstSleeper (μ : rb_Mem) (c : rb_Row) (x0 : Int32) (o : Int32) (hc : μ 5 = c) (h : XX4_firstSleeper c x0 = some o) : rb_Ct yX4_firstSleeper cX4_firstSleeper 4 (some .int) 0 [.inr 4, .inl x0] μ (some o) μ := by
  unfold XX4_firstSleeper at h
  have hini : rb_ov μ [(5, c)] = μ := rb_ov_sf _ _ (And.intro hc True.intro)
  have hfin := hini
  refine rb_cti (w := [(5, c)]) rfl pn_4 (Nat.le_of_ble_eq_true rfl) rfl hini ?_
  refine ev_iconst (v := (-1)) (pc := 0) dX4_firstSleeper_0 ki_m1 ?_
  refine ev_istore_n (L' := [some (.inr 4), some (.inl x0), some (.inl (-1)), none]) (pc := 1) dX4_firstSleeper_1 (Nat.le_of_ble_eq_true rfl) rfl ?_
  refine ev_iconst (v := 0) (pc := 2) dX4_firstSleeper_2 ki_0 ?_
  refine ev_istore_n (L' := [some (.inr 4), some (.inl x0), some (.inl (-1)), some (.inl 0)]) (pc := 3) dX4_firstSleeper_3 (Nat.le_of_ble_eq_true rfl) rfl ?_
  obtain ⟨q2, l3, h⟩ := rb_bd h
  have hx7 : rb_Ev RX4 cX4_firstSleeper 4 (some .int) none 0 (some o) μ 59 [none, none, some (.inl q2), none] [] (rb_ov μ [(5, c)]) := by
    refine ev_iload_n (v := q2) (pc := 59) dX4_firstSleeper_59 rfl ?_
    obtain rfl := Option.some.inj h
    exact ev_iret (pc := 60) dX4_firstSleeper_60 rfl rfl rfl hfin
  refine rb_lp_ev (P := fun (s1 : Int32 × Int32) => rb_Ev RX4 cX4_firstSleeper 4 (some .int) none 0 (some o) μ 4 [some (.inr 4), some (.inl x0), some (.inl s1.1), some (.inl s1.2)] [] (rb_ov μ [(5, c)])) ?_ 100000 ((-1), 0) l3
  intro s1 y4 h ih5 hE6
  refine ev_iload_n (v := s1.2) (pc := 4) dX4_firstSleeper_4 rfl ?_
  refine ev_bipush (v := 6) (pc := 5) dX4_firstSleeper_5 kb_6 ?_
  by_cases b9 : 6 ≤ s1.2
  · rw [if_pos b9] at h
    refine ev_icmp_ge_t (t := 59) (pc := 7) dX4_firstSleeper_7 (by decide) b9 ?_
    obtain rfl := Option.some.inj h
    obtain rfl := hE6 _ rfl
    exact ev_fg (L := [none, none, some (.inl s1.1), none]) (And.intro rfl True.intro) (hx7)
  · rw [if_neg b9] at h
    refine ev_icmp_ge_f (t := 59) (pc := 7) dX4_firstSleeper_7 (by decide) b9 ?_
    obtain ⟨v10, e11, h⟩ := rb_bd h
    refine ev_aload_n (v := 4) (pc := 10) dX4_firstSleeper_10 rfl ?_
    refine ev_getr (q := 5) (pc := 11) dX4_firstSleeper_11 fl_RX4_9 rfl rfl ?_
    refine ev_sipush (v := 539) (pc := 14) dX4_firstSleeper_14 ks_539 ?_
    refine ev_iload_n (v := s1.2) (pc := 17) dX4_firstSleeper_17 rfl ?_
    refine ev_iadd (pc := 18) dX4_firstSleeper_18 ?_
    refine ev_iald (pc := 19) dX4_firstSleeper_19 rfl e11 ?_
    refine ev_iload_n (v := x0) (pc := 20) dX4_firstSleeper_20 rfl ?_
    obtain ⟨j12, e13, h⟩ := rb_bd h
    have hj14 : rb_Ev RX4 cX4_firstSleeper 4 (some .int) none 0 (some o) μ 53 [some (.inr 4), some (.inl x0), some (.inl j12), some (.inl s1.2)] [] (rb_ov μ [(5, c)]) := by
      refine ev_iinc (x := s1.2) (v := (s1.2 + 1)) (L' := [some (.inr 4), some (.inl x0), some (.inl j12), some (.inl (s1.2 + 1))]) (pc := 53) dX4_firstSleeper_53 rfl (kx_1 _) (Nat.le_of_ble_eq_true rfl) rfl ?_
      refine ev_goto (t := 4) (pc := 56) dX4_firstSleeper_56 (by decide) ?_
      obtain rfl := Option.some.inj h
      exact ih5 (j12, (s1.2 + 1)) rfl
    replace h := e13
    by_cases b15 : v10 = x0
    · rw [if_pos b15] at h
      refine ev_icmp_ne_f (t := 53) (pc := 21) dX4_firstSleeper_21 (by decide) b15 ?_
      refine ev_iload_n (v := s1.1) (pc := 24) dX4_firstSleeper_24 rfl ?_
      by_cases b16 : s1.1 < 0
      · rw [if_pos b16] at h
        refine ev_if_lt_t (t := 51) (pc := 25) dX4_firstSleeper_25 (by decide) b16 ?_
        refine ev_iload_n (v := s1.2) (pc := 51) dX4_firstSleeper_51 rfl ?_
        refine ev_istore_n (L' := [some (.inr 4), some (.inl x0), some (.inl s1.2), some (.inl s1.2)]) (pc := 52) dX4_firstSleeper_52 (Nat.le_of_ble_eq_true rfl) rfl ?_
        obtain rfl := Option.some.inj h
        exact hj14
      · rw [if_neg b16] at h
        refine ev_if_lt_f (t := 51) (pc := 25) dX4_firstSleeper_25 (by decide) b16 ?_
        obtain ⟨v17, e18, h⟩ := rb_bd h
        obtain ⟨v19, e20, h⟩ := rb_bd h
        refine ev_aload_n (v := 4) (pc := 28) dX4_firstSleeper_28 rfl ?_
        refine ev_getr (q := 5) (pc := 29) dX4_firstSleeper_29 fl_RX4_9 rfl rfl ?_
        refine ev_sipush (v := 545) (pc := 32) dX4_firstSleeper_32 ks_545 ?_
        refine ev_iload_n (v := s1.2) (pc := 35) dX4_firstSleeper_35 rfl ?_
        refine ev_iadd (pc := 36) dX4_firstSleeper_36 ?_
        refine ev_iald (pc := 37) dX4_firstSleeper_37 rfl e18 ?_
        refine ev_aload_n (v := 4) (pc := 38) dX4_firstSleeper_38 rfl ?_
        refine ev_getr (q := 5) (pc := 39) dX4_firstSleeper_39 fl_RX4_9 rfl rfl ?_
        refine ev_sipush (v := 545) (pc := 42) dX4_firstSleeper_42 ks_545 ?_
        refine ev_iload_n (v := s1.1) (pc := 45) dX4_firstSleeper_45 rfl ?_
        refine ev_iadd (pc := 46) dX4_firstSleeper_46 ?_
        refine ev_iald (pc := 47) dX4_firstSleeper_47 rfl e20 ?_
        by_cases b21 : v19 ≤ v17
        · rw [if_pos b21] at h
          refine ev_icmp_ge_t (t := 53) (pc := 48) dX4_firstSleeper_48 (by decide) b21 ?_
          obtain rfl := Option.some.inj h
          exact hj14
        · rw [if_neg b21] at h
          refine ev_icmp_ge_f (t := 53) (pc := 48) dX4_firstSleeper_48 (by decide) b21 ?_
          refine ev_iload_n (v := s1.2) (pc := 51) dX4_firstSleeper_51 rfl ?_
          refine ev_istore_n (L' := [some (.inr 4), some (.inl x0), some (.inl s1.2), some (.inl s1.2)]) (pc := 52) dX4_firstSleeper_52 (Nat.le_of_ble_eq_true rfl) rfl ?_
          obtain rfl := Option.some.inj h
          exact hj14
    · rw [if_neg b15] at h
      refine ev_icmp_ne_t (t := 53) (pc := 21) dX4_firstSleeper_21 (by decide) b15 ?_
      obtain rfl := Option.some.inj h
      exact hj14
set_option maxHeartbeats 4000000 in
set_option maxRecDepth 20000 in
theorem ct1_X4_firstSleeper (μ : rb_Mem) (c : rb_Row) (x0 : Int32) (o : Int32) (hc : μ 11 = c) (h : XX4_firstSleeper c x0 = some o) : rb_Ct yX4_firstSleeper cX4_firstSleeper 4 (some .int) 0 [.inr 10, .inl x0] μ (some o) μ := by
  unfold XX4_firstSleeper at h
  have hini : rb_ov μ [(11, c)] = μ := rb_ov_sf _ _ (And.intro hc True.intro)
  have hfin := hini
  refine rb_cti (w := [(11, c)]) rfl pn_4 (Nat.le_of_ble_eq_true rfl) rfl hini ?_
  refine ev_iconst (v := (-1)) (pc := 0) dX4_firstSleeper_0 ki_m1 ?_
  refine ev_istore_n (L' := [some (.inr 10), some (.inl x0), some (.inl (-1)), none]) (pc := 1) dX4_firstSleeper_1 (Nat.le_of_ble_eq_true rfl) rfl ?_
  refine ev_iconst (v := 0) (pc := 2) dX4_firstSleeper_2 ki_0 ?_
  refine ev_istore_n (L' := [some (.inr 10), some (.inl x0), some (.inl (-1)), some (.inl 0)]) (pc := 3) dX4_firstSleeper_3 (Nat.le_of_ble_eq_true rfl) rfl ?_
  obtain ⟨q2, l3, h⟩ := rb_bd h
  have hx7 : rb_Ev RX4 cX4_firstSleeper 4 (some .int) none 0 (some o) μ 59 [none, none, some (.inl q2), none] [] (rb_ov μ [(11, c)]) := by
    refine ev_iload_n (v := q2) (pc := 59) dX4_firstSleeper_59 rfl ?_
    obtain rfl := Option.some.inj h
    exact ev_iret (pc := 60) dX4_firstSleeper_60 rfl rfl rfl hfin
  refine rb_lp_ev (P := fun (s1 : Int32 × Int32) => rb_Ev RX4 cX4_firstSleeper 4 (some .int) none 0 (some o) μ 4 [some (.inr 10), some (.inl x0), some (.inl s1.1), some (.inl s1.2)] [] (rb_ov μ [(11, c)])) ?_ 100000 ((-1), 0) l3
  intro s1 y4 h ih5 hE6
  refine ev_iload_n (v := s1.2) (pc := 4) dX4_firstSleeper_4 rfl ?_
  refine ev_bipush (v := 6) (pc := 5) dX4_firstSleeper_5 kb_6 ?_
  by_cases b9 : 6 ≤ s1.2
  · rw [if_pos b9] at h
    refine ev_icmp_ge_t (t := 59) (pc := 7) dX4_firstSleeper_7 (by decide) b9 ?_
    obtain rfl := Option.some.inj h
    obtain rfl := hE6 _ rfl
    exact ev_fg (L := [none, none, some (.inl s1.1), none]) (And.intro rfl True.intro) (hx7)
  · rw [if_neg b9] at h
    refine ev_icmp_ge_f (t := 59) (pc := 7) dX4_firstSleeper_7 (by decide) b9 ?_
    obtain ⟨v10, e11, h⟩ := rb_bd h
    refine ev_aload_n (v := 10) (pc := 10) dX4_firstSleeper_10 rfl ?_
    refine ev_getr (q := 11) (pc := 11) dX4_firstSleeper_11 fl_RX4_9 rfl rfl ?_
    refine ev_sipush (v := 539) (pc := 14) dX4_firstSleeper_14 ks_539 ?_
    refine ev_iload_n (v := s1.2) (pc := 17) dX4_firstSleeper_17 rfl ?_
    refine ev_iadd (pc := 18) dX4_firstSleeper_18 ?_
    refine ev_iald (pc := 19) dX4_firstSleeper_19 rfl e11 ?_
    refine ev_iload_n (v := x0) (pc := 20) dX4_firstSleeper_20 rfl ?_
    obtain ⟨j12, e13, h⟩ := rb_bd h
    have hj14 : rb_Ev RX4 cX4_firstSleeper 4 (some .int) none 0 (some o) μ 53 [some (.inr 10), some (.inl x0), some (.inl j12), some (.inl s1.2)] [] (rb_ov μ [(11, c)]) := by
      refine ev_iinc (x := s1.2) (v := (s1.2 + 1)) (L' := [some (.inr 10), some (.inl x0), some (.inl j12), some (.inl (s1.2 + 1))]) (pc := 53) dX4_firstSleeper_53 rfl (kx_1 _) (Nat.le_of_ble_eq_true rfl) rfl ?_
      refine ev_goto (t := 4) (pc := 56) dX4_firstSleeper_56 (by decide) ?_
      obtain rfl := Option.some.inj h
      exact ih5 (j12, (s1.2 + 1)) rfl
    replace h := e13
    by_cases b15 : v10 = x0
    · rw [if_pos b15] at h
      refine ev_icmp_ne_f (t := 53) (pc := 21) dX4_firstSleeper_21 (by decide) b15 ?_
      refine ev_iload_n (v := s1.1) (pc := 24) dX4_firstSleeper_24 rfl ?_
      by_cases b16 : s1.1 < 0
      · rw [if_pos b16] at h
        refine ev_if_lt_t (t := 51) (pc := 25) dX4_firstSleeper_25 (by decide) b16 ?_
        refine ev_iload_n (v := s1.2) (pc := 51) dX4_firstSleeper_51 rfl ?_
        refine ev_istore_n (L' := [some (.inr 10), some (.inl x0), some (.inl s1.2), some (.inl s1.2)]) (pc := 52) dX4_firstSleeper_52 (Nat.le_of_ble_eq_true rfl) rfl ?_
        obtain rfl := Option.some.inj h
        exact hj14
      · rw [if_neg b16] at h
        refine ev_if_lt_f (t := 51) (pc := 25) dX4_firstSleeper_25 (by decide) b16 ?_
        obtain ⟨v17, e18, h⟩ := rb_bd h
        obtain ⟨v19, e20, h⟩ := rb_bd h
        refine ev_aload_n (v := 10) (pc := 28) dX4_firstSleeper_28 rfl ?_
        refine ev_getr (q := 11) (pc := 29) dX4_firstSleeper_29 fl_RX4_9 rfl rfl ?_
        refine ev_sipush (v := 545) (pc := 32) dX4_firstSleeper_32 ks_545 ?_
        refine ev_iload_n (v := s1.2) (pc := 35) dX4_firstSleeper_35 rfl ?_
        refine ev_iadd (pc := 36) dX4_firstSleeper_36 ?_
        refine ev_iald (pc := 37) dX4_firstSleeper_37 rfl e18 ?_
        refine ev_aload_n (v := 10) (pc := 38) dX4_firstSleeper_38 rfl ?_
        refine ev_getr (q := 11) (pc := 39) dX4_firstSleeper_39 fl_RX4_9 rfl rfl ?_
        refine ev_sipush (v := 545) (pc := 42) dX4_firstSleeper_42 ks_545 ?_
        refine ev_iload_n (v := s1.1) (pc := 45) dX4_firstSleeper_45 rfl ?_
        refine ev_iadd (pc := 46) dX4_firstSleeper_46 ?_
        refine ev_iald (pc := 47) dX4_firstSleeper_47 rfl e20 ?_
        by_cases b21 : v19 ≤ v17
        · rw [if_pos b21] at h
          refine ev_icmp_ge_t (t := 53) (pc := 48) dX4_firstSleeper_48 (by decide) b21 ?_
          obtain rfl := Option.some.inj h
          exact hj14
        · rw [if_neg b21] at h
          refine ev_icmp_ge_f (t := 53) (pc := 48) dX4_firstSleeper_48 (by decide) b21 ?_
          refine ev_iload_n (v := s1.2) (pc := 51) dX4_firstSleeper_51 rfl ?_
          refine ev_istore_n (L' := [some (.inr 10), some (.inl x0), some (.inl s1.2), some (.inl s1.2)]) (pc := 52) dX4_firstSleeper_52 (Nat.le_of_ble_eq_true rfl) rfl ?_
          obtain rfl := Option.some.inj h
          exact hj14
    · rw [if_neg b15] at h
      refine ev_icmp_ne_t (t := 53) (pc := 21) dX4_firstSleeper_21 (by decide) b15 ?_
      obtain rfl := Option.some.inj h
      exact hj14
def XX1_firstListed (c : rb_Row) (x0 : Int32) : Option (Int32) := (rb_rd c 773 2).bind fun v1 => (rb_lp (ρ := Int32) (fun (s3 : Int32 × Int32) => if v1 ≤ s3.2 then some (.inr s3.1) else (rb_rd c 773 (299 + s3.2)).bind fun v12 => ((if v12 = x0 then (rb_rd c 773 (443 + s3.2)).bind fun v18 => if v18 < 0 then some s3.1 else if s3.1 < 0 then some s3.2 else (rb_rd c 773 (443 + s3.2)).bind fun v22 => (rb_rd c 773 (443 + s3.1)).bind fun v24 => if v24 ≤ v22 then some s3.1 else some s3.2 else some s3.1) : Option (Int32)).bind fun j14 => some (.inl (j14, (s3.2 + 1)))) 100000 ((-1), 0)).bind fun q4 => some q4
set_option maxHeartbeats 4000000 in
set_option maxRecDepth 20000 in
theorem ct0_X1_firstListed (μ : rb_Mem) (c : rb_Row) (x0 : Int32) (o : Int32) (hc : μ 5 = c) (h : XX1_firstListed c x0 = some o) : rb_Ct yX1_firstListed cX1_firstListed 5 (some .int) 0 [.inr 3, .inl x0] μ (some o) μ := by
  unfold XX1_firstListed at h
  have hini : rb_ov μ [(5, c)] = μ := rb_ov_sf _ _ (And.intro hc True.intro)
  have hfin := hini
  refine rb_cti (w := [(5, c)]) rfl pn_1 (Nat.le_of_ble_eq_true rfl) rfl hini ?_
  obtain ⟨v1, e2, h⟩ := rb_bd h
  refine ev_aload_n (v := 3) (pc := 0) dX1_firstListed_0 rfl ?_
  refine ev_getr (q := 5) (pc := 1) dX1_firstListed_1 fl_RX1_9 rfl rfl ?_
  refine ev_iconst (v := 2) (pc := 4) dX1_firstListed_4 ki_2 ?_
  refine ev_iald (pc := 5) dX1_firstListed_5 rfl e2 ?_
  refine ev_istore_n (L' := [some (.inr 3), some (.inl x0), some (.inl v1), none, none]) (pc := 6) dX1_firstListed_6 (Nat.le_of_ble_eq_true rfl) rfl ?_
  refine ev_iconst (v := (-1)) (pc := 7) dX1_firstListed_7 ki_m1 ?_
  refine ev_istore_n (L' := [some (.inr 3), some (.inl x0), some (.inl v1), some (.inl (-1)), none]) (pc := 8) dX1_firstListed_8 (Nat.le_of_ble_eq_true rfl) rfl ?_
  refine ev_iconst (v := 0) (pc := 9) dX1_firstListed_9 ki_0 ?_
  refine ev_istore (L' := [some (.inr 3), some (.inl x0), some (.inl v1), some (.inl (-1)), some (.inl 0)]) (pc := 10) dX1_firstListed_10 (Nat.le_of_ble_eq_true rfl) rfl ?_
  obtain ⟨q4, l5, h⟩ := rb_bd h
  have hx9 : rb_Ev RX1 cX1_firstListed 5 (some .int) none 0 (some o) μ 84 [none, none, none, some (.inl q4), none] [] (rb_ov μ [(5, c)]) := by
    refine ev_iload_n (v := q4) (pc := 84) dX1_firstListed_84 rfl ?_
    obtain rfl := Option.some.inj h
    exact ev_iret (pc := 85) dX1_firstListed_85 rfl rfl rfl hfin
  refine rb_lp_ev (P := fun (s3 : Int32 × Int32) => rb_Ev RX1 cX1_firstListed 5 (some .int) none 0 (some o) μ 12 [some (.inr 3), some (.inl x0), some (.inl v1), some (.inl s3.1), some (.inl s3.2)] [] (rb_ov μ [(5, c)])) ?_ 100000 ((-1), 0) l5
  intro s3 y6 h ih7 hE8
  refine ev_iload (v := s3.2) (pc := 12) dX1_firstListed_12 rfl ?_
  refine ev_iload_n (v := v1) (pc := 14) dX1_firstListed_14 rfl ?_
  by_cases b11 : v1 ≤ s3.2
  · rw [if_pos b11] at h
    refine ev_icmp_ge_t (t := 84) (pc := 15) dX1_firstListed_15 (by decide) b11 ?_
    obtain rfl := Option.some.inj h
    obtain rfl := hE8 _ rfl
    exact ev_fg (L := [none, none, none, some (.inl s3.1), none]) (And.intro rfl True.intro) (hx9)
  · rw [if_neg b11] at h
    refine ev_icmp_ge_f (t := 84) (pc := 15) dX1_firstListed_15 (by decide) b11 ?_
    obtain ⟨v12, e13, h⟩ := rb_bd h
    refine ev_aload_n (v := 3) (pc := 18) dX1_firstListed_18 rfl ?_
    refine ev_getr (q := 5) (pc := 19) dX1_firstListed_19 fl_RX1_9 rfl rfl ?_
    refine ev_sipush (v := 299) (pc := 22) dX1_firstListed_22 ks_299 ?_
    refine ev_iload (v := s3.2) (pc := 25) dX1_firstListed_25 rfl ?_
    refine ev_iadd (pc := 27) dX1_firstListed_27 ?_
    refine ev_iald (pc := 28) dX1_firstListed_28 rfl e13 ?_
    refine ev_iload_n (v := x0) (pc := 29) dX1_firstListed_29 rfl ?_
    obtain ⟨j14, e15, h⟩ := rb_bd h
    have hj16 : rb_Ev RX1 cX1_firstListed 5 (some .int) none 0 (some o) μ 78 [some (.inr 3), some (.inl x0), some (.inl v1), some (.inl j14), some (.inl s3.2)] [] (rb_ov μ [(5, c)]) := by
      refine ev_iinc (x := s3.2) (v := (s3.2 + 1)) (L' := [some (.inr 3), some (.inl x0), some (.inl v1), some (.inl j14), some (.inl (s3.2 + 1))]) (pc := 78) dX1_firstListed_78 rfl (kx_1 _) (Nat.le_of_ble_eq_true rfl) rfl ?_
      refine ev_goto (t := 12) (pc := 81) dX1_firstListed_81 (by decide) ?_
      obtain rfl := Option.some.inj h
      exact ih7 (j14, (s3.2 + 1)) rfl
    replace h := e15
    by_cases b17 : v12 = x0
    · rw [if_pos b17] at h
      refine ev_icmp_ne_f (t := 78) (pc := 30) dX1_firstListed_30 (by decide) b17 ?_
      obtain ⟨v18, e19, h⟩ := rb_bd h
      refine ev_aload_n (v := 3) (pc := 33) dX1_firstListed_33 rfl ?_
      refine ev_getr (q := 5) (pc := 34) dX1_firstListed_34 fl_RX1_9 rfl rfl ?_
      refine ev_sipush (v := 443) (pc := 37) dX1_firstListed_37 ks_443 ?_
      refine ev_iload (v := s3.2) (pc := 40) dX1_firstListed_40 rfl ?_
      refine ev_iadd (pc := 42) dX1_firstListed_42 ?_
      refine ev_iald (pc := 43) dX1_firstListed_43 rfl e19 ?_
      by_cases b20 : v18 < 0
      · rw [if_pos b20] at h
        refine ev_if_lt_t (t := 78) (pc := 44) dX1_firstListed_44 (by decide) b20 ?_
        obtain rfl := Option.some.inj h
        exact hj16
      · rw [if_neg b20] at h
        refine ev_if_lt_f (t := 78) (pc := 44) dX1_firstListed_44 (by decide) b20 ?_
        refine ev_iload_n (v := s3.1) (pc := 47) dX1_firstListed_47 rfl ?_
        by_cases b21 : s3.1 < 0
        · rw [if_pos b21] at h
          refine ev_if_lt_t (t := 75) (pc := 48) dX1_firstListed_48 (by decide) b21 ?_
          refine ev_iload (v := s3.2) (pc := 75) dX1_firstListed_75 rfl ?_
          refine ev_istore_n (L' := [some (.inr 3), some (.inl x0), some (.inl v1), some (.inl s3.2), some (.inl s3.2)]) (pc := 77) dX1_firstListed_77 (Nat.le_of_ble_eq_true rfl) rfl ?_
          obtain rfl := Option.some.inj h
          exact hj16
        · rw [if_neg b21] at h
          refine ev_if_lt_f (t := 75) (pc := 48) dX1_firstListed_48 (by decide) b21 ?_
          obtain ⟨v22, e23, h⟩ := rb_bd h
          obtain ⟨v24, e25, h⟩ := rb_bd h
          refine ev_aload_n (v := 3) (pc := 51) dX1_firstListed_51 rfl ?_
          refine ev_getr (q := 5) (pc := 52) dX1_firstListed_52 fl_RX1_9 rfl rfl ?_
          refine ev_sipush (v := 443) (pc := 55) dX1_firstListed_55 ks_443 ?_
          refine ev_iload (v := s3.2) (pc := 58) dX1_firstListed_58 rfl ?_
          refine ev_iadd (pc := 60) dX1_firstListed_60 ?_
          refine ev_iald (pc := 61) dX1_firstListed_61 rfl e23 ?_
          refine ev_aload_n (v := 3) (pc := 62) dX1_firstListed_62 rfl ?_
          refine ev_getr (q := 5) (pc := 63) dX1_firstListed_63 fl_RX1_9 rfl rfl ?_
          refine ev_sipush (v := 443) (pc := 66) dX1_firstListed_66 ks_443 ?_
          refine ev_iload_n (v := s3.1) (pc := 69) dX1_firstListed_69 rfl ?_
          refine ev_iadd (pc := 70) dX1_firstListed_70 ?_
          refine ev_iald (pc := 71) dX1_firstListed_71 rfl e25 ?_
          by_cases b26 : v24 ≤ v22
          · rw [if_pos b26] at h
            refine ev_icmp_ge_t (t := 78) (pc := 72) dX1_firstListed_72 (by decide) b26 ?_
            obtain rfl := Option.some.inj h
            exact hj16
          · rw [if_neg b26] at h
            refine ev_icmp_ge_f (t := 78) (pc := 72) dX1_firstListed_72 (by decide) b26 ?_
            refine ev_iload (v := s3.2) (pc := 75) dX1_firstListed_75 rfl ?_
            refine ev_istore_n (L' := [some (.inr 3), some (.inl x0), some (.inl v1), some (.inl s3.2), some (.inl s3.2)]) (pc := 77) dX1_firstListed_77 (Nat.le_of_ble_eq_true rfl) rfl ?_
            obtain rfl := Option.some.inj h
            exact hj16
    · rw [if_neg b17] at h
      refine ev_icmp_ne_t (t := 78) (pc := 30) dX1_firstListed_30 (by decide) b17 ?_
      obtain rfl := Option.some.inj h
      exact hj16
set_option maxHeartbeats 4000000 in
set_option maxRecDepth 20000 in
theorem ct1_X1_firstListed (μ : rb_Mem) (c : rb_Row) (x0 : Int32) (o : Int32) (hc : μ 11 = c) (h : XX1_firstListed c x0 = some o) : rb_Ct yX1_firstListed cX1_firstListed 5 (some .int) 0 [.inr 9, .inl x0] μ (some o) μ := by
  unfold XX1_firstListed at h
  have hini : rb_ov μ [(11, c)] = μ := rb_ov_sf _ _ (And.intro hc True.intro)
  have hfin := hini
  refine rb_cti (w := [(11, c)]) rfl pn_1 (Nat.le_of_ble_eq_true rfl) rfl hini ?_
  obtain ⟨v1, e2, h⟩ := rb_bd h
  refine ev_aload_n (v := 9) (pc := 0) dX1_firstListed_0 rfl ?_
  refine ev_getr (q := 11) (pc := 1) dX1_firstListed_1 fl_RX1_9 rfl rfl ?_
  refine ev_iconst (v := 2) (pc := 4) dX1_firstListed_4 ki_2 ?_
  refine ev_iald (pc := 5) dX1_firstListed_5 rfl e2 ?_
  refine ev_istore_n (L' := [some (.inr 9), some (.inl x0), some (.inl v1), none, none]) (pc := 6) dX1_firstListed_6 (Nat.le_of_ble_eq_true rfl) rfl ?_
  refine ev_iconst (v := (-1)) (pc := 7) dX1_firstListed_7 ki_m1 ?_
  refine ev_istore_n (L' := [some (.inr 9), some (.inl x0), some (.inl v1), some (.inl (-1)), none]) (pc := 8) dX1_firstListed_8 (Nat.le_of_ble_eq_true rfl) rfl ?_
  refine ev_iconst (v := 0) (pc := 9) dX1_firstListed_9 ki_0 ?_
  refine ev_istore (L' := [some (.inr 9), some (.inl x0), some (.inl v1), some (.inl (-1)), some (.inl 0)]) (pc := 10) dX1_firstListed_10 (Nat.le_of_ble_eq_true rfl) rfl ?_
  obtain ⟨q4, l5, h⟩ := rb_bd h
  have hx9 : rb_Ev RX1 cX1_firstListed 5 (some .int) none 0 (some o) μ 84 [none, none, none, some (.inl q4), none] [] (rb_ov μ [(11, c)]) := by
    refine ev_iload_n (v := q4) (pc := 84) dX1_firstListed_84 rfl ?_
    obtain rfl := Option.some.inj h
    exact ev_iret (pc := 85) dX1_firstListed_85 rfl rfl rfl hfin
  refine rb_lp_ev (P := fun (s3 : Int32 × Int32) => rb_Ev RX1 cX1_firstListed 5 (some .int) none 0 (some o) μ 12 [some (.inr 9), some (.inl x0), some (.inl v1), some (.inl s3.1), some (.inl s3.2)] [] (rb_ov μ [(11, c)])) ?_ 100000 ((-1), 0) l5
  intro s3 y6 h ih7 hE8
  refine ev_iload (v := s3.2) (pc := 12) dX1_firstListed_12 rfl ?_
  refine ev_iload_n (v := v1) (pc := 14) dX1_firstListed_14 rfl ?_
  by_cases b11 : v1 ≤ s3.2
  · rw [if_pos b11] at h
    refine ev_icmp_ge_t (t := 84) (pc := 15) dX1_firstListed_15 (by decide) b11 ?_
    obtain rfl := Option.some.inj h
    obtain rfl := hE8 _ rfl
    exact ev_fg (L := [none, none, none, some (.inl s3.1), none]) (And.intro rfl True.intro) (hx9)
  · rw [if_neg b11] at h
    refine ev_icmp_ge_f (t := 84) (pc := 15) dX1_firstListed_15 (by decide) b11 ?_
    obtain ⟨v12, e13, h⟩ := rb_bd h
    refine ev_aload_n (v := 9) (pc := 18) dX1_firstListed_18 rfl ?_
    refine ev_getr (q := 11) (pc := 19) dX1_firstListed_19 fl_RX1_9 rfl rfl ?_
    refine ev_sipush (v := 299) (pc := 22) dX1_firstListed_22 ks_299 ?_
    refine ev_iload (v := s3.2) (pc := 25) dX1_firstListed_25 rfl ?_
    refine ev_iadd (pc := 27) dX1_firstListed_27 ?_
    refine ev_iald (pc := 28) dX1_firstListed_28 rfl e13 ?_
    refine ev_iload_n (v := x0) (pc := 29) dX1_firstListed_29 rfl ?_
    obtain ⟨j14, e15, h⟩ := rb_bd h
    have hj16 : rb_Ev RX1 cX1_firstListed 5 (some .int) none 0 (some o) μ 78 [some (.inr 9), some (.inl x0), some (.inl v1), some (.inl j14), some (.inl s3.2)] [] (rb_ov μ [(11, c)]) := by
      refine ev_iinc (x := s3.2) (v := (s3.2 + 1)) (L' := [some (.inr 9), some (.inl x0), some (.inl v1), some (.inl j14), some (.inl (s3.2 + 1))]) (pc := 78) dX1_firstListed_78 rfl (kx_1 _) (Nat.le_of_ble_eq_true rfl) rfl ?_
      refine ev_goto (t := 12) (pc := 81) dX1_firstListed_81 (by decide) ?_
      obtain rfl := Option.some.inj h
      exact ih7 (j14, (s3.2 + 1)) rfl
    replace h := e15
    by_cases b17 : v12 = x0
    · rw [if_pos b17] at h
      refine ev_icmp_ne_f (t := 78) (pc := 30) dX1_firstListed_30 (by decide) b17 ?_
      obtain ⟨v18, e19, h⟩ := rb_bd h
      refine ev_aload_n (v := 9) (pc := 33) dX1_firstListed_33 rfl ?_
      refine ev_getr (q := 11) (pc := 34) dX1_firstListed_34 fl_RX1_9 rfl rfl ?_
      refine ev_sipush (v := 443) (pc := 37) dX1_firstListed_37 ks_443 ?_
      refine ev_iload (v := s3.2) (pc := 40) dX1_firstListed_40 rfl ?_
      refine ev_iadd (pc := 42) dX1_firstListed_42 ?_
      refine ev_iald (pc := 43) dX1_firstListed_43 rfl e19 ?_
      by_cases b20 : v18 < 0
      · rw [if_pos b20] at h
        refine ev_if_lt_t (t := 78) (pc := 44) dX1_firstListed_44 (by decide) b20 ?_
        obtain rfl := Option.some.inj h
        exact hj16
      · rw [if_neg b20] at h
        refine ev_if_lt_f (t := 78) (pc := 44) dX1_firstListed_44 (by decide) b20 ?_
        refine ev_iload_n (v := s3.1) (pc := 47) dX1_firstListed_47 rfl ?_
        by_cases b21 : s3.1 < 0
        · rw [if_pos b21] at h
          refine ev_if_lt_t (t := 75) (pc := 48) dX1_firstListed_48 (by decide) b21 ?_
          refine ev_iload (v := s3.2) (pc := 75) dX1_firstListed_75 rfl ?_
          refine ev_istore_n (L' := [some (.inr 9), some (.inl x0), some (.inl v1), some (.inl s3.2), some (.inl s3.2)]) (pc := 77) dX1_firstListed_77 (Nat.le_of_ble_eq_true rfl) rfl ?_
          obtain rfl := Option.some.inj h
          exact hj16
        · rw [if_neg b21] at h
          refine ev_if_lt_f (t := 75) (pc := 48) dX1_firstListed_48 (by decide) b21 ?_
          obtain ⟨v22, e23, h⟩ := rb_bd h
          obtain ⟨v24, e25, h⟩ := rb_bd h
          refine ev_aload_n (v := 9) (pc := 51) dX1_firstListed_51 rfl ?_
          refine ev_getr (q := 11) (pc := 52) dX1_firstListed_52 fl_RX1_9 rfl rfl ?_
          refine ev_sipush (v := 443) (pc := 55) dX1_firstListed_55 ks_443 ?_
          refine ev_iload (v := s3.2) (pc := 58) dX1_firstListed_58 rfl ?_
          refine ev_iadd (pc := 60) dX1_firstListed_60 ?_
          refine ev_iald (pc := 61) dX1_firstListed_61 rfl e23 ?_
          refine ev_aload_n (v := 9) (pc := 62) dX1_firstListed_62 rfl ?_
          refine ev_getr (q := 11) (pc := 63) dX1_firstListed_63 fl_RX1_9 rfl rfl ?_
          refine ev_sipush (v := 443) (pc := 66) dX1_firstListed_66 ks_443 ?_
          refine ev_iload_n (v := s3.1) (pc := 69) dX1_firstListed_69 rfl ?_
          refine ev_iadd (pc := 70) dX1_firstListed_70 ?_
          refine ev_iald (pc := 71) dX1_firstListed_71 rfl e25 ?_
          by_cases b26 : v24 ≤ v22
          · rw [if_pos b26] at h
            refine ev_icmp_ge_t (t := 78) (pc := 72) dX1_firstListed_72 (by decide) b26 ?_
            obtain rfl := Option.some.inj h
            exact hj16
          · rw [if_neg b26] at h
            refine ev_icmp_ge_f (t := 78) (pc := 72) dX1_firstListed_72 (by decide) b26 ?_
            refine ev_iload (v := s3.2) (pc := 75) dX1_firstListed_75 rfl ?_
            refine ev_istore_n (L' := [some (.inr 9), some (.inl x0), some (.inl v1), some (.inl s3.2), some (.inl s3.2)]) (pc := 77) dX1_firstListed_77 (Nat.le_of_ble_eq_true rfl) rfl ?_
            obtain rfl := Option.some.inj h
            exact hj16
    · rw [if_neg b17] at h
      refine ev_icmp_ne_t (t := 78) (pc := 30) dX1_firstListed_30 (by decide) b17 ?_
      obtain rfl := Option.some.inj h
      exact hj16
def XX1_takeOffList (c : rb_Row) (x0 : Int32) : Option (rb_Row) := (rb_wr c 773 (443 + x0) (-1)).bind fun c1 => (rb_wr c1 773 (515 + x0) 0).bind fun c3 => some c3
set_option maxHeartbeats 4000000 in
set_option maxRecDepth 20000 in
theorem ct0_X1_takeOffList (μ : rb_Mem) (c : rb_Row) (x0 : Int32) (o : rb_Row) (hc : μ 5 = c) (h : XX1_takeOffList c x0 = some o) : rb_Ct yX1_takeOffList cX1_takeOffList 2 none 0 [.inr 3, .inl x0] μ none (rb_ov μ [(5, o)]) := by
  unfold XX1_takeOffList at h
  have hini : rb_ov μ [(5, c)] = μ := rb_ov_sf _ _ (And.intro hc True.intro)
  have hfin : ∀ u0 : rb_Row, rb_ov μ [(5, u0)] = rb_ov μ [(5, u0)] := fun u0 => rfl
  refine rb_ctv (w := [(5, c)]) rfl pn_1 (Nat.le_of_ble_eq_true rfl) rfl hini ?_
  obtain ⟨c1, e2, h⟩ := rb_bd h
  obtain ⟨c3, e4, h⟩ := rb_bd h
  refine ev_aload_n (v := 3) (pc := 0) dX1_takeOffList_0 rfl ?_
  refine ev_getr (q := 5) (pc := 1) dX1_takeOffList_1 fl_RX1_9 rfl rfl ?_
  refine ev_sipush (v := 443) (pc := 4) dX1_takeOffList_4 ks_443 ?_
  refine ev_iload_n (v := x0) (pc := 7) dX1_takeOffList_7 rfl ?_
  refine ev_iadd (pc := 8) dX1_takeOffList_8 ?_
  refine ev_iconst (v := (-1)) (pc := 9) dX1_takeOffList_9 ki_m1 ?_
  refine ev_iast (w' := [(5, c1)]) (pc := 10) dX1_takeOffList_10 rfl e2 rfl ?_
  refine ev_aload_n (v := 3) (pc := 11) dX1_takeOffList_11 rfl ?_
  refine ev_getr (q := 5) (pc := 12) dX1_takeOffList_12 fl_RX1_9 rfl rfl ?_
  refine ev_sipush (v := 515) (pc := 15) dX1_takeOffList_15 ks_515 ?_
  refine ev_iload_n (v := x0) (pc := 18) dX1_takeOffList_18 rfl ?_
  refine ev_iadd (pc := 19) dX1_takeOffList_19 ?_
  refine ev_iconst (v := 0) (pc := 20) dX1_takeOffList_20 ki_0 ?_
  refine ev_iast (w' := [(5, c3)]) (pc := 21) dX1_takeOffList_21 rfl e4 rfl ?_
  obtain rfl := Option.some.inj h
  exact ev_ret (pc := 22) dX1_takeOffList_22 rfl rfl (hfin _)
set_option maxHeartbeats 4000000 in
set_option maxRecDepth 20000 in
theorem ct1_X1_takeOffList (μ : rb_Mem) (c : rb_Row) (x0 : Int32) (o : rb_Row) (hc : μ 11 = c) (h : XX1_takeOffList c x0 = some o) : rb_Ct yX1_takeOffList cX1_takeOffList 2 none 0 [.inr 9, .inl x0] μ none (rb_ov μ [(11, o)]) := by
  unfold XX1_takeOffList at h
  have hini : rb_ov μ [(11, c)] = μ := rb_ov_sf _ _ (And.intro hc True.intro)
  have hfin : ∀ u0 : rb_Row, rb_ov μ [(11, u0)] = rb_ov μ [(11, u0)] := fun u0 => rfl
  refine rb_ctv (w := [(11, c)]) rfl pn_1 (Nat.le_of_ble_eq_true rfl) rfl hini ?_
  obtain ⟨c1, e2, h⟩ := rb_bd h
  obtain ⟨c3, e4, h⟩ := rb_bd h
  refine ev_aload_n (v := 9) (pc := 0) dX1_takeOffList_0 rfl ?_
  refine ev_getr (q := 11) (pc := 1) dX1_takeOffList_1 fl_RX1_9 rfl rfl ?_
  refine ev_sipush (v := 443) (pc := 4) dX1_takeOffList_4 ks_443 ?_
  refine ev_iload_n (v := x0) (pc := 7) dX1_takeOffList_7 rfl ?_
  refine ev_iadd (pc := 8) dX1_takeOffList_8 ?_
  refine ev_iconst (v := (-1)) (pc := 9) dX1_takeOffList_9 ki_m1 ?_
  refine ev_iast (w' := [(11, c1)]) (pc := 10) dX1_takeOffList_10 rfl e2 rfl ?_
  refine ev_aload_n (v := 9) (pc := 11) dX1_takeOffList_11 rfl ?_
  refine ev_getr (q := 11) (pc := 12) dX1_takeOffList_12 fl_RX1_9 rfl rfl ?_
  refine ev_sipush (v := 515) (pc := 15) dX1_takeOffList_15 ks_515 ?_
  refine ev_iload_n (v := x0) (pc := 18) dX1_takeOffList_18 rfl ?_
  refine ev_iadd (pc := 19) dX1_takeOffList_19 ?_
  refine ev_iconst (v := 0) (pc := 20) dX1_takeOffList_20 ki_0 ?_
  refine ev_iast (w' := [(11, c3)]) (pc := 21) dX1_takeOffList_21 rfl e4 rfl ?_
  obtain rfl := Option.some.inj h
  exact ev_ret (pc := 22) dX1_takeOffList_22 rfl rfl (hfin _)
def XX1_ready : Nat → rb_Row → Int32 → Int32 → Option (Int32)
  | 0, _, _, _ => none
  | n + 1, c, x0, x1 => if x0 < 0 then some 0 else if x1 ≤ 3 then (rb_rd c 773 (47 + x0)).bind fun v3 => (rb_rd c 773 (131 + x0)).bind fun v5 => ((if 0 ≤ v5 then some 0 else some 1) : Option (Int32)).bind fun j7 => (rb_rd c 773 (19 + x0)).bind fun v11 => if v11 = 0 then ((if v3 ≤ 0 then some 0 else some 1) : Option (Int32)).bind fun j14 => if j7 = 0 then some (j14 ||| 0) else some (j14 ||| 4) else if v11 = 1 then if j7 = 0 then (rb_rd c 773 (75 + x0)).bind fun v21 => if v21 ≤ v3 then some 0 else some 2 else some 8 else if v11 = 2 then ((if v3 ≤ 0 then some 0 else some 1) : Option (Int32)).bind fun j25 => if 1000 ≤ v3 then some (j25 ||| 0) else some (j25 ||| 2) else if v11 = 3 then if v3 ≤ 0 then some 0 else some 1 else if v11 = 5 then if v3 ≤ 0 then some 0 else some 1 else (rb_rd c 773 2).bind fun v34 => (rb_lp (ρ := (Unit) ⊕ (Int32)) (fun (s36 : Int32) => if v34 ≤ s36 then some (.inr (.inl ())) else (rb_rd c 773 (299 + s36)).bind fun v46 => if v46 = x0 then (rb_rd c 773 (443 + s36)).bind fun v49 => if v49 < 0 then some (.inl (s36 + 1)) else (rb_rd c 773 (419 + s36)).bind fun v52 => if v52 = 0 then some (.inl (s36 + 1)) else (rb_rd c 773 (371 + s36)).bind fun v55 => (rb_rd c 773 (323 + s36)).bind fun v57 => (XX1_ready n c v57 (x1 + 1)).bind fun t59 => if (((v55 ||| 4) ||| 8) &&& t59) = 0 then some (.inl (s36 + 1)) else some (.inr (.inr 1)) else some (.inl (s36 + 1))) 100000 0).bind fun q37 => Sum.elim (fun (z44 : Unit) => some 0) (fun (w62 : Int32) => some w62) q37 else some 0
set_option maxHeartbeats 4000000 in
set_option maxRecDepth 20000 in
theorem ct0_X1_ready : ∀ (n : Nat) (μ : rb_Mem) (c : rb_Row) (x0 : Int32) (x1 : Int32) (o : Int32) (hc : μ 5 = c) (h : XX1_ready n c x0 x1 = some o), rb_Ct yX1_ready cX1_ready 8 (some .int) (0 + n) [.inr 3, .inl x0, .inl x1] μ (some o) μ := by
  intro n
  induction n with
  | zero => intro μ c x0 x1 o hc h; cases h
  | succ n ihn =>
    intro μ c x0 x1 o hc h
    rw [XX1_ready] at h
    have hini : rb_ov μ [(5, c)] = μ := rb_ov_sf _ _ (And.intro hc True.intro)
    have hfin := hini
    refine rb_cti (w := [(5, c)]) rfl pn_1 (Nat.le_of_ble_eq_true rfl) rfl hini ?_
    refine ev_iload_n (v := x0) (pc := 0) dX1_ready_0 rfl ?_
    by_cases b1 : x0 < 0
    · rw [if_pos b1] at h
      refine ev_if_lt_t (t := 9) (pc := 1) dX1_ready_1 (by decide) b1 ?_
      refine ev_iconst (v := 0) (pc := 9) dX1_ready_9 ki_0 ?_
      obtain rfl := Option.some.inj h
      exact ev_iret (pc := 10) dX1_ready_10 rfl rfl rfl hfin
    · rw [if_neg b1] at h
      refine ev_if_lt_f (t := 9) (pc := 1) dX1_ready_1 (by decide) b1 ?_
      refine ev_iload_n (v := x1) (pc := 4) dX1_ready_4 rfl ?_
      refine ev_iconst (v := 3) (pc := 5) dX1_ready_5 ki_3 ?_
      by_cases b2 : x1 ≤ 3
      · rw [if_pos b2] at h
        refine ev_icmp_le_t (t := 11) (pc := 6) dX1_ready_6 (by decide) b2 ?_
        obtain ⟨v3, e4, h⟩ := rb_bd h
        obtain ⟨v5, e6, h⟩ := rb_bd h
        refine ev_aload_n (v := 3) (pc := 11) dX1_ready_11 rfl ?_
        refine ev_getr (q := 5) (pc := 12) dX1_ready_12 fl_RX1_9 rfl rfl ?_
        refine ev_bipush (v := 47) (pc := 15) dX1_ready_15 kb_47 ?_
        refine ev_iload_n (v := x0) (pc := 17) dX1_ready_17 rfl ?_
        refine ev_iadd (pc := 18) dX1_ready_18 ?_
        refine ev_iald (pc := 19) dX1_ready_19 rfl e4 ?_
        refine ev_istore_n (L' := [some (.inr 3), some (.inl x0), some (.inl x1), some (.inl v3), none, none, none, none]) (pc := 20) dX1_ready_20 (Nat.le_of_ble_eq_true rfl) rfl ?_
        refine ev_aload_n (v := 3) (pc := 21) dX1_ready_21 rfl ?_
        refine ev_getr (q := 5) (pc := 22) dX1_ready_22 fl_RX1_9 rfl rfl ?_
        refine ev_sipush (v := 131) (pc := 25) dX1_ready_25 ks_131 ?_
        refine ev_iload_n (v := x0) (pc := 28) dX1_ready_28 rfl ?_
        refine ev_iadd (pc := 29) dX1_ready_29 ?_
        refine ev_iald (pc := 30) dX1_ready_30 rfl e6 ?_
        obtain ⟨j7, e8, h⟩ := rb_bd h
        have hj9 : rb_Ev RX1 cX1_ready 8 (some .int) none (0 + (n + 1)) (some o) μ 39 [some (.inr 3), some (.inl x0), some (.inl x1), some (.inl v3), none, none, none, none] [.inl j7] (rb_ov μ [(5, c)]) := by
          obtain ⟨v11, e12, h⟩ := rb_bd h
          refine ev_istore (L' := [some (.inr 3), some (.inl x0), some (.inl x1), some (.inl v3), some (.inl j7), none, none, none]) (pc := 39) dX1_ready_39 (Nat.le_of_ble_eq_true rfl) rfl ?_
          refine ev_aload_n (v := 3) (pc := 41) dX1_ready_41 rfl ?_
          refine ev_getr (q := 5) (pc := 42) dX1_ready_42 fl_RX1_9 rfl rfl ?_
          refine ev_bipush (v := 19) (pc := 45) dX1_ready_45 kb_19 ?_
          refine ev_iload_n (v := x0) (pc := 47) dX1_ready_47 rfl ?_
          refine ev_iadd (pc := 48) dX1_ready_48 ?_
          refine ev_iald (pc := 49) dX1_ready_49 rfl e12 ?_
          by_cases b13 : v11 = 0
          · rw [if_pos b13] at h
            refine ev_tsIn (t := 88) (off := 38) (pc := 50) dX1_ready_50 (by rw [b13]; decide) (by rw [b13]; decide) (by rw [b13]; decide) (by decide) ?_
            refine ev_iload_n (v := v3) (pc := 88) dX1_ready_88 rfl ?_
            obtain ⟨j14, e15, h⟩ := rb_bd h
            have hj16 : rb_Ev RX1 cX1_ready 8 (some .int) none (0 + (n + 1)) (some o) μ 97 [none, none, none, none, some (.inl j7), none, none, none] [.inl j14] (rb_ov μ [(5, c)]) := by
              refine ev_iload (v := j7) (pc := 97) dX1_ready_97 rfl ?_
              by_cases b18 : j7 = 0
              · rw [if_pos b18] at h
                refine ev_if_eq_t (t := 106) (pc := 99) dX1_ready_99 (by decide) b18 ?_
                refine ev_iconst (v := 0) (pc := 106) dX1_ready_106 ki_0 ?_
                refine ev_ior (pc := 107) dX1_ready_107 ?_
                obtain rfl := Option.some.inj h
                exact ev_iret (pc := 108) dX1_ready_108 rfl rfl rfl hfin
              · rw [if_neg b18] at h
                refine ev_if_eq_f (t := 106) (pc := 99) dX1_ready_99 (by decide) b18 ?_
                refine ev_iconst (v := 4) (pc := 102) dX1_ready_102 ki_4 ?_
                refine ev_goto (t := 107) (pc := 103) dX1_ready_103 (by decide) ?_
                refine ev_ior (pc := 107) dX1_ready_107 ?_
                obtain rfl := Option.some.inj h
                exact ev_iret (pc := 108) dX1_ready_108 rfl rfl rfl hfin
            replace h := e15
            by_cases b17 : v3 ≤ 0
            · rw [if_pos b17] at h
              refine ev_if_le_t (t := 96) (pc := 89) dX1_ready_89 (by decide) b17 ?_
              refine ev_iconst (v := 0) (pc := 96) dX1_ready_96 ki_0 ?_
              obtain rfl := Option.some.inj h
              exact ev_fg (L := [none, none, none, none, some (.inl j7), none, none, none]) (And.intro rfl True.intro) (hj16)
            · rw [if_neg b17] at h
              refine ev_if_le_f (t := 96) (pc := 89) dX1_ready_89 (by decide) b17 ?_
              refine ev_iconst (v := 1) (pc := 92) dX1_ready_92 ki_1 ?_
              refine ev_goto (t := 97) (pc := 93) dX1_ready_93 (by decide) ?_
              obtain rfl := Option.some.inj h
              exact ev_fg (L := [none, none, none, none, some (.inl j7), none, none, none]) (And.intro rfl True.intro) (hj16)
          · rw [if_neg b13] at h
            by_cases b19 : v11 = 1
            · rw [if_pos b19] at h
              refine ev_tsIn (t := 109) (off := 59) (pc := 50) dX1_ready_50 (by rw [b19]; decide) (by rw [b19]; decide) (by rw [b19]; decide) (by decide) ?_
              refine ev_iload (v := j7) (pc := 109) dX1_ready_109 rfl ?_
              by_cases b20 : j7 = 0
              · rw [if_pos b20] at h
                refine ev_if_eq_t (t := 119) (pc := 111) dX1_ready_111 (by decide) b20 ?_
                obtain ⟨v21, e22, h⟩ := rb_bd h
                refine ev_iload_n (v := v3) (pc := 119) dX1_ready_119 rfl ?_
                refine ev_aload_n (v := 3) (pc := 120) dX1_ready_120 rfl ?_
                refine ev_getr (q := 5) (pc := 121) dX1_ready_121 fl_RX1_9 rfl rfl ?_
                refine ev_bipush (v := 75) (pc := 124) dX1_ready_124 kb_75 ?_
                refine ev_iload_n (v := x0) (pc := 126) dX1_ready_126 rfl ?_
                refine ev_iadd (pc := 127) dX1_ready_127 ?_
                refine ev_iald (pc := 128) dX1_ready_128 rfl e22 ?_
                by_cases b23 : v21 ≤ v3
                · rw [if_pos b23] at h
                  refine ev_icmp_ge_t (t := 136) (pc := 129) dX1_ready_129 (by decide) b23 ?_
                  refine ev_iconst (v := 0) (pc := 136) dX1_ready_136 ki_0 ?_
                  obtain rfl := Option.some.inj h
                  exact ev_iret (pc := 137) dX1_ready_137 rfl rfl rfl hfin
                · rw [if_neg b23] at h
                  refine ev_icmp_ge_f (t := 136) (pc := 129) dX1_ready_129 (by decide) b23 ?_
                  refine ev_iconst (v := 2) (pc := 132) dX1_ready_132 ki_2 ?_
                  refine ev_goto (t := 137) (pc := 133) dX1_ready_133 (by decide) ?_
                  obtain rfl := Option.some.inj h
                  exact ev_iret (pc := 137) dX1_ready_137 rfl rfl rfl hfin
              · rw [if_neg b20] at h
                refine ev_if_eq_f (t := 119) (pc := 111) dX1_ready_111 (by decide) b20 ?_
                refine ev_bipush (v := 8) (pc := 114) dX1_ready_114 kb_8 ?_
                refine ev_goto (t := 137) (pc := 116) dX1_ready_116 (by decide) ?_
                obtain rfl := Option.some.inj h
                exact ev_iret (pc := 137) dX1_ready_137 rfl rfl rfl hfin
            · rw [if_neg b19] at h
              by_cases b24 : v11 = 2
              · rw [if_pos b24] at h
                refine ev_tsIn (t := 138) (off := 88) (pc := 50) dX1_ready_50 (by rw [b24]; decide) (by rw [b24]; decide) (by rw [b24]; decide) (by decide) ?_
                refine ev_iload_n (v := v3) (pc := 138) dX1_ready_138 rfl ?_
                obtain ⟨j25, e26, h⟩ := rb_bd h
                have hj27 : rb_Ev RX1 cX1_ready 8 (some .int) none (0 + (n + 1)) (some o) μ 147 [none, none, none, some (.inl v3), none, none, none, none] [.inl j25] (rb_ov μ [(5, c)]) := by
                  refine ev_iload_n (v := v3) (pc := 147) dX1_ready_147 rfl ?_
                  refine ev_sipush (v := 1000) (pc := 148) dX1_ready_148 ks_1000 ?_
                  by_cases b29 : 1000 ≤ v3
                  · rw [if_pos b29] at h
                    refine ev_icmp_ge_t (t := 158) (pc := 151) dX1_ready_151 (by decide) b29 ?_
                    refine ev_iconst (v := 0) (pc := 158) dX1_ready_158 ki_0 ?_
                    refine ev_ior (pc := 159) dX1_ready_159 ?_
                    obtain rfl := Option.some.inj h
                    exact ev_iret (pc := 160) dX1_ready_160 rfl rfl rfl hfin
                  · rw [if_neg b29] at h
                    refine ev_icmp_ge_f (t := 158) (pc := 151) dX1_ready_151 (by decide) b29 ?_
                    refine ev_iconst (v := 2) (pc := 154) dX1_ready_154 ki_2 ?_
                    refine ev_goto (t := 159) (pc := 155) dX1_ready_155 (by decide) ?_
                    refine ev_ior (pc := 159) dX1_ready_159 ?_
                    obtain rfl := Option.some.inj h
                    exact ev_iret (pc := 160) dX1_ready_160 rfl rfl rfl hfin
                replace h := e26
                by_cases b28 : v3 ≤ 0
                · rw [if_pos b28] at h
                  refine ev_if_le_t (t := 146) (pc := 139) dX1_ready_139 (by decide) b28 ?_
                  refine ev_iconst (v := 0) (pc := 146) dX1_ready_146 ki_0 ?_
                  obtain rfl := Option.some.inj h
                  exact ev_fg (L := [none, none, none, some (.inl v3), none, none, none, none]) (And.intro rfl True.intro) (hj27)
                · rw [if_neg b28] at h
                  refine ev_if_le_f (t := 146) (pc := 139) dX1_ready_139 (by decide) b28 ?_
                  refine ev_iconst (v := 1) (pc := 142) dX1_ready_142 ki_1 ?_
                  refine ev_goto (t := 147) (pc := 143) dX1_ready_143 (by decide) ?_
                  obtain rfl := Option.some.inj h
                  exact ev_fg (L := [none, none, none, some (.inl v3), none, none, none, none]) (And.intro rfl True.intro) (hj27)
              · rw [if_neg b24] at h
                by_cases b30 : v11 = 3
                · rw [if_pos b30] at h
                  refine ev_tsIn (t := 161) (off := 111) (pc := 50) dX1_ready_50 (by rw [b30]; decide) (by rw [b30]; decide) (by rw [b30]; decide) (by decide) ?_
                  refine ev_iload_n (v := v3) (pc := 161) dX1_ready_161 rfl ?_
                  by_cases b31 : v3 ≤ 0
                  · rw [if_pos b31] at h
                    refine ev_if_le_t (t := 169) (pc := 162) dX1_ready_162 (by decide) b31 ?_
                    refine ev_iconst (v := 0) (pc := 169) dX1_ready_169 ki_0 ?_
                    obtain rfl := Option.some.inj h
                    exact ev_iret (pc := 170) dX1_ready_170 rfl rfl rfl hfin
                  · rw [if_neg b31] at h
                    refine ev_if_le_f (t := 169) (pc := 162) dX1_ready_162 (by decide) b31 ?_
                    refine ev_iconst (v := 1) (pc := 165) dX1_ready_165 ki_1 ?_
                    refine ev_goto (t := 170) (pc := 166) dX1_ready_166 (by decide) ?_
                    obtain rfl := Option.some.inj h
                    exact ev_iret (pc := 170) dX1_ready_170 rfl rfl rfl hfin
                · rw [if_neg b30] at h
                  by_cases b32 : v11 = 5
                  · rw [if_pos b32] at h
                    refine ev_tsIn (t := 161) (off := 111) (pc := 50) dX1_ready_50 (by rw [b32]; decide) (by rw [b32]; decide) (by rw [b32]; decide) (by decide) ?_
                    refine ev_iload_n (v := v3) (pc := 161) dX1_ready_161 rfl ?_
                    by_cases b33 : v3 ≤ 0
                    · rw [if_pos b33] at h
                      refine ev_if_le_t (t := 169) (pc := 162) dX1_ready_162 (by decide) b33 ?_
                      refine ev_iconst (v := 0) (pc := 169) dX1_ready_169 ki_0 ?_
                      obtain rfl := Option.some.inj h
                      exact ev_iret (pc := 170) dX1_ready_170 rfl rfl rfl hfin
                    · rw [if_neg b33] at h
                      refine ev_if_le_f (t := 169) (pc := 162) dX1_ready_162 (by decide) b33 ?_
                      refine ev_iconst (v := 1) (pc := 165) dX1_ready_165 ki_1 ?_
                      refine ev_goto (t := 170) (pc := 166) dX1_ready_166 (by decide) ?_
                      obtain rfl := Option.some.inj h
                      exact ev_iret (pc := 170) dX1_ready_170 rfl rfl rfl hfin
                  · rw [if_neg b32] at h
                    have hd64 : rb_Ev RX1 cX1_ready 8 (some .int) none (0 + (n + 1)) (some o) μ 171 [some (.inr 3), some (.inl x0), some (.inl x1), some (.inl v3), some (.inl j7), none, none, none] [] (rb_ov μ [(5, c)]) := by
                      obtain ⟨v34, e35, h⟩ := rb_bd h
                      refine ev_aload_n (v := 3) (pc := 171) dX1_ready_171 rfl ?_
                      refine ev_getr (q := 5) (pc := 172) dX1_ready_172 fl_RX1_9 rfl rfl ?_
                      refine ev_iconst (v := 2) (pc := 175) dX1_ready_175 ki_2 ?_
                      refine ev_iald (pc := 176) dX1_ready_176 rfl e35 ?_
                      refine ev_istore (L' := [some (.inr 3), some (.inl x0), some (.inl x1), some (.inl v3), some (.inl j7), some (.inl v34), none, none]) (pc := 177) dX1_ready_177 (Nat.le_of_ble_eq_true rfl) rfl ?_
                      refine ev_iconst (v := 0) (pc := 179) dX1_ready_179 ki_0 ?_
                      refine ev_istore (L' := [some (.inr 3), some (.inl x0), some (.inl x1), some (.inl v3), some (.inl j7), some (.inl v34), some (.inl 0), none]) (pc := 180) dX1_ready_180 (Nat.le_of_ble_eq_true rfl) rfl ?_
                      obtain ⟨q37, l38, h⟩ := rb_bd h
                      have hx42 : ∀ z44 : Unit, q37 = .inl z44 → rb_Ev RX1 cX1_ready 8 (some .int) none (0 + (n + 1)) (some o) μ 282 [none, none, none, none, none, none, none, none] [] (rb_ov μ [(5, c)]) := by
                        intro z44 hz
                        rw [hz] at h
                        replace h := rb_sel h
                        refine ev_iconst (v := 0) (pc := 282) dX1_ready_282 ki_0 ?_
                        obtain rfl := Option.some.inj h
                        exact ev_iret (pc := 283) dX1_ready_283 rfl rfl rfl hfin
                      have hr43 : ∀ w62 : Int32, q37 = .inr w62 → w62 = o := by
                        intro w62 hz
                        rw [hz] at h
                        replace h := rb_ser h
                        exact Option.some.inj h
                      refine ev_fg (L := [some (.inr 3), some (.inl x0), some (.inl x1), none, none, some (.inl v34), some (.inl 0), none]) (And.intro rfl (And.intro rfl (And.intro rfl (And.intro rfl (And.intro rfl True.intro))))) ?_
                      refine rb_lp_ev (P := fun (s36 : Int32) => rb_Ev RX1 cX1_ready 8 (some .int) none (0 + (n + 1)) (some o) μ 182 [some (.inr 3), some (.inl x0), some (.inl x1), none, none, some (.inl v34), some (.inl s36), none] [] (rb_ov μ [(5, c)])) ?_ 100000 0 l38
                      intro s36 y39 h ih40 hE41
                      refine ev_iload (v := s36) (pc := 182) dX1_ready_182 rfl ?_
                      refine ev_iload (v := v34) (pc := 184) dX1_ready_184 rfl ?_
                      by_cases b45 : v34 ≤ s36
                      · rw [if_pos b45] at h
                        refine ev_icmp_ge_t (t := 282) (pc := 186) dX1_ready_186 (by decide) b45 ?_
                        obtain rfl := Option.some.inj h
                        exact ev_fg (L := [none, none, none, none, none, none, none, none]) True.intro (hx42 () (hE41 _ rfl).symm)
                      · rw [if_neg b45] at h
                        refine ev_icmp_ge_f (t := 282) (pc := 186) dX1_ready_186 (by decide) b45 ?_
                        obtain ⟨v46, e47, h⟩ := rb_bd h
                        refine ev_aload_n (v := 3) (pc := 189) dX1_ready_189 rfl ?_
                        refine ev_getr (q := 5) (pc := 190) dX1_ready_190 fl_RX1_9 rfl rfl ?_
                        refine ev_sipush (v := 299) (pc := 193) dX1_ready_193 ks_299 ?_
                        refine ev_iload (v := s36) (pc := 196) dX1_ready_196 rfl ?_
                        refine ev_iadd (pc := 198) dX1_ready_198 ?_
                        refine ev_iald (pc := 199) dX1_ready_199 rfl e47 ?_
                        refine ev_iload_n (v := x0) (pc := 200) dX1_ready_200 rfl ?_
                        by_cases b48 : v46 = x0
                        · rw [if_pos b48] at h
                          refine ev_icmp_ne_f (t := 276) (pc := 201) dX1_ready_201 (by decide) b48 ?_
                          obtain ⟨v49, e50, h⟩ := rb_bd h
                          refine ev_aload_n (v := 3) (pc := 204) dX1_ready_204 rfl ?_
                          refine ev_getr (q := 5) (pc := 205) dX1_ready_205 fl_RX1_9 rfl rfl ?_
                          refine ev_sipush (v := 443) (pc := 208) dX1_ready_208 ks_443 ?_
                          refine ev_iload (v := s36) (pc := 211) dX1_ready_211 rfl ?_
                          refine ev_iadd (pc := 213) dX1_ready_213 ?_
                          refine ev_iald (pc := 214) dX1_ready_214 rfl e50 ?_
                          by_cases b51 : v49 < 0
                          · rw [if_pos b51] at h
                            refine ev_if_lt_t (t := 276) (pc := 215) dX1_ready_215 (by decide) b51 ?_
                            refine ev_iinc (x := s36) (v := (s36 + 1)) (L' := [some (.inr 3), some (.inl x0), some (.inl x1), none, none, some (.inl v34), some (.inl (s36 + 1)), none]) (pc := 276) dX1_ready_276 rfl (kx_1 _) (Nat.le_of_ble_eq_true rfl) rfl ?_
                            refine ev_goto (t := 182) (pc := 279) dX1_ready_279 (by decide) ?_
                            obtain rfl := Option.some.inj h
                            exact ih40 (s36 + 1) rfl
                          · rw [if_neg b51] at h
                            refine ev_if_lt_f (t := 276) (pc := 215) dX1_ready_215 (by decide) b51 ?_
                            obtain ⟨v52, e53, h⟩ := rb_bd h
                            refine ev_aload_n (v := 3) (pc := 218) dX1_ready_218 rfl ?_
                            refine ev_getr (q := 5) (pc := 219) dX1_ready_219 fl_RX1_9 rfl rfl ?_
                            refine ev_sipush (v := 419) (pc := 222) dX1_ready_222 ks_419 ?_
                            refine ev_iload (v := s36) (pc := 225) dX1_ready_225 rfl ?_
                            refine ev_iadd (pc := 227) dX1_ready_227 ?_
                            refine ev_iald (pc := 228) dX1_ready_228 rfl e53 ?_
                            by_cases b54 : v52 = 0
                            · rw [if_pos b54] at h
                              refine ev_if_eq_t (t := 276) (pc := 229) dX1_ready_229 (by decide) b54 ?_
                              refine ev_iinc (x := s36) (v := (s36 + 1)) (L' := [some (.inr 3), some (.inl x0), some (.inl x1), none, none, some (.inl v34), some (.inl (s36 + 1)), none]) (pc := 276) dX1_ready_276 rfl (kx_1 _) (Nat.le_of_ble_eq_true rfl) rfl ?_
                              refine ev_goto (t := 182) (pc := 279) dX1_ready_279 (by decide) ?_
                              obtain rfl := Option.some.inj h
                              exact ih40 (s36 + 1) rfl
                            · rw [if_neg b54] at h
                              refine ev_if_eq_f (t := 276) (pc := 229) dX1_ready_229 (by decide) b54 ?_
                              obtain ⟨v55, e56, h⟩ := rb_bd h
                              obtain ⟨v57, e58, h⟩ := rb_bd h
                              obtain ⟨t59, e60, h⟩ := rb_bd h
                              refine ev_aload_n (v := 3) (pc := 232) dX1_ready_232 rfl ?_
                              refine ev_getr (q := 5) (pc := 233) dX1_ready_233 fl_RX1_9 rfl rfl ?_
                              refine ev_sipush (v := 371) (pc := 236) dX1_ready_236 ks_371 ?_
                              refine ev_iload (v := s36) (pc := 239) dX1_ready_239 rfl ?_
                              refine ev_iadd (pc := 241) dX1_ready_241 ?_
                              refine ev_iald (pc := 242) dX1_ready_242 rfl e56 ?_
                              refine ev_iconst (v := 4) (pc := 243) dX1_ready_243 ki_4 ?_
                              refine ev_ior (pc := 244) dX1_ready_244 ?_
                              refine ev_bipush (v := 8) (pc := 245) dX1_ready_245 kb_8 ?_
                              refine ev_ior (pc := 247) dX1_ready_247 ?_
                              refine ev_istore (L' := [some (.inr 3), some (.inl x0), some (.inl x1), none, none, some (.inl v34), some (.inl s36), some (.inl ((v55 ||| 4) ||| 8))]) (pc := 248) dX1_ready_248 (Nat.le_of_ble_eq_true rfl) rfl ?_
                              refine ev_iload (v := ((v55 ||| 4) ||| 8)) (pc := 250) dX1_ready_250 rfl ?_
                              refine ev_aload_n (v := 3) (pc := 252) dX1_ready_252 rfl ?_
                              refine ev_aload_n (v := 3) (pc := 253) dX1_ready_253 rfl ?_
                              refine ev_getr (q := 5) (pc := 254) dX1_ready_254 fl_RX1_9 rfl rfl ?_
                              refine ev_sipush (v := 323) (pc := 257) dX1_ready_257 ks_323 ?_
                              refine ev_iload (v := s36) (pc := 260) dX1_ready_260 rfl ?_
                              refine ev_iadd (pc := 262) dX1_ready_262 ?_
                              refine ev_iald (pc := 263) dX1_ready_263 rfl e58 ?_
                              refine ev_iload_n (v := x1) (pc := 264) dX1_ready_264 rfl ?_
                              refine ev_iconst (v := 1) (pc := 265) dX1_ready_265 ki_1 ?_
                              refine ev_iadd (pc := 266) dX1_ready_266 ?_
                              refine ev_cVi2 (pc := 267) dX1_ready_267 mv_X1_ready lk_RX1_33 rp_3 (ihn _ _ _ _ _ rfl e60) (by omega) (Nat.le_of_ble_eq_true rfl) ?_
                              refine ev_iand (pc := 270) dX1_ready_270 ?_
                              by_cases b61 : (((v55 ||| 4) ||| 8) &&& t59) = 0
                              · rw [if_pos b61] at h
                                refine ev_if_eq_t (t := 276) (pc := 271) dX1_ready_271 (by decide) b61 ?_
                                refine ev_iinc (x := s36) (v := (s36 + 1)) (L' := [some (.inr 3), some (.inl x0), some (.inl x1), none, none, some (.inl v34), some (.inl (s36 + 1)), some (.inl ((v55 ||| 4) ||| 8))]) (pc := 276) dX1_ready_276 rfl (kx_1 _) (Nat.le_of_ble_eq_true rfl) rfl ?_
                                refine ev_goto (t := 182) (pc := 279) dX1_ready_279 (by decide) ?_
                                obtain rfl := Option.some.inj h
                                exact ev_fg (L := [some (.inr 3), some (.inl x0), some (.inl x1), none, none, some (.inl v34), some (.inl (s36 + 1)), none]) (And.intro rfl (And.intro rfl (And.intro rfl (And.intro rfl (And.intro rfl True.intro))))) (ih40 (s36 + 1) rfl)
                              · rw [if_neg b61] at h
                                refine ev_if_eq_f (t := 276) (pc := 271) dX1_ready_271 (by decide) b61 ?_
                                refine ev_iconst (v := 1) (pc := 274) dX1_ready_274 ki_1 ?_
                                obtain rfl := Option.some.inj h
                                obtain rfl := hr43 _ (hE41 _ rfl).symm
                                exact ev_iret (pc := 275) dX1_ready_275 rfl rfl rfl hfin
                        · rw [if_neg b48] at h
                          refine ev_icmp_ne_t (t := 276) (pc := 201) dX1_ready_201 (by decide) b48 ?_
                          refine ev_iinc (x := s36) (v := (s36 + 1)) (L' := [some (.inr 3), some (.inl x0), some (.inl x1), none, none, some (.inl v34), some (.inl (s36 + 1)), none]) (pc := 276) dX1_ready_276 rfl (kx_1 _) (Nat.le_of_ble_eq_true rfl) rfl ?_
                          refine ev_goto (t := 182) (pc := 279) dX1_ready_279 (by decide) ?_
                          obtain rfl := Option.some.inj h
                          exact ih40 (s36 + 1) rfl
                    by_cases b63 : v11 = 4
                    · exact ev_tsIn (t := 171) (off := 121) (pc := 50) dX1_ready_50 (by rw [b63]; decide) (by rw [b63]; decide) (by rw [b63]; decide) (by decide) hd64
                    exact ev_tsOut (t := 171) (pc := 50) dX1_ready_50 (rb_tsS (k := 5) (by decide) b32 (rb_tsS (k := 4) (by decide) b63 (rb_tsS (k := 3) (by decide) b30 (rb_tsS (k := 2) (by decide) b24 (rb_tsS (k := 1) (by decide) b19 (rb_tsS (k := 0) (by decide) b13 (rb_ts0 _))))))) (by decide) hd64
        replace h := e8
        by_cases b10 : 0 ≤ v5
        · rw [if_pos b10] at h
          refine ev_if_ge_t (t := 38) (pc := 31) dX1_ready_31 (by decide) b10 ?_
          refine ev_iconst (v := 0) (pc := 38) dX1_ready_38 ki_0 ?_
          obtain rfl := Option.some.inj h
          exact hj9
        · rw [if_neg b10] at h
          refine ev_if_ge_f (t := 38) (pc := 31) dX1_ready_31 (by decide) b10 ?_
          refine ev_iconst (v := 1) (pc := 34) dX1_ready_34 ki_1 ?_
          refine ev_goto (t := 39) (pc := 35) dX1_ready_35 (by decide) ?_
          obtain rfl := Option.some.inj h
          exact hj9
      · rw [if_neg b2] at h
        refine ev_icmp_le_f (t := 11) (pc := 6) dX1_ready_6 (by decide) b2 ?_
        refine ev_iconst (v := 0) (pc := 9) dX1_ready_9 ki_0 ?_
        obtain rfl := Option.some.inj h
        exact ev_iret (pc := 10) dX1_ready_10 rfl rfl rfl hfin
set_option maxHeartbeats 4000000 in
set_option maxRecDepth 20000 in
theorem ct1_X1_ready : ∀ (n : Nat) (μ : rb_Mem) (c : rb_Row) (x0 : Int32) (x1 : Int32) (o : Int32) (hc : μ 11 = c) (h : XX1_ready n c x0 x1 = some o), rb_Ct yX1_ready cX1_ready 8 (some .int) (0 + n) [.inr 9, .inl x0, .inl x1] μ (some o) μ := by
  intro n
  induction n with
  | zero => intro μ c x0 x1 o hc h; cases h
  | succ n ihn =>
    intro μ c x0 x1 o hc h
    rw [XX1_ready] at h
    have hini : rb_ov μ [(11, c)] = μ := rb_ov_sf _ _ (And.intro hc True.intro)
    have hfin := hini
    refine rb_cti (w := [(11, c)]) rfl pn_1 (Nat.le_of_ble_eq_true rfl) rfl hini ?_
    refine ev_iload_n (v := x0) (pc := 0) dX1_ready_0 rfl ?_
    by_cases b1 : x0 < 0
    · rw [if_pos b1] at h
      refine ev_if_lt_t (t := 9) (pc := 1) dX1_ready_1 (by decide) b1 ?_
      refine ev_iconst (v := 0) (pc := 9) dX1_ready_9 ki_0 ?_
      obtain rfl := Option.some.inj h
      exact ev_iret (pc := 10) dX1_ready_10 rfl rfl rfl hfin
    · rw [if_neg b1] at h
      refine ev_if_lt_f (t := 9) (pc := 1) dX1_ready_1 (by decide) b1 ?_
      refine ev_iload_n (v := x1) (pc := 4) dX1_ready_4 rfl ?_
      refine ev_iconst (v := 3) (pc := 5) dX1_ready_5 ki_3 ?_
      by_cases b2 : x1 ≤ 3
      · rw [if_pos b2] at h
        refine ev_icmp_le_t (t := 11) (pc := 6) dX1_ready_6 (by decide) b2 ?_
        obtain ⟨v3, e4, h⟩ := rb_bd h
        obtain ⟨v5, e6, h⟩ := rb_bd h
        refine ev_aload_n (v := 9) (pc := 11) dX1_ready_11 rfl ?_
        refine ev_getr (q := 11) (pc := 12) dX1_ready_12 fl_RX1_9 rfl rfl ?_
        refine ev_bipush (v := 47) (pc := 15) dX1_ready_15 kb_47 ?_
        refine ev_iload_n (v := x0) (pc := 17) dX1_ready_17 rfl ?_
        refine ev_iadd (pc := 18) dX1_ready_18 ?_
        refine ev_iald (pc := 19) dX1_ready_19 rfl e4 ?_
        refine ev_istore_n (L' := [some (.inr 9), some (.inl x0), some (.inl x1), some (.inl v3), none, none, none, none]) (pc := 20) dX1_ready_20 (Nat.le_of_ble_eq_true rfl) rfl ?_
        refine ev_aload_n (v := 9) (pc := 21) dX1_ready_21 rfl ?_
        refine ev_getr (q := 11) (pc := 22) dX1_ready_22 fl_RX1_9 rfl rfl ?_
        refine ev_sipush (v := 131) (pc := 25) dX1_ready_25 ks_131 ?_
        refine ev_iload_n (v := x0) (pc := 28) dX1_ready_28 rfl ?_
        refine ev_iadd (pc := 29) dX1_ready_29 ?_
        refine ev_iald (pc := 30) dX1_ready_30 rfl e6 ?_
        obtain ⟨j7, e8, h⟩ := rb_bd h
        have hj9 : rb_Ev RX1 cX1_ready 8 (some .int) none (0 + (n + 1)) (some o) μ 39 [some (.inr 9), some (.inl x0), some (.inl x1), some (.inl v3), none, none, none, none] [.inl j7] (rb_ov μ [(11, c)]) := by
          obtain ⟨v11, e12, h⟩ := rb_bd h
          refine ev_istore (L' := [some (.inr 9), some (.inl x0), some (.inl x1), some (.inl v3), some (.inl j7), none, none, none]) (pc := 39) dX1_ready_39 (Nat.le_of_ble_eq_true rfl) rfl ?_
          refine ev_aload_n (v := 9) (pc := 41) dX1_ready_41 rfl ?_
          refine ev_getr (q := 11) (pc := 42) dX1_ready_42 fl_RX1_9 rfl rfl ?_
          refine ev_bipush (v := 19) (pc := 45) dX1_ready_45 kb_19 ?_
          refine ev_iload_n (v := x0) (pc := 47) dX1_ready_47 rfl ?_
          refine ev_iadd (pc := 48) dX1_ready_48 ?_
          refine ev_iald (pc := 49) dX1_ready_49 rfl e12 ?_
          by_cases b13 : v11 = 0
          · rw [if_pos b13] at h
            refine ev_tsIn (t := 88) (off := 38) (pc := 50) dX1_ready_50 (by rw [b13]; decide) (by rw [b13]; decide) (by rw [b13]; decide) (by decide) ?_
            refine ev_iload_n (v := v3) (pc := 88) dX1_ready_88 rfl ?_
            obtain ⟨j14, e15, h⟩ := rb_bd h
            have hj16 : rb_Ev RX1 cX1_ready 8 (some .int) none (0 + (n + 1)) (some o) μ 97 [none, none, none, none, some (.inl j7), none, none, none] [.inl j14] (rb_ov μ [(11, c)]) := by
              refine ev_iload (v := j7) (pc := 97) dX1_ready_97 rfl ?_
              by_cases b18 : j7 = 0
              · rw [if_pos b18] at h
                refine ev_if_eq_t (t := 106) (pc := 99) dX1_ready_99 (by decide) b18 ?_
                refine ev_iconst (v := 0) (pc := 106) dX1_ready_106 ki_0 ?_
                refine ev_ior (pc := 107) dX1_ready_107 ?_
                obtain rfl := Option.some.inj h
                exact ev_iret (pc := 108) dX1_ready_108 rfl rfl rfl hfin
              · rw [if_neg b18] at h
                refine ev_if_eq_f (t := 106) (pc := 99) dX1_ready_99 (by decide) b18 ?_
                refine ev_iconst (v := 4) (pc := 102) dX1_ready_102 ki_4 ?_
                refine ev_goto (t := 107) (pc := 103) dX1_ready_103 (by decide) ?_
                refine ev_ior (pc := 107) dX1_ready_107 ?_
                obtain rfl := Option.some.inj h
                exact ev_iret (pc := 108) dX1_ready_108 rfl rfl rfl hfin
            replace h := e15
            by_cases b17 : v3 ≤ 0
            · rw [if_pos b17] at h
              refine ev_if_le_t (t := 96) (pc := 89) dX1_ready_89 (by decide) b17 ?_
              refine ev_iconst (v := 0) (pc := 96) dX1_ready_96 ki_0 ?_
              obtain rfl := Option.some.inj h
              exact ev_fg (L := [none, none, none, none, some (.inl j7), none, none, none]) (And.intro rfl True.intro) (hj16)
            · rw [if_neg b17] at h
              refine ev_if_le_f (t := 96) (pc := 89) dX1_ready_89 (by decide) b17 ?_
              refine ev_iconst (v := 1) (pc := 92) dX1_ready_92 ki_1 ?_
              refine ev_goto (t := 97) (pc := 93) dX1_ready_93 (by decide) ?_
              obtain rfl := Option.some.inj h
              exact ev_fg (L := [none, none, none, none, some (.inl j7), none, none, none]) (And.intro rfl True.intro) (hj16)
          · rw [if_neg b13] at h
            by_cases b19 : v11 = 1
            · rw [if_pos b19] at h
              refine ev_tsIn (t := 109) (off := 59) (pc := 50) dX1_ready_50 (by rw [b19]; decide) (by rw [b19]; decide) (by rw [b19]; decide) (by decide) ?_
              refine ev_iload (v := j7) (pc := 109) dX1_ready_109 rfl ?_
              by_cases b20 : j7 = 0
              · rw [if_pos b20] at h
                refine ev_if_eq_t (t := 119) (pc := 111) dX1_ready_111 (by decide) b20 ?_
                obtain ⟨v21, e22, h⟩ := rb_bd h
                refine ev_iload_n (v := v3) (pc := 119) dX1_ready_119 rfl ?_
                refine ev_aload_n (v := 9) (pc := 120) dX1_ready_120 rfl ?_
                refine ev_getr (q := 11) (pc := 121) dX1_ready_121 fl_RX1_9 rfl rfl ?_
                refine ev_bipush (v := 75) (pc := 124) dX1_ready_124 kb_75 ?_
                refine ev_iload_n (v := x0) (pc := 126) dX1_ready_126 rfl ?_
                refine ev_iadd (pc := 127) dX1_ready_127 ?_
                refine ev_iald (pc := 128) dX1_ready_128 rfl e22 ?_
                by_cases b23 : v21 ≤ v3
                · rw [if_pos b23] at h
                  refine ev_icmp_ge_t (t := 136) (pc := 129) dX1_ready_129 (by decide) b23 ?_
                  refine ev_iconst (v := 0) (pc := 136) dX1_ready_136 ki_0 ?_
                  obtain rfl := Option.some.inj h
                  exact ev_iret (pc := 137) dX1_ready_137 rfl rfl rfl hfin
                · rw [if_neg b23] at h
                  refine ev_icmp_ge_f (t := 136) (pc := 129) dX1_ready_129 (by decide) b23 ?_
                  refine ev_iconst (v := 2) (pc := 132) dX1_ready_132 ki_2 ?_
                  refine ev_goto (t := 137) (pc := 133) dX1_ready_133 (by decide) ?_
                  obtain rfl := Option.some.inj h
                  exact ev_iret (pc := 137) dX1_ready_137 rfl rfl rfl hfin
              · rw [if_neg b20] at h
                refine ev_if_eq_f (t := 119) (pc := 111) dX1_ready_111 (by decide) b20 ?_
                refine ev_bipush (v := 8) (pc := 114) dX1_ready_114 kb_8 ?_
                refine ev_goto (t := 137) (pc := 116) dX1_ready_116 (by decide) ?_
                obtain rfl := Option.some.inj h
                exact ev_iret (pc := 137) dX1_ready_137 rfl rfl rfl hfin
            · rw [if_neg b19] at h
              by_cases b24 : v11 = 2
              · rw [if_pos b24] at h
                refine ev_tsIn (t := 138) (off := 88) (pc := 50) dX1_ready_50 (by rw [b24]; decide) (by rw [b24]; decide) (by rw [b24]; decide) (by decide) ?_
                refine ev_iload_n (v := v3) (pc := 138) dX1_ready_138 rfl ?_
                obtain ⟨j25, e26, h⟩ := rb_bd h
                have hj27 : rb_Ev RX1 cX1_ready 8 (some .int) none (0 + (n + 1)) (some o) μ 147 [none, none, none, some (.inl v3), none, none, none, none] [.inl j25] (rb_ov μ [(11, c)]) := by
                  refine ev_iload_n (v := v3) (pc := 147) dX1_ready_147 rfl ?_
                  refine ev_sipush (v := 1000) (pc := 148) dX1_ready_148 ks_1000 ?_
                  by_cases b29 : 1000 ≤ v3
                  · rw [if_pos b29] at h
                    refine ev_icmp_ge_t (t := 158) (pc := 151) dX1_ready_151 (by decide) b29 ?_
                    refine ev_iconst (v := 0) (pc := 158) dX1_ready_158 ki_0 ?_
                    refine ev_ior (pc := 159) dX1_ready_159 ?_
                    obtain rfl := Option.some.inj h
                    exact ev_iret (pc := 160) dX1_ready_160 rfl rfl rfl hfin
                  · rw [if_neg b29] at h
                    refine ev_icmp_ge_f (t := 158) (pc := 151) dX1_ready_151 (by decide) b29 ?_
                    refine ev_iconst (v := 2) (pc := 154) dX1_ready_154 ki_2 ?_
                    refine ev_goto (t := 159) (pc := 155) dX1_ready_155 (by decide) ?_
                    refine ev_ior (pc := 159) dX1_ready_159 ?_
                    obtain rfl := Option.some.inj h
                    exact ev_iret (pc := 160) dX1_ready_160 rfl rfl rfl hfin
                replace h := e26
                by_cases b28 : v3 ≤ 0
                · rw [if_pos b28] at h
                  refine ev_if_le_t (t := 146) (pc := 139) dX1_ready_139 (by decide) b28 ?_
                  refine ev_iconst (v := 0) (pc := 146) dX1_ready_146 ki_0 ?_
                  obtain rfl := Option.some.inj h
                  exact ev_fg (L := [none, none, none, some (.inl v3), none, none, none, none]) (And.intro rfl True.intro) (hj27)
                · rw [if_neg b28] at h
                  refine ev_if_le_f (t := 146) (pc := 139) dX1_ready_139 (by decide) b28 ?_
                  refine ev_iconst (v := 1) (pc := 142) dX1_ready_142 ki_1 ?_
                  refine ev_goto (t := 147) (pc := 143) dX1_ready_143 (by decide) ?_
                  obtain rfl := Option.some.inj h
                  exact ev_fg (L := [none, none, none, some (.inl v3), none, none, none, none]) (And.intro rfl True.intro) (hj27)
              · rw [if_neg b24] at h
                by_cases b30 : v11 = 3
                · rw [if_pos b30] at h
                  refine ev_tsIn (t := 161) (off := 111) (pc := 50) dX1_ready_50 (by rw [b30]; decide) (by rw [b30]; decide) (by rw [b30]; decide) (by decide) ?_
                  refine ev_iload_n (v := v3) (pc := 161) dX1_ready_161 rfl ?_
                  by_cases b31 : v3 ≤ 0
                  · rw [if_pos b31] at h
                    refine ev_if_le_t (t := 169) (pc := 162) dX1_ready_162 (by decide) b31 ?_
                    refine ev_iconst (v := 0) (pc := 169) dX1_ready_169 ki_0 ?_
                    obtain rfl := Option.some.inj h
                    exact ev_iret (pc := 170) dX1_ready_170 rfl rfl rfl hfin
                  · rw [if_neg b31] at h
                    refine ev_if_le_f (t := 169) (pc := 162) dX1_ready_162 (by decide) b31 ?_
                    refine ev_iconst (v := 1) (pc := 165) dX1_ready_165 ki_1 ?_
                    refine ev_goto (t := 170) (pc := 166) dX1_ready_166 (by decide) ?_
                    obtain rfl := Option.some.inj h
                    exact ev_iret (pc := 170) dX1_ready_170 rfl rfl rfl hfin
                · rw [if_neg b30] at h
                  by_cases b32 : v11 = 5
                  · rw [if_pos b32] at h
                    refine ev_tsIn (t := 161) (off := 111) (pc := 50) dX1_ready_50 (by rw [b32]; decide) (by rw [b32]; decide) (by rw [b32]; decide) (by decide) ?_
                    refine ev_iload_n (v := v3) (pc := 161) dX1_ready_161 rfl ?_
                    by_cases b33 : v3 ≤ 0
                    · rw [if_pos b33] at h
                      refine ev_if_le_t (t := 169) (pc := 162) dX1_ready_162 (by decide) b33 ?_
                      refine ev_iconst (v := 0) (pc := 169) dX1_ready_169 ki_0 ?_
                      obtain rfl := Option.some.inj h
                      exact ev_iret (pc := 170) dX1_ready_170 rfl rfl rfl hfin
                    · rw [if_neg b33] at h
                      refine ev_if_le_f (t := 169) (pc := 162) dX1_ready_162 (by decide) b33 ?_
                      refine ev_iconst (v := 1) (pc := 165) dX1_ready_165 ki_1 ?_
                      refine ev_goto (t := 170) (pc := 166) dX1_ready_166 (by decide) ?_
                      obtain rfl := Option.some.inj h
                      exact ev_iret (pc := 170) dX1_ready_170 rfl rfl rfl hfin
                  · rw [if_neg b32] at h
                    have hd64 : rb_Ev RX1 cX1_ready 8 (some .int) none (0 + (n + 1)) (some o) μ 171 [some (.inr 9), some (.inl x0), some (.inl x1), some (.inl v3), some (.inl j7), none, none, none] [] (rb_ov μ [(11, c)]) := by
                      obtain ⟨v34, e35, h⟩ := rb_bd h
                      refine ev_aload_n (v := 9) (pc := 171) dX1_ready_171 rfl ?_
                      refine ev_getr (q := 11) (pc := 172) dX1_ready_172 fl_RX1_9 rfl rfl ?_
                      refine ev_iconst (v := 2) (pc := 175) dX1_ready_175 ki_2 ?_
                      refine ev_iald (pc := 176) dX1_ready_176 rfl e35 ?_
                      refine ev_istore (L' := [some (.inr 9), some (.inl x0), some (.inl x1), some (.inl v3), some (.inl j7), some (.inl v34), none, none]) (pc := 177) dX1_ready_177 (Nat.le_of_ble_eq_true rfl) rfl ?_
                      refine ev_iconst (v := 0) (pc := 179) dX1_ready_179 ki_0 ?_
                      refine ev_istore (L' := [some (.inr 9), some (.inl x0), some (.inl x1), some (.inl v3), some (.inl j7), some (.inl v34), some (.inl 0), none]) (pc := 180) dX1_ready_180 (Nat.le_of_ble_eq_true rfl) rfl ?_
                      obtain ⟨q37, l38, h⟩ := rb_bd h
                      have hx42 : ∀ z44 : Unit, q37 = .inl z44 → rb_Ev RX1 cX1_ready 8 (some .int) none (0 + (n + 1)) (some o) μ 282 [none, none, none, none, none, none, none, none] [] (rb_ov μ [(11, c)]) := by
                        intro z44 hz
                        rw [hz] at h
                        replace h := rb_sel h
                        refine ev_iconst (v := 0) (pc := 282) dX1_ready_282 ki_0 ?_
                        obtain rfl := Option.some.inj h
                        exact ev_iret (pc := 283) dX1_ready_283 rfl rfl rfl hfin
                      have hr43 : ∀ w62 : Int32, q37 = .inr w62 → w62 = o := by
                        intro w62 hz
                        rw [hz] at h
                        replace h := rb_ser h
                        exact Option.some.inj h
                      refine ev_fg (L := [some (.inr 9), some (.inl x0), some (.inl x1), none, none, some (.inl v34), some (.inl 0), none]) (And.intro rfl (And.intro rfl (And.intro rfl (And.intro rfl (And.intro rfl True.intro))))) ?_
                      refine rb_lp_ev (P := fun (s36 : Int32) => rb_Ev RX1 cX1_ready 8 (some .int) none (0 + (n + 1)) (some o) μ 182 [some (.inr 9), some (.inl x0), some (.inl x1), none, none, some (.inl v34), some (.inl s36), none] [] (rb_ov μ [(11, c)])) ?_ 100000 0 l38
                      intro s36 y39 h ih40 hE41
                      refine ev_iload (v := s36) (pc := 182) dX1_ready_182 rfl ?_
                      refine ev_iload (v := v34) (pc := 184) dX1_ready_184 rfl ?_
                      by_cases b45 : v34 ≤ s36
                      · rw [if_pos b45] at h
                        refine ev_icmp_ge_t (t := 282) (pc := 186) dX1_ready_186 (by decide) b45 ?_
                        obtain rfl := Option.some.inj h
                        exact ev_fg (L := [none, none, none, none, none, none, none, none]) True.intro (hx42 () (hE41 _ rfl).symm)
                      · rw [if_neg b45] at h
                        refine ev_icmp_ge_f (t := 282) (pc := 186) dX1_ready_186 (by decide) b45 ?_
                        obtain ⟨v46, e47, h⟩ := rb_bd h
                        refine ev_aload_n (v := 9) (pc := 189) dX1_ready_189 rfl ?_
                        refine ev_getr (q := 11) (pc := 190) dX1_ready_190 fl_RX1_9 rfl rfl ?_
                        refine ev_sipush (v := 299) (pc := 193) dX1_ready_193 ks_299 ?_
                        refine ev_iload (v := s36) (pc := 196) dX1_ready_196 rfl ?_
                        refine ev_iadd (pc := 198) dX1_ready_198 ?_
                        refine ev_iald (pc := 199) dX1_ready_199 rfl e47 ?_
                        refine ev_iload_n (v := x0) (pc := 200) dX1_ready_200 rfl ?_
                        by_cases b48 : v46 = x0
                        · rw [if_pos b48] at h
                          refine ev_icmp_ne_f (t := 276) (pc := 201) dX1_ready_201 (by decide) b48 ?_
                          obtain ⟨v49, e50, h⟩ := rb_bd h
                          refine ev_aload_n (v := 9) (pc := 204) dX1_ready_204 rfl ?_
                          refine ev_getr (q := 11) (pc := 205) dX1_ready_205 fl_RX1_9 rfl rfl ?_
                          refine ev_sipush (v := 443) (pc := 208) dX1_ready_208 ks_443 ?_
                          refine ev_iload (v := s36) (pc := 211) dX1_ready_211 rfl ?_
                          refine ev_iadd (pc := 213) dX1_ready_213 ?_
                          refine ev_iald (pc := 214) dX1_ready_214 rfl e50 ?_
                          by_cases b51 : v49 < 0
                          · rw [if_pos b51] at h
                            refine ev_if_lt_t (t := 276) (pc := 215) dX1_ready_215 (by decide) b51 ?_
                            refine ev_iinc (x := s36) (v := (s36 + 1)) (L' := [some (.inr 9), some (.inl x0), some (.inl x1), none, none, some (.inl v34), some (.inl (s36 + 1)), none]) (pc := 276) dX1_ready_276 rfl (kx_1 _) (Nat.le_of_ble_eq_true rfl) rfl ?_
                            refine ev_goto (t := 182) (pc := 279) dX1_ready_279 (by decide) ?_
                            obtain rfl := Option.some.inj h
                            exact ih40 (s36 + 1) rfl
                          · rw [if_neg b51] at h
                            refine ev_if_lt_f (t := 276) (pc := 215) dX1_ready_215 (by decide) b51 ?_
                            obtain ⟨v52, e53, h⟩ := rb_bd h
                            refine ev_aload_n (v := 9) (pc := 218) dX1_ready_218 rfl ?_
                            refine ev_getr (q := 11) (pc := 219) dX1_ready_219 fl_RX1_9 rfl rfl ?_
                            refine ev_sipush (v := 419) (pc := 222) dX1_ready_222 ks_419 ?_
                            refine ev_iload (v := s36) (pc := 225) dX1_ready_225 rfl ?_
                            refine ev_iadd (pc := 227) dX1_ready_227 ?_
                            refine ev_iald (pc := 228) dX1_ready_228 rfl e53 ?_
                            by_cases b54 : v52 = 0
                            · rw [if_pos b54] at h
                              refine ev_if_eq_t (t := 276) (pc := 229) dX1_ready_229 (by decide) b54 ?_
                              refine ev_iinc (x := s36) (v := (s36 + 1)) (L' := [some (.inr 9), some (.inl x0), some (.inl x1), none, none, some (.inl v34), some (.inl (s36 + 1)), none]) (pc := 276) dX1_ready_276 rfl (kx_1 _) (Nat.le_of_ble_eq_true rfl) rfl ?_
                              refine ev_goto (t := 182) (pc := 279) dX1_ready_279 (by decide) ?_
                              obtain rfl := Option.some.inj h
                              exact ih40 (s36 + 1) rfl
                            · rw [if_neg b54] at h
                              refine ev_if_eq_f (t := 276) (pc := 229) dX1_ready_229 (by decide) b54 ?_
                              obtain ⟨v55, e56, h⟩ := rb_bd h
                              obtain ⟨v57, e58, h⟩ := rb_bd h
                              obtain ⟨t59, e60, h⟩ := rb_bd h
                              refine ev_aload_n (v := 9) (pc := 232) dX1_ready_232 rfl ?_
                              refine ev_getr (q := 11) (pc := 233) dX1_ready_233 fl_RX1_9 rfl rfl ?_
                              refine ev_sipush (v := 371) (pc := 236) dX1_ready_236 ks_371 ?_
                              refine ev_iload (v := s36) (pc := 239) dX1_ready_239 rfl ?_
                              refine ev_iadd (pc := 241) dX1_ready_241 ?_
                              refine ev_iald (pc := 242) dX1_ready_242 rfl e56 ?_
                              refine ev_iconst (v := 4) (pc := 243) dX1_ready_243 ki_4 ?_
                              refine ev_ior (pc := 244) dX1_ready_244 ?_
                              refine ev_bipush (v := 8) (pc := 245) dX1_ready_245 kb_8 ?_
                              refine ev_ior (pc := 247) dX1_ready_247 ?_
                              refine ev_istore (L' := [some (.inr 9), some (.inl x0), some (.inl x1), none, none, some (.inl v34), some (.inl s36), some (.inl ((v55 ||| 4) ||| 8))]) (pc := 248) dX1_ready_248 (Nat.le_of_ble_eq_true rfl) rfl ?_
                              refine ev_iload (v := ((v55 ||| 4) ||| 8)) (pc := 250) dX1_ready_250 rfl ?_
                              refine ev_aload_n (v := 9) (pc := 252) dX1_ready_252 rfl ?_
                              refine ev_aload_n (v := 9) (pc := 253) dX1_ready_253 rfl ?_
                              refine ev_getr (q := 11) (pc := 254) dX1_ready_254 fl_RX1_9 rfl rfl ?_
                              refine ev_sipush (v := 323) (pc := 257) dX1_ready_257 ks_323 ?_
                              refine ev_iload (v := s36) (pc := 260) dX1_ready_260 rfl ?_
                              refine ev_iadd (pc := 262) dX1_ready_262 ?_
                              refine ev_iald (pc := 263) dX1_ready_263 rfl e58 ?_
                              refine ev_iload_n (v := x1) (pc := 264) dX1_ready_264 rfl ?_
                              refine ev_iconst (v := 1) (pc := 265) dX1_ready_265 ki_1 ?_
                              refine ev_iadd (pc := 266) dX1_ready_266 ?_
                              refine ev_cVi2 (pc := 267) dX1_ready_267 mv_X1_ready lk_RX1_33 rp_9 (ihn _ _ _ _ _ rfl e60) (by omega) (Nat.le_of_ble_eq_true rfl) ?_
                              refine ev_iand (pc := 270) dX1_ready_270 ?_
                              by_cases b61 : (((v55 ||| 4) ||| 8) &&& t59) = 0
                              · rw [if_pos b61] at h
                                refine ev_if_eq_t (t := 276) (pc := 271) dX1_ready_271 (by decide) b61 ?_
                                refine ev_iinc (x := s36) (v := (s36 + 1)) (L' := [some (.inr 9), some (.inl x0), some (.inl x1), none, none, some (.inl v34), some (.inl (s36 + 1)), some (.inl ((v55 ||| 4) ||| 8))]) (pc := 276) dX1_ready_276 rfl (kx_1 _) (Nat.le_of_ble_eq_true rfl) rfl ?_
                                refine ev_goto (t := 182) (pc := 279) dX1_ready_279 (by decide) ?_
                                obtain rfl := Option.some.inj h
                                exact ev_fg (L := [some (.inr 9), some (.inl x0), some (.inl x1), none, none, some (.inl v34), some (.inl (s36 + 1)), none]) (And.intro rfl (And.intro rfl (And.intro rfl (And.intro rfl (And.intro rfl True.intro))))) (ih40 (s36 + 1) rfl)
                              · rw [if_neg b61] at h
                                refine ev_if_eq_f (t := 276) (pc := 271) dX1_ready_271 (by decide) b61 ?_
                                refine ev_iconst (v := 1) (pc := 274) dX1_ready_274 ki_1 ?_
                                obtain rfl := Option.some.inj h
                                obtain rfl := hr43 _ (hE41 _ rfl).symm
                                exact ev_iret (pc := 275) dX1_ready_275 rfl rfl rfl hfin
                        · rw [if_neg b48] at h
                          refine ev_icmp_ne_t (t := 276) (pc := 201) dX1_ready_201 (by decide) b48 ?_
                          refine ev_iinc (x := s36) (v := (s36 + 1)) (L' := [some (.inr 9), some (.inl x0), some (.inl x1), none, none, some (.inl v34), some (.inl (s36 + 1)), none]) (pc := 276) dX1_ready_276 rfl (kx_1 _) (Nat.le_of_ble_eq_true rfl) rfl ?_
                          refine ev_goto (t := 182) (pc := 279) dX1_ready_279 (by decide) ?_
                          obtain rfl := Option.some.inj h
                          exact ih40 (s36 + 1) rfl
                    by_cases b63 : v11 = 4
                    · exact ev_tsIn (t := 171) (off := 121) (pc := 50) dX1_ready_50 (by rw [b63]; decide) (by rw [b63]; decide) (by rw [b63]; decide) (by decide) hd64
                    exact ev_tsOut (t := 171) (pc := 50) dX1_ready_50 (rb_tsS (k := 5) (by decide) b32 (rb_tsS (k := 4) (by decide) b63 (rb_tsS (k := 3) (by decide) b30 (rb_tsS (k := 2) (by decide) b24 (rb_tsS (k := 1) (by decide) b19 (rb_tsS (k := 0) (by decide) b13 (rb_ts0 _))))))) (by decide) hd64
        replace h := e8
        by_cases b10 : 0 ≤ v5
        · rw [if_pos b10] at h
          refine ev_if_ge_t (t := 38) (pc := 31) dX1_ready_31 (by decide) b10 ?_
          refine ev_iconst (v := 0) (pc := 38) dX1_ready_38 ki_0 ?_
          obtain rfl := Option.some.inj h
          exact hj9
        · rw [if_neg b10] at h
          refine ev_if_ge_f (t := 38) (pc := 31) dX1_ready_31 (by decide) b10 ?_
          refine ev_iconst (v := 1) (pc := 34) dX1_ready_34 ki_1 ?_
          refine ev_goto (t := 39) (pc := 35) dX1_ready_35 (by decide) ?_
          obtain rfl := Option.some.inj h
          exact hj9
      · rw [if_neg b2] at h
        refine ev_icmp_le_f (t := 11) (pc := 6) dX1_ready_6 (by decide) b2 ?_
        refine ev_iconst (v := 0) (pc := 9) dX1_ready_9 ki_0 ?_
        obtain rfl := Option.some.inj h
        exact ev_iret (pc := 10) dX1_ready_10 rfl rfl rfl hfin
def XX1_countLeft (c : rb_Row) (x0 : Int32) : Option (rb_Row) := (rb_rd c 773 2).bind fun v1 => (rb_lp (ρ := rb_Row) (fun (s3 : Int32 × rb_Row) => if v1 ≤ s3.1 then some (.inr s3.2) else (rb_rd s3.2 773 (299 + s3.1)).bind fun v12 => ((if v12 = x0 then (rb_rd s3.2 773 (443 + s3.1)).bind fun v18 => if v18 < 0 then some s3.2 else (rb_rd s3.2 773 (515 + s3.1)).bind fun v21 => (rb_wr s3.2 773 (515 + s3.1) (v21 + 1)).bind fun c23 => some c23 else some s3.2) : Option (rb_Row)).bind fun j14 => some (.inl ((s3.1 + 1), j14))) 100000 (0, c)).bind fun q4 => some q4
set_option maxHeartbeats 4000000 in
set_option maxRecDepth 20000 in
theorem ct0_X1_countLeft (μ : rb_Mem) (c : rb_Row) (x0 : Int32) (o : rb_Row) (hc : μ 5 = c) (h : XX1_countLeft c x0 = some o) : rb_Ct yX1_countLeft cX1_countLeft 4 none 0 [.inr 3, .inl x0] μ none (rb_ov μ [(5, o)]) := by
  unfold XX1_countLeft at h
  have hini : rb_ov μ [(5, c)] = μ := rb_ov_sf _ _ (And.intro hc True.intro)
  have hfin : ∀ u0 : rb_Row, rb_ov μ [(5, u0)] = rb_ov μ [(5, u0)] := fun u0 => rfl
  refine rb_ctv (w := [(5, c)]) rfl pn_1 (Nat.le_of_ble_eq_true rfl) rfl hini ?_
  obtain ⟨v1, e2, h⟩ := rb_bd h
  refine ev_aload_n (v := 3) (pc := 0) dX1_countLeft_0 rfl ?_
  refine ev_getr (q := 5) (pc := 1) dX1_countLeft_1 fl_RX1_9 rfl rfl ?_
  refine ev_iconst (v := 2) (pc := 4) dX1_countLeft_4 ki_2 ?_
  refine ev_iald (pc := 5) dX1_countLeft_5 rfl e2 ?_
  refine ev_istore_n (L' := [some (.inr 3), some (.inl x0), some (.inl v1), none]) (pc := 6) dX1_countLeft_6 (Nat.le_of_ble_eq_true rfl) rfl ?_
  refine ev_iconst (v := 0) (pc := 7) dX1_countLeft_7 ki_0 ?_
  refine ev_istore_n (L' := [some (.inr 3), some (.inl x0), some (.inl v1), some (.inl 0)]) (pc := 8) dX1_countLeft_8 (Nat.le_of_ble_eq_true rfl) rfl ?_
  obtain ⟨q4, l5, h⟩ := rb_bd h
  have hx9 : rb_Ev RX1 cX1_countLeft 4 none none 0 none (rb_ov μ [(5, o)]) 61 [none, none, none, none] [] (rb_ov μ [(5, q4)]) := by
    obtain rfl := Option.some.inj h
    exact ev_ret (pc := 61) dX1_countLeft_61 rfl rfl (hfin _)
  refine rb_lp_ev (P := fun (s3 : Int32 × rb_Row) => rb_Ev RX1 cX1_countLeft 4 none none 0 none (rb_ov μ [(5, o)]) 9 [some (.inr 3), some (.inl x0), some (.inl v1), some (.inl s3.1)] [] (rb_ov μ [(5, s3.2)])) ?_ 100000 (0, c) l5
  intro s3 y6 h ih7 hE8
  refine ev_iload_n (v := s3.1) (pc := 9) dX1_countLeft_9 rfl ?_
  refine ev_iload_n (v := v1) (pc := 10) dX1_countLeft_10 rfl ?_
  by_cases b11 : v1 ≤ s3.1
  · rw [if_pos b11] at h
    refine ev_icmp_ge_t (t := 61) (pc := 11) dX1_countLeft_11 (by decide) b11 ?_
    obtain rfl := Option.some.inj h
    obtain rfl := hE8 _ rfl
    exact ev_fg (L := [none, none, none, none]) True.intro (hx9)
  · rw [if_neg b11] at h
    refine ev_icmp_ge_f (t := 61) (pc := 11) dX1_countLeft_11 (by decide) b11 ?_
    obtain ⟨v12, e13, h⟩ := rb_bd h
    refine ev_aload_n (v := 3) (pc := 14) dX1_countLeft_14 rfl ?_
    refine ev_getr (q := 5) (pc := 15) dX1_countLeft_15 fl_RX1_9 rfl rfl ?_
    refine ev_sipush (v := 299) (pc := 18) dX1_countLeft_18 ks_299 ?_
    refine ev_iload_n (v := s3.1) (pc := 21) dX1_countLeft_21 rfl ?_
    refine ev_iadd (pc := 22) dX1_countLeft_22 ?_
    refine ev_iald (pc := 23) dX1_countLeft_23 rfl e13 ?_
    refine ev_iload_n (v := x0) (pc := 24) dX1_countLeft_24 rfl ?_
    obtain ⟨j14, e15, h⟩ := rb_bd h
    have hj16 : rb_Ev RX1 cX1_countLeft 4 none none 0 none (rb_ov μ [(5, o)]) 55 [some (.inr 3), some (.inl x0), some (.inl v1), some (.inl s3.1)] [] (rb_ov μ [(5, j14)]) := by
      refine ev_iinc (x := s3.1) (v := (s3.1 + 1)) (L' := [some (.inr 3), some (.inl x0), some (.inl v1), some (.inl (s3.1 + 1))]) (pc := 55) dX1_countLeft_55 rfl (kx_1 _) (Nat.le_of_ble_eq_true rfl) rfl ?_
      refine ev_goto (t := 9) (pc := 58) dX1_countLeft_58 (by decide) ?_
      obtain rfl := Option.some.inj h
      exact ih7 ((s3.1 + 1), j14) rfl
    replace h := e15
    by_cases b17 : v12 = x0
    · rw [if_pos b17] at h
      refine ev_icmp_ne_f (t := 55) (pc := 25) dX1_countLeft_25 (by decide) b17 ?_
      obtain ⟨v18, e19, h⟩ := rb_bd h
      refine ev_aload_n (v := 3) (pc := 28) dX1_countLeft_28 rfl ?_
      refine ev_getr (q := 5) (pc := 29) dX1_countLeft_29 fl_RX1_9 rfl rfl ?_
      refine ev_sipush (v := 443) (pc := 32) dX1_countLeft_32 ks_443 ?_
      refine ev_iload_n (v := s3.1) (pc := 35) dX1_countLeft_35 rfl ?_
      refine ev_iadd (pc := 36) dX1_countLeft_36 ?_
      refine ev_iald (pc := 37) dX1_countLeft_37 rfl e19 ?_
      by_cases b20 : v18 < 0
      · rw [if_pos b20] at h
        refine ev_if_lt_t (t := 55) (pc := 38) dX1_countLeft_38 (by decide) b20 ?_
        obtain rfl := Option.some.inj h
        exact hj16
      · rw [if_neg b20] at h
        refine ev_if_lt_f (t := 55) (pc := 38) dX1_countLeft_38 (by decide) b20 ?_
        obtain ⟨v21, e22, h⟩ := rb_bd h
        obtain ⟨c23, e24, h⟩ := rb_bd h
        refine ev_aload_n (v := 3) (pc := 41) dX1_countLeft_41 rfl ?_
        refine ev_getr (q := 5) (pc := 42) dX1_countLeft_42 fl_RX1_9 rfl rfl ?_
        refine ev_sipush (v := 515) (pc := 45) dX1_countLeft_45 ks_515 ?_
        refine ev_iload_n (v := s3.1) (pc := 48) dX1_countLeft_48 rfl ?_
        refine ev_iadd (pc := 49) dX1_countLeft_49 ?_
        refine ev_dup2 (pc := 50) dX1_countLeft_50 ?_
        refine ev_iald (pc := 51) dX1_countLeft_51 rfl e22 ?_
        refine ev_iconst (v := 1) (pc := 52) dX1_countLeft_52 ki_1 ?_
        refine ev_iadd (pc := 53) dX1_countLeft_53 ?_
        refine ev_iast (w' := [(5, c23)]) (pc := 54) dX1_countLeft_54 rfl e24 rfl ?_
        obtain rfl := Option.some.inj h
        exact hj16
    · rw [if_neg b17] at h
      refine ev_icmp_ne_t (t := 55) (pc := 25) dX1_countLeft_25 (by decide) b17 ?_
      obtain rfl := Option.some.inj h
      exact hj16
set_option maxHeartbeats 4000000 in
set_option maxRecDepth 20000 in
theorem ct1_X1_countLeft (μ : rb_Mem) (c : rb_Row) (x0 : Int32) (o : rb_Row) (hc : μ 11 = c) (h : XX1_countLeft c x0 = some o) : rb_Ct yX1_countLeft cX1_countLeft 4 none 0 [.inr 9, .inl x0] μ none (rb_ov μ [(11, o)]) := by
  unfold XX1_countLeft at h
  have hini : rb_ov μ [(11, c)] = μ := rb_ov_sf _ _ (And.intro hc True.intro)
  have hfin : ∀ u0 : rb_Row, rb_ov μ [(11, u0)] = rb_ov μ [(11, u0)] := fun u0 => rfl
  refine rb_ctv (w := [(11, c)]) rfl pn_1 (Nat.le_of_ble_eq_true rfl) rfl hini ?_
  obtain ⟨v1, e2, h⟩ := rb_bd h
  refine ev_aload_n (v := 9) (pc := 0) dX1_countLeft_0 rfl ?_
  refine ev_getr (q := 11) (pc := 1) dX1_countLeft_1 fl_RX1_9 rfl rfl ?_
  refine ev_iconst (v := 2) (pc := 4) dX1_countLeft_4 ki_2 ?_
  refine ev_iald (pc := 5) dX1_countLeft_5 rfl e2 ?_
  refine ev_istore_n (L' := [some (.inr 9), some (.inl x0), some (.inl v1), none]) (pc := 6) dX1_countLeft_6 (Nat.le_of_ble_eq_true rfl) rfl ?_
  refine ev_iconst (v := 0) (pc := 7) dX1_countLeft_7 ki_0 ?_
  refine ev_istore_n (L' := [some (.inr 9), some (.inl x0), some (.inl v1), some (.inl 0)]) (pc := 8) dX1_countLeft_8 (Nat.le_of_ble_eq_true rfl) rfl ?_
  obtain ⟨q4, l5, h⟩ := rb_bd h
  have hx9 : rb_Ev RX1 cX1_countLeft 4 none none 0 none (rb_ov μ [(11, o)]) 61 [none, none, none, none] [] (rb_ov μ [(11, q4)]) := by
    obtain rfl := Option.some.inj h
    exact ev_ret (pc := 61) dX1_countLeft_61 rfl rfl (hfin _)
  refine rb_lp_ev (P := fun (s3 : Int32 × rb_Row) => rb_Ev RX1 cX1_countLeft 4 none none 0 none (rb_ov μ [(11, o)]) 9 [some (.inr 9), some (.inl x0), some (.inl v1), some (.inl s3.1)] [] (rb_ov μ [(11, s3.2)])) ?_ 100000 (0, c) l5
  intro s3 y6 h ih7 hE8
  refine ev_iload_n (v := s3.1) (pc := 9) dX1_countLeft_9 rfl ?_
  refine ev_iload_n (v := v1) (pc := 10) dX1_countLeft_10 rfl ?_
  by_cases b11 : v1 ≤ s3.1
  · rw [if_pos b11] at h
    refine ev_icmp_ge_t (t := 61) (pc := 11) dX1_countLeft_11 (by decide) b11 ?_
    obtain rfl := Option.some.inj h
    obtain rfl := hE8 _ rfl
    exact ev_fg (L := [none, none, none, none]) True.intro (hx9)
  · rw [if_neg b11] at h
    refine ev_icmp_ge_f (t := 61) (pc := 11) dX1_countLeft_11 (by decide) b11 ?_
    obtain ⟨v12, e13, h⟩ := rb_bd h
    refine ev_aload_n (v := 9) (pc := 14) dX1_countLeft_14 rfl ?_
    refine ev_getr (q := 11) (pc := 15) dX1_countLeft_15 fl_RX1_9 rfl rfl ?_
    refine ev_sipush (v := 299) (pc := 18) dX1_countLeft_18 ks_299 ?_
    refine ev_iload_n (v := s3.1) (pc := 21) dX1_countLeft_21 rfl ?_
    refine ev_iadd (pc := 22) dX1_countLeft_22 ?_
    refine ev_iald (pc := 23) dX1_countLeft_23 rfl e13 ?_
    refine ev_iload_n (v := x0) (pc := 24) dX1_countLeft_24 rfl ?_
    obtain ⟨j14, e15, h⟩ := rb_bd h
    have hj16 : rb_Ev RX1 cX1_countLeft 4 none none 0 none (rb_ov μ [(11, o)]) 55 [some (.inr 9), some (.inl x0), some (.inl v1), some (.inl s3.1)] [] (rb_ov μ [(11, j14)]) := by
      refine ev_iinc (x := s3.1) (v := (s3.1 + 1)) (L' := [some (.inr 9), some (.inl x0), some (.inl v1), some (.inl (s3.1 + 1))]) (pc := 55) dX1_countLeft_55 rfl (kx_1 _) (Nat.le_of_ble_eq_true rfl) rfl ?_
      refine ev_goto (t := 9) (pc := 58) dX1_countLeft_58 (by decide) ?_
      obtain rfl := Option.some.inj h
      exact ih7 ((s3.1 + 1), j14) rfl
    replace h := e15
    by_cases b17 : v12 = x0
    · rw [if_pos b17] at h
      refine ev_icmp_ne_f (t := 55) (pc := 25) dX1_countLeft_25 (by decide) b17 ?_
      obtain ⟨v18, e19, h⟩ := rb_bd h
      refine ev_aload_n (v := 9) (pc := 28) dX1_countLeft_28 rfl ?_
      refine ev_getr (q := 11) (pc := 29) dX1_countLeft_29 fl_RX1_9 rfl rfl ?_
      refine ev_sipush (v := 443) (pc := 32) dX1_countLeft_32 ks_443 ?_
      refine ev_iload_n (v := s3.1) (pc := 35) dX1_countLeft_35 rfl ?_
      refine ev_iadd (pc := 36) dX1_countLeft_36 ?_
      refine ev_iald (pc := 37) dX1_countLeft_37 rfl e19 ?_
      by_cases b20 : v18 < 0
      · rw [if_pos b20] at h
        refine ev_if_lt_t (t := 55) (pc := 38) dX1_countLeft_38 (by decide) b20 ?_
        obtain rfl := Option.some.inj h
        exact hj16
      · rw [if_neg b20] at h
        refine ev_if_lt_f (t := 55) (pc := 38) dX1_countLeft_38 (by decide) b20 ?_
        obtain ⟨v21, e22, h⟩ := rb_bd h
        obtain ⟨c23, e24, h⟩ := rb_bd h
        refine ev_aload_n (v := 9) (pc := 41) dX1_countLeft_41 rfl ?_
        refine ev_getr (q := 11) (pc := 42) dX1_countLeft_42 fl_RX1_9 rfl rfl ?_
        refine ev_sipush (v := 515) (pc := 45) dX1_countLeft_45 ks_515 ?_
        refine ev_iload_n (v := s3.1) (pc := 48) dX1_countLeft_48 rfl ?_
        refine ev_iadd (pc := 49) dX1_countLeft_49 ?_
        refine ev_dup2 (pc := 50) dX1_countLeft_50 ?_
        refine ev_iald (pc := 51) dX1_countLeft_51 rfl e22 ?_
        refine ev_iconst (v := 1) (pc := 52) dX1_countLeft_52 ki_1 ?_
        refine ev_iadd (pc := 53) dX1_countLeft_53 ?_
        refine ev_iast (w' := [(11, c23)]) (pc := 54) dX1_countLeft_54 rfl e24 rfl ?_
        obtain rfl := Option.some.inj h
        exact hj16
    · rw [if_neg b17] at h
      refine ev_icmp_ne_t (t := 55) (pc := 25) dX1_countLeft_25 (by decide) b17 ?_
      obtain rfl := Option.some.inj h
      exact hj16
def XX4_getUp (c : rb_Row) (x0 : Int32) : Option (rb_Row) := (rb_wr c 773 (539 + x0) (-1)).bind fun c1 => (rb_wr c1 773 (557 + x0) (-1)).bind fun c3 => some c3
set_option maxHeartbeats 4000000 in
set_option maxRecDepth 20000 in
theorem ct0_X4_getUp (μ : rb_Mem) (c : rb_Row) (x0 : Int32) (o : rb_Row) (hc : μ 5 = c) (h : XX4_getUp c x0 = some o) : rb_Ct yX4_getUp cX4_getUp 2 none 0 [.inr 4, .inl x0] μ none (rb_ov μ [(5, o)]) := by
  unfold XX4_getUp at h
  have hini : rb_ov μ [(5, c)] = μ := rb_ov_sf _ _ (And.intro hc True.intro)
  have hfin : ∀ u0 : rb_Row, rb_ov μ [(5, u0)] = rb_ov μ [(5, u0)] := fun u0 => rfl
  refine rb_ctv (w := [(5, c)]) rfl pn_4 (Nat.le_of_ble_eq_true rfl) rfl hini ?_
  obtain ⟨c1, e2, h⟩ := rb_bd h
  obtain ⟨c3, e4, h⟩ := rb_bd h
  refine ev_aload_n (v := 4) (pc := 0) dX4_getUp_0 rfl ?_
  refine ev_getr (q := 5) (pc := 1) dX4_getUp_1 fl_RX4_9 rfl rfl ?_
  refine ev_sipush (v := 539) (pc := 4) dX4_getUp_4 ks_539 ?_
  refine ev_iload_n (v := x0) (pc := 7) dX4_getUp_7 rfl ?_
  refine ev_iadd (pc := 8) dX4_getUp_8 ?_
  refine ev_iconst (v := (-1)) (pc := 9) dX4_getUp_9 ki_m1 ?_
  refine ev_iast (w' := [(5, c1)]) (pc := 10) dX4_getUp_10 rfl e2 rfl ?_
  refine ev_aload_n (v := 4) (pc := 11) dX4_getUp_11 rfl ?_
  refine ev_getr (q := 5) (pc := 12) dX4_getUp_12 fl_RX4_9 rfl rfl ?_
  refine ev_sipush (v := 557) (pc := 15) dX4_getUp_15 ks_557 ?_
  refine ev_iload_n (v := x0) (pc := 18) dX4_getUp_18 rfl ?_
  refine ev_iadd (pc := 19) dX4_getUp_19 ?_
  refine ev_iconst (v := (-1)) (pc := 20) dX4_getUp_20 ki_m1 ?_
  refine ev_iast (w' := [(5, c3)]) (pc := 21) dX4_getUp_21 rfl e4 rfl ?_
  obtain rfl := Option.some.inj h
  exact ev_ret (pc := 22) dX4_getUp_22 rfl rfl (hfin _)
set_option maxHeartbeats 4000000 in
set_option maxRecDepth 20000 in
theorem ct1_X4_getUp (μ : rb_Mem) (c : rb_Row) (x0 : Int32) (o : rb_Row) (hc : μ 11 = c) (h : XX4_getUp c x0 = some o) : rb_Ct yX4_getUp cX4_getUp 2 none 0 [.inr 10, .inl x0] μ none (rb_ov μ [(11, o)]) := by
  unfold XX4_getUp at h
  have hini : rb_ov μ [(11, c)] = μ := rb_ov_sf _ _ (And.intro hc True.intro)
  have hfin : ∀ u0 : rb_Row, rb_ov μ [(11, u0)] = rb_ov μ [(11, u0)] := fun u0 => rfl
  refine rb_ctv (w := [(11, c)]) rfl pn_4 (Nat.le_of_ble_eq_true rfl) rfl hini ?_
  obtain ⟨c1, e2, h⟩ := rb_bd h
  obtain ⟨c3, e4, h⟩ := rb_bd h
  refine ev_aload_n (v := 10) (pc := 0) dX4_getUp_0 rfl ?_
  refine ev_getr (q := 11) (pc := 1) dX4_getUp_1 fl_RX4_9 rfl rfl ?_
  refine ev_sipush (v := 539) (pc := 4) dX4_getUp_4 ks_539 ?_
  refine ev_iload_n (v := x0) (pc := 7) dX4_getUp_7 rfl ?_
  refine ev_iadd (pc := 8) dX4_getUp_8 ?_
  refine ev_iconst (v := (-1)) (pc := 9) dX4_getUp_9 ki_m1 ?_
  refine ev_iast (w' := [(11, c1)]) (pc := 10) dX4_getUp_10 rfl e2 rfl ?_
  refine ev_aload_n (v := 10) (pc := 11) dX4_getUp_11 rfl ?_
  refine ev_getr (q := 11) (pc := 12) dX4_getUp_12 fl_RX4_9 rfl rfl ?_
  refine ev_sipush (v := 557) (pc := 15) dX4_getUp_15 ks_557 ?_
  refine ev_iload_n (v := x0) (pc := 18) dX4_getUp_18 rfl ?_
  refine ev_iadd (pc := 19) dX4_getUp_19 ?_
  refine ev_iconst (v := (-1)) (pc := 20) dX4_getUp_20 ki_m1 ?_
  refine ev_iast (w' := [(11, c3)]) (pc := 21) dX4_getUp_21 rfl e4 rfl ?_
  obtain rfl := Option.some.inj h
  exact ev_ret (pc := 22) dX4_getUp_22 rfl rfl (hfin _)
def XX1_showsOlder (c : rb_Row) (x0 : Int32) (x1 : Int32) : Option (Int32) := (rb_rd c 773 2).bind fun v1 => (rb_lp (ρ := (Unit) ⊕ (Int32)) (fun (s3 : Int32) => if v1 ≤ s3 then some (.inr (.inl ())) else (rb_rd c 773 (299 + s3)).bind fun v13 => if v13 = x0 then (rb_rd c 773 (443 + s3)).bind fun v16 => if v16 < 0 then some (.inl (s3 + 1)) else (rb_rd c 773 (443 + s3)).bind fun v19 => if x1 ≤ v19 then some (.inl (s3 + 1)) else (rb_rd c 773 (419 + s3)).bind fun v22 => if v22 = 0 then some (.inl (s3 + 1)) else (XX1_bitsOf c s3).bind fun t25 => (rb_rd c 773 (323 + s3)).bind fun v27 => (XX1_ready 5 c v27 0).bind fun t29 => if (t25 &&& t29) = 0 then some (.inl (s3 + 1)) else some (.inr (.inr (rb_nz 1))) else some (.inl (s3 + 1))) 100000 0).bind fun q4 => Sum.elim (fun (z11 : Unit) => some (rb_nz 0)) (fun (w32 : Int32) => some w32) q4
set_option maxHeartbeats 4000000 in
set_option maxRecDepth 20000 in
theorem ct0_X1_showsOlder (μ : rb_Mem) (c : rb_Row) (x0 : Int32) (x1 : Int32) (o : Int32) (hc : μ 5 = c) (h : XX1_showsOlder c x0 x1 = some o) : rb_Ct yX1_showsOlder cX1_showsOlder 5 (some .boolean) 6 [.inr 3, .inl x0, .inl x1] μ (some o) μ := by
  unfold XX1_showsOlder at h
  have hini : rb_ov μ [(5, c)] = μ := rb_ov_sf _ _ (And.intro hc True.intro)
  have hfin := hini
  refine rb_ctz (w := [(5, c)]) rfl pn_1 (Nat.le_of_ble_eq_true rfl) rfl hini ?_
  obtain ⟨v1, e2, h⟩ := rb_bd h
  refine ev_aload_n (v := 3) (pc := 0) dX1_showsOlder_0 rfl ?_
  refine ev_getr (q := 5) (pc := 1) dX1_showsOlder_1 fl_RX1_9 rfl rfl ?_
  refine ev_iconst (v := 2) (pc := 4) dX1_showsOlder_4 ki_2 ?_
  refine ev_iald (pc := 5) dX1_showsOlder_5 rfl e2 ?_
  refine ev_istore_n (L' := [some (.inr 3), some (.inl x0), some (.inl x1), some (.inl v1), none]) (pc := 6) dX1_showsOlder_6 (Nat.le_of_ble_eq_true rfl) rfl ?_
  refine ev_iconst (v := 0) (pc := 7) dX1_showsOlder_7 ki_0 ?_
  refine ev_istore (L' := [some (.inr 3), some (.inl x0), some (.inl x1), some (.inl v1), some (.inl 0)]) (pc := 8) dX1_showsOlder_8 (Nat.le_of_ble_eq_true rfl) rfl ?_
  obtain ⟨q4, l5, h⟩ := rb_bd h
  have hx9 : ∀ z11 : Unit, q4 = .inl z11 → rb_Ev RX1 cX1_showsOlder 5 (some .boolean) none 6 (some o) μ 108 [none, none, none, none, none] [] (rb_ov μ [(5, c)]) := by
    intro z11 hz
    rw [hz] at h
    replace h := rb_sel h
    refine ev_iconst (v := 0) (pc := 108) dX1_showsOlder_108 ki_0 ?_
    obtain rfl := Option.some.inj h
    exact ev_iret (pc := 109) dX1_showsOlder_109 rfl rfl rfl hfin
  have hr10 : ∀ w32 : Int32, q4 = .inr w32 → w32 = o := by
    intro w32 hz
    rw [hz] at h
    replace h := rb_ser h
    exact Option.some.inj h
  refine rb_lp_ev (P := fun (s3 : Int32) => rb_Ev RX1 cX1_showsOlder 5 (some .boolean) none 6 (some o) μ 10 [some (.inr 3), some (.inl x0), some (.inl x1), some (.inl v1), some (.inl s3)] [] (rb_ov μ [(5, c)])) ?_ 100000 0 l5
  intro s3 y6 h ih7 hE8
  refine ev_iload (v := s3) (pc := 10) dX1_showsOlder_10 rfl ?_
  refine ev_iload_n (v := v1) (pc := 12) dX1_showsOlder_12 rfl ?_
  by_cases b12 : v1 ≤ s3
  · rw [if_pos b12] at h
    refine ev_icmp_ge_t (t := 108) (pc := 13) dX1_showsOlder_13 (by decide) b12 ?_
    obtain rfl := Option.some.inj h
    exact ev_fg (L := [none, none, none, none, none]) True.intro (hx9 () (hE8 _ rfl).symm)
  · rw [if_neg b12] at h
    refine ev_icmp_ge_f (t := 108) (pc := 13) dX1_showsOlder_13 (by decide) b12 ?_
    obtain ⟨v13, e14, h⟩ := rb_bd h
    refine ev_aload_n (v := 3) (pc := 16) dX1_showsOlder_16 rfl ?_
    refine ev_getr (q := 5) (pc := 17) dX1_showsOlder_17 fl_RX1_9 rfl rfl ?_
    refine ev_sipush (v := 299) (pc := 20) dX1_showsOlder_20 ks_299 ?_
    refine ev_iload (v := s3) (pc := 23) dX1_showsOlder_23 rfl ?_
    refine ev_iadd (pc := 25) dX1_showsOlder_25 ?_
    refine ev_iald (pc := 26) dX1_showsOlder_26 rfl e14 ?_
    refine ev_iload_n (v := x0) (pc := 27) dX1_showsOlder_27 rfl ?_
    by_cases b15 : v13 = x0
    · rw [if_pos b15] at h
      refine ev_icmp_ne_f (t := 102) (pc := 28) dX1_showsOlder_28 (by decide) b15 ?_
      obtain ⟨v16, e17, h⟩ := rb_bd h
      refine ev_aload_n (v := 3) (pc := 31) dX1_showsOlder_31 rfl ?_
      refine ev_getr (q := 5) (pc := 32) dX1_showsOlder_32 fl_RX1_9 rfl rfl ?_
      refine ev_sipush (v := 443) (pc := 35) dX1_showsOlder_35 ks_443 ?_
      refine ev_iload (v := s3) (pc := 38) dX1_showsOlder_38 rfl ?_
      refine ev_iadd (pc := 40) dX1_showsOlder_40 ?_
      refine ev_iald (pc := 41) dX1_showsOlder_41 rfl e17 ?_
      by_cases b18 : v16 < 0
      · rw [if_pos b18] at h
        refine ev_if_lt_t (t := 102) (pc := 42) dX1_showsOlder_42 (by decide) b18 ?_
        refine ev_iinc (x := s3) (v := (s3 + 1)) (L' := [some (.inr 3), some (.inl x0), some (.inl x1), some (.inl v1), some (.inl (s3 + 1))]) (pc := 102) dX1_showsOlder_102 rfl (kx_1 _) (Nat.le_of_ble_eq_true rfl) rfl ?_
        refine ev_goto (t := 10) (pc := 105) dX1_showsOlder_105 (by decide) ?_
        obtain rfl := Option.some.inj h
        exact ih7 (s3 + 1) rfl
      · rw [if_neg b18] at h
        refine ev_if_lt_f (t := 102) (pc := 42) dX1_showsOlder_42 (by decide) b18 ?_
        obtain ⟨v19, e20, h⟩ := rb_bd h
        refine ev_aload_n (v := 3) (pc := 45) dX1_showsOlder_45 rfl ?_
        refine ev_getr (q := 5) (pc := 46) dX1_showsOlder_46 fl_RX1_9 rfl rfl ?_
        refine ev_sipush (v := 443) (pc := 49) dX1_showsOlder_49 ks_443 ?_
        refine ev_iload (v := s3) (pc := 52) dX1_showsOlder_52 rfl ?_
        refine ev_iadd (pc := 54) dX1_showsOlder_54 ?_
        refine ev_iald (pc := 55) dX1_showsOlder_55 rfl e20 ?_
        refine ev_iload_n (v := x1) (pc := 56) dX1_showsOlder_56 rfl ?_
        by_cases b21 : x1 ≤ v19
        · rw [if_pos b21] at h
          refine ev_icmp_ge_t (t := 102) (pc := 57) dX1_showsOlder_57 (by decide) b21 ?_
          refine ev_iinc (x := s3) (v := (s3 + 1)) (L' := [some (.inr 3), some (.inl x0), some (.inl x1), some (.inl v1), some (.inl (s3 + 1))]) (pc := 102) dX1_showsOlder_102 rfl (kx_1 _) (Nat.le_of_ble_eq_true rfl) rfl ?_
          refine ev_goto (t := 10) (pc := 105) dX1_showsOlder_105 (by decide) ?_
          obtain rfl := Option.some.inj h
          exact ih7 (s3 + 1) rfl
        · rw [if_neg b21] at h
          refine ev_icmp_ge_f (t := 102) (pc := 57) dX1_showsOlder_57 (by decide) b21 ?_
          obtain ⟨v22, e23, h⟩ := rb_bd h
          refine ev_aload_n (v := 3) (pc := 60) dX1_showsOlder_60 rfl ?_
          refine ev_getr (q := 5) (pc := 61) dX1_showsOlder_61 fl_RX1_9 rfl rfl ?_
          refine ev_sipush (v := 419) (pc := 64) dX1_showsOlder_64 ks_419 ?_
          refine ev_iload (v := s3) (pc := 67) dX1_showsOlder_67 rfl ?_
          refine ev_iadd (pc := 69) dX1_showsOlder_69 ?_
          refine ev_iald (pc := 70) dX1_showsOlder_70 rfl e23 ?_
          by_cases b24 : v22 = 0
          · rw [if_pos b24] at h
            refine ev_if_eq_t (t := 102) (pc := 71) dX1_showsOlder_71 (by decide) b24 ?_
            refine ev_iinc (x := s3) (v := (s3 + 1)) (L' := [some (.inr 3), some (.inl x0), some (.inl x1), some (.inl v1), some (.inl (s3 + 1))]) (pc := 102) dX1_showsOlder_102 rfl (kx_1 _) (Nat.le_of_ble_eq_true rfl) rfl ?_
            refine ev_goto (t := 10) (pc := 105) dX1_showsOlder_105 (by decide) ?_
            obtain rfl := Option.some.inj h
            exact ih7 (s3 + 1) rfl
          · rw [if_neg b24] at h
            refine ev_if_eq_f (t := 102) (pc := 71) dX1_showsOlder_71 (by decide) b24 ?_
            obtain ⟨t25, e26, h⟩ := rb_bd h
            obtain ⟨v27, e28, h⟩ := rb_bd h
            obtain ⟨t29, e30, h⟩ := rb_bd h
            refine ev_aload_n (v := 3) (pc := 74) dX1_showsOlder_74 rfl ?_
            refine ev_iload (v := s3) (pc := 75) dX1_showsOlder_75 rfl ?_
            refine ev_cVi1 (pc := 77) dX1_showsOlder_77 mv_X1_bitsOf lk_RX1_29 rp_3 (ct0_X1_bitsOf _ _ _ _ rfl e26) (Nat.le_of_ble_eq_true rfl) (Nat.le_of_ble_eq_true rfl) ?_
            refine ev_aload_n (v := 3) (pc := 80) dX1_showsOlder_80 rfl ?_
            refine ev_aload_n (v := 3) (pc := 81) dX1_showsOlder_81 rfl ?_
            refine ev_getr (q := 5) (pc := 82) dX1_showsOlder_82 fl_RX1_9 rfl rfl ?_
            refine ev_sipush (v := 323) (pc := 85) dX1_showsOlder_85 ks_323 ?_
            refine ev_iload (v := s3) (pc := 88) dX1_showsOlder_88 rfl ?_
            refine ev_iadd (pc := 90) dX1_showsOlder_90 ?_
            refine ev_iald (pc := 91) dX1_showsOlder_91 rfl e28 ?_
            refine ev_iconst (v := 0) (pc := 92) dX1_showsOlder_92 ki_0 ?_
            refine ev_cVi2 (pc := 93) dX1_showsOlder_93 mv_X1_ready lk_RX1_33 rp_3 (ct0_X1_ready 5 _ _ _ _ _ rfl e30) (Nat.le_of_ble_eq_true rfl) (Nat.le_of_ble_eq_true rfl) ?_
            refine ev_iand (pc := 96) dX1_showsOlder_96 ?_
            by_cases b31 : (t25 &&& t29) = 0
            · rw [if_pos b31] at h
              refine ev_if_eq_t (t := 102) (pc := 97) dX1_showsOlder_97 (by decide) b31 ?_
              refine ev_iinc (x := s3) (v := (s3 + 1)) (L' := [some (.inr 3), some (.inl x0), some (.inl x1), some (.inl v1), some (.inl (s3 + 1))]) (pc := 102) dX1_showsOlder_102 rfl (kx_1 _) (Nat.le_of_ble_eq_true rfl) rfl ?_
              refine ev_goto (t := 10) (pc := 105) dX1_showsOlder_105 (by decide) ?_
              obtain rfl := Option.some.inj h
              exact ih7 (s3 + 1) rfl
            · rw [if_neg b31] at h
              refine ev_if_eq_f (t := 102) (pc := 97) dX1_showsOlder_97 (by decide) b31 ?_
              refine ev_iconst (v := 1) (pc := 100) dX1_showsOlder_100 ki_1 ?_
              obtain rfl := Option.some.inj h
              obtain rfl := hr10 _ (hE8 _ rfl).symm
              exact ev_iret (pc := 101) dX1_showsOlder_101 rfl rfl rfl hfin
    · rw [if_neg b15] at h
      refine ev_icmp_ne_t (t := 102) (pc := 28) dX1_showsOlder_28 (by decide) b15 ?_
      refine ev_iinc (x := s3) (v := (s3 + 1)) (L' := [some (.inr 3), some (.inl x0), some (.inl x1), some (.inl v1), some (.inl (s3 + 1))]) (pc := 102) dX1_showsOlder_102 rfl (kx_1 _) (Nat.le_of_ble_eq_true rfl) rfl ?_
      refine ev_goto (t := 10) (pc := 105) dX1_showsOlder_105 (by decide) ?_
      obtain rfl := Option.some.inj h
      exact ih7 (s3 + 1) rfl
set_option maxHeartbeats 4000000 in
set_option maxRecDepth 20000 in
theorem ct1_X1_showsOlder (μ : rb_Mem) (c : rb_Row) (x0 : Int32) (x1 : Int32) (o : Int32) (hc : μ 11 = c) (h : XX1_showsOlder c x0 x1 = some o) : rb_Ct yX1_showsOlder cX1_showsOlder 5 (some .boolean) 6 [.inr 9, .inl x0, .inl x1] μ (some o) μ := by
  unfold XX1_showsOlder at h
  have hini : rb_ov μ [(11, c)] = μ := rb_ov_sf _ _ (And.intro hc True.intro)
  have hfin := hini
  refine rb_ctz (w := [(11, c)]) rfl pn_1 (Nat.le_of_ble_eq_true rfl) rfl hini ?_
  obtain ⟨v1, e2, h⟩ := rb_bd h
  refine ev_aload_n (v := 9) (pc := 0) dX1_showsOlder_0 rfl ?_
  refine ev_getr (q := 11) (pc := 1) dX1_showsOlder_1 fl_RX1_9 rfl rfl ?_
  refine ev_iconst (v := 2) (pc := 4) dX1_showsOlder_4 ki_2 ?_
  refine ev_iald (pc := 5) dX1_showsOlder_5 rfl e2 ?_
  refine ev_istore_n (L' := [some (.inr 9), some (.inl x0), some (.inl x1), some (.inl v1), none]) (pc := 6) dX1_showsOlder_6 (Nat.le_of_ble_eq_true rfl) rfl ?_
  refine ev_iconst (v := 0) (pc := 7) dX1_showsOlder_7 ki_0 ?_
  refine ev_istore (L' := [some (.inr 9), some (.inl x0), some (.inl x1), some (.inl v1), some (.inl 0)]) (pc := 8) dX1_showsOlder_8 (Nat.le_of_ble_eq_true rfl) rfl ?_
  obtain ⟨q4, l5, h⟩ := rb_bd h
  have hx9 : ∀ z11 : Unit, q4 = .inl z11 → rb_Ev RX1 cX1_showsOlder 5 (some .boolean) none 6 (some o) μ 108 [none, none, none, none, none] [] (rb_ov μ [(11, c)]) := by
    intro z11 hz
    rw [hz] at h
    replace h := rb_sel h
    refine ev_iconst (v := 0) (pc := 108) dX1_showsOlder_108 ki_0 ?_
    obtain rfl := Option.some.inj h
    exact ev_iret (pc := 109) dX1_showsOlder_109 rfl rfl rfl hfin
  have hr10 : ∀ w32 : Int32, q4 = .inr w32 → w32 = o := by
    intro w32 hz
    rw [hz] at h
    replace h := rb_ser h
    exact Option.some.inj h
  refine rb_lp_ev (P := fun (s3 : Int32) => rb_Ev RX1 cX1_showsOlder 5 (some .boolean) none 6 (some o) μ 10 [some (.inr 9), some (.inl x0), some (.inl x1), some (.inl v1), some (.inl s3)] [] (rb_ov μ [(11, c)])) ?_ 100000 0 l5
  intro s3 y6 h ih7 hE8
  refine ev_iload (v := s3) (pc := 10) dX1_showsOlder_10 rfl ?_
  refine ev_iload_n (v := v1) (pc := 12) dX1_showsOlder_12 rfl ?_
  by_cases b12 : v1 ≤ s3
  · rw [if_pos b12] at h
    refine ev_icmp_ge_t (t := 108) (pc := 13) dX1_showsOlder_13 (by decide) b12 ?_
    obtain rfl := Option.some.inj h
    exact ev_fg (L := [none, none, none, none, none]) True.intro (hx9 () (hE8 _ rfl).symm)
  · rw [if_neg b12] at h
    refine ev_icmp_ge_f (t := 108) (pc := 13) dX1_showsOlder_13 (by decide) b12 ?_
    obtain ⟨v13, e14, h⟩ := rb_bd h
    refine ev_aload_n (v := 9) (pc := 16) dX1_showsOlder_16 rfl ?_
    refine ev_getr (q := 11) (pc := 17) dX1_showsOlder_17 fl_RX1_9 rfl rfl ?_
    refine ev_sipush (v := 299) (pc := 20) dX1_showsOlder_20 ks_299 ?_
    refine ev_iload (v := s3) (pc := 23) dX1_showsOlder_23 rfl ?_
    refine ev_iadd (pc := 25) dX1_showsOlder_25 ?_
    refine ev_iald (pc := 26) dX1_showsOlder_26 rfl e14 ?_
    refine ev_iload_n (v := x0) (pc := 27) dX1_showsOlder_27 rfl ?_
    by_cases b15 : v13 = x0
    · rw [if_pos b15] at h
      refine ev_icmp_ne_f (t := 102) (pc := 28) dX1_showsOlder_28 (by decide) b15 ?_
      obtain ⟨v16, e17, h⟩ := rb_bd h
      refine ev_aload_n (v := 9) (pc := 31) dX1_showsOlder_31 rfl ?_
      refine ev_getr (q := 11) (pc := 32) dX1_showsOlder_32 fl_RX1_9 rfl rfl ?_
      refine ev_sipush (v := 443) (pc := 35) dX1_showsOlder_35 ks_443 ?_
      refine ev_iload (v := s3) (pc := 38) dX1_showsOlder_38 rfl ?_
      refine ev_iadd (pc := 40) dX1_showsOlder_40 ?_
      refine ev_iald (pc := 41) dX1_showsOlder_41 rfl e17 ?_
      by_cases b18 : v16 < 0
      · rw [if_pos b18] at h
        refine ev_if_lt_t (t := 102) (pc := 42) dX1_showsOlder_42 (by decide) b18 ?_
        refine ev_iinc (x := s3) (v := (s3 + 1)) (L' := [some (.inr 9), some (.inl x0), some (.inl x1), some (.inl v1), some (.inl (s3 + 1))]) (pc := 102) dX1_showsOlder_102 rfl (kx_1 _) (Nat.le_of_ble_eq_true rfl) rfl ?_
        refine ev_goto (t := 10) (pc := 105) dX1_showsOlder_105 (by decide) ?_
        obtain rfl := Option.some.inj h
        exact ih7 (s3 + 1) rfl
      · rw [if_neg b18] at h
        refine ev_if_lt_f (t := 102) (pc := 42) dX1_showsOlder_42 (by decide) b18 ?_
        obtain ⟨v19, e20, h⟩ := rb_bd h
        refine ev_aload_n (v := 9) (pc := 45) dX1_showsOlder_45 rfl ?_
        refine ev_getr (q := 11) (pc := 46) dX1_showsOlder_46 fl_RX1_9 rfl rfl ?_
        refine ev_sipush (v := 443) (pc := 49) dX1_showsOlder_49 ks_443 ?_
        refine ev_iload (v := s3) (pc := 52) dX1_showsOlder_52 rfl ?_
        refine ev_iadd (pc := 54) dX1_showsOlder_54 ?_
        refine ev_iald (pc := 55) dX1_showsOlder_55 rfl e20 ?_
        refine ev_iload_n (v := x1) (pc := 56) dX1_showsOlder_56 rfl ?_
        by_cases b21 : x1 ≤ v19
        · rw [if_pos b21] at h
          refine ev_icmp_ge_t (t := 102) (pc := 57) dX1_showsOlder_57 (by decide) b21 ?_
          refine ev_iinc (x := s3) (v := (s3 + 1)) (L' := [some (.inr 9), some (.inl x0), some (.inl x1), some (.inl v1), some (.inl (s3 + 1))]) (pc := 102) dX1_showsOlder_102 rfl (kx_1 _) (Nat.le_of_ble_eq_true rfl) rfl ?_
          refine ev_goto (t := 10) (pc := 105) dX1_showsOlder_105 (by decide) ?_
          obtain rfl := Option.some.inj h
          exact ih7 (s3 + 1) rfl
        · rw [if_neg b21] at h
          refine ev_icmp_ge_f (t := 102) (pc := 57) dX1_showsOlder_57 (by decide) b21 ?_
          obtain ⟨v22, e23, h⟩ := rb_bd h
          refine ev_aload_n (v := 9) (pc := 60) dX1_showsOlder_60 rfl ?_
          refine ev_getr (q := 11) (pc := 61) dX1_showsOlder_61 fl_RX1_9 rfl rfl ?_
          refine ev_sipush (v := 419) (pc := 64) dX1_showsOlder_64 ks_419 ?_
          refine ev_iload (v := s3) (pc := 67) dX1_showsOlder_67 rfl ?_
          refine ev_iadd (pc := 69) dX1_showsOlder_69 ?_
          refine ev_iald (pc := 70) dX1_showsOlder_70 rfl e23 ?_
          by_cases b24 : v22 = 0
          · rw [if_pos b24] at h
            refine ev_if_eq_t (t := 102) (pc := 71) dX1_showsOlder_71 (by decide) b24 ?_
            refine ev_iinc (x := s3) (v := (s3 + 1)) (L' := [some (.inr 9), some (.inl x0), some (.inl x1), some (.inl v1), some (.inl (s3 + 1))]) (pc := 102) dX1_showsOlder_102 rfl (kx_1 _) (Nat.le_of_ble_eq_true rfl) rfl ?_
            refine ev_goto (t := 10) (pc := 105) dX1_showsOlder_105 (by decide) ?_
            obtain rfl := Option.some.inj h
            exact ih7 (s3 + 1) rfl
          · rw [if_neg b24] at h
            refine ev_if_eq_f (t := 102) (pc := 71) dX1_showsOlder_71 (by decide) b24 ?_
            obtain ⟨t25, e26, h⟩ := rb_bd h
            obtain ⟨v27, e28, h⟩ := rb_bd h
            obtain ⟨t29, e30, h⟩ := rb_bd h
            refine ev_aload_n (v := 9) (pc := 74) dX1_showsOlder_74 rfl ?_
            refine ev_iload (v := s3) (pc := 75) dX1_showsOlder_75 rfl ?_
            refine ev_cVi1 (pc := 77) dX1_showsOlder_77 mv_X1_bitsOf lk_RX1_29 rp_9 (ct1_X1_bitsOf _ _ _ _ rfl e26) (Nat.le_of_ble_eq_true rfl) (Nat.le_of_ble_eq_true rfl) ?_
            refine ev_aload_n (v := 9) (pc := 80) dX1_showsOlder_80 rfl ?_
            refine ev_aload_n (v := 9) (pc := 81) dX1_showsOlder_81 rfl ?_
            refine ev_getr (q := 11) (pc := 82) dX1_showsOlder_82 fl_RX1_9 rfl rfl ?_
            refine ev_sipush (v := 323) (pc := 85) dX1_showsOlder_85 ks_323 ?_
            refine ev_iload (v := s3) (pc := 88) dX1_showsOlder_88 rfl ?_
            refine ev_iadd (pc := 90) dX1_showsOlder_90 ?_
            refine ev_iald (pc := 91) dX1_showsOlder_91 rfl e28 ?_
            refine ev_iconst (v := 0) (pc := 92) dX1_showsOlder_92 ki_0 ?_
            refine ev_cVi2 (pc := 93) dX1_showsOlder_93 mv_X1_ready lk_RX1_33 rp_9 (ct1_X1_ready 5 _ _ _ _ _ rfl e30) (Nat.le_of_ble_eq_true rfl) (Nat.le_of_ble_eq_true rfl) ?_
            refine ev_iand (pc := 96) dX1_showsOlder_96 ?_
            by_cases b31 : (t25 &&& t29) = 0
            · rw [if_pos b31] at h
              refine ev_if_eq_t (t := 102) (pc := 97) dX1_showsOlder_97 (by decide) b31 ?_
              refine ev_iinc (x := s3) (v := (s3 + 1)) (L' := [some (.inr 9), some (.inl x0), some (.inl x1), some (.inl v1), some (.inl (s3 + 1))]) (pc := 102) dX1_showsOlder_102 rfl (kx_1 _) (Nat.le_of_ble_eq_true rfl) rfl ?_
              refine ev_goto (t := 10) (pc := 105) dX1_showsOlder_105 (by decide) ?_
              obtain rfl := Option.some.inj h
              exact ih7 (s3 + 1) rfl
            · rw [if_neg b31] at h
              refine ev_if_eq_f (t := 102) (pc := 97) dX1_showsOlder_97 (by decide) b31 ?_
              refine ev_iconst (v := 1) (pc := 100) dX1_showsOlder_100 ki_1 ?_
              obtain rfl := Option.some.inj h
              obtain rfl := hr10 _ (hE8 _ rfl).symm
              exact ev_iret (pc := 101) dX1_showsOlder_101 rfl rfl rfl hfin
    · rw [if_neg b15] at h
      refine ev_icmp_ne_t (t := 102) (pc := 28) dX1_showsOlder_28 (by decide) b15 ?_
      refine ev_iinc (x := s3) (v := (s3 + 1)) (L' := [some (.inr 9), some (.inl x0), some (.inl x1), some (.inl v1), some (.inl (s3 + 1))]) (pc := 102) dX1_showsOlder_102 rfl (kx_1 _) (Nat.le_of_ble_eq_true rfl) rfl ?_
      refine ev_goto (t := 10) (pc := 105) dX1_showsOlder_105 (by decide) ?_
      obtain rfl := Option.some.inj h
      exact ih7 (s3 + 1) rfl
def XX5_longestWaiting (c : rb_Row) (x0 : Int32) : Option (Int32) := (rb_lp (ρ := Int32) (fun (s1 : Int32 × Int32) => if 28 ≤ s1.2 then some (.inr s1.1) else (rb_rd c 773 (243 + s1.2)).bind fun v10 => ((if v10 = x0 then if s1.1 < 0 then some s1.2 else (rb_rd c 773 (271 + s1.2)).bind fun v17 => (rb_rd c 773 (271 + s1.1)).bind fun v19 => if v19 ≤ v17 then some s1.1 else some s1.2 else some s1.1) : Option (Int32)).bind fun j12 => some (.inl (j12, (s1.2 + 1)))) 100000 ((-1), 0)).bind fun q2 => some q2
set_option maxHeartbeats 4000000 in
set_option maxRecDepth 20000 in
theorem ct0_X5_longestWaiting (μ : rb_Mem) (c : rb_Row) (x0 : Int32) (o : Int32) (hc : μ 5 = c) (h : XX5_longestWaiting c x0 = some o) : rb_Ct yX5_longestWaiting cX5_longestWaiting 4 (some .int) 0 [.inr 2, .inl x0] μ (some o) μ := by
  unfold XX5_longestWaiting at h
  have hini : rb_ov μ [(5, c)] = μ := rb_ov_sf _ _ (And.intro hc True.intro)
  have hfin := hini
  refine rb_cti (w := [(5, c)]) rfl pn_5 (Nat.le_of_ble_eq_true rfl) rfl hini ?_
  refine ev_iconst (v := (-1)) (pc := 0) dX5_longestWaiting_0 ki_m1 ?_
  refine ev_istore_n (L' := [some (.inr 2), some (.inl x0), some (.inl (-1)), none]) (pc := 1) dX5_longestWaiting_1 (Nat.le_of_ble_eq_true rfl) rfl ?_
  refine ev_iconst (v := 0) (pc := 2) dX5_longestWaiting_2 ki_0 ?_
  refine ev_istore_n (L' := [some (.inr 2), some (.inl x0), some (.inl (-1)), some (.inl 0)]) (pc := 3) dX5_longestWaiting_3 (Nat.le_of_ble_eq_true rfl) rfl ?_
  obtain ⟨q2, l3, h⟩ := rb_bd h
  have hx7 : rb_Ev RX5 cX5_longestWaiting 4 (some .int) none 0 (some o) μ 59 [none, none, some (.inl q2), none] [] (rb_ov μ [(5, c)]) := by
    refine ev_iload_n (v := q2) (pc := 59) dX5_longestWaiting_59 rfl ?_
    obtain rfl := Option.some.inj h
    exact ev_iret (pc := 60) dX5_longestWaiting_60 rfl rfl rfl hfin
  refine rb_lp_ev (P := fun (s1 : Int32 × Int32) => rb_Ev RX5 cX5_longestWaiting 4 (some .int) none 0 (some o) μ 4 [some (.inr 2), some (.inl x0), some (.inl s1.1), some (.inl s1.2)] [] (rb_ov μ [(5, c)])) ?_ 100000 ((-1), 0) l3
  intro s1 y4 h ih5 hE6
  refine ev_iload_n (v := s1.2) (pc := 4) dX5_longestWaiting_4 rfl ?_
  refine ev_bipush (v := 28) (pc := 5) dX5_longestWaiting_5 kb_28 ?_
  by_cases b9 : 28 ≤ s1.2
  · rw [if_pos b9] at h
    refine ev_icmp_ge_t (t := 59) (pc := 7) dX5_longestWaiting_7 (by decide) b9 ?_
    obtain rfl := Option.some.inj h
    obtain rfl := hE6 _ rfl
    exact ev_fg (L := [none, none, some (.inl s1.1), none]) (And.intro rfl True.intro) (hx7)
  · rw [if_neg b9] at h
    refine ev_icmp_ge_f (t := 59) (pc := 7) dX5_longestWaiting_7 (by decide) b9 ?_
    obtain ⟨v10, e11, h⟩ := rb_bd h
    refine ev_aload_n (v := 2) (pc := 10) dX5_longestWaiting_10 rfl ?_
    refine ev_getr (q := 5) (pc := 11) dX5_longestWaiting_11 fl_RX5_9 rfl rfl ?_
    refine ev_sipush (v := 243) (pc := 14) dX5_longestWaiting_14 ks_243 ?_
    refine ev_iload_n (v := s1.2) (pc := 17) dX5_longestWaiting_17 rfl ?_
    refine ev_iadd (pc := 18) dX5_longestWaiting_18 ?_
    refine ev_iald (pc := 19) dX5_longestWaiting_19 rfl e11 ?_
    refine ev_iload_n (v := x0) (pc := 20) dX5_longestWaiting_20 rfl ?_
    obtain ⟨j12, e13, h⟩ := rb_bd h
    have hj14 : rb_Ev RX5 cX5_longestWaiting 4 (some .int) none 0 (some o) μ 53 [some (.inr 2), some (.inl x0), some (.inl j12), some (.inl s1.2)] [] (rb_ov μ [(5, c)]) := by
      refine ev_iinc (x := s1.2) (v := (s1.2 + 1)) (L' := [some (.inr 2), some (.inl x0), some (.inl j12), some (.inl (s1.2 + 1))]) (pc := 53) dX5_longestWaiting_53 rfl (kx_1 _) (Nat.le_of_ble_eq_true rfl) rfl ?_
      refine ev_goto (t := 4) (pc := 56) dX5_longestWaiting_56 (by decide) ?_
      obtain rfl := Option.some.inj h
      exact ih5 (j12, (s1.2 + 1)) rfl
    replace h := e13
    by_cases b15 : v10 = x0
    · rw [if_pos b15] at h
      refine ev_icmp_ne_f (t := 53) (pc := 21) dX5_longestWaiting_21 (by decide) b15 ?_
      refine ev_iload_n (v := s1.1) (pc := 24) dX5_longestWaiting_24 rfl ?_
      by_cases b16 : s1.1 < 0
      · rw [if_pos b16] at h
        refine ev_if_lt_t (t := 51) (pc := 25) dX5_longestWaiting_25 (by decide) b16 ?_
        refine ev_iload_n (v := s1.2) (pc := 51) dX5_longestWaiting_51 rfl ?_
        refine ev_istore_n (L' := [some (.inr 2), some (.inl x0), some (.inl s1.2), some (.inl s1.2)]) (pc := 52) dX5_longestWaiting_52 (Nat.le_of_ble_eq_true rfl) rfl ?_
        obtain rfl := Option.some.inj h
        exact hj14
      · rw [if_neg b16] at h
        refine ev_if_lt_f (t := 51) (pc := 25) dX5_longestWaiting_25 (by decide) b16 ?_
        obtain ⟨v17, e18, h⟩ := rb_bd h
        obtain ⟨v19, e20, h⟩ := rb_bd h
        refine ev_aload_n (v := 2) (pc := 28) dX5_longestWaiting_28 rfl ?_
        refine ev_getr (q := 5) (pc := 29) dX5_longestWaiting_29 fl_RX5_9 rfl rfl ?_
        refine ev_sipush (v := 271) (pc := 32) dX5_longestWaiting_32 ks_271 ?_
        refine ev_iload_n (v := s1.2) (pc := 35) dX5_longestWaiting_35 rfl ?_
        refine ev_iadd (pc := 36) dX5_longestWaiting_36 ?_
        refine ev_iald (pc := 37) dX5_longestWaiting_37 rfl e18 ?_
        refine ev_aload_n (v := 2) (pc := 38) dX5_longestWaiting_38 rfl ?_
        refine ev_getr (q := 5) (pc := 39) dX5_longestWaiting_39 fl_RX5_9 rfl rfl ?_
        refine ev_sipush (v := 271) (pc := 42) dX5_longestWaiting_42 ks_271 ?_
        refine ev_iload_n (v := s1.1) (pc := 45) dX5_longestWaiting_45 rfl ?_
        refine ev_iadd (pc := 46) dX5_longestWaiting_46 ?_
        refine ev_iald (pc := 47) dX5_longestWaiting_47 rfl e20 ?_
        by_cases b21 : v19 ≤ v17
        · rw [if_pos b21] at h
          refine ev_icmp_ge_t (t := 53) (pc := 48) dX5_longestWaiting_48 (by decide) b21 ?_
          obtain rfl := Option.some.inj h
          exact hj14
        · rw [if_neg b21] at h
          refine ev_icmp_ge_f (t := 53) (pc := 48) dX5_longestWaiting_48 (by decide) b21 ?_
          refine ev_iload_n (v := s1.2) (pc := 51) dX5_longestWaiting_51 rfl ?_
          refine ev_istore_n (L' := [some (.inr 2), some (.inl x0), some (.inl s1.2), some (.inl s1.2)]) (pc := 52) dX5_longestWaiting_52 (Nat.le_of_ble_eq_true rfl) rfl ?_
          obtain rfl := Option.some.inj h
          exact hj14
    · rw [if_neg b15] at h
      refine ev_icmp_ne_t (t := 53) (pc := 21) dX5_longestWaiting_21 (by decide) b15 ?_
      obtain rfl := Option.some.inj h
      exact hj14
set_option maxHeartbeats 4000000 in
set_option maxRecDepth 20000 in
theorem ct1_X5_longestWaiting (μ : rb_Mem) (c : rb_Row) (x0 : Int32) (o : Int32) (hc : μ 11 = c) (h : XX5_longestWaiting c x0 = some o) : rb_Ct yX5_longestWaiting cX5_longestWaiting 4 (some .int) 0 [.inr 8, .inl x0] μ (some o) μ := by
  unfold XX5_longestWaiting at h
  have hini : rb_ov μ [(11, c)] = μ := rb_ov_sf _ _ (And.intro hc True.intro)
  have hfin := hini
  refine rb_cti (w := [(11, c)]) rfl pn_5 (Nat.le_of_ble_eq_true rfl) rfl hini ?_
  refine ev_iconst (v := (-1)) (pc := 0) dX5_longestWaiting_0 ki_m1 ?_
  refine ev_istore_n (L' := [some (.inr 8), some (.inl x0), some (.inl (-1)), none]) (pc := 1) dX5_longestWaiting_1 (Nat.le_of_ble_eq_true rfl) rfl ?_
  refine ev_iconst (v := 0) (pc := 2) dX5_longestWaiting_2 ki_0 ?_
  refine ev_istore_n (L' := [some (.inr 8), some (.inl x0), some (.inl (-1)), some (.inl 0)]) (pc := 3) dX5_longestWaiting_3 (Nat.le_of_ble_eq_true rfl) rfl ?_
  obtain ⟨q2, l3, h⟩ := rb_bd h
  have hx7 : rb_Ev RX5 cX5_longestWaiting 4 (some .int) none 0 (some o) μ 59 [none, none, some (.inl q2), none] [] (rb_ov μ [(11, c)]) := by
    refine ev_iload_n (v := q2) (pc := 59) dX5_longestWaiting_59 rfl ?_
    obtain rfl := Option.some.inj h
    exact ev_iret (pc := 60) dX5_longestWaiting_60 rfl rfl rfl hfin
  refine rb_lp_ev (P := fun (s1 : Int32 × Int32) => rb_Ev RX5 cX5_longestWaiting 4 (some .int) none 0 (some o) μ 4 [some (.inr 8), some (.inl x0), some (.inl s1.1), some (.inl s1.2)] [] (rb_ov μ [(11, c)])) ?_ 100000 ((-1), 0) l3
  intro s1 y4 h ih5 hE6
  refine ev_iload_n (v := s1.2) (pc := 4) dX5_longestWaiting_4 rfl ?_
  refine ev_bipush (v := 28) (pc := 5) dX5_longestWaiting_5 kb_28 ?_
  by_cases b9 : 28 ≤ s1.2
  · rw [if_pos b9] at h
    refine ev_icmp_ge_t (t := 59) (pc := 7) dX5_longestWaiting_7 (by decide) b9 ?_
    obtain rfl := Option.some.inj h
    obtain rfl := hE6 _ rfl
    exact ev_fg (L := [none, none, some (.inl s1.1), none]) (And.intro rfl True.intro) (hx7)
  · rw [if_neg b9] at h
    refine ev_icmp_ge_f (t := 59) (pc := 7) dX5_longestWaiting_7 (by decide) b9 ?_
    obtain ⟨v10, e11, h⟩ := rb_bd h
    refine ev_aload_n (v := 8) (pc := 10) dX5_longestWaiting_10 rfl ?_
    refine ev_getr (q := 11) (pc := 11) dX5_longestWaiting_11 fl_RX5_9 rfl rfl ?_
    refine ev_sipush (v := 243) (pc := 14) dX5_longestWaiting_14 ks_243 ?_
    refine ev_iload_n (v := s1.2) (pc := 17) dX5_longestWaiting_17 rfl ?_
    refine ev_iadd (pc := 18) dX5_longestWaiting_18 ?_
    refine ev_iald (pc := 19) dX5_longestWaiting_19 rfl e11 ?_
    refine ev_iload_n (v := x0) (pc := 20) dX5_longestWaiting_20 rfl ?_
    obtain ⟨j12, e13, h⟩ := rb_bd h
    have hj14 : rb_Ev RX5 cX5_longestWaiting 4 (some .int) none 0 (some o) μ 53 [some (.inr 8), some (.inl x0), some (.inl j12), some (.inl s1.2)] [] (rb_ov μ [(11, c)]) := by
      refine ev_iinc (x := s1.2) (v := (s1.2 + 1)) (L' := [some (.inr 8), some (.inl x0), some (.inl j12), some (.inl (s1.2 + 1))]) (pc := 53) dX5_longestWaiting_53 rfl (kx_1 _) (Nat.le_of_ble_eq_true rfl) rfl ?_
      refine ev_goto (t := 4) (pc := 56) dX5_longestWaiting_56 (by decide) ?_
      obtain rfl := Option.some.inj h
      exact ih5 (j12, (s1.2 + 1)) rfl
    replace h := e13
    by_cases b15 : v10 = x0
    · rw [if_pos b15] at h
      refine ev_icmp_ne_f (t := 53) (pc := 21) dX5_longestWaiting_21 (by decide) b15 ?_
      refine ev_iload_n (v := s1.1) (pc := 24) dX5_longestWaiting_24 rfl ?_
      by_cases b16 : s1.1 < 0
      · rw [if_pos b16] at h
        refine ev_if_lt_t (t := 51) (pc := 25) dX5_longestWaiting_25 (by decide) b16 ?_
        refine ev_iload_n (v := s1.2) (pc := 51) dX5_longestWaiting_51 rfl ?_
        refine ev_istore_n (L' := [some (.inr 8), some (.inl x0), some (.inl s1.2), some (.inl s1.2)]) (pc := 52) dX5_longestWaiting_52 (Nat.le_of_ble_eq_true rfl) rfl ?_
        obtain rfl := Option.some.inj h
        exact hj14
      · rw [if_neg b16] at h
        refine ev_if_lt_f (t := 51) (pc := 25) dX5_longestWaiting_25 (by decide) b16 ?_
        obtain ⟨v17, e18, h⟩ := rb_bd h
        obtain ⟨v19, e20, h⟩ := rb_bd h
        refine ev_aload_n (v := 8) (pc := 28) dX5_longestWaiting_28 rfl ?_
        refine ev_getr (q := 11) (pc := 29) dX5_longestWaiting_29 fl_RX5_9 rfl rfl ?_
        refine ev_sipush (v := 271) (pc := 32) dX5_longestWaiting_32 ks_271 ?_
        refine ev_iload_n (v := s1.2) (pc := 35) dX5_longestWaiting_35 rfl ?_
        refine ev_iadd (pc := 36) dX5_longestWaiting_36 ?_
        refine ev_iald (pc := 37) dX5_longestWaiting_37 rfl e18 ?_
        refine ev_aload_n (v := 8) (pc := 38) dX5_longestWaiting_38 rfl ?_
        refine ev_getr (q := 11) (pc := 39) dX5_longestWaiting_39 fl_RX5_9 rfl rfl ?_
        refine ev_sipush (v := 271) (pc := 42) dX5_longestWaiting_42 ks_271 ?_
        refine ev_iload_n (v := s1.1) (pc := 45) dX5_longestWaiting_45 rfl ?_
        refine ev_iadd (pc := 46) dX5_longestWaiting_46 ?_
        refine ev_iald (pc := 47) dX5_longestWaiting_47 rfl e20 ?_
        by_cases b21 : v19 ≤ v17
        · rw [if_pos b21] at h
          refine ev_icmp_ge_t (t := 53) (pc := 48) dX5_longestWaiting_48 (by decide) b21 ?_
          obtain rfl := Option.some.inj h
          exact hj14
        · rw [if_neg b21] at h
          refine ev_icmp_ge_f (t := 53) (pc := 48) dX5_longestWaiting_48 (by decide) b21 ?_
          refine ev_iload_n (v := s1.2) (pc := 51) dX5_longestWaiting_51 rfl ?_
          refine ev_istore_n (L' := [some (.inr 8), some (.inl x0), some (.inl s1.2), some (.inl s1.2)]) (pc := 52) dX5_longestWaiting_52 (Nat.le_of_ble_eq_true rfl) rfl ?_
          obtain rfl := Option.some.inj h
          exact hj14
    · rw [if_neg b15] at h
      refine ev_icmp_ne_t (t := 53) (pc := 21) dX5_longestWaiting_21 (by decide) b15 ?_
      obtain rfl := Option.some.inj h
      exact hj14
def XX1_remove (c : rb_Row) (x0 : Int32) : Option (rb_Row) := (rb_rd c 773 2).bind fun v1 => if x0 < 0 then some c else if 0 ≤ ((v1 - x0) - 1) then (rb_lp (ρ := rb_Row) (fun (s5 : Int32 × rb_Row) => if 539 ≤ s5.1 then some (.inr s5.2) else (rb_cp s5.2 773 ((s5.1 + x0) + 1) s5.2 773 (s5.1 + x0) ((v1 - x0) - 1)).bind fun c14 => some (.inl ((s5.1 + 24), c14))) 100000 (299, c)).bind fun q6 => (rb_rd q6 773 2).bind fun v16 => (rb_wr q6 773 2 (v16 - 1)).bind fun c18 => some c18 else some c
set_option maxHeartbeats 4000000 in
set_option maxRecDepth 20000 in
theorem ct0_X1_remove (μ : rb_Mem) (c : rb_Row) (x0 : Int32) (o : rb_Row) (hc : μ 5 = c) (h : XX1_remove c x0 = some o) : rb_Ct yX1_remove cX1_remove 4 none 1 [.inr 3, .inl x0] μ none (rb_ov μ [(5, o)]) := by
  unfold XX1_remove at h
  have hini : rb_ov μ [(5, c)] = μ := rb_ov_sf _ _ (And.intro hc True.intro)
  have hfin : ∀ u0 : rb_Row, rb_ov μ [(5, u0)] = rb_ov μ [(5, u0)] := fun u0 => rfl
  refine rb_ctv (w := [(5, c)]) rfl pn_1 (Nat.le_of_ble_eq_true rfl) rfl hini ?_
  obtain ⟨v1, e2, h⟩ := rb_bd h
  refine ev_aload_n (v := 3) (pc := 0) dX1_remove_0 rfl ?_
  refine ev_getr (q := 5) (pc := 1) dX1_remove_1 fl_RX1_9 rfl rfl ?_
  refine ev_iconst (v := 2) (pc := 4) dX1_remove_4 ki_2 ?_
  refine ev_iald (pc := 5) dX1_remove_5 rfl e2 ?_
  refine ev_iload_n (v := x0) (pc := 6) dX1_remove_6 rfl ?_
  refine ev_isub (pc := 7) dX1_remove_7 ?_
  refine ev_iconst (v := 1) (pc := 8) dX1_remove_8 ki_1 ?_
  refine ev_isub (pc := 9) dX1_remove_9 ?_
  refine ev_istore_n (L' := [some (.inr 3), some (.inl x0), some (.inl ((v1 - x0) - 1)), none]) (pc := 10) dX1_remove_10 (Nat.le_of_ble_eq_true rfl) rfl ?_
  refine ev_iload_n (v := x0) (pc := 11) dX1_remove_11 rfl ?_
  by_cases b3 : x0 < 0
  · rw [if_pos b3] at h
    refine ev_if_lt_t (t := 19) (pc := 12) dX1_remove_12 (by decide) b3 ?_
    obtain rfl := Option.some.inj h
    exact ev_ret (pc := 19) dX1_remove_19 rfl rfl (hfin _)
  · rw [if_neg b3] at h
    refine ev_if_lt_f (t := 19) (pc := 12) dX1_remove_12 (by decide) b3 ?_
    refine ev_iload_n (v := ((v1 - x0) - 1)) (pc := 15) dX1_remove_15 rfl ?_
    by_cases b4 : 0 ≤ ((v1 - x0) - 1)
    · rw [if_pos b4] at h
      refine ev_if_ge_t (t := 20) (pc := 16) dX1_remove_16 (by decide) b4 ?_
      refine ev_sipush (v := 299) (pc := 20) dX1_remove_20 ks_299 ?_
      refine ev_istore_n (L' := [some (.inr 3), some (.inl x0), some (.inl ((v1 - x0) - 1)), some (.inl 299)]) (pc := 23) dX1_remove_23 (Nat.le_of_ble_eq_true rfl) rfl ?_
      obtain ⟨q6, l7, h⟩ := rb_bd h
      have hx11 : rb_Ev RX1 cX1_remove 4 none none 1 none (rb_ov μ [(5, o)]) 57 [some (.inr 3), none, none, none] [] (rb_ov μ [(5, q6)]) := by
        obtain ⟨v16, e17, h⟩ := rb_bd h
        obtain ⟨c18, e19, h⟩ := rb_bd h
        refine ev_aload_n (v := 3) (pc := 57) dX1_remove_57 rfl ?_
        refine ev_getr (q := 5) (pc := 58) dX1_remove_58 fl_RX1_9 rfl rfl ?_
        refine ev_iconst (v := 2) (pc := 61) dX1_remove_61 ki_2 ?_
        refine ev_dup2 (pc := 62) dX1_remove_62 ?_
        refine ev_iald (pc := 63) dX1_remove_63 rfl e17 ?_
        refine ev_iconst (v := 1) (pc := 64) dX1_remove_64 ki_1 ?_
        refine ev_isub (pc := 65) dX1_remove_65 ?_
        refine ev_iast (w' := [(5, c18)]) (pc := 66) dX1_remove_66 rfl e19 rfl ?_
        obtain rfl := Option.some.inj h
        exact ev_ret (pc := 67) dX1_remove_67 rfl rfl (hfin _)
      refine rb_lp_ev (P := fun (s5 : Int32 × rb_Row) => rb_Ev RX1 cX1_remove 4 none none 1 none (rb_ov μ [(5, o)]) 24 [some (.inr 3), some (.inl x0), some (.inl ((v1 - x0) - 1)), some (.inl s5.1)] [] (rb_ov μ [(5, s5.2)])) ?_ 100000 (299, c) l7
      intro s5 y8 h ih9 hE10
      refine ev_iload_n (v := s5.1) (pc := 24) dX1_remove_24 rfl ?_
      refine ev_sipush (v := 539) (pc := 25) dX1_remove_25 ks_539 ?_
      by_cases b13 : 539 ≤ s5.1
      · rw [if_pos b13] at h
        refine ev_icmp_ge_t (t := 57) (pc := 28) dX1_remove_28 (by decide) b13 ?_
        obtain rfl := Option.some.inj h
        obtain rfl := hE10 _ rfl
        exact ev_fg (L := [some (.inr 3), none, none, none]) (And.intro rfl True.intro) (hx11)
      · rw [if_neg b13] at h
        refine ev_icmp_ge_f (t := 57) (pc := 28) dX1_remove_28 (by decide) b13 ?_
        obtain ⟨c14, e15, h⟩ := rb_bd h
        refine ev_aload_n (v := 3) (pc := 31) dX1_remove_31 rfl ?_
        refine ev_getr (q := 5) (pc := 32) dX1_remove_32 fl_RX1_9 rfl rfl ?_
        refine ev_iload_n (v := s5.1) (pc := 35) dX1_remove_35 rfl ?_
        refine ev_iload_n (v := x0) (pc := 36) dX1_remove_36 rfl ?_
        refine ev_iadd (pc := 37) dX1_remove_37 ?_
        refine ev_iconst (v := 1) (pc := 38) dX1_remove_38 ki_1 ?_
        refine ev_iadd (pc := 39) dX1_remove_39 ?_
        refine ev_aload_n (v := 3) (pc := 40) dX1_remove_40 rfl ?_
        refine ev_getr (q := 5) (pc := 41) dX1_remove_41 fl_RX1_9 rfl rfl ?_
        refine ev_iload_n (v := s5.1) (pc := 44) dX1_remove_44 rfl ?_
        refine ev_iload_n (v := x0) (pc := 45) dX1_remove_45 rfl ?_
        refine ev_iadd (pc := 46) dX1_remove_46 ?_
        refine ev_iload_n (v := ((v1 - x0) - 1)) (pc := 47) dX1_remove_47 rfl ?_
        refine ev_copy (w' := [(5, c14)]) (pc := 48) dX1_remove_48 lk_RX1_19 rfl rfl (Nat.le_of_ble_eq_true rfl) (Nat.le_of_ble_eq_true rfl) e15 rfl ?_
        refine ev_iinc (x := s5.1) (v := (s5.1 + 24)) (L' := [some (.inr 3), some (.inl x0), some (.inl ((v1 - x0) - 1)), some (.inl (s5.1 + 24))]) (pc := 51) dX1_remove_51 rfl (kx_24 _) (Nat.le_of_ble_eq_true rfl) rfl ?_
        refine ev_goto (t := 24) (pc := 54) dX1_remove_54 (by decide) ?_
        obtain rfl := Option.some.inj h
        exact ih9 ((s5.1 + 24), c14) rfl
    · rw [if_neg b4] at h
      refine ev_if_ge_f (t := 20) (pc := 16) dX1_remove_16 (by decide) b4 ?_
      obtain rfl := Option.some.inj h
      exact ev_ret (pc := 19) dX1_remove_19 rfl rfl (hfin _)
set_option maxHeartbeats 4000000 in
set_option maxRecDepth 20000 in
theorem ct1_X1_remove (μ : rb_Mem) (c : rb_Row) (x0 : Int32) (o : rb_Row) (hc : μ 11 = c) (h : XX1_remove c x0 = some o) : rb_Ct yX1_remove cX1_remove 4 none 1 [.inr 9, .inl x0] μ none (rb_ov μ [(11, o)]) := by
  unfold XX1_remove at h
  have hini : rb_ov μ [(11, c)] = μ := rb_ov_sf _ _ (And.intro hc True.intro)
  have hfin : ∀ u0 : rb_Row, rb_ov μ [(11, u0)] = rb_ov μ [(11, u0)] := fun u0 => rfl
  refine rb_ctv (w := [(11, c)]) rfl pn_1 (Nat.le_of_ble_eq_true rfl) rfl hini ?_
  obtain ⟨v1, e2, h⟩ := rb_bd h
  refine ev_aload_n (v := 9) (pc := 0) dX1_remove_0 rfl ?_
  refine ev_getr (q := 11) (pc := 1) dX1_remove_1 fl_RX1_9 rfl rfl ?_
  refine ev_iconst (v := 2) (pc := 4) dX1_remove_4 ki_2 ?_
  refine ev_iald (pc := 5) dX1_remove_5 rfl e2 ?_
  refine ev_iload_n (v := x0) (pc := 6) dX1_remove_6 rfl ?_
  refine ev_isub (pc := 7) dX1_remove_7 ?_
  refine ev_iconst (v := 1) (pc := 8) dX1_remove_8 ki_1 ?_
  refine ev_isub (pc := 9) dX1_remove_9 ?_
  refine ev_istore_n (L' := [some (.inr 9), some (.inl x0), some (.inl ((v1 - x0) - 1)), none]) (pc := 10) dX1_remove_10 (Nat.le_of_ble_eq_true rfl) rfl ?_
  refine ev_iload_n (v := x0) (pc := 11) dX1_remove_11 rfl ?_
  by_cases b3 : x0 < 0
  · rw [if_pos b3] at h
    refine ev_if_lt_t (t := 19) (pc := 12) dX1_remove_12 (by decide) b3 ?_
    obtain rfl := Option.some.inj h
    exact ev_ret (pc := 19) dX1_remove_19 rfl rfl (hfin _)
  · rw [if_neg b3] at h
    refine ev_if_lt_f (t := 19) (pc := 12) dX1_remove_12 (by decide) b3 ?_
    refine ev_iload_n (v := ((v1 - x0) - 1)) (pc := 15) dX1_remove_15 rfl ?_
    by_cases b4 : 0 ≤ ((v1 - x0) - 1)
    · rw [if_pos b4] at h
      refine ev_if_ge_t (t := 20) (pc := 16) dX1_remove_16 (by decide) b4 ?_
      refine ev_sipush (v := 299) (pc := 20) dX1_remove_20 ks_299 ?_
      refine ev_istore_n (L' := [some (.inr 9), some (.inl x0), some (.inl ((v1 - x0) - 1)), some (.inl 299)]) (pc := 23) dX1_remove_23 (Nat.le_of_ble_eq_true rfl) rfl ?_
      obtain ⟨q6, l7, h⟩ := rb_bd h
      have hx11 : rb_Ev RX1 cX1_remove 4 none none 1 none (rb_ov μ [(11, o)]) 57 [some (.inr 9), none, none, none] [] (rb_ov μ [(11, q6)]) := by
        obtain ⟨v16, e17, h⟩ := rb_bd h
        obtain ⟨c18, e19, h⟩ := rb_bd h
        refine ev_aload_n (v := 9) (pc := 57) dX1_remove_57 rfl ?_
        refine ev_getr (q := 11) (pc := 58) dX1_remove_58 fl_RX1_9 rfl rfl ?_
        refine ev_iconst (v := 2) (pc := 61) dX1_remove_61 ki_2 ?_
        refine ev_dup2 (pc := 62) dX1_remove_62 ?_
        refine ev_iald (pc := 63) dX1_remove_63 rfl e17 ?_
        refine ev_iconst (v := 1) (pc := 64) dX1_remove_64 ki_1 ?_
        refine ev_isub (pc := 65) dX1_remove_65 ?_
        refine ev_iast (w' := [(11, c18)]) (pc := 66) dX1_remove_66 rfl e19 rfl ?_
        obtain rfl := Option.some.inj h
        exact ev_ret (pc := 67) dX1_remove_67 rfl rfl (hfin _)
      refine rb_lp_ev (P := fun (s5 : Int32 × rb_Row) => rb_Ev RX1 cX1_remove 4 none none 1 none (rb_ov μ [(11, o)]) 24 [some (.inr 9), some (.inl x0), some (.inl ((v1 - x0) - 1)), some (.inl s5.1)] [] (rb_ov μ [(11, s5.2)])) ?_ 100000 (299, c) l7
      intro s5 y8 h ih9 hE10
      refine ev_iload_n (v := s5.1) (pc := 24) dX1_remove_24 rfl ?_
      refine ev_sipush (v := 539) (pc := 25) dX1_remove_25 ks_539 ?_
      by_cases b13 : 539 ≤ s5.1
      · rw [if_pos b13] at h
        refine ev_icmp_ge_t (t := 57) (pc := 28) dX1_remove_28 (by decide) b13 ?_
        obtain rfl := Option.some.inj h
        obtain rfl := hE10 _ rfl
        exact ev_fg (L := [some (.inr 9), none, none, none]) (And.intro rfl True.intro) (hx11)
      · rw [if_neg b13] at h
        refine ev_icmp_ge_f (t := 57) (pc := 28) dX1_remove_28 (by decide) b13 ?_
        obtain ⟨c14, e15, h⟩ := rb_bd h
        refine ev_aload_n (v := 9) (pc := 31) dX1_remove_31 rfl ?_
        refine ev_getr (q := 11) (pc := 32) dX1_remove_32 fl_RX1_9 rfl rfl ?_
        refine ev_iload_n (v := s5.1) (pc := 35) dX1_remove_35 rfl ?_
        refine ev_iload_n (v := x0) (pc := 36) dX1_remove_36 rfl ?_
        refine ev_iadd (pc := 37) dX1_remove_37 ?_
        refine ev_iconst (v := 1) (pc := 38) dX1_remove_38 ki_1 ?_
        refine ev_iadd (pc := 39) dX1_remove_39 ?_
        refine ev_aload_n (v := 9) (pc := 40) dX1_remove_40 rfl ?_
        refine ev_getr (q := 11) (pc := 41) dX1_remove_41 fl_RX1_9 rfl rfl ?_
        refine ev_iload_n (v := s5.1) (pc := 44) dX1_remove_44 rfl ?_
        refine ev_iload_n (v := x0) (pc := 45) dX1_remove_45 rfl ?_
        refine ev_iadd (pc := 46) dX1_remove_46 ?_
        refine ev_iload_n (v := ((v1 - x0) - 1)) (pc := 47) dX1_remove_47 rfl ?_
        refine ev_copy (w' := [(11, c14)]) (pc := 48) dX1_remove_48 lk_RX1_19 rfl rfl (Nat.le_of_ble_eq_true rfl) (Nat.le_of_ble_eq_true rfl) e15 rfl ?_
        refine ev_iinc (x := s5.1) (v := (s5.1 + 24)) (L' := [some (.inr 9), some (.inl x0), some (.inl ((v1 - x0) - 1)), some (.inl (s5.1 + 24))]) (pc := 51) dX1_remove_51 rfl (kx_24 _) (Nat.le_of_ble_eq_true rfl) rfl ?_
        refine ev_goto (t := 24) (pc := 54) dX1_remove_54 (by decide) ?_
        obtain rfl := Option.some.inj h
        exact ih9 ((s5.1 + 24), c14) rfl
    · rw [if_neg b4] at h
      refine ev_if_ge_f (t := 20) (pc := 16) dX1_remove_16 (by decide) b4 ?_
      obtain rfl := Option.some.inj h
      exact ev_ret (pc := 19) dX1_remove_19 rfl rfl (hfin _)
def XX1_removeAllOf (c : rb_Row) (x0 : Int32) : Option (rb_Row) := (rb_rd c 773 2).bind fun v1 => (rb_lp (ρ := rb_Row) (fun (s3 : Int32 × rb_Row) => if s3.1 < 0 then some (.inr s3.2) else (rb_rd s3.2 773 (323 + s3.1)).bind fun v12 => ((if v12 = x0 then (XX1_remove s3.2 s3.1).bind fun t18 => some t18 else (rb_rd s3.2 773 (299 + s3.1)).bind fun v20 => if v20 = x0 then (XX1_remove s3.2 s3.1).bind fun t23 => some t23 else some s3.2) : Option (rb_Row)).bind fun j14 => some (.inl ((s3.1 + (-1)), j14))) 100000 ((v1 - 1), c)).bind fun q4 => some q4
set_option maxHeartbeats 4000000 in
set_option maxRecDepth 20000 in
theorem ct0_X1_removeAllOf (μ : rb_Mem) (c : rb_Row) (x0 : Int32) (o : rb_Row) (hc : μ 5 = c) (h : XX1_removeAllOf c x0 = some o) : rb_Ct yX1_removeAllOf cX1_removeAllOf 3 none 2 [.inr 3, .inl x0] μ none (rb_ov μ [(5, o)]) := by
  unfold XX1_removeAllOf at h
  have hini : rb_ov μ [(5, c)] = μ := rb_ov_sf _ _ (And.intro hc True.intro)
  have hfin : ∀ u0 : rb_Row, rb_ov μ [(5, u0)] = rb_ov μ [(5, u0)] := fun u0 => rfl
  refine rb_ctv (w := [(5, c)]) rfl pn_1 (Nat.le_of_ble_eq_true rfl) rfl hini ?_
  obtain ⟨v1, e2, h⟩ := rb_bd h
  refine ev_aload_n (v := 3) (pc := 0) dX1_removeAllOf_0 rfl ?_
  refine ev_getr (q := 5) (pc := 1) dX1_removeAllOf_1 fl_RX1_9 rfl rfl ?_
  refine ev_iconst (v := 2) (pc := 4) dX1_removeAllOf_4 ki_2 ?_
  refine ev_iald (pc := 5) dX1_removeAllOf_5 rfl e2 ?_
  refine ev_iconst (v := 1) (pc := 6) dX1_removeAllOf_6 ki_1 ?_
  refine ev_isub (pc := 7) dX1_removeAllOf_7 ?_
  refine ev_istore_n (L' := [some (.inr 3), some (.inl x0), some (.inl (v1 - 1))]) (pc := 8) dX1_removeAllOf_8 (Nat.le_of_ble_eq_true rfl) rfl ?_
  obtain ⟨q4, l5, h⟩ := rb_bd h
  have hx9 : rb_Ev RX1 cX1_removeAllOf 3 none none 2 none (rb_ov μ [(5, o)]) 52 [none, none, none] [] (rb_ov μ [(5, q4)]) := by
    obtain rfl := Option.some.inj h
    exact ev_ret (pc := 52) dX1_removeAllOf_52 rfl rfl (hfin _)
  refine rb_lp_ev (P := fun (s3 : Int32 × rb_Row) => rb_Ev RX1 cX1_removeAllOf 3 none none 2 none (rb_ov μ [(5, o)]) 9 [some (.inr 3), some (.inl x0), some (.inl s3.1)] [] (rb_ov μ [(5, s3.2)])) ?_ 100000 ((v1 - 1), c) l5
  intro s3 y6 h ih7 hE8
  refine ev_iload_n (v := s3.1) (pc := 9) dX1_removeAllOf_9 rfl ?_
  by_cases b11 : s3.1 < 0
  · rw [if_pos b11] at h
    refine ev_if_lt_t (t := 52) (pc := 10) dX1_removeAllOf_10 (by decide) b11 ?_
    obtain rfl := Option.some.inj h
    obtain rfl := hE8 _ rfl
    exact ev_fg (L := [none, none, none]) True.intro (hx9)
  · rw [if_neg b11] at h
    refine ev_if_lt_f (t := 52) (pc := 10) dX1_removeAllOf_10 (by decide) b11 ?_
    obtain ⟨v12, e13, h⟩ := rb_bd h
    refine ev_aload_n (v := 3) (pc := 13) dX1_removeAllOf_13 rfl ?_
    refine ev_getr (q := 5) (pc := 14) dX1_removeAllOf_14 fl_RX1_9 rfl rfl ?_
    refine ev_sipush (v := 323) (pc := 17) dX1_removeAllOf_17 ks_323 ?_
    refine ev_iload_n (v := s3.1) (pc := 20) dX1_removeAllOf_20 rfl ?_
    refine ev_iadd (pc := 21) dX1_removeAllOf_21 ?_
    refine ev_iald (pc := 22) dX1_removeAllOf_22 rfl e13 ?_
    refine ev_iload_n (v := x0) (pc := 23) dX1_removeAllOf_23 rfl ?_
    obtain ⟨j14, e15, h⟩ := rb_bd h
    have hj16 : rb_Ev RX1 cX1_removeAllOf 3 none none 2 none (rb_ov μ [(5, o)]) 46 [some (.inr 3), some (.inl x0), some (.inl s3.1)] [] (rb_ov μ [(5, j14)]) := by
      refine ev_iinc (x := s3.1) (v := (s3.1 + (-1))) (L' := [some (.inr 3), some (.inl x0), some (.inl (s3.1 + (-1)))]) (pc := 46) dX1_removeAllOf_46 rfl (kx_m1 _) (Nat.le_of_ble_eq_true rfl) rfl ?_
      refine ev_goto (t := 9) (pc := 49) dX1_removeAllOf_49 (by decide) ?_
      obtain rfl := Option.some.inj h
      exact ih7 ((s3.1 + (-1)), j14) rfl
    replace h := e15
    by_cases b17 : v12 = x0
    · rw [if_pos b17] at h
      refine ev_icmp_eq_t (t := 41) (pc := 24) dX1_removeAllOf_24 (by decide) b17 ?_
      obtain ⟨t18, e19, h⟩ := rb_bd h
      refine ev_aload_n (v := 3) (pc := 41) dX1_removeAllOf_41 rfl ?_
      refine ev_iload_n (v := s3.1) (pc := 42) dX1_removeAllOf_42 rfl ?_
      refine ev_cVv1w (w' := [(5, t18)]) (pc := 43) dX1_removeAllOf_43 mv_X1_remove lk_RX1_25 rp_3 (ct0_X1_remove _ _ _ _ rfl e19) (Nat.le_of_ble_eq_true rfl) (Nat.le_of_ble_eq_true rfl) rfl ?_
      obtain rfl := Option.some.inj h
      exact hj16
    · rw [if_neg b17] at h
      refine ev_icmp_eq_f (t := 41) (pc := 24) dX1_removeAllOf_24 (by decide) b17 ?_
      obtain ⟨v20, e21, h⟩ := rb_bd h
      refine ev_aload_n (v := 3) (pc := 27) dX1_removeAllOf_27 rfl ?_
      refine ev_getr (q := 5) (pc := 28) dX1_removeAllOf_28 fl_RX1_9 rfl rfl ?_
      refine ev_sipush (v := 299) (pc := 31) dX1_removeAllOf_31 ks_299 ?_
      refine ev_iload_n (v := s3.1) (pc := 34) dX1_removeAllOf_34 rfl ?_
      refine ev_iadd (pc := 35) dX1_removeAllOf_35 ?_
      refine ev_iald (pc := 36) dX1_removeAllOf_36 rfl e21 ?_
      refine ev_iload_n (v := x0) (pc := 37) dX1_removeAllOf_37 rfl ?_
      by_cases b22 : v20 = x0
      · rw [if_pos b22] at h
        refine ev_icmp_ne_f (t := 46) (pc := 38) dX1_removeAllOf_38 (by decide) b22 ?_
        obtain ⟨t23, e24, h⟩ := rb_bd h
        refine ev_aload_n (v := 3) (pc := 41) dX1_removeAllOf_41 rfl ?_
        refine ev_iload_n (v := s3.1) (pc := 42) dX1_removeAllOf_42 rfl ?_
        refine ev_cVv1w (w' := [(5, t23)]) (pc := 43) dX1_removeAllOf_43 mv_X1_remove lk_RX1_25 rp_3 (ct0_X1_remove _ _ _ _ rfl e24) (Nat.le_of_ble_eq_true rfl) (Nat.le_of_ble_eq_true rfl) rfl ?_
        obtain rfl := Option.some.inj h
        exact hj16
      · rw [if_neg b22] at h
        refine ev_icmp_ne_t (t := 46) (pc := 38) dX1_removeAllOf_38 (by decide) b22 ?_
        obtain rfl := Option.some.inj h
        exact hj16
set_option maxHeartbeats 4000000 in
set_option maxRecDepth 20000 in
theorem ct1_X1_removeAllOf (μ : rb_Mem) (c : rb_Row) (x0 : Int32) (o : rb_Row) (hc : μ 11 = c) (h : XX1_removeAllOf c x0 = some o) : rb_Ct yX1_removeAllOf cX1_removeAllOf 3 none 2 [.inr 9, .inl x0] μ none (rb_ov μ [(11, o)]) := by
  unfold XX1_removeAllOf at h
  have hini : rb_ov μ [(11, c)] = μ := rb_ov_sf _ _ (And.intro hc True.intro)
  have hfin : ∀ u0 : rb_Row, rb_ov μ [(11, u0)] = rb_ov μ [(11, u0)] := fun u0 => rfl
  refine rb_ctv (w := [(11, c)]) rfl pn_1 (Nat.le_of_ble_eq_true rfl) rfl hini ?_
  obtain ⟨v1, e2, h⟩ := rb_bd h
  refine ev_aload_n (v := 9) (pc := 0) dX1_removeAllOf_0 rfl ?_
  refine ev_getr (q := 11) (pc := 1) dX1_removeAllOf_1 fl_RX1_9 rfl rfl ?_
  refine ev_iconst (v := 2) (pc := 4) dX1_removeAllOf_4 ki_2 ?_
  refine ev_iald (pc := 5) dX1_removeAllOf_5 rfl e2 ?_
  refine ev_iconst (v := 1) (pc := 6) dX1_removeAllOf_6 ki_1 ?_
  refine ev_isub (pc := 7) dX1_removeAllOf_7 ?_
  refine ev_istore_n (L' := [some (.inr 9), some (.inl x0), some (.inl (v1 - 1))]) (pc := 8) dX1_removeAllOf_8 (Nat.le_of_ble_eq_true rfl) rfl ?_
  obtain ⟨q4, l5, h⟩ := rb_bd h
  have hx9 : rb_Ev RX1 cX1_removeAllOf 3 none none 2 none (rb_ov μ [(11, o)]) 52 [none, none, none] [] (rb_ov μ [(11, q4)]) := by
    obtain rfl := Option.some.inj h
    exact ev_ret (pc := 52) dX1_removeAllOf_52 rfl rfl (hfin _)
  refine rb_lp_ev (P := fun (s3 : Int32 × rb_Row) => rb_Ev RX1 cX1_removeAllOf 3 none none 2 none (rb_ov μ [(11, o)]) 9 [some (.inr 9), some (.inl x0), some (.inl s3.1)] [] (rb_ov μ [(11, s3.2)])) ?_ 100000 ((v1 - 1), c) l5
  intro s3 y6 h ih7 hE8
  refine ev_iload_n (v := s3.1) (pc := 9) dX1_removeAllOf_9 rfl ?_
  by_cases b11 : s3.1 < 0
  · rw [if_pos b11] at h
    refine ev_if_lt_t (t := 52) (pc := 10) dX1_removeAllOf_10 (by decide) b11 ?_
    obtain rfl := Option.some.inj h
    obtain rfl := hE8 _ rfl
    exact ev_fg (L := [none, none, none]) True.intro (hx9)
  · rw [if_neg b11] at h
    refine ev_if_lt_f (t := 52) (pc := 10) dX1_removeAllOf_10 (by decide) b11 ?_
    obtain ⟨v12, e13, h⟩ := rb_bd h
    refine ev_aload_n (v := 9) (pc := 13) dX1_removeAllOf_13 rfl ?_
    refine ev_getr (q := 11) (pc := 14) dX1_removeAllOf_14 fl_RX1_9 rfl rfl ?_
    refine ev_sipush (v := 323) (pc := 17) dX1_removeAllOf_17 ks_323 ?_
    refine ev_iload_n (v := s3.1) (pc := 20) dX1_removeAllOf_20 rfl ?_
    refine ev_iadd (pc := 21) dX1_removeAllOf_21 ?_
    refine ev_iald (pc := 22) dX1_removeAllOf_22 rfl e13 ?_
    refine ev_iload_n (v := x0) (pc := 23) dX1_removeAllOf_23 rfl ?_
    obtain ⟨j14, e15, h⟩ := rb_bd h
    have hj16 : rb_Ev RX1 cX1_removeAllOf 3 none none 2 none (rb_ov μ [(11, o)]) 46 [some (.inr 9), some (.inl x0), some (.inl s3.1)] [] (rb_ov μ [(11, j14)]) := by
      refine ev_iinc (x := s3.1) (v := (s3.1 + (-1))) (L' := [some (.inr 9), some (.inl x0), some (.inl (s3.1 + (-1)))]) (pc := 46) dX1_removeAllOf_46 rfl (kx_m1 _) (Nat.le_of_ble_eq_true rfl) rfl ?_
      refine ev_goto (t := 9) (pc := 49) dX1_removeAllOf_49 (by decide) ?_
      obtain rfl := Option.some.inj h
      exact ih7 ((s3.1 + (-1)), j14) rfl
    replace h := e15
    by_cases b17 : v12 = x0
    · rw [if_pos b17] at h
      refine ev_icmp_eq_t (t := 41) (pc := 24) dX1_removeAllOf_24 (by decide) b17 ?_
      obtain ⟨t18, e19, h⟩ := rb_bd h
      refine ev_aload_n (v := 9) (pc := 41) dX1_removeAllOf_41 rfl ?_
      refine ev_iload_n (v := s3.1) (pc := 42) dX1_removeAllOf_42 rfl ?_
      refine ev_cVv1w (w' := [(11, t18)]) (pc := 43) dX1_removeAllOf_43 mv_X1_remove lk_RX1_25 rp_9 (ct1_X1_remove _ _ _ _ rfl e19) (Nat.le_of_ble_eq_true rfl) (Nat.le_of_ble_eq_true rfl) rfl ?_
      obtain rfl := Option.some.inj h
      exact hj16
    · rw [if_neg b17] at h
      refine ev_icmp_eq_f (t := 41) (pc := 24) dX1_removeAllOf_24 (by decide) b17 ?_
      obtain ⟨v20, e21, h⟩ := rb_bd h
      refine ev_aload_n (v := 9) (pc := 27) dX1_removeAllOf_27 rfl ?_
      refine ev_getr (q := 11) (pc := 28) dX1_removeAllOf_28 fl_RX1_9 rfl rfl ?_
      refine ev_sipush (v := 299) (pc := 31) dX1_removeAllOf_31 ks_299 ?_
      refine ev_iload_n (v := s3.1) (pc := 34) dX1_removeAllOf_34 rfl ?_
      refine ev_iadd (pc := 35) dX1_removeAllOf_35 ?_
      refine ev_iald (pc := 36) dX1_removeAllOf_36 rfl e21 ?_
      refine ev_iload_n (v := x0) (pc := 37) dX1_removeAllOf_37 rfl ?_
      by_cases b22 : v20 = x0
      · rw [if_pos b22] at h
        refine ev_icmp_ne_f (t := 46) (pc := 38) dX1_removeAllOf_38 (by decide) b22 ?_
        obtain ⟨t23, e24, h⟩ := rb_bd h
        refine ev_aload_n (v := 9) (pc := 41) dX1_removeAllOf_41 rfl ?_
        refine ev_iload_n (v := s3.1) (pc := 42) dX1_removeAllOf_42 rfl ?_
        refine ev_cVv1w (w' := [(11, t23)]) (pc := 43) dX1_removeAllOf_43 mv_X1_remove lk_RX1_25 rp_9 (ct1_X1_remove _ _ _ _ rfl e24) (Nat.le_of_ble_eq_true rfl) (Nat.le_of_ble_eq_true rfl) rfl ?_
        obtain rfl := Option.some.inj h
        exact hj16
      · rw [if_neg b22] at h
        refine ev_icmp_ne_t (t := 46) (pc := 38) dX1_removeAllOf_38 (by decide) b22 ?_
        obtain rfl := Option.some.inj h
        exact hj16
def XX4_giveUp (c : rb_Row) (x0 : Int32) : Option (rb_Row) := (XX4_getUp c x0).bind fun t1 => (rb_wr t1 773 (563 + x0) 0).bind fun c3 => (rb_rd c3 773 (587 + x0)).bind fun v5 => (rb_wr c3 773 (587 + x0) (v5 + 1)).bind fun c7 => some c7
set_option maxHeartbeats 4000000 in
set_option maxRecDepth 20000 in
theorem ct0_X4_giveUp (μ : rb_Mem) (c : rb_Row) (x0 : Int32) (o : rb_Row) (hc : μ 5 = c) (h : XX4_giveUp c x0 = some o) : rb_Ct yX4_giveUp cX4_giveUp 2 none 1 [.inr 4, .inl x0] μ none (rb_ov μ [(5, o)]) := by
  unfold XX4_giveUp at h
  have hini : rb_ov μ [(5, c)] = μ := rb_ov_sf _ _ (And.intro hc True.intro)
  have hfin : ∀ u0 : rb_Row, rb_ov μ [(5, u0)] = rb_ov μ [(5, u0)] := fun u0 => rfl
  refine rb_ctv (w := [(5, c)]) rfl pn_4 (Nat.le_of_ble_eq_true rfl) rfl hini ?_
  obtain ⟨t1, e2, h⟩ := rb_bd h
  obtain ⟨c3, e4, h⟩ := rb_bd h
  obtain ⟨v5, e6, h⟩ := rb_bd h
  obtain ⟨c7, e8, h⟩ := rb_bd h
  refine ev_aload_n (v := 4) (pc := 0) dX4_giveUp_0 rfl ?_
  refine ev_iload_n (v := x0) (pc := 1) dX4_giveUp_1 rfl ?_
  refine ev_cVv1w (w' := [(5, t1)]) (pc := 2) dX4_giveUp_2 mv_X4_getUp lk_RX4_19 rp_4 (ct0_X4_getUp _ _ _ _ rfl e2) (Nat.le_of_ble_eq_true rfl) (Nat.le_of_ble_eq_true rfl) rfl ?_
  refine ev_aload_n (v := 4) (pc := 5) dX4_giveUp_5 rfl ?_
  refine ev_getr (q := 5) (pc := 6) dX4_giveUp_6 fl_RX4_9 rfl rfl ?_
  refine ev_sipush (v := 563) (pc := 9) dX4_giveUp_9 ks_563 ?_
  refine ev_iload_n (v := x0) (pc := 12) dX4_giveUp_12 rfl ?_
  refine ev_iadd (pc := 13) dX4_giveUp_13 ?_
  refine ev_iconst (v := 0) (pc := 14) dX4_giveUp_14 ki_0 ?_
  refine ev_iast (w' := [(5, c3)]) (pc := 15) dX4_giveUp_15 rfl e4 rfl ?_
  refine ev_aload_n (v := 4) (pc := 16) dX4_giveUp_16 rfl ?_
  refine ev_getr (q := 5) (pc := 17) dX4_giveUp_17 fl_RX4_9 rfl rfl ?_
  refine ev_sipush (v := 587) (pc := 20) dX4_giveUp_20 ks_587 ?_
  refine ev_iload_n (v := x0) (pc := 23) dX4_giveUp_23 rfl ?_
  refine ev_iadd (pc := 24) dX4_giveUp_24 ?_
  refine ev_dup2 (pc := 25) dX4_giveUp_25 ?_
  refine ev_iald (pc := 26) dX4_giveUp_26 rfl e6 ?_
  refine ev_iconst (v := 1) (pc := 27) dX4_giveUp_27 ki_1 ?_
  refine ev_iadd (pc := 28) dX4_giveUp_28 ?_
  refine ev_iast (w' := [(5, c7)]) (pc := 29) dX4_giveUp_29 rfl e8 rfl ?_
  obtain rfl := Option.some.inj h
  exact ev_ret (pc := 30) dX4_giveUp_30 rfl rfl (hfin _)
set_option maxHeartbeats 4000000 in
set_option maxRecDepth 20000 in
theorem ct1_X4_giveUp (μ : rb_Mem) (c : rb_Row) (x0 : Int32) (o : rb_Row) (hc : μ 11 = c) (h : XX4_giveUp c x0 = some o) : rb_Ct yX4_giveUp cX4_giveUp 2 none 1 [.inr 10, .inl x0] μ none (rb_ov μ [(11, o)]) := by
  unfold XX4_giveUp at h
  have hini : rb_ov μ [(11, c)] = μ := rb_ov_sf _ _ (And.intro hc True.intro)
  have hfin : ∀ u0 : rb_Row, rb_ov μ [(11, u0)] = rb_ov μ [(11, u0)] := fun u0 => rfl
  refine rb_ctv (w := [(11, c)]) rfl pn_4 (Nat.le_of_ble_eq_true rfl) rfl hini ?_
  obtain ⟨t1, e2, h⟩ := rb_bd h
  obtain ⟨c3, e4, h⟩ := rb_bd h
  obtain ⟨v5, e6, h⟩ := rb_bd h
  obtain ⟨c7, e8, h⟩ := rb_bd h
  refine ev_aload_n (v := 10) (pc := 0) dX4_giveUp_0 rfl ?_
  refine ev_iload_n (v := x0) (pc := 1) dX4_giveUp_1 rfl ?_
  refine ev_cVv1w (w' := [(11, t1)]) (pc := 2) dX4_giveUp_2 mv_X4_getUp lk_RX4_19 rp_10 (ct1_X4_getUp _ _ _ _ rfl e2) (Nat.le_of_ble_eq_true rfl) (Nat.le_of_ble_eq_true rfl) rfl ?_
  refine ev_aload_n (v := 10) (pc := 5) dX4_giveUp_5 rfl ?_
  refine ev_getr (q := 11) (pc := 6) dX4_giveUp_6 fl_RX4_9 rfl rfl ?_
  refine ev_sipush (v := 563) (pc := 9) dX4_giveUp_9 ks_563 ?_
  refine ev_iload_n (v := x0) (pc := 12) dX4_giveUp_12 rfl ?_
  refine ev_iadd (pc := 13) dX4_giveUp_13 ?_
  refine ev_iconst (v := 0) (pc := 14) dX4_giveUp_14 ki_0 ?_
  refine ev_iast (w' := [(11, c3)]) (pc := 15) dX4_giveUp_15 rfl e4 rfl ?_
  refine ev_aload_n (v := 10) (pc := 16) dX4_giveUp_16 rfl ?_
  refine ev_getr (q := 11) (pc := 17) dX4_giveUp_17 fl_RX4_9 rfl rfl ?_
  refine ev_sipush (v := 587) (pc := 20) dX4_giveUp_20 ks_587 ?_
  refine ev_iload_n (v := x0) (pc := 23) dX4_giveUp_23 rfl ?_
  refine ev_iadd (pc := 24) dX4_giveUp_24 ?_
  refine ev_dup2 (pc := 25) dX4_giveUp_25 ?_
  refine ev_iald (pc := 26) dX4_giveUp_26 rfl e6 ?_
  refine ev_iconst (v := 1) (pc := 27) dX4_giveUp_27 ki_1 ?_
  refine ev_iadd (pc := 28) dX4_giveUp_28 ?_
  refine ev_iast (w' := [(11, c7)]) (pc := 29) dX4_giveUp_29 rfl e8 rfl ?_
  obtain rfl := Option.some.inj h
  exact ev_ret (pc := 30) dX4_giveUp_30 rfl rfl (hfin _)
def XX4_dismissFrom (c : rb_Row) (x0 : Int32) : Option (rb_Row) := (rb_lp (ρ := rb_Row) (fun (s1 : Int32 × rb_Row) => if 6 ≤ s1.1 then some (.inr s1.2) else (rb_rd s1.2 773 (539 + s1.1)).bind fun v10 => ((if v10 = x0 then (XX4_giveUp s1.2 s1.1).bind fun t16 => some t16 else some s1.2) : Option (rb_Row)).bind fun j12 => some (.inl ((s1.1 + 1), j12))) 100000 (0, c)).bind fun q2 => some q2
set_option maxHeartbeats 4000000 in
set_option maxRecDepth 20000 in
theorem ct0_X4_dismissFrom (μ : rb_Mem) (c : rb_Row) (x0 : Int32) (o : rb_Row) (hc : μ 5 = c) (h : XX4_dismissFrom c x0 = some o) : rb_Ct yX4_dismissFrom cX4_dismissFrom 3 none 2 [.inr 4, .inl x0] μ none (rb_ov μ [(5, o)]) := by
  unfold XX4_dismissFrom at h
  have hini : rb_ov μ [(5, c)] = μ := rb_ov_sf _ _ (And.intro hc True.intro)
  have hfin : ∀ u0 : rb_Row, rb_ov μ [(5, u0)] = rb_ov μ [(5, u0)] := fun u0 => rfl
  refine rb_ctv (w := [(5, c)]) rfl pn_4 (Nat.le_of_ble_eq_true rfl) rfl hini ?_
  refine ev_iconst (v := 0) (pc := 0) dX4_dismissFrom_0 ki_0 ?_
  refine ev_istore_n (L' := [some (.inr 4), some (.inl x0), some (.inl 0)]) (pc := 1) dX4_dismissFrom_1 (Nat.le_of_ble_eq_true rfl) rfl ?_
  obtain ⟨q2, l3, h⟩ := rb_bd h
  have hx7 : rb_Ev RX4 cX4_dismissFrom 3 none none 2 none (rb_ov μ [(5, o)]) 33 [none, none, none] [] (rb_ov μ [(5, q2)]) := by
    obtain rfl := Option.some.inj h
    exact ev_ret (pc := 33) dX4_dismissFrom_33 rfl rfl (hfin _)
  refine rb_lp_ev (P := fun (s1 : Int32 × rb_Row) => rb_Ev RX4 cX4_dismissFrom 3 none none 2 none (rb_ov μ [(5, o)]) 2 [some (.inr 4), some (.inl x0), some (.inl s1.1)] [] (rb_ov μ [(5, s1.2)])) ?_ 100000 (0, c) l3
  intro s1 y4 h ih5 hE6
  refine ev_iload_n (v := s1.1) (pc := 2) dX4_dismissFrom_2 rfl ?_
  refine ev_bipush (v := 6) (pc := 3) dX4_dismissFrom_3 kb_6 ?_
  by_cases b9 : 6 ≤ s1.1
  · rw [if_pos b9] at h
    refine ev_icmp_ge_t (t := 33) (pc := 5) dX4_dismissFrom_5 (by decide) b9 ?_
    obtain rfl := Option.some.inj h
    obtain rfl := hE6 _ rfl
    exact ev_fg (L := [none, none, none]) True.intro (hx7)
  · rw [if_neg b9] at h
    refine ev_icmp_ge_f (t := 33) (pc := 5) dX4_dismissFrom_5 (by decide) b9 ?_
    obtain ⟨v10, e11, h⟩ := rb_bd h
    refine ev_aload_n (v := 4) (pc := 8) dX4_dismissFrom_8 rfl ?_
    refine ev_getr (q := 5) (pc := 9) dX4_dismissFrom_9 fl_RX4_9 rfl rfl ?_
    refine ev_sipush (v := 539) (pc := 12) dX4_dismissFrom_12 ks_539 ?_
    refine ev_iload_n (v := s1.1) (pc := 15) dX4_dismissFrom_15 rfl ?_
    refine ev_iadd (pc := 16) dX4_dismissFrom_16 ?_
    refine ev_iald (pc := 17) dX4_dismissFrom_17 rfl e11 ?_
    refine ev_iload_n (v := x0) (pc := 18) dX4_dismissFrom_18 rfl ?_
    obtain ⟨j12, e13, h⟩ := rb_bd h
    have hj14 : rb_Ev RX4 cX4_dismissFrom 3 none none 2 none (rb_ov μ [(5, o)]) 27 [some (.inr 4), some (.inl x0), some (.inl s1.1)] [] (rb_ov μ [(5, j12)]) := by
      refine ev_iinc (x := s1.1) (v := (s1.1 + 1)) (L' := [some (.inr 4), some (.inl x0), some (.inl (s1.1 + 1))]) (pc := 27) dX4_dismissFrom_27 rfl (kx_1 _) (Nat.le_of_ble_eq_true rfl) rfl ?_
      refine ev_goto (t := 2) (pc := 30) dX4_dismissFrom_30 (by decide) ?_
      obtain rfl := Option.some.inj h
      exact ih5 ((s1.1 + 1), j12) rfl
    replace h := e13
    by_cases b15 : v10 = x0
    · rw [if_pos b15] at h
      refine ev_icmp_ne_f (t := 27) (pc := 19) dX4_dismissFrom_19 (by decide) b15 ?_
      obtain ⟨t16, e17, h⟩ := rb_bd h
      refine ev_aload_n (v := 4) (pc := 22) dX4_dismissFrom_22 rfl ?_
      refine ev_iload_n (v := s1.1) (pc := 23) dX4_dismissFrom_23 rfl ?_
      refine ev_cVv1w (w' := [(5, t16)]) (pc := 24) dX4_dismissFrom_24 mv_X4_giveUp lk_RX4_23 rp_4 (ct0_X4_giveUp _ _ _ _ rfl e17) (Nat.le_of_ble_eq_true rfl) (Nat.le_of_ble_eq_true rfl) rfl ?_
      obtain rfl := Option.some.inj h
      exact hj14
    · rw [if_neg b15] at h
      refine ev_icmp_ne_t (t := 27) (pc := 19) dX4_dismissFrom_19 (by decide) b15 ?_
      obtain rfl := Option.some.inj h
      exact hj14
set_option maxHeartbeats 4000000 in
set_option maxRecDepth 20000 in
theorem ct1_X4_dismissFrom (μ : rb_Mem) (c : rb_Row) (x0 : Int32) (o : rb_Row) (hc : μ 11 = c) (h : XX4_dismissFrom c x0 = some o) : rb_Ct yX4_dismissFrom cX4_dismissFrom 3 none 2 [.inr 10, .inl x0] μ none (rb_ov μ [(11, o)]) := by
  unfold XX4_dismissFrom at h
  have hini : rb_ov μ [(11, c)] = μ := rb_ov_sf _ _ (And.intro hc True.intro)
  have hfin : ∀ u0 : rb_Row, rb_ov μ [(11, u0)] = rb_ov μ [(11, u0)] := fun u0 => rfl
  refine rb_ctv (w := [(11, c)]) rfl pn_4 (Nat.le_of_ble_eq_true rfl) rfl hini ?_
  refine ev_iconst (v := 0) (pc := 0) dX4_dismissFrom_0 ki_0 ?_
  refine ev_istore_n (L' := [some (.inr 10), some (.inl x0), some (.inl 0)]) (pc := 1) dX4_dismissFrom_1 (Nat.le_of_ble_eq_true rfl) rfl ?_
  obtain ⟨q2, l3, h⟩ := rb_bd h
  have hx7 : rb_Ev RX4 cX4_dismissFrom 3 none none 2 none (rb_ov μ [(11, o)]) 33 [none, none, none] [] (rb_ov μ [(11, q2)]) := by
    obtain rfl := Option.some.inj h
    exact ev_ret (pc := 33) dX4_dismissFrom_33 rfl rfl (hfin _)
  refine rb_lp_ev (P := fun (s1 : Int32 × rb_Row) => rb_Ev RX4 cX4_dismissFrom 3 none none 2 none (rb_ov μ [(11, o)]) 2 [some (.inr 10), some (.inl x0), some (.inl s1.1)] [] (rb_ov μ [(11, s1.2)])) ?_ 100000 (0, c) l3
  intro s1 y4 h ih5 hE6
  refine ev_iload_n (v := s1.1) (pc := 2) dX4_dismissFrom_2 rfl ?_
  refine ev_bipush (v := 6) (pc := 3) dX4_dismissFrom_3 kb_6 ?_
  by_cases b9 : 6 ≤ s1.1
  · rw [if_pos b9] at h
    refine ev_icmp_ge_t (t := 33) (pc := 5) dX4_dismissFrom_5 (by decide) b9 ?_
    obtain rfl := Option.some.inj h
    obtain rfl := hE6 _ rfl
    exact ev_fg (L := [none, none, none]) True.intro (hx7)
  · rw [if_neg b9] at h
    refine ev_icmp_ge_f (t := 33) (pc := 5) dX4_dismissFrom_5 (by decide) b9 ?_
    obtain ⟨v10, e11, h⟩ := rb_bd h
    refine ev_aload_n (v := 10) (pc := 8) dX4_dismissFrom_8 rfl ?_
    refine ev_getr (q := 11) (pc := 9) dX4_dismissFrom_9 fl_RX4_9 rfl rfl ?_
    refine ev_sipush (v := 539) (pc := 12) dX4_dismissFrom_12 ks_539 ?_
    refine ev_iload_n (v := s1.1) (pc := 15) dX4_dismissFrom_15 rfl ?_
    refine ev_iadd (pc := 16) dX4_dismissFrom_16 ?_
    refine ev_iald (pc := 17) dX4_dismissFrom_17 rfl e11 ?_
    refine ev_iload_n (v := x0) (pc := 18) dX4_dismissFrom_18 rfl ?_
    obtain ⟨j12, e13, h⟩ := rb_bd h
    have hj14 : rb_Ev RX4 cX4_dismissFrom 3 none none 2 none (rb_ov μ [(11, o)]) 27 [some (.inr 10), some (.inl x0), some (.inl s1.1)] [] (rb_ov μ [(11, j12)]) := by
      refine ev_iinc (x := s1.1) (v := (s1.1 + 1)) (L' := [some (.inr 10), some (.inl x0), some (.inl (s1.1 + 1))]) (pc := 27) dX4_dismissFrom_27 rfl (kx_1 _) (Nat.le_of_ble_eq_true rfl) rfl ?_
      refine ev_goto (t := 2) (pc := 30) dX4_dismissFrom_30 (by decide) ?_
      obtain rfl := Option.some.inj h
      exact ih5 ((s1.1 + 1), j12) rfl
    replace h := e13
    by_cases b15 : v10 = x0
    · rw [if_pos b15] at h
      refine ev_icmp_ne_f (t := 27) (pc := 19) dX4_dismissFrom_19 (by decide) b15 ?_
      obtain ⟨t16, e17, h⟩ := rb_bd h
      refine ev_aload_n (v := 10) (pc := 22) dX4_dismissFrom_22 rfl ?_
      refine ev_iload_n (v := s1.1) (pc := 23) dX4_dismissFrom_23 rfl ?_
      refine ev_cVv1w (w' := [(11, t16)]) (pc := 24) dX4_dismissFrom_24 mv_X4_giveUp lk_RX4_23 rp_10 (ct1_X4_giveUp _ _ _ _ rfl e17) (Nat.le_of_ble_eq_true rfl) (Nat.le_of_ble_eq_true rfl) rfl ?_
      obtain rfl := Option.some.inj h
      exact hj14
    · rw [if_neg b15] at h
      refine ev_icmp_ne_t (t := 27) (pc := 19) dX4_dismissFrom_19 (by decide) b15 ?_
      obtain rfl := Option.some.inj h
      exact hj14
def XX5_remove (c : rb_Row) (x0 : Int32) : Option (rb_Row) := (rb_rd c 773 (131 + x0)).bind fun v1 => ((if v1 < 0 then some c else (rb_wr c 773 (131 + v1) (-1)).bind fun c7 => some c7) : Option (rb_Row)).bind fun j3 => (rb_wr j3 773 (19 + x0) (-1)).bind fun c9 => (rb_wr c9 773 (243 + x0) (-1)).bind fun c11 => some c11
set_option maxHeartbeats 4000000 in
set_option maxRecDepth 20000 in
theorem ct0_X5_remove (μ : rb_Mem) (c : rb_Row) (x0 : Int32) (o : rb_Row) (hc : μ 5 = c) (h : XX5_remove c x0 = some o) : rb_Ct yX5_remove cX5_remove 3 none 0 [.inr 2, .inl x0] μ none (rb_ov μ [(5, o)]) := by
  unfold XX5_remove at h
  have hini : rb_ov μ [(5, c)] = μ := rb_ov_sf _ _ (And.intro hc True.intro)
  have hfin : ∀ u0 : rb_Row, rb_ov μ [(5, u0)] = rb_ov μ [(5, u0)] := fun u0 => rfl
  refine rb_ctv (w := [(5, c)]) rfl pn_5 (Nat.le_of_ble_eq_true rfl) rfl hini ?_
  obtain ⟨v1, e2, h⟩ := rb_bd h
  refine ev_aload_n (v := 2) (pc := 0) dX5_remove_0 rfl ?_
  refine ev_getr (q := 5) (pc := 1) dX5_remove_1 fl_RX5_9 rfl rfl ?_
  refine ev_sipush (v := 131) (pc := 4) dX5_remove_4 ks_131 ?_
  refine ev_iload_n (v := x0) (pc := 7) dX5_remove_7 rfl ?_
  refine ev_iadd (pc := 8) dX5_remove_8 ?_
  refine ev_iald (pc := 9) dX5_remove_9 rfl e2 ?_
  refine ev_istore_n (L' := [some (.inr 2), some (.inl x0), some (.inl v1)]) (pc := 10) dX5_remove_10 (Nat.le_of_ble_eq_true rfl) rfl ?_
  refine ev_iload_n (v := v1) (pc := 11) dX5_remove_11 rfl ?_
  obtain ⟨j3, e4, h⟩ := rb_bd h
  have hj5 : rb_Ev RX5 cX5_remove 3 none none 0 none (rb_ov μ [(5, o)]) 26 [some (.inr 2), some (.inl x0), none] [] (rb_ov μ [(5, j3)]) := by
    obtain ⟨c9, e10, h⟩ := rb_bd h
    obtain ⟨c11, e12, h⟩ := rb_bd h
    refine ev_aload_n (v := 2) (pc := 26) dX5_remove_26 rfl ?_
    refine ev_getr (q := 5) (pc := 27) dX5_remove_27 fl_RX5_9 rfl rfl ?_
    refine ev_bipush (v := 19) (pc := 30) dX5_remove_30 kb_19 ?_
    refine ev_iload_n (v := x0) (pc := 32) dX5_remove_32 rfl ?_
    refine ev_iadd (pc := 33) dX5_remove_33 ?_
    refine ev_iconst (v := (-1)) (pc := 34) dX5_remove_34 ki_m1 ?_
    refine ev_iast (w' := [(5, c9)]) (pc := 35) dX5_remove_35 rfl e10 rfl ?_
    refine ev_aload_n (v := 2) (pc := 36) dX5_remove_36 rfl ?_
    refine ev_getr (q := 5) (pc := 37) dX5_remove_37 fl_RX5_9 rfl rfl ?_
    refine ev_sipush (v := 243) (pc := 40) dX5_remove_40 ks_243 ?_
    refine ev_iload_n (v := x0) (pc := 43) dX5_remove_43 rfl ?_
    refine ev_iadd (pc := 44) dX5_remove_44 ?_
    refine ev_iconst (v := (-1)) (pc := 45) dX5_remove_45 ki_m1 ?_
    refine ev_iast (w' := [(5, c11)]) (pc := 46) dX5_remove_46 rfl e12 rfl ?_
    obtain rfl := Option.some.inj h
    exact ev_ret (pc := 47) dX5_remove_47 rfl rfl (hfin _)
  replace h := e4
  by_cases b6 : v1 < 0
  · rw [if_pos b6] at h
    refine ev_if_lt_t (t := 26) (pc := 12) dX5_remove_12 (by decide) b6 ?_
    obtain rfl := Option.some.inj h
    exact ev_fg (L := [some (.inr 2), some (.inl x0), none]) (And.intro rfl (And.intro rfl True.intro)) (hj5)
  · rw [if_neg b6] at h
    refine ev_if_lt_f (t := 26) (pc := 12) dX5_remove_12 (by decide) b6 ?_
    obtain ⟨c7, e8, h⟩ := rb_bd h
    refine ev_aload_n (v := 2) (pc := 15) dX5_remove_15 rfl ?_
    refine ev_getr (q := 5) (pc := 16) dX5_remove_16 fl_RX5_9 rfl rfl ?_
    refine ev_sipush (v := 131) (pc := 19) dX5_remove_19 ks_131 ?_
    refine ev_iload_n (v := v1) (pc := 22) dX5_remove_22 rfl ?_
    refine ev_iadd (pc := 23) dX5_remove_23 ?_
    refine ev_iconst (v := (-1)) (pc := 24) dX5_remove_24 ki_m1 ?_
    refine ev_iast (w' := [(5, c7)]) (pc := 25) dX5_remove_25 rfl e8 rfl ?_
    obtain rfl := Option.some.inj h
    exact ev_fg (L := [some (.inr 2), some (.inl x0), none]) (And.intro rfl (And.intro rfl True.intro)) (hj5)
set_option maxHeartbeats 4000000 in
set_option maxRecDepth 20000 in
theorem ct1_X5_remove (μ : rb_Mem) (c : rb_Row) (x0 : Int32) (o : rb_Row) (hc : μ 11 = c) (h : XX5_remove c x0 = some o) : rb_Ct yX5_remove cX5_remove 3 none 0 [.inr 8, .inl x0] μ none (rb_ov μ [(11, o)]) := by
  unfold XX5_remove at h
  have hini : rb_ov μ [(11, c)] = μ := rb_ov_sf _ _ (And.intro hc True.intro)
  have hfin : ∀ u0 : rb_Row, rb_ov μ [(11, u0)] = rb_ov μ [(11, u0)] := fun u0 => rfl
  refine rb_ctv (w := [(11, c)]) rfl pn_5 (Nat.le_of_ble_eq_true rfl) rfl hini ?_
  obtain ⟨v1, e2, h⟩ := rb_bd h
  refine ev_aload_n (v := 8) (pc := 0) dX5_remove_0 rfl ?_
  refine ev_getr (q := 11) (pc := 1) dX5_remove_1 fl_RX5_9 rfl rfl ?_
  refine ev_sipush (v := 131) (pc := 4) dX5_remove_4 ks_131 ?_
  refine ev_iload_n (v := x0) (pc := 7) dX5_remove_7 rfl ?_
  refine ev_iadd (pc := 8) dX5_remove_8 ?_
  refine ev_iald (pc := 9) dX5_remove_9 rfl e2 ?_
  refine ev_istore_n (L' := [some (.inr 8), some (.inl x0), some (.inl v1)]) (pc := 10) dX5_remove_10 (Nat.le_of_ble_eq_true rfl) rfl ?_
  refine ev_iload_n (v := v1) (pc := 11) dX5_remove_11 rfl ?_
  obtain ⟨j3, e4, h⟩ := rb_bd h
  have hj5 : rb_Ev RX5 cX5_remove 3 none none 0 none (rb_ov μ [(11, o)]) 26 [some (.inr 8), some (.inl x0), none] [] (rb_ov μ [(11, j3)]) := by
    obtain ⟨c9, e10, h⟩ := rb_bd h
    obtain ⟨c11, e12, h⟩ := rb_bd h
    refine ev_aload_n (v := 8) (pc := 26) dX5_remove_26 rfl ?_
    refine ev_getr (q := 11) (pc := 27) dX5_remove_27 fl_RX5_9 rfl rfl ?_
    refine ev_bipush (v := 19) (pc := 30) dX5_remove_30 kb_19 ?_
    refine ev_iload_n (v := x0) (pc := 32) dX5_remove_32 rfl ?_
    refine ev_iadd (pc := 33) dX5_remove_33 ?_
    refine ev_iconst (v := (-1)) (pc := 34) dX5_remove_34 ki_m1 ?_
    refine ev_iast (w' := [(11, c9)]) (pc := 35) dX5_remove_35 rfl e10 rfl ?_
    refine ev_aload_n (v := 8) (pc := 36) dX5_remove_36 rfl ?_
    refine ev_getr (q := 11) (pc := 37) dX5_remove_37 fl_RX5_9 rfl rfl ?_
    refine ev_sipush (v := 243) (pc := 40) dX5_remove_40 ks_243 ?_
    refine ev_iload_n (v := x0) (pc := 43) dX5_remove_43 rfl ?_
    refine ev_iadd (pc := 44) dX5_remove_44 ?_
    refine ev_iconst (v := (-1)) (pc := 45) dX5_remove_45 ki_m1 ?_
    refine ev_iast (w' := [(11, c11)]) (pc := 46) dX5_remove_46 rfl e12 rfl ?_
    obtain rfl := Option.some.inj h
    exact ev_ret (pc := 47) dX5_remove_47 rfl rfl (hfin _)
  replace h := e4
  by_cases b6 : v1 < 0
  · rw [if_pos b6] at h
    refine ev_if_lt_t (t := 26) (pc := 12) dX5_remove_12 (by decide) b6 ?_
    obtain rfl := Option.some.inj h
    exact ev_fg (L := [some (.inr 8), some (.inl x0), none]) (And.intro rfl (And.intro rfl True.intro)) (hj5)
  · rw [if_neg b6] at h
    refine ev_if_lt_f (t := 26) (pc := 12) dX5_remove_12 (by decide) b6 ?_
    obtain ⟨c7, e8, h⟩ := rb_bd h
    refine ev_aload_n (v := 8) (pc := 15) dX5_remove_15 rfl ?_
    refine ev_getr (q := 11) (pc := 16) dX5_remove_16 fl_RX5_9 rfl rfl ?_
    refine ev_sipush (v := 131) (pc := 19) dX5_remove_19 ks_131 ?_
    refine ev_iload_n (v := v1) (pc := 22) dX5_remove_22 rfl ?_
    refine ev_iadd (pc := 23) dX5_remove_23 ?_
    refine ev_iconst (v := (-1)) (pc := 24) dX5_remove_24 ki_m1 ?_
    refine ev_iast (w' := [(11, c7)]) (pc := 25) dX5_remove_25 rfl e8 rfl ?_
    obtain rfl := Option.some.inj h
    exact ev_fg (L := [some (.inr 8), some (.inl x0), none]) (And.intro rfl (And.intro rfl True.intro)) (hj5)
def XX5_setHeld (c : rb_Row) (x0 : Int32) (x1 : Int32) : Option (rb_Row) := (rb_rd c 773 (131 + x0)).bind fun v1 => (rb_wr c 773 (47 + x0) x1).bind fun c3 => if v1 < 0 then some c3 else (rb_wr c3 773 (47 + v1) x1).bind fun c6 => some c6
set_option maxHeartbeats 4000000 in
set_option maxRecDepth 20000 in
theorem ct0_X5_setHeld (μ : rb_Mem) (c : rb_Row) (x0 : Int32) (x1 : Int32) (o : rb_Row) (hc : μ 5 = c) (h : XX5_setHeld c x0 x1 = some o) : rb_Ct yX5_setHeld cX5_setHeld 4 none 0 [.inr 2, .inl x0, .inl x1] μ none (rb_ov μ [(5, o)]) := by
  unfold XX5_setHeld at h
  have hini : rb_ov μ [(5, c)] = μ := rb_ov_sf _ _ (And.intro hc True.intro)
  have hfin : ∀ u0 : rb_Row, rb_ov μ [(5, u0)] = rb_ov μ [(5, u0)] := fun u0 => rfl
  refine rb_ctv (w := [(5, c)]) rfl pn_5 (Nat.le_of_ble_eq_true rfl) rfl hini ?_
  obtain ⟨v1, e2, h⟩ := rb_bd h
  obtain ⟨c3, e4, h⟩ := rb_bd h
  refine ev_aload_n (v := 2) (pc := 0) dX5_setHeld_0 rfl ?_
  refine ev_getr (q := 5) (pc := 1) dX5_setHeld_1 fl_RX5_9 rfl rfl ?_
  refine ev_sipush (v := 131) (pc := 4) dX5_setHeld_4 ks_131 ?_
  refine ev_iload_n (v := x0) (pc := 7) dX5_setHeld_7 rfl ?_
  refine ev_iadd (pc := 8) dX5_setHeld_8 ?_
  refine ev_iald (pc := 9) dX5_setHeld_9 rfl e2 ?_
  refine ev_istore_n (L' := [some (.inr 2), some (.inl x0), some (.inl x1), some (.inl v1)]) (pc := 10) dX5_setHeld_10 (Nat.le_of_ble_eq_true rfl) rfl ?_
  refine ev_aload_n (v := 2) (pc := 11) dX5_setHeld_11 rfl ?_
  refine ev_getr (q := 5) (pc := 12) dX5_setHeld_12 fl_RX5_9 rfl rfl ?_
  refine ev_bipush (v := 47) (pc := 15) dX5_setHeld_15 kb_47 ?_
  refine ev_iload_n (v := x0) (pc := 17) dX5_setHeld_17 rfl ?_
  refine ev_iadd (pc := 18) dX5_setHeld_18 ?_
  refine ev_iload_n (v := x1) (pc := 19) dX5_setHeld_19 rfl ?_
  refine ev_iast (w' := [(5, c3)]) (pc := 20) dX5_setHeld_20 rfl e4 rfl ?_
  refine ev_iload_n (v := v1) (pc := 21) dX5_setHeld_21 rfl ?_
  by_cases b5 : v1 < 0
  · rw [if_pos b5] at h
    refine ev_if_lt_t (t := 35) (pc := 22) dX5_setHeld_22 (by decide) b5 ?_
    obtain rfl := Option.some.inj h
    exact ev_ret (pc := 35) dX5_setHeld_35 rfl rfl (hfin _)
  · rw [if_neg b5] at h
    refine ev_if_lt_f (t := 35) (pc := 22) dX5_setHeld_22 (by decide) b5 ?_
    obtain ⟨c6, e7, h⟩ := rb_bd h
    refine ev_aload_n (v := 2) (pc := 25) dX5_setHeld_25 rfl ?_
    refine ev_getr (q := 5) (pc := 26) dX5_setHeld_26 fl_RX5_9 rfl rfl ?_
    refine ev_bipush (v := 47) (pc := 29) dX5_setHeld_29 kb_47 ?_
    refine ev_iload_n (v := v1) (pc := 31) dX5_setHeld_31 rfl ?_
    refine ev_iadd (pc := 32) dX5_setHeld_32 ?_
    refine ev_iload_n (v := x1) (pc := 33) dX5_setHeld_33 rfl ?_
    refine ev_iast (w' := [(5, c6)]) (pc := 34) dX5_setHeld_34 rfl e7 rfl ?_
    obtain rfl := Option.some.inj h
    exact ev_ret (pc := 35) dX5_setHeld_35 rfl rfl (hfin _)
set_option maxHeartbeats 4000000 in
set_option maxRecDepth 20000 in
theorem ct1_X5_setHeld (μ : rb_Mem) (c : rb_Row) (x0 : Int32) (x1 : Int32) (o : rb_Row) (hc : μ 11 = c) (h : XX5_setHeld c x0 x1 = some o) : rb_Ct yX5_setHeld cX5_setHeld 4 none 0 [.inr 8, .inl x0, .inl x1] μ none (rb_ov μ [(11, o)]) := by
  unfold XX5_setHeld at h
  have hini : rb_ov μ [(11, c)] = μ := rb_ov_sf _ _ (And.intro hc True.intro)
  have hfin : ∀ u0 : rb_Row, rb_ov μ [(11, u0)] = rb_ov μ [(11, u0)] := fun u0 => rfl
  refine rb_ctv (w := [(11, c)]) rfl pn_5 (Nat.le_of_ble_eq_true rfl) rfl hini ?_
  obtain ⟨v1, e2, h⟩ := rb_bd h
  obtain ⟨c3, e4, h⟩ := rb_bd h
  refine ev_aload_n (v := 8) (pc := 0) dX5_setHeld_0 rfl ?_
  refine ev_getr (q := 11) (pc := 1) dX5_setHeld_1 fl_RX5_9 rfl rfl ?_
  refine ev_sipush (v := 131) (pc := 4) dX5_setHeld_4 ks_131 ?_
  refine ev_iload_n (v := x0) (pc := 7) dX5_setHeld_7 rfl ?_
  refine ev_iadd (pc := 8) dX5_setHeld_8 ?_
  refine ev_iald (pc := 9) dX5_setHeld_9 rfl e2 ?_
  refine ev_istore_n (L' := [some (.inr 8), some (.inl x0), some (.inl x1), some (.inl v1)]) (pc := 10) dX5_setHeld_10 (Nat.le_of_ble_eq_true rfl) rfl ?_
  refine ev_aload_n (v := 8) (pc := 11) dX5_setHeld_11 rfl ?_
  refine ev_getr (q := 11) (pc := 12) dX5_setHeld_12 fl_RX5_9 rfl rfl ?_
  refine ev_bipush (v := 47) (pc := 15) dX5_setHeld_15 kb_47 ?_
  refine ev_iload_n (v := x0) (pc := 17) dX5_setHeld_17 rfl ?_
  refine ev_iadd (pc := 18) dX5_setHeld_18 ?_
  refine ev_iload_n (v := x1) (pc := 19) dX5_setHeld_19 rfl ?_
  refine ev_iast (w' := [(11, c3)]) (pc := 20) dX5_setHeld_20 rfl e4 rfl ?_
  refine ev_iload_n (v := v1) (pc := 21) dX5_setHeld_21 rfl ?_
  by_cases b5 : v1 < 0
  · rw [if_pos b5] at h
    refine ev_if_lt_t (t := 35) (pc := 22) dX5_setHeld_22 (by decide) b5 ?_
    obtain rfl := Option.some.inj h
    exact ev_ret (pc := 35) dX5_setHeld_35 rfl rfl (hfin _)
  · rw [if_neg b5] at h
    refine ev_if_lt_f (t := 35) (pc := 22) dX5_setHeld_22 (by decide) b5 ?_
    obtain ⟨c6, e7, h⟩ := rb_bd h
    refine ev_aload_n (v := 8) (pc := 25) dX5_setHeld_25 rfl ?_
    refine ev_getr (q := 11) (pc := 26) dX5_setHeld_26 fl_RX5_9 rfl rfl ?_
    refine ev_bipush (v := 47) (pc := 29) dX5_setHeld_29 kb_47 ?_
    refine ev_iload_n (v := v1) (pc := 31) dX5_setHeld_31 rfl ?_
    refine ev_iadd (pc := 32) dX5_setHeld_32 ?_
    refine ev_iload_n (v := x1) (pc := 33) dX5_setHeld_33 rfl ?_
    refine ev_iast (w' := [(11, c6)]) (pc := 34) dX5_setHeld_34 rfl e7 rfl ?_
    obtain rfl := Option.some.inj h
    exact ev_ret (pc := 35) dX5_setHeld_35 rfl rfl (hfin _)
def XX4_dismissLate (c : rb_Row) : Option (rb_Row) := (rb_lp (ρ := rb_Row) (fun (s1 : Int32 × rb_Row) => if 6 ≤ s1.1 then some (.inr s1.2) else (rb_rd s1.2 773 (539 + s1.1)).bind fun v10 => ((if v10 < 0 then some s1.2 else (rb_rd s1.2 773 (557 + s1.1)).bind fun v16 => (rb_rd s1.2 773 0).bind fun v18 => if v16 = v18 then (XX4_giveUp s1.2 s1.1).bind fun t21 => some t21 else some s1.2) : Option (rb_Row)).bind fun j12 => some (.inl ((s1.1 + 1), j12))) 100000 (0, c)).bind fun q2 => some q2
set_option maxHeartbeats 4000000 in
set_option maxRecDepth 20000 in
theorem ct0_X4_dismissLate (μ : rb_Mem) (c : rb_Row) (o : rb_Row) (hc : μ 5 = c) (h : XX4_dismissLate c = some o) : rb_Ct yX4_dismissLate cX4_dismissLate 2 none 2 [.inr 4] μ none (rb_ov μ [(5, o)]) := by
  unfold XX4_dismissLate at h
  have hini : rb_ov μ [(5, c)] = μ := rb_ov_sf _ _ (And.intro hc True.intro)
  have hfin : ∀ u0 : rb_Row, rb_ov μ [(5, u0)] = rb_ov μ [(5, u0)] := fun u0 => rfl
  refine rb_ctv (w := [(5, c)]) rfl pn_4 (Nat.le_of_ble_eq_true rfl) rfl hini ?_
  refine ev_iconst (v := 0) (pc := 0) dX4_dismissLate_0 ki_0 ?_
  refine ev_istore_n (L' := [some (.inr 4), some (.inl 0)]) (pc := 1) dX4_dismissLate_1 (Nat.le_of_ble_eq_true rfl) rfl ?_
  obtain ⟨q2, l3, h⟩ := rb_bd h
  have hx7 : rb_Ev RX4 cX4_dismissLate 2 none none 2 none (rb_ov μ [(5, o)]) 51 [none, none] [] (rb_ov μ [(5, q2)]) := by
    obtain rfl := Option.some.inj h
    exact ev_ret (pc := 51) dX4_dismissLate_51 rfl rfl (hfin _)
  refine rb_lp_ev (P := fun (s1 : Int32 × rb_Row) => rb_Ev RX4 cX4_dismissLate 2 none none 2 none (rb_ov μ [(5, o)]) 2 [some (.inr 4), some (.inl s1.1)] [] (rb_ov μ [(5, s1.2)])) ?_ 100000 (0, c) l3
  intro s1 y4 h ih5 hE6
  refine ev_iload_n (v := s1.1) (pc := 2) dX4_dismissLate_2 rfl ?_
  refine ev_bipush (v := 6) (pc := 3) dX4_dismissLate_3 kb_6 ?_
  by_cases b9 : 6 ≤ s1.1
  · rw [if_pos b9] at h
    refine ev_icmp_ge_t (t := 51) (pc := 5) dX4_dismissLate_5 (by decide) b9 ?_
    obtain rfl := Option.some.inj h
    obtain rfl := hE6 _ rfl
    exact ev_fg (L := [none, none]) True.intro (hx7)
  · rw [if_neg b9] at h
    refine ev_icmp_ge_f (t := 51) (pc := 5) dX4_dismissLate_5 (by decide) b9 ?_
    obtain ⟨v10, e11, h⟩ := rb_bd h
    refine ev_aload_n (v := 4) (pc := 8) dX4_dismissLate_8 rfl ?_
    refine ev_getr (q := 5) (pc := 9) dX4_dismissLate_9 fl_RX4_9 rfl rfl ?_
    refine ev_sipush (v := 539) (pc := 12) dX4_dismissLate_12 ks_539 ?_
    refine ev_iload_n (v := s1.1) (pc := 15) dX4_dismissLate_15 rfl ?_
    refine ev_iadd (pc := 16) dX4_dismissLate_16 ?_
    refine ev_iald (pc := 17) dX4_dismissLate_17 rfl e11 ?_
    obtain ⟨j12, e13, h⟩ := rb_bd h
    have hj14 : rb_Ev RX4 cX4_dismissLate 2 none none 2 none (rb_ov μ [(5, o)]) 45 [some (.inr 4), some (.inl s1.1)] [] (rb_ov μ [(5, j12)]) := by
      refine ev_iinc (x := s1.1) (v := (s1.1 + 1)) (L' := [some (.inr 4), some (.inl (s1.1 + 1))]) (pc := 45) dX4_dismissLate_45 rfl (kx_1 _) (Nat.le_of_ble_eq_true rfl) rfl ?_
      refine ev_goto (t := 2) (pc := 48) dX4_dismissLate_48 (by decide) ?_
      obtain rfl := Option.some.inj h
      exact ih5 ((s1.1 + 1), j12) rfl
    replace h := e13
    by_cases b15 : v10 < 0
    · rw [if_pos b15] at h
      refine ev_if_lt_t (t := 45) (pc := 18) dX4_dismissLate_18 (by decide) b15 ?_
      obtain rfl := Option.some.inj h
      exact hj14
    · rw [if_neg b15] at h
      refine ev_if_lt_f (t := 45) (pc := 18) dX4_dismissLate_18 (by decide) b15 ?_
      obtain ⟨v16, e17, h⟩ := rb_bd h
      obtain ⟨v18, e19, h⟩ := rb_bd h
      refine ev_aload_n (v := 4) (pc := 21) dX4_dismissLate_21 rfl ?_
      refine ev_getr (q := 5) (pc := 22) dX4_dismissLate_22 fl_RX4_9 rfl rfl ?_
      refine ev_sipush (v := 557) (pc := 25) dX4_dismissLate_25 ks_557 ?_
      refine ev_iload_n (v := s1.1) (pc := 28) dX4_dismissLate_28 rfl ?_
      refine ev_iadd (pc := 29) dX4_dismissLate_29 ?_
      refine ev_iald (pc := 30) dX4_dismissLate_30 rfl e17 ?_
      refine ev_aload_n (v := 4) (pc := 31) dX4_dismissLate_31 rfl ?_
      refine ev_getr (q := 5) (pc := 32) dX4_dismissLate_32 fl_RX4_9 rfl rfl ?_
      refine ev_iconst (v := 0) (pc := 35) dX4_dismissLate_35 ki_0 ?_
      refine ev_iald (pc := 36) dX4_dismissLate_36 rfl e19 ?_
      by_cases b20 : v16 = v18
      · rw [if_pos b20] at h
        refine ev_icmp_ne_f (t := 45) (pc := 37) dX4_dismissLate_37 (by decide) b20 ?_
        obtain ⟨t21, e22, h⟩ := rb_bd h
        refine ev_aload_n (v := 4) (pc := 40) dX4_dismissLate_40 rfl ?_
        refine ev_iload_n (v := s1.1) (pc := 41) dX4_dismissLate_41 rfl ?_
        refine ev_cVv1w (w' := [(5, t21)]) (pc := 42) dX4_dismissLate_42 mv_X4_giveUp lk_RX4_23 rp_4 (ct0_X4_giveUp _ _ _ _ rfl e22) (Nat.le_of_ble_eq_true rfl) (Nat.le_of_ble_eq_true rfl) rfl ?_
        obtain rfl := Option.some.inj h
        exact hj14
      · rw [if_neg b20] at h
        refine ev_icmp_ne_t (t := 45) (pc := 37) dX4_dismissLate_37 (by decide) b20 ?_
        obtain rfl := Option.some.inj h
        exact hj14
set_option maxHeartbeats 4000000 in
set_option maxRecDepth 20000 in
theorem ct1_X4_dismissLate (μ : rb_Mem) (c : rb_Row) (o : rb_Row) (hc : μ 11 = c) (h : XX4_dismissLate c = some o) : rb_Ct yX4_dismissLate cX4_dismissLate 2 none 2 [.inr 10] μ none (rb_ov μ [(11, o)]) := by
  unfold XX4_dismissLate at h
  have hini : rb_ov μ [(11, c)] = μ := rb_ov_sf _ _ (And.intro hc True.intro)
  have hfin : ∀ u0 : rb_Row, rb_ov μ [(11, u0)] = rb_ov μ [(11, u0)] := fun u0 => rfl
  refine rb_ctv (w := [(11, c)]) rfl pn_4 (Nat.le_of_ble_eq_true rfl) rfl hini ?_
  refine ev_iconst (v := 0) (pc := 0) dX4_dismissLate_0 ki_0 ?_
  refine ev_istore_n (L' := [some (.inr 10), some (.inl 0)]) (pc := 1) dX4_dismissLate_1 (Nat.le_of_ble_eq_true rfl) rfl ?_
  obtain ⟨q2, l3, h⟩ := rb_bd h
  have hx7 : rb_Ev RX4 cX4_dismissLate 2 none none 2 none (rb_ov μ [(11, o)]) 51 [none, none] [] (rb_ov μ [(11, q2)]) := by
    obtain rfl := Option.some.inj h
    exact ev_ret (pc := 51) dX4_dismissLate_51 rfl rfl (hfin _)
  refine rb_lp_ev (P := fun (s1 : Int32 × rb_Row) => rb_Ev RX4 cX4_dismissLate 2 none none 2 none (rb_ov μ [(11, o)]) 2 [some (.inr 10), some (.inl s1.1)] [] (rb_ov μ [(11, s1.2)])) ?_ 100000 (0, c) l3
  intro s1 y4 h ih5 hE6
  refine ev_iload_n (v := s1.1) (pc := 2) dX4_dismissLate_2 rfl ?_
  refine ev_bipush (v := 6) (pc := 3) dX4_dismissLate_3 kb_6 ?_
  by_cases b9 : 6 ≤ s1.1
  · rw [if_pos b9] at h
    refine ev_icmp_ge_t (t := 51) (pc := 5) dX4_dismissLate_5 (by decide) b9 ?_
    obtain rfl := Option.some.inj h
    obtain rfl := hE6 _ rfl
    exact ev_fg (L := [none, none]) True.intro (hx7)
  · rw [if_neg b9] at h
    refine ev_icmp_ge_f (t := 51) (pc := 5) dX4_dismissLate_5 (by decide) b9 ?_
    obtain ⟨v10, e11, h⟩ := rb_bd h
    refine ev_aload_n (v := 10) (pc := 8) dX4_dismissLate_8 rfl ?_
    refine ev_getr (q := 11) (pc := 9) dX4_dismissLate_9 fl_RX4_9 rfl rfl ?_
    refine ev_sipush (v := 539) (pc := 12) dX4_dismissLate_12 ks_539 ?_
    refine ev_iload_n (v := s1.1) (pc := 15) dX4_dismissLate_15 rfl ?_
    refine ev_iadd (pc := 16) dX4_dismissLate_16 ?_
    refine ev_iald (pc := 17) dX4_dismissLate_17 rfl e11 ?_
    obtain ⟨j12, e13, h⟩ := rb_bd h
    have hj14 : rb_Ev RX4 cX4_dismissLate 2 none none 2 none (rb_ov μ [(11, o)]) 45 [some (.inr 10), some (.inl s1.1)] [] (rb_ov μ [(11, j12)]) := by
      refine ev_iinc (x := s1.1) (v := (s1.1 + 1)) (L' := [some (.inr 10), some (.inl (s1.1 + 1))]) (pc := 45) dX4_dismissLate_45 rfl (kx_1 _) (Nat.le_of_ble_eq_true rfl) rfl ?_
      refine ev_goto (t := 2) (pc := 48) dX4_dismissLate_48 (by decide) ?_
      obtain rfl := Option.some.inj h
      exact ih5 ((s1.1 + 1), j12) rfl
    replace h := e13
    by_cases b15 : v10 < 0
    · rw [if_pos b15] at h
      refine ev_if_lt_t (t := 45) (pc := 18) dX4_dismissLate_18 (by decide) b15 ?_
      obtain rfl := Option.some.inj h
      exact hj14
    · rw [if_neg b15] at h
      refine ev_if_lt_f (t := 45) (pc := 18) dX4_dismissLate_18 (by decide) b15 ?_
      obtain ⟨v16, e17, h⟩ := rb_bd h
      obtain ⟨v18, e19, h⟩ := rb_bd h
      refine ev_aload_n (v := 10) (pc := 21) dX4_dismissLate_21 rfl ?_
      refine ev_getr (q := 11) (pc := 22) dX4_dismissLate_22 fl_RX4_9 rfl rfl ?_
      refine ev_sipush (v := 557) (pc := 25) dX4_dismissLate_25 ks_557 ?_
      refine ev_iload_n (v := s1.1) (pc := 28) dX4_dismissLate_28 rfl ?_
      refine ev_iadd (pc := 29) dX4_dismissLate_29 ?_
      refine ev_iald (pc := 30) dX4_dismissLate_30 rfl e17 ?_
      refine ev_aload_n (v := 10) (pc := 31) dX4_dismissLate_31 rfl ?_
      refine ev_getr (q := 11) (pc := 32) dX4_dismissLate_32 fl_RX4_9 rfl rfl ?_
      refine ev_iconst (v := 0) (pc := 35) dX4_dismissLate_35 ki_0 ?_
      refine ev_iald (pc := 36) dX4_dismissLate_36 rfl e19 ?_
      by_cases b20 : v16 = v18
      · rw [if_pos b20] at h
        refine ev_icmp_ne_f (t := 45) (pc := 37) dX4_dismissLate_37 (by decide) b20 ?_
        obtain ⟨t21, e22, h⟩ := rb_bd h
        refine ev_aload_n (v := 10) (pc := 40) dX4_dismissLate_40 rfl ?_
        refine ev_iload_n (v := s1.1) (pc := 41) dX4_dismissLate_41 rfl ?_
        refine ev_cVv1w (w' := [(11, t21)]) (pc := 42) dX4_dismissLate_42 mv_X4_giveUp lk_RX4_23 rp_10 (ct1_X4_giveUp _ _ _ _ rfl e22) (Nat.le_of_ble_eq_true rfl) (Nat.le_of_ble_eq_true rfl) rfl ?_
        obtain rfl := Option.some.inj h
        exact hj14
      · rw [if_neg b20] at h
        refine ev_icmp_ne_t (t := 45) (pc := 37) dX4_dismissLate_37 (by decide) b20 ?_
        obtain rfl := Option.some.inj h
        exact hj14
def XX1_find (c : rb_Row) (x0 : Int32) (x1 : Int32) (x2 : Int32) : Option (Int32) := (rb_rd c 773 2).bind fun v1 => (rb_lp (ρ := (Unit) ⊕ (Int32)) (fun (s3 : Int32) => if v1 ≤ s3 then some (.inr (.inl ())) else (rb_rd c 773 (299 + s3)).bind fun v13 => if v13 = x0 then (rb_rd c 773 (347 + s3)).bind fun v16 => if v16 = x1 then (rb_rd c 773 (323 + s3)).bind fun v19 => if v19 = x2 then some (.inr (.inr s3)) else some (.inl (s3 + 1)) else some (.inl (s3 + 1)) else some (.inl (s3 + 1))) 100000 0).bind fun q4 => Sum.elim (fun (z11 : Unit) => some (-1)) (fun (w22 : Int32) => some w22) q4
set_option maxHeartbeats 4000000 in
set_option maxRecDepth 20000 in
theorem ct0_X1_find (μ : rb_Mem) (c : rb_Row) (x0 : Int32) (x1 : Int32) (x2 : Int32) (o : Int32) (hc : μ 5 = c) (h : XX1_find c x0 x1 x2 = some o) : rb_Ct yX1_find cX1_find 6 (some .int) 0 [.inr 3, .inl x0, .inl x1, .inl x2] μ (some o) μ := by
  unfold XX1_find at h
  have hini : rb_ov μ [(5, c)] = μ := rb_ov_sf _ _ (And.intro hc True.intro)
  have hfin := hini
  refine rb_cti (w := [(5, c)]) rfl pn_1 (Nat.le_of_ble_eq_true rfl) rfl hini ?_
  obtain ⟨v1, e2, h⟩ := rb_bd h
  refine ev_aload_n (v := 3) (pc := 0) dX1_find_0 rfl ?_
  refine ev_getr (q := 5) (pc := 1) dX1_find_1 fl_RX1_9 rfl rfl ?_
  refine ev_iconst (v := 2) (pc := 4) dX1_find_4 ki_2 ?_
  refine ev_iald (pc := 5) dX1_find_5 rfl e2 ?_
  refine ev_istore (L' := [some (.inr 3), some (.inl x0), some (.inl x1), some (.inl x2), some (.inl v1), none]) (pc := 6) dX1_find_6 (Nat.le_of_ble_eq_true rfl) rfl ?_
  refine ev_iconst (v := 0) (pc := 8) dX1_find_8 ki_0 ?_
  refine ev_istore (L' := [some (.inr 3), some (.inl x0), some (.inl x1), some (.inl x2), some (.inl v1), some (.inl 0)]) (pc := 9) dX1_find_9 (Nat.le_of_ble_eq_true rfl) rfl ?_
  obtain ⟨q4, l5, h⟩ := rb_bd h
  have hx9 : ∀ z11 : Unit, q4 = .inl z11 → rb_Ev RX1 cX1_find 6 (some .int) none 0 (some o) μ 72 [none, none, none, none, none, none] [] (rb_ov μ [(5, c)]) := by
    intro z11 hz
    rw [hz] at h
    replace h := rb_sel h
    refine ev_iconst (v := (-1)) (pc := 72) dX1_find_72 ki_m1 ?_
    obtain rfl := Option.some.inj h
    exact ev_iret (pc := 73) dX1_find_73 rfl rfl rfl hfin
  have hr10 : ∀ w22 : Int32, q4 = .inr w22 → w22 = o := by
    intro w22 hz
    rw [hz] at h
    replace h := rb_ser h
    exact Option.some.inj h
  refine rb_lp_ev (P := fun (s3 : Int32) => rb_Ev RX1 cX1_find 6 (some .int) none 0 (some o) μ 11 [some (.inr 3), some (.inl x0), some (.inl x1), some (.inl x2), some (.inl v1), some (.inl s3)] [] (rb_ov μ [(5, c)])) ?_ 100000 0 l5
  intro s3 y6 h ih7 hE8
  refine ev_iload (v := s3) (pc := 11) dX1_find_11 rfl ?_
  refine ev_iload (v := v1) (pc := 13) dX1_find_13 rfl ?_
  by_cases b12 : v1 ≤ s3
  · rw [if_pos b12] at h
    refine ev_icmp_ge_t (t := 72) (pc := 15) dX1_find_15 (by decide) b12 ?_
    obtain rfl := Option.some.inj h
    exact ev_fg (L := [none, none, none, none, none, none]) True.intro (hx9 () (hE8 _ rfl).symm)
  · rw [if_neg b12] at h
    refine ev_icmp_ge_f (t := 72) (pc := 15) dX1_find_15 (by decide) b12 ?_
    obtain ⟨v13, e14, h⟩ := rb_bd h
    refine ev_aload_n (v := 3) (pc := 18) dX1_find_18 rfl ?_
    refine ev_getr (q := 5) (pc := 19) dX1_find_19 fl_RX1_9 rfl rfl ?_
    refine ev_sipush (v := 299) (pc := 22) dX1_find_22 ks_299 ?_
    refine ev_iload (v := s3) (pc := 25) dX1_find_25 rfl ?_
    refine ev_iadd (pc := 27) dX1_find_27 ?_
    refine ev_iald (pc := 28) dX1_find_28 rfl e14 ?_
    refine ev_iload_n (v := x0) (pc := 29) dX1_find_29 rfl ?_
    by_cases b15 : v13 = x0
    · rw [if_pos b15] at h
      refine ev_icmp_ne_f (t := 66) (pc := 30) dX1_find_30 (by decide) b15 ?_
      obtain ⟨v16, e17, h⟩ := rb_bd h
      refine ev_aload_n (v := 3) (pc := 33) dX1_find_33 rfl ?_
      refine ev_getr (q := 5) (pc := 34) dX1_find_34 fl_RX1_9 rfl rfl ?_
      refine ev_sipush (v := 347) (pc := 37) dX1_find_37 ks_347 ?_
      refine ev_iload (v := s3) (pc := 40) dX1_find_40 rfl ?_
      refine ev_iadd (pc := 42) dX1_find_42 ?_
      refine ev_iald (pc := 43) dX1_find_43 rfl e17 ?_
      refine ev_iload_n (v := x1) (pc := 44) dX1_find_44 rfl ?_
      by_cases b18 : v16 = x1
      · rw [if_pos b18] at h
        refine ev_icmp_ne_f (t := 66) (pc := 45) dX1_find_45 (by decide) b18 ?_
        obtain ⟨v19, e20, h⟩ := rb_bd h
        refine ev_aload_n (v := 3) (pc := 48) dX1_find_48 rfl ?_
        refine ev_getr (q := 5) (pc := 49) dX1_find_49 fl_RX1_9 rfl rfl ?_
        refine ev_sipush (v := 323) (pc := 52) dX1_find_52 ks_323 ?_
        refine ev_iload (v := s3) (pc := 55) dX1_find_55 rfl ?_
        refine ev_iadd (pc := 57) dX1_find_57 ?_
        refine ev_iald (pc := 58) dX1_find_58 rfl e20 ?_
        refine ev_iload_n (v := x2) (pc := 59) dX1_find_59 rfl ?_
        by_cases b21 : v19 = x2
        · rw [if_pos b21] at h
          refine ev_icmp_ne_f (t := 66) (pc := 60) dX1_find_60 (by decide) b21 ?_
          refine ev_iload (v := s3) (pc := 63) dX1_find_63 rfl ?_
          obtain rfl := Option.some.inj h
          obtain rfl := hr10 _ (hE8 _ rfl).symm
          exact ev_iret (pc := 65) dX1_find_65 rfl rfl rfl hfin
        · rw [if_neg b21] at h
          refine ev_icmp_ne_t (t := 66) (pc := 60) dX1_find_60 (by decide) b21 ?_
          refine ev_iinc (x := s3) (v := (s3 + 1)) (L' := [some (.inr 3), some (.inl x0), some (.inl x1), some (.inl x2), some (.inl v1), some (.inl (s3 + 1))]) (pc := 66) dX1_find_66 rfl (kx_1 _) (Nat.le_of_ble_eq_true rfl) rfl ?_
          refine ev_goto (t := 11) (pc := 69) dX1_find_69 (by decide) ?_
          obtain rfl := Option.some.inj h
          exact ih7 (s3 + 1) rfl
      · rw [if_neg b18] at h
        refine ev_icmp_ne_t (t := 66) (pc := 45) dX1_find_45 (by decide) b18 ?_
        refine ev_iinc (x := s3) (v := (s3 + 1)) (L' := [some (.inr 3), some (.inl x0), some (.inl x1), some (.inl x2), some (.inl v1), some (.inl (s3 + 1))]) (pc := 66) dX1_find_66 rfl (kx_1 _) (Nat.le_of_ble_eq_true rfl) rfl ?_
        refine ev_goto (t := 11) (pc := 69) dX1_find_69 (by decide) ?_
        obtain rfl := Option.some.inj h
        exact ih7 (s3 + 1) rfl
    · rw [if_neg b15] at h
      refine ev_icmp_ne_t (t := 66) (pc := 30) dX1_find_30 (by decide) b15 ?_
      refine ev_iinc (x := s3) (v := (s3 + 1)) (L' := [some (.inr 3), some (.inl x0), some (.inl x1), some (.inl x2), some (.inl v1), some (.inl (s3 + 1))]) (pc := 66) dX1_find_66 rfl (kx_1 _) (Nat.le_of_ble_eq_true rfl) rfl ?_
      refine ev_goto (t := 11) (pc := 69) dX1_find_69 (by decide) ?_
      obtain rfl := Option.some.inj h
      exact ih7 (s3 + 1) rfl
set_option maxHeartbeats 4000000 in
set_option maxRecDepth 20000 in
theorem ct1_X1_find (μ : rb_Mem) (c : rb_Row) (x0 : Int32) (x1 : Int32) (x2 : Int32) (o : Int32) (hc : μ 11 = c) (h : XX1_find c x0 x1 x2 = some o) : rb_Ct yX1_find cX1_find 6 (some .int) 0 [.inr 9, .inl x0, .inl x1, .inl x2] μ (some o) μ := by
  unfold XX1_find at h
  have hini : rb_ov μ [(11, c)] = μ := rb_ov_sf _ _ (And.intro hc True.intro)
  have hfin := hini
  refine rb_cti (w := [(11, c)]) rfl pn_1 (Nat.le_of_ble_eq_true rfl) rfl hini ?_
  obtain ⟨v1, e2, h⟩ := rb_bd h
  refine ev_aload_n (v := 9) (pc := 0) dX1_find_0 rfl ?_
  refine ev_getr (q := 11) (pc := 1) dX1_find_1 fl_RX1_9 rfl rfl ?_
  refine ev_iconst (v := 2) (pc := 4) dX1_find_4 ki_2 ?_
  refine ev_iald (pc := 5) dX1_find_5 rfl e2 ?_
  refine ev_istore (L' := [some (.inr 9), some (.inl x0), some (.inl x1), some (.inl x2), some (.inl v1), none]) (pc := 6) dX1_find_6 (Nat.le_of_ble_eq_true rfl) rfl ?_
  refine ev_iconst (v := 0) (pc := 8) dX1_find_8 ki_0 ?_
  refine ev_istore (L' := [some (.inr 9), some (.inl x0), some (.inl x1), some (.inl x2), some (.inl v1), some (.inl 0)]) (pc := 9) dX1_find_9 (Nat.le_of_ble_eq_true rfl) rfl ?_
  obtain ⟨q4, l5, h⟩ := rb_bd h
  have hx9 : ∀ z11 : Unit, q4 = .inl z11 → rb_Ev RX1 cX1_find 6 (some .int) none 0 (some o) μ 72 [none, none, none, none, none, none] [] (rb_ov μ [(11, c)]) := by
    intro z11 hz
    rw [hz] at h
    replace h := rb_sel h
    refine ev_iconst (v := (-1)) (pc := 72) dX1_find_72 ki_m1 ?_
    obtain rfl := Option.some.inj h
    exact ev_iret (pc := 73) dX1_find_73 rfl rfl rfl hfin
  have hr10 : ∀ w22 : Int32, q4 = .inr w22 → w22 = o := by
    intro w22 hz
    rw [hz] at h
    replace h := rb_ser h
    exact Option.some.inj h
  refine rb_lp_ev (P := fun (s3 : Int32) => rb_Ev RX1 cX1_find 6 (some .int) none 0 (some o) μ 11 [some (.inr 9), some (.inl x0), some (.inl x1), some (.inl x2), some (.inl v1), some (.inl s3)] [] (rb_ov μ [(11, c)])) ?_ 100000 0 l5
  intro s3 y6 h ih7 hE8
  refine ev_iload (v := s3) (pc := 11) dX1_find_11 rfl ?_
  refine ev_iload (v := v1) (pc := 13) dX1_find_13 rfl ?_
  by_cases b12 : v1 ≤ s3
  · rw [if_pos b12] at h
    refine ev_icmp_ge_t (t := 72) (pc := 15) dX1_find_15 (by decide) b12 ?_
    obtain rfl := Option.some.inj h
    exact ev_fg (L := [none, none, none, none, none, none]) True.intro (hx9 () (hE8 _ rfl).symm)
  · rw [if_neg b12] at h
    refine ev_icmp_ge_f (t := 72) (pc := 15) dX1_find_15 (by decide) b12 ?_
    obtain ⟨v13, e14, h⟩ := rb_bd h
    refine ev_aload_n (v := 9) (pc := 18) dX1_find_18 rfl ?_
    refine ev_getr (q := 11) (pc := 19) dX1_find_19 fl_RX1_9 rfl rfl ?_
    refine ev_sipush (v := 299) (pc := 22) dX1_find_22 ks_299 ?_
    refine ev_iload (v := s3) (pc := 25) dX1_find_25 rfl ?_
    refine ev_iadd (pc := 27) dX1_find_27 ?_
    refine ev_iald (pc := 28) dX1_find_28 rfl e14 ?_
    refine ev_iload_n (v := x0) (pc := 29) dX1_find_29 rfl ?_
    by_cases b15 : v13 = x0
    · rw [if_pos b15] at h
      refine ev_icmp_ne_f (t := 66) (pc := 30) dX1_find_30 (by decide) b15 ?_
      obtain ⟨v16, e17, h⟩ := rb_bd h
      refine ev_aload_n (v := 9) (pc := 33) dX1_find_33 rfl ?_
      refine ev_getr (q := 11) (pc := 34) dX1_find_34 fl_RX1_9 rfl rfl ?_
      refine ev_sipush (v := 347) (pc := 37) dX1_find_37 ks_347 ?_
      refine ev_iload (v := s3) (pc := 40) dX1_find_40 rfl ?_
      refine ev_iadd (pc := 42) dX1_find_42 ?_
      refine ev_iald (pc := 43) dX1_find_43 rfl e17 ?_
      refine ev_iload_n (v := x1) (pc := 44) dX1_find_44 rfl ?_
      by_cases b18 : v16 = x1
      · rw [if_pos b18] at h
        refine ev_icmp_ne_f (t := 66) (pc := 45) dX1_find_45 (by decide) b18 ?_
        obtain ⟨v19, e20, h⟩ := rb_bd h
        refine ev_aload_n (v := 9) (pc := 48) dX1_find_48 rfl ?_
        refine ev_getr (q := 11) (pc := 49) dX1_find_49 fl_RX1_9 rfl rfl ?_
        refine ev_sipush (v := 323) (pc := 52) dX1_find_52 ks_323 ?_
        refine ev_iload (v := s3) (pc := 55) dX1_find_55 rfl ?_
        refine ev_iadd (pc := 57) dX1_find_57 ?_
        refine ev_iald (pc := 58) dX1_find_58 rfl e20 ?_
        refine ev_iload_n (v := x2) (pc := 59) dX1_find_59 rfl ?_
        by_cases b21 : v19 = x2
        · rw [if_pos b21] at h
          refine ev_icmp_ne_f (t := 66) (pc := 60) dX1_find_60 (by decide) b21 ?_
          refine ev_iload (v := s3) (pc := 63) dX1_find_63 rfl ?_
          obtain rfl := Option.some.inj h
          obtain rfl := hr10 _ (hE8 _ rfl).symm
          exact ev_iret (pc := 65) dX1_find_65 rfl rfl rfl hfin
        · rw [if_neg b21] at h
          refine ev_icmp_ne_t (t := 66) (pc := 60) dX1_find_60 (by decide) b21 ?_
          refine ev_iinc (x := s3) (v := (s3 + 1)) (L' := [some (.inr 9), some (.inl x0), some (.inl x1), some (.inl x2), some (.inl v1), some (.inl (s3 + 1))]) (pc := 66) dX1_find_66 rfl (kx_1 _) (Nat.le_of_ble_eq_true rfl) rfl ?_
          refine ev_goto (t := 11) (pc := 69) dX1_find_69 (by decide) ?_
          obtain rfl := Option.some.inj h
          exact ih7 (s3 + 1) rfl
      · rw [if_neg b18] at h
        refine ev_icmp_ne_t (t := 66) (pc := 45) dX1_find_45 (by decide) b18 ?_
        refine ev_iinc (x := s3) (v := (s3 + 1)) (L' := [some (.inr 9), some (.inl x0), some (.inl x1), some (.inl x2), some (.inl v1), some (.inl (s3 + 1))]) (pc := 66) dX1_find_66 rfl (kx_1 _) (Nat.le_of_ble_eq_true rfl) rfl ?_
        refine ev_goto (t := 11) (pc := 69) dX1_find_69 (by decide) ?_
        obtain rfl := Option.some.inj h
        exact ih7 (s3 + 1) rfl
    · rw [if_neg b15] at h
      refine ev_icmp_ne_t (t := 66) (pc := 30) dX1_find_30 (by decide) b15 ?_
      refine ev_iinc (x := s3) (v := (s3 + 1)) (L' := [some (.inr 9), some (.inl x0), some (.inl x1), some (.inl x2), some (.inl v1), some (.inl (s3 + 1))]) (pc := 66) dX1_find_66 rfl (kx_1 _) (Nat.le_of_ble_eq_true rfl) rfl ?_
      refine ev_goto (t := 11) (pc := 69) dX1_find_69 (by decide) ?_
      obtain rfl := Option.some.inj h
      exact ih7 (s3 + 1) rfl
def XX1_deepAbove : Nat → rb_Row → Int32 → Int32 → Option (Int32)
  | 0, _, _, _ => none
  | n + 1, c, x0, x1 => (rb_rd c 773 2).bind fun v1 => (rb_lp (ρ := Int32) (fun (s3 : Int32 × Int32) => if v1 ≤ s3.2 then some (.inr s3.1) else if 3 ≤ x1 then some (.inr s3.1) else (rb_rd c 773 (323 + s3.2)).bind fun v13 => ((if v13 = x0 then (rb_rd c 773 (299 + s3.2)).bind fun v19 => (XX1_deepAbove n c v19 (x1 + 1)).bind fun t21 => some (rb_max s3.1 (1 + t21)) else some s3.1) : Option (Int32)).bind fun j15 => some (.inl (j15, (s3.2 + 1)))) 100000 (1, 0)).bind fun q4 => some q4
set_option maxHeartbeats 4000000 in
set_option maxRecDepth 20000 in
theorem ct0_X1_deepAbove : ∀ (n : Nat) (μ : rb_Mem) (c : rb_Row) (x0 : Int32) (x1 : Int32) (o : Int32) (hc : μ 5 = c) (h : XX1_deepAbove n c x0 x1 = some o), rb_Ct yX1_deepAbove cX1_deepAbove 6 (some .int) (1 + n) [.inr 3, .inl x0, .inl x1] μ (some o) μ := by
  intro n
  induction n with
  | zero => intro μ c x0 x1 o hc h; cases h
  | succ n ihn =>
    intro μ c x0 x1 o hc h
    rw [XX1_deepAbove] at h
    have hini : rb_ov μ [(5, c)] = μ := rb_ov_sf _ _ (And.intro hc True.intro)
    have hfin := hini
    refine rb_cti (w := [(5, c)]) rfl pn_1 (Nat.le_of_ble_eq_true rfl) rfl hini ?_
    obtain ⟨v1, e2, h⟩ := rb_bd h
    refine ev_aload_n (v := 3) (pc := 0) dX1_deepAbove_0 rfl ?_
    refine ev_getr (q := 5) (pc := 1) dX1_deepAbove_1 fl_RX1_9 rfl rfl ?_
    refine ev_iconst (v := 2) (pc := 4) dX1_deepAbove_4 ki_2 ?_
    refine ev_iald (pc := 5) dX1_deepAbove_5 rfl e2 ?_
    refine ev_istore_n (L' := [some (.inr 3), some (.inl x0), some (.inl x1), some (.inl v1), none, none]) (pc := 6) dX1_deepAbove_6 (Nat.le_of_ble_eq_true rfl) rfl ?_
    refine ev_iconst (v := 1) (pc := 7) dX1_deepAbove_7 ki_1 ?_
    refine ev_istore (L' := [some (.inr 3), some (.inl x0), some (.inl x1), some (.inl v1), some (.inl 1), none]) (pc := 8) dX1_deepAbove_8 (Nat.le_of_ble_eq_true rfl) rfl ?_
    refine ev_iconst (v := 0) (pc := 10) dX1_deepAbove_10 ki_0 ?_
    refine ev_istore (L' := [some (.inr 3), some (.inl x0), some (.inl x1), some (.inl v1), some (.inl 1), some (.inl 0)]) (pc := 11) dX1_deepAbove_11 (Nat.le_of_ble_eq_true rfl) rfl ?_
    obtain ⟨q4, l5, h⟩ := rb_bd h
    have hx9 : rb_Ev RX1 cX1_deepAbove 6 (some .int) none (1 + (n + 1)) (some o) μ 72 [none, none, none, none, some (.inl q4), none] [] (rb_ov μ [(5, c)]) := by
      refine ev_iload (v := q4) (pc := 72) dX1_deepAbove_72 rfl ?_
      obtain rfl := Option.some.inj h
      exact ev_iret (pc := 74) dX1_deepAbove_74 rfl rfl rfl hfin
    refine rb_lp_ev (P := fun (s3 : Int32 × Int32) => rb_Ev RX1 cX1_deepAbove 6 (some .int) none (1 + (n + 1)) (some o) μ 13 [some (.inr 3), some (.inl x0), some (.inl x1), some (.inl v1), some (.inl s3.1), some (.inl s3.2)] [] (rb_ov μ [(5, c)])) ?_ 100000 (1, 0) l5
    intro s3 y6 h ih7 hE8
    refine ev_iload (v := s3.2) (pc := 13) dX1_deepAbove_13 rfl ?_
    refine ev_iload_n (v := v1) (pc := 15) dX1_deepAbove_15 rfl ?_
    by_cases b11 : v1 ≤ s3.2
    · rw [if_pos b11] at h
      refine ev_icmp_ge_t (t := 72) (pc := 16) dX1_deepAbove_16 (by decide) b11 ?_
      obtain rfl := Option.some.inj h
      obtain rfl := hE8 _ rfl
      exact ev_fg (L := [none, none, none, none, some (.inl s3.1), none]) (And.intro rfl True.intro) (hx9)
    · rw [if_neg b11] at h
      refine ev_icmp_ge_f (t := 72) (pc := 16) dX1_deepAbove_16 (by decide) b11 ?_
      refine ev_iload_n (v := x1) (pc := 19) dX1_deepAbove_19 rfl ?_
      refine ev_iconst (v := 3) (pc := 20) dX1_deepAbove_20 ki_3 ?_
      by_cases b12 : 3 ≤ x1
      · rw [if_pos b12] at h
        refine ev_icmp_ge_t (t := 72) (pc := 21) dX1_deepAbove_21 (by decide) b12 ?_
        obtain rfl := Option.some.inj h
        obtain rfl := hE8 _ rfl
        exact ev_fg (L := [none, none, none, none, some (.inl s3.1), none]) (And.intro rfl True.intro) (hx9)
      · rw [if_neg b12] at h
        refine ev_icmp_ge_f (t := 72) (pc := 21) dX1_deepAbove_21 (by decide) b12 ?_
        obtain ⟨v13, e14, h⟩ := rb_bd h
        refine ev_aload_n (v := 3) (pc := 24) dX1_deepAbove_24 rfl ?_
        refine ev_getr (q := 5) (pc := 25) dX1_deepAbove_25 fl_RX1_9 rfl rfl ?_
        refine ev_sipush (v := 323) (pc := 28) dX1_deepAbove_28 ks_323 ?_
        refine ev_iload (v := s3.2) (pc := 31) dX1_deepAbove_31 rfl ?_
        refine ev_iadd (pc := 33) dX1_deepAbove_33 ?_
        refine ev_iald (pc := 34) dX1_deepAbove_34 rfl e14 ?_
        refine ev_iload_n (v := x0) (pc := 35) dX1_deepAbove_35 rfl ?_
        obtain ⟨j15, e16, h⟩ := rb_bd h
        have hj17 : rb_Ev RX1 cX1_deepAbove 6 (some .int) none (1 + (n + 1)) (some o) μ 66 [some (.inr 3), some (.inl x0), some (.inl x1), some (.inl v1), some (.inl j15), some (.inl s3.2)] [] (rb_ov μ [(5, c)]) := by
          refine ev_iinc (x := s3.2) (v := (s3.2 + 1)) (L' := [some (.inr 3), some (.inl x0), some (.inl x1), some (.inl v1), some (.inl j15), some (.inl (s3.2 + 1))]) (pc := 66) dX1_deepAbove_66 rfl (kx_1 _) (Nat.le_of_ble_eq_true rfl) rfl ?_
          refine ev_goto (t := 13) (pc := 69) dX1_deepAbove_69 (by decide) ?_
          obtain rfl := Option.some.inj h
          exact ih7 (j15, (s3.2 + 1)) rfl
        replace h := e16
        by_cases b18 : v13 = x0
        · rw [if_pos b18] at h
          refine ev_icmp_ne_f (t := 66) (pc := 36) dX1_deepAbove_36 (by decide) b18 ?_
          obtain ⟨v19, e20, h⟩ := rb_bd h
          obtain ⟨t21, e22, h⟩ := rb_bd h
          refine ev_iload (v := s3.1) (pc := 39) dX1_deepAbove_39 rfl ?_
          refine ev_iconst (v := 1) (pc := 41) dX1_deepAbove_41 ki_1 ?_
          refine ev_aload_n (v := 3) (pc := 42) dX1_deepAbove_42 rfl ?_
          refine ev_aload_n (v := 3) (pc := 43) dX1_deepAbove_43 rfl ?_
          refine ev_getr (q := 5) (pc := 44) dX1_deepAbove_44 fl_RX1_9 rfl rfl ?_
          refine ev_sipush (v := 299) (pc := 47) dX1_deepAbove_47 ks_299 ?_
          refine ev_iload (v := s3.2) (pc := 50) dX1_deepAbove_50 rfl ?_
          refine ev_iadd (pc := 52) dX1_deepAbove_52 ?_
          refine ev_iald (pc := 53) dX1_deepAbove_53 rfl e20 ?_
          refine ev_iload_n (v := x1) (pc := 54) dX1_deepAbove_54 rfl ?_
          refine ev_iconst (v := 1) (pc := 55) dX1_deepAbove_55 ki_1 ?_
          refine ev_iadd (pc := 56) dX1_deepAbove_56 ?_
          refine ev_cVi2 (pc := 57) dX1_deepAbove_57 mv_X1_deepAbove lk_RX1_55 rp_3 (ihn _ _ _ _ _ rfl e22) (by omega) (Nat.le_of_ble_eq_true rfl) ?_
          refine ev_iadd (pc := 60) dX1_deepAbove_60 ?_
          refine ev_max (pc := 61) dX1_deepAbove_61 lk_RX1_50 (Nat.le_of_ble_eq_true rfl) (Nat.le_of_ble_eq_true rfl) ?_
          refine ev_istore (L' := [some (.inr 3), some (.inl x0), some (.inl x1), some (.inl v1), some (.inl (rb_max s3.1 (1 + t21))), some (.inl s3.2)]) (pc := 64) dX1_deepAbove_64 (Nat.le_of_ble_eq_true rfl) rfl ?_
          obtain rfl := Option.some.inj h
          exact hj17
        · rw [if_neg b18] at h
          refine ev_icmp_ne_t (t := 66) (pc := 36) dX1_deepAbove_36 (by decide) b18 ?_
          obtain rfl := Option.some.inj h
          exact hj17
set_option maxHeartbeats 4000000 in
set_option maxRecDepth 20000 in
theorem ct1_X1_deepAbove : ∀ (n : Nat) (μ : rb_Mem) (c : rb_Row) (x0 : Int32) (x1 : Int32) (o : Int32) (hc : μ 11 = c) (h : XX1_deepAbove n c x0 x1 = some o), rb_Ct yX1_deepAbove cX1_deepAbove 6 (some .int) (1 + n) [.inr 9, .inl x0, .inl x1] μ (some o) μ := by
  intro n
  induction n with
  | zero => intro μ c x0 x1 o hc h; cases h
  | succ n ihn =>
    intro μ c x0 x1 o hc h
    rw [XX1_deepAbove] at h
    have hini : rb_ov μ [(11, c)] = μ := rb_ov_sf _ _ (And.intro hc True.intro)
    have hfin := hini
    refine rb_cti (w := [(11, c)]) rfl pn_1 (Nat.le_of_ble_eq_true rfl) rfl hini ?_
    obtain ⟨v1, e2, h⟩ := rb_bd h
    refine ev_aload_n (v := 9) (pc := 0) dX1_deepAbove_0 rfl ?_
    refine ev_getr (q := 11) (pc := 1) dX1_deepAbove_1 fl_RX1_9 rfl rfl ?_
    refine ev_iconst (v := 2) (pc := 4) dX1_deepAbove_4 ki_2 ?_
    refine ev_iald (pc := 5) dX1_deepAbove_5 rfl e2 ?_
    refine ev_istore_n (L' := [some (.inr 9), some (.inl x0), some (.inl x1), some (.inl v1), none, none]) (pc := 6) dX1_deepAbove_6 (Nat.le_of_ble_eq_true rfl) rfl ?_
    refine ev_iconst (v := 1) (pc := 7) dX1_deepAbove_7 ki_1 ?_
    refine ev_istore (L' := [some (.inr 9), some (.inl x0), some (.inl x1), some (.inl v1), some (.inl 1), none]) (pc := 8) dX1_deepAbove_8 (Nat.le_of_ble_eq_true rfl) rfl ?_
    refine ev_iconst (v := 0) (pc := 10) dX1_deepAbove_10 ki_0 ?_
    refine ev_istore (L' := [some (.inr 9), some (.inl x0), some (.inl x1), some (.inl v1), some (.inl 1), some (.inl 0)]) (pc := 11) dX1_deepAbove_11 (Nat.le_of_ble_eq_true rfl) rfl ?_
    obtain ⟨q4, l5, h⟩ := rb_bd h
    have hx9 : rb_Ev RX1 cX1_deepAbove 6 (some .int) none (1 + (n + 1)) (some o) μ 72 [none, none, none, none, some (.inl q4), none] [] (rb_ov μ [(11, c)]) := by
      refine ev_iload (v := q4) (pc := 72) dX1_deepAbove_72 rfl ?_
      obtain rfl := Option.some.inj h
      exact ev_iret (pc := 74) dX1_deepAbove_74 rfl rfl rfl hfin
    refine rb_lp_ev (P := fun (s3 : Int32 × Int32) => rb_Ev RX1 cX1_deepAbove 6 (some .int) none (1 + (n + 1)) (some o) μ 13 [some (.inr 9), some (.inl x0), some (.inl x1), some (.inl v1), some (.inl s3.1), some (.inl s3.2)] [] (rb_ov μ [(11, c)])) ?_ 100000 (1, 0) l5
    intro s3 y6 h ih7 hE8
    refine ev_iload (v := s3.2) (pc := 13) dX1_deepAbove_13 rfl ?_
    refine ev_iload_n (v := v1) (pc := 15) dX1_deepAbove_15 rfl ?_
    by_cases b11 : v1 ≤ s3.2
    · rw [if_pos b11] at h
      refine ev_icmp_ge_t (t := 72) (pc := 16) dX1_deepAbove_16 (by decide) b11 ?_
      obtain rfl := Option.some.inj h
      obtain rfl := hE8 _ rfl
      exact ev_fg (L := [none, none, none, none, some (.inl s3.1), none]) (And.intro rfl True.intro) (hx9)
    · rw [if_neg b11] at h
      refine ev_icmp_ge_f (t := 72) (pc := 16) dX1_deepAbove_16 (by decide) b11 ?_
      refine ev_iload_n (v := x1) (pc := 19) dX1_deepAbove_19 rfl ?_
      refine ev_iconst (v := 3) (pc := 20) dX1_deepAbove_20 ki_3 ?_
      by_cases b12 : 3 ≤ x1
      · rw [if_pos b12] at h
        refine ev_icmp_ge_t (t := 72) (pc := 21) dX1_deepAbove_21 (by decide) b12 ?_
        obtain rfl := Option.some.inj h
        obtain rfl := hE8 _ rfl
        exact ev_fg (L := [none, none, none, none, some (.inl s3.1), none]) (And.intro rfl True.intro) (hx9)
      · rw [if_neg b12] at h
        refine ev_icmp_ge_f (t := 72) (pc := 21) dX1_deepAbove_21 (by decide) b12 ?_
        obtain ⟨v13, e14, h⟩ := rb_bd h
        refine ev_aload_n (v := 9) (pc := 24) dX1_deepAbove_24 rfl ?_
        refine ev_getr (q := 11) (pc := 25) dX1_deepAbove_25 fl_RX1_9 rfl rfl ?_
        refine ev_sipush (v := 323) (pc := 28) dX1_deepAbove_28 ks_323 ?_
        refine ev_iload (v := s3.2) (pc := 31) dX1_deepAbove_31 rfl ?_
        refine ev_iadd (pc := 33) dX1_deepAbove_33 ?_
        refine ev_iald (pc := 34) dX1_deepAbove_34 rfl e14 ?_
        refine ev_iload_n (v := x0) (pc := 35) dX1_deepAbove_35 rfl ?_
        obtain ⟨j15, e16, h⟩ := rb_bd h
        have hj17 : rb_Ev RX1 cX1_deepAbove 6 (some .int) none (1 + (n + 1)) (some o) μ 66 [some (.inr 9), some (.inl x0), some (.inl x1), some (.inl v1), some (.inl j15), some (.inl s3.2)] [] (rb_ov μ [(11, c)]) := by
          refine ev_iinc (x := s3.2) (v := (s3.2 + 1)) (L' := [some (.inr 9), some (.inl x0), some (.inl x1), some (.inl v1), some (.inl j15), some (.inl (s3.2 + 1))]) (pc := 66) dX1_deepAbove_66 rfl (kx_1 _) (Nat.le_of_ble_eq_true rfl) rfl ?_
          refine ev_goto (t := 13) (pc := 69) dX1_deepAbove_69 (by decide) ?_
          obtain rfl := Option.some.inj h
          exact ih7 (j15, (s3.2 + 1)) rfl
        replace h := e16
        by_cases b18 : v13 = x0
        · rw [if_pos b18] at h
          refine ev_icmp_ne_f (t := 66) (pc := 36) dX1_deepAbove_36 (by decide) b18 ?_
          obtain ⟨v19, e20, h⟩ := rb_bd h
          obtain ⟨t21, e22, h⟩ := rb_bd h
          refine ev_iload (v := s3.1) (pc := 39) dX1_deepAbove_39 rfl ?_
          refine ev_iconst (v := 1) (pc := 41) dX1_deepAbove_41 ki_1 ?_
          refine ev_aload_n (v := 9) (pc := 42) dX1_deepAbove_42 rfl ?_
          refine ev_aload_n (v := 9) (pc := 43) dX1_deepAbove_43 rfl ?_
          refine ev_getr (q := 11) (pc := 44) dX1_deepAbove_44 fl_RX1_9 rfl rfl ?_
          refine ev_sipush (v := 299) (pc := 47) dX1_deepAbove_47 ks_299 ?_
          refine ev_iload (v := s3.2) (pc := 50) dX1_deepAbove_50 rfl ?_
          refine ev_iadd (pc := 52) dX1_deepAbove_52 ?_
          refine ev_iald (pc := 53) dX1_deepAbove_53 rfl e20 ?_
          refine ev_iload_n (v := x1) (pc := 54) dX1_deepAbove_54 rfl ?_
          refine ev_iconst (v := 1) (pc := 55) dX1_deepAbove_55 ki_1 ?_
          refine ev_iadd (pc := 56) dX1_deepAbove_56 ?_
          refine ev_cVi2 (pc := 57) dX1_deepAbove_57 mv_X1_deepAbove lk_RX1_55 rp_9 (ihn _ _ _ _ _ rfl e22) (by omega) (Nat.le_of_ble_eq_true rfl) ?_
          refine ev_iadd (pc := 60) dX1_deepAbove_60 ?_
          refine ev_max (pc := 61) dX1_deepAbove_61 lk_RX1_50 (Nat.le_of_ble_eq_true rfl) (Nat.le_of_ble_eq_true rfl) ?_
          refine ev_istore (L' := [some (.inr 9), some (.inl x0), some (.inl x1), some (.inl v1), some (.inl (rb_max s3.1 (1 + t21))), some (.inl s3.2)]) (pc := 64) dX1_deepAbove_64 (Nat.le_of_ble_eq_true rfl) rfl ?_
          obtain rfl := Option.some.inj h
          exact hj17
        · rw [if_neg b18] at h
          refine ev_icmp_ne_t (t := 66) (pc := 36) dX1_deepAbove_36 (by decide) b18 ?_
          obtain rfl := Option.some.inj h
          exact hj17
def XX1_deepBelow : Nat → rb_Row → Int32 → Int32 → Option (Int32)
  | 0, _, _, _ => none
  | n + 1, c, x0, x1 => (rb_rd c 773 2).bind fun v1 => (rb_lp (ρ := Int32) (fun (s3 : Int32 × Int32) => if v1 ≤ s3.2 then some (.inr s3.1) else if 3 ≤ x1 then some (.inr s3.1) else (rb_rd c 773 (299 + s3.2)).bind fun v13 => ((if v13 = x0 then (rb_rd c 773 (323 + s3.2)).bind fun v19 => (rb_rd c 773 (19 + v19)).bind fun v21 => if v21 = 4 then (rb_rd c 773 (323 + s3.2)).bind fun v24 => (XX1_deepBelow n c v24 (x1 + 1)).bind fun t26 => some (rb_max s3.1 (1 + t26)) else some s3.1 else some s3.1) : Option (Int32)).bind fun j15 => some (.inl (j15, (s3.2 + 1)))) 100000 (1, 0)).bind fun q4 => some q4
set_option maxHeartbeats 4000000 in
set_option maxRecDepth 20000 in
theorem ct0_X1_deepBelow : ∀ (n : Nat) (μ : rb_Mem) (c : rb_Row) (x0 : Int32) (x1 : Int32) (o : Int32) (hc : μ 5 = c) (h : XX1_deepBelow n c x0 x1 = some o), rb_Ct yX1_deepBelow cX1_deepBelow 6 (some .int) (1 + n) [.inr 3, .inl x0, .inl x1] μ (some o) μ := by
  intro n
  induction n with
  | zero => intro μ c x0 x1 o hc h; cases h
  | succ n ihn =>
    intro μ c x0 x1 o hc h
    rw [XX1_deepBelow] at h
    have hini : rb_ov μ [(5, c)] = μ := rb_ov_sf _ _ (And.intro hc True.intro)
    have hfin := hini
    refine rb_cti (w := [(5, c)]) rfl pn_1 (Nat.le_of_ble_eq_true rfl) rfl hini ?_
    obtain ⟨v1, e2, h⟩ := rb_bd h
    refine ev_aload_n (v := 3) (pc := 0) dX1_deepBelow_0 rfl ?_
    refine ev_getr (q := 5) (pc := 1) dX1_deepBelow_1 fl_RX1_9 rfl rfl ?_
    refine ev_iconst (v := 2) (pc := 4) dX1_deepBelow_4 ki_2 ?_
    refine ev_iald (pc := 5) dX1_deepBelow_5 rfl e2 ?_
    refine ev_istore_n (L' := [some (.inr 3), some (.inl x0), some (.inl x1), some (.inl v1), none, none]) (pc := 6) dX1_deepBelow_6 (Nat.le_of_ble_eq_true rfl) rfl ?_
    refine ev_iconst (v := 1) (pc := 7) dX1_deepBelow_7 ki_1 ?_
    refine ev_istore (L' := [some (.inr 3), some (.inl x0), some (.inl x1), some (.inl v1), some (.inl 1), none]) (pc := 8) dX1_deepBelow_8 (Nat.le_of_ble_eq_true rfl) rfl ?_
    refine ev_iconst (v := 0) (pc := 10) dX1_deepBelow_10 ki_0 ?_
    refine ev_istore (L' := [some (.inr 3), some (.inl x0), some (.inl x1), some (.inl v1), some (.inl 1), some (.inl 0)]) (pc := 11) dX1_deepBelow_11 (Nat.le_of_ble_eq_true rfl) rfl ?_
    obtain ⟨q4, l5, h⟩ := rb_bd h
    have hx9 : rb_Ev RX1 cX1_deepBelow 6 (some .int) none (1 + (n + 1)) (some o) μ 95 [none, none, none, none, some (.inl q4), none] [] (rb_ov μ [(5, c)]) := by
      refine ev_iload (v := q4) (pc := 95) dX1_deepBelow_95 rfl ?_
      obtain rfl := Option.some.inj h
      exact ev_iret (pc := 97) dX1_deepBelow_97 rfl rfl rfl hfin
    refine rb_lp_ev (P := fun (s3 : Int32 × Int32) => rb_Ev RX1 cX1_deepBelow 6 (some .int) none (1 + (n + 1)) (some o) μ 13 [some (.inr 3), some (.inl x0), some (.inl x1), some (.inl v1), some (.inl s3.1), some (.inl s3.2)] [] (rb_ov μ [(5, c)])) ?_ 100000 (1, 0) l5
    intro s3 y6 h ih7 hE8
    refine ev_iload (v := s3.2) (pc := 13) dX1_deepBelow_13 rfl ?_
    refine ev_iload_n (v := v1) (pc := 15) dX1_deepBelow_15 rfl ?_
    by_cases b11 : v1 ≤ s3.2
    · rw [if_pos b11] at h
      refine ev_icmp_ge_t (t := 95) (pc := 16) dX1_deepBelow_16 (by decide) b11 ?_
      obtain rfl := Option.some.inj h
      obtain rfl := hE8 _ rfl
      exact ev_fg (L := [none, none, none, none, some (.inl s3.1), none]) (And.intro rfl True.intro) (hx9)
    · rw [if_neg b11] at h
      refine ev_icmp_ge_f (t := 95) (pc := 16) dX1_deepBelow_16 (by decide) b11 ?_
      refine ev_iload_n (v := x1) (pc := 19) dX1_deepBelow_19 rfl ?_
      refine ev_iconst (v := 3) (pc := 20) dX1_deepBelow_20 ki_3 ?_
      by_cases b12 : 3 ≤ x1
      · rw [if_pos b12] at h
        refine ev_icmp_ge_t (t := 95) (pc := 21) dX1_deepBelow_21 (by decide) b12 ?_
        obtain rfl := Option.some.inj h
        obtain rfl := hE8 _ rfl
        exact ev_fg (L := [none, none, none, none, some (.inl s3.1), none]) (And.intro rfl True.intro) (hx9)
      · rw [if_neg b12] at h
        refine ev_icmp_ge_f (t := 95) (pc := 21) dX1_deepBelow_21 (by decide) b12 ?_
        obtain ⟨v13, e14, h⟩ := rb_bd h
        refine ev_aload_n (v := 3) (pc := 24) dX1_deepBelow_24 rfl ?_
        refine ev_getr (q := 5) (pc := 25) dX1_deepBelow_25 fl_RX1_9 rfl rfl ?_
        refine ev_sipush (v := 299) (pc := 28) dX1_deepBelow_28 ks_299 ?_
        refine ev_iload (v := s3.2) (pc := 31) dX1_deepBelow_31 rfl ?_
        refine ev_iadd (pc := 33) dX1_deepBelow_33 ?_
        refine ev_iald (pc := 34) dX1_deepBelow_34 rfl e14 ?_
        refine ev_iload_n (v := x0) (pc := 35) dX1_deepBelow_35 rfl ?_
        obtain ⟨j15, e16, h⟩ := rb_bd h
        have hj17 : rb_Ev RX1 cX1_deepBelow 6 (some .int) none (1 + (n + 1)) (some o) μ 89 [some (.inr 3), some (.inl x0), some (.inl x1), some (.inl v1), some (.inl j15), some (.inl s3.2)] [] (rb_ov μ [(5, c)]) := by
          refine ev_iinc (x := s3.2) (v := (s3.2 + 1)) (L' := [some (.inr 3), some (.inl x0), some (.inl x1), some (.inl v1), some (.inl j15), some (.inl (s3.2 + 1))]) (pc := 89) dX1_deepBelow_89 rfl (kx_1 _) (Nat.le_of_ble_eq_true rfl) rfl ?_
          refine ev_goto (t := 13) (pc := 92) dX1_deepBelow_92 (by decide) ?_
          obtain rfl := Option.some.inj h
          exact ih7 (j15, (s3.2 + 1)) rfl
        replace h := e16
        by_cases b18 : v13 = x0
        · rw [if_pos b18] at h
          refine ev_icmp_ne_f (t := 89) (pc := 36) dX1_deepBelow_36 (by decide) b18 ?_
          obtain ⟨v19, e20, h⟩ := rb_bd h
          obtain ⟨v21, e22, h⟩ := rb_bd h
          refine ev_aload_n (v := 3) (pc := 39) dX1_deepBelow_39 rfl ?_
          refine ev_getr (q := 5) (pc := 40) dX1_deepBelow_40 fl_RX1_9 rfl rfl ?_
          refine ev_bipush (v := 19) (pc := 43) dX1_deepBelow_43 kb_19 ?_
          refine ev_aload_n (v := 3) (pc := 45) dX1_deepBelow_45 rfl ?_
          refine ev_getr (q := 5) (pc := 46) dX1_deepBelow_46 fl_RX1_9 rfl rfl ?_
          refine ev_sipush (v := 323) (pc := 49) dX1_deepBelow_49 ks_323 ?_
          refine ev_iload (v := s3.2) (pc := 52) dX1_deepBelow_52 rfl ?_
          refine ev_iadd (pc := 54) dX1_deepBelow_54 ?_
          refine ev_iald (pc := 55) dX1_deepBelow_55 rfl e20 ?_
          refine ev_iadd (pc := 56) dX1_deepBelow_56 ?_
          refine ev_iald (pc := 57) dX1_deepBelow_57 rfl e22 ?_
          refine ev_iconst (v := 4) (pc := 58) dX1_deepBelow_58 ki_4 ?_
          by_cases b23 : v21 = 4
          · rw [if_pos b23] at h
            refine ev_icmp_ne_f (t := 89) (pc := 59) dX1_deepBelow_59 (by decide) b23 ?_
            obtain ⟨v24, e25, h⟩ := rb_bd h
            obtain ⟨t26, e27, h⟩ := rb_bd h
            refine ev_iload (v := s3.1) (pc := 62) dX1_deepBelow_62 rfl ?_
            refine ev_iconst (v := 1) (pc := 64) dX1_deepBelow_64 ki_1 ?_
            refine ev_aload_n (v := 3) (pc := 65) dX1_deepBelow_65 rfl ?_
            refine ev_aload_n (v := 3) (pc := 66) dX1_deepBelow_66 rfl ?_
            refine ev_getr (q := 5) (pc := 67) dX1_deepBelow_67 fl_RX1_9 rfl rfl ?_
            refine ev_sipush (v := 323) (pc := 70) dX1_deepBelow_70 ks_323 ?_
            refine ev_iload (v := s3.2) (pc := 73) dX1_deepBelow_73 rfl ?_
            refine ev_iadd (pc := 75) dX1_deepBelow_75 ?_
            refine ev_iald (pc := 76) dX1_deepBelow_76 rfl e25 ?_
            refine ev_iload_n (v := x1) (pc := 77) dX1_deepBelow_77 rfl ?_
            refine ev_iconst (v := 1) (pc := 78) dX1_deepBelow_78 ki_1 ?_
            refine ev_iadd (pc := 79) dX1_deepBelow_79 ?_
            refine ev_cVi2 (pc := 80) dX1_deepBelow_80 mv_X1_deepBelow lk_RX1_47 rp_3 (ihn _ _ _ _ _ rfl e27) (by omega) (Nat.le_of_ble_eq_true rfl) ?_
            refine ev_iadd (pc := 83) dX1_deepBelow_83 ?_
            refine ev_max (pc := 84) dX1_deepBelow_84 lk_RX1_50 (Nat.le_of_ble_eq_true rfl) (Nat.le_of_ble_eq_true rfl) ?_
            refine ev_istore (L' := [some (.inr 3), some (.inl x0), some (.inl x1), some (.inl v1), some (.inl (rb_max s3.1 (1 + t26))), some (.inl s3.2)]) (pc := 87) dX1_deepBelow_87 (Nat.le_of_ble_eq_true rfl) rfl ?_
            obtain rfl := Option.some.inj h
            exact hj17
          · rw [if_neg b23] at h
            refine ev_icmp_ne_t (t := 89) (pc := 59) dX1_deepBelow_59 (by decide) b23 ?_
            obtain rfl := Option.some.inj h
            exact hj17
        · rw [if_neg b18] at h
          refine ev_icmp_ne_t (t := 89) (pc := 36) dX1_deepBelow_36 (by decide) b18 ?_
          obtain rfl := Option.some.inj h
          exact hj17
set_option maxHeartbeats 4000000 in
set_option maxRecDepth 20000 in
theorem ct1_X1_deepBelow : ∀ (n : Nat) (μ : rb_Mem) (c : rb_Row) (x0 : Int32) (x1 : Int32) (o : Int32) (hc : μ 11 = c) (h : XX1_deepBelow n c x0 x1 = some o), rb_Ct yX1_deepBelow cX1_deepBelow 6 (some .int) (1 + n) [.inr 9, .inl x0, .inl x1] μ (some o) μ := by
  intro n
  induction n with
  | zero => intro μ c x0 x1 o hc h; cases h
  | succ n ihn =>
    intro μ c x0 x1 o hc h
    rw [XX1_deepBelow] at h
    have hini : rb_ov μ [(11, c)] = μ := rb_ov_sf _ _ (And.intro hc True.intro)
    have hfin := hini
    refine rb_cti (w := [(11, c)]) rfl pn_1 (Nat.le_of_ble_eq_true rfl) rfl hini ?_
    obtain ⟨v1, e2, h⟩ := rb_bd h
    refine ev_aload_n (v := 9) (pc := 0) dX1_deepBelow_0 rfl ?_
    refine ev_getr (q := 11) (pc := 1) dX1_deepBelow_1 fl_RX1_9 rfl rfl ?_
    refine ev_iconst (v := 2) (pc := 4) dX1_deepBelow_4 ki_2 ?_
    refine ev_iald (pc := 5) dX1_deepBelow_5 rfl e2 ?_
    refine ev_istore_n (L' := [some (.inr 9), some (.inl x0), some (.inl x1), some (.inl v1), none, none]) (pc := 6) dX1_deepBelow_6 (Nat.le_of_ble_eq_true rfl) rfl ?_
    refine ev_iconst (v := 1) (pc := 7) dX1_deepBelow_7 ki_1 ?_
    refine ev_istore (L' := [some (.inr 9), some (.inl x0), some (.inl x1), some (.inl v1), some (.inl 1), none]) (pc := 8) dX1_deepBelow_8 (Nat.le_of_ble_eq_true rfl) rfl ?_
    refine ev_iconst (v := 0) (pc := 10) dX1_deepBelow_10 ki_0 ?_
    refine ev_istore (L' := [some (.inr 9), some (.inl x0), some (.inl x1), some (.inl v1), some (.inl 1), some (.inl 0)]) (pc := 11) dX1_deepBelow_11 (Nat.le_of_ble_eq_true rfl) rfl ?_
    obtain ⟨q4, l5, h⟩ := rb_bd h
    have hx9 : rb_Ev RX1 cX1_deepBelow 6 (some .int) none (1 + (n + 1)) (some o) μ 95 [none, none, none, none, some (.inl q4), none] [] (rb_ov μ [(11, c)]) := by
      refine ev_iload (v := q4) (pc := 95) dX1_deepBelow_95 rfl ?_
      obtain rfl := Option.some.inj h
      exact ev_iret (pc := 97) dX1_deepBelow_97 rfl rfl rfl hfin
    refine rb_lp_ev (P := fun (s3 : Int32 × Int32) => rb_Ev RX1 cX1_deepBelow 6 (some .int) none (1 + (n + 1)) (some o) μ 13 [some (.inr 9), some (.inl x0), some (.inl x1), some (.inl v1), some (.inl s3.1), some (.inl s3.2)] [] (rb_ov μ [(11, c)])) ?_ 100000 (1, 0) l5
    intro s3 y6 h ih7 hE8
    refine ev_iload (v := s3.2) (pc := 13) dX1_deepBelow_13 rfl ?_
    refine ev_iload_n (v := v1) (pc := 15) dX1_deepBelow_15 rfl ?_
    by_cases b11 : v1 ≤ s3.2
    · rw [if_pos b11] at h
      refine ev_icmp_ge_t (t := 95) (pc := 16) dX1_deepBelow_16 (by decide) b11 ?_
      obtain rfl := Option.some.inj h
      obtain rfl := hE8 _ rfl
      exact ev_fg (L := [none, none, none, none, some (.inl s3.1), none]) (And.intro rfl True.intro) (hx9)
    · rw [if_neg b11] at h
      refine ev_icmp_ge_f (t := 95) (pc := 16) dX1_deepBelow_16 (by decide) b11 ?_
      refine ev_iload_n (v := x1) (pc := 19) dX1_deepBelow_19 rfl ?_
      refine ev_iconst (v := 3) (pc := 20) dX1_deepBelow_20 ki_3 ?_
      by_cases b12 : 3 ≤ x1
      · rw [if_pos b12] at h
        refine ev_icmp_ge_t (t := 95) (pc := 21) dX1_deepBelow_21 (by decide) b12 ?_
        obtain rfl := Option.some.inj h
        obtain rfl := hE8 _ rfl
        exact ev_fg (L := [none, none, none, none, some (.inl s3.1), none]) (And.intro rfl True.intro) (hx9)
      · rw [if_neg b12] at h
        refine ev_icmp_ge_f (t := 95) (pc := 21) dX1_deepBelow_21 (by decide) b12 ?_
        obtain ⟨v13, e14, h⟩ := rb_bd h
        refine ev_aload_n (v := 9) (pc := 24) dX1_deepBelow_24 rfl ?_
        refine ev_getr (q := 11) (pc := 25) dX1_deepBelow_25 fl_RX1_9 rfl rfl ?_
        refine ev_sipush (v := 299) (pc := 28) dX1_deepBelow_28 ks_299 ?_
        refine ev_iload (v := s3.2) (pc := 31) dX1_deepBelow_31 rfl ?_
        refine ev_iadd (pc := 33) dX1_deepBelow_33 ?_
        refine ev_iald (pc := 34) dX1_deepBelow_34 rfl e14 ?_
        refine ev_iload_n (v := x0) (pc := 35) dX1_deepBelow_35 rfl ?_
        obtain ⟨j15, e16, h⟩ := rb_bd h
        have hj17 : rb_Ev RX1 cX1_deepBelow 6 (some .int) none (1 + (n + 1)) (some o) μ 89 [some (.inr 9), some (.inl x0), some (.inl x1), some (.inl v1), some (.inl j15), some (.inl s3.2)] [] (rb_ov μ [(11, c)]) := by
          refine ev_iinc (x := s3.2) (v := (s3.2 + 1)) (L' := [some (.inr 9), some (.inl x0), some (.inl x1), some (.inl v1), some (.inl j15), some (.inl (s3.2 + 1))]) (pc := 89) dX1_deepBelow_89 rfl (kx_1 _) (Nat.le_of_ble_eq_true rfl) rfl ?_
          refine ev_goto (t := 13) (pc := 92) dX1_deepBelow_92 (by decide) ?_
          obtain rfl := Option.some.inj h
          exact ih7 (j15, (s3.2 + 1)) rfl
        replace h := e16
        by_cases b18 : v13 = x0
        · rw [if_pos b18] at h
          refine ev_icmp_ne_f (t := 89) (pc := 36) dX1_deepBelow_36 (by decide) b18 ?_
          obtain ⟨v19, e20, h⟩ := rb_bd h
          obtain ⟨v21, e22, h⟩ := rb_bd h
          refine ev_aload_n (v := 9) (pc := 39) dX1_deepBelow_39 rfl ?_
          refine ev_getr (q := 11) (pc := 40) dX1_deepBelow_40 fl_RX1_9 rfl rfl ?_
          refine ev_bipush (v := 19) (pc := 43) dX1_deepBelow_43 kb_19 ?_
          refine ev_aload_n (v := 9) (pc := 45) dX1_deepBelow_45 rfl ?_
          refine ev_getr (q := 11) (pc := 46) dX1_deepBelow_46 fl_RX1_9 rfl rfl ?_
          refine ev_sipush (v := 323) (pc := 49) dX1_deepBelow_49 ks_323 ?_
          refine ev_iload (v := s3.2) (pc := 52) dX1_deepBelow_52 rfl ?_
          refine ev_iadd (pc := 54) dX1_deepBelow_54 ?_
          refine ev_iald (pc := 55) dX1_deepBelow_55 rfl e20 ?_
          refine ev_iadd (pc := 56) dX1_deepBelow_56 ?_
          refine ev_iald (pc := 57) dX1_deepBelow_57 rfl e22 ?_
          refine ev_iconst (v := 4) (pc := 58) dX1_deepBelow_58 ki_4 ?_
          by_cases b23 : v21 = 4
          · rw [if_pos b23] at h
            refine ev_icmp_ne_f (t := 89) (pc := 59) dX1_deepBelow_59 (by decide) b23 ?_
            obtain ⟨v24, e25, h⟩ := rb_bd h
            obtain ⟨t26, e27, h⟩ := rb_bd h
            refine ev_iload (v := s3.1) (pc := 62) dX1_deepBelow_62 rfl ?_
            refine ev_iconst (v := 1) (pc := 64) dX1_deepBelow_64 ki_1 ?_
            refine ev_aload_n (v := 9) (pc := 65) dX1_deepBelow_65 rfl ?_
            refine ev_aload_n (v := 9) (pc := 66) dX1_deepBelow_66 rfl ?_
            refine ev_getr (q := 11) (pc := 67) dX1_deepBelow_67 fl_RX1_9 rfl rfl ?_
            refine ev_sipush (v := 323) (pc := 70) dX1_deepBelow_70 ks_323 ?_
            refine ev_iload (v := s3.2) (pc := 73) dX1_deepBelow_73 rfl ?_
            refine ev_iadd (pc := 75) dX1_deepBelow_75 ?_
            refine ev_iald (pc := 76) dX1_deepBelow_76 rfl e25 ?_
            refine ev_iload_n (v := x1) (pc := 77) dX1_deepBelow_77 rfl ?_
            refine ev_iconst (v := 1) (pc := 78) dX1_deepBelow_78 ki_1 ?_
            refine ev_iadd (pc := 79) dX1_deepBelow_79 ?_
            refine ev_cVi2 (pc := 80) dX1_deepBelow_80 mv_X1_deepBelow lk_RX1_47 rp_9 (ihn _ _ _ _ _ rfl e27) (by omega) (Nat.le_of_ble_eq_true rfl) ?_
            refine ev_iadd (pc := 83) dX1_deepBelow_83 ?_
            refine ev_max (pc := 84) dX1_deepBelow_84 lk_RX1_50 (Nat.le_of_ble_eq_true rfl) (Nat.le_of_ble_eq_true rfl) ?_
            refine ev_istore (L' := [some (.inr 9), some (.inl x0), some (.inl x1), some (.inl v1), some (.inl (rb_max s3.1 (1 + t26))), some (.inl s3.2)]) (pc := 87) dX1_deepBelow_87 (Nat.le_of_ble_eq_true rfl) rfl ?_
            obtain rfl := Option.some.inj h
            exact hj17
          · rw [if_neg b23] at h
            refine ev_icmp_ne_t (t := 89) (pc := 59) dX1_deepBelow_59 (by decide) b23 ?_
            obtain rfl := Option.some.inj h
            exact hj17
        · rw [if_neg b18] at h
          refine ev_icmp_ne_t (t := 89) (pc := 36) dX1_deepBelow_36 (by decide) b18 ?_
          obtain rfl := Option.some.inj h
          exact hj17
def XX1_append (c : rb_Row) (x0 : Int32) (x1 : Int32) (x2 : Int32) (x3 : Int32) (x4 : Int32) : Option (Int32 × rb_Row) := (rb_rd c 773 2).bind fun v1 => if v1 < 24 then (rb_wr c 773 2 (v1 + 1)).bind fun c4 => (rb_wr c4 773 (299 + v1) x0).bind fun c6 => (rb_wr c6 773 (323 + v1) x2).bind fun c8 => (rb_wr c8 773 (347 + v1) x1).bind fun c10 => (rb_wr c10 773 (371 + v1) x3).bind fun c12 => (rb_wr c12 773 (395 + v1) x4).bind fun c14 => (rb_wr c14 773 (419 + v1) 0).bind fun c16 => (rb_wr c16 773 (443 + v1) (-1)).bind fun c18 => (rb_wr c18 773 (467 + v1) 0).bind fun c20 => (rb_wr c20 773 (491 + v1) 0).bind fun c22 => (rb_wr c22 773 (515 + v1) 0).bind fun c24 => some (v1, c24) else some ((-1), c)
set_option maxHeartbeats 4000000 in
set_option maxRecDepth 20000 in
theorem ct0_X1_append (μ : rb_Mem) (c : rb_Row) (x0 : Int32) (x1 : Int32) (x2 : Int32) (x3 : Int32) (x4 : Int32) (o : Int32 × rb_Row) (hc : μ 5 = c) (h : XX1_append c x0 x1 x2 x3 x4 = some o) : rb_Ct yX1_append cX1_append 7 (some .int) 0 [.inr 3, .inl x0, .inl x1, .inl x2, .inl x3, .inl x4] μ (some o.1) (rb_ov μ [(5, o.2)]) := by
  unfold XX1_append at h
  have hini : rb_ov μ [(5, c)] = μ := rb_ov_sf _ _ (And.intro hc True.intro)
  have hfin : ∀ u0 : rb_Row, rb_ov μ [(5, u0)] = rb_ov μ [(5, u0)] := fun u0 => rfl
  refine rb_cti (w := [(5, c)]) rfl pn_1 (Nat.le_of_ble_eq_true rfl) rfl hini ?_
  obtain ⟨v1, e2, h⟩ := rb_bd h
  refine ev_aload_n (v := 3) (pc := 0) dX1_append_0 rfl ?_
  refine ev_getr (q := 5) (pc := 1) dX1_append_1 fl_RX1_9 rfl rfl ?_
  refine ev_iconst (v := 2) (pc := 4) dX1_append_4 ki_2 ?_
  refine ev_iald (pc := 5) dX1_append_5 rfl e2 ?_
  refine ev_istore (L' := [some (.inr 3), some (.inl x0), some (.inl x1), some (.inl x2), some (.inl x3), some (.inl x4), some (.inl v1)]) (pc := 6) dX1_append_6 (Nat.le_of_ble_eq_true rfl) rfl ?_
  refine ev_iload (v := v1) (pc := 8) dX1_append_8 rfl ?_
  refine ev_bipush (v := 24) (pc := 10) dX1_append_10 kb_24 ?_
  by_cases b3 : v1 < 24
  · rw [if_pos b3] at h
    refine ev_icmp_lt_t (t := 17) (pc := 12) dX1_append_12 (by decide) b3 ?_
    obtain ⟨c4, e5, h⟩ := rb_bd h
    obtain ⟨c6, e7, h⟩ := rb_bd h
    obtain ⟨c8, e9, h⟩ := rb_bd h
    obtain ⟨c10, e11, h⟩ := rb_bd h
    obtain ⟨c12, e13, h⟩ := rb_bd h
    obtain ⟨c14, e15, h⟩ := rb_bd h
    obtain ⟨c16, e17, h⟩ := rb_bd h
    obtain ⟨c18, e19, h⟩ := rb_bd h
    obtain ⟨c20, e21, h⟩ := rb_bd h
    obtain ⟨c22, e23, h⟩ := rb_bd h
    obtain ⟨c24, e25, h⟩ := rb_bd h
    refine ev_aload_n (v := 3) (pc := 17) dX1_append_17 rfl ?_
    refine ev_getr (q := 5) (pc := 18) dX1_append_18 fl_RX1_9 rfl rfl ?_
    refine ev_iconst (v := 2) (pc := 21) dX1_append_21 ki_2 ?_
    refine ev_iload (v := v1) (pc := 22) dX1_append_22 rfl ?_
    refine ev_iconst (v := 1) (pc := 24) dX1_append_24 ki_1 ?_
    refine ev_iadd (pc := 25) dX1_append_25 ?_
    refine ev_iast (w' := [(5, c4)]) (pc := 26) dX1_append_26 rfl e5 rfl ?_
    refine ev_aload_n (v := 3) (pc := 27) dX1_append_27 rfl ?_
    refine ev_getr (q := 5) (pc := 28) dX1_append_28 fl_RX1_9 rfl rfl ?_
    refine ev_sipush (v := 299) (pc := 31) dX1_append_31 ks_299 ?_
    refine ev_iload (v := v1) (pc := 34) dX1_append_34 rfl ?_
    refine ev_iadd (pc := 36) dX1_append_36 ?_
    refine ev_iload_n (v := x0) (pc := 37) dX1_append_37 rfl ?_
    refine ev_iast (w' := [(5, c6)]) (pc := 38) dX1_append_38 rfl e7 rfl ?_
    refine ev_aload_n (v := 3) (pc := 39) dX1_append_39 rfl ?_
    refine ev_getr (q := 5) (pc := 40) dX1_append_40 fl_RX1_9 rfl rfl ?_
    refine ev_sipush (v := 323) (pc := 43) dX1_append_43 ks_323 ?_
    refine ev_iload (v := v1) (pc := 46) dX1_append_46 rfl ?_
    refine ev_iadd (pc := 48) dX1_append_48 ?_
    refine ev_iload_n (v := x2) (pc := 49) dX1_append_49 rfl ?_
    refine ev_iast (w' := [(5, c8)]) (pc := 50) dX1_append_50 rfl e9 rfl ?_
    refine ev_aload_n (v := 3) (pc := 51) dX1_append_51 rfl ?_
    refine ev_getr (q := 5) (pc := 52) dX1_append_52 fl_RX1_9 rfl rfl ?_
    refine ev_sipush (v := 347) (pc := 55) dX1_append_55 ks_347 ?_
    refine ev_iload (v := v1) (pc := 58) dX1_append_58 rfl ?_
    refine ev_iadd (pc := 60) dX1_append_60 ?_
    refine ev_iload_n (v := x1) (pc := 61) dX1_append_61 rfl ?_
    refine ev_iast (w' := [(5, c10)]) (pc := 62) dX1_append_62 rfl e11 rfl ?_
    refine ev_aload_n (v := 3) (pc := 63) dX1_append_63 rfl ?_
    refine ev_getr (q := 5) (pc := 64) dX1_append_64 fl_RX1_9 rfl rfl ?_
    refine ev_sipush (v := 371) (pc := 67) dX1_append_67 ks_371 ?_
    refine ev_iload (v := v1) (pc := 70) dX1_append_70 rfl ?_
    refine ev_iadd (pc := 72) dX1_append_72 ?_
    refine ev_iload (v := x3) (pc := 73) dX1_append_73 rfl ?_
    refine ev_iast (w' := [(5, c12)]) (pc := 75) dX1_append_75 rfl e13 rfl ?_
    refine ev_aload_n (v := 3) (pc := 76) dX1_append_76 rfl ?_
    refine ev_getr (q := 5) (pc := 77) dX1_append_77 fl_RX1_9 rfl rfl ?_
    refine ev_sipush (v := 395) (pc := 80) dX1_append_80 ks_395 ?_
    refine ev_iload (v := v1) (pc := 83) dX1_append_83 rfl ?_
    refine ev_iadd (pc := 85) dX1_append_85 ?_
    refine ev_iload (v := x4) (pc := 86) dX1_append_86 rfl ?_
    refine ev_iast (w' := [(5, c14)]) (pc := 88) dX1_append_88 rfl e15 rfl ?_
    refine ev_aload_n (v := 3) (pc := 89) dX1_append_89 rfl ?_
    refine ev_getr (q := 5) (pc := 90) dX1_append_90 fl_RX1_9 rfl rfl ?_
    refine ev_sipush (v := 419) (pc := 93) dX1_append_93 ks_419 ?_
    refine ev_iload (v := v1) (pc := 96) dX1_append_96 rfl ?_
    refine ev_iadd (pc := 98) dX1_append_98 ?_
    refine ev_iconst (v := 0) (pc := 99) dX1_append_99 ki_0 ?_
    refine ev_iast (w' := [(5, c16)]) (pc := 100) dX1_append_100 rfl e17 rfl ?_
    refine ev_aload_n (v := 3) (pc := 101) dX1_append_101 rfl ?_
    refine ev_getr (q := 5) (pc := 102) dX1_append_102 fl_RX1_9 rfl rfl ?_
    refine ev_sipush (v := 443) (pc := 105) dX1_append_105 ks_443 ?_
    refine ev_iload (v := v1) (pc := 108) dX1_append_108 rfl ?_
    refine ev_iadd (pc := 110) dX1_append_110 ?_
    refine ev_iconst (v := (-1)) (pc := 111) dX1_append_111 ki_m1 ?_
    refine ev_iast (w' := [(5, c18)]) (pc := 112) dX1_append_112 rfl e19 rfl ?_
    refine ev_aload_n (v := 3) (pc := 113) dX1_append_113 rfl ?_
    refine ev_getr (q := 5) (pc := 114) dX1_append_114 fl_RX1_9 rfl rfl ?_
    refine ev_sipush (v := 467) (pc := 117) dX1_append_117 ks_467 ?_
    refine ev_iload (v := v1) (pc := 120) dX1_append_120 rfl ?_
    refine ev_iadd (pc := 122) dX1_append_122 ?_
    refine ev_iconst (v := 0) (pc := 123) dX1_append_123 ki_0 ?_
    refine ev_iast (w' := [(5, c20)]) (pc := 124) dX1_append_124 rfl e21 rfl ?_
    refine ev_aload_n (v := 3) (pc := 125) dX1_append_125 rfl ?_
    refine ev_getr (q := 5) (pc := 126) dX1_append_126 fl_RX1_9 rfl rfl ?_
    refine ev_sipush (v := 491) (pc := 129) dX1_append_129 ks_491 ?_
    refine ev_iload (v := v1) (pc := 132) dX1_append_132 rfl ?_
    refine ev_iadd (pc := 134) dX1_append_134 ?_
    refine ev_iconst (v := 0) (pc := 135) dX1_append_135 ki_0 ?_
    refine ev_iast (w' := [(5, c22)]) (pc := 136) dX1_append_136 rfl e23 rfl ?_
    refine ev_aload_n (v := 3) (pc := 137) dX1_append_137 rfl ?_
    refine ev_getr (q := 5) (pc := 138) dX1_append_138 fl_RX1_9 rfl rfl ?_
    refine ev_sipush (v := 515) (pc := 141) dX1_append_141 ks_515 ?_
    refine ev_iload (v := v1) (pc := 144) dX1_append_144 rfl ?_
    refine ev_iadd (pc := 146) dX1_append_146 ?_
    refine ev_iconst (v := 0) (pc := 147) dX1_append_147 ki_0 ?_
    refine ev_iast (w' := [(5, c24)]) (pc := 148) dX1_append_148 rfl e25 rfl ?_
    refine ev_iload (v := v1) (pc := 149) dX1_append_149 rfl ?_
    obtain rfl := Option.some.inj h
    exact ev_iret (pc := 151) dX1_append_151 rfl rfl rfl (hfin _)
  · rw [if_neg b3] at h
    refine ev_icmp_lt_f (t := 17) (pc := 12) dX1_append_12 (by decide) b3 ?_
    refine ev_iconst (v := (-1)) (pc := 15) dX1_append_15 ki_m1 ?_
    obtain rfl := Option.some.inj h
    exact ev_iret (pc := 16) dX1_append_16 rfl rfl rfl (hfin _)
set_option maxHeartbeats 4000000 in
set_option maxRecDepth 20000 in
theorem ct1_X1_append (μ : rb_Mem) (c : rb_Row) (x0 : Int32) (x1 : Int32) (x2 : Int32) (x3 : Int32) (x4 : Int32) (o : Int32 × rb_Row) (hc : μ 11 = c) (h : XX1_append c x0 x1 x2 x3 x4 = some o) : rb_Ct yX1_append cX1_append 7 (some .int) 0 [.inr 9, .inl x0, .inl x1, .inl x2, .inl x3, .inl x4] μ (some o.1) (rb_ov μ [(11, o.2)]) := by
  unfold XX1_append at h
  have hini : rb_ov μ [(11, c)] = μ := rb_ov_sf _ _ (And.intro hc True.intro)
  have hfin : ∀ u0 : rb_Row, rb_ov μ [(11, u0)] = rb_ov μ [(11, u0)] := fun u0 => rfl
  refine rb_cti (w := [(11, c)]) rfl pn_1 (Nat.le_of_ble_eq_true rfl) rfl hini ?_
  obtain ⟨v1, e2, h⟩ := rb_bd h
  refine ev_aload_n (v := 9) (pc := 0) dX1_append_0 rfl ?_
  refine ev_getr (q := 11) (pc := 1) dX1_append_1 fl_RX1_9 rfl rfl ?_
  refine ev_iconst (v := 2) (pc := 4) dX1_append_4 ki_2 ?_
  refine ev_iald (pc := 5) dX1_append_5 rfl e2 ?_
  refine ev_istore (L' := [some (.inr 9), some (.inl x0), some (.inl x1), some (.inl x2), some (.inl x3), some (.inl x4), some (.inl v1)]) (pc := 6) dX1_append_6 (Nat.le_of_ble_eq_true rfl) rfl ?_
  refine ev_iload (v := v1) (pc := 8) dX1_append_8 rfl ?_
  refine ev_bipush (v := 24) (pc := 10) dX1_append_10 kb_24 ?_
  by_cases b3 : v1 < 24
  · rw [if_pos b3] at h
    refine ev_icmp_lt_t (t := 17) (pc := 12) dX1_append_12 (by decide) b3 ?_
    obtain ⟨c4, e5, h⟩ := rb_bd h
    obtain ⟨c6, e7, h⟩ := rb_bd h
    obtain ⟨c8, e9, h⟩ := rb_bd h
    obtain ⟨c10, e11, h⟩ := rb_bd h
    obtain ⟨c12, e13, h⟩ := rb_bd h
    obtain ⟨c14, e15, h⟩ := rb_bd h
    obtain ⟨c16, e17, h⟩ := rb_bd h
    obtain ⟨c18, e19, h⟩ := rb_bd h
    obtain ⟨c20, e21, h⟩ := rb_bd h
    obtain ⟨c22, e23, h⟩ := rb_bd h
    obtain ⟨c24, e25, h⟩ := rb_bd h
    refine ev_aload_n (v := 9) (pc := 17) dX1_append_17 rfl ?_
    refine ev_getr (q := 11) (pc := 18) dX1_append_18 fl_RX1_9 rfl rfl ?_
    refine ev_iconst (v := 2) (pc := 21) dX1_append_21 ki_2 ?_
    refine ev_iload (v := v1) (pc := 22) dX1_append_22 rfl ?_
    refine ev_iconst (v := 1) (pc := 24) dX1_append_24 ki_1 ?_
    refine ev_iadd (pc := 25) dX1_append_25 ?_
    refine ev_iast (w' := [(11, c4)]) (pc := 26) dX1_append_26 rfl e5 rfl ?_
    refine ev_aload_n (v := 9) (pc := 27) dX1_append_27 rfl ?_
    refine ev_getr (q := 11) (pc := 28) dX1_append_28 fl_RX1_9 rfl rfl ?_
    refine ev_sipush (v := 299) (pc := 31) dX1_append_31 ks_299 ?_
    refine ev_iload (v := v1) (pc := 34) dX1_append_34 rfl ?_
    refine ev_iadd (pc := 36) dX1_append_36 ?_
    refine ev_iload_n (v := x0) (pc := 37) dX1_append_37 rfl ?_
    refine ev_iast (w' := [(11, c6)]) (pc := 38) dX1_append_38 rfl e7 rfl ?_
    refine ev_aload_n (v := 9) (pc := 39) dX1_append_39 rfl ?_
    refine ev_getr (q := 11) (pc := 40) dX1_append_40 fl_RX1_9 rfl rfl ?_
    refine ev_sipush (v := 323) (pc := 43) dX1_append_43 ks_323 ?_
    refine ev_iload (v := v1) (pc := 46) dX1_append_46 rfl ?_
    refine ev_iadd (pc := 48) dX1_append_48 ?_
    refine ev_iload_n (v := x2) (pc := 49) dX1_append_49 rfl ?_
    refine ev_iast (w' := [(11, c8)]) (pc := 50) dX1_append_50 rfl e9 rfl ?_
    refine ev_aload_n (v := 9) (pc := 51) dX1_append_51 rfl ?_
    refine ev_getr (q := 11) (pc := 52) dX1_append_52 fl_RX1_9 rfl rfl ?_
    refine ev_sipush (v := 347) (pc := 55) dX1_append_55 ks_347 ?_
    refine ev_iload (v := v1) (pc := 58) dX1_append_58 rfl ?_
    refine ev_iadd (pc := 60) dX1_append_60 ?_
    refine ev_iload_n (v := x1) (pc := 61) dX1_append_61 rfl ?_
    refine ev_iast (w' := [(11, c10)]) (pc := 62) dX1_append_62 rfl e11 rfl ?_
    refine ev_aload_n (v := 9) (pc := 63) dX1_append_63 rfl ?_
    refine ev_getr (q := 11) (pc := 64) dX1_append_64 fl_RX1_9 rfl rfl ?_
    refine ev_sipush (v := 371) (pc := 67) dX1_append_67 ks_371 ?_
    refine ev_iload (v := v1) (pc := 70) dX1_append_70 rfl ?_
    refine ev_iadd (pc := 72) dX1_append_72 ?_
    refine ev_iload (v := x3) (pc := 73) dX1_append_73 rfl ?_
    refine ev_iast (w' := [(11, c12)]) (pc := 75) dX1_append_75 rfl e13 rfl ?_
    refine ev_aload_n (v := 9) (pc := 76) dX1_append_76 rfl ?_
    refine ev_getr (q := 11) (pc := 77) dX1_append_77 fl_RX1_9 rfl rfl ?_
    refine ev_sipush (v := 395) (pc := 80) dX1_append_80 ks_395 ?_
    refine ev_iload (v := v1) (pc := 83) dX1_append_83 rfl ?_
    refine ev_iadd (pc := 85) dX1_append_85 ?_
    refine ev_iload (v := x4) (pc := 86) dX1_append_86 rfl ?_
    refine ev_iast (w' := [(11, c14)]) (pc := 88) dX1_append_88 rfl e15 rfl ?_
    refine ev_aload_n (v := 9) (pc := 89) dX1_append_89 rfl ?_
    refine ev_getr (q := 11) (pc := 90) dX1_append_90 fl_RX1_9 rfl rfl ?_
    refine ev_sipush (v := 419) (pc := 93) dX1_append_93 ks_419 ?_
    refine ev_iload (v := v1) (pc := 96) dX1_append_96 rfl ?_
    refine ev_iadd (pc := 98) dX1_append_98 ?_
    refine ev_iconst (v := 0) (pc := 99) dX1_append_99 ki_0 ?_
    refine ev_iast (w' := [(11, c16)]) (pc := 100) dX1_append_100 rfl e17 rfl ?_
    refine ev_aload_n (v := 9) (pc := 101) dX1_append_101 rfl ?_
    refine ev_getr (q := 11) (pc := 102) dX1_append_102 fl_RX1_9 rfl rfl ?_
    refine ev_sipush (v := 443) (pc := 105) dX1_append_105 ks_443 ?_
    refine ev_iload (v := v1) (pc := 108) dX1_append_108 rfl ?_
    refine ev_iadd (pc := 110) dX1_append_110 ?_
    refine ev_iconst (v := (-1)) (pc := 111) dX1_append_111 ki_m1 ?_
    refine ev_iast (w' := [(11, c18)]) (pc := 112) dX1_append_112 rfl e19 rfl ?_
    refine ev_aload_n (v := 9) (pc := 113) dX1_append_113 rfl ?_
    refine ev_getr (q := 11) (pc := 114) dX1_append_114 fl_RX1_9 rfl rfl ?_
    refine ev_sipush (v := 467) (pc := 117) dX1_append_117 ks_467 ?_
    refine ev_iload (v := v1) (pc := 120) dX1_append_120 rfl ?_
    refine ev_iadd (pc := 122) dX1_append_122 ?_
    refine ev_iconst (v := 0) (pc := 123) dX1_append_123 ki_0 ?_
    refine ev_iast (w' := [(11, c20)]) (pc := 124) dX1_append_124 rfl e21 rfl ?_
    refine ev_aload_n (v := 9) (pc := 125) dX1_append_125 rfl ?_
    refine ev_getr (q := 11) (pc := 126) dX1_append_126 fl_RX1_9 rfl rfl ?_
    refine ev_sipush (v := 491) (pc := 129) dX1_append_129 ks_491 ?_
    refine ev_iload (v := v1) (pc := 132) dX1_append_132 rfl ?_
    refine ev_iadd (pc := 134) dX1_append_134 ?_
    refine ev_iconst (v := 0) (pc := 135) dX1_append_135 ki_0 ?_
    refine ev_iast (w' := [(11, c22)]) (pc := 136) dX1_append_136 rfl e23 rfl ?_
    refine ev_aload_n (v := 9) (pc := 137) dX1_append_137 rfl ?_
    refine ev_getr (q := 11) (pc := 138) dX1_append_138 fl_RX1_9 rfl rfl ?_
    refine ev_sipush (v := 515) (pc := 141) dX1_append_141 ks_515 ?_
    refine ev_iload (v := v1) (pc := 144) dX1_append_144 rfl ?_
    refine ev_iadd (pc := 146) dX1_append_146 ?_
    refine ev_iconst (v := 0) (pc := 147) dX1_append_147 ki_0 ?_
    refine ev_iast (w' := [(11, c24)]) (pc := 148) dX1_append_148 rfl e25 rfl ?_
    refine ev_iload (v := v1) (pc := 149) dX1_append_149 rfl ?_
    obtain rfl := Option.some.inj h
    exact ev_iret (pc := 151) dX1_append_151 rfl rfl rfl (hfin _)
  · rw [if_neg b3] at h
    refine ev_icmp_lt_f (t := 17) (pc := 12) dX1_append_12 (by decide) b3 ?_
    refine ev_iconst (v := (-1)) (pc := 15) dX1_append_15 ki_m1 ?_
    obtain rfl := Option.some.inj h
    exact ev_iret (pc := 16) dX1_append_16 rfl rfl rfl (hfin _)
def XX1_tells (c : rb_Row) (x0 : Int32) : Option (Int32) := (rb_rd c 773 (419 + x0)).bind fun v1 => if v1 = 0 then some 0 else (XX1_bitsOf c x0).bind fun t4 => (rb_rd c 773 (323 + x0)).bind fun v6 => (XX1_ready 5 c v6 0).bind fun t8 => some (t4 &&& t8)
set_option maxHeartbeats 4000000 in
set_option maxRecDepth 20000 in
theorem ct0_X1_tells (μ : rb_Mem) (c : rb_Row) (x0 : Int32) (o : Int32) (hc : μ 5 = c) (h : XX1_tells c x0 = some o) : rb_Ct yX1_tells cX1_tells 2 (some .int) 6 [.inr 3, .inl x0] μ (some o) μ := by
  unfold XX1_tells at h
  have hini : rb_ov μ [(5, c)] = μ := rb_ov_sf _ _ (And.intro hc True.intro)
  have hfin := hini
  refine rb_cti (w := [(5, c)]) rfl pn_1 (Nat.le_of_ble_eq_true rfl) rfl hini ?_
  obtain ⟨v1, e2, h⟩ := rb_bd h
  refine ev_aload_n (v := 3) (pc := 0) dX1_tells_0 rfl ?_
  refine ev_getr (q := 5) (pc := 1) dX1_tells_1 fl_RX1_9 rfl rfl ?_
  refine ev_sipush (v := 419) (pc := 4) dX1_tells_4 ks_419 ?_
  refine ev_iload_n (v := x0) (pc := 7) dX1_tells_7 rfl ?_
  refine ev_iadd (pc := 8) dX1_tells_8 ?_
  refine ev_iald (pc := 9) dX1_tells_9 rfl e2 ?_
  by_cases b3 : v1 = 0
  · rw [if_pos b3] at h
    refine ev_if_ne_f (t := 17) (pc := 10) dX1_tells_10 (by decide) b3 ?_
    refine ev_iconst (v := 0) (pc := 13) dX1_tells_13 ki_0 ?_
    refine ev_goto (t := 38) (pc := 14) dX1_tells_14 (by decide) ?_
    obtain rfl := Option.some.inj h
    exact ev_iret (pc := 38) dX1_tells_38 rfl rfl rfl hfin
  · rw [if_neg b3] at h
    refine ev_if_ne_t (t := 17) (pc := 10) dX1_tells_10 (by decide) b3 ?_
    obtain ⟨t4, e5, h⟩ := rb_bd h
    obtain ⟨v6, e7, h⟩ := rb_bd h
    obtain ⟨t8, e9, h⟩ := rb_bd h
    refine ev_aload_n (v := 3) (pc := 17) dX1_tells_17 rfl ?_
    refine ev_iload_n (v := x0) (pc := 18) dX1_tells_18 rfl ?_
    refine ev_cVi1 (pc := 19) dX1_tells_19 mv_X1_bitsOf lk_RX1_29 rp_3 (ct0_X1_bitsOf _ _ _ _ rfl e5) (Nat.le_of_ble_eq_true rfl) (Nat.le_of_ble_eq_true rfl) ?_
    refine ev_aload_n (v := 3) (pc := 22) dX1_tells_22 rfl ?_
    refine ev_aload_n (v := 3) (pc := 23) dX1_tells_23 rfl ?_
    refine ev_getr (q := 5) (pc := 24) dX1_tells_24 fl_RX1_9 rfl rfl ?_
    refine ev_sipush (v := 323) (pc := 27) dX1_tells_27 ks_323 ?_
    refine ev_iload_n (v := x0) (pc := 30) dX1_tells_30 rfl ?_
    refine ev_iadd (pc := 31) dX1_tells_31 ?_
    refine ev_iald (pc := 32) dX1_tells_32 rfl e7 ?_
    refine ev_iconst (v := 0) (pc := 33) dX1_tells_33 ki_0 ?_
    refine ev_cVi2 (pc := 34) dX1_tells_34 mv_X1_ready lk_RX1_33 rp_3 (ct0_X1_ready 5 _ _ _ _ _ rfl e9) (Nat.le_of_ble_eq_true rfl) (Nat.le_of_ble_eq_true rfl) ?_
    refine ev_iand (pc := 37) dX1_tells_37 ?_
    obtain rfl := Option.some.inj h
    exact ev_iret (pc := 38) dX1_tells_38 rfl rfl rfl hfin
set_option maxHeartbeats 4000000 in
set_option maxRecDepth 20000 in
theorem ct1_X1_tells (μ : rb_Mem) (c : rb_Row) (x0 : Int32) (o : Int32) (hc : μ 11 = c) (h : XX1_tells c x0 = some o) : rb_Ct yX1_tells cX1_tells 2 (some .int) 6 [.inr 9, .inl x0] μ (some o) μ := by
  unfold XX1_tells at h
  have hini : rb_ov μ [(11, c)] = μ := rb_ov_sf _ _ (And.intro hc True.intro)
  have hfin := hini
  refine rb_cti (w := [(11, c)]) rfl pn_1 (Nat.le_of_ble_eq_true rfl) rfl hini ?_
  obtain ⟨v1, e2, h⟩ := rb_bd h
  refine ev_aload_n (v := 9) (pc := 0) dX1_tells_0 rfl ?_
  refine ev_getr (q := 11) (pc := 1) dX1_tells_1 fl_RX1_9 rfl rfl ?_
  refine ev_sipush (v := 419) (pc := 4) dX1_tells_4 ks_419 ?_
  refine ev_iload_n (v := x0) (pc := 7) dX1_tells_7 rfl ?_
  refine ev_iadd (pc := 8) dX1_tells_8 ?_
  refine ev_iald (pc := 9) dX1_tells_9 rfl e2 ?_
  by_cases b3 : v1 = 0
  · rw [if_pos b3] at h
    refine ev_if_ne_f (t := 17) (pc := 10) dX1_tells_10 (by decide) b3 ?_
    refine ev_iconst (v := 0) (pc := 13) dX1_tells_13 ki_0 ?_
    refine ev_goto (t := 38) (pc := 14) dX1_tells_14 (by decide) ?_
    obtain rfl := Option.some.inj h
    exact ev_iret (pc := 38) dX1_tells_38 rfl rfl rfl hfin
  · rw [if_neg b3] at h
    refine ev_if_ne_t (t := 17) (pc := 10) dX1_tells_10 (by decide) b3 ?_
    obtain ⟨t4, e5, h⟩ := rb_bd h
    obtain ⟨v6, e7, h⟩ := rb_bd h
    obtain ⟨t8, e9, h⟩ := rb_bd h
    refine ev_aload_n (v := 9) (pc := 17) dX1_tells_17 rfl ?_
    refine ev_iload_n (v := x0) (pc := 18) dX1_tells_18 rfl ?_
    refine ev_cVi1 (pc := 19) dX1_tells_19 mv_X1_bitsOf lk_RX1_29 rp_9 (ct1_X1_bitsOf _ _ _ _ rfl e5) (Nat.le_of_ble_eq_true rfl) (Nat.le_of_ble_eq_true rfl) ?_
    refine ev_aload_n (v := 9) (pc := 22) dX1_tells_22 rfl ?_
    refine ev_aload_n (v := 9) (pc := 23) dX1_tells_23 rfl ?_
    refine ev_getr (q := 11) (pc := 24) dX1_tells_24 fl_RX1_9 rfl rfl ?_
    refine ev_sipush (v := 323) (pc := 27) dX1_tells_27 ks_323 ?_
    refine ev_iload_n (v := x0) (pc := 30) dX1_tells_30 rfl ?_
    refine ev_iadd (pc := 31) dX1_tells_31 ?_
    refine ev_iald (pc := 32) dX1_tells_32 rfl e7 ?_
    refine ev_iconst (v := 0) (pc := 33) dX1_tells_33 ki_0 ?_
    refine ev_cVi2 (pc := 34) dX1_tells_34 mv_X1_ready lk_RX1_33 rp_9 (ct1_X1_ready 5 _ _ _ _ _ rfl e9) (Nat.le_of_ble_eq_true rfl) (Nat.le_of_ble_eq_true rfl) ?_
    refine ev_iand (pc := 37) dX1_tells_37 ?_
    obtain rfl := Option.some.inj h
    exact ev_iret (pc := 38) dX1_tells_38 rfl rfl rfl hfin
def XX1_countOf (c : rb_Row) (x0 : Int32) (x1 : Int32) : Option (Int32) := (rb_rd c 773 2).bind fun v1 => (rb_lp (ρ := Int32) (fun (s3 : Int32 × Int32) => if v1 ≤ s3.2 then some (.inr s3.1) else (rb_rd c 773 (x0 + s3.2)).bind fun v12 => ((if v12 = x1 then some (s3.1 + 1) else some s3.1) : Option (Int32)).bind fun j14 => some (.inl (j14, (s3.2 + 1)))) 100000 (0, 0)).bind fun q4 => some q4
set_option maxHeartbeats 4000000 in
set_option maxRecDepth 20000 in
theorem ct0_X1_countOf (μ : rb_Mem) (c : rb_Row) (x0 : Int32) (x1 : Int32) (o : Int32) (hc : μ 5 = c) (h : XX1_countOf c x0 x1 = some o) : rb_Ct yX1_countOf cX1_countOf 6 (some .int) 0 [.inr 3, .inl x0, .inl x1] μ (some o) μ := by
  unfold XX1_countOf at h
  have hini : rb_ov μ [(5, c)] = μ := rb_ov_sf _ _ (And.intro hc True.intro)
  have hfin := hini
  refine rb_cti (w := [(5, c)]) rfl pn_1 (Nat.le_of_ble_eq_true rfl) rfl hini ?_
  obtain ⟨v1, e2, h⟩ := rb_bd h
  refine ev_aload_n (v := 3) (pc := 0) dX1_countOf_0 rfl ?_
  refine ev_getr (q := 5) (pc := 1) dX1_countOf_1 fl_RX1_9 rfl rfl ?_
  refine ev_iconst (v := 2) (pc := 4) dX1_countOf_4 ki_2 ?_
  refine ev_iald (pc := 5) dX1_countOf_5 rfl e2 ?_
  refine ev_istore_n (L' := [some (.inr 3), some (.inl x0), some (.inl x1), some (.inl v1), none, none]) (pc := 6) dX1_countOf_6 (Nat.le_of_ble_eq_true rfl) rfl ?_
  refine ev_iconst (v := 0) (pc := 7) dX1_countOf_7 ki_0 ?_
  refine ev_istore (L' := [some (.inr 3), some (.inl x0), some (.inl x1), some (.inl v1), some (.inl 0), none]) (pc := 8) dX1_countOf_8 (Nat.le_of_ble_eq_true rfl) rfl ?_
  refine ev_iconst (v := 0) (pc := 10) dX1_countOf_10 ki_0 ?_
  refine ev_istore (L' := [some (.inr 3), some (.inl x0), some (.inl x1), some (.inl v1), some (.inl 0), some (.inl 0)]) (pc := 11) dX1_countOf_11 (Nat.le_of_ble_eq_true rfl) rfl ?_
  obtain ⟨q4, l5, h⟩ := rb_bd h
  have hx9 : rb_Ev RX1 cX1_countOf 6 (some .int) none 0 (some o) μ 41 [none, none, none, none, some (.inl q4), none] [] (rb_ov μ [(5, c)]) := by
    refine ev_iload (v := q4) (pc := 41) dX1_countOf_41 rfl ?_
    obtain rfl := Option.some.inj h
    exact ev_iret (pc := 43) dX1_countOf_43 rfl rfl rfl hfin
  refine rb_lp_ev (P := fun (s3 : Int32 × Int32) => rb_Ev RX1 cX1_countOf 6 (some .int) none 0 (some o) μ 13 [some (.inr 3), some (.inl x0), some (.inl x1), some (.inl v1), some (.inl s3.1), some (.inl s3.2)] [] (rb_ov μ [(5, c)])) ?_ 100000 (0, 0) l5
  intro s3 y6 h ih7 hE8
  refine ev_iload (v := s3.2) (pc := 13) dX1_countOf_13 rfl ?_
  refine ev_iload_n (v := v1) (pc := 15) dX1_countOf_15 rfl ?_
  by_cases b11 : v1 ≤ s3.2
  · rw [if_pos b11] at h
    refine ev_icmp_ge_t (t := 41) (pc := 16) dX1_countOf_16 (by decide) b11 ?_
    obtain rfl := Option.some.inj h
    obtain rfl := hE8 _ rfl
    exact ev_fg (L := [none, none, none, none, some (.inl s3.1), none]) (And.intro rfl True.intro) (hx9)
  · rw [if_neg b11] at h
    refine ev_icmp_ge_f (t := 41) (pc := 16) dX1_countOf_16 (by decide) b11 ?_
    obtain ⟨v12, e13, h⟩ := rb_bd h
    refine ev_aload_n (v := 3) (pc := 19) dX1_countOf_19 rfl ?_
    refine ev_getr (q := 5) (pc := 20) dX1_countOf_20 fl_RX1_9 rfl rfl ?_
    refine ev_iload_n (v := x0) (pc := 23) dX1_countOf_23 rfl ?_
    refine ev_iload (v := s3.2) (pc := 24) dX1_countOf_24 rfl ?_
    refine ev_iadd (pc := 26) dX1_countOf_26 ?_
    refine ev_iald (pc := 27) dX1_countOf_27 rfl e13 ?_
    refine ev_iload_n (v := x1) (pc := 28) dX1_countOf_28 rfl ?_
    obtain ⟨j14, e15, h⟩ := rb_bd h
    have hj16 : rb_Ev RX1 cX1_countOf 6 (some .int) none 0 (some o) μ 35 [some (.inr 3), some (.inl x0), some (.inl x1), some (.inl v1), some (.inl j14), some (.inl s3.2)] [] (rb_ov μ [(5, c)]) := by
      refine ev_iinc (x := s3.2) (v := (s3.2 + 1)) (L' := [some (.inr 3), some (.inl x0), some (.inl x1), some (.inl v1), some (.inl j14), some (.inl (s3.2 + 1))]) (pc := 35) dX1_countOf_35 rfl (kx_1 _) (Nat.le_of_ble_eq_true rfl) rfl ?_
      refine ev_goto (t := 13) (pc := 38) dX1_countOf_38 (by decide) ?_
      obtain rfl := Option.some.inj h
      exact ih7 (j14, (s3.2 + 1)) rfl
    replace h := e15
    by_cases b17 : v12 = x1
    · rw [if_pos b17] at h
      refine ev_icmp_ne_f (t := 35) (pc := 29) dX1_countOf_29 (by decide) b17 ?_
      refine ev_iinc (x := s3.1) (v := (s3.1 + 1)) (L' := [some (.inr 3), some (.inl x0), some (.inl x1), some (.inl v1), some (.inl (s3.1 + 1)), some (.inl s3.2)]) (pc := 32) dX1_countOf_32 rfl (kx_1 _) (Nat.le_of_ble_eq_true rfl) rfl ?_
      obtain rfl := Option.some.inj h
      exact hj16
    · rw [if_neg b17] at h
      refine ev_icmp_ne_t (t := 35) (pc := 29) dX1_countOf_29 (by decide) b17 ?_
      obtain rfl := Option.some.inj h
      exact hj16
set_option maxHeartbeats 4000000 in
set_option maxRecDepth 20000 in
theorem ct1_X1_countOf (μ : rb_Mem) (c : rb_Row) (x0 : Int32) (x1 : Int32) (o : Int32) (hc : μ 11 = c) (h : XX1_countOf c x0 x1 = some o) : rb_Ct yX1_countOf cX1_countOf 6 (some .int) 0 [.inr 9, .inl x0, .inl x1] μ (some o) μ := by
  unfold XX1_countOf at h
  have hini : rb_ov μ [(11, c)] = μ := rb_ov_sf _ _ (And.intro hc True.intro)
  have hfin := hini
  refine rb_cti (w := [(11, c)]) rfl pn_1 (Nat.le_of_ble_eq_true rfl) rfl hini ?_
  obtain ⟨v1, e2, h⟩ := rb_bd h
  refine ev_aload_n (v := 9) (pc := 0) dX1_countOf_0 rfl ?_
  refine ev_getr (q := 11) (pc := 1) dX1_countOf_1 fl_RX1_9 rfl rfl ?_
  refine ev_iconst (v := 2) (pc := 4) dX1_countOf_4 ki_2 ?_
  refine ev_iald (pc := 5) dX1_countOf_5 rfl e2 ?_
  refine ev_istore_n (L' := [some (.inr 9), some (.inl x0), some (.inl x1), some (.inl v1), none, none]) (pc := 6) dX1_countOf_6 (Nat.le_of_ble_eq_true rfl) rfl ?_
  refine ev_iconst (v := 0) (pc := 7) dX1_countOf_7 ki_0 ?_
  refine ev_istore (L' := [some (.inr 9), some (.inl x0), some (.inl x1), some (.inl v1), some (.inl 0), none]) (pc := 8) dX1_countOf_8 (Nat.le_of_ble_eq_true rfl) rfl ?_
  refine ev_iconst (v := 0) (pc := 10) dX1_countOf_10 ki_0 ?_
  refine ev_istore (L' := [some (.inr 9), some (.inl x0), some (.inl x1), some (.inl v1), some (.inl 0), some (.inl 0)]) (pc := 11) dX1_countOf_11 (Nat.le_of_ble_eq_true rfl) rfl ?_
  obtain ⟨q4, l5, h⟩ := rb_bd h
  have hx9 : rb_Ev RX1 cX1_countOf 6 (some .int) none 0 (some o) μ 41 [none, none, none, none, some (.inl q4), none] [] (rb_ov μ [(11, c)]) := by
    refine ev_iload (v := q4) (pc := 41) dX1_countOf_41 rfl ?_
    obtain rfl := Option.some.inj h
    exact ev_iret (pc := 43) dX1_countOf_43 rfl rfl rfl hfin
  refine rb_lp_ev (P := fun (s3 : Int32 × Int32) => rb_Ev RX1 cX1_countOf 6 (some .int) none 0 (some o) μ 13 [some (.inr 9), some (.inl x0), some (.inl x1), some (.inl v1), some (.inl s3.1), some (.inl s3.2)] [] (rb_ov μ [(11, c)])) ?_ 100000 (0, 0) l5
  intro s3 y6 h ih7 hE8
  refine ev_iload (v := s3.2) (pc := 13) dX1_countOf_13 rfl ?_
  refine ev_iload_n (v := v1) (pc := 15) dX1_countOf_15 rfl ?_
  by_cases b11 : v1 ≤ s3.2
  · rw [if_pos b11] at h
    refine ev_icmp_ge_t (t := 41) (pc := 16) dX1_countOf_16 (by decide) b11 ?_
    obtain rfl := Option.some.inj h
    obtain rfl := hE8 _ rfl
    exact ev_fg (L := [none, none, none, none, some (.inl s3.1), none]) (And.intro rfl True.intro) (hx9)
  · rw [if_neg b11] at h
    refine ev_icmp_ge_f (t := 41) (pc := 16) dX1_countOf_16 (by decide) b11 ?_
    obtain ⟨v12, e13, h⟩ := rb_bd h
    refine ev_aload_n (v := 9) (pc := 19) dX1_countOf_19 rfl ?_
    refine ev_getr (q := 11) (pc := 20) dX1_countOf_20 fl_RX1_9 rfl rfl ?_
    refine ev_iload_n (v := x0) (pc := 23) dX1_countOf_23 rfl ?_
    refine ev_iload (v := s3.2) (pc := 24) dX1_countOf_24 rfl ?_
    refine ev_iadd (pc := 26) dX1_countOf_26 ?_
    refine ev_iald (pc := 27) dX1_countOf_27 rfl e13 ?_
    refine ev_iload_n (v := x1) (pc := 28) dX1_countOf_28 rfl ?_
    obtain ⟨j14, e15, h⟩ := rb_bd h
    have hj16 : rb_Ev RX1 cX1_countOf 6 (some .int) none 0 (some o) μ 35 [some (.inr 9), some (.inl x0), some (.inl x1), some (.inl v1), some (.inl j14), some (.inl s3.2)] [] (rb_ov μ [(11, c)]) := by
      refine ev_iinc (x := s3.2) (v := (s3.2 + 1)) (L' := [some (.inr 9), some (.inl x0), some (.inl x1), some (.inl v1), some (.inl j14), some (.inl (s3.2 + 1))]) (pc := 35) dX1_countOf_35 rfl (kx_1 _) (Nat.le_of_ble_eq_true rfl) rfl ?_
      refine ev_goto (t := 13) (pc := 38) dX1_countOf_38 (by decide) ?_
      obtain rfl := Option.some.inj h
      exact ih7 (j14, (s3.2 + 1)) rfl
    replace h := e15
    by_cases b17 : v12 = x1
    · rw [if_pos b17] at h
      refine ev_icmp_ne_f (t := 35) (pc := 29) dX1_countOf_29 (by decide) b17 ?_
      refine ev_iinc (x := s3.1) (v := (s3.1 + 1)) (L' := [some (.inr 9), some (.inl x0), some (.inl x1), some (.inl v1), some (.inl (s3.1 + 1)), some (.inl s3.2)]) (pc := 32) dX1_countOf_32 rfl (kx_1 _) (Nat.le_of_ble_eq_true rfl) rfl ?_
      obtain rfl := Option.some.inj h
      exact hj16
    · rw [if_neg b17] at h
      refine ev_icmp_ne_t (t := 35) (pc := 29) dX1_countOf_29 (by decide) b17 ?_
      obtain rfl := Option.some.inj h
      exact hj16
def XX1_heldBy (c : rb_Row) (x0 : Int32) : Option (Int32) := (XX1_countOf c 299 x0).bind fun t1 => some t1
set_option maxHeartbeats 4000000 in
set_option maxRecDepth 20000 in
theorem ct0_X1_heldBy (μ : rb_Mem) (c : rb_Row) (x0 : Int32) (o : Int32) (hc : μ 5 = c) (h : XX1_heldBy c x0 = some o) : rb_Ct yX1_heldBy cX1_heldBy 2 (some .int) 1 [.inr 3, .inl x0] μ (some o) μ := by
  unfold XX1_heldBy at h
  have hini : rb_ov μ [(5, c)] = μ := rb_ov_sf _ _ (And.intro hc True.intro)
  have hfin := hini
  refine rb_cti (w := [(5, c)]) rfl pn_1 (Nat.le_of_ble_eq_true rfl) rfl hini ?_
  obtain ⟨t1, e2, h⟩ := rb_bd h
  refine ev_aload_n (v := 3) (pc := 0) dX1_heldBy_0 rfl ?_
  refine ev_sipush (v := 299) (pc := 1) dX1_heldBy_1 ks_299 ?_
  refine ev_iload_n (v := x0) (pc := 4) dX1_heldBy_4 rfl ?_
  refine ev_cVi2 (pc := 5) dX1_heldBy_5 mv_X1_countOf lk_RX1_15 rp_3 (ct0_X1_countOf _ _ _ _ _ rfl e2) (Nat.le_of_ble_eq_true rfl) (Nat.le_of_ble_eq_true rfl) ?_
  obtain rfl := Option.some.inj h
  exact ev_iret (pc := 8) dX1_heldBy_8 rfl rfl rfl hfin
set_option maxHeartbeats 4000000 in
set_option maxRecDepth 20000 in
theorem ct1_X1_heldBy (μ : rb_Mem) (c : rb_Row) (x0 : Int32) (o : Int32) (hc : μ 11 = c) (h : XX1_heldBy c x0 = some o) : rb_Ct yX1_heldBy cX1_heldBy 2 (some .int) 1 [.inr 9, .inl x0] μ (some o) μ := by
  unfold XX1_heldBy at h
  have hini : rb_ov μ [(11, c)] = μ := rb_ov_sf _ _ (And.intro hc True.intro)
  have hfin := hini
  refine rb_cti (w := [(11, c)]) rfl pn_1 (Nat.le_of_ble_eq_true rfl) rfl hini ?_
  obtain ⟨t1, e2, h⟩ := rb_bd h
  refine ev_aload_n (v := 9) (pc := 0) dX1_heldBy_0 rfl ?_
  refine ev_sipush (v := 299) (pc := 1) dX1_heldBy_1 ks_299 ?_
  refine ev_iload_n (v := x0) (pc := 4) dX1_heldBy_4 rfl ?_
  refine ev_cVi2 (pc := 5) dX1_heldBy_5 mv_X1_countOf lk_RX1_15 rp_9 (ct1_X1_countOf _ _ _ _ _ rfl e2) (Nat.le_of_ble_eq_true rfl) (Nat.le_of_ble_eq_true rfl) ?_
  obtain rfl := Option.some.inj h
  exact ev_iret (pc := 8) dX1_heldBy_8 rfl rfl rfl hfin
def XX6_isTask (x0 : Int32) : Option (Int32) := if x0 < 0 then some (rb_nz 0) else if 6 ≤ x0 then some (rb_nz 0) else some (rb_nz 1)
set_option maxHeartbeats 4000000 in
set_option maxRecDepth 20000 in
theorem ct_X6_isTask (μ : rb_Mem) (x0 : Int32) (o : Int32) (h : XX6_isTask x0 = some o) : rb_Ct yX6_isTask cX6_isTask 1 (some .boolean) 0 [.inl x0] μ (some o) μ := by
  unfold XX6_isTask at h
  have hini : rb_ov μ [] = μ := rfl
  have hfin := hini
  refine rb_ctz (w := []) rfl pn_6 (Nat.le_of_ble_eq_true rfl) rfl hini ?_
  refine ev_iload_n (v := x0) (pc := 0) dX6_isTask_0 rfl ?_
  by_cases b1 : x0 < 0
  · rw [if_pos b1] at h
    refine ev_if_lt_t (t := 14) (pc := 1) dX6_isTask_1 (by decide) b1 ?_
    refine ev_iconst (v := 0) (pc := 14) dX6_isTask_14 ki_0 ?_
    obtain rfl := Option.some.inj h
    exact ev_iret (pc := 15) dX6_isTask_15 rfl rfl rfl hfin
  · rw [if_neg b1] at h
    refine ev_if_lt_f (t := 14) (pc := 1) dX6_isTask_1 (by decide) b1 ?_
    refine ev_iload_n (v := x0) (pc := 4) dX6_isTask_4 rfl ?_
    refine ev_bipush (v := 6) (pc := 5) dX6_isTask_5 kb_6 ?_
    by_cases b2 : 6 ≤ x0
    · rw [if_pos b2] at h
      refine ev_icmp_ge_t (t := 14) (pc := 7) dX6_isTask_7 (by decide) b2 ?_
      refine ev_iconst (v := 0) (pc := 14) dX6_isTask_14 ki_0 ?_
      obtain rfl := Option.some.inj h
      exact ev_iret (pc := 15) dX6_isTask_15 rfl rfl rfl hfin
    · rw [if_neg b2] at h
      refine ev_icmp_ge_f (t := 14) (pc := 7) dX6_isTask_7 (by decide) b2 ?_
      refine ev_iconst (v := 1) (pc := 10) dX6_isTask_10 ki_1 ?_
      refine ev_goto (t := 15) (pc := 11) dX6_isTask_11 (by decide) ?_
      obtain rfl := Option.some.inj h
      exact ev_iret (pc := 15) dX6_isTask_15 rfl rfl rfl hfin
def XX4_fallAsleep (c : rb_Row) (x0 : Int32) (x1 : Int32) (x2 : Int32) (x3 : Int32) : Option (rb_Row) := (rb_wr c 773 (539 + x0) x1).bind fun c1 => (rb_rd c1 773 1).bind fun v3 => (rb_wr c1 773 1 (v3 + 1)).bind fun c5 => (rb_wr c5 773 (545 + x0) v3).bind fun c7 => (rb_wr c7 773 (551 + x0) x2).bind fun c9 => if x3 = 0 then (rb_wr c9 773 (557 + x0) (-1)).bind fun c12 => some c12 else (rb_rd c9 773 0).bind fun v14 => (rb_wr c9 773 (557 + x0) (v14 + x3)).bind fun c16 => some c16
set_option maxHeartbeats 4000000 in
set_option maxRecDepth 20000 in
theorem ct0_X4_fallAsleep (μ : rb_Mem) (c : rb_Row) (x0 : Int32) (x1 : Int32) (x2 : Int32) (x3 : Int32) (o : rb_Row) (hc : μ 5 = c) (h : XX4_fallAsleep c x0 x1 x2 x3 = some o) : rb_Ct yX4_fallAsleep cX4_fallAsleep 5 none 0 [.inr 4, .inl x0, .inl x1, .inl x2, .inl x3] μ none (rb_ov μ [(5, o)]) := by
  unfold XX4_fallAsleep at h
  have hini : rb_ov μ [(5, c)] = μ := rb_ov_sf _ _ (And.intro hc True.intro)
  have hfin : ∀ u0 : rb_Row, rb_ov μ [(5, u0)] = rb_ov μ [(5, u0)] := fun u0 => rfl
  refine rb_ctv (w := [(5, c)]) rfl pn_4 (Nat.le_of_ble_eq_true rfl) rfl hini ?_
  obtain ⟨c1, e2, h⟩ := rb_bd h
  obtain ⟨v3, e4, h⟩ := rb_bd h
  obtain ⟨c5, e6, h⟩ := rb_bd h
  obtain ⟨c7, e8, h⟩ := rb_bd h
  obtain ⟨c9, e10, h⟩ := rb_bd h
  refine ev_aload_n (v := 4) (pc := 0) dX4_fallAsleep_0 rfl ?_
  refine ev_getr (q := 5) (pc := 1) dX4_fallAsleep_1 fl_RX4_9 rfl rfl ?_
  refine ev_sipush (v := 539) (pc := 4) dX4_fallAsleep_4 ks_539 ?_
  refine ev_iload_n (v := x0) (pc := 7) dX4_fallAsleep_7 rfl ?_
  refine ev_iadd (pc := 8) dX4_fallAsleep_8 ?_
  refine ev_iload_n (v := x1) (pc := 9) dX4_fallAsleep_9 rfl ?_
  refine ev_iast (w' := [(5, c1)]) (pc := 10) dX4_fallAsleep_10 rfl e2 rfl ?_
  refine ev_aload_n (v := 4) (pc := 11) dX4_fallAsleep_11 rfl ?_
  refine ev_getr (q := 5) (pc := 12) dX4_fallAsleep_12 fl_RX4_9 rfl rfl ?_
  refine ev_sipush (v := 545) (pc := 15) dX4_fallAsleep_15 ks_545 ?_
  refine ev_iload_n (v := x0) (pc := 18) dX4_fallAsleep_18 rfl ?_
  refine ev_iadd (pc := 19) dX4_fallAsleep_19 ?_
  refine ev_aload_n (v := 4) (pc := 20) dX4_fallAsleep_20 rfl ?_
  refine ev_getr (q := 5) (pc := 21) dX4_fallAsleep_21 fl_RX4_9 rfl rfl ?_
  refine ev_iconst (v := 1) (pc := 24) dX4_fallAsleep_24 ki_1 ?_
  refine ev_dup2 (pc := 25) dX4_fallAsleep_25 ?_
  refine ev_iald (pc := 26) dX4_fallAsleep_26 rfl e4 ?_
  refine ev_dup_x2 (pc := 27) dX4_fallAsleep_27 ?_
  refine ev_iconst (v := 1) (pc := 28) dX4_fallAsleep_28 ki_1 ?_
  refine ev_iadd (pc := 29) dX4_fallAsleep_29 ?_
  refine ev_iast (w' := [(5, c5)]) (pc := 30) dX4_fallAsleep_30 rfl e6 rfl ?_
  refine ev_iast (w' := [(5, c7)]) (pc := 31) dX4_fallAsleep_31 rfl e8 rfl ?_
  refine ev_aload_n (v := 4) (pc := 32) dX4_fallAsleep_32 rfl ?_
  refine ev_getr (q := 5) (pc := 33) dX4_fallAsleep_33 fl_RX4_9 rfl rfl ?_
  refine ev_sipush (v := 551) (pc := 36) dX4_fallAsleep_36 ks_551 ?_
  refine ev_iload_n (v := x0) (pc := 39) dX4_fallAsleep_39 rfl ?_
  refine ev_iadd (pc := 40) dX4_fallAsleep_40 ?_
  refine ev_iload_n (v := x2) (pc := 41) dX4_fallAsleep_41 rfl ?_
  refine ev_iast (w' := [(5, c9)]) (pc := 42) dX4_fallAsleep_42 rfl e10 rfl ?_
  refine ev_aload_n (v := 4) (pc := 43) dX4_fallAsleep_43 rfl ?_
  refine ev_getr (q := 5) (pc := 44) dX4_fallAsleep_44 fl_RX4_9 rfl rfl ?_
  refine ev_sipush (v := 557) (pc := 47) dX4_fallAsleep_47 ks_557 ?_
  refine ev_iload_n (v := x0) (pc := 50) dX4_fallAsleep_50 rfl ?_
  refine ev_iadd (pc := 51) dX4_fallAsleep_51 ?_
  refine ev_iload (v := x3) (pc := 52) dX4_fallAsleep_52 rfl ?_
  by_cases b11 : x3 = 0
  · rw [if_pos b11] at h
    refine ev_if_ne_f (t := 61) (pc := 54) dX4_fallAsleep_54 (by decide) b11 ?_
    obtain ⟨c12, e13, h⟩ := rb_bd h
    refine ev_iconst (v := (-1)) (pc := 57) dX4_fallAsleep_57 ki_m1 ?_
    refine ev_goto (t := 70) (pc := 58) dX4_fallAsleep_58 (by decide) ?_
    refine ev_iast (w' := [(5, c12)]) (pc := 70) dX4_fallAsleep_70 rfl e13 rfl ?_
    obtain rfl := Option.some.inj h
    exact ev_ret (pc := 71) dX4_fallAsleep_71 rfl rfl (hfin _)
  · rw [if_neg b11] at h
    refine ev_if_ne_t (t := 61) (pc := 54) dX4_fallAsleep_54 (by decide) b11 ?_
    obtain ⟨v14, e15, h⟩ := rb_bd h
    obtain ⟨c16, e17, h⟩ := rb_bd h
    refine ev_aload_n (v := 4) (pc := 61) dX4_fallAsleep_61 rfl ?_
    refine ev_getr (q := 5) (pc := 62) dX4_fallAsleep_62 fl_RX4_9 rfl rfl ?_
    refine ev_iconst (v := 0) (pc := 65) dX4_fallAsleep_65 ki_0 ?_
    refine ev_iald (pc := 66) dX4_fallAsleep_66 rfl e15 ?_
    refine ev_iload (v := x3) (pc := 67) dX4_fallAsleep_67 rfl ?_
    refine ev_iadd (pc := 69) dX4_fallAsleep_69 ?_
    refine ev_iast (w' := [(5, c16)]) (pc := 70) dX4_fallAsleep_70 rfl e17 rfl ?_
    obtain rfl := Option.some.inj h
    exact ev_ret (pc := 71) dX4_fallAsleep_71 rfl rfl (hfin _)
set_option maxHeartbeats 4000000 in
set_option maxRecDepth 20000 in
theorem ct1_X4_fallAsleep (μ : rb_Mem) (c : rb_Row) (x0 : Int32) (x1 : Int32) (x2 : Int32) (x3 : Int32) (o : rb_Row) (hc : μ 11 = c) (h : XX4_fallAsleep c x0 x1 x2 x3 = some o) : rb_Ct yX4_fallAsleep cX4_fallAsleep 5 none 0 [.inr 10, .inl x0, .inl x1, .inl x2, .inl x3] μ none (rb_ov μ [(11, o)]) := by
  unfold XX4_fallAsleep at h
  have hini : rb_ov μ [(11, c)] = μ := rb_ov_sf _ _ (And.intro hc True.intro)
  have hfin : ∀ u0 : rb_Row, rb_ov μ [(11, u0)] = rb_ov μ [(11, u0)] := fun u0 => rfl
  refine rb_ctv (w := [(11, c)]) rfl pn_4 (Nat.le_of_ble_eq_true rfl) rfl hini ?_
  obtain ⟨c1, e2, h⟩ := rb_bd h
  obtain ⟨v3, e4, h⟩ := rb_bd h
  obtain ⟨c5, e6, h⟩ := rb_bd h
  obtain ⟨c7, e8, h⟩ := rb_bd h
  obtain ⟨c9, e10, h⟩ := rb_bd h
  refine ev_aload_n (v := 10) (pc := 0) dX4_fallAsleep_0 rfl ?_
  refine ev_getr (q := 11) (pc := 1) dX4_fallAsleep_1 fl_RX4_9 rfl rfl ?_
  refine ev_sipush (v := 539) (pc := 4) dX4_fallAsleep_4 ks_539 ?_
  refine ev_iload_n (v := x0) (pc := 7) dX4_fallAsleep_7 rfl ?_
  refine ev_iadd (pc := 8) dX4_fallAsleep_8 ?_
  refine ev_iload_n (v := x1) (pc := 9) dX4_fallAsleep_9 rfl ?_
  refine ev_iast (w' := [(11, c1)]) (pc := 10) dX4_fallAsleep_10 rfl e2 rfl ?_
  refine ev_aload_n (v := 10) (pc := 11) dX4_fallAsleep_11 rfl ?_
  refine ev_getr (q := 11) (pc := 12) dX4_fallAsleep_12 fl_RX4_9 rfl rfl ?_
  refine ev_sipush (v := 545) (pc := 15) dX4_fallAsleep_15 ks_545 ?_
  refine ev_iload_n (v := x0) (pc := 18) dX4_fallAsleep_18 rfl ?_
  refine ev_iadd (pc := 19) dX4_fallAsleep_19 ?_
  refine ev_aload_n (v := 10) (pc := 20) dX4_fallAsleep_20 rfl ?_
  refine ev_getr (q := 11) (pc := 21) dX4_fallAsleep_21 fl_RX4_9 rfl rfl ?_
  refine ev_iconst (v := 1) (pc := 24) dX4_fallAsleep_24 ki_1 ?_
  refine ev_dup2 (pc := 25) dX4_fallAsleep_25 ?_
  refine ev_iald (pc := 26) dX4_fallAsleep_26 rfl e4 ?_
  refine ev_dup_x2 (pc := 27) dX4_fallAsleep_27 ?_
  refine ev_iconst (v := 1) (pc := 28) dX4_fallAsleep_28 ki_1 ?_
  refine ev_iadd (pc := 29) dX4_fallAsleep_29 ?_
  refine ev_iast (w' := [(11, c5)]) (pc := 30) dX4_fallAsleep_30 rfl e6 rfl ?_
  refine ev_iast (w' := [(11, c7)]) (pc := 31) dX4_fallAsleep_31 rfl e8 rfl ?_
  refine ev_aload_n (v := 10) (pc := 32) dX4_fallAsleep_32 rfl ?_
  refine ev_getr (q := 11) (pc := 33) dX4_fallAsleep_33 fl_RX4_9 rfl rfl ?_
  refine ev_sipush (v := 551) (pc := 36) dX4_fallAsleep_36 ks_551 ?_
  refine ev_iload_n (v := x0) (pc := 39) dX4_fallAsleep_39 rfl ?_
  refine ev_iadd (pc := 40) dX4_fallAsleep_40 ?_
  refine ev_iload_n (v := x2) (pc := 41) dX4_fallAsleep_41 rfl ?_
  refine ev_iast (w' := [(11, c9)]) (pc := 42) dX4_fallAsleep_42 rfl e10 rfl ?_
  refine ev_aload_n (v := 10) (pc := 43) dX4_fallAsleep_43 rfl ?_
  refine ev_getr (q := 11) (pc := 44) dX4_fallAsleep_44 fl_RX4_9 rfl rfl ?_
  refine ev_sipush (v := 557) (pc := 47) dX4_fallAsleep_47 ks_557 ?_
  refine ev_iload_n (v := x0) (pc := 50) dX4_fallAsleep_50 rfl ?_
  refine ev_iadd (pc := 51) dX4_fallAsleep_51 ?_
  refine ev_iload (v := x3) (pc := 52) dX4_fallAsleep_52 rfl ?_
  by_cases b11 : x3 = 0
  · rw [if_pos b11] at h
    refine ev_if_ne_f (t := 61) (pc := 54) dX4_fallAsleep_54 (by decide) b11 ?_
    obtain ⟨c12, e13, h⟩ := rb_bd h
    refine ev_iconst (v := (-1)) (pc := 57) dX4_fallAsleep_57 ki_m1 ?_
    refine ev_goto (t := 70) (pc := 58) dX4_fallAsleep_58 (by decide) ?_
    refine ev_iast (w' := [(11, c12)]) (pc := 70) dX4_fallAsleep_70 rfl e13 rfl ?_
    obtain rfl := Option.some.inj h
    exact ev_ret (pc := 71) dX4_fallAsleep_71 rfl rfl (hfin _)
  · rw [if_neg b11] at h
    refine ev_if_ne_t (t := 61) (pc := 54) dX4_fallAsleep_54 (by decide) b11 ?_
    obtain ⟨v14, e15, h⟩ := rb_bd h
    obtain ⟨c16, e17, h⟩ := rb_bd h
    refine ev_aload_n (v := 10) (pc := 61) dX4_fallAsleep_61 rfl ?_
    refine ev_getr (q := 11) (pc := 62) dX4_fallAsleep_62 fl_RX4_9 rfl rfl ?_
    refine ev_iconst (v := 0) (pc := 65) dX4_fallAsleep_65 ki_0 ?_
    refine ev_iald (pc := 66) dX4_fallAsleep_66 rfl e15 ?_
    refine ev_iload (v := x3) (pc := 67) dX4_fallAsleep_67 rfl ?_
    refine ev_iadd (pc := 69) dX4_fallAsleep_69 ?_
    refine ev_iast (w' := [(11, c16)]) (pc := 70) dX4_fallAsleep_70 rfl e17 rfl ?_
    obtain rfl := Option.some.inj h
    exact ev_ret (pc := 71) dX4_fallAsleep_71 rfl rfl (hfin _)
def XX4_canGo (c : rb_Row) (x0 : Int32) : Option (Int32) := (rb_rd c 773 (539 + x0)).bind fun v1 => if 0 ≤ v1 then some (rb_nz 0) else (rb_rd c 773 (599 + x0)).bind fun v4 => if v4 ≤ 0 then some (rb_nz 0) else some (rb_nz 1)
set_option maxHeartbeats 4000000 in
set_option maxRecDepth 20000 in
theorem ct0_X4_canGo (μ : rb_Mem) (c : rb_Row) (x0 : Int32) (o : Int32) (hc : μ 5 = c) (h : XX4_canGo c x0 = some o) : rb_Ct yX4_canGo cX4_canGo 2 (some .boolean) 0 [.inr 4, .inl x0] μ (some o) μ := by
  unfold XX4_canGo at h
  have hini : rb_ov μ [(5, c)] = μ := rb_ov_sf _ _ (And.intro hc True.intro)
  have hfin := hini
  refine rb_ctz (w := [(5, c)]) rfl pn_4 (Nat.le_of_ble_eq_true rfl) rfl hini ?_
  obtain ⟨v1, e2, h⟩ := rb_bd h
  refine ev_aload_n (v := 4) (pc := 0) dX4_canGo_0 rfl ?_
  refine ev_getr (q := 5) (pc := 1) dX4_canGo_1 fl_RX4_9 rfl rfl ?_
  refine ev_sipush (v := 539) (pc := 4) dX4_canGo_4 ks_539 ?_
  refine ev_iload_n (v := x0) (pc := 7) dX4_canGo_7 rfl ?_
  refine ev_iadd (pc := 8) dX4_canGo_8 ?_
  refine ev_iald (pc := 9) dX4_canGo_9 rfl e2 ?_
  by_cases b3 : 0 ≤ v1
  · rw [if_pos b3] at h
    refine ev_if_ge_t (t := 30) (pc := 10) dX4_canGo_10 (by decide) b3 ?_
    refine ev_iconst (v := 0) (pc := 30) dX4_canGo_30 ki_0 ?_
    obtain rfl := Option.some.inj h
    exact ev_iret (pc := 31) dX4_canGo_31 rfl rfl rfl hfin
  · rw [if_neg b3] at h
    refine ev_if_ge_f (t := 30) (pc := 10) dX4_canGo_10 (by decide) b3 ?_
    obtain ⟨v4, e5, h⟩ := rb_bd h
    refine ev_aload_n (v := 4) (pc := 13) dX4_canGo_13 rfl ?_
    refine ev_getr (q := 5) (pc := 14) dX4_canGo_14 fl_RX4_9 rfl rfl ?_
    refine ev_sipush (v := 599) (pc := 17) dX4_canGo_17 ks_599 ?_
    refine ev_iload_n (v := x0) (pc := 20) dX4_canGo_20 rfl ?_
    refine ev_iadd (pc := 21) dX4_canGo_21 ?_
    refine ev_iald (pc := 22) dX4_canGo_22 rfl e5 ?_
    by_cases b6 : v4 ≤ 0
    · rw [if_pos b6] at h
      refine ev_if_le_t (t := 30) (pc := 23) dX4_canGo_23 (by decide) b6 ?_
      refine ev_iconst (v := 0) (pc := 30) dX4_canGo_30 ki_0 ?_
      obtain rfl := Option.some.inj h
      exact ev_iret (pc := 31) dX4_canGo_31 rfl rfl rfl hfin
    · rw [if_neg b6] at h
      refine ev_if_le_f (t := 30) (pc := 23) dX4_canGo_23 (by decide) b6 ?_
      refine ev_iconst (v := 1) (pc := 26) dX4_canGo_26 ki_1 ?_
      refine ev_goto (t := 31) (pc := 27) dX4_canGo_27 (by decide) ?_
      obtain rfl := Option.some.inj h
      exact ev_iret (pc := 31) dX4_canGo_31 rfl rfl rfl hfin
set_option maxHeartbeats 4000000 in
set_option maxRecDepth 20000 in
theorem ct1_X4_canGo (μ : rb_Mem) (c : rb_Row) (x0 : Int32) (o : Int32) (hc : μ 11 = c) (h : XX4_canGo c x0 = some o) : rb_Ct yX4_canGo cX4_canGo 2 (some .boolean) 0 [.inr 10, .inl x0] μ (some o) μ := by
  unfold XX4_canGo at h
  have hini : rb_ov μ [(11, c)] = μ := rb_ov_sf _ _ (And.intro hc True.intro)
  have hfin := hini
  refine rb_ctz (w := [(11, c)]) rfl pn_4 (Nat.le_of_ble_eq_true rfl) rfl hini ?_
  obtain ⟨v1, e2, h⟩ := rb_bd h
  refine ev_aload_n (v := 10) (pc := 0) dX4_canGo_0 rfl ?_
  refine ev_getr (q := 11) (pc := 1) dX4_canGo_1 fl_RX4_9 rfl rfl ?_
  refine ev_sipush (v := 539) (pc := 4) dX4_canGo_4 ks_539 ?_
  refine ev_iload_n (v := x0) (pc := 7) dX4_canGo_7 rfl ?_
  refine ev_iadd (pc := 8) dX4_canGo_8 ?_
  refine ev_iald (pc := 9) dX4_canGo_9 rfl e2 ?_
  by_cases b3 : 0 ≤ v1
  · rw [if_pos b3] at h
    refine ev_if_ge_t (t := 30) (pc := 10) dX4_canGo_10 (by decide) b3 ?_
    refine ev_iconst (v := 0) (pc := 30) dX4_canGo_30 ki_0 ?_
    obtain rfl := Option.some.inj h
    exact ev_iret (pc := 31) dX4_canGo_31 rfl rfl rfl hfin
  · rw [if_neg b3] at h
    refine ev_if_ge_f (t := 30) (pc := 10) dX4_canGo_10 (by decide) b3 ?_
    obtain ⟨v4, e5, h⟩ := rb_bd h
    refine ev_aload_n (v := 10) (pc := 13) dX4_canGo_13 rfl ?_
    refine ev_getr (q := 11) (pc := 14) dX4_canGo_14 fl_RX4_9 rfl rfl ?_
    refine ev_sipush (v := 599) (pc := 17) dX4_canGo_17 ks_599 ?_
    refine ev_iload_n (v := x0) (pc := 20) dX4_canGo_20 rfl ?_
    refine ev_iadd (pc := 21) dX4_canGo_21 ?_
    refine ev_iald (pc := 22) dX4_canGo_22 rfl e5 ?_
    by_cases b6 : v4 ≤ 0
    · rw [if_pos b6] at h
      refine ev_if_le_t (t := 30) (pc := 23) dX4_canGo_23 (by decide) b6 ?_
      refine ev_iconst (v := 0) (pc := 30) dX4_canGo_30 ki_0 ?_
      obtain rfl := Option.some.inj h
      exact ev_iret (pc := 31) dX4_canGo_31 rfl rfl rfl hfin
    · rw [if_neg b6] at h
      refine ev_if_le_f (t := 30) (pc := 23) dX4_canGo_23 (by decide) b6 ?_
      refine ev_iconst (v := 1) (pc := 26) dX4_canGo_26 ki_1 ?_
      refine ev_goto (t := 31) (pc := 27) dX4_canGo_27 (by decide) ?_
      obtain rfl := Option.some.inj h
      exact ev_iret (pc := 31) dX4_canGo_31 rfl rfl rfl hfin
def XX4_turnColumn (c : rb_Row) (x0 : Int32) (x1 : Int32) : Option (rb_Row) := (rb_rd c 773 (599 + x1)).bind fun v1 => (rb_rd c 773 (x0 + (x1 * 4))).bind fun v3 => (rb_lp (ρ := rb_Row) (fun (s5 : Int32 × rb_Row) => if (v1 - 1) ≤ s5.1 then some (.inr s5.2) else if 3 ≤ s5.1 then some (.inr s5.2) else (rb_rd s5.2 773 (((x0 + (x1 * 4)) + s5.1) + 1)).bind fun v15 => (rb_wr s5.2 773 ((x0 + (x1 * 4)) + s5.1) v15).bind fun c17 => some (.inl ((s5.1 + 1), c17))) 100000 (0, c)).bind fun q6 => if (v1 - 1) < 0 then some q6 else if 4 ≤ (v1 - 1) then some q6 else (rb_wr q6 773 ((x0 + (x1 * 4)) + (v1 - 1)) v3).bind fun c21 => some c21
set_option maxHeartbeats 4000000 in
set_option maxRecDepth 20000 in
theorem ct0_X4_turnColumn (μ : rb_Mem) (c : rb_Row) (x0 : Int32) (x1 : Int32) (o : rb_Row) (hc : μ 5 = c) (h : XX4_turnColumn c x0 x1 = some o) : rb_Ct yX4_turnColumn cX4_turnColumn 7 none 0 [.inr 4, .inl x0, .inl x1] μ none (rb_ov μ [(5, o)]) := by
  unfold XX4_turnColumn at h
  have hini : rb_ov μ [(5, c)] = μ := rb_ov_sf _ _ (And.intro hc True.intro)
  have hfin : ∀ u0 : rb_Row, rb_ov μ [(5, u0)] = rb_ov μ [(5, u0)] := fun u0 => rfl
  refine rb_ctv (w := [(5, c)]) rfl pn_4 (Nat.le_of_ble_eq_true rfl) rfl hini ?_
  obtain ⟨v1, e2, h⟩ := rb_bd h
  obtain ⟨v3, e4, h⟩ := rb_bd h
  refine ev_iload_n (v := x0) (pc := 0) dX4_turnColumn_0 rfl ?_
  refine ev_iload_n (v := x1) (pc := 1) dX4_turnColumn_1 rfl ?_
  refine ev_iconst (v := 4) (pc := 2) dX4_turnColumn_2 ki_4 ?_
  refine ev_imul (pc := 3) dX4_turnColumn_3 ?_
  refine ev_iadd (pc := 4) dX4_turnColumn_4 ?_
  refine ev_istore_n (L' := [some (.inr 4), some (.inl x0), some (.inl x1), some (.inl (x0 + (x1 * 4))), none, none, none]) (pc := 5) dX4_turnColumn_5 (Nat.le_of_ble_eq_true rfl) rfl ?_
  refine ev_aload_n (v := 4) (pc := 6) dX4_turnColumn_6 rfl ?_
  refine ev_getr (q := 5) (pc := 7) dX4_turnColumn_7 fl_RX4_9 rfl rfl ?_
  refine ev_sipush (v := 599) (pc := 10) dX4_turnColumn_10 ks_599 ?_
  refine ev_iload_n (v := x1) (pc := 13) dX4_turnColumn_13 rfl ?_
  refine ev_iadd (pc := 14) dX4_turnColumn_14 ?_
  refine ev_iald (pc := 15) dX4_turnColumn_15 rfl e2 ?_
  refine ev_iconst (v := 1) (pc := 16) dX4_turnColumn_16 ki_1 ?_
  refine ev_isub (pc := 17) dX4_turnColumn_17 ?_
  refine ev_istore (L' := [some (.inr 4), some (.inl x0), some (.inl x1), some (.inl (x0 + (x1 * 4))), some (.inl (v1 - 1)), none, none]) (pc := 18) dX4_turnColumn_18 (Nat.le_of_ble_eq_true rfl) rfl ?_
  refine ev_aload_n (v := 4) (pc := 20) dX4_turnColumn_20 rfl ?_
  refine ev_getr (q := 5) (pc := 21) dX4_turnColumn_21 fl_RX4_9 rfl rfl ?_
  refine ev_iload_n (v := (x0 + (x1 * 4))) (pc := 24) dX4_turnColumn_24 rfl ?_
  refine ev_iald (pc := 25) dX4_turnColumn_25 rfl e4 ?_
  refine ev_istore (L' := [some (.inr 4), some (.inl x0), some (.inl x1), some (.inl (x0 + (x1 * 4))), some (.inl (v1 - 1)), some (.inl v3), none]) (pc := 26) dX4_turnColumn_26 (Nat.le_of_ble_eq_true rfl) rfl ?_
  refine ev_iconst (v := 0) (pc := 28) dX4_turnColumn_28 ki_0 ?_
  refine ev_istore (L' := [some (.inr 4), some (.inl x0), some (.inl x1), some (.inl (x0 + (x1 * 4))), some (.inl (v1 - 1)), some (.inl v3), some (.inl 0)]) (pc := 29) dX4_turnColumn_29 (Nat.le_of_ble_eq_true rfl) rfl ?_
  obtain ⟨q6, l7, h⟩ := rb_bd h
  have hx11 : rb_Ev RX4 cX4_turnColumn 7 none none 0 none (rb_ov μ [(5, o)]) 70 [some (.inr 4), none, none, some (.inl (x0 + (x1 * 4))), some (.inl (v1 - 1)), some (.inl v3), none] [] (rb_ov μ [(5, q6)]) := by
    refine ev_iload (v := (v1 - 1)) (pc := 70) dX4_turnColumn_70 rfl ?_
    by_cases b19 : (v1 - 1) < 0
    · rw [if_pos b19] at h
      refine ev_if_lt_t (t := 92) (pc := 72) dX4_turnColumn_72 (by decide) b19 ?_
      obtain rfl := Option.some.inj h
      exact ev_ret (pc := 92) dX4_turnColumn_92 rfl rfl (hfin _)
    · rw [if_neg b19] at h
      refine ev_if_lt_f (t := 92) (pc := 72) dX4_turnColumn_72 (by decide) b19 ?_
      refine ev_iload (v := (v1 - 1)) (pc := 75) dX4_turnColumn_75 rfl ?_
      refine ev_iconst (v := 4) (pc := 77) dX4_turnColumn_77 ki_4 ?_
      by_cases b20 : 4 ≤ (v1 - 1)
      · rw [if_pos b20] at h
        refine ev_icmp_ge_t (t := 92) (pc := 78) dX4_turnColumn_78 (by decide) b20 ?_
        obtain rfl := Option.some.inj h
        exact ev_ret (pc := 92) dX4_turnColumn_92 rfl rfl (hfin _)
      · rw [if_neg b20] at h
        refine ev_icmp_ge_f (t := 92) (pc := 78) dX4_turnColumn_78 (by decide) b20 ?_
        obtain ⟨c21, e22, h⟩ := rb_bd h
        refine ev_aload_n (v := 4) (pc := 81) dX4_turnColumn_81 rfl ?_
        refine ev_getr (q := 5) (pc := 82) dX4_turnColumn_82 fl_RX4_9 rfl rfl ?_
        refine ev_iload_n (v := (x0 + (x1 * 4))) (pc := 85) dX4_turnColumn_85 rfl ?_
        refine ev_iload (v := (v1 - 1)) (pc := 86) dX4_turnColumn_86 rfl ?_
        refine ev_iadd (pc := 88) dX4_turnColumn_88 ?_
        refine ev_iload (v := v3) (pc := 89) dX4_turnColumn_89 rfl ?_
        refine ev_iast (w' := [(5, c21)]) (pc := 91) dX4_turnColumn_91 rfl e22 rfl ?_
        obtain rfl := Option.some.inj h
        exact ev_ret (pc := 92) dX4_turnColumn_92 rfl rfl (hfin _)
  refine ev_fg (L := [some (.inr 4), none, none, some (.inl (x0 + (x1 * 4))), some (.inl (v1 - 1)), some (.inl v3), some (.inl 0)]) (And.intro rfl (And.intro rfl (And.intro rfl (And.intro rfl (And.intro rfl True.intro))))) ?_
  refine rb_lp_ev (P := fun (s5 : Int32 × rb_Row) => rb_Ev RX4 cX4_turnColumn 7 none none 0 none (rb_ov μ [(5, o)]) 31 [some (.inr 4), none, none, some (.inl (x0 + (x1 * 4))), some (.inl (v1 - 1)), some (.inl v3), some (.inl s5.1)] [] (rb_ov μ [(5, s5.2)])) ?_ 100000 (0, c) l7
  intro s5 y8 h ih9 hE10
  refine ev_iload (v := s5.1) (pc := 31) dX4_turnColumn_31 rfl ?_
  refine ev_iload (v := (v1 - 1)) (pc := 33) dX4_turnColumn_33 rfl ?_
  by_cases b13 : (v1 - 1) ≤ s5.1
  · rw [if_pos b13] at h
    refine ev_icmp_ge_t (t := 70) (pc := 35) dX4_turnColumn_35 (by decide) b13 ?_
    obtain rfl := Option.some.inj h
    obtain rfl := hE10 _ rfl
    exact ev_fg (L := [some (.inr 4), none, none, some (.inl (x0 + (x1 * 4))), some (.inl (v1 - 1)), some (.inl v3), none]) (And.intro rfl (And.intro rfl (And.intro rfl (And.intro rfl True.intro)))) (hx11)
  · rw [if_neg b13] at h
    refine ev_icmp_ge_f (t := 70) (pc := 35) dX4_turnColumn_35 (by decide) b13 ?_
    refine ev_iload (v := s5.1) (pc := 38) dX4_turnColumn_38 rfl ?_
    refine ev_iconst (v := 3) (pc := 40) dX4_turnColumn_40 ki_3 ?_
    by_cases b14 : 3 ≤ s5.1
    · rw [if_pos b14] at h
      refine ev_icmp_ge_t (t := 70) (pc := 41) dX4_turnColumn_41 (by decide) b14 ?_
      obtain rfl := Option.some.inj h
      obtain rfl := hE10 _ rfl
      exact ev_fg (L := [some (.inr 4), none, none, some (.inl (x0 + (x1 * 4))), some (.inl (v1 - 1)), some (.inl v3), none]) (And.intro rfl (And.intro rfl (And.intro rfl (And.intro rfl True.intro)))) (hx11)
    · rw [if_neg b14] at h
      refine ev_icmp_ge_f (t := 70) (pc := 41) dX4_turnColumn_41 (by decide) b14 ?_
      obtain ⟨v15, e16, h⟩ := rb_bd h
      obtain ⟨c17, e18, h⟩ := rb_bd h
      refine ev_aload_n (v := 4) (pc := 44) dX4_turnColumn_44 rfl ?_
      refine ev_getr (q := 5) (pc := 45) dX4_turnColumn_45 fl_RX4_9 rfl rfl ?_
      refine ev_iload_n (v := (x0 + (x1 * 4))) (pc := 48) dX4_turnColumn_48 rfl ?_
      refine ev_iload (v := s5.1) (pc := 49) dX4_turnColumn_49 rfl ?_
      refine ev_iadd (pc := 51) dX4_turnColumn_51 ?_
      refine ev_aload_n (v := 4) (pc := 52) dX4_turnColumn_52 rfl ?_
      refine ev_getr (q := 5) (pc := 53) dX4_turnColumn_53 fl_RX4_9 rfl rfl ?_
      refine ev_iload_n (v := (x0 + (x1 * 4))) (pc := 56) dX4_turnColumn_56 rfl ?_
      refine ev_iload (v := s5.1) (pc := 57) dX4_turnColumn_57 rfl ?_
      refine ev_iadd (pc := 59) dX4_turnColumn_59 ?_
      refine ev_iconst (v := 1) (pc := 60) dX4_turnColumn_60 ki_1 ?_
      refine ev_iadd (pc := 61) dX4_turnColumn_61 ?_
      refine ev_iald (pc := 62) dX4_turnColumn_62 rfl e16 ?_
      refine ev_iast (w' := [(5, c17)]) (pc := 63) dX4_turnColumn_63 rfl e18 rfl ?_
      refine ev_iinc (x := s5.1) (v := (s5.1 + 1)) (L' := [some (.inr 4), none, none, some (.inl (x0 + (x1 * 4))), some (.inl (v1 - 1)), some (.inl v3), some (.inl (s5.1 + 1))]) (pc := 64) dX4_turnColumn_64 rfl (kx_1 _) (Nat.le_of_ble_eq_true rfl) rfl ?_
      refine ev_goto (t := 31) (pc := 67) dX4_turnColumn_67 (by decide) ?_
      obtain rfl := Option.some.inj h
      exact ih9 ((s5.1 + 1), c17) rfl
set_option maxHeartbeats 4000000 in
set_option maxRecDepth 20000 in
theorem ct1_X4_turnColumn (μ : rb_Mem) (c : rb_Row) (x0 : Int32) (x1 : Int32) (o : rb_Row) (hc : μ 11 = c) (h : XX4_turnColumn c x0 x1 = some o) : rb_Ct yX4_turnColumn cX4_turnColumn 7 none 0 [.inr 10, .inl x0, .inl x1] μ none (rb_ov μ [(11, o)]) := by
  unfold XX4_turnColumn at h
  have hini : rb_ov μ [(11, c)] = μ := rb_ov_sf _ _ (And.intro hc True.intro)
  have hfin : ∀ u0 : rb_Row, rb_ov μ [(11, u0)] = rb_ov μ [(11, u0)] := fun u0 => rfl
  refine rb_ctv (w := [(11, c)]) rfl pn_4 (Nat.le_of_ble_eq_true rfl) rfl hini ?_
  obtain ⟨v1, e2, h⟩ := rb_bd h
  obtain ⟨v3, e4, h⟩ := rb_bd h
  refine ev_iload_n (v := x0) (pc := 0) dX4_turnColumn_0 rfl ?_
  refine ev_iload_n (v := x1) (pc := 1) dX4_turnColumn_1 rfl ?_
  refine ev_iconst (v := 4) (pc := 2) dX4_turnColumn_2 ki_4 ?_
  refine ev_imul (pc := 3) dX4_turnColumn_3 ?_
  refine ev_iadd (pc := 4) dX4_turnColumn_4 ?_
  refine ev_istore_n (L' := [some (.inr 10), some (.inl x0), some (.inl x1), some (.inl (x0 + (x1 * 4))), none, none, none]) (pc := 5) dX4_turnColumn_5 (Nat.le_of_ble_eq_true rfl) rfl ?_
  refine ev_aload_n (v := 10) (pc := 6) dX4_turnColumn_6 rfl ?_
  refine ev_getr (q := 11) (pc := 7) dX4_turnColumn_7 fl_RX4_9 rfl rfl ?_
  refine ev_sipush (v := 599) (pc := 10) dX4_turnColumn_10 ks_599 ?_
  refine ev_iload_n (v := x1) (pc := 13) dX4_turnColumn_13 rfl ?_
  refine ev_iadd (pc := 14) dX4_turnColumn_14 ?_
  refine ev_iald (pc := 15) dX4_turnColumn_15 rfl e2 ?_
  refine ev_iconst (v := 1) (pc := 16) dX4_turnColumn_16 ki_1 ?_
  refine ev_isub (pc := 17) dX4_turnColumn_17 ?_
  refine ev_istore (L' := [some (.inr 10), some (.inl x0), some (.inl x1), some (.inl (x0 + (x1 * 4))), some (.inl (v1 - 1)), none, none]) (pc := 18) dX4_turnColumn_18 (Nat.le_of_ble_eq_true rfl) rfl ?_
  refine ev_aload_n (v := 10) (pc := 20) dX4_turnColumn_20 rfl ?_
  refine ev_getr (q := 11) (pc := 21) dX4_turnColumn_21 fl_RX4_9 rfl rfl ?_
  refine ev_iload_n (v := (x0 + (x1 * 4))) (pc := 24) dX4_turnColumn_24 rfl ?_
  refine ev_iald (pc := 25) dX4_turnColumn_25 rfl e4 ?_
  refine ev_istore (L' := [some (.inr 10), some (.inl x0), some (.inl x1), some (.inl (x0 + (x1 * 4))), some (.inl (v1 - 1)), some (.inl v3), none]) (pc := 26) dX4_turnColumn_26 (Nat.le_of_ble_eq_true rfl) rfl ?_
  refine ev_iconst (v := 0) (pc := 28) dX4_turnColumn_28 ki_0 ?_
  refine ev_istore (L' := [some (.inr 10), some (.inl x0), some (.inl x1), some (.inl (x0 + (x1 * 4))), some (.inl (v1 - 1)), some (.inl v3), some (.inl 0)]) (pc := 29) dX4_turnColumn_29 (Nat.le_of_ble_eq_true rfl) rfl ?_
  obtain ⟨q6, l7, h⟩ := rb_bd h
  have hx11 : rb_Ev RX4 cX4_turnColumn 7 none none 0 none (rb_ov μ [(11, o)]) 70 [some (.inr 10), none, none, some (.inl (x0 + (x1 * 4))), some (.inl (v1 - 1)), some (.inl v3), none] [] (rb_ov μ [(11, q6)]) := by
    refine ev_iload (v := (v1 - 1)) (pc := 70) dX4_turnColumn_70 rfl ?_
    by_cases b19 : (v1 - 1) < 0
    · rw [if_pos b19] at h
      refine ev_if_lt_t (t := 92) (pc := 72) dX4_turnColumn_72 (by decide) b19 ?_
      obtain rfl := Option.some.inj h
      exact ev_ret (pc := 92) dX4_turnColumn_92 rfl rfl (hfin _)
    · rw [if_neg b19] at h
      refine ev_if_lt_f (t := 92) (pc := 72) dX4_turnColumn_72 (by decide) b19 ?_
      refine ev_iload (v := (v1 - 1)) (pc := 75) dX4_turnColumn_75 rfl ?_
      refine ev_iconst (v := 4) (pc := 77) dX4_turnColumn_77 ki_4 ?_
      by_cases b20 : 4 ≤ (v1 - 1)
      · rw [if_pos b20] at h
        refine ev_icmp_ge_t (t := 92) (pc := 78) dX4_turnColumn_78 (by decide) b20 ?_
        obtain rfl := Option.some.inj h
        exact ev_ret (pc := 92) dX4_turnColumn_92 rfl rfl (hfin _)
      · rw [if_neg b20] at h
        refine ev_icmp_ge_f (t := 92) (pc := 78) dX4_turnColumn_78 (by decide) b20 ?_
        obtain ⟨c21, e22, h⟩ := rb_bd h
        refine ev_aload_n (v := 10) (pc := 81) dX4_turnColumn_81 rfl ?_
        refine ev_getr (q := 11) (pc := 82) dX4_turnColumn_82 fl_RX4_9 rfl rfl ?_
        refine ev_iload_n (v := (x0 + (x1 * 4))) (pc := 85) dX4_turnColumn_85 rfl ?_
        refine ev_iload (v := (v1 - 1)) (pc := 86) dX4_turnColumn_86 rfl ?_
        refine ev_iadd (pc := 88) dX4_turnColumn_88 ?_
        refine ev_iload (v := v3) (pc := 89) dX4_turnColumn_89 rfl ?_
        refine ev_iast (w' := [(11, c21)]) (pc := 91) dX4_turnColumn_91 rfl e22 rfl ?_
        obtain rfl := Option.some.inj h
        exact ev_ret (pc := 92) dX4_turnColumn_92 rfl rfl (hfin _)
  refine ev_fg (L := [some (.inr 10), none, none, some (.inl (x0 + (x1 * 4))), some (.inl (v1 - 1)), some (.inl v3), some (.inl 0)]) (And.intro rfl (And.intro rfl (And.intro rfl (And.intro rfl (And.intro rfl True.intro))))) ?_
  refine rb_lp_ev (P := fun (s5 : Int32 × rb_Row) => rb_Ev RX4 cX4_turnColumn 7 none none 0 none (rb_ov μ [(11, o)]) 31 [some (.inr 10), none, none, some (.inl (x0 + (x1 * 4))), some (.inl (v1 - 1)), some (.inl v3), some (.inl s5.1)] [] (rb_ov μ [(11, s5.2)])) ?_ 100000 (0, c) l7
  intro s5 y8 h ih9 hE10
  refine ev_iload (v := s5.1) (pc := 31) dX4_turnColumn_31 rfl ?_
  refine ev_iload (v := (v1 - 1)) (pc := 33) dX4_turnColumn_33 rfl ?_
  by_cases b13 : (v1 - 1) ≤ s5.1
  · rw [if_pos b13] at h
    refine ev_icmp_ge_t (t := 70) (pc := 35) dX4_turnColumn_35 (by decide) b13 ?_
    obtain rfl := Option.some.inj h
    obtain rfl := hE10 _ rfl
    exact ev_fg (L := [some (.inr 10), none, none, some (.inl (x0 + (x1 * 4))), some (.inl (v1 - 1)), some (.inl v3), none]) (And.intro rfl (And.intro rfl (And.intro rfl (And.intro rfl True.intro)))) (hx11)
  · rw [if_neg b13] at h
    refine ev_icmp_ge_f (t := 70) (pc := 35) dX4_turnColumn_35 (by decide) b13 ?_
    refine ev_iload (v := s5.1) (pc := 38) dX4_turnColumn_38 rfl ?_
    refine ev_iconst (v := 3) (pc := 40) dX4_turnColumn_40 ki_3 ?_
    by_cases b14 : 3 ≤ s5.1
    · rw [if_pos b14] at h
      refine ev_icmp_ge_t (t := 70) (pc := 41) dX4_turnColumn_41 (by decide) b14 ?_
      obtain rfl := Option.some.inj h
      obtain rfl := hE10 _ rfl
      exact ev_fg (L := [some (.inr 10), none, none, some (.inl (x0 + (x1 * 4))), some (.inl (v1 - 1)), some (.inl v3), none]) (And.intro rfl (And.intro rfl (And.intro rfl (And.intro rfl True.intro)))) (hx11)
    · rw [if_neg b14] at h
      refine ev_icmp_ge_f (t := 70) (pc := 41) dX4_turnColumn_41 (by decide) b14 ?_
      obtain ⟨v15, e16, h⟩ := rb_bd h
      obtain ⟨c17, e18, h⟩ := rb_bd h
      refine ev_aload_n (v := 10) (pc := 44) dX4_turnColumn_44 rfl ?_
      refine ev_getr (q := 11) (pc := 45) dX4_turnColumn_45 fl_RX4_9 rfl rfl ?_
      refine ev_iload_n (v := (x0 + (x1 * 4))) (pc := 48) dX4_turnColumn_48 rfl ?_
      refine ev_iload (v := s5.1) (pc := 49) dX4_turnColumn_49 rfl ?_
      refine ev_iadd (pc := 51) dX4_turnColumn_51 ?_
      refine ev_aload_n (v := 10) (pc := 52) dX4_turnColumn_52 rfl ?_
      refine ev_getr (q := 11) (pc := 53) dX4_turnColumn_53 fl_RX4_9 rfl rfl ?_
      refine ev_iload_n (v := (x0 + (x1 * 4))) (pc := 56) dX4_turnColumn_56 rfl ?_
      refine ev_iload (v := s5.1) (pc := 57) dX4_turnColumn_57 rfl ?_
      refine ev_iadd (pc := 59) dX4_turnColumn_59 ?_
      refine ev_iconst (v := 1) (pc := 60) dX4_turnColumn_60 ki_1 ?_
      refine ev_iadd (pc := 61) dX4_turnColumn_61 ?_
      refine ev_iald (pc := 62) dX4_turnColumn_62 rfl e16 ?_
      refine ev_iast (w' := [(11, c17)]) (pc := 63) dX4_turnColumn_63 rfl e18 rfl ?_
      refine ev_iinc (x := s5.1) (v := (s5.1 + 1)) (L' := [some (.inr 10), none, none, some (.inl (x0 + (x1 * 4))), some (.inl (v1 - 1)), some (.inl v3), some (.inl (s5.1 + 1))]) (pc := 64) dX4_turnColumn_64 rfl (kx_1 _) (Nat.le_of_ble_eq_true rfl) rfl ?_
      refine ev_goto (t := 31) (pc := 67) dX4_turnColumn_67 (by decide) ?_
      obtain rfl := Option.some.inj h
      exact ih9 ((s5.1 + 1), c17) rfl
def XX4_turnProgram (c : rb_Row) (x0 : Int32) : Option (rb_Row) := (XX4_turnColumn c 605 x0).bind fun t1 => (XX4_turnColumn t1 629 x0).bind fun t3 => (XX4_turnColumn t3 653 x0).bind fun t5 => (rb_rd t5 773 (593 + x0)).bind fun v7 => if v7 = 0 then (rb_rd t5 773 (599 + x0)).bind fun v10 => if v10 ≤ 0 then some t5 else (rb_rd t5 773 (599 + x0)).bind fun v13 => (rb_wr t5 773 (599 + x0) (v13 - 1)).bind fun c15 => some c15 else some t5
set_option maxHeartbeats 4000000 in
set_option maxRecDepth 20000 in
theorem ct0_X4_turnProgram (μ : rb_Mem) (c : rb_Row) (x0 : Int32) (o : rb_Row) (hc : μ 5 = c) (h : XX4_turnProgram c x0 = some o) : rb_Ct yX4_turnProgram cX4_turnProgram 2 none 1 [.inr 4, .inl x0] μ none (rb_ov μ [(5, o)]) := by
  unfold XX4_turnProgram at h
  have hini : rb_ov μ [(5, c)] = μ := rb_ov_sf _ _ (And.intro hc True.intro)
  have hfin : ∀ u0 : rb_Row, rb_ov μ [(5, u0)] = rb_ov μ [(5, u0)] := fun u0 => rfl
  refine rb_ctv (w := [(5, c)]) rfl pn_4 (Nat.le_of_ble_eq_true rfl) rfl hini ?_
  obtain ⟨t1, e2, h⟩ := rb_bd h
  obtain ⟨t3, e4, h⟩ := rb_bd h
  obtain ⟨t5, e6, h⟩ := rb_bd h
  obtain ⟨v7, e8, h⟩ := rb_bd h
  refine ev_aload_n (v := 4) (pc := 0) dX4_turnProgram_0 rfl ?_
  refine ev_sipush (v := 605) (pc := 1) dX4_turnProgram_1 ks_605 ?_
  refine ev_iload_n (v := x0) (pc := 4) dX4_turnProgram_4 rfl ?_
  refine ev_cVv2w (w' := [(5, t1)]) (pc := 5) dX4_turnProgram_5 mv_X4_turnColumn lk_RX4_26 rp_4 (ct0_X4_turnColumn _ _ _ _ _ rfl e2) (Nat.le_of_ble_eq_true rfl) (Nat.le_of_ble_eq_true rfl) rfl ?_
  refine ev_aload_n (v := 4) (pc := 8) dX4_turnProgram_8 rfl ?_
  refine ev_sipush (v := 629) (pc := 9) dX4_turnProgram_9 ks_629 ?_
  refine ev_iload_n (v := x0) (pc := 12) dX4_turnProgram_12 rfl ?_
  refine ev_cVv2w (w' := [(5, t3)]) (pc := 13) dX4_turnProgram_13 mv_X4_turnColumn lk_RX4_26 rp_4 (ct0_X4_turnColumn _ _ _ _ _ rfl e4) (Nat.le_of_ble_eq_true rfl) (Nat.le_of_ble_eq_true rfl) rfl ?_
  refine ev_aload_n (v := 4) (pc := 16) dX4_turnProgram_16 rfl ?_
  refine ev_sipush (v := 653) (pc := 17) dX4_turnProgram_17 ks_653 ?_
  refine ev_iload_n (v := x0) (pc := 20) dX4_turnProgram_20 rfl ?_
  refine ev_cVv2w (w' := [(5, t5)]) (pc := 21) dX4_turnProgram_21 mv_X4_turnColumn lk_RX4_26 rp_4 (ct0_X4_turnColumn _ _ _ _ _ rfl e6) (Nat.le_of_ble_eq_true rfl) (Nat.le_of_ble_eq_true rfl) rfl ?_
  refine ev_aload_n (v := 4) (pc := 24) dX4_turnProgram_24 rfl ?_
  refine ev_getr (q := 5) (pc := 25) dX4_turnProgram_25 fl_RX4_9 rfl rfl ?_
  refine ev_sipush (v := 593) (pc := 28) dX4_turnProgram_28 ks_593 ?_
  refine ev_iload_n (v := x0) (pc := 31) dX4_turnProgram_31 rfl ?_
  refine ev_iadd (pc := 32) dX4_turnProgram_32 ?_
  refine ev_iald (pc := 33) dX4_turnProgram_33 rfl e8 ?_
  by_cases b9 : v7 = 0
  · rw [if_pos b9] at h
    refine ev_if_ne_f (t := 64) (pc := 34) dX4_turnProgram_34 (by decide) b9 ?_
    obtain ⟨v10, e11, h⟩ := rb_bd h
    refine ev_aload_n (v := 4) (pc := 37) dX4_turnProgram_37 rfl ?_
    refine ev_getr (q := 5) (pc := 38) dX4_turnProgram_38 fl_RX4_9 rfl rfl ?_
    refine ev_sipush (v := 599) (pc := 41) dX4_turnProgram_41 ks_599 ?_
    refine ev_iload_n (v := x0) (pc := 44) dX4_turnProgram_44 rfl ?_
    refine ev_iadd (pc := 45) dX4_turnProgram_45 ?_
    refine ev_iald (pc := 46) dX4_turnProgram_46 rfl e11 ?_
    by_cases b12 : v10 ≤ 0
    · rw [if_pos b12] at h
      refine ev_if_le_t (t := 64) (pc := 47) dX4_turnProgram_47 (by decide) b12 ?_
      obtain rfl := Option.some.inj h
      exact ev_ret (pc := 64) dX4_turnProgram_64 rfl rfl (hfin _)
    · rw [if_neg b12] at h
      refine ev_if_le_f (t := 64) (pc := 47) dX4_turnProgram_47 (by decide) b12 ?_
      obtain ⟨v13, e14, h⟩ := rb_bd h
      obtain ⟨c15, e16, h⟩ := rb_bd h
      refine ev_aload_n (v := 4) (pc := 50) dX4_turnProgram_50 rfl ?_
      refine ev_getr (q := 5) (pc := 51) dX4_turnProgram_51 fl_RX4_9 rfl rfl ?_
      refine ev_sipush (v := 599) (pc := 54) dX4_turnProgram_54 ks_599 ?_
      refine ev_iload_n (v := x0) (pc := 57) dX4_turnProgram_57 rfl ?_
      refine ev_iadd (pc := 58) dX4_turnProgram_58 ?_
      refine ev_dup2 (pc := 59) dX4_turnProgram_59 ?_
      refine ev_iald (pc := 60) dX4_turnProgram_60 rfl e14 ?_
      refine ev_iconst (v := 1) (pc := 61) dX4_turnProgram_61 ki_1 ?_
      refine ev_isub (pc := 62) dX4_turnProgram_62 ?_
      refine ev_iast (w' := [(5, c15)]) (pc := 63) dX4_turnProgram_63 rfl e16 rfl ?_
      obtain rfl := Option.some.inj h
      exact ev_ret (pc := 64) dX4_turnProgram_64 rfl rfl (hfin _)
  · rw [if_neg b9] at h
    refine ev_if_ne_t (t := 64) (pc := 34) dX4_turnProgram_34 (by decide) b9 ?_
    obtain rfl := Option.some.inj h
    exact ev_ret (pc := 64) dX4_turnProgram_64 rfl rfl (hfin _)
set_option maxHeartbeats 4000000 in
set_option maxRecDepth 20000 in
theorem ct1_X4_turnProgram (μ : rb_Mem) (c : rb_Row) (x0 : Int32) (o : rb_Row) (hc : μ 11 = c) (h : XX4_turnProgram c x0 = some o) : rb_Ct yX4_turnProgram cX4_turnProgram 2 none 1 [.inr 10, .inl x0] μ none (rb_ov μ [(11, o)]) := by
  unfold XX4_turnProgram at h
  have hini : rb_ov μ [(11, c)] = μ := rb_ov_sf _ _ (And.intro hc True.intro)
  have hfin : ∀ u0 : rb_Row, rb_ov μ [(11, u0)] = rb_ov μ [(11, u0)] := fun u0 => rfl
  refine rb_ctv (w := [(11, c)]) rfl pn_4 (Nat.le_of_ble_eq_true rfl) rfl hini ?_
  obtain ⟨t1, e2, h⟩ := rb_bd h
  obtain ⟨t3, e4, h⟩ := rb_bd h
  obtain ⟨t5, e6, h⟩ := rb_bd h
  obtain ⟨v7, e8, h⟩ := rb_bd h
  refine ev_aload_n (v := 10) (pc := 0) dX4_turnProgram_0 rfl ?_
  refine ev_sipush (v := 605) (pc := 1) dX4_turnProgram_1 ks_605 ?_
  refine ev_iload_n (v := x0) (pc := 4) dX4_turnProgram_4 rfl ?_
  refine ev_cVv2w (w' := [(11, t1)]) (pc := 5) dX4_turnProgram_5 mv_X4_turnColumn lk_RX4_26 rp_10 (ct1_X4_turnColumn _ _ _ _ _ rfl e2) (Nat.le_of_ble_eq_true rfl) (Nat.le_of_ble_eq_true rfl) rfl ?_
  refine ev_aload_n (v := 10) (pc := 8) dX4_turnProgram_8 rfl ?_
  refine ev_sipush (v := 629) (pc := 9) dX4_turnProgram_9 ks_629 ?_
  refine ev_iload_n (v := x0) (pc := 12) dX4_turnProgram_12 rfl ?_
  refine ev_cVv2w (w' := [(11, t3)]) (pc := 13) dX4_turnProgram_13 mv_X4_turnColumn lk_RX4_26 rp_10 (ct1_X4_turnColumn _ _ _ _ _ rfl e4) (Nat.le_of_ble_eq_true rfl) (Nat.le_of_ble_eq_true rfl) rfl ?_
  refine ev_aload_n (v := 10) (pc := 16) dX4_turnProgram_16 rfl ?_
  refine ev_sipush (v := 653) (pc := 17) dX4_turnProgram_17 ks_653 ?_
  refine ev_iload_n (v := x0) (pc := 20) dX4_turnProgram_20 rfl ?_
  refine ev_cVv2w (w' := [(11, t5)]) (pc := 21) dX4_turnProgram_21 mv_X4_turnColumn lk_RX4_26 rp_10 (ct1_X4_turnColumn _ _ _ _ _ rfl e6) (Nat.le_of_ble_eq_true rfl) (Nat.le_of_ble_eq_true rfl) rfl ?_
  refine ev_aload_n (v := 10) (pc := 24) dX4_turnProgram_24 rfl ?_
  refine ev_getr (q := 11) (pc := 25) dX4_turnProgram_25 fl_RX4_9 rfl rfl ?_
  refine ev_sipush (v := 593) (pc := 28) dX4_turnProgram_28 ks_593 ?_
  refine ev_iload_n (v := x0) (pc := 31) dX4_turnProgram_31 rfl ?_
  refine ev_iadd (pc := 32) dX4_turnProgram_32 ?_
  refine ev_iald (pc := 33) dX4_turnProgram_33 rfl e8 ?_
  by_cases b9 : v7 = 0
  · rw [if_pos b9] at h
    refine ev_if_ne_f (t := 64) (pc := 34) dX4_turnProgram_34 (by decide) b9 ?_
    obtain ⟨v10, e11, h⟩ := rb_bd h
    refine ev_aload_n (v := 10) (pc := 37) dX4_turnProgram_37 rfl ?_
    refine ev_getr (q := 11) (pc := 38) dX4_turnProgram_38 fl_RX4_9 rfl rfl ?_
    refine ev_sipush (v := 599) (pc := 41) dX4_turnProgram_41 ks_599 ?_
    refine ev_iload_n (v := x0) (pc := 44) dX4_turnProgram_44 rfl ?_
    refine ev_iadd (pc := 45) dX4_turnProgram_45 ?_
    refine ev_iald (pc := 46) dX4_turnProgram_46 rfl e11 ?_
    by_cases b12 : v10 ≤ 0
    · rw [if_pos b12] at h
      refine ev_if_le_t (t := 64) (pc := 47) dX4_turnProgram_47 (by decide) b12 ?_
      obtain rfl := Option.some.inj h
      exact ev_ret (pc := 64) dX4_turnProgram_64 rfl rfl (hfin _)
    · rw [if_neg b12] at h
      refine ev_if_le_f (t := 64) (pc := 47) dX4_turnProgram_47 (by decide) b12 ?_
      obtain ⟨v13, e14, h⟩ := rb_bd h
      obtain ⟨c15, e16, h⟩ := rb_bd h
      refine ev_aload_n (v := 10) (pc := 50) dX4_turnProgram_50 rfl ?_
      refine ev_getr (q := 11) (pc := 51) dX4_turnProgram_51 fl_RX4_9 rfl rfl ?_
      refine ev_sipush (v := 599) (pc := 54) dX4_turnProgram_54 ks_599 ?_
      refine ev_iload_n (v := x0) (pc := 57) dX4_turnProgram_57 rfl ?_
      refine ev_iadd (pc := 58) dX4_turnProgram_58 ?_
      refine ev_dup2 (pc := 59) dX4_turnProgram_59 ?_
      refine ev_iald (pc := 60) dX4_turnProgram_60 rfl e14 ?_
      refine ev_iconst (v := 1) (pc := 61) dX4_turnProgram_61 ki_1 ?_
      refine ev_isub (pc := 62) dX4_turnProgram_62 ?_
      refine ev_iast (w' := [(11, c15)]) (pc := 63) dX4_turnProgram_63 rfl e16 rfl ?_
      obtain rfl := Option.some.inj h
      exact ev_ret (pc := 64) dX4_turnProgram_64 rfl rfl (hfin _)
  · rw [if_neg b9] at h
    refine ev_if_ne_t (t := 64) (pc := 34) dX4_turnProgram_34 (by decide) b9 ?_
    obtain rfl := Option.some.inj h
    exact ev_ret (pc := 64) dX4_turnProgram_64 rfl rfl (hfin _)
def XX1_aimedAt (c : rb_Row) (x0 : Int32) : Option (Int32) := (XX1_countOf c 323 x0).bind fun t1 => some t1
set_option maxHeartbeats 4000000 in
set_option maxRecDepth 20000 in
theorem ct0_X1_aimedAt (μ : rb_Mem) (c : rb_Row) (x0 : Int32) (o : Int32) (hc : μ 5 = c) (h : XX1_aimedAt c x0 = some o) : rb_Ct yX1_aimedAt cX1_aimedAt 2 (some .int) 1 [.inr 3, .inl x0] μ (some o) μ := by
  unfold XX1_aimedAt at h
  have hini : rb_ov μ [(5, c)] = μ := rb_ov_sf _ _ (And.intro hc True.intro)
  have hfin := hini
  refine rb_cti (w := [(5, c)]) rfl pn_1 (Nat.le_of_ble_eq_true rfl) rfl hini ?_
  obtain ⟨t1, e2, h⟩ := rb_bd h
  refine ev_aload_n (v := 3) (pc := 0) dX1_aimedAt_0 rfl ?_
  refine ev_sipush (v := 323) (pc := 1) dX1_aimedAt_1 ks_323 ?_
  refine ev_iload_n (v := x0) (pc := 4) dX1_aimedAt_4 rfl ?_
  refine ev_cVi2 (pc := 5) dX1_aimedAt_5 mv_X1_countOf lk_RX1_15 rp_3 (ct0_X1_countOf _ _ _ _ _ rfl e2) (Nat.le_of_ble_eq_true rfl) (Nat.le_of_ble_eq_true rfl) ?_
  obtain rfl := Option.some.inj h
  exact ev_iret (pc := 8) dX1_aimedAt_8 rfl rfl rfl hfin
set_option maxHeartbeats 4000000 in
set_option maxRecDepth 20000 in
theorem ct1_X1_aimedAt (μ : rb_Mem) (c : rb_Row) (x0 : Int32) (o : Int32) (hc : μ 11 = c) (h : XX1_aimedAt c x0 = some o) : rb_Ct yX1_aimedAt cX1_aimedAt 2 (some .int) 1 [.inr 9, .inl x0] μ (some o) μ := by
  unfold XX1_aimedAt at h
  have hini : rb_ov μ [(11, c)] = μ := rb_ov_sf _ _ (And.intro hc True.intro)
  have hfin := hini
  refine rb_cti (w := [(11, c)]) rfl pn_1 (Nat.le_of_ble_eq_true rfl) rfl hini ?_
  obtain ⟨t1, e2, h⟩ := rb_bd h
  refine ev_aload_n (v := 9) (pc := 0) dX1_aimedAt_0 rfl ?_
  refine ev_sipush (v := 323) (pc := 1) dX1_aimedAt_1 ks_323 ?_
  refine ev_iload_n (v := x0) (pc := 4) dX1_aimedAt_4 rfl ?_
  refine ev_cVi2 (pc := 5) dX1_aimedAt_5 mv_X1_countOf lk_RX1_15 rp_9 (ct1_X1_countOf _ _ _ _ _ rfl e2) (Nat.le_of_ble_eq_true rfl) (Nat.le_of_ble_eq_true rfl) ?_
  obtain rfl := Option.some.inj h
  exact ev_iret (pc := 8) dX1_aimedAt_8 rfl rfl rfl hfin
def XX1_ofSet (c : rb_Row) (x0 : Int32) (x1 : Int32) : Option (Int32) := (rb_rd c 773 2).bind fun v1 => (rb_lp (ρ := (Unit) ⊕ (Int32)) (fun (s3 : Int32 × Int32) => if v1 ≤ s3.2 then some (.inr (.inl ())) else (rb_rd c 773 (299 + s3.2)).bind fun v13 => if v13 = x0 then if s3.1 = x1 then some (.inr (.inr s3.2)) else some (.inl ((s3.1 + 1), (s3.2 + 1))) else some (.inl (s3.1, (s3.2 + 1)))) 100000 (0, 0)).bind fun q4 => Sum.elim (fun (z11 : Unit) => some (-1)) (fun (w17 : Int32) => some w17) q4
set_option maxHeartbeats 4000000 in
set_option maxRecDepth 20000 in
theorem ct0_X1_ofSet (μ : rb_Mem) (c : rb_Row) (x0 : Int32) (x1 : Int32) (o : Int32) (hc : μ 5 = c) (h : XX1_ofSet c x0 x1 = some o) : rb_Ct yX1_ofSet cX1_ofSet 6 (some .int) 0 [.inr 3, .inl x0, .inl x1] μ (some o) μ := by
  unfold XX1_ofSet at h
  have hini : rb_ov μ [(5, c)] = μ := rb_ov_sf _ _ (And.intro hc True.intro)
  have hfin := hini
  refine rb_cti (w := [(5, c)]) rfl pn_1 (Nat.le_of_ble_eq_true rfl) rfl hini ?_
  obtain ⟨v1, e2, h⟩ := rb_bd h
  refine ev_aload_n (v := 3) (pc := 0) dX1_ofSet_0 rfl ?_
  refine ev_getr (q := 5) (pc := 1) dX1_ofSet_1 fl_RX1_9 rfl rfl ?_
  refine ev_iconst (v := 2) (pc := 4) dX1_ofSet_4 ki_2 ?_
  refine ev_iald (pc := 5) dX1_ofSet_5 rfl e2 ?_
  refine ev_istore_n (L' := [some (.inr 3), some (.inl x0), some (.inl x1), some (.inl v1), none, none]) (pc := 6) dX1_ofSet_6 (Nat.le_of_ble_eq_true rfl) rfl ?_
  refine ev_iconst (v := 0) (pc := 7) dX1_ofSet_7 ki_0 ?_
  refine ev_istore (L' := [some (.inr 3), some (.inl x0), some (.inl x1), some (.inl v1), some (.inl 0), none]) (pc := 8) dX1_ofSet_8 (Nat.le_of_ble_eq_true rfl) rfl ?_
  refine ev_iconst (v := 0) (pc := 10) dX1_ofSet_10 ki_0 ?_
  refine ev_istore (L' := [some (.inr 3), some (.inl x0), some (.inl x1), some (.inl v1), some (.inl 0), some (.inl 0)]) (pc := 11) dX1_ofSet_11 (Nat.le_of_ble_eq_true rfl) rfl ?_
  obtain ⟨q4, l5, h⟩ := rb_bd h
  have hx9 : ∀ z11 : Unit, q4 = .inl z11 → rb_Ev RX1 cX1_ofSet 6 (some .int) none 0 (some o) μ 52 [none, none, none, none, none, none] [] (rb_ov μ [(5, c)]) := by
    intro z11 hz
    rw [hz] at h
    replace h := rb_sel h
    refine ev_iconst (v := (-1)) (pc := 52) dX1_ofSet_52 ki_m1 ?_
    obtain rfl := Option.some.inj h
    exact ev_iret (pc := 53) dX1_ofSet_53 rfl rfl rfl hfin
  have hr10 : ∀ w17 : Int32, q4 = .inr w17 → w17 = o := by
    intro w17 hz
    rw [hz] at h
    replace h := rb_ser h
    exact Option.some.inj h
  refine rb_lp_ev (P := fun (s3 : Int32 × Int32) => rb_Ev RX1 cX1_ofSet 6 (some .int) none 0 (some o) μ 13 [some (.inr 3), some (.inl x0), some (.inl x1), some (.inl v1), some (.inl s3.1), some (.inl s3.2)] [] (rb_ov μ [(5, c)])) ?_ 100000 (0, 0) l5
  intro s3 y6 h ih7 hE8
  refine ev_iload (v := s3.2) (pc := 13) dX1_ofSet_13 rfl ?_
  refine ev_iload_n (v := v1) (pc := 15) dX1_ofSet_15 rfl ?_
  by_cases b12 : v1 ≤ s3.2
  · rw [if_pos b12] at h
    refine ev_icmp_ge_t (t := 52) (pc := 16) dX1_ofSet_16 (by decide) b12 ?_
    obtain rfl := Option.some.inj h
    exact ev_fg (L := [none, none, none, none, none, none]) True.intro (hx9 () (hE8 _ rfl).symm)
  · rw [if_neg b12] at h
    refine ev_icmp_ge_f (t := 52) (pc := 16) dX1_ofSet_16 (by decide) b12 ?_
    obtain ⟨v13, e14, h⟩ := rb_bd h
    refine ev_aload_n (v := 3) (pc := 19) dX1_ofSet_19 rfl ?_
    refine ev_getr (q := 5) (pc := 20) dX1_ofSet_20 fl_RX1_9 rfl rfl ?_
    refine ev_sipush (v := 299) (pc := 23) dX1_ofSet_23 ks_299 ?_
    refine ev_iload (v := s3.2) (pc := 26) dX1_ofSet_26 rfl ?_
    refine ev_iadd (pc := 28) dX1_ofSet_28 ?_
    refine ev_iald (pc := 29) dX1_ofSet_29 rfl e14 ?_
    refine ev_iload_n (v := x0) (pc := 30) dX1_ofSet_30 rfl ?_
    by_cases b15 : v13 = x0
    · rw [if_pos b15] at h
      refine ev_icmp_ne_f (t := 46) (pc := 31) dX1_ofSet_31 (by decide) b15 ?_
      refine ev_iload (v := s3.1) (pc := 34) dX1_ofSet_34 rfl ?_
      refine ev_iload_n (v := x1) (pc := 36) dX1_ofSet_36 rfl ?_
      by_cases b16 : s3.1 = x1
      · rw [if_pos b16] at h
        refine ev_icmp_ne_f (t := 43) (pc := 37) dX1_ofSet_37 (by decide) b16 ?_
        refine ev_iload (v := s3.2) (pc := 40) dX1_ofSet_40 rfl ?_
        obtain rfl := Option.some.inj h
        obtain rfl := hr10 _ (hE8 _ rfl).symm
        exact ev_iret (pc := 42) dX1_ofSet_42 rfl rfl rfl hfin
      · rw [if_neg b16] at h
        refine ev_icmp_ne_t (t := 43) (pc := 37) dX1_ofSet_37 (by decide) b16 ?_
        refine ev_iinc (x := s3.1) (v := (s3.1 + 1)) (L' := [some (.inr 3), some (.inl x0), some (.inl x1), some (.inl v1), some (.inl (s3.1 + 1)), some (.inl s3.2)]) (pc := 43) dX1_ofSet_43 rfl (kx_1 _) (Nat.le_of_ble_eq_true rfl) rfl ?_
        refine ev_iinc (x := s3.2) (v := (s3.2 + 1)) (L' := [some (.inr 3), some (.inl x0), some (.inl x1), some (.inl v1), some (.inl (s3.1 + 1)), some (.inl (s3.2 + 1))]) (pc := 46) dX1_ofSet_46 rfl (kx_1 _) (Nat.le_of_ble_eq_true rfl) rfl ?_
        refine ev_goto (t := 13) (pc := 49) dX1_ofSet_49 (by decide) ?_
        obtain rfl := Option.some.inj h
        exact ih7 ((s3.1 + 1), (s3.2 + 1)) rfl
    · rw [if_neg b15] at h
      refine ev_icmp_ne_t (t := 46) (pc := 31) dX1_ofSet_31 (by decide) b15 ?_
      refine ev_iinc (x := s3.2) (v := (s3.2 + 1)) (L' := [some (.inr 3), some (.inl x0), some (.inl x1), some (.inl v1), some (.inl s3.1), some (.inl (s3.2 + 1))]) (pc := 46) dX1_ofSet_46 rfl (kx_1 _) (Nat.le_of_ble_eq_true rfl) rfl ?_
      refine ev_goto (t := 13) (pc := 49) dX1_ofSet_49 (by decide) ?_
      obtain rfl := Option.some.inj h
      exact ih7 (s3.1, (s3.2 + 1)) rfl
set_option maxHeartbeats 4000000 in
set_option maxRecDepth 20000 in
theorem ct1_X1_ofSet (μ : rb_Mem) (c : rb_Row) (x0 : Int32) (x1 : Int32) (o : Int32) (hc : μ 11 = c) (h : XX1_ofSet c x0 x1 = some o) : rb_Ct yX1_ofSet cX1_ofSet 6 (some .int) 0 [.inr 9, .inl x0, .inl x1] μ (some o) μ := by
  unfold XX1_ofSet at h
  have hini : rb_ov μ [(11, c)] = μ := rb_ov_sf _ _ (And.intro hc True.intro)
  have hfin := hini
  refine rb_cti (w := [(11, c)]) rfl pn_1 (Nat.le_of_ble_eq_true rfl) rfl hini ?_
  obtain ⟨v1, e2, h⟩ := rb_bd h
  refine ev_aload_n (v := 9) (pc := 0) dX1_ofSet_0 rfl ?_
  refine ev_getr (q := 11) (pc := 1) dX1_ofSet_1 fl_RX1_9 rfl rfl ?_
  refine ev_iconst (v := 2) (pc := 4) dX1_ofSet_4 ki_2 ?_
  refine ev_iald (pc := 5) dX1_ofSet_5 rfl e2 ?_
  refine ev_istore_n (L' := [some (.inr 9), some (.inl x0), some (.inl x1), some (.inl v1), none, none]) (pc := 6) dX1_ofSet_6 (Nat.le_of_ble_eq_true rfl) rfl ?_
  refine ev_iconst (v := 0) (pc := 7) dX1_ofSet_7 ki_0 ?_
  refine ev_istore (L' := [some (.inr 9), some (.inl x0), some (.inl x1), some (.inl v1), some (.inl 0), none]) (pc := 8) dX1_ofSet_8 (Nat.le_of_ble_eq_true rfl) rfl ?_
  refine ev_iconst (v := 0) (pc := 10) dX1_ofSet_10 ki_0 ?_
  refine ev_istore (L' := [some (.inr 9), some (.inl x0), some (.inl x1), some (.inl v1), some (.inl 0), some (.inl 0)]) (pc := 11) dX1_ofSet_11 (Nat.le_of_ble_eq_true rfl) rfl ?_
  obtain ⟨q4, l5, h⟩ := rb_bd h
  have hx9 : ∀ z11 : Unit, q4 = .inl z11 → rb_Ev RX1 cX1_ofSet 6 (some .int) none 0 (some o) μ 52 [none, none, none, none, none, none] [] (rb_ov μ [(11, c)]) := by
    intro z11 hz
    rw [hz] at h
    replace h := rb_sel h
    refine ev_iconst (v := (-1)) (pc := 52) dX1_ofSet_52 ki_m1 ?_
    obtain rfl := Option.some.inj h
    exact ev_iret (pc := 53) dX1_ofSet_53 rfl rfl rfl hfin
  have hr10 : ∀ w17 : Int32, q4 = .inr w17 → w17 = o := by
    intro w17 hz
    rw [hz] at h
    replace h := rb_ser h
    exact Option.some.inj h
  refine rb_lp_ev (P := fun (s3 : Int32 × Int32) => rb_Ev RX1 cX1_ofSet 6 (some .int) none 0 (some o) μ 13 [some (.inr 9), some (.inl x0), some (.inl x1), some (.inl v1), some (.inl s3.1), some (.inl s3.2)] [] (rb_ov μ [(11, c)])) ?_ 100000 (0, 0) l5
  intro s3 y6 h ih7 hE8
  refine ev_iload (v := s3.2) (pc := 13) dX1_ofSet_13 rfl ?_
  refine ev_iload_n (v := v1) (pc := 15) dX1_ofSet_15 rfl ?_
  by_cases b12 : v1 ≤ s3.2
  · rw [if_pos b12] at h
    refine ev_icmp_ge_t (t := 52) (pc := 16) dX1_ofSet_16 (by decide) b12 ?_
    obtain rfl := Option.some.inj h
    exact ev_fg (L := [none, none, none, none, none, none]) True.intro (hx9 () (hE8 _ rfl).symm)
  · rw [if_neg b12] at h
    refine ev_icmp_ge_f (t := 52) (pc := 16) dX1_ofSet_16 (by decide) b12 ?_
    obtain ⟨v13, e14, h⟩ := rb_bd h
    refine ev_aload_n (v := 9) (pc := 19) dX1_ofSet_19 rfl ?_
    refine ev_getr (q := 11) (pc := 20) dX1_ofSet_20 fl_RX1_9 rfl rfl ?_
    refine ev_sipush (v := 299) (pc := 23) dX1_ofSet_23 ks_299 ?_
    refine ev_iload (v := s3.2) (pc := 26) dX1_ofSet_26 rfl ?_
    refine ev_iadd (pc := 28) dX1_ofSet_28 ?_
    refine ev_iald (pc := 29) dX1_ofSet_29 rfl e14 ?_
    refine ev_iload_n (v := x0) (pc := 30) dX1_ofSet_30 rfl ?_
    by_cases b15 : v13 = x0
    · rw [if_pos b15] at h
      refine ev_icmp_ne_f (t := 46) (pc := 31) dX1_ofSet_31 (by decide) b15 ?_
      refine ev_iload (v := s3.1) (pc := 34) dX1_ofSet_34 rfl ?_
      refine ev_iload_n (v := x1) (pc := 36) dX1_ofSet_36 rfl ?_
      by_cases b16 : s3.1 = x1
      · rw [if_pos b16] at h
        refine ev_icmp_ne_f (t := 43) (pc := 37) dX1_ofSet_37 (by decide) b16 ?_
        refine ev_iload (v := s3.2) (pc := 40) dX1_ofSet_40 rfl ?_
        obtain rfl := Option.some.inj h
        obtain rfl := hr10 _ (hE8 _ rfl).symm
        exact ev_iret (pc := 42) dX1_ofSet_42 rfl rfl rfl hfin
      · rw [if_neg b16] at h
        refine ev_icmp_ne_t (t := 43) (pc := 37) dX1_ofSet_37 (by decide) b16 ?_
        refine ev_iinc (x := s3.1) (v := (s3.1 + 1)) (L' := [some (.inr 9), some (.inl x0), some (.inl x1), some (.inl v1), some (.inl (s3.1 + 1)), some (.inl s3.2)]) (pc := 43) dX1_ofSet_43 rfl (kx_1 _) (Nat.le_of_ble_eq_true rfl) rfl ?_
        refine ev_iinc (x := s3.2) (v := (s3.2 + 1)) (L' := [some (.inr 9), some (.inl x0), some (.inl x1), some (.inl v1), some (.inl (s3.1 + 1)), some (.inl (s3.2 + 1))]) (pc := 46) dX1_ofSet_46 rfl (kx_1 _) (Nat.le_of_ble_eq_true rfl) rfl ?_
        refine ev_goto (t := 13) (pc := 49) dX1_ofSet_49 (by decide) ?_
        obtain rfl := Option.some.inj h
        exact ih7 ((s3.1 + 1), (s3.2 + 1)) rfl
    · rw [if_neg b15] at h
      refine ev_icmp_ne_t (t := 46) (pc := 31) dX1_ofSet_31 (by decide) b15 ?_
      refine ev_iinc (x := s3.2) (v := (s3.2 + 1)) (L' := [some (.inr 9), some (.inl x0), some (.inl x1), some (.inl v1), some (.inl s3.1), some (.inl (s3.2 + 1))]) (pc := 46) dX1_ofSet_46 rfl (kx_1 _) (Nat.le_of_ble_eq_true rfl) rfl ?_
      refine ev_goto (t := 13) (pc := 49) dX1_ofSet_49 (by decide) ?_
      obtain rfl := Option.some.inj h
      exact ih7 (s3.1, (s3.2 + 1)) rfl
def XX1_aheadOf (c : rb_Row) (x0 : Int32) (x1 : Int32) : Option (Int32) := (rb_rd c 773 2).bind fun v1 => (rb_lp (ρ := Int32) (fun (s3 : Int32 × Int32) => if v1 ≤ s3.2 then some (.inr s3.1) else (rb_rd c 773 (299 + s3.2)).bind fun v12 => (rb_rd c 773 (299 + x0)).bind fun v14 => ((if v12 = v14 then (rb_rd c 773 (443 + s3.2)).bind fun v20 => if v20 < 0 then some 0 else (rb_rd c 773 (443 + s3.2)).bind fun v23 => (rb_rd c 773 (443 + x0)).bind fun v25 => if v25 ≤ v23 then some 0 else some 1 else some 0) : Option (Int32)).bind fun j16 => ((if j16 = 0 then some s3.1 else if x1 = 0 then some (s3.1 + 1) else (XX1_tells c s3.2).bind fun t33 => if t33 = 0 then some s3.1 else some (s3.1 + 1)) : Option (Int32)).bind fun j28 => some (.inl (j28, (s3.2 + 1)))) 100000 (0, 0)).bind fun q4 => some q4
set_option maxHeartbeats 4000000 in
set_option maxRecDepth 20000 in
theorem ct0_X1_aheadOf (μ : rb_Mem) (c : rb_Row) (x0 : Int32) (x1 : Int32) (o : Int32) (hc : μ 5 = c) (h : XX1_aheadOf c x0 x1 = some o) : rb_Ct yX1_aheadOf cX1_aheadOf 7 (some .int) 7 [.inr 3, .inl x0, .inl x1] μ (some o) μ := by
  unfold XX1_aheadOf at h
  have hini : rb_ov μ [(5, c)] = μ := rb_ov_sf _ _ (And.intro hc True.intro)
  have hfin := hini
  refine rb_cti (w := [(5, c)]) rfl pn_1 (Nat.le_of_ble_eq_true rfl) rfl hini ?_
  obtain ⟨v1, e2, h⟩ := rb_bd h
  refine ev_aload_n (v := 3) (pc := 0) dX1_aheadOf_0 rfl ?_
  refine ev_getr (q := 5) (pc := 1) dX1_aheadOf_1 fl_RX1_9 rfl rfl ?_
  refine ev_iconst (v := 2) (pc := 4) dX1_aheadOf_4 ki_2 ?_
  refine ev_iald (pc := 5) dX1_aheadOf_5 rfl e2 ?_
  refine ev_istore_n (L' := [some (.inr 3), some (.inl x0), some (.inl x1), some (.inl v1), none, none, none]) (pc := 6) dX1_aheadOf_6 (Nat.le_of_ble_eq_true rfl) rfl ?_
  refine ev_iconst (v := 0) (pc := 7) dX1_aheadOf_7 ki_0 ?_
  refine ev_istore (L' := [some (.inr 3), some (.inl x0), some (.inl x1), some (.inl v1), some (.inl 0), none, none]) (pc := 8) dX1_aheadOf_8 (Nat.le_of_ble_eq_true rfl) rfl ?_
  refine ev_iconst (v := 0) (pc := 10) dX1_aheadOf_10 ki_0 ?_
  refine ev_istore (L' := [some (.inr 3), some (.inl x0), some (.inl x1), some (.inl v1), some (.inl 0), some (.inl 0), none]) (pc := 11) dX1_aheadOf_11 (Nat.le_of_ble_eq_true rfl) rfl ?_
  obtain ⟨q4, l5, h⟩ := rb_bd h
  have hx9 : rb_Ev RX1 cX1_aheadOf 7 (some .int) none 7 (some o) μ 115 [none, none, none, none, some (.inl q4), none, none] [] (rb_ov μ [(5, c)]) := by
    refine ev_iload (v := q4) (pc := 115) dX1_aheadOf_115 rfl ?_
    obtain rfl := Option.some.inj h
    exact ev_iret (pc := 117) dX1_aheadOf_117 rfl rfl rfl hfin
  refine rb_lp_ev (P := fun (s3 : Int32 × Int32) => rb_Ev RX1 cX1_aheadOf 7 (some .int) none 7 (some o) μ 13 [some (.inr 3), some (.inl x0), some (.inl x1), some (.inl v1), some (.inl s3.1), some (.inl s3.2), none] [] (rb_ov μ [(5, c)])) ?_ 100000 (0, 0) l5
  intro s3 y6 h ih7 hE8
  refine ev_iload (v := s3.2) (pc := 13) dX1_aheadOf_13 rfl ?_
  refine ev_iload_n (v := v1) (pc := 15) dX1_aheadOf_15 rfl ?_
  by_cases b11 : v1 ≤ s3.2
  · rw [if_pos b11] at h
    refine ev_icmp_ge_t (t := 115) (pc := 16) dX1_aheadOf_16 (by decide) b11 ?_
    obtain rfl := Option.some.inj h
    obtain rfl := hE8 _ rfl
    exact ev_fg (L := [none, none, none, none, some (.inl s3.1), none, none]) (And.intro rfl True.intro) (hx9)
  · rw [if_neg b11] at h
    refine ev_icmp_ge_f (t := 115) (pc := 16) dX1_aheadOf_16 (by decide) b11 ?_
    obtain ⟨v12, e13, h⟩ := rb_bd h
    obtain ⟨v14, e15, h⟩ := rb_bd h
    refine ev_aload_n (v := 3) (pc := 19) dX1_aheadOf_19 rfl ?_
    refine ev_getr (q := 5) (pc := 20) dX1_aheadOf_20 fl_RX1_9 rfl rfl ?_
    refine ev_sipush (v := 299) (pc := 23) dX1_aheadOf_23 ks_299 ?_
    refine ev_iload (v := s3.2) (pc := 26) dX1_aheadOf_26 rfl ?_
    refine ev_iadd (pc := 28) dX1_aheadOf_28 ?_
    refine ev_iald (pc := 29) dX1_aheadOf_29 rfl e13 ?_
    refine ev_aload_n (v := 3) (pc := 30) dX1_aheadOf_30 rfl ?_
    refine ev_getr (q := 5) (pc := 31) dX1_aheadOf_31 fl_RX1_9 rfl rfl ?_
    refine ev_sipush (v := 299) (pc := 34) dX1_aheadOf_34 ks_299 ?_
    refine ev_iload_n (v := x0) (pc := 37) dX1_aheadOf_37 rfl ?_
    refine ev_iadd (pc := 38) dX1_aheadOf_38 ?_
    refine ev_iald (pc := 39) dX1_aheadOf_39 rfl e15 ?_
    obtain ⟨j16, e17, h⟩ := rb_bd h
    have hj18 : rb_Ev RX1 cX1_aheadOf 7 (some .int) none 7 (some o) μ 86 [some (.inr 3), some (.inl x0), some (.inl x1), some (.inl v1), some (.inl s3.1), some (.inl s3.2), none] [.inl j16] (rb_ov μ [(5, c)]) := by
      refine ev_istore (L' := [some (.inr 3), some (.inl x0), some (.inl x1), some (.inl v1), some (.inl s3.1), some (.inl s3.2), some (.inl j16)]) (pc := 86) dX1_aheadOf_86 (Nat.le_of_ble_eq_true rfl) rfl ?_
      refine ev_iload (v := j16) (pc := 88) dX1_aheadOf_88 rfl ?_
      obtain ⟨j28, e29, h⟩ := rb_bd h
      have hj30 : rb_Ev RX1 cX1_aheadOf 7 (some .int) none 7 (some o) μ 109 [some (.inr 3), some (.inl x0), some (.inl x1), some (.inl v1), some (.inl j28), some (.inl s3.2), none] [] (rb_ov μ [(5, c)]) := by
        refine ev_iinc (x := s3.2) (v := (s3.2 + 1)) (L' := [some (.inr 3), some (.inl x0), some (.inl x1), some (.inl v1), some (.inl j28), some (.inl (s3.2 + 1)), none]) (pc := 109) dX1_aheadOf_109 rfl (kx_1 _) (Nat.le_of_ble_eq_true rfl) rfl ?_
        refine ev_goto (t := 13) (pc := 112) dX1_aheadOf_112 (by decide) ?_
        obtain rfl := Option.some.inj h
        exact ih7 (j28, (s3.2 + 1)) rfl
      replace h := e29
      by_cases b31 : j16 = 0
      · rw [if_pos b31] at h
        refine ev_if_eq_t (t := 109) (pc := 90) dX1_aheadOf_90 (by decide) b31 ?_
        obtain rfl := Option.some.inj h
        exact ev_fg (L := [some (.inr 3), some (.inl x0), some (.inl x1), some (.inl v1), some (.inl s3.1), some (.inl s3.2), none]) (And.intro rfl (And.intro rfl (And.intro rfl (And.intro rfl (And.intro rfl (And.intro rfl True.intro)))))) (hj30)
      · rw [if_neg b31] at h
        refine ev_if_eq_f (t := 109) (pc := 90) dX1_aheadOf_90 (by decide) b31 ?_
        refine ev_iload_n (v := x1) (pc := 93) dX1_aheadOf_93 rfl ?_
        by_cases b32 : x1 = 0
        · rw [if_pos b32] at h
          refine ev_if_eq_t (t := 106) (pc := 94) dX1_aheadOf_94 (by decide) b32 ?_
          refine ev_iinc (x := s3.1) (v := (s3.1 + 1)) (L' := [some (.inr 3), some (.inl x0), some (.inl x1), some (.inl v1), some (.inl (s3.1 + 1)), some (.inl s3.2), some (.inl j16)]) (pc := 106) dX1_aheadOf_106 rfl (kx_1 _) (Nat.le_of_ble_eq_true rfl) rfl ?_
          obtain rfl := Option.some.inj h
          exact ev_fg (L := [some (.inr 3), some (.inl x0), some (.inl x1), some (.inl v1), some (.inl (s3.1 + 1)), some (.inl s3.2), none]) (And.intro rfl (And.intro rfl (And.intro rfl (And.intro rfl (And.intro rfl (And.intro rfl True.intro)))))) (hj30)
        · rw [if_neg b32] at h
          refine ev_if_eq_f (t := 106) (pc := 94) dX1_aheadOf_94 (by decide) b32 ?_
          obtain ⟨t33, e34, h⟩ := rb_bd h
          refine ev_aload_n (v := 3) (pc := 97) dX1_aheadOf_97 rfl ?_
          refine ev_iload (v := s3.2) (pc := 98) dX1_aheadOf_98 rfl ?_
          refine ev_cVi1 (pc := 100) dX1_aheadOf_100 mv_X1_tells lk_RX1_40 rp_3 (ct0_X1_tells _ _ _ _ rfl e34) (Nat.le_of_ble_eq_true rfl) (Nat.le_of_ble_eq_true rfl) ?_
          by_cases b35 : t33 = 0
          · rw [if_pos b35] at h
            refine ev_if_eq_t (t := 109) (pc := 103) dX1_aheadOf_103 (by decide) b35 ?_
            obtain rfl := Option.some.inj h
            exact ev_fg (L := [some (.inr 3), some (.inl x0), some (.inl x1), some (.inl v1), some (.inl s3.1), some (.inl s3.2), none]) (And.intro rfl (And.intro rfl (And.intro rfl (And.intro rfl (And.intro rfl (And.intro rfl True.intro)))))) (hj30)
          · rw [if_neg b35] at h
            refine ev_if_eq_f (t := 109) (pc := 103) dX1_aheadOf_103 (by decide) b35 ?_
            refine ev_iinc (x := s3.1) (v := (s3.1 + 1)) (L' := [some (.inr 3), some (.inl x0), some (.inl x1), some (.inl v1), some (.inl (s3.1 + 1)), some (.inl s3.2), some (.inl j16)]) (pc := 106) dX1_aheadOf_106 rfl (kx_1 _) (Nat.le_of_ble_eq_true rfl) rfl ?_
            obtain rfl := Option.some.inj h
            exact ev_fg (L := [some (.inr 3), some (.inl x0), some (.inl x1), some (.inl v1), some (.inl (s3.1 + 1)), some (.inl s3.2), none]) (And.intro rfl (And.intro rfl (And.intro rfl (And.intro rfl (And.intro rfl (And.intro rfl True.intro)))))) (hj30)
    replace h := e17
    by_cases b19 : v12 = v14
    · rw [if_pos b19] at h
      refine ev_icmp_ne_f (t := 85) (pc := 40) dX1_aheadOf_40 (by decide) b19 ?_
      obtain ⟨v20, e21, h⟩ := rb_bd h
      refine ev_aload_n (v := 3) (pc := 43) dX1_aheadOf_43 rfl ?_
      refine ev_getr (q := 5) (pc := 44) dX1_aheadOf_44 fl_RX1_9 rfl rfl ?_
      refine ev_sipush (v := 443) (pc := 47) dX1_aheadOf_47 ks_443 ?_
      refine ev_iload (v := s3.2) (pc := 50) dX1_aheadOf_50 rfl ?_
      refine ev_iadd (pc := 52) dX1_aheadOf_52 ?_
      refine ev_iald (pc := 53) dX1_aheadOf_53 rfl e21 ?_
      by_cases b22 : v20 < 0
      · rw [if_pos b22] at h
        refine ev_if_lt_t (t := 85) (pc := 54) dX1_aheadOf_54 (by decide) b22 ?_
        refine ev_iconst (v := 0) (pc := 85) dX1_aheadOf_85 ki_0 ?_
        obtain rfl := Option.some.inj h
        exact hj18
      · rw [if_neg b22] at h
        refine ev_if_lt_f (t := 85) (pc := 54) dX1_aheadOf_54 (by decide) b22 ?_
        obtain ⟨v23, e24, h⟩ := rb_bd h
        obtain ⟨v25, e26, h⟩ := rb_bd h
        refine ev_aload_n (v := 3) (pc := 57) dX1_aheadOf_57 rfl ?_
        refine ev_getr (q := 5) (pc := 58) dX1_aheadOf_58 fl_RX1_9 rfl rfl ?_
        refine ev_sipush (v := 443) (pc := 61) dX1_aheadOf_61 ks_443 ?_
        refine ev_iload (v := s3.2) (pc := 64) dX1_aheadOf_64 rfl ?_
        refine ev_iadd (pc := 66) dX1_aheadOf_66 ?_
        refine ev_iald (pc := 67) dX1_aheadOf_67 rfl e24 ?_
        refine ev_aload_n (v := 3) (pc := 68) dX1_aheadOf_68 rfl ?_
        refine ev_getr (q := 5) (pc := 69) dX1_aheadOf_69 fl_RX1_9 rfl rfl ?_
        refine ev_sipush (v := 443) (pc := 72) dX1_aheadOf_72 ks_443 ?_
        refine ev_iload_n (v := x0) (pc := 75) dX1_aheadOf_75 rfl ?_
        refine ev_iadd (pc := 76) dX1_aheadOf_76 ?_
        refine ev_iald (pc := 77) dX1_aheadOf_77 rfl e26 ?_
        by_cases b27 : v25 ≤ v23
        · rw [if_pos b27] at h
          refine ev_icmp_ge_t (t := 85) (pc := 78) dX1_aheadOf_78 (by decide) b27 ?_
          refine ev_iconst (v := 0) (pc := 85) dX1_aheadOf_85 ki_0 ?_
          obtain rfl := Option.some.inj h
          exact hj18
        · rw [if_neg b27] at h
          refine ev_icmp_ge_f (t := 85) (pc := 78) dX1_aheadOf_78 (by decide) b27 ?_
          refine ev_iconst (v := 1) (pc := 81) dX1_aheadOf_81 ki_1 ?_
          refine ev_goto (t := 86) (pc := 82) dX1_aheadOf_82 (by decide) ?_
          obtain rfl := Option.some.inj h
          exact hj18
    · rw [if_neg b19] at h
      refine ev_icmp_ne_t (t := 85) (pc := 40) dX1_aheadOf_40 (by decide) b19 ?_
      refine ev_iconst (v := 0) (pc := 85) dX1_aheadOf_85 ki_0 ?_
      obtain rfl := Option.some.inj h
      exact hj18
set_option maxHeartbeats 4000000 in
set_option maxRecDepth 20000 in
theorem ct1_X1_aheadOf (μ : rb_Mem) (c : rb_Row) (x0 : Int32) (x1 : Int32) (o : Int32) (hc : μ 11 = c) (h : XX1_aheadOf c x0 x1 = some o) : rb_Ct yX1_aheadOf cX1_aheadOf 7 (some .int) 7 [.inr 9, .inl x0, .inl x1] μ (some o) μ := by
  unfold XX1_aheadOf at h
  have hini : rb_ov μ [(11, c)] = μ := rb_ov_sf _ _ (And.intro hc True.intro)
  have hfin := hini
  refine rb_cti (w := [(11, c)]) rfl pn_1 (Nat.le_of_ble_eq_true rfl) rfl hini ?_
  obtain ⟨v1, e2, h⟩ := rb_bd h
  refine ev_aload_n (v := 9) (pc := 0) dX1_aheadOf_0 rfl ?_
  refine ev_getr (q := 11) (pc := 1) dX1_aheadOf_1 fl_RX1_9 rfl rfl ?_
  refine ev_iconst (v := 2) (pc := 4) dX1_aheadOf_4 ki_2 ?_
  refine ev_iald (pc := 5) dX1_aheadOf_5 rfl e2 ?_
  refine ev_istore_n (L' := [some (.inr 9), some (.inl x0), some (.inl x1), some (.inl v1), none, none, none]) (pc := 6) dX1_aheadOf_6 (Nat.le_of_ble_eq_true rfl) rfl ?_
  refine ev_iconst (v := 0) (pc := 7) dX1_aheadOf_7 ki_0 ?_
  refine ev_istore (L' := [some (.inr 9), some (.inl x0), some (.inl x1), some (.inl v1), some (.inl 0), none, none]) (pc := 8) dX1_aheadOf_8 (Nat.le_of_ble_eq_true rfl) rfl ?_
  refine ev_iconst (v := 0) (pc := 10) dX1_aheadOf_10 ki_0 ?_
  refine ev_istore (L' := [some (.inr 9), some (.inl x0), some (.inl x1), some (.inl v1), some (.inl 0), some (.inl 0), none]) (pc := 11) dX1_aheadOf_11 (Nat.le_of_ble_eq_true rfl) rfl ?_
  obtain ⟨q4, l5, h⟩ := rb_bd h
  have hx9 : rb_Ev RX1 cX1_aheadOf 7 (some .int) none 7 (some o) μ 115 [none, none, none, none, some (.inl q4), none, none] [] (rb_ov μ [(11, c)]) := by
    refine ev_iload (v := q4) (pc := 115) dX1_aheadOf_115 rfl ?_
    obtain rfl := Option.some.inj h
    exact ev_iret (pc := 117) dX1_aheadOf_117 rfl rfl rfl hfin
  refine rb_lp_ev (P := fun (s3 : Int32 × Int32) => rb_Ev RX1 cX1_aheadOf 7 (some .int) none 7 (some o) μ 13 [some (.inr 9), some (.inl x0), some (.inl x1), some (.inl v1), some (.inl s3.1), some (.inl s3.2), none] [] (rb_ov μ [(11, c)])) ?_ 100000 (0, 0) l5
  intro s3 y6 h ih7 hE8
  refine ev_iload (v := s3.2) (pc := 13) dX1_aheadOf_13 rfl ?_
  refine ev_iload_n (v := v1) (pc := 15) dX1_aheadOf_15 rfl ?_
  by_cases b11 : v1 ≤ s3.2
  · rw [if_pos b11] at h
    refine ev_icmp_ge_t (t := 115) (pc := 16) dX1_aheadOf_16 (by decide) b11 ?_
    obtain rfl := Option.some.inj h
    obtain rfl := hE8 _ rfl
    exact ev_fg (L := [none, none, none, none, some (.inl s3.1), none, none]) (And.intro rfl True.intro) (hx9)
  · rw [if_neg b11] at h
    refine ev_icmp_ge_f (t := 115) (pc := 16) dX1_aheadOf_16 (by decide) b11 ?_
    obtain ⟨v12, e13, h⟩ := rb_bd h
    obtain ⟨v14, e15, h⟩ := rb_bd h
    refine ev_aload_n (v := 9) (pc := 19) dX1_aheadOf_19 rfl ?_
    refine ev_getr (q := 11) (pc := 20) dX1_aheadOf_20 fl_RX1_9 rfl rfl ?_
    refine ev_sipush (v := 299) (pc := 23) dX1_aheadOf_23 ks_299 ?_
    refine ev_iload (v := s3.2) (pc := 26) dX1_aheadOf_26 rfl ?_
    refine ev_iadd (pc := 28) dX1_aheadOf_28 ?_
    refine ev_iald (pc := 29) dX1_aheadOf_29 rfl e13 ?_
    refine ev_aload_n (v := 9) (pc := 30) dX1_aheadOf_30 rfl ?_
    refine ev_getr (q := 11) (pc := 31) dX1_aheadOf_31 fl_RX1_9 rfl rfl ?_
    refine ev_sipush (v := 299) (pc := 34) dX1_aheadOf_34 ks_299 ?_
    refine ev_iload_n (v := x0) (pc := 37) dX1_aheadOf_37 rfl ?_
    refine ev_iadd (pc := 38) dX1_aheadOf_38 ?_
    refine ev_iald (pc := 39) dX1_aheadOf_39 rfl e15 ?_
    obtain ⟨j16, e17, h⟩ := rb_bd h
    have hj18 : rb_Ev RX1 cX1_aheadOf 7 (some .int) none 7 (some o) μ 86 [some (.inr 9), some (.inl x0), some (.inl x1), some (.inl v1), some (.inl s3.1), some (.inl s3.2), none] [.inl j16] (rb_ov μ [(11, c)]) := by
      refine ev_istore (L' := [some (.inr 9), some (.inl x0), some (.inl x1), some (.inl v1), some (.inl s3.1), some (.inl s3.2), some (.inl j16)]) (pc := 86) dX1_aheadOf_86 (Nat.le_of_ble_eq_true rfl) rfl ?_
      refine ev_iload (v := j16) (pc := 88) dX1_aheadOf_88 rfl ?_
      obtain ⟨j28, e29, h⟩ := rb_bd h
      have hj30 : rb_Ev RX1 cX1_aheadOf 7 (some .int) none 7 (some o) μ 109 [some (.inr 9), some (.inl x0), some (.inl x1), some (.inl v1), some (.inl j28), some (.inl s3.2), none] [] (rb_ov μ [(11, c)]) := by
        refine ev_iinc (x := s3.2) (v := (s3.2 + 1)) (L' := [some (.inr 9), some (.inl x0), some (.inl x1), some (.inl v1), some (.inl j28), some (.inl (s3.2 + 1)), none]) (pc := 109) dX1_aheadOf_109 rfl (kx_1 _) (Nat.le_of_ble_eq_true rfl) rfl ?_
        refine ev_goto (t := 13) (pc := 112) dX1_aheadOf_112 (by decide) ?_
        obtain rfl := Option.some.inj h
        exact ih7 (j28, (s3.2 + 1)) rfl
      replace h := e29
      by_cases b31 : j16 = 0
      · rw [if_pos b31] at h
        refine ev_if_eq_t (t := 109) (pc := 90) dX1_aheadOf_90 (by decide) b31 ?_
        obtain rfl := Option.some.inj h
        exact ev_fg (L := [some (.inr 9), some (.inl x0), some (.inl x1), some (.inl v1), some (.inl s3.1), some (.inl s3.2), none]) (And.intro rfl (And.intro rfl (And.intro rfl (And.intro rfl (And.intro rfl (And.intro rfl True.intro)))))) (hj30)
      · rw [if_neg b31] at h
        refine ev_if_eq_f (t := 109) (pc := 90) dX1_aheadOf_90 (by decide) b31 ?_
        refine ev_iload_n (v := x1) (pc := 93) dX1_aheadOf_93 rfl ?_
        by_cases b32 : x1 = 0
        · rw [if_pos b32] at h
          refine ev_if_eq_t (t := 106) (pc := 94) dX1_aheadOf_94 (by decide) b32 ?_
          refine ev_iinc (x := s3.1) (v := (s3.1 + 1)) (L' := [some (.inr 9), some (.inl x0), some (.inl x1), some (.inl v1), some (.inl (s3.1 + 1)), some (.inl s3.2), some (.inl j16)]) (pc := 106) dX1_aheadOf_106 rfl (kx_1 _) (Nat.le_of_ble_eq_true rfl) rfl ?_
          obtain rfl := Option.some.inj h
          exact ev_fg (L := [some (.inr 9), some (.inl x0), some (.inl x1), some (.inl v1), some (.inl (s3.1 + 1)), some (.inl s3.2), none]) (And.intro rfl (And.intro rfl (And.intro rfl (And.intro rfl (And.intro rfl (And.intro rfl True.intro)))))) (hj30)
        · rw [if_neg b32] at h
          refine ev_if_eq_f (t := 106) (pc := 94) dX1_aheadOf_94 (by decide) b32 ?_
          obtain ⟨t33, e34, h⟩ := rb_bd h
          refine ev_aload_n (v := 9) (pc := 97) dX1_aheadOf_97 rfl ?_
          refine ev_iload (v := s3.2) (pc := 98) dX1_aheadOf_98 rfl ?_
          refine ev_cVi1 (pc := 100) dX1_aheadOf_100 mv_X1_tells lk_RX1_40 rp_9 (ct1_X1_tells _ _ _ _ rfl e34) (Nat.le_of_ble_eq_true rfl) (Nat.le_of_ble_eq_true rfl) ?_
          by_cases b35 : t33 = 0
          · rw [if_pos b35] at h
            refine ev_if_eq_t (t := 109) (pc := 103) dX1_aheadOf_103 (by decide) b35 ?_
            obtain rfl := Option.some.inj h
            exact ev_fg (L := [some (.inr 9), some (.inl x0), some (.inl x1), some (.inl v1), some (.inl s3.1), some (.inl s3.2), none]) (And.intro rfl (And.intro rfl (And.intro rfl (And.intro rfl (And.intro rfl (And.intro rfl True.intro)))))) (hj30)
          · rw [if_neg b35] at h
            refine ev_if_eq_f (t := 109) (pc := 103) dX1_aheadOf_103 (by decide) b35 ?_
            refine ev_iinc (x := s3.1) (v := (s3.1 + 1)) (L' := [some (.inr 9), some (.inl x0), some (.inl x1), some (.inl v1), some (.inl (s3.1 + 1)), some (.inl s3.2), some (.inl j16)]) (pc := 106) dX1_aheadOf_106 rfl (kx_1 _) (Nat.le_of_ble_eq_true rfl) rfl ?_
            obtain rfl := Option.some.inj h
            exact ev_fg (L := [some (.inr 9), some (.inl x0), some (.inl x1), some (.inl v1), some (.inl (s3.1 + 1)), some (.inl s3.2), none]) (And.intro rfl (And.intro rfl (And.intro rfl (And.intro rfl (And.intro rfl (And.intro rfl True.intro)))))) (hj30)
    replace h := e17
    by_cases b19 : v12 = v14
    · rw [if_pos b19] at h
      refine ev_icmp_ne_f (t := 85) (pc := 40) dX1_aheadOf_40 (by decide) b19 ?_
      obtain ⟨v20, e21, h⟩ := rb_bd h
      refine ev_aload_n (v := 9) (pc := 43) dX1_aheadOf_43 rfl ?_
      refine ev_getr (q := 11) (pc := 44) dX1_aheadOf_44 fl_RX1_9 rfl rfl ?_
      refine ev_sipush (v := 443) (pc := 47) dX1_aheadOf_47 ks_443 ?_
      refine ev_iload (v := s3.2) (pc := 50) dX1_aheadOf_50 rfl ?_
      refine ev_iadd (pc := 52) dX1_aheadOf_52 ?_
      refine ev_iald (pc := 53) dX1_aheadOf_53 rfl e21 ?_
      by_cases b22 : v20 < 0
      · rw [if_pos b22] at h
        refine ev_if_lt_t (t := 85) (pc := 54) dX1_aheadOf_54 (by decide) b22 ?_
        refine ev_iconst (v := 0) (pc := 85) dX1_aheadOf_85 ki_0 ?_
        obtain rfl := Option.some.inj h
        exact hj18
      · rw [if_neg b22] at h
        refine ev_if_lt_f (t := 85) (pc := 54) dX1_aheadOf_54 (by decide) b22 ?_
        obtain ⟨v23, e24, h⟩ := rb_bd h
        obtain ⟨v25, e26, h⟩ := rb_bd h
        refine ev_aload_n (v := 9) (pc := 57) dX1_aheadOf_57 rfl ?_
        refine ev_getr (q := 11) (pc := 58) dX1_aheadOf_58 fl_RX1_9 rfl rfl ?_
        refine ev_sipush (v := 443) (pc := 61) dX1_aheadOf_61 ks_443 ?_
        refine ev_iload (v := s3.2) (pc := 64) dX1_aheadOf_64 rfl ?_
        refine ev_iadd (pc := 66) dX1_aheadOf_66 ?_
        refine ev_iald (pc := 67) dX1_aheadOf_67 rfl e24 ?_
        refine ev_aload_n (v := 9) (pc := 68) dX1_aheadOf_68 rfl ?_
        refine ev_getr (q := 11) (pc := 69) dX1_aheadOf_69 fl_RX1_9 rfl rfl ?_
        refine ev_sipush (v := 443) (pc := 72) dX1_aheadOf_72 ks_443 ?_
        refine ev_iload_n (v := x0) (pc := 75) dX1_aheadOf_75 rfl ?_
        refine ev_iadd (pc := 76) dX1_aheadOf_76 ?_
        refine ev_iald (pc := 77) dX1_aheadOf_77 rfl e26 ?_
        by_cases b27 : v25 ≤ v23
        · rw [if_pos b27] at h
          refine ev_icmp_ge_t (t := 85) (pc := 78) dX1_aheadOf_78 (by decide) b27 ?_
          refine ev_iconst (v := 0) (pc := 85) dX1_aheadOf_85 ki_0 ?_
          obtain rfl := Option.some.inj h
          exact hj18
        · rw [if_neg b27] at h
          refine ev_icmp_ge_f (t := 85) (pc := 78) dX1_aheadOf_78 (by decide) b27 ?_
          refine ev_iconst (v := 1) (pc := 81) dX1_aheadOf_81 ki_1 ?_
          refine ev_goto (t := 86) (pc := 82) dX1_aheadOf_82 (by decide) ?_
          obtain rfl := Option.some.inj h
          exact hj18
    · rw [if_neg b19] at h
      refine ev_icmp_ne_t (t := 85) (pc := 40) dX1_aheadOf_40 (by decide) b19 ?_
      refine ev_iconst (v := 0) (pc := 85) dX1_aheadOf_85 ki_0 ?_
      obtain rfl := Option.some.inj h
      exact hj18
def XX1_placeOf (c : rb_Row) (x0 : Int32) : Option (Int32) := (rb_rd c 773 (443 + x0)).bind fun v1 => if 0 ≤ v1 then (XX1_aheadOf c x0 0).bind fun t4 => some t4 else some (-1)
set_option maxHeartbeats 4000000 in
set_option maxRecDepth 20000 in
theorem ct0_X1_placeOf (μ : rb_Mem) (c : rb_Row) (x0 : Int32) (o : Int32) (hc : μ 5 = c) (h : XX1_placeOf c x0 = some o) : rb_Ct yX1_placeOf cX1_placeOf 2 (some .int) 8 [.inr 3, .inl x0] μ (some o) μ := by
  unfold XX1_placeOf at h
  have hini : rb_ov μ [(5, c)] = μ := rb_ov_sf _ _ (And.intro hc True.intro)
  have hfin := hini
  refine rb_cti (w := [(5, c)]) rfl pn_1 (Nat.le_of_ble_eq_true rfl) rfl hini ?_
  obtain ⟨v1, e2, h⟩ := rb_bd h
  refine ev_aload_n (v := 3) (pc := 0) dX1_placeOf_0 rfl ?_
  refine ev_getr (q := 5) (pc := 1) dX1_placeOf_1 fl_RX1_9 rfl rfl ?_
  refine ev_sipush (v := 443) (pc := 4) dX1_placeOf_4 ks_443 ?_
  refine ev_iload_n (v := x0) (pc := 7) dX1_placeOf_7 rfl ?_
  refine ev_iadd (pc := 8) dX1_placeOf_8 ?_
  refine ev_iald (pc := 9) dX1_placeOf_9 rfl e2 ?_
  by_cases b3 : 0 ≤ v1
  · rw [if_pos b3] at h
    refine ev_if_ge_t (t := 17) (pc := 10) dX1_placeOf_10 (by decide) b3 ?_
    obtain ⟨t4, e5, h⟩ := rb_bd h
    refine ev_aload_n (v := 3) (pc := 17) dX1_placeOf_17 rfl ?_
    refine ev_iload_n (v := x0) (pc := 18) dX1_placeOf_18 rfl ?_
    refine ev_iconst (v := 0) (pc := 19) dX1_placeOf_19 ki_0 ?_
    refine ev_cVi2 (pc := 20) dX1_placeOf_20 mv_X1_aheadOf lk_RX1_36 rp_3 (ct0_X1_aheadOf _ _ _ _ _ rfl e5) (Nat.le_of_ble_eq_true rfl) (Nat.le_of_ble_eq_true rfl) ?_
    obtain rfl := Option.some.inj h
    exact ev_iret (pc := 23) dX1_placeOf_23 rfl rfl rfl hfin
  · rw [if_neg b3] at h
    refine ev_if_ge_f (t := 17) (pc := 10) dX1_placeOf_10 (by decide) b3 ?_
    refine ev_iconst (v := (-1)) (pc := 13) dX1_placeOf_13 ki_m1 ?_
    refine ev_goto (t := 23) (pc := 14) dX1_placeOf_14 (by decide) ?_
    obtain rfl := Option.some.inj h
    exact ev_iret (pc := 23) dX1_placeOf_23 rfl rfl rfl hfin
set_option maxHeartbeats 4000000 in
set_option maxRecDepth 20000 in
theorem ct1_X1_placeOf (μ : rb_Mem) (c : rb_Row) (x0 : Int32) (o : Int32) (hc : μ 11 = c) (h : XX1_placeOf c x0 = some o) : rb_Ct yX1_placeOf cX1_placeOf 2 (some .int) 8 [.inr 9, .inl x0] μ (some o) μ := by
  unfold XX1_placeOf at h
  have hini : rb_ov μ [(11, c)] = μ := rb_ov_sf _ _ (And.intro hc True.intro)
  have hfin := hini
  refine rb_cti (w := [(11, c)]) rfl pn_1 (Nat.le_of_ble_eq_true rfl) rfl hini ?_
  obtain ⟨v1, e2, h⟩ := rb_bd h
  refine ev_aload_n (v := 9) (pc := 0) dX1_placeOf_0 rfl ?_
  refine ev_getr (q := 11) (pc := 1) dX1_placeOf_1 fl_RX1_9 rfl rfl ?_
  refine ev_sipush (v := 443) (pc := 4) dX1_placeOf_4 ks_443 ?_
  refine ev_iload_n (v := x0) (pc := 7) dX1_placeOf_7 rfl ?_
  refine ev_iadd (pc := 8) dX1_placeOf_8 ?_
  refine ev_iald (pc := 9) dX1_placeOf_9 rfl e2 ?_
  by_cases b3 : 0 ≤ v1
  · rw [if_pos b3] at h
    refine ev_if_ge_t (t := 17) (pc := 10) dX1_placeOf_10 (by decide) b3 ?_
    obtain ⟨t4, e5, h⟩ := rb_bd h
    refine ev_aload_n (v := 9) (pc := 17) dX1_placeOf_17 rfl ?_
    refine ev_iload_n (v := x0) (pc := 18) dX1_placeOf_18 rfl ?_
    refine ev_iconst (v := 0) (pc := 19) dX1_placeOf_19 ki_0 ?_
    refine ev_cVi2 (pc := 20) dX1_placeOf_20 mv_X1_aheadOf lk_RX1_36 rp_9 (ct1_X1_aheadOf _ _ _ _ _ rfl e5) (Nat.le_of_ble_eq_true rfl) (Nat.le_of_ble_eq_true rfl) ?_
    obtain rfl := Option.some.inj h
    exact ev_iret (pc := 23) dX1_placeOf_23 rfl rfl rfl hfin
  · rw [if_neg b3] at h
    refine ev_if_ge_f (t := 17) (pc := 10) dX1_placeOf_10 (by decide) b3 ?_
    refine ev_iconst (v := (-1)) (pc := 13) dX1_placeOf_13 ki_m1 ?_
    refine ev_goto (t := 23) (pc := 14) dX1_placeOf_14 (by decide) ?_
    obtain rfl := Option.some.inj h
    exact ev_iret (pc := 23) dX1_placeOf_23 rfl rfl rfl hfin
def XX1_listedBy (c : rb_Row) (x0 : Int32) : Option (Int32) := (rb_rd c 773 2).bind fun v1 => (rb_lp (ρ := Int32) (fun (s3 : Int32 × Int32) => if v1 ≤ s3.2 then some (.inr s3.1) else (rb_rd c 773 (299 + s3.2)).bind fun v12 => ((if v12 = x0 then (rb_rd c 773 (443 + s3.2)).bind fun v18 => if v18 < 0 then some s3.1 else some (s3.1 + 1) else some s3.1) : Option (Int32)).bind fun j14 => some (.inl (j14, (s3.2 + 1)))) 100000 (0, 0)).bind fun q4 => some q4
set_option maxHeartbeats 4000000 in
set_option maxRecDepth 20000 in
theorem ct0_X1_listedBy (μ : rb_Mem) (c : rb_Row) (x0 : Int32) (o : Int32) (hc : μ 5 = c) (h : XX1_listedBy c x0 = some o) : rb_Ct yX1_listedBy cX1_listedBy 5 (some .int) 0 [.inr 3, .inl x0] μ (some o) μ := by
  unfold XX1_listedBy at h
  have hini : rb_ov μ [(5, c)] = μ := rb_ov_sf _ _ (And.intro hc True.intro)
  have hfin := hini
  refine rb_cti (w := [(5, c)]) rfl pn_1 (Nat.le_of_ble_eq_true rfl) rfl hini ?_
  obtain ⟨v1, e2, h⟩ := rb_bd h
  refine ev_aload_n (v := 3) (pc := 0) dX1_listedBy_0 rfl ?_
  refine ev_getr (q := 5) (pc := 1) dX1_listedBy_1 fl_RX1_9 rfl rfl ?_
  refine ev_iconst (v := 2) (pc := 4) dX1_listedBy_4 ki_2 ?_
  refine ev_iald (pc := 5) dX1_listedBy_5 rfl e2 ?_
  refine ev_istore_n (L' := [some (.inr 3), some (.inl x0), some (.inl v1), none, none]) (pc := 6) dX1_listedBy_6 (Nat.le_of_ble_eq_true rfl) rfl ?_
  refine ev_iconst (v := 0) (pc := 7) dX1_listedBy_7 ki_0 ?_
  refine ev_istore_n (L' := [some (.inr 3), some (.inl x0), some (.inl v1), some (.inl 0), none]) (pc := 8) dX1_listedBy_8 (Nat.le_of_ble_eq_true rfl) rfl ?_
  refine ev_iconst (v := 0) (pc := 9) dX1_listedBy_9 ki_0 ?_
  refine ev_istore (L' := [some (.inr 3), some (.inl x0), some (.inl v1), some (.inl 0), some (.inl 0)]) (pc := 10) dX1_listedBy_10 (Nat.le_of_ble_eq_true rfl) rfl ?_
  obtain ⟨q4, l5, h⟩ := rb_bd h
  have hx9 : rb_Ev RX1 cX1_listedBy 5 (some .int) none 0 (some o) μ 56 [none, none, none, some (.inl q4), none] [] (rb_ov μ [(5, c)]) := by
    refine ev_iload_n (v := q4) (pc := 56) dX1_listedBy_56 rfl ?_
    obtain rfl := Option.some.inj h
    exact ev_iret (pc := 57) dX1_listedBy_57 rfl rfl rfl hfin
  refine rb_lp_ev (P := fun (s3 : Int32 × Int32) => rb_Ev RX1 cX1_listedBy 5 (some .int) none 0 (some o) μ 12 [some (.inr 3), some (.inl x0), some (.inl v1), some (.inl s3.1), some (.inl s3.2)] [] (rb_ov μ [(5, c)])) ?_ 100000 (0, 0) l5
  intro s3 y6 h ih7 hE8
  refine ev_iload (v := s3.2) (pc := 12) dX1_listedBy_12 rfl ?_
  refine ev_iload_n (v := v1) (pc := 14) dX1_listedBy_14 rfl ?_
  by_cases b11 : v1 ≤ s3.2
  · rw [if_pos b11] at h
    refine ev_icmp_ge_t (t := 56) (pc := 15) dX1_listedBy_15 (by decide) b11 ?_
    obtain rfl := Option.some.inj h
    obtain rfl := hE8 _ rfl
    exact ev_fg (L := [none, none, none, some (.inl s3.1), none]) (And.intro rfl True.intro) (hx9)
  · rw [if_neg b11] at h
    refine ev_icmp_ge_f (t := 56) (pc := 15) dX1_listedBy_15 (by decide) b11 ?_
    obtain ⟨v12, e13, h⟩ := rb_bd h
    refine ev_aload_n (v := 3) (pc := 18) dX1_listedBy_18 rfl ?_
    refine ev_getr (q := 5) (pc := 19) dX1_listedBy_19 fl_RX1_9 rfl rfl ?_
    refine ev_sipush (v := 299) (pc := 22) dX1_listedBy_22 ks_299 ?_
    refine ev_iload (v := s3.2) (pc := 25) dX1_listedBy_25 rfl ?_
    refine ev_iadd (pc := 27) dX1_listedBy_27 ?_
    refine ev_iald (pc := 28) dX1_listedBy_28 rfl e13 ?_
    refine ev_iload_n (v := x0) (pc := 29) dX1_listedBy_29 rfl ?_
    obtain ⟨j14, e15, h⟩ := rb_bd h
    have hj16 : rb_Ev RX1 cX1_listedBy 5 (some .int) none 0 (some o) μ 50 [some (.inr 3), some (.inl x0), some (.inl v1), some (.inl j14), some (.inl s3.2)] [] (rb_ov μ [(5, c)]) := by
      refine ev_iinc (x := s3.2) (v := (s3.2 + 1)) (L' := [some (.inr 3), some (.inl x0), some (.inl v1), some (.inl j14), some (.inl (s3.2 + 1))]) (pc := 50) dX1_listedBy_50 rfl (kx_1 _) (Nat.le_of_ble_eq_true rfl) rfl ?_
      refine ev_goto (t := 12) (pc := 53) dX1_listedBy_53 (by decide) ?_
      obtain rfl := Option.some.inj h
      exact ih7 (j14, (s3.2 + 1)) rfl
    replace h := e15
    by_cases b17 : v12 = x0
    · rw [if_pos b17] at h
      refine ev_icmp_ne_f (t := 50) (pc := 30) dX1_listedBy_30 (by decide) b17 ?_
      obtain ⟨v18, e19, h⟩ := rb_bd h
      refine ev_aload_n (v := 3) (pc := 33) dX1_listedBy_33 rfl ?_
      refine ev_getr (q := 5) (pc := 34) dX1_listedBy_34 fl_RX1_9 rfl rfl ?_
      refine ev_sipush (v := 443) (pc := 37) dX1_listedBy_37 ks_443 ?_
      refine ev_iload (v := s3.2) (pc := 40) dX1_listedBy_40 rfl ?_
      refine ev_iadd (pc := 42) dX1_listedBy_42 ?_
      refine ev_iald (pc := 43) dX1_listedBy_43 rfl e19 ?_
      by_cases b20 : v18 < 0
      · rw [if_pos b20] at h
        refine ev_if_lt_t (t := 50) (pc := 44) dX1_listedBy_44 (by decide) b20 ?_
        obtain rfl := Option.some.inj h
        exact hj16
      · rw [if_neg b20] at h
        refine ev_if_lt_f (t := 50) (pc := 44) dX1_listedBy_44 (by decide) b20 ?_
        refine ev_iinc (x := s3.1) (v := (s3.1 + 1)) (L' := [some (.inr 3), some (.inl x0), some (.inl v1), some (.inl (s3.1 + 1)), some (.inl s3.2)]) (pc := 47) dX1_listedBy_47 rfl (kx_1 _) (Nat.le_of_ble_eq_true rfl) rfl ?_
        obtain rfl := Option.some.inj h
        exact hj16
    · rw [if_neg b17] at h
      refine ev_icmp_ne_t (t := 50) (pc := 30) dX1_listedBy_30 (by decide) b17 ?_
      obtain rfl := Option.some.inj h
      exact hj16
set_option maxHeartbeats 4000000 in
set_option maxRecDepth 20000 in
theorem ct1_X1_listedBy (μ : rb_Mem) (c : rb_Row) (x0 : Int32) (o : Int32) (hc : μ 11 = c) (h : XX1_listedBy c x0 = some o) : rb_Ct yX1_listedBy cX1_listedBy 5 (some .int) 0 [.inr 9, .inl x0] μ (some o) μ := by
  unfold XX1_listedBy at h
  have hini : rb_ov μ [(11, c)] = μ := rb_ov_sf _ _ (And.intro hc True.intro)
  have hfin := hini
  refine rb_cti (w := [(11, c)]) rfl pn_1 (Nat.le_of_ble_eq_true rfl) rfl hini ?_
  obtain ⟨v1, e2, h⟩ := rb_bd h
  refine ev_aload_n (v := 9) (pc := 0) dX1_listedBy_0 rfl ?_
  refine ev_getr (q := 11) (pc := 1) dX1_listedBy_1 fl_RX1_9 rfl rfl ?_
  refine ev_iconst (v := 2) (pc := 4) dX1_listedBy_4 ki_2 ?_
  refine ev_iald (pc := 5) dX1_listedBy_5 rfl e2 ?_
  refine ev_istore_n (L' := [some (.inr 9), some (.inl x0), some (.inl v1), none, none]) (pc := 6) dX1_listedBy_6 (Nat.le_of_ble_eq_true rfl) rfl ?_
  refine ev_iconst (v := 0) (pc := 7) dX1_listedBy_7 ki_0 ?_
  refine ev_istore_n (L' := [some (.inr 9), some (.inl x0), some (.inl v1), some (.inl 0), none]) (pc := 8) dX1_listedBy_8 (Nat.le_of_ble_eq_true rfl) rfl ?_
  refine ev_iconst (v := 0) (pc := 9) dX1_listedBy_9 ki_0 ?_
  refine ev_istore (L' := [some (.inr 9), some (.inl x0), some (.inl v1), some (.inl 0), some (.inl 0)]) (pc := 10) dX1_listedBy_10 (Nat.le_of_ble_eq_true rfl) rfl ?_
  obtain ⟨q4, l5, h⟩ := rb_bd h
  have hx9 : rb_Ev RX1 cX1_listedBy 5 (some .int) none 0 (some o) μ 56 [none, none, none, some (.inl q4), none] [] (rb_ov μ [(11, c)]) := by
    refine ev_iload_n (v := q4) (pc := 56) dX1_listedBy_56 rfl ?_
    obtain rfl := Option.some.inj h
    exact ev_iret (pc := 57) dX1_listedBy_57 rfl rfl rfl hfin
  refine rb_lp_ev (P := fun (s3 : Int32 × Int32) => rb_Ev RX1 cX1_listedBy 5 (some .int) none 0 (some o) μ 12 [some (.inr 9), some (.inl x0), some (.inl v1), some (.inl s3.1), some (.inl s3.2)] [] (rb_ov μ [(11, c)])) ?_ 100000 (0, 0) l5
  intro s3 y6 h ih7 hE8
  refine ev_iload (v := s3.2) (pc := 12) dX1_listedBy_12 rfl ?_
  refine ev_iload_n (v := v1) (pc := 14) dX1_listedBy_14 rfl ?_
  by_cases b11 : v1 ≤ s3.2
  · rw [if_pos b11] at h
    refine ev_icmp_ge_t (t := 56) (pc := 15) dX1_listedBy_15 (by decide) b11 ?_
    obtain rfl := Option.some.inj h
    obtain rfl := hE8 _ rfl
    exact ev_fg (L := [none, none, none, some (.inl s3.1), none]) (And.intro rfl True.intro) (hx9)
  · rw [if_neg b11] at h
    refine ev_icmp_ge_f (t := 56) (pc := 15) dX1_listedBy_15 (by decide) b11 ?_
    obtain ⟨v12, e13, h⟩ := rb_bd h
    refine ev_aload_n (v := 9) (pc := 18) dX1_listedBy_18 rfl ?_
    refine ev_getr (q := 11) (pc := 19) dX1_listedBy_19 fl_RX1_9 rfl rfl ?_
    refine ev_sipush (v := 299) (pc := 22) dX1_listedBy_22 ks_299 ?_
    refine ev_iload (v := s3.2) (pc := 25) dX1_listedBy_25 rfl ?_
    refine ev_iadd (pc := 27) dX1_listedBy_27 ?_
    refine ev_iald (pc := 28) dX1_listedBy_28 rfl e13 ?_
    refine ev_iload_n (v := x0) (pc := 29) dX1_listedBy_29 rfl ?_
    obtain ⟨j14, e15, h⟩ := rb_bd h
    have hj16 : rb_Ev RX1 cX1_listedBy 5 (some .int) none 0 (some o) μ 50 [some (.inr 9), some (.inl x0), some (.inl v1), some (.inl j14), some (.inl s3.2)] [] (rb_ov μ [(11, c)]) := by
      refine ev_iinc (x := s3.2) (v := (s3.2 + 1)) (L' := [some (.inr 9), some (.inl x0), some (.inl v1), some (.inl j14), some (.inl (s3.2 + 1))]) (pc := 50) dX1_listedBy_50 rfl (kx_1 _) (Nat.le_of_ble_eq_true rfl) rfl ?_
      refine ev_goto (t := 12) (pc := 53) dX1_listedBy_53 (by decide) ?_
      obtain rfl := Option.some.inj h
      exact ih7 (j14, (s3.2 + 1)) rfl
    replace h := e15
    by_cases b17 : v12 = x0
    · rw [if_pos b17] at h
      refine ev_icmp_ne_f (t := 50) (pc := 30) dX1_listedBy_30 (by decide) b17 ?_
      obtain ⟨v18, e19, h⟩ := rb_bd h
      refine ev_aload_n (v := 9) (pc := 33) dX1_listedBy_33 rfl ?_
      refine ev_getr (q := 11) (pc := 34) dX1_listedBy_34 fl_RX1_9 rfl rfl ?_
      refine ev_sipush (v := 443) (pc := 37) dX1_listedBy_37 ks_443 ?_
      refine ev_iload (v := s3.2) (pc := 40) dX1_listedBy_40 rfl ?_
      refine ev_iadd (pc := 42) dX1_listedBy_42 ?_
      refine ev_iald (pc := 43) dX1_listedBy_43 rfl e19 ?_
      by_cases b20 : v18 < 0
      · rw [if_pos b20] at h
        refine ev_if_lt_t (t := 50) (pc := 44) dX1_listedBy_44 (by decide) b20 ?_
        obtain rfl := Option.some.inj h
        exact hj16
      · rw [if_neg b20] at h
        refine ev_if_lt_f (t := 50) (pc := 44) dX1_listedBy_44 (by decide) b20 ?_
        refine ev_iinc (x := s3.1) (v := (s3.1 + 1)) (L' := [some (.inr 9), some (.inl x0), some (.inl v1), some (.inl (s3.1 + 1)), some (.inl s3.2)]) (pc := 47) dX1_listedBy_47 rfl (kx_1 _) (Nat.le_of_ble_eq_true rfl) rfl ?_
        obtain rfl := Option.some.inj h
        exact hj16
    · rw [if_neg b17] at h
      refine ev_icmp_ne_t (t := 50) (pc := 30) dX1_listedBy_30 (by decide) b17 ?_
      obtain rfl := Option.some.inj h
      exact hj16
def XX1_isShown (c : rb_Row) (x0 : Int32) (x1 : Int32) : Option (Int32) := (rb_rd c 773 (299 + x0)).bind fun v1 => if v1 = x1 then (rb_rd c 773 (443 + x0)).bind fun v4 => if v4 < 0 then some (rb_nz 0) else (XX1_tells c x0).bind fun t7 => if t7 = 0 then some (rb_nz 0) else some (rb_nz 1) else some (rb_nz 0)
set_option maxHeartbeats 4000000 in
set_option maxRecDepth 20000 in
theorem ct0_X1_isShown (μ : rb_Mem) (c : rb_Row) (x0 : Int32) (x1 : Int32) (o : Int32) (hc : μ 5 = c) (h : XX1_isShown c x0 x1 = some o) : rb_Ct yX1_isShown cX1_isShown 3 (some .boolean) 7 [.inr 3, .inl x0, .inl x1] μ (some o) μ := by
  unfold XX1_isShown at h
  have hini : rb_ov μ [(5, c)] = μ := rb_ov_sf _ _ (And.intro hc True.intro)
  have hfin := hini
  refine rb_ctz (w := [(5, c)]) rfl pn_1 (Nat.le_of_ble_eq_true rfl) rfl hini ?_
  obtain ⟨v1, e2, h⟩ := rb_bd h
  refine ev_aload_n (v := 3) (pc := 0) dX1_isShown_0 rfl ?_
  refine ev_getr (q := 5) (pc := 1) dX1_isShown_1 fl_RX1_9 rfl rfl ?_
  refine ev_sipush (v := 299) (pc := 4) dX1_isShown_4 ks_299 ?_
  refine ev_iload_n (v := x0) (pc := 7) dX1_isShown_7 rfl ?_
  refine ev_iadd (pc := 8) dX1_isShown_8 ?_
  refine ev_iald (pc := 9) dX1_isShown_9 rfl e2 ?_
  refine ev_iload_n (v := x1) (pc := 10) dX1_isShown_10 rfl ?_
  by_cases b3 : v1 = x1
  · rw [if_pos b3] at h
    refine ev_icmp_ne_f (t := 39) (pc := 11) dX1_isShown_11 (by decide) b3 ?_
    obtain ⟨v4, e5, h⟩ := rb_bd h
    refine ev_aload_n (v := 3) (pc := 14) dX1_isShown_14 rfl ?_
    refine ev_getr (q := 5) (pc := 15) dX1_isShown_15 fl_RX1_9 rfl rfl ?_
    refine ev_sipush (v := 443) (pc := 18) dX1_isShown_18 ks_443 ?_
    refine ev_iload_n (v := x0) (pc := 21) dX1_isShown_21 rfl ?_
    refine ev_iadd (pc := 22) dX1_isShown_22 ?_
    refine ev_iald (pc := 23) dX1_isShown_23 rfl e5 ?_
    by_cases b6 : v4 < 0
    · rw [if_pos b6] at h
      refine ev_if_lt_t (t := 39) (pc := 24) dX1_isShown_24 (by decide) b6 ?_
      refine ev_iconst (v := 0) (pc := 39) dX1_isShown_39 ki_0 ?_
      obtain rfl := Option.some.inj h
      exact ev_iret (pc := 40) dX1_isShown_40 rfl rfl rfl hfin
    · rw [if_neg b6] at h
      refine ev_if_lt_f (t := 39) (pc := 24) dX1_isShown_24 (by decide) b6 ?_
      obtain ⟨t7, e8, h⟩ := rb_bd h
      refine ev_aload_n (v := 3) (pc := 27) dX1_isShown_27 rfl ?_
      refine ev_iload_n (v := x0) (pc := 28) dX1_isShown_28 rfl ?_
      refine ev_cVi1 (pc := 29) dX1_isShown_29 mv_X1_tells lk_RX1_40 rp_3 (ct0_X1_tells _ _ _ _ rfl e8) (Nat.le_of_ble_eq_true rfl) (Nat.le_of_ble_eq_true rfl) ?_
      by_cases b9 : t7 = 0
      · rw [if_pos b9] at h
        refine ev_if_eq_t (t := 39) (pc := 32) dX1_isShown_32 (by decide) b9 ?_
        refine ev_iconst (v := 0) (pc := 39) dX1_isShown_39 ki_0 ?_
        obtain rfl := Option.some.inj h
        exact ev_iret (pc := 40) dX1_isShown_40 rfl rfl rfl hfin
      · rw [if_neg b9] at h
        refine ev_if_eq_f (t := 39) (pc := 32) dX1_isShown_32 (by decide) b9 ?_
        refine ev_iconst (v := 1) (pc := 35) dX1_isShown_35 ki_1 ?_
        refine ev_goto (t := 40) (pc := 36) dX1_isShown_36 (by decide) ?_
        obtain rfl := Option.some.inj h
        exact ev_iret (pc := 40) dX1_isShown_40 rfl rfl rfl hfin
  · rw [if_neg b3] at h
    refine ev_icmp_ne_t (t := 39) (pc := 11) dX1_isShown_11 (by decide) b3 ?_
    refine ev_iconst (v := 0) (pc := 39) dX1_isShown_39 ki_0 ?_
    obtain rfl := Option.some.inj h
    exact ev_iret (pc := 40) dX1_isShown_40 rfl rfl rfl hfin
set_option maxHeartbeats 4000000 in
set_option maxRecDepth 20000 in
theorem ct1_X1_isShown (μ : rb_Mem) (c : rb_Row) (x0 : Int32) (x1 : Int32) (o : Int32) (hc : μ 11 = c) (h : XX1_isShown c x0 x1 = some o) : rb_Ct yX1_isShown cX1_isShown 3 (some .boolean) 7 [.inr 9, .inl x0, .inl x1] μ (some o) μ := by
  unfold XX1_isShown at h
  have hini : rb_ov μ [(11, c)] = μ := rb_ov_sf _ _ (And.intro hc True.intro)
  have hfin := hini
  refine rb_ctz (w := [(11, c)]) rfl pn_1 (Nat.le_of_ble_eq_true rfl) rfl hini ?_
  obtain ⟨v1, e2, h⟩ := rb_bd h
  refine ev_aload_n (v := 9) (pc := 0) dX1_isShown_0 rfl ?_
  refine ev_getr (q := 11) (pc := 1) dX1_isShown_1 fl_RX1_9 rfl rfl ?_
  refine ev_sipush (v := 299) (pc := 4) dX1_isShown_4 ks_299 ?_
  refine ev_iload_n (v := x0) (pc := 7) dX1_isShown_7 rfl ?_
  refine ev_iadd (pc := 8) dX1_isShown_8 ?_
  refine ev_iald (pc := 9) dX1_isShown_9 rfl e2 ?_
  refine ev_iload_n (v := x1) (pc := 10) dX1_isShown_10 rfl ?_
  by_cases b3 : v1 = x1
  · rw [if_pos b3] at h
    refine ev_icmp_ne_f (t := 39) (pc := 11) dX1_isShown_11 (by decide) b3 ?_
    obtain ⟨v4, e5, h⟩ := rb_bd h
    refine ev_aload_n (v := 9) (pc := 14) dX1_isShown_14 rfl ?_
    refine ev_getr (q := 11) (pc := 15) dX1_isShown_15 fl_RX1_9 rfl rfl ?_
    refine ev_sipush (v := 443) (pc := 18) dX1_isShown_18 ks_443 ?_
    refine ev_iload_n (v := x0) (pc := 21) dX1_isShown_21 rfl ?_
    refine ev_iadd (pc := 22) dX1_isShown_22 ?_
    refine ev_iald (pc := 23) dX1_isShown_23 rfl e5 ?_
    by_cases b6 : v4 < 0
    · rw [if_pos b6] at h
      refine ev_if_lt_t (t := 39) (pc := 24) dX1_isShown_24 (by decide) b6 ?_
      refine ev_iconst (v := 0) (pc := 39) dX1_isShown_39 ki_0 ?_
      obtain rfl := Option.some.inj h
      exact ev_iret (pc := 40) dX1_isShown_40 rfl rfl rfl hfin
    · rw [if_neg b6] at h
      refine ev_if_lt_f (t := 39) (pc := 24) dX1_isShown_24 (by decide) b6 ?_
      obtain ⟨t7, e8, h⟩ := rb_bd h
      refine ev_aload_n (v := 9) (pc := 27) dX1_isShown_27 rfl ?_
      refine ev_iload_n (v := x0) (pc := 28) dX1_isShown_28 rfl ?_
      refine ev_cVi1 (pc := 29) dX1_isShown_29 mv_X1_tells lk_RX1_40 rp_9 (ct1_X1_tells _ _ _ _ rfl e8) (Nat.le_of_ble_eq_true rfl) (Nat.le_of_ble_eq_true rfl) ?_
      by_cases b9 : t7 = 0
      · rw [if_pos b9] at h
        refine ev_if_eq_t (t := 39) (pc := 32) dX1_isShown_32 (by decide) b9 ?_
        refine ev_iconst (v := 0) (pc := 39) dX1_isShown_39 ki_0 ?_
        obtain rfl := Option.some.inj h
        exact ev_iret (pc := 40) dX1_isShown_40 rfl rfl rfl hfin
      · rw [if_neg b9] at h
        refine ev_if_eq_f (t := 39) (pc := 32) dX1_isShown_32 (by decide) b9 ?_
        refine ev_iconst (v := 1) (pc := 35) dX1_isShown_35 ki_1 ?_
        refine ev_goto (t := 40) (pc := 36) dX1_isShown_36 (by decide) ?_
        obtain rfl := Option.some.inj h
        exact ev_iret (pc := 40) dX1_isShown_40 rfl rfl rfl hfin
  · rw [if_neg b3] at h
    refine ev_icmp_ne_t (t := 39) (pc := 11) dX1_isShown_11 (by decide) b3 ?_
    refine ev_iconst (v := 0) (pc := 39) dX1_isShown_39 ki_0 ?_
    obtain rfl := Option.some.inj h
    exact ev_iret (pc := 40) dX1_isShown_40 rfl rfl rfl hfin
def XX1_shownBy (c : rb_Row) (x0 : Int32) : Option (Int32) := (rb_rd c 773 2).bind fun v1 => (rb_lp (ρ := Int32) (fun (s3 : Int32 × Int32) => if v1 ≤ s3.2 then some (.inr s3.1) else (XX1_isShown c s3.2 x0).bind fun t12 => ((if t12 = 0 then some s3.1 else some (s3.1 + 1)) : Option (Int32)).bind fun j14 => some (.inl (j14, (s3.2 + 1)))) 100000 (0, 0)).bind fun q4 => some q4
set_option maxHeartbeats 4000000 in
set_option maxRecDepth 20000 in
theorem ct0_X1_shownBy (μ : rb_Mem) (c : rb_Row) (x0 : Int32) (o : Int32) (hc : μ 5 = c) (h : XX1_shownBy c x0 = some o) : rb_Ct yX1_shownBy cX1_shownBy 5 (some .int) 8 [.inr 3, .inl x0] μ (some o) μ := by
  unfold XX1_shownBy at h
  have hini : rb_ov μ [(5, c)] = μ := rb_ov_sf _ _ (And.intro hc True.intro)
  have hfin := hini
  refine rb_cti (w := [(5, c)]) rfl pn_1 (Nat.le_of_ble_eq_true rfl) rfl hini ?_
  obtain ⟨v1, e2, h⟩ := rb_bd h
  refine ev_aload_n (v := 3) (pc := 0) dX1_shownBy_0 rfl ?_
  refine ev_getr (q := 5) (pc := 1) dX1_shownBy_1 fl_RX1_9 rfl rfl ?_
  refine ev_iconst (v := 2) (pc := 4) dX1_shownBy_4 ki_2 ?_
  refine ev_iald (pc := 5) dX1_shownBy_5 rfl e2 ?_
  refine ev_istore_n (L' := [some (.inr 3), some (.inl x0), some (.inl v1), none, none]) (pc := 6) dX1_shownBy_6 (Nat.le_of_ble_eq_true rfl) rfl ?_
  refine ev_iconst (v := 0) (pc := 7) dX1_shownBy_7 ki_0 ?_
  refine ev_istore_n (L' := [some (.inr 3), some (.inl x0), some (.inl v1), some (.inl 0), none]) (pc := 8) dX1_shownBy_8 (Nat.le_of_ble_eq_true rfl) rfl ?_
  refine ev_iconst (v := 0) (pc := 9) dX1_shownBy_9 ki_0 ?_
  refine ev_istore (L' := [some (.inr 3), some (.inl x0), some (.inl v1), some (.inl 0), some (.inl 0)]) (pc := 10) dX1_shownBy_10 (Nat.le_of_ble_eq_true rfl) rfl ?_
  obtain ⟨q4, l5, h⟩ := rb_bd h
  have hx9 : rb_Ev RX1 cX1_shownBy 5 (some .int) none 8 (some o) μ 37 [none, none, none, some (.inl q4), none] [] (rb_ov μ [(5, c)]) := by
    refine ev_iload_n (v := q4) (pc := 37) dX1_shownBy_37 rfl ?_
    obtain rfl := Option.some.inj h
    exact ev_iret (pc := 38) dX1_shownBy_38 rfl rfl rfl hfin
  refine rb_lp_ev (P := fun (s3 : Int32 × Int32) => rb_Ev RX1 cX1_shownBy 5 (some .int) none 8 (some o) μ 12 [some (.inr 3), some (.inl x0), some (.inl v1), some (.inl s3.1), some (.inl s3.2)] [] (rb_ov μ [(5, c)])) ?_ 100000 (0, 0) l5
  intro s3 y6 h ih7 hE8
  refine ev_iload (v := s3.2) (pc := 12) dX1_shownBy_12 rfl ?_
  refine ev_iload_n (v := v1) (pc := 14) dX1_shownBy_14 rfl ?_
  by_cases b11 : v1 ≤ s3.2
  · rw [if_pos b11] at h
    refine ev_icmp_ge_t (t := 37) (pc := 15) dX1_shownBy_15 (by decide) b11 ?_
    obtain rfl := Option.some.inj h
    obtain rfl := hE8 _ rfl
    exact ev_fg (L := [none, none, none, some (.inl s3.1), none]) (And.intro rfl True.intro) (hx9)
  · rw [if_neg b11] at h
    refine ev_icmp_ge_f (t := 37) (pc := 15) dX1_shownBy_15 (by decide) b11 ?_
    obtain ⟨t12, e13, h⟩ := rb_bd h
    refine ev_aload_n (v := 3) (pc := 18) dX1_shownBy_18 rfl ?_
    refine ev_iload (v := s3.2) (pc := 19) dX1_shownBy_19 rfl ?_
    refine ev_iload_n (v := x0) (pc := 21) dX1_shownBy_21 rfl ?_
    refine ev_cVi2 (pc := 22) dX1_shownBy_22 mv_X1_isShown lk_RX1_43 rp_3 (ct0_X1_isShown _ _ _ _ _ rfl e13) (Nat.le_of_ble_eq_true rfl) (Nat.le_of_ble_eq_true rfl) ?_
    obtain ⟨j14, e15, h⟩ := rb_bd h
    have hj16 : rb_Ev RX1 cX1_shownBy 5 (some .int) none 8 (some o) μ 31 [some (.inr 3), some (.inl x0), some (.inl v1), some (.inl j14), some (.inl s3.2)] [] (rb_ov μ [(5, c)]) := by
      refine ev_iinc (x := s3.2) (v := (s3.2 + 1)) (L' := [some (.inr 3), some (.inl x0), some (.inl v1), some (.inl j14), some (.inl (s3.2 + 1))]) (pc := 31) dX1_shownBy_31 rfl (kx_1 _) (Nat.le_of_ble_eq_true rfl) rfl ?_
      refine ev_goto (t := 12) (pc := 34) dX1_shownBy_34 (by decide) ?_
      obtain rfl := Option.some.inj h
      exact ih7 (j14, (s3.2 + 1)) rfl
    replace h := e15
    by_cases b17 : t12 = 0
    · rw [if_pos b17] at h
      refine ev_if_eq_t (t := 31) (pc := 25) dX1_shownBy_25 (by decide) b17 ?_
      obtain rfl := Option.some.inj h
      exact hj16
    · rw [if_neg b17] at h
      refine ev_if_eq_f (t := 31) (pc := 25) dX1_shownBy_25 (by decide) b17 ?_
      refine ev_iinc (x := s3.1) (v := (s3.1 + 1)) (L' := [some (.inr 3), some (.inl x0), some (.inl v1), some (.inl (s3.1 + 1)), some (.inl s3.2)]) (pc := 28) dX1_shownBy_28 rfl (kx_1 _) (Nat.le_of_ble_eq_true rfl) rfl ?_
      obtain rfl := Option.some.inj h
      exact hj16
set_option maxHeartbeats 4000000 in
set_option maxRecDepth 20000 in
theorem ct1_X1_shownBy (μ : rb_Mem) (c : rb_Row) (x0 : Int32) (o : Int32) (hc : μ 11 = c) (h : XX1_shownBy c x0 = some o) : rb_Ct yX1_shownBy cX1_shownBy 5 (some .int) 8 [.inr 9, .inl x0] μ (some o) μ := by
  unfold XX1_shownBy at h
  have hini : rb_ov μ [(11, c)] = μ := rb_ov_sf _ _ (And.intro hc True.intro)
  have hfin := hini
  refine rb_cti (w := [(11, c)]) rfl pn_1 (Nat.le_of_ble_eq_true rfl) rfl hini ?_
  obtain ⟨v1, e2, h⟩ := rb_bd h
  refine ev_aload_n (v := 9) (pc := 0) dX1_shownBy_0 rfl ?_
  refine ev_getr (q := 11) (pc := 1) dX1_shownBy_1 fl_RX1_9 rfl rfl ?_
  refine ev_iconst (v := 2) (pc := 4) dX1_shownBy_4 ki_2 ?_
  refine ev_iald (pc := 5) dX1_shownBy_5 rfl e2 ?_
  refine ev_istore_n (L' := [some (.inr 9), some (.inl x0), some (.inl v1), none, none]) (pc := 6) dX1_shownBy_6 (Nat.le_of_ble_eq_true rfl) rfl ?_
  refine ev_iconst (v := 0) (pc := 7) dX1_shownBy_7 ki_0 ?_
  refine ev_istore_n (L' := [some (.inr 9), some (.inl x0), some (.inl v1), some (.inl 0), none]) (pc := 8) dX1_shownBy_8 (Nat.le_of_ble_eq_true rfl) rfl ?_
  refine ev_iconst (v := 0) (pc := 9) dX1_shownBy_9 ki_0 ?_
  refine ev_istore (L' := [some (.inr 9), some (.inl x0), some (.inl v1), some (.inl 0), some (.inl 0)]) (pc := 10) dX1_shownBy_10 (Nat.le_of_ble_eq_true rfl) rfl ?_
  obtain ⟨q4, l5, h⟩ := rb_bd h
  have hx9 : rb_Ev RX1 cX1_shownBy 5 (some .int) none 8 (some o) μ 37 [none, none, none, some (.inl q4), none] [] (rb_ov μ [(11, c)]) := by
    refine ev_iload_n (v := q4) (pc := 37) dX1_shownBy_37 rfl ?_
    obtain rfl := Option.some.inj h
    exact ev_iret (pc := 38) dX1_shownBy_38 rfl rfl rfl hfin
  refine rb_lp_ev (P := fun (s3 : Int32 × Int32) => rb_Ev RX1 cX1_shownBy 5 (some .int) none 8 (some o) μ 12 [some (.inr 9), some (.inl x0), some (.inl v1), some (.inl s3.1), some (.inl s3.2)] [] (rb_ov μ [(11, c)])) ?_ 100000 (0, 0) l5
  intro s3 y6 h ih7 hE8
  refine ev_iload (v := s3.2) (pc := 12) dX1_shownBy_12 rfl ?_
  refine ev_iload_n (v := v1) (pc := 14) dX1_shownBy_14 rfl ?_
  by_cases b11 : v1 ≤ s3.2
  · rw [if_pos b11] at h
    refine ev_icmp_ge_t (t := 37) (pc := 15) dX1_shownBy_15 (by decide) b11 ?_
    obtain rfl := Option.some.inj h
    obtain rfl := hE8 _ rfl
    exact ev_fg (L := [none, none, none, some (.inl s3.1), none]) (And.intro rfl True.intro) (hx9)
  · rw [if_neg b11] at h
    refine ev_icmp_ge_f (t := 37) (pc := 15) dX1_shownBy_15 (by decide) b11 ?_
    obtain ⟨t12, e13, h⟩ := rb_bd h
    refine ev_aload_n (v := 9) (pc := 18) dX1_shownBy_18 rfl ?_
    refine ev_iload (v := s3.2) (pc := 19) dX1_shownBy_19 rfl ?_
    refine ev_iload_n (v := x0) (pc := 21) dX1_shownBy_21 rfl ?_
    refine ev_cVi2 (pc := 22) dX1_shownBy_22 mv_X1_isShown lk_RX1_43 rp_9 (ct1_X1_isShown _ _ _ _ _ rfl e13) (Nat.le_of_ble_eq_true rfl) (Nat.le_of_ble_eq_true rfl) ?_
    obtain ⟨j14, e15, h⟩ := rb_bd h
    have hj16 : rb_Ev RX1 cX1_shownBy 5 (some .int) none 8 (some o) μ 31 [some (.inr 9), some (.inl x0), some (.inl v1), some (.inl j14), some (.inl s3.2)] [] (rb_ov μ [(11, c)]) := by
      refine ev_iinc (x := s3.2) (v := (s3.2 + 1)) (L' := [some (.inr 9), some (.inl x0), some (.inl v1), some (.inl j14), some (.inl (s3.2 + 1))]) (pc := 31) dX1_shownBy_31 rfl (kx_1 _) (Nat.le_of_ble_eq_true rfl) rfl ?_
      refine ev_goto (t := 12) (pc := 34) dX1_shownBy_34 (by decide) ?_
      obtain rfl := Option.some.inj h
      exact ih7 (j14, (s3.2 + 1)) rfl
    replace h := e15
    by_cases b17 : t12 = 0
    · rw [if_pos b17] at h
      refine ev_if_eq_t (t := 31) (pc := 25) dX1_shownBy_25 (by decide) b17 ?_
      obtain rfl := Option.some.inj h
      exact hj16
    · rw [if_neg b17] at h
      refine ev_if_eq_f (t := 31) (pc := 25) dX1_shownBy_25 (by decide) b17 ?_
      refine ev_iinc (x := s3.1) (v := (s3.1 + 1)) (L' := [some (.inr 9), some (.inl x0), some (.inl v1), some (.inl (s3.1 + 1)), some (.inl s3.2)]) (pc := 28) dX1_shownBy_28 rfl (kx_1 _) (Nat.le_of_ble_eq_true rfl) rfl ?_
      obtain rfl := Option.some.inj h
      exact hj16
def XX1_showing (c : rb_Row) (x0 : Int32) (x1 : Int32) : Option (Int32) := (rb_rd c 773 2).bind fun v1 => (rb_lp (ρ := (Unit) ⊕ (Int32)) (fun (s3 : Int32) => if v1 ≤ s3 then some (.inr (.inl ())) else (XX1_isShown c s3 x0).bind fun t13 => if t13 = 0 then some (.inl (s3 + 1)) else (XX1_aheadOf c s3 1).bind fun t16 => if t16 = x1 then some (.inr (.inr s3)) else some (.inl (s3 + 1))) 100000 0).bind fun q4 => Sum.elim (fun (z11 : Unit) => some (-1)) (fun (w19 : Int32) => some w19) q4
set_option maxHeartbeats 4000000 in
set_option maxRecDepth 20000 in
theorem ct0_X1_showing (μ : rb_Mem) (c : rb_Row) (x0 : Int32) (x1 : Int32) (o : Int32) (hc : μ 5 = c) (h : XX1_showing c x0 x1 = some o) : rb_Ct yX1_showing cX1_showing 5 (some .int) 8 [.inr 3, .inl x0, .inl x1] μ (some o) μ := by
  unfold XX1_showing at h
  have hini : rb_ov μ [(5, c)] = μ := rb_ov_sf _ _ (And.intro hc True.intro)
  have hfin := hini
  refine rb_cti (w := [(5, c)]) rfl pn_1 (Nat.le_of_ble_eq_true rfl) rfl hini ?_
  obtain ⟨v1, e2, h⟩ := rb_bd h
  refine ev_aload_n (v := 3) (pc := 0) dX1_showing_0 rfl ?_
  refine ev_getr (q := 5) (pc := 1) dX1_showing_1 fl_RX1_9 rfl rfl ?_
  refine ev_iconst (v := 2) (pc := 4) dX1_showing_4 ki_2 ?_
  refine ev_iald (pc := 5) dX1_showing_5 rfl e2 ?_
  refine ev_istore_n (L' := [some (.inr 3), some (.inl x0), some (.inl x1), some (.inl v1), none]) (pc := 6) dX1_showing_6 (Nat.le_of_ble_eq_true rfl) rfl ?_
  refine ev_iconst (v := 0) (pc := 7) dX1_showing_7 ki_0 ?_
  refine ev_istore (L' := [some (.inr 3), some (.inl x0), some (.inl x1), some (.inl v1), some (.inl 0)]) (pc := 8) dX1_showing_8 (Nat.le_of_ble_eq_true rfl) rfl ?_
  obtain ⟨q4, l5, h⟩ := rb_bd h
  have hx9 : ∀ z11 : Unit, q4 = .inl z11 → rb_Ev RX1 cX1_showing 5 (some .int) none 8 (some o) μ 46 [none, none, none, none, none] [] (rb_ov μ [(5, c)]) := by
    intro z11 hz
    rw [hz] at h
    replace h := rb_sel h
    refine ev_iconst (v := (-1)) (pc := 46) dX1_showing_46 ki_m1 ?_
    obtain rfl := Option.some.inj h
    exact ev_iret (pc := 47) dX1_showing_47 rfl rfl rfl hfin
  have hr10 : ∀ w19 : Int32, q4 = .inr w19 → w19 = o := by
    intro w19 hz
    rw [hz] at h
    replace h := rb_ser h
    exact Option.some.inj h
  refine rb_lp_ev (P := fun (s3 : Int32) => rb_Ev RX1 cX1_showing 5 (some .int) none 8 (some o) μ 10 [some (.inr 3), some (.inl x0), some (.inl x1), some (.inl v1), some (.inl s3)] [] (rb_ov μ [(5, c)])) ?_ 100000 0 l5
  intro s3 y6 h ih7 hE8
  refine ev_iload (v := s3) (pc := 10) dX1_showing_10 rfl ?_
  refine ev_iload_n (v := v1) (pc := 12) dX1_showing_12 rfl ?_
  by_cases b12 : v1 ≤ s3
  · rw [if_pos b12] at h
    refine ev_icmp_ge_t (t := 46) (pc := 13) dX1_showing_13 (by decide) b12 ?_
    obtain rfl := Option.some.inj h
    exact ev_fg (L := [none, none, none, none, none]) True.intro (hx9 () (hE8 _ rfl).symm)
  · rw [if_neg b12] at h
    refine ev_icmp_ge_f (t := 46) (pc := 13) dX1_showing_13 (by decide) b12 ?_
    obtain ⟨t13, e14, h⟩ := rb_bd h
    refine ev_aload_n (v := 3) (pc := 16) dX1_showing_16 rfl ?_
    refine ev_iload (v := s3) (pc := 17) dX1_showing_17 rfl ?_
    refine ev_iload_n (v := x0) (pc := 19) dX1_showing_19 rfl ?_
    refine ev_cVi2 (pc := 20) dX1_showing_20 mv_X1_isShown lk_RX1_43 rp_3 (ct0_X1_isShown _ _ _ _ _ rfl e14) (Nat.le_of_ble_eq_true rfl) (Nat.le_of_ble_eq_true rfl) ?_
    by_cases b15 : t13 = 0
    · rw [if_pos b15] at h
      refine ev_if_eq_t (t := 40) (pc := 23) dX1_showing_23 (by decide) b15 ?_
      refine ev_iinc (x := s3) (v := (s3 + 1)) (L' := [some (.inr 3), some (.inl x0), some (.inl x1), some (.inl v1), some (.inl (s3 + 1))]) (pc := 40) dX1_showing_40 rfl (kx_1 _) (Nat.le_of_ble_eq_true rfl) rfl ?_
      refine ev_goto (t := 10) (pc := 43) dX1_showing_43 (by decide) ?_
      obtain rfl := Option.some.inj h
      exact ih7 (s3 + 1) rfl
    · rw [if_neg b15] at h
      refine ev_if_eq_f (t := 40) (pc := 23) dX1_showing_23 (by decide) b15 ?_
      obtain ⟨t16, e17, h⟩ := rb_bd h
      refine ev_aload_n (v := 3) (pc := 26) dX1_showing_26 rfl ?_
      refine ev_iload (v := s3) (pc := 27) dX1_showing_27 rfl ?_
      refine ev_iconst (v := 1) (pc := 29) dX1_showing_29 ki_1 ?_
      refine ev_cVi2 (pc := 30) dX1_showing_30 mv_X1_aheadOf lk_RX1_36 rp_3 (ct0_X1_aheadOf _ _ _ _ _ rfl e17) (Nat.le_of_ble_eq_true rfl) (Nat.le_of_ble_eq_true rfl) ?_
      refine ev_iload_n (v := x1) (pc := 33) dX1_showing_33 rfl ?_
      by_cases b18 : t16 = x1
      · rw [if_pos b18] at h
        refine ev_icmp_ne_f (t := 40) (pc := 34) dX1_showing_34 (by decide) b18 ?_
        refine ev_iload (v := s3) (pc := 37) dX1_showing_37 rfl ?_
        obtain rfl := Option.some.inj h
        obtain rfl := hr10 _ (hE8 _ rfl).symm
        exact ev_iret (pc := 39) dX1_showing_39 rfl rfl rfl hfin
      · rw [if_neg b18] at h
        refine ev_icmp_ne_t (t := 40) (pc := 34) dX1_showing_34 (by decide) b18 ?_
        refine ev_iinc (x := s3) (v := (s3 + 1)) (L' := [some (.inr 3), some (.inl x0), some (.inl x1), some (.inl v1), some (.inl (s3 + 1))]) (pc := 40) dX1_showing_40 rfl (kx_1 _) (Nat.le_of_ble_eq_true rfl) rfl ?_
        refine ev_goto (t := 10) (pc := 43) dX1_showing_43 (by decide) ?_
        obtain rfl := Option.some.inj h
        exact ih7 (s3 + 1) rfl
set_option maxHeartbeats 4000000 in
set_option maxRecDepth 20000 in
theorem ct1_X1_showing (μ : rb_Mem) (c : rb_Row) (x0 : Int32) (x1 : Int32) (o : Int32) (hc : μ 11 = c) (h : XX1_showing c x0 x1 = some o) : rb_Ct yX1_showing cX1_showing 5 (some .int) 8 [.inr 9, .inl x0, .inl x1] μ (some o) μ := by
  unfold XX1_showing at h
  have hini : rb_ov μ [(11, c)] = μ := rb_ov_sf _ _ (And.intro hc True.intro)
  have hfin := hini
  refine rb_cti (w := [(11, c)]) rfl pn_1 (Nat.le_of_ble_eq_true rfl) rfl hini ?_
  obtain ⟨v1, e2, h⟩ := rb_bd h
  refine ev_aload_n (v := 9) (pc := 0) dX1_showing_0 rfl ?_
  refine ev_getr (q := 11) (pc := 1) dX1_showing_1 fl_RX1_9 rfl rfl ?_
  refine ev_iconst (v := 2) (pc := 4) dX1_showing_4 ki_2 ?_
  refine ev_iald (pc := 5) dX1_showing_5 rfl e2 ?_
  refine ev_istore_n (L' := [some (.inr 9), some (.inl x0), some (.inl x1), some (.inl v1), none]) (pc := 6) dX1_showing_6 (Nat.le_of_ble_eq_true rfl) rfl ?_
  refine ev_iconst (v := 0) (pc := 7) dX1_showing_7 ki_0 ?_
  refine ev_istore (L' := [some (.inr 9), some (.inl x0), some (.inl x1), some (.inl v1), some (.inl 0)]) (pc := 8) dX1_showing_8 (Nat.le_of_ble_eq_true rfl) rfl ?_
  obtain ⟨q4, l5, h⟩ := rb_bd h
  have hx9 : ∀ z11 : Unit, q4 = .inl z11 → rb_Ev RX1 cX1_showing 5 (some .int) none 8 (some o) μ 46 [none, none, none, none, none] [] (rb_ov μ [(11, c)]) := by
    intro z11 hz
    rw [hz] at h
    replace h := rb_sel h
    refine ev_iconst (v := (-1)) (pc := 46) dX1_showing_46 ki_m1 ?_
    obtain rfl := Option.some.inj h
    exact ev_iret (pc := 47) dX1_showing_47 rfl rfl rfl hfin
  have hr10 : ∀ w19 : Int32, q4 = .inr w19 → w19 = o := by
    intro w19 hz
    rw [hz] at h
    replace h := rb_ser h
    exact Option.some.inj h
  refine rb_lp_ev (P := fun (s3 : Int32) => rb_Ev RX1 cX1_showing 5 (some .int) none 8 (some o) μ 10 [some (.inr 9), some (.inl x0), some (.inl x1), some (.inl v1), some (.inl s3)] [] (rb_ov μ [(11, c)])) ?_ 100000 0 l5
  intro s3 y6 h ih7 hE8
  refine ev_iload (v := s3) (pc := 10) dX1_showing_10 rfl ?_
  refine ev_iload_n (v := v1) (pc := 12) dX1_showing_12 rfl ?_
  by_cases b12 : v1 ≤ s3
  · rw [if_pos b12] at h
    refine ev_icmp_ge_t (t := 46) (pc := 13) dX1_showing_13 (by decide) b12 ?_
    obtain rfl := Option.some.inj h
    exact ev_fg (L := [none, none, none, none, none]) True.intro (hx9 () (hE8 _ rfl).symm)
  · rw [if_neg b12] at h
    refine ev_icmp_ge_f (t := 46) (pc := 13) dX1_showing_13 (by decide) b12 ?_
    obtain ⟨t13, e14, h⟩ := rb_bd h
    refine ev_aload_n (v := 9) (pc := 16) dX1_showing_16 rfl ?_
    refine ev_iload (v := s3) (pc := 17) dX1_showing_17 rfl ?_
    refine ev_iload_n (v := x0) (pc := 19) dX1_showing_19 rfl ?_
    refine ev_cVi2 (pc := 20) dX1_showing_20 mv_X1_isShown lk_RX1_43 rp_9 (ct1_X1_isShown _ _ _ _ _ rfl e14) (Nat.le_of_ble_eq_true rfl) (Nat.le_of_ble_eq_true rfl) ?_
    by_cases b15 : t13 = 0
    · rw [if_pos b15] at h
      refine ev_if_eq_t (t := 40) (pc := 23) dX1_showing_23 (by decide) b15 ?_
      refine ev_iinc (x := s3) (v := (s3 + 1)) (L' := [some (.inr 9), some (.inl x0), some (.inl x1), some (.inl v1), some (.inl (s3 + 1))]) (pc := 40) dX1_showing_40 rfl (kx_1 _) (Nat.le_of_ble_eq_true rfl) rfl ?_
      refine ev_goto (t := 10) (pc := 43) dX1_showing_43 (by decide) ?_
      obtain rfl := Option.some.inj h
      exact ih7 (s3 + 1) rfl
    · rw [if_neg b15] at h
      refine ev_if_eq_f (t := 40) (pc := 23) dX1_showing_23 (by decide) b15 ?_
      obtain ⟨t16, e17, h⟩ := rb_bd h
      refine ev_aload_n (v := 9) (pc := 26) dX1_showing_26 rfl ?_
      refine ev_iload (v := s3) (pc := 27) dX1_showing_27 rfl ?_
      refine ev_iconst (v := 1) (pc := 29) dX1_showing_29 ki_1 ?_
      refine ev_cVi2 (pc := 30) dX1_showing_30 mv_X1_aheadOf lk_RX1_36 rp_9 (ct1_X1_aheadOf _ _ _ _ _ rfl e17) (Nat.le_of_ble_eq_true rfl) (Nat.le_of_ble_eq_true rfl) ?_
      refine ev_iload_n (v := x1) (pc := 33) dX1_showing_33 rfl ?_
      by_cases b18 : t16 = x1
      · rw [if_pos b18] at h
        refine ev_icmp_ne_f (t := 40) (pc := 34) dX1_showing_34 (by decide) b18 ?_
        refine ev_iload (v := s3) (pc := 37) dX1_showing_37 rfl ?_
        obtain rfl := Option.some.inj h
        obtain rfl := hr10 _ (hE8 _ rfl).symm
        exact ev_iret (pc := 39) dX1_showing_39 rfl rfl rfl hfin
      · rw [if_neg b18] at h
        refine ev_icmp_ne_t (t := 40) (pc := 34) dX1_showing_34 (by decide) b18 ?_
        refine ev_iinc (x := s3) (v := (s3 + 1)) (L' := [some (.inr 9), some (.inl x0), some (.inl x1), some (.inl v1), some (.inl (s3 + 1))]) (pc := 40) dX1_showing_40 rfl (kx_1 _) (Nat.le_of_ble_eq_true rfl) rfl ?_
        refine ev_goto (t := 10) (pc := 43) dX1_showing_43 (by decide) ?_
        obtain rfl := Option.some.inj h
        exact ih7 (s3 + 1) rfl
def XX4_asleep (c : rb_Row) : Option (Int32) := (rb_lp (ρ := Int32) (fun (s1 : Int32 × Int32) => if 6 ≤ s1.2 then some (.inr s1.1) else (rb_rd c 773 (539 + s1.2)).bind fun v10 => ((if v10 < 0 then some s1.1 else some (s1.1 ||| (1 <<< (s1.2 &&& 31)))) : Option (Int32)).bind fun j12 => some (.inl (j12, (s1.2 + 1)))) 100000 (0, 0)).bind fun q2 => some q2
set_option maxHeartbeats 4000000 in
set_option maxRecDepth 20000 in
theorem ct0_X4_asleep (μ : rb_Mem) (c : rb_Row) (o : Int32) (hc : μ 5 = c) (h : XX4_asleep c = some o) : rb_Ct yX4_asleep cX4_asleep 3 (some .int) 0 [.inr 4] μ (some o) μ := by
  unfold XX4_asleep at h
  have hini : rb_ov μ [(5, c)] = μ := rb_ov_sf _ _ (And.intro hc True.intro)
  have hfin := hini
  refine rb_cti (w := [(5, c)]) rfl pn_4 (Nat.le_of_ble_eq_true rfl) rfl hini ?_
  refine ev_iconst (v := 0) (pc := 0) dX4_asleep_0 ki_0 ?_
  refine ev_istore_n (L' := [some (.inr 4), some (.inl 0), none]) (pc := 1) dX4_asleep_1 (Nat.le_of_ble_eq_true rfl) rfl ?_
  refine ev_iconst (v := 0) (pc := 2) dX4_asleep_2 ki_0 ?_
  refine ev_istore_n (L' := [some (.inr 4), some (.inl 0), some (.inl 0)]) (pc := 3) dX4_asleep_3 (Nat.le_of_ble_eq_true rfl) rfl ?_
  obtain ⟨q2, l3, h⟩ := rb_bd h
  have hx7 : rb_Ev RX4 cX4_asleep 3 (some .int) none 0 (some o) μ 35 [none, some (.inl q2), none] [] (rb_ov μ [(5, c)]) := by
    refine ev_iload_n (v := q2) (pc := 35) dX4_asleep_35 rfl ?_
    obtain rfl := Option.some.inj h
    exact ev_iret (pc := 36) dX4_asleep_36 rfl rfl rfl hfin
  refine rb_lp_ev (P := fun (s1 : Int32 × Int32) => rb_Ev RX4 cX4_asleep 3 (some .int) none 0 (some o) μ 4 [some (.inr 4), some (.inl s1.1), some (.inl s1.2)] [] (rb_ov μ [(5, c)])) ?_ 100000 (0, 0) l3
  intro s1 y4 h ih5 hE6
  refine ev_iload_n (v := s1.2) (pc := 4) dX4_asleep_4 rfl ?_
  refine ev_bipush (v := 6) (pc := 5) dX4_asleep_5 kb_6 ?_
  by_cases b9 : 6 ≤ s1.2
  · rw [if_pos b9] at h
    refine ev_icmp_ge_t (t := 35) (pc := 7) dX4_asleep_7 (by decide) b9 ?_
    obtain rfl := Option.some.inj h
    obtain rfl := hE6 _ rfl
    exact ev_fg (L := [none, some (.inl s1.1), none]) (And.intro rfl True.intro) (hx7)
  · rw [if_neg b9] at h
    refine ev_icmp_ge_f (t := 35) (pc := 7) dX4_asleep_7 (by decide) b9 ?_
    obtain ⟨v10, e11, h⟩ := rb_bd h
    refine ev_aload_n (v := 4) (pc := 10) dX4_asleep_10 rfl ?_
    refine ev_getr (q := 5) (pc := 11) dX4_asleep_11 fl_RX4_9 rfl rfl ?_
    refine ev_sipush (v := 539) (pc := 14) dX4_asleep_14 ks_539 ?_
    refine ev_iload_n (v := s1.2) (pc := 17) dX4_asleep_17 rfl ?_
    refine ev_iadd (pc := 18) dX4_asleep_18 ?_
    refine ev_iald (pc := 19) dX4_asleep_19 rfl e11 ?_
    obtain ⟨j12, e13, h⟩ := rb_bd h
    have hj14 : rb_Ev RX4 cX4_asleep 3 (some .int) none 0 (some o) μ 29 [some (.inr 4), some (.inl j12), some (.inl s1.2)] [] (rb_ov μ [(5, c)]) := by
      refine ev_iinc (x := s1.2) (v := (s1.2 + 1)) (L' := [some (.inr 4), some (.inl j12), some (.inl (s1.2 + 1))]) (pc := 29) dX4_asleep_29 rfl (kx_1 _) (Nat.le_of_ble_eq_true rfl) rfl ?_
      refine ev_goto (t := 4) (pc := 32) dX4_asleep_32 (by decide) ?_
      obtain rfl := Option.some.inj h
      exact ih5 (j12, (s1.2 + 1)) rfl
    replace h := e13
    by_cases b15 : v10 < 0
    · rw [if_pos b15] at h
      refine ev_if_lt_t (t := 29) (pc := 20) dX4_asleep_20 (by decide) b15 ?_
      obtain rfl := Option.some.inj h
      exact hj14
    · rw [if_neg b15] at h
      refine ev_if_lt_f (t := 29) (pc := 20) dX4_asleep_20 (by decide) b15 ?_
      refine ev_iload_n (v := s1.1) (pc := 23) dX4_asleep_23 rfl ?_
      refine ev_iconst (v := 1) (pc := 24) dX4_asleep_24 ki_1 ?_
      refine ev_iload_n (v := s1.2) (pc := 25) dX4_asleep_25 rfl ?_
      refine ev_ishl (pc := 26) dX4_asleep_26 ?_
      refine ev_ior (pc := 27) dX4_asleep_27 ?_
      refine ev_istore_n (L' := [some (.inr 4), some (.inl (s1.1 ||| (1 <<< (s1.2 &&& 31)))), some (.inl s1.2)]) (pc := 28) dX4_asleep_28 (Nat.le_of_ble_eq_true rfl) rfl ?_
      obtain rfl := Option.some.inj h
      exact hj14
set_option maxHeartbeats 4000000 in
set_option maxRecDepth 20000 in
theorem ct1_X4_asleep (μ : rb_Mem) (c : rb_Row) (o : Int32) (hc : μ 11 = c) (h : XX4_asleep c = some o) : rb_Ct yX4_asleep cX4_asleep 3 (some .int) 0 [.inr 10] μ (some o) μ := by
  unfold XX4_asleep at h
  have hini : rb_ov μ [(11, c)] = μ := rb_ov_sf _ _ (And.intro hc True.intro)
  have hfin := hini
  refine rb_cti (w := [(11, c)]) rfl pn_4 (Nat.le_of_ble_eq_true rfl) rfl hini ?_
  refine ev_iconst (v := 0) (pc := 0) dX4_asleep_0 ki_0 ?_
  refine ev_istore_n (L' := [some (.inr 10), some (.inl 0), none]) (pc := 1) dX4_asleep_1 (Nat.le_of_ble_eq_true rfl) rfl ?_
  refine ev_iconst (v := 0) (pc := 2) dX4_asleep_2 ki_0 ?_
  refine ev_istore_n (L' := [some (.inr 10), some (.inl 0), some (.inl 0)]) (pc := 3) dX4_asleep_3 (Nat.le_of_ble_eq_true rfl) rfl ?_
  obtain ⟨q2, l3, h⟩ := rb_bd h
  have hx7 : rb_Ev RX4 cX4_asleep 3 (some .int) none 0 (some o) μ 35 [none, some (.inl q2), none] [] (rb_ov μ [(11, c)]) := by
    refine ev_iload_n (v := q2) (pc := 35) dX4_asleep_35 rfl ?_
    obtain rfl := Option.some.inj h
    exact ev_iret (pc := 36) dX4_asleep_36 rfl rfl rfl hfin
  refine rb_lp_ev (P := fun (s1 : Int32 × Int32) => rb_Ev RX4 cX4_asleep 3 (some .int) none 0 (some o) μ 4 [some (.inr 10), some (.inl s1.1), some (.inl s1.2)] [] (rb_ov μ [(11, c)])) ?_ 100000 (0, 0) l3
  intro s1 y4 h ih5 hE6
  refine ev_iload_n (v := s1.2) (pc := 4) dX4_asleep_4 rfl ?_
  refine ev_bipush (v := 6) (pc := 5) dX4_asleep_5 kb_6 ?_
  by_cases b9 : 6 ≤ s1.2
  · rw [if_pos b9] at h
    refine ev_icmp_ge_t (t := 35) (pc := 7) dX4_asleep_7 (by decide) b9 ?_
    obtain rfl := Option.some.inj h
    obtain rfl := hE6 _ rfl
    exact ev_fg (L := [none, some (.inl s1.1), none]) (And.intro rfl True.intro) (hx7)
  · rw [if_neg b9] at h
    refine ev_icmp_ge_f (t := 35) (pc := 7) dX4_asleep_7 (by decide) b9 ?_
    obtain ⟨v10, e11, h⟩ := rb_bd h
    refine ev_aload_n (v := 10) (pc := 10) dX4_asleep_10 rfl ?_
    refine ev_getr (q := 11) (pc := 11) dX4_asleep_11 fl_RX4_9 rfl rfl ?_
    refine ev_sipush (v := 539) (pc := 14) dX4_asleep_14 ks_539 ?_
    refine ev_iload_n (v := s1.2) (pc := 17) dX4_asleep_17 rfl ?_
    refine ev_iadd (pc := 18) dX4_asleep_18 ?_
    refine ev_iald (pc := 19) dX4_asleep_19 rfl e11 ?_
    obtain ⟨j12, e13, h⟩ := rb_bd h
    have hj14 : rb_Ev RX4 cX4_asleep 3 (some .int) none 0 (some o) μ 29 [some (.inr 10), some (.inl j12), some (.inl s1.2)] [] (rb_ov μ [(11, c)]) := by
      refine ev_iinc (x := s1.2) (v := (s1.2 + 1)) (L' := [some (.inr 10), some (.inl j12), some (.inl (s1.2 + 1))]) (pc := 29) dX4_asleep_29 rfl (kx_1 _) (Nat.le_of_ble_eq_true rfl) rfl ?_
      refine ev_goto (t := 4) (pc := 32) dX4_asleep_32 (by decide) ?_
      obtain rfl := Option.some.inj h
      exact ih5 (j12, (s1.2 + 1)) rfl
    replace h := e13
    by_cases b15 : v10 < 0
    · rw [if_pos b15] at h
      refine ev_if_lt_t (t := 29) (pc := 20) dX4_asleep_20 (by decide) b15 ?_
      obtain rfl := Option.some.inj h
      exact hj14
    · rw [if_neg b15] at h
      refine ev_if_lt_f (t := 29) (pc := 20) dX4_asleep_20 (by decide) b15 ?_
      refine ev_iload_n (v := s1.1) (pc := 23) dX4_asleep_23 rfl ?_
      refine ev_iconst (v := 1) (pc := 24) dX4_asleep_24 ki_1 ?_
      refine ev_iload_n (v := s1.2) (pc := 25) dX4_asleep_25 rfl ?_
      refine ev_ishl (pc := 26) dX4_asleep_26 ?_
      refine ev_ior (pc := 27) dX4_asleep_27 ?_
      refine ev_istore_n (L' := [some (.inr 10), some (.inl (s1.1 ||| (1 <<< (s1.2 &&& 31)))), some (.inl s1.2)]) (pc := 28) dX4_asleep_28 (Nat.le_of_ble_eq_true rfl) rfl ?_
      obtain rfl := Option.some.inj h
      exact hj14
def XX4_sleepersAt (c : rb_Row) (x0 : Int32) : Option (Int32) := (rb_lp (ρ := Int32) (fun (s1 : Int32 × Int32) => if 6 ≤ s1.2 then some (.inr s1.1) else (rb_rd c 773 (539 + s1.2)).bind fun v10 => ((if v10 = x0 then some (s1.1 + 1) else some s1.1) : Option (Int32)).bind fun j12 => some (.inl (j12, (s1.2 + 1)))) 100000 (0, 0)).bind fun q2 => some q2
set_option maxHeartbeats 4000000 in
set_option maxRecDepth 20000 in
theorem ct0_X4_sleepersAt (μ : rb_Mem) (c : rb_Row) (x0 : Int32) (o : Int32) (hc : μ 5 = c) (h : XX4_sleepersAt c x0 = some o) : rb_Ct yX4_sleepersAt cX4_sleepersAt 4 (some .int) 0 [.inr 4, .inl x0] μ (some o) μ := by
  unfold XX4_sleepersAt at h
  have hini : rb_ov μ [(5, c)] = μ := rb_ov_sf _ _ (And.intro hc True.intro)
  have hfin := hini
  refine rb_cti (w := [(5, c)]) rfl pn_4 (Nat.le_of_ble_eq_true rfl) rfl hini ?_
  refine ev_iconst (v := 0) (pc := 0) dX4_sleepersAt_0 ki_0 ?_
  refine ev_istore_n (L' := [some (.inr 4), some (.inl x0), some (.inl 0), none]) (pc := 1) dX4_sleepersAt_1 (Nat.le_of_ble_eq_true rfl) rfl ?_
  refine ev_iconst (v := 0) (pc := 2) dX4_sleepersAt_2 ki_0 ?_
  refine ev_istore_n (L' := [some (.inr 4), some (.inl x0), some (.inl 0), some (.inl 0)]) (pc := 3) dX4_sleepersAt_3 (Nat.le_of_ble_eq_true rfl) rfl ?_
  obtain ⟨q2, l3, h⟩ := rb_bd h
  have hx7 : rb_Ev RX4 cX4_sleepersAt 4 (some .int) none 0 (some o) μ 33 [none, none, some (.inl q2), none] [] (rb_ov μ [(5, c)]) := by
    refine ev_iload_n (v := q2) (pc := 33) dX4_sleepersAt_33 rfl ?_
    obtain rfl := Option.some.inj h
    exact ev_iret (pc := 34) dX4_sleepersAt_34 rfl rfl rfl hfin
  refine rb_lp_ev (P := fun (s1 : Int32 × Int32) => rb_Ev RX4 cX4_sleepersAt 4 (some .int) none 0 (some o) μ 4 [some (.inr 4), some (.inl x0), some (.inl s1.1), some (.inl s1.2)] [] (rb_ov μ [(5, c)])) ?_ 100000 (0, 0) l3
  intro s1 y4 h ih5 hE6
  refine ev_iload_n (v := s1.2) (pc := 4) dX4_sleepersAt_4 rfl ?_
  refine ev_bipush (v := 6) (pc := 5) dX4_sleepersAt_5 kb_6 ?_
  by_cases b9 : 6 ≤ s1.2
  · rw [if_pos b9] at h
    refine ev_icmp_ge_t (t := 33) (pc := 7) dX4_sleepersAt_7 (by decide) b9 ?_
    obtain rfl := Option.some.inj h
    obtain rfl := hE6 _ rfl
    exact ev_fg (L := [none, none, some (.inl s1.1), none]) (And.intro rfl True.intro) (hx7)
  · rw [if_neg b9] at h
    refine ev_icmp_ge_f (t := 33) (pc := 7) dX4_sleepersAt_7 (by decide) b9 ?_
    obtain ⟨v10, e11, h⟩ := rb_bd h
    refine ev_aload_n (v := 4) (pc := 10) dX4_sleepersAt_10 rfl ?_
    refine ev_getr (q := 5) (pc := 11) dX4_sleepersAt_11 fl_RX4_9 rfl rfl ?_
    refine ev_sipush (v := 539) (pc := 14) dX4_sleepersAt_14 ks_539 ?_
    refine ev_iload_n (v := s1.2) (pc := 17) dX4_sleepersAt_17 rfl ?_
    refine ev_iadd (pc := 18) dX4_sleepersAt_18 ?_
    refine ev_iald (pc := 19) dX4_sleepersAt_19 rfl e11 ?_
    refine ev_iload_n (v := x0) (pc := 20) dX4_sleepersAt_20 rfl ?_
    obtain ⟨j12, e13, h⟩ := rb_bd h
    have hj14 : rb_Ev RX4 cX4_sleepersAt 4 (some .int) none 0 (some o) μ 27 [some (.inr 4), some (.inl x0), some (.inl j12), some (.inl s1.2)] [] (rb_ov μ [(5, c)]) := by
      refine ev_iinc (x := s1.2) (v := (s1.2 + 1)) (L' := [some (.inr 4), some (.inl x0), some (.inl j12), some (.inl (s1.2 + 1))]) (pc := 27) dX4_sleepersAt_27 rfl (kx_1 _) (Nat.le_of_ble_eq_true rfl) rfl ?_
      refine ev_goto (t := 4) (pc := 30) dX4_sleepersAt_30 (by decide) ?_
      obtain rfl := Option.some.inj h
      exact ih5 (j12, (s1.2 + 1)) rfl
    replace h := e13
    by_cases b15 : v10 = x0
    · rw [if_pos b15] at h
      refine ev_icmp_ne_f (t := 27) (pc := 21) dX4_sleepersAt_21 (by decide) b15 ?_
      refine ev_iinc (x := s1.1) (v := (s1.1 + 1)) (L' := [some (.inr 4), some (.inl x0), some (.inl (s1.1 + 1)), some (.inl s1.2)]) (pc := 24) dX4_sleepersAt_24 rfl (kx_1 _) (Nat.le_of_ble_eq_true rfl) rfl ?_
      obtain rfl := Option.some.inj h
      exact hj14
    · rw [if_neg b15] at h
      refine ev_icmp_ne_t (t := 27) (pc := 21) dX4_sleepersAt_21 (by decide) b15 ?_
      obtain rfl := Option.some.inj h
      exact hj14
set_option maxHeartbeats 4000000 in
set_option maxRecDepth 20000 in
theorem ct1_X4_sleepersAt (μ : rb_Mem) (c : rb_Row) (x0 : Int32) (o : Int32) (hc : μ 11 = c) (h : XX4_sleepersAt c x0 = some o) : rb_Ct yX4_sleepersAt cX4_sleepersAt 4 (some .int) 0 [.inr 10, .inl x0] μ (some o) μ := by
  unfold XX4_sleepersAt at h
  have hini : rb_ov μ [(11, c)] = μ := rb_ov_sf _ _ (And.intro hc True.intro)
  have hfin := hini
  refine rb_cti (w := [(11, c)]) rfl pn_4 (Nat.le_of_ble_eq_true rfl) rfl hini ?_
  refine ev_iconst (v := 0) (pc := 0) dX4_sleepersAt_0 ki_0 ?_
  refine ev_istore_n (L' := [some (.inr 10), some (.inl x0), some (.inl 0), none]) (pc := 1) dX4_sleepersAt_1 (Nat.le_of_ble_eq_true rfl) rfl ?_
  refine ev_iconst (v := 0) (pc := 2) dX4_sleepersAt_2 ki_0 ?_
  refine ev_istore_n (L' := [some (.inr 10), some (.inl x0), some (.inl 0), some (.inl 0)]) (pc := 3) dX4_sleepersAt_3 (Nat.le_of_ble_eq_true rfl) rfl ?_
  obtain ⟨q2, l3, h⟩ := rb_bd h
  have hx7 : rb_Ev RX4 cX4_sleepersAt 4 (some .int) none 0 (some o) μ 33 [none, none, some (.inl q2), none] [] (rb_ov μ [(11, c)]) := by
    refine ev_iload_n (v := q2) (pc := 33) dX4_sleepersAt_33 rfl ?_
    obtain rfl := Option.some.inj h
    exact ev_iret (pc := 34) dX4_sleepersAt_34 rfl rfl rfl hfin
  refine rb_lp_ev (P := fun (s1 : Int32 × Int32) => rb_Ev RX4 cX4_sleepersAt 4 (some .int) none 0 (some o) μ 4 [some (.inr 10), some (.inl x0), some (.inl s1.1), some (.inl s1.2)] [] (rb_ov μ [(11, c)])) ?_ 100000 (0, 0) l3
  intro s1 y4 h ih5 hE6
  refine ev_iload_n (v := s1.2) (pc := 4) dX4_sleepersAt_4 rfl ?_
  refine ev_bipush (v := 6) (pc := 5) dX4_sleepersAt_5 kb_6 ?_
  by_cases b9 : 6 ≤ s1.2
  · rw [if_pos b9] at h
    refine ev_icmp_ge_t (t := 33) (pc := 7) dX4_sleepersAt_7 (by decide) b9 ?_
    obtain rfl := Option.some.inj h
    obtain rfl := hE6 _ rfl
    exact ev_fg (L := [none, none, some (.inl s1.1), none]) (And.intro rfl True.intro) (hx7)
  · rw [if_neg b9] at h
    refine ev_icmp_ge_f (t := 33) (pc := 7) dX4_sleepersAt_7 (by decide) b9 ?_
    obtain ⟨v10, e11, h⟩ := rb_bd h
    refine ev_aload_n (v := 10) (pc := 10) dX4_sleepersAt_10 rfl ?_
    refine ev_getr (q := 11) (pc := 11) dX4_sleepersAt_11 fl_RX4_9 rfl rfl ?_
    refine ev_sipush (v := 539) (pc := 14) dX4_sleepersAt_14 ks_539 ?_
    refine ev_iload_n (v := s1.2) (pc := 17) dX4_sleepersAt_17 rfl ?_
    refine ev_iadd (pc := 18) dX4_sleepersAt_18 ?_
    refine ev_iald (pc := 19) dX4_sleepersAt_19 rfl e11 ?_
    refine ev_iload_n (v := x0) (pc := 20) dX4_sleepersAt_20 rfl ?_
    obtain ⟨j12, e13, h⟩ := rb_bd h
    have hj14 : rb_Ev RX4 cX4_sleepersAt 4 (some .int) none 0 (some o) μ 27 [some (.inr 10), some (.inl x0), some (.inl j12), some (.inl s1.2)] [] (rb_ov μ [(11, c)]) := by
      refine ev_iinc (x := s1.2) (v := (s1.2 + 1)) (L' := [some (.inr 10), some (.inl x0), some (.inl j12), some (.inl (s1.2 + 1))]) (pc := 27) dX4_sleepersAt_27 rfl (kx_1 _) (Nat.le_of_ble_eq_true rfl) rfl ?_
      refine ev_goto (t := 4) (pc := 30) dX4_sleepersAt_30 (by decide) ?_
      obtain rfl := Option.some.inj h
      exact ih5 (j12, (s1.2 + 1)) rfl
    replace h := e13
    by_cases b15 : v10 = x0
    · rw [if_pos b15] at h
      refine ev_icmp_ne_f (t := 27) (pc := 21) dX4_sleepersAt_21 (by decide) b15 ?_
      refine ev_iinc (x := s1.1) (v := (s1.1 + 1)) (L' := [some (.inr 10), some (.inl x0), some (.inl (s1.1 + 1)), some (.inl s1.2)]) (pc := 24) dX4_sleepersAt_24 rfl (kx_1 _) (Nat.le_of_ble_eq_true rfl) rfl ?_
      obtain rfl := Option.some.inj h
      exact hj14
    · rw [if_neg b15] at h
      refine ev_icmp_ne_t (t := 27) (pc := 21) dX4_sleepersAt_21 (by decide) b15 ?_
      obtain rfl := Option.some.inj h
      exact hj14
def XX4_sleepersAhead (c : rb_Row) (x0 : Int32) : Option (Int32) := (rb_lp (ρ := Int32) (fun (s1 : Int32 × Int32) => if 6 ≤ s1.2 then some (.inr s1.1) else (rb_rd c 773 (539 + s1.2)).bind fun v10 => (rb_rd c 773 (539 + x0)).bind fun v12 => ((if v10 = v12 then (rb_rd c 773 (545 + s1.2)).bind fun v18 => (rb_rd c 773 (545 + x0)).bind fun v20 => if v20 ≤ v18 then some s1.1 else some (s1.1 + 1) else some s1.1) : Option (Int32)).bind fun j14 => some (.inl (j14, (s1.2 + 1)))) 100000 (0, 0)).bind fun q2 => some q2
set_option maxHeartbeats 4000000 in
set_option maxRecDepth 20000 in
theorem ct0_X4_sleepersAhead (μ : rb_Mem) (c : rb_Row) (x0 : Int32) (o : Int32) (hc : μ 5 = c) (h : XX4_sleepersAhead c x0 = some o) : rb_Ct yX4_sleepersAhead cX4_sleepersAhead 4 (some .int) 0 [.inr 4, .inl x0] μ (some o) μ := by
  unfold XX4_sleepersAhead at h
  have hini : rb_ov μ [(5, c)] = μ := rb_ov_sf _ _ (And.intro hc True.intro)
  have hfin := hini
  refine rb_cti (w := [(5, c)]) rfl pn_4 (Nat.le_of_ble_eq_true rfl) rfl hini ?_
  refine ev_iconst (v := 0) (pc := 0) dX4_sleepersAhead_0 ki_0 ?_
  refine ev_istore_n (L' := [some (.inr 4), some (.inl x0), some (.inl 0), none]) (pc := 1) dX4_sleepersAhead_1 (Nat.le_of_ble_eq_true rfl) rfl ?_
  refine ev_iconst (v := 0) (pc := 2) dX4_sleepersAhead_2 ki_0 ?_
  refine ev_istore_n (L' := [some (.inr 4), some (.inl x0), some (.inl 0), some (.inl 0)]) (pc := 3) dX4_sleepersAhead_3 (Nat.le_of_ble_eq_true rfl) rfl ?_
  obtain ⟨q2, l3, h⟩ := rb_bd h
  have hx7 : rb_Ev RX4 cX4_sleepersAhead 4 (some .int) none 0 (some o) μ 65 [none, none, some (.inl q2), none] [] (rb_ov μ [(5, c)]) := by
    refine ev_iload_n (v := q2) (pc := 65) dX4_sleepersAhead_65 rfl ?_
    obtain rfl := Option.some.inj h
    exact ev_iret (pc := 66) dX4_sleepersAhead_66 rfl rfl rfl hfin
  refine rb_lp_ev (P := fun (s1 : Int32 × Int32) => rb_Ev RX4 cX4_sleepersAhead 4 (some .int) none 0 (some o) μ 4 [some (.inr 4), some (.inl x0), some (.inl s1.1), some (.inl s1.2)] [] (rb_ov μ [(5, c)])) ?_ 100000 (0, 0) l3
  intro s1 y4 h ih5 hE6
  refine ev_iload_n (v := s1.2) (pc := 4) dX4_sleepersAhead_4 rfl ?_
  refine ev_bipush (v := 6) (pc := 5) dX4_sleepersAhead_5 kb_6 ?_
  by_cases b9 : 6 ≤ s1.2
  · rw [if_pos b9] at h
    refine ev_icmp_ge_t (t := 65) (pc := 7) dX4_sleepersAhead_7 (by decide) b9 ?_
    obtain rfl := Option.some.inj h
    obtain rfl := hE6 _ rfl
    exact ev_fg (L := [none, none, some (.inl s1.1), none]) (And.intro rfl True.intro) (hx7)
  · rw [if_neg b9] at h
    refine ev_icmp_ge_f (t := 65) (pc := 7) dX4_sleepersAhead_7 (by decide) b9 ?_
    obtain ⟨v10, e11, h⟩ := rb_bd h
    obtain ⟨v12, e13, h⟩ := rb_bd h
    refine ev_aload_n (v := 4) (pc := 10) dX4_sleepersAhead_10 rfl ?_
    refine ev_getr (q := 5) (pc := 11) dX4_sleepersAhead_11 fl_RX4_9 rfl rfl ?_
    refine ev_sipush (v := 539) (pc := 14) dX4_sleepersAhead_14 ks_539 ?_
    refine ev_iload_n (v := s1.2) (pc := 17) dX4_sleepersAhead_17 rfl ?_
    refine ev_iadd (pc := 18) dX4_sleepersAhead_18 ?_
    refine ev_iald (pc := 19) dX4_sleepersAhead_19 rfl e11 ?_
    refine ev_aload_n (v := 4) (pc := 20) dX4_sleepersAhead_20 rfl ?_
    refine ev_getr (q := 5) (pc := 21) dX4_sleepersAhead_21 fl_RX4_9 rfl rfl ?_
    refine ev_sipush (v := 539) (pc := 24) dX4_sleepersAhead_24 ks_539 ?_
    refine ev_iload_n (v := x0) (pc := 27) dX4_sleepersAhead_27 rfl ?_
    refine ev_iadd (pc := 28) dX4_sleepersAhead_28 ?_
    refine ev_iald (pc := 29) dX4_sleepersAhead_29 rfl e13 ?_
    obtain ⟨j14, e15, h⟩ := rb_bd h
    have hj16 : rb_Ev RX4 cX4_sleepersAhead 4 (some .int) none 0 (some o) μ 59 [some (.inr 4), some (.inl x0), some (.inl j14), some (.inl s1.2)] [] (rb_ov μ [(5, c)]) := by
      refine ev_iinc (x := s1.2) (v := (s1.2 + 1)) (L' := [some (.inr 4), some (.inl x0), some (.inl j14), some (.inl (s1.2 + 1))]) (pc := 59) dX4_sleepersAhead_59 rfl (kx_1 _) (Nat.le_of_ble_eq_true rfl) rfl ?_
      refine ev_goto (t := 4) (pc := 62) dX4_sleepersAhead_62 (by decide) ?_
      obtain rfl := Option.some.inj h
      exact ih5 (j14, (s1.2 + 1)) rfl
    replace h := e15
    by_cases b17 : v10 = v12
    · rw [if_pos b17] at h
      refine ev_icmp_ne_f (t := 59) (pc := 30) dX4_sleepersAhead_30 (by decide) b17 ?_
      obtain ⟨v18, e19, h⟩ := rb_bd h
      obtain ⟨v20, e21, h⟩ := rb_bd h
      refine ev_aload_n (v := 4) (pc := 33) dX4_sleepersAhead_33 rfl ?_
      refine ev_getr (q := 5) (pc := 34) dX4_sleepersAhead_34 fl_RX4_9 rfl rfl ?_
      refine ev_sipush (v := 545) (pc := 37) dX4_sleepersAhead_37 ks_545 ?_
      refine ev_iload_n (v := s1.2) (pc := 40) dX4_sleepersAhead_40 rfl ?_
      refine ev_iadd (pc := 41) dX4_sleepersAhead_41 ?_
      refine ev_iald (pc := 42) dX4_sleepersAhead_42 rfl e19 ?_
      refine ev_aload_n (v := 4) (pc := 43) dX4_sleepersAhead_43 rfl ?_
      refine ev_getr (q := 5) (pc := 44) dX4_sleepersAhead_44 fl_RX4_9 rfl rfl ?_
      refine ev_sipush (v := 545) (pc := 47) dX4_sleepersAhead_47 ks_545 ?_
      refine ev_iload_n (v := x0) (pc := 50) dX4_sleepersAhead_50 rfl ?_
      refine ev_iadd (pc := 51) dX4_sleepersAhead_51 ?_
      refine ev_iald (pc := 52) dX4_sleepersAhead_52 rfl e21 ?_
      by_cases b22 : v20 ≤ v18
      · rw [if_pos b22] at h
        refine ev_icmp_ge_t (t := 59) (pc := 53) dX4_sleepersAhead_53 (by decide) b22 ?_
        obtain rfl := Option.some.inj h
        exact hj16
      · rw [if_neg b22] at h
        refine ev_icmp_ge_f (t := 59) (pc := 53) dX4_sleepersAhead_53 (by decide) b22 ?_
        refine ev_iinc (x := s1.1) (v := (s1.1 + 1)) (L' := [some (.inr 4), some (.inl x0), some (.inl (s1.1 + 1)), some (.inl s1.2)]) (pc := 56) dX4_sleepersAhead_56 rfl (kx_1 _) (Nat.le_of_ble_eq_true rfl) rfl ?_
        obtain rfl := Option.some.inj h
        exact hj16
    · rw [if_neg b17] at h
      refine ev_icmp_ne_t (t := 59) (pc := 30) dX4_sleepersAhead_30 (by decide) b17 ?_
      obtain rfl := Option.some.inj h
      exact hj16
set_option maxHeartbeats 4000000 in
set_option maxRecDepth 20000 in
theorem ct1_X4_sleepersAhead (μ : rb_Mem) (c : rb_Row) (x0 : Int32) (o : Int32) (hc : μ 11 = c) (h : XX4_sleepersAhead c x0 = some o) : rb_Ct yX4_sleepersAhead cX4_sleepersAhead 4 (some .int) 0 [.inr 10, .inl x0] μ (some o) μ := by
  unfold XX4_sleepersAhead at h
  have hini : rb_ov μ [(11, c)] = μ := rb_ov_sf _ _ (And.intro hc True.intro)
  have hfin := hini
  refine rb_cti (w := [(11, c)]) rfl pn_4 (Nat.le_of_ble_eq_true rfl) rfl hini ?_
  refine ev_iconst (v := 0) (pc := 0) dX4_sleepersAhead_0 ki_0 ?_
  refine ev_istore_n (L' := [some (.inr 10), some (.inl x0), some (.inl 0), none]) (pc := 1) dX4_sleepersAhead_1 (Nat.le_of_ble_eq_true rfl) rfl ?_
  refine ev_iconst (v := 0) (pc := 2) dX4_sleepersAhead_2 ki_0 ?_
  refine ev_istore_n (L' := [some (.inr 10), some (.inl x0), some (.inl 0), some (.inl 0)]) (pc := 3) dX4_sleepersAhead_3 (Nat.le_of_ble_eq_true rfl) rfl ?_
  obtain ⟨q2, l3, h⟩ := rb_bd h
  have hx7 : rb_Ev RX4 cX4_sleepersAhead 4 (some .int) none 0 (some o) μ 65 [none, none, some (.inl q2), none] [] (rb_ov μ [(11, c)]) := by
    refine ev_iload_n (v := q2) (pc := 65) dX4_sleepersAhead_65 rfl ?_
    obtain rfl := Option.some.inj h
    exact ev_iret (pc := 66) dX4_sleepersAhead_66 rfl rfl rfl hfin
  refine rb_lp_ev (P := fun (s1 : Int32 × Int32) => rb_Ev RX4 cX4_sleepersAhead 4 (some .int) none 0 (some o) μ 4 [some (.inr 10), some (.inl x0), some (.inl s1.1), some (.inl s1.2)] [] (rb_ov μ [(11, c)])) ?_ 100000 (0, 0) l3
  intro s1 y4 h ih5 hE6
  refine ev_iload_n (v := s1.2) (pc := 4) dX4_sleepersAhead_4 rfl ?_
  refine ev_bipush (v := 6) (pc := 5) dX4_sleepersAhead_5 kb_6 ?_
  by_cases b9 : 6 ≤ s1.2
  · rw [if_pos b9] at h
    refine ev_icmp_ge_t (t := 65) (pc := 7) dX4_sleepersAhead_7 (by decide) b9 ?_
    obtain rfl := Option.some.inj h
    obtain rfl := hE6 _ rfl
    exact ev_fg (L := [none, none, some (.inl s1.1), none]) (And.intro rfl True.intro) (hx7)
  · rw [if_neg b9] at h
    refine ev_icmp_ge_f (t := 65) (pc := 7) dX4_sleepersAhead_7 (by decide) b9 ?_
    obtain ⟨v10, e11, h⟩ := rb_bd h
    obtain ⟨v12, e13, h⟩ := rb_bd h
    refine ev_aload_n (v := 10) (pc := 10) dX4_sleepersAhead_10 rfl ?_
    refine ev_getr (q := 11) (pc := 11) dX4_sleepersAhead_11 fl_RX4_9 rfl rfl ?_
    refine ev_sipush (v := 539) (pc := 14) dX4_sleepersAhead_14 ks_539 ?_
    refine ev_iload_n (v := s1.2) (pc := 17) dX4_sleepersAhead_17 rfl ?_
    refine ev_iadd (pc := 18) dX4_sleepersAhead_18 ?_
    refine ev_iald (pc := 19) dX4_sleepersAhead_19 rfl e11 ?_
    refine ev_aload_n (v := 10) (pc := 20) dX4_sleepersAhead_20 rfl ?_
    refine ev_getr (q := 11) (pc := 21) dX4_sleepersAhead_21 fl_RX4_9 rfl rfl ?_
    refine ev_sipush (v := 539) (pc := 24) dX4_sleepersAhead_24 ks_539 ?_
    refine ev_iload_n (v := x0) (pc := 27) dX4_sleepersAhead_27 rfl ?_
    refine ev_iadd (pc := 28) dX4_sleepersAhead_28 ?_
    refine ev_iald (pc := 29) dX4_sleepersAhead_29 rfl e13 ?_
    obtain ⟨j14, e15, h⟩ := rb_bd h
    have hj16 : rb_Ev RX4 cX4_sleepersAhead 4 (some .int) none 0 (some o) μ 59 [some (.inr 10), some (.inl x0), some (.inl j14), some (.inl s1.2)] [] (rb_ov μ [(11, c)]) := by
      refine ev_iinc (x := s1.2) (v := (s1.2 + 1)) (L' := [some (.inr 10), some (.inl x0), some (.inl j14), some (.inl (s1.2 + 1))]) (pc := 59) dX4_sleepersAhead_59 rfl (kx_1 _) (Nat.le_of_ble_eq_true rfl) rfl ?_
      refine ev_goto (t := 4) (pc := 62) dX4_sleepersAhead_62 (by decide) ?_
      obtain rfl := Option.some.inj h
      exact ih5 (j14, (s1.2 + 1)) rfl
    replace h := e15
    by_cases b17 : v10 = v12
    · rw [if_pos b17] at h
      refine ev_icmp_ne_f (t := 59) (pc := 30) dX4_sleepersAhead_30 (by decide) b17 ?_
      obtain ⟨v18, e19, h⟩ := rb_bd h
      obtain ⟨v20, e21, h⟩ := rb_bd h
      refine ev_aload_n (v := 10) (pc := 33) dX4_sleepersAhead_33 rfl ?_
      refine ev_getr (q := 11) (pc := 34) dX4_sleepersAhead_34 fl_RX4_9 rfl rfl ?_
      refine ev_sipush (v := 545) (pc := 37) dX4_sleepersAhead_37 ks_545 ?_
      refine ev_iload_n (v := s1.2) (pc := 40) dX4_sleepersAhead_40 rfl ?_
      refine ev_iadd (pc := 41) dX4_sleepersAhead_41 ?_
      refine ev_iald (pc := 42) dX4_sleepersAhead_42 rfl e19 ?_
      refine ev_aload_n (v := 10) (pc := 43) dX4_sleepersAhead_43 rfl ?_
      refine ev_getr (q := 11) (pc := 44) dX4_sleepersAhead_44 fl_RX4_9 rfl rfl ?_
      refine ev_sipush (v := 545) (pc := 47) dX4_sleepersAhead_47 ks_545 ?_
      refine ev_iload_n (v := x0) (pc := 50) dX4_sleepersAhead_50 rfl ?_
      refine ev_iadd (pc := 51) dX4_sleepersAhead_51 ?_
      refine ev_iald (pc := 52) dX4_sleepersAhead_52 rfl e21 ?_
      by_cases b22 : v20 ≤ v18
      · rw [if_pos b22] at h
        refine ev_icmp_ge_t (t := 59) (pc := 53) dX4_sleepersAhead_53 (by decide) b22 ?_
        obtain rfl := Option.some.inj h
        exact hj16
      · rw [if_neg b22] at h
        refine ev_icmp_ge_f (t := 59) (pc := 53) dX4_sleepersAhead_53 (by decide) b22 ?_
        refine ev_iinc (x := s1.1) (v := (s1.1 + 1)) (L' := [some (.inr 10), some (.inl x0), some (.inl (s1.1 + 1)), some (.inl s1.2)]) (pc := 56) dX4_sleepersAhead_56 rfl (kx_1 _) (Nat.le_of_ble_eq_true rfl) rfl ?_
        obtain rfl := Option.some.inj h
        exact hj16
    · rw [if_neg b17] at h
      refine ev_icmp_ne_t (t := 59) (pc := 30) dX4_sleepersAhead_30 (by decide) b17 ?_
      obtain rfl := Option.some.inj h
      exact hj16
def XX4_sleeping (c : rb_Row) (x0 : Int32) (x1 : Int32) : Option (Int32) := (rb_lp (ρ := (Unit) ⊕ (Int32)) (fun (s1 : Int32) => if 6 ≤ s1 then some (.inr (.inl ())) else (rb_rd c 773 (539 + s1)).bind fun v11 => if v11 = x0 then (XX4_sleepersAhead c s1).bind fun t14 => if t14 = x1 then some (.inr (.inr s1)) else some (.inl (s1 + 1)) else some (.inl (s1 + 1))) 100000 0).bind fun q2 => Sum.elim (fun (z9 : Unit) => some (-1)) (fun (w17 : Int32) => some w17) q2
set_option maxHeartbeats 4000000 in
set_option maxRecDepth 20000 in
theorem ct0_X4_sleeping (μ : rb_Mem) (c : rb_Row) (x0 : Int32) (x1 : Int32) (o : Int32) (hc : μ 5 = c) (h : XX4_sleeping c x0 x1 = some o) : rb_Ct yX4_sleeping cX4_sleeping 4 (some .int) 1 [.inr 4, .inl x0, .inl x1] μ (some o) μ := by
  unfold XX4_sleeping at h
  have hini : rb_ov μ [(5, c)] = μ := rb_ov_sf _ _ (And.intro hc True.intro)
  have hfin := hini
  refine rb_cti (w := [(5, c)]) rfl pn_4 (Nat.le_of_ble_eq_true rfl) rfl hini ?_
  refine ev_iconst (v := 0) (pc := 0) dX4_sleeping_0 ki_0 ?_
  refine ev_istore_n (L' := [some (.inr 4), some (.inl x0), some (.inl x1), some (.inl 0)]) (pc := 1) dX4_sleeping_1 (Nat.le_of_ble_eq_true rfl) rfl ?_
  obtain ⟨q2, l3, h⟩ := rb_bd h
  have hx7 : ∀ z9 : Unit, q2 = .inl z9 → rb_Ev RX4 cX4_sleeping 4 (some .int) none 1 (some o) μ 39 [none, none, none, none] [] (rb_ov μ [(5, c)]) := by
    intro z9 hz
    rw [hz] at h
    replace h := rb_sel h
    refine ev_iconst (v := (-1)) (pc := 39) dX4_sleeping_39 ki_m1 ?_
    obtain rfl := Option.some.inj h
    exact ev_iret (pc := 40) dX4_sleeping_40 rfl rfl rfl hfin
  have hr8 : ∀ w17 : Int32, q2 = .inr w17 → w17 = o := by
    intro w17 hz
    rw [hz] at h
    replace h := rb_ser h
    exact Option.some.inj h
  refine rb_lp_ev (P := fun (s1 : Int32) => rb_Ev RX4 cX4_sleeping 4 (some .int) none 1 (some o) μ 2 [some (.inr 4), some (.inl x0), some (.inl x1), some (.inl s1)] [] (rb_ov μ [(5, c)])) ?_ 100000 0 l3
  intro s1 y4 h ih5 hE6
  refine ev_iload_n (v := s1) (pc := 2) dX4_sleeping_2 rfl ?_
  refine ev_bipush (v := 6) (pc := 3) dX4_sleeping_3 kb_6 ?_
  by_cases b10 : 6 ≤ s1
  · rw [if_pos b10] at h
    refine ev_icmp_ge_t (t := 39) (pc := 5) dX4_sleeping_5 (by decide) b10 ?_
    obtain rfl := Option.some.inj h
    exact ev_fg (L := [none, none, none, none]) True.intro (hx7 () (hE6 _ rfl).symm)
  · rw [if_neg b10] at h
    refine ev_icmp_ge_f (t := 39) (pc := 5) dX4_sleeping_5 (by decide) b10 ?_
    obtain ⟨v11, e12, h⟩ := rb_bd h
    refine ev_aload_n (v := 4) (pc := 8) dX4_sleeping_8 rfl ?_
    refine ev_getr (q := 5) (pc := 9) dX4_sleeping_9 fl_RX4_9 rfl rfl ?_
    refine ev_sipush (v := 539) (pc := 12) dX4_sleeping_12 ks_539 ?_
    refine ev_iload_n (v := s1) (pc := 15) dX4_sleeping_15 rfl ?_
    refine ev_iadd (pc := 16) dX4_sleeping_16 ?_
    refine ev_iald (pc := 17) dX4_sleeping_17 rfl e12 ?_
    refine ev_iload_n (v := x0) (pc := 18) dX4_sleeping_18 rfl ?_
    by_cases b13 : v11 = x0
    · rw [if_pos b13] at h
      refine ev_icmp_ne_f (t := 33) (pc := 19) dX4_sleeping_19 (by decide) b13 ?_
      obtain ⟨t14, e15, h⟩ := rb_bd h
      refine ev_aload_n (v := 4) (pc := 22) dX4_sleeping_22 rfl ?_
      refine ev_iload_n (v := s1) (pc := 23) dX4_sleeping_23 rfl ?_
      refine ev_cVi1 (pc := 24) dX4_sleeping_24 mv_X4_sleepersAhead lk_RX4_15 rp_4 (ct0_X4_sleepersAhead _ _ _ _ rfl e15) (Nat.le_of_ble_eq_true rfl) (Nat.le_of_ble_eq_true rfl) ?_
      refine ev_iload_n (v := x1) (pc := 27) dX4_sleeping_27 rfl ?_
      by_cases b16 : t14 = x1
      · rw [if_pos b16] at h
        refine ev_icmp_ne_f (t := 33) (pc := 28) dX4_sleeping_28 (by decide) b16 ?_
        refine ev_iload_n (v := s1) (pc := 31) dX4_sleeping_31 rfl ?_
        obtain rfl := Option.some.inj h
        obtain rfl := hr8 _ (hE6 _ rfl).symm
        exact ev_iret (pc := 32) dX4_sleeping_32 rfl rfl rfl hfin
      · rw [if_neg b16] at h
        refine ev_icmp_ne_t (t := 33) (pc := 28) dX4_sleeping_28 (by decide) b16 ?_
        refine ev_iinc (x := s1) (v := (s1 + 1)) (L' := [some (.inr 4), some (.inl x0), some (.inl x1), some (.inl (s1 + 1))]) (pc := 33) dX4_sleeping_33 rfl (kx_1 _) (Nat.le_of_ble_eq_true rfl) rfl ?_
        refine ev_goto (t := 2) (pc := 36) dX4_sleeping_36 (by decide) ?_
        obtain rfl := Option.some.inj h
        exact ih5 (s1 + 1) rfl
    · rw [if_neg b13] at h
      refine ev_icmp_ne_t (t := 33) (pc := 19) dX4_sleeping_19 (by decide) b13 ?_
      refine ev_iinc (x := s1) (v := (s1 + 1)) (L' := [some (.inr 4), some (.inl x0), some (.inl x1), some (.inl (s1 + 1))]) (pc := 33) dX4_sleeping_33 rfl (kx_1 _) (Nat.le_of_ble_eq_true rfl) rfl ?_
      refine ev_goto (t := 2) (pc := 36) dX4_sleeping_36 (by decide) ?_
      obtain rfl := Option.some.inj h
      exact ih5 (s1 + 1) rfl
set_option maxHeartbeats 4000000 in
set_option maxRecDepth 20000 in
theorem ct1_X4_sleeping (μ : rb_Mem) (c : rb_Row) (x0 : Int32) (x1 : Int32) (o : Int32) (hc : μ 11 = c) (h : XX4_sleeping c x0 x1 = some o) : rb_Ct yX4_sleeping cX4_sleeping 4 (some .int) 1 [.inr 10, .inl x0, .inl x1] μ (some o) μ := by
  unfold XX4_sleeping at h
  have hini : rb_ov μ [(11, c)] = μ := rb_ov_sf _ _ (And.intro hc True.intro)
  have hfin := hini
  refine rb_cti (w := [(11, c)]) rfl pn_4 (Nat.le_of_ble_eq_true rfl) rfl hini ?_
  refine ev_iconst (v := 0) (pc := 0) dX4_sleeping_0 ki_0 ?_
  refine ev_istore_n (L' := [some (.inr 10), some (.inl x0), some (.inl x1), some (.inl 0)]) (pc := 1) dX4_sleeping_1 (Nat.le_of_ble_eq_true rfl) rfl ?_
  obtain ⟨q2, l3, h⟩ := rb_bd h
  have hx7 : ∀ z9 : Unit, q2 = .inl z9 → rb_Ev RX4 cX4_sleeping 4 (some .int) none 1 (some o) μ 39 [none, none, none, none] [] (rb_ov μ [(11, c)]) := by
    intro z9 hz
    rw [hz] at h
    replace h := rb_sel h
    refine ev_iconst (v := (-1)) (pc := 39) dX4_sleeping_39 ki_m1 ?_
    obtain rfl := Option.some.inj h
    exact ev_iret (pc := 40) dX4_sleeping_40 rfl rfl rfl hfin
  have hr8 : ∀ w17 : Int32, q2 = .inr w17 → w17 = o := by
    intro w17 hz
    rw [hz] at h
    replace h := rb_ser h
    exact Option.some.inj h
  refine rb_lp_ev (P := fun (s1 : Int32) => rb_Ev RX4 cX4_sleeping 4 (some .int) none 1 (some o) μ 2 [some (.inr 10), some (.inl x0), some (.inl x1), some (.inl s1)] [] (rb_ov μ [(11, c)])) ?_ 100000 0 l3
  intro s1 y4 h ih5 hE6
  refine ev_iload_n (v := s1) (pc := 2) dX4_sleeping_2 rfl ?_
  refine ev_bipush (v := 6) (pc := 3) dX4_sleeping_3 kb_6 ?_
  by_cases b10 : 6 ≤ s1
  · rw [if_pos b10] at h
    refine ev_icmp_ge_t (t := 39) (pc := 5) dX4_sleeping_5 (by decide) b10 ?_
    obtain rfl := Option.some.inj h
    exact ev_fg (L := [none, none, none, none]) True.intro (hx7 () (hE6 _ rfl).symm)
  · rw [if_neg b10] at h
    refine ev_icmp_ge_f (t := 39) (pc := 5) dX4_sleeping_5 (by decide) b10 ?_
    obtain ⟨v11, e12, h⟩ := rb_bd h
    refine ev_aload_n (v := 10) (pc := 8) dX4_sleeping_8 rfl ?_
    refine ev_getr (q := 11) (pc := 9) dX4_sleeping_9 fl_RX4_9 rfl rfl ?_
    refine ev_sipush (v := 539) (pc := 12) dX4_sleeping_12 ks_539 ?_
    refine ev_iload_n (v := s1) (pc := 15) dX4_sleeping_15 rfl ?_
    refine ev_iadd (pc := 16) dX4_sleeping_16 ?_
    refine ev_iald (pc := 17) dX4_sleeping_17 rfl e12 ?_
    refine ev_iload_n (v := x0) (pc := 18) dX4_sleeping_18 rfl ?_
    by_cases b13 : v11 = x0
    · rw [if_pos b13] at h
      refine ev_icmp_ne_f (t := 33) (pc := 19) dX4_sleeping_19 (by decide) b13 ?_
      obtain ⟨t14, e15, h⟩ := rb_bd h
      refine ev_aload_n (v := 10) (pc := 22) dX4_sleeping_22 rfl ?_
      refine ev_iload_n (v := s1) (pc := 23) dX4_sleeping_23 rfl ?_
      refine ev_cVi1 (pc := 24) dX4_sleeping_24 mv_X4_sleepersAhead lk_RX4_15 rp_10 (ct1_X4_sleepersAhead _ _ _ _ rfl e15) (Nat.le_of_ble_eq_true rfl) (Nat.le_of_ble_eq_true rfl) ?_
      refine ev_iload_n (v := x1) (pc := 27) dX4_sleeping_27 rfl ?_
      by_cases b16 : t14 = x1
      · rw [if_pos b16] at h
        refine ev_icmp_ne_f (t := 33) (pc := 28) dX4_sleeping_28 (by decide) b16 ?_
        refine ev_iload_n (v := s1) (pc := 31) dX4_sleeping_31 rfl ?_
        obtain rfl := Option.some.inj h
        obtain rfl := hr8 _ (hE6 _ rfl).symm
        exact ev_iret (pc := 32) dX4_sleeping_32 rfl rfl rfl hfin
      · rw [if_neg b16] at h
        refine ev_icmp_ne_t (t := 33) (pc := 28) dX4_sleeping_28 (by decide) b16 ?_
        refine ev_iinc (x := s1) (v := (s1 + 1)) (L' := [some (.inr 10), some (.inl x0), some (.inl x1), some (.inl (s1 + 1))]) (pc := 33) dX4_sleeping_33 rfl (kx_1 _) (Nat.le_of_ble_eq_true rfl) rfl ?_
        refine ev_goto (t := 2) (pc := 36) dX4_sleeping_36 (by decide) ?_
        obtain rfl := Option.some.inj h
        exact ih5 (s1 + 1) rfl
    · rw [if_neg b13] at h
      refine ev_icmp_ne_t (t := 33) (pc := 19) dX4_sleeping_19 (by decide) b13 ?_
      refine ev_iinc (x := s1) (v := (s1 + 1)) (L' := [some (.inr 10), some (.inl x0), some (.inl x1), some (.inl (s1 + 1))]) (pc := 33) dX4_sleeping_33 rfl (kx_1 _) (Nat.le_of_ble_eq_true rfl) rfl ?_
      refine ev_goto (t := 2) (pc := 36) dX4_sleeping_36 (by decide) ?_
      obtain rfl := Option.some.inj h
      exact ih5 (s1 + 1) rfl
def XX4_putStep (c : rb_Row) (x0 : Int32) (x1 : Int32) (x2 : Int32) (x3 : Int32) : Option (Int32 × rb_Row) := (rb_rd c 773 (599 + x0)).bind fun v1 => if v1 < 4 then (rb_wr c 773 (605 + ((x0 * 4) + v1)) x1).bind fun c4 => (rb_wr c4 773 (629 + ((x0 * 4) + v1)) x2).bind fun c6 => (rb_wr c6 773 (653 + ((x0 * 4) + v1)) x3).bind fun c8 => (rb_wr c8 773 (599 + x0) (v1 + 1)).bind fun c10 => some ((v1 + 1), c10) else some ((-1), c)
set_option maxHeartbeats 4000000 in
set_option maxRecDepth 20000 in
theorem ct0_X4_putStep (μ : rb_Mem) (c : rb_Row) (x0 : Int32) (x1 : Int32) (x2 : Int32) (x3 : Int32) (o : Int32 × rb_Row) (hc : μ 5 = c) (h : XX4_putStep c x0 x1 x2 x3 = some o) : rb_Ct yX4_putStep cX4_putStep 7 (some .int) 0 [.inr 4, .inl x0, .inl x1, .inl x2, .inl x3] μ (some o.1) (rb_ov μ [(5, o.2)]) := by
  unfold XX4_putStep at h
  have hini : rb_ov μ [(5, c)] = μ := rb_ov_sf _ _ (And.intro hc True.intro)
  have hfin : ∀ u0 : rb_Row, rb_ov μ [(5, u0)] = rb_ov μ [(5, u0)] := fun u0 => rfl
  refine rb_cti (w := [(5, c)]) rfl pn_4 (Nat.le_of_ble_eq_true rfl) rfl hini ?_
  obtain ⟨v1, e2, h⟩ := rb_bd h
  refine ev_aload_n (v := 4) (pc := 0) dX4_putStep_0 rfl ?_
  refine ev_getr (q := 5) (pc := 1) dX4_putStep_1 fl_RX4_9 rfl rfl ?_
  refine ev_sipush (v := 599) (pc := 4) dX4_putStep_4 ks_599 ?_
  refine ev_iload_n (v := x0) (pc := 7) dX4_putStep_7 rfl ?_
  refine ev_iadd (pc := 8) dX4_putStep_8 ?_
  refine ev_iald (pc := 9) dX4_putStep_9 rfl e2 ?_
  refine ev_istore (L' := [some (.inr 4), some (.inl x0), some (.inl x1), some (.inl x2), some (.inl x3), some (.inl v1), none]) (pc := 10) dX4_putStep_10 (Nat.le_of_ble_eq_true rfl) rfl ?_
  refine ev_iload (v := v1) (pc := 12) dX4_putStep_12 rfl ?_
  refine ev_iconst (v := 4) (pc := 14) dX4_putStep_14 ki_4 ?_
  by_cases b3 : v1 < 4
  · rw [if_pos b3] at h
    refine ev_icmp_lt_t (t := 20) (pc := 15) dX4_putStep_15 (by decide) b3 ?_
    obtain ⟨c4, e5, h⟩ := rb_bd h
    obtain ⟨c6, e7, h⟩ := rb_bd h
    obtain ⟨c8, e9, h⟩ := rb_bd h
    obtain ⟨c10, e11, h⟩ := rb_bd h
    refine ev_iload_n (v := x0) (pc := 20) dX4_putStep_20 rfl ?_
    refine ev_iconst (v := 4) (pc := 21) dX4_putStep_21 ki_4 ?_
    refine ev_imul (pc := 22) dX4_putStep_22 ?_
    refine ev_iload (v := v1) (pc := 23) dX4_putStep_23 rfl ?_
    refine ev_iadd (pc := 25) dX4_putStep_25 ?_
    refine ev_istore (L' := [some (.inr 4), some (.inl x0), some (.inl x1), some (.inl x2), some (.inl x3), some (.inl v1), some (.inl ((x0 * 4) + v1))]) (pc := 26) dX4_putStep_26 (Nat.le_of_ble_eq_true rfl) rfl ?_
    refine ev_aload_n (v := 4) (pc := 28) dX4_putStep_28 rfl ?_
    refine ev_getr (q := 5) (pc := 29) dX4_putStep_29 fl_RX4_9 rfl rfl ?_
    refine ev_sipush (v := 605) (pc := 32) dX4_putStep_32 ks_605 ?_
    refine ev_iload (v := ((x0 * 4) + v1)) (pc := 35) dX4_putStep_35 rfl ?_
    refine ev_iadd (pc := 37) dX4_putStep_37 ?_
    refine ev_iload_n (v := x1) (pc := 38) dX4_putStep_38 rfl ?_
    refine ev_iast (w' := [(5, c4)]) (pc := 39) dX4_putStep_39 rfl e5 rfl ?_
    refine ev_aload_n (v := 4) (pc := 40) dX4_putStep_40 rfl ?_
    refine ev_getr (q := 5) (pc := 41) dX4_putStep_41 fl_RX4_9 rfl rfl ?_
    refine ev_sipush (v := 629) (pc := 44) dX4_putStep_44 ks_629 ?_
    refine ev_iload (v := ((x0 * 4) + v1)) (pc := 47) dX4_putStep_47 rfl ?_
    refine ev_iadd (pc := 49) dX4_putStep_49 ?_
    refine ev_iload_n (v := x2) (pc := 50) dX4_putStep_50 rfl ?_
    refine ev_iast (w' := [(5, c6)]) (pc := 51) dX4_putStep_51 rfl e7 rfl ?_
    refine ev_aload_n (v := 4) (pc := 52) dX4_putStep_52 rfl ?_
    refine ev_getr (q := 5) (pc := 53) dX4_putStep_53 fl_RX4_9 rfl rfl ?_
    refine ev_sipush (v := 653) (pc := 56) dX4_putStep_56 ks_653 ?_
    refine ev_iload (v := ((x0 * 4) + v1)) (pc := 59) dX4_putStep_59 rfl ?_
    refine ev_iadd (pc := 61) dX4_putStep_61 ?_
    refine ev_iload (v := x3) (pc := 62) dX4_putStep_62 rfl ?_
    refine ev_iast (w' := [(5, c8)]) (pc := 64) dX4_putStep_64 rfl e9 rfl ?_
    refine ev_aload_n (v := 4) (pc := 65) dX4_putStep_65 rfl ?_
    refine ev_getr (q := 5) (pc := 66) dX4_putStep_66 fl_RX4_9 rfl rfl ?_
    refine ev_sipush (v := 599) (pc := 69) dX4_putStep_69 ks_599 ?_
    refine ev_iload_n (v := x0) (pc := 72) dX4_putStep_72 rfl ?_
    refine ev_iadd (pc := 73) dX4_putStep_73 ?_
    refine ev_iload (v := v1) (pc := 74) dX4_putStep_74 rfl ?_
    refine ev_iconst (v := 1) (pc := 76) dX4_putStep_76 ki_1 ?_
    refine ev_iadd (pc := 77) dX4_putStep_77 ?_
    refine ev_iast (w' := [(5, c10)]) (pc := 78) dX4_putStep_78 rfl e11 rfl ?_
    refine ev_iload (v := v1) (pc := 79) dX4_putStep_79 rfl ?_
    refine ev_iconst (v := 1) (pc := 81) dX4_putStep_81 ki_1 ?_
    refine ev_iadd (pc := 82) dX4_putStep_82 ?_
    obtain rfl := Option.some.inj h
    exact ev_iret (pc := 83) dX4_putStep_83 rfl rfl rfl (hfin _)
  · rw [if_neg b3] at h
    refine ev_icmp_lt_f (t := 20) (pc := 15) dX4_putStep_15 (by decide) b3 ?_
    refine ev_iconst (v := (-1)) (pc := 18) dX4_putStep_18 ki_m1 ?_
    obtain rfl := Option.some.inj h
    exact ev_iret (pc := 19) dX4_putStep_19 rfl rfl rfl (hfin _)
set_option maxHeartbeats 4000000 in
set_option maxRecDepth 20000 in
theorem ct1_X4_putStep (μ : rb_Mem) (c : rb_Row) (x0 : Int32) (x1 : Int32) (x2 : Int32) (x3 : Int32) (o : Int32 × rb_Row) (hc : μ 11 = c) (h : XX4_putStep c x0 x1 x2 x3 = some o) : rb_Ct yX4_putStep cX4_putStep 7 (some .int) 0 [.inr 10, .inl x0, .inl x1, .inl x2, .inl x3] μ (some o.1) (rb_ov μ [(11, o.2)]) := by
  unfold XX4_putStep at h
  have hini : rb_ov μ [(11, c)] = μ := rb_ov_sf _ _ (And.intro hc True.intro)
  have hfin : ∀ u0 : rb_Row, rb_ov μ [(11, u0)] = rb_ov μ [(11, u0)] := fun u0 => rfl
  refine rb_cti (w := [(11, c)]) rfl pn_4 (Nat.le_of_ble_eq_true rfl) rfl hini ?_
  obtain ⟨v1, e2, h⟩ := rb_bd h
  refine ev_aload_n (v := 10) (pc := 0) dX4_putStep_0 rfl ?_
  refine ev_getr (q := 11) (pc := 1) dX4_putStep_1 fl_RX4_9 rfl rfl ?_
  refine ev_sipush (v := 599) (pc := 4) dX4_putStep_4 ks_599 ?_
  refine ev_iload_n (v := x0) (pc := 7) dX4_putStep_7 rfl ?_
  refine ev_iadd (pc := 8) dX4_putStep_8 ?_
  refine ev_iald (pc := 9) dX4_putStep_9 rfl e2 ?_
  refine ev_istore (L' := [some (.inr 10), some (.inl x0), some (.inl x1), some (.inl x2), some (.inl x3), some (.inl v1), none]) (pc := 10) dX4_putStep_10 (Nat.le_of_ble_eq_true rfl) rfl ?_
  refine ev_iload (v := v1) (pc := 12) dX4_putStep_12 rfl ?_
  refine ev_iconst (v := 4) (pc := 14) dX4_putStep_14 ki_4 ?_
  by_cases b3 : v1 < 4
  · rw [if_pos b3] at h
    refine ev_icmp_lt_t (t := 20) (pc := 15) dX4_putStep_15 (by decide) b3 ?_
    obtain ⟨c4, e5, h⟩ := rb_bd h
    obtain ⟨c6, e7, h⟩ := rb_bd h
    obtain ⟨c8, e9, h⟩ := rb_bd h
    obtain ⟨c10, e11, h⟩ := rb_bd h
    refine ev_iload_n (v := x0) (pc := 20) dX4_putStep_20 rfl ?_
    refine ev_iconst (v := 4) (pc := 21) dX4_putStep_21 ki_4 ?_
    refine ev_imul (pc := 22) dX4_putStep_22 ?_
    refine ev_iload (v := v1) (pc := 23) dX4_putStep_23 rfl ?_
    refine ev_iadd (pc := 25) dX4_putStep_25 ?_
    refine ev_istore (L' := [some (.inr 10), some (.inl x0), some (.inl x1), some (.inl x2), some (.inl x3), some (.inl v1), some (.inl ((x0 * 4) + v1))]) (pc := 26) dX4_putStep_26 (Nat.le_of_ble_eq_true rfl) rfl ?_
    refine ev_aload_n (v := 10) (pc := 28) dX4_putStep_28 rfl ?_
    refine ev_getr (q := 11) (pc := 29) dX4_putStep_29 fl_RX4_9 rfl rfl ?_
    refine ev_sipush (v := 605) (pc := 32) dX4_putStep_32 ks_605 ?_
    refine ev_iload (v := ((x0 * 4) + v1)) (pc := 35) dX4_putStep_35 rfl ?_
    refine ev_iadd (pc := 37) dX4_putStep_37 ?_
    refine ev_iload_n (v := x1) (pc := 38) dX4_putStep_38 rfl ?_
    refine ev_iast (w' := [(11, c4)]) (pc := 39) dX4_putStep_39 rfl e5 rfl ?_
    refine ev_aload_n (v := 10) (pc := 40) dX4_putStep_40 rfl ?_
    refine ev_getr (q := 11) (pc := 41) dX4_putStep_41 fl_RX4_9 rfl rfl ?_
    refine ev_sipush (v := 629) (pc := 44) dX4_putStep_44 ks_629 ?_
    refine ev_iload (v := ((x0 * 4) + v1)) (pc := 47) dX4_putStep_47 rfl ?_
    refine ev_iadd (pc := 49) dX4_putStep_49 ?_
    refine ev_iload_n (v := x2) (pc := 50) dX4_putStep_50 rfl ?_
    refine ev_iast (w' := [(11, c6)]) (pc := 51) dX4_putStep_51 rfl e7 rfl ?_
    refine ev_aload_n (v := 10) (pc := 52) dX4_putStep_52 rfl ?_
    refine ev_getr (q := 11) (pc := 53) dX4_putStep_53 fl_RX4_9 rfl rfl ?_
    refine ev_sipush (v := 653) (pc := 56) dX4_putStep_56 ks_653 ?_
    refine ev_iload (v := ((x0 * 4) + v1)) (pc := 59) dX4_putStep_59 rfl ?_
    refine ev_iadd (pc := 61) dX4_putStep_61 ?_
    refine ev_iload (v := x3) (pc := 62) dX4_putStep_62 rfl ?_
    refine ev_iast (w' := [(11, c8)]) (pc := 64) dX4_putStep_64 rfl e9 rfl ?_
    refine ev_aload_n (v := 10) (pc := 65) dX4_putStep_65 rfl ?_
    refine ev_getr (q := 11) (pc := 66) dX4_putStep_66 fl_RX4_9 rfl rfl ?_
    refine ev_sipush (v := 599) (pc := 69) dX4_putStep_69 ks_599 ?_
    refine ev_iload_n (v := x0) (pc := 72) dX4_putStep_72 rfl ?_
    refine ev_iadd (pc := 73) dX4_putStep_73 ?_
    refine ev_iload (v := v1) (pc := 74) dX4_putStep_74 rfl ?_
    refine ev_iconst (v := 1) (pc := 76) dX4_putStep_76 ki_1 ?_
    refine ev_iadd (pc := 77) dX4_putStep_77 ?_
    refine ev_iast (w' := [(11, c10)]) (pc := 78) dX4_putStep_78 rfl e11 rfl ?_
    refine ev_iload (v := v1) (pc := 79) dX4_putStep_79 rfl ?_
    refine ev_iconst (v := 1) (pc := 81) dX4_putStep_81 ki_1 ?_
    refine ev_iadd (pc := 82) dX4_putStep_82 ?_
    obtain rfl := Option.some.inj h
    exact ev_iret (pc := 83) dX4_putStep_83 rfl rfl rfl (hfin _)
  · rw [if_neg b3] at h
    refine ev_icmp_lt_f (t := 20) (pc := 15) dX4_putStep_15 (by decide) b3 ?_
    refine ev_iconst (v := (-1)) (pc := 18) dX4_putStep_18 ki_m1 ?_
    obtain rfl := Option.some.inj h
    exact ev_iret (pc := 19) dX4_putStep_19 rfl rfl rfl (hfin _)
def XX5_handleBits (c : rb_Row) : Option (Int32) := (rb_lp (ρ := Int32) (fun (s1 : Int32 × Int32) => if 16 ≤ s1.2 then some (.inr s1.1) else (rb_rd c 773 (3 + s1.2)).bind fun v10 => ((if v10 < 0 then some s1.1 else some (s1.1 ||| (1 <<< (s1.2 &&& 31)))) : Option (Int32)).bind fun j12 => some (.inl (j12, (s1.2 + 1)))) 100000 (0, 0)).bind fun q2 => some q2
set_option maxHeartbeats 4000000 in
set_option maxRecDepth 20000 in
theorem ct0_X5_handleBits (μ : rb_Mem) (c : rb_Row) (o : Int32) (hc : μ 5 = c) (h : XX5_handleBits c = some o) : rb_Ct yX5_handleBits cX5_handleBits 3 (some .int) 0 [.inr 2] μ (some o) μ := by
  unfold XX5_handleBits at h
  have hini : rb_ov μ [(5, c)] = μ := rb_ov_sf _ _ (And.intro hc True.intro)
  have hfin := hini
  refine rb_cti (w := [(5, c)]) rfl pn_5 (Nat.le_of_ble_eq_true rfl) rfl hini ?_
  refine ev_iconst (v := 0) (pc := 0) dX5_handleBits_0 ki_0 ?_
  refine ev_istore_n (L' := [some (.inr 2), some (.inl 0), none]) (pc := 1) dX5_handleBits_1 (Nat.le_of_ble_eq_true rfl) rfl ?_
  refine ev_iconst (v := 0) (pc := 2) dX5_handleBits_2 ki_0 ?_
  refine ev_istore_n (L' := [some (.inr 2), some (.inl 0), some (.inl 0)]) (pc := 3) dX5_handleBits_3 (Nat.le_of_ble_eq_true rfl) rfl ?_
  obtain ⟨q2, l3, h⟩ := rb_bd h
  have hx7 : rb_Ev RX5 cX5_handleBits 3 (some .int) none 0 (some o) μ 33 [none, some (.inl q2), none] [] (rb_ov μ [(5, c)]) := by
    refine ev_iload_n (v := q2) (pc := 33) dX5_handleBits_33 rfl ?_
    obtain rfl := Option.some.inj h
    exact ev_iret (pc := 34) dX5_handleBits_34 rfl rfl rfl hfin
  refine rb_lp_ev (P := fun (s1 : Int32 × Int32) => rb_Ev RX5 cX5_handleBits 3 (some .int) none 0 (some o) μ 4 [some (.inr 2), some (.inl s1.1), some (.inl s1.2)] [] (rb_ov μ [(5, c)])) ?_ 100000 (0, 0) l3
  intro s1 y4 h ih5 hE6
  refine ev_iload_n (v := s1.2) (pc := 4) dX5_handleBits_4 rfl ?_
  refine ev_bipush (v := 16) (pc := 5) dX5_handleBits_5 kb_16 ?_
  by_cases b9 : 16 ≤ s1.2
  · rw [if_pos b9] at h
    refine ev_icmp_ge_t (t := 33) (pc := 7) dX5_handleBits_7 (by decide) b9 ?_
    obtain rfl := Option.some.inj h
    obtain rfl := hE6 _ rfl
    exact ev_fg (L := [none, some (.inl s1.1), none]) (And.intro rfl True.intro) (hx7)
  · rw [if_neg b9] at h
    refine ev_icmp_ge_f (t := 33) (pc := 7) dX5_handleBits_7 (by decide) b9 ?_
    obtain ⟨v10, e11, h⟩ := rb_bd h
    refine ev_aload_n (v := 2) (pc := 10) dX5_handleBits_10 rfl ?_
    refine ev_getr (q := 5) (pc := 11) dX5_handleBits_11 fl_RX5_9 rfl rfl ?_
    refine ev_iconst (v := 3) (pc := 14) dX5_handleBits_14 ki_3 ?_
    refine ev_iload_n (v := s1.2) (pc := 15) dX5_handleBits_15 rfl ?_
    refine ev_iadd (pc := 16) dX5_handleBits_16 ?_
    refine ev_iald (pc := 17) dX5_handleBits_17 rfl e11 ?_
    obtain ⟨j12, e13, h⟩ := rb_bd h
    have hj14 : rb_Ev RX5 cX5_handleBits 3 (some .int) none 0 (some o) μ 27 [some (.inr 2), some (.inl j12), some (.inl s1.2)] [] (rb_ov μ [(5, c)]) := by
      refine ev_iinc (x := s1.2) (v := (s1.2 + 1)) (L' := [some (.inr 2), some (.inl j12), some (.inl (s1.2 + 1))]) (pc := 27) dX5_handleBits_27 rfl (kx_1 _) (Nat.le_of_ble_eq_true rfl) rfl ?_
      refine ev_goto (t := 4) (pc := 30) dX5_handleBits_30 (by decide) ?_
      obtain rfl := Option.some.inj h
      exact ih5 (j12, (s1.2 + 1)) rfl
    replace h := e13
    by_cases b15 : v10 < 0
    · rw [if_pos b15] at h
      refine ev_if_lt_t (t := 27) (pc := 18) dX5_handleBits_18 (by decide) b15 ?_
      obtain rfl := Option.some.inj h
      exact hj14
    · rw [if_neg b15] at h
      refine ev_if_lt_f (t := 27) (pc := 18) dX5_handleBits_18 (by decide) b15 ?_
      refine ev_iload_n (v := s1.1) (pc := 21) dX5_handleBits_21 rfl ?_
      refine ev_iconst (v := 1) (pc := 22) dX5_handleBits_22 ki_1 ?_
      refine ev_iload_n (v := s1.2) (pc := 23) dX5_handleBits_23 rfl ?_
      refine ev_ishl (pc := 24) dX5_handleBits_24 ?_
      refine ev_ior (pc := 25) dX5_handleBits_25 ?_
      refine ev_istore_n (L' := [some (.inr 2), some (.inl (s1.1 ||| (1 <<< (s1.2 &&& 31)))), some (.inl s1.2)]) (pc := 26) dX5_handleBits_26 (Nat.le_of_ble_eq_true rfl) rfl ?_
      obtain rfl := Option.some.inj h
      exact hj14
set_option maxHeartbeats 4000000 in
set_option maxRecDepth 20000 in
theorem ct1_X5_handleBits (μ : rb_Mem) (c : rb_Row) (o : Int32) (hc : μ 11 = c) (h : XX5_handleBits c = some o) : rb_Ct yX5_handleBits cX5_handleBits 3 (some .int) 0 [.inr 8] μ (some o) μ := by
  unfold XX5_handleBits at h
  have hini : rb_ov μ [(11, c)] = μ := rb_ov_sf _ _ (And.intro hc True.intro)
  have hfin := hini
  refine rb_cti (w := [(11, c)]) rfl pn_5 (Nat.le_of_ble_eq_true rfl) rfl hini ?_
  refine ev_iconst (v := 0) (pc := 0) dX5_handleBits_0 ki_0 ?_
  refine ev_istore_n (L' := [some (.inr 8), some (.inl 0), none]) (pc := 1) dX5_handleBits_1 (Nat.le_of_ble_eq_true rfl) rfl ?_
  refine ev_iconst (v := 0) (pc := 2) dX5_handleBits_2 ki_0 ?_
  refine ev_istore_n (L' := [some (.inr 8), some (.inl 0), some (.inl 0)]) (pc := 3) dX5_handleBits_3 (Nat.le_of_ble_eq_true rfl) rfl ?_
  obtain ⟨q2, l3, h⟩ := rb_bd h
  have hx7 : rb_Ev RX5 cX5_handleBits 3 (some .int) none 0 (some o) μ 33 [none, some (.inl q2), none] [] (rb_ov μ [(11, c)]) := by
    refine ev_iload_n (v := q2) (pc := 33) dX5_handleBits_33 rfl ?_
    obtain rfl := Option.some.inj h
    exact ev_iret (pc := 34) dX5_handleBits_34 rfl rfl rfl hfin
  refine rb_lp_ev (P := fun (s1 : Int32 × Int32) => rb_Ev RX5 cX5_handleBits 3 (some .int) none 0 (some o) μ 4 [some (.inr 8), some (.inl s1.1), some (.inl s1.2)] [] (rb_ov μ [(11, c)])) ?_ 100000 (0, 0) l3
  intro s1 y4 h ih5 hE6
  refine ev_iload_n (v := s1.2) (pc := 4) dX5_handleBits_4 rfl ?_
  refine ev_bipush (v := 16) (pc := 5) dX5_handleBits_5 kb_16 ?_
  by_cases b9 : 16 ≤ s1.2
  · rw [if_pos b9] at h
    refine ev_icmp_ge_t (t := 33) (pc := 7) dX5_handleBits_7 (by decide) b9 ?_
    obtain rfl := Option.some.inj h
    obtain rfl := hE6 _ rfl
    exact ev_fg (L := [none, some (.inl s1.1), none]) (And.intro rfl True.intro) (hx7)
  · rw [if_neg b9] at h
    refine ev_icmp_ge_f (t := 33) (pc := 7) dX5_handleBits_7 (by decide) b9 ?_
    obtain ⟨v10, e11, h⟩ := rb_bd h
    refine ev_aload_n (v := 8) (pc := 10) dX5_handleBits_10 rfl ?_
    refine ev_getr (q := 11) (pc := 11) dX5_handleBits_11 fl_RX5_9 rfl rfl ?_
    refine ev_iconst (v := 3) (pc := 14) dX5_handleBits_14 ki_3 ?_
    refine ev_iload_n (v := s1.2) (pc := 15) dX5_handleBits_15 rfl ?_
    refine ev_iadd (pc := 16) dX5_handleBits_16 ?_
    refine ev_iald (pc := 17) dX5_handleBits_17 rfl e11 ?_
    obtain ⟨j12, e13, h⟩ := rb_bd h
    have hj14 : rb_Ev RX5 cX5_handleBits 3 (some .int) none 0 (some o) μ 27 [some (.inr 8), some (.inl j12), some (.inl s1.2)] [] (rb_ov μ [(11, c)]) := by
      refine ev_iinc (x := s1.2) (v := (s1.2 + 1)) (L' := [some (.inr 8), some (.inl j12), some (.inl (s1.2 + 1))]) (pc := 27) dX5_handleBits_27 rfl (kx_1 _) (Nat.le_of_ble_eq_true rfl) rfl ?_
      refine ev_goto (t := 4) (pc := 30) dX5_handleBits_30 (by decide) ?_
      obtain rfl := Option.some.inj h
      exact ih5 (j12, (s1.2 + 1)) rfl
    replace h := e13
    by_cases b15 : v10 < 0
    · rw [if_pos b15] at h
      refine ev_if_lt_t (t := 27) (pc := 18) dX5_handleBits_18 (by decide) b15 ?_
      obtain rfl := Option.some.inj h
      exact hj14
    · rw [if_neg b15] at h
      refine ev_if_lt_f (t := 27) (pc := 18) dX5_handleBits_18 (by decide) b15 ?_
      refine ev_iload_n (v := s1.1) (pc := 21) dX5_handleBits_21 rfl ?_
      refine ev_iconst (v := 1) (pc := 22) dX5_handleBits_22 ki_1 ?_
      refine ev_iload_n (v := s1.2) (pc := 23) dX5_handleBits_23 rfl ?_
      refine ev_ishl (pc := 24) dX5_handleBits_24 ?_
      refine ev_ior (pc := 25) dX5_handleBits_25 ?_
      refine ev_istore_n (L' := [some (.inr 8), some (.inl (s1.1 ||| (1 <<< (s1.2 &&& 31)))), some (.inl s1.2)]) (pc := 26) dX5_handleBits_26 (Nat.le_of_ble_eq_true rfl) rfl ?_
      obtain rfl := Option.some.inj h
      exact hj14
def XX5_living (c : rb_Row) : Option (Int32) := (rb_lp (ρ := Int32) (fun (s1 : Int32 × Int32) => if 28 ≤ s1.2 then some (.inr s1.1) else (rb_rd c 773 (19 + s1.2)).bind fun v10 => ((if v10 < 0 then some s1.1 else some (s1.1 + 1)) : Option (Int32)).bind fun j12 => some (.inl (j12, (s1.2 + 1)))) 100000 (0, 0)).bind fun q2 => some q2
set_option maxHeartbeats 4000000 in
set_option maxRecDepth 20000 in
theorem ct0_X5_living (μ : rb_Mem) (c : rb_Row) (o : Int32) (hc : μ 5 = c) (h : XX5_living c = some o) : rb_Ct yX5_living cX5_living 3 (some .int) 0 [.inr 2] μ (some o) μ := by
  unfold XX5_living at h
  have hini : rb_ov μ [(5, c)] = μ := rb_ov_sf _ _ (And.intro hc True.intro)
  have hfin := hini
  refine rb_cti (w := [(5, c)]) rfl pn_5 (Nat.le_of_ble_eq_true rfl) rfl hini ?_
  refine ev_iconst (v := 0) (pc := 0) dX5_living_0 ki_0 ?_
  refine ev_istore_n (L' := [some (.inr 2), some (.inl 0), none]) (pc := 1) dX5_living_1 (Nat.le_of_ble_eq_true rfl) rfl ?_
  refine ev_iconst (v := 0) (pc := 2) dX5_living_2 ki_0 ?_
  refine ev_istore_n (L' := [some (.inr 2), some (.inl 0), some (.inl 0)]) (pc := 3) dX5_living_3 (Nat.le_of_ble_eq_true rfl) rfl ?_
  obtain ⟨q2, l3, h⟩ := rb_bd h
  have hx7 : rb_Ev RX5 cX5_living 3 (some .int) none 0 (some o) μ 31 [none, some (.inl q2), none] [] (rb_ov μ [(5, c)]) := by
    refine ev_iload_n (v := q2) (pc := 31) dX5_living_31 rfl ?_
    obtain rfl := Option.some.inj h
    exact ev_iret (pc := 32) dX5_living_32 rfl rfl rfl hfin
  refine rb_lp_ev (P := fun (s1 : Int32 × Int32) => rb_Ev RX5 cX5_living 3 (some .int) none 0 (some o) μ 4 [some (.inr 2), some (.inl s1.1), some (.inl s1.2)] [] (rb_ov μ [(5, c)])) ?_ 100000 (0, 0) l3
  intro s1 y4 h ih5 hE6
  refine ev_iload_n (v := s1.2) (pc := 4) dX5_living_4 rfl ?_
  refine ev_bipush (v := 28) (pc := 5) dX5_living_5 kb_28 ?_
  by_cases b9 : 28 ≤ s1.2
  · rw [if_pos b9] at h
    refine ev_icmp_ge_t (t := 31) (pc := 7) dX5_living_7 (by decide) b9 ?_
    obtain rfl := Option.some.inj h
    obtain rfl := hE6 _ rfl
    exact ev_fg (L := [none, some (.inl s1.1), none]) (And.intro rfl True.intro) (hx7)
  · rw [if_neg b9] at h
    refine ev_icmp_ge_f (t := 31) (pc := 7) dX5_living_7 (by decide) b9 ?_
    obtain ⟨v10, e11, h⟩ := rb_bd h
    refine ev_aload_n (v := 2) (pc := 10) dX5_living_10 rfl ?_
    refine ev_getr (q := 5) (pc := 11) dX5_living_11 fl_RX5_9 rfl rfl ?_
    refine ev_bipush (v := 19) (pc := 14) dX5_living_14 kb_19 ?_
    refine ev_iload_n (v := s1.2) (pc := 16) dX5_living_16 rfl ?_
    refine ev_iadd (pc := 17) dX5_living_17 ?_
    refine ev_iald (pc := 18) dX5_living_18 rfl e11 ?_
    obtain ⟨j12, e13, h⟩ := rb_bd h
    have hj14 : rb_Ev RX5 cX5_living 3 (some .int) none 0 (some o) μ 25 [some (.inr 2), some (.inl j12), some (.inl s1.2)] [] (rb_ov μ [(5, c)]) := by
      refine ev_iinc (x := s1.2) (v := (s1.2 + 1)) (L' := [some (.inr 2), some (.inl j12), some (.inl (s1.2 + 1))]) (pc := 25) dX5_living_25 rfl (kx_1 _) (Nat.le_of_ble_eq_true rfl) rfl ?_
      refine ev_goto (t := 4) (pc := 28) dX5_living_28 (by decide) ?_
      obtain rfl := Option.some.inj h
      exact ih5 (j12, (s1.2 + 1)) rfl
    replace h := e13
    by_cases b15 : v10 < 0
    · rw [if_pos b15] at h
      refine ev_if_lt_t (t := 25) (pc := 19) dX5_living_19 (by decide) b15 ?_
      obtain rfl := Option.some.inj h
      exact hj14
    · rw [if_neg b15] at h
      refine ev_if_lt_f (t := 25) (pc := 19) dX5_living_19 (by decide) b15 ?_
      refine ev_iinc (x := s1.1) (v := (s1.1 + 1)) (L' := [some (.inr 2), some (.inl (s1.1 + 1)), some (.inl s1.2)]) (pc := 22) dX5_living_22 rfl (kx_1 _) (Nat.le_of_ble_eq_true rfl) rfl ?_
      obtain rfl := Option.some.inj h
      exact hj14
set_option maxHeartbeats 4000000 in
set_option maxRecDepth 20000 in
theorem ct1_X5_living (μ : rb_Mem) (c : rb_Row) (o : Int32) (hc : μ 11 = c) (h : XX5_living c = some o) : rb_Ct yX5_living cX5_living 3 (some .int) 0 [.inr 8] μ (some o) μ := by
  unfold XX5_living at h
  have hini : rb_ov μ [(11, c)] = μ := rb_ov_sf _ _ (And.intro hc True.intro)
  have hfin := hini
  refine rb_cti (w := [(11, c)]) rfl pn_5 (Nat.le_of_ble_eq_true rfl) rfl hini ?_
  refine ev_iconst (v := 0) (pc := 0) dX5_living_0 ki_0 ?_
  refine ev_istore_n (L' := [some (.inr 8), some (.inl 0), none]) (pc := 1) dX5_living_1 (Nat.le_of_ble_eq_true rfl) rfl ?_
  refine ev_iconst (v := 0) (pc := 2) dX5_living_2 ki_0 ?_
  refine ev_istore_n (L' := [some (.inr 8), some (.inl 0), some (.inl 0)]) (pc := 3) dX5_living_3 (Nat.le_of_ble_eq_true rfl) rfl ?_
  obtain ⟨q2, l3, h⟩ := rb_bd h
  have hx7 : rb_Ev RX5 cX5_living 3 (some .int) none 0 (some o) μ 31 [none, some (.inl q2), none] [] (rb_ov μ [(11, c)]) := by
    refine ev_iload_n (v := q2) (pc := 31) dX5_living_31 rfl ?_
    obtain rfl := Option.some.inj h
    exact ev_iret (pc := 32) dX5_living_32 rfl rfl rfl hfin
  refine rb_lp_ev (P := fun (s1 : Int32 × Int32) => rb_Ev RX5 cX5_living 3 (some .int) none 0 (some o) μ 4 [some (.inr 8), some (.inl s1.1), some (.inl s1.2)] [] (rb_ov μ [(11, c)])) ?_ 100000 (0, 0) l3
  intro s1 y4 h ih5 hE6
  refine ev_iload_n (v := s1.2) (pc := 4) dX5_living_4 rfl ?_
  refine ev_bipush (v := 28) (pc := 5) dX5_living_5 kb_28 ?_
  by_cases b9 : 28 ≤ s1.2
  · rw [if_pos b9] at h
    refine ev_icmp_ge_t (t := 31) (pc := 7) dX5_living_7 (by decide) b9 ?_
    obtain rfl := Option.some.inj h
    obtain rfl := hE6 _ rfl
    exact ev_fg (L := [none, some (.inl s1.1), none]) (And.intro rfl True.intro) (hx7)
  · rw [if_neg b9] at h
    refine ev_icmp_ge_f (t := 31) (pc := 7) dX5_living_7 (by decide) b9 ?_
    obtain ⟨v10, e11, h⟩ := rb_bd h
    refine ev_aload_n (v := 8) (pc := 10) dX5_living_10 rfl ?_
    refine ev_getr (q := 11) (pc := 11) dX5_living_11 fl_RX5_9 rfl rfl ?_
    refine ev_bipush (v := 19) (pc := 14) dX5_living_14 kb_19 ?_
    refine ev_iload_n (v := s1.2) (pc := 16) dX5_living_16 rfl ?_
    refine ev_iadd (pc := 17) dX5_living_17 ?_
    refine ev_iald (pc := 18) dX5_living_18 rfl e11 ?_
    obtain ⟨j12, e13, h⟩ := rb_bd h
    have hj14 : rb_Ev RX5 cX5_living 3 (some .int) none 0 (some o) μ 25 [some (.inr 8), some (.inl j12), some (.inl s1.2)] [] (rb_ov μ [(11, c)]) := by
      refine ev_iinc (x := s1.2) (v := (s1.2 + 1)) (L' := [some (.inr 8), some (.inl j12), some (.inl (s1.2 + 1))]) (pc := 25) dX5_living_25 rfl (kx_1 _) (Nat.le_of_ble_eq_true rfl) rfl ?_
      refine ev_goto (t := 4) (pc := 28) dX5_living_28 (by decide) ?_
      obtain rfl := Option.some.inj h
      exact ih5 (j12, (s1.2 + 1)) rfl
    replace h := e13
    by_cases b15 : v10 < 0
    · rw [if_pos b15] at h
      refine ev_if_lt_t (t := 25) (pc := 19) dX5_living_19 (by decide) b15 ?_
      obtain rfl := Option.some.inj h
      exact hj14
    · rw [if_neg b15] at h
      refine ev_if_lt_f (t := 25) (pc := 19) dX5_living_19 (by decide) b15 ?_
      refine ev_iinc (x := s1.1) (v := (s1.1 + 1)) (L' := [some (.inr 8), some (.inl (s1.1 + 1)), some (.inl s1.2)]) (pc := 22) dX5_living_22 rfl (kx_1 _) (Nat.le_of_ble_eq_true rfl) rfl ?_
      obtain rfl := Option.some.inj h
      exact hj14
