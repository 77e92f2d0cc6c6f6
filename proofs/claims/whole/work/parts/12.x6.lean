def XX6_keptFrom (pr : rb_Row) (pf : rb_Row) (c0 : rb_Row) (x0 : Int32) (x1 : Int32) : Option (Int32 × rb_Row × rb_Row) := if x1 < x0 then some (x1, pr, pf) else (XX2_keep pr pf c0).bind fun t2 => some (x1, t2.1, t2.2)
set_option maxHeartbeats 4000000 in
set_option maxRecDepth 20000 in
theorem ct_X6_keptFrom (μ : rb_Mem) (pr : rb_Row) (pf : rb_Row) (c0 : rb_Row) (x0 : Int32) (x1 : Int32) (o : Int32 × rb_Row × rb_Row) (hpr : μ 14 = pr) (hpf : μ 13 = pf) (hc0 : μ 5 = c0) (h : XX6_keptFrom pr pf c0 x0 x1 = some o) : rb_Ct yX6_keptFrom cX6_keptFrom 3 (some .int) 2 [.inr 0, .inl x0, .inl x1] μ (some o.1) (rb_ov μ [(14, o.2.1), (13, o.2.2)]) := by
  unfold XX6_keptFrom at h
  have hini : rb_ov μ [(14, pr), (13, pf), (5, c0)] = μ := rb_ov_sf _ _ (And.intro hpr (And.intro hpf (And.intro hc0 True.intro)))
  have hfin : ∀ u0 u1 : rb_Row, rb_ov μ [(14, u0), (13, u1), (5, c0)] = rb_ov μ [(14, u0), (13, u1)] := fun u0 u1 => rb_ov_ap _ [(14, u0), (13, u1)] _ (And.intro hc0 True.intro)
  refine rb_cti (w := [(14, pr), (13, pf), (5, c0)]) rfl pn_6 (Nat.le_of_ble_eq_true rfl) rfl hini ?_
  refine ev_iload_n (v := x1) (pc := 0) dX6_keptFrom_0 rfl ?_
  refine ev_iload_n (v := x0) (pc := 1) dX6_keptFrom_1 rfl ?_
  by_cases b1 : x1 < x0
  · rw [if_pos b1] at h
    refine ev_icmp_lt_t (t := 16) (pc := 2) dX6_keptFrom_2 (by decide) b1 ?_
    refine ev_iload_n (v := x1) (pc := 16) dX6_keptFrom_16 rfl ?_
    obtain rfl := Option.some.inj h
    exact ev_iret (pc := 17) dX6_keptFrom_17 rfl rfl rfl (hfin _ _)
  · rw [if_neg b1] at h
    refine ev_icmp_lt_f (t := 16) (pc := 2) dX6_keptFrom_2 (by decide) b1 ?_
    obtain ⟨t2, e3, h⟩ := rb_bd h
    refine ev_aload_n (v := 0) (pc := 5) dX6_keptFrom_5 rfl ?_
    refine ev_getr (q := 13) (pc := 6) dX6_keptFrom_6 fl_RX6_41 rfl rfl ?_
    refine ev_aload_n (v := 0) (pc := 9) dX6_keptFrom_9 rfl ?_
    refine ev_getr (q := 5) (pc := 10) dX6_keptFrom_10 fl_RX6_13 rfl rfl ?_
    refine ev_cVv1w (w' := [(14, t2.1), (13, t2.2), (5, c0)]) (pc := 13) dX6_keptFrom_13 mv_X2_keep lk_RX6_59 rp_13 (ct_X2_keep _ _ _ _ _ rfl rfl rfl e3) (Nat.le_of_ble_eq_true rfl) (Nat.le_of_ble_eq_true rfl) rfl ?_
    refine ev_iload_n (v := x1) (pc := 16) dX6_keptFrom_16 rfl ?_
    obtain rfl := Option.some.inj h
    exact ev_iret (pc := 17) dX6_keptFrom_17 rfl rfl rfl (hfin _ _)
def XX6_keptIf (pr : rb_Row) (pf : rb_Row) (c0 : rb_Row) (x0 : Int32) : Option (Int32 × rb_Row × rb_Row) := if x0 = 0 then some ((rb_nz x0), pr, pf) else (XX2_keep pr pf c0).bind fun t2 => some ((rb_nz x0), t2.1, t2.2)
set_option maxHeartbeats 4000000 in
set_option maxRecDepth 20000 in
theorem ct_X6_keptIf (μ : rb_Mem) (pr : rb_Row) (pf : rb_Row) (c0 : rb_Row) (x0 : Int32) (o : Int32 × rb_Row × rb_Row) (hpr : μ 14 = pr) (hpf : μ 13 = pf) (hc0 : μ 5 = c0) (h : XX6_keptIf pr pf c0 x0 = some o) : rb_Ct yX6_keptIf cX6_keptIf 2 (some .boolean) 2 [.inr 0, .inl x0] μ (some o.1) (rb_ov μ [(14, o.2.1), (13, o.2.2)]) := by
  unfold XX6_keptIf at h
  have hini : rb_ov μ [(14, pr), (13, pf), (5, c0)] = μ := rb_ov_sf _ _ (And.intro hpr (And.intro hpf (And.intro hc0 True.intro)))
  have hfin : ∀ u0 u1 : rb_Row, rb_ov μ [(14, u0), (13, u1), (5, c0)] = rb_ov μ [(14, u0), (13, u1)] := fun u0 u1 => rb_ov_ap _ [(14, u0), (13, u1)] _ (And.intro hc0 True.intro)
  refine rb_ctz (w := [(14, pr), (13, pf), (5, c0)]) rfl pn_6 (Nat.le_of_ble_eq_true rfl) rfl hini ?_
  refine ev_iload_n (v := x0) (pc := 0) dX6_keptIf_0 rfl ?_
  by_cases b1 : x0 = 0
  · rw [if_pos b1] at h
    refine ev_if_eq_t (t := 15) (pc := 1) dX6_keptIf_1 (by decide) b1 ?_
    refine ev_iload_n (v := x0) (pc := 15) dX6_keptIf_15 rfl ?_
    obtain rfl := Option.some.inj h
    exact ev_iret (pc := 16) dX6_keptIf_16 rfl rfl rfl (hfin _ _)
  · rw [if_neg b1] at h
    refine ev_if_eq_f (t := 15) (pc := 1) dX6_keptIf_1 (by decide) b1 ?_
    obtain ⟨t2, e3, h⟩ := rb_bd h
    refine ev_aload_n (v := 0) (pc := 4) dX6_keptIf_4 rfl ?_
    refine ev_getr (q := 13) (pc := 5) dX6_keptIf_5 fl_RX6_41 rfl rfl ?_
    refine ev_aload_n (v := 0) (pc := 8) dX6_keptIf_8 rfl ?_
    refine ev_getr (q := 5) (pc := 9) dX6_keptIf_9 fl_RX6_13 rfl rfl ?_
    refine ev_cVv1w (w' := [(14, t2.1), (13, t2.2), (5, c0)]) (pc := 12) dX6_keptIf_12 mv_X2_keep lk_RX6_59 rp_13 (ct_X2_keep _ _ _ _ _ rfl rfl rfl e3) (Nat.le_of_ble_eq_true rfl) (Nat.le_of_ble_eq_true rfl) rfl ?_
    refine ev_iload_n (v := x0) (pc := 15) dX6_keptIf_15 rfl ?_
    obtain rfl := Option.some.inj h
    exact ev_iret (pc := 16) dX6_keptIf_16 rfl rfl rfl (hfin _ _)
def XX6_rehearse (c1 : rb_Row) (f1 : rb_Row) (c0 : rb_Row) : Option (rb_Row × rb_Row) := (XX0_become c1 f1 c0).bind fun t1 => some (t1.1, t1.2)
set_option maxHeartbeats 4000000 in
set_option maxRecDepth 20000 in
theorem ct_X6_rehearse (μ : rb_Mem) (c1 : rb_Row) (f1 : rb_Row) (c0 : rb_Row) (o : rb_Row × rb_Row) (hc1 : μ 11 = c1) (hf1 : μ 7 = f1) (hc0 : μ 5 = c0) (h : XX6_rehearse c1 f1 c0 = some o) : rb_Ct yX6_rehearse cX6_rehearse 1 none 2 [.inr 0] μ none (rb_ov μ [(11, o.1), (7, o.2)]) := by
  unfold XX6_rehearse at h
  have hini : rb_ov μ [(11, c1), (7, f1), (5, c0)] = μ := rb_ov_sf _ _ (And.intro hc1 (And.intro hf1 (And.intro hc0 True.intro)))
  have hfin : ∀ u0 u1 : rb_Row, rb_ov μ [(11, u0), (7, u1), (5, c0)] = rb_ov μ [(11, u0), (7, u1)] := fun u0 u1 => rb_ov_ap _ [(11, u0), (7, u1)] _ (And.intro hc0 True.intro)
  refine rb_ctv (w := [(11, c1), (7, f1), (5, c0)]) rfl pn_6 (Nat.le_of_ble_eq_true rfl) rfl hini ?_
  obtain ⟨t1, e2, h⟩ := rb_bd h
  refine ev_aload_n (v := 0) (pc := 0) dX6_rehearse_0 rfl ?_
  refine ev_getr (q := 7) (pc := 1) dX6_rehearse_1 fl_RX6_26 rfl rfl ?_
  refine ev_aload_n (v := 0) (pc := 4) dX6_rehearse_4 rfl ?_
  refine ev_getr (q := 5) (pc := 5) dX6_rehearse_5 fl_RX6_13 rfl rfl ?_
  refine ev_cVv1w (w' := [(11, t1.1), (7, t1.2), (5, c0)]) (pc := 8) dX6_rehearse_8 mv_X0_become lk_RX6_62 rp_7 (ct1_X0_become _ _ _ _ _ rfl rfl rfl e2) (Nat.le_of_ble_eq_true rfl) (Nat.le_of_ble_eq_true rfl) rfl ?_
  obtain rfl := Option.some.inj h
  exact ev_ret (pc := 11) dX6_rehearse_11 rfl rfl (hfin _ _)
def XX6_setOf (c0 : rb_Row) (x0 : Int32) : Option (Int32) := (XX5_thingOfKind c0 x0 4).bind fun t1 => some t1
set_option maxHeartbeats 4000000 in
set_option maxRecDepth 20000 in
theorem ct_X6_setOf (μ : rb_Mem) (c0 : rb_Row) (x0 : Int32) (o : Int32) (hc0 : μ 5 = c0) (h : XX6_setOf c0 x0 = some o) : rb_Ct yX6_setOf cX6_setOf 2 (some .int) 2 [.inr 0, .inl x0] μ (some o) μ := by
  unfold XX6_setOf at h
  have hini : rb_ov μ [(5, c0)] = μ := rb_ov_sf _ _ (And.intro hc0 True.intro)
  have hfin := hini
  refine rb_cti (w := [(5, c0)]) rfl pn_6 (Nat.le_of_ble_eq_true rfl) rfl hini ?_
  obtain ⟨t1, e2, h⟩ := rb_bd h
  refine ev_aload_n (v := 0) (pc := 0) dX6_setOf_0 rfl ?_
  refine ev_getr (q := 1) (pc := 1) dX6_setOf_1 fl_RX6_22 rfl rfl ?_
  refine ev_getr (q := 2) (pc := 4) dX6_setOf_4 fl_RX6_65 rfl rfl ?_
  refine ev_iload_n (v := x0) (pc := 7) dX6_setOf_7 rfl ?_
  refine ev_iconst (v := 4) (pc := 8) dX6_setOf_8 ki_4 ?_
  refine ev_cVi2 (pc := 9) dX6_setOf_9 mv_X5_thingOfKind lk_RX6_69 rp_2 (ct0_X5_thingOfKind _ _ _ _ _ rfl e2) (Nat.le_of_ble_eq_true rfl) (Nat.le_of_ble_eq_true rfl) ?_
  obtain rfl := Option.some.inj h
  exact ev_iret (pc := 12) dX6_setOf_12 rfl rfl rfl hfin
def XX6_pipe (c0 : rb_Row) (pr : rb_Row) (pf : rb_Row) (x0 : Int32) : Option (Int32 × rb_Row × rb_Row × rb_Row) := (XX0_makePipe c0 x0).bind fun t1 => (XX6_keptFrom pr pf t1.2 0 t1.1).bind fun t3 => some (t3.1, t1.2, t3.2.1, t3.2.2)
set_option maxHeartbeats 4000000 in
set_option maxRecDepth 20000 in
theorem ct_X6_pipe (μ : rb_Mem) (c0 : rb_Row) (pr : rb_Row) (pf : rb_Row) (x0 : Int32) (o : Int32 × rb_Row × rb_Row × rb_Row) (hc0 : μ 5 = c0) (hpr : μ 14 = pr) (hpf : μ 13 = pf) (h : XX6_pipe c0 pr pf x0 = some o) : rb_Ct yX6_pipe cX6_pipe 2 (some .int) 3 [.inr 0, .inl x0] μ (some o.1) (rb_ov μ [(5, o.2.1), (14, o.2.2.1), (13, o.2.2.2)]) := by
  unfold XX6_pipe at h
  have hini : rb_ov μ [(5, c0), (14, pr), (13, pf)] = μ := rb_ov_sf _ _ (And.intro hc0 (And.intro hpr (And.intro hpf True.intro)))
  have hfin : ∀ u0 u1 u2 : rb_Row, rb_ov μ [(5, u0), (14, u1), (13, u2)] = rb_ov μ [(5, u0), (14, u1), (13, u2)] := fun u0 u1 u2 => rfl
  refine rb_cti (w := [(5, c0), (14, pr), (13, pf)]) rfl pn_6 (Nat.le_of_ble_eq_true rfl) rfl hini ?_
  obtain ⟨t1, e2, h⟩ := rb_bd h
  obtain ⟨t3, e4, h⟩ := rb_bd h
  refine ev_aload_n (v := 0) (pc := 0) dX6_pipe_0 rfl ?_
  refine ev_iconst (v := 0) (pc := 1) dX6_pipe_1 ki_0 ?_
  refine ev_aload_n (v := 0) (pc := 2) dX6_pipe_2 rfl ?_
  refine ev_getr (q := 1) (pc := 3) dX6_pipe_3 fl_RX6_22 rfl rfl ?_
  refine ev_iload_n (v := x0) (pc := 6) dX6_pipe_6 rfl ?_
  refine ev_cVi1w (w' := [(5, t1.2), (14, pr), (13, pf)]) (pc := 7) dX6_pipe_7 mv_X0_makePipe lk_RX6_75 rp_1 (ct0_X0_makePipe _ _ _ _ rfl e2) (Nat.le_of_ble_eq_true rfl) (Nat.le_of_ble_eq_true rfl) rfl ?_
  refine ev_cVi2w (w' := [(5, t1.2), (14, t3.2.1), (13, t3.2.2)]) (pc := 10) dX6_pipe_10 mv_X6_keptFrom lk_RX6_79 rp_0 (ct_X6_keptFrom _ _ _ _ _ _ _ rfl rfl rfl e4) (Nat.le_of_ble_eq_true rfl) (Nat.le_of_ble_eq_true rfl) rfl ?_
  obtain rfl := Option.some.inj h
  exact ev_iret (pc := 13) dX6_pipe_13 rfl rfl rfl (hfin _ _ _)
def XX6_counter (c0 : rb_Row) (pr : rb_Row) (pf : rb_Row) (x0 : Int32) (x1 : Int32) : Option (Int32 × rb_Row × rb_Row × rb_Row) := (XX6_between x0 0 1000).bind fun t1 => if t1 = 0 then some ((-1), c0, pr, pf) else (XX0_makeNamed c0 2).bind fun t4 => (XX5_thingOf t4.2 t4.1).bind fun t6 => if 0 ≤ t6 then (rb_wr t4.2 773 (47 + t6) x0).bind fun c09 => ((if x1 = 0 then some 0 else some 1) : Option (Int32)).bind fun j11 => (rb_wr c09 773 (103 + t6) j11).bind fun c015 => (XX6_keptFrom pr pf c015 0 t4.1).bind fun t17 => some (t17.1, c015, t17.2.1, t17.2.2) else some ((-1), t4.2, pr, pf)
set_option maxHeartbeats 4000000 in
set_option maxRecDepth 20000 in
theorem ct_X6_counter (μ : rb_Mem) (c0 : rb_Row) (pr : rb_Row) (pf : rb_Row) (x0 : Int32) (x1 : Int32) (o : Int32 × rb_Row × rb_Row × rb_Row) (hc0 : μ 5 = c0) (hpr : μ 14 = pr) (hpf : μ 13 = pf) (h : XX6_counter c0 pr pf x0 x1 = some o) : rb_Ct yX6_counter cX6_counter 5 (some .int) 3 [.inr 0, .inl x0, .inl x1] μ (some o.1) (rb_ov μ [(5, o.2.1), (14, o.2.2.1), (13, o.2.2.2)]) := by
  unfold XX6_counter at h
  have hini : rb_ov μ [(5, c0), (14, pr), (13, pf)] = μ := rb_ov_sf _ _ (And.intro hc0 (And.intro hpr (And.intro hpf True.intro)))
  have hfin : ∀ u0 u1 u2 : rb_Row, rb_ov μ [(5, u0), (14, u1), (13, u2)] = rb_ov μ [(5, u0), (14, u1), (13, u2)] := fun u0 u1 u2 => rfl
  refine rb_cti (w := [(5, c0), (14, pr), (13, pf)]) rfl pn_6 (Nat.le_of_ble_eq_true rfl) rfl hini ?_
  obtain ⟨t1, e2, h⟩ := rb_bd h
  refine ev_iload_n (v := x0) (pc := 0) dX6_counter_0 rfl ?_
  refine ev_iconst (v := 0) (pc := 1) dX6_counter_1 ki_0 ?_
  refine ev_sipush (v := 1000) (pc := 2) dX6_counter_2 ks_1000 ?_
  refine ev_cSi3 (pc := 5) dX6_counter_5 ms_X6_between lk_RX6_82 (ct_X6_between _ _ _ _ _ e2) (Nat.le_of_ble_eq_true rfl) (Nat.le_of_ble_eq_true rfl) ?_
  by_cases b3 : t1 = 0
  · rw [if_pos b3] at h
    refine ev_if_ne_f (t := 13) (pc := 8) dX6_counter_8 (by decide) b3 ?_
    refine ev_iconst (v := (-1)) (pc := 11) dX6_counter_11 ki_m1 ?_
    obtain rfl := Option.some.inj h
    exact ev_iret (pc := 12) dX6_counter_12 rfl rfl rfl (hfin _ _ _)
  · rw [if_neg b3] at h
    refine ev_if_ne_t (t := 13) (pc := 8) dX6_counter_8 (by decide) b3 ?_
    obtain ⟨t4, e5, h⟩ := rb_bd h
    obtain ⟨t6, e7, h⟩ := rb_bd h
    refine ev_aload_n (v := 0) (pc := 13) dX6_counter_13 rfl ?_
    refine ev_getr (q := 1) (pc := 14) dX6_counter_14 fl_RX6_22 rfl rfl ?_
    refine ev_iconst (v := 2) (pc := 17) dX6_counter_17 ki_2 ?_
    refine ev_cVi1w (w' := [(5, t4.2), (14, pr), (13, pf)]) (pc := 18) dX6_counter_18 mv_X0_makeNamed lk_RX6_86 rp_1 (ct0_X0_makeNamed _ _ _ _ rfl e5) (Nat.le_of_ble_eq_true rfl) (Nat.le_of_ble_eq_true rfl) rfl ?_
    refine ev_istore_n (L' := [some (.inr 0), some (.inl x0), some (.inl x1), some (.inl t4.1), none]) (pc := 21) dX6_counter_21 (Nat.le_of_ble_eq_true rfl) rfl ?_
    refine ev_aload_n (v := 0) (pc := 22) dX6_counter_22 rfl ?_
    refine ev_getr (q := 1) (pc := 23) dX6_counter_23 fl_RX6_22 rfl rfl ?_
    refine ev_getr (q := 2) (pc := 26) dX6_counter_26 fl_RX6_65 rfl rfl ?_
    refine ev_iload_n (v := t4.1) (pc := 29) dX6_counter_29 rfl ?_
    refine ev_cVi1 (pc := 30) dX6_counter_30 mv_X5_thingOf lk_RX6_89 rp_2 (ct0_X5_thingOf _ _ _ _ rfl e7) (Nat.le_of_ble_eq_true rfl) (Nat.le_of_ble_eq_true rfl) ?_
    refine ev_istore (L' := [some (.inr 0), some (.inl x0), some (.inl x1), some (.inl t4.1), some (.inl t6)]) (pc := 33) dX6_counter_33 (Nat.le_of_ble_eq_true rfl) rfl ?_
    refine ev_iload (v := t6) (pc := 35) dX6_counter_35 rfl ?_
    by_cases b8 : 0 ≤ t6
    · rw [if_pos b8] at h
      refine ev_if_ge_t (t := 42) (pc := 37) dX6_counter_37 (by decide) b8 ?_
      obtain ⟨c09, e10, h⟩ := rb_bd h
      refine ev_aload_n (v := 0) (pc := 42) dX6_counter_42 rfl ?_
      refine ev_getr (q := 5) (pc := 43) dX6_counter_43 fl_RX6_13 rfl rfl ?_
      refine ev_bipush (v := 47) (pc := 46) dX6_counter_46 kb_47 ?_
      refine ev_iload (v := t6) (pc := 48) dX6_counter_48 rfl ?_
      refine ev_iadd (pc := 50) dX6_counter_50 ?_
      refine ev_iload_n (v := x0) (pc := 51) dX6_counter_51 rfl ?_
      refine ev_iast (w' := [(5, c09), (14, pr), (13, pf)]) (pc := 52) dX6_counter_52 rfl e10 rfl ?_
      refine ev_aload_n (v := 0) (pc := 53) dX6_counter_53 rfl ?_
      refine ev_getr (q := 5) (pc := 54) dX6_counter_54 fl_RX6_13 rfl rfl ?_
      refine ev_bipush (v := 103) (pc := 57) dX6_counter_57 kb_103 ?_
      refine ev_iload (v := t6) (pc := 59) dX6_counter_59 rfl ?_
      refine ev_iadd (pc := 61) dX6_counter_61 ?_
      refine ev_iload_n (v := x1) (pc := 62) dX6_counter_62 rfl ?_
      obtain ⟨j11, e12, h⟩ := rb_bd h
      have hj13 : rb_Ev RX6 cX6_counter 5 (some .int) none 3 (some o.1) (rb_ov μ [(5, o.2.1), (14, o.2.2.1), (13, o.2.2.2)]) 71 [some (.inr 0), none, none, some (.inl t4.1), none] [.inl j11, .inl (103 + t6), .inr 5] (rb_ov μ [(5, c09), (14, pr), (13, pf)]) := by
        obtain ⟨c015, e16, h⟩ := rb_bd h
        obtain ⟨t17, e18, h⟩ := rb_bd h
        refine ev_iast (w' := [(5, c015), (14, pr), (13, pf)]) (pc := 71) dX6_counter_71 rfl e16 rfl ?_
        refine ev_aload_n (v := 0) (pc := 72) dX6_counter_72 rfl ?_
        refine ev_iconst (v := 0) (pc := 73) dX6_counter_73 ki_0 ?_
        refine ev_iload_n (v := t4.1) (pc := 74) dX6_counter_74 rfl ?_
        refine ev_cVi2w (w' := [(5, c015), (14, t17.2.1), (13, t17.2.2)]) (pc := 75) dX6_counter_75 mv_X6_keptFrom lk_RX6_79 rp_0 (ct_X6_keptFrom _ _ _ _ _ _ _ rfl rfl rfl e18) (Nat.le_of_ble_eq_true rfl) (Nat.le_of_ble_eq_true rfl) rfl ?_
        obtain rfl := Option.some.inj h
        exact ev_iret (pc := 78) dX6_counter_78 rfl rfl rfl (hfin _ _ _)
      replace h := e12
      by_cases b14 : x1 = 0
      · rw [if_pos b14] at h
        refine ev_if_eq_t (t := 70) (pc := 63) dX6_counter_63 (by decide) b14 ?_
        refine ev_iconst (v := 0) (pc := 70) dX6_counter_70 ki_0 ?_
        obtain rfl := Option.some.inj h
        exact ev_fg (L := [some (.inr 0), none, none, some (.inl t4.1), none]) (And.intro rfl (And.intro rfl True.intro)) (hj13)
      · rw [if_neg b14] at h
        refine ev_if_eq_f (t := 70) (pc := 63) dX6_counter_63 (by decide) b14 ?_
        refine ev_iconst (v := 1) (pc := 66) dX6_counter_66 ki_1 ?_
        refine ev_goto (t := 71) (pc := 67) dX6_counter_67 (by decide) ?_
        obtain rfl := Option.some.inj h
        exact ev_fg (L := [some (.inr 0), none, none, some (.inl t4.1), none]) (And.intro rfl (And.intro rfl True.intro)) (hj13)
    · rw [if_neg b8] at h
      refine ev_if_ge_f (t := 42) (pc := 37) dX6_counter_37 (by decide) b8 ?_
      refine ev_iconst (v := (-1)) (pc := 40) dX6_counter_40 ki_m1 ?_
      obtain rfl := Option.some.inj h
      exact ev_iret (pc := 41) dX6_counter_41 rfl rfl rfl (hfin _ _ _)
def XX6_timer (c0 : rb_Row) (pr : rb_Row) (pf : rb_Row) : Option (Int32 × rb_Row × rb_Row × rb_Row) := (XX0_makeNamed c0 3).bind fun t1 => (XX6_keptFrom pr pf t1.2 0 t1.1).bind fun t3 => some (t3.1, t1.2, t3.2.1, t3.2.2)
set_option maxHeartbeats 4000000 in
set_option maxRecDepth 20000 in
theorem ct_X6_timer (μ : rb_Mem) (c0 : rb_Row) (pr : rb_Row) (pf : rb_Row) (o : Int32 × rb_Row × rb_Row × rb_Row) (hc0 : μ 5 = c0) (hpr : μ 14 = pr) (hpf : μ 13 = pf) (h : XX6_timer c0 pr pf = some o) : rb_Ct yX6_timer cX6_timer 1 (some .int) 3 [.inr 0] μ (some o.1) (rb_ov μ [(5, o.2.1), (14, o.2.2.1), (13, o.2.2.2)]) := by
  unfold XX6_timer at h
  have hini : rb_ov μ [(5, c0), (14, pr), (13, pf)] = μ := rb_ov_sf _ _ (And.intro hc0 (And.intro hpr (And.intro hpf True.intro)))
  have hfin : ∀ u0 u1 u2 : rb_Row, rb_ov μ [(5, u0), (14, u1), (13, u2)] = rb_ov μ [(5, u0), (14, u1), (13, u2)] := fun u0 u1 u2 => rfl
  refine rb_cti (w := [(5, c0), (14, pr), (13, pf)]) rfl pn_6 (Nat.le_of_ble_eq_true rfl) rfl hini ?_
  obtain ⟨t1, e2, h⟩ := rb_bd h
  obtain ⟨t3, e4, h⟩ := rb_bd h
  refine ev_aload_n (v := 0) (pc := 0) dX6_timer_0 rfl ?_
  refine ev_iconst (v := 0) (pc := 1) dX6_timer_1 ki_0 ?_
  refine ev_aload_n (v := 0) (pc := 2) dX6_timer_2 rfl ?_
  refine ev_getr (q := 1) (pc := 3) dX6_timer_3 fl_RX6_22 rfl rfl ?_
  refine ev_iconst (v := 3) (pc := 6) dX6_timer_6 ki_3 ?_
  refine ev_cVi1w (w' := [(5, t1.2), (14, pr), (13, pf)]) (pc := 7) dX6_timer_7 mv_X0_makeNamed lk_RX6_86 rp_1 (ct0_X0_makeNamed _ _ _ _ rfl e2) (Nat.le_of_ble_eq_true rfl) (Nat.le_of_ble_eq_true rfl) rfl ?_
  refine ev_cVi2w (w' := [(5, t1.2), (14, t3.2.1), (13, t3.2.2)]) (pc := 10) dX6_timer_10 mv_X6_keptFrom lk_RX6_79 rp_0 (ct_X6_keptFrom _ _ _ _ _ _ _ rfl rfl rfl e4) (Nat.le_of_ble_eq_true rfl) (Nat.le_of_ble_eq_true rfl) rfl ?_
  obtain rfl := Option.some.inj h
  exact ev_iret (pc := 13) dX6_timer_13 rfl rfl rfl (hfin _ _ _)
def XX6_set (c0 : rb_Row) (pr : rb_Row) (pf : rb_Row) : Option (Int32 × rb_Row × rb_Row × rb_Row) := (XX0_makeNamed c0 4).bind fun t1 => (XX6_keptFrom pr pf t1.2 0 t1.1).bind fun t3 => some (t3.1, t1.2, t3.2.1, t3.2.2)
set_option maxHeartbeats 4000000 in
set_option maxRecDepth 20000 in
theorem ct_X6_set (μ : rb_Mem) (c0 : rb_Row) (pr : rb_Row) (pf : rb_Row) (o : Int32 × rb_Row × rb_Row × rb_Row) (hc0 : μ 5 = c0) (hpr : μ 14 = pr) (hpf : μ 13 = pf) (h : XX6_set c0 pr pf = some o) : rb_Ct yX6_set cX6_set 1 (some .int) 3 [.inr 0] μ (some o.1) (rb_ov μ [(5, o.2.1), (14, o.2.2.1), (13, o.2.2.2)]) := by
  unfold XX6_set at h
  have hini : rb_ov μ [(5, c0), (14, pr), (13, pf)] = μ := rb_ov_sf _ _ (And.intro hc0 (And.intro hpr (And.intro hpf True.intro)))
  have hfin : ∀ u0 u1 u2 : rb_Row, rb_ov μ [(5, u0), (14, u1), (13, u2)] = rb_ov μ [(5, u0), (14, u1), (13, u2)] := fun u0 u1 u2 => rfl
  refine rb_cti (w := [(5, c0), (14, pr), (13, pf)]) rfl pn_6 (Nat.le_of_ble_eq_true rfl) rfl hini ?_
  obtain ⟨t1, e2, h⟩ := rb_bd h
  obtain ⟨t3, e4, h⟩ := rb_bd h
  refine ev_aload_n (v := 0) (pc := 0) dX6_set_0 rfl ?_
  refine ev_iconst (v := 0) (pc := 1) dX6_set_1 ki_0 ?_
  refine ev_aload_n (v := 0) (pc := 2) dX6_set_2 rfl ?_
  refine ev_getr (q := 1) (pc := 3) dX6_set_3 fl_RX6_22 rfl rfl ?_
  refine ev_iconst (v := 4) (pc := 6) dX6_set_6 ki_4 ?_
  refine ev_cVi1w (w' := [(5, t1.2), (14, pr), (13, pf)]) (pc := 7) dX6_set_7 mv_X0_makeNamed lk_RX6_86 rp_1 (ct0_X0_makeNamed _ _ _ _ rfl e2) (Nat.le_of_ble_eq_true rfl) (Nat.le_of_ble_eq_true rfl) rfl ?_
  refine ev_cVi2w (w' := [(5, t1.2), (14, t3.2.1), (13, t3.2.2)]) (pc := 10) dX6_set_10 mv_X6_keptFrom lk_RX6_79 rp_0 (ct_X6_keptFrom _ _ _ _ _ _ _ rfl rfl rfl e4) (Nat.le_of_ble_eq_true rfl) (Nat.le_of_ble_eq_true rfl) rfl ?_
  obtain rfl := Option.some.inj h
  exact ev_iret (pc := 13) dX6_set_13 rfl rfl rfl (hfin _ _ _)
def XX6_listener (c0 : rb_Row) (pr : rb_Row) (pf : rb_Row) (x0 : Int32) (x1 : Int32) : Option (Int32 × rb_Row × rb_Row × rb_Row) := (XX6_between x0 1 12).bind fun t1 => if t1 = 0 then some ((-1), c0, pr, pf) else (XX6_between x1 1 100).bind fun t4 => if t4 = 0 then some ((-1), c0, pr, pf) else (XX0_makeNamed c0 5).bind fun t7 => (XX5_thingOf t7.2 t7.1).bind fun t9 => if 0 ≤ t9 then (rb_wr t7.2 773 (215 + t9) x0).bind fun c012 => (rb_wr c012 773 (75 + t9) x1).bind fun c014 => (XX6_keptFrom pr pf c014 0 t7.1).bind fun t16 => some (t16.1, c014, t16.2.1, t16.2.2) else some ((-1), t7.2, pr, pf)
set_option maxHeartbeats 4000000 in
set_option maxRecDepth 20000 in
theorem ct_X6_listener (μ : rb_Mem) (c0 : rb_Row) (pr : rb_Row) (pf : rb_Row) (x0 : Int32) (x1 : Int32) (o : Int32 × rb_Row × rb_Row × rb_Row) (hc0 : μ 5 = c0) (hpr : μ 14 = pr) (hpf : μ 13 = pf) (h : XX6_listener c0 pr pf x0 x1 = some o) : rb_Ct yX6_listener cX6_listener 5 (some .int) 3 [.inr 0, .inl x0, .inl x1] μ (some o.1) (rb_ov μ [(5, o.2.1), (14, o.2.2.1), (13, o.2.2.2)]) := by
  unfold XX6_listener at h
  have hini : rb_ov μ [(5, c0), (14, pr), (13, pf)] = μ := rb_ov_sf _ _ (And.intro hc0 (And.intro hpr (And.intro hpf True.intro)))
  have hfin : ∀ u0 u1 u2 : rb_Row, rb_ov μ [(5, u0), (14, u1), (13, u2)] = rb_ov μ [(5, u0), (14, u1), (13, u2)] := fun u0 u1 u2 => rfl
  refine rb_cti (w := [(5, c0), (14, pr), (13, pf)]) rfl pn_6 (Nat.le_of_ble_eq_true rfl) rfl hini ?_
  obtain ⟨t1, e2, h⟩ := rb_bd h
  refine ev_iload_n (v := x0) (pc := 0) dX6_listener_0 rfl ?_
  refine ev_iconst (v := 1) (pc := 1) dX6_listener_1 ki_1 ?_
  refine ev_bipush (v := 12) (pc := 2) dX6_listener_2 kb_12 ?_
  refine ev_cSi3 (pc := 4) dX6_listener_4 ms_X6_between lk_RX6_82 (ct_X6_between _ _ _ _ _ e2) (Nat.le_of_ble_eq_true rfl) (Nat.le_of_ble_eq_true rfl) ?_
  by_cases b3 : t1 = 0
  · rw [if_pos b3] at h
    refine ev_if_eq_t (t := 20) (pc := 7) dX6_listener_7 (by decide) b3 ?_
    refine ev_iconst (v := (-1)) (pc := 20) dX6_listener_20 ki_m1 ?_
    obtain rfl := Option.some.inj h
    exact ev_iret (pc := 21) dX6_listener_21 rfl rfl rfl (hfin _ _ _)
  · rw [if_neg b3] at h
    refine ev_if_eq_f (t := 20) (pc := 7) dX6_listener_7 (by decide) b3 ?_
    obtain ⟨t4, e5, h⟩ := rb_bd h
    refine ev_iload_n (v := x1) (pc := 10) dX6_listener_10 rfl ?_
    refine ev_iconst (v := 1) (pc := 11) dX6_listener_11 ki_1 ?_
    refine ev_bipush (v := 100) (pc := 12) dX6_listener_12 kb_100 ?_
    refine ev_cSi3 (pc := 14) dX6_listener_14 ms_X6_between lk_RX6_82 (ct_X6_between _ _ _ _ _ e5) (Nat.le_of_ble_eq_true rfl) (Nat.le_of_ble_eq_true rfl) ?_
    by_cases b6 : t4 = 0
    · rw [if_pos b6] at h
      refine ev_if_ne_f (t := 22) (pc := 17) dX6_listener_17 (by decide) b6 ?_
      refine ev_iconst (v := (-1)) (pc := 20) dX6_listener_20 ki_m1 ?_
      obtain rfl := Option.some.inj h
      exact ev_iret (pc := 21) dX6_listener_21 rfl rfl rfl (hfin _ _ _)
    · rw [if_neg b6] at h
      refine ev_if_ne_t (t := 22) (pc := 17) dX6_listener_17 (by decide) b6 ?_
      obtain ⟨t7, e8, h⟩ := rb_bd h
      obtain ⟨t9, e10, h⟩ := rb_bd h
      refine ev_aload_n (v := 0) (pc := 22) dX6_listener_22 rfl ?_
      refine ev_getr (q := 1) (pc := 23) dX6_listener_23 fl_RX6_22 rfl rfl ?_
      refine ev_iconst (v := 5) (pc := 26) dX6_listener_26 ki_5 ?_
      refine ev_cVi1w (w' := [(5, t7.2), (14, pr), (13, pf)]) (pc := 27) dX6_listener_27 mv_X0_makeNamed lk_RX6_86 rp_1 (ct0_X0_makeNamed _ _ _ _ rfl e8) (Nat.le_of_ble_eq_true rfl) (Nat.le_of_ble_eq_true rfl) rfl ?_
      refine ev_istore_n (L' := [some (.inr 0), some (.inl x0), some (.inl x1), some (.inl t7.1), none]) (pc := 30) dX6_listener_30 (Nat.le_of_ble_eq_true rfl) rfl ?_
      refine ev_aload_n (v := 0) (pc := 31) dX6_listener_31 rfl ?_
      refine ev_getr (q := 1) (pc := 32) dX6_listener_32 fl_RX6_22 rfl rfl ?_
      refine ev_getr (q := 2) (pc := 35) dX6_listener_35 fl_RX6_65 rfl rfl ?_
      refine ev_iload_n (v := t7.1) (pc := 38) dX6_listener_38 rfl ?_
      refine ev_cVi1 (pc := 39) dX6_listener_39 mv_X5_thingOf lk_RX6_89 rp_2 (ct0_X5_thingOf _ _ _ _ rfl e10) (Nat.le_of_ble_eq_true rfl) (Nat.le_of_ble_eq_true rfl) ?_
      refine ev_istore (L' := [some (.inr 0), some (.inl x0), some (.inl x1), some (.inl t7.1), some (.inl t9)]) (pc := 42) dX6_listener_42 (Nat.le_of_ble_eq_true rfl) rfl ?_
      refine ev_iload (v := t9) (pc := 44) dX6_listener_44 rfl ?_
      by_cases b11 : 0 ≤ t9
      · rw [if_pos b11] at h
        refine ev_if_ge_t (t := 51) (pc := 46) dX6_listener_46 (by decide) b11 ?_
        obtain ⟨c012, e13, h⟩ := rb_bd h
        obtain ⟨c014, e15, h⟩ := rb_bd h
        obtain ⟨t16, e17, h⟩ := rb_bd h
        refine ev_aload_n (v := 0) (pc := 51) dX6_listener_51 rfl ?_
        refine ev_getr (q := 5) (pc := 52) dX6_listener_52 fl_RX6_13 rfl rfl ?_
        refine ev_sipush (v := 215) (pc := 55) dX6_listener_55 ks_215 ?_
        refine ev_iload (v := t9) (pc := 58) dX6_listener_58 rfl ?_
        refine ev_iadd (pc := 60) dX6_listener_60 ?_
        refine ev_iload_n (v := x0) (pc := 61) dX6_listener_61 rfl ?_
        refine ev_iast (w' := [(5, c012), (14, pr), (13, pf)]) (pc := 62) dX6_listener_62 rfl e13 rfl ?_
        refine ev_aload_n (v := 0) (pc := 63) dX6_listener_63 rfl ?_
        refine ev_getr (q := 5) (pc := 64) dX6_listener_64 fl_RX6_13 rfl rfl ?_
        refine ev_bipush (v := 75) (pc := 67) dX6_listener_67 kb_75 ?_
        refine ev_iload (v := t9) (pc := 69) dX6_listener_69 rfl ?_
        refine ev_iadd (pc := 71) dX6_listener_71 ?_
        refine ev_iload_n (v := x1) (pc := 72) dX6_listener_72 rfl ?_
        refine ev_iast (w' := [(5, c014), (14, pr), (13, pf)]) (pc := 73) dX6_listener_73 rfl e15 rfl ?_
        refine ev_aload_n (v := 0) (pc := 74) dX6_listener_74 rfl ?_
        refine ev_iconst (v := 0) (pc := 75) dX6_listener_75 ki_0 ?_
        refine ev_iload_n (v := t7.1) (pc := 76) dX6_listener_76 rfl ?_
        refine ev_cVi2w (w' := [(5, c014), (14, t16.2.1), (13, t16.2.2)]) (pc := 77) dX6_listener_77 mv_X6_keptFrom lk_RX6_79 rp_0 (ct_X6_keptFrom _ _ _ _ _ _ _ rfl rfl rfl e17) (Nat.le_of_ble_eq_true rfl) (Nat.le_of_ble_eq_true rfl) rfl ?_
        obtain rfl := Option.some.inj h
        exact ev_iret (pc := 80) dX6_listener_80 rfl rfl rfl (hfin _ _ _)
      · rw [if_neg b11] at h
        refine ev_if_ge_f (t := 51) (pc := 46) dX6_listener_46 (by decide) b11 ?_
        refine ev_iconst (v := (-1)) (pc := 49) dX6_listener_49 ki_m1 ?_
        obtain rfl := Option.some.inj h
        exact ev_iret (pc := 50) dX6_listener_50 rfl rfl rfl (hfin _ _ _)
def XX6_connect (c0 : rb_Row) (g0 : rb_Row) (f0 : rb_Row) (pr : rb_Row) (pf : rb_Row) (x0 : Int32) : Option (Int32 × rb_Row × rb_Row × rb_Row × rb_Row × rb_Row) := (XX0_connectTo c0 g0 f0 x0).bind fun t1 => (XX6_keptFrom pr pf t1.2.1 0 t1.1).bind fun t3 => some (t3.1, t1.2.1, t1.2.2.1, t1.2.2.2, t3.2.1, t3.2.2)
set_option maxHeartbeats 4000000 in
set_option maxRecDepth 20000 in
theorem ct_X6_connect (μ : rb_Mem) (c0 : rb_Row) (g0 : rb_Row) (f0 : rb_Row) (pr : rb_Row) (pf : rb_Row) (x0 : Int32) (o : Int32 × rb_Row × rb_Row × rb_Row × rb_Row × rb_Row) (hc0 : μ 5 = c0) (hg0 : μ 6 = g0) (hf0 : μ 1 = f0) (hpr : μ 14 = pr) (hpf : μ 13 = pf) (h : XX6_connect c0 g0 f0 pr pf x0 = some o) : rb_Ct yX6_connect cX6_connect 2 (some .int) 16 [.inr 0, .inl x0] μ (some o.1) (rb_ov μ [(5, o.2.1), (6, o.2.2.1), (1, o.2.2.2.1), (14, o.2.2.2.2.1), (13, o.2.2.2.2.2)]) := by
  unfold XX6_connect at h
  have hini : rb_ov μ [(5, c0), (6, g0), (1, f0), (14, pr), (13, pf)] = μ := rb_ov_sf _ _ (And.intro hc0 (And.intro hg0 (And.intro hf0 (And.intro hpr (And.intro hpf True.intro)))))
  have hfin : ∀ u0 u1 u2 u3 u4 : rb_Row, rb_ov μ [(5, u0), (6, u1), (1, u2), (14, u3), (13, u4)] = rb_ov μ [(5, u0), (6, u1), (1, u2), (14, u3), (13, u4)] := fun u0 u1 u2 u3 u4 => rfl
  refine rb_cti (w := [(5, c0), (6, g0), (1, f0), (14, pr), (13, pf)]) rfl pn_6 (Nat.le_of_ble_eq_true rfl) rfl hini ?_
  obtain ⟨t1, e2, h⟩ := rb_bd h
  obtain ⟨t3, e4, h⟩ := rb_bd h
  refine ev_aload_n (v := 0) (pc := 0) dX6_connect_0 rfl ?_
  refine ev_iconst (v := 0) (pc := 1) dX6_connect_1 ki_0 ?_
  refine ev_aload_n (v := 0) (pc := 2) dX6_connect_2 rfl ?_
  refine ev_getr (q := 1) (pc := 3) dX6_connect_3 fl_RX6_22 rfl rfl ?_
  refine ev_iload_n (v := x0) (pc := 6) dX6_connect_6 rfl ?_
  refine ev_cVi1w (w' := [(5, t1.2.1), (6, t1.2.2.1), (1, t1.2.2.2), (14, pr), (13, pf)]) (pc := 7) dX6_connect_7 mv_X0_connectTo lk_RX6_92 rp_1 (ct0_X0_connectTo _ _ _ _ _ _ rfl rfl rfl e2) (Nat.le_of_ble_eq_true rfl) (Nat.le_of_ble_eq_true rfl) rfl ?_
  refine ev_cVi2w (w' := [(5, t1.2.1), (6, t1.2.2.1), (1, t1.2.2.2), (14, t3.2.1), (13, t3.2.2)]) (pc := 10) dX6_connect_10 mv_X6_keptFrom lk_RX6_79 rp_0 (ct_X6_keptFrom _ _ _ _ _ _ _ rfl rfl rfl e4) (Nat.le_of_ble_eq_true rfl) (Nat.le_of_ble_eq_true rfl) rfl ?_
  obtain rfl := Option.some.inj h
  exact ev_iret (pc := 13) dX6_connect_13 rfl rfl rfl (hfin _ _ _ _ _)
def XX6_accept (c0 : rb_Row) (pr : rb_Row) (pf : rb_Row) (x0 : Int32) : Option (Int32 × rb_Row × rb_Row × rb_Row) := (XX0_acceptFrom c0 x0).bind fun t1 => (XX6_keptFrom pr pf t1.2 0 t1.1).bind fun t3 => some (t3.1, t1.2, t3.2.1, t3.2.2)
set_option maxHeartbeats 4000000 in
set_option maxRecDepth 20000 in
theorem ct_X6_accept (μ : rb_Mem) (c0 : rb_Row) (pr : rb_Row) (pf : rb_Row) (x0 : Int32) (o : Int32 × rb_Row × rb_Row × rb_Row) (hc0 : μ 5 = c0) (hpr : μ 14 = pr) (hpf : μ 13 = pf) (h : XX6_accept c0 pr pf x0 = some o) : rb_Ct yX6_accept cX6_accept 2 (some .int) 3 [.inr 0, .inl x0] μ (some o.1) (rb_ov μ [(5, o.2.1), (14, o.2.2.1), (13, o.2.2.2)]) := by
  unfold XX6_accept at h
  have hini : rb_ov μ [(5, c0), (14, pr), (13, pf)] = μ := rb_ov_sf _ _ (And.intro hc0 (And.intro hpr (And.intro hpf True.intro)))
  have hfin : ∀ u0 u1 u2 : rb_Row, rb_ov μ [(5, u0), (14, u1), (13, u2)] = rb_ov μ [(5, u0), (14, u1), (13, u2)] := fun u0 u1 u2 => rfl
  refine rb_cti (w := [(5, c0), (14, pr), (13, pf)]) rfl pn_6 (Nat.le_of_ble_eq_true rfl) rfl hini ?_
  obtain ⟨t1, e2, h⟩ := rb_bd h
  obtain ⟨t3, e4, h⟩ := rb_bd h
  refine ev_aload_n (v := 0) (pc := 0) dX6_accept_0 rfl ?_
  refine ev_iconst (v := 0) (pc := 1) dX6_accept_1 ki_0 ?_
  refine ev_aload_n (v := 0) (pc := 2) dX6_accept_2 rfl ?_
  refine ev_getr (q := 1) (pc := 3) dX6_accept_3 fl_RX6_22 rfl rfl ?_
  refine ev_iload_n (v := x0) (pc := 6) dX6_accept_6 rfl ?_
  refine ev_cVi1w (w' := [(5, t1.2), (14, pr), (13, pf)]) (pc := 7) dX6_accept_7 mv_X0_acceptFrom lk_RX6_95 rp_1 (ct0_X0_acceptFrom _ _ _ _ rfl e2) (Nat.le_of_ble_eq_true rfl) (Nat.le_of_ble_eq_true rfl) rfl ?_
  refine ev_cVi2w (w' := [(5, t1.2), (14, t3.2.1), (13, t3.2.2)]) (pc := 10) dX6_accept_10 mv_X6_keptFrom lk_RX6_79 rp_0 (ct_X6_keptFrom _ _ _ _ _ _ _ rfl rfl rfl e4) (Nat.le_of_ble_eq_true rfl) (Nat.le_of_ble_eq_true rfl) rfl ?_
  obtain rfl := Option.some.inj h
  exact ev_iret (pc := 13) dX6_accept_13 rfl rfl rfl (hfin _ _ _)
def XX6_twin (c0 : rb_Row) (pr : rb_Row) (pf : rb_Row) (x0 : Int32) : Option (Int32 × rb_Row × rb_Row × rb_Row) := (XX5_thingOf c0 x0).bind fun t1 => (XX5_freeHandle c0).bind fun t3 => if t1 < 0 then some ((-1), c0, pr, pf) else if 0 ≤ t3 then (XX5_giveName c0 t3 t1).bind fun t7 => (XX6_keptFrom pr pf t7 0 t3).bind fun t9 => some (t9.1, t7, t9.2.1, t9.2.2) else some ((-1), c0, pr, pf)
set_option maxHeartbeats 4000000 in
set_option maxRecDepth 20000 in
theorem ct_X6_twin (μ : rb_Mem) (c0 : rb_Row) (pr : rb_Row) (pf : rb_Row) (x0 : Int32) (o : Int32 × rb_Row × rb_Row × rb_Row) (hc0 : μ 5 = c0) (hpr : μ 14 = pr) (hpf : μ 13 = pf) (h : XX6_twin c0 pr pf x0 = some o) : rb_Ct yX6_twin cX6_twin 4 (some .int) 3 [.inr 0, .inl x0] μ (some o.1) (rb_ov μ [(5, o.2.1), (14, o.2.2.1), (13, o.2.2.2)]) := by
  unfold XX6_twin at h
  have hini : rb_ov μ [(5, c0), (14, pr), (13, pf)] = μ := rb_ov_sf _ _ (And.intro hc0 (And.intro hpr (And.intro hpf True.intro)))
  have hfin : ∀ u0 u1 u2 : rb_Row, rb_ov μ [(5, u0), (14, u1), (13, u2)] = rb_ov μ [(5, u0), (14, u1), (13, u2)] := fun u0 u1 u2 => rfl
  refine rb_cti (w := [(5, c0), (14, pr), (13, pf)]) rfl pn_6 (Nat.le_of_ble_eq_true rfl) rfl hini ?_
  obtain ⟨t1, e2, h⟩ := rb_bd h
  obtain ⟨t3, e4, h⟩ := rb_bd h
  refine ev_aload_n (v := 0) (pc := 0) dX6_twin_0 rfl ?_
  refine ev_getr (q := 1) (pc := 1) dX6_twin_1 fl_RX6_22 rfl rfl ?_
  refine ev_getr (q := 2) (pc := 4) dX6_twin_4 fl_RX6_65 rfl rfl ?_
  refine ev_iload_n (v := x0) (pc := 7) dX6_twin_7 rfl ?_
  refine ev_cVi1 (pc := 8) dX6_twin_8 mv_X5_thingOf lk_RX6_89 rp_2 (ct0_X5_thingOf _ _ _ _ rfl e2) (Nat.le_of_ble_eq_true rfl) (Nat.le_of_ble_eq_true rfl) ?_
  refine ev_istore_n (L' := [some (.inr 0), some (.inl x0), some (.inl t1), none]) (pc := 11) dX6_twin_11 (Nat.le_of_ble_eq_true rfl) rfl ?_
  refine ev_aload_n (v := 0) (pc := 12) dX6_twin_12 rfl ?_
  refine ev_getr (q := 1) (pc := 13) dX6_twin_13 fl_RX6_22 rfl rfl ?_
  refine ev_getr (q := 2) (pc := 16) dX6_twin_16 fl_RX6_65 rfl rfl ?_
  refine ev_cVi0 (pc := 19) dX6_twin_19 mv_X5_freeHandle lk_RX6_98 rp_2 (ct0_X5_freeHandle _ _ _ rfl e4) (Nat.le_of_ble_eq_true rfl) (Nat.le_of_ble_eq_true rfl) ?_
  refine ev_istore_n (L' := [some (.inr 0), some (.inl x0), some (.inl t1), some (.inl t3)]) (pc := 22) dX6_twin_22 (Nat.le_of_ble_eq_true rfl) rfl ?_
  refine ev_iload_n (v := t1) (pc := 23) dX6_twin_23 rfl ?_
  by_cases b5 : t1 < 0
  · rw [if_pos b5] at h
    refine ev_if_lt_t (t := 31) (pc := 24) dX6_twin_24 (by decide) b5 ?_
    refine ev_iconst (v := (-1)) (pc := 31) dX6_twin_31 ki_m1 ?_
    obtain rfl := Option.some.inj h
    exact ev_iret (pc := 32) dX6_twin_32 rfl rfl rfl (hfin _ _ _)
  · rw [if_neg b5] at h
    refine ev_if_lt_f (t := 31) (pc := 24) dX6_twin_24 (by decide) b5 ?_
    refine ev_iload_n (v := t3) (pc := 27) dX6_twin_27 rfl ?_
    by_cases b6 : 0 ≤ t3
    · rw [if_pos b6] at h
      refine ev_if_ge_t (t := 33) (pc := 28) dX6_twin_28 (by decide) b6 ?_
      obtain ⟨t7, e8, h⟩ := rb_bd h
      obtain ⟨t9, e10, h⟩ := rb_bd h
      refine ev_aload_n (v := 0) (pc := 33) dX6_twin_33 rfl ?_
      refine ev_getr (q := 1) (pc := 34) dX6_twin_34 fl_RX6_22 rfl rfl ?_
      refine ev_getr (q := 2) (pc := 37) dX6_twin_37 fl_RX6_65 rfl rfl ?_
      refine ev_iload_n (v := t3) (pc := 40) dX6_twin_40 rfl ?_
      refine ev_iload_n (v := t1) (pc := 41) dX6_twin_41 rfl ?_
      refine ev_cVv2w (w' := [(5, t7), (14, pr), (13, pf)]) (pc := 42) dX6_twin_42 mv_X5_giveName lk_RX6_102 rp_2 (ct0_X5_giveName _ _ _ _ _ rfl e8) (Nat.le_of_ble_eq_true rfl) (Nat.le_of_ble_eq_true rfl) rfl ?_
      refine ev_aload_n (v := 0) (pc := 45) dX6_twin_45 rfl ?_
      refine ev_iconst (v := 0) (pc := 46) dX6_twin_46 ki_0 ?_
      refine ev_iload_n (v := t3) (pc := 47) dX6_twin_47 rfl ?_
      refine ev_cVi2w (w' := [(5, t7), (14, t9.2.1), (13, t9.2.2)]) (pc := 48) dX6_twin_48 mv_X6_keptFrom lk_RX6_79 rp_0 (ct_X6_keptFrom _ _ _ _ _ _ _ rfl rfl rfl e10) (Nat.le_of_ble_eq_true rfl) (Nat.le_of_ble_eq_true rfl) rfl ?_
      obtain rfl := Option.some.inj h
      exact ev_iret (pc := 51) dX6_twin_51 rfl rfl rfl (hfin _ _ _)
    · rw [if_neg b6] at h
      refine ev_if_ge_f (t := 33) (pc := 28) dX6_twin_28 (by decide) b6 ?_
      refine ev_iconst (v := (-1)) (pc := 31) dX6_twin_31 ki_m1 ?_
      obtain rfl := Option.some.inj h
      exact ev_iret (pc := 32) dX6_twin_32 rfl rfl rfl (hfin _ _ _)
def XX6_close (c0 : rb_Row) (g0 : rb_Row) (f0 : rb_Row) (pr : rb_Row) (pf : rb_Row) (x0 : Int32) : Option (Int32 × rb_Row × rb_Row × rb_Row × rb_Row × rb_Row) := (XX0_closeHandle c0 g0 f0 x0).bind fun t1 => (XX6_keptIf pr pf t1.2.1 t1.1).bind fun t3 => some ((rb_nz t3.1), t1.2.1, t1.2.2.1, t1.2.2.2, t3.2.1, t3.2.2)
set_option maxHeartbeats 4000000 in
set_option maxRecDepth 20000 in
theorem ct_X6_close (μ : rb_Mem) (c0 : rb_Row) (g0 : rb_Row) (f0 : rb_Row) (pr : rb_Row) (pf : rb_Row) (x0 : Int32) (o : Int32 × rb_Row × rb_Row × rb_Row × rb_Row × rb_Row) (hc0 : μ 5 = c0) (hg0 : μ 6 = g0) (hf0 : μ 1 = f0) (hpr : μ 14 = pr) (hpf : μ 13 = pf) (h : XX6_close c0 g0 f0 pr pf x0 = some o) : rb_Ct yX6_close cX6_close 2 (some .boolean) 16 [.inr 0, .inl x0] μ (some o.1) (rb_ov μ [(5, o.2.1), (6, o.2.2.1), (1, o.2.2.2.1), (14, o.2.2.2.2.1), (13, o.2.2.2.2.2)]) := by
  unfold XX6_close at h
  have hini : rb_ov μ [(5, c0), (6, g0), (1, f0), (14, pr), (13, pf)] = μ := rb_ov_sf _ _ (And.intro hc0 (And.intro hg0 (And.intro hf0 (And.intro hpr (And.intro hpf True.intro)))))
  have hfin : ∀ u0 u1 u2 u3 u4 : rb_Row, rb_ov μ [(5, u0), (6, u1), (1, u2), (14, u3), (13, u4)] = rb_ov μ [(5, u0), (6, u1), (1, u2), (14, u3), (13, u4)] := fun u0 u1 u2 u3 u4 => rfl
  refine rb_ctz (w := [(5, c0), (6, g0), (1, f0), (14, pr), (13, pf)]) rfl pn_6 (Nat.le_of_ble_eq_true rfl) rfl hini ?_
  obtain ⟨t1, e2, h⟩ := rb_bd h
  obtain ⟨t3, e4, h⟩ := rb_bd h
  refine ev_aload_n (v := 0) (pc := 0) dX6_close_0 rfl ?_
  refine ev_aload_n (v := 0) (pc := 1) dX6_close_1 rfl ?_
  refine ev_getr (q := 1) (pc := 2) dX6_close_2 fl_RX6_22 rfl rfl ?_
  refine ev_iload_n (v := x0) (pc := 5) dX6_close_5 rfl ?_
  refine ev_cVi1w (w' := [(5, t1.2.1), (6, t1.2.2.1), (1, t1.2.2.2), (14, pr), (13, pf)]) (pc := 6) dX6_close_6 mv_X0_closeHandle lk_RX6_106 rp_1 (ct0_X0_closeHandle _ _ _ _ _ _ rfl rfl rfl e2) (Nat.le_of_ble_eq_true rfl) (Nat.le_of_ble_eq_true rfl) rfl ?_
  refine ev_cVi1w (w' := [(5, t1.2.1), (6, t1.2.2.1), (1, t1.2.2.2), (14, t3.2.1), (13, t3.2.2)]) (pc := 9) dX6_close_9 mv_X6_keptIf lk_RX6_110 rp_0 (ct_X6_keptIf _ _ _ _ _ _ rfl rfl rfl e4) (Nat.le_of_ble_eq_true rfl) (Nat.le_of_ble_eq_true rfl) rfl ?_
  obtain rfl := Option.some.inj h
  exact ev_iret (pc := 12) dX6_close_12 rfl rfl rfl (hfin _ _ _ _ _)
def XX6_write (c0 : rb_Row) (g0 : rb_Row) (f0 : rb_Row) (pr : rb_Row) (pf : rb_Row) (x0 : Int32) (x1 : Int32) : Option (Int32 × rb_Row × rb_Row × rb_Row × rb_Row × rb_Row) := (XX0_writeTo c0 g0 f0 x0 x1).bind fun t1 => (XX6_keptFrom pr pf t1.2.1 1 t1.1).bind fun t3 => some (t3.1, t1.2.1, t1.2.2.1, t1.2.2.2, t3.2.1, t3.2.2)
set_option maxHeartbeats 4000000 in
set_option maxRecDepth 20000 in
theorem ct_X6_write (μ : rb_Mem) (c0 : rb_Row) (g0 : rb_Row) (f0 : rb_Row) (pr : rb_Row) (pf : rb_Row) (x0 : Int32) (x1 : Int32) (o : Int32 × rb_Row × rb_Row × rb_Row × rb_Row × rb_Row) (hc0 : μ 5 = c0) (hg0 : μ 6 = g0) (hf0 : μ 1 = f0) (hpr : μ 14 = pr) (hpf : μ 13 = pf) (h : XX6_write c0 g0 f0 pr pf x0 x1 = some o) : rb_Ct yX6_write cX6_write 3 (some .int) 16 [.inr 0, .inl x0, .inl x1] μ (some o.1) (rb_ov μ [(5, o.2.1), (6, o.2.2.1), (1, o.2.2.2.1), (14, o.2.2.2.2.1), (13, o.2.2.2.2.2)]) := by
  unfold XX6_write at h
  have hini : rb_ov μ [(5, c0), (6, g0), (1, f0), (14, pr), (13, pf)] = μ := rb_ov_sf _ _ (And.intro hc0 (And.intro hg0 (And.intro hf0 (And.intro hpr (And.intro hpf True.intro)))))
  have hfin : ∀ u0 u1 u2 u3 u4 : rb_Row, rb_ov μ [(5, u0), (6, u1), (1, u2), (14, u3), (13, u4)] = rb_ov μ [(5, u0), (6, u1), (1, u2), (14, u3), (13, u4)] := fun u0 u1 u2 u3 u4 => rfl
  refine rb_cti (w := [(5, c0), (6, g0), (1, f0), (14, pr), (13, pf)]) rfl pn_6 (Nat.le_of_ble_eq_true rfl) rfl hini ?_
  obtain ⟨t1, e2, h⟩ := rb_bd h
  obtain ⟨t3, e4, h⟩ := rb_bd h
  refine ev_aload_n (v := 0) (pc := 0) dX6_write_0 rfl ?_
  refine ev_iconst (v := 1) (pc := 1) dX6_write_1 ki_1 ?_
  refine ev_aload_n (v := 0) (pc := 2) dX6_write_2 rfl ?_
  refine ev_getr (q := 1) (pc := 3) dX6_write_3 fl_RX6_22 rfl rfl ?_
  refine ev_iload_n (v := x0) (pc := 6) dX6_write_6 rfl ?_
  refine ev_iload_n (v := x1) (pc := 7) dX6_write_7 rfl ?_
  refine ev_cVi2w (w' := [(5, t1.2.1), (6, t1.2.2.1), (1, t1.2.2.2), (14, pr), (13, pf)]) (pc := 8) dX6_write_8 mv_X0_writeTo lk_RX6_114 rp_1 (ct0_X0_writeTo _ _ _ _ _ _ _ rfl rfl rfl e2) (Nat.le_of_ble_eq_true rfl) (Nat.le_of_ble_eq_true rfl) rfl ?_
  refine ev_cVi2w (w' := [(5, t1.2.1), (6, t1.2.2.1), (1, t1.2.2.2), (14, t3.2.1), (13, t3.2.2)]) (pc := 11) dX6_write_11 mv_X6_keptFrom lk_RX6_79 rp_0 (ct_X6_keptFrom _ _ _ _ _ _ _ rfl rfl rfl e4) (Nat.le_of_ble_eq_true rfl) (Nat.le_of_ble_eq_true rfl) rfl ?_
  obtain rfl := Option.some.inj h
  exact ev_iret (pc := 14) dX6_write_14 rfl rfl rfl (hfin _ _ _ _ _)
def XX6_read (c0 : rb_Row) (g0 : rb_Row) (f0 : rb_Row) (pr : rb_Row) (pf : rb_Row) (x0 : Int32) (x1 : Int32) : Option (Int32 × rb_Row × rb_Row × rb_Row × rb_Row × rb_Row) := (XX0_readFrom c0 g0 f0 x0 x1).bind fun t1 => (XX6_keptFrom pr pf t1.2.1 1 t1.1).bind fun t3 => some (t3.1, t1.2.1, t1.2.2.1, t1.2.2.2, t3.2.1, t3.2.2)
set_option maxHeartbeats 4000000 in
set_option maxRecDepth 20000 in
theorem ct_X6_read (μ : rb_Mem) (c0 : rb_Row) (g0 : rb_Row) (f0 : rb_Row) (pr : rb_Row) (pf : rb_Row) (x0 : Int32) (x1 : Int32) (o : Int32 × rb_Row × rb_Row × rb_Row × rb_Row × rb_Row) (hc0 : μ 5 = c0) (hg0 : μ 6 = g0) (hf0 : μ 1 = f0) (hpr : μ 14 = pr) (hpf : μ 13 = pf) (h : XX6_read c0 g0 f0 pr pf x0 x1 = some o) : rb_Ct yX6_read cX6_read 3 (some .int) 16 [.inr 0, .inl x0, .inl x1] μ (some o.1) (rb_ov μ [(5, o.2.1), (6, o.2.2.1), (1, o.2.2.2.1), (14, o.2.2.2.2.1), (13, o.2.2.2.2.2)]) := by
  unfold XX6_read at h
  have hini : rb_ov μ [(5, c0), (6, g0), (1, f0), (14, pr), (13, pf)] = μ := rb_ov_sf _ _ (And.intro hc0 (And.intro hg0 (And.intro hf0 (And.intro hpr (And.intro hpf True.intro)))))
  have hfin : ∀ u0 u1 u2 u3 u4 : rb_Row, rb_ov μ [(5, u0), (6, u1), (1, u2), (14, u3), (13, u4)] = rb_ov μ [(5, u0), (6, u1), (1, u2), (14, u3), (13, u4)] := fun u0 u1 u2 u3 u4 => rfl
  refine rb_cti (w := [(5, c0), (6, g0), (1, f0), (14, pr), (13, pf)]) rfl pn_6 (Nat.le_of_ble_eq_true rfl) rfl hini ?_
  obtain ⟨t1, e2, h⟩ := rb_bd h
  obtain ⟨t3, e4, h⟩ := rb_bd h
  refine ev_aload_n (v := 0) (pc := 0) dX6_read_0 rfl ?_
  refine ev_iconst (v := 1) (pc := 1) dX6_read_1 ki_1 ?_
  refine ev_aload_n (v := 0) (pc := 2) dX6_read_2 rfl ?_
  refine ev_getr (q := 1) (pc := 3) dX6_read_3 fl_RX6_22 rfl rfl ?_
  refine ev_iload_n (v := x0) (pc := 6) dX6_read_6 rfl ?_
  refine ev_iload_n (v := x1) (pc := 7) dX6_read_7 rfl ?_
  refine ev_cVi2w (w' := [(5, t1.2.1), (6, t1.2.2.1), (1, t1.2.2.2), (14, pr), (13, pf)]) (pc := 8) dX6_read_8 mv_X0_readFrom lk_RX6_117 rp_1 (ct0_X0_readFrom _ _ _ _ _ _ _ rfl rfl rfl e2) (Nat.le_of_ble_eq_true rfl) (Nat.le_of_ble_eq_true rfl) rfl ?_
  refine ev_cVi2w (w' := [(5, t1.2.1), (6, t1.2.2.1), (1, t1.2.2.2), (14, t3.2.1), (13, t3.2.2)]) (pc := 11) dX6_read_11 mv_X6_keptFrom lk_RX6_79 rp_0 (ct_X6_keptFrom _ _ _ _ _ _ _ rfl rfl rfl e4) (Nat.le_of_ble_eq_true rfl) (Nat.le_of_ble_eq_true rfl) rfl ?_
  obtain rfl := Option.some.inj h
  exact ev_iret (pc := 14) dX6_read_14 rfl rfl rfl (hfin _ _ _ _ _)
def XX6_arm (c0 : rb_Row) (pr : rb_Row) (pf : rb_Row) (x0 : Int32) (x1 : Int32) (x2 : Int32) : Option (Int32 × rb_Row × rb_Row × rb_Row) := (XX0_armTimer c0 x0 x1 x2).bind fun t1 => (XX6_keptIf pr pf t1.2 t1.1).bind fun t3 => some ((rb_nz t3.1), t1.2, t3.2.1, t3.2.2)
set_option maxHeartbeats 4000000 in
set_option maxRecDepth 20000 in
theorem ct_X6_arm (μ : rb_Mem) (c0 : rb_Row) (pr : rb_Row) (pf : rb_Row) (x0 : Int32) (x1 : Int32) (x2 : Int32) (o : Int32 × rb_Row × rb_Row × rb_Row) (hc0 : μ 5 = c0) (hpr : μ 14 = pr) (hpf : μ 13 = pf) (h : XX6_arm c0 pr pf x0 x1 x2 = some o) : rb_Ct yX6_arm cX6_arm 4 (some .boolean) 3 [.inr 0, .inl x0, .inl x1, .inl x2] μ (some o.1) (rb_ov μ [(5, o.2.1), (14, o.2.2.1), (13, o.2.2.2)]) := by
  unfold XX6_arm at h
  have hini : rb_ov μ [(5, c0), (14, pr), (13, pf)] = μ := rb_ov_sf _ _ (And.intro hc0 (And.intro hpr (And.intro hpf True.intro)))
  have hfin : ∀ u0 u1 u2 : rb_Row, rb_ov μ [(5, u0), (14, u1), (13, u2)] = rb_ov μ [(5, u0), (14, u1), (13, u2)] := fun u0 u1 u2 => rfl
  refine rb_ctz (w := [(5, c0), (14, pr), (13, pf)]) rfl pn_6 (Nat.le_of_ble_eq_true rfl) rfl hini ?_
  obtain ⟨t1, e2, h⟩ := rb_bd h
  obtain ⟨t3, e4, h⟩ := rb_bd h
  refine ev_aload_n (v := 0) (pc := 0) dX6_arm_0 rfl ?_
  refine ev_aload_n (v := 0) (pc := 1) dX6_arm_1 rfl ?_
  refine ev_getr (q := 1) (pc := 2) dX6_arm_2 fl_RX6_22 rfl rfl ?_
  refine ev_iload_n (v := x0) (pc := 5) dX6_arm_5 rfl ?_
  refine ev_iload_n (v := x1) (pc := 6) dX6_arm_6 rfl ?_
  refine ev_iload_n (v := x2) (pc := 7) dX6_arm_7 rfl ?_
  refine ev_cVi3w (w' := [(5, t1.2), (14, pr), (13, pf)]) (pc := 8) dX6_arm_8 mv_X0_armTimer lk_RX6_120 rp_1 (ct0_X0_armTimer _ _ _ _ _ _ rfl e2) (Nat.le_of_ble_eq_true rfl) (Nat.le_of_ble_eq_true rfl) rfl ?_
  refine ev_cVi1w (w' := [(5, t1.2), (14, t3.2.1), (13, t3.2.2)]) (pc := 11) dX6_arm_11 mv_X6_keptIf lk_RX6_110 rp_0 (ct_X6_keptIf _ _ _ _ _ _ rfl rfl rfl e4) (Nat.le_of_ble_eq_true rfl) (Nat.le_of_ble_eq_true rfl) rfl ?_
  obtain rfl := Option.some.inj h
  exact ev_iret (pc := 14) dX6_arm_14 rfl rfl rfl (hfin _ _ _)
def XX6_tick (c0 : rb_Row) (g0 : rb_Row) (f0 : rb_Row) (pr : rb_Row) (pf : rb_Row) (x0 : Int32) : Option (Int32 × rb_Row × rb_Row × rb_Row × rb_Row × rb_Row) := (XX6_between x0 1 100).bind fun t1 => if t1 = 0 then some ((-1), c0, g0, f0, pr, pf) else (rb_rd c0 773 0).bind fun v4 => if (v4 + x0) ≤ 100000 then (rb_lp (ρ := rb_Row × rb_Row × rb_Row) (fun (s7 : Int32 × rb_Row × rb_Row × rb_Row) => if x0 ≤ s7.1 then some (.inr (s7.2.1, s7.2.2.1, s7.2.2.2)) else (XX0_passTime s7.2.1 s7.2.2.1 s7.2.2.2).bind fun t16 => some (.inl ((s7.1 + 1), t16.1, t16.2.1, t16.2.2))) 100000 (0, c0, g0, f0)).bind fun q8 => (rb_rd q8.1 773 0).bind fun v18 => (XX6_keptFrom pr pf q8.1 0 v18).bind fun t20 => some (t20.1, q8.1, q8.2.1, q8.2.2, t20.2.1, t20.2.2) else some ((-1), c0, g0, f0, pr, pf)
set_option maxHeartbeats 4000000 in
set_option maxRecDepth 20000 in
theorem ct_X6_tick (μ : rb_Mem) (c0 : rb_Row) (g0 : rb_Row) (f0 : rb_Row) (pr : rb_Row) (pf : rb_Row) (x0 : Int32) (o : Int32 × rb_Row × rb_Row × rb_Row × rb_Row × rb_Row) (hc0 : μ 5 = c0) (hg0 : μ 6 = g0) (hf0 : μ 1 = f0) (hpr : μ 14 = pr) (hpf : μ 13 = pf) (h : XX6_tick c0 g0 f0 pr pf x0 = some o) : rb_Ct yX6_tick cX6_tick 3 (some .int) 16 [.inr 0, .inl x0] μ (some o.1) (rb_ov μ [(5, o.2.1), (6, o.2.2.1), (1, o.2.2.2.1), (14, o.2.2.2.2.1), (13, o.2.2.2.2.2)]) := by
  unfold XX6_tick at h
  have hini : rb_ov μ [(5, c0), (6, g0), (1, f0), (14, pr), (13, pf)] = μ := rb_ov_sf _ _ (And.intro hc0 (And.intro hg0 (And.intro hf0 (And.intro hpr (And.intro hpf True.intro)))))
  have hfin : ∀ u0 u1 u2 u3 u4 : rb_Row, rb_ov μ [(5, u0), (6, u1), (1, u2), (14, u3), (13, u4)] = rb_ov μ [(5, u0), (6, u1), (1, u2), (14, u3), (13, u4)] := fun u0 u1 u2 u3 u4 => rfl
  refine rb_cti (w := [(5, c0), (6, g0), (1, f0), (14, pr), (13, pf)]) rfl pn_6 (Nat.le_of_ble_eq_true rfl) rfl hini ?_
  obtain ⟨t1, e2, h⟩ := rb_bd h
  refine ev_iload_n (v := x0) (pc := 0) dX6_tick_0 rfl ?_
  refine ev_iconst (v := 1) (pc := 1) dX6_tick_1 ki_1 ?_
  refine ev_bipush (v := 100) (pc := 2) dX6_tick_2 kb_100 ?_
  refine ev_cSi3 (pc := 4) dX6_tick_4 ms_X6_between lk_RX6_82 (ct_X6_between _ _ _ _ _ e2) (Nat.le_of_ble_eq_true rfl) (Nat.le_of_ble_eq_true rfl) ?_
  by_cases b3 : t1 = 0
  · rw [if_pos b3] at h
    refine ev_if_eq_t (t := 23) (pc := 7) dX6_tick_7 (by decide) b3 ?_
    refine ev_iconst (v := (-1)) (pc := 23) dX6_tick_23 ki_m1 ?_
    obtain rfl := Option.some.inj h
    exact ev_iret (pc := 24) dX6_tick_24 rfl rfl rfl (hfin _ _ _ _ _)
  · rw [if_neg b3] at h
    refine ev_if_eq_f (t := 23) (pc := 7) dX6_tick_7 (by decide) b3 ?_
    obtain ⟨v4, e5, h⟩ := rb_bd h
    refine ev_aload_n (v := 0) (pc := 10) dX6_tick_10 rfl ?_
    refine ev_getr (q := 5) (pc := 11) dX6_tick_11 fl_RX6_13 rfl rfl ?_
    refine ev_iconst (v := 0) (pc := 14) dX6_tick_14 ki_0 ?_
    refine ev_iald (pc := 15) dX6_tick_15 rfl e5 ?_
    refine ev_iload_n (v := x0) (pc := 16) dX6_tick_16 rfl ?_
    refine ev_iadd (pc := 17) dX6_tick_17 ?_
    refine ev_ldc (v := 100000) (pc := 18) dX6_tick_18 kc_RX6_123 ?_
    by_cases b6 : (v4 + x0) ≤ 100000
    · rw [if_pos b6] at h
      refine ev_icmp_le_t (t := 25) (pc := 20) dX6_tick_20 (by decide) b6 ?_
      refine ev_iconst (v := 0) (pc := 25) dX6_tick_25 ki_0 ?_
      refine ev_istore_n (L' := [some (.inr 0), some (.inl x0), some (.inl 0)]) (pc := 26) dX6_tick_26 (Nat.le_of_ble_eq_true rfl) rfl ?_
      obtain ⟨q8, l9, h⟩ := rb_bd h
      have hx13 : rb_Ev RX6 cX6_tick 3 (some .int) none 16 (some o.1) (rb_ov μ [(5, o.2.1), (6, o.2.2.1), (1, o.2.2.2.1), (14, o.2.2.2.2.1), (13, o.2.2.2.2.2)]) 45 [some (.inr 0), none, none] [] (rb_ov μ [(5, q8.1), (6, q8.2.1), (1, q8.2.2), (14, pr), (13, pf)]) := by
        obtain ⟨v18, e19, h⟩ := rb_bd h
        obtain ⟨t20, e21, h⟩ := rb_bd h
        refine ev_aload_n (v := 0) (pc := 45) dX6_tick_45 rfl ?_
        refine ev_iconst (v := 0) (pc := 46) dX6_tick_46 ki_0 ?_
        refine ev_aload_n (v := 0) (pc := 47) dX6_tick_47 rfl ?_
        refine ev_getr (q := 5) (pc := 48) dX6_tick_48 fl_RX6_13 rfl rfl ?_
        refine ev_iconst (v := 0) (pc := 51) dX6_tick_51 ki_0 ?_
        refine ev_iald (pc := 52) dX6_tick_52 rfl e19 ?_
        refine ev_cVi2w (w' := [(5, q8.1), (6, q8.2.1), (1, q8.2.2), (14, t20.2.1), (13, t20.2.2)]) (pc := 53) dX6_tick_53 mv_X6_keptFrom lk_RX6_79 rp_0 (ct_X6_keptFrom _ _ _ _ _ _ _ rfl rfl rfl e21) (Nat.le_of_ble_eq_true rfl) (Nat.le_of_ble_eq_true rfl) rfl ?_
        obtain rfl := Option.some.inj h
        exact ev_iret (pc := 56) dX6_tick_56 rfl rfl rfl (hfin _ _ _ _ _)
      refine rb_lp_ev (P := fun (s7 : Int32 × rb_Row × rb_Row × rb_Row) => rb_Ev RX6 cX6_tick 3 (some .int) none 16 (some o.1) (rb_ov μ [(5, o.2.1), (6, o.2.2.1), (1, o.2.2.2.1), (14, o.2.2.2.2.1), (13, o.2.2.2.2.2)]) 27 [some (.inr 0), some (.inl x0), some (.inl s7.1)] [] (rb_ov μ [(5, s7.2.1), (6, s7.2.2.1), (1, s7.2.2.2), (14, pr), (13, pf)])) ?_ 100000 (0, c0, g0, f0) l9
      intro s7 y10 h ih11 hE12
      refine ev_iload_n (v := s7.1) (pc := 27) dX6_tick_27 rfl ?_
      refine ev_iload_n (v := x0) (pc := 28) dX6_tick_28 rfl ?_
      by_cases b15 : x0 ≤ s7.1
      · rw [if_pos b15] at h
        refine ev_icmp_ge_t (t := 45) (pc := 29) dX6_tick_29 (by decide) b15 ?_
        obtain rfl := Option.some.inj h
        obtain rfl := hE12 _ rfl
        exact ev_fg (L := [some (.inr 0), none, none]) (And.intro rfl True.intro) (hx13)
      · rw [if_neg b15] at h
        refine ev_icmp_ge_f (t := 45) (pc := 29) dX6_tick_29 (by decide) b15 ?_
        obtain ⟨t16, e17, h⟩ := rb_bd h
        refine ev_aload_n (v := 0) (pc := 32) dX6_tick_32 rfl ?_
        refine ev_getr (q := 1) (pc := 33) dX6_tick_33 fl_RX6_22 rfl rfl ?_
        refine ev_cVv0w (w' := [(5, t16.1), (6, t16.2.1), (1, t16.2.2), (14, pr), (13, pf)]) (pc := 36) dX6_tick_36 mv_X0_passTime lk_RX6_124 rp_1 (ct0_X0_passTime _ _ _ _ _ rfl rfl rfl e17) (Nat.le_of_ble_eq_true rfl) (Nat.le_of_ble_eq_true rfl) rfl ?_
        refine ev_iinc (x := s7.1) (v := (s7.1 + 1)) (L' := [some (.inr 0), some (.inl x0), some (.inl (s7.1 + 1))]) (pc := 39) dX6_tick_39 rfl (kx_1 _) (Nat.le_of_ble_eq_true rfl) rfl ?_
        refine ev_goto (t := 27) (pc := 42) dX6_tick_42 (by decide) ?_
        obtain rfl := Option.some.inj h
        exact ih11 ((s7.1 + 1), t16.1, t16.2.1, t16.2.2) rfl
    · rw [if_neg b6] at h
      refine ev_icmp_le_f (t := 25) (pc := 20) dX6_tick_20 (by decide) b6 ?_
      refine ev_iconst (v := (-1)) (pc := 23) dX6_tick_23 ki_m1 ?_
      obtain rfl := Option.some.inj h
      exact ev_iret (pc := 24) dX6_tick_24 rfl rfl rfl (hfin _ _ _ _ _)
def XX6_add (c0 : rb_Row) (g0 : rb_Row) (f0 : rb_Row) (pr : rb_Row) (pf : rb_Row) (x0 : Int32) (x1 : Int32) (x2 : Int32) (x3 : Int32) : Option (Int32 × rb_Row × rb_Row × rb_Row × rb_Row × rb_Row) := (XX0_addInterest c0 g0 f0 x0 x1 x2 x3).bind fun t1 => (XX6_keptFrom pr pf t1.2.1 1 t1.1).bind fun t3 => some (t3.1, t1.2.1, t1.2.2.1, t1.2.2.2, t3.2.1, t3.2.2)
set_option maxHeartbeats 4000000 in
set_option maxRecDepth 20000 in
theorem ct_X6_add (μ : rb_Mem) (c0 : rb_Row) (g0 : rb_Row) (f0 : rb_Row) (pr : rb_Row) (pf : rb_Row) (x0 : Int32) (x1 : Int32) (x2 : Int32) (x3 : Int32) (o : Int32 × rb_Row × rb_Row × rb_Row × rb_Row × rb_Row) (hc0 : μ 5 = c0) (hg0 : μ 6 = g0) (hf0 : μ 1 = f0) (hpr : μ 14 = pr) (hpf : μ 13 = pf) (h : XX6_add c0 g0 f0 pr pf x0 x1 x2 x3 = some o) : rb_Ct yX6_add cX6_add 5 (some .int) 17 [.inr 0, .inl x0, .inl x1, .inl x2, .inl x3] μ (some o.1) (rb_ov μ [(5, o.2.1), (6, o.2.2.1), (1, o.2.2.2.1), (14, o.2.2.2.2.1), (13, o.2.2.2.2.2)]) := by
  unfold XX6_add at h
  have hini : rb_ov μ [(5, c0), (6, g0), (1, f0), (14, pr), (13, pf)] = μ := rb_ov_sf _ _ (And.intro hc0 (And.intro hg0 (And.intro hf0 (And.intro hpr (And.intro hpf True.intro)))))
  have hfin : ∀ u0 u1 u2 u3 u4 : rb_Row, rb_ov μ [(5, u0), (6, u1), (1, u2), (14, u3), (13, u4)] = rb_ov μ [(5, u0), (6, u1), (1, u2), (14, u3), (13, u4)] := fun u0 u1 u2 u3 u4 => rfl
  refine rb_cti (w := [(5, c0), (6, g0), (1, f0), (14, pr), (13, pf)]) rfl pn_6 (Nat.le_of_ble_eq_true rfl) rfl hini ?_
  obtain ⟨t1, e2, h⟩ := rb_bd h
  obtain ⟨t3, e4, h⟩ := rb_bd h
  refine ev_aload_n (v := 0) (pc := 0) dX6_add_0 rfl ?_
  refine ev_iconst (v := 1) (pc := 1) dX6_add_1 ki_1 ?_
  refine ev_aload_n (v := 0) (pc := 2) dX6_add_2 rfl ?_
  refine ev_getr (q := 1) (pc := 3) dX6_add_3 fl_RX6_22 rfl rfl ?_
  refine ev_iload_n (v := x0) (pc := 6) dX6_add_6 rfl ?_
  refine ev_iload_n (v := x1) (pc := 7) dX6_add_7 rfl ?_
  refine ev_iload_n (v := x2) (pc := 8) dX6_add_8 rfl ?_
  refine ev_iload (v := x3) (pc := 9) dX6_add_9 rfl ?_
  refine ev_cVi4w (w' := [(5, t1.2.1), (6, t1.2.2.1), (1, t1.2.2.2), (14, pr), (13, pf)]) (pc := 11) dX6_add_11 mv_X0_addInterest lk_RX6_127 rp_1 (ct0_X0_addInterest _ _ _ _ _ _ _ _ _ rfl rfl rfl e2) (Nat.le_of_ble_eq_true rfl) (Nat.le_of_ble_eq_true rfl) rfl ?_
  refine ev_cVi2w (w' := [(5, t1.2.1), (6, t1.2.2.1), (1, t1.2.2.2), (14, t3.2.1), (13, t3.2.2)]) (pc := 14) dX6_add_14 mv_X6_keptFrom lk_RX6_79 rp_0 (ct_X6_keptFrom _ _ _ _ _ _ _ rfl rfl rfl e4) (Nat.le_of_ble_eq_true rfl) (Nat.le_of_ble_eq_true rfl) rfl ?_
  obtain rfl := Option.some.inj h
  exact ev_iret (pc := 17) dX6_add_17 rfl rfl rfl (hfin _ _ _ _ _)
def XX6_change (c0 : rb_Row) (g0 : rb_Row) (f0 : rb_Row) (pr : rb_Row) (pf : rb_Row) (x0 : Int32) (x1 : Int32) (x2 : Int32) (x3 : Int32) : Option (Int32 × rb_Row × rb_Row × rb_Row × rb_Row × rb_Row) := (XX0_findInterest c0 x0 x1).bind fun t1 => if t1 < 0 then some ((rb_nz 0), c0, g0, f0, pr, pf) else (XX6_between x2 0 3).bind fun t4 => if t4 = 0 then some ((rb_nz 0), c0, g0, f0, pr, pf) else (XX6_between x3 0 7).bind fun t7 => if t7 = 0 then some ((rb_nz 0), c0, g0, f0, pr, pf) else (rb_wr c0 773 (371 + t1) x2).bind fun c010 => (rb_wr c010 773 (395 + t1) x3).bind fun c012 => (XX0_armInterest c012 g0 f0 t1).bind fun t14 => (XX6_keptIf pr pf t14.2.1 t14.1).bind fun t16 => some ((rb_nz t16.1), t14.2.1, t14.2.2.1, t14.2.2.2, t16.2.1, t16.2.2)
set_option maxHeartbeats 4000000 in
set_option maxRecDepth 20000 in
theorem ct_X6_change (μ : rb_Mem) (c0 : rb_Row) (g0 : rb_Row) (f0 : rb_Row) (pr : rb_Row) (pf : rb_Row) (x0 : Int32) (x1 : Int32) (x2 : Int32) (x3 : Int32) (o : Int32 × rb_Row × rb_Row × rb_Row × rb_Row × rb_Row) (hc0 : μ 5 = c0) (hg0 : μ 6 = g0) (hf0 : μ 1 = f0) (hpr : μ 14 = pr) (hpf : μ 13 = pf) (h : XX6_change c0 g0 f0 pr pf x0 x1 x2 x3 = some o) : rb_Ct yX6_change cX6_change 6 (some .boolean) 16 [.inr 0, .inl x0, .inl x1, .inl x2, .inl x3] μ (some o.1) (rb_ov μ [(5, o.2.1), (6, o.2.2.1), (1, o.2.2.2.1), (14, o.2.2.2.2.1), (13, o.2.2.2.2.2)]) := by
  unfold XX6_change at h
  have hini : rb_ov μ [(5, c0), (6, g0), (1, f0), (14, pr), (13, pf)] = μ := rb_ov_sf _ _ (And.intro hc0 (And.intro hg0 (And.intro hf0 (And.intro hpr (And.intro hpf True.intro)))))
  have hfin : ∀ u0 u1 u2 u3 u4 : rb_Row, rb_ov μ [(5, u0), (6, u1), (1, u2), (14, u3), (13, u4)] = rb_ov μ [(5, u0), (6, u1), (1, u2), (14, u3), (13, u4)] := fun u0 u1 u2 u3 u4 => rfl
  refine rb_ctz (w := [(5, c0), (6, g0), (1, f0), (14, pr), (13, pf)]) rfl pn_6 (Nat.le_of_ble_eq_true rfl) rfl hini ?_
  obtain ⟨t1, e2, h⟩ := rb_bd h
  refine ev_aload_n (v := 0) (pc := 0) dX6_change_0 rfl ?_
  refine ev_getr (q := 1) (pc := 1) dX6_change_1 fl_RX6_22 rfl rfl ?_
  refine ev_iload_n (v := x0) (pc := 4) dX6_change_4 rfl ?_
  refine ev_iload_n (v := x1) (pc := 5) dX6_change_5 rfl ?_
  refine ev_cVi2 (pc := 6) dX6_change_6 mv_X0_findInterest lk_RX6_131 rp_1 (ct0_X0_findInterest _ _ _ _ _ rfl e2) (Nat.le_of_ble_eq_true rfl) (Nat.le_of_ble_eq_true rfl) ?_
  refine ev_istore (L' := [some (.inr 0), some (.inl x0), some (.inl x1), some (.inl x2), some (.inl x3), some (.inl t1)]) (pc := 9) dX6_change_9 (Nat.le_of_ble_eq_true rfl) rfl ?_
  refine ev_iload (v := t1) (pc := 11) dX6_change_11 rfl ?_
  by_cases b3 : t1 < 0
  · rw [if_pos b3] at h
    refine ev_if_lt_t (t := 36) (pc := 13) dX6_change_13 (by decide) b3 ?_
    refine ev_iconst (v := 0) (pc := 36) dX6_change_36 ki_0 ?_
    obtain rfl := Option.some.inj h
    exact ev_iret (pc := 37) dX6_change_37 rfl rfl rfl (hfin _ _ _ _ _)
  · rw [if_neg b3] at h
    refine ev_if_lt_f (t := 36) (pc := 13) dX6_change_13 (by decide) b3 ?_
    obtain ⟨t4, e5, h⟩ := rb_bd h
    refine ev_iload_n (v := x2) (pc := 16) dX6_change_16 rfl ?_
    refine ev_iconst (v := 0) (pc := 17) dX6_change_17 ki_0 ?_
    refine ev_iconst (v := 3) (pc := 18) dX6_change_18 ki_3 ?_
    refine ev_cSi3 (pc := 19) dX6_change_19 ms_X6_between lk_RX6_82 (ct_X6_between _ _ _ _ _ e5) (Nat.le_of_ble_eq_true rfl) (Nat.le_of_ble_eq_true rfl) ?_
    by_cases b6 : t4 = 0
    · rw [if_pos b6] at h
      refine ev_if_eq_t (t := 36) (pc := 22) dX6_change_22 (by decide) b6 ?_
      refine ev_iconst (v := 0) (pc := 36) dX6_change_36 ki_0 ?_
      obtain rfl := Option.some.inj h
      exact ev_iret (pc := 37) dX6_change_37 rfl rfl rfl (hfin _ _ _ _ _)
    · rw [if_neg b6] at h
      refine ev_if_eq_f (t := 36) (pc := 22) dX6_change_22 (by decide) b6 ?_
      obtain ⟨t7, e8, h⟩ := rb_bd h
      refine ev_iload (v := x3) (pc := 25) dX6_change_25 rfl ?_
      refine ev_iconst (v := 0) (pc := 27) dX6_change_27 ki_0 ?_
      refine ev_bipush (v := 7) (pc := 28) dX6_change_28 kb_7 ?_
      refine ev_cSi3 (pc := 30) dX6_change_30 ms_X6_between lk_RX6_82 (ct_X6_between _ _ _ _ _ e8) (Nat.le_of_ble_eq_true rfl) (Nat.le_of_ble_eq_true rfl) ?_
      by_cases b9 : t7 = 0
      · rw [if_pos b9] at h
        refine ev_if_ne_f (t := 38) (pc := 33) dX6_change_33 (by decide) b9 ?_
        refine ev_iconst (v := 0) (pc := 36) dX6_change_36 ki_0 ?_
        obtain rfl := Option.some.inj h
        exact ev_iret (pc := 37) dX6_change_37 rfl rfl rfl (hfin _ _ _ _ _)
      · rw [if_neg b9] at h
        refine ev_if_ne_t (t := 38) (pc := 33) dX6_change_33 (by decide) b9 ?_
        obtain ⟨c010, e11, h⟩ := rb_bd h
        obtain ⟨c012, e13, h⟩ := rb_bd h
        obtain ⟨t14, e15, h⟩ := rb_bd h
        obtain ⟨t16, e17, h⟩ := rb_bd h
        refine ev_aload_n (v := 0) (pc := 38) dX6_change_38 rfl ?_
        refine ev_getr (q := 5) (pc := 39) dX6_change_39 fl_RX6_13 rfl rfl ?_
        refine ev_sipush (v := 371) (pc := 42) dX6_change_42 ks_371 ?_
        refine ev_iload (v := t1) (pc := 45) dX6_change_45 rfl ?_
        refine ev_iadd (pc := 47) dX6_change_47 ?_
        refine ev_iload_n (v := x2) (pc := 48) dX6_change_48 rfl ?_
        refine ev_iast (w' := [(5, c010), (6, g0), (1, f0), (14, pr), (13, pf)]) (pc := 49) dX6_change_49 rfl e11 rfl ?_
        refine ev_aload_n (v := 0) (pc := 50) dX6_change_50 rfl ?_
        refine ev_getr (q := 5) (pc := 51) dX6_change_51 fl_RX6_13 rfl rfl ?_
        refine ev_sipush (v := 395) (pc := 54) dX6_change_54 ks_395 ?_
        refine ev_iload (v := t1) (pc := 57) dX6_change_57 rfl ?_
        refine ev_iadd (pc := 59) dX6_change_59 ?_
        refine ev_iload (v := x3) (pc := 60) dX6_change_60 rfl ?_
        refine ev_iast (w' := [(5, c012), (6, g0), (1, f0), (14, pr), (13, pf)]) (pc := 62) dX6_change_62 rfl e13 rfl ?_
        refine ev_aload_n (v := 0) (pc := 63) dX6_change_63 rfl ?_
        refine ev_aload_n (v := 0) (pc := 64) dX6_change_64 rfl ?_
        refine ev_getr (q := 1) (pc := 65) dX6_change_65 fl_RX6_22 rfl rfl ?_
        refine ev_iload (v := t1) (pc := 68) dX6_change_68 rfl ?_
        refine ev_cVi1w (w' := [(5, t14.2.1), (6, t14.2.2.1), (1, t14.2.2.2), (14, pr), (13, pf)]) (pc := 70) dX6_change_70 mv_X0_armInterest lk_RX6_134 rp_1 (ct0_X0_armInterest _ _ _ _ _ _ rfl rfl rfl e15) (Nat.le_of_ble_eq_true rfl) (Nat.le_of_ble_eq_true rfl) rfl ?_
        refine ev_cVi1w (w' := [(5, t14.2.1), (6, t14.2.2.1), (1, t14.2.2.2), (14, t16.2.1), (13, t16.2.2)]) (pc := 73) dX6_change_73 mv_X6_keptIf lk_RX6_110 rp_0 (ct_X6_keptIf _ _ _ _ _ _ rfl rfl rfl e17) (Nat.le_of_ble_eq_true rfl) (Nat.le_of_ble_eq_true rfl) rfl ?_
        obtain rfl := Option.some.inj h
        exact ev_iret (pc := 76) dX6_change_76 rfl rfl rfl (hfin _ _ _ _ _)
def XX6_drop (c0 : rb_Row) (pr : rb_Row) (pf : rb_Row) (x0 : Int32) (x1 : Int32) : Option (Int32 × rb_Row × rb_Row × rb_Row) := (XX0_findInterest c0 x0 x1).bind fun t1 => if 0 ≤ t1 then (XX1_remove c0 t1).bind fun t4 => (XX6_keptIf pr pf t4 1).bind fun t6 => some ((rb_nz t6.1), t4, t6.2.1, t6.2.2) else some ((rb_nz 0), c0, pr, pf)
set_option maxHeartbeats 4000000 in
set_option maxRecDepth 20000 in
theorem ct_X6_drop (μ : rb_Mem) (c0 : rb_Row) (pr : rb_Row) (pf : rb_Row) (x0 : Int32) (x1 : Int32) (o : Int32 × rb_Row × rb_Row × rb_Row) (hc0 : μ 5 = c0) (hpr : μ 14 = pr) (hpf : μ 13 = pf) (h : XX6_drop c0 pr pf x0 x1 = some o) : rb_Ct yX6_drop cX6_drop 4 (some .boolean) 3 [.inr 0, .inl x0, .inl x1] μ (some o.1) (rb_ov μ [(5, o.2.1), (14, o.2.2.1), (13, o.2.2.2)]) := by
  unfold XX6_drop at h
  have hini : rb_ov μ [(5, c0), (14, pr), (13, pf)] = μ := rb_ov_sf _ _ (And.intro hc0 (And.intro hpr (And.intro hpf True.intro)))
  have hfin : ∀ u0 u1 u2 : rb_Row, rb_ov μ [(5, u0), (14, u1), (13, u2)] = rb_ov μ [(5, u0), (14, u1), (13, u2)] := fun u0 u1 u2 => rfl
  refine rb_ctz (w := [(5, c0), (14, pr), (13, pf)]) rfl pn_6 (Nat.le_of_ble_eq_true rfl) rfl hini ?_
  obtain ⟨t1, e2, h⟩ := rb_bd h
  refine ev_aload_n (v := 0) (pc := 0) dX6_drop_0 rfl ?_
  refine ev_getr (q := 1) (pc := 1) dX6_drop_1 fl_RX6_22 rfl rfl ?_
  refine ev_iload_n (v := x0) (pc := 4) dX6_drop_4 rfl ?_
  refine ev_iload_n (v := x1) (pc := 5) dX6_drop_5 rfl ?_
  refine ev_cVi2 (pc := 6) dX6_drop_6 mv_X0_findInterest lk_RX6_131 rp_1 (ct0_X0_findInterest _ _ _ _ _ rfl e2) (Nat.le_of_ble_eq_true rfl) (Nat.le_of_ble_eq_true rfl) ?_
  refine ev_istore_n (L' := [some (.inr 0), some (.inl x0), some (.inl x1), some (.inl t1)]) (pc := 9) dX6_drop_9 (Nat.le_of_ble_eq_true rfl) rfl ?_
  refine ev_iload_n (v := t1) (pc := 10) dX6_drop_10 rfl ?_
  by_cases b3 : 0 ≤ t1
  · rw [if_pos b3] at h
    refine ev_if_ge_t (t := 16) (pc := 11) dX6_drop_11 (by decide) b3 ?_
    obtain ⟨t4, e5, h⟩ := rb_bd h
    obtain ⟨t6, e7, h⟩ := rb_bd h
    refine ev_aload_n (v := 0) (pc := 16) dX6_drop_16 rfl ?_
    refine ev_getr (q := 1) (pc := 17) dX6_drop_17 fl_RX6_22 rfl rfl ?_
    refine ev_getr (q := 3) (pc := 20) dX6_drop_20 fl_RX6_137 rfl rfl ?_
    refine ev_iload_n (v := t1) (pc := 23) dX6_drop_23 rfl ?_
    refine ev_cVv1w (w' := [(5, t4), (14, pr), (13, pf)]) (pc := 24) dX6_drop_24 mv_X1_remove lk_RX6_141 rp_3 (ct0_X1_remove _ _ _ _ rfl e5) (Nat.le_of_ble_eq_true rfl) (Nat.le_of_ble_eq_true rfl) rfl ?_
    refine ev_aload_n (v := 0) (pc := 27) dX6_drop_27 rfl ?_
    refine ev_iconst (v := 1) (pc := 28) dX6_drop_28 ki_1 ?_
    refine ev_cVi1w (w' := [(5, t4), (14, t6.2.1), (13, t6.2.2)]) (pc := 29) dX6_drop_29 mv_X6_keptIf lk_RX6_110 rp_0 (ct_X6_keptIf _ _ _ _ _ _ rfl rfl rfl e7) (Nat.le_of_ble_eq_true rfl) (Nat.le_of_ble_eq_true rfl) rfl ?_
    obtain rfl := Option.some.inj h
    exact ev_iret (pc := 32) dX6_drop_32 rfl rfl rfl (hfin _ _ _)
  · rw [if_neg b3] at h
    refine ev_if_ge_f (t := 16) (pc := 11) dX6_drop_11 (by decide) b3 ?_
    refine ev_iconst (v := 0) (pc := 14) dX6_drop_14 ki_0 ?_
    obtain rfl := Option.some.inj h
    exact ev_iret (pc := 15) dX6_drop_15 rfl rfl rfl (hfin _ _ _)
def XX6_collect (c0 : rb_Row) (g0 : rb_Row) (pr : rb_Row) (pf : rb_Row) (x0 : Int32) (x1 : Int32) (x2 : Int32) : Option (Int32 × rb_Row × rb_Row × rb_Row × rb_Row) := (XX0_collectAt c0 g0 x0 x1 x2).bind fun t1 => (XX6_keptFrom pr pf t1.2.1 0 t1.1).bind fun t3 => some (t3.1, t1.2.1, t1.2.2, t3.2.1, t3.2.2)
set_option maxHeartbeats 4000000 in
set_option maxRecDepth 20000 in
theorem ct_X6_collect (μ : rb_Mem) (c0 : rb_Row) (g0 : rb_Row) (pr : rb_Row) (pf : rb_Row) (x0 : Int32) (x1 : Int32) (x2 : Int32) (o : Int32 × rb_Row × rb_Row × rb_Row × rb_Row) (hc0 : μ 5 = c0) (hg0 : μ 6 = g0) (hpr : μ 14 = pr) (hpf : μ 13 = pf) (h : XX6_collect c0 g0 pr pf x0 x1 x2 = some o) : rb_Ct yX6_collect cX6_collect 4 (some .int) 8 [.inr 0, .inl x0, .inl x1, .inl x2] μ (some o.1) (rb_ov μ [(5, o.2.1), (6, o.2.2.1), (14, o.2.2.2.1), (13, o.2.2.2.2)]) := by
  unfold XX6_collect at h
  have hini : rb_ov μ [(5, c0), (6, g0), (14, pr), (13, pf)] = μ := rb_ov_sf _ _ (And.intro hc0 (And.intro hg0 (And.intro hpr (And.intro hpf True.intro))))
  have hfin : ∀ u0 u1 u2 u3 : rb_Row, rb_ov μ [(5, u0), (6, u1), (14, u2), (13, u3)] = rb_ov μ [(5, u0), (6, u1), (14, u2), (13, u3)] := fun u0 u1 u2 u3 => rfl
  refine rb_cti (w := [(5, c0), (6, g0), (14, pr), (13, pf)]) rfl pn_6 (Nat.le_of_ble_eq_true rfl) rfl hini ?_
  obtain ⟨t1, e2, h⟩ := rb_bd h
  obtain ⟨t3, e4, h⟩ := rb_bd h
  refine ev_aload_n (v := 0) (pc := 0) dX6_collect_0 rfl ?_
  refine ev_iconst (v := 0) (pc := 1) dX6_collect_1 ki_0 ?_
  refine ev_aload_n (v := 0) (pc := 2) dX6_collect_2 rfl ?_
  refine ev_getr (q := 1) (pc := 3) dX6_collect_3 fl_RX6_22 rfl rfl ?_
  refine ev_iload_n (v := x0) (pc := 6) dX6_collect_6 rfl ?_
  refine ev_iload_n (v := x1) (pc := 7) dX6_collect_7 rfl ?_
  refine ev_iload_n (v := x2) (pc := 8) dX6_collect_8 rfl ?_
  refine ev_cVi3w (w' := [(5, t1.2.1), (6, t1.2.2), (14, pr), (13, pf)]) (pc := 9) dX6_collect_9 mv_X0_collectAt lk_RX6_147 rp_1 (ct0_X0_collectAt _ _ _ _ _ _ _ rfl rfl e2) (Nat.le_of_ble_eq_true rfl) (Nat.le_of_ble_eq_true rfl) rfl ?_
  refine ev_cVi2w (w' := [(5, t1.2.1), (6, t1.2.2), (14, t3.2.1), (13, t3.2.2)]) (pc := 12) dX6_collect_12 mv_X6_keptFrom lk_RX6_79 rp_0 (ct_X6_keptFrom _ _ _ _ _ _ _ rfl rfl rfl e4) (Nat.le_of_ble_eq_true rfl) (Nat.le_of_ble_eq_true rfl) rfl ?_
  obtain rfl := Option.some.inj h
  exact ev_iret (pc := 15) dX6_collect_15 rfl rfl rfl (hfin _ _ _ _)
def XX6_await (c0 : rb_Row) (g0 : rb_Row) (pr : rb_Row) (pf : rb_Row) (x0 : Int32) (x1 : Int32) (x2 : Int32) (x3 : Int32) : Option (Int32 × rb_Row × rb_Row × rb_Row × rb_Row) := (XX0_awaitAt c0 g0 x0 x1 x2 x3).bind fun t1 => ((if t1.1 = (-1) then some 0 else some 1) : Option (Int32)).bind fun j3 => (XX6_keptIf pr pf t1.2.1 j3).bind fun t7 => some (t1.1, t1.2.1, t1.2.2, t7.2.1, t7.2.2)
set_option maxHeartbeats 4000000 in
set_option maxRecDepth 20000 in
theorem ct_X6_await (μ : rb_Mem) (c0 : rb_Row) (g0 : rb_Row) (pr : rb_Row) (pf : rb_Row) (x0 : Int32) (x1 : Int32) (x2 : Int32) (x3 : Int32) (o : Int32 × rb_Row × rb_Row × rb_Row × rb_Row) (hc0 : μ 5 = c0) (hg0 : μ 6 = g0) (hpr : μ 14 = pr) (hpf : μ 13 = pf) (h : XX6_await c0 g0 pr pf x0 x1 x2 x3 = some o) : rb_Ct yX6_await cX6_await 6 (some .int) 8 [.inr 0, .inl x0, .inl x1, .inl x2, .inl x3] μ (some o.1) (rb_ov μ [(5, o.2.1), (6, o.2.2.1), (14, o.2.2.2.1), (13, o.2.2.2.2)]) := by
  unfold XX6_await at h
  have hini : rb_ov μ [(5, c0), (6, g0), (14, pr), (13, pf)] = μ := rb_ov_sf _ _ (And.intro hc0 (And.intro hg0 (And.intro hpr (And.intro hpf True.intro))))
  have hfin : ∀ u0 u1 u2 u3 : rb_Row, rb_ov μ [(5, u0), (6, u1), (14, u2), (13, u3)] = rb_ov μ [(5, u0), (6, u1), (14, u2), (13, u3)] := fun u0 u1 u2 u3 => rfl
  refine rb_cti (w := [(5, c0), (6, g0), (14, pr), (13, pf)]) rfl pn_6 (Nat.le_of_ble_eq_true rfl) rfl hini ?_
  obtain ⟨t1, e2, h⟩ := rb_bd h
  refine ev_aload_n (v := 0) (pc := 0) dX6_await_0 rfl ?_
  refine ev_getr (q := 1) (pc := 1) dX6_await_1 fl_RX6_22 rfl rfl ?_
  refine ev_iload_n (v := x0) (pc := 4) dX6_await_4 rfl ?_
  refine ev_iload_n (v := x1) (pc := 5) dX6_await_5 rfl ?_
  refine ev_iload_n (v := x2) (pc := 6) dX6_await_6 rfl ?_
  refine ev_iload (v := x3) (pc := 7) dX6_await_7 rfl ?_
  refine ev_cVi4w (w' := [(5, t1.2.1), (6, t1.2.2), (14, pr), (13, pf)]) (pc := 9) dX6_await_9 mv_X0_awaitAt lk_RX6_151 rp_1 (ct0_X0_awaitAt _ _ _ _ _ _ _ _ rfl rfl e2) (Nat.le_of_ble_eq_true rfl) (Nat.le_of_ble_eq_true rfl) rfl ?_
  refine ev_istore (L' := [some (.inr 0), some (.inl x0), some (.inl x1), some (.inl x2), some (.inl x3), some (.inl t1.1)]) (pc := 12) dX6_await_12 (Nat.le_of_ble_eq_true rfl) rfl ?_
  refine ev_aload_n (v := 0) (pc := 14) dX6_await_14 rfl ?_
  refine ev_iload (v := t1.1) (pc := 15) dX6_await_15 rfl ?_
  refine ev_iconst (v := (-1)) (pc := 17) dX6_await_17 ki_m1 ?_
  obtain ⟨j3, e4, h⟩ := rb_bd h
  have hj5 : rb_Ev RX6 cX6_await 6 (some .int) none 8 (some o.1) (rb_ov μ [(5, o.2.1), (6, o.2.2.1), (14, o.2.2.2.1), (13, o.2.2.2.2)]) 26 [none, none, none, none, none, some (.inl t1.1)] [.inl j3, .inr 0] (rb_ov μ [(5, t1.2.1), (6, t1.2.2), (14, pr), (13, pf)]) := by
    obtain ⟨t7, e8, h⟩ := rb_bd h
    refine ev_cVi1w (w' := [(5, t1.2.1), (6, t1.2.2), (14, t7.2.1), (13, t7.2.2)]) (pc := 26) dX6_await_26 mv_X6_keptIf lk_RX6_110 rp_0 (ct_X6_keptIf _ _ _ _ _ _ rfl rfl rfl e8) (Nat.le_of_ble_eq_true rfl) (Nat.le_of_ble_eq_true rfl) rfl ?_
    refine ev_pop (pc := 29) dX6_await_29 ?_
    refine ev_iload (v := t1.1) (pc := 30) dX6_await_30 rfl ?_
    obtain rfl := Option.some.inj h
    exact ev_iret (pc := 32) dX6_await_32 rfl rfl rfl (hfin _ _ _ _)
  replace h := e4
  by_cases b6 : t1.1 = (-1)
  · rw [if_pos b6] at h
    refine ev_icmp_eq_t (t := 25) (pc := 18) dX6_await_18 (by decide) b6 ?_
    refine ev_iconst (v := 0) (pc := 25) dX6_await_25 ki_0 ?_
    obtain rfl := Option.some.inj h
    exact ev_fg (L := [none, none, none, none, none, some (.inl t1.1)]) (And.intro rfl True.intro) (hj5)
  · rw [if_neg b6] at h
    refine ev_icmp_eq_f (t := 25) (pc := 18) dX6_await_18 (by decide) b6 ?_
    refine ev_iconst (v := 1) (pc := 21) dX6_await_21 ki_1 ?_
    refine ev_goto (t := 26) (pc := 22) dX6_await_22 (by decide) ?_
    obtain rfl := Option.some.inj h
    exact ev_fg (L := [none, none, none, none, none, some (.inl t1.1)]) (And.intro rfl True.intro) (hj5)
def XX6_measureOf (c0 : rb_Row) (x0 : Int32) : Option (Int32) := (rb_rd c0 773 (19 + x0)).bind fun v1 => if v1 = 0 then (rb_rd c0 773 (75 + x0)).bind fun v4 => some v4 else if v1 = 1 then (rb_rd c0 773 (75 + x0)).bind fun v7 => some v7 else if v1 = 2 then (rb_rd c0 773 (103 + x0)).bind fun v10 => some v10 else if v1 = 3 then (rb_rd c0 773 (159 + x0)).bind fun v13 => some v13 else if v1 = 4 then (XX4_sleepersAt c0 x0).bind fun t16 => some t16 else if v1 = 5 then (rb_rd c0 773 (215 + x0)).bind fun v19 => some v19 else some (-1)
set_option maxHeartbeats 4000000 in
set_option maxRecDepth 20000 in
theorem ct_X6_measureOf (μ : rb_Mem) (c0 : rb_Row) (x0 : Int32) (o : Int32) (hc0 : μ 5 = c0) (h : XX6_measureOf c0 x0 = some o) : rb_Ct yX6_measureOf cX6_measureOf 2 (some .int) 1 [.inr 0, .inl x0] μ (some o) μ := by
  unfold XX6_measureOf at h
  have hini : rb_ov μ [(5, c0)] = μ := rb_ov_sf _ _ (And.intro hc0 True.intro)
  have hfin := hini
  refine rb_cti (w := [(5, c0)]) rfl pn_6 (Nat.le_of_ble_eq_true rfl) rfl hini ?_
  obtain ⟨v1, e2, h⟩ := rb_bd h
  refine ev_aload_n (v := 0) (pc := 0) dX6_measureOf_0 rfl ?_
  refine ev_getr (q := 5) (pc := 1) dX6_measureOf_1 fl_RX6_13 rfl rfl ?_
  refine ev_bipush (v := 19) (pc := 4) dX6_measureOf_4 kb_19 ?_
  refine ev_iload_n (v := x0) (pc := 6) dX6_measureOf_6 rfl ?_
  refine ev_iadd (pc := 7) dX6_measureOf_7 ?_
  refine ev_iald (pc := 8) dX6_measureOf_8 rfl e2 ?_
  by_cases b3 : v1 = 0
  · rw [if_pos b3] at h
    refine ev_tsIn (t := 48) (off := 39) (pc := 9) dX6_measureOf_9 (by rw [b3]; decide) (by rw [b3]; decide) (by rw [b3]; decide) (by decide) ?_
    obtain ⟨v4, e5, h⟩ := rb_bd h
    refine ev_aload_n (v := 0) (pc := 48) dX6_measureOf_48 rfl ?_
    refine ev_getr (q := 5) (pc := 49) dX6_measureOf_49 fl_RX6_13 rfl rfl ?_
    refine ev_bipush (v := 75) (pc := 52) dX6_measureOf_52 kb_75 ?_
    refine ev_iload_n (v := x0) (pc := 54) dX6_measureOf_54 rfl ?_
    refine ev_iadd (pc := 55) dX6_measureOf_55 ?_
    refine ev_iald (pc := 56) dX6_measureOf_56 rfl e5 ?_
    obtain rfl := Option.some.inj h
    exact ev_iret (pc := 57) dX6_measureOf_57 rfl rfl rfl hfin
  · rw [if_neg b3] at h
    by_cases b6 : v1 = 1
    · rw [if_pos b6] at h
      refine ev_tsIn (t := 48) (off := 39) (pc := 9) dX6_measureOf_9 (by rw [b6]; decide) (by rw [b6]; decide) (by rw [b6]; decide) (by decide) ?_
      obtain ⟨v7, e8, h⟩ := rb_bd h
      refine ev_aload_n (v := 0) (pc := 48) dX6_measureOf_48 rfl ?_
      refine ev_getr (q := 5) (pc := 49) dX6_measureOf_49 fl_RX6_13 rfl rfl ?_
      refine ev_bipush (v := 75) (pc := 52) dX6_measureOf_52 kb_75 ?_
      refine ev_iload_n (v := x0) (pc := 54) dX6_measureOf_54 rfl ?_
      refine ev_iadd (pc := 55) dX6_measureOf_55 ?_
      refine ev_iald (pc := 56) dX6_measureOf_56 rfl e8 ?_
      obtain rfl := Option.some.inj h
      exact ev_iret (pc := 57) dX6_measureOf_57 rfl rfl rfl hfin
    · rw [if_neg b6] at h
      by_cases b9 : v1 = 2
      · rw [if_pos b9] at h
        refine ev_tsIn (t := 58) (off := 49) (pc := 9) dX6_measureOf_9 (by rw [b9]; decide) (by rw [b9]; decide) (by rw [b9]; decide) (by decide) ?_
        obtain ⟨v10, e11, h⟩ := rb_bd h
        refine ev_aload_n (v := 0) (pc := 58) dX6_measureOf_58 rfl ?_
        refine ev_getr (q := 5) (pc := 59) dX6_measureOf_59 fl_RX6_13 rfl rfl ?_
        refine ev_bipush (v := 103) (pc := 62) dX6_measureOf_62 kb_103 ?_
        refine ev_iload_n (v := x0) (pc := 64) dX6_measureOf_64 rfl ?_
        refine ev_iadd (pc := 65) dX6_measureOf_65 ?_
        refine ev_iald (pc := 66) dX6_measureOf_66 rfl e11 ?_
        obtain rfl := Option.some.inj h
        exact ev_iret (pc := 67) dX6_measureOf_67 rfl rfl rfl hfin
      · rw [if_neg b9] at h
        by_cases b12 : v1 = 3
        · rw [if_pos b12] at h
          refine ev_tsIn (t := 68) (off := 59) (pc := 9) dX6_measureOf_9 (by rw [b12]; decide) (by rw [b12]; decide) (by rw [b12]; decide) (by decide) ?_
          obtain ⟨v13, e14, h⟩ := rb_bd h
          refine ev_aload_n (v := 0) (pc := 68) dX6_measureOf_68 rfl ?_
          refine ev_getr (q := 5) (pc := 69) dX6_measureOf_69 fl_RX6_13 rfl rfl ?_
          refine ev_sipush (v := 159) (pc := 72) dX6_measureOf_72 ks_159 ?_
          refine ev_iload_n (v := x0) (pc := 75) dX6_measureOf_75 rfl ?_
          refine ev_iadd (pc := 76) dX6_measureOf_76 ?_
          refine ev_iald (pc := 77) dX6_measureOf_77 rfl e14 ?_
          obtain rfl := Option.some.inj h
          exact ev_iret (pc := 78) dX6_measureOf_78 rfl rfl rfl hfin
        · rw [if_neg b12] at h
          by_cases b15 : v1 = 4
          · rw [if_pos b15] at h
            refine ev_tsIn (t := 79) (off := 70) (pc := 9) dX6_measureOf_9 (by rw [b15]; decide) (by rw [b15]; decide) (by rw [b15]; decide) (by decide) ?_
            obtain ⟨t16, e17, h⟩ := rb_bd h
            refine ev_aload_n (v := 0) (pc := 79) dX6_measureOf_79 rfl ?_
            refine ev_getr (q := 1) (pc := 80) dX6_measureOf_80 fl_RX6_22 rfl rfl ?_
            refine ev_getr (q := 4) (pc := 83) dX6_measureOf_83 fl_RX6_169 rfl rfl ?_
            refine ev_iload_n (v := x0) (pc := 86) dX6_measureOf_86 rfl ?_
            refine ev_cVi1 (pc := 87) dX6_measureOf_87 mv_X4_sleepersAt lk_RX6_173 rp_4 (ct0_X4_sleepersAt _ _ _ _ rfl e17) (Nat.le_of_ble_eq_true rfl) (Nat.le_of_ble_eq_true rfl) ?_
            obtain rfl := Option.some.inj h
            exact ev_iret (pc := 90) dX6_measureOf_90 rfl rfl rfl hfin
          · rw [if_neg b15] at h
            by_cases b18 : v1 = 5
            · rw [if_pos b18] at h
              refine ev_tsIn (t := 91) (off := 82) (pc := 9) dX6_measureOf_9 (by rw [b18]; decide) (by rw [b18]; decide) (by rw [b18]; decide) (by decide) ?_
              obtain ⟨v19, e20, h⟩ := rb_bd h
              refine ev_aload_n (v := 0) (pc := 91) dX6_measureOf_91 rfl ?_
              refine ev_getr (q := 5) (pc := 92) dX6_measureOf_92 fl_RX6_13 rfl rfl ?_
              refine ev_sipush (v := 215) (pc := 95) dX6_measureOf_95 ks_215 ?_
              refine ev_iload_n (v := x0) (pc := 98) dX6_measureOf_98 rfl ?_
              refine ev_iadd (pc := 99) dX6_measureOf_99 ?_
              refine ev_iald (pc := 100) dX6_measureOf_100 rfl e20 ?_
              obtain rfl := Option.some.inj h
              exact ev_iret (pc := 101) dX6_measureOf_101 rfl rfl rfl hfin
            · rw [if_neg b18] at h
              refine ev_tsOut (t := 102) (pc := 9) dX6_measureOf_9 (rb_tsS (k := 5) (by decide) b18 (rb_tsS (k := 4) (by decide) b15 (rb_tsS (k := 3) (by decide) b12 (rb_tsS (k := 2) (by decide) b9 (rb_tsS (k := 1) (by decide) b6 (rb_tsS (k := 0) (by decide) b3 (rb_ts0 _))))))) (by decide) ?_
              refine ev_iconst (v := (-1)) (pc := 102) dX6_measureOf_102 ki_m1 ?_
              obtain rfl := Option.some.inj h
              exact ev_iret (pc := 103) dX6_measureOf_103 rfl rfl rfl hfin
def XX6_handle (c0 : rb_Row) (x0 : Int32) (x1 : Int32) : Option (Int32) := (XX5_thingOf c0 x0).bind fun t1 => if 0 ≤ t1 then if x1 = 0 then (rb_rd c0 773 (19 + t1)).bind fun v5 => some v5 else if x1 = 1 then (rb_rd c0 773 (19 + t1)).bind fun v8 => if v8 = 4 then (XX1_heldBy c0 t1).bind fun t11 => some t11 else (rb_rd c0 773 (47 + t1)).bind fun v13 => some v13 else if x1 = 2 then (XX1_ready 5 c0 t1 0).bind fun t16 => some t16 else if x1 = 3 then (XX5_handlesOf c0 t1).bind fun t19 => some t19 else if x1 = 4 then (XX1_aimedAt c0 t1).bind fun t22 => some t22 else if x1 = 5 then (XX6_measureOf c0 t1).bind fun t25 => some t25 else some (-1) else some (-1)
set_option maxHeartbeats 4000000 in
set_option maxRecDepth 20000 in
theorem ct_X6_handle (μ : rb_Mem) (c0 : rb_Row) (x0 : Int32) (x1 : Int32) (o : Int32) (hc0 : μ 5 = c0) (h : XX6_handle c0 x0 x1 = some o) : rb_Ct yX6_handle cX6_handle 4 (some .int) 6 [.inr 0, .inl x0, .inl x1] μ (some o) μ := by
  unfold XX6_handle at h
  have hini : rb_ov μ [(5, c0)] = μ := rb_ov_sf _ _ (And.intro hc0 True.intro)
  have hfin := hini
  refine rb_cti (w := [(5, c0)]) rfl pn_6 (Nat.le_of_ble_eq_true rfl) rfl hini ?_
  obtain ⟨t1, e2, h⟩ := rb_bd h
  refine ev_aload_n (v := 0) (pc := 0) dX6_handle_0 rfl ?_
  refine ev_getr (q := 1) (pc := 1) dX6_handle_1 fl_RX6_22 rfl rfl ?_
  refine ev_getr (q := 2) (pc := 4) dX6_handle_4 fl_RX6_65 rfl rfl ?_
  refine ev_iload_n (v := x0) (pc := 7) dX6_handle_7 rfl ?_
  refine ev_cVi1 (pc := 8) dX6_handle_8 mv_X5_thingOf lk_RX6_89 rp_2 (ct0_X5_thingOf _ _ _ _ rfl e2) (Nat.le_of_ble_eq_true rfl) (Nat.le_of_ble_eq_true rfl) ?_
  refine ev_istore_n (L' := [some (.inr 0), some (.inl x0), some (.inl x1), some (.inl t1)]) (pc := 11) dX6_handle_11 (Nat.le_of_ble_eq_true rfl) rfl ?_
  refine ev_iload_n (v := t1) (pc := 12) dX6_handle_12 rfl ?_
  by_cases b3 : 0 ≤ t1
  · rw [if_pos b3] at h
    refine ev_if_ge_t (t := 18) (pc := 13) dX6_handle_13 (by decide) b3 ?_
    refine ev_iload_n (v := x1) (pc := 18) dX6_handle_18 rfl ?_
    by_cases b4 : x1 = 0
    · rw [if_pos b4] at h
      refine ev_tsIn (t := 56) (off := 37) (pc := 19) dX6_handle_19 (by rw [b4]; decide) (by rw [b4]; decide) (by rw [b4]; decide) (by decide) ?_
      obtain ⟨v5, e6, h⟩ := rb_bd h
      refine ev_aload_n (v := 0) (pc := 56) dX6_handle_56 rfl ?_
      refine ev_getr (q := 5) (pc := 57) dX6_handle_57 fl_RX6_13 rfl rfl ?_
      refine ev_bipush (v := 19) (pc := 60) dX6_handle_60 kb_19 ?_
      refine ev_iload_n (v := t1) (pc := 62) dX6_handle_62 rfl ?_
      refine ev_iadd (pc := 63) dX6_handle_63 ?_
      refine ev_iald (pc := 64) dX6_handle_64 rfl e6 ?_
      obtain rfl := Option.some.inj h
      exact ev_iret (pc := 65) dX6_handle_65 rfl rfl rfl hfin
    · rw [if_neg b4] at h
      by_cases b7 : x1 = 1
      · rw [if_pos b7] at h
        refine ev_tsIn (t := 66) (off := 47) (pc := 19) dX6_handle_19 (by rw [b7]; decide) (by rw [b7]; decide) (by rw [b7]; decide) (by decide) ?_
        obtain ⟨v8, e9, h⟩ := rb_bd h
        refine ev_aload_n (v := 0) (pc := 66) dX6_handle_66 rfl ?_
        refine ev_getr (q := 5) (pc := 67) dX6_handle_67 fl_RX6_13 rfl rfl ?_
        refine ev_bipush (v := 19) (pc := 70) dX6_handle_70 kb_19 ?_
        refine ev_iload_n (v := t1) (pc := 72) dX6_handle_72 rfl ?_
        refine ev_iadd (pc := 73) dX6_handle_73 ?_
        refine ev_iald (pc := 74) dX6_handle_74 rfl e9 ?_
        refine ev_iconst (v := 4) (pc := 75) dX6_handle_75 ki_4 ?_
        by_cases b10 : v8 = 4
        · rw [if_pos b10] at h
          refine ev_icmp_ne_f (t := 93) (pc := 76) dX6_handle_76 (by decide) b10 ?_
          obtain ⟨t11, e12, h⟩ := rb_bd h
          refine ev_aload_n (v := 0) (pc := 79) dX6_handle_79 rfl ?_
          refine ev_getr (q := 1) (pc := 80) dX6_handle_80 fl_RX6_22 rfl rfl ?_
          refine ev_getr (q := 3) (pc := 83) dX6_handle_83 fl_RX6_137 rfl rfl ?_
          refine ev_iload_n (v := t1) (pc := 86) dX6_handle_86 rfl ?_
          refine ev_cVi1 (pc := 87) dX6_handle_87 mv_X1_heldBy lk_RX6_154 rp_3 (ct0_X1_heldBy _ _ _ _ rfl e12) (Nat.le_of_ble_eq_true rfl) (Nat.le_of_ble_eq_true rfl) ?_
          refine ev_goto (t := 102) (pc := 90) dX6_handle_90 (by decide) ?_
          obtain rfl := Option.some.inj h
          exact ev_iret (pc := 102) dX6_handle_102 rfl rfl rfl hfin
        · rw [if_neg b10] at h
          refine ev_icmp_ne_t (t := 93) (pc := 76) dX6_handle_76 (by decide) b10 ?_
          obtain ⟨v13, e14, h⟩ := rb_bd h
          refine ev_aload_n (v := 0) (pc := 93) dX6_handle_93 rfl ?_
          refine ev_getr (q := 5) (pc := 94) dX6_handle_94 fl_RX6_13 rfl rfl ?_
          refine ev_bipush (v := 47) (pc := 97) dX6_handle_97 kb_47 ?_
          refine ev_iload_n (v := t1) (pc := 99) dX6_handle_99 rfl ?_
          refine ev_iadd (pc := 100) dX6_handle_100 ?_
          refine ev_iald (pc := 101) dX6_handle_101 rfl e14 ?_
          obtain rfl := Option.some.inj h
          exact ev_iret (pc := 102) dX6_handle_102 rfl rfl rfl hfin
      · rw [if_neg b7] at h
        by_cases b15 : x1 = 2
        · rw [if_pos b15] at h
          refine ev_tsIn (t := 103) (off := 84) (pc := 19) dX6_handle_19 (by rw [b15]; decide) (by rw [b15]; decide) (by rw [b15]; decide) (by decide) ?_
          obtain ⟨t16, e17, h⟩ := rb_bd h
          refine ev_aload_n (v := 0) (pc := 103) dX6_handle_103 rfl ?_
          refine ev_getr (q := 1) (pc := 104) dX6_handle_104 fl_RX6_22 rfl rfl ?_
          refine ev_getr (q := 3) (pc := 107) dX6_handle_107 fl_RX6_137 rfl rfl ?_
          refine ev_iload_n (v := t1) (pc := 110) dX6_handle_110 rfl ?_
          refine ev_iconst (v := 0) (pc := 111) dX6_handle_111 ki_0 ?_
          refine ev_cVi2 (pc := 112) dX6_handle_112 mv_X1_ready lk_RX6_157 rp_3 (ct0_X1_ready 5 _ _ _ _ _ rfl e17) (Nat.le_of_ble_eq_true rfl) (Nat.le_of_ble_eq_true rfl) ?_
          obtain rfl := Option.some.inj h
          exact ev_iret (pc := 115) dX6_handle_115 rfl rfl rfl hfin
        · rw [if_neg b15] at h
          by_cases b18 : x1 = 3
          · rw [if_pos b18] at h
            refine ev_tsIn (t := 116) (off := 97) (pc := 19) dX6_handle_19 (by rw [b18]; decide) (by rw [b18]; decide) (by rw [b18]; decide) (by decide) ?_
            obtain ⟨t19, e20, h⟩ := rb_bd h
            refine ev_aload_n (v := 0) (pc := 116) dX6_handle_116 rfl ?_
            refine ev_getr (q := 1) (pc := 117) dX6_handle_117 fl_RX6_22 rfl rfl ?_
            refine ev_getr (q := 2) (pc := 120) dX6_handle_120 fl_RX6_65 rfl rfl ?_
            refine ev_iload_n (v := t1) (pc := 123) dX6_handle_123 rfl ?_
            refine ev_cVi1 (pc := 124) dX6_handle_124 mv_X5_handlesOf lk_RX6_160 rp_2 (ct0_X5_handlesOf _ _ _ _ rfl e20) (Nat.le_of_ble_eq_true rfl) (Nat.le_of_ble_eq_true rfl) ?_
            obtain rfl := Option.some.inj h
            exact ev_iret (pc := 127) dX6_handle_127 rfl rfl rfl hfin
          · rw [if_neg b18] at h
            by_cases b21 : x1 = 4
            · rw [if_pos b21] at h
              refine ev_tsIn (t := 128) (off := 109) (pc := 19) dX6_handle_19 (by rw [b21]; decide) (by rw [b21]; decide) (by rw [b21]; decide) (by decide) ?_
              obtain ⟨t22, e23, h⟩ := rb_bd h
              refine ev_aload_n (v := 0) (pc := 128) dX6_handle_128 rfl ?_
              refine ev_getr (q := 1) (pc := 129) dX6_handle_129 fl_RX6_22 rfl rfl ?_
              refine ev_getr (q := 3) (pc := 132) dX6_handle_132 fl_RX6_137 rfl rfl ?_
              refine ev_iload_n (v := t1) (pc := 135) dX6_handle_135 rfl ?_
              refine ev_cVi1 (pc := 136) dX6_handle_136 mv_X1_aimedAt lk_RX6_163 rp_3 (ct0_X1_aimedAt _ _ _ _ rfl e23) (Nat.le_of_ble_eq_true rfl) (Nat.le_of_ble_eq_true rfl) ?_
              obtain rfl := Option.some.inj h
              exact ev_iret (pc := 139) dX6_handle_139 rfl rfl rfl hfin
            · rw [if_neg b21] at h
              by_cases b24 : x1 = 5
              · rw [if_pos b24] at h
                refine ev_tsIn (t := 140) (off := 121) (pc := 19) dX6_handle_19 (by rw [b24]; decide) (by rw [b24]; decide) (by rw [b24]; decide) (by decide) ?_
                obtain ⟨t25, e26, h⟩ := rb_bd h
                refine ev_aload_n (v := 0) (pc := 140) dX6_handle_140 rfl ?_
                refine ev_iload_n (v := t1) (pc := 141) dX6_handle_141 rfl ?_
                refine ev_cVi1 (pc := 142) dX6_handle_142 mv_X6_measureOf lk_RX6_166 rp_0 (ct_X6_measureOf _ _ _ _ rfl e26) (Nat.le_of_ble_eq_true rfl) (Nat.le_of_ble_eq_true rfl) ?_
                obtain rfl := Option.some.inj h
                exact ev_iret (pc := 145) dX6_handle_145 rfl rfl rfl hfin
              · rw [if_neg b24] at h
                refine ev_tsOut (t := 146) (pc := 19) dX6_handle_19 (rb_tsS (k := 5) (by decide) b24 (rb_tsS (k := 4) (by decide) b21 (rb_tsS (k := 3) (by decide) b18 (rb_tsS (k := 2) (by decide) b15 (rb_tsS (k := 1) (by decide) b7 (rb_tsS (k := 0) (by decide) b4 (rb_ts0 _))))))) (by decide) ?_
                refine ev_iconst (v := (-1)) (pc := 146) dX6_handle_146 ki_m1 ?_
                obtain rfl := Option.some.inj h
                exact ev_iret (pc := 147) dX6_handle_147 rfl rfl rfl hfin
  · rw [if_neg b3] at h
    refine ev_if_ge_f (t := 18) (pc := 13) dX6_handle_13 (by decide) b3 ?_
    refine ev_iconst (v := (-1)) (pc := 16) dX6_handle_16 ki_m1 ?_
    obtain rfl := Option.some.inj h
    exact ev_iret (pc := 17) dX6_handle_17 rfl rfl rfl hfin
def XX6_other (c0 : rb_Row) (x0 : Int32) : Option (Int32) := (XX5_thingOf c0 x0).bind fun t1 => if 0 ≤ t1 then (rb_rd c0 773 (131 + t1)).bind fun v4 => (XX5_lowestHandle c0 v4).bind fun t6 => some t6 else some (-1)
set_option maxHeartbeats 4000000 in
set_option maxRecDepth 20000 in
theorem ct_X6_other (μ : rb_Mem) (c0 : rb_Row) (x0 : Int32) (o : Int32) (hc0 : μ 5 = c0) (h : XX6_other c0 x0 = some o) : rb_Ct yX6_other cX6_other 3 (some .int) 2 [.inr 0, .inl x0] μ (some o) μ := by
  unfold XX6_other at h
  have hini : rb_ov μ [(5, c0)] = μ := rb_ov_sf _ _ (And.intro hc0 True.intro)
  have hfin := hini
  refine rb_cti (w := [(5, c0)]) rfl pn_6 (Nat.le_of_ble_eq_true rfl) rfl hini ?_
  obtain ⟨t1, e2, h⟩ := rb_bd h
  refine ev_aload_n (v := 0) (pc := 0) dX6_other_0 rfl ?_
  refine ev_getr (q := 1) (pc := 1) dX6_other_1 fl_RX6_22 rfl rfl ?_
  refine ev_getr (q := 2) (pc := 4) dX6_other_4 fl_RX6_65 rfl rfl ?_
  refine ev_iload_n (v := x0) (pc := 7) dX6_other_7 rfl ?_
  refine ev_cVi1 (pc := 8) dX6_other_8 mv_X5_thingOf lk_RX6_89 rp_2 (ct0_X5_thingOf _ _ _ _ rfl e2) (Nat.le_of_ble_eq_true rfl) (Nat.le_of_ble_eq_true rfl) ?_
  refine ev_istore_n (L' := [some (.inr 0), some (.inl x0), some (.inl t1)]) (pc := 11) dX6_other_11 (Nat.le_of_ble_eq_true rfl) rfl ?_
  refine ev_iload_n (v := t1) (pc := 12) dX6_other_12 rfl ?_
  by_cases b3 : 0 ≤ t1
  · rw [if_pos b3] at h
    refine ev_if_ge_t (t := 20) (pc := 13) dX6_other_13 (by decide) b3 ?_
    obtain ⟨v4, e5, h⟩ := rb_bd h
    obtain ⟨t6, e7, h⟩ := rb_bd h
    refine ev_aload_n (v := 0) (pc := 20) dX6_other_20 rfl ?_
    refine ev_getr (q := 1) (pc := 21) dX6_other_21 fl_RX6_22 rfl rfl ?_
    refine ev_getr (q := 2) (pc := 24) dX6_other_24 fl_RX6_65 rfl rfl ?_
    refine ev_aload_n (v := 0) (pc := 27) dX6_other_27 rfl ?_
    refine ev_getr (q := 5) (pc := 28) dX6_other_28 fl_RX6_13 rfl rfl ?_
    refine ev_sipush (v := 131) (pc := 31) dX6_other_31 ks_131 ?_
    refine ev_iload_n (v := t1) (pc := 34) dX6_other_34 rfl ?_
    refine ev_iadd (pc := 35) dX6_other_35 ?_
    refine ev_iald (pc := 36) dX6_other_36 rfl e5 ?_
    refine ev_cVi1 (pc := 37) dX6_other_37 mv_X5_lowestHandle lk_RX6_178 rp_2 (ct0_X5_lowestHandle _ _ _ _ rfl e7) (Nat.le_of_ble_eq_true rfl) (Nat.le_of_ble_eq_true rfl) ?_
    obtain rfl := Option.some.inj h
    exact ev_iret (pc := 40) dX6_other_40 rfl rfl rfl hfin
  · rw [if_neg b3] at h
    refine ev_if_ge_f (t := 20) (pc := 13) dX6_other_13 (by decide) b3 ?_
    refine ev_iconst (v := (-1)) (pc := 16) dX6_other_16 ki_m1 ?_
    refine ev_goto (t := 40) (pc := 17) dX6_other_17 (by decide) ?_
    obtain rfl := Option.some.inj h
    exact ev_iret (pc := 40) dX6_other_40 rfl rfl rfl hfin
def XX6_interest (c0 : rb_Row) (x0 : Int32) (x1 : Int32) (x2 : Int32) : Option (Int32) := (XX6_setOf c0 x0).bind fun t1 => ((if 0 ≤ t1 then (XX1_ofSet c0 t1 x1).bind fun t7 => some t7 else some (-1)) : Option (Int32)).bind fun j3 => if 0 ≤ j3 then if x2 = 0 then (rb_rd c0 773 (347 + j3)).bind fun v11 => some v11 else if x2 = 1 then (rb_rd c0 773 (371 + j3)).bind fun v14 => some v14 else if x2 = 2 then (rb_rd c0 773 (395 + j3)).bind fun v17 => some v17 else if x2 = 3 then (rb_rd c0 773 (419 + j3)).bind fun v20 => some v20 else if x2 = 4 then (XX1_placeOf c0 j3).bind fun t23 => some t23 else if x2 = 5 then (XX1_tells c0 j3).bind fun t26 => if t26 = 0 then some 0 else some 1 else if x2 = 6 then (rb_rd c0 773 (347 + j3)).bind fun v30 => (XX5_thingOf c0 v30).bind fun t32 => (rb_rd c0 773 (323 + j3)).bind fun v34 => if t32 = v34 then some 1 else some 0 else if x2 = 7 then (rb_rd c0 773 (467 + j3)).bind fun v38 => some v38 else if x2 = 8 then (rb_rd c0 773 (491 + j3)).bind fun v41 => some v41 else if x2 = 9 then (rb_rd c0 773 (515 + j3)).bind fun v44 => some v44 else some (-1) else some (-1)
set_option maxHeartbeats 4000000 in
set_option maxRecDepth 20000 in
theorem ct_X6_interest (μ : rb_Mem) (c0 : rb_Row) (x0 : Int32) (x1 : Int32) (x2 : Int32) (o : Int32) (hc0 : μ 5 = c0) (h : XX6_interest c0 x0 x1 x2 = some o) : rb_Ct yX6_interest cX6_interest 6 (some .int) 9 [.inr 0, .inl x0, .inl x1, .inl x2] μ (some o) μ := by
  unfold XX6_interest at h
  have hini : rb_ov μ [(5, c0)] = μ := rb_ov_sf _ _ (And.intro hc0 True.intro)
  have hfin := hini
  refine rb_cti (w := [(5, c0)]) rfl pn_6 (Nat.le_of_ble_eq_true rfl) rfl hini ?_
  obtain ⟨t1, e2, h⟩ := rb_bd h
  refine ev_aload_n (v := 0) (pc := 0) dX6_interest_0 rfl ?_
  refine ev_iload_n (v := x0) (pc := 1) dX6_interest_1 rfl ?_
  refine ev_cVi1 (pc := 2) dX6_interest_2 mv_X6_setOf lk_RX6_181 rp_0 (ct_X6_setOf _ _ _ _ rfl e2) (Nat.le_of_ble_eq_true rfl) (Nat.le_of_ble_eq_true rfl) ?_
  refine ev_istore (L' := [some (.inr 0), some (.inl x0), some (.inl x1), some (.inl x2), some (.inl t1), none]) (pc := 5) dX6_interest_5 (Nat.le_of_ble_eq_true rfl) rfl ?_
  refine ev_iload (v := t1) (pc := 7) dX6_interest_7 rfl ?_
  obtain ⟨j3, e4, h⟩ := rb_bd h
  have hj5 : rb_Ev RX6 cX6_interest 6 (some .int) none 9 (some o) μ 29 [some (.inr 0), none, none, some (.inl x2), none, none] [.inl j3] (rb_ov μ [(5, c0)]) := by
    refine ev_istore (L' := [some (.inr 0), none, none, some (.inl x2), none, some (.inl j3)]) (pc := 29) dX6_interest_29 (Nat.le_of_ble_eq_true rfl) rfl ?_
    refine ev_iload (v := j3) (pc := 31) dX6_interest_31 rfl ?_
    by_cases b9 : 0 ≤ j3
    · rw [if_pos b9] at h
      refine ev_if_ge_t (t := 38) (pc := 33) dX6_interest_33 (by decide) b9 ?_
      refine ev_iload_n (v := x2) (pc := 38) dX6_interest_38 rfl ?_
      by_cases b10 : x2 = 0
      · rw [if_pos b10] at h
        refine ev_tsIn (t := 92) (off := 53) (pc := 39) dX6_interest_39 (by rw [b10]; decide) (by rw [b10]; decide) (by rw [b10]; decide) (by decide) ?_
        obtain ⟨v11, e12, h⟩ := rb_bd h
        refine ev_aload_n (v := 0) (pc := 92) dX6_interest_92 rfl ?_
        refine ev_getr (q := 5) (pc := 93) dX6_interest_93 fl_RX6_13 rfl rfl ?_
        refine ev_sipush (v := 347) (pc := 96) dX6_interest_96 ks_347 ?_
        refine ev_iload (v := j3) (pc := 99) dX6_interest_99 rfl ?_
        refine ev_iadd (pc := 101) dX6_interest_101 ?_
        refine ev_iald (pc := 102) dX6_interest_102 rfl e12 ?_
        obtain rfl := Option.some.inj h
        exact ev_iret (pc := 103) dX6_interest_103 rfl rfl rfl hfin
      · rw [if_neg b10] at h
        by_cases b13 : x2 = 1
        · rw [if_pos b13] at h
          refine ev_tsIn (t := 104) (off := 65) (pc := 39) dX6_interest_39 (by rw [b13]; decide) (by rw [b13]; decide) (by rw [b13]; decide) (by decide) ?_
          obtain ⟨v14, e15, h⟩ := rb_bd h
          refine ev_aload_n (v := 0) (pc := 104) dX6_interest_104 rfl ?_
          refine ev_getr (q := 5) (pc := 105) dX6_interest_105 fl_RX6_13 rfl rfl ?_
          refine ev_sipush (v := 371) (pc := 108) dX6_interest_108 ks_371 ?_
          refine ev_iload (v := j3) (pc := 111) dX6_interest_111 rfl ?_
          refine ev_iadd (pc := 113) dX6_interest_113 ?_
          refine ev_iald (pc := 114) dX6_interest_114 rfl e15 ?_
          obtain rfl := Option.some.inj h
          exact ev_iret (pc := 115) dX6_interest_115 rfl rfl rfl hfin
        · rw [if_neg b13] at h
          by_cases b16 : x2 = 2
          · rw [if_pos b16] at h
            refine ev_tsIn (t := 116) (off := 77) (pc := 39) dX6_interest_39 (by rw [b16]; decide) (by rw [b16]; decide) (by rw [b16]; decide) (by decide) ?_
            obtain ⟨v17, e18, h⟩ := rb_bd h
            refine ev_aload_n (v := 0) (pc := 116) dX6_interest_116 rfl ?_
            refine ev_getr (q := 5) (pc := 117) dX6_interest_117 fl_RX6_13 rfl rfl ?_
            refine ev_sipush (v := 395) (pc := 120) dX6_interest_120 ks_395 ?_
            refine ev_iload (v := j3) (pc := 123) dX6_interest_123 rfl ?_
            refine ev_iadd (pc := 125) dX6_interest_125 ?_
            refine ev_iald (pc := 126) dX6_interest_126 rfl e18 ?_
            obtain rfl := Option.some.inj h
            exact ev_iret (pc := 127) dX6_interest_127 rfl rfl rfl hfin
          · rw [if_neg b16] at h
            by_cases b19 : x2 = 3
            · rw [if_pos b19] at h
              refine ev_tsIn (t := 128) (off := 89) (pc := 39) dX6_interest_39 (by rw [b19]; decide) (by rw [b19]; decide) (by rw [b19]; decide) (by decide) ?_
              obtain ⟨v20, e21, h⟩ := rb_bd h
              refine ev_aload_n (v := 0) (pc := 128) dX6_interest_128 rfl ?_
              refine ev_getr (q := 5) (pc := 129) dX6_interest_129 fl_RX6_13 rfl rfl ?_
              refine ev_sipush (v := 419) (pc := 132) dX6_interest_132 ks_419 ?_
              refine ev_iload (v := j3) (pc := 135) dX6_interest_135 rfl ?_
              refine ev_iadd (pc := 137) dX6_interest_137 ?_
              refine ev_iald (pc := 138) dX6_interest_138 rfl e21 ?_
              obtain rfl := Option.some.inj h
              exact ev_iret (pc := 139) dX6_interest_139 rfl rfl rfl hfin
            · rw [if_neg b19] at h
              by_cases b22 : x2 = 4
              · rw [if_pos b22] at h
                refine ev_tsIn (t := 140) (off := 101) (pc := 39) dX6_interest_39 (by rw [b22]; decide) (by rw [b22]; decide) (by rw [b22]; decide) (by decide) ?_
                obtain ⟨t23, e24, h⟩ := rb_bd h
                refine ev_aload_n (v := 0) (pc := 140) dX6_interest_140 rfl ?_
                refine ev_getr (q := 1) (pc := 141) dX6_interest_141 fl_RX6_22 rfl rfl ?_
                refine ev_getr (q := 3) (pc := 144) dX6_interest_144 fl_RX6_137 rfl rfl ?_
                refine ev_iload (v := j3) (pc := 147) dX6_interest_147 rfl ?_
                refine ev_cVi1 (pc := 149) dX6_interest_149 mv_X1_placeOf lk_RX6_187 rp_3 (ct0_X1_placeOf _ _ _ _ rfl e24) (Nat.le_of_ble_eq_true rfl) (Nat.le_of_ble_eq_true rfl) ?_
                obtain rfl := Option.some.inj h
                exact ev_iret (pc := 152) dX6_interest_152 rfl rfl rfl hfin
              · rw [if_neg b22] at h
                by_cases b25 : x2 = 5
                · rw [if_pos b25] at h
                  refine ev_tsIn (t := 153) (off := 114) (pc := 39) dX6_interest_39 (by rw [b25]; decide) (by rw [b25]; decide) (by rw [b25]; decide) (by decide) ?_
                  obtain ⟨t26, e27, h⟩ := rb_bd h
                  refine ev_aload_n (v := 0) (pc := 153) dX6_interest_153 rfl ?_
                  refine ev_getr (q := 1) (pc := 154) dX6_interest_154 fl_RX6_22 rfl rfl ?_
                  refine ev_getr (q := 3) (pc := 157) dX6_interest_157 fl_RX6_137 rfl rfl ?_
                  refine ev_iload (v := j3) (pc := 160) dX6_interest_160 rfl ?_
                  refine ev_cVi1 (pc := 162) dX6_interest_162 mv_X1_tells lk_RX6_190 rp_3 (ct0_X1_tells _ _ _ _ rfl e27) (Nat.le_of_ble_eq_true rfl) (Nat.le_of_ble_eq_true rfl) ?_
                  by_cases b28 : t26 = 0
                  · rw [if_pos b28] at h
                    refine ev_if_eq_t (t := 172) (pc := 165) dX6_interest_165 (by decide) b28 ?_
                    refine ev_iconst (v := 0) (pc := 172) dX6_interest_172 ki_0 ?_
                    obtain rfl := Option.some.inj h
                    exact ev_iret (pc := 173) dX6_interest_173 rfl rfl rfl hfin
                  · rw [if_neg b28] at h
                    refine ev_if_eq_f (t := 172) (pc := 165) dX6_interest_165 (by decide) b28 ?_
                    refine ev_iconst (v := 1) (pc := 168) dX6_interest_168 ki_1 ?_
                    refine ev_goto (t := 173) (pc := 169) dX6_interest_169 (by decide) ?_
                    obtain rfl := Option.some.inj h
                    exact ev_iret (pc := 173) dX6_interest_173 rfl rfl rfl hfin
                · rw [if_neg b25] at h
                  by_cases b29 : x2 = 6
                  · rw [if_pos b29] at h
                    refine ev_tsIn (t := 174) (off := 135) (pc := 39) dX6_interest_39 (by rw [b29]; decide) (by rw [b29]; decide) (by rw [b29]; decide) (by decide) ?_
                    obtain ⟨v30, e31, h⟩ := rb_bd h
                    obtain ⟨t32, e33, h⟩ := rb_bd h
                    obtain ⟨v34, e35, h⟩ := rb_bd h
                    refine ev_aload_n (v := 0) (pc := 174) dX6_interest_174 rfl ?_
                    refine ev_getr (q := 1) (pc := 175) dX6_interest_175 fl_RX6_22 rfl rfl ?_
                    refine ev_getr (q := 2) (pc := 178) dX6_interest_178 fl_RX6_65 rfl rfl ?_
                    refine ev_aload_n (v := 0) (pc := 181) dX6_interest_181 rfl ?_
                    refine ev_getr (q := 5) (pc := 182) dX6_interest_182 fl_RX6_13 rfl rfl ?_
                    refine ev_sipush (v := 347) (pc := 185) dX6_interest_185 ks_347 ?_
                    refine ev_iload (v := j3) (pc := 188) dX6_interest_188 rfl ?_
                    refine ev_iadd (pc := 190) dX6_interest_190 ?_
                    refine ev_iald (pc := 191) dX6_interest_191 rfl e31 ?_
                    refine ev_cVi1 (pc := 192) dX6_interest_192 mv_X5_thingOf lk_RX6_89 rp_2 (ct0_X5_thingOf _ _ _ _ rfl e33) (Nat.le_of_ble_eq_true rfl) (Nat.le_of_ble_eq_true rfl) ?_
                    refine ev_aload_n (v := 0) (pc := 195) dX6_interest_195 rfl ?_
                    refine ev_getr (q := 5) (pc := 196) dX6_interest_196 fl_RX6_13 rfl rfl ?_
                    refine ev_sipush (v := 323) (pc := 199) dX6_interest_199 ks_323 ?_
                    refine ev_iload (v := j3) (pc := 202) dX6_interest_202 rfl ?_
                    refine ev_iadd (pc := 204) dX6_interest_204 ?_
                    refine ev_iald (pc := 205) dX6_interest_205 rfl e35 ?_
                    by_cases b36 : t32 = v34
                    · rw [if_pos b36] at h
                      refine ev_icmp_ne_f (t := 213) (pc := 206) dX6_interest_206 (by decide) b36 ?_
                      refine ev_iconst (v := 1) (pc := 209) dX6_interest_209 ki_1 ?_
                      refine ev_goto (t := 214) (pc := 210) dX6_interest_210 (by decide) ?_
                      obtain rfl := Option.some.inj h
                      exact ev_iret (pc := 214) dX6_interest_214 rfl rfl rfl hfin
                    · rw [if_neg b36] at h
                      refine ev_icmp_ne_t (t := 213) (pc := 206) dX6_interest_206 (by decide) b36 ?_
                      refine ev_iconst (v := 0) (pc := 213) dX6_interest_213 ki_0 ?_
                      obtain rfl := Option.some.inj h
                      exact ev_iret (pc := 214) dX6_interest_214 rfl rfl rfl hfin
                  · rw [if_neg b29] at h
                    by_cases b37 : x2 = 7
                    · rw [if_pos b37] at h
                      refine ev_tsIn (t := 215) (off := 176) (pc := 39) dX6_interest_39 (by rw [b37]; decide) (by rw [b37]; decide) (by rw [b37]; decide) (by decide) ?_
                      obtain ⟨v38, e39, h⟩ := rb_bd h
                      refine ev_aload_n (v := 0) (pc := 215) dX6_interest_215 rfl ?_
                      refine ev_getr (q := 5) (pc := 216) dX6_interest_216 fl_RX6_13 rfl rfl ?_
                      refine ev_sipush (v := 467) (pc := 219) dX6_interest_219 ks_467 ?_
                      refine ev_iload (v := j3) (pc := 222) dX6_interest_222 rfl ?_
                      refine ev_iadd (pc := 224) dX6_interest_224 ?_
                      refine ev_iald (pc := 225) dX6_interest_225 rfl e39 ?_
                      obtain rfl := Option.some.inj h
                      exact ev_iret (pc := 226) dX6_interest_226 rfl rfl rfl hfin
                    · rw [if_neg b37] at h
                      by_cases b40 : x2 = 8
                      · rw [if_pos b40] at h
                        refine ev_tsIn (t := 227) (off := 188) (pc := 39) dX6_interest_39 (by rw [b40]; decide) (by rw [b40]; decide) (by rw [b40]; decide) (by decide) ?_
                        obtain ⟨v41, e42, h⟩ := rb_bd h
                        refine ev_aload_n (v := 0) (pc := 227) dX6_interest_227 rfl ?_
                        refine ev_getr (q := 5) (pc := 228) dX6_interest_228 fl_RX6_13 rfl rfl ?_
                        refine ev_sipush (v := 491) (pc := 231) dX6_interest_231 ks_491 ?_
                        refine ev_iload (v := j3) (pc := 234) dX6_interest_234 rfl ?_
                        refine ev_iadd (pc := 236) dX6_interest_236 ?_
                        refine ev_iald (pc := 237) dX6_interest_237 rfl e42 ?_
                        obtain rfl := Option.some.inj h
                        exact ev_iret (pc := 238) dX6_interest_238 rfl rfl rfl hfin
                      · rw [if_neg b40] at h
                        by_cases b43 : x2 = 9
                        · rw [if_pos b43] at h
                          refine ev_tsIn (t := 239) (off := 200) (pc := 39) dX6_interest_39 (by rw [b43]; decide) (by rw [b43]; decide) (by rw [b43]; decide) (by decide) ?_
                          obtain ⟨v44, e45, h⟩ := rb_bd h
                          refine ev_aload_n (v := 0) (pc := 239) dX6_interest_239 rfl ?_
                          refine ev_getr (q := 5) (pc := 240) dX6_interest_240 fl_RX6_13 rfl rfl ?_
                          refine ev_sipush (v := 515) (pc := 243) dX6_interest_243 ks_515 ?_
                          refine ev_iload (v := j3) (pc := 246) dX6_interest_246 rfl ?_
                          refine ev_iadd (pc := 248) dX6_interest_248 ?_
                          refine ev_iald (pc := 249) dX6_interest_249 rfl e45 ?_
                          obtain rfl := Option.some.inj h
                          exact ev_iret (pc := 250) dX6_interest_250 rfl rfl rfl hfin
                        · rw [if_neg b43] at h
                          refine ev_tsOut (t := 251) (pc := 39) dX6_interest_39 (rb_tsS (k := 9) (by decide) b43 (rb_tsS (k := 8) (by decide) b40 (rb_tsS (k := 7) (by decide) b37 (rb_tsS (k := 6) (by decide) b29 (rb_tsS (k := 5) (by decide) b25 (rb_tsS (k := 4) (by decide) b22 (rb_tsS (k := 3) (by decide) b19 (rb_tsS (k := 2) (by decide) b16 (rb_tsS (k := 1) (by decide) b13 (rb_tsS (k := 0) (by decide) b10 (rb_ts0 _))))))))))) (by decide) ?_
                          refine ev_iconst (v := (-1)) (pc := 251) dX6_interest_251 ki_m1 ?_
                          obtain rfl := Option.some.inj h
                          exact ev_iret (pc := 252) dX6_interest_252 rfl rfl rfl hfin
    · rw [if_neg b9] at h
      refine ev_if_ge_f (t := 38) (pc := 33) dX6_interest_33 (by decide) b9 ?_
      refine ev_iconst (v := (-1)) (pc := 36) dX6_interest_36 ki_m1 ?_
      obtain rfl := Option.some.inj h
      exact ev_iret (pc := 37) dX6_interest_37 rfl rfl rfl hfin
  replace h := e4
  by_cases b6 : 0 ≤ t1
  · rw [if_pos b6] at h
    refine ev_if_ge_t (t := 16) (pc := 9) dX6_interest_9 (by decide) b6 ?_
    obtain ⟨t7, e8, h⟩ := rb_bd h
    refine ev_aload_n (v := 0) (pc := 16) dX6_interest_16 rfl ?_
    refine ev_getr (q := 1) (pc := 17) dX6_interest_17 fl_RX6_22 rfl rfl ?_
    refine ev_getr (q := 3) (pc := 20) dX6_interest_20 fl_RX6_137 rfl rfl ?_
    refine ev_iload (v := t1) (pc := 23) dX6_interest_23 rfl ?_
    refine ev_iload_n (v := x1) (pc := 25) dX6_interest_25 rfl ?_
    refine ev_cVi2 (pc := 26) dX6_interest_26 mv_X1_ofSet lk_RX6_184 rp_3 (ct0_X1_ofSet _ _ _ _ _ rfl e8) (Nat.le_of_ble_eq_true rfl) (Nat.le_of_ble_eq_true rfl) ?_
    obtain rfl := Option.some.inj h
    exact ev_fg (L := [some (.inr 0), none, none, some (.inl x2), none, none]) (And.intro rfl (And.intro rfl True.intro)) (hj5)
  · rw [if_neg b6] at h
    refine ev_if_ge_f (t := 16) (pc := 9) dX6_interest_9 (by decide) b6 ?_
    refine ev_iconst (v := (-1)) (pc := 12) dX6_interest_12 ki_m1 ?_
    refine ev_goto (t := 29) (pc := 13) dX6_interest_13 (by decide) ?_
    obtain rfl := Option.some.inj h
    exact ev_fg (L := [some (.inr 0), none, none, some (.inl x2), none, none]) (And.intro rfl (And.intro rfl True.intro)) (hj5)
def XX6_listed (c0 : rb_Row) (x0 : Int32) : Option (Int32) := (XX6_setOf c0 x0).bind fun t1 => if 0 ≤ t1 then (XX1_listedBy c0 t1).bind fun t4 => some t4 else some (-1)
set_option maxHeartbeats 4000000 in
set_option maxRecDepth 20000 in
theorem ct_X6_listed (μ : rb_Mem) (c0 : rb_Row) (x0 : Int32) (o : Int32) (hc0 : μ 5 = c0) (h : XX6_listed c0 x0 = some o) : rb_Ct yX6_listed cX6_listed 3 (some .int) 3 [.inr 0, .inl x0] μ (some o) μ := by
  unfold XX6_listed at h
  have hini : rb_ov μ [(5, c0)] = μ := rb_ov_sf _ _ (And.intro hc0 True.intro)
  have hfin := hini
  refine rb_cti (w := [(5, c0)]) rfl pn_6 (Nat.le_of_ble_eq_true rfl) rfl hini ?_
  obtain ⟨t1, e2, h⟩ := rb_bd h
  refine ev_aload_n (v := 0) (pc := 0) dX6_listed_0 rfl ?_
  refine ev_iload_n (v := x0) (pc := 1) dX6_listed_1 rfl ?_
  refine ev_cVi1 (pc := 2) dX6_listed_2 mv_X6_setOf lk_RX6_181 rp_0 (ct_X6_setOf _ _ _ _ rfl e2) (Nat.le_of_ble_eq_true rfl) (Nat.le_of_ble_eq_true rfl) ?_
  refine ev_istore_n (L' := [some (.inr 0), some (.inl x0), some (.inl t1)]) (pc := 5) dX6_listed_5 (Nat.le_of_ble_eq_true rfl) rfl ?_
  refine ev_iload_n (v := t1) (pc := 6) dX6_listed_6 rfl ?_
  by_cases b3 : 0 ≤ t1
  · rw [if_pos b3] at h
    refine ev_if_ge_t (t := 14) (pc := 7) dX6_listed_7 (by decide) b3 ?_
    obtain ⟨t4, e5, h⟩ := rb_bd h
    refine ev_aload_n (v := 0) (pc := 14) dX6_listed_14 rfl ?_
    refine ev_getr (q := 1) (pc := 15) dX6_listed_15 fl_RX6_22 rfl rfl ?_
    refine ev_getr (q := 3) (pc := 18) dX6_listed_18 fl_RX6_137 rfl rfl ?_
    refine ev_iload_n (v := t1) (pc := 21) dX6_listed_21 rfl ?_
    refine ev_cVi1 (pc := 22) dX6_listed_22 mv_X1_listedBy lk_RX6_193 rp_3 (ct0_X1_listedBy _ _ _ _ rfl e5) (Nat.le_of_ble_eq_true rfl) (Nat.le_of_ble_eq_true rfl) ?_
    obtain rfl := Option.some.inj h
    exact ev_iret (pc := 25) dX6_listed_25 rfl rfl rfl hfin
  · rw [if_neg b3] at h
    refine ev_if_ge_f (t := 14) (pc := 7) dX6_listed_7 (by decide) b3 ?_
    refine ev_iconst (v := (-1)) (pc := 10) dX6_listed_10 ki_m1 ?_
    refine ev_goto (t := 25) (pc := 11) dX6_listed_11 (by decide) ?_
    obtain rfl := Option.some.inj h
    exact ev_iret (pc := 25) dX6_listed_25 rfl rfl rfl hfin
def XX6_shows (c0 : rb_Row) (x0 : Int32) : Option (Int32) := (XX6_setOf c0 x0).bind fun t1 => if 0 ≤ t1 then (XX1_shownBy c0 t1).bind fun t4 => some t4 else some (-1)
set_option maxHeartbeats 4000000 in
set_option maxRecDepth 20000 in
theorem ct_X6_shows (μ : rb_Mem) (c0 : rb_Row) (x0 : Int32) (o : Int32) (hc0 : μ 5 = c0) (h : XX6_shows c0 x0 = some o) : rb_Ct yX6_shows cX6_shows 3 (some .int) 9 [.inr 0, .inl x0] μ (some o) μ := by
  unfold XX6_shows at h
  have hini : rb_ov μ [(5, c0)] = μ := rb_ov_sf _ _ (And.intro hc0 True.intro)
  have hfin := hini
  refine rb_cti (w := [(5, c0)]) rfl pn_6 (Nat.le_of_ble_eq_true rfl) rfl hini ?_
  obtain ⟨t1, e2, h⟩ := rb_bd h
  refine ev_aload_n (v := 0) (pc := 0) dX6_shows_0 rfl ?_
  refine ev_iload_n (v := x0) (pc := 1) dX6_shows_1 rfl ?_
  refine ev_cVi1 (pc := 2) dX6_shows_2 mv_X6_setOf lk_RX6_181 rp_0 (ct_X6_setOf _ _ _ _ rfl e2) (Nat.le_of_ble_eq_true rfl) (Nat.le_of_ble_eq_true rfl) ?_
  refine ev_istore_n (L' := [some (.inr 0), some (.inl x0), some (.inl t1)]) (pc := 5) dX6_shows_5 (Nat.le_of_ble_eq_true rfl) rfl ?_
  refine ev_iload_n (v := t1) (pc := 6) dX6_shows_6 rfl ?_
  by_cases b3 : 0 ≤ t1
  · rw [if_pos b3] at h
    refine ev_if_ge_t (t := 14) (pc := 7) dX6_shows_7 (by decide) b3 ?_
    obtain ⟨t4, e5, h⟩ := rb_bd h
    refine ev_aload_n (v := 0) (pc := 14) dX6_shows_14 rfl ?_
    refine ev_getr (q := 1) (pc := 15) dX6_shows_15 fl_RX6_22 rfl rfl ?_
    refine ev_getr (q := 3) (pc := 18) dX6_shows_18 fl_RX6_137 rfl rfl ?_
    refine ev_iload_n (v := t1) (pc := 21) dX6_shows_21 rfl ?_
    refine ev_cVi1 (pc := 22) dX6_shows_22 mv_X1_shownBy lk_RX6_196 rp_3 (ct0_X1_shownBy _ _ _ _ rfl e5) (Nat.le_of_ble_eq_true rfl) (Nat.le_of_ble_eq_true rfl) ?_
    obtain rfl := Option.some.inj h
    exact ev_iret (pc := 25) dX6_shows_25 rfl rfl rfl hfin
  · rw [if_neg b3] at h
    refine ev_if_ge_f (t := 14) (pc := 7) dX6_shows_7 (by decide) b3 ?_
    refine ev_iconst (v := (-1)) (pc := 10) dX6_shows_10 ki_m1 ?_
    refine ev_goto (t := 25) (pc := 11) dX6_shows_11 (by decide) ?_
    obtain rfl := Option.some.inj h
    exact ev_iret (pc := 25) dX6_shows_25 rfl rfl rfl hfin
def XX6_shown (c0 : rb_Row) (x0 : Int32) (x1 : Int32) : Option (Int32) := (XX6_setOf c0 x0).bind fun t1 => ((if 0 ≤ t1 then (XX1_showing c0 t1 x1).bind fun t7 => some t7 else some (-1)) : Option (Int32)).bind fun j3 => if 0 ≤ j3 then (rb_rd c0 773 (347 + j3)).bind fun v10 => some v10 else some (-1)
set_option maxHeartbeats 4000000 in
set_option maxRecDepth 20000 in
theorem ct_X6_shown (μ : rb_Mem) (c0 : rb_Row) (x0 : Int32) (x1 : Int32) (o : Int32) (hc0 : μ 5 = c0) (h : XX6_shown c0 x0 x1 = some o) : rb_Ct yX6_shown cX6_shown 5 (some .int) 9 [.inr 0, .inl x0, .inl x1] μ (some o) μ := by
  unfold XX6_shown at h
  have hini : rb_ov μ [(5, c0)] = μ := rb_ov_sf _ _ (And.intro hc0 True.intro)
  have hfin := hini
  refine rb_cti (w := [(5, c0)]) rfl pn_6 (Nat.le_of_ble_eq_true rfl) rfl hini ?_
  obtain ⟨t1, e2, h⟩ := rb_bd h
  refine ev_aload_n (v := 0) (pc := 0) dX6_shown_0 rfl ?_
  refine ev_iload_n (v := x0) (pc := 1) dX6_shown_1 rfl ?_
  refine ev_cVi1 (pc := 2) dX6_shown_2 mv_X6_setOf lk_RX6_181 rp_0 (ct_X6_setOf _ _ _ _ rfl e2) (Nat.le_of_ble_eq_true rfl) (Nat.le_of_ble_eq_true rfl) ?_
  refine ev_istore_n (L' := [some (.inr 0), some (.inl x0), some (.inl x1), some (.inl t1), none]) (pc := 5) dX6_shown_5 (Nat.le_of_ble_eq_true rfl) rfl ?_
  refine ev_iload_n (v := t1) (pc := 6) dX6_shown_6 rfl ?_
  obtain ⟨j3, e4, h⟩ := rb_bd h
  have hj5 : rb_Ev RX6 cX6_shown 5 (some .int) none 9 (some o) μ 26 [some (.inr 0), none, none, none, none] [.inl j3] (rb_ov μ [(5, c0)]) := by
    refine ev_istore (L' := [some (.inr 0), none, none, none, some (.inl j3)]) (pc := 26) dX6_shown_26 (Nat.le_of_ble_eq_true rfl) rfl ?_
    refine ev_iload (v := j3) (pc := 28) dX6_shown_28 rfl ?_
    by_cases b9 : 0 ≤ j3
    · rw [if_pos b9] at h
      refine ev_if_ge_t (t := 37) (pc := 30) dX6_shown_30 (by decide) b9 ?_
      obtain ⟨v10, e11, h⟩ := rb_bd h
      refine ev_aload_n (v := 0) (pc := 37) dX6_shown_37 rfl ?_
      refine ev_getr (q := 5) (pc := 38) dX6_shown_38 fl_RX6_13 rfl rfl ?_
      refine ev_sipush (v := 347) (pc := 41) dX6_shown_41 ks_347 ?_
      refine ev_iload (v := j3) (pc := 44) dX6_shown_44 rfl ?_
      refine ev_iadd (pc := 46) dX6_shown_46 ?_
      refine ev_iald (pc := 47) dX6_shown_47 rfl e11 ?_
      obtain rfl := Option.some.inj h
      exact ev_iret (pc := 48) dX6_shown_48 rfl rfl rfl hfin
    · rw [if_neg b9] at h
      refine ev_if_ge_f (t := 37) (pc := 30) dX6_shown_30 (by decide) b9 ?_
      refine ev_iconst (v := (-1)) (pc := 33) dX6_shown_33 ki_m1 ?_
      refine ev_goto (t := 48) (pc := 34) dX6_shown_34 (by decide) ?_
      obtain rfl := Option.some.inj h
      exact ev_iret (pc := 48) dX6_shown_48 rfl rfl rfl hfin
  replace h := e4
  by_cases b6 : 0 ≤ t1
  · rw [if_pos b6] at h
    refine ev_if_ge_t (t := 14) (pc := 7) dX6_shown_7 (by decide) b6 ?_
    obtain ⟨t7, e8, h⟩ := rb_bd h
    refine ev_aload_n (v := 0) (pc := 14) dX6_shown_14 rfl ?_
    refine ev_getr (q := 1) (pc := 15) dX6_shown_15 fl_RX6_22 rfl rfl ?_
    refine ev_getr (q := 3) (pc := 18) dX6_shown_18 fl_RX6_137 rfl rfl ?_
    refine ev_iload_n (v := t1) (pc := 21) dX6_shown_21 rfl ?_
    refine ev_iload_n (v := x1) (pc := 22) dX6_shown_22 rfl ?_
    refine ev_cVi2 (pc := 23) dX6_shown_23 mv_X1_showing lk_RX6_199 rp_3 (ct0_X1_showing _ _ _ _ _ rfl e8) (Nat.le_of_ble_eq_true rfl) (Nat.le_of_ble_eq_true rfl) ?_
    obtain rfl := Option.some.inj h
    exact ev_fg (L := [some (.inr 0), none, none, none, none]) (And.intro rfl True.intro) (hj5)
  · rw [if_neg b6] at h
    refine ev_if_ge_f (t := 14) (pc := 7) dX6_shown_7 (by decide) b6 ?_
    refine ev_iconst (v := (-1)) (pc := 10) dX6_shown_10 ki_m1 ?_
    refine ev_goto (t := 26) (pc := 11) dX6_shown_11 (by decide) ?_
    obtain rfl := Option.some.inj h
    exact ev_fg (L := [some (.inr 0), none, none, none, none]) (And.intro rfl True.intro) (hj5)
def XX6_depth (c0 : rb_Row) (x0 : Int32) : Option (Int32) := (XX6_setOf c0 x0).bind fun t1 => if 0 ≤ t1 then (XX1_deepBelow 5 c0 t1 1).bind fun t4 => some t4 else some (-1)
set_option maxHeartbeats 4000000 in
set_option maxRecDepth 20000 in
theorem ct_X6_depth (μ : rb_Mem) (c0 : rb_Row) (x0 : Int32) (o : Int32) (hc0 : μ 5 = c0) (h : XX6_depth c0 x0 = some o) : rb_Ct yX6_depth cX6_depth 3 (some .int) 7 [.inr 0, .inl x0] μ (some o) μ := by
  unfold XX6_depth at h
  have hini : rb_ov μ [(5, c0)] = μ := rb_ov_sf _ _ (And.intro hc0 True.intro)
  have hfin := hini
  refine rb_cti (w := [(5, c0)]) rfl pn_6 (Nat.le_of_ble_eq_true rfl) rfl hini ?_
  obtain ⟨t1, e2, h⟩ := rb_bd h
  refine ev_aload_n (v := 0) (pc := 0) dX6_depth_0 rfl ?_
  refine ev_iload_n (v := x0) (pc := 1) dX6_depth_1 rfl ?_
  refine ev_cVi1 (pc := 2) dX6_depth_2 mv_X6_setOf lk_RX6_181 rp_0 (ct_X6_setOf _ _ _ _ rfl e2) (Nat.le_of_ble_eq_true rfl) (Nat.le_of_ble_eq_true rfl) ?_
  refine ev_istore_n (L' := [some (.inr 0), some (.inl x0), some (.inl t1)]) (pc := 5) dX6_depth_5 (Nat.le_of_ble_eq_true rfl) rfl ?_
  refine ev_iload_n (v := t1) (pc := 6) dX6_depth_6 rfl ?_
  by_cases b3 : 0 ≤ t1
  · rw [if_pos b3] at h
    refine ev_if_ge_t (t := 14) (pc := 7) dX6_depth_7 (by decide) b3 ?_
    obtain ⟨t4, e5, h⟩ := rb_bd h
    refine ev_aload_n (v := 0) (pc := 14) dX6_depth_14 rfl ?_
    refine ev_getr (q := 1) (pc := 15) dX6_depth_15 fl_RX6_22 rfl rfl ?_
    refine ev_getr (q := 3) (pc := 18) dX6_depth_18 fl_RX6_137 rfl rfl ?_
    refine ev_iload_n (v := t1) (pc := 21) dX6_depth_21 rfl ?_
    refine ev_iconst (v := 1) (pc := 22) dX6_depth_22 ki_1 ?_
    refine ev_cVi2 (pc := 23) dX6_depth_23 mv_X1_deepBelow lk_RX6_202 rp_3 (ct0_X1_deepBelow 5 _ _ _ _ _ rfl e5) (Nat.le_of_ble_eq_true rfl) (Nat.le_of_ble_eq_true rfl) ?_
    obtain rfl := Option.some.inj h
    exact ev_iret (pc := 26) dX6_depth_26 rfl rfl rfl hfin
  · rw [if_neg b3] at h
    refine ev_if_ge_f (t := 14) (pc := 7) dX6_depth_7 (by decide) b3 ?_
    refine ev_iconst (v := (-1)) (pc := 10) dX6_depth_10 ki_m1 ?_
    refine ev_goto (t := 26) (pc := 11) dX6_depth_11 (by decide) ?_
    obtain rfl := Option.some.inj h
    exact ev_iret (pc := 26) dX6_depth_26 rfl rfl rfl hfin
def XX6_sleeper (c0 : rb_Row) (x0 : Int32) (x1 : Int32) : Option (Int32) := (XX6_setOf c0 x0).bind fun t1 => if 0 ≤ t1 then (XX4_sleeping c0 t1 x1).bind fun t4 => some t4 else some (-1)
set_option maxHeartbeats 4000000 in
set_option maxRecDepth 20000 in
theorem ct_X6_sleeper (μ : rb_Mem) (c0 : rb_Row) (x0 : Int32) (x1 : Int32) (o : Int32) (hc0 : μ 5 = c0) (h : XX6_sleeper c0 x0 x1 = some o) : rb_Ct yX6_sleeper cX6_sleeper 4 (some .int) 3 [.inr 0, .inl x0, .inl x1] μ (some o) μ := by
  unfold XX6_sleeper at h
  have hini : rb_ov μ [(5, c0)] = μ := rb_ov_sf _ _ (And.intro hc0 True.intro)
  have hfin := hini
  refine rb_cti (w := [(5, c0)]) rfl pn_6 (Nat.le_of_ble_eq_true rfl) rfl hini ?_
  obtain ⟨t1, e2, h⟩ := rb_bd h
  refine ev_aload_n (v := 0) (pc := 0) dX6_sleeper_0 rfl ?_
  refine ev_iload_n (v := x0) (pc := 1) dX6_sleeper_1 rfl ?_
  refine ev_cVi1 (pc := 2) dX6_sleeper_2 mv_X6_setOf lk_RX6_181 rp_0 (ct_X6_setOf _ _ _ _ rfl e2) (Nat.le_of_ble_eq_true rfl) (Nat.le_of_ble_eq_true rfl) ?_
  refine ev_istore_n (L' := [some (.inr 0), some (.inl x0), some (.inl x1), some (.inl t1)]) (pc := 5) dX6_sleeper_5 (Nat.le_of_ble_eq_true rfl) rfl ?_
  refine ev_iload_n (v := t1) (pc := 6) dX6_sleeper_6 rfl ?_
  by_cases b3 : 0 ≤ t1
  · rw [if_pos b3] at h
    refine ev_if_ge_t (t := 14) (pc := 7) dX6_sleeper_7 (by decide) b3 ?_
    obtain ⟨t4, e5, h⟩ := rb_bd h
    refine ev_aload_n (v := 0) (pc := 14) dX6_sleeper_14 rfl ?_
    refine ev_getr (q := 1) (pc := 15) dX6_sleeper_15 fl_RX6_22 rfl rfl ?_
    refine ev_getr (q := 4) (pc := 18) dX6_sleeper_18 fl_RX6_169 rfl rfl ?_
    refine ev_iload_n (v := t1) (pc := 21) dX6_sleeper_21 rfl ?_
    refine ev_iload_n (v := x1) (pc := 22) dX6_sleeper_22 rfl ?_
    refine ev_cVi2 (pc := 23) dX6_sleeper_23 mv_X4_sleeping lk_RX6_205 rp_4 (ct0_X4_sleeping _ _ _ _ _ rfl e5) (Nat.le_of_ble_eq_true rfl) (Nat.le_of_ble_eq_true rfl) ?_
    obtain rfl := Option.some.inj h
    exact ev_iret (pc := 26) dX6_sleeper_26 rfl rfl rfl hfin
  · rw [if_neg b3] at h
    refine ev_if_ge_f (t := 14) (pc := 7) dX6_sleeper_7 (by decide) b3 ?_
    refine ev_iconst (v := (-1)) (pc := 10) dX6_sleeper_10 ki_m1 ?_
    refine ev_goto (t := 26) (pc := 11) dX6_sleeper_11 (by decide) ?_
    obtain rfl := Option.some.inj h
    exact ev_iret (pc := 26) dX6_sleeper_26 rfl rfl rfl hfin
def XX6_task (c0 : rb_Row) (x0 : Int32) (x1 : Int32) : Option (Int32) := (XX6_isTask x0).bind fun t1 => if t1 = 0 then some (-1) else if x1 = 0 then (rb_rd c0 773 (539 + x0)).bind fun v5 => if v5 < 0 then some 0 else some 1 else if x1 = 1 then (rb_rd c0 773 (539 + x0)).bind fun v9 => (XX5_lowestHandle c0 v9).bind fun t11 => some t11 else if x1 = 2 then (rb_rd c0 773 (563 + x0)).bind fun v14 => some v14 else if x1 = 3 then (rb_rd c0 773 (569 + x0)).bind fun v17 => some v17 else if x1 = 4 then (rb_rd c0 773 (575 + x0)).bind fun v20 => some v20 else if x1 = 5 then (rb_rd c0 773 (581 + x0)).bind fun v23 => some v23 else if x1 = 6 then (rb_rd c0 773 (587 + x0)).bind fun v26 => some v26 else if x1 = 7 then (rb_rd c0 773 (557 + x0)).bind fun v29 => some v29 else if x1 = 8 then (rb_rd c0 773 (599 + x0)).bind fun v32 => some v32 else if x1 = 9 then (rb_rd c0 773 (593 + x0)).bind fun v35 => some v35 else some (-1)
set_option maxHeartbeats 4000000 in
set_option maxRecDepth 20000 in
theorem ct_X6_task (μ : rb_Mem) (c0 : rb_Row) (x0 : Int32) (x1 : Int32) (o : Int32) (hc0 : μ 5 = c0) (h : XX6_task c0 x0 x1 = some o) : rb_Ct yX6_task cX6_task 3 (some .int) 2 [.inr 0, .inl x0, .inl x1] μ (some o) μ := by
  unfold XX6_task at h
  have hini : rb_ov μ [(5, c0)] = μ := rb_ov_sf _ _ (And.intro hc0 True.intro)
  have hfin := hini
  refine rb_cti (w := [(5, c0)]) rfl pn_6 (Nat.le_of_ble_eq_true rfl) rfl hini ?_
  obtain ⟨t1, e2, h⟩ := rb_bd h
  refine ev_iload_n (v := x0) (pc := 0) dX6_task_0 rfl ?_
  refine ev_cSi1 (pc := 1) dX6_task_1 ms_X6_isTask lk_RX6_208 (ct_X6_isTask _ _ _ e2) (Nat.le_of_ble_eq_true rfl) (Nat.le_of_ble_eq_true rfl) ?_
  by_cases b3 : t1 = 0
  · rw [if_pos b3] at h
    refine ev_if_ne_f (t := 9) (pc := 4) dX6_task_4 (by decide) b3 ?_
    refine ev_iconst (v := (-1)) (pc := 7) dX6_task_7 ki_m1 ?_
    obtain rfl := Option.some.inj h
    exact ev_iret (pc := 8) dX6_task_8 rfl rfl rfl hfin
  · rw [if_neg b3] at h
    refine ev_if_ne_t (t := 9) (pc := 4) dX6_task_4 (by decide) b3 ?_
    refine ev_iload_n (v := x1) (pc := 9) dX6_task_9 rfl ?_
    by_cases b4 : x1 = 0
    · rw [if_pos b4] at h
      refine ev_tsIn (t := 64) (off := 54) (pc := 10) dX6_task_10 (by rw [b4]; decide) (by rw [b4]; decide) (by rw [b4]; decide) (by decide) ?_
      obtain ⟨v5, e6, h⟩ := rb_bd h
      refine ev_aload_n (v := 0) (pc := 64) dX6_task_64 rfl ?_
      refine ev_getr (q := 5) (pc := 65) dX6_task_65 fl_RX6_13 rfl rfl ?_
      refine ev_sipush (v := 539) (pc := 68) dX6_task_68 ks_539 ?_
      refine ev_iload_n (v := x0) (pc := 71) dX6_task_71 rfl ?_
      refine ev_iadd (pc := 72) dX6_task_72 ?_
      refine ev_iald (pc := 73) dX6_task_73 rfl e6 ?_
      by_cases b7 : v5 < 0
      · rw [if_pos b7] at h
        refine ev_if_lt_t (t := 81) (pc := 74) dX6_task_74 (by decide) b7 ?_
        refine ev_iconst (v := 0) (pc := 81) dX6_task_81 ki_0 ?_
        obtain rfl := Option.some.inj h
        exact ev_iret (pc := 82) dX6_task_82 rfl rfl rfl hfin
      · rw [if_neg b7] at h
        refine ev_if_lt_f (t := 81) (pc := 74) dX6_task_74 (by decide) b7 ?_
        refine ev_iconst (v := 1) (pc := 77) dX6_task_77 ki_1 ?_
        refine ev_goto (t := 82) (pc := 78) dX6_task_78 (by decide) ?_
        obtain rfl := Option.some.inj h
        exact ev_iret (pc := 82) dX6_task_82 rfl rfl rfl hfin
    · rw [if_neg b4] at h
      by_cases b8 : x1 = 1
      · rw [if_pos b8] at h
        refine ev_tsIn (t := 83) (off := 73) (pc := 10) dX6_task_10 (by rw [b8]; decide) (by rw [b8]; decide) (by rw [b8]; decide) (by decide) ?_
        obtain ⟨v9, e10, h⟩ := rb_bd h
        obtain ⟨t11, e12, h⟩ := rb_bd h
        refine ev_aload_n (v := 0) (pc := 83) dX6_task_83 rfl ?_
        refine ev_getr (q := 1) (pc := 84) dX6_task_84 fl_RX6_22 rfl rfl ?_
        refine ev_getr (q := 2) (pc := 87) dX6_task_87 fl_RX6_65 rfl rfl ?_
        refine ev_aload_n (v := 0) (pc := 90) dX6_task_90 rfl ?_
        refine ev_getr (q := 5) (pc := 91) dX6_task_91 fl_RX6_13 rfl rfl ?_
        refine ev_sipush (v := 539) (pc := 94) dX6_task_94 ks_539 ?_
        refine ev_iload_n (v := x0) (pc := 97) dX6_task_97 rfl ?_
        refine ev_iadd (pc := 98) dX6_task_98 ?_
        refine ev_iald (pc := 99) dX6_task_99 rfl e10 ?_
        refine ev_cVi1 (pc := 100) dX6_task_100 mv_X5_lowestHandle lk_RX6_178 rp_2 (ct0_X5_lowestHandle _ _ _ _ rfl e12) (Nat.le_of_ble_eq_true rfl) (Nat.le_of_ble_eq_true rfl) ?_
        obtain rfl := Option.some.inj h
        exact ev_iret (pc := 103) dX6_task_103 rfl rfl rfl hfin
      · rw [if_neg b8] at h
        by_cases b13 : x1 = 2
        · rw [if_pos b13] at h
          refine ev_tsIn (t := 104) (off := 94) (pc := 10) dX6_task_10 (by rw [b13]; decide) (by rw [b13]; decide) (by rw [b13]; decide) (by decide) ?_
          obtain ⟨v14, e15, h⟩ := rb_bd h
          refine ev_aload_n (v := 0) (pc := 104) dX6_task_104 rfl ?_
          refine ev_getr (q := 5) (pc := 105) dX6_task_105 fl_RX6_13 rfl rfl ?_
          refine ev_sipush (v := 563) (pc := 108) dX6_task_108 ks_563 ?_
          refine ev_iload_n (v := x0) (pc := 111) dX6_task_111 rfl ?_
          refine ev_iadd (pc := 112) dX6_task_112 ?_
          refine ev_iald (pc := 113) dX6_task_113 rfl e15 ?_
          obtain rfl := Option.some.inj h
          exact ev_iret (pc := 114) dX6_task_114 rfl rfl rfl hfin
        · rw [if_neg b13] at h
          by_cases b16 : x1 = 3
          · rw [if_pos b16] at h
            refine ev_tsIn (t := 115) (off := 105) (pc := 10) dX6_task_10 (by rw [b16]; decide) (by rw [b16]; decide) (by rw [b16]; decide) (by decide) ?_
            obtain ⟨v17, e18, h⟩ := rb_bd h
            refine ev_aload_n (v := 0) (pc := 115) dX6_task_115 rfl ?_
            refine ev_getr (q := 5) (pc := 116) dX6_task_116 fl_RX6_13 rfl rfl ?_
            refine ev_sipush (v := 569) (pc := 119) dX6_task_119 ks_569 ?_
            refine ev_iload_n (v := x0) (pc := 122) dX6_task_122 rfl ?_
            refine ev_iadd (pc := 123) dX6_task_123 ?_
            refine ev_iald (pc := 124) dX6_task_124 rfl e18 ?_
            obtain rfl := Option.some.inj h
            exact ev_iret (pc := 125) dX6_task_125 rfl rfl rfl hfin
          · rw [if_neg b16] at h
            by_cases b19 : x1 = 4
            · rw [if_pos b19] at h
              refine ev_tsIn (t := 126) (off := 116) (pc := 10) dX6_task_10 (by rw [b19]; decide) (by rw [b19]; decide) (by rw [b19]; decide) (by decide) ?_
              obtain ⟨v20, e21, h⟩ := rb_bd h
              refine ev_aload_n (v := 0) (pc := 126) dX6_task_126 rfl ?_
              refine ev_getr (q := 5) (pc := 127) dX6_task_127 fl_RX6_13 rfl rfl ?_
              refine ev_sipush (v := 575) (pc := 130) dX6_task_130 ks_575 ?_
              refine ev_iload_n (v := x0) (pc := 133) dX6_task_133 rfl ?_
              refine ev_iadd (pc := 134) dX6_task_134 ?_
              refine ev_iald (pc := 135) dX6_task_135 rfl e21 ?_
              obtain rfl := Option.some.inj h
              exact ev_iret (pc := 136) dX6_task_136 rfl rfl rfl hfin
            · rw [if_neg b19] at h
              by_cases b22 : x1 = 5
              · rw [if_pos b22] at h
                refine ev_tsIn (t := 137) (off := 127) (pc := 10) dX6_task_10 (by rw [b22]; decide) (by rw [b22]; decide) (by rw [b22]; decide) (by decide) ?_
                obtain ⟨v23, e24, h⟩ := rb_bd h
                refine ev_aload_n (v := 0) (pc := 137) dX6_task_137 rfl ?_
                refine ev_getr (q := 5) (pc := 138) dX6_task_138 fl_RX6_13 rfl rfl ?_
                refine ev_sipush (v := 581) (pc := 141) dX6_task_141 ks_581 ?_
                refine ev_iload_n (v := x0) (pc := 144) dX6_task_144 rfl ?_
                refine ev_iadd (pc := 145) dX6_task_145 ?_
                refine ev_iald (pc := 146) dX6_task_146 rfl e24 ?_
                obtain rfl := Option.some.inj h
                exact ev_iret (pc := 147) dX6_task_147 rfl rfl rfl hfin
              · rw [if_neg b22] at h
                by_cases b25 : x1 = 6
                · rw [if_pos b25] at h
                  refine ev_tsIn (t := 148) (off := 138) (pc := 10) dX6_task_10 (by rw [b25]; decide) (by rw [b25]; decide) (by rw [b25]; decide) (by decide) ?_
                  obtain ⟨v26, e27, h⟩ := rb_bd h
                  refine ev_aload_n (v := 0) (pc := 148) dX6_task_148 rfl ?_
                  refine ev_getr (q := 5) (pc := 149) dX6_task_149 fl_RX6_13 rfl rfl ?_
                  refine ev_sipush (v := 587) (pc := 152) dX6_task_152 ks_587 ?_
                  refine ev_iload_n (v := x0) (pc := 155) dX6_task_155 rfl ?_
                  refine ev_iadd (pc := 156) dX6_task_156 ?_
                  refine ev_iald (pc := 157) dX6_task_157 rfl e27 ?_
                  obtain rfl := Option.some.inj h
                  exact ev_iret (pc := 158) dX6_task_158 rfl rfl rfl hfin
                · rw [if_neg b25] at h
                  by_cases b28 : x1 = 7
                  · rw [if_pos b28] at h
                    refine ev_tsIn (t := 159) (off := 149) (pc := 10) dX6_task_10 (by rw [b28]; decide) (by rw [b28]; decide) (by rw [b28]; decide) (by decide) ?_
                    obtain ⟨v29, e30, h⟩ := rb_bd h
                    refine ev_aload_n (v := 0) (pc := 159) dX6_task_159 rfl ?_
                    refine ev_getr (q := 5) (pc := 160) dX6_task_160 fl_RX6_13 rfl rfl ?_
                    refine ev_sipush (v := 557) (pc := 163) dX6_task_163 ks_557 ?_
                    refine ev_iload_n (v := x0) (pc := 166) dX6_task_166 rfl ?_
                    refine ev_iadd (pc := 167) dX6_task_167 ?_
                    refine ev_iald (pc := 168) dX6_task_168 rfl e30 ?_
                    obtain rfl := Option.some.inj h
                    exact ev_iret (pc := 169) dX6_task_169 rfl rfl rfl hfin
                  · rw [if_neg b28] at h
                    by_cases b31 : x1 = 8
                    · rw [if_pos b31] at h
                      refine ev_tsIn (t := 170) (off := 160) (pc := 10) dX6_task_10 (by rw [b31]; decide) (by rw [b31]; decide) (by rw [b31]; decide) (by decide) ?_
                      obtain ⟨v32, e33, h⟩ := rb_bd h
                      refine ev_aload_n (v := 0) (pc := 170) dX6_task_170 rfl ?_
                      refine ev_getr (q := 5) (pc := 171) dX6_task_171 fl_RX6_13 rfl rfl ?_
                      refine ev_sipush (v := 599) (pc := 174) dX6_task_174 ks_599 ?_
                      refine ev_iload_n (v := x0) (pc := 177) dX6_task_177 rfl ?_
                      refine ev_iadd (pc := 178) dX6_task_178 ?_
                      refine ev_iald (pc := 179) dX6_task_179 rfl e33 ?_
                      obtain rfl := Option.some.inj h
                      exact ev_iret (pc := 180) dX6_task_180 rfl rfl rfl hfin
                    · rw [if_neg b31] at h
                      by_cases b34 : x1 = 9
                      · rw [if_pos b34] at h
                        refine ev_tsIn (t := 181) (off := 171) (pc := 10) dX6_task_10 (by rw [b34]; decide) (by rw [b34]; decide) (by rw [b34]; decide) (by decide) ?_
                        obtain ⟨v35, e36, h⟩ := rb_bd h
                        refine ev_aload_n (v := 0) (pc := 181) dX6_task_181 rfl ?_
                        refine ev_getr (q := 5) (pc := 182) dX6_task_182 fl_RX6_13 rfl rfl ?_
                        refine ev_sipush (v := 593) (pc := 185) dX6_task_185 ks_593 ?_
                        refine ev_iload_n (v := x0) (pc := 188) dX6_task_188 rfl ?_
                        refine ev_iadd (pc := 189) dX6_task_189 ?_
                        refine ev_iald (pc := 190) dX6_task_190 rfl e36 ?_
                        obtain rfl := Option.some.inj h
                        exact ev_iret (pc := 191) dX6_task_191 rfl rfl rfl hfin
                      · rw [if_neg b34] at h
                        refine ev_tsOut (t := 192) (pc := 10) dX6_task_10 (rb_tsS (k := 9) (by decide) b34 (rb_tsS (k := 8) (by decide) b31 (rb_tsS (k := 7) (by decide) b28 (rb_tsS (k := 6) (by decide) b25 (rb_tsS (k := 5) (by decide) b22 (rb_tsS (k := 4) (by decide) b19 (rb_tsS (k := 3) (by decide) b16 (rb_tsS (k := 2) (by decide) b13 (rb_tsS (k := 1) (by decide) b8 (rb_tsS (k := 0) (by decide) b4 (rb_ts0 _))))))))))) (by decide) ?_
                        refine ev_iconst (v := (-1)) (pc := 192) dX6_task_192 ki_m1 ?_
                        obtain rfl := Option.some.inj h
                        exact ev_iret (pc := 193) dX6_task_193 rfl rfl rfl hfin
def XX6_got (c0 : rb_Row) (x0 : Int32) (x1 : Int32) (x2 : Int32) : Option (Int32) := (XX6_isTask x0).bind fun t1 => if t1 = 0 then some (-1) else if x1 < 0 then some (-1) else (rb_rd c0 773 (563 + x0)).bind fun v5 => if x1 < v5 then if x2 = 0 then (rb_rd c0 773 ((677 + (x0 * 8)) + x1)).bind fun v9 => some v9 else if x2 = 1 then (rb_rd c0 773 ((725 + (x0 * 8)) + x1)).bind fun v12 => some v12 else some (-1) else some (-1)
set_option maxHeartbeats 4000000 in
set_option maxRecDepth 20000 in
theorem ct_X6_got (μ : rb_Mem) (c0 : rb_Row) (x0 : Int32) (x1 : Int32) (x2 : Int32) (o : Int32) (hc0 : μ 5 = c0) (h : XX6_got c0 x0 x1 x2 = some o) : rb_Ct yX6_got cX6_got 4 (some .int) 1 [.inr 0, .inl x0, .inl x1, .inl x2] μ (some o) μ := by
  unfold XX6_got at h
  have hini : rb_ov μ [(5, c0)] = μ := rb_ov_sf _ _ (And.intro hc0 True.intro)
  have hfin := hini
  refine rb_cti (w := [(5, c0)]) rfl pn_6 (Nat.le_of_ble_eq_true rfl) rfl hini ?_
  obtain ⟨t1, e2, h⟩ := rb_bd h
  refine ev_iload_n (v := x0) (pc := 0) dX6_got_0 rfl ?_
  refine ev_cSi1 (pc := 1) dX6_got_1 ms_X6_isTask lk_RX6_208 (ct_X6_isTask _ _ _ e2) (Nat.le_of_ble_eq_true rfl) (Nat.le_of_ble_eq_true rfl) ?_
  by_cases b3 : t1 = 0
  · rw [if_pos b3] at h
    refine ev_if_eq_t (t := 25) (pc := 4) dX6_got_4 (by decide) b3 ?_
    refine ev_iconst (v := (-1)) (pc := 25) dX6_got_25 ki_m1 ?_
    obtain rfl := Option.some.inj h
    exact ev_iret (pc := 26) dX6_got_26 rfl rfl rfl hfin
  · rw [if_neg b3] at h
    refine ev_if_eq_f (t := 25) (pc := 4) dX6_got_4 (by decide) b3 ?_
    refine ev_iload_n (v := x1) (pc := 7) dX6_got_7 rfl ?_
    by_cases b4 : x1 < 0
    · rw [if_pos b4] at h
      refine ev_if_lt_t (t := 25) (pc := 8) dX6_got_8 (by decide) b4 ?_
      refine ev_iconst (v := (-1)) (pc := 25) dX6_got_25 ki_m1 ?_
      obtain rfl := Option.some.inj h
      exact ev_iret (pc := 26) dX6_got_26 rfl rfl rfl hfin
    · rw [if_neg b4] at h
      refine ev_if_lt_f (t := 25) (pc := 8) dX6_got_8 (by decide) b4 ?_
      obtain ⟨v5, e6, h⟩ := rb_bd h
      refine ev_iload_n (v := x1) (pc := 11) dX6_got_11 rfl ?_
      refine ev_aload_n (v := 0) (pc := 12) dX6_got_12 rfl ?_
      refine ev_getr (q := 5) (pc := 13) dX6_got_13 fl_RX6_13 rfl rfl ?_
      refine ev_sipush (v := 563) (pc := 16) dX6_got_16 ks_563 ?_
      refine ev_iload_n (v := x0) (pc := 19) dX6_got_19 rfl ?_
      refine ev_iadd (pc := 20) dX6_got_20 ?_
      refine ev_iald (pc := 21) dX6_got_21 rfl e6 ?_
      by_cases b7 : x1 < v5
      · rw [if_pos b7] at h
        refine ev_icmp_lt_t (t := 27) (pc := 22) dX6_got_22 (by decide) b7 ?_
        refine ev_iload_n (v := x2) (pc := 27) dX6_got_27 rfl ?_
        by_cases b8 : x2 = 0
        · rw [if_pos b8] at h
          refine ev_lsw (t := 56) (off := 28) (pc := 28) dX6_got_28 (by decide) (by rw [b8]; decide) (by decide) ?_
          obtain ⟨v9, e10, h⟩ := rb_bd h
          refine ev_aload_n (v := 0) (pc := 56) dX6_got_56 rfl ?_
          refine ev_getr (q := 5) (pc := 57) dX6_got_57 fl_RX6_13 rfl rfl ?_
          refine ev_sipush (v := 677) (pc := 60) dX6_got_60 ks_677 ?_
          refine ev_iload_n (v := x0) (pc := 63) dX6_got_63 rfl ?_
          refine ev_bipush (v := 8) (pc := 64) dX6_got_64 kb_8 ?_
          refine ev_imul (pc := 66) dX6_got_66 ?_
          refine ev_iadd (pc := 67) dX6_got_67 ?_
          refine ev_iload_n (v := x1) (pc := 68) dX6_got_68 rfl ?_
          refine ev_iadd (pc := 69) dX6_got_69 ?_
          refine ev_iald (pc := 70) dX6_got_70 rfl e10 ?_
          obtain rfl := Option.some.inj h
          exact ev_iret (pc := 71) dX6_got_71 rfl rfl rfl hfin
        · rw [if_neg b8] at h
          by_cases b11 : x2 = 1
          · rw [if_pos b11] at h
            refine ev_lsw (t := 72) (off := 44) (pc := 28) dX6_got_28 (by decide) (by rw [b11]; decide) (by decide) ?_
            obtain ⟨v12, e13, h⟩ := rb_bd h
            refine ev_aload_n (v := 0) (pc := 72) dX6_got_72 rfl ?_
            refine ev_getr (q := 5) (pc := 73) dX6_got_73 fl_RX6_13 rfl rfl ?_
            refine ev_sipush (v := 725) (pc := 76) dX6_got_76 ks_725 ?_
            refine ev_iload_n (v := x0) (pc := 79) dX6_got_79 rfl ?_
            refine ev_bipush (v := 8) (pc := 80) dX6_got_80 kb_8 ?_
            refine ev_imul (pc := 82) dX6_got_82 ?_
            refine ev_iadd (pc := 83) dX6_got_83 ?_
            refine ev_iload_n (v := x1) (pc := 84) dX6_got_84 rfl ?_
            refine ev_iadd (pc := 85) dX6_got_85 ?_
            refine ev_iald (pc := 86) dX6_got_86 rfl e13 ?_
            obtain rfl := Option.some.inj h
            exact ev_iret (pc := 87) dX6_got_87 rfl rfl rfl hfin
          · rw [if_neg b11] at h
            refine ev_lsw (t := 88) (off := 60) (pc := 28) dX6_got_28 (by decide) (by show Op.lookupswitch.offset _ _ _ = _; rw [lv_osw b8 (by decide)]; rw [lv_osw b11 (by decide)]; rfl) (by decide) ?_
            refine ev_iconst (v := (-1)) (pc := 88) dX6_got_88 ki_m1 ?_
            obtain rfl := Option.some.inj h
            exact ev_iret (pc := 89) dX6_got_89 rfl rfl rfl hfin
      · rw [if_neg b7] at h
        refine ev_icmp_lt_f (t := 27) (pc := 22) dX6_got_22 (by decide) b7 ?_
        refine ev_iconst (v := (-1)) (pc := 25) dX6_got_25 ki_m1 ?_
        obtain rfl := Option.some.inj h
        exact ev_iret (pc := 26) dX6_got_26 rfl rfl rfl hfin
def XX6_wakes (c1 : rb_Row) (g1 : rb_Row) (f1 : rb_Row) (c0 : rb_Row) (x0 : Int32) : Option (Int32 × rb_Row × rb_Row × rb_Row) := (XX5_thingOf c0 x0).bind fun t1 => if 0 ≤ t1 then (XX6_rehearse c1 f1 c0).bind fun t4 => (XX0_writeTo t4.1 g1 t4.2 x0 1).bind fun t6 => some ((t6.2.2.2 7), t6.2.1, t6.2.2.1, t6.2.2.2) else some ((-1), c1, g1, f1)
set_option maxHeartbeats 4000000 in
set_option maxRecDepth 20000 in
theorem ct_X6_wakes (μ : rb_Mem) (c1 : rb_Row) (g1 : rb_Row) (f1 : rb_Row) (c0 : rb_Row) (x0 : Int32) (o : Int32 × rb_Row × rb_Row × rb_Row) (hc1 : μ 11 = c1) (hg1 : μ 12 = g1) (hf1 : μ 7 = f1) (hc0 : μ 5 = c0) (h : XX6_wakes c1 g1 f1 c0 x0 = some o) : rb_Ct yX6_wakes cX6_wakes 2 (some .int) 16 [.inr 0, .inl x0] μ (some o.1) (rb_ov μ [(11, o.2.1), (12, o.2.2.1), (7, o.2.2.2)]) := by
  unfold XX6_wakes at h
  have hini : rb_ov μ [(11, c1), (12, g1), (7, f1), (5, c0)] = μ := rb_ov_sf _ _ (And.intro hc1 (And.intro hg1 (And.intro hf1 (And.intro hc0 True.intro))))
  have hfin : ∀ u0 u1 u2 : rb_Row, rb_ov μ [(11, u0), (12, u1), (7, u2), (5, c0)] = rb_ov μ [(11, u0), (12, u1), (7, u2)] := fun u0 u1 u2 => rb_ov_ap _ [(11, u0), (12, u1), (7, u2)] _ (And.intro hc0 True.intro)
  refine rb_cti (w := [(11, c1), (12, g1), (7, f1), (5, c0)]) rfl pn_6 (Nat.le_of_ble_eq_true rfl) rfl hini ?_
  obtain ⟨t1, e2, h⟩ := rb_bd h
  refine ev_aload_n (v := 0) (pc := 0) dX6_wakes_0 rfl ?_
  refine ev_getr (q := 1) (pc := 1) dX6_wakes_1 fl_RX6_22 rfl rfl ?_
  refine ev_getr (q := 2) (pc := 4) dX6_wakes_4 fl_RX6_65 rfl rfl ?_
  refine ev_iload_n (v := x0) (pc := 7) dX6_wakes_7 rfl ?_
  refine ev_cVi1 (pc := 8) dX6_wakes_8 mv_X5_thingOf lk_RX6_89 rp_2 (ct0_X5_thingOf _ _ _ _ rfl e2) (Nat.le_of_ble_eq_true rfl) (Nat.le_of_ble_eq_true rfl) ?_
  by_cases b3 : 0 ≤ t1
  · rw [if_pos b3] at h
    refine ev_if_ge_t (t := 16) (pc := 11) dX6_wakes_11 (by decide) b3 ?_
    obtain ⟨t4, e5, h⟩ := rb_bd h
    obtain ⟨t6, e7, h⟩ := rb_bd h
    refine ev_aload_n (v := 0) (pc := 16) dX6_wakes_16 rfl ?_
    refine ev_cVv0w (w' := [(11, t4.1), (12, g1), (7, t4.2), (5, c0)]) (pc := 17) dX6_wakes_17 mv_X6_rehearse lk_RX6_211 rp_0 (ct_X6_rehearse _ _ _ _ _ rfl rfl rfl e5) (Nat.le_of_ble_eq_true rfl) (Nat.le_of_ble_eq_true rfl) rfl ?_
    refine ev_aload_n (v := 0) (pc := 20) dX6_wakes_20 rfl ?_
    refine ev_getr (q := 7) (pc := 21) dX6_wakes_21 fl_RX6_26 rfl rfl ?_
    refine ev_iload_n (v := x0) (pc := 24) dX6_wakes_24 rfl ?_
    refine ev_iconst (v := 1) (pc := 25) dX6_wakes_25 ki_1 ?_
    refine ev_cVi2w (w' := [(11, t6.2.1), (12, t6.2.2.1), (7, t6.2.2.2), (5, c0)]) (pc := 26) dX6_wakes_26 mv_X0_writeTo lk_RX6_114 rp_7 (ct1_X0_writeTo _ _ _ _ _ _ _ rfl rfl rfl e7) (Nat.le_of_ble_eq_true rfl) (Nat.le_of_ble_eq_true rfl) rfl ?_
    refine ev_pop (pc := 29) dX6_wakes_29 ?_
    refine ev_aload_n (v := 0) (pc := 30) dX6_wakes_30 rfl ?_
    refine ev_getr (q := 7) (pc := 31) dX6_wakes_31 fl_RX6_26 rfl rfl ?_
    refine ev_geti (v := (t6.2.2.2 7)) (pc := 34) dX6_wakes_34 fl_RX6_214 rfl rfl rfl ?_
    obtain rfl := Option.some.inj h
    exact ev_iret (pc := 37) dX6_wakes_37 rfl rfl rfl (hfin _ _ _)
  · rw [if_neg b3] at h
    refine ev_if_ge_f (t := 16) (pc := 11) dX6_wakes_11 (by decide) b3 ?_
    refine ev_iconst (v := (-1)) (pc := 14) dX6_wakes_14 ki_m1 ?_
    obtain rfl := Option.some.inj h
    exact ev_iret (pc := 15) dX6_wakes_15 rfl rfl rfl (hfin _ _ _)
def XX6_plan (c0 : rb_Row) (pr : rb_Row) (pf : rb_Row) (x0 : Int32) (x1 : Int32) (x2 : Int32) (x3 : Int32) : Option (Int32 × rb_Row × rb_Row × rb_Row) := (XX6_isTask x0).bind fun t1 => if t1 = 0 then some ((-1), c0, pr, pf) else (XX6_between x1 0 7).bind fun t4 => if t4 = 0 then some ((-1), c0, pr, pf) else (XX4_putStep c0 x0 x1 x2 x3).bind fun t7 => (XX6_keptFrom pr pf t7.2 0 t7.1).bind fun t9 => some (t9.1, t7.2, t9.2.1, t9.2.2)
set_option maxHeartbeats 4000000 in
set_option maxRecDepth 20000 in
theorem ct_X6_plan (μ : rb_Mem) (c0 : rb_Row) (pr : rb_Row) (pf : rb_Row) (x0 : Int32) (x1 : Int32) (x2 : Int32) (x3 : Int32) (o : Int32 × rb_Row × rb_Row × rb_Row) (hc0 : μ 5 = c0) (hpr : μ 14 = pr) (hpf : μ 13 = pf) (h : XX6_plan c0 pr pf x0 x1 x2 x3 = some o) : rb_Ct yX6_plan cX6_plan 5 (some .int) 3 [.inr 0, .inl x0, .inl x1, .inl x2, .inl x3] μ (some o.1) (rb_ov μ [(5, o.2.1), (14, o.2.2.1), (13, o.2.2.2)]) := by
  unfold XX6_plan at h
  have hini : rb_ov μ [(5, c0), (14, pr), (13, pf)] = μ := rb_ov_sf _ _ (And.intro hc0 (And.intro hpr (And.intro hpf True.intro)))
  have hfin : ∀ u0 u1 u2 : rb_Row, rb_ov μ [(5, u0), (14, u1), (13, u2)] = rb_ov μ [(5, u0), (14, u1), (13, u2)] := fun u0 u1 u2 => rfl
  refine rb_cti (w := [(5, c0), (14, pr), (13, pf)]) rfl pn_6 (Nat.le_of_ble_eq_true rfl) rfl hini ?_
  obtain ⟨t1, e2, h⟩ := rb_bd h
  refine ev_iload_n (v := x0) (pc := 0) dX6_plan_0 rfl ?_
  refine ev_cSi1 (pc := 1) dX6_plan_1 ms_X6_isTask lk_RX6_208 (ct_X6_isTask _ _ _ e2) (Nat.le_of_ble_eq_true rfl) (Nat.le_of_ble_eq_true rfl) ?_
  by_cases b3 : t1 = 0
  · rw [if_pos b3] at h
    refine ev_if_eq_t (t := 17) (pc := 4) dX6_plan_4 (by decide) b3 ?_
    refine ev_iconst (v := (-1)) (pc := 17) dX6_plan_17 ki_m1 ?_
    obtain rfl := Option.some.inj h
    exact ev_iret (pc := 18) dX6_plan_18 rfl rfl rfl (hfin _ _ _)
  · rw [if_neg b3] at h
    refine ev_if_eq_f (t := 17) (pc := 4) dX6_plan_4 (by decide) b3 ?_
    obtain ⟨t4, e5, h⟩ := rb_bd h
    refine ev_iload_n (v := x1) (pc := 7) dX6_plan_7 rfl ?_
    refine ev_iconst (v := 0) (pc := 8) dX6_plan_8 ki_0 ?_
    refine ev_bipush (v := 7) (pc := 9) dX6_plan_9 kb_7 ?_
    refine ev_cSi3 (pc := 11) dX6_plan_11 ms_X6_between lk_RX6_82 (ct_X6_between _ _ _ _ _ e5) (Nat.le_of_ble_eq_true rfl) (Nat.le_of_ble_eq_true rfl) ?_
    by_cases b6 : t4 = 0
    · rw [if_pos b6] at h
      refine ev_if_ne_f (t := 19) (pc := 14) dX6_plan_14 (by decide) b6 ?_
      refine ev_iconst (v := (-1)) (pc := 17) dX6_plan_17 ki_m1 ?_
      obtain rfl := Option.some.inj h
      exact ev_iret (pc := 18) dX6_plan_18 rfl rfl rfl (hfin _ _ _)
    · rw [if_neg b6] at h
      refine ev_if_ne_t (t := 19) (pc := 14) dX6_plan_14 (by decide) b6 ?_
      obtain ⟨t7, e8, h⟩ := rb_bd h
      obtain ⟨t9, e10, h⟩ := rb_bd h
      refine ev_aload_n (v := 0) (pc := 19) dX6_plan_19 rfl ?_
      refine ev_iconst (v := 0) (pc := 20) dX6_plan_20 ki_0 ?_
      refine ev_aload_n (v := 0) (pc := 21) dX6_plan_21 rfl ?_
      refine ev_getr (q := 1) (pc := 22) dX6_plan_22 fl_RX6_22 rfl rfl ?_
      refine ev_getr (q := 4) (pc := 25) dX6_plan_25 fl_RX6_169 rfl rfl ?_
      refine ev_iload_n (v := x0) (pc := 28) dX6_plan_28 rfl ?_
      refine ev_iload_n (v := x1) (pc := 29) dX6_plan_29 rfl ?_
      refine ev_iload_n (v := x2) (pc := 30) dX6_plan_30 rfl ?_
      refine ev_iload (v := x3) (pc := 31) dX6_plan_31 rfl ?_
      refine ev_cVi4w (w' := [(5, t7.2), (14, pr), (13, pf)]) (pc := 33) dX6_plan_33 mv_X4_putStep lk_RX6_217 rp_4 (ct0_X4_putStep _ _ _ _ _ _ _ rfl e8) (Nat.le_of_ble_eq_true rfl) (Nat.le_of_ble_eq_true rfl) rfl ?_
      refine ev_cVi2w (w' := [(5, t7.2), (14, t9.2.1), (13, t9.2.2)]) (pc := 36) dX6_plan_36 mv_X6_keptFrom lk_RX6_79 rp_0 (ct_X6_keptFrom _ _ _ _ _ _ _ rfl rfl rfl e10) (Nat.le_of_ble_eq_true rfl) (Nat.le_of_ble_eq_true rfl) rfl ?_
      obtain rfl := Option.some.inj h
      exact ev_iret (pc := 39) dX6_plan_39 rfl rfl rfl (hfin _ _ _)
def XX6_round (c0 : rb_Row) (pr : rb_Row) (pf : rb_Row) (x0 : Int32) (x1 : Int32) : Option (Int32 × rb_Row × rb_Row × rb_Row) := ((if x1 = 0 then some 0 else some 1) : Option (Int32)).bind fun j1 => (XX6_isTask x0).bind fun t5 => if t5 = 0 then some ((rb_nz 0), c0, pr, pf) else (rb_rd c0 773 (593 + x0)).bind fun v8 => if v8 = j1 then some ((rb_nz 0), c0, pr, pf) else (rb_wr c0 773 (593 + x0) j1).bind fun c011 => (XX6_keptIf pr pf c011 1).bind fun t13 => some ((rb_nz t13.1), c011, t13.2.1, t13.2.2)
set_option maxHeartbeats 4000000 in
set_option maxRecDepth 20000 in
theorem ct_X6_round (μ : rb_Mem) (c0 : rb_Row) (pr : rb_Row) (pf : rb_Row) (x0 : Int32) (x1 : Int32) (o : Int32 × rb_Row × rb_Row × rb_Row) (hc0 : μ 5 = c0) (hpr : μ 14 = pr) (hpf : μ 13 = pf) (h : XX6_round c0 pr pf x0 x1 = some o) : rb_Ct yX6_round cX6_round 4 (some .boolean) 3 [.inr 0, .inl x0, .inl x1] μ (some o.1) (rb_ov μ [(5, o.2.1), (14, o.2.2.1), (13, o.2.2.2)]) := by
  unfold XX6_round at h
  have hini : rb_ov μ [(5, c0), (14, pr), (13, pf)] = μ := rb_ov_sf _ _ (And.intro hc0 (And.intro hpr (And.intro hpf True.intro)))
  have hfin : ∀ u0 u1 u2 : rb_Row, rb_ov μ [(5, u0), (14, u1), (13, u2)] = rb_ov μ [(5, u0), (14, u1), (13, u2)] := fun u0 u1 u2 => rfl
  refine rb_ctz (w := [(5, c0), (14, pr), (13, pf)]) rfl pn_6 (Nat.le_of_ble_eq_true rfl) rfl hini ?_
  refine ev_iload_n (v := x1) (pc := 0) dX6_round_0 rfl ?_
  obtain ⟨j1, e2, h⟩ := rb_bd h
  have hj3 : rb_Ev RX6 cX6_round 4 (some .boolean) none 3 (some o.1) (rb_ov μ [(5, o.2.1), (14, o.2.2.1), (13, o.2.2.2)]) 9 [some (.inr 0), some (.inl x0), none, none] [.inl j1] (rb_ov μ [(5, c0), (14, pr), (13, pf)]) := by
    obtain ⟨t5, e6, h⟩ := rb_bd h
    refine ev_istore_n (L' := [some (.inr 0), some (.inl x0), none, some (.inl j1)]) (pc := 9) dX6_round_9 (Nat.le_of_ble_eq_true rfl) rfl ?_
    refine ev_iload_n (v := x0) (pc := 10) dX6_round_10 rfl ?_
    refine ev_cSi1 (pc := 11) dX6_round_11 ms_X6_isTask lk_RX6_208 (ct_X6_isTask _ _ _ e6) (Nat.le_of_ble_eq_true rfl) (Nat.le_of_ble_eq_true rfl) ?_
    by_cases b7 : t5 = 0
    · rw [if_pos b7] at h
      refine ev_if_eq_t (t := 31) (pc := 14) dX6_round_14 (by decide) b7 ?_
      refine ev_iconst (v := 0) (pc := 31) dX6_round_31 ki_0 ?_
      obtain rfl := Option.some.inj h
      exact ev_iret (pc := 32) dX6_round_32 rfl rfl rfl (hfin _ _ _)
    · rw [if_neg b7] at h
      refine ev_if_eq_f (t := 31) (pc := 14) dX6_round_14 (by decide) b7 ?_
      obtain ⟨v8, e9, h⟩ := rb_bd h
      refine ev_aload_n (v := 0) (pc := 17) dX6_round_17 rfl ?_
      refine ev_getr (q := 5) (pc := 18) dX6_round_18 fl_RX6_13 rfl rfl ?_
      refine ev_sipush (v := 593) (pc := 21) dX6_round_21 ks_593 ?_
      refine ev_iload_n (v := x0) (pc := 24) dX6_round_24 rfl ?_
      refine ev_iadd (pc := 25) dX6_round_25 ?_
      refine ev_iald (pc := 26) dX6_round_26 rfl e9 ?_
      refine ev_iload_n (v := j1) (pc := 27) dX6_round_27 rfl ?_
      by_cases b10 : v8 = j1
      · rw [if_pos b10] at h
        refine ev_icmp_ne_f (t := 33) (pc := 28) dX6_round_28 (by decide) b10 ?_
        refine ev_iconst (v := 0) (pc := 31) dX6_round_31 ki_0 ?_
        obtain rfl := Option.some.inj h
        exact ev_iret (pc := 32) dX6_round_32 rfl rfl rfl (hfin _ _ _)
      · rw [if_neg b10] at h
        refine ev_icmp_ne_t (t := 33) (pc := 28) dX6_round_28 (by decide) b10 ?_
        obtain ⟨c011, e12, h⟩ := rb_bd h
        obtain ⟨t13, e14, h⟩ := rb_bd h
        refine ev_aload_n (v := 0) (pc := 33) dX6_round_33 rfl ?_
        refine ev_getr (q := 5) (pc := 34) dX6_round_34 fl_RX6_13 rfl rfl ?_
        refine ev_sipush (v := 593) (pc := 37) dX6_round_37 ks_593 ?_
        refine ev_iload_n (v := x0) (pc := 40) dX6_round_40 rfl ?_
        refine ev_iadd (pc := 41) dX6_round_41 ?_
        refine ev_iload_n (v := j1) (pc := 42) dX6_round_42 rfl ?_
        refine ev_iast (w' := [(5, c011), (14, pr), (13, pf)]) (pc := 43) dX6_round_43 rfl e12 rfl ?_
        refine ev_aload_n (v := 0) (pc := 44) dX6_round_44 rfl ?_
        refine ev_iconst (v := 1) (pc := 45) dX6_round_45 ki_1 ?_
        refine ev_cVi1w (w' := [(5, c011), (14, t13.2.1), (13, t13.2.2)]) (pc := 46) dX6_round_46 mv_X6_keptIf lk_RX6_110 rp_0 (ct_X6_keptIf _ _ _ _ _ _ rfl rfl rfl e14) (Nat.le_of_ble_eq_true rfl) (Nat.le_of_ble_eq_true rfl) rfl ?_
        obtain rfl := Option.some.inj h
        exact ev_iret (pc := 49) dX6_round_49 rfl rfl rfl (hfin _ _ _)
  replace h := e2
  by_cases b4 : x1 = 0
  · rw [if_pos b4] at h
    refine ev_if_eq_t (t := 8) (pc := 1) dX6_round_1 (by decide) b4 ?_
    refine ev_iconst (v := 0) (pc := 8) dX6_round_8 ki_0 ?_
    obtain rfl := Option.some.inj h
    exact ev_fg (L := [some (.inr 0), some (.inl x0), none, none]) (And.intro rfl (And.intro rfl True.intro)) (hj3)
  · rw [if_neg b4] at h
    refine ev_if_eq_f (t := 8) (pc := 1) dX6_round_1 (by decide) b4 ?_
    refine ev_iconst (v := 1) (pc := 4) dX6_round_4 ki_1 ?_
    refine ev_goto (t := 9) (pc := 5) dX6_round_5 (by decide) ?_
    obtain rfl := Option.some.inj h
    exact ev_fg (L := [some (.inr 0), some (.inl x0), none, none]) (And.intro rfl (And.intro rfl True.intro)) (hj3)
def XX6_rounds (c0 : rb_Row) (g0 : rb_Row) (f0 : rb_Row) (pr : rb_Row) (pf : rb_Row) (x0 : Int32) : Option (Int32 × rb_Row × rb_Row × rb_Row × rb_Row × rb_Row) := (XX6_between x0 1 50).bind fun t1 => if t1 = 0 then some ((-1), c0, g0, f0, pr, pf) else (rb_lp (ρ := Int32 × rb_Row × rb_Row × rb_Row) (fun (s4 : Int32 × Int32 × rb_Row × rb_Row × rb_Row) => if x0 ≤ s4.2.1 then some (.inr (s4.1, s4.2.2.1, s4.2.2.2.1, s4.2.2.2.2)) else (XX0_goOneRound s4.2.2.1 s4.2.2.2.1 s4.2.2.2.2).bind fun t13 => some (.inl ((s4.1 + t13.1), (s4.2.1 + 1), t13.2.1, t13.2.2.1, t13.2.2.2))) 100000 (0, 0, c0, g0, f0)).bind fun q5 => (XX6_keptFrom pr pf q5.2.1 0 q5.1).bind fun t15 => some (t15.1, q5.2.1, q5.2.2.1, q5.2.2.2, t15.2.1, t15.2.2)
set_option maxHeartbeats 4000000 in
set_option maxRecDepth 20000 in
theorem ct_X6_rounds (μ : rb_Mem) (c0 : rb_Row) (g0 : rb_Row) (f0 : rb_Row) (pr : rb_Row) (pf : rb_Row) (x0 : Int32) (o : Int32 × rb_Row × rb_Row × rb_Row × rb_Row × rb_Row) (hc0 : μ 5 = c0) (hg0 : μ 6 = g0) (hf0 : μ 1 = f0) (hpr : μ 14 = pr) (hpf : μ 13 = pf) (h : XX6_rounds c0 g0 f0 pr pf x0 = some o) : rb_Ct yX6_rounds cX6_rounds 4 (some .int) 18 [.inr 0, .inl x0] μ (some o.1) (rb_ov μ [(5, o.2.1), (6, o.2.2.1), (1, o.2.2.2.1), (14, o.2.2.2.2.1), (13, o.2.2.2.2.2)]) := by
  unfold XX6_rounds at h
  have hini : rb_ov μ [(5, c0), (6, g0), (1, f0), (14, pr), (13, pf)] = μ := rb_ov_sf _ _ (And.intro hc0 (And.intro hg0 (And.intro hf0 (And.intro hpr (And.intro hpf True.intro)))))
  have hfin : ∀ u0 u1 u2 u3 u4 : rb_Row, rb_ov μ [(5, u0), (6, u1), (1, u2), (14, u3), (13, u4)] = rb_ov μ [(5, u0), (6, u1), (1, u2), (14, u3), (13, u4)] := fun u0 u1 u2 u3 u4 => rfl
  refine rb_cti (w := [(5, c0), (6, g0), (1, f0), (14, pr), (13, pf)]) rfl pn_6 (Nat.le_of_ble_eq_true rfl) rfl hini ?_
  obtain ⟨t1, e2, h⟩ := rb_bd h
  refine ev_iload_n (v := x0) (pc := 0) dX6_rounds_0 rfl ?_
  refine ev_iconst (v := 1) (pc := 1) dX6_rounds_1 ki_1 ?_
  refine ev_bipush (v := 50) (pc := 2) dX6_rounds_2 kb_50 ?_
  refine ev_cSi3 (pc := 4) dX6_rounds_4 ms_X6_between lk_RX6_82 (ct_X6_between _ _ _ _ _ e2) (Nat.le_of_ble_eq_true rfl) (Nat.le_of_ble_eq_true rfl) ?_
  by_cases b3 : t1 = 0
  · rw [if_pos b3] at h
    refine ev_if_ne_f (t := 12) (pc := 7) dX6_rounds_7 (by decide) b3 ?_
    refine ev_iconst (v := (-1)) (pc := 10) dX6_rounds_10 ki_m1 ?_
    obtain rfl := Option.some.inj h
    exact ev_iret (pc := 11) dX6_rounds_11 rfl rfl rfl (hfin _ _ _ _ _)
  · rw [if_neg b3] at h
    refine ev_if_ne_t (t := 12) (pc := 7) dX6_rounds_7 (by decide) b3 ?_
    refine ev_iconst (v := 0) (pc := 12) dX6_rounds_12 ki_0 ?_
    refine ev_istore_n (L' := [some (.inr 0), some (.inl x0), some (.inl 0), none]) (pc := 13) dX6_rounds_13 (Nat.le_of_ble_eq_true rfl) rfl ?_
    refine ev_iconst (v := 0) (pc := 14) dX6_rounds_14 ki_0 ?_
    refine ev_istore_n (L' := [some (.inr 0), some (.inl x0), some (.inl 0), some (.inl 0)]) (pc := 15) dX6_rounds_15 (Nat.le_of_ble_eq_true rfl) rfl ?_
    obtain ⟨q5, l6, h⟩ := rb_bd h
    have hx10 : rb_Ev RX6 cX6_rounds 4 (some .int) none 18 (some o.1) (rb_ov μ [(5, o.2.1), (6, o.2.2.1), (1, o.2.2.2.1), (14, o.2.2.2.2.1), (13, o.2.2.2.2.2)]) 37 [some (.inr 0), none, some (.inl q5.1), none] [] (rb_ov μ [(5, q5.2.1), (6, q5.2.2.1), (1, q5.2.2.2), (14, pr), (13, pf)]) := by
      obtain ⟨t15, e16, h⟩ := rb_bd h
      refine ev_aload_n (v := 0) (pc := 37) dX6_rounds_37 rfl ?_
      refine ev_iconst (v := 0) (pc := 38) dX6_rounds_38 ki_0 ?_
      refine ev_iload_n (v := q5.1) (pc := 39) dX6_rounds_39 rfl ?_
      refine ev_cVi2w (w' := [(5, q5.2.1), (6, q5.2.2.1), (1, q5.2.2.2), (14, t15.2.1), (13, t15.2.2)]) (pc := 40) dX6_rounds_40 mv_X6_keptFrom lk_RX6_79 rp_0 (ct_X6_keptFrom _ _ _ _ _ _ _ rfl rfl rfl e16) (Nat.le_of_ble_eq_true rfl) (Nat.le_of_ble_eq_true rfl) rfl ?_
      obtain rfl := Option.some.inj h
      exact ev_iret (pc := 43) dX6_rounds_43 rfl rfl rfl (hfin _ _ _ _ _)
    refine rb_lp_ev (P := fun (s4 : Int32 × Int32 × rb_Row × rb_Row × rb_Row) => rb_Ev RX6 cX6_rounds 4 (some .int) none 18 (some o.1) (rb_ov μ [(5, o.2.1), (6, o.2.2.1), (1, o.2.2.2.1), (14, o.2.2.2.2.1), (13, o.2.2.2.2.2)]) 16 [some (.inr 0), some (.inl x0), some (.inl s4.1), some (.inl s4.2.1)] [] (rb_ov μ [(5, s4.2.2.1), (6, s4.2.2.2.1), (1, s4.2.2.2.2), (14, pr), (13, pf)])) ?_ 100000 (0, 0, c0, g0, f0) l6
    intro s4 y7 h ih8 hE9
    refine ev_iload_n (v := s4.2.1) (pc := 16) dX6_rounds_16 rfl ?_
    refine ev_iload_n (v := x0) (pc := 17) dX6_rounds_17 rfl ?_
    by_cases b12 : x0 ≤ s4.2.1
    · rw [if_pos b12] at h
      refine ev_icmp_ge_t (t := 37) (pc := 18) dX6_rounds_18 (by decide) b12 ?_
      obtain rfl := Option.some.inj h
      obtain rfl := hE9 _ rfl
      exact ev_fg (L := [some (.inr 0), none, some (.inl s4.1), none]) (And.intro rfl (And.intro rfl True.intro)) (hx10)
    · rw [if_neg b12] at h
      refine ev_icmp_ge_f (t := 37) (pc := 18) dX6_rounds_18 (by decide) b12 ?_
      obtain ⟨t13, e14, h⟩ := rb_bd h
      refine ev_iload_n (v := s4.1) (pc := 21) dX6_rounds_21 rfl ?_
      refine ev_aload_n (v := 0) (pc := 22) dX6_rounds_22 rfl ?_
      refine ev_getr (q := 1) (pc := 23) dX6_rounds_23 fl_RX6_22 rfl rfl ?_
      refine ev_cVi0w (w' := [(5, t13.2.1), (6, t13.2.2.1), (1, t13.2.2.2), (14, pr), (13, pf)]) (pc := 26) dX6_rounds_26 mv_X0_goOneRound lk_RX6_220 rp_1 (ct0_X0_goOneRound _ _ _ _ _ rfl rfl rfl e14) (Nat.le_of_ble_eq_true rfl) (Nat.le_of_ble_eq_true rfl) rfl ?_
      refine ev_iadd (pc := 29) dX6_rounds_29 ?_
      refine ev_istore_n (L' := [some (.inr 0), some (.inl x0), some (.inl (s4.1 + t13.1)), some (.inl s4.2.1)]) (pc := 30) dX6_rounds_30 (Nat.le_of_ble_eq_true rfl) rfl ?_
      refine ev_iinc (x := s4.2.1) (v := (s4.2.1 + 1)) (L' := [some (.inr 0), some (.inl x0), some (.inl (s4.1 + t13.1)), some (.inl (s4.2.1 + 1))]) (pc := 31) dX6_rounds_31 rfl (kx_1 _) (Nat.le_of_ble_eq_true rfl) rfl ?_
      refine ev_goto (t := 16) (pc := 34) dX6_rounds_34 (by decide) ?_
      obtain rfl := Option.some.inj h
      exact ih8 ((s4.1 + t13.1), (s4.2.1 + 1), t13.2.1, t13.2.2.1, t13.2.2.2) rfl
def XX6_stuck (c1 : rb_Row) (g1 : rb_Row) (f1 : rb_Row) (c0 : rb_Row) : Option (Int32 × rb_Row × rb_Row × rb_Row) := (XX6_rehearse c1 f1 c0).bind fun t1 => (rb_lp (ρ := rb_Row × rb_Row × rb_Row) (fun (s3 : Int32 × rb_Row × rb_Row × rb_Row) => if 60 ≤ s3.1 then some (.inr (s3.2.1, s3.2.2.1, s3.2.2.2)) else (XX0_goOneRound s3.2.1 s3.2.2.1 s3.2.2.2).bind fun t12 => (XX0_time t12.2.1).bind fun t14 => ((if 100000 ≤ t14 then some (t12.2.1, t12.2.2.1, t12.2.2.2) else (XX0_passTime t12.2.1 t12.2.2.1 t12.2.2.2).bind fun t20 => some (t20.1, t20.2.1, t20.2.2)) : Option (rb_Row × rb_Row × rb_Row)).bind fun j16 => some (.inl ((s3.1 + 1), j16.1, j16.2.1, j16.2.2))) 100000 (0, t1.1, g1, t1.2)).bind fun q4 => (XX4_asleep q4.1).bind fun t22 => some (t22, q4.1, q4.2.1, q4.2.2)
set_option maxHeartbeats 4000000 in
set_option maxRecDepth 20000 in
theorem ct_X6_stuck (μ : rb_Mem) (c1 : rb_Row) (g1 : rb_Row) (f1 : rb_Row) (c0 : rb_Row) (o : Int32 × rb_Row × rb_Row × rb_Row) (hc1 : μ 11 = c1) (hg1 : μ 12 = g1) (hf1 : μ 7 = f1) (hc0 : μ 5 = c0) (h : XX6_stuck c1 g1 f1 c0 = some o) : rb_Ct yX6_stuck cX6_stuck 2 (some .int) 18 [.inr 0] μ (some o.1) (rb_ov μ [(11, o.2.1), (12, o.2.2.1), (7, o.2.2.2)]) := by
  unfold XX6_stuck at h
  have hini : rb_ov μ [(11, c1), (12, g1), (7, f1), (5, c0)] = μ := rb_ov_sf _ _ (And.intro hc1 (And.intro hg1 (And.intro hf1 (And.intro hc0 True.intro))))
  have hfin : ∀ u0 u1 u2 : rb_Row, rb_ov μ [(11, u0), (12, u1), (7, u2), (5, c0)] = rb_ov μ [(11, u0), (12, u1), (7, u2)] := fun u0 u1 u2 => rb_ov_ap _ [(11, u0), (12, u1), (7, u2)] _ (And.intro hc0 True.intro)
  refine rb_cti (w := [(11, c1), (12, g1), (7, f1), (5, c0)]) rfl pn_6 (Nat.le_of_ble_eq_true rfl) rfl hini ?_
  obtain ⟨t1, e2, h⟩ := rb_bd h
  refine ev_aload_n (v := 0) (pc := 0) dX6_stuck_0 rfl ?_
  refine ev_cVv0w (w' := [(11, t1.1), (12, g1), (7, t1.2), (5, c0)]) (pc := 1) dX6_stuck_1 mv_X6_rehearse lk_RX6_211 rp_0 (ct_X6_rehearse _ _ _ _ _ rfl rfl rfl e2) (Nat.le_of_ble_eq_true rfl) (Nat.le_of_ble_eq_true rfl) rfl ?_
  refine ev_iconst (v := 0) (pc := 4) dX6_stuck_4 ki_0 ?_
  refine ev_istore_n (L' := [some (.inr 0), some (.inl 0)]) (pc := 5) dX6_stuck_5 (Nat.le_of_ble_eq_true rfl) rfl ?_
  obtain ⟨q4, l5, h⟩ := rb_bd h
  have hx9 : rb_Ev RX6 cX6_stuck 2 (some .int) none 18 (some o.1) (rb_ov μ [(11, o.2.1), (12, o.2.2.1), (7, o.2.2.2)]) 45 [some (.inr 0), none] [] (rb_ov μ [(11, q4.1), (12, q4.2.1), (7, q4.2.2), (5, c0)]) := by
    obtain ⟨t22, e23, h⟩ := rb_bd h
    refine ev_aload_n (v := 0) (pc := 45) dX6_stuck_45 rfl ?_
    refine ev_getr (q := 7) (pc := 46) dX6_stuck_46 fl_RX6_26 rfl rfl ?_
    refine ev_getr (q := 10) (pc := 49) dX6_stuck_49 fl_RX6_169 rfl rfl ?_
    refine ev_cVi0 (pc := 52) dX6_stuck_52 mv_X4_asleep lk_RX6_226 rp_10 (ct1_X4_asleep _ _ _ rfl e23) (Nat.le_of_ble_eq_true rfl) (Nat.le_of_ble_eq_true rfl) ?_
    obtain rfl := Option.some.inj h
    exact ev_iret (pc := 55) dX6_stuck_55 rfl rfl rfl (hfin _ _ _)
  refine rb_lp_ev (P := fun (s3 : Int32 × rb_Row × rb_Row × rb_Row) => rb_Ev RX6 cX6_stuck 2 (some .int) none 18 (some o.1) (rb_ov μ [(11, o.2.1), (12, o.2.2.1), (7, o.2.2.2)]) 6 [some (.inr 0), some (.inl s3.1)] [] (rb_ov μ [(11, s3.2.1), (12, s3.2.2.1), (7, s3.2.2.2), (5, c0)])) ?_ 100000 (0, t1.1, g1, t1.2) l5
  intro s3 y6 h ih7 hE8
  refine ev_iload_n (v := s3.1) (pc := 6) dX6_stuck_6 rfl ?_
  refine ev_bipush (v := 60) (pc := 7) dX6_stuck_7 kb_60 ?_
  by_cases b11 : 60 ≤ s3.1
  · rw [if_pos b11] at h
    refine ev_icmp_ge_t (t := 45) (pc := 9) dX6_stuck_9 (by decide) b11 ?_
    obtain rfl := Option.some.inj h
    obtain rfl := hE8 _ rfl
    exact ev_fg (L := [some (.inr 0), none]) (And.intro rfl True.intro) (hx9)
  · rw [if_neg b11] at h
    refine ev_icmp_ge_f (t := 45) (pc := 9) dX6_stuck_9 (by decide) b11 ?_
    obtain ⟨t12, e13, h⟩ := rb_bd h
    obtain ⟨t14, e15, h⟩ := rb_bd h
    refine ev_aload_n (v := 0) (pc := 12) dX6_stuck_12 rfl ?_
    refine ev_getr (q := 7) (pc := 13) dX6_stuck_13 fl_RX6_26 rfl rfl ?_
    refine ev_cVi0w (w' := [(11, t12.2.1), (12, t12.2.2.1), (7, t12.2.2.2), (5, c0)]) (pc := 16) dX6_stuck_16 mv_X0_goOneRound lk_RX6_220 rp_7 (ct1_X0_goOneRound _ _ _ _ _ rfl rfl rfl e13) (Nat.le_of_ble_eq_true rfl) (Nat.le_of_ble_eq_true rfl) rfl ?_
    refine ev_pop (pc := 19) dX6_stuck_19 ?_
    refine ev_aload_n (v := 0) (pc := 20) dX6_stuck_20 rfl ?_
    refine ev_getr (q := 7) (pc := 21) dX6_stuck_21 fl_RX6_26 rfl rfl ?_
    refine ev_cVi0 (pc := 24) dX6_stuck_24 mv_X0_time lk_RX6_223 rp_7 (ct1_X0_time _ _ _ rfl e15) (Nat.le_of_ble_eq_true rfl) (Nat.le_of_ble_eq_true rfl) ?_
    refine ev_ldc (v := 100000) (pc := 27) dX6_stuck_27 kc_RX6_123 ?_
    obtain ⟨j16, e17, h⟩ := rb_bd h
    have hj18 : rb_Ev RX6 cX6_stuck 2 (some .int) none 18 (some o.1) (rb_ov μ [(11, o.2.1), (12, o.2.2.1), (7, o.2.2.2)]) 39 [some (.inr 0), some (.inl s3.1)] [] (rb_ov μ [(11, j16.1), (12, j16.2.1), (7, j16.2.2), (5, c0)]) := by
      refine ev_iinc (x := s3.1) (v := (s3.1 + 1)) (L' := [some (.inr 0), some (.inl (s3.1 + 1))]) (pc := 39) dX6_stuck_39 rfl (kx_1 _) (Nat.le_of_ble_eq_true rfl) rfl ?_
      refine ev_goto (t := 6) (pc := 42) dX6_stuck_42 (by decide) ?_
      obtain rfl := Option.some.inj h
      exact ih7 ((s3.1 + 1), j16.1, j16.2.1, j16.2.2) rfl
    replace h := e17
    by_cases b19 : 100000 ≤ t14
    · rw [if_pos b19] at h
      refine ev_icmp_ge_t (t := 39) (pc := 29) dX6_stuck_29 (by decide) b19 ?_
      obtain rfl := Option.some.inj h
      exact hj18
    · rw [if_neg b19] at h
      refine ev_icmp_ge_f (t := 39) (pc := 29) dX6_stuck_29 (by decide) b19 ?_
      obtain ⟨t20, e21, h⟩ := rb_bd h
      refine ev_aload_n (v := 0) (pc := 32) dX6_stuck_32 rfl ?_
      refine ev_getr (q := 7) (pc := 33) dX6_stuck_33 fl_RX6_26 rfl rfl ?_
      refine ev_cVv0w (w' := [(11, t20.1), (12, t20.2.1), (7, t20.2.2), (5, c0)]) (pc := 36) dX6_stuck_36 mv_X0_passTime lk_RX6_124 rp_7 (ct1_X0_passTime _ _ _ _ _ rfl rfl rfl e21) (Nat.le_of_ble_eq_true rfl) (Nat.le_of_ble_eq_true rfl) rfl ?_
      obtain rfl := Option.some.inj h
      exact hj18
def XX6_soon (c1 : rb_Row) (g1 : rb_Row) (f1 : rb_Row) (c0 : rb_Row) (x0 : Int32) : Option (Int32 × rb_Row × rb_Row × rb_Row) := (XX6_setOf c0 x0).bind fun t1 => if 0 ≤ t1 then (XX1_ready 5 c0 t1 0).bind fun t4 => if t4 = 0 then (XX6_rehearse c1 f1 c0).bind fun t7 => (rb_lp (ρ := (rb_Row × rb_Row × rb_Row) ⊕ (Int32 × rb_Row × rb_Row × rb_Row)) (fun (s9 : Int32 × rb_Row × rb_Row × rb_Row) => if 100 ≤ s9.1 then some (.inr (.inl (s9.2.1, s9.2.2.1, s9.2.2.2))) else (XX0_time s9.2.1).bind fun t19 => if 100000 ≤ t19 then some (.inr (.inl (s9.2.1, s9.2.2.1, s9.2.2.2))) else (XX0_passTime s9.2.1 s9.2.2.1 s9.2.2.2).bind fun t22 => (XX0_hasWokenAt t22.2.2 t1).bind fun t24 => if t24 = 0 then (XX1_ready 5 t22.1 t1 0).bind fun t27 => if t27 = 0 then some (.inl ((s9.1 + 1), t22.1, t22.2.1, t22.2.2)) else (XX0_time t22.1).bind fun t30 => some (.inr (.inr (t30, t22.1, t22.2.1, t22.2.2))) else (XX0_time t22.1).bind fun t32 => some (.inr (.inr (t32, t22.1, t22.2.1, t22.2.2)))) 100000 (0, t7.1, g1, t7.2)).bind fun q10 => Sum.elim (fun (z17 : rb_Row × rb_Row × rb_Row) => some ((-1), z17.1, z17.2.1, z17.2.2)) (fun (w34 : Int32 × rb_Row × rb_Row × rb_Row) => some w34) q10 else (rb_rd c0 773 0).bind fun v35 => some (v35, c1, g1, f1) else some ((-1), c1, g1, f1)
set_option maxHeartbeats 4000000 in
set_option maxRecDepth 20000 in
theorem ct_X6_soon (μ : rb_Mem) (c1 : rb_Row) (g1 : rb_Row) (f1 : rb_Row) (c0 : rb_Row) (x0 : Int32) (o : Int32 × rb_Row × rb_Row × rb_Row) (hc1 : μ 11 = c1) (hg1 : μ 12 = g1) (hf1 : μ 7 = f1) (hc0 : μ 5 = c0) (h : XX6_soon c1 g1 f1 c0 x0 = some o) : rb_Ct yX6_soon cX6_soon 4 (some .int) 16 [.inr 0, .inl x0] μ (some o.1) (rb_ov μ [(11, o.2.1), (12, o.2.2.1), (7, o.2.2.2)]) := by
  unfold XX6_soon at h
  have hini : rb_ov μ [(11, c1), (12, g1), (7, f1), (5, c0)] = μ := rb_ov_sf _ _ (And.intro hc1 (And.intro hg1 (And.intro hf1 (And.intro hc0 True.intro))))
  have hfin : ∀ u0 u1 u2 : rb_Row, rb_ov μ [(11, u0), (12, u1), (7, u2), (5, c0)] = rb_ov μ [(11, u0), (12, u1), (7, u2)] := fun u0 u1 u2 => rb_ov_ap _ [(11, u0), (12, u1), (7, u2)] _ (And.intro hc0 True.intro)
  refine rb_cti (w := [(11, c1), (12, g1), (7, f1), (5, c0)]) rfl pn_6 (Nat.le_of_ble_eq_true rfl) rfl hini ?_
  obtain ⟨t1, e2, h⟩ := rb_bd h
  refine ev_aload_n (v := 0) (pc := 0) dX6_soon_0 rfl ?_
  refine ev_iload_n (v := x0) (pc := 1) dX6_soon_1 rfl ?_
  refine ev_cVi1 (pc := 2) dX6_soon_2 mv_X6_setOf lk_RX6_181 rp_0 (ct_X6_setOf _ _ _ _ rfl e2) (Nat.le_of_ble_eq_true rfl) (Nat.le_of_ble_eq_true rfl) ?_
  refine ev_istore_n (L' := [some (.inr 0), some (.inl x0), some (.inl t1), none]) (pc := 5) dX6_soon_5 (Nat.le_of_ble_eq_true rfl) rfl ?_
  refine ev_iload_n (v := t1) (pc := 6) dX6_soon_6 rfl ?_
  by_cases b3 : 0 ≤ t1
  · rw [if_pos b3] at h
    refine ev_if_ge_t (t := 12) (pc := 7) dX6_soon_7 (by decide) b3 ?_
    obtain ⟨t4, e5, h⟩ := rb_bd h
    refine ev_aload_n (v := 0) (pc := 12) dX6_soon_12 rfl ?_
    refine ev_getr (q := 1) (pc := 13) dX6_soon_13 fl_RX6_22 rfl rfl ?_
    refine ev_getr (q := 3) (pc := 16) dX6_soon_16 fl_RX6_137 rfl rfl ?_
    refine ev_iload_n (v := t1) (pc := 19) dX6_soon_19 rfl ?_
    refine ev_iconst (v := 0) (pc := 20) dX6_soon_20 ki_0 ?_
    refine ev_cVi2 (pc := 21) dX6_soon_21 mv_X1_ready lk_RX6_157 rp_3 (ct0_X1_ready 5 _ _ _ _ _ rfl e5) (Nat.le_of_ble_eq_true rfl) (Nat.le_of_ble_eq_true rfl) ?_
    by_cases b6 : t4 = 0
    · rw [if_pos b6] at h
      refine ev_if_eq_t (t := 34) (pc := 24) dX6_soon_24 (by decide) b6 ?_
      obtain ⟨t7, e8, h⟩ := rb_bd h
      refine ev_aload_n (v := 0) (pc := 34) dX6_soon_34 rfl ?_
      refine ev_cVv0w (w' := [(11, t7.1), (12, g1), (7, t7.2), (5, c0)]) (pc := 35) dX6_soon_35 mv_X6_rehearse lk_RX6_211 rp_0 (ct_X6_rehearse _ _ _ _ _ rfl rfl rfl e8) (Nat.le_of_ble_eq_true rfl) (Nat.le_of_ble_eq_true rfl) rfl ?_
      refine ev_iconst (v := 0) (pc := 38) dX6_soon_38 ki_0 ?_
      refine ev_istore_n (L' := [some (.inr 0), some (.inl x0), some (.inl t1), some (.inl 0)]) (pc := 39) dX6_soon_39 (Nat.le_of_ble_eq_true rfl) rfl ?_
      obtain ⟨q10, l11, h⟩ := rb_bd h
      have hx15 : ∀ z17 : rb_Row × rb_Row × rb_Row, q10 = .inl z17 → rb_Ev RX6 cX6_soon 4 (some .int) none 16 (some o.1) (rb_ov μ [(11, o.2.1), (12, o.2.2.1), (7, o.2.2.2)]) 105 [none, none, none, none] [] (rb_ov μ [(11, z17.1), (12, z17.2.1), (7, z17.2.2), (5, c0)]) := by
        intro z17 hz
        rw [hz] at h
        replace h := rb_sel h
        refine ev_iconst (v := (-1)) (pc := 105) dX6_soon_105 ki_m1 ?_
        obtain rfl := Option.some.inj h
        exact ev_iret (pc := 106) dX6_soon_106 rfl rfl rfl (hfin _ _ _)
      have hr16 : ∀ w34 : Int32 × rb_Row × rb_Row × rb_Row, q10 = .inr w34 → w34 = o := by
        intro w34 hz
        rw [hz] at h
        replace h := rb_ser h
        exact Option.some.inj h
      refine ev_fg (L := [some (.inr 0), none, some (.inl t1), some (.inl 0)]) (And.intro rfl (And.intro rfl (And.intro rfl True.intro))) ?_
      refine rb_lp_ev (P := fun (s9 : Int32 × rb_Row × rb_Row × rb_Row) => rb_Ev RX6 cX6_soon 4 (some .int) none 16 (some o.1) (rb_ov μ [(11, o.2.1), (12, o.2.2.1), (7, o.2.2.2)]) 40 [some (.inr 0), none, some (.inl t1), some (.inl s9.1)] [] (rb_ov μ [(11, s9.2.1), (12, s9.2.2.1), (7, s9.2.2.2), (5, c0)])) ?_ 100000 (0, t7.1, g1, t7.2) l11
      intro s9 y12 h ih13 hE14
      refine ev_iload_n (v := s9.1) (pc := 40) dX6_soon_40 rfl ?_
      refine ev_bipush (v := 100) (pc := 41) dX6_soon_41 kb_100 ?_
      by_cases b18 : 100 ≤ s9.1
      · rw [if_pos b18] at h
        refine ev_icmp_ge_t (t := 105) (pc := 43) dX6_soon_43 (by decide) b18 ?_
        obtain rfl := Option.some.inj h
        exact ev_fg (L := [none, none, none, none]) True.intro (hx15 (s9.2.1, s9.2.2.1, s9.2.2.2) (hE14 _ rfl).symm)
      · rw [if_neg b18] at h
        refine ev_icmp_ge_f (t := 105) (pc := 43) dX6_soon_43 (by decide) b18 ?_
        obtain ⟨t19, e20, h⟩ := rb_bd h
        refine ev_aload_n (v := 0) (pc := 46) dX6_soon_46 rfl ?_
        refine ev_getr (q := 7) (pc := 47) dX6_soon_47 fl_RX6_26 rfl rfl ?_
        refine ev_cVi0 (pc := 50) dX6_soon_50 mv_X0_time lk_RX6_223 rp_7 (ct1_X0_time _ _ _ rfl e20) (Nat.le_of_ble_eq_true rfl) (Nat.le_of_ble_eq_true rfl) ?_
        refine ev_ldc (v := 100000) (pc := 53) dX6_soon_53 kc_RX6_123 ?_
        by_cases b21 : 100000 ≤ t19
        · rw [if_pos b21] at h
          refine ev_icmp_ge_t (t := 105) (pc := 55) dX6_soon_55 (by decide) b21 ?_
          obtain rfl := Option.some.inj h
          exact ev_fg (L := [none, none, none, none]) True.intro (hx15 (s9.2.1, s9.2.2.1, s9.2.2.2) (hE14 _ rfl).symm)
        · rw [if_neg b21] at h
          refine ev_icmp_ge_f (t := 105) (pc := 55) dX6_soon_55 (by decide) b21 ?_
          obtain ⟨t22, e23, h⟩ := rb_bd h
          obtain ⟨t24, e25, h⟩ := rb_bd h
          refine ev_aload_n (v := 0) (pc := 58) dX6_soon_58 rfl ?_
          refine ev_getr (q := 7) (pc := 59) dX6_soon_59 fl_RX6_26 rfl rfl ?_
          refine ev_cVv0w (w' := [(11, t22.1), (12, t22.2.1), (7, t22.2.2), (5, c0)]) (pc := 62) dX6_soon_62 mv_X0_passTime lk_RX6_124 rp_7 (ct1_X0_passTime _ _ _ _ _ rfl rfl rfl e23) (Nat.le_of_ble_eq_true rfl) (Nat.le_of_ble_eq_true rfl) rfl ?_
          refine ev_aload_n (v := 0) (pc := 65) dX6_soon_65 rfl ?_
          refine ev_getr (q := 7) (pc := 66) dX6_soon_66 fl_RX6_26 rfl rfl ?_
          refine ev_iload_n (v := t1) (pc := 69) dX6_soon_69 rfl ?_
          refine ev_cVi1 (pc := 70) dX6_soon_70 mv_X0_hasWokenAt lk_RX6_229 rp_7 (ct1_X0_hasWokenAt _ _ _ _ rfl e25) (Nat.le_of_ble_eq_true rfl) (Nat.le_of_ble_eq_true rfl) ?_
          by_cases b26 : t24 = 0
          · rw [if_pos b26] at h
            refine ev_if_ne_f (t := 91) (pc := 73) dX6_soon_73 (by decide) b26 ?_
            obtain ⟨t27, e28, h⟩ := rb_bd h
            refine ev_aload_n (v := 0) (pc := 76) dX6_soon_76 rfl ?_
            refine ev_getr (q := 7) (pc := 77) dX6_soon_77 fl_RX6_26 rfl rfl ?_
            refine ev_getr (q := 9) (pc := 80) dX6_soon_80 fl_RX6_137 rfl rfl ?_
            refine ev_iload_n (v := t1) (pc := 83) dX6_soon_83 rfl ?_
            refine ev_iconst (v := 0) (pc := 84) dX6_soon_84 ki_0 ?_
            refine ev_cVi2 (pc := 85) dX6_soon_85 mv_X1_ready lk_RX6_157 rp_9 (ct1_X1_ready 5 _ _ _ _ _ rfl e28) (Nat.le_of_ble_eq_true rfl) (Nat.le_of_ble_eq_true rfl) ?_
            by_cases b29 : t27 = 0
            · rw [if_pos b29] at h
              refine ev_if_eq_t (t := 99) (pc := 88) dX6_soon_88 (by decide) b29 ?_
              refine ev_iinc (x := s9.1) (v := (s9.1 + 1)) (L' := [some (.inr 0), none, some (.inl t1), some (.inl (s9.1 + 1))]) (pc := 99) dX6_soon_99 rfl (kx_1 _) (Nat.le_of_ble_eq_true rfl) rfl ?_
              refine ev_goto (t := 40) (pc := 102) dX6_soon_102 (by decide) ?_
              obtain rfl := Option.some.inj h
              exact ih13 ((s9.1 + 1), t22.1, t22.2.1, t22.2.2) rfl
            · rw [if_neg b29] at h
              refine ev_if_eq_f (t := 99) (pc := 88) dX6_soon_88 (by decide) b29 ?_
              obtain ⟨t30, e31, h⟩ := rb_bd h
              refine ev_aload_n (v := 0) (pc := 91) dX6_soon_91 rfl ?_
              refine ev_getr (q := 7) (pc := 92) dX6_soon_92 fl_RX6_26 rfl rfl ?_
              refine ev_cVi0 (pc := 95) dX6_soon_95 mv_X0_time lk_RX6_223 rp_7 (ct1_X0_time _ _ _ rfl e31) (Nat.le_of_ble_eq_true rfl) (Nat.le_of_ble_eq_true rfl) ?_
              obtain rfl := Option.some.inj h
              obtain rfl := hr16 _ (hE14 _ rfl).symm
              exact ev_iret (pc := 98) dX6_soon_98 rfl rfl rfl (hfin _ _ _)
          · rw [if_neg b26] at h
            refine ev_if_ne_t (t := 91) (pc := 73) dX6_soon_73 (by decide) b26 ?_
            obtain ⟨t32, e33, h⟩ := rb_bd h
            refine ev_aload_n (v := 0) (pc := 91) dX6_soon_91 rfl ?_
            refine ev_getr (q := 7) (pc := 92) dX6_soon_92 fl_RX6_26 rfl rfl ?_
            refine ev_cVi0 (pc := 95) dX6_soon_95 mv_X0_time lk_RX6_223 rp_7 (ct1_X0_time _ _ _ rfl e33) (Nat.le_of_ble_eq_true rfl) (Nat.le_of_ble_eq_true rfl) ?_
            obtain rfl := Option.some.inj h
            obtain rfl := hr16 _ (hE14 _ rfl).symm
            exact ev_iret (pc := 98) dX6_soon_98 rfl rfl rfl (hfin _ _ _)
    · rw [if_neg b6] at h
      refine ev_if_eq_f (t := 34) (pc := 24) dX6_soon_24 (by decide) b6 ?_
      obtain ⟨v35, e36, h⟩ := rb_bd h
      refine ev_aload_n (v := 0) (pc := 27) dX6_soon_27 rfl ?_
      refine ev_getr (q := 5) (pc := 28) dX6_soon_28 fl_RX6_13 rfl rfl ?_
      refine ev_iconst (v := 0) (pc := 31) dX6_soon_31 ki_0 ?_
      refine ev_iald (pc := 32) dX6_soon_32 rfl e36 ?_
      obtain rfl := Option.some.inj h
      exact ev_iret (pc := 33) dX6_soon_33 rfl rfl rfl (hfin _ _ _)
  · rw [if_neg b3] at h
    refine ev_if_ge_f (t := 12) (pc := 7) dX6_soon_7 (by decide) b3 ?_
    refine ev_iconst (v := (-1)) (pc := 10) dX6_soon_10 ki_m1 ?_
    obtain rfl := Option.some.inj h
    exact ev_iret (pc := 11) dX6_soon_11 rfl rfl rfl (hfin _ _ _)
def XX6_calls (c1 : rb_Row) (g1 : rb_Row) (f1 : rb_Row) (c0 : rb_Row) (x0 : Int32) (x1 : Int32) : Option (Int32 × rb_Row × rb_Row × rb_Row) := (XX5_thingOf c0 x0).bind fun t1 => ((if x1 = 1 then some 1 else if x1 = 2 then some 1 else if x1 = 4 then some 1 else if x1 = 8 then some 1 else some 0) : Option (Int32)).bind fun j3 => if t1 < 0 then some ((-1), c1, g1, f1) else if j3 = 0 then some ((-1), c1, g1, f1) else (XX6_rehearse c1 f1 c0).bind fun t12 => (XX0_sendNotice 6 t12.1 g1 t12.2 t1 x1 0).bind fun t14 => (XX0_calledHandles t14.1 t14.2.2).bind fun t16 => some (t16, t14.1, t14.2.1, t14.2.2)
set_option maxHeartbeats 4000000 in
set_option maxRecDepth 20000 in
theorem ct_X6_calls (μ : rb_Mem) (c1 : rb_Row) (g1 : rb_Row) (f1 : rb_Row) (c0 : rb_Row) (x0 : Int32) (x1 : Int32) (o : Int32 × rb_Row × rb_Row × rb_Row) (hc1 : μ 11 = c1) (hg1 : μ 12 = g1) (hf1 : μ 7 = f1) (hc0 : μ 5 = c0) (h : XX6_calls c1 g1 f1 c0 x0 x1 = some o) : rb_Ct yX6_calls cX6_calls 5 (some .int) 15 [.inr 0, .inl x0, .inl x1] μ (some o.1) (rb_ov μ [(11, o.2.1), (12, o.2.2.1), (7, o.2.2.2)]) := by
  unfold XX6_calls at h
  have hini : rb_ov μ [(11, c1), (12, g1), (7, f1), (5, c0)] = μ := rb_ov_sf _ _ (And.intro hc1 (And.intro hg1 (And.intro hf1 (And.intro hc0 True.intro))))
  have hfin : ∀ u0 u1 u2 : rb_Row, rb_ov μ [(11, u0), (12, u1), (7, u2), (5, c0)] = rb_ov μ [(11, u0), (12, u1), (7, u2)] := fun u0 u1 u2 => rb_ov_ap _ [(11, u0), (12, u1), (7, u2)] _ (And.intro hc0 True.intro)
  refine rb_cti (w := [(11, c1), (12, g1), (7, f1), (5, c0)]) rfl pn_6 (Nat.le_of_ble_eq_true rfl) rfl hini ?_
  obtain ⟨t1, e2, h⟩ := rb_bd h
  refine ev_aload_n (v := 0) (pc := 0) dX6_calls_0 rfl ?_
  refine ev_getr (q := 1) (pc := 1) dX6_calls_1 fl_RX6_22 rfl rfl ?_
  refine ev_getr (q := 2) (pc := 4) dX6_calls_4 fl_RX6_65 rfl rfl ?_
  refine ev_iload_n (v := x0) (pc := 7) dX6_calls_7 rfl ?_
  refine ev_cVi1 (pc := 8) dX6_calls_8 mv_X5_thingOf lk_RX6_89 rp_2 (ct0_X5_thingOf _ _ _ _ rfl e2) (Nat.le_of_ble_eq_true rfl) (Nat.le_of_ble_eq_true rfl) ?_
  refine ev_istore_n (L' := [some (.inr 0), some (.inl x0), some (.inl x1), some (.inl t1), none]) (pc := 11) dX6_calls_11 (Nat.le_of_ble_eq_true rfl) rfl ?_
  refine ev_iload_n (v := x1) (pc := 12) dX6_calls_12 rfl ?_
  refine ev_iconst (v := 1) (pc := 13) dX6_calls_13 ki_1 ?_
  obtain ⟨j3, e4, h⟩ := rb_bd h
  have hj5 : rb_Ev RX6 cX6_calls 5 (some .int) none 15 (some o.1) (rb_ov μ [(11, o.2.1), (12, o.2.2.1), (7, o.2.2.2)]) 38 [some (.inr 0), none, some (.inl x1), some (.inl t1), none] [.inl j3] (rb_ov μ [(11, c1), (12, g1), (7, f1), (5, c0)]) := by
    refine ev_istore (L' := [some (.inr 0), none, some (.inl x1), some (.inl t1), some (.inl j3)]) (pc := 38) dX6_calls_38 (Nat.le_of_ble_eq_true rfl) rfl ?_
    refine ev_iload_n (v := t1) (pc := 40) dX6_calls_40 rfl ?_
    by_cases b10 : t1 < 0
    · rw [if_pos b10] at h
      refine ev_if_lt_t (t := 49) (pc := 41) dX6_calls_41 (by decide) b10 ?_
      refine ev_iconst (v := (-1)) (pc := 49) dX6_calls_49 ki_m1 ?_
      obtain rfl := Option.some.inj h
      exact ev_iret (pc := 50) dX6_calls_50 rfl rfl rfl (hfin _ _ _)
    · rw [if_neg b10] at h
      refine ev_if_lt_f (t := 49) (pc := 41) dX6_calls_41 (by decide) b10 ?_
      refine ev_iload (v := j3) (pc := 44) dX6_calls_44 rfl ?_
      by_cases b11 : j3 = 0
      · rw [if_pos b11] at h
        refine ev_if_ne_f (t := 51) (pc := 46) dX6_calls_46 (by decide) b11 ?_
        refine ev_iconst (v := (-1)) (pc := 49) dX6_calls_49 ki_m1 ?_
        obtain rfl := Option.some.inj h
        exact ev_iret (pc := 50) dX6_calls_50 rfl rfl rfl (hfin _ _ _)
      · rw [if_neg b11] at h
        refine ev_if_ne_t (t := 51) (pc := 46) dX6_calls_46 (by decide) b11 ?_
        obtain ⟨t12, e13, h⟩ := rb_bd h
        obtain ⟨t14, e15, h⟩ := rb_bd h
        obtain ⟨t16, e17, h⟩ := rb_bd h
        refine ev_aload_n (v := 0) (pc := 51) dX6_calls_51 rfl ?_
        refine ev_cVv0w (w' := [(11, t12.1), (12, g1), (7, t12.2), (5, c0)]) (pc := 52) dX6_calls_52 mv_X6_rehearse lk_RX6_211 rp_0 (ct_X6_rehearse _ _ _ _ _ rfl rfl rfl e13) (Nat.le_of_ble_eq_true rfl) (Nat.le_of_ble_eq_true rfl) rfl ?_
        refine ev_aload_n (v := 0) (pc := 55) dX6_calls_55 rfl ?_
        refine ev_getr (q := 7) (pc := 56) dX6_calls_56 fl_RX6_26 rfl rfl ?_
        refine ev_iload_n (v := t1) (pc := 59) dX6_calls_59 rfl ?_
        refine ev_iload_n (v := x1) (pc := 60) dX6_calls_60 rfl ?_
        refine ev_iconst (v := 0) (pc := 61) dX6_calls_61 ki_0 ?_
        refine ev_cVv3w (w' := [(11, t14.1), (12, t14.2.1), (7, t14.2.2), (5, c0)]) (pc := 62) dX6_calls_62 mv_X0_sendNotice lk_RX6_232 rp_7 (ct1_X0_sendNotice 6 _ _ _ _ _ _ _ _ rfl rfl rfl e15) (Nat.le_of_ble_eq_true rfl) (Nat.le_of_ble_eq_true rfl) rfl ?_
        refine ev_aload_n (v := 0) (pc := 65) dX6_calls_65 rfl ?_
        refine ev_getr (q := 7) (pc := 66) dX6_calls_66 fl_RX6_26 rfl rfl ?_
        refine ev_cVi0 (pc := 69) dX6_calls_69 mv_X0_calledHandles lk_RX6_236 rp_7 (ct1_X0_calledHandles _ _ _ _ rfl rfl e17) (Nat.le_of_ble_eq_true rfl) (Nat.le_of_ble_eq_true rfl) ?_
        obtain rfl := Option.some.inj h
        exact ev_iret (pc := 72) dX6_calls_72 rfl rfl rfl (hfin _ _ _)
  replace h := e4
  by_cases b6 : x1 = 1
  · rw [if_pos b6] at h
    refine ev_icmp_eq_t (t := 33) (pc := 14) dX6_calls_14 (by decide) b6 ?_
    refine ev_iconst (v := 1) (pc := 33) dX6_calls_33 ki_1 ?_
    refine ev_goto (t := 38) (pc := 34) dX6_calls_34 (by decide) ?_
    obtain rfl := Option.some.inj h
    exact ev_fg (L := [some (.inr 0), none, some (.inl x1), some (.inl t1), none]) (And.intro rfl (And.intro rfl (And.intro rfl True.intro))) (hj5)
  · rw [if_neg b6] at h
    refine ev_icmp_eq_f (t := 33) (pc := 14) dX6_calls_14 (by decide) b6 ?_
    refine ev_iload_n (v := x1) (pc := 17) dX6_calls_17 rfl ?_
    refine ev_iconst (v := 2) (pc := 18) dX6_calls_18 ki_2 ?_
    by_cases b7 : x1 = 2
    · rw [if_pos b7] at h
      refine ev_icmp_eq_t (t := 33) (pc := 19) dX6_calls_19 (by decide) b7 ?_
      refine ev_iconst (v := 1) (pc := 33) dX6_calls_33 ki_1 ?_
      refine ev_goto (t := 38) (pc := 34) dX6_calls_34 (by decide) ?_
      obtain rfl := Option.some.inj h
      exact ev_fg (L := [some (.inr 0), none, some (.inl x1), some (.inl t1), none]) (And.intro rfl (And.intro rfl (And.intro rfl True.intro))) (hj5)
    · rw [if_neg b7] at h
      refine ev_icmp_eq_f (t := 33) (pc := 19) dX6_calls_19 (by decide) b7 ?_
      refine ev_iload_n (v := x1) (pc := 22) dX6_calls_22 rfl ?_
      refine ev_iconst (v := 4) (pc := 23) dX6_calls_23 ki_4 ?_
      by_cases b8 : x1 = 4
      · rw [if_pos b8] at h
        refine ev_icmp_eq_t (t := 33) (pc := 24) dX6_calls_24 (by decide) b8 ?_
        refine ev_iconst (v := 1) (pc := 33) dX6_calls_33 ki_1 ?_
        refine ev_goto (t := 38) (pc := 34) dX6_calls_34 (by decide) ?_
        obtain rfl := Option.some.inj h
        exact ev_fg (L := [some (.inr 0), none, some (.inl x1), some (.inl t1), none]) (And.intro rfl (And.intro rfl (And.intro rfl True.intro))) (hj5)
      · rw [if_neg b8] at h
        refine ev_icmp_eq_f (t := 33) (pc := 24) dX6_calls_24 (by decide) b8 ?_
        refine ev_iload_n (v := x1) (pc := 27) dX6_calls_27 rfl ?_
        refine ev_bipush (v := 8) (pc := 28) dX6_calls_28 kb_8 ?_
        by_cases b9 : x1 = 8
        · rw [if_pos b9] at h
          refine ev_icmp_ne_f (t := 37) (pc := 30) dX6_calls_30 (by decide) b9 ?_
          refine ev_iconst (v := 1) (pc := 33) dX6_calls_33 ki_1 ?_
          refine ev_goto (t := 38) (pc := 34) dX6_calls_34 (by decide) ?_
          obtain rfl := Option.some.inj h
          exact ev_fg (L := [some (.inr 0), none, some (.inl x1), some (.inl t1), none]) (And.intro rfl (And.intro rfl (And.intro rfl True.intro))) (hj5)
        · rw [if_neg b9] at h
          refine ev_icmp_ne_t (t := 37) (pc := 30) dX6_calls_30 (by decide) b9 ?_
          refine ev_iconst (v := 0) (pc := 37) dX6_calls_37 ki_0 ?_
          obtain rfl := Option.some.inj h
          exact ev_fg (L := [some (.inr 0), none, some (.inl x1), some (.inl t1), none]) (And.intro rfl (And.intro rfl (And.intro rfl True.intro))) (hj5)
def XX6_image (bx : rb_Row) (rf : rb_Row) (c0 : rb_Row) (x0 : Int32) : Option (Int32 × rb_Row × rb_Row) := if x0 < 0 then some ((-1), bx, rf) else if x0 < 2 then (rb_cp c0 773 0 bx 1546 (x0 * 773) 773).bind fun bx3 => (rb_pf rf 6 ((rf 6) ||| (1 <<< (x0 &&& 31)))).bind fun rf5 => (XX5_living c0).bind fun t7 => some (t7, bx3, rf5) else some ((-1), bx, rf)
set_option maxHeartbeats 4000000 in
set_option maxRecDepth 20000 in
theorem ct_X6_image (μ : rb_Mem) (bx : rb_Row) (rf : rb_Row) (c0 : rb_Row) (x0 : Int32) (o : Int32 × rb_Row × rb_Row) (hbx : μ 18 = bx) (hrf : μ 0 = rf) (hc0 : μ 5 = c0) (h : XX6_image bx rf c0 x0 = some o) : rb_Ct yX6_image cX6_image 2 (some .int) 1 [.inr 0, .inl x0] μ (some o.1) (rb_ov μ [(18, o.2.1), (0, o.2.2)]) := by
  unfold XX6_image at h
  have hini : rb_ov μ [(18, bx), (0, rf), (5, c0)] = μ := rb_ov_sf _ _ (And.intro hbx (And.intro hrf (And.intro hc0 True.intro)))
  have hfin : ∀ u0 u1 : rb_Row, rb_ov μ [(18, u0), (0, u1), (5, c0)] = rb_ov μ [(18, u0), (0, u1)] := fun u0 u1 => rb_ov_ap _ [(18, u0), (0, u1)] _ (And.intro hc0 True.intro)
  refine rb_cti (w := [(18, bx), (0, rf), (5, c0)]) rfl pn_6 (Nat.le_of_ble_eq_true rfl) rfl hini ?_
  refine ev_iload_n (v := x0) (pc := 0) dX6_image_0 rfl ?_
  by_cases b1 : x0 < 0
  · rw [if_pos b1] at h
    refine ev_if_lt_t (t := 9) (pc := 1) dX6_image_1 (by decide) b1 ?_
    refine ev_iconst (v := (-1)) (pc := 9) dX6_image_9 ki_m1 ?_
    obtain rfl := Option.some.inj h
    exact ev_iret (pc := 10) dX6_image_10 rfl rfl rfl (hfin _ _)
  · rw [if_neg b1] at h
    refine ev_if_lt_f (t := 9) (pc := 1) dX6_image_1 (by decide) b1 ?_
    refine ev_iload_n (v := x0) (pc := 4) dX6_image_4 rfl ?_
    refine ev_iconst (v := 2) (pc := 5) dX6_image_5 ki_2 ?_
    by_cases b2 : x0 < 2
    · rw [if_pos b2] at h
      refine ev_icmp_lt_t (t := 11) (pc := 6) dX6_image_6 (by decide) b2 ?_
      obtain ⟨bx3, e4, h⟩ := rb_bd h
      obtain ⟨rf5, e6, h⟩ := rb_bd h
      obtain ⟨t7, e8, h⟩ := rb_bd h
      refine ev_aload_n (v := 0) (pc := 11) dX6_image_11 rfl ?_
      refine ev_getr (q := 5) (pc := 12) dX6_image_12 fl_RX6_13 rfl rfl ?_
      refine ev_iconst (v := 0) (pc := 15) dX6_image_15 ki_0 ?_
      refine ev_aload_n (v := 0) (pc := 16) dX6_image_16 rfl ?_
      refine ev_getr (q := 18) (pc := 17) dX6_image_17 fl_RX6_48 rfl rfl ?_
      refine ev_iload_n (v := x0) (pc := 20) dX6_image_20 rfl ?_
      refine ev_sipush (v := 773) (pc := 21) dX6_image_21 ks_773 ?_
      refine ev_imul (pc := 24) dX6_image_24 ?_
      refine ev_sipush (v := 773) (pc := 25) dX6_image_25 ks_773 ?_
      refine ev_copy (w' := [(18, bx3), (0, rf), (5, c0)]) (pc := 28) dX6_image_28 lk_RX6_239 rfl rfl (Nat.le_of_ble_eq_true rfl) (Nat.le_of_ble_eq_true rfl) e4 rfl ?_
      refine ev_aload_n (v := 0) (pc := 31) dX6_image_31 rfl ?_
      refine ev_dup (pc := 32) dX6_image_32 ?_
      refine ev_geti (v := (rf 6)) (pc := 33) dX6_image_33 fl_RX6_51 rfl rfl rfl ?_
      refine ev_iconst (v := 1) (pc := 36) dX6_image_36 ki_1 ?_
      refine ev_iload_n (v := x0) (pc := 37) dX6_image_37 rfl ?_
      refine ev_ishl (pc := 38) dX6_image_38 ?_
      refine ev_ior (pc := 39) dX6_image_39 ?_
      refine ev_putw (w' := [(18, bx3), (0, rf5), (5, c0)]) (pc := 40) dX6_image_40 fp_RX6_51 rfl rfl e6 rfl ?_
      refine ev_aload_n (v := 0) (pc := 43) dX6_image_43 rfl ?_
      refine ev_getr (q := 1) (pc := 44) dX6_image_44 fl_RX6_22 rfl rfl ?_
      refine ev_getr (q := 2) (pc := 47) dX6_image_47 fl_RX6_65 rfl rfl ?_
      refine ev_cVi0 (pc := 50) dX6_image_50 mv_X5_living lk_RX6_245 rp_2 (ct0_X5_living _ _ _ rfl e8) (Nat.le_of_ble_eq_true rfl) (Nat.le_of_ble_eq_true rfl) ?_
      obtain rfl := Option.some.inj h
      exact ev_iret (pc := 53) dX6_image_53 rfl rfl rfl (hfin _ _)
    · rw [if_neg b2] at h
      refine ev_icmp_lt_f (t := 11) (pc := 6) dX6_image_6 (by decide) b2 ?_
      refine ev_iconst (v := (-1)) (pc := 9) dX6_image_9 ki_m1 ?_
      obtain rfl := Option.some.inj h
      exact ev_iret (pc := 10) dX6_image_10 rfl rfl rfl (hfin _ _)
def XX6_back (c0 : rb_Row) (pr : rb_Row) (pf : rb_Row) (bx : rb_Row) (rf : rb_Row) (x0 : Int32) : Option (Int32 × rb_Row × rb_Row × rb_Row) := if x0 < 0 then some ((-1), c0, pr, pf) else if 2 ≤ x0 then some ((-1), c0, pr, pf) else if ((rf 6) &&& (1 <<< (x0 &&& 31))) = 0 then some ((-1), c0, pr, pf) else (rb_cp bx 1546 (x0 * 773) c0 773 0 773).bind fun c04 => (XX2_restart pr pf c04).bind fun t6 => (XX5_living c04).bind fun t8 => some (t8, c04, t6.1, t6.2)
set_option maxHeartbeats 4000000 in
set_option maxRecDepth 20000 in
theorem ct_X6_back (μ : rb_Mem) (c0 : rb_Row) (pr : rb_Row) (pf : rb_Row) (bx : rb_Row) (rf : rb_Row) (x0 : Int32) (o : Int32 × rb_Row × rb_Row × rb_Row) (hc0 : μ 5 = c0) (hpr : μ 14 = pr) (hpf : μ 13 = pf) (hbx : μ 18 = bx) (hrf : μ 0 = rf) (h : XX6_back c0 pr pf bx rf x0 = some o) : rb_Ct yX6_back cX6_back 2 (some .int) 2 [.inr 0, .inl x0] μ (some o.1) (rb_ov μ [(5, o.2.1), (14, o.2.2.1), (13, o.2.2.2)]) := by
  unfold XX6_back at h
  have hini : rb_ov μ [(5, c0), (14, pr), (13, pf), (18, bx), (0, rf)] = μ := rb_ov_sf _ _ (And.intro hc0 (And.intro hpr (And.intro hpf (And.intro hbx (And.intro hrf True.intro)))))
  have hfin : ∀ u0 u1 u2 : rb_Row, rb_ov μ [(5, u0), (14, u1), (13, u2), (18, bx), (0, rf)] = rb_ov μ [(5, u0), (14, u1), (13, u2)] := fun u0 u1 u2 => rb_ov_ap _ [(5, u0), (14, u1), (13, u2)] _ (And.intro hbx (And.intro hrf True.intro))
  refine rb_cti (w := [(5, c0), (14, pr), (13, pf), (18, bx), (0, rf)]) rfl pn_6 (Nat.le_of_ble_eq_true rfl) rfl hini ?_
  refine ev_iload_n (v := x0) (pc := 0) dX6_back_0 rfl ?_
  by_cases b1 : x0 < 0
  · rw [if_pos b1] at h
    refine ev_if_lt_t (t := 20) (pc := 1) dX6_back_1 (by decide) b1 ?_
    refine ev_iconst (v := (-1)) (pc := 20) dX6_back_20 ki_m1 ?_
    obtain rfl := Option.some.inj h
    exact ev_iret (pc := 21) dX6_back_21 rfl rfl rfl (hfin _ _ _)
  · rw [if_neg b1] at h
    refine ev_if_lt_f (t := 20) (pc := 1) dX6_back_1 (by decide) b1 ?_
    refine ev_iload_n (v := x0) (pc := 4) dX6_back_4 rfl ?_
    refine ev_iconst (v := 2) (pc := 5) dX6_back_5 ki_2 ?_
    by_cases b2 : 2 ≤ x0
    · rw [if_pos b2] at h
      refine ev_icmp_ge_t (t := 20) (pc := 6) dX6_back_6 (by decide) b2 ?_
      refine ev_iconst (v := (-1)) (pc := 20) dX6_back_20 ki_m1 ?_
      obtain rfl := Option.some.inj h
      exact ev_iret (pc := 21) dX6_back_21 rfl rfl rfl (hfin _ _ _)
    · rw [if_neg b2] at h
      refine ev_icmp_ge_f (t := 20) (pc := 6) dX6_back_6 (by decide) b2 ?_
      refine ev_aload_n (v := 0) (pc := 9) dX6_back_9 rfl ?_
      refine ev_geti (v := (rf 6)) (pc := 10) dX6_back_10 fl_RX6_51 rfl rfl rfl ?_
      refine ev_iconst (v := 1) (pc := 13) dX6_back_13 ki_1 ?_
      refine ev_iload_n (v := x0) (pc := 14) dX6_back_14 rfl ?_
      refine ev_ishl (pc := 15) dX6_back_15 ?_
      refine ev_iand (pc := 16) dX6_back_16 ?_
      by_cases b3 : ((rf 6) &&& (1 <<< (x0 &&& 31))) = 0
      · rw [if_pos b3] at h
        refine ev_if_ne_f (t := 22) (pc := 17) dX6_back_17 (by decide) b3 ?_
        refine ev_iconst (v := (-1)) (pc := 20) dX6_back_20 ki_m1 ?_
        obtain rfl := Option.some.inj h
        exact ev_iret (pc := 21) dX6_back_21 rfl rfl rfl (hfin _ _ _)
      · rw [if_neg b3] at h
        refine ev_if_ne_t (t := 22) (pc := 17) dX6_back_17 (by decide) b3 ?_
        obtain ⟨c04, e5, h⟩ := rb_bd h
        obtain ⟨t6, e7, h⟩ := rb_bd h
        obtain ⟨t8, e9, h⟩ := rb_bd h
        refine ev_aload_n (v := 0) (pc := 22) dX6_back_22 rfl ?_
        refine ev_getr (q := 18) (pc := 23) dX6_back_23 fl_RX6_48 rfl rfl ?_
        refine ev_iload_n (v := x0) (pc := 26) dX6_back_26 rfl ?_
        refine ev_sipush (v := 773) (pc := 27) dX6_back_27 ks_773 ?_
        refine ev_imul (pc := 30) dX6_back_30 ?_
        refine ev_aload_n (v := 0) (pc := 31) dX6_back_31 rfl ?_
        refine ev_getr (q := 5) (pc := 32) dX6_back_32 fl_RX6_13 rfl rfl ?_
        refine ev_iconst (v := 0) (pc := 35) dX6_back_35 ki_0 ?_
        refine ev_sipush (v := 773) (pc := 36) dX6_back_36 ks_773 ?_
        refine ev_copy (w' := [(5, c04), (14, pr), (13, pf), (18, bx), (0, rf)]) (pc := 39) dX6_back_39 lk_RX6_239 rfl rfl (Nat.le_of_ble_eq_true rfl) (Nat.le_of_ble_eq_true rfl) e5 rfl ?_
        refine ev_aload_n (v := 0) (pc := 42) dX6_back_42 rfl ?_
        refine ev_getr (q := 13) (pc := 43) dX6_back_43 fl_RX6_41 rfl rfl ?_
        refine ev_aload_n (v := 0) (pc := 46) dX6_back_46 rfl ?_
        refine ev_getr (q := 5) (pc := 47) dX6_back_47 fl_RX6_13 rfl rfl ?_
        refine ev_cVv1w (w' := [(5, c04), (14, t6.1), (13, t6.2), (18, bx), (0, rf)]) (pc := 50) dX6_back_50 mv_X2_restart lk_RX6_45 rp_13 (ct_X2_restart _ _ _ _ _ rfl rfl rfl e7) (Nat.le_of_ble_eq_true rfl) (Nat.le_of_ble_eq_true rfl) rfl ?_
        refine ev_aload_n (v := 0) (pc := 53) dX6_back_53 rfl ?_
        refine ev_getr (q := 1) (pc := 54) dX6_back_54 fl_RX6_22 rfl rfl ?_
        refine ev_getr (q := 2) (pc := 57) dX6_back_57 fl_RX6_65 rfl rfl ?_
        refine ev_cVi0 (pc := 60) dX6_back_60 mv_X5_living lk_RX6_245 rp_2 (ct0_X5_living _ _ _ rfl e9) (Nat.le_of_ble_eq_true rfl) (Nat.le_of_ble_eq_true rfl) ?_
        obtain rfl := Option.some.inj h
        exact ev_iret (pc := 63) dX6_back_63 rfl rfl rfl (hfin _ _ _)
def XX6_forget (c0 : rb_Row) (pr : rb_Row) (pf : rb_Row) (x0 : Int32) : Option (Int32 × rb_Row × rb_Row × rb_Row) := (XX6_isTask x0).bind fun t1 => if t1 = 0 then some ((-1), c0, pr, pf) else (rb_rd c0 773 (599 + x0)).bind fun v4 => if v4 = 0 then some ((-1), c0, pr, pf) else (rb_rd c0 773 (599 + x0)).bind fun v7 => (rb_wr c0 773 (599 + x0) 0).bind fun c09 => (XX6_keptFrom pr pf c09 0 v7).bind fun t11 => some (t11.1, c09, t11.2.1, t11.2.2)
set_option maxHeartbeats 4000000 in
set_option maxRecDepth 20000 in
theorem ct_X6_forget (μ : rb_Mem) (c0 : rb_Row) (pr : rb_Row) (pf : rb_Row) (x0 : Int32) (o : Int32 × rb_Row × rb_Row × rb_Row) (hc0 : μ 5 = c0) (hpr : μ 14 = pr) (hpf : μ 13 = pf) (h : XX6_forget c0 pr pf x0 = some o) : rb_Ct yX6_forget cX6_forget 3 (some .int) 3 [.inr 0, .inl x0] μ (some o.1) (rb_ov μ [(5, o.2.1), (14, o.2.2.1), (13, o.2.2.2)]) := by
  unfold XX6_forget at h
  have hini : rb_ov μ [(5, c0), (14, pr), (13, pf)] = μ := rb_ov_sf _ _ (And.intro hc0 (And.intro hpr (And.intro hpf True.intro)))
  have hfin : ∀ u0 u1 u2 : rb_Row, rb_ov μ [(5, u0), (14, u1), (13, u2)] = rb_ov μ [(5, u0), (14, u1), (13, u2)] := fun u0 u1 u2 => rfl
  refine rb_cti (w := [(5, c0), (14, pr), (13, pf)]) rfl pn_6 (Nat.le_of_ble_eq_true rfl) rfl hini ?_
  obtain ⟨t1, e2, h⟩ := rb_bd h
  refine ev_iload_n (v := x0) (pc := 0) dX6_forget_0 rfl ?_
  refine ev_cSi1 (pc := 1) dX6_forget_1 ms_X6_isTask lk_RX6_208 (ct_X6_isTask _ _ _ e2) (Nat.le_of_ble_eq_true rfl) (Nat.le_of_ble_eq_true rfl) ?_
  by_cases b3 : t1 = 0
  · rw [if_pos b3] at h
    refine ev_if_eq_t (t := 20) (pc := 4) dX6_forget_4 (by decide) b3 ?_
    refine ev_iconst (v := (-1)) (pc := 20) dX6_forget_20 ki_m1 ?_
    obtain rfl := Option.some.inj h
    exact ev_iret (pc := 21) dX6_forget_21 rfl rfl rfl (hfin _ _ _)
  · rw [if_neg b3] at h
    refine ev_if_eq_f (t := 20) (pc := 4) dX6_forget_4 (by decide) b3 ?_
    obtain ⟨v4, e5, h⟩ := rb_bd h
    refine ev_aload_n (v := 0) (pc := 7) dX6_forget_7 rfl ?_
    refine ev_getr (q := 5) (pc := 8) dX6_forget_8 fl_RX6_13 rfl rfl ?_
    refine ev_sipush (v := 599) (pc := 11) dX6_forget_11 ks_599 ?_
    refine ev_iload_n (v := x0) (pc := 14) dX6_forget_14 rfl ?_
    refine ev_iadd (pc := 15) dX6_forget_15 ?_
    refine ev_iald (pc := 16) dX6_forget_16 rfl e5 ?_
    by_cases b6 : v4 = 0
    · rw [if_pos b6] at h
      refine ev_if_ne_f (t := 22) (pc := 17) dX6_forget_17 (by decide) b6 ?_
      refine ev_iconst (v := (-1)) (pc := 20) dX6_forget_20 ki_m1 ?_
      obtain rfl := Option.some.inj h
      exact ev_iret (pc := 21) dX6_forget_21 rfl rfl rfl (hfin _ _ _)
    · rw [if_neg b6] at h
      refine ev_if_ne_t (t := 22) (pc := 17) dX6_forget_17 (by decide) b6 ?_
      obtain ⟨v7, e8, h⟩ := rb_bd h
      obtain ⟨c09, e10, h⟩ := rb_bd h
      obtain ⟨t11, e12, h⟩ := rb_bd h
      refine ev_aload_n (v := 0) (pc := 22) dX6_forget_22 rfl ?_
      refine ev_getr (q := 5) (pc := 23) dX6_forget_23 fl_RX6_13 rfl rfl ?_
      refine ev_sipush (v := 599) (pc := 26) dX6_forget_26 ks_599 ?_
      refine ev_iload_n (v := x0) (pc := 29) dX6_forget_29 rfl ?_
      refine ev_iadd (pc := 30) dX6_forget_30 ?_
      refine ev_iald (pc := 31) dX6_forget_31 rfl e8 ?_
      refine ev_istore_n (L' := [some (.inr 0), some (.inl x0), some (.inl v7)]) (pc := 32) dX6_forget_32 (Nat.le_of_ble_eq_true rfl) rfl ?_
      refine ev_aload_n (v := 0) (pc := 33) dX6_forget_33 rfl ?_
      refine ev_getr (q := 5) (pc := 34) dX6_forget_34 fl_RX6_13 rfl rfl ?_
      refine ev_sipush (v := 599) (pc := 37) dX6_forget_37 ks_599 ?_
      refine ev_iload_n (v := x0) (pc := 40) dX6_forget_40 rfl ?_
      refine ev_iadd (pc := 41) dX6_forget_41 ?_
      refine ev_iconst (v := 0) (pc := 42) dX6_forget_42 ki_0 ?_
      refine ev_iast (w' := [(5, c09), (14, pr), (13, pf)]) (pc := 43) dX6_forget_43 rfl e10 rfl ?_
      refine ev_aload_n (v := 0) (pc := 44) dX6_forget_44 rfl ?_
      refine ev_iconst (v := 0) (pc := 45) dX6_forget_45 ki_0 ?_
      refine ev_iload_n (v := v7) (pc := 46) dX6_forget_46 rfl ?_
      refine ev_cVi2w (w' := [(5, c09), (14, t11.2.1), (13, t11.2.2)]) (pc := 47) dX6_forget_47 mv_X6_keptFrom lk_RX6_79 rp_0 (ct_X6_keptFrom _ _ _ _ _ _ _ rfl rfl rfl e12) (Nat.le_of_ble_eq_true rfl) (Nat.le_of_ble_eq_true rfl) rfl ?_
      obtain rfl := Option.some.inj h
      exact ev_iret (pc := 50) dX6_forget_50 rfl rfl rfl (hfin _ _ _)
def XX6_step (c0 : rb_Row) (g0 : rb_Row) (f0 : rb_Row) (pr : rb_Row) (pf : rb_Row) (x0 : Int32) : Option (Int32 × rb_Row × rb_Row × rb_Row × rb_Row × rb_Row) := (XX6_isTask x0).bind fun t1 => if t1 = 0 then some ((-4), c0, g0, f0, pr, pf) else (rb_rd c0 773 (539 + x0)).bind fun v4 => if v4 < 0 then (rb_rd c0 773 (599 + x0)).bind fun v7 => if v7 = 0 then some ((-4), c0, g0, f0, pr, pf) else (XX0_doStep c0 g0 f0 x0).bind fun t10 => (XX2_keep pr pf t10.2.1).bind fun t12 => some (t10.1, t10.2.1, t10.2.2.1, t10.2.2.2, t12.1, t12.2) else some ((-3), c0, g0, f0, pr, pf)
set_option maxHeartbeats 4000000 in
set_option maxRecDepth 20000 in
theorem ct_X6_step (μ : rb_Mem) (c0 : rb_Row) (g0 : rb_Row) (f0 : rb_Row) (pr : rb_Row) (pf : rb_Row) (x0 : Int32) (o : Int32 × rb_Row × rb_Row × rb_Row × rb_Row × rb_Row) (hc0 : μ 5 = c0) (hg0 : μ 6 = g0) (hf0 : μ 1 = f0) (hpr : μ 14 = pr) (hpf : μ 13 = pf) (h : XX6_step c0 g0 f0 pr pf x0 = some o) : rb_Ct yX6_step cX6_step 3 (some .int) 17 [.inr 0, .inl x0] μ (some o.1) (rb_ov μ [(5, o.2.1), (6, o.2.2.1), (1, o.2.2.2.1), (14, o.2.2.2.2.1), (13, o.2.2.2.2.2)]) := by
  unfold XX6_step at h
  have hini : rb_ov μ [(5, c0), (6, g0), (1, f0), (14, pr), (13, pf)] = μ := rb_ov_sf _ _ (And.intro hc0 (And.intro hg0 (And.intro hf0 (And.intro hpr (And.intro hpf True.intro)))))
  have hfin : ∀ u0 u1 u2 u3 u4 : rb_Row, rb_ov μ [(5, u0), (6, u1), (1, u2), (14, u3), (13, u4)] = rb_ov μ [(5, u0), (6, u1), (1, u2), (14, u3), (13, u4)] := fun u0 u1 u2 u3 u4 => rfl
  refine rb_cti (w := [(5, c0), (6, g0), (1, f0), (14, pr), (13, pf)]) rfl pn_6 (Nat.le_of_ble_eq_true rfl) rfl hini ?_
  obtain ⟨t1, e2, h⟩ := rb_bd h
  refine ev_iload_n (v := x0) (pc := 0) dX6_step_0 rfl ?_
  refine ev_cSi1 (pc := 1) dX6_step_1 ms_X6_isTask lk_RX6_208 (ct_X6_isTask _ _ _ e2) (Nat.le_of_ble_eq_true rfl) (Nat.le_of_ble_eq_true rfl) ?_
  by_cases b3 : t1 = 0
  · rw [if_pos b3] at h
    refine ev_if_ne_f (t := 10) (pc := 4) dX6_step_4 (by decide) b3 ?_
    refine ev_bipush (v := (-4)) (pc := 7) dX6_step_7 kb_m4 ?_
    obtain rfl := Option.some.inj h
    exact ev_iret (pc := 9) dX6_step_9 rfl rfl rfl (hfin _ _ _ _ _)
  · rw [if_neg b3] at h
    refine ev_if_ne_t (t := 10) (pc := 4) dX6_step_4 (by decide) b3 ?_
    obtain ⟨v4, e5, h⟩ := rb_bd h
    refine ev_aload_n (v := 0) (pc := 10) dX6_step_10 rfl ?_
    refine ev_getr (q := 5) (pc := 11) dX6_step_11 fl_RX6_13 rfl rfl ?_
    refine ev_sipush (v := 539) (pc := 14) dX6_step_14 ks_539 ?_
    refine ev_iload_n (v := x0) (pc := 17) dX6_step_17 rfl ?_
    refine ev_iadd (pc := 18) dX6_step_18 ?_
    refine ev_iald (pc := 19) dX6_step_19 rfl e5 ?_
    by_cases b6 : v4 < 0
    · rw [if_pos b6] at h
      refine ev_if_lt_t (t := 26) (pc := 20) dX6_step_20 (by decide) b6 ?_
      obtain ⟨v7, e8, h⟩ := rb_bd h
      refine ev_aload_n (v := 0) (pc := 26) dX6_step_26 rfl ?_
      refine ev_getr (q := 5) (pc := 27) dX6_step_27 fl_RX6_13 rfl rfl ?_
      refine ev_sipush (v := 599) (pc := 30) dX6_step_30 ks_599 ?_
      refine ev_iload_n (v := x0) (pc := 33) dX6_step_33 rfl ?_
      refine ev_iadd (pc := 34) dX6_step_34 ?_
      refine ev_iald (pc := 35) dX6_step_35 rfl e8 ?_
      by_cases b9 : v7 = 0
      · rw [if_pos b9] at h
        refine ev_if_ne_f (t := 42) (pc := 36) dX6_step_36 (by decide) b9 ?_
        refine ev_bipush (v := (-4)) (pc := 39) dX6_step_39 kb_m4 ?_
        obtain rfl := Option.some.inj h
        exact ev_iret (pc := 41) dX6_step_41 rfl rfl rfl (hfin _ _ _ _ _)
      · rw [if_neg b9] at h
        refine ev_if_ne_t (t := 42) (pc := 36) dX6_step_36 (by decide) b9 ?_
        obtain ⟨t10, e11, h⟩ := rb_bd h
        obtain ⟨t12, e13, h⟩ := rb_bd h
        refine ev_aload_n (v := 0) (pc := 42) dX6_step_42 rfl ?_
        refine ev_getr (q := 1) (pc := 43) dX6_step_43 fl_RX6_22 rfl rfl ?_
        refine ev_iload_n (v := x0) (pc := 46) dX6_step_46 rfl ?_
        refine ev_cVi1w (w' := [(5, t10.2.1), (6, t10.2.2.1), (1, t10.2.2.2), (14, pr), (13, pf)]) (pc := 47) dX6_step_47 mv_X0_doStep lk_RX6_248 rp_1 (ct0_X0_doStep _ _ _ _ _ _ rfl rfl rfl e11) (Nat.le_of_ble_eq_true rfl) (Nat.le_of_ble_eq_true rfl) rfl ?_
        refine ev_istore_n (L' := [some (.inr 0), some (.inl x0), some (.inl t10.1)]) (pc := 50) dX6_step_50 (Nat.le_of_ble_eq_true rfl) rfl ?_
        refine ev_aload_n (v := 0) (pc := 51) dX6_step_51 rfl ?_
        refine ev_getr (q := 13) (pc := 52) dX6_step_52 fl_RX6_41 rfl rfl ?_
        refine ev_aload_n (v := 0) (pc := 55) dX6_step_55 rfl ?_
        refine ev_getr (q := 5) (pc := 56) dX6_step_56 fl_RX6_13 rfl rfl ?_
        refine ev_cVv1w (w' := [(5, t10.2.1), (6, t10.2.2.1), (1, t10.2.2.2), (14, t12.1), (13, t12.2)]) (pc := 59) dX6_step_59 mv_X2_keep lk_RX6_59 rp_13 (ct_X2_keep _ _ _ _ _ rfl rfl rfl e13) (Nat.le_of_ble_eq_true rfl) (Nat.le_of_ble_eq_true rfl) rfl ?_
        refine ev_iload_n (v := t10.1) (pc := 62) dX6_step_62 rfl ?_
        obtain rfl := Option.some.inj h
        exact ev_iret (pc := 63) dX6_step_63 rfl rfl rfl (hfin _ _ _ _ _)
    · rw [if_neg b6] at h
      refine ev_if_lt_f (t := 26) (pc := 20) dX6_step_20 (by decide) b6 ?_
      refine ev_bipush (v := (-3)) (pc := 23) dX6_step_23 kb_m3 ?_
      obtain rfl := Option.some.inj h
      exact ev_iret (pc := 25) dX6_step_25 rfl rfl rfl (hfin _ _ _ _ _)
def XX6_orders (c1 : rb_Row) (g1 : rb_Row) (f1 : rb_Row) (tr : rb_Row) (ty : rb_Row) (tf : rb_Row) (c0 : rb_Row) (x0 : Int32) (x1 : Int32) (x2 : Int32) : Option (Int32 × rb_Row × rb_Row × rb_Row × rb_Row × rb_Row × rb_Row) := (XX6_isTask x0).bind fun t1 => if t1 = 0 then some ((-1), c1, g1, f1, tr, ty, tf) else (XX6_isTask x1).bind fun t4 => if t4 = 0 then some ((-1), c1, g1, f1, tr, ty, tf) else if x0 = x1 then some ((-1), c1, g1, f1, tr, ty, tf) else (rb_rd c0 773 (593 + x0)).bind fun v8 => if v8 = 0 then (rb_rd c0 773 (593 + x1)).bind fun v11 => if v11 = 0 then (XX6_rehearse c1 f1 c0).bind fun t14 => (XX3_begin ty tf t14.1 x0 x1).bind fun t16 => (XX3_explore 10 t14.1 g1 t14.2 tr t16.1 t16.2 0).bind fun t18 => (XX3_tallyOf t18.2.2.2.2 x2).bind fun t20 => some (t20, t18.1, t18.2.1, t18.2.2.1, t18.2.2.2.1, t18.2.2.2.2, t16.2) else some ((-1), c1, g1, f1, tr, ty, tf) else some ((-1), c1, g1, f1, tr, ty, tf)
set_option maxHeartbeats 4000000 in
set_option maxRecDepth 20000 in
theorem ct_X6_orders (μ : rb_Mem) (c1 : rb_Row) (g1 : rb_Row) (f1 : rb_Row) (tr : rb_Row) (ty : rb_Row) (tf : rb_Row) (c0 : rb_Row) (x0 : Int32) (x1 : Int32) (x2 : Int32) (o : Int32 × rb_Row × rb_Row × rb_Row × rb_Row × rb_Row × rb_Row) (hc1 : μ 11 = c1) (hg1 : μ 12 = g1) (hf1 : μ 7 = f1) (htr : μ 16 = tr) (hty : μ 17 = ty) (htf : μ 15 = tf) (hc0 : μ 5 = c0) (h : XX6_orders c1 g1 f1 tr ty tf c0 x0 x1 x2 = some o) : rb_Ct yX6_orders cX6_orders 4 (some .int) 28 [.inr 0, .inl x0, .inl x1, .inl x2] μ (some o.1) (rb_ov μ [(11, o.2.1), (12, o.2.2.1), (7, o.2.2.2.1), (16, o.2.2.2.2.1), (17, o.2.2.2.2.2.1), (15, o.2.2.2.2.2.2)]) := by
  unfold XX6_orders at h
  have hini : rb_ov μ [(11, c1), (12, g1), (7, f1), (16, tr), (17, ty), (15, tf), (5, c0)] = μ := rb_ov_sf _ _ (And.intro hc1 (And.intro hg1 (And.intro hf1 (And.intro htr (And.intro hty (And.intro htf (And.intro hc0 True.intro)))))))
  have hfin : ∀ u0 u1 u2 u3 u4 u5 : rb_Row, rb_ov μ [(11, u0), (12, u1), (7, u2), (16, u3), (17, u4), (15, u5), (5, c0)] = rb_ov μ [(11, u0), (12, u1), (7, u2), (16, u3), (17, u4), (15, u5)] := fun u0 u1 u2 u3 u4 u5 => rb_ov_ap _ [(11, u0), (12, u1), (7, u2), (16, u3), (17, u4), (15, u5)] _ (And.intro hc0 True.intro)
  refine rb_cti (w := [(11, c1), (12, g1), (7, f1), (16, tr), (17, ty), (15, tf), (5, c0)]) rfl pn_6 (Nat.le_of_ble_eq_true rfl) rfl hini ?_
  obtain ⟨t1, e2, h⟩ := rb_bd h
  refine ev_iload_n (v := x0) (pc := 0) dX6_orders_0 rfl ?_
  refine ev_cSi1 (pc := 1) dX6_orders_1 ms_X6_isTask lk_RX6_208 (ct_X6_isTask _ _ _ e2) (Nat.le_of_ble_eq_true rfl) (Nat.le_of_ble_eq_true rfl) ?_
  by_cases b3 : t1 = 0
  · rw [if_pos b3] at h
    refine ev_if_eq_t (t := 19) (pc := 4) dX6_orders_4 (by decide) b3 ?_
    refine ev_iconst (v := (-1)) (pc := 19) dX6_orders_19 ki_m1 ?_
    obtain rfl := Option.some.inj h
    exact ev_iret (pc := 20) dX6_orders_20 rfl rfl rfl (hfin _ _ _ _ _ _)
  · rw [if_neg b3] at h
    refine ev_if_eq_f (t := 19) (pc := 4) dX6_orders_4 (by decide) b3 ?_
    obtain ⟨t4, e5, h⟩ := rb_bd h
    refine ev_iload_n (v := x1) (pc := 7) dX6_orders_7 rfl ?_
    refine ev_cSi1 (pc := 8) dX6_orders_8 ms_X6_isTask lk_RX6_208 (ct_X6_isTask _ _ _ e5) (Nat.le_of_ble_eq_true rfl) (Nat.le_of_ble_eq_true rfl) ?_
    by_cases b6 : t4 = 0
    · rw [if_pos b6] at h
      refine ev_if_eq_t (t := 19) (pc := 11) dX6_orders_11 (by decide) b6 ?_
      refine ev_iconst (v := (-1)) (pc := 19) dX6_orders_19 ki_m1 ?_
      obtain rfl := Option.some.inj h
      exact ev_iret (pc := 20) dX6_orders_20 rfl rfl rfl (hfin _ _ _ _ _ _)
    · rw [if_neg b6] at h
      refine ev_if_eq_f (t := 19) (pc := 11) dX6_orders_11 (by decide) b6 ?_
      refine ev_iload_n (v := x0) (pc := 14) dX6_orders_14 rfl ?_
      refine ev_iload_n (v := x1) (pc := 15) dX6_orders_15 rfl ?_
      by_cases b7 : x0 = x1
      · rw [if_pos b7] at h
        refine ev_icmp_ne_f (t := 21) (pc := 16) dX6_orders_16 (by decide) b7 ?_
        refine ev_iconst (v := (-1)) (pc := 19) dX6_orders_19 ki_m1 ?_
        obtain rfl := Option.some.inj h
        exact ev_iret (pc := 20) dX6_orders_20 rfl rfl rfl (hfin _ _ _ _ _ _)
      · rw [if_neg b7] at h
        refine ev_icmp_ne_t (t := 21) (pc := 16) dX6_orders_16 (by decide) b7 ?_
        obtain ⟨v8, e9, h⟩ := rb_bd h
        refine ev_aload_n (v := 0) (pc := 21) dX6_orders_21 rfl ?_
        refine ev_getr (q := 5) (pc := 22) dX6_orders_22 fl_RX6_13 rfl rfl ?_
        refine ev_sipush (v := 593) (pc := 25) dX6_orders_25 ks_593 ?_
        refine ev_iload_n (v := x0) (pc := 28) dX6_orders_28 rfl ?_
        refine ev_iadd (pc := 29) dX6_orders_29 ?_
        refine ev_iald (pc := 30) dX6_orders_30 rfl e9 ?_
        by_cases b10 : v8 = 0
        · rw [if_pos b10] at h
          refine ev_if_ne_f (t := 47) (pc := 31) dX6_orders_31 (by decide) b10 ?_
          obtain ⟨v11, e12, h⟩ := rb_bd h
          refine ev_aload_n (v := 0) (pc := 34) dX6_orders_34 rfl ?_
          refine ev_getr (q := 5) (pc := 35) dX6_orders_35 fl_RX6_13 rfl rfl ?_
          refine ev_sipush (v := 593) (pc := 38) dX6_orders_38 ks_593 ?_
          refine ev_iload_n (v := x1) (pc := 41) dX6_orders_41 rfl ?_
          refine ev_iadd (pc := 42) dX6_orders_42 ?_
          refine ev_iald (pc := 43) dX6_orders_43 rfl e12 ?_
          by_cases b13 : v11 = 0
          · rw [if_pos b13] at h
            refine ev_if_eq_t (t := 49) (pc := 44) dX6_orders_44 (by decide) b13 ?_
            obtain ⟨t14, e15, h⟩ := rb_bd h
            obtain ⟨t16, e17, h⟩ := rb_bd h
            obtain ⟨t18, e19, h⟩ := rb_bd h
            obtain ⟨t20, e21, h⟩ := rb_bd h
            refine ev_aload_n (v := 0) (pc := 49) dX6_orders_49 rfl ?_
            refine ev_cVv0w (w' := [(11, t14.1), (12, g1), (7, t14.2), (16, tr), (17, ty), (15, tf), (5, c0)]) (pc := 50) dX6_orders_50 mv_X6_rehearse lk_RX6_211 rp_0 (ct_X6_rehearse _ _ _ _ _ rfl rfl rfl e15) (Nat.le_of_ble_eq_true rfl) (Nat.le_of_ble_eq_true rfl) rfl ?_
            refine ev_aload_n (v := 0) (pc := 53) dX6_orders_53 rfl ?_
            refine ev_getr (q := 15) (pc := 54) dX6_orders_54 fl_RX6_34 rfl rfl ?_
            refine ev_iload_n (v := x0) (pc := 57) dX6_orders_57 rfl ?_
            refine ev_iload_n (v := x1) (pc := 58) dX6_orders_58 rfl ?_
            refine ev_cVv2w (w' := [(11, t14.1), (12, g1), (7, t14.2), (16, tr), (17, t16.1), (15, t16.2), (5, c0)]) (pc := 59) dX6_orders_59 mv_X3_begin lk_RX6_251 rp_15 (ct_X3_begin _ _ _ _ _ _ _ rfl rfl rfl e17) (Nat.le_of_ble_eq_true rfl) (Nat.le_of_ble_eq_true rfl) rfl ?_
            refine ev_aload_n (v := 0) (pc := 62) dX6_orders_62 rfl ?_
            refine ev_getr (q := 15) (pc := 63) dX6_orders_63 fl_RX6_34 rfl rfl ?_
            refine ev_iconst (v := 0) (pc := 66) dX6_orders_66 ki_0 ?_
            refine ev_cVv1w (w' := [(11, t18.1), (12, t18.2.1), (7, t18.2.2.1), (16, t18.2.2.2.1), (17, t18.2.2.2.2), (15, t16.2), (5, c0)]) (pc := 67) dX6_orders_67 mv_X3_explore lk_RX6_254 rp_15 (ct_X3_explore 10 _ _ _ _ _ _ _ _ _ rfl rfl rfl rfl rfl rfl e19) (Nat.le_of_ble_eq_true rfl) (Nat.le_of_ble_eq_true rfl) rfl ?_
            refine ev_aload_n (v := 0) (pc := 70) dX6_orders_70 rfl ?_
            refine ev_getr (q := 15) (pc := 71) dX6_orders_71 fl_RX6_34 rfl rfl ?_
            refine ev_iload_n (v := x2) (pc := 74) dX6_orders_74 rfl ?_
            refine ev_cVi1 (pc := 75) dX6_orders_75 mv_X3_tallyOf lk_RX6_257 rp_15 (ct_X3_tallyOf _ _ _ _ rfl e21) (Nat.le_of_ble_eq_true rfl) (Nat.le_of_ble_eq_true rfl) ?_
            obtain rfl := Option.some.inj h
            exact ev_iret (pc := 78) dX6_orders_78 rfl rfl rfl (hfin _ _ _ _ _ _)
          · rw [if_neg b13] at h
            refine ev_if_eq_f (t := 49) (pc := 44) dX6_orders_44 (by decide) b13 ?_
            refine ev_iconst (v := (-1)) (pc := 47) dX6_orders_47 ki_m1 ?_
            obtain rfl := Option.some.inj h
            exact ev_iret (pc := 48) dX6_orders_48 rfl rfl rfl (hfin _ _ _ _ _ _)
        · rw [if_neg b10] at h
          refine ev_if_ne_t (t := 47) (pc := 31) dX6_orders_31 (by decide) b10 ?_
          refine ev_iconst (v := (-1)) (pc := 47) dX6_orders_47 ki_m1 ?_
          obtain rfl := Option.some.inj h
          exact ev_iret (pc := 48) dX6_orders_48 rfl rfl rfl (hfin _ _ _ _ _ _)
def XX6_undo (c0 : rb_Row) (pf : rb_Row) (pr : rb_Row) : Option (Int32 × rb_Row × rb_Row) := (XX2_goBack c0 pf pr).bind fun t1 => some ((rb_nz t1.1), t1.2.1, t1.2.2)
set_option maxHeartbeats 4000000 in
set_option maxRecDepth 20000 in
theorem ct_X6_undo (μ : rb_Mem) (c0 : rb_Row) (pf : rb_Row) (pr : rb_Row) (o : Int32 × rb_Row × rb_Row) (hc0 : μ 5 = c0) (hpf : μ 13 = pf) (hpr : μ 14 = pr) (h : XX6_undo c0 pf pr = some o) : rb_Ct yX6_undo cX6_undo 1 (some .boolean) 2 [.inr 0] μ (some o.1) (rb_ov μ [(5, o.2.1), (13, o.2.2)]) := by
  unfold XX6_undo at h
  have hini : rb_ov μ [(5, c0), (13, pf), (14, pr)] = μ := rb_ov_sf _ _ (And.intro hc0 (And.intro hpf (And.intro hpr True.intro)))
  have hfin : ∀ u0 u1 : rb_Row, rb_ov μ [(5, u0), (13, u1), (14, pr)] = rb_ov μ [(5, u0), (13, u1)] := fun u0 u1 => rb_ov_ap _ [(5, u0), (13, u1)] _ (And.intro hpr True.intro)
  refine rb_ctz (w := [(5, c0), (13, pf), (14, pr)]) rfl pn_6 (Nat.le_of_ble_eq_true rfl) rfl hini ?_
  obtain ⟨t1, e2, h⟩ := rb_bd h
  refine ev_aload_n (v := 0) (pc := 0) dX6_undo_0 rfl ?_
  refine ev_getr (q := 13) (pc := 1) dX6_undo_1 fl_RX6_41 rfl rfl ?_
  refine ev_aload_n (v := 0) (pc := 4) dX6_undo_4 rfl ?_
  refine ev_getr (q := 5) (pc := 5) dX6_undo_5 fl_RX6_13 rfl rfl ?_
  refine ev_cVi1w (w' := [(5, t1.2.1), (13, t1.2.2), (14, pr)]) (pc := 8) dX6_undo_8 mv_X2_goBack lk_RX6_260 rp_13 (ct_X2_goBack _ _ _ _ _ rfl rfl rfl e2) (Nat.le_of_ble_eq_true rfl) (Nat.le_of_ble_eq_true rfl) rfl ?_
  obtain rfl := Option.some.inj h
  exact ev_iret (pc := 11) dX6_undo_11 rfl rfl rfl (hfin _ _)
def XX6_redo (c0 : rb_Row) (pf : rb_Row) (pr : rb_Row) : Option (Int32 × rb_Row × rb_Row) := (XX2_goForth c0 pf pr).bind fun t1 => some ((rb_nz t1.1), t1.2.1, t1.2.2)
set_option maxHeartbeats 4000000 in
set_option maxRecDepth 20000 in
theorem ct_X6_redo (μ : rb_Mem) (c0 : rb_Row) (pf : rb_Row) (pr : rb_Row) (o : Int32 × rb_Row × rb_Row) (hc0 : μ 5 = c0) (hpf : μ 13 = pf) (hpr : μ 14 = pr) (h : XX6_redo c0 pf pr = some o) : rb_Ct yX6_redo cX6_redo 1 (some .boolean) 2 [.inr 0] μ (some o.1) (rb_ov μ [(5, o.2.1), (13, o.2.2)]) := by
  unfold XX6_redo at h
  have hini : rb_ov μ [(5, c0), (13, pf), (14, pr)] = μ := rb_ov_sf _ _ (And.intro hc0 (And.intro hpf (And.intro hpr True.intro)))
  have hfin : ∀ u0 u1 : rb_Row, rb_ov μ [(5, u0), (13, u1), (14, pr)] = rb_ov μ [(5, u0), (13, u1)] := fun u0 u1 => rb_ov_ap _ [(5, u0), (13, u1)] _ (And.intro hpr True.intro)
  refine rb_ctz (w := [(5, c0), (13, pf), (14, pr)]) rfl pn_6 (Nat.le_of_ble_eq_true rfl) rfl hini ?_
  obtain ⟨t1, e2, h⟩ := rb_bd h
  refine ev_aload_n (v := 0) (pc := 0) dX6_redo_0 rfl ?_
  refine ev_getr (q := 13) (pc := 1) dX6_redo_1 fl_RX6_41 rfl rfl ?_
  refine ev_aload_n (v := 0) (pc := 4) dX6_redo_4 rfl ?_
  refine ev_getr (q := 5) (pc := 5) dX6_redo_5 fl_RX6_13 rfl rfl ?_
  refine ev_cVi1w (w' := [(5, t1.2.1), (13, t1.2.2), (14, pr)]) (pc := 8) dX6_redo_8 mv_X2_goForth lk_RX6_264 rp_13 (ct_X2_goForth _ _ _ _ _ rfl rfl rfl e2) (Nat.le_of_ble_eq_true rfl) (Nat.le_of_ble_eq_true rfl) rfl ?_
  obtain rfl := Option.some.inj h
  exact ev_iret (pc := 11) dX6_redo_11 rfl rfl rfl (hfin _ _)
def XX6_about (c0 : rb_Row) (pf : rb_Row) (x0 : Int32) : Option (Int32) := if x0 = 0 then (XX5_handleBits c0).bind fun t2 => some t2 else if x0 = 1 then (rb_rd c0 773 2).bind fun v5 => some v5 else if x0 = 2 then (rb_rd c0 773 0).bind fun v8 => some v8 else if x0 = 3 then (XX4_asleep c0).bind fun t11 => some t11 else if x0 = 4 then some (pf 2) else if x0 = 5 then some (pf 3) else if x0 = 6 then (XX5_living c0).bind fun t16 => some t16 else some (-1)
set_option maxHeartbeats 4000000 in
set_option maxRecDepth 20000 in
theorem ct_X6_about (μ : rb_Mem) (c0 : rb_Row) (pf : rb_Row) (x0 : Int32) (o : Int32) (hc0 : μ 5 = c0) (hpf : μ 13 = pf) (h : XX6_about c0 pf x0 = some o) : rb_Ct yX6_about cX6_about 2 (some .int) 1 [.inr 0, .inl x0] μ (some o) μ := by
  unfold XX6_about at h
  have hini : rb_ov μ [(5, c0), (13, pf)] = μ := rb_ov_sf _ _ (And.intro hc0 (And.intro hpf True.intro))
  have hfin := hini
  refine rb_cti (w := [(5, c0), (13, pf)]) rfl pn_6 (Nat.le_of_ble_eq_true rfl) rfl hini ?_
  refine ev_iload_n (v := x0) (pc := 0) dX6_about_0 rfl ?_
  by_cases b1 : x0 = 0
  · rw [if_pos b1] at h
    refine ev_tsIn (t := 44) (off := 43) (pc := 1) dX6_about_1 (by rw [b1]; decide) (by rw [b1]; decide) (by rw [b1]; decide) (by decide) ?_
    obtain ⟨t2, e3, h⟩ := rb_bd h
    refine ev_aload_n (v := 0) (pc := 44) dX6_about_44 rfl ?_
    refine ev_getr (q := 1) (pc := 45) dX6_about_45 fl_RX6_22 rfl rfl ?_
    refine ev_getr (q := 2) (pc := 48) dX6_about_48 fl_RX6_65 rfl rfl ?_
    refine ev_cVi0 (pc := 51) dX6_about_51 mv_X5_handleBits lk_RX6_267 rp_2 (ct0_X5_handleBits _ _ _ rfl e3) (Nat.le_of_ble_eq_true rfl) (Nat.le_of_ble_eq_true rfl) ?_
    obtain rfl := Option.some.inj h
    exact ev_iret (pc := 54) dX6_about_54 rfl rfl rfl hfin
  · rw [if_neg b1] at h
    by_cases b4 : x0 = 1
    · rw [if_pos b4] at h
      refine ev_tsIn (t := 55) (off := 54) (pc := 1) dX6_about_1 (by rw [b4]; decide) (by rw [b4]; decide) (by rw [b4]; decide) (by decide) ?_
      obtain ⟨v5, e6, h⟩ := rb_bd h
      refine ev_aload_n (v := 0) (pc := 55) dX6_about_55 rfl ?_
      refine ev_getr (q := 5) (pc := 56) dX6_about_56 fl_RX6_13 rfl rfl ?_
      refine ev_iconst (v := 2) (pc := 59) dX6_about_59 ki_2 ?_
      refine ev_iald (pc := 60) dX6_about_60 rfl e6 ?_
      obtain rfl := Option.some.inj h
      exact ev_iret (pc := 61) dX6_about_61 rfl rfl rfl hfin
    · rw [if_neg b4] at h
      by_cases b7 : x0 = 2
      · rw [if_pos b7] at h
        refine ev_tsIn (t := 62) (off := 61) (pc := 1) dX6_about_1 (by rw [b7]; decide) (by rw [b7]; decide) (by rw [b7]; decide) (by decide) ?_
        obtain ⟨v8, e9, h⟩ := rb_bd h
        refine ev_aload_n (v := 0) (pc := 62) dX6_about_62 rfl ?_
        refine ev_getr (q := 5) (pc := 63) dX6_about_63 fl_RX6_13 rfl rfl ?_
        refine ev_iconst (v := 0) (pc := 66) dX6_about_66 ki_0 ?_
        refine ev_iald (pc := 67) dX6_about_67 rfl e9 ?_
        obtain rfl := Option.some.inj h
        exact ev_iret (pc := 68) dX6_about_68 rfl rfl rfl hfin
      · rw [if_neg b7] at h
        by_cases b10 : x0 = 3
        · rw [if_pos b10] at h
          refine ev_tsIn (t := 69) (off := 68) (pc := 1) dX6_about_1 (by rw [b10]; decide) (by rw [b10]; decide) (by rw [b10]; decide) (by decide) ?_
          obtain ⟨t11, e12, h⟩ := rb_bd h
          refine ev_aload_n (v := 0) (pc := 69) dX6_about_69 rfl ?_
          refine ev_getr (q := 1) (pc := 70) dX6_about_70 fl_RX6_22 rfl rfl ?_
          refine ev_getr (q := 4) (pc := 73) dX6_about_73 fl_RX6_169 rfl rfl ?_
          refine ev_cVi0 (pc := 76) dX6_about_76 mv_X4_asleep lk_RX6_226 rp_4 (ct0_X4_asleep _ _ _ rfl e12) (Nat.le_of_ble_eq_true rfl) (Nat.le_of_ble_eq_true rfl) ?_
          obtain rfl := Option.some.inj h
          exact ev_iret (pc := 79) dX6_about_79 rfl rfl rfl hfin
        · rw [if_neg b10] at h
          by_cases b13 : x0 = 4
          · rw [if_pos b13] at h
            refine ev_tsIn (t := 80) (off := 79) (pc := 1) dX6_about_1 (by rw [b13]; decide) (by rw [b13]; decide) (by rw [b13]; decide) (by decide) ?_
            refine ev_aload_n (v := 0) (pc := 80) dX6_about_80 rfl ?_
            refine ev_getr (q := 13) (pc := 81) dX6_about_81 fl_RX6_41 rfl rfl ?_
            refine ev_geti (v := (pf 2)) (pc := 84) dX6_about_84 fl_RX6_270 rfl rfl rfl ?_
            obtain rfl := Option.some.inj h
            exact ev_iret (pc := 87) dX6_about_87 rfl rfl rfl hfin
          · rw [if_neg b13] at h
            by_cases b14 : x0 = 5
            · rw [if_pos b14] at h
              refine ev_tsIn (t := 88) (off := 87) (pc := 1) dX6_about_1 (by rw [b14]; decide) (by rw [b14]; decide) (by rw [b14]; decide) (by decide) ?_
              refine ev_aload_n (v := 0) (pc := 88) dX6_about_88 rfl ?_
              refine ev_getr (q := 13) (pc := 89) dX6_about_89 fl_RX6_41 rfl rfl ?_
              refine ev_geti (v := (pf 3)) (pc := 92) dX6_about_92 fl_RX6_273 rfl rfl rfl ?_
              obtain rfl := Option.some.inj h
              exact ev_iret (pc := 95) dX6_about_95 rfl rfl rfl hfin
            · rw [if_neg b14] at h
              by_cases b15 : x0 = 6
              · rw [if_pos b15] at h
                refine ev_tsIn (t := 96) (off := 95) (pc := 1) dX6_about_1 (by rw [b15]; decide) (by rw [b15]; decide) (by rw [b15]; decide) (by decide) ?_
                obtain ⟨t16, e17, h⟩ := rb_bd h
                refine ev_aload_n (v := 0) (pc := 96) dX6_about_96 rfl ?_
                refine ev_getr (q := 1) (pc := 97) dX6_about_97 fl_RX6_22 rfl rfl ?_
                refine ev_getr (q := 2) (pc := 100) dX6_about_100 fl_RX6_65 rfl rfl ?_
                refine ev_cVi0 (pc := 103) dX6_about_103 mv_X5_living lk_RX6_245 rp_2 (ct0_X5_living _ _ _ rfl e17) (Nat.le_of_ble_eq_true rfl) (Nat.le_of_ble_eq_true rfl) ?_
                obtain rfl := Option.some.inj h
                exact ev_iret (pc := 106) dX6_about_106 rfl rfl rfl hfin
              · rw [if_neg b15] at h
                refine ev_tsOut (t := 107) (pc := 1) dX6_about_1 (rb_tsS (k := 6) (by decide) b15 (rb_tsS (k := 5) (by decide) b14 (rb_tsS (k := 4) (by decide) b13 (rb_tsS (k := 3) (by decide) b10 (rb_tsS (k := 2) (by decide) b7 (rb_tsS (k := 1) (by decide) b4 (rb_tsS (k := 0) (by decide) b1 (rb_ts0 _)))))))) (by decide) ?_
                refine ev_iconst (v := (-1)) (pc := 107) dX6_about_107 ki_m1 ?_
                obtain rfl := Option.some.inj h
                exact ev_iret (pc := 108) dX6_about_108 rfl rfl rfl hfin
