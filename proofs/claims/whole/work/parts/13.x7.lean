def XX7_isIn (x0 : Int32) (x1 : Int32) (x2 : Int32) : Option (Int32) := if x0 < x1 then some (rb_nz 0) else if x2 < x0 then some (rb_nz 0) else some (rb_nz 1)
set_option maxHeartbeats 4000000 in
set_option maxRecDepth 20000 in
theorem ct_X7_isIn (μ : rb_Mem) (x0 : Int32) (x1 : Int32) (x2 : Int32) (o : Int32) (h : XX7_isIn x0 x1 x2 = some o) : rb_Ct yX7_isIn cX7_isIn 3 (some .boolean) 0 [.inl x0, .inl x1, .inl x2] μ (some o) μ := by
  unfold XX7_isIn at h
  have hini : rb_ov μ [] = μ := rfl
  have hfin := hini
  refine rb_ctz (w := []) rfl pn_7 (Nat.le_of_ble_eq_true rfl) rfl hini ?_
  refine ev_iload_n (v := x0) (pc := 0) dX7_isIn_0 rfl ?_
  refine ev_iload_n (v := x1) (pc := 1) dX7_isIn_1 rfl ?_
  by_cases b1 : x0 < x1
  · rw [if_pos b1] at h
    refine ev_icmp_lt_t (t := 14) (pc := 2) dX7_isIn_2 (by decide) b1 ?_
    refine ev_iconst (v := 0) (pc := 14) dX7_isIn_14 ki_0 ?_
    obtain rfl := Option.some.inj h
    exact ev_iret (pc := 15) dX7_isIn_15 rfl rfl rfl hfin
  · rw [if_neg b1] at h
    refine ev_icmp_lt_f (t := 14) (pc := 2) dX7_isIn_2 (by decide) b1 ?_
    refine ev_iload_n (v := x0) (pc := 5) dX7_isIn_5 rfl ?_
    refine ev_iload_n (v := x2) (pc := 6) dX7_isIn_6 rfl ?_
    by_cases b2 : x2 < x0
    · rw [if_pos b2] at h
      refine ev_icmp_gt_t (t := 14) (pc := 7) dX7_isIn_7 (by decide) b2 ?_
      refine ev_iconst (v := 0) (pc := 14) dX7_isIn_14 ki_0 ?_
      obtain rfl := Option.some.inj h
      exact ev_iret (pc := 15) dX7_isIn_15 rfl rfl rfl hfin
    · rw [if_neg b2] at h
      refine ev_icmp_gt_f (t := 14) (pc := 7) dX7_isIn_7 (by decide) b2 ?_
      refine ev_iconst (v := 1) (pc := 10) dX7_isIn_10 ki_1 ?_
      refine ev_goto (t := 15) (pc := 11) dX7_isIn_11 (by decide) ?_
      obtain rfl := Option.some.inj h
      exact ev_iret (pc := 15) dX7_isIn_15 rfl rfl rfl hfin
def XX7_objectAt (x0 : Int32) (x1 : Int32) : Option (Int32) := some ((16 + (6 * x0)) + x1)
set_option maxHeartbeats 4000000 in
set_option maxRecDepth 20000 in
theorem ct_X7_objectAt (μ : rb_Mem) (x0 : Int32) (x1 : Int32) (o : Int32) (h : XX7_objectAt x0 x1 = some o) : rb_Ct yX7_objectAt cX7_objectAt 2 (some .int) 0 [.inl x0, .inl x1] μ (some o) μ := by
  unfold XX7_objectAt at h
  have hini : rb_ov μ [] = μ := rfl
  have hfin := hini
  refine rb_cti (w := []) rfl pn_7 (Nat.le_of_ble_eq_true rfl) rfl hini ?_
  refine ev_bipush (v := 16) (pc := 0) dX7_objectAt_0 kb_16 ?_
  refine ev_bipush (v := 6) (pc := 2) dX7_objectAt_2 kb_6 ?_
  refine ev_iload_n (v := x0) (pc := 4) dX7_objectAt_4 rfl ?_
  refine ev_imul (pc := 5) dX7_objectAt_5 ?_
  refine ev_iadd (pc := 6) dX7_objectAt_6 ?_
  refine ev_iload_n (v := x1) (pc := 7) dX7_objectAt_7 rfl ?_
  refine ev_iadd (pc := 8) dX7_objectAt_8 ?_
  obtain rfl := Option.some.inj h
  exact ev_iret (pc := 9) dX7_objectAt_9 rfl rfl rfl hfin
def XX7_pipeAt (x0 : Int32) (x1 : Int32) : Option (Int32) := some ((184 + (4 * x0)) + x1)
set_option maxHeartbeats 4000000 in
set_option maxRecDepth 20000 in
theorem ct_X7_pipeAt (μ : rb_Mem) (x0 : Int32) (x1 : Int32) (o : Int32) (h : XX7_pipeAt x0 x1 = some o) : rb_Ct yX7_pipeAt cX7_pipeAt 2 (some .int) 0 [.inl x0, .inl x1] μ (some o) μ := by
  unfold XX7_pipeAt at h
  have hini : rb_ov μ [] = μ := rfl
  have hfin := hini
  refine rb_cti (w := []) rfl pn_7 (Nat.le_of_ble_eq_true rfl) rfl hini ?_
  refine ev_sipush (v := 184) (pc := 0) dX7_pipeAt_0 ks_184 ?_
  refine ev_iconst (v := 4) (pc := 3) dX7_pipeAt_3 ki_4 ?_
  refine ev_iload_n (v := x0) (pc := 4) dX7_pipeAt_4 rfl ?_
  refine ev_imul (pc := 5) dX7_pipeAt_5 ?_
  refine ev_iadd (pc := 6) dX7_pipeAt_6 ?_
  refine ev_iload_n (v := x1) (pc := 7) dX7_pipeAt_7 rfl ?_
  refine ev_iadd (pc := 8) dX7_pipeAt_8 ?_
  obtain rfl := Option.some.inj h
  exact ev_iret (pc := 9) dX7_pipeAt_9 rfl rfl rfl hfin
def XX7_interestAt (x0 : Int32) (x1 : Int32) : Option (Int32) := some ((296 + (11 * x0)) + x1)
set_option maxHeartbeats 4000000 in
set_option maxRecDepth 20000 in
theorem ct_X7_interestAt (μ : rb_Mem) (x0 : Int32) (x1 : Int32) (o : Int32) (h : XX7_interestAt x0 x1 = some o) : rb_Ct yX7_interestAt cX7_interestAt 2 (some .int) 0 [.inl x0, .inl x1] μ (some o) μ := by
  unfold XX7_interestAt at h
  have hini : rb_ov μ [] = μ := rfl
  have hfin := hini
  refine rb_cti (w := []) rfl pn_7 (Nat.le_of_ble_eq_true rfl) rfl hini ?_
  refine ev_sipush (v := 296) (pc := 0) dX7_interestAt_0 ks_296 ?_
  refine ev_bipush (v := 11) (pc := 3) dX7_interestAt_3 kb_11 ?_
  refine ev_iload_n (v := x0) (pc := 5) dX7_interestAt_5 rfl ?_
  refine ev_imul (pc := 6) dX7_interestAt_6 ?_
  refine ev_iadd (pc := 7) dX7_interestAt_7 ?_
  refine ev_iload_n (v := x1) (pc := 8) dX7_interestAt_8 rfl ?_
  refine ev_iadd (pc := 9) dX7_interestAt_9 ?_
  obtain rfl := Option.some.inj h
  exact ev_iret (pc := 10) dX7_interestAt_10 rfl rfl rfl hfin
def XX7_taskAt (x0 : Int32) (x1 : Int32) : Option (Int32) := some ((560 + (39 * x0)) + x1)
set_option maxHeartbeats 4000000 in
set_option maxRecDepth 20000 in
theorem ct_X7_taskAt (μ : rb_Mem) (x0 : Int32) (x1 : Int32) (o : Int32) (h : XX7_taskAt x0 x1 = some o) : rb_Ct yX7_taskAt cX7_taskAt 2 (some .int) 0 [.inl x0, .inl x1] μ (some o) μ := by
  unfold XX7_taskAt at h
  have hini : rb_ov μ [] = μ := rfl
  have hfin := hini
  refine rb_cti (w := []) rfl pn_7 (Nat.le_of_ble_eq_true rfl) rfl hini ?_
  refine ev_sipush (v := 560) (pc := 0) dX7_taskAt_0 ks_560 ?_
  refine ev_bipush (v := 39) (pc := 3) dX7_taskAt_3 kb_39 ?_
  refine ev_iload_n (v := x0) (pc := 5) dX7_taskAt_5 rfl ?_
  refine ev_imul (pc := 6) dX7_taskAt_6 ?_
  refine ev_iadd (pc := 7) dX7_taskAt_7 ?_
  refine ev_iload_n (v := x1) (pc := 8) dX7_taskAt_8 rfl ?_
  refine ev_iadd (pc := 9) dX7_taskAt_9 ?_
  obtain rfl := Option.some.inj h
  exact ev_iret (pc := 10) dX7_taskAt_10 rfl rfl rfl hfin
def XX7_ofObject (a : rb_Row) (x0 : Int32) (x1 : Int32) : Option (Int32) := (XX7_objectAt x0 x1).bind fun t1 => (rb_rd a 796 t1).bind fun v3 => some v3
set_option maxHeartbeats 4000000 in
set_option maxRecDepth 20000 in
theorem ct_X7_ofObject (μ : rb_Mem) (a : rb_Row) (x0 : Int32) (x1 : Int32) (o : Int32) (ha : μ 20 = a) (h : XX7_ofObject a x0 x1 = some o) : rb_Ct yX7_ofObject cX7_ofObject 3 (some .int) 1 [.inr 19, .inl x0, .inl x1] μ (some o) μ := by
  unfold XX7_ofObject at h
  have hini : rb_ov μ [(20, a)] = μ := rb_ov_sf _ _ (And.intro ha True.intro)
  have hfin := hini
  refine rb_cti (w := [(20, a)]) rfl pn_7 (Nat.le_of_ble_eq_true rfl) rfl hini ?_
  obtain ⟨t1, e2, h⟩ := rb_bd h
  obtain ⟨v3, e4, h⟩ := rb_bd h
  refine ev_aload_n (v := 19) (pc := 0) dX7_ofObject_0 rfl ?_
  refine ev_getr (q := 20) (pc := 1) dX7_ofObject_1 fl_RX7_7 rfl rfl ?_
  refine ev_iload_n (v := x0) (pc := 4) dX7_ofObject_4 rfl ?_
  refine ev_iload_n (v := x1) (pc := 5) dX7_ofObject_5 rfl ?_
  refine ev_cSi2 (pc := 6) dX7_ofObject_6 ms_X7_objectAt lk_RX7_53 (ct_X7_objectAt _ _ _ _ e2) (Nat.le_of_ble_eq_true rfl) (Nat.le_of_ble_eq_true rfl) ?_
  refine ev_iald (pc := 9) dX7_ofObject_9 rfl e4 ?_
  obtain rfl := Option.some.inj h
  exact ev_iret (pc := 10) dX7_ofObject_10 rfl rfl rfl hfin
def XX7_ofPipe (a : rb_Row) (x0 : Int32) (x1 : Int32) : Option (Int32) := (XX7_pipeAt x0 x1).bind fun t1 => (rb_rd a 796 t1).bind fun v3 => some v3
set_option maxHeartbeats 4000000 in
set_option maxRecDepth 20000 in
theorem ct_X7_ofPipe (μ : rb_Mem) (a : rb_Row) (x0 : Int32) (x1 : Int32) (o : Int32) (ha : μ 20 = a) (h : XX7_ofPipe a x0 x1 = some o) : rb_Ct yX7_ofPipe cX7_ofPipe 3 (some .int) 1 [.inr 19, .inl x0, .inl x1] μ (some o) μ := by
  unfold XX7_ofPipe at h
  have hini : rb_ov μ [(20, a)] = μ := rb_ov_sf _ _ (And.intro ha True.intro)
  have hfin := hini
  refine rb_cti (w := [(20, a)]) rfl pn_7 (Nat.le_of_ble_eq_true rfl) rfl hini ?_
  obtain ⟨t1, e2, h⟩ := rb_bd h
  obtain ⟨v3, e4, h⟩ := rb_bd h
  refine ev_aload_n (v := 19) (pc := 0) dX7_ofPipe_0 rfl ?_
  refine ev_getr (q := 20) (pc := 1) dX7_ofPipe_1 fl_RX7_7 rfl rfl ?_
  refine ev_iload_n (v := x0) (pc := 4) dX7_ofPipe_4 rfl ?_
  refine ev_iload_n (v := x1) (pc := 5) dX7_ofPipe_5 rfl ?_
  refine ev_cSi2 (pc := 6) dX7_ofPipe_6 ms_X7_pipeAt lk_RX7_57 (ct_X7_pipeAt _ _ _ _ e2) (Nat.le_of_ble_eq_true rfl) (Nat.le_of_ble_eq_true rfl) ?_
  refine ev_iald (pc := 9) dX7_ofPipe_9 rfl e4 ?_
  obtain rfl := Option.some.inj h
  exact ev_iret (pc := 10) dX7_ofPipe_10 rfl rfl rfl hfin
def XX7_ofInterest (a : rb_Row) (x0 : Int32) (x1 : Int32) : Option (Int32) := (XX7_interestAt x0 x1).bind fun t1 => (rb_rd a 796 t1).bind fun v3 => some v3
set_option maxHeartbeats 4000000 in
set_option maxRecDepth 20000 in
theorem ct_X7_ofInterest (μ : rb_Mem) (a : rb_Row) (x0 : Int32) (x1 : Int32) (o : Int32) (ha : μ 20 = a) (h : XX7_ofInterest a x0 x1 = some o) : rb_Ct yX7_ofInterest cX7_ofInterest 3 (some .int) 1 [.inr 19, .inl x0, .inl x1] μ (some o) μ := by
  unfold XX7_ofInterest at h
  have hini : rb_ov μ [(20, a)] = μ := rb_ov_sf _ _ (And.intro ha True.intro)
  have hfin := hini
  refine rb_cti (w := [(20, a)]) rfl pn_7 (Nat.le_of_ble_eq_true rfl) rfl hini ?_
  obtain ⟨t1, e2, h⟩ := rb_bd h
  obtain ⟨v3, e4, h⟩ := rb_bd h
  refine ev_aload_n (v := 19) (pc := 0) dX7_ofInterest_0 rfl ?_
  refine ev_getr (q := 20) (pc := 1) dX7_ofInterest_1 fl_RX7_7 rfl rfl ?_
  refine ev_iload_n (v := x0) (pc := 4) dX7_ofInterest_4 rfl ?_
  refine ev_iload_n (v := x1) (pc := 5) dX7_ofInterest_5 rfl ?_
  refine ev_cSi2 (pc := 6) dX7_ofInterest_6 ms_X7_interestAt lk_RX7_60 (ct_X7_interestAt _ _ _ _ e2) (Nat.le_of_ble_eq_true rfl) (Nat.le_of_ble_eq_true rfl) ?_
  refine ev_iald (pc := 9) dX7_ofInterest_9 rfl e4 ?_
  obtain rfl := Option.some.inj h
  exact ev_iret (pc := 10) dX7_ofInterest_10 rfl rfl rfl hfin
def XX7_ofTask (a : rb_Row) (x0 : Int32) (x1 : Int32) : Option (Int32) := (XX7_taskAt x0 x1).bind fun t1 => (rb_rd a 796 t1).bind fun v3 => some v3
set_option maxHeartbeats 4000000 in
set_option maxRecDepth 20000 in
theorem ct_X7_ofTask (μ : rb_Mem) (a : rb_Row) (x0 : Int32) (x1 : Int32) (o : Int32) (ha : μ 20 = a) (h : XX7_ofTask a x0 x1 = some o) : rb_Ct yX7_ofTask cX7_ofTask 3 (some .int) 1 [.inr 19, .inl x0, .inl x1] μ (some o) μ := by
  unfold XX7_ofTask at h
  have hini : rb_ov μ [(20, a)] = μ := rb_ov_sf _ _ (And.intro ha True.intro)
  have hfin := hini
  refine rb_cti (w := [(20, a)]) rfl pn_7 (Nat.le_of_ble_eq_true rfl) rfl hini ?_
  obtain ⟨t1, e2, h⟩ := rb_bd h
  obtain ⟨v3, e4, h⟩ := rb_bd h
  refine ev_aload_n (v := 19) (pc := 0) dX7_ofTask_0 rfl ?_
  refine ev_getr (q := 20) (pc := 1) dX7_ofTask_1 fl_RX7_7 rfl rfl ?_
  refine ev_iload_n (v := x0) (pc := 4) dX7_ofTask_4 rfl ?_
  refine ev_iload_n (v := x1) (pc := 5) dX7_ofTask_5 rfl ?_
  refine ev_cSi2 (pc := 6) dX7_ofTask_6 ms_X7_taskAt lk_RX7_63 (ct_X7_taskAt _ _ _ _ e2) (Nat.le_of_ble_eq_true rfl) (Nat.le_of_ble_eq_true rfl) ?_
  refine ev_iald (pc := 9) dX7_ofTask_9 rfl e4 ?_
  obtain rfl := Option.some.inj h
  exact ev_iret (pc := 10) dX7_ofTask_10 rfl rfl rfl hfin
def XX7_kindOf (a : rb_Row) (x0 : Int32) : Option (Int32) := (XX7_ofObject a x0 0).bind fun t1 => some t1
set_option maxHeartbeats 4000000 in
set_option maxRecDepth 20000 in
theorem ct_X7_kindOf (μ : rb_Mem) (a : rb_Row) (x0 : Int32) (o : Int32) (ha : μ 20 = a) (h : XX7_kindOf a x0 = some o) : rb_Ct yX7_kindOf cX7_kindOf 2 (some .int) 2 [.inr 19, .inl x0] μ (some o) μ := by
  unfold XX7_kindOf at h
  have hini : rb_ov μ [(20, a)] = μ := rb_ov_sf _ _ (And.intro ha True.intro)
  have hfin := hini
  refine rb_cti (w := [(20, a)]) rfl pn_7 (Nat.le_of_ble_eq_true rfl) rfl hini ?_
  obtain ⟨t1, e2, h⟩ := rb_bd h
  refine ev_aload_n (v := 19) (pc := 0) dX7_kindOf_0 rfl ?_
  refine ev_iload_n (v := x0) (pc := 1) dX7_kindOf_1 rfl ?_
  refine ev_iconst (v := 0) (pc := 2) dX7_kindOf_2 ki_0 ?_
  refine ev_cVi2 (pc := 3) dX7_kindOf_3 mv_X7_ofObject lk_RX7_66 rp_19 (ct_X7_ofObject _ _ _ _ _ rfl e2) (Nat.le_of_ble_eq_true rfl) (Nat.le_of_ble_eq_true rfl) ?_
  obtain rfl := Option.some.inj h
  exact ev_iret (pc := 6) dX7_kindOf_6 rfl rfl rfl hfin
def XX7_isHandle (a : rb_Row) (x0 : Int32) : Option (Int32) := (XX7_isIn x0 0 15).bind fun t1 => if t1 = 0 then some (rb_nz 0) else (rb_rd a 796 x0).bind fun v4 => if v4 < 0 then some (rb_nz 0) else some (rb_nz 1)
set_option maxHeartbeats 4000000 in
set_option maxRecDepth 20000 in
theorem ct_X7_isHandle (μ : rb_Mem) (a : rb_Row) (x0 : Int32) (o : Int32) (ha : μ 20 = a) (h : XX7_isHandle a x0 = some o) : rb_Ct yX7_isHandle cX7_isHandle 2 (some .boolean) 1 [.inr 19, .inl x0] μ (some o) μ := by
  unfold XX7_isHandle at h
  have hini : rb_ov μ [(20, a)] = μ := rb_ov_sf _ _ (And.intro ha True.intro)
  have hfin := hini
  refine rb_ctz (w := [(20, a)]) rfl pn_7 (Nat.le_of_ble_eq_true rfl) rfl hini ?_
  obtain ⟨t1, e2, h⟩ := rb_bd h
  refine ev_iload_n (v := x0) (pc := 0) dX7_isHandle_0 rfl ?_
  refine ev_iconst (v := 0) (pc := 1) dX7_isHandle_1 ki_0 ?_
  refine ev_bipush (v := 15) (pc := 2) dX7_isHandle_2 kb_15 ?_
  refine ev_cSi3 (pc := 4) dX7_isHandle_4 ms_X7_isIn lk_RX7_69 (ct_X7_isIn _ _ _ _ _ e2) (Nat.le_of_ble_eq_true rfl) (Nat.le_of_ble_eq_true rfl) ?_
  by_cases b3 : t1 = 0
  · rw [if_pos b3] at h
    refine ev_if_eq_t (t := 23) (pc := 7) dX7_isHandle_7 (by decide) b3 ?_
    refine ev_iconst (v := 0) (pc := 23) dX7_isHandle_23 ki_0 ?_
    obtain rfl := Option.some.inj h
    exact ev_iret (pc := 24) dX7_isHandle_24 rfl rfl rfl hfin
  · rw [if_neg b3] at h
    refine ev_if_eq_f (t := 23) (pc := 7) dX7_isHandle_7 (by decide) b3 ?_
    obtain ⟨v4, e5, h⟩ := rb_bd h
    refine ev_aload_n (v := 19) (pc := 10) dX7_isHandle_10 rfl ?_
    refine ev_getr (q := 20) (pc := 11) dX7_isHandle_11 fl_RX7_7 rfl rfl ?_
    refine ev_iload_n (v := x0) (pc := 14) dX7_isHandle_14 rfl ?_
    refine ev_iald (pc := 15) dX7_isHandle_15 rfl e5 ?_
    by_cases b6 : v4 < 0
    · rw [if_pos b6] at h
      refine ev_if_lt_t (t := 23) (pc := 16) dX7_isHandle_16 (by decide) b6 ?_
      refine ev_iconst (v := 0) (pc := 23) dX7_isHandle_23 ki_0 ?_
      obtain rfl := Option.some.inj h
      exact ev_iret (pc := 24) dX7_isHandle_24 rfl rfl rfl hfin
    · rw [if_neg b6] at h
      refine ev_if_lt_f (t := 23) (pc := 16) dX7_isHandle_16 (by decide) b6 ?_
      refine ev_iconst (v := 1) (pc := 19) dX7_isHandle_19 ki_1 ?_
      refine ev_goto (t := 24) (pc := 20) dX7_isHandle_20 (by decide) ?_
      obtain rfl := Option.some.inj h
      exact ev_iret (pc := 24) dX7_isHandle_24 rfl rfl rfl hfin
def XX7_names (a : rb_Row) (x0 : Int32) (x1 : Int32) : Option (Int32) := (XX7_isHandle a x0).bind fun t1 => if t1 = 0 then some (rb_nz 0) else (rb_rd a 796 x0).bind fun v4 => (XX7_kindOf a v4).bind fun t6 => if t6 = x1 then some (rb_nz 1) else some (rb_nz 0)
set_option maxHeartbeats 4000000 in
set_option maxRecDepth 20000 in
theorem ct_X7_names (μ : rb_Mem) (a : rb_Row) (x0 : Int32) (x1 : Int32) (o : Int32) (ha : μ 20 = a) (h : XX7_names a x0 x1 = some o) : rb_Ct yX7_names cX7_names 3 (some .boolean) 3 [.inr 19, .inl x0, .inl x1] μ (some o) μ := by
  unfold XX7_names at h
  have hini : rb_ov μ [(20, a)] = μ := rb_ov_sf _ _ (And.intro ha True.intro)
  have hfin := hini
  refine rb_ctz (w := [(20, a)]) rfl pn_7 (Nat.le_of_ble_eq_true rfl) rfl hini ?_
  obtain ⟨t1, e2, h⟩ := rb_bd h
  refine ev_aload_n (v := 19) (pc := 0) dX7_names_0 rfl ?_
  refine ev_iload_n (v := x0) (pc := 1) dX7_names_1 rfl ?_
  refine ev_cVi1 (pc := 2) dX7_names_2 mv_X7_isHandle lk_RX7_73 rp_19 (ct_X7_isHandle _ _ _ _ rfl e2) (Nat.le_of_ble_eq_true rfl) (Nat.le_of_ble_eq_true rfl) ?_
  by_cases b3 : t1 = 0
  · rw [if_pos b3] at h
    refine ev_if_eq_t (t := 26) (pc := 5) dX7_names_5 (by decide) b3 ?_
    refine ev_iconst (v := 0) (pc := 26) dX7_names_26 ki_0 ?_
    obtain rfl := Option.some.inj h
    exact ev_iret (pc := 27) dX7_names_27 rfl rfl rfl hfin
  · rw [if_neg b3] at h
    refine ev_if_eq_f (t := 26) (pc := 5) dX7_names_5 (by decide) b3 ?_
    obtain ⟨v4, e5, h⟩ := rb_bd h
    obtain ⟨t6, e7, h⟩ := rb_bd h
    refine ev_aload_n (v := 19) (pc := 8) dX7_names_8 rfl ?_
    refine ev_aload_n (v := 19) (pc := 9) dX7_names_9 rfl ?_
    refine ev_getr (q := 20) (pc := 10) dX7_names_10 fl_RX7_7 rfl rfl ?_
    refine ev_iload_n (v := x0) (pc := 13) dX7_names_13 rfl ?_
    refine ev_iald (pc := 14) dX7_names_14 rfl e5 ?_
    refine ev_cVi1 (pc := 15) dX7_names_15 mv_X7_kindOf lk_RX7_77 rp_19 (ct_X7_kindOf _ _ _ _ rfl e7) (Nat.le_of_ble_eq_true rfl) (Nat.le_of_ble_eq_true rfl) ?_
    refine ev_iload_n (v := x1) (pc := 18) dX7_names_18 rfl ?_
    by_cases b8 : t6 = x1
    · rw [if_pos b8] at h
      refine ev_icmp_ne_f (t := 26) (pc := 19) dX7_names_19 (by decide) b8 ?_
      refine ev_iconst (v := 1) (pc := 22) dX7_names_22 ki_1 ?_
      refine ev_goto (t := 27) (pc := 23) dX7_names_23 (by decide) ?_
      obtain rfl := Option.some.inj h
      exact ev_iret (pc := 27) dX7_names_27 rfl rfl rfl hfin
    · rw [if_neg b8] at h
      refine ev_icmp_ne_t (t := 26) (pc := 19) dX7_names_19 (by decide) b8 ?_
      refine ev_iconst (v := 0) (pc := 26) dX7_names_26 ki_0 ?_
      obtain rfl := Option.some.inj h
      exact ev_iret (pc := 27) dX7_names_27 rfl rfl rfl hfin
def XX7_isTask (x0 : Int32) : Option (Int32) := (XX7_isIn x0 0 5).bind fun t1 => some (rb_nz t1)
set_option maxHeartbeats 4000000 in
set_option maxRecDepth 20000 in
theorem ct_X7_isTask (μ : rb_Mem) (x0 : Int32) (o : Int32) (h : XX7_isTask x0 = some o) : rb_Ct yX7_isTask cX7_isTask 2 (some .boolean) 1 [.inr 19, .inl x0] μ (some o) μ := by
  unfold XX7_isTask at h
  have hini : rb_ov μ [] = μ := rfl
  have hfin := hini
  refine rb_ctz (w := []) rfl pn_7 (Nat.le_of_ble_eq_true rfl) rfl hini ?_
  obtain ⟨t1, e2, h⟩ := rb_bd h
  refine ev_iload_n (v := x0) (pc := 0) dX7_isTask_0 rfl ?_
  refine ev_iconst (v := 0) (pc := 1) dX7_isTask_1 ki_0 ?_
  refine ev_iconst (v := 5) (pc := 2) dX7_isTask_2 ki_5 ?_
  refine ev_cSi3 (pc := 3) dX7_isTask_3 ms_X7_isIn lk_RX7_69 (ct_X7_isIn _ _ _ _ _ e2) (Nat.le_of_ble_eq_true rfl) (Nat.le_of_ble_eq_true rfl) ?_
  obtain rfl := Option.some.inj h
  exact ev_iret (pc := 6) dX7_isTask_6 rfl rfl rfl hfin
def XX7_isInterest (a : rb_Row) (x0 : Int32) : Option (Int32) := (XX7_ofInterest a x0 0).bind fun t1 => if t1 < 0 then some (rb_nz 0) else some (rb_nz 1)
set_option maxHeartbeats 4000000 in
set_option maxRecDepth 20000 in
theorem ct_X7_isInterest (μ : rb_Mem) (a : rb_Row) (x0 : Int32) (o : Int32) (ha : μ 20 = a) (h : XX7_isInterest a x0 = some o) : rb_Ct yX7_isInterest cX7_isInterest 2 (some .boolean) 2 [.inr 19, .inl x0] μ (some o) μ := by
  unfold XX7_isInterest at h
  have hini : rb_ov μ [(20, a)] = μ := rb_ov_sf _ _ (And.intro ha True.intro)
  have hfin := hini
  refine rb_ctz (w := [(20, a)]) rfl pn_7 (Nat.le_of_ble_eq_true rfl) rfl hini ?_
  obtain ⟨t1, e2, h⟩ := rb_bd h
  refine ev_aload_n (v := 19) (pc := 0) dX7_isInterest_0 rfl ?_
  refine ev_iload_n (v := x0) (pc := 1) dX7_isInterest_1 rfl ?_
  refine ev_iconst (v := 0) (pc := 2) dX7_isInterest_2 ki_0 ?_
  refine ev_cVi2 (pc := 3) dX7_isInterest_3 mv_X7_ofInterest lk_RX7_81 rp_19 (ct_X7_ofInterest _ _ _ _ _ rfl e2) (Nat.le_of_ble_eq_true rfl) (Nat.le_of_ble_eq_true rfl) ?_
  by_cases b3 : t1 < 0
  · rw [if_pos b3] at h
    refine ev_if_lt_t (t := 13) (pc := 6) dX7_isInterest_6 (by decide) b3 ?_
    refine ev_iconst (v := 0) (pc := 13) dX7_isInterest_13 ki_0 ?_
    obtain rfl := Option.some.inj h
    exact ev_iret (pc := 14) dX7_isInterest_14 rfl rfl rfl hfin
  · rw [if_neg b3] at h
    refine ev_if_lt_f (t := 13) (pc := 6) dX7_isInterest_6 (by decide) b3 ?_
    refine ev_iconst (v := 1) (pc := 9) dX7_isInterest_9 ki_1 ?_
    refine ev_goto (t := 14) (pc := 10) dX7_isInterest_10 (by decide) ?_
    obtain rfl := Option.some.inj h
    exact ev_iret (pc := 14) dX7_isInterest_14 rfl rfl rfl hfin
def XX7_isAsleep (a : rb_Row) (x0 : Int32) : Option (Int32) := (XX7_ofTask a x0 0).bind fun t1 => if t1 < 0 then some (rb_nz 0) else some (rb_nz 1)
set_option maxHeartbeats 4000000 in
set_option maxRecDepth 20000 in
theorem ct_X7_isAsleep (μ : rb_Mem) (a : rb_Row) (x0 : Int32) (o : Int32) (ha : μ 20 = a) (h : XX7_isAsleep a x0 = some o) : rb_Ct yX7_isAsleep cX7_isAsleep 2 (some .boolean) 2 [.inr 19, .inl x0] μ (some o) μ := by
  unfold XX7_isAsleep at h
  have hini : rb_ov μ [(20, a)] = μ := rb_ov_sf _ _ (And.intro ha True.intro)
  have hfin := hini
  refine rb_ctz (w := [(20, a)]) rfl pn_7 (Nat.le_of_ble_eq_true rfl) rfl hini ?_
  obtain ⟨t1, e2, h⟩ := rb_bd h
  refine ev_aload_n (v := 19) (pc := 0) dX7_isAsleep_0 rfl ?_
  refine ev_iload_n (v := x0) (pc := 1) dX7_isAsleep_1 rfl ?_
  refine ev_iconst (v := 0) (pc := 2) dX7_isAsleep_2 ki_0 ?_
  refine ev_cVi2 (pc := 3) dX7_isAsleep_3 mv_X7_ofTask lk_RX7_84 rp_19 (ct_X7_ofTask _ _ _ _ _ rfl e2) (Nat.le_of_ble_eq_true rfl) (Nat.le_of_ble_eq_true rfl) ?_
  by_cases b3 : t1 < 0
  · rw [if_pos b3] at h
    refine ev_if_lt_t (t := 13) (pc := 6) dX7_isAsleep_6 (by decide) b3 ?_
    refine ev_iconst (v := 0) (pc := 13) dX7_isAsleep_13 ki_0 ?_
    obtain rfl := Option.some.inj h
    exact ev_iret (pc := 14) dX7_isAsleep_14 rfl rfl rfl hfin
  · rw [if_neg b3] at h
    refine ev_if_lt_f (t := 13) (pc := 6) dX7_isAsleep_6 (by decide) b3 ?_
    refine ev_iconst (v := 1) (pc := 9) dX7_isAsleep_9 ki_1 ?_
    refine ev_goto (t := 14) (pc := 10) dX7_isAsleep_10 (by decide) ?_
    obtain rfl := Option.some.inj h
    exact ev_iret (pc := 14) dX7_isAsleep_14 rfl rfl rfl hfin
def XX7_stamp (a : rb_Row) : Option (Int32 × rb_Row) := (rb_rd a 796 795).bind fun v1 => (rb_wr a 796 795 (v1 + 1)).bind fun a3 => (rb_rd a3 796 795).bind fun v5 => some (v5, a3)
set_option maxHeartbeats 4000000 in
set_option maxRecDepth 20000 in
theorem ct_X7_stamp (μ : rb_Mem) (a : rb_Row) (o : Int32 × rb_Row) (ha : μ 20 = a) (h : XX7_stamp a = some o) : rb_Ct yX7_stamp cX7_stamp 1 (some .int) 0 [.inr 19] μ (some o.1) (rb_ov μ [(20, o.2)]) := by
  unfold XX7_stamp at h
  have hini : rb_ov μ [(20, a)] = μ := rb_ov_sf _ _ (And.intro ha True.intro)
  have hfin : ∀ u0 : rb_Row, rb_ov μ [(20, u0)] = rb_ov μ [(20, u0)] := fun u0 => rfl
  refine rb_cti (w := [(20, a)]) rfl pn_7 (Nat.le_of_ble_eq_true rfl) rfl hini ?_
  obtain ⟨v1, e2, h⟩ := rb_bd h
  obtain ⟨a3, e4, h⟩ := rb_bd h
  obtain ⟨v5, e6, h⟩ := rb_bd h
  refine ev_aload_n (v := 19) (pc := 0) dX7_stamp_0 rfl ?_
  refine ev_getr (q := 20) (pc := 1) dX7_stamp_1 fl_RX7_7 rfl rfl ?_
  refine ev_sipush (v := 795) (pc := 4) dX7_stamp_4 ks_795 ?_
  refine ev_dup2 (pc := 7) dX7_stamp_7 ?_
  refine ev_iald (pc := 8) dX7_stamp_8 rfl e2 ?_
  refine ev_iconst (v := 1) (pc := 9) dX7_stamp_9 ki_1 ?_
  refine ev_iadd (pc := 10) dX7_stamp_10 ?_
  refine ev_iast (w' := [(20, a3)]) (pc := 11) dX7_stamp_11 rfl e4 rfl ?_
  refine ev_aload_n (v := 19) (pc := 12) dX7_stamp_12 rfl ?_
  refine ev_getr (q := 20) (pc := 13) dX7_stamp_13 fl_RX7_7 rfl rfl ?_
  refine ev_sipush (v := 795) (pc := 16) dX7_stamp_16 ks_795 ?_
  refine ev_iald (pc := 19) dX7_stamp_19 rfl e6 ?_
  obtain rfl := Option.some.inj h
  exact ev_iret (pc := 20) dX7_stamp_20 rfl rfl rfl (hfin _)
def XX7_freeHandle (a : rb_Row) : Option (Int32) := (rb_lp (ρ := (Unit) ⊕ (Int32)) (fun (s1 : Int32) => if 16 ≤ s1 then some (.inr (.inl ())) else (rb_rd a 796 s1).bind fun v11 => if 0 ≤ v11 then some (.inl (s1 + 1)) else some (.inr (.inr s1))) 100000 0).bind fun q2 => Sum.elim (fun (z9 : Unit) => some (-1)) (fun (w14 : Int32) => some w14) q2
set_option maxHeartbeats 4000000 in
set_option maxRecDepth 20000 in
theorem ct_X7_freeHandle (μ : rb_Mem) (a : rb_Row) (o : Int32) (ha : μ 20 = a) (h : XX7_freeHandle a = some o) : rb_Ct yX7_freeHandle cX7_freeHandle 2 (some .int) 0 [.inr 19] μ (some o) μ := by
  unfold XX7_freeHandle at h
  have hini : rb_ov μ [(20, a)] = μ := rb_ov_sf _ _ (And.intro ha True.intro)
  have hfin := hini
  refine rb_cti (w := [(20, a)]) rfl pn_7 (Nat.le_of_ble_eq_true rfl) rfl hini ?_
  refine ev_iconst (v := 0) (pc := 0) dX7_freeHandle_0 ki_0 ?_
  refine ev_istore_n (L' := [some (.inr 19), some (.inl 0)]) (pc := 1) dX7_freeHandle_1 (Nat.le_of_ble_eq_true rfl) rfl ?_
  obtain ⟨q2, l3, h⟩ := rb_bd h
  have hx7 : ∀ z9 : Unit, q2 = .inl z9 → rb_Ev RX7 cX7_freeHandle 2 (some .int) none 0 (some o) μ 25 [none, none] [] (rb_ov μ [(20, a)]) := by
    intro z9 hz
    rw [hz] at h
    replace h := rb_sel h
    refine ev_iconst (v := (-1)) (pc := 25) dX7_freeHandle_25 ki_m1 ?_
    obtain rfl := Option.some.inj h
    exact ev_iret (pc := 26) dX7_freeHandle_26 rfl rfl rfl hfin
  have hr8 : ∀ w14 : Int32, q2 = .inr w14 → w14 = o := by
    intro w14 hz
    rw [hz] at h
    replace h := rb_ser h
    exact Option.some.inj h
  refine rb_lp_ev (P := fun (s1 : Int32) => rb_Ev RX7 cX7_freeHandle 2 (some .int) none 0 (some o) μ 2 [some (.inr 19), some (.inl s1)] [] (rb_ov μ [(20, a)])) ?_ 100000 0 l3
  intro s1 y4 h ih5 hE6
  refine ev_iload_n (v := s1) (pc := 2) dX7_freeHandle_2 rfl ?_
  refine ev_bipush (v := 16) (pc := 3) dX7_freeHandle_3 kb_16 ?_
  by_cases b10 : 16 ≤ s1
  · rw [if_pos b10] at h
    refine ev_icmp_ge_t (t := 25) (pc := 5) dX7_freeHandle_5 (by decide) b10 ?_
    obtain rfl := Option.some.inj h
    exact ev_fg (L := [none, none]) True.intro (hx7 () (hE6 _ rfl).symm)
  · rw [if_neg b10] at h
    refine ev_icmp_ge_f (t := 25) (pc := 5) dX7_freeHandle_5 (by decide) b10 ?_
    obtain ⟨v11, e12, h⟩ := rb_bd h
    refine ev_aload_n (v := 19) (pc := 8) dX7_freeHandle_8 rfl ?_
    refine ev_getr (q := 20) (pc := 9) dX7_freeHandle_9 fl_RX7_7 rfl rfl ?_
    refine ev_iload_n (v := s1) (pc := 12) dX7_freeHandle_12 rfl ?_
    refine ev_iald (pc := 13) dX7_freeHandle_13 rfl e12 ?_
    by_cases b13 : 0 ≤ v11
    · rw [if_pos b13] at h
      refine ev_if_ge_t (t := 19) (pc := 14) dX7_freeHandle_14 (by decide) b13 ?_
      refine ev_iinc (x := s1) (v := (s1 + 1)) (L' := [some (.inr 19), some (.inl (s1 + 1))]) (pc := 19) dX7_freeHandle_19 rfl (kx_1 _) (Nat.le_of_ble_eq_true rfl) rfl ?_
      refine ev_goto (t := 2) (pc := 22) dX7_freeHandle_22 (by decide) ?_
      obtain rfl := Option.some.inj h
      exact ih5 (s1 + 1) rfl
    · rw [if_neg b13] at h
      refine ev_if_ge_f (t := 19) (pc := 14) dX7_freeHandle_14 (by decide) b13 ?_
      refine ev_iload_n (v := s1) (pc := 17) dX7_freeHandle_17 rfl ?_
      obtain rfl := Option.some.inj h
      obtain rfl := hr8 _ (hE6 _ rfl).symm
      exact ev_iret (pc := 18) dX7_freeHandle_18 rfl rfl rfl hfin
def XX7_freeHandles (a : rb_Row) : Option (Int32) := (rb_lp (ρ := Int32) (fun (s1 : Int32 × Int32) => if 16 ≤ s1.2 then some (.inr s1.1) else (rb_rd a 796 s1.2).bind fun v10 => ((if 0 ≤ v10 then some 0 else some 1) : Option (Int32)).bind fun j12 => some (.inl ((s1.1 + j12), (s1.2 + 1)))) 100000 (0, 0)).bind fun q2 => some q2
set_option maxHeartbeats 4000000 in
set_option maxRecDepth 20000 in
theorem ct_X7_freeHandles (μ : rb_Mem) (a : rb_Row) (o : Int32) (ha : μ 20 = a) (h : XX7_freeHandles a = some o) : rb_Ct yX7_freeHandles cX7_freeHandles 3 (some .int) 0 [.inr 19] μ (some o) μ := by
  unfold XX7_freeHandles at h
  have hini : rb_ov μ [(20, a)] = μ := rb_ov_sf _ _ (And.intro ha True.intro)
  have hfin := hini
  refine rb_cti (w := [(20, a)]) rfl pn_7 (Nat.le_of_ble_eq_true rfl) rfl hini ?_
  refine ev_iconst (v := 0) (pc := 0) dX7_freeHandles_0 ki_0 ?_
  refine ev_istore_n (L' := [some (.inr 19), some (.inl 0), none]) (pc := 1) dX7_freeHandles_1 (Nat.le_of_ble_eq_true rfl) rfl ?_
  refine ev_iconst (v := 0) (pc := 2) dX7_freeHandles_2 ki_0 ?_
  refine ev_istore_n (L' := [some (.inr 19), some (.inl 0), some (.inl 0)]) (pc := 3) dX7_freeHandles_3 (Nat.le_of_ble_eq_true rfl) rfl ?_
  obtain ⟨q2, l3, h⟩ := rb_bd h
  have hx7 : rb_Ev RX7 cX7_freeHandles 3 (some .int) none 0 (some o) μ 33 [none, some (.inl q2), none] [] (rb_ov μ [(20, a)]) := by
    refine ev_iload_n (v := q2) (pc := 33) dX7_freeHandles_33 rfl ?_
    obtain rfl := Option.some.inj h
    exact ev_iret (pc := 34) dX7_freeHandles_34 rfl rfl rfl hfin
  refine rb_lp_ev (P := fun (s1 : Int32 × Int32) => rb_Ev RX7 cX7_freeHandles 3 (some .int) none 0 (some o) μ 4 [some (.inr 19), some (.inl s1.1), some (.inl s1.2)] [] (rb_ov μ [(20, a)])) ?_ 100000 (0, 0) l3
  intro s1 y4 h ih5 hE6
  refine ev_iload_n (v := s1.2) (pc := 4) dX7_freeHandles_4 rfl ?_
  refine ev_bipush (v := 16) (pc := 5) dX7_freeHandles_5 kb_16 ?_
  by_cases b9 : 16 ≤ s1.2
  · rw [if_pos b9] at h
    refine ev_icmp_ge_t (t := 33) (pc := 7) dX7_freeHandles_7 (by decide) b9 ?_
    obtain rfl := Option.some.inj h
    obtain rfl := hE6 _ rfl
    exact ev_fg (L := [none, some (.inl s1.1), none]) (And.intro rfl True.intro) (hx7)
  · rw [if_neg b9] at h
    refine ev_icmp_ge_f (t := 33) (pc := 7) dX7_freeHandles_7 (by decide) b9 ?_
    obtain ⟨v10, e11, h⟩ := rb_bd h
    refine ev_iload_n (v := s1.1) (pc := 10) dX7_freeHandles_10 rfl ?_
    refine ev_aload_n (v := 19) (pc := 11) dX7_freeHandles_11 rfl ?_
    refine ev_getr (q := 20) (pc := 12) dX7_freeHandles_12 fl_RX7_7 rfl rfl ?_
    refine ev_iload_n (v := s1.2) (pc := 15) dX7_freeHandles_15 rfl ?_
    refine ev_iald (pc := 16) dX7_freeHandles_16 rfl e11 ?_
    obtain ⟨j12, e13, h⟩ := rb_bd h
    have hj14 : rb_Ev RX7 cX7_freeHandles 3 (some .int) none 0 (some o) μ 25 [some (.inr 19), none, some (.inl s1.2)] [.inl j12, .inl s1.1] (rb_ov μ [(20, a)]) := by
      refine ev_iadd (pc := 25) dX7_freeHandles_25 ?_
      refine ev_istore_n (L' := [some (.inr 19), some (.inl (s1.1 + j12)), some (.inl s1.2)]) (pc := 26) dX7_freeHandles_26 (Nat.le_of_ble_eq_true rfl) rfl ?_
      refine ev_iinc (x := s1.2) (v := (s1.2 + 1)) (L' := [some (.inr 19), some (.inl (s1.1 + j12)), some (.inl (s1.2 + 1))]) (pc := 27) dX7_freeHandles_27 rfl (kx_1 _) (Nat.le_of_ble_eq_true rfl) rfl ?_
      refine ev_goto (t := 4) (pc := 30) dX7_freeHandles_30 (by decide) ?_
      obtain rfl := Option.some.inj h
      exact ih5 ((s1.1 + j12), (s1.2 + 1)) rfl
    replace h := e13
    by_cases b15 : 0 ≤ v10
    · rw [if_pos b15] at h
      refine ev_if_ge_t (t := 24) (pc := 17) dX7_freeHandles_17 (by decide) b15 ?_
      refine ev_iconst (v := 0) (pc := 24) dX7_freeHandles_24 ki_0 ?_
      obtain rfl := Option.some.inj h
      exact ev_fg (L := [some (.inr 19), none, some (.inl s1.2)]) (And.intro rfl (And.intro rfl True.intro)) (hj14)
    · rw [if_neg b15] at h
      refine ev_if_ge_f (t := 24) (pc := 17) dX7_freeHandles_17 (by decide) b15 ?_
      refine ev_iconst (v := 1) (pc := 20) dX7_freeHandles_20 ki_1 ?_
      refine ev_goto (t := 25) (pc := 21) dX7_freeHandles_21 (by decide) ?_
      obtain rfl := Option.some.inj h
      exact ev_fg (L := [some (.inr 19), none, some (.inl s1.2)]) (And.intro rfl (And.intro rfl True.intro)) (hj14)
def XX7_lowestOf (a : rb_Row) (x0 : Int32) : Option (Int32) := (rb_lp (ρ := (Unit) ⊕ (Int32)) (fun (s1 : Int32) => if 16 ≤ s1 then some (.inr (.inl ())) else (rb_rd a 796 s1).bind fun v11 => if v11 = x0 then if x0 < 0 then some (.inl (s1 + 1)) else some (.inr (.inr s1)) else some (.inl (s1 + 1))) 100000 0).bind fun q2 => Sum.elim (fun (z9 : Unit) => some (-1)) (fun (w15 : Int32) => some w15) q2
set_option maxHeartbeats 4000000 in
set_option maxRecDepth 20000 in
theorem ct_X7_lowestOf (μ : rb_Mem) (a : rb_Row) (x0 : Int32) (o : Int32) (ha : μ 20 = a) (h : XX7_lowestOf a x0 = some o) : rb_Ct yX7_lowestOf cX7_lowestOf 3 (some .int) 0 [.inr 19, .inl x0] μ (some o) μ := by
  unfold XX7_lowestOf at h
  have hini : rb_ov μ [(20, a)] = μ := rb_ov_sf _ _ (And.intro ha True.intro)
  have hfin := hini
  refine rb_cti (w := [(20, a)]) rfl pn_7 (Nat.le_of_ble_eq_true rfl) rfl hini ?_
  refine ev_iconst (v := 0) (pc := 0) dX7_lowestOf_0 ki_0 ?_
  refine ev_istore_n (L' := [some (.inr 19), some (.inl x0), some (.inl 0)]) (pc := 1) dX7_lowestOf_1 (Nat.le_of_ble_eq_true rfl) rfl ?_
  obtain ⟨q2, l3, h⟩ := rb_bd h
  have hx7 : ∀ z9 : Unit, q2 = .inl z9 → rb_Ev RX7 cX7_lowestOf 3 (some .int) none 0 (some o) μ 30 [none, none, none] [] (rb_ov μ [(20, a)]) := by
    intro z9 hz
    rw [hz] at h
    replace h := rb_sel h
    refine ev_iconst (v := (-1)) (pc := 30) dX7_lowestOf_30 ki_m1 ?_
    obtain rfl := Option.some.inj h
    exact ev_iret (pc := 31) dX7_lowestOf_31 rfl rfl rfl hfin
  have hr8 : ∀ w15 : Int32, q2 = .inr w15 → w15 = o := by
    intro w15 hz
    rw [hz] at h
    replace h := rb_ser h
    exact Option.some.inj h
  refine rb_lp_ev (P := fun (s1 : Int32) => rb_Ev RX7 cX7_lowestOf 3 (some .int) none 0 (some o) μ 2 [some (.inr 19), some (.inl x0), some (.inl s1)] [] (rb_ov μ [(20, a)])) ?_ 100000 0 l3
  intro s1 y4 h ih5 hE6
  refine ev_iload_n (v := s1) (pc := 2) dX7_lowestOf_2 rfl ?_
  refine ev_bipush (v := 16) (pc := 3) dX7_lowestOf_3 kb_16 ?_
  by_cases b10 : 16 ≤ s1
  · rw [if_pos b10] at h
    refine ev_icmp_ge_t (t := 30) (pc := 5) dX7_lowestOf_5 (by decide) b10 ?_
    obtain rfl := Option.some.inj h
    exact ev_fg (L := [none, none, none]) True.intro (hx7 () (hE6 _ rfl).symm)
  · rw [if_neg b10] at h
    refine ev_icmp_ge_f (t := 30) (pc := 5) dX7_lowestOf_5 (by decide) b10 ?_
    obtain ⟨v11, e12, h⟩ := rb_bd h
    refine ev_aload_n (v := 19) (pc := 8) dX7_lowestOf_8 rfl ?_
    refine ev_getr (q := 20) (pc := 9) dX7_lowestOf_9 fl_RX7_7 rfl rfl ?_
    refine ev_iload_n (v := s1) (pc := 12) dX7_lowestOf_12 rfl ?_
    refine ev_iald (pc := 13) dX7_lowestOf_13 rfl e12 ?_
    refine ev_iload_n (v := x0) (pc := 14) dX7_lowestOf_14 rfl ?_
    by_cases b13 : v11 = x0
    · rw [if_pos b13] at h
      refine ev_icmp_ne_f (t := 24) (pc := 15) dX7_lowestOf_15 (by decide) b13 ?_
      refine ev_iload_n (v := x0) (pc := 18) dX7_lowestOf_18 rfl ?_
      by_cases b14 : x0 < 0
      · rw [if_pos b14] at h
        refine ev_if_lt_t (t := 24) (pc := 19) dX7_lowestOf_19 (by decide) b14 ?_
        refine ev_iinc (x := s1) (v := (s1 + 1)) (L' := [some (.inr 19), some (.inl x0), some (.inl (s1 + 1))]) (pc := 24) dX7_lowestOf_24 rfl (kx_1 _) (Nat.le_of_ble_eq_true rfl) rfl ?_
        refine ev_goto (t := 2) (pc := 27) dX7_lowestOf_27 (by decide) ?_
        obtain rfl := Option.some.inj h
        exact ih5 (s1 + 1) rfl
      · rw [if_neg b14] at h
        refine ev_if_lt_f (t := 24) (pc := 19) dX7_lowestOf_19 (by decide) b14 ?_
        refine ev_iload_n (v := s1) (pc := 22) dX7_lowestOf_22 rfl ?_
        obtain rfl := Option.some.inj h
        obtain rfl := hr8 _ (hE6 _ rfl).symm
        exact ev_iret (pc := 23) dX7_lowestOf_23 rfl rfl rfl hfin
    · rw [if_neg b13] at h
      refine ev_icmp_ne_t (t := 24) (pc := 15) dX7_lowestOf_15 (by decide) b13 ?_
      refine ev_iinc (x := s1) (v := (s1 + 1)) (L' := [some (.inr 19), some (.inl x0), some (.inl (s1 + 1))]) (pc := 24) dX7_lowestOf_24 rfl (kx_1 _) (Nat.le_of_ble_eq_true rfl) rfl ?_
      refine ev_goto (t := 2) (pc := 27) dX7_lowestOf_27 (by decide) ?_
      obtain rfl := Option.some.inj h
      exact ih5 (s1 + 1) rfl
def XX7_handlesOf (a : rb_Row) (x0 : Int32) : Option (Int32) := (rb_lp (ρ := Int32) (fun (s1 : Int32 × Int32) => if 16 ≤ s1.2 then some (.inr s1.1) else (rb_rd a 796 s1.2).bind fun v10 => ((if v10 = x0 then some 1 else some 0) : Option (Int32)).bind fun j12 => some (.inl ((s1.1 + j12), (s1.2 + 1)))) 100000 (0, 0)).bind fun q2 => some q2
set_option maxHeartbeats 4000000 in
set_option maxRecDepth 20000 in
theorem ct_X7_handlesOf (μ : rb_Mem) (a : rb_Row) (x0 : Int32) (o : Int32) (ha : μ 20 = a) (h : XX7_handlesOf a x0 = some o) : rb_Ct yX7_handlesOf cX7_handlesOf 4 (some .int) 0 [.inr 19, .inl x0] μ (some o) μ := by
  unfold XX7_handlesOf at h
  have hini : rb_ov μ [(20, a)] = μ := rb_ov_sf _ _ (And.intro ha True.intro)
  have hfin := hini
  refine rb_cti (w := [(20, a)]) rfl pn_7 (Nat.le_of_ble_eq_true rfl) rfl hini ?_
  refine ev_iconst (v := 0) (pc := 0) dX7_handlesOf_0 ki_0 ?_
  refine ev_istore_n (L' := [some (.inr 19), some (.inl x0), some (.inl 0), none]) (pc := 1) dX7_handlesOf_1 (Nat.le_of_ble_eq_true rfl) rfl ?_
  refine ev_iconst (v := 0) (pc := 2) dX7_handlesOf_2 ki_0 ?_
  refine ev_istore_n (L' := [some (.inr 19), some (.inl x0), some (.inl 0), some (.inl 0)]) (pc := 3) dX7_handlesOf_3 (Nat.le_of_ble_eq_true rfl) rfl ?_
  obtain ⟨q2, l3, h⟩ := rb_bd h
  have hx7 : rb_Ev RX7 cX7_handlesOf 4 (some .int) none 0 (some o) μ 34 [none, none, some (.inl q2), none] [] (rb_ov μ [(20, a)]) := by
    refine ev_iload_n (v := q2) (pc := 34) dX7_handlesOf_34 rfl ?_
    obtain rfl := Option.some.inj h
    exact ev_iret (pc := 35) dX7_handlesOf_35 rfl rfl rfl hfin
  refine rb_lp_ev (P := fun (s1 : Int32 × Int32) => rb_Ev RX7 cX7_handlesOf 4 (some .int) none 0 (some o) μ 4 [some (.inr 19), some (.inl x0), some (.inl s1.1), some (.inl s1.2)] [] (rb_ov μ [(20, a)])) ?_ 100000 (0, 0) l3
  intro s1 y4 h ih5 hE6
  refine ev_iload_n (v := s1.2) (pc := 4) dX7_handlesOf_4 rfl ?_
  refine ev_bipush (v := 16) (pc := 5) dX7_handlesOf_5 kb_16 ?_
  by_cases b9 : 16 ≤ s1.2
  · rw [if_pos b9] at h
    refine ev_icmp_ge_t (t := 34) (pc := 7) dX7_handlesOf_7 (by decide) b9 ?_
    obtain rfl := Option.some.inj h
    obtain rfl := hE6 _ rfl
    exact ev_fg (L := [none, none, some (.inl s1.1), none]) (And.intro rfl True.intro) (hx7)
  · rw [if_neg b9] at h
    refine ev_icmp_ge_f (t := 34) (pc := 7) dX7_handlesOf_7 (by decide) b9 ?_
    obtain ⟨v10, e11, h⟩ := rb_bd h
    refine ev_iload_n (v := s1.1) (pc := 10) dX7_handlesOf_10 rfl ?_
    refine ev_aload_n (v := 19) (pc := 11) dX7_handlesOf_11 rfl ?_
    refine ev_getr (q := 20) (pc := 12) dX7_handlesOf_12 fl_RX7_7 rfl rfl ?_
    refine ev_iload_n (v := s1.2) (pc := 15) dX7_handlesOf_15 rfl ?_
    refine ev_iald (pc := 16) dX7_handlesOf_16 rfl e11 ?_
    refine ev_iload_n (v := x0) (pc := 17) dX7_handlesOf_17 rfl ?_
    obtain ⟨j12, e13, h⟩ := rb_bd h
    have hj14 : rb_Ev RX7 cX7_handlesOf 4 (some .int) none 0 (some o) μ 26 [some (.inr 19), some (.inl x0), none, some (.inl s1.2)] [.inl j12, .inl s1.1] (rb_ov μ [(20, a)]) := by
      refine ev_iadd (pc := 26) dX7_handlesOf_26 ?_
      refine ev_istore_n (L' := [some (.inr 19), some (.inl x0), some (.inl (s1.1 + j12)), some (.inl s1.2)]) (pc := 27) dX7_handlesOf_27 (Nat.le_of_ble_eq_true rfl) rfl ?_
      refine ev_iinc (x := s1.2) (v := (s1.2 + 1)) (L' := [some (.inr 19), some (.inl x0), some (.inl (s1.1 + j12)), some (.inl (s1.2 + 1))]) (pc := 28) dX7_handlesOf_28 rfl (kx_1 _) (Nat.le_of_ble_eq_true rfl) rfl ?_
      refine ev_goto (t := 4) (pc := 31) dX7_handlesOf_31 (by decide) ?_
      obtain rfl := Option.some.inj h
      exact ih5 ((s1.1 + j12), (s1.2 + 1)) rfl
    replace h := e13
    by_cases b15 : v10 = x0
    · rw [if_pos b15] at h
      refine ev_icmp_ne_f (t := 25) (pc := 18) dX7_handlesOf_18 (by decide) b15 ?_
      refine ev_iconst (v := 1) (pc := 21) dX7_handlesOf_21 ki_1 ?_
      refine ev_goto (t := 26) (pc := 22) dX7_handlesOf_22 (by decide) ?_
      obtain rfl := Option.some.inj h
      exact ev_fg (L := [some (.inr 19), some (.inl x0), none, some (.inl s1.2)]) (And.intro rfl (And.intro rfl (And.intro rfl True.intro))) (hj14)
    · rw [if_neg b15] at h
      refine ev_icmp_ne_t (t := 25) (pc := 18) dX7_handlesOf_18 (by decide) b15 ?_
      refine ev_iconst (v := 0) (pc := 25) dX7_handlesOf_25 ki_0 ?_
      obtain rfl := Option.some.inj h
      exact ev_fg (L := [some (.inr 19), some (.inl x0), none, some (.inl s1.2)]) (And.intro rfl (And.intro rfl (And.intro rfl True.intro))) (hj14)
def XX7_newObject (a : rb_Row) (x0 : Int32) (x1 : Int32) (x2 : Int32) (x3 : Int32) : Option (Int32 × rb_Row) := (rb_lp (ρ := Int32) (fun (s1 : Int32) => (XX7_kindOf a s1).bind fun t9 => if t9 < 0 then some (.inr s1) else some (.inl (s1 + 1))) 100000 0).bind fun q2 => (XX7_objectAt q2 0).bind fun t12 => (rb_wr a 796 t12 x0).bind fun a14 => (XX7_objectAt q2 1).bind fun t16 => (rb_wr a14 796 t16 x1).bind fun a18 => (XX7_objectAt q2 2).bind fun t20 => (rb_wr a18 796 t20 x2).bind fun a22 => (XX7_objectAt q2 3).bind fun t24 => (rb_wr a22 796 t24 x3).bind fun a26 => (XX7_objectAt q2 4).bind fun t28 => (rb_wr a26 796 t28 (-1)).bind fun a30 => (XX7_objectAt q2 5).bind fun t32 => (rb_wr a30 796 t32 0).bind fun a34 => some (q2, a34)
set_option maxHeartbeats 4000000 in
set_option maxRecDepth 20000 in
theorem ct_X7_newObject (μ : rb_Mem) (a : rb_Row) (x0 : Int32) (x1 : Int32) (x2 : Int32) (x3 : Int32) (o : Int32 × rb_Row) (ha : μ 20 = a) (h : XX7_newObject a x0 x1 x2 x3 = some o) : rb_Ct yX7_newObject cX7_newObject 6 (some .int) 3 [.inr 19, .inl x0, .inl x1, .inl x2, .inl x3] μ (some o.1) (rb_ov μ [(20, o.2)]) := by
  unfold XX7_newObject at h
  have hini : rb_ov μ [(20, a)] = μ := rb_ov_sf _ _ (And.intro ha True.intro)
  have hfin : ∀ u0 : rb_Row, rb_ov μ [(20, u0)] = rb_ov μ [(20, u0)] := fun u0 => rfl
  refine rb_cti (w := [(20, a)]) rfl pn_7 (Nat.le_of_ble_eq_true rfl) rfl hini ?_
  refine ev_iconst (v := 0) (pc := 0) dX7_newObject_0 ki_0 ?_
  refine ev_istore (L' := [some (.inr 19), some (.inl x0), some (.inl x1), some (.inl x2), some (.inl x3), some (.inl 0)]) (pc := 1) dX7_newObject_1 (Nat.le_of_ble_eq_true rfl) rfl ?_
  obtain ⟨q2, l3, h⟩ := rb_bd h
  have hx7 : rb_Ev RX7 cX7_newObject 6 (some .int) none 3 (some o.1) (rb_ov μ [(20, o.2)]) 18 [some (.inr 19), some (.inl x0), some (.inl x1), some (.inl x2), some (.inl x3), some (.inl q2)] [] (rb_ov μ [(20, a)]) := by
    obtain ⟨t12, e13, h⟩ := rb_bd h
    obtain ⟨a14, e15, h⟩ := rb_bd h
    obtain ⟨t16, e17, h⟩ := rb_bd h
    obtain ⟨a18, e19, h⟩ := rb_bd h
    obtain ⟨t20, e21, h⟩ := rb_bd h
    obtain ⟨a22, e23, h⟩ := rb_bd h
    obtain ⟨t24, e25, h⟩ := rb_bd h
    obtain ⟨a26, e27, h⟩ := rb_bd h
    obtain ⟨t28, e29, h⟩ := rb_bd h
    obtain ⟨a30, e31, h⟩ := rb_bd h
    obtain ⟨t32, e33, h⟩ := rb_bd h
    obtain ⟨a34, e35, h⟩ := rb_bd h
    refine ev_aload_n (v := 19) (pc := 18) dX7_newObject_18 rfl ?_
    refine ev_getr (q := 20) (pc := 19) dX7_newObject_19 fl_RX7_7 rfl rfl ?_
    refine ev_iload (v := q2) (pc := 22) dX7_newObject_22 rfl ?_
    refine ev_iconst (v := 0) (pc := 24) dX7_newObject_24 ki_0 ?_
    refine ev_cSi2 (pc := 25) dX7_newObject_25 ms_X7_objectAt lk_RX7_53 (ct_X7_objectAt _ _ _ _ e13) (Nat.le_of_ble_eq_true rfl) (Nat.le_of_ble_eq_true rfl) ?_
    refine ev_iload_n (v := x0) (pc := 28) dX7_newObject_28 rfl ?_
    refine ev_iast (w' := [(20, a14)]) (pc := 29) dX7_newObject_29 rfl e15 rfl ?_
    refine ev_aload_n (v := 19) (pc := 30) dX7_newObject_30 rfl ?_
    refine ev_getr (q := 20) (pc := 31) dX7_newObject_31 fl_RX7_7 rfl rfl ?_
    refine ev_iload (v := q2) (pc := 34) dX7_newObject_34 rfl ?_
    refine ev_iconst (v := 1) (pc := 36) dX7_newObject_36 ki_1 ?_
    refine ev_cSi2 (pc := 37) dX7_newObject_37 ms_X7_objectAt lk_RX7_53 (ct_X7_objectAt _ _ _ _ e17) (Nat.le_of_ble_eq_true rfl) (Nat.le_of_ble_eq_true rfl) ?_
    refine ev_iload_n (v := x1) (pc := 40) dX7_newObject_40 rfl ?_
    refine ev_iast (w' := [(20, a18)]) (pc := 41) dX7_newObject_41 rfl e19 rfl ?_
    refine ev_aload_n (v := 19) (pc := 42) dX7_newObject_42 rfl ?_
    refine ev_getr (q := 20) (pc := 43) dX7_newObject_43 fl_RX7_7 rfl rfl ?_
    refine ev_iload (v := q2) (pc := 46) dX7_newObject_46 rfl ?_
    refine ev_iconst (v := 2) (pc := 48) dX7_newObject_48 ki_2 ?_
    refine ev_cSi2 (pc := 49) dX7_newObject_49 ms_X7_objectAt lk_RX7_53 (ct_X7_objectAt _ _ _ _ e21) (Nat.le_of_ble_eq_true rfl) (Nat.le_of_ble_eq_true rfl) ?_
    refine ev_iload_n (v := x2) (pc := 52) dX7_newObject_52 rfl ?_
    refine ev_iast (w' := [(20, a22)]) (pc := 53) dX7_newObject_53 rfl e23 rfl ?_
    refine ev_aload_n (v := 19) (pc := 54) dX7_newObject_54 rfl ?_
    refine ev_getr (q := 20) (pc := 55) dX7_newObject_55 fl_RX7_7 rfl rfl ?_
    refine ev_iload (v := q2) (pc := 58) dX7_newObject_58 rfl ?_
    refine ev_iconst (v := 3) (pc := 60) dX7_newObject_60 ki_3 ?_
    refine ev_cSi2 (pc := 61) dX7_newObject_61 ms_X7_objectAt lk_RX7_53 (ct_X7_objectAt _ _ _ _ e25) (Nat.le_of_ble_eq_true rfl) (Nat.le_of_ble_eq_true rfl) ?_
    refine ev_iload (v := x3) (pc := 64) dX7_newObject_64 rfl ?_
    refine ev_iast (w' := [(20, a26)]) (pc := 66) dX7_newObject_66 rfl e27 rfl ?_
    refine ev_aload_n (v := 19) (pc := 67) dX7_newObject_67 rfl ?_
    refine ev_getr (q := 20) (pc := 68) dX7_newObject_68 fl_RX7_7 rfl rfl ?_
    refine ev_iload (v := q2) (pc := 71) dX7_newObject_71 rfl ?_
    refine ev_iconst (v := 4) (pc := 73) dX7_newObject_73 ki_4 ?_
    refine ev_cSi2 (pc := 74) dX7_newObject_74 ms_X7_objectAt lk_RX7_53 (ct_X7_objectAt _ _ _ _ e29) (Nat.le_of_ble_eq_true rfl) (Nat.le_of_ble_eq_true rfl) ?_
    refine ev_iconst (v := (-1)) (pc := 77) dX7_newObject_77 ki_m1 ?_
    refine ev_iast (w' := [(20, a30)]) (pc := 78) dX7_newObject_78 rfl e31 rfl ?_
    refine ev_aload_n (v := 19) (pc := 79) dX7_newObject_79 rfl ?_
    refine ev_getr (q := 20) (pc := 80) dX7_newObject_80 fl_RX7_7 rfl rfl ?_
    refine ev_iload (v := q2) (pc := 83) dX7_newObject_83 rfl ?_
    refine ev_iconst (v := 5) (pc := 85) dX7_newObject_85 ki_5 ?_
    refine ev_cSi2 (pc := 86) dX7_newObject_86 ms_X7_objectAt lk_RX7_53 (ct_X7_objectAt _ _ _ _ e33) (Nat.le_of_ble_eq_true rfl) (Nat.le_of_ble_eq_true rfl) ?_
    refine ev_iconst (v := 0) (pc := 89) dX7_newObject_89 ki_0 ?_
    refine ev_iast (w' := [(20, a34)]) (pc := 90) dX7_newObject_90 rfl e35 rfl ?_
    refine ev_iload (v := q2) (pc := 91) dX7_newObject_91 rfl ?_
    obtain rfl := Option.some.inj h
    exact ev_iret (pc := 93) dX7_newObject_93 rfl rfl rfl (hfin _)
  refine rb_lp_ev (P := fun (s1 : Int32) => rb_Ev RX7 cX7_newObject 6 (some .int) none 3 (some o.1) (rb_ov μ [(20, o.2)]) 3 [some (.inr 19), some (.inl x0), some (.inl x1), some (.inl x2), some (.inl x3), some (.inl s1)] [] (rb_ov μ [(20, a)])) ?_ 100000 0 l3
  intro s1 y4 h ih5 hE6
  obtain ⟨t9, e10, h⟩ := rb_bd h
  refine ev_aload_n (v := 19) (pc := 3) dX7_newObject_3 rfl ?_
  refine ev_iload (v := s1) (pc := 4) dX7_newObject_4 rfl ?_
  refine ev_cVi1 (pc := 6) dX7_newObject_6 mv_X7_kindOf lk_RX7_77 rp_19 (ct_X7_kindOf _ _ _ _ rfl e10) (Nat.le_of_ble_eq_true rfl) (Nat.le_of_ble_eq_true rfl) ?_
  by_cases b11 : t9 < 0
  · rw [if_pos b11] at h
    refine ev_if_lt_t (t := 18) (pc := 9) dX7_newObject_9 (by decide) b11 ?_
    obtain rfl := Option.some.inj h
    obtain rfl := hE6 _ rfl
    exact hx7
  · rw [if_neg b11] at h
    refine ev_if_lt_f (t := 18) (pc := 9) dX7_newObject_9 (by decide) b11 ?_
    refine ev_iinc (x := s1) (v := (s1 + 1)) (L' := [some (.inr 19), some (.inl x0), some (.inl x1), some (.inl x2), some (.inl x3), some (.inl (s1 + 1))]) (pc := 12) dX7_newObject_12 rfl (kx_1 _) (Nat.le_of_ble_eq_true rfl) rfl ?_
    refine ev_goto (t := 3) (pc := 15) dX7_newObject_15 (by decide) ?_
    obtain rfl := Option.some.inj h
    exact ih5 (s1 + 1) rfl
def XX7_newHandle (a : rb_Row) (x0 : Int32) : Option (Int32 × rb_Row) := (XX7_freeHandle a).bind fun t1 => (rb_wr a 796 t1 x0).bind fun a3 => some (t1, a3)
set_option maxHeartbeats 4000000 in
set_option maxRecDepth 20000 in
theorem ct_X7_newHandle (μ : rb_Mem) (a : rb_Row) (x0 : Int32) (o : Int32 × rb_Row) (ha : μ 20 = a) (h : XX7_newHandle a x0 = some o) : rb_Ct yX7_newHandle cX7_newHandle 3 (some .int) 1 [.inr 19, .inl x0] μ (some o.1) (rb_ov μ [(20, o.2)]) := by
  unfold XX7_newHandle at h
  have hini : rb_ov μ [(20, a)] = μ := rb_ov_sf _ _ (And.intro ha True.intro)
  have hfin : ∀ u0 : rb_Row, rb_ov μ [(20, u0)] = rb_ov μ [(20, u0)] := fun u0 => rfl
  refine rb_cti (w := [(20, a)]) rfl pn_7 (Nat.le_of_ble_eq_true rfl) rfl hini ?_
  obtain ⟨t1, e2, h⟩ := rb_bd h
  obtain ⟨a3, e4, h⟩ := rb_bd h
  refine ev_aload_n (v := 19) (pc := 0) dX7_newHandle_0 rfl ?_
  refine ev_cVi0 (pc := 1) dX7_newHandle_1 mv_X7_freeHandle lk_RX7_87 rp_19 (ct_X7_freeHandle _ _ _ rfl e2) (Nat.le_of_ble_eq_true rfl) (Nat.le_of_ble_eq_true rfl) ?_
  refine ev_istore_n (L' := [some (.inr 19), some (.inl x0), some (.inl t1)]) (pc := 4) dX7_newHandle_4 (Nat.le_of_ble_eq_true rfl) rfl ?_
  refine ev_aload_n (v := 19) (pc := 5) dX7_newHandle_5 rfl ?_
  refine ev_getr (q := 20) (pc := 6) dX7_newHandle_6 fl_RX7_7 rfl rfl ?_
  refine ev_iload_n (v := t1) (pc := 9) dX7_newHandle_9 rfl ?_
  refine ev_iload_n (v := x0) (pc := 10) dX7_newHandle_10 rfl ?_
  refine ev_iast (w' := [(20, a3)]) (pc := 11) dX7_newHandle_11 rfl e4 rfl ?_
  refine ev_iload_n (v := t1) (pc := 12) dX7_newHandle_12 rfl ?_
  obtain rfl := Option.some.inj h
  exact ev_iret (pc := 13) dX7_newHandle_13 rfl rfl rfl (hfin _)
def XX7_newPipe (a : rb_Row) (x0 : Int32) : Option (Int32 × rb_Row) := (rb_lp (ρ := Int32) (fun (s1 : Int32) => (XX7_ofPipe a s1 2).bind fun t9 => if 0 ≤ t9 then some (.inl (s1 + 1)) else (XX7_ofPipe a s1 3).bind fun t12 => if t12 < 0 then some (.inr s1) else some (.inl (s1 + 1))) 100000 0).bind fun q2 => (XX7_pipeAt q2 0).bind fun t15 => (rb_wr a 796 t15 x0).bind fun a17 => (XX7_pipeAt q2 1).bind fun t19 => (rb_wr a17 796 t19 0).bind fun a21 => (XX7_pipeAt q2 2).bind fun t23 => (XX7_newObject a21 0 q2 0 0).bind fun t25 => (rb_wr t25.2 796 t23 t25.1).bind fun a27 => (XX7_pipeAt q2 3).bind fun t29 => (XX7_newObject a27 1 q2 0 0).bind fun t31 => (rb_wr t31.2 796 t29 t31.1).bind fun a33 => some (q2, a33)
set_option maxHeartbeats 4000000 in
set_option maxRecDepth 20000 in
theorem ct_X7_newPipe (μ : rb_Mem) (a : rb_Row) (x0 : Int32) (o : Int32 × rb_Row) (ha : μ 20 = a) (h : XX7_newPipe a x0 = some o) : rb_Ct yX7_newPipe cX7_newPipe 3 (some .int) 4 [.inr 19, .inl x0] μ (some o.1) (rb_ov μ [(20, o.2)]) := by
  unfold XX7_newPipe at h
  have hini : rb_ov μ [(20, a)] = μ := rb_ov_sf _ _ (And.intro ha True.intro)
  have hfin : ∀ u0 : rb_Row, rb_ov μ [(20, u0)] = rb_ov μ [(20, u0)] := fun u0 => rfl
  refine rb_cti (w := [(20, a)]) rfl pn_7 (Nat.le_of_ble_eq_true rfl) rfl hini ?_
  refine ev_iconst (v := 0) (pc := 0) dX7_newPipe_0 ki_0 ?_
  refine ev_istore_n (L' := [some (.inr 19), some (.inl x0), some (.inl 0)]) (pc := 1) dX7_newPipe_1 (Nat.le_of_ble_eq_true rfl) rfl ?_
  obtain ⟨q2, l3, h⟩ := rb_bd h
  have hx7 : rb_Ev RX7 cX7_newPipe 3 (some .int) none 4 (some o.1) (rb_ov μ [(20, o.2)]) 26 [some (.inr 19), some (.inl x0), some (.inl q2)] [] (rb_ov μ [(20, a)]) := by
    obtain ⟨t15, e16, h⟩ := rb_bd h
    obtain ⟨a17, e18, h⟩ := rb_bd h
    obtain ⟨t19, e20, h⟩ := rb_bd h
    obtain ⟨a21, e22, h⟩ := rb_bd h
    obtain ⟨t23, e24, h⟩ := rb_bd h
    obtain ⟨t25, e26, h⟩ := rb_bd h
    obtain ⟨a27, e28, h⟩ := rb_bd h
    obtain ⟨t29, e30, h⟩ := rb_bd h
    obtain ⟨t31, e32, h⟩ := rb_bd h
    obtain ⟨a33, e34, h⟩ := rb_bd h
    refine ev_aload_n (v := 19) (pc := 26) dX7_newPipe_26 rfl ?_
    refine ev_getr (q := 20) (pc := 27) dX7_newPipe_27 fl_RX7_7 rfl rfl ?_
    refine ev_iload_n (v := q2) (pc := 30) dX7_newPipe_30 rfl ?_
    refine ev_iconst (v := 0) (pc := 31) dX7_newPipe_31 ki_0 ?_
    refine ev_cSi2 (pc := 32) dX7_newPipe_32 ms_X7_pipeAt lk_RX7_57 (ct_X7_pipeAt _ _ _ _ e16) (Nat.le_of_ble_eq_true rfl) (Nat.le_of_ble_eq_true rfl) ?_
    refine ev_iload_n (v := x0) (pc := 35) dX7_newPipe_35 rfl ?_
    refine ev_iast (w' := [(20, a17)]) (pc := 36) dX7_newPipe_36 rfl e18 rfl ?_
    refine ev_aload_n (v := 19) (pc := 37) dX7_newPipe_37 rfl ?_
    refine ev_getr (q := 20) (pc := 38) dX7_newPipe_38 fl_RX7_7 rfl rfl ?_
    refine ev_iload_n (v := q2) (pc := 41) dX7_newPipe_41 rfl ?_
    refine ev_iconst (v := 1) (pc := 42) dX7_newPipe_42 ki_1 ?_
    refine ev_cSi2 (pc := 43) dX7_newPipe_43 ms_X7_pipeAt lk_RX7_57 (ct_X7_pipeAt _ _ _ _ e20) (Nat.le_of_ble_eq_true rfl) (Nat.le_of_ble_eq_true rfl) ?_
    refine ev_iconst (v := 0) (pc := 46) dX7_newPipe_46 ki_0 ?_
    refine ev_iast (w' := [(20, a21)]) (pc := 47) dX7_newPipe_47 rfl e22 rfl ?_
    refine ev_aload_n (v := 19) (pc := 48) dX7_newPipe_48 rfl ?_
    refine ev_getr (q := 20) (pc := 49) dX7_newPipe_49 fl_RX7_7 rfl rfl ?_
    refine ev_iload_n (v := q2) (pc := 52) dX7_newPipe_52 rfl ?_
    refine ev_iconst (v := 2) (pc := 53) dX7_newPipe_53 ki_2 ?_
    refine ev_cSi2 (pc := 54) dX7_newPipe_54 ms_X7_pipeAt lk_RX7_57 (ct_X7_pipeAt _ _ _ _ e24) (Nat.le_of_ble_eq_true rfl) (Nat.le_of_ble_eq_true rfl) ?_
    refine ev_aload_n (v := 19) (pc := 57) dX7_newPipe_57 rfl ?_
    refine ev_iconst (v := 0) (pc := 58) dX7_newPipe_58 ki_0 ?_
    refine ev_iload_n (v := q2) (pc := 59) dX7_newPipe_59 rfl ?_
    refine ev_iconst (v := 0) (pc := 60) dX7_newPipe_60 ki_0 ?_
    refine ev_iconst (v := 0) (pc := 61) dX7_newPipe_61 ki_0 ?_
    refine ev_cVi4w (w' := [(20, t25.2)]) (pc := 62) dX7_newPipe_62 mv_X7_newObject lk_RX7_94 rp_19 (ct_X7_newObject _ _ _ _ _ _ _ rfl e26) (Nat.le_of_ble_eq_true rfl) (Nat.le_of_ble_eq_true rfl) rfl ?_
    refine ev_iast (w' := [(20, a27)]) (pc := 65) dX7_newPipe_65 rfl e28 rfl ?_
    refine ev_aload_n (v := 19) (pc := 66) dX7_newPipe_66 rfl ?_
    refine ev_getr (q := 20) (pc := 67) dX7_newPipe_67 fl_RX7_7 rfl rfl ?_
    refine ev_iload_n (v := q2) (pc := 70) dX7_newPipe_70 rfl ?_
    refine ev_iconst (v := 3) (pc := 71) dX7_newPipe_71 ki_3 ?_
    refine ev_cSi2 (pc := 72) dX7_newPipe_72 ms_X7_pipeAt lk_RX7_57 (ct_X7_pipeAt _ _ _ _ e30) (Nat.le_of_ble_eq_true rfl) (Nat.le_of_ble_eq_true rfl) ?_
    refine ev_aload_n (v := 19) (pc := 75) dX7_newPipe_75 rfl ?_
    refine ev_iconst (v := 1) (pc := 76) dX7_newPipe_76 ki_1 ?_
    refine ev_iload_n (v := q2) (pc := 77) dX7_newPipe_77 rfl ?_
    refine ev_iconst (v := 0) (pc := 78) dX7_newPipe_78 ki_0 ?_
    refine ev_iconst (v := 0) (pc := 79) dX7_newPipe_79 ki_0 ?_
    refine ev_cVi4w (w' := [(20, t31.2)]) (pc := 80) dX7_newPipe_80 mv_X7_newObject lk_RX7_94 rp_19 (ct_X7_newObject _ _ _ _ _ _ _ rfl e32) (Nat.le_of_ble_eq_true rfl) (Nat.le_of_ble_eq_true rfl) rfl ?_
    refine ev_iast (w' := [(20, a33)]) (pc := 83) dX7_newPipe_83 rfl e34 rfl ?_
    refine ev_iload_n (v := q2) (pc := 84) dX7_newPipe_84 rfl ?_
    obtain rfl := Option.some.inj h
    exact ev_iret (pc := 85) dX7_newPipe_85 rfl rfl rfl (hfin _)
  refine rb_lp_ev (P := fun (s1 : Int32) => rb_Ev RX7 cX7_newPipe 3 (some .int) none 4 (some o.1) (rb_ov μ [(20, o.2)]) 2 [some (.inr 19), some (.inl x0), some (.inl s1)] [] (rb_ov μ [(20, a)])) ?_ 100000 0 l3
  intro s1 y4 h ih5 hE6
  obtain ⟨t9, e10, h⟩ := rb_bd h
  refine ev_aload_n (v := 19) (pc := 2) dX7_newPipe_2 rfl ?_
  refine ev_iload_n (v := s1) (pc := 3) dX7_newPipe_3 rfl ?_
  refine ev_iconst (v := 2) (pc := 4) dX7_newPipe_4 ki_2 ?_
  refine ev_cVi2 (pc := 5) dX7_newPipe_5 mv_X7_ofPipe lk_RX7_91 rp_19 (ct_X7_ofPipe _ _ _ _ _ rfl e10) (Nat.le_of_ble_eq_true rfl) (Nat.le_of_ble_eq_true rfl) ?_
  by_cases b11 : 0 ≤ t9
  · rw [if_pos b11] at h
    refine ev_if_ge_t (t := 20) (pc := 8) dX7_newPipe_8 (by decide) b11 ?_
    refine ev_iinc (x := s1) (v := (s1 + 1)) (L' := [some (.inr 19), some (.inl x0), some (.inl (s1 + 1))]) (pc := 20) dX7_newPipe_20 rfl (kx_1 _) (Nat.le_of_ble_eq_true rfl) rfl ?_
    refine ev_goto (t := 2) (pc := 23) dX7_newPipe_23 (by decide) ?_
    obtain rfl := Option.some.inj h
    exact ih5 (s1 + 1) rfl
  · rw [if_neg b11] at h
    refine ev_if_ge_f (t := 20) (pc := 8) dX7_newPipe_8 (by decide) b11 ?_
    obtain ⟨t12, e13, h⟩ := rb_bd h
    refine ev_aload_n (v := 19) (pc := 11) dX7_newPipe_11 rfl ?_
    refine ev_iload_n (v := s1) (pc := 12) dX7_newPipe_12 rfl ?_
    refine ev_iconst (v := 3) (pc := 13) dX7_newPipe_13 ki_3 ?_
    refine ev_cVi2 (pc := 14) dX7_newPipe_14 mv_X7_ofPipe lk_RX7_91 rp_19 (ct_X7_ofPipe _ _ _ _ _ rfl e13) (Nat.le_of_ble_eq_true rfl) (Nat.le_of_ble_eq_true rfl) ?_
    by_cases b14 : t12 < 0
    · rw [if_pos b14] at h
      refine ev_if_lt_t (t := 26) (pc := 17) dX7_newPipe_17 (by decide) b14 ?_
      obtain rfl := Option.some.inj h
      obtain rfl := hE6 _ rfl
      exact hx7
    · rw [if_neg b14] at h
      refine ev_if_lt_f (t := 26) (pc := 17) dX7_newPipe_17 (by decide) b14 ?_
      refine ev_iinc (x := s1) (v := (s1 + 1)) (L' := [some (.inr 19), some (.inl x0), some (.inl (s1 + 1))]) (pc := 20) dX7_newPipe_20 rfl (kx_1 _) (Nat.le_of_ble_eq_true rfl) rfl ?_
      refine ev_goto (t := 2) (pc := 23) dX7_newPipe_23 (by decide) ?_
      obtain rfl := Option.some.inj h
      exact ih5 (s1 + 1) rfl
def XX7_isEnd (a : rb_Row) (x0 : Int32) : Option (Int32) := (XX7_kindOf a x0).bind fun t1 => if t1 = 0 then some (rb_nz 1) else (XX7_kindOf a x0).bind fun t4 => if t4 = 1 then some (rb_nz 1) else some (rb_nz 0)
set_option maxHeartbeats 4000000 in
set_option maxRecDepth 20000 in
theorem ct_X7_isEnd (μ : rb_Mem) (a : rb_Row) (x0 : Int32) (o : Int32) (ha : μ 20 = a) (h : XX7_isEnd a x0 = some o) : rb_Ct yX7_isEnd cX7_isEnd 2 (some .boolean) 3 [.inr 19, .inl x0] μ (some o) μ := by
  unfold XX7_isEnd at h
  have hini : rb_ov μ [(20, a)] = μ := rb_ov_sf _ _ (And.intro ha True.intro)
  have hfin := hini
  refine rb_ctz (w := [(20, a)]) rfl pn_7 (Nat.le_of_ble_eq_true rfl) rfl hini ?_
  obtain ⟨t1, e2, h⟩ := rb_bd h
  refine ev_aload_n (v := 19) (pc := 0) dX7_isEnd_0 rfl ?_
  refine ev_iload_n (v := x0) (pc := 1) dX7_isEnd_1 rfl ?_
  refine ev_cVi1 (pc := 2) dX7_isEnd_2 mv_X7_kindOf lk_RX7_77 rp_19 (ct_X7_kindOf _ _ _ _ rfl e2) (Nat.le_of_ble_eq_true rfl) (Nat.le_of_ble_eq_true rfl) ?_
  by_cases b3 : t1 = 0
  · rw [if_pos b3] at h
    refine ev_if_eq_t (t := 17) (pc := 5) dX7_isEnd_5 (by decide) b3 ?_
    refine ev_iconst (v := 1) (pc := 17) dX7_isEnd_17 ki_1 ?_
    refine ev_goto (t := 22) (pc := 18) dX7_isEnd_18 (by decide) ?_
    obtain rfl := Option.some.inj h
    exact ev_iret (pc := 22) dX7_isEnd_22 rfl rfl rfl hfin
  · rw [if_neg b3] at h
    refine ev_if_eq_f (t := 17) (pc := 5) dX7_isEnd_5 (by decide) b3 ?_
    obtain ⟨t4, e5, h⟩ := rb_bd h
    refine ev_aload_n (v := 19) (pc := 8) dX7_isEnd_8 rfl ?_
    refine ev_iload_n (v := x0) (pc := 9) dX7_isEnd_9 rfl ?_
    refine ev_cVi1 (pc := 10) dX7_isEnd_10 mv_X7_kindOf lk_RX7_77 rp_19 (ct_X7_kindOf _ _ _ _ rfl e5) (Nat.le_of_ble_eq_true rfl) (Nat.le_of_ble_eq_true rfl) ?_
    refine ev_iconst (v := 1) (pc := 13) dX7_isEnd_13 ki_1 ?_
    by_cases b6 : t4 = 1
    · rw [if_pos b6] at h
      refine ev_icmp_ne_f (t := 21) (pc := 14) dX7_isEnd_14 (by decide) b6 ?_
      refine ev_iconst (v := 1) (pc := 17) dX7_isEnd_17 ki_1 ?_
      refine ev_goto (t := 22) (pc := 18) dX7_isEnd_18 (by decide) ?_
      obtain rfl := Option.some.inj h
      exact ev_iret (pc := 22) dX7_isEnd_22 rfl rfl rfl hfin
    · rw [if_neg b6] at h
      refine ev_icmp_ne_t (t := 21) (pc := 14) dX7_isEnd_14 (by decide) b6 ?_
      refine ev_iconst (v := 0) (pc := 21) dX7_isEnd_21 ki_0 ?_
      obtain rfl := Option.some.inj h
      exact ev_iret (pc := 22) dX7_isEnd_22 rfl rfl rfl hfin
def XX7_otherEnd (a : rb_Row) (x0 : Int32) : Option (Int32) := (XX7_ofObject a x0 1).bind fun t1 => (XX7_kindOf a x0).bind fun t3 => (XX7_ofPipe a t1 (3 - t3)).bind fun t5 => some t5
set_option maxHeartbeats 4000000 in
set_option maxRecDepth 20000 in
theorem ct_X7_otherEnd (μ : rb_Mem) (a : rb_Row) (x0 : Int32) (o : Int32) (ha : μ 20 = a) (h : XX7_otherEnd a x0 = some o) : rb_Ct yX7_otherEnd cX7_otherEnd 2 (some .int) 3 [.inr 19, .inl x0] μ (some o) μ := by
  unfold XX7_otherEnd at h
  have hini : rb_ov μ [(20, a)] = μ := rb_ov_sf _ _ (And.intro ha True.intro)
  have hfin := hini
  refine rb_cti (w := [(20, a)]) rfl pn_7 (Nat.le_of_ble_eq_true rfl) rfl hini ?_
  obtain ⟨t1, e2, h⟩ := rb_bd h
  obtain ⟨t3, e4, h⟩ := rb_bd h
  obtain ⟨t5, e6, h⟩ := rb_bd h
  refine ev_aload_n (v := 19) (pc := 0) dX7_otherEnd_0 rfl ?_
  refine ev_aload_n (v := 19) (pc := 1) dX7_otherEnd_1 rfl ?_
  refine ev_iload_n (v := x0) (pc := 2) dX7_otherEnd_2 rfl ?_
  refine ev_iconst (v := 1) (pc := 3) dX7_otherEnd_3 ki_1 ?_
  refine ev_cVi2 (pc := 4) dX7_otherEnd_4 mv_X7_ofObject lk_RX7_66 rp_19 (ct_X7_ofObject _ _ _ _ _ rfl e2) (Nat.le_of_ble_eq_true rfl) (Nat.le_of_ble_eq_true rfl) ?_
  refine ev_iconst (v := 3) (pc := 7) dX7_otherEnd_7 ki_3 ?_
  refine ev_aload_n (v := 19) (pc := 8) dX7_otherEnd_8 rfl ?_
  refine ev_iload_n (v := x0) (pc := 9) dX7_otherEnd_9 rfl ?_
  refine ev_cVi1 (pc := 10) dX7_otherEnd_10 mv_X7_kindOf lk_RX7_77 rp_19 (ct_X7_kindOf _ _ _ _ rfl e4) (Nat.le_of_ble_eq_true rfl) (Nat.le_of_ble_eq_true rfl) ?_
  refine ev_isub (pc := 13) dX7_otherEnd_13 ?_
  refine ev_cVi2 (pc := 14) dX7_otherEnd_14 mv_X7_ofPipe lk_RX7_91 rp_19 (ct_X7_ofPipe _ _ _ _ _ rfl e6) (Nat.le_of_ble_eq_true rfl) (Nat.le_of_ble_eq_true rfl) ?_
  obtain rfl := Option.some.inj h
  exact ev_iret (pc := 17) dX7_otherEnd_17 rfl rfl rfl hfin
def XX7_keepAct (mf : rb_Row) (wa : rb_Row) (a : rb_Row) : Option (rb_Row × rb_Row) := ((if (mf 16) = 12 then (rb_lp (ρ := rb_Row) (fun (s5 : Int32 × rb_Row) => if 9552 ≤ s5.1 then some (.inr s5.2) else (rb_rd s5.2 10348 (s5.1 + 796)).bind fun v14 => (rb_wr s5.2 10348 s5.1 v14).bind fun wa16 => some (.inl ((s5.1 + 1), wa16))) 100000 (0, wa)).bind fun q6 => (rb_pf mf 16 ((mf 16) - 1)).bind fun mf18 => some (mf18, q6) else some (mf, wa)) : Option (rb_Row × rb_Row)).bind fun j1 => (rb_lp (ρ := rb_Row) (fun (s20 : Int32 × rb_Row) => if 796 ≤ s20.1 then some (.inr s20.2) else (rb_rd a 796 s20.1).bind fun v29 => (rb_wr s20.2 10348 ((796 * (j1.1 16)) + s20.1) v29).bind fun wa31 => some (.inl ((s20.1 + 1), wa31))) 100000 (0, j1.2)).bind fun q21 => (rb_pf j1.1 16 ((j1.1 16) + 1)).bind fun mf33 => (rb_pf mf33 17 0).bind fun mf35 => some (mf35, q21)
set_option maxHeartbeats 4000000 in
set_option maxRecDepth 20000 in
theorem ct_X7_keepAct (μ : rb_Mem) (mf : rb_Row) (wa : rb_Row) (a : rb_Row) (o : rb_Row × rb_Row) (hmf : μ 19 = mf) (hwa : μ 31 = wa) (ha : μ 20 = a) (h : XX7_keepAct mf wa a = some o) : rb_Ct yX7_keepAct cX7_keepAct 2 none 0 [.inr 19] μ none (rb_ov μ [(19, o.1), (31, o.2)]) := by
  unfold XX7_keepAct at h
  have hini : rb_ov μ [(19, mf), (31, wa), (20, a)] = μ := rb_ov_sf _ _ (And.intro hmf (And.intro hwa (And.intro ha True.intro)))
  have hfin : ∀ u0 u1 : rb_Row, rb_ov μ [(19, u0), (31, u1), (20, a)] = rb_ov μ [(19, u0), (31, u1)] := fun u0 u1 => rb_ov_ap _ [(19, u0), (31, u1)] _ (And.intro ha True.intro)
  refine rb_ctv (w := [(19, mf), (31, wa), (20, a)]) rfl pn_7 (Nat.le_of_ble_eq_true rfl) rfl hini ?_
  refine ev_aload_n (v := 19) (pc := 0) dX7_keepAct_0 rfl ?_
  refine ev_geti (v := (mf 16)) (pc := 1) dX7_keepAct_1 fl_RX7_353 rfl rfl rfl ?_
  refine ev_bipush (v := 12) (pc := 4) dX7_keepAct_4 kb_12 ?_
  obtain ⟨j1, e2, h⟩ := rb_bd h
  have hj3 : rb_Ev RX7 cX7_keepAct 2 none none 0 none (rb_ov μ [(19, o.1), (31, o.2)]) 50 [some (.inr 19), none] [] (rb_ov μ [(19, j1.1), (31, j1.2), (20, a)]) := by
    refine ev_iconst (v := 0) (pc := 50) dX7_keepAct_50 ki_0 ?_
    refine ev_istore_n (L' := [some (.inr 19), some (.inl 0)]) (pc := 51) dX7_keepAct_51 (Nat.le_of_ble_eq_true rfl) rfl ?_
    obtain ⟨q21, l22, h⟩ := rb_bd h
    have hx26 : rb_Ev RX7 cX7_keepAct 2 none none 0 none (rb_ov μ [(19, o.1), (31, o.2)]) 86 [some (.inr 19), none] [] (rb_ov μ [(19, j1.1), (31, q21), (20, a)]) := by
      obtain ⟨mf33, e34, h⟩ := rb_bd h
      obtain ⟨mf35, e36, h⟩ := rb_bd h
      refine ev_aload_n (v := 19) (pc := 86) dX7_keepAct_86 rfl ?_
      refine ev_dup (pc := 87) dX7_keepAct_87 ?_
      refine ev_geti (v := (j1.1 16)) (pc := 88) dX7_keepAct_88 fl_RX7_353 rfl rfl rfl ?_
      refine ev_iconst (v := 1) (pc := 91) dX7_keepAct_91 ki_1 ?_
      refine ev_iadd (pc := 92) dX7_keepAct_92 ?_
      refine ev_putw (w' := [(19, mf33), (31, q21), (20, a)]) (pc := 93) dX7_keepAct_93 fp_RX7_353 rfl rfl e34 rfl ?_
      refine ev_aload_n (v := 19) (pc := 96) dX7_keepAct_96 rfl ?_
      refine ev_iconst (v := 0) (pc := 97) dX7_keepAct_97 ki_0 ?_
      refine ev_putw (w' := [(19, mf35), (31, q21), (20, a)]) (pc := 98) dX7_keepAct_98 fp_RX7_356 rfl rfl e36 rfl ?_
      obtain rfl := Option.some.inj h
      exact ev_ret (pc := 101) dX7_keepAct_101 rfl rfl (hfin _ _)
    refine rb_lp_ev (P := fun (s20 : Int32 × rb_Row) => rb_Ev RX7 cX7_keepAct 2 none none 0 none (rb_ov μ [(19, o.1), (31, o.2)]) 52 [some (.inr 19), some (.inl s20.1)] [] (rb_ov μ [(19, j1.1), (31, s20.2), (20, a)])) ?_ 100000 (0, j1.2) l22
    intro s20 y23 h ih24 hE25
    refine ev_iload_n (v := s20.1) (pc := 52) dX7_keepAct_52 rfl ?_
    refine ev_sipush (v := 796) (pc := 53) dX7_keepAct_53 ks_796 ?_
    by_cases b28 : 796 ≤ s20.1
    · rw [if_pos b28] at h
      refine ev_icmp_ge_t (t := 86) (pc := 56) dX7_keepAct_56 (by decide) b28 ?_
      obtain rfl := Option.some.inj h
      obtain rfl := hE25 _ rfl
      exact ev_fg (L := [some (.inr 19), none]) (And.intro rfl True.intro) (hx26)
    · rw [if_neg b28] at h
      refine ev_icmp_ge_f (t := 86) (pc := 56) dX7_keepAct_56 (by decide) b28 ?_
      obtain ⟨v29, e30, h⟩ := rb_bd h
      obtain ⟨wa31, e32, h⟩ := rb_bd h
      refine ev_aload_n (v := 19) (pc := 59) dX7_keepAct_59 rfl ?_
      refine ev_getr (q := 31) (pc := 60) dX7_keepAct_60 fl_RX7_44 rfl rfl ?_
      refine ev_sipush (v := 796) (pc := 63) dX7_keepAct_63 ks_796 ?_
      refine ev_aload_n (v := 19) (pc := 66) dX7_keepAct_66 rfl ?_
      refine ev_geti (v := (j1.1 16)) (pc := 67) dX7_keepAct_67 fl_RX7_353 rfl rfl rfl ?_
      refine ev_imul (pc := 70) dX7_keepAct_70 ?_
      refine ev_iload_n (v := s20.1) (pc := 71) dX7_keepAct_71 rfl ?_
      refine ev_iadd (pc := 72) dX7_keepAct_72 ?_
      refine ev_aload_n (v := 19) (pc := 73) dX7_keepAct_73 rfl ?_
      refine ev_getr (q := 20) (pc := 74) dX7_keepAct_74 fl_RX7_7 rfl rfl ?_
      refine ev_iload_n (v := s20.1) (pc := 77) dX7_keepAct_77 rfl ?_
      refine ev_iald (pc := 78) dX7_keepAct_78 rfl e30 ?_
      refine ev_iast (w' := [(19, j1.1), (31, wa31), (20, a)]) (pc := 79) dX7_keepAct_79 rfl e32 rfl ?_
      refine ev_iinc (x := s20.1) (v := (s20.1 + 1)) (L' := [some (.inr 19), some (.inl (s20.1 + 1))]) (pc := 80) dX7_keepAct_80 rfl (kx_1 _) (Nat.le_of_ble_eq_true rfl) rfl ?_
      refine ev_goto (t := 52) (pc := 83) dX7_keepAct_83 (by decide) ?_
      obtain rfl := Option.some.inj h
      exact ih24 ((s20.1 + 1), wa31) rfl
  replace h := e2
  by_cases b4 : (mf 16) = 12
  · rw [if_pos b4] at h
    refine ev_icmp_ne_f (t := 50) (pc := 6) dX7_keepAct_6 (by decide) b4 ?_
    refine ev_iconst (v := 0) (pc := 9) dX7_keepAct_9 ki_0 ?_
    refine ev_istore_n (L' := [some (.inr 19), some (.inl 0)]) (pc := 10) dX7_keepAct_10 (Nat.le_of_ble_eq_true rfl) rfl ?_
    obtain ⟨q6, l7, h⟩ := rb_bd h
    have hx11 : rb_Ev RX7 cX7_keepAct 2 none none 0 none (rb_ov μ [(19, o.1), (31, o.2)]) 40 [some (.inr 19), none] [] (rb_ov μ [(19, mf), (31, q6), (20, a)]) := by
      obtain ⟨mf18, e19, h⟩ := rb_bd h
      refine ev_aload_n (v := 19) (pc := 40) dX7_keepAct_40 rfl ?_
      refine ev_dup (pc := 41) dX7_keepAct_41 ?_
      refine ev_geti (v := (mf 16)) (pc := 42) dX7_keepAct_42 fl_RX7_353 rfl rfl rfl ?_
      refine ev_iconst (v := 1) (pc := 45) dX7_keepAct_45 ki_1 ?_
      refine ev_isub (pc := 46) dX7_keepAct_46 ?_
      refine ev_putw (w' := [(19, mf18), (31, q6), (20, a)]) (pc := 47) dX7_keepAct_47 fp_RX7_353 rfl rfl e19 rfl ?_
      obtain rfl := Option.some.inj h
      exact hj3
    refine rb_lp_ev (P := fun (s5 : Int32 × rb_Row) => rb_Ev RX7 cX7_keepAct 2 none none 0 none (rb_ov μ [(19, o.1), (31, o.2)]) 11 [some (.inr 19), some (.inl s5.1)] [] (rb_ov μ [(19, mf), (31, s5.2), (20, a)])) ?_ 100000 (0, wa) l7
    intro s5 y8 h ih9 hE10
    refine ev_iload_n (v := s5.1) (pc := 11) dX7_keepAct_11 rfl ?_
    refine ev_sipush (v := 9552) (pc := 12) dX7_keepAct_12 ks_9552 ?_
    by_cases b13 : 9552 ≤ s5.1
    · rw [if_pos b13] at h
      refine ev_icmp_ge_t (t := 40) (pc := 15) dX7_keepAct_15 (by decide) b13 ?_
      obtain rfl := Option.some.inj h
      obtain rfl := hE10 _ rfl
      exact ev_fg (L := [some (.inr 19), none]) (And.intro rfl True.intro) (hx11)
    · rw [if_neg b13] at h
      refine ev_icmp_ge_f (t := 40) (pc := 15) dX7_keepAct_15 (by decide) b13 ?_
      obtain ⟨v14, e15, h⟩ := rb_bd h
      obtain ⟨wa16, e17, h⟩ := rb_bd h
      refine ev_aload_n (v := 19) (pc := 18) dX7_keepAct_18 rfl ?_
      refine ev_getr (q := 31) (pc := 19) dX7_keepAct_19 fl_RX7_44 rfl rfl ?_
      refine ev_iload_n (v := s5.1) (pc := 22) dX7_keepAct_22 rfl ?_
      refine ev_aload_n (v := 19) (pc := 23) dX7_keepAct_23 rfl ?_
      refine ev_getr (q := 31) (pc := 24) dX7_keepAct_24 fl_RX7_44 rfl rfl ?_
      refine ev_iload_n (v := s5.1) (pc := 27) dX7_keepAct_27 rfl ?_
      refine ev_sipush (v := 796) (pc := 28) dX7_keepAct_28 ks_796 ?_
      refine ev_iadd (pc := 31) dX7_keepAct_31 ?_
      refine ev_iald (pc := 32) dX7_keepAct_32 rfl e15 ?_
      refine ev_iast (w' := [(19, mf), (31, wa16), (20, a)]) (pc := 33) dX7_keepAct_33 rfl e17 rfl ?_
      refine ev_iinc (x := s5.1) (v := (s5.1 + 1)) (L' := [some (.inr 19), some (.inl (s5.1 + 1))]) (pc := 34) dX7_keepAct_34 rfl (kx_1 _) (Nat.le_of_ble_eq_true rfl) rfl ?_
      refine ev_goto (t := 11) (pc := 37) dX7_keepAct_37 (by decide) ?_
      obtain rfl := Option.some.inj h
      exact ih9 ((s5.1 + 1), wa16) rfl
  · rw [if_neg b4] at h
    refine ev_icmp_ne_t (t := 50) (pc := 6) dX7_keepAct_6 (by decide) b4 ?_
    obtain rfl := Option.some.inj h
    exact hj3
def XX7_pipe (a : rb_Row) (mf : rb_Row) (wa : rb_Row) (x0 : Int32) : Option (Int32 × rb_Row × rb_Row × rb_Row) := (XX7_isIn x0 1 100).bind fun t1 => if t1 = 0 then some ((-1), a, mf, wa) else (XX7_freeHandles a).bind fun t4 => if 2 ≤ t4 then (XX7_keepAct mf wa a).bind fun t7 => (XX7_newPipe a x0).bind fun t9 => (XX7_ofPipe t9.2 t9.1 2).bind fun t11 => (XX7_newHandle t9.2 t11).bind fun t13 => (XX7_ofPipe t13.2 t9.1 3).bind fun t15 => (XX7_newHandle t13.2 t15).bind fun t17 => if t17.1 ≤ t13.1 then some (t17.1, t17.2, t7.1, t7.2) else some (t13.1, t17.2, t7.1, t7.2) else some ((-1), a, mf, wa)
set_option maxHeartbeats 4000000 in
set_option maxRecDepth 20000 in
theorem ct_X7_pipe (μ : rb_Mem) (a : rb_Row) (mf : rb_Row) (wa : rb_Row) (x0 : Int32) (o : Int32 × rb_Row × rb_Row × rb_Row) (ha : μ 20 = a) (hmf : μ 19 = mf) (hwa : μ 31 = wa) (h : XX7_pipe a mf wa x0 = some o) : rb_Ct yX7_pipe cX7_pipe 5 (some .int) 5 [.inr 19, .inl x0] μ (some o.1) (rb_ov μ [(20, o.2.1), (19, o.2.2.1), (31, o.2.2.2)]) := by
  unfold XX7_pipe at h
  have hini : rb_ov μ [(20, a), (19, mf), (31, wa)] = μ := rb_ov_sf _ _ (And.intro ha (And.intro hmf (And.intro hwa True.intro)))
  have hfin : ∀ u0 u1 u2 : rb_Row, rb_ov μ [(20, u0), (19, u1), (31, u2)] = rb_ov μ [(20, u0), (19, u1), (31, u2)] := fun u0 u1 u2 => rfl
  refine rb_cti (w := [(20, a), (19, mf), (31, wa)]) rfl pn_7 (Nat.le_of_ble_eq_true rfl) rfl hini ?_
  obtain ⟨t1, e2, h⟩ := rb_bd h
  refine ev_iload_n (v := x0) (pc := 0) dX7_pipe_0 rfl ?_
  refine ev_iconst (v := 1) (pc := 1) dX7_pipe_1 ki_1 ?_
  refine ev_bipush (v := 100) (pc := 2) dX7_pipe_2 kb_100 ?_
  refine ev_cSi3 (pc := 4) dX7_pipe_4 ms_X7_isIn lk_RX7_69 (ct_X7_isIn _ _ _ _ _ e2) (Nat.le_of_ble_eq_true rfl) (Nat.le_of_ble_eq_true rfl) ?_
  by_cases b3 : t1 = 0
  · rw [if_pos b3] at h
    refine ev_if_eq_t (t := 18) (pc := 7) dX7_pipe_7 (by decide) b3 ?_
    refine ev_iconst (v := (-1)) (pc := 18) dX7_pipe_18 ki_m1 ?_
    obtain rfl := Option.some.inj h
    exact ev_iret (pc := 19) dX7_pipe_19 rfl rfl rfl (hfin _ _ _)
  · rw [if_neg b3] at h
    refine ev_if_eq_f (t := 18) (pc := 7) dX7_pipe_7 (by decide) b3 ?_
    obtain ⟨t4, e5, h⟩ := rb_bd h
    refine ev_aload_n (v := 19) (pc := 10) dX7_pipe_10 rfl ?_
    refine ev_cVi0 (pc := 11) dX7_pipe_11 mv_X7_freeHandles lk_RX7_98 rp_19 (ct_X7_freeHandles _ _ _ rfl e5) (Nat.le_of_ble_eq_true rfl) (Nat.le_of_ble_eq_true rfl) ?_
    refine ev_iconst (v := 2) (pc := 14) dX7_pipe_14 ki_2 ?_
    by_cases b6 : 2 ≤ t4
    · rw [if_pos b6] at h
      refine ev_icmp_ge_t (t := 20) (pc := 15) dX7_pipe_15 (by decide) b6 ?_
      obtain ⟨t7, e8, h⟩ := rb_bd h
      obtain ⟨t9, e10, h⟩ := rb_bd h
      obtain ⟨t11, e12, h⟩ := rb_bd h
      obtain ⟨t13, e14, h⟩ := rb_bd h
      obtain ⟨t15, e16, h⟩ := rb_bd h
      obtain ⟨t17, e18, h⟩ := rb_bd h
      refine ev_aload_n (v := 19) (pc := 20) dX7_pipe_20 rfl ?_
      refine ev_cVv0w (w' := [(20, a), (19, t7.1), (31, t7.2)]) (pc := 21) dX7_pipe_21 mv_X7_keepAct lk_RX7_101 rp_19 (ct_X7_keepAct _ _ _ _ _ rfl rfl rfl e8) (Nat.le_of_ble_eq_true rfl) (Nat.le_of_ble_eq_true rfl) rfl ?_
      refine ev_aload_n (v := 19) (pc := 24) dX7_pipe_24 rfl ?_
      refine ev_iload_n (v := x0) (pc := 25) dX7_pipe_25 rfl ?_
      refine ev_cVi1w (w' := [(20, t9.2), (19, t7.1), (31, t7.2)]) (pc := 26) dX7_pipe_26 mv_X7_newPipe lk_RX7_104 rp_19 (ct_X7_newPipe _ _ _ _ rfl e10) (Nat.le_of_ble_eq_true rfl) (Nat.le_of_ble_eq_true rfl) rfl ?_
      refine ev_istore_n (L' := [some (.inr 19), some (.inl x0), some (.inl t9.1), none, none]) (pc := 29) dX7_pipe_29 (Nat.le_of_ble_eq_true rfl) rfl ?_
      refine ev_aload_n (v := 19) (pc := 30) dX7_pipe_30 rfl ?_
      refine ev_aload_n (v := 19) (pc := 31) dX7_pipe_31 rfl ?_
      refine ev_iload_n (v := t9.1) (pc := 32) dX7_pipe_32 rfl ?_
      refine ev_iconst (v := 2) (pc := 33) dX7_pipe_33 ki_2 ?_
      refine ev_cVi2 (pc := 34) dX7_pipe_34 mv_X7_ofPipe lk_RX7_91 rp_19 (ct_X7_ofPipe _ _ _ _ _ rfl e12) (Nat.le_of_ble_eq_true rfl) (Nat.le_of_ble_eq_true rfl) ?_
      refine ev_cVi1w (w' := [(20, t13.2), (19, t7.1), (31, t7.2)]) (pc := 37) dX7_pipe_37 mv_X7_newHandle lk_RX7_107 rp_19 (ct_X7_newHandle _ _ _ _ rfl e14) (Nat.le_of_ble_eq_true rfl) (Nat.le_of_ble_eq_true rfl) rfl ?_
      refine ev_istore_n (L' := [some (.inr 19), some (.inl x0), some (.inl t9.1), some (.inl t13.1), none]) (pc := 40) dX7_pipe_40 (Nat.le_of_ble_eq_true rfl) rfl ?_
      refine ev_aload_n (v := 19) (pc := 41) dX7_pipe_41 rfl ?_
      refine ev_aload_n (v := 19) (pc := 42) dX7_pipe_42 rfl ?_
      refine ev_iload_n (v := t9.1) (pc := 43) dX7_pipe_43 rfl ?_
      refine ev_iconst (v := 3) (pc := 44) dX7_pipe_44 ki_3 ?_
      refine ev_cVi2 (pc := 45) dX7_pipe_45 mv_X7_ofPipe lk_RX7_91 rp_19 (ct_X7_ofPipe _ _ _ _ _ rfl e16) (Nat.le_of_ble_eq_true rfl) (Nat.le_of_ble_eq_true rfl) ?_
      refine ev_cVi1w (w' := [(20, t17.2), (19, t7.1), (31, t7.2)]) (pc := 48) dX7_pipe_48 mv_X7_newHandle lk_RX7_107 rp_19 (ct_X7_newHandle _ _ _ _ rfl e18) (Nat.le_of_ble_eq_true rfl) (Nat.le_of_ble_eq_true rfl) rfl ?_
      refine ev_istore (L' := [some (.inr 19), some (.inl x0), some (.inl t9.1), some (.inl t13.1), some (.inl t17.1)]) (pc := 51) dX7_pipe_51 (Nat.le_of_ble_eq_true rfl) rfl ?_
      refine ev_iload_n (v := t13.1) (pc := 53) dX7_pipe_53 rfl ?_
      refine ev_iload (v := t17.1) (pc := 54) dX7_pipe_54 rfl ?_
      by_cases b19 : t17.1 ≤ t13.1
      · rw [if_pos b19] at h
        refine ev_icmp_ge_t (t := 63) (pc := 56) dX7_pipe_56 (by decide) b19 ?_
        refine ev_iload (v := t17.1) (pc := 63) dX7_pipe_63 rfl ?_
        obtain rfl := Option.some.inj h
        exact ev_iret (pc := 65) dX7_pipe_65 rfl rfl rfl (hfin _ _ _)
      · rw [if_neg b19] at h
        refine ev_icmp_ge_f (t := 63) (pc := 56) dX7_pipe_56 (by decide) b19 ?_
        refine ev_iload_n (v := t13.1) (pc := 59) dX7_pipe_59 rfl ?_
        refine ev_goto (t := 65) (pc := 60) dX7_pipe_60 (by decide) ?_
        obtain rfl := Option.some.inj h
        exact ev_iret (pc := 65) dX7_pipe_65 rfl rfl rfl (hfin _ _ _)
    · rw [if_neg b6] at h
      refine ev_icmp_ge_f (t := 20) (pc := 15) dX7_pipe_15 (by decide) b6 ?_
      refine ev_iconst (v := (-1)) (pc := 18) dX7_pipe_18 ki_m1 ?_
      obtain rfl := Option.some.inj h
      exact ev_iret (pc := 19) dX7_pipe_19 rfl rfl rfl (hfin _ _ _)
def XX7_counter (a : rb_Row) (mf : rb_Row) (wa : rb_Row) (x0 : Int32) (x1 : Int32) : Option (Int32 × rb_Row × rb_Row × rb_Row) := (XX7_isIn x0 0 1000).bind fun t1 => if t1 = 0 then some ((-1), a, mf, wa) else (XX7_freeHandle a).bind fun t4 => if 0 ≤ t4 then (XX7_keepAct mf wa a).bind fun t7 => ((if x1 = 0 then some 0 else some 1) : Option (Int32)).bind fun j9 => (XX7_newObject a 2 x0 j9 0).bind fun t13 => (XX7_newHandle t13.2 t13.1).bind fun t15 => some (t15.1, t15.2, t7.1, t7.2) else some ((-1), a, mf, wa)
set_option maxHeartbeats 4000000 in
set_option maxRecDepth 20000 in
theorem ct_X7_counter (μ : rb_Mem) (a : rb_Row) (mf : rb_Row) (wa : rb_Row) (x0 : Int32) (x1 : Int32) (o : Int32 × rb_Row × rb_Row × rb_Row) (ha : μ 20 = a) (hmf : μ 19 = mf) (hwa : μ 31 = wa) (h : XX7_counter a mf wa x0 x1 = some o) : rb_Ct yX7_counter cX7_counter 3 (some .int) 4 [.inr 19, .inl x0, .inl x1] μ (some o.1) (rb_ov μ [(20, o.2.1), (19, o.2.2.1), (31, o.2.2.2)]) := by
  unfold XX7_counter at h
  have hini : rb_ov μ [(20, a), (19, mf), (31, wa)] = μ := rb_ov_sf _ _ (And.intro ha (And.intro hmf (And.intro hwa True.intro)))
  have hfin : ∀ u0 u1 u2 : rb_Row, rb_ov μ [(20, u0), (19, u1), (31, u2)] = rb_ov μ [(20, u0), (19, u1), (31, u2)] := fun u0 u1 u2 => rfl
  refine rb_cti (w := [(20, a), (19, mf), (31, wa)]) rfl pn_7 (Nat.le_of_ble_eq_true rfl) rfl hini ?_
  obtain ⟨t1, e2, h⟩ := rb_bd h
  refine ev_iload_n (v := x0) (pc := 0) dX7_counter_0 rfl ?_
  refine ev_iconst (v := 0) (pc := 1) dX7_counter_1 ki_0 ?_
  refine ev_sipush (v := 1000) (pc := 2) dX7_counter_2 ks_1000 ?_
  refine ev_cSi3 (pc := 5) dX7_counter_5 ms_X7_isIn lk_RX7_69 (ct_X7_isIn _ _ _ _ _ e2) (Nat.le_of_ble_eq_true rfl) (Nat.le_of_ble_eq_true rfl) ?_
  by_cases b3 : t1 = 0
  · rw [if_pos b3] at h
    refine ev_if_eq_t (t := 18) (pc := 8) dX7_counter_8 (by decide) b3 ?_
    refine ev_iconst (v := (-1)) (pc := 18) dX7_counter_18 ki_m1 ?_
    obtain rfl := Option.some.inj h
    exact ev_iret (pc := 19) dX7_counter_19 rfl rfl rfl (hfin _ _ _)
  · rw [if_neg b3] at h
    refine ev_if_eq_f (t := 18) (pc := 8) dX7_counter_8 (by decide) b3 ?_
    obtain ⟨t4, e5, h⟩ := rb_bd h
    refine ev_aload_n (v := 19) (pc := 11) dX7_counter_11 rfl ?_
    refine ev_cVi0 (pc := 12) dX7_counter_12 mv_X7_freeHandle lk_RX7_87 rp_19 (ct_X7_freeHandle _ _ _ rfl e5) (Nat.le_of_ble_eq_true rfl) (Nat.le_of_ble_eq_true rfl) ?_
    by_cases b6 : 0 ≤ t4
    · rw [if_pos b6] at h
      refine ev_if_ge_t (t := 20) (pc := 15) dX7_counter_15 (by decide) b6 ?_
      obtain ⟨t7, e8, h⟩ := rb_bd h
      refine ev_aload_n (v := 19) (pc := 20) dX7_counter_20 rfl ?_
      refine ev_cVv0w (w' := [(20, a), (19, t7.1), (31, t7.2)]) (pc := 21) dX7_counter_21 mv_X7_keepAct lk_RX7_101 rp_19 (ct_X7_keepAct _ _ _ _ _ rfl rfl rfl e8) (Nat.le_of_ble_eq_true rfl) (Nat.le_of_ble_eq_true rfl) rfl ?_
      refine ev_aload_n (v := 19) (pc := 24) dX7_counter_24 rfl ?_
      refine ev_aload_n (v := 19) (pc := 25) dX7_counter_25 rfl ?_
      refine ev_iconst (v := 2) (pc := 26) dX7_counter_26 ki_2 ?_
      refine ev_iload_n (v := x0) (pc := 27) dX7_counter_27 rfl ?_
      refine ev_iload_n (v := x1) (pc := 28) dX7_counter_28 rfl ?_
      obtain ⟨j9, e10, h⟩ := rb_bd h
      have hj11 : rb_Ev RX7 cX7_counter 3 (some .int) none 4 (some o.1) (rb_ov μ [(20, o.2.1), (19, o.2.2.1), (31, o.2.2.2)]) 37 [none, none, none] [.inl j9, .inl x0, .inl 2, .inr 19, .inr 19] (rb_ov μ [(20, a), (19, t7.1), (31, t7.2)]) := by
        obtain ⟨t13, e14, h⟩ := rb_bd h
        obtain ⟨t15, e16, h⟩ := rb_bd h
        refine ev_iconst (v := 0) (pc := 37) dX7_counter_37 ki_0 ?_
        refine ev_cVi4w (w' := [(20, t13.2), (19, t7.1), (31, t7.2)]) (pc := 38) dX7_counter_38 mv_X7_newObject lk_RX7_94 rp_19 (ct_X7_newObject _ _ _ _ _ _ _ rfl e14) (Nat.le_of_ble_eq_true rfl) (Nat.le_of_ble_eq_true rfl) rfl ?_
        refine ev_cVi1w (w' := [(20, t15.2), (19, t7.1), (31, t7.2)]) (pc := 41) dX7_counter_41 mv_X7_newHandle lk_RX7_107 rp_19 (ct_X7_newHandle _ _ _ _ rfl e16) (Nat.le_of_ble_eq_true rfl) (Nat.le_of_ble_eq_true rfl) rfl ?_
        obtain rfl := Option.some.inj h
        exact ev_iret (pc := 44) dX7_counter_44 rfl rfl rfl (hfin _ _ _)
      replace h := e10
      by_cases b12 : x1 = 0
      · rw [if_pos b12] at h
        refine ev_if_eq_t (t := 36) (pc := 29) dX7_counter_29 (by decide) b12 ?_
        refine ev_iconst (v := 0) (pc := 36) dX7_counter_36 ki_0 ?_
        obtain rfl := Option.some.inj h
        exact ev_fg (L := [none, none, none]) True.intro (hj11)
      · rw [if_neg b12] at h
        refine ev_if_eq_f (t := 36) (pc := 29) dX7_counter_29 (by decide) b12 ?_
        refine ev_iconst (v := 1) (pc := 32) dX7_counter_32 ki_1 ?_
        refine ev_goto (t := 37) (pc := 33) dX7_counter_33 (by decide) ?_
        obtain rfl := Option.some.inj h
        exact ev_fg (L := [none, none, none]) True.intro (hj11)
    · rw [if_neg b6] at h
      refine ev_if_ge_f (t := 20) (pc := 15) dX7_counter_15 (by decide) b6 ?_
      refine ev_iconst (v := (-1)) (pc := 18) dX7_counter_18 ki_m1 ?_
      obtain rfl := Option.some.inj h
      exact ev_iret (pc := 19) dX7_counter_19 rfl rfl rfl (hfin _ _ _)
def XX7_timer (a : rb_Row) (mf : rb_Row) (wa : rb_Row) : Option (Int32 × rb_Row × rb_Row × rb_Row) := (XX7_freeHandle a).bind fun t1 => if 0 ≤ t1 then (XX7_keepAct mf wa a).bind fun t4 => (XX7_newObject a 3 0 (-1) 0).bind fun t6 => (XX7_newHandle t6.2 t6.1).bind fun t8 => some (t8.1, t8.2, t4.1, t4.2) else some ((-1), a, mf, wa)
set_option maxHeartbeats 4000000 in
set_option maxRecDepth 20000 in
theorem ct_X7_timer (μ : rb_Mem) (a : rb_Row) (mf : rb_Row) (wa : rb_Row) (o : Int32 × rb_Row × rb_Row × rb_Row) (ha : μ 20 = a) (hmf : μ 19 = mf) (hwa : μ 31 = wa) (h : XX7_timer a mf wa = some o) : rb_Ct yX7_timer cX7_timer 1 (some .int) 4 [.inr 19] μ (some o.1) (rb_ov μ [(20, o.2.1), (19, o.2.2.1), (31, o.2.2.2)]) := by
  unfold XX7_timer at h
  have hini : rb_ov μ [(20, a), (19, mf), (31, wa)] = μ := rb_ov_sf _ _ (And.intro ha (And.intro hmf (And.intro hwa True.intro)))
  have hfin : ∀ u0 u1 u2 : rb_Row, rb_ov μ [(20, u0), (19, u1), (31, u2)] = rb_ov μ [(20, u0), (19, u1), (31, u2)] := fun u0 u1 u2 => rfl
  refine rb_cti (w := [(20, a), (19, mf), (31, wa)]) rfl pn_7 (Nat.le_of_ble_eq_true rfl) rfl hini ?_
  obtain ⟨t1, e2, h⟩ := rb_bd h
  refine ev_aload_n (v := 19) (pc := 0) dX7_timer_0 rfl ?_
  refine ev_cVi0 (pc := 1) dX7_timer_1 mv_X7_freeHandle lk_RX7_87 rp_19 (ct_X7_freeHandle _ _ _ rfl e2) (Nat.le_of_ble_eq_true rfl) (Nat.le_of_ble_eq_true rfl) ?_
  by_cases b3 : 0 ≤ t1
  · rw [if_pos b3] at h
    refine ev_if_ge_t (t := 9) (pc := 4) dX7_timer_4 (by decide) b3 ?_
    obtain ⟨t4, e5, h⟩ := rb_bd h
    obtain ⟨t6, e7, h⟩ := rb_bd h
    obtain ⟨t8, e9, h⟩ := rb_bd h
    refine ev_aload_n (v := 19) (pc := 9) dX7_timer_9 rfl ?_
    refine ev_cVv0w (w' := [(20, a), (19, t4.1), (31, t4.2)]) (pc := 10) dX7_timer_10 mv_X7_keepAct lk_RX7_101 rp_19 (ct_X7_keepAct _ _ _ _ _ rfl rfl rfl e5) (Nat.le_of_ble_eq_true rfl) (Nat.le_of_ble_eq_true rfl) rfl ?_
    refine ev_aload_n (v := 19) (pc := 13) dX7_timer_13 rfl ?_
    refine ev_aload_n (v := 19) (pc := 14) dX7_timer_14 rfl ?_
    refine ev_iconst (v := 3) (pc := 15) dX7_timer_15 ki_3 ?_
    refine ev_iconst (v := 0) (pc := 16) dX7_timer_16 ki_0 ?_
    refine ev_iconst (v := (-1)) (pc := 17) dX7_timer_17 ki_m1 ?_
    refine ev_iconst (v := 0) (pc := 18) dX7_timer_18 ki_0 ?_
    refine ev_cVi4w (w' := [(20, t6.2), (19, t4.1), (31, t4.2)]) (pc := 19) dX7_timer_19 mv_X7_newObject lk_RX7_94 rp_19 (ct_X7_newObject _ _ _ _ _ _ _ rfl e7) (Nat.le_of_ble_eq_true rfl) (Nat.le_of_ble_eq_true rfl) rfl ?_
    refine ev_cVi1w (w' := [(20, t8.2), (19, t4.1), (31, t4.2)]) (pc := 22) dX7_timer_22 mv_X7_newHandle lk_RX7_107 rp_19 (ct_X7_newHandle _ _ _ _ rfl e9) (Nat.le_of_ble_eq_true rfl) (Nat.le_of_ble_eq_true rfl) rfl ?_
    obtain rfl := Option.some.inj h
    exact ev_iret (pc := 25) dX7_timer_25 rfl rfl rfl (hfin _ _ _)
  · rw [if_neg b3] at h
    refine ev_if_ge_f (t := 9) (pc := 4) dX7_timer_4 (by decide) b3 ?_
    refine ev_iconst (v := (-1)) (pc := 7) dX7_timer_7 ki_m1 ?_
    obtain rfl := Option.some.inj h
    exact ev_iret (pc := 8) dX7_timer_8 rfl rfl rfl (hfin _ _ _)
def XX7_set (a : rb_Row) (mf : rb_Row) (wa : rb_Row) : Option (Int32 × rb_Row × rb_Row × rb_Row) := (XX7_freeHandle a).bind fun t1 => if 0 ≤ t1 then (XX7_keepAct mf wa a).bind fun t4 => (XX7_newObject a 4 0 0 0).bind fun t6 => (XX7_newHandle t6.2 t6.1).bind fun t8 => some (t8.1, t8.2, t4.1, t4.2) else some ((-1), a, mf, wa)
set_option maxHeartbeats 4000000 in
set_option maxRecDepth 20000 in
theorem ct_X7_set (μ : rb_Mem) (a : rb_Row) (mf : rb_Row) (wa : rb_Row) (o : Int32 × rb_Row × rb_Row × rb_Row) (ha : μ 20 = a) (hmf : μ 19 = mf) (hwa : μ 31 = wa) (h : XX7_set a mf wa = some o) : rb_Ct yX7_set cX7_set 1 (some .int) 4 [.inr 19] μ (some o.1) (rb_ov μ [(20, o.2.1), (19, o.2.2.1), (31, o.2.2.2)]) := by
  unfold XX7_set at h
  have hini : rb_ov μ [(20, a), (19, mf), (31, wa)] = μ := rb_ov_sf _ _ (And.intro ha (And.intro hmf (And.intro hwa True.intro)))
  have hfin : ∀ u0 u1 u2 : rb_Row, rb_ov μ [(20, u0), (19, u1), (31, u2)] = rb_ov μ [(20, u0), (19, u1), (31, u2)] := fun u0 u1 u2 => rfl
  refine rb_cti (w := [(20, a), (19, mf), (31, wa)]) rfl pn_7 (Nat.le_of_ble_eq_true rfl) rfl hini ?_
  obtain ⟨t1, e2, h⟩ := rb_bd h
  refine ev_aload_n (v := 19) (pc := 0) dX7_set_0 rfl ?_
  refine ev_cVi0 (pc := 1) dX7_set_1 mv_X7_freeHandle lk_RX7_87 rp_19 (ct_X7_freeHandle _ _ _ rfl e2) (Nat.le_of_ble_eq_true rfl) (Nat.le_of_ble_eq_true rfl) ?_
  by_cases b3 : 0 ≤ t1
  · rw [if_pos b3] at h
    refine ev_if_ge_t (t := 9) (pc := 4) dX7_set_4 (by decide) b3 ?_
    obtain ⟨t4, e5, h⟩ := rb_bd h
    obtain ⟨t6, e7, h⟩ := rb_bd h
    obtain ⟨t8, e9, h⟩ := rb_bd h
    refine ev_aload_n (v := 19) (pc := 9) dX7_set_9 rfl ?_
    refine ev_cVv0w (w' := [(20, a), (19, t4.1), (31, t4.2)]) (pc := 10) dX7_set_10 mv_X7_keepAct lk_RX7_101 rp_19 (ct_X7_keepAct _ _ _ _ _ rfl rfl rfl e5) (Nat.le_of_ble_eq_true rfl) (Nat.le_of_ble_eq_true rfl) rfl ?_
    refine ev_aload_n (v := 19) (pc := 13) dX7_set_13 rfl ?_
    refine ev_aload_n (v := 19) (pc := 14) dX7_set_14 rfl ?_
    refine ev_iconst (v := 4) (pc := 15) dX7_set_15 ki_4 ?_
    refine ev_iconst (v := 0) (pc := 16) dX7_set_16 ki_0 ?_
    refine ev_iconst (v := 0) (pc := 17) dX7_set_17 ki_0 ?_
    refine ev_iconst (v := 0) (pc := 18) dX7_set_18 ki_0 ?_
    refine ev_cVi4w (w' := [(20, t6.2), (19, t4.1), (31, t4.2)]) (pc := 19) dX7_set_19 mv_X7_newObject lk_RX7_94 rp_19 (ct_X7_newObject _ _ _ _ _ _ _ rfl e7) (Nat.le_of_ble_eq_true rfl) (Nat.le_of_ble_eq_true rfl) rfl ?_
    refine ev_cVi1w (w' := [(20, t8.2), (19, t4.1), (31, t4.2)]) (pc := 22) dX7_set_22 mv_X7_newHandle lk_RX7_107 rp_19 (ct_X7_newHandle _ _ _ _ rfl e9) (Nat.le_of_ble_eq_true rfl) (Nat.le_of_ble_eq_true rfl) rfl ?_
    obtain rfl := Option.some.inj h
    exact ev_iret (pc := 25) dX7_set_25 rfl rfl rfl (hfin _ _ _)
  · rw [if_neg b3] at h
    refine ev_if_ge_f (t := 9) (pc := 4) dX7_set_4 (by decide) b3 ?_
    refine ev_iconst (v := (-1)) (pc := 7) dX7_set_7 ki_m1 ?_
    obtain rfl := Option.some.inj h
    exact ev_iret (pc := 8) dX7_set_8 rfl rfl rfl (hfin _ _ _)
def XX7_listener (a : rb_Row) (mf : rb_Row) (wa : rb_Row) (x0 : Int32) (x1 : Int32) : Option (Int32 × rb_Row × rb_Row × rb_Row) := (XX7_isIn x0 1 12).bind fun t1 => if t1 = 0 then some ((-1), a, mf, wa) else (XX7_isIn x1 1 100).bind fun t4 => if t4 = 0 then some ((-1), a, mf, wa) else (XX7_freeHandle a).bind fun t7 => if 0 ≤ t7 then (XX7_keepAct mf wa a).bind fun t10 => (XX7_newObject a 5 0 x0 x1).bind fun t12 => (XX7_newHandle t12.2 t12.1).bind fun t14 => some (t14.1, t14.2, t10.1, t10.2) else some ((-1), a, mf, wa)
set_option maxHeartbeats 4000000 in
set_option maxRecDepth 20000 in
theorem ct_X7_listener (μ : rb_Mem) (a : rb_Row) (mf : rb_Row) (wa : rb_Row) (x0 : Int32) (x1 : Int32) (o : Int32 × rb_Row × rb_Row × rb_Row) (ha : μ 20 = a) (hmf : μ 19 = mf) (hwa : μ 31 = wa) (h : XX7_listener a mf wa x0 x1 = some o) : rb_Ct yX7_listener cX7_listener 3 (some .int) 4 [.inr 19, .inl x0, .inl x1] μ (some o.1) (rb_ov μ [(20, o.2.1), (19, o.2.2.1), (31, o.2.2.2)]) := by
  unfold XX7_listener at h
  have hini : rb_ov μ [(20, a), (19, mf), (31, wa)] = μ := rb_ov_sf _ _ (And.intro ha (And.intro hmf (And.intro hwa True.intro)))
  have hfin : ∀ u0 u1 u2 : rb_Row, rb_ov μ [(20, u0), (19, u1), (31, u2)] = rb_ov μ [(20, u0), (19, u1), (31, u2)] := fun u0 u1 u2 => rfl
  refine rb_cti (w := [(20, a), (19, mf), (31, wa)]) rfl pn_7 (Nat.le_of_ble_eq_true rfl) rfl hini ?_
  obtain ⟨t1, e2, h⟩ := rb_bd h
  refine ev_iload_n (v := x0) (pc := 0) dX7_listener_0 rfl ?_
  refine ev_iconst (v := 1) (pc := 1) dX7_listener_1 ki_1 ?_
  refine ev_bipush (v := 12) (pc := 2) dX7_listener_2 kb_12 ?_
  refine ev_cSi3 (pc := 4) dX7_listener_4 ms_X7_isIn lk_RX7_69 (ct_X7_isIn _ _ _ _ _ e2) (Nat.le_of_ble_eq_true rfl) (Nat.le_of_ble_eq_true rfl) ?_
  by_cases b3 : t1 = 0
  · rw [if_pos b3] at h
    refine ev_if_eq_t (t := 27) (pc := 7) dX7_listener_7 (by decide) b3 ?_
    refine ev_iconst (v := (-1)) (pc := 27) dX7_listener_27 ki_m1 ?_
    obtain rfl := Option.some.inj h
    exact ev_iret (pc := 28) dX7_listener_28 rfl rfl rfl (hfin _ _ _)
  · rw [if_neg b3] at h
    refine ev_if_eq_f (t := 27) (pc := 7) dX7_listener_7 (by decide) b3 ?_
    obtain ⟨t4, e5, h⟩ := rb_bd h
    refine ev_iload_n (v := x1) (pc := 10) dX7_listener_10 rfl ?_
    refine ev_iconst (v := 1) (pc := 11) dX7_listener_11 ki_1 ?_
    refine ev_bipush (v := 100) (pc := 12) dX7_listener_12 kb_100 ?_
    refine ev_cSi3 (pc := 14) dX7_listener_14 ms_X7_isIn lk_RX7_69 (ct_X7_isIn _ _ _ _ _ e5) (Nat.le_of_ble_eq_true rfl) (Nat.le_of_ble_eq_true rfl) ?_
    by_cases b6 : t4 = 0
    · rw [if_pos b6] at h
      refine ev_if_eq_t (t := 27) (pc := 17) dX7_listener_17 (by decide) b6 ?_
      refine ev_iconst (v := (-1)) (pc := 27) dX7_listener_27 ki_m1 ?_
      obtain rfl := Option.some.inj h
      exact ev_iret (pc := 28) dX7_listener_28 rfl rfl rfl (hfin _ _ _)
    · rw [if_neg b6] at h
      refine ev_if_eq_f (t := 27) (pc := 17) dX7_listener_17 (by decide) b6 ?_
      obtain ⟨t7, e8, h⟩ := rb_bd h
      refine ev_aload_n (v := 19) (pc := 20) dX7_listener_20 rfl ?_
      refine ev_cVi0 (pc := 21) dX7_listener_21 mv_X7_freeHandle lk_RX7_87 rp_19 (ct_X7_freeHandle _ _ _ rfl e8) (Nat.le_of_ble_eq_true rfl) (Nat.le_of_ble_eq_true rfl) ?_
      by_cases b9 : 0 ≤ t7
      · rw [if_pos b9] at h
        refine ev_if_ge_t (t := 29) (pc := 24) dX7_listener_24 (by decide) b9 ?_
        obtain ⟨t10, e11, h⟩ := rb_bd h
        obtain ⟨t12, e13, h⟩ := rb_bd h
        obtain ⟨t14, e15, h⟩ := rb_bd h
        refine ev_aload_n (v := 19) (pc := 29) dX7_listener_29 rfl ?_
        refine ev_cVv0w (w' := [(20, a), (19, t10.1), (31, t10.2)]) (pc := 30) dX7_listener_30 mv_X7_keepAct lk_RX7_101 rp_19 (ct_X7_keepAct _ _ _ _ _ rfl rfl rfl e11) (Nat.le_of_ble_eq_true rfl) (Nat.le_of_ble_eq_true rfl) rfl ?_
        refine ev_aload_n (v := 19) (pc := 33) dX7_listener_33 rfl ?_
        refine ev_aload_n (v := 19) (pc := 34) dX7_listener_34 rfl ?_
        refine ev_iconst (v := 5) (pc := 35) dX7_listener_35 ki_5 ?_
        refine ev_iconst (v := 0) (pc := 36) dX7_listener_36 ki_0 ?_
        refine ev_iload_n (v := x0) (pc := 37) dX7_listener_37 rfl ?_
        refine ev_iload_n (v := x1) (pc := 38) dX7_listener_38 rfl ?_
        refine ev_cVi4w (w' := [(20, t12.2), (19, t10.1), (31, t10.2)]) (pc := 39) dX7_listener_39 mv_X7_newObject lk_RX7_94 rp_19 (ct_X7_newObject _ _ _ _ _ _ _ rfl e13) (Nat.le_of_ble_eq_true rfl) (Nat.le_of_ble_eq_true rfl) rfl ?_
        refine ev_cVi1w (w' := [(20, t14.2), (19, t10.1), (31, t10.2)]) (pc := 42) dX7_listener_42 mv_X7_newHandle lk_RX7_107 rp_19 (ct_X7_newHandle _ _ _ _ rfl e15) (Nat.le_of_ble_eq_true rfl) (Nat.le_of_ble_eq_true rfl) rfl ?_
        obtain rfl := Option.some.inj h
        exact ev_iret (pc := 45) dX7_listener_45 rfl rfl rfl (hfin _ _ _)
      · rw [if_neg b9] at h
        refine ev_if_ge_f (t := 29) (pc := 24) dX7_listener_24 (by decide) b9 ?_
        refine ev_iconst (v := (-1)) (pc := 27) dX7_listener_27 ki_m1 ?_
        obtain rfl := Option.some.inj h
        exact ev_iret (pc := 28) dX7_listener_28 rfl rfl rfl (hfin _ _ _)
def XX7_twin (a : rb_Row) (mf : rb_Row) (wa : rb_Row) (x0 : Int32) : Option (Int32 × rb_Row × rb_Row × rb_Row) := (XX7_isHandle a x0).bind fun t1 => if t1 = 0 then some ((-1), a, mf, wa) else (XX7_freeHandle a).bind fun t4 => if 0 ≤ t4 then (XX7_keepAct mf wa a).bind fun t7 => (rb_rd a 796 x0).bind fun v9 => (XX7_newHandle a v9).bind fun t11 => some (t11.1, t11.2, t7.1, t7.2) else some ((-1), a, mf, wa)
set_option maxHeartbeats 4000000 in
set_option maxRecDepth 20000 in
theorem ct_X7_twin (μ : rb_Mem) (a : rb_Row) (mf : rb_Row) (wa : rb_Row) (x0 : Int32) (o : Int32 × rb_Row × rb_Row × rb_Row) (ha : μ 20 = a) (hmf : μ 19 = mf) (hwa : μ 31 = wa) (h : XX7_twin a mf wa x0 = some o) : rb_Ct yX7_twin cX7_twin 2 (some .int) 2 [.inr 19, .inl x0] μ (some o.1) (rb_ov μ [(20, o.2.1), (19, o.2.2.1), (31, o.2.2.2)]) := by
  unfold XX7_twin at h
  have hini : rb_ov μ [(20, a), (19, mf), (31, wa)] = μ := rb_ov_sf _ _ (And.intro ha (And.intro hmf (And.intro hwa True.intro)))
  have hfin : ∀ u0 u1 u2 : rb_Row, rb_ov μ [(20, u0), (19, u1), (31, u2)] = rb_ov μ [(20, u0), (19, u1), (31, u2)] := fun u0 u1 u2 => rfl
  refine rb_cti (w := [(20, a), (19, mf), (31, wa)]) rfl pn_7 (Nat.le_of_ble_eq_true rfl) rfl hini ?_
  obtain ⟨t1, e2, h⟩ := rb_bd h
  refine ev_aload_n (v := 19) (pc := 0) dX7_twin_0 rfl ?_
  refine ev_iload_n (v := x0) (pc := 1) dX7_twin_1 rfl ?_
  refine ev_cVi1 (pc := 2) dX7_twin_2 mv_X7_isHandle lk_RX7_73 rp_19 (ct_X7_isHandle _ _ _ _ rfl e2) (Nat.le_of_ble_eq_true rfl) (Nat.le_of_ble_eq_true rfl) ?_
  by_cases b3 : t1 = 0
  · rw [if_pos b3] at h
    refine ev_if_eq_t (t := 15) (pc := 5) dX7_twin_5 (by decide) b3 ?_
    refine ev_iconst (v := (-1)) (pc := 15) dX7_twin_15 ki_m1 ?_
    obtain rfl := Option.some.inj h
    exact ev_iret (pc := 16) dX7_twin_16 rfl rfl rfl (hfin _ _ _)
  · rw [if_neg b3] at h
    refine ev_if_eq_f (t := 15) (pc := 5) dX7_twin_5 (by decide) b3 ?_
    obtain ⟨t4, e5, h⟩ := rb_bd h
    refine ev_aload_n (v := 19) (pc := 8) dX7_twin_8 rfl ?_
    refine ev_cVi0 (pc := 9) dX7_twin_9 mv_X7_freeHandle lk_RX7_87 rp_19 (ct_X7_freeHandle _ _ _ rfl e5) (Nat.le_of_ble_eq_true rfl) (Nat.le_of_ble_eq_true rfl) ?_
    by_cases b6 : 0 ≤ t4
    · rw [if_pos b6] at h
      refine ev_if_ge_t (t := 17) (pc := 12) dX7_twin_12 (by decide) b6 ?_
      obtain ⟨t7, e8, h⟩ := rb_bd h
      obtain ⟨v9, e10, h⟩ := rb_bd h
      obtain ⟨t11, e12, h⟩ := rb_bd h
      refine ev_aload_n (v := 19) (pc := 17) dX7_twin_17 rfl ?_
      refine ev_cVv0w (w' := [(20, a), (19, t7.1), (31, t7.2)]) (pc := 18) dX7_twin_18 mv_X7_keepAct lk_RX7_101 rp_19 (ct_X7_keepAct _ _ _ _ _ rfl rfl rfl e8) (Nat.le_of_ble_eq_true rfl) (Nat.le_of_ble_eq_true rfl) rfl ?_
      refine ev_aload_n (v := 19) (pc := 21) dX7_twin_21 rfl ?_
      refine ev_aload_n (v := 19) (pc := 22) dX7_twin_22 rfl ?_
      refine ev_getr (q := 20) (pc := 23) dX7_twin_23 fl_RX7_7 rfl rfl ?_
      refine ev_iload_n (v := x0) (pc := 26) dX7_twin_26 rfl ?_
      refine ev_iald (pc := 27) dX7_twin_27 rfl e10 ?_
      refine ev_cVi1w (w' := [(20, t11.2), (19, t7.1), (31, t7.2)]) (pc := 28) dX7_twin_28 mv_X7_newHandle lk_RX7_107 rp_19 (ct_X7_newHandle _ _ _ _ rfl e12) (Nat.le_of_ble_eq_true rfl) (Nat.le_of_ble_eq_true rfl) rfl ?_
      obtain rfl := Option.some.inj h
      exact ev_iret (pc := 31) dX7_twin_31 rfl rfl rfl (hfin _ _ _)
    · rw [if_neg b6] at h
      refine ev_if_ge_f (t := 17) (pc := 12) dX7_twin_12 (by decide) b6 ?_
      refine ev_iconst (v := (-1)) (pc := 15) dX7_twin_15 ki_m1 ?_
      obtain rfl := Option.some.inj h
      exact ev_iret (pc := 16) dX7_twin_16 rfl rfl rfl (hfin _ _ _)
def XX7_waitingAt (a : rb_Row) (x0 : Int32) : Option (Int32) := (rb_lp (ρ := Int32) (fun (s1 : Int32 × Int32) => if 28 ≤ s1.2 then some (.inr s1.1) else (XX7_kindOf a s1.2).bind fun t10 => ((if t10 < 0 then some s1.1 else (XX7_ofObject a s1.2 4).bind fun t16 => if t16 < 0 then some s1.1 else if x0 < 0 then some (s1.1 + 1) else (XX7_ofObject a s1.2 4).bind fun t20 => if t20 = x0 then some (s1.1 + 1) else some s1.1) : Option (Int32)).bind fun j12 => some (.inl (j12, (s1.2 + 1)))) 100000 (0, 0)).bind fun q2 => some q2
set_option maxHeartbeats 4000000 in
set_option maxRecDepth 20000 in
theorem ct_X7_waitingAt (μ : rb_Mem) (a : rb_Row) (x0 : Int32) (o : Int32) (ha : μ 20 = a) (h : XX7_waitingAt a x0 = some o) : rb_Ct yX7_waitingAt cX7_waitingAt 4 (some .int) 3 [.inr 19, .inl x0] μ (some o) μ := by
  unfold XX7_waitingAt at h
  have hini : rb_ov μ [(20, a)] = μ := rb_ov_sf _ _ (And.intro ha True.intro)
  have hfin := hini
  refine rb_cti (w := [(20, a)]) rfl pn_7 (Nat.le_of_ble_eq_true rfl) rfl hini ?_
  refine ev_iconst (v := 0) (pc := 0) dX7_waitingAt_0 ki_0 ?_
  refine ev_istore_n (L' := [some (.inr 19), some (.inl x0), some (.inl 0), none]) (pc := 1) dX7_waitingAt_1 (Nat.le_of_ble_eq_true rfl) rfl ?_
  refine ev_iconst (v := 0) (pc := 2) dX7_waitingAt_2 ki_0 ?_
  refine ev_istore_n (L' := [some (.inr 19), some (.inl x0), some (.inl 0), some (.inl 0)]) (pc := 3) dX7_waitingAt_3 (Nat.le_of_ble_eq_true rfl) rfl ?_
  obtain ⟨q2, l3, h⟩ := rb_bd h
  have hx7 : rb_Ev RX7 cX7_waitingAt 4 (some .int) none 3 (some o) μ 50 [none, none, some (.inl q2), none] [] (rb_ov μ [(20, a)]) := by
    refine ev_iload_n (v := q2) (pc := 50) dX7_waitingAt_50 rfl ?_
    obtain rfl := Option.some.inj h
    exact ev_iret (pc := 51) dX7_waitingAt_51 rfl rfl rfl hfin
  refine rb_lp_ev (P := fun (s1 : Int32 × Int32) => rb_Ev RX7 cX7_waitingAt 4 (some .int) none 3 (some o) μ 4 [some (.inr 19), some (.inl x0), some (.inl s1.1), some (.inl s1.2)] [] (rb_ov μ [(20, a)])) ?_ 100000 (0, 0) l3
  intro s1 y4 h ih5 hE6
  refine ev_iload_n (v := s1.2) (pc := 4) dX7_waitingAt_4 rfl ?_
  refine ev_bipush (v := 28) (pc := 5) dX7_waitingAt_5 kb_28 ?_
  by_cases b9 : 28 ≤ s1.2
  · rw [if_pos b9] at h
    refine ev_icmp_ge_t (t := 50) (pc := 7) dX7_waitingAt_7 (by decide) b9 ?_
    obtain rfl := Option.some.inj h
    obtain rfl := hE6 _ rfl
    exact ev_fg (L := [none, none, some (.inl s1.1), none]) (And.intro rfl True.intro) (hx7)
  · rw [if_neg b9] at h
    refine ev_icmp_ge_f (t := 50) (pc := 7) dX7_waitingAt_7 (by decide) b9 ?_
    obtain ⟨t10, e11, h⟩ := rb_bd h
    refine ev_aload_n (v := 19) (pc := 10) dX7_waitingAt_10 rfl ?_
    refine ev_iload_n (v := s1.2) (pc := 11) dX7_waitingAt_11 rfl ?_
    refine ev_cVi1 (pc := 12) dX7_waitingAt_12 mv_X7_kindOf lk_RX7_77 rp_19 (ct_X7_kindOf _ _ _ _ rfl e11) (Nat.le_of_ble_eq_true rfl) (Nat.le_of_ble_eq_true rfl) ?_
    obtain ⟨j12, e13, h⟩ := rb_bd h
    have hj14 : rb_Ev RX7 cX7_waitingAt 4 (some .int) none 3 (some o) μ 44 [some (.inr 19), some (.inl x0), some (.inl j12), some (.inl s1.2)] [] (rb_ov μ [(20, a)]) := by
      refine ev_iinc (x := s1.2) (v := (s1.2 + 1)) (L' := [some (.inr 19), some (.inl x0), some (.inl j12), some (.inl (s1.2 + 1))]) (pc := 44) dX7_waitingAt_44 rfl (kx_1 _) (Nat.le_of_ble_eq_true rfl) rfl ?_
      refine ev_goto (t := 4) (pc := 47) dX7_waitingAt_47 (by decide) ?_
      obtain rfl := Option.some.inj h
      exact ih5 (j12, (s1.2 + 1)) rfl
    replace h := e13
    by_cases b15 : t10 < 0
    · rw [if_pos b15] at h
      refine ev_if_lt_t (t := 44) (pc := 15) dX7_waitingAt_15 (by decide) b15 ?_
      obtain rfl := Option.some.inj h
      exact hj14
    · rw [if_neg b15] at h
      refine ev_if_lt_f (t := 44) (pc := 15) dX7_waitingAt_15 (by decide) b15 ?_
      obtain ⟨t16, e17, h⟩ := rb_bd h
      refine ev_aload_n (v := 19) (pc := 18) dX7_waitingAt_18 rfl ?_
      refine ev_iload_n (v := s1.2) (pc := 19) dX7_waitingAt_19 rfl ?_
      refine ev_iconst (v := 4) (pc := 20) dX7_waitingAt_20 ki_4 ?_
      refine ev_cVi2 (pc := 21) dX7_waitingAt_21 mv_X7_ofObject lk_RX7_66 rp_19 (ct_X7_ofObject _ _ _ _ _ rfl e17) (Nat.le_of_ble_eq_true rfl) (Nat.le_of_ble_eq_true rfl) ?_
      by_cases b18 : t16 < 0
      · rw [if_pos b18] at h
        refine ev_if_lt_t (t := 44) (pc := 24) dX7_waitingAt_24 (by decide) b18 ?_
        obtain rfl := Option.some.inj h
        exact hj14
      · rw [if_neg b18] at h
        refine ev_if_lt_f (t := 44) (pc := 24) dX7_waitingAt_24 (by decide) b18 ?_
        refine ev_iload_n (v := x0) (pc := 27) dX7_waitingAt_27 rfl ?_
        by_cases b19 : x0 < 0
        · rw [if_pos b19] at h
          refine ev_if_lt_t (t := 41) (pc := 28) dX7_waitingAt_28 (by decide) b19 ?_
          refine ev_iinc (x := s1.1) (v := (s1.1 + 1)) (L' := [some (.inr 19), some (.inl x0), some (.inl (s1.1 + 1)), some (.inl s1.2)]) (pc := 41) dX7_waitingAt_41 rfl (kx_1 _) (Nat.le_of_ble_eq_true rfl) rfl ?_
          obtain rfl := Option.some.inj h
          exact hj14
        · rw [if_neg b19] at h
          refine ev_if_lt_f (t := 41) (pc := 28) dX7_waitingAt_28 (by decide) b19 ?_
          obtain ⟨t20, e21, h⟩ := rb_bd h
          refine ev_aload_n (v := 19) (pc := 31) dX7_waitingAt_31 rfl ?_
          refine ev_iload_n (v := s1.2) (pc := 32) dX7_waitingAt_32 rfl ?_
          refine ev_iconst (v := 4) (pc := 33) dX7_waitingAt_33 ki_4 ?_
          refine ev_cVi2 (pc := 34) dX7_waitingAt_34 mv_X7_ofObject lk_RX7_66 rp_19 (ct_X7_ofObject _ _ _ _ _ rfl e21) (Nat.le_of_ble_eq_true rfl) (Nat.le_of_ble_eq_true rfl) ?_
          refine ev_iload_n (v := x0) (pc := 37) dX7_waitingAt_37 rfl ?_
          by_cases b22 : t20 = x0
          · rw [if_pos b22] at h
            refine ev_icmp_ne_f (t := 44) (pc := 38) dX7_waitingAt_38 (by decide) b22 ?_
            refine ev_iinc (x := s1.1) (v := (s1.1 + 1)) (L' := [some (.inr 19), some (.inl x0), some (.inl (s1.1 + 1)), some (.inl s1.2)]) (pc := 41) dX7_waitingAt_41 rfl (kx_1 _) (Nat.le_of_ble_eq_true rfl) rfl ?_
            obtain rfl := Option.some.inj h
            exact hj14
          · rw [if_neg b22] at h
            refine ev_icmp_ne_t (t := 44) (pc := 38) dX7_waitingAt_38 (by decide) b22 ?_
            obtain rfl := Option.some.inj h
            exact hj14
def XX7_longestWaiting (a : rb_Row) (x0 : Int32) : Option (Int32) := (rb_lp (ρ := Int32) (fun (s1 : Int32 × Int32) => if 28 ≤ s1.2 then some (.inr s1.1) else (XX7_kindOf a s1.2).bind fun t10 => ((if t10 < 0 then some s1.1 else (XX7_ofObject a s1.2 4).bind fun t16 => if t16 = x0 then if s1.1 < 0 then some s1.2 else (XX7_ofObject a s1.2 5).bind fun t20 => (XX7_ofObject a s1.1 5).bind fun t22 => if t22 ≤ t20 then some s1.1 else some s1.2 else some s1.1) : Option (Int32)).bind fun j12 => some (.inl (j12, (s1.2 + 1)))) 100000 ((-1), 0)).bind fun q2 => some q2
set_option maxHeartbeats 4000000 in
set_option maxRecDepth 20000 in
theorem ct_X7_longestWaiting (μ : rb_Mem) (a : rb_Row) (x0 : Int32) (o : Int32) (ha : μ 20 = a) (h : XX7_longestWaiting a x0 = some o) : rb_Ct yX7_longestWaiting cX7_longestWaiting 4 (some .int) 3 [.inr 19, .inl x0] μ (some o) μ := by
  unfold XX7_longestWaiting at h
  have hini : rb_ov μ [(20, a)] = μ := rb_ov_sf _ _ (And.intro ha True.intro)
  have hfin := hini
  refine rb_cti (w := [(20, a)]) rfl pn_7 (Nat.le_of_ble_eq_true rfl) rfl hini ?_
  refine ev_iconst (v := (-1)) (pc := 0) dX7_longestWaiting_0 ki_m1 ?_
  refine ev_istore_n (L' := [some (.inr 19), some (.inl x0), some (.inl (-1)), none]) (pc := 1) dX7_longestWaiting_1 (Nat.le_of_ble_eq_true rfl) rfl ?_
  refine ev_iconst (v := 0) (pc := 2) dX7_longestWaiting_2 ki_0 ?_
  refine ev_istore_n (L' := [some (.inr 19), some (.inl x0), some (.inl (-1)), some (.inl 0)]) (pc := 3) dX7_longestWaiting_3 (Nat.le_of_ble_eq_true rfl) rfl ?_
  obtain ⟨q2, l3, h⟩ := rb_bd h
  have hx7 : rb_Ev RX7 cX7_longestWaiting 4 (some .int) none 3 (some o) μ 58 [none, none, some (.inl q2), none] [] (rb_ov μ [(20, a)]) := by
    refine ev_iload_n (v := q2) (pc := 58) dX7_longestWaiting_58 rfl ?_
    obtain rfl := Option.some.inj h
    exact ev_iret (pc := 59) dX7_longestWaiting_59 rfl rfl rfl hfin
  refine rb_lp_ev (P := fun (s1 : Int32 × Int32) => rb_Ev RX7 cX7_longestWaiting 4 (some .int) none 3 (some o) μ 4 [some (.inr 19), some (.inl x0), some (.inl s1.1), some (.inl s1.2)] [] (rb_ov μ [(20, a)])) ?_ 100000 ((-1), 0) l3
  intro s1 y4 h ih5 hE6
  refine ev_iload_n (v := s1.2) (pc := 4) dX7_longestWaiting_4 rfl ?_
  refine ev_bipush (v := 28) (pc := 5) dX7_longestWaiting_5 kb_28 ?_
  by_cases b9 : 28 ≤ s1.2
  · rw [if_pos b9] at h
    refine ev_icmp_ge_t (t := 58) (pc := 7) dX7_longestWaiting_7 (by decide) b9 ?_
    obtain rfl := Option.some.inj h
    obtain rfl := hE6 _ rfl
    exact ev_fg (L := [none, none, some (.inl s1.1), none]) (And.intro rfl True.intro) (hx7)
  · rw [if_neg b9] at h
    refine ev_icmp_ge_f (t := 58) (pc := 7) dX7_longestWaiting_7 (by decide) b9 ?_
    obtain ⟨t10, e11, h⟩ := rb_bd h
    refine ev_aload_n (v := 19) (pc := 10) dX7_longestWaiting_10 rfl ?_
    refine ev_iload_n (v := s1.2) (pc := 11) dX7_longestWaiting_11 rfl ?_
    refine ev_cVi1 (pc := 12) dX7_longestWaiting_12 mv_X7_kindOf lk_RX7_77 rp_19 (ct_X7_kindOf _ _ _ _ rfl e11) (Nat.le_of_ble_eq_true rfl) (Nat.le_of_ble_eq_true rfl) ?_
    obtain ⟨j12, e13, h⟩ := rb_bd h
    have hj14 : rb_Ev RX7 cX7_longestWaiting 4 (some .int) none 3 (some o) μ 52 [some (.inr 19), some (.inl x0), some (.inl j12), some (.inl s1.2)] [] (rb_ov μ [(20, a)]) := by
      refine ev_iinc (x := s1.2) (v := (s1.2 + 1)) (L' := [some (.inr 19), some (.inl x0), some (.inl j12), some (.inl (s1.2 + 1))]) (pc := 52) dX7_longestWaiting_52 rfl (kx_1 _) (Nat.le_of_ble_eq_true rfl) rfl ?_
      refine ev_goto (t := 4) (pc := 55) dX7_longestWaiting_55 (by decide) ?_
      obtain rfl := Option.some.inj h
      exact ih5 (j12, (s1.2 + 1)) rfl
    replace h := e13
    by_cases b15 : t10 < 0
    · rw [if_pos b15] at h
      refine ev_if_lt_t (t := 52) (pc := 15) dX7_longestWaiting_15 (by decide) b15 ?_
      obtain rfl := Option.some.inj h
      exact hj14
    · rw [if_neg b15] at h
      refine ev_if_lt_f (t := 52) (pc := 15) dX7_longestWaiting_15 (by decide) b15 ?_
      obtain ⟨t16, e17, h⟩ := rb_bd h
      refine ev_aload_n (v := 19) (pc := 18) dX7_longestWaiting_18 rfl ?_
      refine ev_iload_n (v := s1.2) (pc := 19) dX7_longestWaiting_19 rfl ?_
      refine ev_iconst (v := 4) (pc := 20) dX7_longestWaiting_20 ki_4 ?_
      refine ev_cVi2 (pc := 21) dX7_longestWaiting_21 mv_X7_ofObject lk_RX7_66 rp_19 (ct_X7_ofObject _ _ _ _ _ rfl e17) (Nat.le_of_ble_eq_true rfl) (Nat.le_of_ble_eq_true rfl) ?_
      refine ev_iload_n (v := x0) (pc := 24) dX7_longestWaiting_24 rfl ?_
      by_cases b18 : t16 = x0
      · rw [if_pos b18] at h
        refine ev_icmp_eq_t (t := 31) (pc := 25) dX7_longestWaiting_25 (by decide) b18 ?_
        refine ev_iload_n (v := s1.1) (pc := 31) dX7_longestWaiting_31 rfl ?_
        by_cases b19 : s1.1 < 0
        · rw [if_pos b19] at h
          refine ev_if_lt_t (t := 50) (pc := 32) dX7_longestWaiting_32 (by decide) b19 ?_
          refine ev_iload_n (v := s1.2) (pc := 50) dX7_longestWaiting_50 rfl ?_
          refine ev_istore_n (L' := [some (.inr 19), some (.inl x0), some (.inl s1.2), some (.inl s1.2)]) (pc := 51) dX7_longestWaiting_51 (Nat.le_of_ble_eq_true rfl) rfl ?_
          obtain rfl := Option.some.inj h
          exact hj14
        · rw [if_neg b19] at h
          refine ev_if_lt_f (t := 50) (pc := 32) dX7_longestWaiting_32 (by decide) b19 ?_
          obtain ⟨t20, e21, h⟩ := rb_bd h
          obtain ⟨t22, e23, h⟩ := rb_bd h
          refine ev_aload_n (v := 19) (pc := 35) dX7_longestWaiting_35 rfl ?_
          refine ev_iload_n (v := s1.2) (pc := 36) dX7_longestWaiting_36 rfl ?_
          refine ev_iconst (v := 5) (pc := 37) dX7_longestWaiting_37 ki_5 ?_
          refine ev_cVi2 (pc := 38) dX7_longestWaiting_38 mv_X7_ofObject lk_RX7_66 rp_19 (ct_X7_ofObject _ _ _ _ _ rfl e21) (Nat.le_of_ble_eq_true rfl) (Nat.le_of_ble_eq_true rfl) ?_
          refine ev_aload_n (v := 19) (pc := 41) dX7_longestWaiting_41 rfl ?_
          refine ev_iload_n (v := s1.1) (pc := 42) dX7_longestWaiting_42 rfl ?_
          refine ev_iconst (v := 5) (pc := 43) dX7_longestWaiting_43 ki_5 ?_
          refine ev_cVi2 (pc := 44) dX7_longestWaiting_44 mv_X7_ofObject lk_RX7_66 rp_19 (ct_X7_ofObject _ _ _ _ _ rfl e23) (Nat.le_of_ble_eq_true rfl) (Nat.le_of_ble_eq_true rfl) ?_
          by_cases b24 : t22 ≤ t20
          · rw [if_pos b24] at h
            refine ev_icmp_ge_t (t := 52) (pc := 47) dX7_longestWaiting_47 (by decide) b24 ?_
            obtain rfl := Option.some.inj h
            exact hj14
          · rw [if_neg b24] at h
            refine ev_icmp_ge_f (t := 52) (pc := 47) dX7_longestWaiting_47 (by decide) b24 ?_
            refine ev_iload_n (v := s1.2) (pc := 50) dX7_longestWaiting_50 rfl ?_
            refine ev_istore_n (L' := [some (.inr 19), some (.inl x0), some (.inl s1.2), some (.inl s1.2)]) (pc := 51) dX7_longestWaiting_51 (Nat.le_of_ble_eq_true rfl) rfl ?_
            obtain rfl := Option.some.inj h
            exact hj14
      · rw [if_neg b18] at h
        refine ev_icmp_eq_f (t := 31) (pc := 25) dX7_longestWaiting_25 (by decide) b18 ?_
        refine ev_goto (t := 52) (pc := 28) dX7_longestWaiting_28 (by decide) ?_
        obtain rfl := Option.some.inj h
        exact hj14
def XX7_beginNotice (na : rb_Row) (nb : rb_Row) (nl : rb_Row) (sv : rb_Row) (x0 : Int32) (x1 : Int32) (x2 : Int32) : Option (rb_Row × rb_Row × rb_Row × rb_Row) := (rb_wr na 6 x0 x1).bind fun na1 => (rb_wr nb 6 x0 x2).bind fun nb3 => (rb_wr nl 6 x0 0).bind fun nl5 => (rb_wr sv 6 x0 (rb_nz 0)).bind fun sv7 => some (na1, nb3, nl5, sv7)
set_option maxHeartbeats 4000000 in
set_option maxRecDepth 20000 in
theorem ct_X7_beginNotice (μ : rb_Mem) (na : rb_Row) (nb : rb_Row) (nl : rb_Row) (sv : rb_Row) (x0 : Int32) (x1 : Int32) (x2 : Int32) (o : rb_Row × rb_Row × rb_Row × rb_Row) (hna : μ 23 = na) (hnb : μ 24 = nb) (hnl : μ 25 = nl) (hsv : μ 26 = sv) (h : XX7_beginNotice na nb nl sv x0 x1 x2 = some o) : rb_Ct yX7_beginNotice cX7_beginNotice 4 none 0 [.inr 19, .inl x0, .inl x1, .inl x2] μ none (rb_ov μ [(23, o.1), (24, o.2.1), (25, o.2.2.1), (26, o.2.2.2)]) := by
  unfold XX7_beginNotice at h
  have hini : rb_ov μ [(23, na), (24, nb), (25, nl), (26, sv)] = μ := rb_ov_sf _ _ (And.intro hna (And.intro hnb (And.intro hnl (And.intro hsv True.intro))))
  have hfin : ∀ u0 u1 u2 u3 : rb_Row, rb_ov μ [(23, u0), (24, u1), (25, u2), (26, u3)] = rb_ov μ [(23, u0), (24, u1), (25, u2), (26, u3)] := fun u0 u1 u2 u3 => rfl
  refine rb_ctv (w := [(23, na), (24, nb), (25, nl), (26, sv)]) rfl pn_7 (Nat.le_of_ble_eq_true rfl) rfl hini ?_
  obtain ⟨na1, e2, h⟩ := rb_bd h
  obtain ⟨nb3, e4, h⟩ := rb_bd h
  obtain ⟨nl5, e6, h⟩ := rb_bd h
  obtain ⟨sv7, e8, h⟩ := rb_bd h
  refine ev_aload_n (v := 19) (pc := 0) dX7_beginNotice_0 rfl ?_
  refine ev_getr (q := 23) (pc := 1) dX7_beginNotice_1 fl_RX7_19 rfl rfl ?_
  refine ev_iload_n (v := x0) (pc := 4) dX7_beginNotice_4 rfl ?_
  refine ev_iload_n (v := x1) (pc := 5) dX7_beginNotice_5 rfl ?_
  refine ev_iast (w' := [(23, na1), (24, nb), (25, nl), (26, sv)]) (pc := 6) dX7_beginNotice_6 rfl e2 rfl ?_
  refine ev_aload_n (v := 19) (pc := 7) dX7_beginNotice_7 rfl ?_
  refine ev_getr (q := 24) (pc := 8) dX7_beginNotice_8 fl_RX7_22 rfl rfl ?_
  refine ev_iload_n (v := x0) (pc := 11) dX7_beginNotice_11 rfl ?_
  refine ev_iload_n (v := x2) (pc := 12) dX7_beginNotice_12 rfl ?_
  refine ev_iast (w' := [(23, na1), (24, nb3), (25, nl), (26, sv)]) (pc := 13) dX7_beginNotice_13 rfl e4 rfl ?_
  refine ev_aload_n (v := 19) (pc := 14) dX7_beginNotice_14 rfl ?_
  refine ev_getr (q := 25) (pc := 15) dX7_beginNotice_15 fl_RX7_25 rfl rfl ?_
  refine ev_iload_n (v := x0) (pc := 18) dX7_beginNotice_18 rfl ?_
  refine ev_iconst (v := 0) (pc := 19) dX7_beginNotice_19 ki_0 ?_
  refine ev_iast (w' := [(23, na1), (24, nb3), (25, nl5), (26, sv)]) (pc := 20) dX7_beginNotice_20 rfl e6 rfl ?_
  refine ev_aload_n (v := 19) (pc := 21) dX7_beginNotice_21 rfl ?_
  refine ev_getr (q := 26) (pc := 22) dX7_beginNotice_22 fl_RX7_28 rfl rfl ?_
  refine ev_iload_n (v := x0) (pc := 25) dX7_beginNotice_25 rfl ?_
  refine ev_iconst (v := 0) (pc := 26) dX7_beginNotice_26 ki_0 ?_
  refine ev_zast (w' := [(23, na1), (24, nb3), (25, nl5), (26, sv7)]) (pc := 27) dX7_beginNotice_27 rfl e8 rfl ?_
  obtain rfl := Option.some.inj h
  exact ev_ret (pc := 28) dX7_beginNotice_28 rfl rfl (hfin _ _ _ _)
def XX7_addedBehind (a : rb_Row) (x0 : Int32) (x1 : Int32) (x2 : Int32) : Option (Int32) := (rb_lp (ρ := Int32) (fun (s1 : Int32 × Int32) => if 24 ≤ s1.2 then some (.inr s1.1) else (XX7_isInterest a s1.2).bind fun t10 => ((if t10 = 0 then some s1.1 else ((if x1 = 0 then some 1 else some 0) : Option (Int32)).bind fun j16 => (XX7_ofInterest a s1.2 j16).bind fun t20 => if t20 = x0 then (XX7_ofInterest a s1.2 6).bind fun t23 => if x2 < t23 then if s1.1 < 0 then some s1.2 else (XX7_ofInterest a s1.2 6).bind fun t27 => (XX7_ofInterest a s1.1 6).bind fun t29 => if t29 ≤ t27 then some s1.1 else some s1.2 else some s1.1 else some s1.1) : Option (Int32)).bind fun j12 => some (.inl (j12, (s1.2 + 1)))) 100000 ((-1), 0)).bind fun q2 => some q2
set_option maxHeartbeats 4000000 in
set_option maxRecDepth 20000 in
theorem ct_X7_addedBehind (μ : rb_Mem) (a : rb_Row) (x0 : Int32) (x1 : Int32) (x2 : Int32) (o : Int32) (ha : μ 20 = a) (h : XX7_addedBehind a x0 x1 x2 = some o) : rb_Ct yX7_addedBehind cX7_addedBehind 6 (some .int) 3 [.inr 19, .inl x0, .inl x1, .inl x2] μ (some o) μ := by
  unfold XX7_addedBehind at h
  have hini : rb_ov μ [(20, a)] = μ := rb_ov_sf _ _ (And.intro ha True.intro)
  have hfin := hini
  refine rb_cti (w := [(20, a)]) rfl pn_7 (Nat.le_of_ble_eq_true rfl) rfl hini ?_
  refine ev_iconst (v := (-1)) (pc := 0) dX7_addedBehind_0 ki_m1 ?_
  refine ev_istore (L' := [some (.inr 19), some (.inl x0), some (.inl x1), some (.inl x2), some (.inl (-1)), none]) (pc := 1) dX7_addedBehind_1 (Nat.le_of_ble_eq_true rfl) rfl ?_
  refine ev_iconst (v := 0) (pc := 3) dX7_addedBehind_3 ki_0 ?_
  refine ev_istore (L' := [some (.inr 19), some (.inl x0), some (.inl x1), some (.inl x2), some (.inl (-1)), some (.inl 0)]) (pc := 4) dX7_addedBehind_4 (Nat.le_of_ble_eq_true rfl) rfl ?_
  obtain ⟨q2, l3, h⟩ := rb_bd h
  have hx7 : rb_Ev RX7 cX7_addedBehind 6 (some .int) none 3 (some o) μ 90 [none, none, none, none, some (.inl q2), none] [] (rb_ov μ [(20, a)]) := by
    refine ev_iload (v := q2) (pc := 90) dX7_addedBehind_90 rfl ?_
    obtain rfl := Option.some.inj h
    exact ev_iret (pc := 92) dX7_addedBehind_92 rfl rfl rfl hfin
  refine rb_lp_ev (P := fun (s1 : Int32 × Int32) => rb_Ev RX7 cX7_addedBehind 6 (some .int) none 3 (some o) μ 6 [some (.inr 19), some (.inl x0), some (.inl x1), some (.inl x2), some (.inl s1.1), some (.inl s1.2)] [] (rb_ov μ [(20, a)])) ?_ 100000 ((-1), 0) l3
  intro s1 y4 h ih5 hE6
  refine ev_iload (v := s1.2) (pc := 6) dX7_addedBehind_6 rfl ?_
  refine ev_bipush (v := 24) (pc := 8) dX7_addedBehind_8 kb_24 ?_
  by_cases b9 : 24 ≤ s1.2
  · rw [if_pos b9] at h
    refine ev_icmp_ge_t (t := 90) (pc := 10) dX7_addedBehind_10 (by decide) b9 ?_
    obtain rfl := Option.some.inj h
    obtain rfl := hE6 _ rfl
    exact ev_fg (L := [none, none, none, none, some (.inl s1.1), none]) (And.intro rfl True.intro) (hx7)
  · rw [if_neg b9] at h
    refine ev_icmp_ge_f (t := 90) (pc := 10) dX7_addedBehind_10 (by decide) b9 ?_
    obtain ⟨t10, e11, h⟩ := rb_bd h
    refine ev_aload_n (v := 19) (pc := 13) dX7_addedBehind_13 rfl ?_
    refine ev_iload (v := s1.2) (pc := 14) dX7_addedBehind_14 rfl ?_
    refine ev_cVi1 (pc := 16) dX7_addedBehind_16 mv_X7_isInterest lk_RX7_149 rp_19 (ct_X7_isInterest _ _ _ _ rfl e11) (Nat.le_of_ble_eq_true rfl) (Nat.le_of_ble_eq_true rfl) ?_
    obtain ⟨j12, e13, h⟩ := rb_bd h
    have hj14 : rb_Ev RX7 cX7_addedBehind 6 (some .int) none 3 (some o) μ 84 [some (.inr 19), some (.inl x0), some (.inl x1), some (.inl x2), some (.inl j12), some (.inl s1.2)] [] (rb_ov μ [(20, a)]) := by
      refine ev_iinc (x := s1.2) (v := (s1.2 + 1)) (L' := [some (.inr 19), some (.inl x0), some (.inl x1), some (.inl x2), some (.inl j12), some (.inl (s1.2 + 1))]) (pc := 84) dX7_addedBehind_84 rfl (kx_1 _) (Nat.le_of_ble_eq_true rfl) rfl ?_
      refine ev_goto (t := 6) (pc := 87) dX7_addedBehind_87 (by decide) ?_
      obtain rfl := Option.some.inj h
      exact ih5 (j12, (s1.2 + 1)) rfl
    replace h := e13
    by_cases b15 : t10 = 0
    · rw [if_pos b15] at h
      refine ev_if_eq_t (t := 84) (pc := 19) dX7_addedBehind_19 (by decide) b15 ?_
      obtain rfl := Option.some.inj h
      exact hj14
    · rw [if_neg b15] at h
      refine ev_if_eq_f (t := 84) (pc := 19) dX7_addedBehind_19 (by decide) b15 ?_
      refine ev_aload_n (v := 19) (pc := 22) dX7_addedBehind_22 rfl ?_
      refine ev_iload (v := s1.2) (pc := 23) dX7_addedBehind_23 rfl ?_
      refine ev_iload_n (v := x1) (pc := 25) dX7_addedBehind_25 rfl ?_
      obtain ⟨j16, e17, h⟩ := rb_bd h
      have hj18 : rb_Ev RX7 cX7_addedBehind 6 (some .int) none 3 (some o) μ 34 [some (.inr 19), some (.inl x0), some (.inl x1), some (.inl x2), some (.inl s1.1), some (.inl s1.2)] [.inl j16, .inl s1.2, .inr 19] (rb_ov μ [(20, a)]) := by
        obtain ⟨t20, e21, h⟩ := rb_bd h
        refine ev_cVi2 (pc := 34) dX7_addedBehind_34 mv_X7_ofInterest lk_RX7_81 rp_19 (ct_X7_ofInterest _ _ _ _ _ rfl e21) (Nat.le_of_ble_eq_true rfl) (Nat.le_of_ble_eq_true rfl) ?_
        refine ev_iload_n (v := x0) (pc := 37) dX7_addedBehind_37 rfl ?_
        by_cases b22 : t20 = x0
        · rw [if_pos b22] at h
          refine ev_icmp_ne_f (t := 84) (pc := 38) dX7_addedBehind_38 (by decide) b22 ?_
          obtain ⟨t23, e24, h⟩ := rb_bd h
          refine ev_aload_n (v := 19) (pc := 41) dX7_addedBehind_41 rfl ?_
          refine ev_iload (v := s1.2) (pc := 42) dX7_addedBehind_42 rfl ?_
          refine ev_bipush (v := 6) (pc := 44) dX7_addedBehind_44 kb_6 ?_
          refine ev_cVi2 (pc := 46) dX7_addedBehind_46 mv_X7_ofInterest lk_RX7_81 rp_19 (ct_X7_ofInterest _ _ _ _ _ rfl e24) (Nat.le_of_ble_eq_true rfl) (Nat.le_of_ble_eq_true rfl) ?_
          refine ev_iload_n (v := x2) (pc := 49) dX7_addedBehind_49 rfl ?_
          by_cases b25 : x2 < t23
          · rw [if_pos b25] at h
            refine ev_icmp_gt_t (t := 56) (pc := 50) dX7_addedBehind_50 (by decide) b25 ?_
            refine ev_iload (v := s1.1) (pc := 56) dX7_addedBehind_56 rfl ?_
            by_cases b26 : s1.1 < 0
            · rw [if_pos b26] at h
              refine ev_if_lt_t (t := 80) (pc := 58) dX7_addedBehind_58 (by decide) b26 ?_
              refine ev_iload (v := s1.2) (pc := 80) dX7_addedBehind_80 rfl ?_
              refine ev_istore (L' := [some (.inr 19), some (.inl x0), some (.inl x1), some (.inl x2), some (.inl s1.2), some (.inl s1.2)]) (pc := 82) dX7_addedBehind_82 (Nat.le_of_ble_eq_true rfl) rfl ?_
              obtain rfl := Option.some.inj h
              exact hj14
            · rw [if_neg b26] at h
              refine ev_if_lt_f (t := 80) (pc := 58) dX7_addedBehind_58 (by decide) b26 ?_
              obtain ⟨t27, e28, h⟩ := rb_bd h
              obtain ⟨t29, e30, h⟩ := rb_bd h
              refine ev_aload_n (v := 19) (pc := 61) dX7_addedBehind_61 rfl ?_
              refine ev_iload (v := s1.2) (pc := 62) dX7_addedBehind_62 rfl ?_
              refine ev_bipush (v := 6) (pc := 64) dX7_addedBehind_64 kb_6 ?_
              refine ev_cVi2 (pc := 66) dX7_addedBehind_66 mv_X7_ofInterest lk_RX7_81 rp_19 (ct_X7_ofInterest _ _ _ _ _ rfl e28) (Nat.le_of_ble_eq_true rfl) (Nat.le_of_ble_eq_true rfl) ?_
              refine ev_aload_n (v := 19) (pc := 69) dX7_addedBehind_69 rfl ?_
              refine ev_iload (v := s1.1) (pc := 70) dX7_addedBehind_70 rfl ?_
              refine ev_bipush (v := 6) (pc := 72) dX7_addedBehind_72 kb_6 ?_
              refine ev_cVi2 (pc := 74) dX7_addedBehind_74 mv_X7_ofInterest lk_RX7_81 rp_19 (ct_X7_ofInterest _ _ _ _ _ rfl e30) (Nat.le_of_ble_eq_true rfl) (Nat.le_of_ble_eq_true rfl) ?_
              by_cases b31 : t29 ≤ t27
              · rw [if_pos b31] at h
                refine ev_icmp_ge_t (t := 84) (pc := 77) dX7_addedBehind_77 (by decide) b31 ?_
                obtain rfl := Option.some.inj h
                exact hj14
              · rw [if_neg b31] at h
                refine ev_icmp_ge_f (t := 84) (pc := 77) dX7_addedBehind_77 (by decide) b31 ?_
                refine ev_iload (v := s1.2) (pc := 80) dX7_addedBehind_80 rfl ?_
                refine ev_istore (L' := [some (.inr 19), some (.inl x0), some (.inl x1), some (.inl x2), some (.inl s1.2), some (.inl s1.2)]) (pc := 82) dX7_addedBehind_82 (Nat.le_of_ble_eq_true rfl) rfl ?_
                obtain rfl := Option.some.inj h
                exact hj14
          · rw [if_neg b25] at h
            refine ev_icmp_gt_f (t := 56) (pc := 50) dX7_addedBehind_50 (by decide) b25 ?_
            refine ev_goto (t := 84) (pc := 53) dX7_addedBehind_53 (by decide) ?_
            obtain rfl := Option.some.inj h
            exact hj14
        · rw [if_neg b22] at h
          refine ev_icmp_ne_t (t := 84) (pc := 38) dX7_addedBehind_38 (by decide) b22 ?_
          obtain rfl := Option.some.inj h
          exact hj14
      replace h := e17
      by_cases b19 : x1 = 0
      · rw [if_pos b19] at h
        refine ev_if_eq_t (t := 33) (pc := 26) dX7_addedBehind_26 (by decide) b19 ?_
        refine ev_iconst (v := 1) (pc := 33) dX7_addedBehind_33 ki_1 ?_
        obtain rfl := Option.some.inj h
        exact hj18
      · rw [if_neg b19] at h
        refine ev_if_eq_f (t := 33) (pc := 26) dX7_addedBehind_26 (by decide) b19 ?_
        refine ev_iconst (v := 0) (pc := 29) dX7_addedBehind_29 ki_0 ?_
        refine ev_goto (t := 34) (pc := 30) dX7_addedBehind_30 (by decide) ?_
        obtain rfl := Option.some.inj h
        exact hj18
def XX7_bitsOf (a : rb_Row) (x0 : Int32) : Option (Int32) := (XX7_ofInterest a x0 3).bind fun t1 => some ((t1 ||| 4) ||| 8)
set_option maxHeartbeats 4000000 in
set_option maxRecDepth 20000 in
theorem ct_X7_bitsOf (μ : rb_Mem) (a : rb_Row) (x0 : Int32) (o : Int32) (ha : μ 20 = a) (h : XX7_bitsOf a x0 = some o) : rb_Ct yX7_bitsOf cX7_bitsOf 2 (some .int) 2 [.inr 19, .inl x0] μ (some o) μ := by
  unfold XX7_bitsOf at h
  have hini : rb_ov μ [(20, a)] = μ := rb_ov_sf _ _ (And.intro ha True.intro)
  have hfin := hini
  refine rb_cti (w := [(20, a)]) rfl pn_7 (Nat.le_of_ble_eq_true rfl) rfl hini ?_
  obtain ⟨t1, e2, h⟩ := rb_bd h
  refine ev_aload_n (v := 19) (pc := 0) dX7_bitsOf_0 rfl ?_
  refine ev_iload_n (v := x0) (pc := 1) dX7_bitsOf_1 rfl ?_
  refine ev_iconst (v := 3) (pc := 2) dX7_bitsOf_2 ki_3 ?_
  refine ev_cVi2 (pc := 3) dX7_bitsOf_3 mv_X7_ofInterest lk_RX7_81 rp_19 (ct_X7_ofInterest _ _ _ _ _ rfl e2) (Nat.le_of_ble_eq_true rfl) (Nat.le_of_ble_eq_true rfl) ?_
  refine ev_iconst (v := 4) (pc := 6) dX7_bitsOf_6 ki_4 ?_
  refine ev_ior (pc := 7) dX7_bitsOf_7 ?_
  refine ev_bipush (v := 8) (pc := 8) dX7_bitsOf_8 kb_8 ?_
  refine ev_ior (pc := 10) dX7_bitsOf_10 ?_
  obtain rfl := Option.some.inj h
  exact ev_iret (pc := 11) dX7_bitsOf_11 rfl rfl rfl hfin
def XX7_list (a : rb_Row) (x0 : Int32) : Option (rb_Row) := (XX7_ofInterest a x0 7).bind fun t1 => if t1 ≤ 0 then (XX7_interestAt x0 7).bind fun t4 => (XX7_stamp a).bind fun t6 => (rb_wr t6.2 796 t4 t6.1).bind fun a8 => (XX7_interestAt x0 10).bind fun t10 => (rb_wr a8 796 t10 0).bind fun a12 => some a12 else some a
set_option maxHeartbeats 4000000 in
set_option maxRecDepth 20000 in
theorem ct_X7_list (μ : rb_Mem) (a : rb_Row) (x0 : Int32) (o : rb_Row) (ha : μ 20 = a) (h : XX7_list a x0 = some o) : rb_Ct yX7_list cX7_list 2 none 2 [.inr 19, .inl x0] μ none (rb_ov μ [(20, o)]) := by
  unfold XX7_list at h
  have hini : rb_ov μ [(20, a)] = μ := rb_ov_sf _ _ (And.intro ha True.intro)
  have hfin : ∀ u0 : rb_Row, rb_ov μ [(20, u0)] = rb_ov μ [(20, u0)] := fun u0 => rfl
  refine rb_ctv (w := [(20, a)]) rfl pn_7 (Nat.le_of_ble_eq_true rfl) rfl hini ?_
  obtain ⟨t1, e2, h⟩ := rb_bd h
  refine ev_aload_n (v := 19) (pc := 0) dX7_list_0 rfl ?_
  refine ev_iload_n (v := x0) (pc := 1) dX7_list_1 rfl ?_
  refine ev_bipush (v := 7) (pc := 2) dX7_list_2 kb_7 ?_
  refine ev_cVi2 (pc := 4) dX7_list_4 mv_X7_ofInterest lk_RX7_81 rp_19 (ct_X7_ofInterest _ _ _ _ _ rfl e2) (Nat.le_of_ble_eq_true rfl) (Nat.le_of_ble_eq_true rfl) ?_
  by_cases b3 : t1 ≤ 0
  · rw [if_pos b3] at h
    refine ev_if_le_t (t := 11) (pc := 7) dX7_list_7 (by decide) b3 ?_
    obtain ⟨t4, e5, h⟩ := rb_bd h
    obtain ⟨t6, e7, h⟩ := rb_bd h
    obtain ⟨a8, e9, h⟩ := rb_bd h
    obtain ⟨t10, e11, h⟩ := rb_bd h
    obtain ⟨a12, e13, h⟩ := rb_bd h
    refine ev_aload_n (v := 19) (pc := 11) dX7_list_11 rfl ?_
    refine ev_getr (q := 20) (pc := 12) dX7_list_12 fl_RX7_7 rfl rfl ?_
    refine ev_iload_n (v := x0) (pc := 15) dX7_list_15 rfl ?_
    refine ev_bipush (v := 7) (pc := 16) dX7_list_16 kb_7 ?_
    refine ev_cSi2 (pc := 18) dX7_list_18 ms_X7_interestAt lk_RX7_60 (ct_X7_interestAt _ _ _ _ e5) (Nat.le_of_ble_eq_true rfl) (Nat.le_of_ble_eq_true rfl) ?_
    refine ev_aload_n (v := 19) (pc := 21) dX7_list_21 rfl ?_
    refine ev_cVi0w (w' := [(20, t6.2)]) (pc := 22) dX7_list_22 mv_X7_stamp lk_RX7_117 rp_19 (ct_X7_stamp _ _ _ rfl e7) (Nat.le_of_ble_eq_true rfl) (Nat.le_of_ble_eq_true rfl) rfl ?_
    refine ev_iast (w' := [(20, a8)]) (pc := 25) dX7_list_25 rfl e9 rfl ?_
    refine ev_aload_n (v := 19) (pc := 26) dX7_list_26 rfl ?_
    refine ev_getr (q := 20) (pc := 27) dX7_list_27 fl_RX7_7 rfl rfl ?_
    refine ev_iload_n (v := x0) (pc := 30) dX7_list_30 rfl ?_
    refine ev_bipush (v := 10) (pc := 31) dX7_list_31 kb_10 ?_
    refine ev_cSi2 (pc := 33) dX7_list_33 ms_X7_interestAt lk_RX7_60 (ct_X7_interestAt _ _ _ _ e11) (Nat.le_of_ble_eq_true rfl) (Nat.le_of_ble_eq_true rfl) ?_
    refine ev_iconst (v := 0) (pc := 36) dX7_list_36 ki_0 ?_
    refine ev_iast (w' := [(20, a12)]) (pc := 37) dX7_list_37 rfl e13 rfl ?_
    obtain rfl := Option.some.inj h
    exact ev_ret (pc := 38) dX7_list_38 rfl rfl (hfin _)
  · rw [if_neg b3] at h
    refine ev_if_le_f (t := 11) (pc := 7) dX7_list_7 (by decide) b3 ?_
    obtain rfl := Option.some.inj h
    exact ev_ret (pc := 10) dX7_list_10 rfl rfl (hfin _)
def XX7_sleeperBehind (a : rb_Row) (x0 : Int32) (x1 : Int32) : Option (Int32) := (rb_lp (ρ := Int32) (fun (s1 : Int32 × Int32) => if 6 ≤ s1.2 then some (.inr s1.1) else (XX7_ofTask a s1.2 0).bind fun t10 => ((if t10 = x0 then (XX7_ofTask a s1.2 1).bind fun t16 => if x1 < t16 then if s1.1 < 0 then some s1.2 else (XX7_ofTask a s1.2 1).bind fun t20 => (XX7_ofTask a s1.1 1).bind fun t22 => if t22 ≤ t20 then some s1.1 else some s1.2 else some s1.1 else some s1.1) : Option (Int32)).bind fun j12 => some (.inl (j12, (s1.2 + 1)))) 100000 ((-1), 0)).bind fun q2 => some q2
set_option maxHeartbeats 4000000 in
set_option maxRecDepth 20000 in
theorem ct_X7_sleeperBehind (μ : rb_Mem) (a : rb_Row) (x0 : Int32) (x1 : Int32) (o : Int32) (ha : μ 20 = a) (h : XX7_sleeperBehind a x0 x1 = some o) : rb_Ct yX7_sleeperBehind cX7_sleeperBehind 5 (some .int) 2 [.inr 19, .inl x0, .inl x1] μ (some o) μ := by
  unfold XX7_sleeperBehind at h
  have hini : rb_ov μ [(20, a)] = μ := rb_ov_sf _ _ (And.intro ha True.intro)
  have hfin := hini
  refine rb_cti (w := [(20, a)]) rfl pn_7 (Nat.le_of_ble_eq_true rfl) rfl hini ?_
  refine ev_iconst (v := (-1)) (pc := 0) dX7_sleeperBehind_0 ki_m1 ?_
  refine ev_istore_n (L' := [some (.inr 19), some (.inl x0), some (.inl x1), some (.inl (-1)), none]) (pc := 1) dX7_sleeperBehind_1 (Nat.le_of_ble_eq_true rfl) rfl ?_
  refine ev_iconst (v := 0) (pc := 2) dX7_sleeperBehind_2 ki_0 ?_
  refine ev_istore (L' := [some (.inr 19), some (.inl x0), some (.inl x1), some (.inl (-1)), some (.inl 0)]) (pc := 3) dX7_sleeperBehind_3 (Nat.le_of_ble_eq_true rfl) rfl ?_
  obtain ⟨q2, l3, h⟩ := rb_bd h
  have hx7 : rb_Ev RX7 cX7_sleeperBehind 5 (some .int) none 2 (some o) μ 66 [none, none, none, some (.inl q2), none] [] (rb_ov μ [(20, a)]) := by
    refine ev_iload_n (v := q2) (pc := 66) dX7_sleeperBehind_66 rfl ?_
    obtain rfl := Option.some.inj h
    exact ev_iret (pc := 67) dX7_sleeperBehind_67 rfl rfl rfl hfin
  refine rb_lp_ev (P := fun (s1 : Int32 × Int32) => rb_Ev RX7 cX7_sleeperBehind 5 (some .int) none 2 (some o) μ 5 [some (.inr 19), some (.inl x0), some (.inl x1), some (.inl s1.1), some (.inl s1.2)] [] (rb_ov μ [(20, a)])) ?_ 100000 ((-1), 0) l3
  intro s1 y4 h ih5 hE6
  refine ev_iload (v := s1.2) (pc := 5) dX7_sleeperBehind_5 rfl ?_
  refine ev_bipush (v := 6) (pc := 7) dX7_sleeperBehind_7 kb_6 ?_
  by_cases b9 : 6 ≤ s1.2
  · rw [if_pos b9] at h
    refine ev_icmp_ge_t (t := 66) (pc := 9) dX7_sleeperBehind_9 (by decide) b9 ?_
    obtain rfl := Option.some.inj h
    obtain rfl := hE6 _ rfl
    exact ev_fg (L := [none, none, none, some (.inl s1.1), none]) (And.intro rfl True.intro) (hx7)
  · rw [if_neg b9] at h
    refine ev_icmp_ge_f (t := 66) (pc := 9) dX7_sleeperBehind_9 (by decide) b9 ?_
    obtain ⟨t10, e11, h⟩ := rb_bd h
    refine ev_aload_n (v := 19) (pc := 12) dX7_sleeperBehind_12 rfl ?_
    refine ev_iload (v := s1.2) (pc := 13) dX7_sleeperBehind_13 rfl ?_
    refine ev_iconst (v := 0) (pc := 15) dX7_sleeperBehind_15 ki_0 ?_
    refine ev_cVi2 (pc := 16) dX7_sleeperBehind_16 mv_X7_ofTask lk_RX7_84 rp_19 (ct_X7_ofTask _ _ _ _ _ rfl e11) (Nat.le_of_ble_eq_true rfl) (Nat.le_of_ble_eq_true rfl) ?_
    refine ev_iload_n (v := x0) (pc := 19) dX7_sleeperBehind_19 rfl ?_
    obtain ⟨j12, e13, h⟩ := rb_bd h
    have hj14 : rb_Ev RX7 cX7_sleeperBehind 5 (some .int) none 2 (some o) μ 60 [some (.inr 19), some (.inl x0), some (.inl x1), some (.inl j12), some (.inl s1.2)] [] (rb_ov μ [(20, a)]) := by
      refine ev_iinc (x := s1.2) (v := (s1.2 + 1)) (L' := [some (.inr 19), some (.inl x0), some (.inl x1), some (.inl j12), some (.inl (s1.2 + 1))]) (pc := 60) dX7_sleeperBehind_60 rfl (kx_1 _) (Nat.le_of_ble_eq_true rfl) rfl ?_
      refine ev_goto (t := 5) (pc := 63) dX7_sleeperBehind_63 (by decide) ?_
      obtain rfl := Option.some.inj h
      exact ih5 (j12, (s1.2 + 1)) rfl
    replace h := e13
    by_cases b15 : t10 = x0
    · rw [if_pos b15] at h
      refine ev_icmp_ne_f (t := 60) (pc := 20) dX7_sleeperBehind_20 (by decide) b15 ?_
      obtain ⟨t16, e17, h⟩ := rb_bd h
      refine ev_aload_n (v := 19) (pc := 23) dX7_sleeperBehind_23 rfl ?_
      refine ev_iload (v := s1.2) (pc := 24) dX7_sleeperBehind_24 rfl ?_
      refine ev_iconst (v := 1) (pc := 26) dX7_sleeperBehind_26 ki_1 ?_
      refine ev_cVi2 (pc := 27) dX7_sleeperBehind_27 mv_X7_ofTask lk_RX7_84 rp_19 (ct_X7_ofTask _ _ _ _ _ rfl e17) (Nat.le_of_ble_eq_true rfl) (Nat.le_of_ble_eq_true rfl) ?_
      refine ev_iload_n (v := x1) (pc := 30) dX7_sleeperBehind_30 rfl ?_
      by_cases b18 : x1 < t16
      · rw [if_pos b18] at h
        refine ev_icmp_gt_t (t := 37) (pc := 31) dX7_sleeperBehind_31 (by decide) b18 ?_
        refine ev_iload_n (v := s1.1) (pc := 37) dX7_sleeperBehind_37 rfl ?_
        by_cases b19 : s1.1 < 0
        · rw [if_pos b19] at h
          refine ev_if_lt_t (t := 57) (pc := 38) dX7_sleeperBehind_38 (by decide) b19 ?_
          refine ev_iload (v := s1.2) (pc := 57) dX7_sleeperBehind_57 rfl ?_
          refine ev_istore_n (L' := [some (.inr 19), some (.inl x0), some (.inl x1), some (.inl s1.2), some (.inl s1.2)]) (pc := 59) dX7_sleeperBehind_59 (Nat.le_of_ble_eq_true rfl) rfl ?_
          obtain rfl := Option.some.inj h
          exact hj14
        · rw [if_neg b19] at h
          refine ev_if_lt_f (t := 57) (pc := 38) dX7_sleeperBehind_38 (by decide) b19 ?_
          obtain ⟨t20, e21, h⟩ := rb_bd h
          obtain ⟨t22, e23, h⟩ := rb_bd h
          refine ev_aload_n (v := 19) (pc := 41) dX7_sleeperBehind_41 rfl ?_
          refine ev_iload (v := s1.2) (pc := 42) dX7_sleeperBehind_42 rfl ?_
          refine ev_iconst (v := 1) (pc := 44) dX7_sleeperBehind_44 ki_1 ?_
          refine ev_cVi2 (pc := 45) dX7_sleeperBehind_45 mv_X7_ofTask lk_RX7_84 rp_19 (ct_X7_ofTask _ _ _ _ _ rfl e21) (Nat.le_of_ble_eq_true rfl) (Nat.le_of_ble_eq_true rfl) ?_
          refine ev_aload_n (v := 19) (pc := 48) dX7_sleeperBehind_48 rfl ?_
          refine ev_iload_n (v := s1.1) (pc := 49) dX7_sleeperBehind_49 rfl ?_
          refine ev_iconst (v := 1) (pc := 50) dX7_sleeperBehind_50 ki_1 ?_
          refine ev_cVi2 (pc := 51) dX7_sleeperBehind_51 mv_X7_ofTask lk_RX7_84 rp_19 (ct_X7_ofTask _ _ _ _ _ rfl e23) (Nat.le_of_ble_eq_true rfl) (Nat.le_of_ble_eq_true rfl) ?_
          by_cases b24 : t22 ≤ t20
          · rw [if_pos b24] at h
            refine ev_icmp_ge_t (t := 60) (pc := 54) dX7_sleeperBehind_54 (by decide) b24 ?_
            obtain rfl := Option.some.inj h
            exact hj14
          · rw [if_neg b24] at h
            refine ev_icmp_ge_f (t := 60) (pc := 54) dX7_sleeperBehind_54 (by decide) b24 ?_
            refine ev_iload (v := s1.2) (pc := 57) dX7_sleeperBehind_57 rfl ?_
            refine ev_istore_n (L' := [some (.inr 19), some (.inl x0), some (.inl x1), some (.inl s1.2), some (.inl s1.2)]) (pc := 59) dX7_sleeperBehind_59 (Nat.le_of_ble_eq_true rfl) rfl ?_
            obtain rfl := Option.some.inj h
            exact hj14
      · rw [if_neg b18] at h
        refine ev_icmp_gt_f (t := 37) (pc := 31) dX7_sleeperBehind_31 (by decide) b18 ?_
        refine ev_goto (t := 60) (pc := 34) dX7_sleeperBehind_34 (by decide) ?_
        obtain rfl := Option.some.inj h
        exact hj14
    · rw [if_neg b15] at h
      refine ev_icmp_ne_t (t := 60) (pc := 20) dX7_sleeperBehind_20 (by decide) b15 ?_
      obtain rfl := Option.some.inj h
      exact hj14
def XX7_readyPlain (a : rb_Row) (x0 : Int32) : Option (Int32) := (XX7_ofObject a x0 1).bind fun t1 => (XX7_kindOf a x0).bind fun t3 => if t3 = 0 then (XX7_ofPipe a t1 1).bind fun t6 => ((if t6 ≤ 0 then some 0 else some 1) : Option (Int32)).bind fun j8 => (XX7_otherEnd a x0).bind fun t12 => if 0 ≤ t12 then some (j8 ||| 0) else some (j8 ||| 4) else if t3 = 1 then (XX7_otherEnd a x0).bind fun t16 => if 0 ≤ t16 then (XX7_ofPipe a t1 1).bind fun t19 => (XX7_ofPipe a t1 0).bind fun t21 => if t21 ≤ t19 then some 0 else some 2 else some 8 else if t3 = 2 then ((if t1 ≤ 0 then some 0 else some 1) : Option (Int32)).bind fun j25 => if 1000 ≤ t1 then some (j25 ||| 0) else some (j25 ||| 2) else if t3 = 3 then if t1 ≤ 0 then some 0 else some 1 else if t3 = 5 then (XX7_waitingAt a x0).bind fun t33 => if t33 ≤ 0 then some 0 else some 1 else some 0
set_option maxHeartbeats 4000000 in
set_option maxRecDepth 20000 in
theorem ct_X7_readyPlain (μ : rb_Mem) (a : rb_Row) (x0 : Int32) (o : Int32) (ha : μ 20 = a) (h : XX7_readyPlain a x0 = some o) : rb_Ct yX7_readyPlain cX7_readyPlain 3 (some .int) 4 [.inr 19, .inl x0] μ (some o) μ := by
  unfold XX7_readyPlain at h
  have hini : rb_ov μ [(20, a)] = μ := rb_ov_sf _ _ (And.intro ha True.intro)
  have hfin := hini
  refine rb_cti (w := [(20, a)]) rfl pn_7 (Nat.le_of_ble_eq_true rfl) rfl hini ?_
  obtain ⟨t1, e2, h⟩ := rb_bd h
  obtain ⟨t3, e4, h⟩ := rb_bd h
  refine ev_aload_n (v := 19) (pc := 0) dX7_readyPlain_0 rfl ?_
  refine ev_iload_n (v := x0) (pc := 1) dX7_readyPlain_1 rfl ?_
  refine ev_iconst (v := 1) (pc := 2) dX7_readyPlain_2 ki_1 ?_
  refine ev_cVi2 (pc := 3) dX7_readyPlain_3 mv_X7_ofObject lk_RX7_66 rp_19 (ct_X7_ofObject _ _ _ _ _ rfl e2) (Nat.le_of_ble_eq_true rfl) (Nat.le_of_ble_eq_true rfl) ?_
  refine ev_istore_n (L' := [some (.inr 19), some (.inl x0), some (.inl t1)]) (pc := 6) dX7_readyPlain_6 (Nat.le_of_ble_eq_true rfl) rfl ?_
  refine ev_aload_n (v := 19) (pc := 7) dX7_readyPlain_7 rfl ?_
  refine ev_iload_n (v := x0) (pc := 8) dX7_readyPlain_8 rfl ?_
  refine ev_cVi1 (pc := 9) dX7_readyPlain_9 mv_X7_kindOf lk_RX7_77 rp_19 (ct_X7_kindOf _ _ _ _ rfl e4) (Nat.le_of_ble_eq_true rfl) (Nat.le_of_ble_eq_true rfl) ?_
  by_cases b5 : t3 = 0
  · rw [if_pos b5] at h
    refine ev_tsIn (t := 52) (off := 40) (pc := 12) dX7_readyPlain_12 (by rw [b5]; decide) (by rw [b5]; decide) (by rw [b5]; decide) (by decide) ?_
    obtain ⟨t6, e7, h⟩ := rb_bd h
    refine ev_aload_n (v := 19) (pc := 52) dX7_readyPlain_52 rfl ?_
    refine ev_iload_n (v := t1) (pc := 53) dX7_readyPlain_53 rfl ?_
    refine ev_iconst (v := 1) (pc := 54) dX7_readyPlain_54 ki_1 ?_
    refine ev_cVi2 (pc := 55) dX7_readyPlain_55 mv_X7_ofPipe lk_RX7_91 rp_19 (ct_X7_ofPipe _ _ _ _ _ rfl e7) (Nat.le_of_ble_eq_true rfl) (Nat.le_of_ble_eq_true rfl) ?_
    obtain ⟨j8, e9, h⟩ := rb_bd h
    have hj10 : rb_Ev RX7 cX7_readyPlain 3 (some .int) none 4 (some o) μ 66 [some (.inr 19), some (.inl x0), none] [.inl j8] (rb_ov μ [(20, a)]) := by
      obtain ⟨t12, e13, h⟩ := rb_bd h
      refine ev_aload_n (v := 19) (pc := 66) dX7_readyPlain_66 rfl ?_
      refine ev_iload_n (v := x0) (pc := 67) dX7_readyPlain_67 rfl ?_
      refine ev_cVi1 (pc := 68) dX7_readyPlain_68 mv_X7_otherEnd lk_RX7_134 rp_19 (ct_X7_otherEnd _ _ _ _ rfl e13) (Nat.le_of_ble_eq_true rfl) (Nat.le_of_ble_eq_true rfl) ?_
      by_cases b14 : 0 ≤ t12
      · rw [if_pos b14] at h
        refine ev_if_ge_t (t := 78) (pc := 71) dX7_readyPlain_71 (by decide) b14 ?_
        refine ev_iconst (v := 0) (pc := 78) dX7_readyPlain_78 ki_0 ?_
        refine ev_ior (pc := 79) dX7_readyPlain_79 ?_
        obtain rfl := Option.some.inj h
        exact ev_iret (pc := 80) dX7_readyPlain_80 rfl rfl rfl hfin
      · rw [if_neg b14] at h
        refine ev_if_ge_f (t := 78) (pc := 71) dX7_readyPlain_71 (by decide) b14 ?_
        refine ev_iconst (v := 4) (pc := 74) dX7_readyPlain_74 ki_4 ?_
        refine ev_goto (t := 79) (pc := 75) dX7_readyPlain_75 (by decide) ?_
        refine ev_ior (pc := 79) dX7_readyPlain_79 ?_
        obtain rfl := Option.some.inj h
        exact ev_iret (pc := 80) dX7_readyPlain_80 rfl rfl rfl hfin
    replace h := e9
    by_cases b11 : t6 ≤ 0
    · rw [if_pos b11] at h
      refine ev_if_le_t (t := 65) (pc := 58) dX7_readyPlain_58 (by decide) b11 ?_
      refine ev_iconst (v := 0) (pc := 65) dX7_readyPlain_65 ki_0 ?_
      obtain rfl := Option.some.inj h
      exact ev_fg (L := [some (.inr 19), some (.inl x0), none]) (And.intro rfl (And.intro rfl True.intro)) (hj10)
    · rw [if_neg b11] at h
      refine ev_if_le_f (t := 65) (pc := 58) dX7_readyPlain_58 (by decide) b11 ?_
      refine ev_iconst (v := 1) (pc := 61) dX7_readyPlain_61 ki_1 ?_
      refine ev_goto (t := 66) (pc := 62) dX7_readyPlain_62 (by decide) ?_
      obtain rfl := Option.some.inj h
      exact ev_fg (L := [some (.inr 19), some (.inl x0), none]) (And.intro rfl (And.intro rfl True.intro)) (hj10)
  · rw [if_neg b5] at h
    by_cases b15 : t3 = 1
    · rw [if_pos b15] at h
      refine ev_tsIn (t := 81) (off := 69) (pc := 12) dX7_readyPlain_12 (by rw [b15]; decide) (by rw [b15]; decide) (by rw [b15]; decide) (by decide) ?_
      obtain ⟨t16, e17, h⟩ := rb_bd h
      refine ev_aload_n (v := 19) (pc := 81) dX7_readyPlain_81 rfl ?_
      refine ev_iload_n (v := x0) (pc := 82) dX7_readyPlain_82 rfl ?_
      refine ev_cVi1 (pc := 83) dX7_readyPlain_83 mv_X7_otherEnd lk_RX7_134 rp_19 (ct_X7_otherEnd _ _ _ _ rfl e17) (Nat.le_of_ble_eq_true rfl) (Nat.le_of_ble_eq_true rfl) ?_
      by_cases b18 : 0 ≤ t16
      · rw [if_pos b18] at h
        refine ev_if_ge_t (t := 94) (pc := 86) dX7_readyPlain_86 (by decide) b18 ?_
        obtain ⟨t19, e20, h⟩ := rb_bd h
        obtain ⟨t21, e22, h⟩ := rb_bd h
        refine ev_aload_n (v := 19) (pc := 94) dX7_readyPlain_94 rfl ?_
        refine ev_iload_n (v := t1) (pc := 95) dX7_readyPlain_95 rfl ?_
        refine ev_iconst (v := 1) (pc := 96) dX7_readyPlain_96 ki_1 ?_
        refine ev_cVi2 (pc := 97) dX7_readyPlain_97 mv_X7_ofPipe lk_RX7_91 rp_19 (ct_X7_ofPipe _ _ _ _ _ rfl e20) (Nat.le_of_ble_eq_true rfl) (Nat.le_of_ble_eq_true rfl) ?_
        refine ev_aload_n (v := 19) (pc := 100) dX7_readyPlain_100 rfl ?_
        refine ev_iload_n (v := t1) (pc := 101) dX7_readyPlain_101 rfl ?_
        refine ev_iconst (v := 0) (pc := 102) dX7_readyPlain_102 ki_0 ?_
        refine ev_cVi2 (pc := 103) dX7_readyPlain_103 mv_X7_ofPipe lk_RX7_91 rp_19 (ct_X7_ofPipe _ _ _ _ _ rfl e22) (Nat.le_of_ble_eq_true rfl) (Nat.le_of_ble_eq_true rfl) ?_
        by_cases b23 : t21 ≤ t19
        · rw [if_pos b23] at h
          refine ev_icmp_ge_t (t := 113) (pc := 106) dX7_readyPlain_106 (by decide) b23 ?_
          refine ev_iconst (v := 0) (pc := 113) dX7_readyPlain_113 ki_0 ?_
          obtain rfl := Option.some.inj h
          exact ev_iret (pc := 114) dX7_readyPlain_114 rfl rfl rfl hfin
        · rw [if_neg b23] at h
          refine ev_icmp_ge_f (t := 113) (pc := 106) dX7_readyPlain_106 (by decide) b23 ?_
          refine ev_iconst (v := 2) (pc := 109) dX7_readyPlain_109 ki_2 ?_
          refine ev_goto (t := 114) (pc := 110) dX7_readyPlain_110 (by decide) ?_
          obtain rfl := Option.some.inj h
          exact ev_iret (pc := 114) dX7_readyPlain_114 rfl rfl rfl hfin
      · rw [if_neg b18] at h
        refine ev_if_ge_f (t := 94) (pc := 86) dX7_readyPlain_86 (by decide) b18 ?_
        refine ev_bipush (v := 8) (pc := 89) dX7_readyPlain_89 kb_8 ?_
        refine ev_goto (t := 114) (pc := 91) dX7_readyPlain_91 (by decide) ?_
        obtain rfl := Option.some.inj h
        exact ev_iret (pc := 114) dX7_readyPlain_114 rfl rfl rfl hfin
    · rw [if_neg b15] at h
      by_cases b24 : t3 = 2
      · rw [if_pos b24] at h
        refine ev_tsIn (t := 115) (off := 103) (pc := 12) dX7_readyPlain_12 (by rw [b24]; decide) (by rw [b24]; decide) (by rw [b24]; decide) (by decide) ?_
        refine ev_iload_n (v := t1) (pc := 115) dX7_readyPlain_115 rfl ?_
        obtain ⟨j25, e26, h⟩ := rb_bd h
        have hj27 : rb_Ev RX7 cX7_readyPlain 3 (some .int) none 4 (some o) μ 124 [none, none, some (.inl t1)] [.inl j25] (rb_ov μ [(20, a)]) := by
          refine ev_iload_n (v := t1) (pc := 124) dX7_readyPlain_124 rfl ?_
          refine ev_sipush (v := 1000) (pc := 125) dX7_readyPlain_125 ks_1000 ?_
          by_cases b29 : 1000 ≤ t1
          · rw [if_pos b29] at h
            refine ev_icmp_ge_t (t := 135) (pc := 128) dX7_readyPlain_128 (by decide) b29 ?_
            refine ev_iconst (v := 0) (pc := 135) dX7_readyPlain_135 ki_0 ?_
            refine ev_ior (pc := 136) dX7_readyPlain_136 ?_
            obtain rfl := Option.some.inj h
            exact ev_iret (pc := 137) dX7_readyPlain_137 rfl rfl rfl hfin
          · rw [if_neg b29] at h
            refine ev_icmp_ge_f (t := 135) (pc := 128) dX7_readyPlain_128 (by decide) b29 ?_
            refine ev_iconst (v := 2) (pc := 131) dX7_readyPlain_131 ki_2 ?_
            refine ev_goto (t := 136) (pc := 132) dX7_readyPlain_132 (by decide) ?_
            refine ev_ior (pc := 136) dX7_readyPlain_136 ?_
            obtain rfl := Option.some.inj h
            exact ev_iret (pc := 137) dX7_readyPlain_137 rfl rfl rfl hfin
        replace h := e26
        by_cases b28 : t1 ≤ 0
        · rw [if_pos b28] at h
          refine ev_if_le_t (t := 123) (pc := 116) dX7_readyPlain_116 (by decide) b28 ?_
          refine ev_iconst (v := 0) (pc := 123) dX7_readyPlain_123 ki_0 ?_
          obtain rfl := Option.some.inj h
          exact ev_fg (L := [none, none, some (.inl t1)]) (And.intro rfl True.intro) (hj27)
        · rw [if_neg b28] at h
          refine ev_if_le_f (t := 123) (pc := 116) dX7_readyPlain_116 (by decide) b28 ?_
          refine ev_iconst (v := 1) (pc := 119) dX7_readyPlain_119 ki_1 ?_
          refine ev_goto (t := 124) (pc := 120) dX7_readyPlain_120 (by decide) ?_
          obtain rfl := Option.some.inj h
          exact ev_fg (L := [none, none, some (.inl t1)]) (And.intro rfl True.intro) (hj27)
      · rw [if_neg b24] at h
        by_cases b30 : t3 = 3
        · rw [if_pos b30] at h
          refine ev_tsIn (t := 138) (off := 126) (pc := 12) dX7_readyPlain_12 (by rw [b30]; decide) (by rw [b30]; decide) (by rw [b30]; decide) (by decide) ?_
          refine ev_iload_n (v := t1) (pc := 138) dX7_readyPlain_138 rfl ?_
          by_cases b31 : t1 ≤ 0
          · rw [if_pos b31] at h
            refine ev_if_le_t (t := 146) (pc := 139) dX7_readyPlain_139 (by decide) b31 ?_
            refine ev_iconst (v := 0) (pc := 146) dX7_readyPlain_146 ki_0 ?_
            obtain rfl := Option.some.inj h
            exact ev_iret (pc := 147) dX7_readyPlain_147 rfl rfl rfl hfin
          · rw [if_neg b31] at h
            refine ev_if_le_f (t := 146) (pc := 139) dX7_readyPlain_139 (by decide) b31 ?_
            refine ev_iconst (v := 1) (pc := 142) dX7_readyPlain_142 ki_1 ?_
            refine ev_goto (t := 147) (pc := 143) dX7_readyPlain_143 (by decide) ?_
            obtain rfl := Option.some.inj h
            exact ev_iret (pc := 147) dX7_readyPlain_147 rfl rfl rfl hfin
        · rw [if_neg b30] at h
          by_cases b32 : t3 = 5
          · rw [if_pos b32] at h
            refine ev_tsIn (t := 148) (off := 136) (pc := 12) dX7_readyPlain_12 (by rw [b32]; decide) (by rw [b32]; decide) (by rw [b32]; decide) (by decide) ?_
            obtain ⟨t33, e34, h⟩ := rb_bd h
            refine ev_aload_n (v := 19) (pc := 148) dX7_readyPlain_148 rfl ?_
            refine ev_iload_n (v := x0) (pc := 149) dX7_readyPlain_149 rfl ?_
            refine ev_cVi1 (pc := 150) dX7_readyPlain_150 mv_X7_waitingAt lk_RX7_114 rp_19 (ct_X7_waitingAt _ _ _ _ rfl e34) (Nat.le_of_ble_eq_true rfl) (Nat.le_of_ble_eq_true rfl) ?_
            by_cases b35 : t33 ≤ 0
            · rw [if_pos b35] at h
              refine ev_if_le_t (t := 160) (pc := 153) dX7_readyPlain_153 (by decide) b35 ?_
              refine ev_iconst (v := 0) (pc := 160) dX7_readyPlain_160 ki_0 ?_
              obtain rfl := Option.some.inj h
              exact ev_iret (pc := 161) dX7_readyPlain_161 rfl rfl rfl hfin
            · rw [if_neg b35] at h
              refine ev_if_le_f (t := 160) (pc := 153) dX7_readyPlain_153 (by decide) b35 ?_
              refine ev_iconst (v := 1) (pc := 156) dX7_readyPlain_156 ki_1 ?_
              refine ev_goto (t := 161) (pc := 157) dX7_readyPlain_157 (by decide) ?_
              obtain rfl := Option.some.inj h
              exact ev_iret (pc := 161) dX7_readyPlain_161 rfl rfl rfl hfin
          · rw [if_neg b32] at h
            have hd37 : rb_Ev RX7 cX7_readyPlain 3 (some .int) none 4 (some o) μ 162 [some (.inr 19), some (.inl x0), some (.inl t1)] [] (rb_ov μ [(20, a)]) := by
              refine ev_iconst (v := 0) (pc := 162) dX7_readyPlain_162 ki_0 ?_
              obtain rfl := Option.some.inj h
              exact ev_iret (pc := 163) dX7_readyPlain_163 rfl rfl rfl hfin
            by_cases b36 : t3 = 4
            · exact ev_tsIn (t := 162) (off := 150) (pc := 12) dX7_readyPlain_12 (by rw [b36]; decide) (by rw [b36]; decide) (by rw [b36]; decide) (by decide) hd37
            exact ev_tsOut (t := 162) (pc := 12) dX7_readyPlain_12 (rb_tsS (k := 5) (by decide) b32 (rb_tsS (k := 4) (by decide) b36 (rb_tsS (k := 3) (by decide) b30 (rb_tsS (k := 2) (by decide) b24 (rb_tsS (k := 1) (by decide) b15 (rb_tsS (k := 0) (by decide) b5 (rb_ts0 _))))))) (by decide) hd37
def XX7_isTrue (a : rb_Row) (rd : rb_Row) (x0 : Int32) : Option (Int32) := (XX7_ofInterest a x0 5).bind fun t1 => if t1 = 1 then (XX7_ofInterest a x0 1).bind fun t4 => (rb_rd rd 28 t4).bind fun v6 => (XX7_bitsOf a x0).bind fun t8 => if (v6 &&& t8) = 0 then some (rb_nz 0) else some (rb_nz 1) else some (rb_nz 0)
set_option maxHeartbeats 4000000 in
set_option maxRecDepth 20000 in
theorem ct_X7_isTrue (μ : rb_Mem) (a : rb_Row) (rd : rb_Row) (x0 : Int32) (o : Int32) (ha : μ 20 = a) (hrd : μ 21 = rd) (h : XX7_isTrue a rd x0 = some o) : rb_Ct yX7_isTrue cX7_isTrue 2 (some .boolean) 3 [.inr 19, .inl x0] μ (some o) μ := by
  unfold XX7_isTrue at h
  have hini : rb_ov μ [(20, a), (21, rd)] = μ := rb_ov_sf _ _ (And.intro ha (And.intro hrd True.intro))
  have hfin := hini
  refine rb_ctz (w := [(20, a), (21, rd)]) rfl pn_7 (Nat.le_of_ble_eq_true rfl) rfl hini ?_
  obtain ⟨t1, e2, h⟩ := rb_bd h
  refine ev_aload_n (v := 19) (pc := 0) dX7_isTrue_0 rfl ?_
  refine ev_iload_n (v := x0) (pc := 1) dX7_isTrue_1 rfl ?_
  refine ev_iconst (v := 5) (pc := 2) dX7_isTrue_2 ki_5 ?_
  refine ev_cVi2 (pc := 3) dX7_isTrue_3 mv_X7_ofInterest lk_RX7_81 rp_19 (ct_X7_ofInterest _ _ _ _ _ rfl e2) (Nat.le_of_ble_eq_true rfl) (Nat.le_of_ble_eq_true rfl) ?_
  refine ev_iconst (v := 1) (pc := 6) dX7_isTrue_6 ki_1 ?_
  by_cases b3 : t1 = 1
  · rw [if_pos b3] at h
    refine ev_icmp_ne_f (t := 34) (pc := 7) dX7_isTrue_7 (by decide) b3 ?_
    obtain ⟨t4, e5, h⟩ := rb_bd h
    obtain ⟨v6, e7, h⟩ := rb_bd h
    obtain ⟨t8, e9, h⟩ := rb_bd h
    refine ev_aload_n (v := 19) (pc := 10) dX7_isTrue_10 rfl ?_
    refine ev_getr (q := 21) (pc := 11) dX7_isTrue_11 fl_RX7_13 rfl rfl ?_
    refine ev_aload_n (v := 19) (pc := 14) dX7_isTrue_14 rfl ?_
    refine ev_iload_n (v := x0) (pc := 15) dX7_isTrue_15 rfl ?_
    refine ev_iconst (v := 1) (pc := 16) dX7_isTrue_16 ki_1 ?_
    refine ev_cVi2 (pc := 17) dX7_isTrue_17 mv_X7_ofInterest lk_RX7_81 rp_19 (ct_X7_ofInterest _ _ _ _ _ rfl e5) (Nat.le_of_ble_eq_true rfl) (Nat.le_of_ble_eq_true rfl) ?_
    refine ev_iald (pc := 20) dX7_isTrue_20 rfl e7 ?_
    refine ev_aload_n (v := 19) (pc := 21) dX7_isTrue_21 rfl ?_
    refine ev_iload_n (v := x0) (pc := 22) dX7_isTrue_22 rfl ?_
    refine ev_cVi1 (pc := 23) dX7_isTrue_23 mv_X7_bitsOf lk_RX7_137 rp_19 (ct_X7_bitsOf _ _ _ _ rfl e9) (Nat.le_of_ble_eq_true rfl) (Nat.le_of_ble_eq_true rfl) ?_
    refine ev_iand (pc := 26) dX7_isTrue_26 ?_
    by_cases b10 : (v6 &&& t8) = 0
    · rw [if_pos b10] at h
      refine ev_if_eq_t (t := 34) (pc := 27) dX7_isTrue_27 (by decide) b10 ?_
      refine ev_iconst (v := 0) (pc := 34) dX7_isTrue_34 ki_0 ?_
      obtain rfl := Option.some.inj h
      exact ev_iret (pc := 35) dX7_isTrue_35 rfl rfl rfl hfin
    · rw [if_neg b10] at h
      refine ev_if_eq_f (t := 34) (pc := 27) dX7_isTrue_27 (by decide) b10 ?_
      refine ev_iconst (v := 1) (pc := 30) dX7_isTrue_30 ki_1 ?_
      refine ev_goto (t := 35) (pc := 31) dX7_isTrue_31 (by decide) ?_
      obtain rfl := Option.some.inj h
      exact ev_iret (pc := 35) dX7_isTrue_35 rfl rfl rfl hfin
  · rw [if_neg b3] at h
    refine ev_icmp_ne_t (t := 34) (pc := 7) dX7_isTrue_7 (by decide) b3 ?_
    refine ev_iconst (v := 0) (pc := 34) dX7_isTrue_34 ki_0 ?_
    obtain rfl := Option.some.inj h
    exact ev_iret (pc := 35) dX7_isTrue_35 rfl rfl rfl hfin
def XX7_showsOf (a : rb_Row) (rd : rb_Row) (x0 : Int32) : Option (Int32) := (rb_lp (ρ := Int32) (fun (s1 : Int32 × Int32) => if 24 ≤ s1.2 then some (.inr s1.1) else (XX7_ofInterest a s1.2 0).bind fun t10 => ((if t10 = x0 then (XX7_ofInterest a s1.2 7).bind fun t16 => if t16 ≤ 0 then some s1.1 else (XX7_isTrue a rd s1.2).bind fun t19 => if t19 = 0 then some s1.1 else some (s1.1 + 1) else some s1.1) : Option (Int32)).bind fun j12 => some (.inl (j12, (s1.2 + 1)))) 100000 (0, 0)).bind fun q2 => some q2
set_option maxHeartbeats 4000000 in
set_option maxRecDepth 20000 in
theorem ct_X7_showsOf (μ : rb_Mem) (a : rb_Row) (rd : rb_Row) (x0 : Int32) (o : Int32) (ha : μ 20 = a) (hrd : μ 21 = rd) (h : XX7_showsOf a rd x0 = some o) : rb_Ct yX7_showsOf cX7_showsOf 4 (some .int) 4 [.inr 19, .inl x0] μ (some o) μ := by
  unfold XX7_showsOf at h
  have hini : rb_ov μ [(20, a), (21, rd)] = μ := rb_ov_sf _ _ (And.intro ha (And.intro hrd True.intro))
  have hfin := hini
  refine rb_cti (w := [(20, a), (21, rd)]) rfl pn_7 (Nat.le_of_ble_eq_true rfl) rfl hini ?_
  refine ev_iconst (v := 0) (pc := 0) dX7_showsOf_0 ki_0 ?_
  refine ev_istore_n (L' := [some (.inr 19), some (.inl x0), some (.inl 0), none]) (pc := 1) dX7_showsOf_1 (Nat.le_of_ble_eq_true rfl) rfl ?_
  refine ev_iconst (v := 0) (pc := 2) dX7_showsOf_2 ki_0 ?_
  refine ev_istore_n (L' := [some (.inr 19), some (.inl x0), some (.inl 0), some (.inl 0)]) (pc := 3) dX7_showsOf_3 (Nat.le_of_ble_eq_true rfl) rfl ?_
  obtain ⟨q2, l3, h⟩ := rb_bd h
  have hx7 : rb_Ev RX7 cX7_showsOf 4 (some .int) none 4 (some o) μ 47 [none, none, some (.inl q2), none] [] (rb_ov μ [(20, a), (21, rd)]) := by
    refine ev_iload_n (v := q2) (pc := 47) dX7_showsOf_47 rfl ?_
    obtain rfl := Option.some.inj h
    exact ev_iret (pc := 48) dX7_showsOf_48 rfl rfl rfl hfin
  refine rb_lp_ev (P := fun (s1 : Int32 × Int32) => rb_Ev RX7 cX7_showsOf 4 (some .int) none 4 (some o) μ 4 [some (.inr 19), some (.inl x0), some (.inl s1.1), some (.inl s1.2)] [] (rb_ov μ [(20, a), (21, rd)])) ?_ 100000 (0, 0) l3
  intro s1 y4 h ih5 hE6
  refine ev_iload_n (v := s1.2) (pc := 4) dX7_showsOf_4 rfl ?_
  refine ev_bipush (v := 24) (pc := 5) dX7_showsOf_5 kb_24 ?_
  by_cases b9 : 24 ≤ s1.2
  · rw [if_pos b9] at h
    refine ev_icmp_ge_t (t := 47) (pc := 7) dX7_showsOf_7 (by decide) b9 ?_
    obtain rfl := Option.some.inj h
    obtain rfl := hE6 _ rfl
    exact ev_fg (L := [none, none, some (.inl s1.1), none]) (And.intro rfl True.intro) (hx7)
  · rw [if_neg b9] at h
    refine ev_icmp_ge_f (t := 47) (pc := 7) dX7_showsOf_7 (by decide) b9 ?_
    obtain ⟨t10, e11, h⟩ := rb_bd h
    refine ev_aload_n (v := 19) (pc := 10) dX7_showsOf_10 rfl ?_
    refine ev_iload_n (v := s1.2) (pc := 11) dX7_showsOf_11 rfl ?_
    refine ev_iconst (v := 0) (pc := 12) dX7_showsOf_12 ki_0 ?_
    refine ev_cVi2 (pc := 13) dX7_showsOf_13 mv_X7_ofInterest lk_RX7_81 rp_19 (ct_X7_ofInterest _ _ _ _ _ rfl e11) (Nat.le_of_ble_eq_true rfl) (Nat.le_of_ble_eq_true rfl) ?_
    refine ev_iload_n (v := x0) (pc := 16) dX7_showsOf_16 rfl ?_
    obtain ⟨j12, e13, h⟩ := rb_bd h
    have hj14 : rb_Ev RX7 cX7_showsOf 4 (some .int) none 4 (some o) μ 41 [some (.inr 19), some (.inl x0), some (.inl j12), some (.inl s1.2)] [] (rb_ov μ [(20, a), (21, rd)]) := by
      refine ev_iinc (x := s1.2) (v := (s1.2 + 1)) (L' := [some (.inr 19), some (.inl x0), some (.inl j12), some (.inl (s1.2 + 1))]) (pc := 41) dX7_showsOf_41 rfl (kx_1 _) (Nat.le_of_ble_eq_true rfl) rfl ?_
      refine ev_goto (t := 4) (pc := 44) dX7_showsOf_44 (by decide) ?_
      obtain rfl := Option.some.inj h
      exact ih5 (j12, (s1.2 + 1)) rfl
    replace h := e13
    by_cases b15 : t10 = x0
    · rw [if_pos b15] at h
      refine ev_icmp_ne_f (t := 41) (pc := 17) dX7_showsOf_17 (by decide) b15 ?_
      obtain ⟨t16, e17, h⟩ := rb_bd h
      refine ev_aload_n (v := 19) (pc := 20) dX7_showsOf_20 rfl ?_
      refine ev_iload_n (v := s1.2) (pc := 21) dX7_showsOf_21 rfl ?_
      refine ev_bipush (v := 7) (pc := 22) dX7_showsOf_22 kb_7 ?_
      refine ev_cVi2 (pc := 24) dX7_showsOf_24 mv_X7_ofInterest lk_RX7_81 rp_19 (ct_X7_ofInterest _ _ _ _ _ rfl e17) (Nat.le_of_ble_eq_true rfl) (Nat.le_of_ble_eq_true rfl) ?_
      by_cases b18 : t16 ≤ 0
      · rw [if_pos b18] at h
        refine ev_if_le_t (t := 41) (pc := 27) dX7_showsOf_27 (by decide) b18 ?_
        obtain rfl := Option.some.inj h
        exact hj14
      · rw [if_neg b18] at h
        refine ev_if_le_f (t := 41) (pc := 27) dX7_showsOf_27 (by decide) b18 ?_
        obtain ⟨t19, e20, h⟩ := rb_bd h
        refine ev_aload_n (v := 19) (pc := 30) dX7_showsOf_30 rfl ?_
        refine ev_iload_n (v := s1.2) (pc := 31) dX7_showsOf_31 rfl ?_
        refine ev_cVi1 (pc := 32) dX7_showsOf_32 mv_X7_isTrue lk_RX7_140 rp_19 (ct_X7_isTrue _ _ _ _ _ rfl rfl e20) (Nat.le_of_ble_eq_true rfl) (Nat.le_of_ble_eq_true rfl) ?_
        by_cases b21 : t19 = 0
        · rw [if_pos b21] at h
          refine ev_if_eq_t (t := 41) (pc := 35) dX7_showsOf_35 (by decide) b21 ?_
          obtain rfl := Option.some.inj h
          exact hj14
        · rw [if_neg b21] at h
          refine ev_if_eq_f (t := 41) (pc := 35) dX7_showsOf_35 (by decide) b21 ?_
          refine ev_iinc (x := s1.1) (v := (s1.1 + 1)) (L' := [some (.inr 19), some (.inl x0), some (.inl (s1.1 + 1)), some (.inl s1.2)]) (pc := 38) dX7_showsOf_38 rfl (kx_1 _) (Nat.le_of_ble_eq_true rfl) rfl ?_
          obtain rfl := Option.some.inj h
          exact hj14
    · rw [if_neg b15] at h
      refine ev_icmp_ne_t (t := 41) (pc := 17) dX7_showsOf_17 (by decide) b15 ?_
      obtain rfl := Option.some.inj h
      exact hj14
def XX7_layReady (rd : rb_Row) (a : rb_Row) : Option (rb_Row) := (rb_lp (ρ := rb_Row) (fun (s1 : Int32 × rb_Row) => if 28 ≤ s1.1 then some (.inr s1.2) else (XX7_kindOf a s1.1).bind fun t10 => ((if 0 ≤ t10 then (XX7_readyPlain a s1.1).bind fun t16 => some t16 else some 0) : Option (Int32)).bind fun j12 => (rb_wr s1.2 28 s1.1 j12).bind fun rd18 => some (.inl ((s1.1 + 1), rd18))) 100000 (0, rd)).bind fun q2 => (rb_lp (ρ := rb_Row) (fun (s20 : Int32 × rb_Row) => if 3 ≤ s20.1 then some (.inr s20.2) else (rb_lp (ρ := rb_Row) (fun (s29 : Int32 × rb_Row) => if 28 ≤ s29.1 then some (.inr s29.2) else (XX7_kindOf a s29.1).bind fun t38 => ((if t38 = 4 then (XX7_showsOf a s29.2 s29.1).bind fun t44 => ((if t44 ≤ 0 then some 0 else some 1) : Option (Int32)).bind fun j46 => (rb_wr s29.2 28 s29.1 j46).bind fun rd50 => some rd50 else some s29.2) : Option (rb_Row)).bind fun j40 => some (.inl ((s29.1 + 1), j40))) 100000 (0, s20.2)).bind fun q30 => some (.inl ((s20.1 + 1), q30))) 100000 (0, q2)).bind fun q21 => some q21
set_option maxHeartbeats 4000000 in
set_option maxRecDepth 20000 in
theorem ct_X7_layReady (μ : rb_Mem) (rd : rb_Row) (a : rb_Row) (o : rb_Row) (hrd : μ 21 = rd) (ha : μ 20 = a) (h : XX7_layReady rd a = some o) : rb_Ct yX7_layReady cX7_layReady 3 none 5 [.inr 19] μ none (rb_ov μ [(21, o)]) := by
  unfold XX7_layReady at h
  have hini : rb_ov μ [(21, rd), (20, a)] = μ := rb_ov_sf _ _ (And.intro hrd (And.intro ha True.intro))
  have hfin : ∀ u0 : rb_Row, rb_ov μ [(21, u0), (20, a)] = rb_ov μ [(21, u0)] := fun u0 => rb_ov_ap _ [(21, u0)] _ (And.intro ha True.intro)
  refine rb_ctv (w := [(21, rd), (20, a)]) rfl pn_7 (Nat.le_of_ble_eq_true rfl) rfl hini ?_
  refine ev_iconst (v := 0) (pc := 0) dX7_layReady_0 ki_0 ?_
  refine ev_istore_n (L' := [some (.inr 19), some (.inl 0), none]) (pc := 1) dX7_layReady_1 (Nat.le_of_ble_eq_true rfl) rfl ?_
  obtain ⟨q2, l3, h⟩ := rb_bd h
  have hx7 : rb_Ev RX7 cX7_layReady 3 none none 5 none (rb_ov μ [(21, o)]) 37 [some (.inr 19), none, none] [] (rb_ov μ [(21, q2), (20, a)]) := by
    refine ev_iconst (v := 0) (pc := 37) dX7_layReady_37 ki_0 ?_
    refine ev_istore_n (L' := [some (.inr 19), some (.inl 0), none]) (pc := 38) dX7_layReady_38 (Nat.le_of_ble_eq_true rfl) rfl ?_
    obtain ⟨q21, l22, h⟩ := rb_bd h
    have hx26 : rb_Ev RX7 cX7_layReady 3 none none 5 none (rb_ov μ [(21, o)]) 92 [none, none, none] [] (rb_ov μ [(21, q21), (20, a)]) := by
      obtain rfl := Option.some.inj h
      exact ev_ret (pc := 92) dX7_layReady_92 rfl rfl (hfin _)
    refine rb_lp_ev (P := fun (s20 : Int32 × rb_Row) => rb_Ev RX7 cX7_layReady 3 none none 5 none (rb_ov μ [(21, o)]) 39 [some (.inr 19), some (.inl s20.1), none] [] (rb_ov μ [(21, s20.2), (20, a)])) ?_ 100000 (0, q2) l22
    intro s20 y23 h ih24 hE25
    refine ev_iload_n (v := s20.1) (pc := 39) dX7_layReady_39 rfl ?_
    refine ev_iconst (v := 3) (pc := 40) dX7_layReady_40 ki_3 ?_
    by_cases b28 : 3 ≤ s20.1
    · rw [if_pos b28] at h
      refine ev_icmp_ge_t (t := 92) (pc := 41) dX7_layReady_41 (by decide) b28 ?_
      obtain rfl := Option.some.inj h
      obtain rfl := hE25 _ rfl
      exact ev_fg (L := [none, none, none]) True.intro (hx26)
    · rw [if_neg b28] at h
      refine ev_icmp_ge_f (t := 92) (pc := 41) dX7_layReady_41 (by decide) b28 ?_
      refine ev_iconst (v := 0) (pc := 44) dX7_layReady_44 ki_0 ?_
      refine ev_istore_n (L' := [some (.inr 19), some (.inl s20.1), some (.inl 0)]) (pc := 45) dX7_layReady_45 (Nat.le_of_ble_eq_true rfl) rfl ?_
      obtain ⟨q30, l31, h⟩ := rb_bd h
      have hx35 : rb_Ev RX7 cX7_layReady 3 none none 5 none (rb_ov μ [(21, o)]) 86 [some (.inr 19), some (.inl s20.1), none] [] (rb_ov μ [(21, q30), (20, a)]) := by
        refine ev_iinc (x := s20.1) (v := (s20.1 + 1)) (L' := [some (.inr 19), some (.inl (s20.1 + 1)), none]) (pc := 86) dX7_layReady_86 rfl (kx_1 _) (Nat.le_of_ble_eq_true rfl) rfl ?_
        refine ev_goto (t := 39) (pc := 89) dX7_layReady_89 (by decide) ?_
        obtain rfl := Option.some.inj h
        exact ih24 ((s20.1 + 1), q30) rfl
      refine rb_lp_ev (P := fun (s29 : Int32 × rb_Row) => rb_Ev RX7 cX7_layReady 3 none none 5 none (rb_ov μ [(21, o)]) 46 [some (.inr 19), some (.inl s20.1), some (.inl s29.1)] [] (rb_ov μ [(21, s29.2), (20, a)])) ?_ 100000 (0, s20.2) l31
      intro s29 y32 h ih33 hE34
      refine ev_iload_n (v := s29.1) (pc := 46) dX7_layReady_46 rfl ?_
      refine ev_bipush (v := 28) (pc := 47) dX7_layReady_47 kb_28 ?_
      by_cases b37 : 28 ≤ s29.1
      · rw [if_pos b37] at h
        refine ev_icmp_ge_t (t := 86) (pc := 49) dX7_layReady_49 (by decide) b37 ?_
        obtain rfl := Option.some.inj h
        obtain rfl := hE34 _ rfl
        exact ev_fg (L := [some (.inr 19), some (.inl s20.1), none]) (And.intro rfl (And.intro rfl True.intro)) (hx35)
      · rw [if_neg b37] at h
        refine ev_icmp_ge_f (t := 86) (pc := 49) dX7_layReady_49 (by decide) b37 ?_
        obtain ⟨t38, e39, h⟩ := rb_bd h
        refine ev_aload_n (v := 19) (pc := 52) dX7_layReady_52 rfl ?_
        refine ev_iload_n (v := s29.1) (pc := 53) dX7_layReady_53 rfl ?_
        refine ev_cVi1 (pc := 54) dX7_layReady_54 mv_X7_kindOf lk_RX7_77 rp_19 (ct_X7_kindOf _ _ _ _ rfl e39) (Nat.le_of_ble_eq_true rfl) (Nat.le_of_ble_eq_true rfl) ?_
        refine ev_iconst (v := 4) (pc := 57) dX7_layReady_57 ki_4 ?_
        obtain ⟨j40, e41, h⟩ := rb_bd h
        have hj42 : rb_Ev RX7 cX7_layReady 3 none none 5 none (rb_ov μ [(21, o)]) 80 [some (.inr 19), some (.inl s20.1), some (.inl s29.1)] [] (rb_ov μ [(21, j40), (20, a)]) := by
          refine ev_iinc (x := s29.1) (v := (s29.1 + 1)) (L' := [some (.inr 19), some (.inl s20.1), some (.inl (s29.1 + 1))]) (pc := 80) dX7_layReady_80 rfl (kx_1 _) (Nat.le_of_ble_eq_true rfl) rfl ?_
          refine ev_goto (t := 46) (pc := 83) dX7_layReady_83 (by decide) ?_
          obtain rfl := Option.some.inj h
          exact ih33 ((s29.1 + 1), j40) rfl
        replace h := e41
        by_cases b43 : t38 = 4
        · rw [if_pos b43] at h
          refine ev_icmp_ne_f (t := 80) (pc := 58) dX7_layReady_58 (by decide) b43 ?_
          obtain ⟨t44, e45, h⟩ := rb_bd h
          refine ev_aload_n (v := 19) (pc := 61) dX7_layReady_61 rfl ?_
          refine ev_getr (q := 21) (pc := 62) dX7_layReady_62 fl_RX7_13 rfl rfl ?_
          refine ev_iload_n (v := s29.1) (pc := 65) dX7_layReady_65 rfl ?_
          refine ev_aload_n (v := 19) (pc := 66) dX7_layReady_66 rfl ?_
          refine ev_iload_n (v := s29.1) (pc := 67) dX7_layReady_67 rfl ?_
          refine ev_cVi1 (pc := 68) dX7_layReady_68 mv_X7_showsOf lk_RX7_146 rp_19 (ct_X7_showsOf _ _ _ _ _ rfl rfl e45) (Nat.le_of_ble_eq_true rfl) (Nat.le_of_ble_eq_true rfl) ?_
          obtain ⟨j46, e47, h⟩ := rb_bd h
          have hj48 : rb_Ev RX7 cX7_layReady 3 none none 5 none (rb_ov μ [(21, o)]) 79 [some (.inr 19), some (.inl s20.1), some (.inl s29.1)] [.inl j46, .inl s29.1, .inr 21] (rb_ov μ [(21, s29.2), (20, a)]) := by
            obtain ⟨rd50, e51, h⟩ := rb_bd h
            refine ev_iast (w' := [(21, rd50), (20, a)]) (pc := 79) dX7_layReady_79 rfl e51 rfl ?_
            obtain rfl := Option.some.inj h
            exact hj42
          replace h := e47
          by_cases b49 : t44 ≤ 0
          · rw [if_pos b49] at h
            refine ev_if_le_t (t := 78) (pc := 71) dX7_layReady_71 (by decide) b49 ?_
            refine ev_iconst (v := 0) (pc := 78) dX7_layReady_78 ki_0 ?_
            obtain rfl := Option.some.inj h
            exact hj48
          · rw [if_neg b49] at h
            refine ev_if_le_f (t := 78) (pc := 71) dX7_layReady_71 (by decide) b49 ?_
            refine ev_iconst (v := 1) (pc := 74) dX7_layReady_74 ki_1 ?_
            refine ev_goto (t := 79) (pc := 75) dX7_layReady_75 (by decide) ?_
            obtain rfl := Option.some.inj h
            exact hj48
        · rw [if_neg b43] at h
          refine ev_icmp_ne_t (t := 80) (pc := 58) dX7_layReady_58 (by decide) b43 ?_
          obtain rfl := Option.some.inj h
          exact hj42
  refine rb_lp_ev (P := fun (s1 : Int32 × rb_Row) => rb_Ev RX7 cX7_layReady 3 none none 5 none (rb_ov μ [(21, o)]) 2 [some (.inr 19), some (.inl s1.1), none] [] (rb_ov μ [(21, s1.2), (20, a)])) ?_ 100000 (0, rd) l3
  intro s1 y4 h ih5 hE6
  refine ev_iload_n (v := s1.1) (pc := 2) dX7_layReady_2 rfl ?_
  refine ev_bipush (v := 28) (pc := 3) dX7_layReady_3 kb_28 ?_
  by_cases b9 : 28 ≤ s1.1
  · rw [if_pos b9] at h
    refine ev_icmp_ge_t (t := 37) (pc := 5) dX7_layReady_5 (by decide) b9 ?_
    obtain rfl := Option.some.inj h
    obtain rfl := hE6 _ rfl
    exact ev_fg (L := [some (.inr 19), none, none]) (And.intro rfl True.intro) (hx7)
  · rw [if_neg b9] at h
    refine ev_icmp_ge_f (t := 37) (pc := 5) dX7_layReady_5 (by decide) b9 ?_
    obtain ⟨t10, e11, h⟩ := rb_bd h
    refine ev_aload_n (v := 19) (pc := 8) dX7_layReady_8 rfl ?_
    refine ev_getr (q := 21) (pc := 9) dX7_layReady_9 fl_RX7_13 rfl rfl ?_
    refine ev_iload_n (v := s1.1) (pc := 12) dX7_layReady_12 rfl ?_
    refine ev_aload_n (v := 19) (pc := 13) dX7_layReady_13 rfl ?_
    refine ev_iload_n (v := s1.1) (pc := 14) dX7_layReady_14 rfl ?_
    refine ev_cVi1 (pc := 15) dX7_layReady_15 mv_X7_kindOf lk_RX7_77 rp_19 (ct_X7_kindOf _ _ _ _ rfl e11) (Nat.le_of_ble_eq_true rfl) (Nat.le_of_ble_eq_true rfl) ?_
    obtain ⟨j12, e13, h⟩ := rb_bd h
    have hj14 : rb_Ev RX7 cX7_layReady 3 none none 5 none (rb_ov μ [(21, o)]) 30 [some (.inr 19), some (.inl s1.1), none] [.inl j12, .inl s1.1, .inr 21] (rb_ov μ [(21, s1.2), (20, a)]) := by
      obtain ⟨rd18, e19, h⟩ := rb_bd h
      refine ev_iast (w' := [(21, rd18), (20, a)]) (pc := 30) dX7_layReady_30 rfl e19 rfl ?_
      refine ev_iinc (x := s1.1) (v := (s1.1 + 1)) (L' := [some (.inr 19), some (.inl (s1.1 + 1)), none]) (pc := 31) dX7_layReady_31 rfl (kx_1 _) (Nat.le_of_ble_eq_true rfl) rfl ?_
      refine ev_goto (t := 2) (pc := 34) dX7_layReady_34 (by decide) ?_
      obtain rfl := Option.some.inj h
      exact ih5 ((s1.1 + 1), rd18) rfl
    replace h := e13
    by_cases b15 : 0 ≤ t10
    · rw [if_pos b15] at h
      refine ev_if_ge_t (t := 25) (pc := 18) dX7_layReady_18 (by decide) b15 ?_
      obtain ⟨t16, e17, h⟩ := rb_bd h
      refine ev_aload_n (v := 19) (pc := 25) dX7_layReady_25 rfl ?_
      refine ev_iload_n (v := s1.1) (pc := 26) dX7_layReady_26 rfl ?_
      refine ev_cVi1 (pc := 27) dX7_layReady_27 mv_X7_readyPlain lk_RX7_143 rp_19 (ct_X7_readyPlain _ _ _ _ rfl e17) (Nat.le_of_ble_eq_true rfl) (Nat.le_of_ble_eq_true rfl) ?_
      obtain rfl := Option.some.inj h
      exact hj14
    · rw [if_neg b15] at h
      refine ev_if_ge_f (t := 25) (pc := 18) dX7_layReady_18 (by decide) b15 ?_
      refine ev_iconst (v := 0) (pc := 21) dX7_layReady_21 ki_0 ?_
      refine ev_goto (t := 30) (pc := 22) dX7_layReady_22 (by decide) ?_
      obtain rfl := Option.some.inj h
      exact hj14
def XX7_listedBehind (a : rb_Row) (x0 : Int32) (x1 : Int32) : Option (Int32) := (rb_lp (ρ := Int32) (fun (s1 : Int32 × Int32) => if 24 ≤ s1.2 then some (.inr s1.1) else (XX7_ofInterest a s1.2 0).bind fun t10 => ((if t10 = x0 then (XX7_ofInterest a s1.2 7).bind fun t16 => if x1 < t16 then if s1.1 < 0 then some s1.2 else (XX7_ofInterest a s1.2 7).bind fun t20 => (XX7_ofInterest a s1.1 7).bind fun t22 => if t22 ≤ t20 then some s1.1 else some s1.2 else some s1.1 else some s1.1) : Option (Int32)).bind fun j12 => some (.inl (j12, (s1.2 + 1)))) 100000 ((-1), 0)).bind fun q2 => some q2
set_option maxHeartbeats 4000000 in
set_option maxRecDepth 20000 in
theorem ct_X7_listedBehind (μ : rb_Mem) (a : rb_Row) (x0 : Int32) (x1 : Int32) (o : Int32) (ha : μ 20 = a) (h : XX7_listedBehind a x0 x1 = some o) : rb_Ct yX7_listedBehind cX7_listedBehind 5 (some .int) 2 [.inr 19, .inl x0, .inl x1] μ (some o) μ := by
  unfold XX7_listedBehind at h
  have hini : rb_ov μ [(20, a)] = μ := rb_ov_sf _ _ (And.intro ha True.intro)
  have hfin := hini
  refine rb_cti (w := [(20, a)]) rfl pn_7 (Nat.le_of_ble_eq_true rfl) rfl hini ?_
  refine ev_iconst (v := (-1)) (pc := 0) dX7_listedBehind_0 ki_m1 ?_
  refine ev_istore_n (L' := [some (.inr 19), some (.inl x0), some (.inl x1), some (.inl (-1)), none]) (pc := 1) dX7_listedBehind_1 (Nat.le_of_ble_eq_true rfl) rfl ?_
  refine ev_iconst (v := 0) (pc := 2) dX7_listedBehind_2 ki_0 ?_
  refine ev_istore (L' := [some (.inr 19), some (.inl x0), some (.inl x1), some (.inl (-1)), some (.inl 0)]) (pc := 3) dX7_listedBehind_3 (Nat.le_of_ble_eq_true rfl) rfl ?_
  obtain ⟨q2, l3, h⟩ := rb_bd h
  have hx7 : rb_Ev RX7 cX7_listedBehind 5 (some .int) none 2 (some o) μ 69 [none, none, none, some (.inl q2), none] [] (rb_ov μ [(20, a)]) := by
    refine ev_iload_n (v := q2) (pc := 69) dX7_listedBehind_69 rfl ?_
    obtain rfl := Option.some.inj h
    exact ev_iret (pc := 70) dX7_listedBehind_70 rfl rfl rfl hfin
  refine rb_lp_ev (P := fun (s1 : Int32 × Int32) => rb_Ev RX7 cX7_listedBehind 5 (some .int) none 2 (some o) μ 5 [some (.inr 19), some (.inl x0), some (.inl x1), some (.inl s1.1), some (.inl s1.2)] [] (rb_ov μ [(20, a)])) ?_ 100000 ((-1), 0) l3
  intro s1 y4 h ih5 hE6
  refine ev_iload (v := s1.2) (pc := 5) dX7_listedBehind_5 rfl ?_
  refine ev_bipush (v := 24) (pc := 7) dX7_listedBehind_7 kb_24 ?_
  by_cases b9 : 24 ≤ s1.2
  · rw [if_pos b9] at h
    refine ev_icmp_ge_t (t := 69) (pc := 9) dX7_listedBehind_9 (by decide) b9 ?_
    obtain rfl := Option.some.inj h
    obtain rfl := hE6 _ rfl
    exact ev_fg (L := [none, none, none, some (.inl s1.1), none]) (And.intro rfl True.intro) (hx7)
  · rw [if_neg b9] at h
    refine ev_icmp_ge_f (t := 69) (pc := 9) dX7_listedBehind_9 (by decide) b9 ?_
    obtain ⟨t10, e11, h⟩ := rb_bd h
    refine ev_aload_n (v := 19) (pc := 12) dX7_listedBehind_12 rfl ?_
    refine ev_iload (v := s1.2) (pc := 13) dX7_listedBehind_13 rfl ?_
    refine ev_iconst (v := 0) (pc := 15) dX7_listedBehind_15 ki_0 ?_
    refine ev_cVi2 (pc := 16) dX7_listedBehind_16 mv_X7_ofInterest lk_RX7_81 rp_19 (ct_X7_ofInterest _ _ _ _ _ rfl e11) (Nat.le_of_ble_eq_true rfl) (Nat.le_of_ble_eq_true rfl) ?_
    refine ev_iload_n (v := x0) (pc := 19) dX7_listedBehind_19 rfl ?_
    obtain ⟨j12, e13, h⟩ := rb_bd h
    have hj14 : rb_Ev RX7 cX7_listedBehind 5 (some .int) none 2 (some o) μ 63 [some (.inr 19), some (.inl x0), some (.inl x1), some (.inl j12), some (.inl s1.2)] [] (rb_ov μ [(20, a)]) := by
      refine ev_iinc (x := s1.2) (v := (s1.2 + 1)) (L' := [some (.inr 19), some (.inl x0), some (.inl x1), some (.inl j12), some (.inl (s1.2 + 1))]) (pc := 63) dX7_listedBehind_63 rfl (kx_1 _) (Nat.le_of_ble_eq_true rfl) rfl ?_
      refine ev_goto (t := 5) (pc := 66) dX7_listedBehind_66 (by decide) ?_
      obtain rfl := Option.some.inj h
      exact ih5 (j12, (s1.2 + 1)) rfl
    replace h := e13
    by_cases b15 : t10 = x0
    · rw [if_pos b15] at h
      refine ev_icmp_ne_f (t := 63) (pc := 20) dX7_listedBehind_20 (by decide) b15 ?_
      obtain ⟨t16, e17, h⟩ := rb_bd h
      refine ev_aload_n (v := 19) (pc := 23) dX7_listedBehind_23 rfl ?_
      refine ev_iload (v := s1.2) (pc := 24) dX7_listedBehind_24 rfl ?_
      refine ev_bipush (v := 7) (pc := 26) dX7_listedBehind_26 kb_7 ?_
      refine ev_cVi2 (pc := 28) dX7_listedBehind_28 mv_X7_ofInterest lk_RX7_81 rp_19 (ct_X7_ofInterest _ _ _ _ _ rfl e17) (Nat.le_of_ble_eq_true rfl) (Nat.le_of_ble_eq_true rfl) ?_
      refine ev_iload_n (v := x1) (pc := 31) dX7_listedBehind_31 rfl ?_
      by_cases b18 : x1 < t16
      · rw [if_pos b18] at h
        refine ev_icmp_gt_t (t := 38) (pc := 32) dX7_listedBehind_32 (by decide) b18 ?_
        refine ev_iload_n (v := s1.1) (pc := 38) dX7_listedBehind_38 rfl ?_
        by_cases b19 : s1.1 < 0
        · rw [if_pos b19] at h
          refine ev_if_lt_t (t := 60) (pc := 39) dX7_listedBehind_39 (by decide) b19 ?_
          refine ev_iload (v := s1.2) (pc := 60) dX7_listedBehind_60 rfl ?_
          refine ev_istore_n (L' := [some (.inr 19), some (.inl x0), some (.inl x1), some (.inl s1.2), some (.inl s1.2)]) (pc := 62) dX7_listedBehind_62 (Nat.le_of_ble_eq_true rfl) rfl ?_
          obtain rfl := Option.some.inj h
          exact hj14
        · rw [if_neg b19] at h
          refine ev_if_lt_f (t := 60) (pc := 39) dX7_listedBehind_39 (by decide) b19 ?_
          obtain ⟨t20, e21, h⟩ := rb_bd h
          obtain ⟨t22, e23, h⟩ := rb_bd h
          refine ev_aload_n (v := 19) (pc := 42) dX7_listedBehind_42 rfl ?_
          refine ev_iload (v := s1.2) (pc := 43) dX7_listedBehind_43 rfl ?_
          refine ev_bipush (v := 7) (pc := 45) dX7_listedBehind_45 kb_7 ?_
          refine ev_cVi2 (pc := 47) dX7_listedBehind_47 mv_X7_ofInterest lk_RX7_81 rp_19 (ct_X7_ofInterest _ _ _ _ _ rfl e21) (Nat.le_of_ble_eq_true rfl) (Nat.le_of_ble_eq_true rfl) ?_
          refine ev_aload_n (v := 19) (pc := 50) dX7_listedBehind_50 rfl ?_
          refine ev_iload_n (v := s1.1) (pc := 51) dX7_listedBehind_51 rfl ?_
          refine ev_bipush (v := 7) (pc := 52) dX7_listedBehind_52 kb_7 ?_
          refine ev_cVi2 (pc := 54) dX7_listedBehind_54 mv_X7_ofInterest lk_RX7_81 rp_19 (ct_X7_ofInterest _ _ _ _ _ rfl e23) (Nat.le_of_ble_eq_true rfl) (Nat.le_of_ble_eq_true rfl) ?_
          by_cases b24 : t22 ≤ t20
          · rw [if_pos b24] at h
            refine ev_icmp_ge_t (t := 63) (pc := 57) dX7_listedBehind_57 (by decide) b24 ?_
            obtain rfl := Option.some.inj h
            exact hj14
          · rw [if_neg b24] at h
            refine ev_icmp_ge_f (t := 63) (pc := 57) dX7_listedBehind_57 (by decide) b24 ?_
            refine ev_iload (v := s1.2) (pc := 60) dX7_listedBehind_60 rfl ?_
            refine ev_istore_n (L' := [some (.inr 19), some (.inl x0), some (.inl x1), some (.inl s1.2), some (.inl s1.2)]) (pc := 62) dX7_listedBehind_62 (Nat.le_of_ble_eq_true rfl) rfl ?_
            obtain rfl := Option.some.inj h
            exact hj14
      · rw [if_neg b18] at h
        refine ev_icmp_gt_f (t := 38) (pc := 32) dX7_listedBehind_32 (by decide) b18 ?_
        refine ev_goto (t := 63) (pc := 35) dX7_listedBehind_35 (by decide) ?_
        obtain rfl := Option.some.inj h
        exact hj14
    · rw [if_neg b15] at h
      refine ev_icmp_ne_t (t := 63) (pc := 20) dX7_listedBehind_20 (by decide) b15 ?_
      obtain rfl := Option.some.inj h
      exact hj14
def XX7_take (a : rb_Row) (ag : rb_Row) (mf : rb_Row) (rd : rb_Row) (x0 : Int32) (x1 : Int32) (x2 : Int32) : Option (rb_Row × rb_Row × rb_Row) := (XX7_taskAt x0 (22 + (2 * x2))).bind fun t1 => (XX7_ofInterest a x1 2).bind fun t3 => (rb_wr a 796 t1 t3).bind fun a5 => (XX7_taskAt x0 ((22 + (2 * x2)) + 1)).bind fun t7 => (XX7_ofInterest a5 x1 1).bind fun t9 => (rb_rd rd 28 t9).bind fun v11 => (XX7_bitsOf a5 x1).bind fun t13 => (rb_wr a5 796 t7 (v11 &&& t13)).bind fun a15 => (XX7_interestAt x1 9).bind fun t17 => (rb_rd a15 796 t17).bind fun v19 => (rb_wr a15 796 t17 (v19 + 1)).bind fun a21 => (XX7_ofInterest a21 x1 4).bind fun t23 => ((if (t23 &&& 2) = 0 then some a21 else (XX7_interestAt x1 5).bind fun t29 => (rb_wr a21 796 t29 0).bind fun a31 => some a31) : Option (rb_Row)).bind fun j25 => (XX7_ofInterest j25 x1 4).bind fun t33 => if (t33 &&& 3) = 0 then (rb_wr ag 8 (mf 3) x1).bind fun ag36 => (rb_pf mf 3 ((mf 3) + 1)).bind fun mf38 => some (j25, ag36, mf38) else some (j25, ag, mf)
set_option maxHeartbeats 4000000 in
set_option maxRecDepth 20000 in
theorem ct_X7_take (μ : rb_Mem) (a : rb_Row) (ag : rb_Row) (mf : rb_Row) (rd : rb_Row) (x0 : Int32) (x1 : Int32) (x2 : Int32) (o : rb_Row × rb_Row × rb_Row) (ha : μ 20 = a) (hag : μ 22 = ag) (hmf : μ 19 = mf) (hrd : μ 21 = rd) (h : XX7_take a ag mf rd x0 x1 x2 = some o) : rb_Ct yX7_take cX7_take 4 none 3 [.inr 19, .inl x0, .inl x1, .inl x2] μ none (rb_ov μ [(20, o.1), (22, o.2.1), (19, o.2.2)]) := by
  unfold XX7_take at h
  have hini : rb_ov μ [(20, a), (22, ag), (19, mf), (21, rd)] = μ := rb_ov_sf _ _ (And.intro ha (And.intro hag (And.intro hmf (And.intro hrd True.intro))))
  have hfin : ∀ u0 u1 u2 : rb_Row, rb_ov μ [(20, u0), (22, u1), (19, u2), (21, rd)] = rb_ov μ [(20, u0), (22, u1), (19, u2)] := fun u0 u1 u2 => rb_ov_ap _ [(20, u0), (22, u1), (19, u2)] _ (And.intro hrd True.intro)
  refine rb_ctv (w := [(20, a), (22, ag), (19, mf), (21, rd)]) rfl pn_7 (Nat.le_of_ble_eq_true rfl) rfl hini ?_
  obtain ⟨t1, e2, h⟩ := rb_bd h
  obtain ⟨t3, e4, h⟩ := rb_bd h
  obtain ⟨a5, e6, h⟩ := rb_bd h
  obtain ⟨t7, e8, h⟩ := rb_bd h
  obtain ⟨t9, e10, h⟩ := rb_bd h
  obtain ⟨v11, e12, h⟩ := rb_bd h
  obtain ⟨t13, e14, h⟩ := rb_bd h
  obtain ⟨a15, e16, h⟩ := rb_bd h
  obtain ⟨t17, e18, h⟩ := rb_bd h
  obtain ⟨v19, e20, h⟩ := rb_bd h
  obtain ⟨a21, e22, h⟩ := rb_bd h
  obtain ⟨t23, e24, h⟩ := rb_bd h
  refine ev_aload_n (v := 19) (pc := 0) dX7_take_0 rfl ?_
  refine ev_getr (q := 20) (pc := 1) dX7_take_1 fl_RX7_7 rfl rfl ?_
  refine ev_iload_n (v := x0) (pc := 4) dX7_take_4 rfl ?_
  refine ev_bipush (v := 22) (pc := 5) dX7_take_5 kb_22 ?_
  refine ev_iconst (v := 2) (pc := 7) dX7_take_7 ki_2 ?_
  refine ev_iload_n (v := x2) (pc := 8) dX7_take_8 rfl ?_
  refine ev_imul (pc := 9) dX7_take_9 ?_
  refine ev_iadd (pc := 10) dX7_take_10 ?_
  refine ev_cSi2 (pc := 11) dX7_take_11 ms_X7_taskAt lk_RX7_63 (ct_X7_taskAt _ _ _ _ e2) (Nat.le_of_ble_eq_true rfl) (Nat.le_of_ble_eq_true rfl) ?_
  refine ev_aload_n (v := 19) (pc := 14) dX7_take_14 rfl ?_
  refine ev_iload_n (v := x1) (pc := 15) dX7_take_15 rfl ?_
  refine ev_iconst (v := 2) (pc := 16) dX7_take_16 ki_2 ?_
  refine ev_cVi2 (pc := 17) dX7_take_17 mv_X7_ofInterest lk_RX7_81 rp_19 (ct_X7_ofInterest _ _ _ _ _ rfl e4) (Nat.le_of_ble_eq_true rfl) (Nat.le_of_ble_eq_true rfl) ?_
  refine ev_iast (w' := [(20, a5), (22, ag), (19, mf), (21, rd)]) (pc := 20) dX7_take_20 rfl e6 rfl ?_
  refine ev_aload_n (v := 19) (pc := 21) dX7_take_21 rfl ?_
  refine ev_getr (q := 20) (pc := 22) dX7_take_22 fl_RX7_7 rfl rfl ?_
  refine ev_iload_n (v := x0) (pc := 25) dX7_take_25 rfl ?_
  refine ev_bipush (v := 22) (pc := 26) dX7_take_26 kb_22 ?_
  refine ev_iconst (v := 2) (pc := 28) dX7_take_28 ki_2 ?_
  refine ev_iload_n (v := x2) (pc := 29) dX7_take_29 rfl ?_
  refine ev_imul (pc := 30) dX7_take_30 ?_
  refine ev_iadd (pc := 31) dX7_take_31 ?_
  refine ev_iconst (v := 1) (pc := 32) dX7_take_32 ki_1 ?_
  refine ev_iadd (pc := 33) dX7_take_33 ?_
  refine ev_cSi2 (pc := 34) dX7_take_34 ms_X7_taskAt lk_RX7_63 (ct_X7_taskAt _ _ _ _ e8) (Nat.le_of_ble_eq_true rfl) (Nat.le_of_ble_eq_true rfl) ?_
  refine ev_aload_n (v := 19) (pc := 37) dX7_take_37 rfl ?_
  refine ev_getr (q := 21) (pc := 38) dX7_take_38 fl_RX7_13 rfl rfl ?_
  refine ev_aload_n (v := 19) (pc := 41) dX7_take_41 rfl ?_
  refine ev_iload_n (v := x1) (pc := 42) dX7_take_42 rfl ?_
  refine ev_iconst (v := 1) (pc := 43) dX7_take_43 ki_1 ?_
  refine ev_cVi2 (pc := 44) dX7_take_44 mv_X7_ofInterest lk_RX7_81 rp_19 (ct_X7_ofInterest _ _ _ _ _ rfl e10) (Nat.le_of_ble_eq_true rfl) (Nat.le_of_ble_eq_true rfl) ?_
  refine ev_iald (pc := 47) dX7_take_47 rfl e12 ?_
  refine ev_aload_n (v := 19) (pc := 48) dX7_take_48 rfl ?_
  refine ev_iload_n (v := x1) (pc := 49) dX7_take_49 rfl ?_
  refine ev_cVi1 (pc := 50) dX7_take_50 mv_X7_bitsOf lk_RX7_137 rp_19 (ct_X7_bitsOf _ _ _ _ rfl e14) (Nat.le_of_ble_eq_true rfl) (Nat.le_of_ble_eq_true rfl) ?_
  refine ev_iand (pc := 53) dX7_take_53 ?_
  refine ev_iast (w' := [(20, a15), (22, ag), (19, mf), (21, rd)]) (pc := 54) dX7_take_54 rfl e16 rfl ?_
  refine ev_aload_n (v := 19) (pc := 55) dX7_take_55 rfl ?_
  refine ev_getr (q := 20) (pc := 56) dX7_take_56 fl_RX7_7 rfl rfl ?_
  refine ev_iload_n (v := x1) (pc := 59) dX7_take_59 rfl ?_
  refine ev_bipush (v := 9) (pc := 60) dX7_take_60 kb_9 ?_
  refine ev_cSi2 (pc := 62) dX7_take_62 ms_X7_interestAt lk_RX7_60 (ct_X7_interestAt _ _ _ _ e18) (Nat.le_of_ble_eq_true rfl) (Nat.le_of_ble_eq_true rfl) ?_
  refine ev_dup2 (pc := 65) dX7_take_65 ?_
  refine ev_iald (pc := 66) dX7_take_66 rfl e20 ?_
  refine ev_iconst (v := 1) (pc := 67) dX7_take_67 ki_1 ?_
  refine ev_iadd (pc := 68) dX7_take_68 ?_
  refine ev_iast (w' := [(20, a21), (22, ag), (19, mf), (21, rd)]) (pc := 69) dX7_take_69 rfl e22 rfl ?_
  refine ev_aload_n (v := 19) (pc := 70) dX7_take_70 rfl ?_
  refine ev_iload_n (v := x1) (pc := 71) dX7_take_71 rfl ?_
  refine ev_iconst (v := 4) (pc := 72) dX7_take_72 ki_4 ?_
  refine ev_cVi2 (pc := 73) dX7_take_73 mv_X7_ofInterest lk_RX7_81 rp_19 (ct_X7_ofInterest _ _ _ _ _ rfl e24) (Nat.le_of_ble_eq_true rfl) (Nat.le_of_ble_eq_true rfl) ?_
  refine ev_iconst (v := 2) (pc := 76) dX7_take_76 ki_2 ?_
  refine ev_iand (pc := 77) dX7_take_77 ?_
  obtain ⟨j25, e26, h⟩ := rb_bd h
  have hj27 : rb_Ev RX7 cX7_take 4 none none 3 none (rb_ov μ [(20, o.1), (22, o.2.1), (19, o.2.2)]) 92 [some (.inr 19), none, some (.inl x1), none] [] (rb_ov μ [(20, j25), (22, ag), (19, mf), (21, rd)]) := by
    obtain ⟨t33, e34, h⟩ := rb_bd h
    refine ev_aload_n (v := 19) (pc := 92) dX7_take_92 rfl ?_
    refine ev_iload_n (v := x1) (pc := 93) dX7_take_93 rfl ?_
    refine ev_iconst (v := 4) (pc := 94) dX7_take_94 ki_4 ?_
    refine ev_cVi2 (pc := 95) dX7_take_95 mv_X7_ofInterest lk_RX7_81 rp_19 (ct_X7_ofInterest _ _ _ _ _ rfl e34) (Nat.le_of_ble_eq_true rfl) (Nat.le_of_ble_eq_true rfl) ?_
    refine ev_iconst (v := 3) (pc := 98) dX7_take_98 ki_3 ?_
    refine ev_iand (pc := 99) dX7_take_99 ?_
    by_cases b35 : (t33 &&& 3) = 0
    · rw [if_pos b35] at h
      refine ev_if_eq_t (t := 104) (pc := 100) dX7_take_100 (by decide) b35 ?_
      obtain ⟨ag36, e37, h⟩ := rb_bd h
      obtain ⟨mf38, e39, h⟩ := rb_bd h
      refine ev_aload_n (v := 19) (pc := 104) dX7_take_104 rfl ?_
      refine ev_getr (q := 22) (pc := 105) dX7_take_105 fl_RX7_16 rfl rfl ?_
      refine ev_aload_n (v := 19) (pc := 108) dX7_take_108 rfl ?_
      refine ev_geti (v := (mf 3)) (pc := 109) dX7_take_109 fl_RX7_152 rfl rfl rfl ?_
      refine ev_iload_n (v := x1) (pc := 112) dX7_take_112 rfl ?_
      refine ev_iast (w' := [(20, j25), (22, ag36), (19, mf), (21, rd)]) (pc := 113) dX7_take_113 rfl e37 rfl ?_
      refine ev_aload_n (v := 19) (pc := 114) dX7_take_114 rfl ?_
      refine ev_dup (pc := 115) dX7_take_115 ?_
      refine ev_geti (v := (mf 3)) (pc := 116) dX7_take_116 fl_RX7_152 rfl rfl rfl ?_
      refine ev_iconst (v := 1) (pc := 119) dX7_take_119 ki_1 ?_
      refine ev_iadd (pc := 120) dX7_take_120 ?_
      refine ev_putw (w' := [(20, j25), (22, ag36), (19, mf38), (21, rd)]) (pc := 121) dX7_take_121 fp_RX7_152 rfl rfl e39 rfl ?_
      obtain rfl := Option.some.inj h
      exact ev_ret (pc := 124) dX7_take_124 rfl rfl (hfin _ _ _)
    · rw [if_neg b35] at h
      refine ev_if_eq_f (t := 104) (pc := 100) dX7_take_100 (by decide) b35 ?_
      obtain rfl := Option.some.inj h
      exact ev_ret (pc := 103) dX7_take_103 rfl rfl (hfin _ _ _)
  replace h := e26
  by_cases b28 : (t23 &&& 2) = 0
  · rw [if_pos b28] at h
    refine ev_if_eq_t (t := 92) (pc := 78) dX7_take_78 (by decide) b28 ?_
    obtain rfl := Option.some.inj h
    exact ev_fg (L := [some (.inr 19), none, some (.inl x1), none]) (And.intro rfl (And.intro rfl True.intro)) (hj27)
  · rw [if_neg b28] at h
    refine ev_if_eq_f (t := 92) (pc := 78) dX7_take_78 (by decide) b28 ?_
    obtain ⟨t29, e30, h⟩ := rb_bd h
    obtain ⟨a31, e32, h⟩ := rb_bd h
    refine ev_aload_n (v := 19) (pc := 81) dX7_take_81 rfl ?_
    refine ev_getr (q := 20) (pc := 82) dX7_take_82 fl_RX7_7 rfl rfl ?_
    refine ev_iload_n (v := x1) (pc := 85) dX7_take_85 rfl ?_
    refine ev_iconst (v := 5) (pc := 86) dX7_take_86 ki_5 ?_
    refine ev_cSi2 (pc := 87) dX7_take_87 ms_X7_interestAt lk_RX7_60 (ct_X7_interestAt _ _ _ _ e30) (Nat.le_of_ble_eq_true rfl) (Nat.le_of_ble_eq_true rfl) ?_
    refine ev_iconst (v := 0) (pc := 90) dX7_take_90 ki_0 ?_
    refine ev_iast (w' := [(20, a31), (22, ag), (19, mf), (21, rd)]) (pc := 91) dX7_take_91 rfl e32 rfl ?_
    obtain rfl := Option.some.inj h
    exact ev_fg (L := [some (.inr 19), none, some (.inl x1), none]) (And.intro rfl (And.intro rfl True.intro)) (hj27)
def XX7_goCollect (a : rb_Row) (rd : rb_Row) (ag : rb_Row) (mf : rb_Row) (x0 : Int32) (x1 : Int32) (x2 : Int32) : Option (Int32 × rb_Row × rb_Row × rb_Row × rb_Row) := (XX7_layReady rd a).bind fun t1 => (rb_pf mf 3 0).bind fun mf3 => (XX7_listedBehind a x1 0).bind fun t5 => (rb_lp (ρ := Int32 × rb_Row × rb_Row × rb_Row) (fun (s7 : Int32 × Int32 × rb_Row × rb_Row × rb_Row) => if x2 ≤ s7.1 then some (.inr (s7.1, s7.2.2.1, s7.2.2.2.1, s7.2.2.2.2)) else if s7.2.1 < 0 then some (.inr (s7.1, s7.2.2.1, s7.2.2.2.1, s7.2.2.2.2)) else (XX7_interestAt s7.2.1 7).bind fun t17 => (rb_wr s7.2.2.1 796 t17 0).bind fun a19 => (XX7_isTrue a19 t1 s7.2.1).bind fun t21 => ((if t21 = 0 then some (s7.1, a19, s7.2.2.2.1, s7.2.2.2.2) else (XX7_take a19 s7.2.2.2.1 s7.2.2.2.2 t1 x0 s7.2.1 s7.1).bind fun t27 => some ((s7.1 + 1), t27.1, t27.2.1, t27.2.2)) : Option (Int32 × rb_Row × rb_Row × rb_Row)).bind fun j23 => (XX7_listedBehind j23.2.1 x1 0).bind fun t29 => some (.inl (j23.1, t29, j23.2.1, j23.2.2.1, j23.2.2.2))) 100000 (0, t5, a, ag, mf3)).bind fun q8 => (rb_lp (ρ := rb_Row) (fun (s31 : Int32 × rb_Row) => if 24 ≤ s31.1 then some (.inr s31.2) else (XX7_ofInterest s31.2 s31.1 0).bind fun t40 => ((if t40 = x1 then (XX7_ofInterest s31.2 s31.1 7).bind fun t46 => if t46 ≤ 0 then some s31.2 else (XX7_interestAt s31.1 10).bind fun t49 => (rb_rd s31.2 796 t49).bind fun v51 => (rb_wr s31.2 796 t49 (v51 + 1)).bind fun a53 => some a53 else some s31.2) : Option (rb_Row)).bind fun j42 => some (.inl ((s31.1 + 1), j42))) 100000 (0, q8.2.1)).bind fun q32 => (rb_lp (ρ := rb_Row) (fun (s55 : Int32 × rb_Row) => if (q8.2.2.2 3) ≤ s55.1 then some (.inr s55.2) else (rb_rd q8.2.2.1 8 s55.1).bind fun v64 => (XX7_list s55.2 v64).bind fun t66 => some (.inl ((s55.1 + 1), t66))) 100000 (0, q32)).bind fun q56 => (XX7_taskAt x0 4).bind fun t68 => (rb_wr q56 796 t68 q8.1).bind fun a70 => (XX7_taskAt x0 5).bind fun t72 => (rb_rd a70 796 t72).bind fun v74 => (rb_wr a70 796 t72 (v74 + q8.1)).bind fun a76 => some (q8.1, a76, t1, q8.2.2.1, q8.2.2.2)
set_option maxHeartbeats 4000000 in
set_option maxRecDepth 20000 in
theorem ct_X7_goCollect (μ : rb_Mem) (a : rb_Row) (rd : rb_Row) (ag : rb_Row) (mf : rb_Row) (x0 : Int32) (x1 : Int32) (x2 : Int32) (o : Int32 × rb_Row × rb_Row × rb_Row × rb_Row) (ha : μ 20 = a) (hrd : μ 21 = rd) (hag : μ 22 = ag) (hmf : μ 19 = mf) (h : XX7_goCollect a rd ag mf x0 x1 x2 = some o) : rb_Ct yX7_goCollect cX7_goCollect 7 (some .int) 6 [.inr 19, .inl x0, .inl x1, .inl x2] μ (some o.1) (rb_ov μ [(20, o.2.1), (21, o.2.2.1), (22, o.2.2.2.1), (19, o.2.2.2.2)]) := by
  unfold XX7_goCollect at h
  have hini : rb_ov μ [(20, a), (21, rd), (22, ag), (19, mf)] = μ := rb_ov_sf _ _ (And.intro ha (And.intro hrd (And.intro hag (And.intro hmf True.intro))))
  have hfin : ∀ u0 u1 u2 u3 : rb_Row, rb_ov μ [(20, u0), (21, u1), (22, u2), (19, u3)] = rb_ov μ [(20, u0), (21, u1), (22, u2), (19, u3)] := fun u0 u1 u2 u3 => rfl
  refine rb_cti (w := [(20, a), (21, rd), (22, ag), (19, mf)]) rfl pn_7 (Nat.le_of_ble_eq_true rfl) rfl hini ?_
  obtain ⟨t1, e2, h⟩ := rb_bd h
  obtain ⟨mf3, e4, h⟩ := rb_bd h
  obtain ⟨t5, e6, h⟩ := rb_bd h
  refine ev_aload_n (v := 19) (pc := 0) dX7_goCollect_0 rfl ?_
  refine ev_cVv0w (w' := [(20, a), (21, t1), (22, ag), (19, mf)]) (pc := 1) dX7_goCollect_1 mv_X7_layReady lk_RX7_156 rp_19 (ct_X7_layReady _ _ _ _ rfl rfl e2) (Nat.le_of_ble_eq_true rfl) (Nat.le_of_ble_eq_true rfl) rfl ?_
  refine ev_aload_n (v := 19) (pc := 4) dX7_goCollect_4 rfl ?_
  refine ev_iconst (v := 0) (pc := 5) dX7_goCollect_5 ki_0 ?_
  refine ev_putw (w' := [(20, a), (21, t1), (22, ag), (19, mf3)]) (pc := 6) dX7_goCollect_6 fp_RX7_152 rfl rfl e4 rfl ?_
  refine ev_iconst (v := 0) (pc := 9) dX7_goCollect_9 ki_0 ?_
  refine ev_istore (L' := [some (.inr 19), some (.inl x0), some (.inl x1), some (.inl x2), some (.inl 0), none, none]) (pc := 10) dX7_goCollect_10 (Nat.le_of_ble_eq_true rfl) rfl ?_
  refine ev_aload_n (v := 19) (pc := 12) dX7_goCollect_12 rfl ?_
  refine ev_iload_n (v := x1) (pc := 13) dX7_goCollect_13 rfl ?_
  refine ev_iconst (v := 0) (pc := 14) dX7_goCollect_14 ki_0 ?_
  refine ev_cVi2 (pc := 15) dX7_goCollect_15 mv_X7_listedBehind lk_RX7_159 rp_19 (ct_X7_listedBehind _ _ _ _ _ rfl e6) (Nat.le_of_ble_eq_true rfl) (Nat.le_of_ble_eq_true rfl) ?_
  refine ev_istore (L' := [some (.inr 19), some (.inl x0), some (.inl x1), some (.inl x2), some (.inl 0), some (.inl t5), none]) (pc := 18) dX7_goCollect_18 (Nat.le_of_ble_eq_true rfl) rfl ?_
  obtain ⟨q8, l9, h⟩ := rb_bd h
  have hx13 : rb_Ev RX7 cX7_goCollect 7 (some .int) none 6 (some o.1) (rb_ov μ [(20, o.2.1), (21, o.2.2.1), (22, o.2.2.2.1), (19, o.2.2.2.2)]) 76 [some (.inr 19), some (.inl x0), some (.inl x1), none, some (.inl q8.1), none, none] [] (rb_ov μ [(20, q8.2.1), (21, t1), (22, q8.2.2.1), (19, q8.2.2.2)]) := by
    refine ev_iconst (v := 0) (pc := 76) dX7_goCollect_76 ki_0 ?_
    refine ev_istore (L' := [some (.inr 19), some (.inl x0), some (.inl x1), none, some (.inl q8.1), none, some (.inl 0)]) (pc := 77) dX7_goCollect_77 (Nat.le_of_ble_eq_true rfl) rfl ?_
    obtain ⟨q32, l33, h⟩ := rb_bd h
    have hx37 : rb_Ev RX7 cX7_goCollect 7 (some .int) none 6 (some o.1) (rb_ov μ [(20, o.2.1), (21, o.2.2.1), (22, o.2.2.2.1), (19, o.2.2.2.2)]) 130 [some (.inr 19), some (.inl x0), none, none, some (.inl q8.1), none, none] [] (rb_ov μ [(20, q32), (21, t1), (22, q8.2.2.1), (19, q8.2.2.2)]) := by
      refine ev_iconst (v := 0) (pc := 130) dX7_goCollect_130 ki_0 ?_
      refine ev_istore (L' := [some (.inr 19), some (.inl x0), none, none, some (.inl q8.1), none, some (.inl 0)]) (pc := 131) dX7_goCollect_131 (Nat.le_of_ble_eq_true rfl) rfl ?_
      obtain ⟨q56, l57, h⟩ := rb_bd h
      have hx61 : rb_Ev RX7 cX7_goCollect 7 (some .int) none 6 (some o.1) (rb_ov μ [(20, o.2.1), (21, o.2.2.1), (22, o.2.2.2.1), (19, o.2.2.2.2)]) 159 [some (.inr 19), some (.inl x0), none, none, some (.inl q8.1), none, none] [] (rb_ov μ [(20, q56), (21, t1), (22, q8.2.2.1), (19, q8.2.2.2)]) := by
        obtain ⟨t68, e69, h⟩ := rb_bd h
        obtain ⟨a70, e71, h⟩ := rb_bd h
        obtain ⟨t72, e73, h⟩ := rb_bd h
        obtain ⟨v74, e75, h⟩ := rb_bd h
        obtain ⟨a76, e77, h⟩ := rb_bd h
        refine ev_aload_n (v := 19) (pc := 159) dX7_goCollect_159 rfl ?_
        refine ev_getr (q := 20) (pc := 160) dX7_goCollect_160 fl_RX7_7 rfl rfl ?_
        refine ev_iload_n (v := x0) (pc := 163) dX7_goCollect_163 rfl ?_
        refine ev_iconst (v := 4) (pc := 164) dX7_goCollect_164 ki_4 ?_
        refine ev_cSi2 (pc := 165) dX7_goCollect_165 ms_X7_taskAt lk_RX7_63 (ct_X7_taskAt _ _ _ _ e69) (Nat.le_of_ble_eq_true rfl) (Nat.le_of_ble_eq_true rfl) ?_
        refine ev_iload (v := q8.1) (pc := 168) dX7_goCollect_168 rfl ?_
        refine ev_iast (w' := [(20, a70), (21, t1), (22, q8.2.2.1), (19, q8.2.2.2)]) (pc := 170) dX7_goCollect_170 rfl e71 rfl ?_
        refine ev_aload_n (v := 19) (pc := 171) dX7_goCollect_171 rfl ?_
        refine ev_getr (q := 20) (pc := 172) dX7_goCollect_172 fl_RX7_7 rfl rfl ?_
        refine ev_iload_n (v := x0) (pc := 175) dX7_goCollect_175 rfl ?_
        refine ev_iconst (v := 5) (pc := 176) dX7_goCollect_176 ki_5 ?_
        refine ev_cSi2 (pc := 177) dX7_goCollect_177 ms_X7_taskAt lk_RX7_63 (ct_X7_taskAt _ _ _ _ e73) (Nat.le_of_ble_eq_true rfl) (Nat.le_of_ble_eq_true rfl) ?_
        refine ev_dup2 (pc := 180) dX7_goCollect_180 ?_
        refine ev_iald (pc := 181) dX7_goCollect_181 rfl e75 ?_
        refine ev_iload (v := q8.1) (pc := 182) dX7_goCollect_182 rfl ?_
        refine ev_iadd (pc := 184) dX7_goCollect_184 ?_
        refine ev_iast (w' := [(20, a76), (21, t1), (22, q8.2.2.1), (19, q8.2.2.2)]) (pc := 185) dX7_goCollect_185 rfl e77 rfl ?_
        refine ev_iload (v := q8.1) (pc := 186) dX7_goCollect_186 rfl ?_
        obtain rfl := Option.some.inj h
        exact ev_iret (pc := 188) dX7_goCollect_188 rfl rfl rfl (hfin _ _ _ _)
      refine rb_lp_ev (P := fun (s55 : Int32 × rb_Row) => rb_Ev RX7 cX7_goCollect 7 (some .int) none 6 (some o.1) (rb_ov μ [(20, o.2.1), (21, o.2.2.1), (22, o.2.2.2.1), (19, o.2.2.2.2)]) 133 [some (.inr 19), some (.inl x0), none, none, some (.inl q8.1), none, some (.inl s55.1)] [] (rb_ov μ [(20, s55.2), (21, t1), (22, q8.2.2.1), (19, q8.2.2.2)])) ?_ 100000 (0, q32) l57
      intro s55 y58 h ih59 hE60
      refine ev_iload (v := s55.1) (pc := 133) dX7_goCollect_133 rfl ?_
      refine ev_aload_n (v := 19) (pc := 135) dX7_goCollect_135 rfl ?_
      refine ev_geti (v := (q8.2.2.2 3)) (pc := 136) dX7_goCollect_136 fl_RX7_152 rfl rfl rfl ?_
      by_cases b63 : (q8.2.2.2 3) ≤ s55.1
      · rw [if_pos b63] at h
        refine ev_icmp_ge_t (t := 159) (pc := 139) dX7_goCollect_139 (by decide) b63 ?_
        obtain rfl := Option.some.inj h
        obtain rfl := hE60 _ rfl
        exact ev_fg (L := [some (.inr 19), some (.inl x0), none, none, some (.inl q8.1), none, none]) (And.intro rfl (And.intro rfl (And.intro rfl True.intro))) (hx61)
      · rw [if_neg b63] at h
        refine ev_icmp_ge_f (t := 159) (pc := 139) dX7_goCollect_139 (by decide) b63 ?_
        obtain ⟨v64, e65, h⟩ := rb_bd h
        obtain ⟨t66, e67, h⟩ := rb_bd h
        refine ev_aload_n (v := 19) (pc := 142) dX7_goCollect_142 rfl ?_
        refine ev_aload_n (v := 19) (pc := 143) dX7_goCollect_143 rfl ?_
        refine ev_getr (q := 22) (pc := 144) dX7_goCollect_144 fl_RX7_16 rfl rfl ?_
        refine ev_iload (v := s55.1) (pc := 147) dX7_goCollect_147 rfl ?_
        refine ev_iald (pc := 149) dX7_goCollect_149 rfl e65 ?_
        refine ev_cVv1w (w' := [(20, t66), (21, t1), (22, q8.2.2.1), (19, q8.2.2.2)]) (pc := 150) dX7_goCollect_150 mv_X7_list lk_RX7_166 rp_19 (ct_X7_list _ _ _ _ rfl e67) (Nat.le_of_ble_eq_true rfl) (Nat.le_of_ble_eq_true rfl) rfl ?_
        refine ev_iinc (x := s55.1) (v := (s55.1 + 1)) (L' := [some (.inr 19), some (.inl x0), none, none, some (.inl q8.1), none, some (.inl (s55.1 + 1))]) (pc := 153) dX7_goCollect_153 rfl (kx_1 _) (Nat.le_of_ble_eq_true rfl) rfl ?_
        refine ev_goto (t := 133) (pc := 156) dX7_goCollect_156 (by decide) ?_
        obtain rfl := Option.some.inj h
        exact ih59 ((s55.1 + 1), t66) rfl
    refine rb_lp_ev (P := fun (s31 : Int32 × rb_Row) => rb_Ev RX7 cX7_goCollect 7 (some .int) none 6 (some o.1) (rb_ov μ [(20, o.2.1), (21, o.2.2.1), (22, o.2.2.2.1), (19, o.2.2.2.2)]) 79 [some (.inr 19), some (.inl x0), some (.inl x1), none, some (.inl q8.1), none, some (.inl s31.1)] [] (rb_ov μ [(20, s31.2), (21, t1), (22, q8.2.2.1), (19, q8.2.2.2)])) ?_ 100000 (0, q8.2.1) l33
    intro s31 y34 h ih35 hE36
    refine ev_iload (v := s31.1) (pc := 79) dX7_goCollect_79 rfl ?_
    refine ev_bipush (v := 24) (pc := 81) dX7_goCollect_81 kb_24 ?_
    by_cases b39 : 24 ≤ s31.1
    · rw [if_pos b39] at h
      refine ev_icmp_ge_t (t := 130) (pc := 83) dX7_goCollect_83 (by decide) b39 ?_
      obtain rfl := Option.some.inj h
      obtain rfl := hE36 _ rfl
      exact ev_fg (L := [some (.inr 19), some (.inl x0), none, none, some (.inl q8.1), none, none]) (And.intro rfl (And.intro rfl (And.intro rfl True.intro))) (hx37)
    · rw [if_neg b39] at h
      refine ev_icmp_ge_f (t := 130) (pc := 83) dX7_goCollect_83 (by decide) b39 ?_
      obtain ⟨t40, e41, h⟩ := rb_bd h
      refine ev_aload_n (v := 19) (pc := 86) dX7_goCollect_86 rfl ?_
      refine ev_iload (v := s31.1) (pc := 87) dX7_goCollect_87 rfl ?_
      refine ev_iconst (v := 0) (pc := 89) dX7_goCollect_89 ki_0 ?_
      refine ev_cVi2 (pc := 90) dX7_goCollect_90 mv_X7_ofInterest lk_RX7_81 rp_19 (ct_X7_ofInterest _ _ _ _ _ rfl e41) (Nat.le_of_ble_eq_true rfl) (Nat.le_of_ble_eq_true rfl) ?_
      refine ev_iload_n (v := x1) (pc := 93) dX7_goCollect_93 rfl ?_
      obtain ⟨j42, e43, h⟩ := rb_bd h
      have hj44 : rb_Ev RX7 cX7_goCollect 7 (some .int) none 6 (some o.1) (rb_ov μ [(20, o.2.1), (21, o.2.2.1), (22, o.2.2.2.1), (19, o.2.2.2.2)]) 124 [some (.inr 19), some (.inl x0), some (.inl x1), none, some (.inl q8.1), none, some (.inl s31.1)] [] (rb_ov μ [(20, j42), (21, t1), (22, q8.2.2.1), (19, q8.2.2.2)]) := by
        refine ev_iinc (x := s31.1) (v := (s31.1 + 1)) (L' := [some (.inr 19), some (.inl x0), some (.inl x1), none, some (.inl q8.1), none, some (.inl (s31.1 + 1))]) (pc := 124) dX7_goCollect_124 rfl (kx_1 _) (Nat.le_of_ble_eq_true rfl) rfl ?_
        refine ev_goto (t := 79) (pc := 127) dX7_goCollect_127 (by decide) ?_
        obtain rfl := Option.some.inj h
        exact ih35 ((s31.1 + 1), j42) rfl
      replace h := e43
      by_cases b45 : t40 = x1
      · rw [if_pos b45] at h
        refine ev_icmp_ne_f (t := 124) (pc := 94) dX7_goCollect_94 (by decide) b45 ?_
        obtain ⟨t46, e47, h⟩ := rb_bd h
        refine ev_aload_n (v := 19) (pc := 97) dX7_goCollect_97 rfl ?_
        refine ev_iload (v := s31.1) (pc := 98) dX7_goCollect_98 rfl ?_
        refine ev_bipush (v := 7) (pc := 100) dX7_goCollect_100 kb_7 ?_
        refine ev_cVi2 (pc := 102) dX7_goCollect_102 mv_X7_ofInterest lk_RX7_81 rp_19 (ct_X7_ofInterest _ _ _ _ _ rfl e47) (Nat.le_of_ble_eq_true rfl) (Nat.le_of_ble_eq_true rfl) ?_
        by_cases b48 : t46 ≤ 0
        · rw [if_pos b48] at h
          refine ev_if_le_t (t := 124) (pc := 105) dX7_goCollect_105 (by decide) b48 ?_
          obtain rfl := Option.some.inj h
          exact hj44
        · rw [if_neg b48] at h
          refine ev_if_le_f (t := 124) (pc := 105) dX7_goCollect_105 (by decide) b48 ?_
          obtain ⟨t49, e50, h⟩ := rb_bd h
          obtain ⟨v51, e52, h⟩ := rb_bd h
          obtain ⟨a53, e54, h⟩ := rb_bd h
          refine ev_aload_n (v := 19) (pc := 108) dX7_goCollect_108 rfl ?_
          refine ev_getr (q := 20) (pc := 109) dX7_goCollect_109 fl_RX7_7 rfl rfl ?_
          refine ev_iload (v := s31.1) (pc := 112) dX7_goCollect_112 rfl ?_
          refine ev_bipush (v := 10) (pc := 114) dX7_goCollect_114 kb_10 ?_
          refine ev_cSi2 (pc := 116) dX7_goCollect_116 ms_X7_interestAt lk_RX7_60 (ct_X7_interestAt _ _ _ _ e50) (Nat.le_of_ble_eq_true rfl) (Nat.le_of_ble_eq_true rfl) ?_
          refine ev_dup2 (pc := 119) dX7_goCollect_119 ?_
          refine ev_iald (pc := 120) dX7_goCollect_120 rfl e52 ?_
          refine ev_iconst (v := 1) (pc := 121) dX7_goCollect_121 ki_1 ?_
          refine ev_iadd (pc := 122) dX7_goCollect_122 ?_
          refine ev_iast (w' := [(20, a53), (21, t1), (22, q8.2.2.1), (19, q8.2.2.2)]) (pc := 123) dX7_goCollect_123 rfl e54 rfl ?_
          obtain rfl := Option.some.inj h
          exact hj44
      · rw [if_neg b45] at h
        refine ev_icmp_ne_t (t := 124) (pc := 94) dX7_goCollect_94 (by decide) b45 ?_
        obtain rfl := Option.some.inj h
        exact hj44
  refine rb_lp_ev (P := fun (s7 : Int32 × Int32 × rb_Row × rb_Row × rb_Row) => rb_Ev RX7 cX7_goCollect 7 (some .int) none 6 (some o.1) (rb_ov μ [(20, o.2.1), (21, o.2.2.1), (22, o.2.2.2.1), (19, o.2.2.2.2)]) 20 [some (.inr 19), some (.inl x0), some (.inl x1), some (.inl x2), some (.inl s7.1), some (.inl s7.2.1), none] [] (rb_ov μ [(20, s7.2.2.1), (21, t1), (22, s7.2.2.2.1), (19, s7.2.2.2.2)])) ?_ 100000 (0, t5, a, ag, mf3) l9
  intro s7 y10 h ih11 hE12
  refine ev_iload (v := s7.1) (pc := 20) dX7_goCollect_20 rfl ?_
  refine ev_iload_n (v := x2) (pc := 22) dX7_goCollect_22 rfl ?_
  by_cases b15 : x2 ≤ s7.1
  · rw [if_pos b15] at h
    refine ev_icmp_ge_t (t := 76) (pc := 23) dX7_goCollect_23 (by decide) b15 ?_
    obtain rfl := Option.some.inj h
    obtain rfl := hE12 _ rfl
    exact ev_fg (L := [some (.inr 19), some (.inl x0), some (.inl x1), none, some (.inl s7.1), none, none]) (And.intro rfl (And.intro rfl (And.intro rfl (And.intro rfl True.intro)))) (hx13)
  · rw [if_neg b15] at h
    refine ev_icmp_ge_f (t := 76) (pc := 23) dX7_goCollect_23 (by decide) b15 ?_
    refine ev_iload (v := s7.2.1) (pc := 26) dX7_goCollect_26 rfl ?_
    by_cases b16 : s7.2.1 < 0
    · rw [if_pos b16] at h
      refine ev_if_lt_t (t := 76) (pc := 28) dX7_goCollect_28 (by decide) b16 ?_
      obtain rfl := Option.some.inj h
      obtain rfl := hE12 _ rfl
      exact ev_fg (L := [some (.inr 19), some (.inl x0), some (.inl x1), none, some (.inl s7.1), none, none]) (And.intro rfl (And.intro rfl (And.intro rfl (And.intro rfl True.intro)))) (hx13)
    · rw [if_neg b16] at h
      refine ev_if_lt_f (t := 76) (pc := 28) dX7_goCollect_28 (by decide) b16 ?_
      obtain ⟨t17, e18, h⟩ := rb_bd h
      obtain ⟨a19, e20, h⟩ := rb_bd h
      obtain ⟨t21, e22, h⟩ := rb_bd h
      refine ev_aload_n (v := 19) (pc := 31) dX7_goCollect_31 rfl ?_
      refine ev_getr (q := 20) (pc := 32) dX7_goCollect_32 fl_RX7_7 rfl rfl ?_
      refine ev_iload (v := s7.2.1) (pc := 35) dX7_goCollect_35 rfl ?_
      refine ev_bipush (v := 7) (pc := 37) dX7_goCollect_37 kb_7 ?_
      refine ev_cSi2 (pc := 39) dX7_goCollect_39 ms_X7_interestAt lk_RX7_60 (ct_X7_interestAt _ _ _ _ e18) (Nat.le_of_ble_eq_true rfl) (Nat.le_of_ble_eq_true rfl) ?_
      refine ev_iconst (v := 0) (pc := 42) dX7_goCollect_42 ki_0 ?_
      refine ev_iast (w' := [(20, a19), (21, t1), (22, s7.2.2.2.1), (19, s7.2.2.2.2)]) (pc := 43) dX7_goCollect_43 rfl e20 rfl ?_
      refine ev_aload_n (v := 19) (pc := 44) dX7_goCollect_44 rfl ?_
      refine ev_iload (v := s7.2.1) (pc := 45) dX7_goCollect_45 rfl ?_
      refine ev_cVi1 (pc := 47) dX7_goCollect_47 mv_X7_isTrue lk_RX7_140 rp_19 (ct_X7_isTrue _ _ _ _ _ rfl rfl e22) (Nat.le_of_ble_eq_true rfl) (Nat.le_of_ble_eq_true rfl) ?_
      obtain ⟨j23, e24, h⟩ := rb_bd h
      have hj25 : rb_Ev RX7 cX7_goCollect 7 (some .int) none 6 (some o.1) (rb_ov μ [(20, o.2.1), (21, o.2.2.1), (22, o.2.2.2.1), (19, o.2.2.2.2)]) 65 [some (.inr 19), some (.inl x0), some (.inl x1), some (.inl x2), some (.inl j23.1), none, none] [] (rb_ov μ [(20, j23.2.1), (21, t1), (22, j23.2.2.1), (19, j23.2.2.2)]) := by
        obtain ⟨t29, e30, h⟩ := rb_bd h
        refine ev_aload_n (v := 19) (pc := 65) dX7_goCollect_65 rfl ?_
        refine ev_iload_n (v := x1) (pc := 66) dX7_goCollect_66 rfl ?_
        refine ev_iconst (v := 0) (pc := 67) dX7_goCollect_67 ki_0 ?_
        refine ev_cVi2 (pc := 68) dX7_goCollect_68 mv_X7_listedBehind lk_RX7_159 rp_19 (ct_X7_listedBehind _ _ _ _ _ rfl e30) (Nat.le_of_ble_eq_true rfl) (Nat.le_of_ble_eq_true rfl) ?_
        refine ev_istore (L' := [some (.inr 19), some (.inl x0), some (.inl x1), some (.inl x2), some (.inl j23.1), some (.inl t29), none]) (pc := 71) dX7_goCollect_71 (Nat.le_of_ble_eq_true rfl) rfl ?_
        refine ev_goto (t := 20) (pc := 73) dX7_goCollect_73 (by decide) ?_
        obtain rfl := Option.some.inj h
        exact ih11 (j23.1, t29, j23.2.1, j23.2.2.1, j23.2.2.2) rfl
      replace h := e24
      by_cases b26 : t21 = 0
      · rw [if_pos b26] at h
        refine ev_if_eq_t (t := 65) (pc := 50) dX7_goCollect_50 (by decide) b26 ?_
        obtain rfl := Option.some.inj h
        exact ev_fg (L := [some (.inr 19), some (.inl x0), some (.inl x1), some (.inl x2), some (.inl s7.1), none, none]) (And.intro rfl (And.intro rfl (And.intro rfl (And.intro rfl (And.intro rfl True.intro))))) (hj25)
      · rw [if_neg b26] at h
        refine ev_if_eq_f (t := 65) (pc := 50) dX7_goCollect_50 (by decide) b26 ?_
        obtain ⟨t27, e28, h⟩ := rb_bd h
        refine ev_aload_n (v := 19) (pc := 53) dX7_goCollect_53 rfl ?_
        refine ev_iload_n (v := x0) (pc := 54) dX7_goCollect_54 rfl ?_
        refine ev_iload (v := s7.2.1) (pc := 55) dX7_goCollect_55 rfl ?_
        refine ev_iload (v := s7.1) (pc := 57) dX7_goCollect_57 rfl ?_
        refine ev_cVv3w (w' := [(20, t27.1), (21, t1), (22, t27.2.1), (19, t27.2.2)]) (pc := 59) dX7_goCollect_59 mv_X7_take lk_RX7_162 rp_19 (ct_X7_take _ _ _ _ _ _ _ _ _ rfl rfl rfl rfl e28) (Nat.le_of_ble_eq_true rfl) (Nat.le_of_ble_eq_true rfl) rfl ?_
        refine ev_iinc (x := s7.1) (v := (s7.1 + 1)) (L' := [some (.inr 19), some (.inl x0), some (.inl x1), some (.inl x2), some (.inl (s7.1 + 1)), some (.inl s7.2.1), none]) (pc := 62) dX7_goCollect_62 rfl (kx_1 _) (Nat.le_of_ble_eq_true rfl) rfl ?_
        obtain rfl := Option.some.inj h
        exact ev_fg (L := [some (.inr 19), some (.inl x0), some (.inl x1), some (.inl x2), some (.inl (s7.1 + 1)), none, none]) (And.intro rfl (And.intro rfl (And.intro rfl (And.intro rfl (And.intro rfl True.intro))))) (hj25)
def XX7_sleepNoMore (a : rb_Row) (x0 : Int32) : Option (rb_Row) := (XX7_taskAt x0 0).bind fun t1 => (rb_wr a 796 t1 (-1)).bind fun a3 => (XX7_taskAt x0 3).bind fun t5 => (rb_wr a3 796 t5 (-1)).bind fun a7 => some a7
set_option maxHeartbeats 4000000 in
set_option maxRecDepth 20000 in
theorem ct_X7_sleepNoMore (μ : rb_Mem) (a : rb_Row) (x0 : Int32) (o : rb_Row) (ha : μ 20 = a) (h : XX7_sleepNoMore a x0 = some o) : rb_Ct yX7_sleepNoMore cX7_sleepNoMore 2 none 1 [.inr 19, .inl x0] μ none (rb_ov μ [(20, o)]) := by
  unfold XX7_sleepNoMore at h
  have hini : rb_ov μ [(20, a)] = μ := rb_ov_sf _ _ (And.intro ha True.intro)
  have hfin : ∀ u0 : rb_Row, rb_ov μ [(20, u0)] = rb_ov μ [(20, u0)] := fun u0 => rfl
  refine rb_ctv (w := [(20, a)]) rfl pn_7 (Nat.le_of_ble_eq_true rfl) rfl hini ?_
  obtain ⟨t1, e2, h⟩ := rb_bd h
  obtain ⟨a3, e4, h⟩ := rb_bd h
  obtain ⟨t5, e6, h⟩ := rb_bd h
  obtain ⟨a7, e8, h⟩ := rb_bd h
  refine ev_aload_n (v := 19) (pc := 0) dX7_sleepNoMore_0 rfl ?_
  refine ev_getr (q := 20) (pc := 1) dX7_sleepNoMore_1 fl_RX7_7 rfl rfl ?_
  refine ev_iload_n (v := x0) (pc := 4) dX7_sleepNoMore_4 rfl ?_
  refine ev_iconst (v := 0) (pc := 5) dX7_sleepNoMore_5 ki_0 ?_
  refine ev_cSi2 (pc := 6) dX7_sleepNoMore_6 ms_X7_taskAt lk_RX7_63 (ct_X7_taskAt _ _ _ _ e2) (Nat.le_of_ble_eq_true rfl) (Nat.le_of_ble_eq_true rfl) ?_
  refine ev_iconst (v := (-1)) (pc := 9) dX7_sleepNoMore_9 ki_m1 ?_
  refine ev_iast (w' := [(20, a3)]) (pc := 10) dX7_sleepNoMore_10 rfl e4 rfl ?_
  refine ev_aload_n (v := 19) (pc := 11) dX7_sleepNoMore_11 rfl ?_
  refine ev_getr (q := 20) (pc := 12) dX7_sleepNoMore_12 fl_RX7_7 rfl rfl ?_
  refine ev_iload_n (v := x0) (pc := 15) dX7_sleepNoMore_15 rfl ?_
  refine ev_iconst (v := 3) (pc := 16) dX7_sleepNoMore_16 ki_3 ?_
  refine ev_cSi2 (pc := 17) dX7_sleepNoMore_17 ms_X7_taskAt lk_RX7_63 (ct_X7_taskAt _ _ _ _ e6) (Nat.le_of_ble_eq_true rfl) (Nat.le_of_ble_eq_true rfl) ?_
  refine ev_iconst (v := (-1)) (pc := 20) dX7_sleepNoMore_20 ki_m1 ?_
  refine ev_iast (w' := [(20, a7)]) (pc := 21) dX7_sleepNoMore_21 rfl e8 rfl ?_
  obtain rfl := Option.some.inj h
  exact ev_ret (pc := 22) dX7_sleepNoMore_22 rfl rfl (hfin _)
def XX7_wasAgain (ag : rb_Row) (mf : rb_Row) (x0 : Int32) : Option (Int32) := (rb_lp (ρ := (Unit) ⊕ (Int32)) (fun (s1 : Int32) => if (mf 3) ≤ s1 then some (.inr (.inl ())) else (rb_rd ag 8 s1).bind fun v11 => if v11 = x0 then some (.inr (.inr (rb_nz 1))) else some (.inl (s1 + 1))) 100000 0).bind fun q2 => Sum.elim (fun (z9 : Unit) => some (rb_nz 0)) (fun (w14 : Int32) => some w14) q2
set_option maxHeartbeats 4000000 in
set_option maxRecDepth 20000 in
theorem ct_X7_wasAgain (μ : rb_Mem) (ag : rb_Row) (mf : rb_Row) (x0 : Int32) (o : Int32) (hag : μ 22 = ag) (hmf : μ 19 = mf) (h : XX7_wasAgain ag mf x0 = some o) : rb_Ct yX7_wasAgain cX7_wasAgain 3 (some .boolean) 0 [.inr 19, .inl x0] μ (some o) μ := by
  unfold XX7_wasAgain at h
  have hini : rb_ov μ [(22, ag), (19, mf)] = μ := rb_ov_sf _ _ (And.intro hag (And.intro hmf True.intro))
  have hfin := hini
  refine rb_ctz (w := [(22, ag), (19, mf)]) rfl pn_7 (Nat.le_of_ble_eq_true rfl) rfl hini ?_
  refine ev_iconst (v := 0) (pc := 0) dX7_wasAgain_0 ki_0 ?_
  refine ev_istore_n (L' := [some (.inr 19), some (.inl x0), some (.inl 0)]) (pc := 1) dX7_wasAgain_1 (Nat.le_of_ble_eq_true rfl) rfl ?_
  obtain ⟨q2, l3, h⟩ := rb_bd h
  have hx7 : ∀ z9 : Unit, q2 = .inl z9 → rb_Ev RX7 cX7_wasAgain 3 (some .boolean) none 0 (some o) μ 28 [none, none, none] [] (rb_ov μ [(22, ag), (19, mf)]) := by
    intro z9 hz
    rw [hz] at h
    replace h := rb_sel h
    refine ev_iconst (v := 0) (pc := 28) dX7_wasAgain_28 ki_0 ?_
    obtain rfl := Option.some.inj h
    exact ev_iret (pc := 29) dX7_wasAgain_29 rfl rfl rfl hfin
  have hr8 : ∀ w14 : Int32, q2 = .inr w14 → w14 = o := by
    intro w14 hz
    rw [hz] at h
    replace h := rb_ser h
    exact Option.some.inj h
  refine rb_lp_ev (P := fun (s1 : Int32) => rb_Ev RX7 cX7_wasAgain 3 (some .boolean) none 0 (some o) μ 2 [some (.inr 19), some (.inl x0), some (.inl s1)] [] (rb_ov μ [(22, ag), (19, mf)])) ?_ 100000 0 l3
  intro s1 y4 h ih5 hE6
  refine ev_iload_n (v := s1) (pc := 2) dX7_wasAgain_2 rfl ?_
  refine ev_aload_n (v := 19) (pc := 3) dX7_wasAgain_3 rfl ?_
  refine ev_geti (v := (mf 3)) (pc := 4) dX7_wasAgain_4 fl_RX7_152 rfl rfl rfl ?_
  by_cases b10 : (mf 3) ≤ s1
  · rw [if_pos b10] at h
    refine ev_icmp_ge_t (t := 28) (pc := 7) dX7_wasAgain_7 (by decide) b10 ?_
    obtain rfl := Option.some.inj h
    exact ev_fg (L := [none, none, none]) True.intro (hx7 () (hE6 _ rfl).symm)
  · rw [if_neg b10] at h
    refine ev_icmp_ge_f (t := 28) (pc := 7) dX7_wasAgain_7 (by decide) b10 ?_
    obtain ⟨v11, e12, h⟩ := rb_bd h
    refine ev_aload_n (v := 19) (pc := 10) dX7_wasAgain_10 rfl ?_
    refine ev_getr (q := 22) (pc := 11) dX7_wasAgain_11 fl_RX7_16 rfl rfl ?_
    refine ev_iload_n (v := s1) (pc := 14) dX7_wasAgain_14 rfl ?_
    refine ev_iald (pc := 15) dX7_wasAgain_15 rfl e12 ?_
    refine ev_iload_n (v := x0) (pc := 16) dX7_wasAgain_16 rfl ?_
    by_cases b13 : v11 = x0
    · rw [if_pos b13] at h
      refine ev_icmp_ne_f (t := 22) (pc := 17) dX7_wasAgain_17 (by decide) b13 ?_
      refine ev_iconst (v := 1) (pc := 20) dX7_wasAgain_20 ki_1 ?_
      obtain rfl := Option.some.inj h
      obtain rfl := hr8 _ (hE6 _ rfl).symm
      exact ev_iret (pc := 21) dX7_wasAgain_21 rfl rfl rfl hfin
    · rw [if_neg b13] at h
      refine ev_icmp_ne_t (t := 22) (pc := 17) dX7_wasAgain_17 (by decide) b13 ?_
      refine ev_iinc (x := s1) (v := (s1 + 1)) (L' := [some (.inr 19), some (.inl x0), some (.inl (s1 + 1))]) (pc := 22) dX7_wasAgain_22 rfl (kx_1 _) (Nat.le_of_ble_eq_true rfl) rfl ?_
      refine ev_goto (t := 2) (pc := 25) dX7_wasAgain_25 (by decide) ?_
      obtain rfl := Option.some.inj h
      exact ih5 (s1 + 1) rfl
def XX7_isSomeLeft (rd : rb_Row) (a : rb_Row) (ag : rb_Row) (mf : rb_Row) (x0 : Int32) : Option (Int32 × rb_Row) := (XX7_layReady rd a).bind fun t1 => (rb_lp (ρ := (Unit) ⊕ (Int32 × rb_Row)) (fun (s3 : Int32) => if 24 ≤ s3 then some (.inr (.inl ())) else (XX7_ofInterest a s3 0).bind fun t13 => if t13 = x0 then (XX7_ofInterest a s3 7).bind fun t16 => if t16 ≤ 0 then some (.inl (s3 + 1)) else (XX7_isTrue a t1 s3).bind fun t19 => if t19 = 0 then some (.inl (s3 + 1)) else (XX7_wasAgain ag mf s3).bind fun t22 => if t22 = 0 then some (.inr (.inr ((rb_nz 1), t1))) else some (.inl (s3 + 1)) else some (.inl (s3 + 1))) 100000 0).bind fun q4 => Sum.elim (fun (z11 : Unit) => some ((rb_nz 0), t1)) (fun (w25 : Int32 × rb_Row) => some w25) q4
set_option maxHeartbeats 4000000 in
set_option maxRecDepth 20000 in
theorem ct_X7_isSomeLeft (μ : rb_Mem) (rd : rb_Row) (a : rb_Row) (ag : rb_Row) (mf : rb_Row) (x0 : Int32) (o : Int32 × rb_Row) (hrd : μ 21 = rd) (ha : μ 20 = a) (hag : μ 22 = ag) (hmf : μ 19 = mf) (h : XX7_isSomeLeft rd a ag mf x0 = some o) : rb_Ct yX7_isSomeLeft cX7_isSomeLeft 3 (some .boolean) 6 [.inr 19, .inl x0] μ (some o.1) (rb_ov μ [(21, o.2)]) := by
  unfold XX7_isSomeLeft at h
  have hini : rb_ov μ [(21, rd), (20, a), (22, ag), (19, mf)] = μ := rb_ov_sf _ _ (And.intro hrd (And.intro ha (And.intro hag (And.intro hmf True.intro))))
  have hfin : ∀ u0 : rb_Row, rb_ov μ [(21, u0), (20, a), (22, ag), (19, mf)] = rb_ov μ [(21, u0)] := fun u0 => rb_ov_ap _ [(21, u0)] _ (And.intro ha (And.intro hag (And.intro hmf True.intro)))
  refine rb_ctz (w := [(21, rd), (20, a), (22, ag), (19, mf)]) rfl pn_7 (Nat.le_of_ble_eq_true rfl) rfl hini ?_
  obtain ⟨t1, e2, h⟩ := rb_bd h
  refine ev_aload_n (v := 19) (pc := 0) dX7_isSomeLeft_0 rfl ?_
  refine ev_cVv0w (w' := [(21, t1), (20, a), (22, ag), (19, mf)]) (pc := 1) dX7_isSomeLeft_1 mv_X7_layReady lk_RX7_156 rp_19 (ct_X7_layReady _ _ _ _ rfl rfl e2) (Nat.le_of_ble_eq_true rfl) (Nat.le_of_ble_eq_true rfl) rfl ?_
  refine ev_iconst (v := 0) (pc := 4) dX7_isSomeLeft_4 ki_0 ?_
  refine ev_istore_n (L' := [some (.inr 19), some (.inl x0), some (.inl 0)]) (pc := 5) dX7_isSomeLeft_5 (Nat.le_of_ble_eq_true rfl) rfl ?_
  obtain ⟨q4, l5, h⟩ := rb_bd h
  have hx9 : ∀ z11 : Unit, q4 = .inl z11 → rb_Ev RX7 cX7_isSomeLeft 3 (some .boolean) none 6 (some o.1) (rb_ov μ [(21, o.2)]) 56 [none, none, none] [] (rb_ov μ [(21, t1), (20, a), (22, ag), (19, mf)]) := by
    intro z11 hz
    rw [hz] at h
    replace h := rb_sel h
    refine ev_iconst (v := 0) (pc := 56) dX7_isSomeLeft_56 ki_0 ?_
    obtain rfl := Option.some.inj h
    exact ev_iret (pc := 57) dX7_isSomeLeft_57 rfl rfl rfl (hfin _)
  have hr10 : ∀ w25 : Int32 × rb_Row, q4 = .inr w25 → w25 = o := by
    intro w25 hz
    rw [hz] at h
    replace h := rb_ser h
    exact Option.some.inj h
  refine rb_lp_ev (P := fun (s3 : Int32) => rb_Ev RX7 cX7_isSomeLeft 3 (some .boolean) none 6 (some o.1) (rb_ov μ [(21, o.2)]) 6 [some (.inr 19), some (.inl x0), some (.inl s3)] [] (rb_ov μ [(21, t1), (20, a), (22, ag), (19, mf)])) ?_ 100000 0 l5
  intro s3 y6 h ih7 hE8
  refine ev_iload_n (v := s3) (pc := 6) dX7_isSomeLeft_6 rfl ?_
  refine ev_bipush (v := 24) (pc := 7) dX7_isSomeLeft_7 kb_24 ?_
  by_cases b12 : 24 ≤ s3
  · rw [if_pos b12] at h
    refine ev_icmp_ge_t (t := 56) (pc := 9) dX7_isSomeLeft_9 (by decide) b12 ?_
    obtain rfl := Option.some.inj h
    exact ev_fg (L := [none, none, none]) True.intro (hx9 () (hE8 _ rfl).symm)
  · rw [if_neg b12] at h
    refine ev_icmp_ge_f (t := 56) (pc := 9) dX7_isSomeLeft_9 (by decide) b12 ?_
    obtain ⟨t13, e14, h⟩ := rb_bd h
    refine ev_aload_n (v := 19) (pc := 12) dX7_isSomeLeft_12 rfl ?_
    refine ev_iload_n (v := s3) (pc := 13) dX7_isSomeLeft_13 rfl ?_
    refine ev_iconst (v := 0) (pc := 14) dX7_isSomeLeft_14 ki_0 ?_
    refine ev_cVi2 (pc := 15) dX7_isSomeLeft_15 mv_X7_ofInterest lk_RX7_81 rp_19 (ct_X7_ofInterest _ _ _ _ _ rfl e14) (Nat.le_of_ble_eq_true rfl) (Nat.le_of_ble_eq_true rfl) ?_
    refine ev_iload_n (v := x0) (pc := 18) dX7_isSomeLeft_18 rfl ?_
    by_cases b15 : t13 = x0
    · rw [if_pos b15] at h
      refine ev_icmp_ne_f (t := 50) (pc := 19) dX7_isSomeLeft_19 (by decide) b15 ?_
      obtain ⟨t16, e17, h⟩ := rb_bd h
      refine ev_aload_n (v := 19) (pc := 22) dX7_isSomeLeft_22 rfl ?_
      refine ev_iload_n (v := s3) (pc := 23) dX7_isSomeLeft_23 rfl ?_
      refine ev_bipush (v := 7) (pc := 24) dX7_isSomeLeft_24 kb_7 ?_
      refine ev_cVi2 (pc := 26) dX7_isSomeLeft_26 mv_X7_ofInterest lk_RX7_81 rp_19 (ct_X7_ofInterest _ _ _ _ _ rfl e17) (Nat.le_of_ble_eq_true rfl) (Nat.le_of_ble_eq_true rfl) ?_
      by_cases b18 : t16 ≤ 0
      · rw [if_pos b18] at h
        refine ev_if_le_t (t := 50) (pc := 29) dX7_isSomeLeft_29 (by decide) b18 ?_
        refine ev_iinc (x := s3) (v := (s3 + 1)) (L' := [some (.inr 19), some (.inl x0), some (.inl (s3 + 1))]) (pc := 50) dX7_isSomeLeft_50 rfl (kx_1 _) (Nat.le_of_ble_eq_true rfl) rfl ?_
        refine ev_goto (t := 6) (pc := 53) dX7_isSomeLeft_53 (by decide) ?_
        obtain rfl := Option.some.inj h
        exact ih7 (s3 + 1) rfl
      · rw [if_neg b18] at h
        refine ev_if_le_f (t := 50) (pc := 29) dX7_isSomeLeft_29 (by decide) b18 ?_
        obtain ⟨t19, e20, h⟩ := rb_bd h
        refine ev_aload_n (v := 19) (pc := 32) dX7_isSomeLeft_32 rfl ?_
        refine ev_iload_n (v := s3) (pc := 33) dX7_isSomeLeft_33 rfl ?_
        refine ev_cVi1 (pc := 34) dX7_isSomeLeft_34 mv_X7_isTrue lk_RX7_140 rp_19 (ct_X7_isTrue _ _ _ _ _ rfl rfl e20) (Nat.le_of_ble_eq_true rfl) (Nat.le_of_ble_eq_true rfl) ?_
        by_cases b21 : t19 = 0
        · rw [if_pos b21] at h
          refine ev_if_eq_t (t := 50) (pc := 37) dX7_isSomeLeft_37 (by decide) b21 ?_
          refine ev_iinc (x := s3) (v := (s3 + 1)) (L' := [some (.inr 19), some (.inl x0), some (.inl (s3 + 1))]) (pc := 50) dX7_isSomeLeft_50 rfl (kx_1 _) (Nat.le_of_ble_eq_true rfl) rfl ?_
          refine ev_goto (t := 6) (pc := 53) dX7_isSomeLeft_53 (by decide) ?_
          obtain rfl := Option.some.inj h
          exact ih7 (s3 + 1) rfl
        · rw [if_neg b21] at h
          refine ev_if_eq_f (t := 50) (pc := 37) dX7_isSomeLeft_37 (by decide) b21 ?_
          obtain ⟨t22, e23, h⟩ := rb_bd h
          refine ev_aload_n (v := 19) (pc := 40) dX7_isSomeLeft_40 rfl ?_
          refine ev_iload_n (v := s3) (pc := 41) dX7_isSomeLeft_41 rfl ?_
          refine ev_cVi1 (pc := 42) dX7_isSomeLeft_42 mv_X7_wasAgain lk_RX7_170 rp_19 (ct_X7_wasAgain _ _ _ _ _ rfl rfl e23) (Nat.le_of_ble_eq_true rfl) (Nat.le_of_ble_eq_true rfl) ?_
          by_cases b24 : t22 = 0
          · rw [if_pos b24] at h
            refine ev_if_ne_f (t := 50) (pc := 45) dX7_isSomeLeft_45 (by decide) b24 ?_
            refine ev_iconst (v := 1) (pc := 48) dX7_isSomeLeft_48 ki_1 ?_
            obtain rfl := Option.some.inj h
            obtain rfl := hr10 _ (hE8 _ rfl).symm
            exact ev_iret (pc := 49) dX7_isSomeLeft_49 rfl rfl rfl (hfin _)
          · rw [if_neg b24] at h
            refine ev_if_ne_t (t := 50) (pc := 45) dX7_isSomeLeft_45 (by decide) b24 ?_
            refine ev_iinc (x := s3) (v := (s3 + 1)) (L' := [some (.inr 19), some (.inl x0), some (.inl (s3 + 1))]) (pc := 50) dX7_isSomeLeft_50 rfl (kx_1 _) (Nat.le_of_ble_eq_true rfl) rfl ?_
            refine ev_goto (t := 6) (pc := 53) dX7_isSomeLeft_53 (by decide) ?_
            obtain rfl := Option.some.inj h
            exact ih7 (s3 + 1) rfl
    · rw [if_neg b15] at h
      refine ev_icmp_ne_t (t := 50) (pc := 19) dX7_isSomeLeft_19 (by decide) b15 ?_
      refine ev_iinc (x := s3) (v := (s3 + 1)) (L' := [some (.inr 19), some (.inl x0), some (.inl (s3 + 1))]) (pc := 50) dX7_isSomeLeft_50 rfl (kx_1 _) (Nat.le_of_ble_eq_true rfl) rfl ?_
      refine ev_goto (t := 6) (pc := 53) dX7_isSomeLeft_53 (by decide) ?_
      obtain rfl := Option.some.inj h
      exact ih7 (s3 + 1) rfl
def XX7_wake (a : rb_Row) (rd : rb_Row) (ag : rb_Row) (mf : rb_Row) (x0 : Int32) : Option (Int32 × rb_Row × rb_Row × rb_Row × rb_Row) := (rb_lp (ρ := (Int32 × rb_Row × rb_Row × rb_Row × rb_Row) ⊕ (Int32 × rb_Row × rb_Row × rb_Row × rb_Row)) (fun (s1 : Int32 × Int32 × Int32 × rb_Row × rb_Row × rb_Row × rb_Row) => if 6 ≤ s1.2.2.1 then some (.inr (.inl (s1.1, s1.2.2.2.1, s1.2.2.2.2.1, s1.2.2.2.2.2.1, s1.2.2.2.2.2.2))) else if s1.2.1 = 0 then some (.inr (.inl (s1.1, s1.2.2.2.1, s1.2.2.2.2.1, s1.2.2.2.2.2.1, s1.2.2.2.2.2.2))) else (XX7_sleeperBehind s1.2.2.2.1 x0 0).bind fun t12 => if 0 ≤ t12 then (XX7_ofTask s1.2.2.2.1 t12 2).bind fun t15 => (XX7_goCollect s1.2.2.2.1 s1.2.2.2.2.1 s1.2.2.2.2.2.1 s1.2.2.2.2.2.2 t12 x0 t15).bind fun t17 => if t17.1 = 0 then (XX7_taskAt t12 7).bind fun t20 => (rb_rd t17.2.1 796 t20).bind fun v22 => (rb_wr t17.2.1 796 t20 (v22 + 1)).bind fun a24 => some (.inr (.inr ((rb_nz s1.1), a24, t17.2.2.1, t17.2.2.2.1, t17.2.2.2.2))) else (XX7_taskAt t12 6).bind fun t26 => (rb_rd t17.2.1 796 t26).bind fun v28 => (rb_wr t17.2.1 796 t26 (v28 + 1)).bind fun a30 => (XX7_sleepNoMore a30 t12).bind fun t32 => (XX7_isSomeLeft t17.2.2.1 t32 t17.2.2.2.1 t17.2.2.2.2 x0).bind fun t34 => some (.inl (1, t34.1, (s1.2.2.1 + 1), t32, t34.2, t17.2.2.2.1, t17.2.2.2.2)) else some (.inr (.inr ((rb_nz s1.1), s1.2.2.2.1, s1.2.2.2.2.1, s1.2.2.2.2.2.1, s1.2.2.2.2.2.2)))) 100000 (0, 1, 0, a, rd, ag, mf)).bind fun q2 => Sum.elim (fun (z9 : Int32 × rb_Row × rb_Row × rb_Row × rb_Row) => some ((rb_nz z9.1), z9.2.1, z9.2.2.1, z9.2.2.2.1, z9.2.2.2.2)) (fun (w36 : Int32 × rb_Row × rb_Row × rb_Row × rb_Row) => some w36) q2
set_option maxHeartbeats 4000000 in
set_option maxRecDepth 20000 in
theorem ct_X7_wake (μ : rb_Mem) (a : rb_Row) (rd : rb_Row) (ag : rb_Row) (mf : rb_Row) (x0 : Int32) (o : Int32 × rb_Row × rb_Row × rb_Row × rb_Row) (ha : μ 20 = a) (hrd : μ 21 = rd) (hag : μ 22 = ag) (hmf : μ 19 = mf) (h : XX7_wake a rd ag mf x0 = some o) : rb_Ct yX7_wake cX7_wake 6 (some .boolean) 7 [.inr 19, .inl x0] μ (some o.1) (rb_ov μ [(20, o.2.1), (21, o.2.2.1), (22, o.2.2.2.1), (19, o.2.2.2.2)]) := by
  unfold XX7_wake at h
  have hini : rb_ov μ [(20, a), (21, rd), (22, ag), (19, mf)] = μ := rb_ov_sf _ _ (And.intro ha (And.intro hrd (And.intro hag (And.intro hmf True.intro))))
  have hfin : ∀ u0 u1 u2 u3 : rb_Row, rb_ov μ [(20, u0), (21, u1), (22, u2), (19, u3)] = rb_ov μ [(20, u0), (21, u1), (22, u2), (19, u3)] := fun u0 u1 u2 u3 => rfl
  refine rb_ctz (w := [(20, a), (21, rd), (22, ag), (19, mf)]) rfl pn_7 (Nat.le_of_ble_eq_true rfl) rfl hini ?_
  refine ev_iconst (v := 0) (pc := 0) dX7_wake_0 ki_0 ?_
  refine ev_istore_n (L' := [some (.inr 19), some (.inl x0), some (.inl 0), none, none, none]) (pc := 1) dX7_wake_1 (Nat.le_of_ble_eq_true rfl) rfl ?_
  refine ev_iconst (v := 1) (pc := 2) dX7_wake_2 ki_1 ?_
  refine ev_istore_n (L' := [some (.inr 19), some (.inl x0), some (.inl 0), some (.inl 1), none, none]) (pc := 3) dX7_wake_3 (Nat.le_of_ble_eq_true rfl) rfl ?_
  refine ev_iconst (v := 0) (pc := 4) dX7_wake_4 ki_0 ?_
  refine ev_istore (L' := [some (.inr 19), some (.inl x0), some (.inl 0), some (.inl 1), some (.inl 0), none]) (pc := 5) dX7_wake_5 (Nat.le_of_ble_eq_true rfl) rfl ?_
  obtain ⟨q2, l3, h⟩ := rb_bd h
  have hx7 : ∀ z9 : Int32 × rb_Row × rb_Row × rb_Row × rb_Row, q2 = .inl z9 → rb_Ev RX7 cX7_wake 6 (some .boolean) none 7 (some o.1) (rb_ov μ [(20, o.2.1), (21, o.2.2.1), (22, o.2.2.2.1), (19, o.2.2.2.2)]) 104 [none, none, some (.inl z9.1), none, none, none] [] (rb_ov μ [(20, z9.2.1), (21, z9.2.2.1), (22, z9.2.2.2.1), (19, z9.2.2.2.2)]) := by
    intro z9 hz
    rw [hz] at h
    replace h := rb_sel h
    refine ev_iload_n (v := z9.1) (pc := 104) dX7_wake_104 rfl ?_
    obtain rfl := Option.some.inj h
    exact ev_iret (pc := 105) dX7_wake_105 rfl rfl rfl (hfin _ _ _ _)
  have hr8 : ∀ w36 : Int32 × rb_Row × rb_Row × rb_Row × rb_Row, q2 = .inr w36 → w36 = o := by
    intro w36 hz
    rw [hz] at h
    replace h := rb_ser h
    exact Option.some.inj h
  refine rb_lp_ev (P := fun (s1 : Int32 × Int32 × Int32 × rb_Row × rb_Row × rb_Row × rb_Row) => rb_Ev RX7 cX7_wake 6 (some .boolean) none 7 (some o.1) (rb_ov μ [(20, o.2.1), (21, o.2.2.1), (22, o.2.2.2.1), (19, o.2.2.2.2)]) 7 [some (.inr 19), some (.inl x0), some (.inl s1.1), some (.inl s1.2.1), some (.inl s1.2.2.1), none] [] (rb_ov μ [(20, s1.2.2.2.1), (21, s1.2.2.2.2.1), (22, s1.2.2.2.2.2.1), (19, s1.2.2.2.2.2.2)])) ?_ 100000 (0, 1, 0, a, rd, ag, mf) l3
  intro s1 y4 h ih5 hE6
  refine ev_iload (v := s1.2.2.1) (pc := 7) dX7_wake_7 rfl ?_
  refine ev_bipush (v := 6) (pc := 9) dX7_wake_9 kb_6 ?_
  by_cases b10 : 6 ≤ s1.2.2.1
  · rw [if_pos b10] at h
    refine ev_icmp_ge_t (t := 104) (pc := 11) dX7_wake_11 (by decide) b10 ?_
    obtain rfl := Option.some.inj h
    exact ev_fg (L := [none, none, some (.inl s1.1), none, none, none]) (And.intro rfl True.intro) (hx7 (s1.1, s1.2.2.2.1, s1.2.2.2.2.1, s1.2.2.2.2.2.1, s1.2.2.2.2.2.2) (hE6 _ rfl).symm)
  · rw [if_neg b10] at h
    refine ev_icmp_ge_f (t := 104) (pc := 11) dX7_wake_11 (by decide) b10 ?_
    refine ev_iload_n (v := s1.2.1) (pc := 14) dX7_wake_14 rfl ?_
    by_cases b11 : s1.2.1 = 0
    · rw [if_pos b11] at h
      refine ev_if_eq_t (t := 104) (pc := 15) dX7_wake_15 (by decide) b11 ?_
      obtain rfl := Option.some.inj h
      exact ev_fg (L := [none, none, some (.inl s1.1), none, none, none]) (And.intro rfl True.intro) (hx7 (s1.1, s1.2.2.2.1, s1.2.2.2.2.1, s1.2.2.2.2.2.1, s1.2.2.2.2.2.2) (hE6 _ rfl).symm)
    · rw [if_neg b11] at h
      refine ev_if_eq_f (t := 104) (pc := 15) dX7_wake_15 (by decide) b11 ?_
      obtain ⟨t12, e13, h⟩ := rb_bd h
      refine ev_aload_n (v := 19) (pc := 18) dX7_wake_18 rfl ?_
      refine ev_iload_n (v := x0) (pc := 19) dX7_wake_19 rfl ?_
      refine ev_iconst (v := 0) (pc := 20) dX7_wake_20 ki_0 ?_
      refine ev_cVi2 (pc := 21) dX7_wake_21 mv_X7_sleeperBehind lk_RX7_173 rp_19 (ct_X7_sleeperBehind _ _ _ _ _ rfl e13) (Nat.le_of_ble_eq_true rfl) (Nat.le_of_ble_eq_true rfl) ?_
      refine ev_istore (L' := [some (.inr 19), some (.inl x0), some (.inl s1.1), some (.inl s1.2.1), some (.inl s1.2.2.1), some (.inl t12)]) (pc := 24) dX7_wake_24 (Nat.le_of_ble_eq_true rfl) rfl ?_
      refine ev_iload (v := t12) (pc := 26) dX7_wake_26 rfl ?_
      by_cases b14 : 0 ≤ t12
      · rw [if_pos b14] at h
        refine ev_if_ge_t (t := 33) (pc := 28) dX7_wake_28 (by decide) b14 ?_
        obtain ⟨t15, e16, h⟩ := rb_bd h
        obtain ⟨t17, e18, h⟩ := rb_bd h
        refine ev_aload_n (v := 19) (pc := 33) dX7_wake_33 rfl ?_
        refine ev_iload (v := t12) (pc := 34) dX7_wake_34 rfl ?_
        refine ev_iload_n (v := x0) (pc := 36) dX7_wake_36 rfl ?_
        refine ev_aload_n (v := 19) (pc := 37) dX7_wake_37 rfl ?_
        refine ev_iload (v := t12) (pc := 38) dX7_wake_38 rfl ?_
        refine ev_iconst (v := 2) (pc := 40) dX7_wake_40 ki_2 ?_
        refine ev_cVi2 (pc := 41) dX7_wake_41 mv_X7_ofTask lk_RX7_84 rp_19 (ct_X7_ofTask _ _ _ _ _ rfl e16) (Nat.le_of_ble_eq_true rfl) (Nat.le_of_ble_eq_true rfl) ?_
        refine ev_cVi3w (w' := [(20, t17.2.1), (21, t17.2.2.1), (22, t17.2.2.2.1), (19, t17.2.2.2.2)]) (pc := 44) dX7_wake_44 mv_X7_goCollect lk_RX7_176 rp_19 (ct_X7_goCollect _ _ _ _ _ _ _ _ _ rfl rfl rfl rfl e18) (Nat.le_of_ble_eq_true rfl) (Nat.le_of_ble_eq_true rfl) rfl ?_
        by_cases b19 : t17.1 = 0
        · rw [if_pos b19] at h
          refine ev_if_ne_f (t := 68) (pc := 47) dX7_wake_47 (by decide) b19 ?_
          obtain ⟨t20, e21, h⟩ := rb_bd h
          obtain ⟨v22, e23, h⟩ := rb_bd h
          obtain ⟨a24, e25, h⟩ := rb_bd h
          refine ev_aload_n (v := 19) (pc := 50) dX7_wake_50 rfl ?_
          refine ev_getr (q := 20) (pc := 51) dX7_wake_51 fl_RX7_7 rfl rfl ?_
          refine ev_iload (v := t12) (pc := 54) dX7_wake_54 rfl ?_
          refine ev_bipush (v := 7) (pc := 56) dX7_wake_56 kb_7 ?_
          refine ev_cSi2 (pc := 58) dX7_wake_58 ms_X7_taskAt lk_RX7_63 (ct_X7_taskAt _ _ _ _ e21) (Nat.le_of_ble_eq_true rfl) (Nat.le_of_ble_eq_true rfl) ?_
          refine ev_dup2 (pc := 61) dX7_wake_61 ?_
          refine ev_iald (pc := 62) dX7_wake_62 rfl e23 ?_
          refine ev_iconst (v := 1) (pc := 63) dX7_wake_63 ki_1 ?_
          refine ev_iadd (pc := 64) dX7_wake_64 ?_
          refine ev_iast (w' := [(20, a24), (21, t17.2.2.1), (22, t17.2.2.2.1), (19, t17.2.2.2.2)]) (pc := 65) dX7_wake_65 rfl e25 rfl ?_
          refine ev_iload_n (v := s1.1) (pc := 66) dX7_wake_66 rfl ?_
          obtain rfl := Option.some.inj h
          obtain rfl := hr8 _ (hE6 _ rfl).symm
          exact ev_iret (pc := 67) dX7_wake_67 rfl rfl rfl (hfin _ _ _ _)
        · rw [if_neg b19] at h
          refine ev_if_ne_t (t := 68) (pc := 47) dX7_wake_47 (by decide) b19 ?_
          obtain ⟨t26, e27, h⟩ := rb_bd h
          obtain ⟨v28, e29, h⟩ := rb_bd h
          obtain ⟨a30, e31, h⟩ := rb_bd h
          obtain ⟨t32, e33, h⟩ := rb_bd h
          obtain ⟨t34, e35, h⟩ := rb_bd h
          refine ev_iconst (v := 1) (pc := 68) dX7_wake_68 ki_1 ?_
          refine ev_istore_n (L' := [some (.inr 19), some (.inl x0), some (.inl 1), some (.inl s1.2.1), some (.inl s1.2.2.1), some (.inl t12)]) (pc := 69) dX7_wake_69 (Nat.le_of_ble_eq_true rfl) rfl ?_
          refine ev_aload_n (v := 19) (pc := 70) dX7_wake_70 rfl ?_
          refine ev_getr (q := 20) (pc := 71) dX7_wake_71 fl_RX7_7 rfl rfl ?_
          refine ev_iload (v := t12) (pc := 74) dX7_wake_74 rfl ?_
          refine ev_bipush (v := 6) (pc := 76) dX7_wake_76 kb_6 ?_
          refine ev_cSi2 (pc := 78) dX7_wake_78 ms_X7_taskAt lk_RX7_63 (ct_X7_taskAt _ _ _ _ e27) (Nat.le_of_ble_eq_true rfl) (Nat.le_of_ble_eq_true rfl) ?_
          refine ev_dup2 (pc := 81) dX7_wake_81 ?_
          refine ev_iald (pc := 82) dX7_wake_82 rfl e29 ?_
          refine ev_iconst (v := 1) (pc := 83) dX7_wake_83 ki_1 ?_
          refine ev_iadd (pc := 84) dX7_wake_84 ?_
          refine ev_iast (w' := [(20, a30), (21, t17.2.2.1), (22, t17.2.2.2.1), (19, t17.2.2.2.2)]) (pc := 85) dX7_wake_85 rfl e31 rfl ?_
          refine ev_aload_n (v := 19) (pc := 86) dX7_wake_86 rfl ?_
          refine ev_iload (v := t12) (pc := 87) dX7_wake_87 rfl ?_
          refine ev_cVv1w (w' := [(20, t32), (21, t17.2.2.1), (22, t17.2.2.2.1), (19, t17.2.2.2.2)]) (pc := 89) dX7_wake_89 mv_X7_sleepNoMore lk_RX7_180 rp_19 (ct_X7_sleepNoMore _ _ _ _ rfl e33) (Nat.le_of_ble_eq_true rfl) (Nat.le_of_ble_eq_true rfl) rfl ?_
          refine ev_aload_n (v := 19) (pc := 92) dX7_wake_92 rfl ?_
          refine ev_iload_n (v := x0) (pc := 93) dX7_wake_93 rfl ?_
          refine ev_cVi1w (w' := [(20, t32), (21, t34.2), (22, t17.2.2.2.1), (19, t17.2.2.2.2)]) (pc := 94) dX7_wake_94 mv_X7_isSomeLeft lk_RX7_183 rp_19 (ct_X7_isSomeLeft _ _ _ _ _ _ _ rfl rfl rfl rfl e35) (Nat.le_of_ble_eq_true rfl) (Nat.le_of_ble_eq_true rfl) rfl ?_
          refine ev_istore_n (L' := [some (.inr 19), some (.inl x0), some (.inl 1), some (.inl t34.1), some (.inl s1.2.2.1), some (.inl t12)]) (pc := 97) dX7_wake_97 (Nat.le_of_ble_eq_true rfl) rfl ?_
          refine ev_iinc (x := s1.2.2.1) (v := (s1.2.2.1 + 1)) (L' := [some (.inr 19), some (.inl x0), some (.inl 1), some (.inl t34.1), some (.inl (s1.2.2.1 + 1)), some (.inl t12)]) (pc := 98) dX7_wake_98 rfl (kx_1 _) (Nat.le_of_ble_eq_true rfl) rfl ?_
          refine ev_goto (t := 7) (pc := 101) dX7_wake_101 (by decide) ?_
          obtain rfl := Option.some.inj h
          exact ev_fg (L := [some (.inr 19), some (.inl x0), some (.inl 1), some (.inl t34.1), some (.inl (s1.2.2.1 + 1)), none]) (And.intro rfl (And.intro rfl (And.intro rfl (And.intro rfl (And.intro rfl True.intro))))) (ih5 (1, t34.1, (s1.2.2.1 + 1), t32, t34.2, t17.2.2.2.1, t17.2.2.2.2) rfl)
      · rw [if_neg b14] at h
        refine ev_if_ge_f (t := 33) (pc := 28) dX7_wake_28 (by decide) b14 ?_
        refine ev_iload_n (v := s1.1) (pc := 31) dX7_wake_31 rfl ?_
        obtain rfl := Option.some.inj h
        obtain rfl := hr8 _ (hE6 _ rfl).symm
        exact ev_iret (pc := 32) dX7_wake_32 rfl rfl rfl (hfin _ _ _ _)
def XX7_goOnWith (a : rb_Row) (rd : rb_Row) (ag : rb_Row) (mf : rb_Row) (na : rb_Row) (nb : rb_Row) (nl : rb_Row) (sv : rb_Row) (x0 : Int32) : Option (rb_Row × rb_Row × rb_Row × rb_Row × rb_Row × rb_Row × rb_Row × rb_Row) := (rb_lp (ρ := rb_Row × rb_Row × rb_Row × rb_Row × rb_Row × rb_Row × rb_Row × rb_Row) (fun (s1 : Int32 × rb_Row × rb_Row × rb_Row × rb_Row × rb_Row × rb_Row × rb_Row × rb_Row) => if s1.1 < x0 then some (.inr (s1.2.1, s1.2.2.1, s1.2.2.2.1, s1.2.2.2.2.1, s1.2.2.2.2.2.1, s1.2.2.2.2.2.2.1, s1.2.2.2.2.2.2.2.1, s1.2.2.2.2.2.2.2.2)) else (rb_rd s1.2.2.2.2.2.1 6 s1.1).bind fun v10 => (rb_rd s1.2.2.2.2.2.2.2.1 6 s1.1).bind fun v12 => (XX7_addedBehind s1.2.1 v10 0 v12).bind fun t14 => if 0 ≤ t14 then (XX7_ofInterest s1.2.1 t14 6).bind fun t17 => (rb_wr s1.2.2.2.2.2.2.2.1 6 s1.1 t17).bind fun nl19 => (XX7_ofInterest s1.2.1 t14 4).bind fun t21 => ((if (t21 &&& 4) = 0 then some 0 else some 1) : Option (Int32)).bind fun j23 => (XX7_ofInterest s1.2.1 t14 5).bind fun t27 => if t27 = 0 then some (.inl (s1.1, s1.2.1, s1.2.2.1, s1.2.2.2.1, s1.2.2.2.2.1, s1.2.2.2.2.2.1, s1.2.2.2.2.2.2.1, nl19, s1.2.2.2.2.2.2.2.2)) else (XX7_bitsOf s1.2.1 t14).bind fun t30 => (rb_rd s1.2.2.2.2.2.2.1 6 s1.1).bind fun v32 => if (t30 &&& v32) = 0 then some (.inl (s1.1, s1.2.1, s1.2.2.1, s1.2.2.2.1, s1.2.2.2.2.1, s1.2.2.2.2.2.1, s1.2.2.2.2.2.2.1, nl19, s1.2.2.2.2.2.2.2.2)) else if j23 = 0 then (XX7_list s1.2.1 t14).bind fun t36 => (XX7_interestAt t14 8).bind fun t38 => (rb_rd t36 796 t38).bind fun v40 => (rb_wr t36 796 t38 (v40 + 1)).bind fun a42 => (XX7_ofInterest a42 t14 0).bind fun t44 => (XX7_lowestOf a42 t44).bind fun t46 => (rb_pf s1.2.2.2.2.1 11 ((s1.2.2.2.2.1 11) ||| (1 <<< (t46 &&& 31)))).bind fun mf48 => (XX7_wake a42 s1.2.2.1 s1.2.2.2.1 mf48 t44).bind fun t50 => ((if j23 = 0 then some s1.2.2.2.2.2.2.2.2 else if t50.1 = 0 then some s1.2.2.2.2.2.2.2.2 else (rb_wr s1.2.2.2.2.2.2.2.2 6 s1.1 (rb_nz 1)).bind fun sv57 => some sv57) : Option (rb_Row)).bind fun j52 => (XX7_beginNotice s1.2.2.2.2.2.1 s1.2.2.2.2.2.2.1 nl19 j52 (s1.1 + 1) t44 1).bind fun t59 => some (.inl ((s1.1 + 1), t50.2.1, t50.2.2.1, t50.2.2.2.1, t50.2.2.2.2, t59.1, t59.2.1, t59.2.2.1, t59.2.2.2)) else (rb_rd s1.2.2.2.2.2.2.2.2 6 s1.1).bind fun v61 => if v61 = 0 then (XX7_list s1.2.1 t14).bind fun t64 => (XX7_interestAt t14 8).bind fun t66 => (rb_rd t64 796 t66).bind fun v68 => (rb_wr t64 796 t66 (v68 + 1)).bind fun a70 => (XX7_ofInterest a70 t14 0).bind fun t72 => (XX7_lowestOf a70 t72).bind fun t74 => (rb_pf s1.2.2.2.2.1 11 ((s1.2.2.2.2.1 11) ||| (1 <<< (t74 &&& 31)))).bind fun mf76 => (XX7_wake a70 s1.2.2.1 s1.2.2.2.1 mf76 t72).bind fun t78 => ((if j23 = 0 then some s1.2.2.2.2.2.2.2.2 else if t78.1 = 0 then some s1.2.2.2.2.2.2.2.2 else (rb_wr s1.2.2.2.2.2.2.2.2 6 s1.1 (rb_nz 1)).bind fun sv85 => some sv85) : Option (rb_Row)).bind fun j80 => (XX7_beginNotice s1.2.2.2.2.2.1 s1.2.2.2.2.2.2.1 nl19 j80 (s1.1 + 1) t72 1).bind fun t87 => some (.inl ((s1.1 + 1), t78.2.1, t78.2.2.1, t78.2.2.2.1, t78.2.2.2.2, t87.1, t87.2.1, t87.2.2.1, t87.2.2.2)) else some (.inl (s1.1, s1.2.1, s1.2.2.1, s1.2.2.2.1, s1.2.2.2.2.1, s1.2.2.2.2.2.1, s1.2.2.2.2.2.2.1, nl19, s1.2.2.2.2.2.2.2.2)) else some (.inl ((s1.1 + (-1)), s1.2.1, s1.2.2.1, s1.2.2.2.1, s1.2.2.2.2.1, s1.2.2.2.2.2.1, s1.2.2.2.2.2.2.1, s1.2.2.2.2.2.2.2.1, s1.2.2.2.2.2.2.2.2))) 100000 (x0, a, rd, ag, mf, na, nb, nl, sv)).bind fun q2 => some (q2.1, q2.2.1, q2.2.2.1, q2.2.2.2.1, q2.2.2.2.2.1, q2.2.2.2.2.2.1, q2.2.2.2.2.2.2.1, q2.2.2.2.2.2.2.2)
set_option maxHeartbeats 4000000 in
set_option maxRecDepth 20000 in
theorem ct_X7_goOnWith (μ : rb_Mem) (a : rb_Row) (rd : rb_Row) (ag : rb_Row) (mf : rb_Row) (na : rb_Row) (nb : rb_Row) (nl : rb_Row) (sv : rb_Row) (x0 : Int32) (o : rb_Row × rb_Row × rb_Row × rb_Row × rb_Row × rb_Row × rb_Row × rb_Row) (ha : μ 20 = a) (hrd : μ 21 = rd) (hag : μ 22 = ag) (hmf : μ 19 = mf) (hna : μ 23 = na) (hnb : μ 24 = nb) (hnl : μ 25 = nl) (hsv : μ 26 = sv) (h : XX7_goOnWith a rd ag mf na nb nl sv x0 = some o) : rb_Ct yX7_goOnWith cX7_goOnWith 7 none 8 [.inr 19, .inl x0] μ none (rb_ov μ [(20, o.1), (21, o.2.1), (22, o.2.2.1), (19, o.2.2.2.1), (23, o.2.2.2.2.1), (24, o.2.2.2.2.2.1), (25, o.2.2.2.2.2.2.1), (26, o.2.2.2.2.2.2.2)]) := by
  unfold XX7_goOnWith at h
  have hini : rb_ov μ [(20, a), (21, rd), (22, ag), (19, mf), (23, na), (24, nb), (25, nl), (26, sv)] = μ := rb_ov_sf _ _ (And.intro ha (And.intro hrd (And.intro hag (And.intro hmf (And.intro hna (And.intro hnb (And.intro hnl (And.intro hsv True.intro))))))))
  have hfin : ∀ u0 u1 u2 u3 u4 u5 u6 u7 : rb_Row, rb_ov μ [(20, u0), (21, u1), (22, u2), (19, u3), (23, u4), (24, u5), (25, u6), (26, u7)] = rb_ov μ [(20, u0), (21, u1), (22, u2), (19, u3), (23, u4), (24, u5), (25, u6), (26, u7)] := fun u0 u1 u2 u3 u4 u5 u6 u7 => rfl
  refine rb_ctv (w := [(20, a), (21, rd), (22, ag), (19, mf), (23, na), (24, nb), (25, nl), (26, sv)]) rfl pn_7 (Nat.le_of_ble_eq_true rfl) rfl hini ?_
  refine ev_iload_n (v := x0) (pc := 0) dX7_goOnWith_0 rfl ?_
  refine ev_istore_n (L' := [some (.inr 19), some (.inl x0), some (.inl x0), none, none, none, none]) (pc := 1) dX7_goOnWith_1 (Nat.le_of_ble_eq_true rfl) rfl ?_
  obtain ⟨q2, l3, h⟩ := rb_bd h
  have hx7 : rb_Ev RX7 cX7_goOnWith 7 none none 8 none (rb_ov μ [(20, o.1), (21, o.2.1), (22, o.2.2.1), (19, o.2.2.2.1), (23, o.2.2.2.2.1), (24, o.2.2.2.2.2.1), (25, o.2.2.2.2.2.2.1), (26, o.2.2.2.2.2.2.2)]) 191 [none, none, none, none, none, none, none] [] (rb_ov μ [(20, q2.1), (21, q2.2.1), (22, q2.2.2.1), (19, q2.2.2.2.1), (23, q2.2.2.2.2.1), (24, q2.2.2.2.2.2.1), (25, q2.2.2.2.2.2.2.1), (26, q2.2.2.2.2.2.2.2)]) := by
    obtain rfl := Option.some.inj h
    exact ev_ret (pc := 191) dX7_goOnWith_191 rfl rfl (hfin _ _ _ _ _ _ _ _)
  refine rb_lp_ev (P := fun (s1 : Int32 × rb_Row × rb_Row × rb_Row × rb_Row × rb_Row × rb_Row × rb_Row × rb_Row) => rb_Ev RX7 cX7_goOnWith 7 none none 8 none (rb_ov μ [(20, o.1), (21, o.2.1), (22, o.2.2.1), (19, o.2.2.2.1), (23, o.2.2.2.2.1), (24, o.2.2.2.2.2.1), (25, o.2.2.2.2.2.2.1), (26, o.2.2.2.2.2.2.2)]) 2 [some (.inr 19), some (.inl x0), some (.inl s1.1), none, none, none, none] [] (rb_ov μ [(20, s1.2.1), (21, s1.2.2.1), (22, s1.2.2.2.1), (19, s1.2.2.2.2.1), (23, s1.2.2.2.2.2.1), (24, s1.2.2.2.2.2.2.1), (25, s1.2.2.2.2.2.2.2.1), (26, s1.2.2.2.2.2.2.2.2)])) ?_ 100000 (x0, a, rd, ag, mf, na, nb, nl, sv) l3
  intro s1 y4 h ih5 hE6
  refine ev_iload_n (v := s1.1) (pc := 2) dX7_goOnWith_2 rfl ?_
  refine ev_iload_n (v := x0) (pc := 3) dX7_goOnWith_3 rfl ?_
  by_cases b9 : s1.1 < x0
  · rw [if_pos b9] at h
    refine ev_icmp_lt_t (t := 191) (pc := 4) dX7_goOnWith_4 (by decide) b9 ?_
    obtain rfl := Option.some.inj h
    obtain rfl := hE6 _ rfl
    exact ev_fg (L := [none, none, none, none, none, none, none]) True.intro (hx7)
  · rw [if_neg b9] at h
    refine ev_icmp_lt_f (t := 191) (pc := 4) dX7_goOnWith_4 (by decide) b9 ?_
    obtain ⟨v10, e11, h⟩ := rb_bd h
    obtain ⟨v12, e13, h⟩ := rb_bd h
    obtain ⟨t14, e15, h⟩ := rb_bd h
    refine ev_aload_n (v := 19) (pc := 7) dX7_goOnWith_7 rfl ?_
    refine ev_aload_n (v := 19) (pc := 8) dX7_goOnWith_8 rfl ?_
    refine ev_getr (q := 23) (pc := 9) dX7_goOnWith_9 fl_RX7_19 rfl rfl ?_
    refine ev_iload_n (v := s1.1) (pc := 12) dX7_goOnWith_12 rfl ?_
    refine ev_iald (pc := 13) dX7_goOnWith_13 rfl e11 ?_
    refine ev_iconst (v := 0) (pc := 14) dX7_goOnWith_14 ki_0 ?_
    refine ev_aload_n (v := 19) (pc := 15) dX7_goOnWith_15 rfl ?_
    refine ev_getr (q := 25) (pc := 16) dX7_goOnWith_16 fl_RX7_25 rfl rfl ?_
    refine ev_iload_n (v := s1.1) (pc := 19) dX7_goOnWith_19 rfl ?_
    refine ev_iald (pc := 20) dX7_goOnWith_20 rfl e13 ?_
    refine ev_cVi3 (pc := 21) dX7_goOnWith_21 mv_X7_addedBehind lk_RX7_192 rp_19 (ct_X7_addedBehind _ _ _ _ _ _ rfl e15) (Nat.le_of_ble_eq_true rfl) (Nat.le_of_ble_eq_true rfl) ?_
    refine ev_istore_n (L' := [some (.inr 19), some (.inl x0), some (.inl s1.1), some (.inl t14), none, none, none]) (pc := 24) dX7_goOnWith_24 (Nat.le_of_ble_eq_true rfl) rfl ?_
    refine ev_iload_n (v := t14) (pc := 25) dX7_goOnWith_25 rfl ?_
    by_cases b16 : 0 ≤ t14
    · rw [if_pos b16] at h
      refine ev_if_ge_t (t := 35) (pc := 26) dX7_goOnWith_26 (by decide) b16 ?_
      obtain ⟨t17, e18, h⟩ := rb_bd h
      obtain ⟨nl19, e20, h⟩ := rb_bd h
      obtain ⟨t21, e22, h⟩ := rb_bd h
      refine ev_aload_n (v := 19) (pc := 35) dX7_goOnWith_35 rfl ?_
      refine ev_getr (q := 25) (pc := 36) dX7_goOnWith_36 fl_RX7_25 rfl rfl ?_
      refine ev_iload_n (v := s1.1) (pc := 39) dX7_goOnWith_39 rfl ?_
      refine ev_aload_n (v := 19) (pc := 40) dX7_goOnWith_40 rfl ?_
      refine ev_iload_n (v := t14) (pc := 41) dX7_goOnWith_41 rfl ?_
      refine ev_bipush (v := 6) (pc := 42) dX7_goOnWith_42 kb_6 ?_
      refine ev_cVi2 (pc := 44) dX7_goOnWith_44 mv_X7_ofInterest lk_RX7_81 rp_19 (ct_X7_ofInterest _ _ _ _ _ rfl e18) (Nat.le_of_ble_eq_true rfl) (Nat.le_of_ble_eq_true rfl) ?_
      refine ev_iast (w' := [(20, s1.2.1), (21, s1.2.2.1), (22, s1.2.2.2.1), (19, s1.2.2.2.2.1), (23, s1.2.2.2.2.2.1), (24, s1.2.2.2.2.2.2.1), (25, nl19), (26, s1.2.2.2.2.2.2.2.2)]) (pc := 47) dX7_goOnWith_47 rfl e20 rfl ?_
      refine ev_aload_n (v := 19) (pc := 48) dX7_goOnWith_48 rfl ?_
      refine ev_iload_n (v := t14) (pc := 49) dX7_goOnWith_49 rfl ?_
      refine ev_iconst (v := 4) (pc := 50) dX7_goOnWith_50 ki_4 ?_
      refine ev_cVi2 (pc := 51) dX7_goOnWith_51 mv_X7_ofInterest lk_RX7_81 rp_19 (ct_X7_ofInterest _ _ _ _ _ rfl e22) (Nat.le_of_ble_eq_true rfl) (Nat.le_of_ble_eq_true rfl) ?_
      refine ev_iconst (v := 4) (pc := 54) dX7_goOnWith_54 ki_4 ?_
      refine ev_iand (pc := 55) dX7_goOnWith_55 ?_
      obtain ⟨j23, e24, h⟩ := rb_bd h
      have hj25 : rb_Ev RX7 cX7_goOnWith 7 none none 8 none (rb_ov μ [(20, o.1), (21, o.2.1), (22, o.2.2.1), (19, o.2.2.2.1), (23, o.2.2.2.2.1), (24, o.2.2.2.2.2.1), (25, o.2.2.2.2.2.2.1), (26, o.2.2.2.2.2.2.2)]) 64 [some (.inr 19), some (.inl x0), some (.inl s1.1), some (.inl t14), none, none, none] [.inl j23] (rb_ov μ [(20, s1.2.1), (21, s1.2.2.1), (22, s1.2.2.2.1), (19, s1.2.2.2.2.1), (23, s1.2.2.2.2.2.1), (24, s1.2.2.2.2.2.2.1), (25, nl19), (26, s1.2.2.2.2.2.2.2.2)]) := by
        obtain ⟨t27, e28, h⟩ := rb_bd h
        refine ev_istore (L' := [some (.inr 19), some (.inl x0), some (.inl s1.1), some (.inl t14), some (.inl j23), none, none]) (pc := 64) dX7_goOnWith_64 (Nat.le_of_ble_eq_true rfl) rfl ?_
        refine ev_aload_n (v := 19) (pc := 66) dX7_goOnWith_66 rfl ?_
        refine ev_iload_n (v := t14) (pc := 67) dX7_goOnWith_67 rfl ?_
        refine ev_iconst (v := 5) (pc := 68) dX7_goOnWith_68 ki_5 ?_
        refine ev_cVi2 (pc := 69) dX7_goOnWith_69 mv_X7_ofInterest lk_RX7_81 rp_19 (ct_X7_ofInterest _ _ _ _ _ rfl e28) (Nat.le_of_ble_eq_true rfl) (Nat.le_of_ble_eq_true rfl) ?_
        by_cases b29 : t27 = 0
        · rw [if_pos b29] at h
          refine ev_if_eq_t (t := 2) (pc := 72) dX7_goOnWith_72 (by decide) b29 ?_
          obtain rfl := Option.some.inj h
          exact ev_fg (L := [some (.inr 19), some (.inl x0), some (.inl s1.1), none, none, none, none]) (And.intro rfl (And.intro rfl (And.intro rfl True.intro))) (ih5 (s1.1, s1.2.1, s1.2.2.1, s1.2.2.2.1, s1.2.2.2.2.1, s1.2.2.2.2.2.1, s1.2.2.2.2.2.2.1, nl19, s1.2.2.2.2.2.2.2.2) rfl)
        · rw [if_neg b29] at h
          refine ev_if_eq_f (t := 2) (pc := 72) dX7_goOnWith_72 (by decide) b29 ?_
          obtain ⟨t30, e31, h⟩ := rb_bd h
          obtain ⟨v32, e33, h⟩ := rb_bd h
          refine ev_aload_n (v := 19) (pc := 75) dX7_goOnWith_75 rfl ?_
          refine ev_iload_n (v := t14) (pc := 76) dX7_goOnWith_76 rfl ?_
          refine ev_cVi1 (pc := 77) dX7_goOnWith_77 mv_X7_bitsOf lk_RX7_137 rp_19 (ct_X7_bitsOf _ _ _ _ rfl e31) (Nat.le_of_ble_eq_true rfl) (Nat.le_of_ble_eq_true rfl) ?_
          refine ev_aload_n (v := 19) (pc := 80) dX7_goOnWith_80 rfl ?_
          refine ev_getr (q := 24) (pc := 81) dX7_goOnWith_81 fl_RX7_22 rfl rfl ?_
          refine ev_iload_n (v := s1.1) (pc := 84) dX7_goOnWith_84 rfl ?_
          refine ev_iald (pc := 85) dX7_goOnWith_85 rfl e33 ?_
          refine ev_iand (pc := 86) dX7_goOnWith_86 ?_
          by_cases b34 : (t30 &&& v32) = 0
          · rw [if_pos b34] at h
            refine ev_if_eq_t (t := 2) (pc := 87) dX7_goOnWith_87 (by decide) b34 ?_
            obtain rfl := Option.some.inj h
            exact ev_fg (L := [some (.inr 19), some (.inl x0), some (.inl s1.1), none, none, none, none]) (And.intro rfl (And.intro rfl (And.intro rfl True.intro))) (ih5 (s1.1, s1.2.1, s1.2.2.1, s1.2.2.2.1, s1.2.2.2.2.1, s1.2.2.2.2.2.1, s1.2.2.2.2.2.2.1, nl19, s1.2.2.2.2.2.2.2.2) rfl)
          · rw [if_neg b34] at h
            refine ev_if_eq_f (t := 2) (pc := 87) dX7_goOnWith_87 (by decide) b34 ?_
            refine ev_iload (v := j23) (pc := 90) dX7_goOnWith_90 rfl ?_
            by_cases b35 : j23 = 0
            · rw [if_pos b35] at h
              refine ev_if_eq_t (t := 107) (pc := 92) dX7_goOnWith_92 (by decide) b35 ?_
              obtain ⟨t36, e37, h⟩ := rb_bd h
              obtain ⟨t38, e39, h⟩ := rb_bd h
              obtain ⟨v40, e41, h⟩ := rb_bd h
              obtain ⟨a42, e43, h⟩ := rb_bd h
              obtain ⟨t44, e45, h⟩ := rb_bd h
              obtain ⟨t46, e47, h⟩ := rb_bd h
              obtain ⟨mf48, e49, h⟩ := rb_bd h
              obtain ⟨t50, e51, h⟩ := rb_bd h
              refine ev_aload_n (v := 19) (pc := 107) dX7_goOnWith_107 rfl ?_
              refine ev_iload_n (v := t14) (pc := 108) dX7_goOnWith_108 rfl ?_
              refine ev_cVv1w (w' := [(20, t36), (21, s1.2.2.1), (22, s1.2.2.2.1), (19, s1.2.2.2.2.1), (23, s1.2.2.2.2.2.1), (24, s1.2.2.2.2.2.2.1), (25, nl19), (26, s1.2.2.2.2.2.2.2.2)]) (pc := 109) dX7_goOnWith_109 mv_X7_list lk_RX7_166 rp_19 (ct_X7_list _ _ _ _ rfl e37) (Nat.le_of_ble_eq_true rfl) (Nat.le_of_ble_eq_true rfl) rfl ?_
              refine ev_aload_n (v := 19) (pc := 112) dX7_goOnWith_112 rfl ?_
              refine ev_getr (q := 20) (pc := 113) dX7_goOnWith_113 fl_RX7_7 rfl rfl ?_
              refine ev_iload_n (v := t14) (pc := 116) dX7_goOnWith_116 rfl ?_
              refine ev_bipush (v := 8) (pc := 117) dX7_goOnWith_117 kb_8 ?_
              refine ev_cSi2 (pc := 119) dX7_goOnWith_119 ms_X7_interestAt lk_RX7_60 (ct_X7_interestAt _ _ _ _ e39) (Nat.le_of_ble_eq_true rfl) (Nat.le_of_ble_eq_true rfl) ?_
              refine ev_dup2 (pc := 122) dX7_goOnWith_122 ?_
              refine ev_iald (pc := 123) dX7_goOnWith_123 rfl e41 ?_
              refine ev_iconst (v := 1) (pc := 124) dX7_goOnWith_124 ki_1 ?_
              refine ev_iadd (pc := 125) dX7_goOnWith_125 ?_
              refine ev_iast (w' := [(20, a42), (21, s1.2.2.1), (22, s1.2.2.2.1), (19, s1.2.2.2.2.1), (23, s1.2.2.2.2.2.1), (24, s1.2.2.2.2.2.2.1), (25, nl19), (26, s1.2.2.2.2.2.2.2.2)]) (pc := 126) dX7_goOnWith_126 rfl e43 rfl ?_
              refine ev_aload_n (v := 19) (pc := 127) dX7_goOnWith_127 rfl ?_
              refine ev_iload_n (v := t14) (pc := 128) dX7_goOnWith_128 rfl ?_
              refine ev_iconst (v := 0) (pc := 129) dX7_goOnWith_129 ki_0 ?_
              refine ev_cVi2 (pc := 130) dX7_goOnWith_130 mv_X7_ofInterest lk_RX7_81 rp_19 (ct_X7_ofInterest _ _ _ _ _ rfl e45) (Nat.le_of_ble_eq_true rfl) (Nat.le_of_ble_eq_true rfl) ?_
              refine ev_istore (L' := [some (.inr 19), some (.inl x0), some (.inl s1.1), some (.inl t14), some (.inl j23), some (.inl t44), none]) (pc := 133) dX7_goOnWith_133 (Nat.le_of_ble_eq_true rfl) rfl ?_
              refine ev_aload_n (v := 19) (pc := 135) dX7_goOnWith_135 rfl ?_
              refine ev_dup (pc := 136) dX7_goOnWith_136 ?_
              refine ev_geti (v := (s1.2.2.2.2.1 11)) (pc := 137) dX7_goOnWith_137 fl_RX7_196 rfl rfl rfl ?_
              refine ev_iconst (v := 1) (pc := 140) dX7_goOnWith_140 ki_1 ?_
              refine ev_aload_n (v := 19) (pc := 141) dX7_goOnWith_141 rfl ?_
              refine ev_iload (v := t44) (pc := 142) dX7_goOnWith_142 rfl ?_
              refine ev_cVi1 (pc := 144) dX7_goOnWith_144 mv_X7_lowestOf lk_RX7_199 rp_19 (ct_X7_lowestOf _ _ _ _ rfl e47) (Nat.le_of_ble_eq_true rfl) (Nat.le_of_ble_eq_true rfl) ?_
              refine ev_ishl (pc := 147) dX7_goOnWith_147 ?_
              refine ev_ior (pc := 148) dX7_goOnWith_148 ?_
              refine ev_putw (w' := [(20, a42), (21, s1.2.2.1), (22, s1.2.2.2.1), (19, mf48), (23, s1.2.2.2.2.2.1), (24, s1.2.2.2.2.2.2.1), (25, nl19), (26, s1.2.2.2.2.2.2.2.2)]) (pc := 149) dX7_goOnWith_149 fp_RX7_196 rfl rfl e49 rfl ?_
              refine ev_aload_n (v := 19) (pc := 152) dX7_goOnWith_152 rfl ?_
              refine ev_iload (v := t44) (pc := 153) dX7_goOnWith_153 rfl ?_
              refine ev_cVi1w (w' := [(20, t50.2.1), (21, t50.2.2.1), (22, t50.2.2.2.1), (19, t50.2.2.2.2), (23, s1.2.2.2.2.2.1), (24, s1.2.2.2.2.2.2.1), (25, nl19), (26, s1.2.2.2.2.2.2.2.2)]) (pc := 155) dX7_goOnWith_155 mv_X7_wake lk_RX7_202 rp_19 (ct_X7_wake _ _ _ _ _ _ _ rfl rfl rfl rfl e51) (Nat.le_of_ble_eq_true rfl) (Nat.le_of_ble_eq_true rfl) rfl ?_
              refine ev_istore (L' := [some (.inr 19), some (.inl x0), some (.inl s1.1), some (.inl t14), some (.inl j23), some (.inl t44), some (.inl t50.1)]) (pc := 158) dX7_goOnWith_158 (Nat.le_of_ble_eq_true rfl) rfl ?_
              refine ev_iload (v := j23) (pc := 160) dX7_goOnWith_160 rfl ?_
              obtain ⟨j52, e53, h⟩ := rb_bd h
              have hj54 : rb_Ev RX7 cX7_goOnWith 7 none none 8 none (rb_ov μ [(20, o.1), (21, o.2.1), (22, o.2.2.1), (19, o.2.2.2.1), (23, o.2.2.2.2.1), (24, o.2.2.2.2.2.1), (25, o.2.2.2.2.2.2.1), (26, o.2.2.2.2.2.2.2)]) 177 [some (.inr 19), some (.inl x0), some (.inl s1.1), none, none, some (.inl t44), none] [] (rb_ov μ [(20, t50.2.1), (21, t50.2.2.1), (22, t50.2.2.2.1), (19, t50.2.2.2.2), (23, s1.2.2.2.2.2.1), (24, s1.2.2.2.2.2.2.1), (25, nl19), (26, j52)]) := by
                obtain ⟨t59, e60, h⟩ := rb_bd h
                refine ev_iinc (x := s1.1) (v := (s1.1 + 1)) (L' := [some (.inr 19), some (.inl x0), some (.inl (s1.1 + 1)), none, none, some (.inl t44), none]) (pc := 177) dX7_goOnWith_177 rfl (kx_1 _) (Nat.le_of_ble_eq_true rfl) rfl ?_
                refine ev_aload_n (v := 19) (pc := 180) dX7_goOnWith_180 rfl ?_
                refine ev_iload_n (v := (s1.1 + 1)) (pc := 181) dX7_goOnWith_181 rfl ?_
                refine ev_iload (v := t44) (pc := 182) dX7_goOnWith_182 rfl ?_
                refine ev_iconst (v := 1) (pc := 184) dX7_goOnWith_184 ki_1 ?_
                refine ev_cVv3w (w' := [(20, t50.2.1), (21, t50.2.2.1), (22, t50.2.2.2.1), (19, t50.2.2.2.2), (23, t59.1), (24, t59.2.1), (25, t59.2.2.1), (26, t59.2.2.2)]) (pc := 185) dX7_goOnWith_185 mv_X7_beginNotice lk_RX7_186 rp_19 (ct_X7_beginNotice _ _ _ _ _ _ _ _ _ rfl rfl rfl rfl e60) (Nat.le_of_ble_eq_true rfl) (Nat.le_of_ble_eq_true rfl) rfl ?_
                refine ev_goto (t := 2) (pc := 188) dX7_goOnWith_188 (by decide) ?_
                obtain rfl := Option.some.inj h
                exact ev_fg (L := [some (.inr 19), some (.inl x0), some (.inl (s1.1 + 1)), none, none, none, none]) (And.intro rfl (And.intro rfl (And.intro rfl True.intro))) (ih5 ((s1.1 + 1), t50.2.1, t50.2.2.1, t50.2.2.2.1, t50.2.2.2.2, t59.1, t59.2.1, t59.2.2.1, t59.2.2.2) rfl)
              replace h := e53
              by_cases b55 : j23 = 0
              · rw [if_pos b55] at h
                refine ev_if_eq_t (t := 177) (pc := 162) dX7_goOnWith_162 (by decide) b55 ?_
                obtain rfl := Option.some.inj h
                exact ev_fg (L := [some (.inr 19), some (.inl x0), some (.inl s1.1), none, none, some (.inl t44), none]) (And.intro rfl (And.intro rfl (And.intro rfl (And.intro rfl True.intro)))) (hj54)
              · rw [if_neg b55] at h
                refine ev_if_eq_f (t := 177) (pc := 162) dX7_goOnWith_162 (by decide) b55 ?_
                refine ev_iload (v := t50.1) (pc := 165) dX7_goOnWith_165 rfl ?_
                by_cases b56 : t50.1 = 0
                · rw [if_pos b56] at h
                  refine ev_if_eq_t (t := 177) (pc := 167) dX7_goOnWith_167 (by decide) b56 ?_
                  obtain rfl := Option.some.inj h
                  exact ev_fg (L := [some (.inr 19), some (.inl x0), some (.inl s1.1), none, none, some (.inl t44), none]) (And.intro rfl (And.intro rfl (And.intro rfl (And.intro rfl True.intro)))) (hj54)
                · rw [if_neg b56] at h
                  refine ev_if_eq_f (t := 177) (pc := 167) dX7_goOnWith_167 (by decide) b56 ?_
                  obtain ⟨sv57, e58, h⟩ := rb_bd h
                  refine ev_aload_n (v := 19) (pc := 170) dX7_goOnWith_170 rfl ?_
                  refine ev_getr (q := 26) (pc := 171) dX7_goOnWith_171 fl_RX7_28 rfl rfl ?_
                  refine ev_iload_n (v := s1.1) (pc := 174) dX7_goOnWith_174 rfl ?_
                  refine ev_iconst (v := 1) (pc := 175) dX7_goOnWith_175 ki_1 ?_
                  refine ev_zast (w' := [(20, t50.2.1), (21, t50.2.2.1), (22, t50.2.2.2.1), (19, t50.2.2.2.2), (23, s1.2.2.2.2.2.1), (24, s1.2.2.2.2.2.2.1), (25, nl19), (26, sv57)]) (pc := 176) dX7_goOnWith_176 rfl e58 rfl ?_
                  obtain rfl := Option.some.inj h
                  exact ev_fg (L := [some (.inr 19), some (.inl x0), some (.inl s1.1), none, none, some (.inl t44), none]) (And.intro rfl (And.intro rfl (And.intro rfl (And.intro rfl True.intro)))) (hj54)
            · rw [if_neg b35] at h
              refine ev_if_eq_f (t := 107) (pc := 92) dX7_goOnWith_92 (by decide) b35 ?_
              obtain ⟨v61, e62, h⟩ := rb_bd h
              refine ev_aload_n (v := 19) (pc := 95) dX7_goOnWith_95 rfl ?_
              refine ev_getr (q := 26) (pc := 96) dX7_goOnWith_96 fl_RX7_28 rfl rfl ?_
              refine ev_iload_n (v := s1.1) (pc := 99) dX7_goOnWith_99 rfl ?_
              refine ev_zald (pc := 100) dX7_goOnWith_100 rfl e62 ?_
              by_cases b63 : v61 = 0
              · rw [if_pos b63] at h
                refine ev_if_eq_t (t := 107) (pc := 101) dX7_goOnWith_101 (by decide) b63 ?_
                obtain ⟨t64, e65, h⟩ := rb_bd h
                obtain ⟨t66, e67, h⟩ := rb_bd h
                obtain ⟨v68, e69, h⟩ := rb_bd h
                obtain ⟨a70, e71, h⟩ := rb_bd h
                obtain ⟨t72, e73, h⟩ := rb_bd h
                obtain ⟨t74, e75, h⟩ := rb_bd h
                obtain ⟨mf76, e77, h⟩ := rb_bd h
                obtain ⟨t78, e79, h⟩ := rb_bd h
                refine ev_aload_n (v := 19) (pc := 107) dX7_goOnWith_107 rfl ?_
                refine ev_iload_n (v := t14) (pc := 108) dX7_goOnWith_108 rfl ?_
                refine ev_cVv1w (w' := [(20, t64), (21, s1.2.2.1), (22, s1.2.2.2.1), (19, s1.2.2.2.2.1), (23, s1.2.2.2.2.2.1), (24, s1.2.2.2.2.2.2.1), (25, nl19), (26, s1.2.2.2.2.2.2.2.2)]) (pc := 109) dX7_goOnWith_109 mv_X7_list lk_RX7_166 rp_19 (ct_X7_list _ _ _ _ rfl e65) (Nat.le_of_ble_eq_true rfl) (Nat.le_of_ble_eq_true rfl) rfl ?_
                refine ev_aload_n (v := 19) (pc := 112) dX7_goOnWith_112 rfl ?_
                refine ev_getr (q := 20) (pc := 113) dX7_goOnWith_113 fl_RX7_7 rfl rfl ?_
                refine ev_iload_n (v := t14) (pc := 116) dX7_goOnWith_116 rfl ?_
                refine ev_bipush (v := 8) (pc := 117) dX7_goOnWith_117 kb_8 ?_
                refine ev_cSi2 (pc := 119) dX7_goOnWith_119 ms_X7_interestAt lk_RX7_60 (ct_X7_interestAt _ _ _ _ e67) (Nat.le_of_ble_eq_true rfl) (Nat.le_of_ble_eq_true rfl) ?_
                refine ev_dup2 (pc := 122) dX7_goOnWith_122 ?_
                refine ev_iald (pc := 123) dX7_goOnWith_123 rfl e69 ?_
                refine ev_iconst (v := 1) (pc := 124) dX7_goOnWith_124 ki_1 ?_
                refine ev_iadd (pc := 125) dX7_goOnWith_125 ?_
                refine ev_iast (w' := [(20, a70), (21, s1.2.2.1), (22, s1.2.2.2.1), (19, s1.2.2.2.2.1), (23, s1.2.2.2.2.2.1), (24, s1.2.2.2.2.2.2.1), (25, nl19), (26, s1.2.2.2.2.2.2.2.2)]) (pc := 126) dX7_goOnWith_126 rfl e71 rfl ?_
                refine ev_aload_n (v := 19) (pc := 127) dX7_goOnWith_127 rfl ?_
                refine ev_iload_n (v := t14) (pc := 128) dX7_goOnWith_128 rfl ?_
                refine ev_iconst (v := 0) (pc := 129) dX7_goOnWith_129 ki_0 ?_
                refine ev_cVi2 (pc := 130) dX7_goOnWith_130 mv_X7_ofInterest lk_RX7_81 rp_19 (ct_X7_ofInterest _ _ _ _ _ rfl e73) (Nat.le_of_ble_eq_true rfl) (Nat.le_of_ble_eq_true rfl) ?_
                refine ev_istore (L' := [some (.inr 19), some (.inl x0), some (.inl s1.1), some (.inl t14), some (.inl j23), some (.inl t72), none]) (pc := 133) dX7_goOnWith_133 (Nat.le_of_ble_eq_true rfl) rfl ?_
                refine ev_aload_n (v := 19) (pc := 135) dX7_goOnWith_135 rfl ?_
                refine ev_dup (pc := 136) dX7_goOnWith_136 ?_
                refine ev_geti (v := (s1.2.2.2.2.1 11)) (pc := 137) dX7_goOnWith_137 fl_RX7_196 rfl rfl rfl ?_
                refine ev_iconst (v := 1) (pc := 140) dX7_goOnWith_140 ki_1 ?_
                refine ev_aload_n (v := 19) (pc := 141) dX7_goOnWith_141 rfl ?_
                refine ev_iload (v := t72) (pc := 142) dX7_goOnWith_142 rfl ?_
                refine ev_cVi1 (pc := 144) dX7_goOnWith_144 mv_X7_lowestOf lk_RX7_199 rp_19 (ct_X7_lowestOf _ _ _ _ rfl e75) (Nat.le_of_ble_eq_true rfl) (Nat.le_of_ble_eq_true rfl) ?_
                refine ev_ishl (pc := 147) dX7_goOnWith_147 ?_
                refine ev_ior (pc := 148) dX7_goOnWith_148 ?_
                refine ev_putw (w' := [(20, a70), (21, s1.2.2.1), (22, s1.2.2.2.1), (19, mf76), (23, s1.2.2.2.2.2.1), (24, s1.2.2.2.2.2.2.1), (25, nl19), (26, s1.2.2.2.2.2.2.2.2)]) (pc := 149) dX7_goOnWith_149 fp_RX7_196 rfl rfl e77 rfl ?_
                refine ev_aload_n (v := 19) (pc := 152) dX7_goOnWith_152 rfl ?_
                refine ev_iload (v := t72) (pc := 153) dX7_goOnWith_153 rfl ?_
                refine ev_cVi1w (w' := [(20, t78.2.1), (21, t78.2.2.1), (22, t78.2.2.2.1), (19, t78.2.2.2.2), (23, s1.2.2.2.2.2.1), (24, s1.2.2.2.2.2.2.1), (25, nl19), (26, s1.2.2.2.2.2.2.2.2)]) (pc := 155) dX7_goOnWith_155 mv_X7_wake lk_RX7_202 rp_19 (ct_X7_wake _ _ _ _ _ _ _ rfl rfl rfl rfl e79) (Nat.le_of_ble_eq_true rfl) (Nat.le_of_ble_eq_true rfl) rfl ?_
                refine ev_istore (L' := [some (.inr 19), some (.inl x0), some (.inl s1.1), some (.inl t14), some (.inl j23), some (.inl t72), some (.inl t78.1)]) (pc := 158) dX7_goOnWith_158 (Nat.le_of_ble_eq_true rfl) rfl ?_
                refine ev_iload (v := j23) (pc := 160) dX7_goOnWith_160 rfl ?_
                obtain ⟨j80, e81, h⟩ := rb_bd h
                have hj82 : rb_Ev RX7 cX7_goOnWith 7 none none 8 none (rb_ov μ [(20, o.1), (21, o.2.1), (22, o.2.2.1), (19, o.2.2.2.1), (23, o.2.2.2.2.1), (24, o.2.2.2.2.2.1), (25, o.2.2.2.2.2.2.1), (26, o.2.2.2.2.2.2.2)]) 177 [some (.inr 19), some (.inl x0), some (.inl s1.1), none, none, some (.inl t72), none] [] (rb_ov μ [(20, t78.2.1), (21, t78.2.2.1), (22, t78.2.2.2.1), (19, t78.2.2.2.2), (23, s1.2.2.2.2.2.1), (24, s1.2.2.2.2.2.2.1), (25, nl19), (26, j80)]) := by
                  obtain ⟨t87, e88, h⟩ := rb_bd h
                  refine ev_iinc (x := s1.1) (v := (s1.1 + 1)) (L' := [some (.inr 19), some (.inl x0), some (.inl (s1.1 + 1)), none, none, some (.inl t72), none]) (pc := 177) dX7_goOnWith_177 rfl (kx_1 _) (Nat.le_of_ble_eq_true rfl) rfl ?_
                  refine ev_aload_n (v := 19) (pc := 180) dX7_goOnWith_180 rfl ?_
                  refine ev_iload_n (v := (s1.1 + 1)) (pc := 181) dX7_goOnWith_181 rfl ?_
                  refine ev_iload (v := t72) (pc := 182) dX7_goOnWith_182 rfl ?_
                  refine ev_iconst (v := 1) (pc := 184) dX7_goOnWith_184 ki_1 ?_
                  refine ev_cVv3w (w' := [(20, t78.2.1), (21, t78.2.2.1), (22, t78.2.2.2.1), (19, t78.2.2.2.2), (23, t87.1), (24, t87.2.1), (25, t87.2.2.1), (26, t87.2.2.2)]) (pc := 185) dX7_goOnWith_185 mv_X7_beginNotice lk_RX7_186 rp_19 (ct_X7_beginNotice _ _ _ _ _ _ _ _ _ rfl rfl rfl rfl e88) (Nat.le_of_ble_eq_true rfl) (Nat.le_of_ble_eq_true rfl) rfl ?_
                  refine ev_goto (t := 2) (pc := 188) dX7_goOnWith_188 (by decide) ?_
                  obtain rfl := Option.some.inj h
                  exact ev_fg (L := [some (.inr 19), some (.inl x0), some (.inl (s1.1 + 1)), none, none, none, none]) (And.intro rfl (And.intro rfl (And.intro rfl True.intro))) (ih5 ((s1.1 + 1), t78.2.1, t78.2.2.1, t78.2.2.2.1, t78.2.2.2.2, t87.1, t87.2.1, t87.2.2.1, t87.2.2.2) rfl)
                replace h := e81
                by_cases b83 : j23 = 0
                · rw [if_pos b83] at h
                  refine ev_if_eq_t (t := 177) (pc := 162) dX7_goOnWith_162 (by decide) b83 ?_
                  obtain rfl := Option.some.inj h
                  exact ev_fg (L := [some (.inr 19), some (.inl x0), some (.inl s1.1), none, none, some (.inl t72), none]) (And.intro rfl (And.intro rfl (And.intro rfl (And.intro rfl True.intro)))) (hj82)
                · rw [if_neg b83] at h
                  refine ev_if_eq_f (t := 177) (pc := 162) dX7_goOnWith_162 (by decide) b83 ?_
                  refine ev_iload (v := t78.1) (pc := 165) dX7_goOnWith_165 rfl ?_
                  by_cases b84 : t78.1 = 0
                  · rw [if_pos b84] at h
                    refine ev_if_eq_t (t := 177) (pc := 167) dX7_goOnWith_167 (by decide) b84 ?_
                    obtain rfl := Option.some.inj h
                    exact ev_fg (L := [some (.inr 19), some (.inl x0), some (.inl s1.1), none, none, some (.inl t72), none]) (And.intro rfl (And.intro rfl (And.intro rfl (And.intro rfl True.intro)))) (hj82)
                  · rw [if_neg b84] at h
                    refine ev_if_eq_f (t := 177) (pc := 167) dX7_goOnWith_167 (by decide) b84 ?_
                    obtain ⟨sv85, e86, h⟩ := rb_bd h
                    refine ev_aload_n (v := 19) (pc := 170) dX7_goOnWith_170 rfl ?_
                    refine ev_getr (q := 26) (pc := 171) dX7_goOnWith_171 fl_RX7_28 rfl rfl ?_
                    refine ev_iload_n (v := s1.1) (pc := 174) dX7_goOnWith_174 rfl ?_
                    refine ev_iconst (v := 1) (pc := 175) dX7_goOnWith_175 ki_1 ?_
                    refine ev_zast (w' := [(20, t78.2.1), (21, t78.2.2.1), (22, t78.2.2.2.1), (19, t78.2.2.2.2), (23, s1.2.2.2.2.2.1), (24, s1.2.2.2.2.2.2.1), (25, nl19), (26, sv85)]) (pc := 176) dX7_goOnWith_176 rfl e86 rfl ?_
                    obtain rfl := Option.some.inj h
                    exact ev_fg (L := [some (.inr 19), some (.inl x0), some (.inl s1.1), none, none, some (.inl t72), none]) (And.intro rfl (And.intro rfl (And.intro rfl (And.intro rfl True.intro)))) (hj82)
              · rw [if_neg b63] at h
                refine ev_if_eq_f (t := 107) (pc := 101) dX7_goOnWith_101 (by decide) b63 ?_
                refine ev_goto (t := 2) (pc := 104) dX7_goOnWith_104 (by decide) ?_
                obtain rfl := Option.some.inj h
                exact ev_fg (L := [some (.inr 19), some (.inl x0), some (.inl s1.1), none, none, none, none]) (And.intro rfl (And.intro rfl (And.intro rfl True.intro))) (ih5 (s1.1, s1.2.1, s1.2.2.1, s1.2.2.2.1, s1.2.2.2.2.1, s1.2.2.2.2.2.1, s1.2.2.2.2.2.2.1, nl19, s1.2.2.2.2.2.2.2.2) rfl)
      replace h := e24
      by_cases b26 : (t21 &&& 4) = 0
      · rw [if_pos b26] at h
        refine ev_if_eq_t (t := 63) (pc := 56) dX7_goOnWith_56 (by decide) b26 ?_
        refine ev_iconst (v := 0) (pc := 63) dX7_goOnWith_63 ki_0 ?_
        obtain rfl := Option.some.inj h
        exact hj25
      · rw [if_neg b26] at h
        refine ev_if_eq_f (t := 63) (pc := 56) dX7_goOnWith_56 (by decide) b26 ?_
        refine ev_iconst (v := 1) (pc := 59) dX7_goOnWith_59 ki_1 ?_
        refine ev_goto (t := 64) (pc := 60) dX7_goOnWith_60 (by decide) ?_
        obtain rfl := Option.some.inj h
        exact hj25
    · rw [if_neg b16] at h
      refine ev_if_ge_f (t := 35) (pc := 26) dX7_goOnWith_26 (by decide) b16 ?_
      refine ev_iinc (x := s1.1) (v := (s1.1 + (-1))) (L' := [some (.inr 19), some (.inl x0), some (.inl (s1.1 + (-1))), some (.inl t14), none, none, none]) (pc := 29) dX7_goOnWith_29 rfl (kx_m1 _) (Nat.le_of_ble_eq_true rfl) rfl ?_
      refine ev_goto (t := 2) (pc := 32) dX7_goOnWith_32 (by decide) ?_
      obtain rfl := Option.some.inj h
      exact ev_fg (L := [some (.inr 19), some (.inl x0), some (.inl (s1.1 + (-1))), none, none, none, none]) (And.intro rfl (And.intro rfl (And.intro rfl True.intro))) (ih5 ((s1.1 + (-1)), s1.2.1, s1.2.2.1, s1.2.2.2.1, s1.2.2.2.2.1, s1.2.2.2.2.2.1, s1.2.2.2.2.2.2.1, s1.2.2.2.2.2.2.2.1, s1.2.2.2.2.2.2.2.2) rfl)
def XX7_notice (a : rb_Row) (rd : rb_Row) (ag : rb_Row) (mf : rb_Row) (na : rb_Row) (nb : rb_Row) (nl : rb_Row) (sv : rb_Row) (x0 : Int32) (x1 : Int32) : Option (rb_Row × rb_Row × rb_Row × rb_Row × rb_Row × rb_Row × rb_Row × rb_Row) := (XX7_beginNotice na nb nl sv 0 x0 x1).bind fun t1 => (XX7_goOnWith a rd ag mf t1.1 t1.2.1 t1.2.2.1 t1.2.2.2 0).bind fun t3 => some (t3.1, t3.2.1, t3.2.2.1, t3.2.2.2.1, t3.2.2.2.2.1, t3.2.2.2.2.2.1, t3.2.2.2.2.2.2.1, t3.2.2.2.2.2.2.2)
set_option maxHeartbeats 4000000 in
set_option maxRecDepth 20000 in
theorem ct_X7_notice (μ : rb_Mem) (a : rb_Row) (rd : rb_Row) (ag : rb_Row) (mf : rb_Row) (na : rb_Row) (nb : rb_Row) (nl : rb_Row) (sv : rb_Row) (x0 : Int32) (x1 : Int32) (o : rb_Row × rb_Row × rb_Row × rb_Row × rb_Row × rb_Row × rb_Row × rb_Row) (ha : μ 20 = a) (hrd : μ 21 = rd) (hag : μ 22 = ag) (hmf : μ 19 = mf) (hna : μ 23 = na) (hnb : μ 24 = nb) (hnl : μ 25 = nl) (hsv : μ 26 = sv) (h : XX7_notice a rd ag mf na nb nl sv x0 x1 = some o) : rb_Ct yX7_notice cX7_notice 3 none 9 [.inr 19, .inl x0, .inl x1] μ none (rb_ov μ [(20, o.1), (21, o.2.1), (22, o.2.2.1), (19, o.2.2.2.1), (23, o.2.2.2.2.1), (24, o.2.2.2.2.2.1), (25, o.2.2.2.2.2.2.1), (26, o.2.2.2.2.2.2.2)]) := by
  unfold XX7_notice at h
  have hini : rb_ov μ [(20, a), (21, rd), (22, ag), (19, mf), (23, na), (24, nb), (25, nl), (26, sv)] = μ := rb_ov_sf _ _ (And.intro ha (And.intro hrd (And.intro hag (And.intro hmf (And.intro hna (And.intro hnb (And.intro hnl (And.intro hsv True.intro))))))))
  have hfin : ∀ u0 u1 u2 u3 u4 u5 u6 u7 : rb_Row, rb_ov μ [(20, u0), (21, u1), (22, u2), (19, u3), (23, u4), (24, u5), (25, u6), (26, u7)] = rb_ov μ [(20, u0), (21, u1), (22, u2), (19, u3), (23, u4), (24, u5), (25, u6), (26, u7)] := fun u0 u1 u2 u3 u4 u5 u6 u7 => rfl
  refine rb_ctv (w := [(20, a), (21, rd), (22, ag), (19, mf), (23, na), (24, nb), (25, nl), (26, sv)]) rfl pn_7 (Nat.le_of_ble_eq_true rfl) rfl hini ?_
  obtain ⟨t1, e2, h⟩ := rb_bd h
  obtain ⟨t3, e4, h⟩ := rb_bd h
  refine ev_aload_n (v := 19) (pc := 0) dX7_notice_0 rfl ?_
  refine ev_iconst (v := 0) (pc := 1) dX7_notice_1 ki_0 ?_
  refine ev_iload_n (v := x0) (pc := 2) dX7_notice_2 rfl ?_
  refine ev_iload_n (v := x1) (pc := 3) dX7_notice_3 rfl ?_
  refine ev_cVv3w (w' := [(20, a), (21, rd), (22, ag), (19, mf), (23, t1.1), (24, t1.2.1), (25, t1.2.2.1), (26, t1.2.2.2)]) (pc := 4) dX7_notice_4 mv_X7_beginNotice lk_RX7_186 rp_19 (ct_X7_beginNotice _ _ _ _ _ _ _ _ _ rfl rfl rfl rfl e2) (Nat.le_of_ble_eq_true rfl) (Nat.le_of_ble_eq_true rfl) rfl ?_
  refine ev_aload_n (v := 19) (pc := 7) dX7_notice_7 rfl ?_
  refine ev_iconst (v := 0) (pc := 8) dX7_notice_8 ki_0 ?_
  refine ev_cVv1w (w' := [(20, t3.1), (21, t3.2.1), (22, t3.2.2.1), (19, t3.2.2.2.1), (23, t3.2.2.2.2.1), (24, t3.2.2.2.2.2.1), (25, t3.2.2.2.2.2.2.1), (26, t3.2.2.2.2.2.2.2)]) (pc := 9) dX7_notice_9 mv_X7_goOnWith lk_RX7_189 rp_19 (ct_X7_goOnWith _ _ _ _ _ _ _ _ _ _ _ rfl rfl rfl rfl rfl rfl rfl rfl e4) (Nat.le_of_ble_eq_true rfl) (Nat.le_of_ble_eq_true rfl) rfl ?_
  obtain rfl := Option.some.inj h
  exact ev_ret (pc := 12) dX7_notice_12 rfl rfl (hfin _ _ _ _ _ _ _ _)
def XX7_goConnect (a : rb_Row) (rd : rb_Row) (ag : rb_Row) (mf : rb_Row) (na : rb_Row) (nb : rb_Row) (nl : rb_Row) (sv : rb_Row) (wa : rb_Row) (x0 : Int32) (x1 : Int32) : Option (Int32 × rb_Row × rb_Row × rb_Row × rb_Row × rb_Row × rb_Row × rb_Row × rb_Row × rb_Row) := (XX7_names a x0 5).bind fun t1 => if t1 = 0 then some ((-1), a, rd, ag, mf, na, nb, nl, sv, wa) else (XX7_freeHandle a).bind fun t4 => if 0 ≤ t4 then (rb_rd a 796 x0).bind fun v7 => (XX7_waitingAt a v7).bind fun t9 => (XX7_ofObject a v7 2).bind fun t11 => if t9 = t11 then some ((-2), a, rd, ag, mf, na, nb, nl, sv, wa) else (XX7_waitingAt a (-1)).bind fun t14 => if t14 = 12 then some ((-2), a, rd, ag, mf, na, nb, nl, sv, wa) else ((if x1 = 0 then some (mf, wa) else (XX7_keepAct mf wa a).bind fun t21 => some (t21.1, t21.2)) : Option (rb_Row × rb_Row)).bind fun j17 => (XX7_ofObject a v7 3).bind fun t23 => (XX7_newPipe a t23).bind fun t25 => (XX7_ofPipe t25.2 t25.1 2).bind fun t27 => (XX7_objectAt t27 4).bind fun t29 => (rb_wr t25.2 796 t29 v7).bind fun a31 => (XX7_ofPipe a31 t25.1 2).bind fun t33 => (XX7_objectAt t33 5).bind fun t35 => (XX7_stamp a31).bind fun t37 => (rb_wr t37.2 796 t35 t37.1).bind fun a39 => (XX7_ofPipe a39 t25.1 3).bind fun t41 => (XX7_newHandle a39 t41).bind fun t43 => (XX7_notice t43.2 rd ag j17.1 na nb nl sv v7 1).bind fun t45 => some (t43.1, t45.1, t45.2.1, t45.2.2.1, t45.2.2.2.1, t45.2.2.2.2.1, t45.2.2.2.2.2.1, t45.2.2.2.2.2.2.1, t45.2.2.2.2.2.2.2, j17.2) else some ((-1), a, rd, ag, mf, na, nb, nl, sv, wa)
set_option maxHeartbeats 4000000 in
set_option maxRecDepth 20000 in
theorem ct_X7_goConnect (μ : rb_Mem) (a : rb_Row) (rd : rb_Row) (ag : rb_Row) (mf : rb_Row) (na : rb_Row) (nb : rb_Row) (nl : rb_Row) (sv : rb_Row) (wa : rb_Row) (x0 : Int32) (x1 : Int32) (o : Int32 × rb_Row × rb_Row × rb_Row × rb_Row × rb_Row × rb_Row × rb_Row × rb_Row × rb_Row) (ha : μ 20 = a) (hrd : μ 21 = rd) (hag : μ 22 = ag) (hmf : μ 19 = mf) (hna : μ 23 = na) (hnb : μ 24 = nb) (hnl : μ 25 = nl) (hsv : μ 26 = sv) (hwa : μ 31 = wa) (h : XX7_goConnect a rd ag mf na nb nl sv wa x0 x1 = some o) : rb_Ct yX7_goConnect cX7_goConnect 6 (some .int) 10 [.inr 19, .inl x0, .inl x1] μ (some o.1) (rb_ov μ [(20, o.2.1), (21, o.2.2.1), (22, o.2.2.2.1), (19, o.2.2.2.2.1), (23, o.2.2.2.2.2.1), (24, o.2.2.2.2.2.2.1), (25, o.2.2.2.2.2.2.2.1), (26, o.2.2.2.2.2.2.2.2.1), (31, o.2.2.2.2.2.2.2.2.2)]) := by
  unfold XX7_goConnect at h
  have hini : rb_ov μ [(20, a), (21, rd), (22, ag), (19, mf), (23, na), (24, nb), (25, nl), (26, sv), (31, wa)] = μ := rb_ov_sf _ _ (And.intro ha (And.intro hrd (And.intro hag (And.intro hmf (And.intro hna (And.intro hnb (And.intro hnl (And.intro hsv (And.intro hwa True.intro)))))))))
  have hfin : ∀ u0 u1 u2 u3 u4 u5 u6 u7 u8 : rb_Row, rb_ov μ [(20, u0), (21, u1), (22, u2), (19, u3), (23, u4), (24, u5), (25, u6), (26, u7), (31, u8)] = rb_ov μ [(20, u0), (21, u1), (22, u2), (19, u3), (23, u4), (24, u5), (25, u6), (26, u7), (31, u8)] := fun u0 u1 u2 u3 u4 u5 u6 u7 u8 => rfl
  refine rb_cti (w := [(20, a), (21, rd), (22, ag), (19, mf), (23, na), (24, nb), (25, nl), (26, sv), (31, wa)]) rfl pn_7 (Nat.le_of_ble_eq_true rfl) rfl hini ?_
  obtain ⟨t1, e2, h⟩ := rb_bd h
  refine ev_aload_n (v := 19) (pc := 0) dX7_goConnect_0 rfl ?_
  refine ev_iload_n (v := x0) (pc := 1) dX7_goConnect_1 rfl ?_
  refine ev_iconst (v := 5) (pc := 2) dX7_goConnect_2 ki_5 ?_
  refine ev_cVi2 (pc := 3) dX7_goConnect_3 mv_X7_names lk_RX7_110 rp_19 (ct_X7_names _ _ _ _ _ rfl e2) (Nat.le_of_ble_eq_true rfl) (Nat.le_of_ble_eq_true rfl) ?_
  by_cases b3 : t1 = 0
  · rw [if_pos b3] at h
    refine ev_if_eq_t (t := 16) (pc := 6) dX7_goConnect_6 (by decide) b3 ?_
    refine ev_iconst (v := (-1)) (pc := 16) dX7_goConnect_16 ki_m1 ?_
    obtain rfl := Option.some.inj h
    exact ev_iret (pc := 17) dX7_goConnect_17 rfl rfl rfl (hfin _ _ _ _ _ _ _ _ _)
  · rw [if_neg b3] at h
    refine ev_if_eq_f (t := 16) (pc := 6) dX7_goConnect_6 (by decide) b3 ?_
    obtain ⟨t4, e5, h⟩ := rb_bd h
    refine ev_aload_n (v := 19) (pc := 9) dX7_goConnect_9 rfl ?_
    refine ev_cVi0 (pc := 10) dX7_goConnect_10 mv_X7_freeHandle lk_RX7_87 rp_19 (ct_X7_freeHandle _ _ _ rfl e5) (Nat.le_of_ble_eq_true rfl) (Nat.le_of_ble_eq_true rfl) ?_
    by_cases b6 : 0 ≤ t4
    · rw [if_pos b6] at h
      refine ev_if_ge_t (t := 18) (pc := 13) dX7_goConnect_13 (by decide) b6 ?_
      obtain ⟨v7, e8, h⟩ := rb_bd h
      obtain ⟨t9, e10, h⟩ := rb_bd h
      obtain ⟨t11, e12, h⟩ := rb_bd h
      refine ev_aload_n (v := 19) (pc := 18) dX7_goConnect_18 rfl ?_
      refine ev_getr (q := 20) (pc := 19) dX7_goConnect_19 fl_RX7_7 rfl rfl ?_
      refine ev_iload_n (v := x0) (pc := 22) dX7_goConnect_22 rfl ?_
      refine ev_iald (pc := 23) dX7_goConnect_23 rfl e8 ?_
      refine ev_istore_n (L' := [some (.inr 19), some (.inl x0), some (.inl x1), some (.inl v7), none, none]) (pc := 24) dX7_goConnect_24 (Nat.le_of_ble_eq_true rfl) rfl ?_
      refine ev_aload_n (v := 19) (pc := 25) dX7_goConnect_25 rfl ?_
      refine ev_iload_n (v := v7) (pc := 26) dX7_goConnect_26 rfl ?_
      refine ev_cVi1 (pc := 27) dX7_goConnect_27 mv_X7_waitingAt lk_RX7_114 rp_19 (ct_X7_waitingAt _ _ _ _ rfl e10) (Nat.le_of_ble_eq_true rfl) (Nat.le_of_ble_eq_true rfl) ?_
      refine ev_aload_n (v := 19) (pc := 30) dX7_goConnect_30 rfl ?_
      refine ev_iload_n (v := v7) (pc := 31) dX7_goConnect_31 rfl ?_
      refine ev_iconst (v := 2) (pc := 32) dX7_goConnect_32 ki_2 ?_
      refine ev_cVi2 (pc := 33) dX7_goConnect_33 mv_X7_ofObject lk_RX7_66 rp_19 (ct_X7_ofObject _ _ _ _ _ rfl e12) (Nat.le_of_ble_eq_true rfl) (Nat.le_of_ble_eq_true rfl) ?_
      by_cases b13 : t9 = t11
      · rw [if_pos b13] at h
        refine ev_icmp_eq_t (t := 49) (pc := 36) dX7_goConnect_36 (by decide) b13 ?_
        refine ev_bipush (v := (-2)) (pc := 49) dX7_goConnect_49 kb_m2 ?_
        obtain rfl := Option.some.inj h
        exact ev_iret (pc := 51) dX7_goConnect_51 rfl rfl rfl (hfin _ _ _ _ _ _ _ _ _)
      · rw [if_neg b13] at h
        refine ev_icmp_eq_f (t := 49) (pc := 36) dX7_goConnect_36 (by decide) b13 ?_
        obtain ⟨t14, e15, h⟩ := rb_bd h
        refine ev_aload_n (v := 19) (pc := 39) dX7_goConnect_39 rfl ?_
        refine ev_iconst (v := (-1)) (pc := 40) dX7_goConnect_40 ki_m1 ?_
        refine ev_cVi1 (pc := 41) dX7_goConnect_41 mv_X7_waitingAt lk_RX7_114 rp_19 (ct_X7_waitingAt _ _ _ _ rfl e15) (Nat.le_of_ble_eq_true rfl) (Nat.le_of_ble_eq_true rfl) ?_
        refine ev_bipush (v := 12) (pc := 44) dX7_goConnect_44 kb_12 ?_
        by_cases b16 : t14 = 12
        · rw [if_pos b16] at h
          refine ev_icmp_ne_f (t := 52) (pc := 46) dX7_goConnect_46 (by decide) b16 ?_
          refine ev_bipush (v := (-2)) (pc := 49) dX7_goConnect_49 kb_m2 ?_
          obtain rfl := Option.some.inj h
          exact ev_iret (pc := 51) dX7_goConnect_51 rfl rfl rfl (hfin _ _ _ _ _ _ _ _ _)
        · rw [if_neg b16] at h
          refine ev_icmp_ne_t (t := 52) (pc := 46) dX7_goConnect_46 (by decide) b16 ?_
          refine ev_iload_n (v := x1) (pc := 52) dX7_goConnect_52 rfl ?_
          obtain ⟨j17, e18, h⟩ := rb_bd h
          have hj19 : rb_Ev RX7 cX7_goConnect 6 (some .int) none 10 (some o.1) (rb_ov μ [(20, o.2.1), (21, o.2.2.1), (22, o.2.2.2.1), (19, o.2.2.2.2.1), (23, o.2.2.2.2.2.1), (24, o.2.2.2.2.2.2.1), (25, o.2.2.2.2.2.2.2.1), (26, o.2.2.2.2.2.2.2.2.1), (31, o.2.2.2.2.2.2.2.2.2)]) 60 [some (.inr 19), none, none, some (.inl v7), none, none] [] (rb_ov μ [(20, a), (21, rd), (22, ag), (19, j17.1), (23, na), (24, nb), (25, nl), (26, sv), (31, j17.2)]) := by
            obtain ⟨t23, e24, h⟩ := rb_bd h
            obtain ⟨t25, e26, h⟩ := rb_bd h
            obtain ⟨t27, e28, h⟩ := rb_bd h
            obtain ⟨t29, e30, h⟩ := rb_bd h
            obtain ⟨a31, e32, h⟩ := rb_bd h
            obtain ⟨t33, e34, h⟩ := rb_bd h
            obtain ⟨t35, e36, h⟩ := rb_bd h
            obtain ⟨t37, e38, h⟩ := rb_bd h
            obtain ⟨a39, e40, h⟩ := rb_bd h
            obtain ⟨t41, e42, h⟩ := rb_bd h
            obtain ⟨t43, e44, h⟩ := rb_bd h
            obtain ⟨t45, e46, h⟩ := rb_bd h
            refine ev_aload_n (v := 19) (pc := 60) dX7_goConnect_60 rfl ?_
            refine ev_aload_n (v := 19) (pc := 61) dX7_goConnect_61 rfl ?_
            refine ev_iload_n (v := v7) (pc := 62) dX7_goConnect_62 rfl ?_
            refine ev_iconst (v := 3) (pc := 63) dX7_goConnect_63 ki_3 ?_
            refine ev_cVi2 (pc := 64) dX7_goConnect_64 mv_X7_ofObject lk_RX7_66 rp_19 (ct_X7_ofObject _ _ _ _ _ rfl e24) (Nat.le_of_ble_eq_true rfl) (Nat.le_of_ble_eq_true rfl) ?_
            refine ev_cVi1w (w' := [(20, t25.2), (21, rd), (22, ag), (19, j17.1), (23, na), (24, nb), (25, nl), (26, sv), (31, j17.2)]) (pc := 67) dX7_goConnect_67 mv_X7_newPipe lk_RX7_104 rp_19 (ct_X7_newPipe _ _ _ _ rfl e26) (Nat.le_of_ble_eq_true rfl) (Nat.le_of_ble_eq_true rfl) rfl ?_
            refine ev_istore (L' := [some (.inr 19), none, none, some (.inl v7), some (.inl t25.1), none]) (pc := 70) dX7_goConnect_70 (Nat.le_of_ble_eq_true rfl) rfl ?_
            refine ev_aload_n (v := 19) (pc := 72) dX7_goConnect_72 rfl ?_
            refine ev_getr (q := 20) (pc := 73) dX7_goConnect_73 fl_RX7_7 rfl rfl ?_
            refine ev_aload_n (v := 19) (pc := 76) dX7_goConnect_76 rfl ?_
            refine ev_iload (v := t25.1) (pc := 77) dX7_goConnect_77 rfl ?_
            refine ev_iconst (v := 2) (pc := 79) dX7_goConnect_79 ki_2 ?_
            refine ev_cVi2 (pc := 80) dX7_goConnect_80 mv_X7_ofPipe lk_RX7_91 rp_19 (ct_X7_ofPipe _ _ _ _ _ rfl e28) (Nat.le_of_ble_eq_true rfl) (Nat.le_of_ble_eq_true rfl) ?_
            refine ev_iconst (v := 4) (pc := 83) dX7_goConnect_83 ki_4 ?_
            refine ev_cSi2 (pc := 84) dX7_goConnect_84 ms_X7_objectAt lk_RX7_53 (ct_X7_objectAt _ _ _ _ e30) (Nat.le_of_ble_eq_true rfl) (Nat.le_of_ble_eq_true rfl) ?_
            refine ev_iload_n (v := v7) (pc := 87) dX7_goConnect_87 rfl ?_
            refine ev_iast (w' := [(20, a31), (21, rd), (22, ag), (19, j17.1), (23, na), (24, nb), (25, nl), (26, sv), (31, j17.2)]) (pc := 88) dX7_goConnect_88 rfl e32 rfl ?_
            refine ev_aload_n (v := 19) (pc := 89) dX7_goConnect_89 rfl ?_
            refine ev_getr (q := 20) (pc := 90) dX7_goConnect_90 fl_RX7_7 rfl rfl ?_
            refine ev_aload_n (v := 19) (pc := 93) dX7_goConnect_93 rfl ?_
            refine ev_iload (v := t25.1) (pc := 94) dX7_goConnect_94 rfl ?_
            refine ev_iconst (v := 2) (pc := 96) dX7_goConnect_96 ki_2 ?_
            refine ev_cVi2 (pc := 97) dX7_goConnect_97 mv_X7_ofPipe lk_RX7_91 rp_19 (ct_X7_ofPipe _ _ _ _ _ rfl e34) (Nat.le_of_ble_eq_true rfl) (Nat.le_of_ble_eq_true rfl) ?_
            refine ev_iconst (v := 5) (pc := 100) dX7_goConnect_100 ki_5 ?_
            refine ev_cSi2 (pc := 101) dX7_goConnect_101 ms_X7_objectAt lk_RX7_53 (ct_X7_objectAt _ _ _ _ e36) (Nat.le_of_ble_eq_true rfl) (Nat.le_of_ble_eq_true rfl) ?_
            refine ev_aload_n (v := 19) (pc := 104) dX7_goConnect_104 rfl ?_
            refine ev_cVi0w (w' := [(20, t37.2), (21, rd), (22, ag), (19, j17.1), (23, na), (24, nb), (25, nl), (26, sv), (31, j17.2)]) (pc := 105) dX7_goConnect_105 mv_X7_stamp lk_RX7_117 rp_19 (ct_X7_stamp _ _ _ rfl e38) (Nat.le_of_ble_eq_true rfl) (Nat.le_of_ble_eq_true rfl) rfl ?_
            refine ev_iast (w' := [(20, a39), (21, rd), (22, ag), (19, j17.1), (23, na), (24, nb), (25, nl), (26, sv), (31, j17.2)]) (pc := 108) dX7_goConnect_108 rfl e40 rfl ?_
            refine ev_aload_n (v := 19) (pc := 109) dX7_goConnect_109 rfl ?_
            refine ev_aload_n (v := 19) (pc := 110) dX7_goConnect_110 rfl ?_
            refine ev_iload (v := t25.1) (pc := 111) dX7_goConnect_111 rfl ?_
            refine ev_iconst (v := 3) (pc := 113) dX7_goConnect_113 ki_3 ?_
            refine ev_cVi2 (pc := 114) dX7_goConnect_114 mv_X7_ofPipe lk_RX7_91 rp_19 (ct_X7_ofPipe _ _ _ _ _ rfl e42) (Nat.le_of_ble_eq_true rfl) (Nat.le_of_ble_eq_true rfl) ?_
            refine ev_cVi1w (w' := [(20, t43.2), (21, rd), (22, ag), (19, j17.1), (23, na), (24, nb), (25, nl), (26, sv), (31, j17.2)]) (pc := 117) dX7_goConnect_117 mv_X7_newHandle lk_RX7_107 rp_19 (ct_X7_newHandle _ _ _ _ rfl e44) (Nat.le_of_ble_eq_true rfl) (Nat.le_of_ble_eq_true rfl) rfl ?_
            refine ev_istore (L' := [some (.inr 19), none, none, some (.inl v7), some (.inl t25.1), some (.inl t43.1)]) (pc := 120) dX7_goConnect_120 (Nat.le_of_ble_eq_true rfl) rfl ?_
            refine ev_aload_n (v := 19) (pc := 122) dX7_goConnect_122 rfl ?_
            refine ev_iload_n (v := v7) (pc := 123) dX7_goConnect_123 rfl ?_
            refine ev_iconst (v := 1) (pc := 124) dX7_goConnect_124 ki_1 ?_
            refine ev_cVv2w (w' := [(20, t45.1), (21, t45.2.1), (22, t45.2.2.1), (19, t45.2.2.2.1), (23, t45.2.2.2.2.1), (24, t45.2.2.2.2.2.1), (25, t45.2.2.2.2.2.2.1), (26, t45.2.2.2.2.2.2.2), (31, j17.2)]) (pc := 125) dX7_goConnect_125 mv_X7_notice lk_RX7_120 rp_19 (ct_X7_notice _ _ _ _ _ _ _ _ _ _ _ _ rfl rfl rfl rfl rfl rfl rfl rfl e46) (Nat.le_of_ble_eq_true rfl) (Nat.le_of_ble_eq_true rfl) rfl ?_
            refine ev_iload (v := t43.1) (pc := 128) dX7_goConnect_128 rfl ?_
            obtain rfl := Option.some.inj h
            exact ev_iret (pc := 130) dX7_goConnect_130 rfl rfl rfl (hfin _ _ _ _ _ _ _ _ _)
          replace h := e18
          by_cases b20 : x1 = 0
          · rw [if_pos b20] at h
            refine ev_if_eq_t (t := 60) (pc := 53) dX7_goConnect_53 (by decide) b20 ?_
            obtain rfl := Option.some.inj h
            exact ev_fg (L := [some (.inr 19), none, none, some (.inl v7), none, none]) (And.intro rfl (And.intro rfl True.intro)) (hj19)
          · rw [if_neg b20] at h
            refine ev_if_eq_f (t := 60) (pc := 53) dX7_goConnect_53 (by decide) b20 ?_
            obtain ⟨t21, e22, h⟩ := rb_bd h
            refine ev_aload_n (v := 19) (pc := 56) dX7_goConnect_56 rfl ?_
            refine ev_cVv0w (w' := [(20, a), (21, rd), (22, ag), (19, t21.1), (23, na), (24, nb), (25, nl), (26, sv), (31, t21.2)]) (pc := 57) dX7_goConnect_57 mv_X7_keepAct lk_RX7_101 rp_19 (ct_X7_keepAct _ _ _ _ _ rfl rfl rfl e22) (Nat.le_of_ble_eq_true rfl) (Nat.le_of_ble_eq_true rfl) rfl ?_
            obtain rfl := Option.some.inj h
            exact ev_fg (L := [some (.inr 19), none, none, some (.inl v7), none, none]) (And.intro rfl (And.intro rfl True.intro)) (hj19)
    · rw [if_neg b6] at h
      refine ev_if_ge_f (t := 18) (pc := 13) dX7_goConnect_13 (by decide) b6 ?_
      refine ev_iconst (v := (-1)) (pc := 16) dX7_goConnect_16 ki_m1 ?_
      obtain rfl := Option.some.inj h
      exact ev_iret (pc := 17) dX7_goConnect_17 rfl rfl rfl (hfin _ _ _ _ _ _ _ _ _)
def XX7_goAccept (a : rb_Row) (mf : rb_Row) (wa : rb_Row) (x0 : Int32) (x1 : Int32) : Option (Int32 × rb_Row × rb_Row × rb_Row) := (XX7_names a x0 5).bind fun t1 => if t1 = 0 then some ((-1), a, mf, wa) else (XX7_freeHandle a).bind fun t4 => if 0 ≤ t4 then (rb_rd a 796 x0).bind fun v7 => (XX7_longestWaiting a v7).bind fun t9 => if 0 ≤ t9 then ((if x1 = 0 then some (mf, wa) else (XX7_keepAct mf wa a).bind fun t16 => some (t16.1, t16.2)) : Option (rb_Row × rb_Row)).bind fun j12 => (XX7_objectAt t9 4).bind fun t18 => (rb_wr a 796 t18 (-1)).bind fun a20 => (XX7_newHandle a20 t9).bind fun t22 => some (t22.1, t22.2, j12.1, j12.2) else some ((-2), a, mf, wa) else some ((-1), a, mf, wa)
set_option maxHeartbeats 4000000 in
set_option maxRecDepth 20000 in
theorem ct_X7_goAccept (μ : rb_Mem) (a : rb_Row) (mf : rb_Row) (wa : rb_Row) (x0 : Int32) (x1 : Int32) (o : Int32 × rb_Row × rb_Row × rb_Row) (ha : μ 20 = a) (hmf : μ 19 = mf) (hwa : μ 31 = wa) (h : XX7_goAccept a mf wa x0 x1 = some o) : rb_Ct yX7_goAccept cX7_goAccept 4 (some .int) 4 [.inr 19, .inl x0, .inl x1] μ (some o.1) (rb_ov μ [(20, o.2.1), (19, o.2.2.1), (31, o.2.2.2)]) := by
  unfold XX7_goAccept at h
  have hini : rb_ov μ [(20, a), (19, mf), (31, wa)] = μ := rb_ov_sf _ _ (And.intro ha (And.intro hmf (And.intro hwa True.intro)))
  have hfin : ∀ u0 u1 u2 : rb_Row, rb_ov μ [(20, u0), (19, u1), (31, u2)] = rb_ov μ [(20, u0), (19, u1), (31, u2)] := fun u0 u1 u2 => rfl
  refine rb_cti (w := [(20, a), (19, mf), (31, wa)]) rfl pn_7 (Nat.le_of_ble_eq_true rfl) rfl hini ?_
  obtain ⟨t1, e2, h⟩ := rb_bd h
  refine ev_aload_n (v := 19) (pc := 0) dX7_goAccept_0 rfl ?_
  refine ev_iload_n (v := x0) (pc := 1) dX7_goAccept_1 rfl ?_
  refine ev_iconst (v := 5) (pc := 2) dX7_goAccept_2 ki_5 ?_
  refine ev_cVi2 (pc := 3) dX7_goAccept_3 mv_X7_names lk_RX7_110 rp_19 (ct_X7_names _ _ _ _ _ rfl e2) (Nat.le_of_ble_eq_true rfl) (Nat.le_of_ble_eq_true rfl) ?_
  by_cases b3 : t1 = 0
  · rw [if_pos b3] at h
    refine ev_if_eq_t (t := 16) (pc := 6) dX7_goAccept_6 (by decide) b3 ?_
    refine ev_iconst (v := (-1)) (pc := 16) dX7_goAccept_16 ki_m1 ?_
    obtain rfl := Option.some.inj h
    exact ev_iret (pc := 17) dX7_goAccept_17 rfl rfl rfl (hfin _ _ _)
  · rw [if_neg b3] at h
    refine ev_if_eq_f (t := 16) (pc := 6) dX7_goAccept_6 (by decide) b3 ?_
    obtain ⟨t4, e5, h⟩ := rb_bd h
    refine ev_aload_n (v := 19) (pc := 9) dX7_goAccept_9 rfl ?_
    refine ev_cVi0 (pc := 10) dX7_goAccept_10 mv_X7_freeHandle lk_RX7_87 rp_19 (ct_X7_freeHandle _ _ _ rfl e5) (Nat.le_of_ble_eq_true rfl) (Nat.le_of_ble_eq_true rfl) ?_
    by_cases b6 : 0 ≤ t4
    · rw [if_pos b6] at h
      refine ev_if_ge_t (t := 18) (pc := 13) dX7_goAccept_13 (by decide) b6 ?_
      obtain ⟨v7, e8, h⟩ := rb_bd h
      obtain ⟨t9, e10, h⟩ := rb_bd h
      refine ev_aload_n (v := 19) (pc := 18) dX7_goAccept_18 rfl ?_
      refine ev_aload_n (v := 19) (pc := 19) dX7_goAccept_19 rfl ?_
      refine ev_getr (q := 20) (pc := 20) dX7_goAccept_20 fl_RX7_7 rfl rfl ?_
      refine ev_iload_n (v := x0) (pc := 23) dX7_goAccept_23 rfl ?_
      refine ev_iald (pc := 24) dX7_goAccept_24 rfl e8 ?_
      refine ev_cVi1 (pc := 25) dX7_goAccept_25 mv_X7_longestWaiting lk_RX7_124 rp_19 (ct_X7_longestWaiting _ _ _ _ rfl e10) (Nat.le_of_ble_eq_true rfl) (Nat.le_of_ble_eq_true rfl) ?_
      refine ev_istore_n (L' := [some (.inr 19), some (.inl x0), some (.inl x1), some (.inl t9)]) (pc := 28) dX7_goAccept_28 (Nat.le_of_ble_eq_true rfl) rfl ?_
      refine ev_iload_n (v := t9) (pc := 29) dX7_goAccept_29 rfl ?_
      by_cases b11 : 0 ≤ t9
      · rw [if_pos b11] at h
        refine ev_if_ge_t (t := 36) (pc := 30) dX7_goAccept_30 (by decide) b11 ?_
        refine ev_iload_n (v := x1) (pc := 36) dX7_goAccept_36 rfl ?_
        obtain ⟨j12, e13, h⟩ := rb_bd h
        have hj14 : rb_Ev RX7 cX7_goAccept 4 (some .int) none 4 (some o.1) (rb_ov μ [(20, o.2.1), (19, o.2.2.1), (31, o.2.2.2)]) 44 [some (.inr 19), none, none, some (.inl t9)] [] (rb_ov μ [(20, a), (19, j12.1), (31, j12.2)]) := by
          obtain ⟨t18, e19, h⟩ := rb_bd h
          obtain ⟨a20, e21, h⟩ := rb_bd h
          obtain ⟨t22, e23, h⟩ := rb_bd h
          refine ev_aload_n (v := 19) (pc := 44) dX7_goAccept_44 rfl ?_
          refine ev_getr (q := 20) (pc := 45) dX7_goAccept_45 fl_RX7_7 rfl rfl ?_
          refine ev_iload_n (v := t9) (pc := 48) dX7_goAccept_48 rfl ?_
          refine ev_iconst (v := 4) (pc := 49) dX7_goAccept_49 ki_4 ?_
          refine ev_cSi2 (pc := 50) dX7_goAccept_50 ms_X7_objectAt lk_RX7_53 (ct_X7_objectAt _ _ _ _ e19) (Nat.le_of_ble_eq_true rfl) (Nat.le_of_ble_eq_true rfl) ?_
          refine ev_iconst (v := (-1)) (pc := 53) dX7_goAccept_53 ki_m1 ?_
          refine ev_iast (w' := [(20, a20), (19, j12.1), (31, j12.2)]) (pc := 54) dX7_goAccept_54 rfl e21 rfl ?_
          refine ev_aload_n (v := 19) (pc := 55) dX7_goAccept_55 rfl ?_
          refine ev_iload_n (v := t9) (pc := 56) dX7_goAccept_56 rfl ?_
          refine ev_cVi1w (w' := [(20, t22.2), (19, j12.1), (31, j12.2)]) (pc := 57) dX7_goAccept_57 mv_X7_newHandle lk_RX7_107 rp_19 (ct_X7_newHandle _ _ _ _ rfl e23) (Nat.le_of_ble_eq_true rfl) (Nat.le_of_ble_eq_true rfl) rfl ?_
          obtain rfl := Option.some.inj h
          exact ev_iret (pc := 60) dX7_goAccept_60 rfl rfl rfl (hfin _ _ _)
        replace h := e13
        by_cases b15 : x1 = 0
        · rw [if_pos b15] at h
          refine ev_if_eq_t (t := 44) (pc := 37) dX7_goAccept_37 (by decide) b15 ?_
          obtain rfl := Option.some.inj h
          exact ev_fg (L := [some (.inr 19), none, none, some (.inl t9)]) (And.intro rfl (And.intro rfl True.intro)) (hj14)
        · rw [if_neg b15] at h
          refine ev_if_eq_f (t := 44) (pc := 37) dX7_goAccept_37 (by decide) b15 ?_
          obtain ⟨t16, e17, h⟩ := rb_bd h
          refine ev_aload_n (v := 19) (pc := 40) dX7_goAccept_40 rfl ?_
          refine ev_cVv0w (w' := [(20, a), (19, t16.1), (31, t16.2)]) (pc := 41) dX7_goAccept_41 mv_X7_keepAct lk_RX7_101 rp_19 (ct_X7_keepAct _ _ _ _ _ rfl rfl rfl e17) (Nat.le_of_ble_eq_true rfl) (Nat.le_of_ble_eq_true rfl) rfl ?_
          obtain rfl := Option.some.inj h
          exact ev_fg (L := [some (.inr 19), none, none, some (.inl t9)]) (And.intro rfl (And.intro rfl True.intro)) (hj14)
      · rw [if_neg b11] at h
        refine ev_if_ge_f (t := 36) (pc := 30) dX7_goAccept_30 (by decide) b11 ?_
        refine ev_bipush (v := (-2)) (pc := 33) dX7_goAccept_33 kb_m2 ?_
        obtain rfl := Option.some.inj h
        exact ev_iret (pc := 35) dX7_goAccept_35 rfl rfl rfl (hfin _ _ _)
    · rw [if_neg b6] at h
      refine ev_if_ge_f (t := 18) (pc := 13) dX7_goAccept_13 (by decide) b6 ?_
      refine ev_iconst (v := (-1)) (pc := 16) dX7_goAccept_16 ki_m1 ?_
      obtain rfl := Option.some.inj h
      exact ev_iret (pc := 17) dX7_goAccept_17 rfl rfl rfl (hfin _ _ _)
def XX7_connect (a : rb_Row) (rd : rb_Row) (ag : rb_Row) (mf : rb_Row) (na : rb_Row) (nb : rb_Row) (nl : rb_Row) (sv : rb_Row) (wa : rb_Row) (x0 : Int32) : Option (Int32 × rb_Row × rb_Row × rb_Row × rb_Row × rb_Row × rb_Row × rb_Row × rb_Row × rb_Row) := (XX7_goConnect a rd ag mf na nb nl sv wa x0 1).bind fun t1 => some (t1.1, t1.2.1, t1.2.2.1, t1.2.2.2.1, t1.2.2.2.2.1, t1.2.2.2.2.2.1, t1.2.2.2.2.2.2.1, t1.2.2.2.2.2.2.2.1, t1.2.2.2.2.2.2.2.2.1, t1.2.2.2.2.2.2.2.2.2)
set_option maxHeartbeats 4000000 in
set_option maxRecDepth 20000 in
theorem ct_X7_connect (μ : rb_Mem) (a : rb_Row) (rd : rb_Row) (ag : rb_Row) (mf : rb_Row) (na : rb_Row) (nb : rb_Row) (nl : rb_Row) (sv : rb_Row) (wa : rb_Row) (x0 : Int32) (o : Int32 × rb_Row × rb_Row × rb_Row × rb_Row × rb_Row × rb_Row × rb_Row × rb_Row × rb_Row) (ha : μ 20 = a) (hrd : μ 21 = rd) (hag : μ 22 = ag) (hmf : μ 19 = mf) (hna : μ 23 = na) (hnb : μ 24 = nb) (hnl : μ 25 = nl) (hsv : μ 26 = sv) (hwa : μ 31 = wa) (h : XX7_connect a rd ag mf na nb nl sv wa x0 = some o) : rb_Ct yX7_connect cX7_connect 2 (some .int) 11 [.inr 19, .inl x0] μ (some o.1) (rb_ov μ [(20, o.2.1), (21, o.2.2.1), (22, o.2.2.2.1), (19, o.2.2.2.2.1), (23, o.2.2.2.2.2.1), (24, o.2.2.2.2.2.2.1), (25, o.2.2.2.2.2.2.2.1), (26, o.2.2.2.2.2.2.2.2.1), (31, o.2.2.2.2.2.2.2.2.2)]) := by
  unfold XX7_connect at h
  have hini : rb_ov μ [(20, a), (21, rd), (22, ag), (19, mf), (23, na), (24, nb), (25, nl), (26, sv), (31, wa)] = μ := rb_ov_sf _ _ (And.intro ha (And.intro hrd (And.intro hag (And.intro hmf (And.intro hna (And.intro hnb (And.intro hnl (And.intro hsv (And.intro hwa True.intro)))))))))
  have hfin : ∀ u0 u1 u2 u3 u4 u5 u6 u7 u8 : rb_Row, rb_ov μ [(20, u0), (21, u1), (22, u2), (19, u3), (23, u4), (24, u5), (25, u6), (26, u7), (31, u8)] = rb_ov μ [(20, u0), (21, u1), (22, u2), (19, u3), (23, u4), (24, u5), (25, u6), (26, u7), (31, u8)] := fun u0 u1 u2 u3 u4 u5 u6 u7 u8 => rfl
  refine rb_cti (w := [(20, a), (21, rd), (22, ag), (19, mf), (23, na), (24, nb), (25, nl), (26, sv), (31, wa)]) rfl pn_7 (Nat.le_of_ble_eq_true rfl) rfl hini ?_
  obtain ⟨t1, e2, h⟩ := rb_bd h
  refine ev_aload_n (v := 19) (pc := 0) dX7_connect_0 rfl ?_
  refine ev_iload_n (v := x0) (pc := 1) dX7_connect_1 rfl ?_
  refine ev_iconst (v := 1) (pc := 2) dX7_connect_2 ki_1 ?_
  refine ev_cVi2w (w' := [(20, t1.2.1), (21, t1.2.2.1), (22, t1.2.2.2.1), (19, t1.2.2.2.2.1), (23, t1.2.2.2.2.2.1), (24, t1.2.2.2.2.2.2.1), (25, t1.2.2.2.2.2.2.2.1), (26, t1.2.2.2.2.2.2.2.2.1), (31, t1.2.2.2.2.2.2.2.2.2)]) (pc := 3) dX7_connect_3 mv_X7_goConnect lk_RX7_127 rp_19 (ct_X7_goConnect _ _ _ _ _ _ _ _ _ _ _ _ _ rfl rfl rfl rfl rfl rfl rfl rfl rfl e2) (Nat.le_of_ble_eq_true rfl) (Nat.le_of_ble_eq_true rfl) rfl ?_
  obtain rfl := Option.some.inj h
  exact ev_iret (pc := 6) dX7_connect_6 rfl rfl rfl (hfin _ _ _ _ _ _ _ _ _)
def XX7_accept (a : rb_Row) (mf : rb_Row) (wa : rb_Row) (x0 : Int32) : Option (Int32 × rb_Row × rb_Row × rb_Row) := (XX7_goAccept a mf wa x0 1).bind fun t1 => some (t1.1, t1.2.1, t1.2.2.1, t1.2.2.2)
set_option maxHeartbeats 4000000 in
set_option maxRecDepth 20000 in
theorem ct_X7_accept (μ : rb_Mem) (a : rb_Row) (mf : rb_Row) (wa : rb_Row) (x0 : Int32) (o : Int32 × rb_Row × rb_Row × rb_Row) (ha : μ 20 = a) (hmf : μ 19 = mf) (hwa : μ 31 = wa) (h : XX7_accept a mf wa x0 = some o) : rb_Ct yX7_accept cX7_accept 2 (some .int) 5 [.inr 19, .inl x0] μ (some o.1) (rb_ov μ [(20, o.2.1), (19, o.2.2.1), (31, o.2.2.2)]) := by
  unfold XX7_accept at h
  have hini : rb_ov μ [(20, a), (19, mf), (31, wa)] = μ := rb_ov_sf _ _ (And.intro ha (And.intro hmf (And.intro hwa True.intro)))
  have hfin : ∀ u0 u1 u2 : rb_Row, rb_ov μ [(20, u0), (19, u1), (31, u2)] = rb_ov μ [(20, u0), (19, u1), (31, u2)] := fun u0 u1 u2 => rfl
  refine rb_cti (w := [(20, a), (19, mf), (31, wa)]) rfl pn_7 (Nat.le_of_ble_eq_true rfl) rfl hini ?_
  obtain ⟨t1, e2, h⟩ := rb_bd h
  refine ev_aload_n (v := 19) (pc := 0) dX7_accept_0 rfl ?_
  refine ev_iload_n (v := x0) (pc := 1) dX7_accept_1 rfl ?_
  refine ev_iconst (v := 1) (pc := 2) dX7_accept_2 ki_1 ?_
  refine ev_cVi2w (w' := [(20, t1.2.1), (19, t1.2.2.1), (31, t1.2.2.2)]) (pc := 3) dX7_accept_3 mv_X7_goAccept lk_RX7_131 rp_19 (ct_X7_goAccept _ _ _ _ _ _ _ rfl rfl rfl e2) (Nat.le_of_ble_eq_true rfl) (Nat.le_of_ble_eq_true rfl) rfl ?_
  obtain rfl := Option.some.inj h
  exact ev_iret (pc := 6) dX7_accept_6 rfl rfl rfl (hfin _ _ _)
def XX7_call (a : rb_Row) (rd : rb_Row) (ag : rb_Row) (mf : rb_Row) (na : rb_Row) (nb : rb_Row) (nl : rb_Row) (sv : rb_Row) (x0 : Int32) : Option (rb_Row × rb_Row × rb_Row × rb_Row × rb_Row × rb_Row × rb_Row × rb_Row) := (XX7_wake a rd ag mf x0).bind fun t1 => (XX7_notice t1.2.1 t1.2.2.1 t1.2.2.2.1 t1.2.2.2.2 na nb nl sv x0 1).bind fun t3 => some (t3.1, t3.2.1, t3.2.2.1, t3.2.2.2.1, t3.2.2.2.2.1, t3.2.2.2.2.2.1, t3.2.2.2.2.2.2.1, t3.2.2.2.2.2.2.2)
set_option maxHeartbeats 4000000 in
set_option maxRecDepth 20000 in
theorem ct_X7_call (μ : rb_Mem) (a : rb_Row) (rd : rb_Row) (ag : rb_Row) (mf : rb_Row) (na : rb_Row) (nb : rb_Row) (nl : rb_Row) (sv : rb_Row) (x0 : Int32) (o : rb_Row × rb_Row × rb_Row × rb_Row × rb_Row × rb_Row × rb_Row × rb_Row) (ha : μ 20 = a) (hrd : μ 21 = rd) (hag : μ 22 = ag) (hmf : μ 19 = mf) (hna : μ 23 = na) (hnb : μ 24 = nb) (hnl : μ 25 = nl) (hsv : μ 26 = sv) (h : XX7_call a rd ag mf na nb nl sv x0 = some o) : rb_Ct yX7_call cX7_call 2 none 10 [.inr 19, .inl x0] μ none (rb_ov μ [(20, o.1), (21, o.2.1), (22, o.2.2.1), (19, o.2.2.2.1), (23, o.2.2.2.2.1), (24, o.2.2.2.2.2.1), (25, o.2.2.2.2.2.2.1), (26, o.2.2.2.2.2.2.2)]) := by
  unfold XX7_call at h
  have hini : rb_ov μ [(20, a), (21, rd), (22, ag), (19, mf), (23, na), (24, nb), (25, nl), (26, sv)] = μ := rb_ov_sf _ _ (And.intro ha (And.intro hrd (And.intro hag (And.intro hmf (And.intro hna (And.intro hnb (And.intro hnl (And.intro hsv True.intro))))))))
  have hfin : ∀ u0 u1 u2 u3 u4 u5 u6 u7 : rb_Row, rb_ov μ [(20, u0), (21, u1), (22, u2), (19, u3), (23, u4), (24, u5), (25, u6), (26, u7)] = rb_ov μ [(20, u0), (21, u1), (22, u2), (19, u3), (23, u4), (24, u5), (25, u6), (26, u7)] := fun u0 u1 u2 u3 u4 u5 u6 u7 => rfl
  refine rb_ctv (w := [(20, a), (21, rd), (22, ag), (19, mf), (23, na), (24, nb), (25, nl), (26, sv)]) rfl pn_7 (Nat.le_of_ble_eq_true rfl) rfl hini ?_
  obtain ⟨t1, e2, h⟩ := rb_bd h
  obtain ⟨t3, e4, h⟩ := rb_bd h
  refine ev_aload_n (v := 19) (pc := 0) dX7_call_0 rfl ?_
  refine ev_iload_n (v := x0) (pc := 1) dX7_call_1 rfl ?_
  refine ev_cVi1w (w' := [(20, t1.2.1), (21, t1.2.2.1), (22, t1.2.2.2.1), (19, t1.2.2.2.2), (23, na), (24, nb), (25, nl), (26, sv)]) (pc := 2) dX7_call_2 mv_X7_wake lk_RX7_202 rp_19 (ct_X7_wake _ _ _ _ _ _ _ rfl rfl rfl rfl e2) (Nat.le_of_ble_eq_true rfl) (Nat.le_of_ble_eq_true rfl) rfl ?_
  refine ev_pop (pc := 5) dX7_call_5 ?_
  refine ev_aload_n (v := 19) (pc := 6) dX7_call_6 rfl ?_
  refine ev_iload_n (v := x0) (pc := 7) dX7_call_7 rfl ?_
  refine ev_iconst (v := 1) (pc := 8) dX7_call_8 ki_1 ?_
  refine ev_cVv2w (w' := [(20, t3.1), (21, t3.2.1), (22, t3.2.2.1), (19, t3.2.2.2.1), (23, t3.2.2.2.2.1), (24, t3.2.2.2.2.2.1), (25, t3.2.2.2.2.2.2.1), (26, t3.2.2.2.2.2.2.2)]) (pc := 9) dX7_call_9 mv_X7_notice lk_RX7_120 rp_19 (ct_X7_notice _ _ _ _ _ _ _ _ _ _ _ _ rfl rfl rfl rfl rfl rfl rfl rfl e4) (Nat.le_of_ble_eq_true rfl) (Nat.le_of_ble_eq_true rfl) rfl ?_
  obtain rfl := Option.some.inj h
  exact ev_ret (pc := 12) dX7_call_12 rfl rfl (hfin _ _ _ _ _ _ _ _)
def XX7_dropInterest (a : rb_Row) (x0 : Int32) : Option (rb_Row) := (XX7_interestAt x0 0).bind fun t1 => (rb_wr a 796 t1 (-1)).bind fun a3 => some a3
set_option maxHeartbeats 4000000 in
set_option maxRecDepth 20000 in
theorem ct_X7_dropInterest (μ : rb_Mem) (a : rb_Row) (x0 : Int32) (o : rb_Row) (ha : μ 20 = a) (h : XX7_dropInterest a x0 = some o) : rb_Ct yX7_dropInterest cX7_dropInterest 2 none 1 [.inr 19, .inl x0] μ none (rb_ov μ [(20, o)]) := by
  unfold XX7_dropInterest at h
  have hini : rb_ov μ [(20, a)] = μ := rb_ov_sf _ _ (And.intro ha True.intro)
  have hfin : ∀ u0 : rb_Row, rb_ov μ [(20, u0)] = rb_ov μ [(20, u0)] := fun u0 => rfl
  refine rb_ctv (w := [(20, a)]) rfl pn_7 (Nat.le_of_ble_eq_true rfl) rfl hini ?_
  obtain ⟨t1, e2, h⟩ := rb_bd h
  obtain ⟨a3, e4, h⟩ := rb_bd h
  refine ev_aload_n (v := 19) (pc := 0) dX7_dropInterest_0 rfl ?_
  refine ev_getr (q := 20) (pc := 1) dX7_dropInterest_1 fl_RX7_7 rfl rfl ?_
  refine ev_iload_n (v := x0) (pc := 4) dX7_dropInterest_4 rfl ?_
  refine ev_iconst (v := 0) (pc := 5) dX7_dropInterest_5 ki_0 ?_
  refine ev_cSi2 (pc := 6) dX7_dropInterest_6 ms_X7_interestAt lk_RX7_60 (ct_X7_interestAt _ _ _ _ e2) (Nat.le_of_ble_eq_true rfl) (Nat.le_of_ble_eq_true rfl) ?_
  refine ev_iconst (v := (-1)) (pc := 9) dX7_dropInterest_9 ki_m1 ?_
  refine ev_iast (w' := [(20, a3)]) (pc := 10) dX7_dropInterest_10 rfl e4 rfl ?_
  obtain rfl := Option.some.inj h
  exact ev_ret (pc := 11) dX7_dropInterest_11 rfl rfl (hfin _)
def XX7_gotNothing (a : rb_Row) (x0 : Int32) : Option (rb_Row) := (XX7_sleepNoMore a x0).bind fun t1 => (XX7_taskAt x0 8).bind fun t3 => (rb_rd t1 796 t3).bind fun v5 => (rb_wr t1 796 t3 (v5 + 1)).bind fun a7 => some a7
set_option maxHeartbeats 4000000 in
set_option maxRecDepth 20000 in
theorem ct_X7_gotNothing (μ : rb_Mem) (a : rb_Row) (x0 : Int32) (o : rb_Row) (ha : μ 20 = a) (h : XX7_gotNothing a x0 = some o) : rb_Ct yX7_gotNothing cX7_gotNothing 2 none 2 [.inr 19, .inl x0] μ none (rb_ov μ [(20, o)]) := by
  unfold XX7_gotNothing at h
  have hini : rb_ov μ [(20, a)] = μ := rb_ov_sf _ _ (And.intro ha True.intro)
  have hfin : ∀ u0 : rb_Row, rb_ov μ [(20, u0)] = rb_ov μ [(20, u0)] := fun u0 => rfl
  refine rb_ctv (w := [(20, a)]) rfl pn_7 (Nat.le_of_ble_eq_true rfl) rfl hini ?_
  obtain ⟨t1, e2, h⟩ := rb_bd h
  obtain ⟨t3, e4, h⟩ := rb_bd h
  obtain ⟨v5, e6, h⟩ := rb_bd h
  obtain ⟨a7, e8, h⟩ := rb_bd h
  refine ev_aload_n (v := 19) (pc := 0) dX7_gotNothing_0 rfl ?_
  refine ev_iload_n (v := x0) (pc := 1) dX7_gotNothing_1 rfl ?_
  refine ev_cVv1w (w' := [(20, t1)]) (pc := 2) dX7_gotNothing_2 mv_X7_sleepNoMore lk_RX7_180 rp_19 (ct_X7_sleepNoMore _ _ _ _ rfl e2) (Nat.le_of_ble_eq_true rfl) (Nat.le_of_ble_eq_true rfl) rfl ?_
  refine ev_aload_n (v := 19) (pc := 5) dX7_gotNothing_5 rfl ?_
  refine ev_getr (q := 20) (pc := 6) dX7_gotNothing_6 fl_RX7_7 rfl rfl ?_
  refine ev_iload_n (v := x0) (pc := 9) dX7_gotNothing_9 rfl ?_
  refine ev_bipush (v := 8) (pc := 10) dX7_gotNothing_10 kb_8 ?_
  refine ev_cSi2 (pc := 12) dX7_gotNothing_12 ms_X7_taskAt lk_RX7_63 (ct_X7_taskAt _ _ _ _ e4) (Nat.le_of_ble_eq_true rfl) (Nat.le_of_ble_eq_true rfl) ?_
  refine ev_dup2 (pc := 15) dX7_gotNothing_15 ?_
  refine ev_iald (pc := 16) dX7_gotNothing_16 rfl e6 ?_
  refine ev_iconst (v := 1) (pc := 17) dX7_gotNothing_17 ki_1 ?_
  refine ev_iadd (pc := 18) dX7_gotNothing_18 ?_
  refine ev_iast (w' := [(20, a7)]) (pc := 19) dX7_gotNothing_19 rfl e8 rfl ?_
  obtain rfl := Option.some.inj h
  exact ev_ret (pc := 20) dX7_gotNothing_20 rfl rfl (hfin _)
def XX7_endGone (a : rb_Row) (rd : rb_Row) (ag : rb_Row) (mf : rb_Row) (na : rb_Row) (nb : rb_Row) (nl : rb_Row) (sv : rb_Row) (x0 : Int32) : Option (rb_Row × rb_Row × rb_Row × rb_Row × rb_Row × rb_Row × rb_Row × rb_Row) := (XX7_kindOf a x0).bind fun t1 => (XX7_otherEnd a x0).bind fun t3 => (XX7_ofObject a x0 1).bind fun t5 => (XX7_pipeAt t5 (2 + t1)).bind fun t7 => (rb_wr a 796 t7 (-1)).bind fun a9 => (XX7_objectAt x0 0).bind fun t11 => (rb_wr a9 796 t11 (-1)).bind fun a13 => (XX7_objectAt x0 4).bind fun t15 => (rb_wr a13 796 t15 (-1)).bind fun a17 => if t3 < 0 then some (a17, rd, ag, mf, na, nb, nl, sv) else ((if t1 = 1 then some 4 else some 8) : Option (Int32)).bind fun j20 => (XX7_notice a17 rd ag mf na nb nl sv t3 j20).bind fun t24 => some (t24.1, t24.2.1, t24.2.2.1, t24.2.2.2.1, t24.2.2.2.2.1, t24.2.2.2.2.2.1, t24.2.2.2.2.2.2.1, t24.2.2.2.2.2.2.2)
set_option maxHeartbeats 4000000 in
set_option maxRecDepth 20000 in
theorem ct_X7_endGone (μ : rb_Mem) (a : rb_Row) (rd : rb_Row) (ag : rb_Row) (mf : rb_Row) (na : rb_Row) (nb : rb_Row) (nl : rb_Row) (sv : rb_Row) (x0 : Int32) (o : rb_Row × rb_Row × rb_Row × rb_Row × rb_Row × rb_Row × rb_Row × rb_Row) (ha : μ 20 = a) (hrd : μ 21 = rd) (hag : μ 22 = ag) (hmf : μ 19 = mf) (hna : μ 23 = na) (hnb : μ 24 = nb) (hnl : μ 25 = nl) (hsv : μ 26 = sv) (h : XX7_endGone a rd ag mf na nb nl sv x0 = some o) : rb_Ct yX7_endGone cX7_endGone 4 none 10 [.inr 19, .inl x0] μ none (rb_ov μ [(20, o.1), (21, o.2.1), (22, o.2.2.1), (19, o.2.2.2.1), (23, o.2.2.2.2.1), (24, o.2.2.2.2.2.1), (25, o.2.2.2.2.2.2.1), (26, o.2.2.2.2.2.2.2)]) := by
  unfold XX7_endGone at h
  have hini : rb_ov μ [(20, a), (21, rd), (22, ag), (19, mf), (23, na), (24, nb), (25, nl), (26, sv)] = μ := rb_ov_sf _ _ (And.intro ha (And.intro hrd (And.intro hag (And.intro hmf (And.intro hna (And.intro hnb (And.intro hnl (And.intro hsv True.intro))))))))
  have hfin : ∀ u0 u1 u2 u3 u4 u5 u6 u7 : rb_Row, rb_ov μ [(20, u0), (21, u1), (22, u2), (19, u3), (23, u4), (24, u5), (25, u6), (26, u7)] = rb_ov μ [(20, u0), (21, u1), (22, u2), (19, u3), (23, u4), (24, u5), (25, u6), (26, u7)] := fun u0 u1 u2 u3 u4 u5 u6 u7 => rfl
  refine rb_ctv (w := [(20, a), (21, rd), (22, ag), (19, mf), (23, na), (24, nb), (25, nl), (26, sv)]) rfl pn_7 (Nat.le_of_ble_eq_true rfl) rfl hini ?_
  obtain ⟨t1, e2, h⟩ := rb_bd h
  obtain ⟨t3, e4, h⟩ := rb_bd h
  obtain ⟨t5, e6, h⟩ := rb_bd h
  obtain ⟨t7, e8, h⟩ := rb_bd h
  obtain ⟨a9, e10, h⟩ := rb_bd h
  obtain ⟨t11, e12, h⟩ := rb_bd h
  obtain ⟨a13, e14, h⟩ := rb_bd h
  obtain ⟨t15, e16, h⟩ := rb_bd h
  obtain ⟨a17, e18, h⟩ := rb_bd h
  refine ev_aload_n (v := 19) (pc := 0) dX7_endGone_0 rfl ?_
  refine ev_iload_n (v := x0) (pc := 1) dX7_endGone_1 rfl ?_
  refine ev_cVi1 (pc := 2) dX7_endGone_2 mv_X7_kindOf lk_RX7_77 rp_19 (ct_X7_kindOf _ _ _ _ rfl e2) (Nat.le_of_ble_eq_true rfl) (Nat.le_of_ble_eq_true rfl) ?_
  refine ev_istore_n (L' := [some (.inr 19), some (.inl x0), some (.inl t1), none]) (pc := 5) dX7_endGone_5 (Nat.le_of_ble_eq_true rfl) rfl ?_
  refine ev_aload_n (v := 19) (pc := 6) dX7_endGone_6 rfl ?_
  refine ev_iload_n (v := x0) (pc := 7) dX7_endGone_7 rfl ?_
  refine ev_cVi1 (pc := 8) dX7_endGone_8 mv_X7_otherEnd lk_RX7_134 rp_19 (ct_X7_otherEnd _ _ _ _ rfl e4) (Nat.le_of_ble_eq_true rfl) (Nat.le_of_ble_eq_true rfl) ?_
  refine ev_istore_n (L' := [some (.inr 19), some (.inl x0), some (.inl t1), some (.inl t3)]) (pc := 11) dX7_endGone_11 (Nat.le_of_ble_eq_true rfl) rfl ?_
  refine ev_aload_n (v := 19) (pc := 12) dX7_endGone_12 rfl ?_
  refine ev_getr (q := 20) (pc := 13) dX7_endGone_13 fl_RX7_7 rfl rfl ?_
  refine ev_aload_n (v := 19) (pc := 16) dX7_endGone_16 rfl ?_
  refine ev_iload_n (v := x0) (pc := 17) dX7_endGone_17 rfl ?_
  refine ev_iconst (v := 1) (pc := 18) dX7_endGone_18 ki_1 ?_
  refine ev_cVi2 (pc := 19) dX7_endGone_19 mv_X7_ofObject lk_RX7_66 rp_19 (ct_X7_ofObject _ _ _ _ _ rfl e6) (Nat.le_of_ble_eq_true rfl) (Nat.le_of_ble_eq_true rfl) ?_
  refine ev_iconst (v := 2) (pc := 22) dX7_endGone_22 ki_2 ?_
  refine ev_iload_n (v := t1) (pc := 23) dX7_endGone_23 rfl ?_
  refine ev_iadd (pc := 24) dX7_endGone_24 ?_
  refine ev_cSi2 (pc := 25) dX7_endGone_25 ms_X7_pipeAt lk_RX7_57 (ct_X7_pipeAt _ _ _ _ e8) (Nat.le_of_ble_eq_true rfl) (Nat.le_of_ble_eq_true rfl) ?_
  refine ev_iconst (v := (-1)) (pc := 28) dX7_endGone_28 ki_m1 ?_
  refine ev_iast (w' := [(20, a9), (21, rd), (22, ag), (19, mf), (23, na), (24, nb), (25, nl), (26, sv)]) (pc := 29) dX7_endGone_29 rfl e10 rfl ?_
  refine ev_aload_n (v := 19) (pc := 30) dX7_endGone_30 rfl ?_
  refine ev_getr (q := 20) (pc := 31) dX7_endGone_31 fl_RX7_7 rfl rfl ?_
  refine ev_iload_n (v := x0) (pc := 34) dX7_endGone_34 rfl ?_
  refine ev_iconst (v := 0) (pc := 35) dX7_endGone_35 ki_0 ?_
  refine ev_cSi2 (pc := 36) dX7_endGone_36 ms_X7_objectAt lk_RX7_53 (ct_X7_objectAt _ _ _ _ e12) (Nat.le_of_ble_eq_true rfl) (Nat.le_of_ble_eq_true rfl) ?_
  refine ev_iconst (v := (-1)) (pc := 39) dX7_endGone_39 ki_m1 ?_
  refine ev_iast (w' := [(20, a13), (21, rd), (22, ag), (19, mf), (23, na), (24, nb), (25, nl), (26, sv)]) (pc := 40) dX7_endGone_40 rfl e14 rfl ?_
  refine ev_aload_n (v := 19) (pc := 41) dX7_endGone_41 rfl ?_
  refine ev_getr (q := 20) (pc := 42) dX7_endGone_42 fl_RX7_7 rfl rfl ?_
  refine ev_iload_n (v := x0) (pc := 45) dX7_endGone_45 rfl ?_
  refine ev_iconst (v := 4) (pc := 46) dX7_endGone_46 ki_4 ?_
  refine ev_cSi2 (pc := 47) dX7_endGone_47 ms_X7_objectAt lk_RX7_53 (ct_X7_objectAt _ _ _ _ e16) (Nat.le_of_ble_eq_true rfl) (Nat.le_of_ble_eq_true rfl) ?_
  refine ev_iconst (v := (-1)) (pc := 50) dX7_endGone_50 ki_m1 ?_
  refine ev_iast (w' := [(20, a17), (21, rd), (22, ag), (19, mf), (23, na), (24, nb), (25, nl), (26, sv)]) (pc := 51) dX7_endGone_51 rfl e18 rfl ?_
  refine ev_iload_n (v := t3) (pc := 52) dX7_endGone_52 rfl ?_
  by_cases b19 : t3 < 0
  · rw [if_pos b19] at h
    refine ev_if_lt_t (t := 72) (pc := 53) dX7_endGone_53 (by decide) b19 ?_
    obtain rfl := Option.some.inj h
    exact ev_ret (pc := 72) dX7_endGone_72 rfl rfl (hfin _ _ _ _ _ _ _ _)
  · rw [if_neg b19] at h
    refine ev_if_lt_f (t := 72) (pc := 53) dX7_endGone_53 (by decide) b19 ?_
    refine ev_aload_n (v := 19) (pc := 56) dX7_endGone_56 rfl ?_
    refine ev_iload_n (v := t3) (pc := 57) dX7_endGone_57 rfl ?_
    refine ev_iload_n (v := t1) (pc := 58) dX7_endGone_58 rfl ?_
    refine ev_iconst (v := 1) (pc := 59) dX7_endGone_59 ki_1 ?_
    obtain ⟨j20, e21, h⟩ := rb_bd h
    have hj22 : rb_Ev RX7 cX7_endGone 4 none none 10 none (rb_ov μ [(20, o.1), (21, o.2.1), (22, o.2.2.1), (19, o.2.2.2.1), (23, o.2.2.2.2.1), (24, o.2.2.2.2.2.1), (25, o.2.2.2.2.2.2.1), (26, o.2.2.2.2.2.2.2)]) 69 [none, none, none, none] [.inl j20, .inl t3, .inr 19] (rb_ov μ [(20, a17), (21, rd), (22, ag), (19, mf), (23, na), (24, nb), (25, nl), (26, sv)]) := by
      obtain ⟨t24, e25, h⟩ := rb_bd h
      refine ev_cVv2w (w' := [(20, t24.1), (21, t24.2.1), (22, t24.2.2.1), (19, t24.2.2.2.1), (23, t24.2.2.2.2.1), (24, t24.2.2.2.2.2.1), (25, t24.2.2.2.2.2.2.1), (26, t24.2.2.2.2.2.2.2)]) (pc := 69) dX7_endGone_69 mv_X7_notice lk_RX7_120 rp_19 (ct_X7_notice _ _ _ _ _ _ _ _ _ _ _ _ rfl rfl rfl rfl rfl rfl rfl rfl e25) (Nat.le_of_ble_eq_true rfl) (Nat.le_of_ble_eq_true rfl) rfl ?_
      obtain rfl := Option.some.inj h
      exact ev_ret (pc := 72) dX7_endGone_72 rfl rfl (hfin _ _ _ _ _ _ _ _)
    replace h := e21
    by_cases b23 : t1 = 1
    · rw [if_pos b23] at h
      refine ev_icmp_ne_f (t := 67) (pc := 60) dX7_endGone_60 (by decide) b23 ?_
      refine ev_iconst (v := 4) (pc := 63) dX7_endGone_63 ki_4 ?_
      refine ev_goto (t := 69) (pc := 64) dX7_endGone_64 (by decide) ?_
      obtain rfl := Option.some.inj h
      exact ev_fg (L := [none, none, none, none]) True.intro (hj22)
    · rw [if_neg b23] at h
      refine ev_icmp_ne_t (t := 67) (pc := 60) dX7_endGone_60 (by decide) b23 ?_
      refine ev_bipush (v := 8) (pc := 67) dX7_endGone_67 kb_8 ?_
      obtain rfl := Option.some.inj h
      exact ev_fg (L := [none, none, none, none]) True.intro (hj22)
def XX7_turnAway (a : rb_Row) (rd : rb_Row) (ag : rb_Row) (mf : rb_Row) (na : rb_Row) (nb : rb_Row) (nl : rb_Row) (sv : rb_Row) (x0 : Int32) : Option (rb_Row × rb_Row × rb_Row × rb_Row × rb_Row × rb_Row × rb_Row × rb_Row) := (XX7_longestWaiting a x0).bind fun t1 => (rb_lp (ρ := rb_Row × rb_Row × rb_Row × rb_Row × rb_Row × rb_Row × rb_Row × rb_Row) (fun (s3 : Int32 × rb_Row × rb_Row × rb_Row × rb_Row × rb_Row × rb_Row × rb_Row × rb_Row) => if s3.1 < 0 then some (.inr (s3.2.1, s3.2.2.1, s3.2.2.2.1, s3.2.2.2.2.1, s3.2.2.2.2.2.1, s3.2.2.2.2.2.2.1, s3.2.2.2.2.2.2.2.1, s3.2.2.2.2.2.2.2.2)) else (XX7_endGone s3.2.1 s3.2.2.1 s3.2.2.2.1 s3.2.2.2.2.1 s3.2.2.2.2.2.1 s3.2.2.2.2.2.2.1 s3.2.2.2.2.2.2.2.1 s3.2.2.2.2.2.2.2.2 s3.1).bind fun t12 => (XX7_longestWaiting t12.1 x0).bind fun t14 => some (.inl (t14, t12.1, t12.2.1, t12.2.2.1, t12.2.2.2.1, t12.2.2.2.2.1, t12.2.2.2.2.2.1, t12.2.2.2.2.2.2.1, t12.2.2.2.2.2.2.2))) 100000 (t1, a, rd, ag, mf, na, nb, nl, sv)).bind fun q4 => some (q4.1, q4.2.1, q4.2.2.1, q4.2.2.2.1, q4.2.2.2.2.1, q4.2.2.2.2.2.1, q4.2.2.2.2.2.2.1, q4.2.2.2.2.2.2.2)
set_option maxHeartbeats 4000000 in
set_option maxRecDepth 20000 in
theorem ct_X7_turnAway (μ : rb_Mem) (a : rb_Row) (rd : rb_Row) (ag : rb_Row) (mf : rb_Row) (na : rb_Row) (nb : rb_Row) (nl : rb_Row) (sv : rb_Row) (x0 : Int32) (o : rb_Row × rb_Row × rb_Row × rb_Row × rb_Row × rb_Row × rb_Row × rb_Row) (ha : μ 20 = a) (hrd : μ 21 = rd) (hag : μ 22 = ag) (hmf : μ 19 = mf) (hna : μ 23 = na) (hnb : μ 24 = nb) (hnl : μ 25 = nl) (hsv : μ 26 = sv) (h : XX7_turnAway a rd ag mf na nb nl sv x0 = some o) : rb_Ct yX7_turnAway cX7_turnAway 3 none 11 [.inr 19, .inl x0] μ none (rb_ov μ [(20, o.1), (21, o.2.1), (22, o.2.2.1), (19, o.2.2.2.1), (23, o.2.2.2.2.1), (24, o.2.2.2.2.2.1), (25, o.2.2.2.2.2.2.1), (26, o.2.2.2.2.2.2.2)]) := by
  unfold XX7_turnAway at h
  have hini : rb_ov μ [(20, a), (21, rd), (22, ag), (19, mf), (23, na), (24, nb), (25, nl), (26, sv)] = μ := rb_ov_sf _ _ (And.intro ha (And.intro hrd (And.intro hag (And.intro hmf (And.intro hna (And.intro hnb (And.intro hnl (And.intro hsv True.intro))))))))
  have hfin : ∀ u0 u1 u2 u3 u4 u5 u6 u7 : rb_Row, rb_ov μ [(20, u0), (21, u1), (22, u2), (19, u3), (23, u4), (24, u5), (25, u6), (26, u7)] = rb_ov μ [(20, u0), (21, u1), (22, u2), (19, u3), (23, u4), (24, u5), (25, u6), (26, u7)] := fun u0 u1 u2 u3 u4 u5 u6 u7 => rfl
  refine rb_ctv (w := [(20, a), (21, rd), (22, ag), (19, mf), (23, na), (24, nb), (25, nl), (26, sv)]) rfl pn_7 (Nat.le_of_ble_eq_true rfl) rfl hini ?_
  obtain ⟨t1, e2, h⟩ := rb_bd h
  refine ev_aload_n (v := 19) (pc := 0) dX7_turnAway_0 rfl ?_
  refine ev_iload_n (v := x0) (pc := 1) dX7_turnAway_1 rfl ?_
  refine ev_cVi1 (pc := 2) dX7_turnAway_2 mv_X7_longestWaiting lk_RX7_124 rp_19 (ct_X7_longestWaiting _ _ _ _ rfl e2) (Nat.le_of_ble_eq_true rfl) (Nat.le_of_ble_eq_true rfl) ?_
  refine ev_istore_n (L' := [some (.inr 19), some (.inl x0), some (.inl t1)]) (pc := 5) dX7_turnAway_5 (Nat.le_of_ble_eq_true rfl) rfl ?_
  obtain ⟨q4, l5, h⟩ := rb_bd h
  have hx9 : rb_Ev RX7 cX7_turnAway 3 none none 11 none (rb_ov μ [(20, o.1), (21, o.2.1), (22, o.2.2.1), (19, o.2.2.2.1), (23, o.2.2.2.2.1), (24, o.2.2.2.2.2.1), (25, o.2.2.2.2.2.2.1), (26, o.2.2.2.2.2.2.2)]) 24 [none, none, none] [] (rb_ov μ [(20, q4.1), (21, q4.2.1), (22, q4.2.2.1), (19, q4.2.2.2.1), (23, q4.2.2.2.2.1), (24, q4.2.2.2.2.2.1), (25, q4.2.2.2.2.2.2.1), (26, q4.2.2.2.2.2.2.2)]) := by
    obtain rfl := Option.some.inj h
    exact ev_ret (pc := 24) dX7_turnAway_24 rfl rfl (hfin _ _ _ _ _ _ _ _)
  refine rb_lp_ev (P := fun (s3 : Int32 × rb_Row × rb_Row × rb_Row × rb_Row × rb_Row × rb_Row × rb_Row × rb_Row) => rb_Ev RX7 cX7_turnAway 3 none none 11 none (rb_ov μ [(20, o.1), (21, o.2.1), (22, o.2.2.1), (19, o.2.2.2.1), (23, o.2.2.2.2.1), (24, o.2.2.2.2.2.1), (25, o.2.2.2.2.2.2.1), (26, o.2.2.2.2.2.2.2)]) 6 [some (.inr 19), some (.inl x0), some (.inl s3.1)] [] (rb_ov μ [(20, s3.2.1), (21, s3.2.2.1), (22, s3.2.2.2.1), (19, s3.2.2.2.2.1), (23, s3.2.2.2.2.2.1), (24, s3.2.2.2.2.2.2.1), (25, s3.2.2.2.2.2.2.2.1), (26, s3.2.2.2.2.2.2.2.2)])) ?_ 100000 (t1, a, rd, ag, mf, na, nb, nl, sv) l5
  intro s3 y6 h ih7 hE8
  refine ev_iload_n (v := s3.1) (pc := 6) dX7_turnAway_6 rfl ?_
  by_cases b11 : s3.1 < 0
  · rw [if_pos b11] at h
    refine ev_if_lt_t (t := 24) (pc := 7) dX7_turnAway_7 (by decide) b11 ?_
    obtain rfl := Option.some.inj h
    obtain rfl := hE8 _ rfl
    exact ev_fg (L := [none, none, none]) True.intro (hx9)
  · rw [if_neg b11] at h
    refine ev_if_lt_f (t := 24) (pc := 7) dX7_turnAway_7 (by decide) b11 ?_
    obtain ⟨t12, e13, h⟩ := rb_bd h
    obtain ⟨t14, e15, h⟩ := rb_bd h
    refine ev_aload_n (v := 19) (pc := 10) dX7_turnAway_10 rfl ?_
    refine ev_iload_n (v := s3.1) (pc := 11) dX7_turnAway_11 rfl ?_
    refine ev_cVv1w (w' := [(20, t12.1), (21, t12.2.1), (22, t12.2.2.1), (19, t12.2.2.2.1), (23, t12.2.2.2.2.1), (24, t12.2.2.2.2.2.1), (25, t12.2.2.2.2.2.2.1), (26, t12.2.2.2.2.2.2.2)]) (pc := 12) dX7_turnAway_12 mv_X7_endGone lk_RX7_223 rp_19 (ct_X7_endGone _ _ _ _ _ _ _ _ _ _ _ rfl rfl rfl rfl rfl rfl rfl rfl e13) (Nat.le_of_ble_eq_true rfl) (Nat.le_of_ble_eq_true rfl) rfl ?_
    refine ev_aload_n (v := 19) (pc := 15) dX7_turnAway_15 rfl ?_
    refine ev_iload_n (v := x0) (pc := 16) dX7_turnAway_16 rfl ?_
    refine ev_cVi1 (pc := 17) dX7_turnAway_17 mv_X7_longestWaiting lk_RX7_124 rp_19 (ct_X7_longestWaiting _ _ _ _ rfl e15) (Nat.le_of_ble_eq_true rfl) (Nat.le_of_ble_eq_true rfl) ?_
    refine ev_istore_n (L' := [some (.inr 19), some (.inl x0), some (.inl t14)]) (pc := 20) dX7_turnAway_20 (Nat.le_of_ble_eq_true rfl) rfl ?_
    refine ev_goto (t := 6) (pc := 21) dX7_turnAway_21 (by decide) ?_
    obtain rfl := Option.some.inj h
    exact ih7 (t14, t12.1, t12.2.1, t12.2.2.1, t12.2.2.2.1, t12.2.2.2.2.1, t12.2.2.2.2.2.1, t12.2.2.2.2.2.2.1, t12.2.2.2.2.2.2.2) rfl
def XX7_gone (a : rb_Row) (rd : rb_Row) (ag : rb_Row) (mf : rb_Row) (na : rb_Row) (nb : rb_Row) (nl : rb_Row) (sv : rb_Row) (x0 : Int32) : Option (rb_Row × rb_Row × rb_Row × rb_Row × rb_Row × rb_Row × rb_Row × rb_Row) := (XX7_kindOf a x0).bind fun t1 => (rb_lp (ρ := rb_Row) (fun (s3 : Int32 × rb_Row) => if 24 ≤ s3.1 then some (.inr s3.2) else (XX7_isInterest s3.2 s3.1).bind fun t12 => ((if t12 = 0 then some s3.2 else (XX7_ofInterest s3.2 s3.1 1).bind fun t18 => if t18 = x0 then (XX7_dropInterest s3.2 s3.1).bind fun t21 => some t21 else (XX7_ofInterest s3.2 s3.1 0).bind fun t23 => if t23 = x0 then (XX7_dropInterest s3.2 s3.1).bind fun t26 => some t26 else some s3.2) : Option (rb_Row)).bind fun j14 => some (.inl ((s3.1 + 1), j14))) 100000 (0, a)).bind fun q4 => (rb_lp (ρ := rb_Row) (fun (s28 : Int32 × rb_Row) => if 6 ≤ s28.1 then some (.inr s28.2) else (XX7_ofTask s28.2 s28.1 0).bind fun t37 => ((if t37 = x0 then (XX7_gotNothing s28.2 s28.1).bind fun t43 => some t43 else some s28.2) : Option (rb_Row)).bind fun j39 => some (.inl ((s28.1 + 1), j39))) 100000 (0, q4)).bind fun q29 => ((if t1 = 5 then (XX7_turnAway q29 rd ag mf na nb nl sv x0).bind fun t49 => some (t49.1, t49.2.1, t49.2.2.1, t49.2.2.2.1, t49.2.2.2.2.1, t49.2.2.2.2.2.1, t49.2.2.2.2.2.2.1, t49.2.2.2.2.2.2.2) else some (q29, rd, ag, mf, na, nb, nl, sv)) : Option (rb_Row × rb_Row × rb_Row × rb_Row × rb_Row × rb_Row × rb_Row × rb_Row)).bind fun j45 => (XX7_isEnd j45.1 x0).bind fun t51 => if t51 = 0 then (XX7_objectAt x0 0).bind fun t54 => (rb_wr j45.1 796 t54 (-1)).bind fun a56 => some (a56, j45.2.1, j45.2.2.1, j45.2.2.2.1, j45.2.2.2.2.1, j45.2.2.2.2.2.1, j45.2.2.2.2.2.2.1, j45.2.2.2.2.2.2.2) else (XX7_endGone j45.1 j45.2.1 j45.2.2.1 j45.2.2.2.1 j45.2.2.2.2.1 j45.2.2.2.2.2.1 j45.2.2.2.2.2.2.1 j45.2.2.2.2.2.2.2 x0).bind fun t58 => some (t58.1, t58.2.1, t58.2.2.1, t58.2.2.2.1, t58.2.2.2.2.1, t58.2.2.2.2.2.1, t58.2.2.2.2.2.2.1, t58.2.2.2.2.2.2.2)
set_option maxHeartbeats 4000000 in
set_option maxRecDepth 20000 in
theorem ct_X7_gone (μ : rb_Mem) (a : rb_Row) (rd : rb_Row) (ag : rb_Row) (mf : rb_Row) (na : rb_Row) (nb : rb_Row) (nl : rb_Row) (sv : rb_Row) (x0 : Int32) (o : rb_Row × rb_Row × rb_Row × rb_Row × rb_Row × rb_Row × rb_Row × rb_Row) (ha : μ 20 = a) (hrd : μ 21 = rd) (hag : μ 22 = ag) (hmf : μ 19 = mf) (hna : μ 23 = na) (hnb : μ 24 = nb) (hnl : μ 25 = nl) (hsv : μ 26 = sv) (h : XX7_gone a rd ag mf na nb nl sv x0 = some o) : rb_Ct yX7_gone cX7_gone 4 none 12 [.inr 19, .inl x0] μ none (rb_ov μ [(20, o.1), (21, o.2.1), (22, o.2.2.1), (19, o.2.2.2.1), (23, o.2.2.2.2.1), (24, o.2.2.2.2.2.1), (25, o.2.2.2.2.2.2.1), (26, o.2.2.2.2.2.2.2)]) := by
  unfold XX7_gone at h
  have hini : rb_ov μ [(20, a), (21, rd), (22, ag), (19, mf), (23, na), (24, nb), (25, nl), (26, sv)] = μ := rb_ov_sf _ _ (And.intro ha (And.intro hrd (And.intro hag (And.intro hmf (And.intro hna (And.intro hnb (And.intro hnl (And.intro hsv True.intro))))))))
  have hfin : ∀ u0 u1 u2 u3 u4 u5 u6 u7 : rb_Row, rb_ov μ [(20, u0), (21, u1), (22, u2), (19, u3), (23, u4), (24, u5), (25, u6), (26, u7)] = rb_ov μ [(20, u0), (21, u1), (22, u2), (19, u3), (23, u4), (24, u5), (25, u6), (26, u7)] := fun u0 u1 u2 u3 u4 u5 u6 u7 => rfl
  refine rb_ctv (w := [(20, a), (21, rd), (22, ag), (19, mf), (23, na), (24, nb), (25, nl), (26, sv)]) rfl pn_7 (Nat.le_of_ble_eq_true rfl) rfl hini ?_
  obtain ⟨t1, e2, h⟩ := rb_bd h
  refine ev_aload_n (v := 19) (pc := 0) dX7_gone_0 rfl ?_
  refine ev_iload_n (v := x0) (pc := 1) dX7_gone_1 rfl ?_
  refine ev_cVi1 (pc := 2) dX7_gone_2 mv_X7_kindOf lk_RX7_77 rp_19 (ct_X7_kindOf _ _ _ _ rfl e2) (Nat.le_of_ble_eq_true rfl) (Nat.le_of_ble_eq_true rfl) ?_
  refine ev_istore_n (L' := [some (.inr 19), some (.inl x0), some (.inl t1), none]) (pc := 5) dX7_gone_5 (Nat.le_of_ble_eq_true rfl) rfl ?_
  refine ev_iconst (v := 0) (pc := 6) dX7_gone_6 ki_0 ?_
  refine ev_istore_n (L' := [some (.inr 19), some (.inl x0), some (.inl t1), some (.inl 0)]) (pc := 7) dX7_gone_7 (Nat.le_of_ble_eq_true rfl) rfl ?_
  obtain ⟨q4, l5, h⟩ := rb_bd h
  have hx9 : rb_Ev RX7 cX7_gone 4 none none 12 none (rb_ov μ [(20, o.1), (21, o.2.1), (22, o.2.2.1), (19, o.2.2.2.1), (23, o.2.2.2.2.1), (24, o.2.2.2.2.2.1), (25, o.2.2.2.2.2.2.1), (26, o.2.2.2.2.2.2.2)]) 53 [some (.inr 19), some (.inl x0), some (.inl t1), none] [] (rb_ov μ [(20, q4), (21, rd), (22, ag), (19, mf), (23, na), (24, nb), (25, nl), (26, sv)]) := by
    refine ev_iconst (v := 0) (pc := 53) dX7_gone_53 ki_0 ?_
    refine ev_istore_n (L' := [some (.inr 19), some (.inl x0), some (.inl t1), some (.inl 0)]) (pc := 54) dX7_gone_54 (Nat.le_of_ble_eq_true rfl) rfl ?_
    obtain ⟨q29, l30, h⟩ := rb_bd h
    have hx34 : rb_Ev RX7 cX7_gone 4 none none 12 none (rb_ov μ [(20, o.1), (21, o.2.1), (22, o.2.2.1), (19, o.2.2.2.1), (23, o.2.2.2.2.1), (24, o.2.2.2.2.2.1), (25, o.2.2.2.2.2.2.1), (26, o.2.2.2.2.2.2.2)]) 82 [some (.inr 19), some (.inl x0), some (.inl t1), none] [] (rb_ov μ [(20, q29), (21, rd), (22, ag), (19, mf), (23, na), (24, nb), (25, nl), (26, sv)]) := by
      refine ev_iload_n (v := t1) (pc := 82) dX7_gone_82 rfl ?_
      refine ev_iconst (v := 5) (pc := 83) dX7_gone_83 ki_5 ?_
      obtain ⟨j45, e46, h⟩ := rb_bd h
      have hj47 : rb_Ev RX7 cX7_gone 4 none none 12 none (rb_ov μ [(20, o.1), (21, o.2.1), (22, o.2.2.1), (19, o.2.2.2.1), (23, o.2.2.2.2.1), (24, o.2.2.2.2.2.1), (25, o.2.2.2.2.2.2.1), (26, o.2.2.2.2.2.2.2)]) 92 [some (.inr 19), some (.inl x0), none, none] [] (rb_ov μ [(20, j45.1), (21, j45.2.1), (22, j45.2.2.1), (19, j45.2.2.2.1), (23, j45.2.2.2.2.1), (24, j45.2.2.2.2.2.1), (25, j45.2.2.2.2.2.2.1), (26, j45.2.2.2.2.2.2.2)]) := by
        obtain ⟨t51, e52, h⟩ := rb_bd h
        refine ev_aload_n (v := 19) (pc := 92) dX7_gone_92 rfl ?_
        refine ev_iload_n (v := x0) (pc := 93) dX7_gone_93 rfl ?_
        refine ev_cVi1 (pc := 94) dX7_gone_94 mv_X7_isEnd lk_RX7_220 rp_19 (ct_X7_isEnd _ _ _ _ rfl e52) (Nat.le_of_ble_eq_true rfl) (Nat.le_of_ble_eq_true rfl) ?_
        by_cases b53 : t51 = 0
        · rw [if_pos b53] at h
          refine ev_if_eq_t (t := 108) (pc := 97) dX7_gone_97 (by decide) b53 ?_
          obtain ⟨t54, e55, h⟩ := rb_bd h
          obtain ⟨a56, e57, h⟩ := rb_bd h
          refine ev_aload_n (v := 19) (pc := 108) dX7_gone_108 rfl ?_
          refine ev_getr (q := 20) (pc := 109) dX7_gone_109 fl_RX7_7 rfl rfl ?_
          refine ev_iload_n (v := x0) (pc := 112) dX7_gone_112 rfl ?_
          refine ev_iconst (v := 0) (pc := 113) dX7_gone_113 ki_0 ?_
          refine ev_cSi2 (pc := 114) dX7_gone_114 ms_X7_objectAt lk_RX7_53 (ct_X7_objectAt _ _ _ _ e55) (Nat.le_of_ble_eq_true rfl) (Nat.le_of_ble_eq_true rfl) ?_
          refine ev_iconst (v := (-1)) (pc := 117) dX7_gone_117 ki_m1 ?_
          refine ev_iast (w' := [(20, a56), (21, j45.2.1), (22, j45.2.2.1), (19, j45.2.2.2.1), (23, j45.2.2.2.2.1), (24, j45.2.2.2.2.2.1), (25, j45.2.2.2.2.2.2.1), (26, j45.2.2.2.2.2.2.2)]) (pc := 118) dX7_gone_118 rfl e57 rfl ?_
          obtain rfl := Option.some.inj h
          exact ev_ret (pc := 119) dX7_gone_119 rfl rfl (hfin _ _ _ _ _ _ _ _)
        · rw [if_neg b53] at h
          refine ev_if_eq_f (t := 108) (pc := 97) dX7_gone_97 (by decide) b53 ?_
          obtain ⟨t58, e59, h⟩ := rb_bd h
          refine ev_aload_n (v := 19) (pc := 100) dX7_gone_100 rfl ?_
          refine ev_iload_n (v := x0) (pc := 101) dX7_gone_101 rfl ?_
          refine ev_cVv1w (w' := [(20, t58.1), (21, t58.2.1), (22, t58.2.2.1), (19, t58.2.2.2.1), (23, t58.2.2.2.2.1), (24, t58.2.2.2.2.2.1), (25, t58.2.2.2.2.2.2.1), (26, t58.2.2.2.2.2.2.2)]) (pc := 102) dX7_gone_102 mv_X7_endGone lk_RX7_223 rp_19 (ct_X7_endGone _ _ _ _ _ _ _ _ _ _ _ rfl rfl rfl rfl rfl rfl rfl rfl e59) (Nat.le_of_ble_eq_true rfl) (Nat.le_of_ble_eq_true rfl) rfl ?_
          refine ev_goto (t := 119) (pc := 105) dX7_gone_105 (by decide) ?_
          obtain rfl := Option.some.inj h
          exact ev_ret (pc := 119) dX7_gone_119 rfl rfl (hfin _ _ _ _ _ _ _ _)
      replace h := e46
      by_cases b48 : t1 = 5
      · rw [if_pos b48] at h
        refine ev_icmp_ne_f (t := 92) (pc := 84) dX7_gone_84 (by decide) b48 ?_
        obtain ⟨t49, e50, h⟩ := rb_bd h
        refine ev_aload_n (v := 19) (pc := 87) dX7_gone_87 rfl ?_
        refine ev_iload_n (v := x0) (pc := 88) dX7_gone_88 rfl ?_
        refine ev_cVv1w (w' := [(20, t49.1), (21, t49.2.1), (22, t49.2.2.1), (19, t49.2.2.2.1), (23, t49.2.2.2.2.1), (24, t49.2.2.2.2.2.1), (25, t49.2.2.2.2.2.2.1), (26, t49.2.2.2.2.2.2.2)]) (pc := 89) dX7_gone_89 mv_X7_turnAway lk_RX7_217 rp_19 (ct_X7_turnAway _ _ _ _ _ _ _ _ _ _ _ rfl rfl rfl rfl rfl rfl rfl rfl e50) (Nat.le_of_ble_eq_true rfl) (Nat.le_of_ble_eq_true rfl) rfl ?_
        obtain rfl := Option.some.inj h
        exact ev_fg (L := [some (.inr 19), some (.inl x0), none, none]) (And.intro rfl (And.intro rfl True.intro)) (hj47)
      · rw [if_neg b48] at h
        refine ev_icmp_ne_t (t := 92) (pc := 84) dX7_gone_84 (by decide) b48 ?_
        obtain rfl := Option.some.inj h
        exact ev_fg (L := [some (.inr 19), some (.inl x0), none, none]) (And.intro rfl (And.intro rfl True.intro)) (hj47)
    refine rb_lp_ev (P := fun (s28 : Int32 × rb_Row) => rb_Ev RX7 cX7_gone 4 none none 12 none (rb_ov μ [(20, o.1), (21, o.2.1), (22, o.2.2.1), (19, o.2.2.2.1), (23, o.2.2.2.2.1), (24, o.2.2.2.2.2.1), (25, o.2.2.2.2.2.2.1), (26, o.2.2.2.2.2.2.2)]) 55 [some (.inr 19), some (.inl x0), some (.inl t1), some (.inl s28.1)] [] (rb_ov μ [(20, s28.2), (21, rd), (22, ag), (19, mf), (23, na), (24, nb), (25, nl), (26, sv)])) ?_ 100000 (0, q4) l30
    intro s28 y31 h ih32 hE33
    refine ev_iload_n (v := s28.1) (pc := 55) dX7_gone_55 rfl ?_
    refine ev_bipush (v := 6) (pc := 56) dX7_gone_56 kb_6 ?_
    by_cases b36 : 6 ≤ s28.1
    · rw [if_pos b36] at h
      refine ev_icmp_ge_t (t := 82) (pc := 58) dX7_gone_58 (by decide) b36 ?_
      obtain rfl := Option.some.inj h
      obtain rfl := hE33 _ rfl
      exact ev_fg (L := [some (.inr 19), some (.inl x0), some (.inl t1), none]) (And.intro rfl (And.intro rfl (And.intro rfl True.intro))) (hx34)
    · rw [if_neg b36] at h
      refine ev_icmp_ge_f (t := 82) (pc := 58) dX7_gone_58 (by decide) b36 ?_
      obtain ⟨t37, e38, h⟩ := rb_bd h
      refine ev_aload_n (v := 19) (pc := 61) dX7_gone_61 rfl ?_
      refine ev_iload_n (v := s28.1) (pc := 62) dX7_gone_62 rfl ?_
      refine ev_iconst (v := 0) (pc := 63) dX7_gone_63 ki_0 ?_
      refine ev_cVi2 (pc := 64) dX7_gone_64 mv_X7_ofTask lk_RX7_84 rp_19 (ct_X7_ofTask _ _ _ _ _ rfl e38) (Nat.le_of_ble_eq_true rfl) (Nat.le_of_ble_eq_true rfl) ?_
      refine ev_iload_n (v := x0) (pc := 67) dX7_gone_67 rfl ?_
      obtain ⟨j39, e40, h⟩ := rb_bd h
      have hj41 : rb_Ev RX7 cX7_gone 4 none none 12 none (rb_ov μ [(20, o.1), (21, o.2.1), (22, o.2.2.1), (19, o.2.2.2.1), (23, o.2.2.2.2.1), (24, o.2.2.2.2.2.1), (25, o.2.2.2.2.2.2.1), (26, o.2.2.2.2.2.2.2)]) 76 [some (.inr 19), some (.inl x0), some (.inl t1), some (.inl s28.1)] [] (rb_ov μ [(20, j39), (21, rd), (22, ag), (19, mf), (23, na), (24, nb), (25, nl), (26, sv)]) := by
        refine ev_iinc (x := s28.1) (v := (s28.1 + 1)) (L' := [some (.inr 19), some (.inl x0), some (.inl t1), some (.inl (s28.1 + 1))]) (pc := 76) dX7_gone_76 rfl (kx_1 _) (Nat.le_of_ble_eq_true rfl) rfl ?_
        refine ev_goto (t := 55) (pc := 79) dX7_gone_79 (by decide) ?_
        obtain rfl := Option.some.inj h
        exact ih32 ((s28.1 + 1), j39) rfl
      replace h := e40
      by_cases b42 : t37 = x0
      · rw [if_pos b42] at h
        refine ev_icmp_ne_f (t := 76) (pc := 68) dX7_gone_68 (by decide) b42 ?_
        obtain ⟨t43, e44, h⟩ := rb_bd h
        refine ev_aload_n (v := 19) (pc := 71) dX7_gone_71 rfl ?_
        refine ev_iload_n (v := s28.1) (pc := 72) dX7_gone_72 rfl ?_
        refine ev_cVv1w (w' := [(20, t43), (21, rd), (22, ag), (19, mf), (23, na), (24, nb), (25, nl), (26, sv)]) (pc := 73) dX7_gone_73 mv_X7_gotNothing lk_RX7_214 rp_19 (ct_X7_gotNothing _ _ _ _ rfl e44) (Nat.le_of_ble_eq_true rfl) (Nat.le_of_ble_eq_true rfl) rfl ?_
        obtain rfl := Option.some.inj h
        exact hj41
      · rw [if_neg b42] at h
        refine ev_icmp_ne_t (t := 76) (pc := 68) dX7_gone_68 (by decide) b42 ?_
        obtain rfl := Option.some.inj h
        exact hj41
  refine rb_lp_ev (P := fun (s3 : Int32 × rb_Row) => rb_Ev RX7 cX7_gone 4 none none 12 none (rb_ov μ [(20, o.1), (21, o.2.1), (22, o.2.2.1), (19, o.2.2.2.1), (23, o.2.2.2.2.1), (24, o.2.2.2.2.2.1), (25, o.2.2.2.2.2.2.1), (26, o.2.2.2.2.2.2.2)]) 8 [some (.inr 19), some (.inl x0), some (.inl t1), some (.inl s3.1)] [] (rb_ov μ [(20, s3.2), (21, rd), (22, ag), (19, mf), (23, na), (24, nb), (25, nl), (26, sv)])) ?_ 100000 (0, a) l5
  intro s3 y6 h ih7 hE8
  refine ev_iload_n (v := s3.1) (pc := 8) dX7_gone_8 rfl ?_
  refine ev_bipush (v := 24) (pc := 9) dX7_gone_9 kb_24 ?_
  by_cases b11 : 24 ≤ s3.1
  · rw [if_pos b11] at h
    refine ev_icmp_ge_t (t := 53) (pc := 11) dX7_gone_11 (by decide) b11 ?_
    obtain rfl := Option.some.inj h
    obtain rfl := hE8 _ rfl
    exact ev_fg (L := [some (.inr 19), some (.inl x0), some (.inl t1), none]) (And.intro rfl (And.intro rfl (And.intro rfl True.intro))) (hx9)
  · rw [if_neg b11] at h
    refine ev_icmp_ge_f (t := 53) (pc := 11) dX7_gone_11 (by decide) b11 ?_
    obtain ⟨t12, e13, h⟩ := rb_bd h
    refine ev_aload_n (v := 19) (pc := 14) dX7_gone_14 rfl ?_
    refine ev_iload_n (v := s3.1) (pc := 15) dX7_gone_15 rfl ?_
    refine ev_cVi1 (pc := 16) dX7_gone_16 mv_X7_isInterest lk_RX7_149 rp_19 (ct_X7_isInterest _ _ _ _ rfl e13) (Nat.le_of_ble_eq_true rfl) (Nat.le_of_ble_eq_true rfl) ?_
    obtain ⟨j14, e15, h⟩ := rb_bd h
    have hj16 : rb_Ev RX7 cX7_gone 4 none none 12 none (rb_ov μ [(20, o.1), (21, o.2.1), (22, o.2.2.1), (19, o.2.2.2.1), (23, o.2.2.2.2.1), (24, o.2.2.2.2.2.1), (25, o.2.2.2.2.2.2.1), (26, o.2.2.2.2.2.2.2)]) 47 [some (.inr 19), some (.inl x0), some (.inl t1), some (.inl s3.1)] [] (rb_ov μ [(20, j14), (21, rd), (22, ag), (19, mf), (23, na), (24, nb), (25, nl), (26, sv)]) := by
      refine ev_iinc (x := s3.1) (v := (s3.1 + 1)) (L' := [some (.inr 19), some (.inl x0), some (.inl t1), some (.inl (s3.1 + 1))]) (pc := 47) dX7_gone_47 rfl (kx_1 _) (Nat.le_of_ble_eq_true rfl) rfl ?_
      refine ev_goto (t := 8) (pc := 50) dX7_gone_50 (by decide) ?_
      obtain rfl := Option.some.inj h
      exact ih7 ((s3.1 + 1), j14) rfl
    replace h := e15
    by_cases b17 : t12 = 0
    · rw [if_pos b17] at h
      refine ev_if_eq_t (t := 47) (pc := 19) dX7_gone_19 (by decide) b17 ?_
      obtain rfl := Option.some.inj h
      exact hj16
    · rw [if_neg b17] at h
      refine ev_if_eq_f (t := 47) (pc := 19) dX7_gone_19 (by decide) b17 ?_
      obtain ⟨t18, e19, h⟩ := rb_bd h
      refine ev_aload_n (v := 19) (pc := 22) dX7_gone_22 rfl ?_
      refine ev_iload_n (v := s3.1) (pc := 23) dX7_gone_23 rfl ?_
      refine ev_iconst (v := 1) (pc := 24) dX7_gone_24 ki_1 ?_
      refine ev_cVi2 (pc := 25) dX7_gone_25 mv_X7_ofInterest lk_RX7_81 rp_19 (ct_X7_ofInterest _ _ _ _ _ rfl e19) (Nat.le_of_ble_eq_true rfl) (Nat.le_of_ble_eq_true rfl) ?_
      refine ev_iload_n (v := x0) (pc := 28) dX7_gone_28 rfl ?_
      by_cases b20 : t18 = x0
      · rw [if_pos b20] at h
        refine ev_icmp_eq_t (t := 42) (pc := 29) dX7_gone_29 (by decide) b20 ?_
        obtain ⟨t21, e22, h⟩ := rb_bd h
        refine ev_aload_n (v := 19) (pc := 42) dX7_gone_42 rfl ?_
        refine ev_iload_n (v := s3.1) (pc := 43) dX7_gone_43 rfl ?_
        refine ev_cVv1w (w' := [(20, t21), (21, rd), (22, ag), (19, mf), (23, na), (24, nb), (25, nl), (26, sv)]) (pc := 44) dX7_gone_44 mv_X7_dropInterest lk_RX7_211 rp_19 (ct_X7_dropInterest _ _ _ _ rfl e22) (Nat.le_of_ble_eq_true rfl) (Nat.le_of_ble_eq_true rfl) rfl ?_
        obtain rfl := Option.some.inj h
        exact hj16
      · rw [if_neg b20] at h
        refine ev_icmp_eq_f (t := 42) (pc := 29) dX7_gone_29 (by decide) b20 ?_
        obtain ⟨t23, e24, h⟩ := rb_bd h
        refine ev_aload_n (v := 19) (pc := 32) dX7_gone_32 rfl ?_
        refine ev_iload_n (v := s3.1) (pc := 33) dX7_gone_33 rfl ?_
        refine ev_iconst (v := 0) (pc := 34) dX7_gone_34 ki_0 ?_
        refine ev_cVi2 (pc := 35) dX7_gone_35 mv_X7_ofInterest lk_RX7_81 rp_19 (ct_X7_ofInterest _ _ _ _ _ rfl e24) (Nat.le_of_ble_eq_true rfl) (Nat.le_of_ble_eq_true rfl) ?_
        refine ev_iload_n (v := x0) (pc := 38) dX7_gone_38 rfl ?_
        by_cases b25 : t23 = x0
        · rw [if_pos b25] at h
          refine ev_icmp_ne_f (t := 47) (pc := 39) dX7_gone_39 (by decide) b25 ?_
          obtain ⟨t26, e27, h⟩ := rb_bd h
          refine ev_aload_n (v := 19) (pc := 42) dX7_gone_42 rfl ?_
          refine ev_iload_n (v := s3.1) (pc := 43) dX7_gone_43 rfl ?_
          refine ev_cVv1w (w' := [(20, t26), (21, rd), (22, ag), (19, mf), (23, na), (24, nb), (25, nl), (26, sv)]) (pc := 44) dX7_gone_44 mv_X7_dropInterest lk_RX7_211 rp_19 (ct_X7_dropInterest _ _ _ _ rfl e27) (Nat.le_of_ble_eq_true rfl) (Nat.le_of_ble_eq_true rfl) rfl ?_
          obtain rfl := Option.some.inj h
          exact hj16
        · rw [if_neg b25] at h
          refine ev_icmp_ne_t (t := 47) (pc := 39) dX7_gone_39 (by decide) b25 ?_
          obtain rfl := Option.some.inj h
          exact hj16
def XX7_goClose (a : rb_Row) (rd : rb_Row) (ag : rb_Row) (mf : rb_Row) (na : rb_Row) (nb : rb_Row) (nl : rb_Row) (sv : rb_Row) (wa : rb_Row) (x0 : Int32) (x1 : Int32) : Option (Int32 × rb_Row × rb_Row × rb_Row × rb_Row × rb_Row × rb_Row × rb_Row × rb_Row × rb_Row) := (XX7_isHandle a x0).bind fun t1 => if t1 = 0 then some ((rb_nz 0), a, rd, ag, mf, na, nb, nl, sv, wa) else ((if x1 = 0 then some (mf, wa) else (XX7_keepAct mf wa a).bind fun t8 => some (t8.1, t8.2)) : Option (rb_Row × rb_Row)).bind fun j4 => (rb_rd a 796 x0).bind fun v10 => (rb_wr a 796 x0 (-1)).bind fun a12 => (XX7_handlesOf a12 v10).bind fun t14 => if t14 = 0 then (XX7_gone a12 rd ag j4.1 na nb nl sv v10).bind fun t17 => some ((rb_nz 1), t17.1, t17.2.1, t17.2.2.1, t17.2.2.2.1, t17.2.2.2.2.1, t17.2.2.2.2.2.1, t17.2.2.2.2.2.2.1, t17.2.2.2.2.2.2.2, j4.2) else some ((rb_nz 1), a12, rd, ag, j4.1, na, nb, nl, sv, j4.2)
set_option maxHeartbeats 4000000 in
set_option maxRecDepth 20000 in
theorem ct_X7_goClose (μ : rb_Mem) (a : rb_Row) (rd : rb_Row) (ag : rb_Row) (mf : rb_Row) (na : rb_Row) (nb : rb_Row) (nl : rb_Row) (sv : rb_Row) (wa : rb_Row) (x0 : Int32) (x1 : Int32) (o : Int32 × rb_Row × rb_Row × rb_Row × rb_Row × rb_Row × rb_Row × rb_Row × rb_Row × rb_Row) (ha : μ 20 = a) (hrd : μ 21 = rd) (hag : μ 22 = ag) (hmf : μ 19 = mf) (hna : μ 23 = na) (hnb : μ 24 = nb) (hnl : μ 25 = nl) (hsv : μ 26 = sv) (hwa : μ 31 = wa) (h : XX7_goClose a rd ag mf na nb nl sv wa x0 x1 = some o) : rb_Ct yX7_goClose cX7_goClose 4 (some .boolean) 13 [.inr 19, .inl x0, .inl x1] μ (some o.1) (rb_ov μ [(20, o.2.1), (21, o.2.2.1), (22, o.2.2.2.1), (19, o.2.2.2.2.1), (23, o.2.2.2.2.2.1), (24, o.2.2.2.2.2.2.1), (25, o.2.2.2.2.2.2.2.1), (26, o.2.2.2.2.2.2.2.2.1), (31, o.2.2.2.2.2.2.2.2.2)]) := by
  unfold XX7_goClose at h
  have hini : rb_ov μ [(20, a), (21, rd), (22, ag), (19, mf), (23, na), (24, nb), (25, nl), (26, sv), (31, wa)] = μ := rb_ov_sf _ _ (And.intro ha (And.intro hrd (And.intro hag (And.intro hmf (And.intro hna (And.intro hnb (And.intro hnl (And.intro hsv (And.intro hwa True.intro)))))))))
  have hfin : ∀ u0 u1 u2 u3 u4 u5 u6 u7 u8 : rb_Row, rb_ov μ [(20, u0), (21, u1), (22, u2), (19, u3), (23, u4), (24, u5), (25, u6), (26, u7), (31, u8)] = rb_ov μ [(20, u0), (21, u1), (22, u2), (19, u3), (23, u4), (24, u5), (25, u6), (26, u7), (31, u8)] := fun u0 u1 u2 u3 u4 u5 u6 u7 u8 => rfl
  refine rb_ctz (w := [(20, a), (21, rd), (22, ag), (19, mf), (23, na), (24, nb), (25, nl), (26, sv), (31, wa)]) rfl pn_7 (Nat.le_of_ble_eq_true rfl) rfl hini ?_
  obtain ⟨t1, e2, h⟩ := rb_bd h
  refine ev_aload_n (v := 19) (pc := 0) dX7_goClose_0 rfl ?_
  refine ev_iload_n (v := x0) (pc := 1) dX7_goClose_1 rfl ?_
  refine ev_cVi1 (pc := 2) dX7_goClose_2 mv_X7_isHandle lk_RX7_73 rp_19 (ct_X7_isHandle _ _ _ _ rfl e2) (Nat.le_of_ble_eq_true rfl) (Nat.le_of_ble_eq_true rfl) ?_
  by_cases b3 : t1 = 0
  · rw [if_pos b3] at h
    refine ev_if_ne_f (t := 10) (pc := 5) dX7_goClose_5 (by decide) b3 ?_
    refine ev_iconst (v := 0) (pc := 8) dX7_goClose_8 ki_0 ?_
    obtain rfl := Option.some.inj h
    exact ev_iret (pc := 9) dX7_goClose_9 rfl rfl rfl (hfin _ _ _ _ _ _ _ _ _)
  · rw [if_neg b3] at h
    refine ev_if_ne_t (t := 10) (pc := 5) dX7_goClose_5 (by decide) b3 ?_
    refine ev_iload_n (v := x1) (pc := 10) dX7_goClose_10 rfl ?_
    obtain ⟨j4, e5, h⟩ := rb_bd h
    have hj6 : rb_Ev RX7 cX7_goClose 4 (some .boolean) none 13 (some o.1) (rb_ov μ [(20, o.2.1), (21, o.2.2.1), (22, o.2.2.2.1), (19, o.2.2.2.2.1), (23, o.2.2.2.2.2.1), (24, o.2.2.2.2.2.2.1), (25, o.2.2.2.2.2.2.2.1), (26, o.2.2.2.2.2.2.2.2.1), (31, o.2.2.2.2.2.2.2.2.2)]) 18 [some (.inr 19), some (.inl x0), none, none] [] (rb_ov μ [(20, a), (21, rd), (22, ag), (19, j4.1), (23, na), (24, nb), (25, nl), (26, sv), (31, j4.2)]) := by
      obtain ⟨v10, e11, h⟩ := rb_bd h
      obtain ⟨a12, e13, h⟩ := rb_bd h
      obtain ⟨t14, e15, h⟩ := rb_bd h
      refine ev_aload_n (v := 19) (pc := 18) dX7_goClose_18 rfl ?_
      refine ev_getr (q := 20) (pc := 19) dX7_goClose_19 fl_RX7_7 rfl rfl ?_
      refine ev_iload_n (v := x0) (pc := 22) dX7_goClose_22 rfl ?_
      refine ev_iald (pc := 23) dX7_goClose_23 rfl e11 ?_
      refine ev_istore_n (L' := [some (.inr 19), some (.inl x0), none, some (.inl v10)]) (pc := 24) dX7_goClose_24 (Nat.le_of_ble_eq_true rfl) rfl ?_
      refine ev_aload_n (v := 19) (pc := 25) dX7_goClose_25 rfl ?_
      refine ev_getr (q := 20) (pc := 26) dX7_goClose_26 fl_RX7_7 rfl rfl ?_
      refine ev_iload_n (v := x0) (pc := 29) dX7_goClose_29 rfl ?_
      refine ev_iconst (v := (-1)) (pc := 30) dX7_goClose_30 ki_m1 ?_
      refine ev_iast (w' := [(20, a12), (21, rd), (22, ag), (19, j4.1), (23, na), (24, nb), (25, nl), (26, sv), (31, j4.2)]) (pc := 31) dX7_goClose_31 rfl e13 rfl ?_
      refine ev_aload_n (v := 19) (pc := 32) dX7_goClose_32 rfl ?_
      refine ev_iload_n (v := v10) (pc := 33) dX7_goClose_33 rfl ?_
      refine ev_cVi1 (pc := 34) dX7_goClose_34 mv_X7_handlesOf lk_RX7_205 rp_19 (ct_X7_handlesOf _ _ _ _ rfl e15) (Nat.le_of_ble_eq_true rfl) (Nat.le_of_ble_eq_true rfl) ?_
      by_cases b16 : t14 = 0
      · rw [if_pos b16] at h
        refine ev_if_ne_f (t := 45) (pc := 37) dX7_goClose_37 (by decide) b16 ?_
        obtain ⟨t17, e18, h⟩ := rb_bd h
        refine ev_aload_n (v := 19) (pc := 40) dX7_goClose_40 rfl ?_
        refine ev_iload_n (v := v10) (pc := 41) dX7_goClose_41 rfl ?_
        refine ev_cVv1w (w' := [(20, t17.1), (21, t17.2.1), (22, t17.2.2.1), (19, t17.2.2.2.1), (23, t17.2.2.2.2.1), (24, t17.2.2.2.2.2.1), (25, t17.2.2.2.2.2.2.1), (26, t17.2.2.2.2.2.2.2), (31, j4.2)]) (pc := 42) dX7_goClose_42 mv_X7_gone lk_RX7_208 rp_19 (ct_X7_gone _ _ _ _ _ _ _ _ _ _ _ rfl rfl rfl rfl rfl rfl rfl rfl e18) (Nat.le_of_ble_eq_true rfl) (Nat.le_of_ble_eq_true rfl) rfl ?_
        refine ev_iconst (v := 1) (pc := 45) dX7_goClose_45 ki_1 ?_
        obtain rfl := Option.some.inj h
        exact ev_iret (pc := 46) dX7_goClose_46 rfl rfl rfl (hfin _ _ _ _ _ _ _ _ _)
      · rw [if_neg b16] at h
        refine ev_if_ne_t (t := 45) (pc := 37) dX7_goClose_37 (by decide) b16 ?_
        refine ev_iconst (v := 1) (pc := 45) dX7_goClose_45 ki_1 ?_
        obtain rfl := Option.some.inj h
        exact ev_iret (pc := 46) dX7_goClose_46 rfl rfl rfl (hfin _ _ _ _ _ _ _ _ _)
    replace h := e5
    by_cases b7 : x1 = 0
    · rw [if_pos b7] at h
      refine ev_if_eq_t (t := 18) (pc := 11) dX7_goClose_11 (by decide) b7 ?_
      obtain rfl := Option.some.inj h
      exact ev_fg (L := [some (.inr 19), some (.inl x0), none, none]) (And.intro rfl (And.intro rfl True.intro)) (hj6)
    · rw [if_neg b7] at h
      refine ev_if_eq_f (t := 18) (pc := 11) dX7_goClose_11 (by decide) b7 ?_
      obtain ⟨t8, e9, h⟩ := rb_bd h
      refine ev_aload_n (v := 19) (pc := 14) dX7_goClose_14 rfl ?_
      refine ev_cVv0w (w' := [(20, a), (21, rd), (22, ag), (19, t8.1), (23, na), (24, nb), (25, nl), (26, sv), (31, t8.2)]) (pc := 15) dX7_goClose_15 mv_X7_keepAct lk_RX7_101 rp_19 (ct_X7_keepAct _ _ _ _ _ rfl rfl rfl e9) (Nat.le_of_ble_eq_true rfl) (Nat.le_of_ble_eq_true rfl) rfl ?_
      obtain rfl := Option.some.inj h
      exact ev_fg (L := [some (.inr 19), some (.inl x0), none, none]) (And.intro rfl (And.intro rfl True.intro)) (hj6)
def XX7_close (a : rb_Row) (rd : rb_Row) (ag : rb_Row) (mf : rb_Row) (na : rb_Row) (nb : rb_Row) (nl : rb_Row) (sv : rb_Row) (wa : rb_Row) (x0 : Int32) : Option (Int32 × rb_Row × rb_Row × rb_Row × rb_Row × rb_Row × rb_Row × rb_Row × rb_Row × rb_Row) := (XX7_goClose a rd ag mf na nb nl sv wa x0 1).bind fun t1 => some ((rb_nz t1.1), t1.2.1, t1.2.2.1, t1.2.2.2.1, t1.2.2.2.2.1, t1.2.2.2.2.2.1, t1.2.2.2.2.2.2.1, t1.2.2.2.2.2.2.2.1, t1.2.2.2.2.2.2.2.2.1, t1.2.2.2.2.2.2.2.2.2)
set_option maxHeartbeats 4000000 in
set_option maxRecDepth 20000 in
theorem ct_X7_close (μ : rb_Mem) (a : rb_Row) (rd : rb_Row) (ag : rb_Row) (mf : rb_Row) (na : rb_Row) (nb : rb_Row) (nl : rb_Row) (sv : rb_Row) (wa : rb_Row) (x0 : Int32) (o : Int32 × rb_Row × rb_Row × rb_Row × rb_Row × rb_Row × rb_Row × rb_Row × rb_Row × rb_Row) (ha : μ 20 = a) (hrd : μ 21 = rd) (hag : μ 22 = ag) (hmf : μ 19 = mf) (hna : μ 23 = na) (hnb : μ 24 = nb) (hnl : μ 25 = nl) (hsv : μ 26 = sv) (hwa : μ 31 = wa) (h : XX7_close a rd ag mf na nb nl sv wa x0 = some o) : rb_Ct yX7_close cX7_close 2 (some .boolean) 14 [.inr 19, .inl x0] μ (some o.1) (rb_ov μ [(20, o.2.1), (21, o.2.2.1), (22, o.2.2.2.1), (19, o.2.2.2.2.1), (23, o.2.2.2.2.2.1), (24, o.2.2.2.2.2.2.1), (25, o.2.2.2.2.2.2.2.1), (26, o.2.2.2.2.2.2.2.2.1), (31, o.2.2.2.2.2.2.2.2.2)]) := by
  unfold XX7_close at h
  have hini : rb_ov μ [(20, a), (21, rd), (22, ag), (19, mf), (23, na), (24, nb), (25, nl), (26, sv), (31, wa)] = μ := rb_ov_sf _ _ (And.intro ha (And.intro hrd (And.intro hag (And.intro hmf (And.intro hna (And.intro hnb (And.intro hnl (And.intro hsv (And.intro hwa True.intro)))))))))
  have hfin : ∀ u0 u1 u2 u3 u4 u5 u6 u7 u8 : rb_Row, rb_ov μ [(20, u0), (21, u1), (22, u2), (19, u3), (23, u4), (24, u5), (25, u6), (26, u7), (31, u8)] = rb_ov μ [(20, u0), (21, u1), (22, u2), (19, u3), (23, u4), (24, u5), (25, u6), (26, u7), (31, u8)] := fun u0 u1 u2 u3 u4 u5 u6 u7 u8 => rfl
  refine rb_ctz (w := [(20, a), (21, rd), (22, ag), (19, mf), (23, na), (24, nb), (25, nl), (26, sv), (31, wa)]) rfl pn_7 (Nat.le_of_ble_eq_true rfl) rfl hini ?_
  obtain ⟨t1, e2, h⟩ := rb_bd h
  refine ev_aload_n (v := 19) (pc := 0) dX7_close_0 rfl ?_
  refine ev_iload_n (v := x0) (pc := 1) dX7_close_1 rfl ?_
  refine ev_iconst (v := 1) (pc := 2) dX7_close_2 ki_1 ?_
  refine ev_cVi2w (w' := [(20, t1.2.1), (21, t1.2.2.1), (22, t1.2.2.2.1), (19, t1.2.2.2.2.1), (23, t1.2.2.2.2.2.1), (24, t1.2.2.2.2.2.2.1), (25, t1.2.2.2.2.2.2.2.1), (26, t1.2.2.2.2.2.2.2.2.1), (31, t1.2.2.2.2.2.2.2.2.2)]) (pc := 3) dX7_close_3 mv_X7_goClose lk_RX7_226 rp_19 (ct_X7_goClose _ _ _ _ _ _ _ _ _ _ _ _ _ rfl rfl rfl rfl rfl rfl rfl rfl rfl e2) (Nat.le_of_ble_eq_true rfl) (Nat.le_of_ble_eq_true rfl) rfl ?_
  obtain rfl := Option.some.inj h
  exact ev_iret (pc := 6) dX7_close_6 rfl rfl rfl (hfin _ _ _ _ _ _ _ _ _)
def XX7_goCount (a : rb_Row) (rd : rb_Row) (ag : rb_Row) (mf : rb_Row) (na : rb_Row) (nb : rb_Row) (nl : rb_Row) (sv : rb_Row) (wa : rb_Row) (x0 : Int32) (x1 : Int32) (x2 : Int32) : Option (Int32 × rb_Row × rb_Row × rb_Row × rb_Row × rb_Row × rb_Row × rb_Row × rb_Row × rb_Row) := (XX7_ofObject a x0 1).bind fun t1 => if (t1 + x1) ≤ 1000 then ((if x2 = 0 then some (mf, wa) else (XX7_keepAct mf wa a).bind fun t8 => some (t8.1, t8.2)) : Option (rb_Row × rb_Row)).bind fun j4 => (XX7_objectAt x0 1).bind fun t10 => (rb_rd a 796 t10).bind fun v12 => (rb_wr a 796 t10 (v12 + x1)).bind fun a14 => (XX7_notice a14 rd ag j4.1 na nb nl sv x0 1).bind fun t16 => some (x1, t16.1, t16.2.1, t16.2.2.1, t16.2.2.2.1, t16.2.2.2.2.1, t16.2.2.2.2.2.1, t16.2.2.2.2.2.2.1, t16.2.2.2.2.2.2.2, j4.2) else some (0, a, rd, ag, mf, na, nb, nl, sv, wa)
set_option maxHeartbeats 4000000 in
set_option maxRecDepth 20000 in
theorem ct_X7_goCount (μ : rb_Mem) (a : rb_Row) (rd : rb_Row) (ag : rb_Row) (mf : rb_Row) (na : rb_Row) (nb : rb_Row) (nl : rb_Row) (sv : rb_Row) (wa : rb_Row) (x0 : Int32) (x1 : Int32) (x2 : Int32) (o : Int32 × rb_Row × rb_Row × rb_Row × rb_Row × rb_Row × rb_Row × rb_Row × rb_Row × rb_Row) (ha : μ 20 = a) (hrd : μ 21 = rd) (hag : μ 22 = ag) (hmf : μ 19 = mf) (hna : μ 23 = na) (hnb : μ 24 = nb) (hnl : μ 25 = nl) (hsv : μ 26 = sv) (hwa : μ 31 = wa) (h : XX7_goCount a rd ag mf na nb nl sv wa x0 x1 x2 = some o) : rb_Ct yX7_goCount cX7_goCount 4 (some .int) 10 [.inr 19, .inl x0, .inl x1, .inl x2] μ (some o.1) (rb_ov μ [(20, o.2.1), (21, o.2.2.1), (22, o.2.2.2.1), (19, o.2.2.2.2.1), (23, o.2.2.2.2.2.1), (24, o.2.2.2.2.2.2.1), (25, o.2.2.2.2.2.2.2.1), (26, o.2.2.2.2.2.2.2.2.1), (31, o.2.2.2.2.2.2.2.2.2)]) := by
  unfold XX7_goCount at h
  have hini : rb_ov μ [(20, a), (21, rd), (22, ag), (19, mf), (23, na), (24, nb), (25, nl), (26, sv), (31, wa)] = μ := rb_ov_sf _ _ (And.intro ha (And.intro hrd (And.intro hag (And.intro hmf (And.intro hna (And.intro hnb (And.intro hnl (And.intro hsv (And.intro hwa True.intro)))))))))
  have hfin : ∀ u0 u1 u2 u3 u4 u5 u6 u7 u8 : rb_Row, rb_ov μ [(20, u0), (21, u1), (22, u2), (19, u3), (23, u4), (24, u5), (25, u6), (26, u7), (31, u8)] = rb_ov μ [(20, u0), (21, u1), (22, u2), (19, u3), (23, u4), (24, u5), (25, u6), (26, u7), (31, u8)] := fun u0 u1 u2 u3 u4 u5 u6 u7 u8 => rfl
  refine rb_cti (w := [(20, a), (21, rd), (22, ag), (19, mf), (23, na), (24, nb), (25, nl), (26, sv), (31, wa)]) rfl pn_7 (Nat.le_of_ble_eq_true rfl) rfl hini ?_
  obtain ⟨t1, e2, h⟩ := rb_bd h
  refine ev_aload_n (v := 19) (pc := 0) dX7_goCount_0 rfl ?_
  refine ev_iload_n (v := x0) (pc := 1) dX7_goCount_1 rfl ?_
  refine ev_iconst (v := 1) (pc := 2) dX7_goCount_2 ki_1 ?_
  refine ev_cVi2 (pc := 3) dX7_goCount_3 mv_X7_ofObject lk_RX7_66 rp_19 (ct_X7_ofObject _ _ _ _ _ rfl e2) (Nat.le_of_ble_eq_true rfl) (Nat.le_of_ble_eq_true rfl) ?_
  refine ev_iload_n (v := x1) (pc := 6) dX7_goCount_6 rfl ?_
  refine ev_iadd (pc := 7) dX7_goCount_7 ?_
  refine ev_sipush (v := 1000) (pc := 8) dX7_goCount_8 ks_1000 ?_
  by_cases b3 : (t1 + x1) ≤ 1000
  · rw [if_pos b3] at h
    refine ev_icmp_le_t (t := 16) (pc := 11) dX7_goCount_11 (by decide) b3 ?_
    refine ev_iload_n (v := x2) (pc := 16) dX7_goCount_16 rfl ?_
    obtain ⟨j4, e5, h⟩ := rb_bd h
    have hj6 : rb_Ev RX7 cX7_goCount 4 (some .int) none 10 (some o.1) (rb_ov μ [(20, o.2.1), (21, o.2.2.1), (22, o.2.2.2.1), (19, o.2.2.2.2.1), (23, o.2.2.2.2.2.1), (24, o.2.2.2.2.2.2.1), (25, o.2.2.2.2.2.2.2.1), (26, o.2.2.2.2.2.2.2.2.1), (31, o.2.2.2.2.2.2.2.2.2)]) 24 [some (.inr 19), some (.inl x0), some (.inl x1), none] [] (rb_ov μ [(20, a), (21, rd), (22, ag), (19, j4.1), (23, na), (24, nb), (25, nl), (26, sv), (31, j4.2)]) := by
      obtain ⟨t10, e11, h⟩ := rb_bd h
      obtain ⟨v12, e13, h⟩ := rb_bd h
      obtain ⟨a14, e15, h⟩ := rb_bd h
      obtain ⟨t16, e17, h⟩ := rb_bd h
      refine ev_aload_n (v := 19) (pc := 24) dX7_goCount_24 rfl ?_
      refine ev_getr (q := 20) (pc := 25) dX7_goCount_25 fl_RX7_7 rfl rfl ?_
      refine ev_iload_n (v := x0) (pc := 28) dX7_goCount_28 rfl ?_
      refine ev_iconst (v := 1) (pc := 29) dX7_goCount_29 ki_1 ?_
      refine ev_cSi2 (pc := 30) dX7_goCount_30 ms_X7_objectAt lk_RX7_53 (ct_X7_objectAt _ _ _ _ e11) (Nat.le_of_ble_eq_true rfl) (Nat.le_of_ble_eq_true rfl) ?_
      refine ev_dup2 (pc := 33) dX7_goCount_33 ?_
      refine ev_iald (pc := 34) dX7_goCount_34 rfl e13 ?_
      refine ev_iload_n (v := x1) (pc := 35) dX7_goCount_35 rfl ?_
      refine ev_iadd (pc := 36) dX7_goCount_36 ?_
      refine ev_iast (w' := [(20, a14), (21, rd), (22, ag), (19, j4.1), (23, na), (24, nb), (25, nl), (26, sv), (31, j4.2)]) (pc := 37) dX7_goCount_37 rfl e15 rfl ?_
      refine ev_aload_n (v := 19) (pc := 38) dX7_goCount_38 rfl ?_
      refine ev_iload_n (v := x0) (pc := 39) dX7_goCount_39 rfl ?_
      refine ev_iconst (v := 1) (pc := 40) dX7_goCount_40 ki_1 ?_
      refine ev_cVv2w (w' := [(20, t16.1), (21, t16.2.1), (22, t16.2.2.1), (19, t16.2.2.2.1), (23, t16.2.2.2.2.1), (24, t16.2.2.2.2.2.1), (25, t16.2.2.2.2.2.2.1), (26, t16.2.2.2.2.2.2.2), (31, j4.2)]) (pc := 41) dX7_goCount_41 mv_X7_notice lk_RX7_120 rp_19 (ct_X7_notice _ _ _ _ _ _ _ _ _ _ _ _ rfl rfl rfl rfl rfl rfl rfl rfl e17) (Nat.le_of_ble_eq_true rfl) (Nat.le_of_ble_eq_true rfl) rfl ?_
      refine ev_iload_n (v := x1) (pc := 44) dX7_goCount_44 rfl ?_
      obtain rfl := Option.some.inj h
      exact ev_iret (pc := 45) dX7_goCount_45 rfl rfl rfl (hfin _ _ _ _ _ _ _ _ _)
    replace h := e5
    by_cases b7 : x2 = 0
    · rw [if_pos b7] at h
      refine ev_if_eq_t (t := 24) (pc := 17) dX7_goCount_17 (by decide) b7 ?_
      obtain rfl := Option.some.inj h
      exact ev_fg (L := [some (.inr 19), some (.inl x0), some (.inl x1), none]) (And.intro rfl (And.intro rfl (And.intro rfl True.intro))) (hj6)
    · rw [if_neg b7] at h
      refine ev_if_eq_f (t := 24) (pc := 17) dX7_goCount_17 (by decide) b7 ?_
      obtain ⟨t8, e9, h⟩ := rb_bd h
      refine ev_aload_n (v := 19) (pc := 20) dX7_goCount_20 rfl ?_
      refine ev_cVv0w (w' := [(20, a), (21, rd), (22, ag), (19, t8.1), (23, na), (24, nb), (25, nl), (26, sv), (31, t8.2)]) (pc := 21) dX7_goCount_21 mv_X7_keepAct lk_RX7_101 rp_19 (ct_X7_keepAct _ _ _ _ _ rfl rfl rfl e9) (Nat.le_of_ble_eq_true rfl) (Nat.le_of_ble_eq_true rfl) rfl ?_
      obtain rfl := Option.some.inj h
      exact ev_fg (L := [some (.inr 19), some (.inl x0), some (.inl x1), none]) (And.intro rfl (And.intro rfl (And.intro rfl True.intro))) (hj6)
  · rw [if_neg b3] at h
    refine ev_icmp_le_f (t := 16) (pc := 11) dX7_goCount_11 (by decide) b3 ?_
    refine ev_iconst (v := 0) (pc := 14) dX7_goCount_14 ki_0 ?_
    obtain rfl := Option.some.inj h
    exact ev_iret (pc := 15) dX7_goCount_15 rfl rfl rfl (hfin _ _ _ _ _ _ _ _ _)
def XX7_goWrite (a : rb_Row) (rd : rb_Row) (ag : rb_Row) (mf : rb_Row) (na : rb_Row) (nb : rb_Row) (nl : rb_Row) (sv : rb_Row) (wa : rb_Row) (x0 : Int32) (x1 : Int32) (x2 : Int32) : Option (Int32 × rb_Row × rb_Row × rb_Row × rb_Row × rb_Row × rb_Row × rb_Row × rb_Row × rb_Row) := (XX7_isIn x1 1 100).bind fun t1 => if t1 = 0 then some ((-1), a, rd, ag, mf, na, nb, nl, sv, wa) else (XX7_names a x0 1).bind fun t4 => if t4 = 0 then (XX7_names a x0 2).bind fun t7 => if t7 = 0 then some ((-1), a, rd, ag, mf, na, nb, nl, sv, wa) else (rb_rd a 796 x0).bind fun v10 => (XX7_kindOf a v10).bind fun t12 => if t12 = 2 then (XX7_goCount a rd ag mf na nb nl sv wa v10 x1 x2).bind fun t15 => some (t15.1, t15.2.1, t15.2.2.1, t15.2.2.2.1, t15.2.2.2.2.1, t15.2.2.2.2.2.1, t15.2.2.2.2.2.2.1, t15.2.2.2.2.2.2.2.1, t15.2.2.2.2.2.2.2.2.1, t15.2.2.2.2.2.2.2.2.2) else (XX7_otherEnd a v10).bind fun t17 => if 0 ≤ t17 then (XX7_ofObject a v10 1).bind fun t20 => (XX7_ofPipe a t20 0).bind fun t22 => (XX7_ofPipe a t20 1).bind fun t24 => if (t22 - t24) = 0 then some (0, a, rd, ag, mf, na, nb, nl, sv, wa) else ((if x2 = 0 then some (mf, wa) else (XX7_keepAct mf wa a).bind fun t31 => some (t31.1, t31.2)) : Option (rb_Row × rb_Row)).bind fun j27 => ((if (t22 - t24) ≤ x1 then some (t22 - t24) else some x1) : Option (Int32)).bind fun j33 => (XX7_pipeAt t20 1).bind fun t37 => (rb_rd a 796 t37).bind fun v39 => (rb_wr a 796 t37 (v39 + j33)).bind fun a41 => (XX7_notice a41 rd ag j27.1 na nb nl sv t17 1).bind fun t43 => some (j33, t43.1, t43.2.1, t43.2.2.1, t43.2.2.2.1, t43.2.2.2.2.1, t43.2.2.2.2.2.1, t43.2.2.2.2.2.2.1, t43.2.2.2.2.2.2.2, j27.2) else some ((-2), a, rd, ag, mf, na, nb, nl, sv, wa) else (rb_rd a 796 x0).bind fun v45 => (XX7_kindOf a v45).bind fun t47 => if t47 = 2 then (XX7_goCount a rd ag mf na nb nl sv wa v45 x1 x2).bind fun t50 => some (t50.1, t50.2.1, t50.2.2.1, t50.2.2.2.1, t50.2.2.2.2.1, t50.2.2.2.2.2.1, t50.2.2.2.2.2.2.1, t50.2.2.2.2.2.2.2.1, t50.2.2.2.2.2.2.2.2.1, t50.2.2.2.2.2.2.2.2.2) else (XX7_otherEnd a v45).bind fun t52 => if 0 ≤ t52 then (XX7_ofObject a v45 1).bind fun t55 => (XX7_ofPipe a t55 0).bind fun t57 => (XX7_ofPipe a t55 1).bind fun t59 => if (t57 - t59) = 0 then some (0, a, rd, ag, mf, na, nb, nl, sv, wa) else ((if x2 = 0 then some (mf, wa) else (XX7_keepAct mf wa a).bind fun t66 => some (t66.1, t66.2)) : Option (rb_Row × rb_Row)).bind fun j62 => ((if (t57 - t59) ≤ x1 then some (t57 - t59) else some x1) : Option (Int32)).bind fun j68 => (XX7_pipeAt t55 1).bind fun t72 => (rb_rd a 796 t72).bind fun v74 => (rb_wr a 796 t72 (v74 + j68)).bind fun a76 => (XX7_notice a76 rd ag j62.1 na nb nl sv t52 1).bind fun t78 => some (j68, t78.1, t78.2.1, t78.2.2.1, t78.2.2.2.1, t78.2.2.2.2.1, t78.2.2.2.2.2.1, t78.2.2.2.2.2.2.1, t78.2.2.2.2.2.2.2, j62.2) else some ((-2), a, rd, ag, mf, na, nb, nl, sv, wa)
set_option maxHeartbeats 4000000 in
set_option maxRecDepth 20000 in
theorem ct_X7_goWrite (μ : rb_Mem) (a : rb_Row) (rd : rb_Row) (ag : rb_Row) (mf : rb_Row) (na : rb_Row) (nb : rb_Row) (nl : rb_Row) (sv : rb_Row) (wa : rb_Row) (x0 : Int32) (x1 : Int32) (x2 : Int32) (o : Int32 × rb_Row × rb_Row × rb_Row × rb_Row × rb_Row × rb_Row × rb_Row × rb_Row × rb_Row) (ha : μ 20 = a) (hrd : μ 21 = rd) (hag : μ 22 = ag) (hmf : μ 19 = mf) (hna : μ 23 = na) (hnb : μ 24 = nb) (hnl : μ 25 = nl) (hsv : μ 26 = sv) (hwa : μ 31 = wa) (h : XX7_goWrite a rd ag mf na nb nl sv wa x0 x1 x2 = some o) : rb_Ct yX7_goWrite cX7_goWrite 9 (some .int) 11 [.inr 19, .inl x0, .inl x1, .inl x2] μ (some o.1) (rb_ov μ [(20, o.2.1), (21, o.2.2.1), (22, o.2.2.2.1), (19, o.2.2.2.2.1), (23, o.2.2.2.2.2.1), (24, o.2.2.2.2.2.2.1), (25, o.2.2.2.2.2.2.2.1), (26, o.2.2.2.2.2.2.2.2.1), (31, o.2.2.2.2.2.2.2.2.2)]) := by
  unfold XX7_goWrite at h
  have hini : rb_ov μ [(20, a), (21, rd), (22, ag), (19, mf), (23, na), (24, nb), (25, nl), (26, sv), (31, wa)] = μ := rb_ov_sf _ _ (And.intro ha (And.intro hrd (And.intro hag (And.intro hmf (And.intro hna (And.intro hnb (And.intro hnl (And.intro hsv (And.intro hwa True.intro)))))))))
  have hfin : ∀ u0 u1 u2 u3 u4 u5 u6 u7 u8 : rb_Row, rb_ov μ [(20, u0), (21, u1), (22, u2), (19, u3), (23, u4), (24, u5), (25, u6), (26, u7), (31, u8)] = rb_ov μ [(20, u0), (21, u1), (22, u2), (19, u3), (23, u4), (24, u5), (25, u6), (26, u7), (31, u8)] := fun u0 u1 u2 u3 u4 u5 u6 u7 u8 => rfl
  refine rb_cti (w := [(20, a), (21, rd), (22, ag), (19, mf), (23, na), (24, nb), (25, nl), (26, sv), (31, wa)]) rfl pn_7 (Nat.le_of_ble_eq_true rfl) rfl hini ?_
  obtain ⟨t1, e2, h⟩ := rb_bd h
  refine ev_iload_n (v := x1) (pc := 0) dX7_goWrite_0 rfl ?_
  refine ev_iconst (v := 1) (pc := 1) dX7_goWrite_1 ki_1 ?_
  refine ev_bipush (v := 100) (pc := 2) dX7_goWrite_2 kb_100 ?_
  refine ev_cSi3 (pc := 4) dX7_goWrite_4 ms_X7_isIn lk_RX7_69 (ct_X7_isIn _ _ _ _ _ e2) (Nat.le_of_ble_eq_true rfl) (Nat.le_of_ble_eq_true rfl) ?_
  by_cases b3 : t1 = 0
  · rw [if_pos b3] at h
    refine ev_if_eq_t (t := 28) (pc := 7) dX7_goWrite_7 (by decide) b3 ?_
    refine ev_iconst (v := (-1)) (pc := 28) dX7_goWrite_28 ki_m1 ?_
    obtain rfl := Option.some.inj h
    exact ev_iret (pc := 29) dX7_goWrite_29 rfl rfl rfl (hfin _ _ _ _ _ _ _ _ _)
  · rw [if_neg b3] at h
    refine ev_if_eq_f (t := 28) (pc := 7) dX7_goWrite_7 (by decide) b3 ?_
    obtain ⟨t4, e5, h⟩ := rb_bd h
    refine ev_aload_n (v := 19) (pc := 10) dX7_goWrite_10 rfl ?_
    refine ev_iload_n (v := x0) (pc := 11) dX7_goWrite_11 rfl ?_
    refine ev_iconst (v := 1) (pc := 12) dX7_goWrite_12 ki_1 ?_
    refine ev_cVi2 (pc := 13) dX7_goWrite_13 mv_X7_names lk_RX7_110 rp_19 (ct_X7_names _ _ _ _ _ rfl e5) (Nat.le_of_ble_eq_true rfl) (Nat.le_of_ble_eq_true rfl) ?_
    by_cases b6 : t4 = 0
    · rw [if_pos b6] at h
      refine ev_if_ne_f (t := 30) (pc := 16) dX7_goWrite_16 (by decide) b6 ?_
      obtain ⟨t7, e8, h⟩ := rb_bd h
      refine ev_aload_n (v := 19) (pc := 19) dX7_goWrite_19 rfl ?_
      refine ev_iload_n (v := x0) (pc := 20) dX7_goWrite_20 rfl ?_
      refine ev_iconst (v := 2) (pc := 21) dX7_goWrite_21 ki_2 ?_
      refine ev_cVi2 (pc := 22) dX7_goWrite_22 mv_X7_names lk_RX7_110 rp_19 (ct_X7_names _ _ _ _ _ rfl e8) (Nat.le_of_ble_eq_true rfl) (Nat.le_of_ble_eq_true rfl) ?_
      by_cases b9 : t7 = 0
      · rw [if_pos b9] at h
        refine ev_if_ne_f (t := 30) (pc := 25) dX7_goWrite_25 (by decide) b9 ?_
        refine ev_iconst (v := (-1)) (pc := 28) dX7_goWrite_28 ki_m1 ?_
        obtain rfl := Option.some.inj h
        exact ev_iret (pc := 29) dX7_goWrite_29 rfl rfl rfl (hfin _ _ _ _ _ _ _ _ _)
      · rw [if_neg b9] at h
        refine ev_if_ne_t (t := 30) (pc := 25) dX7_goWrite_25 (by decide) b9 ?_
        obtain ⟨v10, e11, h⟩ := rb_bd h
        obtain ⟨t12, e13, h⟩ := rb_bd h
        refine ev_aload_n (v := 19) (pc := 30) dX7_goWrite_30 rfl ?_
        refine ev_getr (q := 20) (pc := 31) dX7_goWrite_31 fl_RX7_7 rfl rfl ?_
        refine ev_iload_n (v := x0) (pc := 34) dX7_goWrite_34 rfl ?_
        refine ev_iald (pc := 35) dX7_goWrite_35 rfl e11 ?_
        refine ev_istore (L' := [some (.inr 19), some (.inl x0), some (.inl x1), some (.inl x2), some (.inl v10), none, none, none, none]) (pc := 36) dX7_goWrite_36 (Nat.le_of_ble_eq_true rfl) rfl ?_
        refine ev_aload_n (v := 19) (pc := 38) dX7_goWrite_38 rfl ?_
        refine ev_iload (v := v10) (pc := 39) dX7_goWrite_39 rfl ?_
        refine ev_cVi1 (pc := 41) dX7_goWrite_41 mv_X7_kindOf lk_RX7_77 rp_19 (ct_X7_kindOf _ _ _ _ rfl e13) (Nat.le_of_ble_eq_true rfl) (Nat.le_of_ble_eq_true rfl) ?_
        refine ev_iconst (v := 2) (pc := 44) dX7_goWrite_44 ki_2 ?_
        by_cases b14 : t12 = 2
        · rw [if_pos b14] at h
          refine ev_icmp_ne_f (t := 57) (pc := 45) dX7_goWrite_45 (by decide) b14 ?_
          obtain ⟨t15, e16, h⟩ := rb_bd h
          refine ev_aload_n (v := 19) (pc := 48) dX7_goWrite_48 rfl ?_
          refine ev_iload (v := v10) (pc := 49) dX7_goWrite_49 rfl ?_
          refine ev_iload_n (v := x1) (pc := 51) dX7_goWrite_51 rfl ?_
          refine ev_iload_n (v := x2) (pc := 52) dX7_goWrite_52 rfl ?_
          refine ev_cVi3w (w' := [(20, t15.2.1), (21, t15.2.2.1), (22, t15.2.2.2.1), (19, t15.2.2.2.2.1), (23, t15.2.2.2.2.2.1), (24, t15.2.2.2.2.2.2.1), (25, t15.2.2.2.2.2.2.2.1), (26, t15.2.2.2.2.2.2.2.2.1), (31, t15.2.2.2.2.2.2.2.2.2)]) (pc := 53) dX7_goWrite_53 mv_X7_goCount lk_RX7_230 rp_19 (ct_X7_goCount _ _ _ _ _ _ _ _ _ _ _ _ _ _ rfl rfl rfl rfl rfl rfl rfl rfl rfl e16) (Nat.le_of_ble_eq_true rfl) (Nat.le_of_ble_eq_true rfl) rfl ?_
          obtain rfl := Option.some.inj h
          exact ev_iret (pc := 56) dX7_goWrite_56 rfl rfl rfl (hfin _ _ _ _ _ _ _ _ _)
        · rw [if_neg b14] at h
          refine ev_icmp_ne_t (t := 57) (pc := 45) dX7_goWrite_45 (by decide) b14 ?_
          obtain ⟨t17, e18, h⟩ := rb_bd h
          refine ev_aload_n (v := 19) (pc := 57) dX7_goWrite_57 rfl ?_
          refine ev_iload (v := v10) (pc := 58) dX7_goWrite_58 rfl ?_
          refine ev_cVi1 (pc := 60) dX7_goWrite_60 mv_X7_otherEnd lk_RX7_134 rp_19 (ct_X7_otherEnd _ _ _ _ rfl e18) (Nat.le_of_ble_eq_true rfl) (Nat.le_of_ble_eq_true rfl) ?_
          refine ev_istore (L' := [some (.inr 19), some (.inl x0), some (.inl x1), some (.inl x2), some (.inl v10), some (.inl t17), none, none, none]) (pc := 63) dX7_goWrite_63 (Nat.le_of_ble_eq_true rfl) rfl ?_
          refine ev_iload (v := t17) (pc := 65) dX7_goWrite_65 rfl ?_
          by_cases b19 : 0 ≤ t17
          · rw [if_pos b19] at h
            refine ev_if_ge_t (t := 73) (pc := 67) dX7_goWrite_67 (by decide) b19 ?_
            obtain ⟨t20, e21, h⟩ := rb_bd h
            obtain ⟨t22, e23, h⟩ := rb_bd h
            obtain ⟨t24, e25, h⟩ := rb_bd h
            refine ev_aload_n (v := 19) (pc := 73) dX7_goWrite_73 rfl ?_
            refine ev_iload (v := v10) (pc := 74) dX7_goWrite_74 rfl ?_
            refine ev_iconst (v := 1) (pc := 76) dX7_goWrite_76 ki_1 ?_
            refine ev_cVi2 (pc := 77) dX7_goWrite_77 mv_X7_ofObject lk_RX7_66 rp_19 (ct_X7_ofObject _ _ _ _ _ rfl e21) (Nat.le_of_ble_eq_true rfl) (Nat.le_of_ble_eq_true rfl) ?_
            refine ev_istore (L' := [some (.inr 19), some (.inl x0), some (.inl x1), some (.inl x2), some (.inl v10), some (.inl t17), some (.inl t20), none, none]) (pc := 80) dX7_goWrite_80 (Nat.le_of_ble_eq_true rfl) rfl ?_
            refine ev_aload_n (v := 19) (pc := 82) dX7_goWrite_82 rfl ?_
            refine ev_iload (v := t20) (pc := 83) dX7_goWrite_83 rfl ?_
            refine ev_iconst (v := 0) (pc := 85) dX7_goWrite_85 ki_0 ?_
            refine ev_cVi2 (pc := 86) dX7_goWrite_86 mv_X7_ofPipe lk_RX7_91 rp_19 (ct_X7_ofPipe _ _ _ _ _ rfl e23) (Nat.le_of_ble_eq_true rfl) (Nat.le_of_ble_eq_true rfl) ?_
            refine ev_aload_n (v := 19) (pc := 89) dX7_goWrite_89 rfl ?_
            refine ev_iload (v := t20) (pc := 90) dX7_goWrite_90 rfl ?_
            refine ev_iconst (v := 1) (pc := 92) dX7_goWrite_92 ki_1 ?_
            refine ev_cVi2 (pc := 93) dX7_goWrite_93 mv_X7_ofPipe lk_RX7_91 rp_19 (ct_X7_ofPipe _ _ _ _ _ rfl e25) (Nat.le_of_ble_eq_true rfl) (Nat.le_of_ble_eq_true rfl) ?_
            refine ev_isub (pc := 96) dX7_goWrite_96 ?_
            refine ev_istore (L' := [some (.inr 19), some (.inl x0), some (.inl x1), some (.inl x2), some (.inl v10), some (.inl t17), some (.inl t20), some (.inl (t22 - t24)), none]) (pc := 97) dX7_goWrite_97 (Nat.le_of_ble_eq_true rfl) rfl ?_
            refine ev_iload (v := (t22 - t24)) (pc := 99) dX7_goWrite_99 rfl ?_
            by_cases b26 : (t22 - t24) = 0
            · rw [if_pos b26] at h
              refine ev_if_ne_f (t := 106) (pc := 101) dX7_goWrite_101 (by decide) b26 ?_
              refine ev_iconst (v := 0) (pc := 104) dX7_goWrite_104 ki_0 ?_
              obtain rfl := Option.some.inj h
              exact ev_iret (pc := 105) dX7_goWrite_105 rfl rfl rfl (hfin _ _ _ _ _ _ _ _ _)
            · rw [if_neg b26] at h
              refine ev_if_ne_t (t := 106) (pc := 101) dX7_goWrite_101 (by decide) b26 ?_
              refine ev_iload_n (v := x2) (pc := 106) dX7_goWrite_106 rfl ?_
              obtain ⟨j27, e28, h⟩ := rb_bd h
              have hj29 : rb_Ev RX7 cX7_goWrite 9 (some .int) none 11 (some o.1) (rb_ov μ [(20, o.2.1), (21, o.2.2.1), (22, o.2.2.2.1), (19, o.2.2.2.2.1), (23, o.2.2.2.2.2.1), (24, o.2.2.2.2.2.2.1), (25, o.2.2.2.2.2.2.2.1), (26, o.2.2.2.2.2.2.2.2.1), (31, o.2.2.2.2.2.2.2.2.2)]) 114 [some (.inr 19), none, some (.inl x1), none, none, some (.inl t17), some (.inl t20), some (.inl (t22 - t24)), none] [] (rb_ov μ [(20, a), (21, rd), (22, ag), (19, j27.1), (23, na), (24, nb), (25, nl), (26, sv), (31, j27.2)]) := by
                refine ev_iload_n (v := x1) (pc := 114) dX7_goWrite_114 rfl ?_
                refine ev_iload (v := (t22 - t24)) (pc := 115) dX7_goWrite_115 rfl ?_
                obtain ⟨j33, e34, h⟩ := rb_bd h
                have hj35 : rb_Ev RX7 cX7_goWrite 9 (some .int) none 11 (some o.1) (rb_ov μ [(20, o.2.1), (21, o.2.2.1), (22, o.2.2.2.1), (19, o.2.2.2.2.1), (23, o.2.2.2.2.2.1), (24, o.2.2.2.2.2.2.1), (25, o.2.2.2.2.2.2.2.1), (26, o.2.2.2.2.2.2.2.2.1), (31, o.2.2.2.2.2.2.2.2.2)]) 126 [some (.inr 19), none, none, none, none, some (.inl t17), some (.inl t20), none, none] [.inl j33] (rb_ov μ [(20, a), (21, rd), (22, ag), (19, j27.1), (23, na), (24, nb), (25, nl), (26, sv), (31, j27.2)]) := by
                  obtain ⟨t37, e38, h⟩ := rb_bd h
                  obtain ⟨v39, e40, h⟩ := rb_bd h
                  obtain ⟨a41, e42, h⟩ := rb_bd h
                  obtain ⟨t43, e44, h⟩ := rb_bd h
                  refine ev_istore (L' := [some (.inr 19), none, none, none, none, some (.inl t17), some (.inl t20), none, some (.inl j33)]) (pc := 126) dX7_goWrite_126 (Nat.le_of_ble_eq_true rfl) rfl ?_
                  refine ev_aload_n (v := 19) (pc := 128) dX7_goWrite_128 rfl ?_
                  refine ev_getr (q := 20) (pc := 129) dX7_goWrite_129 fl_RX7_7 rfl rfl ?_
                  refine ev_iload (v := t20) (pc := 132) dX7_goWrite_132 rfl ?_
                  refine ev_iconst (v := 1) (pc := 134) dX7_goWrite_134 ki_1 ?_
                  refine ev_cSi2 (pc := 135) dX7_goWrite_135 ms_X7_pipeAt lk_RX7_57 (ct_X7_pipeAt _ _ _ _ e38) (Nat.le_of_ble_eq_true rfl) (Nat.le_of_ble_eq_true rfl) ?_
                  refine ev_dup2 (pc := 138) dX7_goWrite_138 ?_
                  refine ev_iald (pc := 139) dX7_goWrite_139 rfl e40 ?_
                  refine ev_iload (v := j33) (pc := 140) dX7_goWrite_140 rfl ?_
                  refine ev_iadd (pc := 142) dX7_goWrite_142 ?_
                  refine ev_iast (w' := [(20, a41), (21, rd), (22, ag), (19, j27.1), (23, na), (24, nb), (25, nl), (26, sv), (31, j27.2)]) (pc := 143) dX7_goWrite_143 rfl e42 rfl ?_
                  refine ev_aload_n (v := 19) (pc := 144) dX7_goWrite_144 rfl ?_
                  refine ev_iload (v := t17) (pc := 145) dX7_goWrite_145 rfl ?_
                  refine ev_iconst (v := 1) (pc := 147) dX7_goWrite_147 ki_1 ?_
                  refine ev_cVv2w (w' := [(20, t43.1), (21, t43.2.1), (22, t43.2.2.1), (19, t43.2.2.2.1), (23, t43.2.2.2.2.1), (24, t43.2.2.2.2.2.1), (25, t43.2.2.2.2.2.2.1), (26, t43.2.2.2.2.2.2.2), (31, j27.2)]) (pc := 148) dX7_goWrite_148 mv_X7_notice lk_RX7_120 rp_19 (ct_X7_notice _ _ _ _ _ _ _ _ _ _ _ _ rfl rfl rfl rfl rfl rfl rfl rfl e44) (Nat.le_of_ble_eq_true rfl) (Nat.le_of_ble_eq_true rfl) rfl ?_
                  refine ev_iload (v := j33) (pc := 151) dX7_goWrite_151 rfl ?_
                  obtain rfl := Option.some.inj h
                  exact ev_iret (pc := 153) dX7_goWrite_153 rfl rfl rfl (hfin _ _ _ _ _ _ _ _ _)
                replace h := e34
                by_cases b36 : (t22 - t24) ≤ x1
                · rw [if_pos b36] at h
                  refine ev_icmp_ge_t (t := 124) (pc := 117) dX7_goWrite_117 (by decide) b36 ?_
                  refine ev_iload (v := (t22 - t24)) (pc := 124) dX7_goWrite_124 rfl ?_
                  obtain rfl := Option.some.inj h
                  exact ev_fg (L := [some (.inr 19), none, none, none, none, some (.inl t17), some (.inl t20), none, none]) (And.intro rfl (And.intro rfl (And.intro rfl True.intro))) (hj35)
                · rw [if_neg b36] at h
                  refine ev_icmp_ge_f (t := 124) (pc := 117) dX7_goWrite_117 (by decide) b36 ?_
                  refine ev_iload_n (v := x1) (pc := 120) dX7_goWrite_120 rfl ?_
                  refine ev_goto (t := 126) (pc := 121) dX7_goWrite_121 (by decide) ?_
                  obtain rfl := Option.some.inj h
                  exact ev_fg (L := [some (.inr 19), none, none, none, none, some (.inl t17), some (.inl t20), none, none]) (And.intro rfl (And.intro rfl (And.intro rfl True.intro))) (hj35)
              replace h := e28
              by_cases b30 : x2 = 0
              · rw [if_pos b30] at h
                refine ev_if_eq_t (t := 114) (pc := 107) dX7_goWrite_107 (by decide) b30 ?_
                obtain rfl := Option.some.inj h
                exact ev_fg (L := [some (.inr 19), none, some (.inl x1), none, none, some (.inl t17), some (.inl t20), some (.inl (t22 - t24)), none]) (And.intro rfl (And.intro rfl (And.intro rfl (And.intro rfl (And.intro rfl True.intro))))) (hj29)
              · rw [if_neg b30] at h
                refine ev_if_eq_f (t := 114) (pc := 107) dX7_goWrite_107 (by decide) b30 ?_
                obtain ⟨t31, e32, h⟩ := rb_bd h
                refine ev_aload_n (v := 19) (pc := 110) dX7_goWrite_110 rfl ?_
                refine ev_cVv0w (w' := [(20, a), (21, rd), (22, ag), (19, t31.1), (23, na), (24, nb), (25, nl), (26, sv), (31, t31.2)]) (pc := 111) dX7_goWrite_111 mv_X7_keepAct lk_RX7_101 rp_19 (ct_X7_keepAct _ _ _ _ _ rfl rfl rfl e32) (Nat.le_of_ble_eq_true rfl) (Nat.le_of_ble_eq_true rfl) rfl ?_
                obtain rfl := Option.some.inj h
                exact ev_fg (L := [some (.inr 19), none, some (.inl x1), none, none, some (.inl t17), some (.inl t20), some (.inl (t22 - t24)), none]) (And.intro rfl (And.intro rfl (And.intro rfl (And.intro rfl (And.intro rfl True.intro))))) (hj29)
          · rw [if_neg b19] at h
            refine ev_if_ge_f (t := 73) (pc := 67) dX7_goWrite_67 (by decide) b19 ?_
            refine ev_bipush (v := (-2)) (pc := 70) dX7_goWrite_70 kb_m2 ?_
            obtain rfl := Option.some.inj h
            exact ev_iret (pc := 72) dX7_goWrite_72 rfl rfl rfl (hfin _ _ _ _ _ _ _ _ _)
    · rw [if_neg b6] at h
      refine ev_if_ne_t (t := 30) (pc := 16) dX7_goWrite_16 (by decide) b6 ?_
      obtain ⟨v45, e46, h⟩ := rb_bd h
      obtain ⟨t47, e48, h⟩ := rb_bd h
      refine ev_aload_n (v := 19) (pc := 30) dX7_goWrite_30 rfl ?_
      refine ev_getr (q := 20) (pc := 31) dX7_goWrite_31 fl_RX7_7 rfl rfl ?_
      refine ev_iload_n (v := x0) (pc := 34) dX7_goWrite_34 rfl ?_
      refine ev_iald (pc := 35) dX7_goWrite_35 rfl e46 ?_
      refine ev_istore (L' := [some (.inr 19), some (.inl x0), some (.inl x1), some (.inl x2), some (.inl v45), none, none, none, none]) (pc := 36) dX7_goWrite_36 (Nat.le_of_ble_eq_true rfl) rfl ?_
      refine ev_aload_n (v := 19) (pc := 38) dX7_goWrite_38 rfl ?_
      refine ev_iload (v := v45) (pc := 39) dX7_goWrite_39 rfl ?_
      refine ev_cVi1 (pc := 41) dX7_goWrite_41 mv_X7_kindOf lk_RX7_77 rp_19 (ct_X7_kindOf _ _ _ _ rfl e48) (Nat.le_of_ble_eq_true rfl) (Nat.le_of_ble_eq_true rfl) ?_
      refine ev_iconst (v := 2) (pc := 44) dX7_goWrite_44 ki_2 ?_
      by_cases b49 : t47 = 2
      · rw [if_pos b49] at h
        refine ev_icmp_ne_f (t := 57) (pc := 45) dX7_goWrite_45 (by decide) b49 ?_
        obtain ⟨t50, e51, h⟩ := rb_bd h
        refine ev_aload_n (v := 19) (pc := 48) dX7_goWrite_48 rfl ?_
        refine ev_iload (v := v45) (pc := 49) dX7_goWrite_49 rfl ?_
        refine ev_iload_n (v := x1) (pc := 51) dX7_goWrite_51 rfl ?_
        refine ev_iload_n (v := x2) (pc := 52) dX7_goWrite_52 rfl ?_
        refine ev_cVi3w (w' := [(20, t50.2.1), (21, t50.2.2.1), (22, t50.2.2.2.1), (19, t50.2.2.2.2.1), (23, t50.2.2.2.2.2.1), (24, t50.2.2.2.2.2.2.1), (25, t50.2.2.2.2.2.2.2.1), (26, t50.2.2.2.2.2.2.2.2.1), (31, t50.2.2.2.2.2.2.2.2.2)]) (pc := 53) dX7_goWrite_53 mv_X7_goCount lk_RX7_230 rp_19 (ct_X7_goCount _ _ _ _ _ _ _ _ _ _ _ _ _ _ rfl rfl rfl rfl rfl rfl rfl rfl rfl e51) (Nat.le_of_ble_eq_true rfl) (Nat.le_of_ble_eq_true rfl) rfl ?_
        obtain rfl := Option.some.inj h
        exact ev_iret (pc := 56) dX7_goWrite_56 rfl rfl rfl (hfin _ _ _ _ _ _ _ _ _)
      · rw [if_neg b49] at h
        refine ev_icmp_ne_t (t := 57) (pc := 45) dX7_goWrite_45 (by decide) b49 ?_
        obtain ⟨t52, e53, h⟩ := rb_bd h
        refine ev_aload_n (v := 19) (pc := 57) dX7_goWrite_57 rfl ?_
        refine ev_iload (v := v45) (pc := 58) dX7_goWrite_58 rfl ?_
        refine ev_cVi1 (pc := 60) dX7_goWrite_60 mv_X7_otherEnd lk_RX7_134 rp_19 (ct_X7_otherEnd _ _ _ _ rfl e53) (Nat.le_of_ble_eq_true rfl) (Nat.le_of_ble_eq_true rfl) ?_
        refine ev_istore (L' := [some (.inr 19), some (.inl x0), some (.inl x1), some (.inl x2), some (.inl v45), some (.inl t52), none, none, none]) (pc := 63) dX7_goWrite_63 (Nat.le_of_ble_eq_true rfl) rfl ?_
        refine ev_iload (v := t52) (pc := 65) dX7_goWrite_65 rfl ?_
        by_cases b54 : 0 ≤ t52
        · rw [if_pos b54] at h
          refine ev_if_ge_t (t := 73) (pc := 67) dX7_goWrite_67 (by decide) b54 ?_
          obtain ⟨t55, e56, h⟩ := rb_bd h
          obtain ⟨t57, e58, h⟩ := rb_bd h
          obtain ⟨t59, e60, h⟩ := rb_bd h
          refine ev_aload_n (v := 19) (pc := 73) dX7_goWrite_73 rfl ?_
          refine ev_iload (v := v45) (pc := 74) dX7_goWrite_74 rfl ?_
          refine ev_iconst (v := 1) (pc := 76) dX7_goWrite_76 ki_1 ?_
          refine ev_cVi2 (pc := 77) dX7_goWrite_77 mv_X7_ofObject lk_RX7_66 rp_19 (ct_X7_ofObject _ _ _ _ _ rfl e56) (Nat.le_of_ble_eq_true rfl) (Nat.le_of_ble_eq_true rfl) ?_
          refine ev_istore (L' := [some (.inr 19), some (.inl x0), some (.inl x1), some (.inl x2), some (.inl v45), some (.inl t52), some (.inl t55), none, none]) (pc := 80) dX7_goWrite_80 (Nat.le_of_ble_eq_true rfl) rfl ?_
          refine ev_aload_n (v := 19) (pc := 82) dX7_goWrite_82 rfl ?_
          refine ev_iload (v := t55) (pc := 83) dX7_goWrite_83 rfl ?_
          refine ev_iconst (v := 0) (pc := 85) dX7_goWrite_85 ki_0 ?_
          refine ev_cVi2 (pc := 86) dX7_goWrite_86 mv_X7_ofPipe lk_RX7_91 rp_19 (ct_X7_ofPipe _ _ _ _ _ rfl e58) (Nat.le_of_ble_eq_true rfl) (Nat.le_of_ble_eq_true rfl) ?_
          refine ev_aload_n (v := 19) (pc := 89) dX7_goWrite_89 rfl ?_
          refine ev_iload (v := t55) (pc := 90) dX7_goWrite_90 rfl ?_
          refine ev_iconst (v := 1) (pc := 92) dX7_goWrite_92 ki_1 ?_
          refine ev_cVi2 (pc := 93) dX7_goWrite_93 mv_X7_ofPipe lk_RX7_91 rp_19 (ct_X7_ofPipe _ _ _ _ _ rfl e60) (Nat.le_of_ble_eq_true rfl) (Nat.le_of_ble_eq_true rfl) ?_
          refine ev_isub (pc := 96) dX7_goWrite_96 ?_
          refine ev_istore (L' := [some (.inr 19), some (.inl x0), some (.inl x1), some (.inl x2), some (.inl v45), some (.inl t52), some (.inl t55), some (.inl (t57 - t59)), none]) (pc := 97) dX7_goWrite_97 (Nat.le_of_ble_eq_true rfl) rfl ?_
          refine ev_iload (v := (t57 - t59)) (pc := 99) dX7_goWrite_99 rfl ?_
          by_cases b61 : (t57 - t59) = 0
          · rw [if_pos b61] at h
            refine ev_if_ne_f (t := 106) (pc := 101) dX7_goWrite_101 (by decide) b61 ?_
            refine ev_iconst (v := 0) (pc := 104) dX7_goWrite_104 ki_0 ?_
            obtain rfl := Option.some.inj h
            exact ev_iret (pc := 105) dX7_goWrite_105 rfl rfl rfl (hfin _ _ _ _ _ _ _ _ _)
          · rw [if_neg b61] at h
            refine ev_if_ne_t (t := 106) (pc := 101) dX7_goWrite_101 (by decide) b61 ?_
            refine ev_iload_n (v := x2) (pc := 106) dX7_goWrite_106 rfl ?_
            obtain ⟨j62, e63, h⟩ := rb_bd h
            have hj64 : rb_Ev RX7 cX7_goWrite 9 (some .int) none 11 (some o.1) (rb_ov μ [(20, o.2.1), (21, o.2.2.1), (22, o.2.2.2.1), (19, o.2.2.2.2.1), (23, o.2.2.2.2.2.1), (24, o.2.2.2.2.2.2.1), (25, o.2.2.2.2.2.2.2.1), (26, o.2.2.2.2.2.2.2.2.1), (31, o.2.2.2.2.2.2.2.2.2)]) 114 [some (.inr 19), none, some (.inl x1), none, none, some (.inl t52), some (.inl t55), some (.inl (t57 - t59)), none] [] (rb_ov μ [(20, a), (21, rd), (22, ag), (19, j62.1), (23, na), (24, nb), (25, nl), (26, sv), (31, j62.2)]) := by
              refine ev_iload_n (v := x1) (pc := 114) dX7_goWrite_114 rfl ?_
              refine ev_iload (v := (t57 - t59)) (pc := 115) dX7_goWrite_115 rfl ?_
              obtain ⟨j68, e69, h⟩ := rb_bd h
              have hj70 : rb_Ev RX7 cX7_goWrite 9 (some .int) none 11 (some o.1) (rb_ov μ [(20, o.2.1), (21, o.2.2.1), (22, o.2.2.2.1), (19, o.2.2.2.2.1), (23, o.2.2.2.2.2.1), (24, o.2.2.2.2.2.2.1), (25, o.2.2.2.2.2.2.2.1), (26, o.2.2.2.2.2.2.2.2.1), (31, o.2.2.2.2.2.2.2.2.2)]) 126 [some (.inr 19), none, none, none, none, some (.inl t52), some (.inl t55), none, none] [.inl j68] (rb_ov μ [(20, a), (21, rd), (22, ag), (19, j62.1), (23, na), (24, nb), (25, nl), (26, sv), (31, j62.2)]) := by
                obtain ⟨t72, e73, h⟩ := rb_bd h
                obtain ⟨v74, e75, h⟩ := rb_bd h
                obtain ⟨a76, e77, h⟩ := rb_bd h
                obtain ⟨t78, e79, h⟩ := rb_bd h
                refine ev_istore (L' := [some (.inr 19), none, none, none, none, some (.inl t52), some (.inl t55), none, some (.inl j68)]) (pc := 126) dX7_goWrite_126 (Nat.le_of_ble_eq_true rfl) rfl ?_
                refine ev_aload_n (v := 19) (pc := 128) dX7_goWrite_128 rfl ?_
                refine ev_getr (q := 20) (pc := 129) dX7_goWrite_129 fl_RX7_7 rfl rfl ?_
                refine ev_iload (v := t55) (pc := 132) dX7_goWrite_132 rfl ?_
                refine ev_iconst (v := 1) (pc := 134) dX7_goWrite_134 ki_1 ?_
                refine ev_cSi2 (pc := 135) dX7_goWrite_135 ms_X7_pipeAt lk_RX7_57 (ct_X7_pipeAt _ _ _ _ e73) (Nat.le_of_ble_eq_true rfl) (Nat.le_of_ble_eq_true rfl) ?_
                refine ev_dup2 (pc := 138) dX7_goWrite_138 ?_
                refine ev_iald (pc := 139) dX7_goWrite_139 rfl e75 ?_
                refine ev_iload (v := j68) (pc := 140) dX7_goWrite_140 rfl ?_
                refine ev_iadd (pc := 142) dX7_goWrite_142 ?_
                refine ev_iast (w' := [(20, a76), (21, rd), (22, ag), (19, j62.1), (23, na), (24, nb), (25, nl), (26, sv), (31, j62.2)]) (pc := 143) dX7_goWrite_143 rfl e77 rfl ?_
                refine ev_aload_n (v := 19) (pc := 144) dX7_goWrite_144 rfl ?_
                refine ev_iload (v := t52) (pc := 145) dX7_goWrite_145 rfl ?_
                refine ev_iconst (v := 1) (pc := 147) dX7_goWrite_147 ki_1 ?_
                refine ev_cVv2w (w' := [(20, t78.1), (21, t78.2.1), (22, t78.2.2.1), (19, t78.2.2.2.1), (23, t78.2.2.2.2.1), (24, t78.2.2.2.2.2.1), (25, t78.2.2.2.2.2.2.1), (26, t78.2.2.2.2.2.2.2), (31, j62.2)]) (pc := 148) dX7_goWrite_148 mv_X7_notice lk_RX7_120 rp_19 (ct_X7_notice _ _ _ _ _ _ _ _ _ _ _ _ rfl rfl rfl rfl rfl rfl rfl rfl e79) (Nat.le_of_ble_eq_true rfl) (Nat.le_of_ble_eq_true rfl) rfl ?_
                refine ev_iload (v := j68) (pc := 151) dX7_goWrite_151 rfl ?_
                obtain rfl := Option.some.inj h
                exact ev_iret (pc := 153) dX7_goWrite_153 rfl rfl rfl (hfin _ _ _ _ _ _ _ _ _)
              replace h := e69
              by_cases b71 : (t57 - t59) ≤ x1
              · rw [if_pos b71] at h
                refine ev_icmp_ge_t (t := 124) (pc := 117) dX7_goWrite_117 (by decide) b71 ?_
                refine ev_iload (v := (t57 - t59)) (pc := 124) dX7_goWrite_124 rfl ?_
                obtain rfl := Option.some.inj h
                exact ev_fg (L := [some (.inr 19), none, none, none, none, some (.inl t52), some (.inl t55), none, none]) (And.intro rfl (And.intro rfl (And.intro rfl True.intro))) (hj70)
              · rw [if_neg b71] at h
                refine ev_icmp_ge_f (t := 124) (pc := 117) dX7_goWrite_117 (by decide) b71 ?_
                refine ev_iload_n (v := x1) (pc := 120) dX7_goWrite_120 rfl ?_
                refine ev_goto (t := 126) (pc := 121) dX7_goWrite_121 (by decide) ?_
                obtain rfl := Option.some.inj h
                exact ev_fg (L := [some (.inr 19), none, none, none, none, some (.inl t52), some (.inl t55), none, none]) (And.intro rfl (And.intro rfl (And.intro rfl True.intro))) (hj70)
            replace h := e63
            by_cases b65 : x2 = 0
            · rw [if_pos b65] at h
              refine ev_if_eq_t (t := 114) (pc := 107) dX7_goWrite_107 (by decide) b65 ?_
              obtain rfl := Option.some.inj h
              exact ev_fg (L := [some (.inr 19), none, some (.inl x1), none, none, some (.inl t52), some (.inl t55), some (.inl (t57 - t59)), none]) (And.intro rfl (And.intro rfl (And.intro rfl (And.intro rfl (And.intro rfl True.intro))))) (hj64)
            · rw [if_neg b65] at h
              refine ev_if_eq_f (t := 114) (pc := 107) dX7_goWrite_107 (by decide) b65 ?_
              obtain ⟨t66, e67, h⟩ := rb_bd h
              refine ev_aload_n (v := 19) (pc := 110) dX7_goWrite_110 rfl ?_
              refine ev_cVv0w (w' := [(20, a), (21, rd), (22, ag), (19, t66.1), (23, na), (24, nb), (25, nl), (26, sv), (31, t66.2)]) (pc := 111) dX7_goWrite_111 mv_X7_keepAct lk_RX7_101 rp_19 (ct_X7_keepAct _ _ _ _ _ rfl rfl rfl e67) (Nat.le_of_ble_eq_true rfl) (Nat.le_of_ble_eq_true rfl) rfl ?_
              obtain rfl := Option.some.inj h
              exact ev_fg (L := [some (.inr 19), none, some (.inl x1), none, none, some (.inl t52), some (.inl t55), some (.inl (t57 - t59)), none]) (And.intro rfl (And.intro rfl (And.intro rfl (And.intro rfl (And.intro rfl True.intro))))) (hj64)
        · rw [if_neg b54] at h
          refine ev_if_ge_f (t := 73) (pc := 67) dX7_goWrite_67 (by decide) b54 ?_
          refine ev_bipush (v := (-2)) (pc := 70) dX7_goWrite_70 kb_m2 ?_
          obtain rfl := Option.some.inj h
          exact ev_iret (pc := 72) dX7_goWrite_72 rfl rfl rfl (hfin _ _ _ _ _ _ _ _ _)
def XX7_readBytes (a : rb_Row) (rd : rb_Row) (ag : rb_Row) (mf : rb_Row) (na : rb_Row) (nb : rb_Row) (nl : rb_Row) (sv : rb_Row) (wa : rb_Row) (x0 : Int32) (x1 : Int32) (x2 : Int32) : Option (Int32 × rb_Row × rb_Row × rb_Row × rb_Row × rb_Row × rb_Row × rb_Row × rb_Row × rb_Row) := (XX7_ofObject a x0 1).bind fun t1 => (XX7_otherEnd a x0).bind fun t3 => (XX7_ofPipe a t1 1).bind fun t5 => if t5 = 0 then if 0 ≤ t3 then some (0, a, rd, ag, mf, na, nb, nl, sv, wa) else some ((-2), a, rd, ag, mf, na, nb, nl, sv, wa) else ((if x2 = 0 then some (mf, wa) else (XX7_keepAct mf wa a).bind fun t13 => some (t13.1, t13.2)) : Option (rb_Row × rb_Row)).bind fun j9 => ((if t5 ≤ x1 then some t5 else some x1) : Option (Int32)).bind fun j15 => (XX7_pipeAt t1 1).bind fun t19 => (rb_rd a 796 t19).bind fun v21 => (rb_wr a 796 t19 (v21 - j15)).bind fun a23 => if t3 < 0 then some (j15, a23, rd, ag, j9.1, na, nb, nl, sv, j9.2) else (XX7_notice a23 rd ag j9.1 na nb nl sv t3 2).bind fun t26 => some (j15, t26.1, t26.2.1, t26.2.2.1, t26.2.2.2.1, t26.2.2.2.2.1, t26.2.2.2.2.2.1, t26.2.2.2.2.2.2.1, t26.2.2.2.2.2.2.2, j9.2)
set_option maxHeartbeats 4000000 in
set_option maxRecDepth 20000 in
theorem ct_X7_readBytes (μ : rb_Mem) (a : rb_Row) (rd : rb_Row) (ag : rb_Row) (mf : rb_Row) (na : rb_Row) (nb : rb_Row) (nl : rb_Row) (sv : rb_Row) (wa : rb_Row) (x0 : Int32) (x1 : Int32) (x2 : Int32) (o : Int32 × rb_Row × rb_Row × rb_Row × rb_Row × rb_Row × rb_Row × rb_Row × rb_Row × rb_Row) (ha : μ 20 = a) (hrd : μ 21 = rd) (hag : μ 22 = ag) (hmf : μ 19 = mf) (hna : μ 23 = na) (hnb : μ 24 = nb) (hnl : μ 25 = nl) (hsv : μ 26 = sv) (hwa : μ 31 = wa) (h : XX7_readBytes a rd ag mf na nb nl sv wa x0 x1 x2 = some o) : rb_Ct yX7_readBytes cX7_readBytes 8 (some .int) 10 [.inr 19, .inl x0, .inl x1, .inl x2] μ (some o.1) (rb_ov μ [(20, o.2.1), (21, o.2.2.1), (22, o.2.2.2.1), (19, o.2.2.2.2.1), (23, o.2.2.2.2.2.1), (24, o.2.2.2.2.2.2.1), (25, o.2.2.2.2.2.2.2.1), (26, o.2.2.2.2.2.2.2.2.1), (31, o.2.2.2.2.2.2.2.2.2)]) := by
  unfold XX7_readBytes at h
  have hini : rb_ov μ [(20, a), (21, rd), (22, ag), (19, mf), (23, na), (24, nb), (25, nl), (26, sv), (31, wa)] = μ := rb_ov_sf _ _ (And.intro ha (And.intro hrd (And.intro hag (And.intro hmf (And.intro hna (And.intro hnb (And.intro hnl (And.intro hsv (And.intro hwa True.intro)))))))))
  have hfin : ∀ u0 u1 u2 u3 u4 u5 u6 u7 u8 : rb_Row, rb_ov μ [(20, u0), (21, u1), (22, u2), (19, u3), (23, u4), (24, u5), (25, u6), (26, u7), (31, u8)] = rb_ov μ [(20, u0), (21, u1), (22, u2), (19, u3), (23, u4), (24, u5), (25, u6), (26, u7), (31, u8)] := fun u0 u1 u2 u3 u4 u5 u6 u7 u8 => rfl
  refine rb_cti (w := [(20, a), (21, rd), (22, ag), (19, mf), (23, na), (24, nb), (25, nl), (26, sv), (31, wa)]) rfl pn_7 (Nat.le_of_ble_eq_true rfl) rfl hini ?_
  obtain ⟨t1, e2, h⟩ := rb_bd h
  obtain ⟨t3, e4, h⟩ := rb_bd h
  obtain ⟨t5, e6, h⟩ := rb_bd h
  refine ev_aload_n (v := 19) (pc := 0) dX7_readBytes_0 rfl ?_
  refine ev_iload_n (v := x0) (pc := 1) dX7_readBytes_1 rfl ?_
  refine ev_iconst (v := 1) (pc := 2) dX7_readBytes_2 ki_1 ?_
  refine ev_cVi2 (pc := 3) dX7_readBytes_3 mv_X7_ofObject lk_RX7_66 rp_19 (ct_X7_ofObject _ _ _ _ _ rfl e2) (Nat.le_of_ble_eq_true rfl) (Nat.le_of_ble_eq_true rfl) ?_
  refine ev_istore (L' := [some (.inr 19), some (.inl x0), some (.inl x1), some (.inl x2), some (.inl t1), none, none, none]) (pc := 6) dX7_readBytes_6 (Nat.le_of_ble_eq_true rfl) rfl ?_
  refine ev_aload_n (v := 19) (pc := 8) dX7_readBytes_8 rfl ?_
  refine ev_iload_n (v := x0) (pc := 9) dX7_readBytes_9 rfl ?_
  refine ev_cVi1 (pc := 10) dX7_readBytes_10 mv_X7_otherEnd lk_RX7_134 rp_19 (ct_X7_otherEnd _ _ _ _ rfl e4) (Nat.le_of_ble_eq_true rfl) (Nat.le_of_ble_eq_true rfl) ?_
  refine ev_istore (L' := [some (.inr 19), some (.inl x0), some (.inl x1), some (.inl x2), some (.inl t1), some (.inl t3), none, none]) (pc := 13) dX7_readBytes_13 (Nat.le_of_ble_eq_true rfl) rfl ?_
  refine ev_aload_n (v := 19) (pc := 15) dX7_readBytes_15 rfl ?_
  refine ev_iload (v := t1) (pc := 16) dX7_readBytes_16 rfl ?_
  refine ev_iconst (v := 1) (pc := 18) dX7_readBytes_18 ki_1 ?_
  refine ev_cVi2 (pc := 19) dX7_readBytes_19 mv_X7_ofPipe lk_RX7_91 rp_19 (ct_X7_ofPipe _ _ _ _ _ rfl e6) (Nat.le_of_ble_eq_true rfl) (Nat.le_of_ble_eq_true rfl) ?_
  refine ev_istore (L' := [some (.inr 19), some (.inl x0), some (.inl x1), some (.inl x2), some (.inl t1), some (.inl t3), some (.inl t5), none]) (pc := 22) dX7_readBytes_22 (Nat.le_of_ble_eq_true rfl) rfl ?_
  refine ev_iload (v := t5) (pc := 24) dX7_readBytes_24 rfl ?_
  by_cases b7 : t5 = 0
  · rw [if_pos b7] at h
    refine ev_if_ne_f (t := 41) (pc := 26) dX7_readBytes_26 (by decide) b7 ?_
    refine ev_iload (v := t3) (pc := 29) dX7_readBytes_29 rfl ?_
    by_cases b8 : 0 ≤ t3
    · rw [if_pos b8] at h
      refine ev_if_ge_t (t := 39) (pc := 31) dX7_readBytes_31 (by decide) b8 ?_
      refine ev_iconst (v := 0) (pc := 39) dX7_readBytes_39 ki_0 ?_
      obtain rfl := Option.some.inj h
      exact ev_iret (pc := 40) dX7_readBytes_40 rfl rfl rfl (hfin _ _ _ _ _ _ _ _ _)
    · rw [if_neg b8] at h
      refine ev_if_ge_f (t := 39) (pc := 31) dX7_readBytes_31 (by decide) b8 ?_
      refine ev_bipush (v := (-2)) (pc := 34) dX7_readBytes_34 kb_m2 ?_
      refine ev_goto (t := 40) (pc := 36) dX7_readBytes_36 (by decide) ?_
      obtain rfl := Option.some.inj h
      exact ev_iret (pc := 40) dX7_readBytes_40 rfl rfl rfl (hfin _ _ _ _ _ _ _ _ _)
  · rw [if_neg b7] at h
    refine ev_if_ne_t (t := 41) (pc := 26) dX7_readBytes_26 (by decide) b7 ?_
    refine ev_iload_n (v := x2) (pc := 41) dX7_readBytes_41 rfl ?_
    obtain ⟨j9, e10, h⟩ := rb_bd h
    have hj11 : rb_Ev RX7 cX7_readBytes 8 (some .int) none 10 (some o.1) (rb_ov μ [(20, o.2.1), (21, o.2.2.1), (22, o.2.2.2.1), (19, o.2.2.2.2.1), (23, o.2.2.2.2.2.1), (24, o.2.2.2.2.2.2.1), (25, o.2.2.2.2.2.2.2.1), (26, o.2.2.2.2.2.2.2.2.1), (31, o.2.2.2.2.2.2.2.2.2)]) 49 [some (.inr 19), none, some (.inl x1), none, some (.inl t1), some (.inl t3), some (.inl t5), none] [] (rb_ov μ [(20, a), (21, rd), (22, ag), (19, j9.1), (23, na), (24, nb), (25, nl), (26, sv), (31, j9.2)]) := by
      refine ev_iload_n (v := x1) (pc := 49) dX7_readBytes_49 rfl ?_
      refine ev_iload (v := t5) (pc := 50) dX7_readBytes_50 rfl ?_
      obtain ⟨j15, e16, h⟩ := rb_bd h
      have hj17 : rb_Ev RX7 cX7_readBytes 8 (some .int) none 10 (some o.1) (rb_ov μ [(20, o.2.1), (21, o.2.2.1), (22, o.2.2.2.1), (19, o.2.2.2.2.1), (23, o.2.2.2.2.2.1), (24, o.2.2.2.2.2.2.1), (25, o.2.2.2.2.2.2.2.1), (26, o.2.2.2.2.2.2.2.2.1), (31, o.2.2.2.2.2.2.2.2.2)]) 61 [some (.inr 19), none, none, none, some (.inl t1), some (.inl t3), none, none] [.inl j15] (rb_ov μ [(20, a), (21, rd), (22, ag), (19, j9.1), (23, na), (24, nb), (25, nl), (26, sv), (31, j9.2)]) := by
        obtain ⟨t19, e20, h⟩ := rb_bd h
        obtain ⟨v21, e22, h⟩ := rb_bd h
        obtain ⟨a23, e24, h⟩ := rb_bd h
        refine ev_istore (L' := [some (.inr 19), none, none, none, some (.inl t1), some (.inl t3), none, some (.inl j15)]) (pc := 61) dX7_readBytes_61 (Nat.le_of_ble_eq_true rfl) rfl ?_
        refine ev_aload_n (v := 19) (pc := 63) dX7_readBytes_63 rfl ?_
        refine ev_getr (q := 20) (pc := 64) dX7_readBytes_64 fl_RX7_7 rfl rfl ?_
        refine ev_iload (v := t1) (pc := 67) dX7_readBytes_67 rfl ?_
        refine ev_iconst (v := 1) (pc := 69) dX7_readBytes_69 ki_1 ?_
        refine ev_cSi2 (pc := 70) dX7_readBytes_70 ms_X7_pipeAt lk_RX7_57 (ct_X7_pipeAt _ _ _ _ e20) (Nat.le_of_ble_eq_true rfl) (Nat.le_of_ble_eq_true rfl) ?_
        refine ev_dup2 (pc := 73) dX7_readBytes_73 ?_
        refine ev_iald (pc := 74) dX7_readBytes_74 rfl e22 ?_
        refine ev_iload (v := j15) (pc := 75) dX7_readBytes_75 rfl ?_
        refine ev_isub (pc := 77) dX7_readBytes_77 ?_
        refine ev_iast (w' := [(20, a23), (21, rd), (22, ag), (19, j9.1), (23, na), (24, nb), (25, nl), (26, sv), (31, j9.2)]) (pc := 78) dX7_readBytes_78 rfl e24 rfl ?_
        refine ev_iload (v := t3) (pc := 79) dX7_readBytes_79 rfl ?_
        by_cases b25 : t3 < 0
        · rw [if_pos b25] at h
          refine ev_if_lt_t (t := 91) (pc := 81) dX7_readBytes_81 (by decide) b25 ?_
          refine ev_iload (v := j15) (pc := 91) dX7_readBytes_91 rfl ?_
          obtain rfl := Option.some.inj h
          exact ev_iret (pc := 93) dX7_readBytes_93 rfl rfl rfl (hfin _ _ _ _ _ _ _ _ _)
        · rw [if_neg b25] at h
          refine ev_if_lt_f (t := 91) (pc := 81) dX7_readBytes_81 (by decide) b25 ?_
          obtain ⟨t26, e27, h⟩ := rb_bd h
          refine ev_aload_n (v := 19) (pc := 84) dX7_readBytes_84 rfl ?_
          refine ev_iload (v := t3) (pc := 85) dX7_readBytes_85 rfl ?_
          refine ev_iconst (v := 2) (pc := 87) dX7_readBytes_87 ki_2 ?_
          refine ev_cVv2w (w' := [(20, t26.1), (21, t26.2.1), (22, t26.2.2.1), (19, t26.2.2.2.1), (23, t26.2.2.2.2.1), (24, t26.2.2.2.2.2.1), (25, t26.2.2.2.2.2.2.1), (26, t26.2.2.2.2.2.2.2), (31, j9.2)]) (pc := 88) dX7_readBytes_88 mv_X7_notice lk_RX7_120 rp_19 (ct_X7_notice _ _ _ _ _ _ _ _ _ _ _ _ rfl rfl rfl rfl rfl rfl rfl rfl e27) (Nat.le_of_ble_eq_true rfl) (Nat.le_of_ble_eq_true rfl) rfl ?_
          refine ev_iload (v := j15) (pc := 91) dX7_readBytes_91 rfl ?_
          obtain rfl := Option.some.inj h
          exact ev_iret (pc := 93) dX7_readBytes_93 rfl rfl rfl (hfin _ _ _ _ _ _ _ _ _)
      replace h := e16
      by_cases b18 : t5 ≤ x1
      · rw [if_pos b18] at h
        refine ev_icmp_ge_t (t := 59) (pc := 52) dX7_readBytes_52 (by decide) b18 ?_
        refine ev_iload (v := t5) (pc := 59) dX7_readBytes_59 rfl ?_
        obtain rfl := Option.some.inj h
        exact ev_fg (L := [some (.inr 19), none, none, none, some (.inl t1), some (.inl t3), none, none]) (And.intro rfl (And.intro rfl (And.intro rfl True.intro))) (hj17)
      · rw [if_neg b18] at h
        refine ev_icmp_ge_f (t := 59) (pc := 52) dX7_readBytes_52 (by decide) b18 ?_
        refine ev_iload_n (v := x1) (pc := 55) dX7_readBytes_55 rfl ?_
        refine ev_goto (t := 61) (pc := 56) dX7_readBytes_56 (by decide) ?_
        obtain rfl := Option.some.inj h
        exact ev_fg (L := [some (.inr 19), none, none, none, some (.inl t1), some (.inl t3), none, none]) (And.intro rfl (And.intro rfl (And.intro rfl True.intro))) (hj17)
    replace h := e10
    by_cases b12 : x2 = 0
    · rw [if_pos b12] at h
      refine ev_if_eq_t (t := 49) (pc := 42) dX7_readBytes_42 (by decide) b12 ?_
      obtain rfl := Option.some.inj h
      exact ev_fg (L := [some (.inr 19), none, some (.inl x1), none, some (.inl t1), some (.inl t3), some (.inl t5), none]) (And.intro rfl (And.intro rfl (And.intro rfl (And.intro rfl (And.intro rfl True.intro))))) (hj11)
    · rw [if_neg b12] at h
      refine ev_if_eq_f (t := 49) (pc := 42) dX7_readBytes_42 (by decide) b12 ?_
      obtain ⟨t13, e14, h⟩ := rb_bd h
      refine ev_aload_n (v := 19) (pc := 45) dX7_readBytes_45 rfl ?_
      refine ev_cVv0w (w' := [(20, a), (21, rd), (22, ag), (19, t13.1), (23, na), (24, nb), (25, nl), (26, sv), (31, t13.2)]) (pc := 46) dX7_readBytes_46 mv_X7_keepAct lk_RX7_101 rp_19 (ct_X7_keepAct _ _ _ _ _ rfl rfl rfl e14) (Nat.le_of_ble_eq_true rfl) (Nat.le_of_ble_eq_true rfl) rfl ?_
      obtain rfl := Option.some.inj h
      exact ev_fg (L := [some (.inr 19), none, some (.inl x1), none, some (.inl t1), some (.inl t3), some (.inl t5), none]) (And.intro rfl (And.intro rfl (And.intro rfl (And.intro rfl (And.intro rfl True.intro))))) (hj11)
def XX7_readValue (a : rb_Row) (rd : rb_Row) (ag : rb_Row) (mf : rb_Row) (na : rb_Row) (nb : rb_Row) (nl : rb_Row) (sv : rb_Row) (wa : rb_Row) (x0 : Int32) (x1 : Int32) (x2 : Int32) : Option (Int32 × rb_Row × rb_Row × rb_Row × rb_Row × rb_Row × rb_Row × rb_Row × rb_Row × rb_Row) := (XX7_ofObject a x0 1).bind fun t1 => if t1 = 0 then some (0, a, rd, ag, mf, na, nb, nl, sv, wa) else ((if x2 = 0 then some (mf, wa) else (XX7_keepAct mf wa a).bind fun t8 => some (t8.1, t8.2)) : Option (rb_Row × rb_Row)).bind fun j4 => ((if x1 = 0 then some t1 else some 1) : Option (Int32)).bind fun j10 => (XX7_objectAt x0 1).bind fun t14 => (rb_rd a 796 t14).bind fun v16 => (rb_wr a 796 t14 (v16 - j10)).bind fun a18 => (XX7_kindOf a18 x0).bind fun t20 => if t20 = 2 then (XX7_notice a18 rd ag j4.1 na nb nl sv x0 2).bind fun t23 => some (j10, t23.1, t23.2.1, t23.2.2.1, t23.2.2.2.1, t23.2.2.2.2.1, t23.2.2.2.2.2.1, t23.2.2.2.2.2.2.1, t23.2.2.2.2.2.2.2, j4.2) else some (j10, a18, rd, ag, j4.1, na, nb, nl, sv, j4.2)
set_option maxHeartbeats 4000000 in
set_option maxRecDepth 20000 in
theorem ct_X7_readValue (μ : rb_Mem) (a : rb_Row) (rd : rb_Row) (ag : rb_Row) (mf : rb_Row) (na : rb_Row) (nb : rb_Row) (nl : rb_Row) (sv : rb_Row) (wa : rb_Row) (x0 : Int32) (x1 : Int32) (x2 : Int32) (o : Int32 × rb_Row × rb_Row × rb_Row × rb_Row × rb_Row × rb_Row × rb_Row × rb_Row × rb_Row) (ha : μ 20 = a) (hrd : μ 21 = rd) (hag : μ 22 = ag) (hmf : μ 19 = mf) (hna : μ 23 = na) (hnb : μ 24 = nb) (hnl : μ 25 = nl) (hsv : μ 26 = sv) (hwa : μ 31 = wa) (h : XX7_readValue a rd ag mf na nb nl sv wa x0 x1 x2 = some o) : rb_Ct yX7_readValue cX7_readValue 6 (some .int) 10 [.inr 19, .inl x0, .inl x1, .inl x2] μ (some o.1) (rb_ov μ [(20, o.2.1), (21, o.2.2.1), (22, o.2.2.2.1), (19, o.2.2.2.2.1), (23, o.2.2.2.2.2.1), (24, o.2.2.2.2.2.2.1), (25, o.2.2.2.2.2.2.2.1), (26, o.2.2.2.2.2.2.2.2.1), (31, o.2.2.2.2.2.2.2.2.2)]) := by
  unfold XX7_readValue at h
  have hini : rb_ov μ [(20, a), (21, rd), (22, ag), (19, mf), (23, na), (24, nb), (25, nl), (26, sv), (31, wa)] = μ := rb_ov_sf _ _ (And.intro ha (And.intro hrd (And.intro hag (And.intro hmf (And.intro hna (And.intro hnb (And.intro hnl (And.intro hsv (And.intro hwa True.intro)))))))))
  have hfin : ∀ u0 u1 u2 u3 u4 u5 u6 u7 u8 : rb_Row, rb_ov μ [(20, u0), (21, u1), (22, u2), (19, u3), (23, u4), (24, u5), (25, u6), (26, u7), (31, u8)] = rb_ov μ [(20, u0), (21, u1), (22, u2), (19, u3), (23, u4), (24, u5), (25, u6), (26, u7), (31, u8)] := fun u0 u1 u2 u3 u4 u5 u6 u7 u8 => rfl
  refine rb_cti (w := [(20, a), (21, rd), (22, ag), (19, mf), (23, na), (24, nb), (25, nl), (26, sv), (31, wa)]) rfl pn_7 (Nat.le_of_ble_eq_true rfl) rfl hini ?_
  obtain ⟨t1, e2, h⟩ := rb_bd h
  refine ev_aload_n (v := 19) (pc := 0) dX7_readValue_0 rfl ?_
  refine ev_iload_n (v := x0) (pc := 1) dX7_readValue_1 rfl ?_
  refine ev_iconst (v := 1) (pc := 2) dX7_readValue_2 ki_1 ?_
  refine ev_cVi2 (pc := 3) dX7_readValue_3 mv_X7_ofObject lk_RX7_66 rp_19 (ct_X7_ofObject _ _ _ _ _ rfl e2) (Nat.le_of_ble_eq_true rfl) (Nat.le_of_ble_eq_true rfl) ?_
  refine ev_istore (L' := [some (.inr 19), some (.inl x0), some (.inl x1), some (.inl x2), some (.inl t1), none]) (pc := 6) dX7_readValue_6 (Nat.le_of_ble_eq_true rfl) rfl ?_
  refine ev_iload (v := t1) (pc := 8) dX7_readValue_8 rfl ?_
  by_cases b3 : t1 = 0
  · rw [if_pos b3] at h
    refine ev_if_ne_f (t := 15) (pc := 10) dX7_readValue_10 (by decide) b3 ?_
    refine ev_iconst (v := 0) (pc := 13) dX7_readValue_13 ki_0 ?_
    obtain rfl := Option.some.inj h
    exact ev_iret (pc := 14) dX7_readValue_14 rfl rfl rfl (hfin _ _ _ _ _ _ _ _ _)
  · rw [if_neg b3] at h
    refine ev_if_ne_t (t := 15) (pc := 10) dX7_readValue_10 (by decide) b3 ?_
    refine ev_iload_n (v := x2) (pc := 15) dX7_readValue_15 rfl ?_
    obtain ⟨j4, e5, h⟩ := rb_bd h
    have hj6 : rb_Ev RX7 cX7_readValue 6 (some .int) none 10 (some o.1) (rb_ov μ [(20, o.2.1), (21, o.2.2.1), (22, o.2.2.2.1), (19, o.2.2.2.2.1), (23, o.2.2.2.2.2.1), (24, o.2.2.2.2.2.2.1), (25, o.2.2.2.2.2.2.2.1), (26, o.2.2.2.2.2.2.2.2.1), (31, o.2.2.2.2.2.2.2.2.2)]) 23 [some (.inr 19), some (.inl x0), some (.inl x1), none, some (.inl t1), none] [] (rb_ov μ [(20, a), (21, rd), (22, ag), (19, j4.1), (23, na), (24, nb), (25, nl), (26, sv), (31, j4.2)]) := by
      refine ev_iload_n (v := x1) (pc := 23) dX7_readValue_23 rfl ?_
      obtain ⟨j10, e11, h⟩ := rb_bd h
      have hj12 : rb_Ev RX7 cX7_readValue 6 (some .int) none 10 (some o.1) (rb_ov μ [(20, o.2.1), (21, o.2.2.1), (22, o.2.2.2.1), (19, o.2.2.2.2.1), (23, o.2.2.2.2.2.1), (24, o.2.2.2.2.2.2.1), (25, o.2.2.2.2.2.2.2.1), (26, o.2.2.2.2.2.2.2.2.1), (31, o.2.2.2.2.2.2.2.2.2)]) 33 [some (.inr 19), some (.inl x0), none, none, none, none] [.inl j10] (rb_ov μ [(20, a), (21, rd), (22, ag), (19, j4.1), (23, na), (24, nb), (25, nl), (26, sv), (31, j4.2)]) := by
        obtain ⟨t14, e15, h⟩ := rb_bd h
        obtain ⟨v16, e17, h⟩ := rb_bd h
        obtain ⟨a18, e19, h⟩ := rb_bd h
        obtain ⟨t20, e21, h⟩ := rb_bd h
        refine ev_istore (L' := [some (.inr 19), some (.inl x0), none, none, none, some (.inl j10)]) (pc := 33) dX7_readValue_33 (Nat.le_of_ble_eq_true rfl) rfl ?_
        refine ev_aload_n (v := 19) (pc := 35) dX7_readValue_35 rfl ?_
        refine ev_getr (q := 20) (pc := 36) dX7_readValue_36 fl_RX7_7 rfl rfl ?_
        refine ev_iload_n (v := x0) (pc := 39) dX7_readValue_39 rfl ?_
        refine ev_iconst (v := 1) (pc := 40) dX7_readValue_40 ki_1 ?_
        refine ev_cSi2 (pc := 41) dX7_readValue_41 ms_X7_objectAt lk_RX7_53 (ct_X7_objectAt _ _ _ _ e15) (Nat.le_of_ble_eq_true rfl) (Nat.le_of_ble_eq_true rfl) ?_
        refine ev_dup2 (pc := 44) dX7_readValue_44 ?_
        refine ev_iald (pc := 45) dX7_readValue_45 rfl e17 ?_
        refine ev_iload (v := j10) (pc := 46) dX7_readValue_46 rfl ?_
        refine ev_isub (pc := 48) dX7_readValue_48 ?_
        refine ev_iast (w' := [(20, a18), (21, rd), (22, ag), (19, j4.1), (23, na), (24, nb), (25, nl), (26, sv), (31, j4.2)]) (pc := 49) dX7_readValue_49 rfl e19 rfl ?_
        refine ev_aload_n (v := 19) (pc := 50) dX7_readValue_50 rfl ?_
        refine ev_iload_n (v := x0) (pc := 51) dX7_readValue_51 rfl ?_
        refine ev_cVi1 (pc := 52) dX7_readValue_52 mv_X7_kindOf lk_RX7_77 rp_19 (ct_X7_kindOf _ _ _ _ rfl e21) (Nat.le_of_ble_eq_true rfl) (Nat.le_of_ble_eq_true rfl) ?_
        refine ev_iconst (v := 2) (pc := 55) dX7_readValue_55 ki_2 ?_
        by_cases b22 : t20 = 2
        · rw [if_pos b22] at h
          refine ev_icmp_ne_f (t := 65) (pc := 56) dX7_readValue_56 (by decide) b22 ?_
          obtain ⟨t23, e24, h⟩ := rb_bd h
          refine ev_aload_n (v := 19) (pc := 59) dX7_readValue_59 rfl ?_
          refine ev_iload_n (v := x0) (pc := 60) dX7_readValue_60 rfl ?_
          refine ev_iconst (v := 2) (pc := 61) dX7_readValue_61 ki_2 ?_
          refine ev_cVv2w (w' := [(20, t23.1), (21, t23.2.1), (22, t23.2.2.1), (19, t23.2.2.2.1), (23, t23.2.2.2.2.1), (24, t23.2.2.2.2.2.1), (25, t23.2.2.2.2.2.2.1), (26, t23.2.2.2.2.2.2.2), (31, j4.2)]) (pc := 62) dX7_readValue_62 mv_X7_notice lk_RX7_120 rp_19 (ct_X7_notice _ _ _ _ _ _ _ _ _ _ _ _ rfl rfl rfl rfl rfl rfl rfl rfl e24) (Nat.le_of_ble_eq_true rfl) (Nat.le_of_ble_eq_true rfl) rfl ?_
          refine ev_iload (v := j10) (pc := 65) dX7_readValue_65 rfl ?_
          obtain rfl := Option.some.inj h
          exact ev_iret (pc := 67) dX7_readValue_67 rfl rfl rfl (hfin _ _ _ _ _ _ _ _ _)
        · rw [if_neg b22] at h
          refine ev_icmp_ne_t (t := 65) (pc := 56) dX7_readValue_56 (by decide) b22 ?_
          refine ev_iload (v := j10) (pc := 65) dX7_readValue_65 rfl ?_
          obtain rfl := Option.some.inj h
          exact ev_iret (pc := 67) dX7_readValue_67 rfl rfl rfl (hfin _ _ _ _ _ _ _ _ _)
      replace h := e11
      by_cases b13 : x1 = 0
      · rw [if_pos b13] at h
        refine ev_if_eq_t (t := 31) (pc := 24) dX7_readValue_24 (by decide) b13 ?_
        refine ev_iload (v := t1) (pc := 31) dX7_readValue_31 rfl ?_
        obtain rfl := Option.some.inj h
        exact ev_fg (L := [some (.inr 19), some (.inl x0), none, none, none, none]) (And.intro rfl (And.intro rfl True.intro)) (hj12)
      · rw [if_neg b13] at h
        refine ev_if_eq_f (t := 31) (pc := 24) dX7_readValue_24 (by decide) b13 ?_
        refine ev_iconst (v := 1) (pc := 27) dX7_readValue_27 ki_1 ?_
        refine ev_goto (t := 33) (pc := 28) dX7_readValue_28 (by decide) ?_
        obtain rfl := Option.some.inj h
        exact ev_fg (L := [some (.inr 19), some (.inl x0), none, none, none, none]) (And.intro rfl (And.intro rfl True.intro)) (hj12)
    replace h := e5
    by_cases b7 : x2 = 0
    · rw [if_pos b7] at h
      refine ev_if_eq_t (t := 23) (pc := 16) dX7_readValue_16 (by decide) b7 ?_
      obtain rfl := Option.some.inj h
      exact ev_fg (L := [some (.inr 19), some (.inl x0), some (.inl x1), none, some (.inl t1), none]) (And.intro rfl (And.intro rfl (And.intro rfl (And.intro rfl True.intro)))) (hj6)
    · rw [if_neg b7] at h
      refine ev_if_eq_f (t := 23) (pc := 16) dX7_readValue_16 (by decide) b7 ?_
      obtain ⟨t8, e9, h⟩ := rb_bd h
      refine ev_aload_n (v := 19) (pc := 19) dX7_readValue_19 rfl ?_
      refine ev_cVv0w (w' := [(20, a), (21, rd), (22, ag), (19, t8.1), (23, na), (24, nb), (25, nl), (26, sv), (31, t8.2)]) (pc := 20) dX7_readValue_20 mv_X7_keepAct lk_RX7_101 rp_19 (ct_X7_keepAct _ _ _ _ _ rfl rfl rfl e9) (Nat.le_of_ble_eq_true rfl) (Nat.le_of_ble_eq_true rfl) rfl ?_
      obtain rfl := Option.some.inj h
      exact ev_fg (L := [some (.inr 19), some (.inl x0), some (.inl x1), none, some (.inl t1), none]) (And.intro rfl (And.intro rfl (And.intro rfl (And.intro rfl True.intro)))) (hj6)
def XX7_goRead (a : rb_Row) (rd : rb_Row) (ag : rb_Row) (mf : rb_Row) (na : rb_Row) (nb : rb_Row) (nl : rb_Row) (sv : rb_Row) (wa : rb_Row) (x0 : Int32) (x1 : Int32) (x2 : Int32) : Option (Int32 × rb_Row × rb_Row × rb_Row × rb_Row × rb_Row × rb_Row × rb_Row × rb_Row × rb_Row) := (XX7_isIn x1 1 100).bind fun t1 => if t1 = 0 then some ((-1), a, rd, ag, mf, na, nb, nl, sv, wa) else (XX7_isHandle a x0).bind fun t4 => if t4 = 0 then some ((-1), a, rd, ag, mf, na, nb, nl, sv, wa) else (rb_rd a 796 x0).bind fun v7 => (XX7_kindOf a v7).bind fun t9 => if t9 = 0 then (XX7_readBytes a rd ag mf na nb nl sv wa v7 x1 x2).bind fun t12 => some (t12.1, t12.2.1, t12.2.2.1, t12.2.2.2.1, t12.2.2.2.2.1, t12.2.2.2.2.2.1, t12.2.2.2.2.2.2.1, t12.2.2.2.2.2.2.2.1, t12.2.2.2.2.2.2.2.2.1, t12.2.2.2.2.2.2.2.2.2) else if t9 = 2 then (XX7_ofObject a v7 2).bind fun t15 => ((if t15 = 1 then some 1 else some 0) : Option (Int32)).bind fun j17 => (XX7_readValue a rd ag mf na nb nl sv wa v7 j17 x2).bind fun t21 => some (t21.1, t21.2.1, t21.2.2.1, t21.2.2.2.1, t21.2.2.2.2.1, t21.2.2.2.2.2.1, t21.2.2.2.2.2.2.1, t21.2.2.2.2.2.2.2.1, t21.2.2.2.2.2.2.2.2.1, t21.2.2.2.2.2.2.2.2.2) else if t9 = 3 then (XX7_readValue a rd ag mf na nb nl sv wa v7 0 x2).bind fun t24 => some (t24.1, t24.2.1, t24.2.2.1, t24.2.2.2.1, t24.2.2.2.2.1, t24.2.2.2.2.2.1, t24.2.2.2.2.2.2.1, t24.2.2.2.2.2.2.2.1, t24.2.2.2.2.2.2.2.2.1, t24.2.2.2.2.2.2.2.2.2) else some ((-1), a, rd, ag, mf, na, nb, nl, sv, wa)
set_option maxHeartbeats 4000000 in
set_option maxRecDepth 20000 in
theorem ct_X7_goRead (μ : rb_Mem) (a : rb_Row) (rd : rb_Row) (ag : rb_Row) (mf : rb_Row) (na : rb_Row) (nb : rb_Row) (nl : rb_Row) (sv : rb_Row) (wa : rb_Row) (x0 : Int32) (x1 : Int32) (x2 : Int32) (o : Int32 × rb_Row × rb_Row × rb_Row × rb_Row × rb_Row × rb_Row × rb_Row × rb_Row × rb_Row) (ha : μ 20 = a) (hrd : μ 21 = rd) (hag : μ 22 = ag) (hmf : μ 19 = mf) (hna : μ 23 = na) (hnb : μ 24 = nb) (hnl : μ 25 = nl) (hsv : μ 26 = sv) (hwa : μ 31 = wa) (h : XX7_goRead a rd ag mf na nb nl sv wa x0 x1 x2 = some o) : rb_Ct yX7_goRead cX7_goRead 5 (some .int) 11 [.inr 19, .inl x0, .inl x1, .inl x2] μ (some o.1) (rb_ov μ [(20, o.2.1), (21, o.2.2.1), (22, o.2.2.2.1), (19, o.2.2.2.2.1), (23, o.2.2.2.2.2.1), (24, o.2.2.2.2.2.2.1), (25, o.2.2.2.2.2.2.2.1), (26, o.2.2.2.2.2.2.2.2.1), (31, o.2.2.2.2.2.2.2.2.2)]) := by
  unfold XX7_goRead at h
  have hini : rb_ov μ [(20, a), (21, rd), (22, ag), (19, mf), (23, na), (24, nb), (25, nl), (26, sv), (31, wa)] = μ := rb_ov_sf _ _ (And.intro ha (And.intro hrd (And.intro hag (And.intro hmf (And.intro hna (And.intro hnb (And.intro hnl (And.intro hsv (And.intro hwa True.intro)))))))))
  have hfin : ∀ u0 u1 u2 u3 u4 u5 u6 u7 u8 : rb_Row, rb_ov μ [(20, u0), (21, u1), (22, u2), (19, u3), (23, u4), (24, u5), (25, u6), (26, u7), (31, u8)] = rb_ov μ [(20, u0), (21, u1), (22, u2), (19, u3), (23, u4), (24, u5), (25, u6), (26, u7), (31, u8)] := fun u0 u1 u2 u3 u4 u5 u6 u7 u8 => rfl
  refine rb_cti (w := [(20, a), (21, rd), (22, ag), (19, mf), (23, na), (24, nb), (25, nl), (26, sv), (31, wa)]) rfl pn_7 (Nat.le_of_ble_eq_true rfl) rfl hini ?_
  obtain ⟨t1, e2, h⟩ := rb_bd h
  refine ev_iload_n (v := x1) (pc := 0) dX7_goRead_0 rfl ?_
  refine ev_iconst (v := 1) (pc := 1) dX7_goRead_1 ki_1 ?_
  refine ev_bipush (v := 100) (pc := 2) dX7_goRead_2 kb_100 ?_
  refine ev_cSi3 (pc := 4) dX7_goRead_4 ms_X7_isIn lk_RX7_69 (ct_X7_isIn _ _ _ _ _ e2) (Nat.le_of_ble_eq_true rfl) (Nat.le_of_ble_eq_true rfl) ?_
  by_cases b3 : t1 = 0
  · rw [if_pos b3] at h
    refine ev_if_eq_t (t := 18) (pc := 7) dX7_goRead_7 (by decide) b3 ?_
    refine ev_iconst (v := (-1)) (pc := 18) dX7_goRead_18 ki_m1 ?_
    obtain rfl := Option.some.inj h
    exact ev_iret (pc := 19) dX7_goRead_19 rfl rfl rfl (hfin _ _ _ _ _ _ _ _ _)
  · rw [if_neg b3] at h
    refine ev_if_eq_f (t := 18) (pc := 7) dX7_goRead_7 (by decide) b3 ?_
    obtain ⟨t4, e5, h⟩ := rb_bd h
    refine ev_aload_n (v := 19) (pc := 10) dX7_goRead_10 rfl ?_
    refine ev_iload_n (v := x0) (pc := 11) dX7_goRead_11 rfl ?_
    refine ev_cVi1 (pc := 12) dX7_goRead_12 mv_X7_isHandle lk_RX7_73 rp_19 (ct_X7_isHandle _ _ _ _ rfl e5) (Nat.le_of_ble_eq_true rfl) (Nat.le_of_ble_eq_true rfl) ?_
    by_cases b6 : t4 = 0
    · rw [if_pos b6] at h
      refine ev_if_ne_f (t := 20) (pc := 15) dX7_goRead_15 (by decide) b6 ?_
      refine ev_iconst (v := (-1)) (pc := 18) dX7_goRead_18 ki_m1 ?_
      obtain rfl := Option.some.inj h
      exact ev_iret (pc := 19) dX7_goRead_19 rfl rfl rfl (hfin _ _ _ _ _ _ _ _ _)
    · rw [if_neg b6] at h
      refine ev_if_ne_t (t := 20) (pc := 15) dX7_goRead_15 (by decide) b6 ?_
      obtain ⟨v7, e8, h⟩ := rb_bd h
      obtain ⟨t9, e10, h⟩ := rb_bd h
      refine ev_aload_n (v := 19) (pc := 20) dX7_goRead_20 rfl ?_
      refine ev_getr (q := 20) (pc := 21) dX7_goRead_21 fl_RX7_7 rfl rfl ?_
      refine ev_iload_n (v := x0) (pc := 24) dX7_goRead_24 rfl ?_
      refine ev_iald (pc := 25) dX7_goRead_25 rfl e8 ?_
      refine ev_istore (L' := [some (.inr 19), some (.inl x0), some (.inl x1), some (.inl x2), some (.inl v7)]) (pc := 26) dX7_goRead_26 (Nat.le_of_ble_eq_true rfl) rfl ?_
      refine ev_aload_n (v := 19) (pc := 28) dX7_goRead_28 rfl ?_
      refine ev_iload (v := v7) (pc := 29) dX7_goRead_29 rfl ?_
      refine ev_cVi1 (pc := 31) dX7_goRead_31 mv_X7_kindOf lk_RX7_77 rp_19 (ct_X7_kindOf _ _ _ _ rfl e10) (Nat.le_of_ble_eq_true rfl) (Nat.le_of_ble_eq_true rfl) ?_
      by_cases b11 : t9 = 0
      · rw [if_pos b11] at h
        refine ev_tsIn (t := 64) (off := 30) (pc := 34) dX7_goRead_34 (by rw [b11]; decide) (by rw [b11]; decide) (by rw [b11]; decide) (by decide) ?_
        obtain ⟨t12, e13, h⟩ := rb_bd h
        refine ev_aload_n (v := 19) (pc := 64) dX7_goRead_64 rfl ?_
        refine ev_iload (v := v7) (pc := 65) dX7_goRead_65 rfl ?_
        refine ev_iload_n (v := x1) (pc := 67) dX7_goRead_67 rfl ?_
        refine ev_iload_n (v := x2) (pc := 68) dX7_goRead_68 rfl ?_
        refine ev_cVi3w (w' := [(20, t12.2.1), (21, t12.2.2.1), (22, t12.2.2.2.1), (19, t12.2.2.2.2.1), (23, t12.2.2.2.2.2.1), (24, t12.2.2.2.2.2.2.1), (25, t12.2.2.2.2.2.2.2.1), (26, t12.2.2.2.2.2.2.2.2.1), (31, t12.2.2.2.2.2.2.2.2.2)]) (pc := 69) dX7_goRead_69 mv_X7_readBytes lk_RX7_234 rp_19 (ct_X7_readBytes _ _ _ _ _ _ _ _ _ _ _ _ _ _ rfl rfl rfl rfl rfl rfl rfl rfl rfl e13) (Nat.le_of_ble_eq_true rfl) (Nat.le_of_ble_eq_true rfl) rfl ?_
        obtain rfl := Option.some.inj h
        exact ev_iret (pc := 72) dX7_goRead_72 rfl rfl rfl (hfin _ _ _ _ _ _ _ _ _)
      · rw [if_neg b11] at h
        by_cases b14 : t9 = 2
        · rw [if_pos b14] at h
          refine ev_tsIn (t := 73) (off := 39) (pc := 34) dX7_goRead_34 (by rw [b14]; decide) (by rw [b14]; decide) (by rw [b14]; decide) (by decide) ?_
          obtain ⟨t15, e16, h⟩ := rb_bd h
          refine ev_aload_n (v := 19) (pc := 73) dX7_goRead_73 rfl ?_
          refine ev_iload (v := v7) (pc := 74) dX7_goRead_74 rfl ?_
          refine ev_aload_n (v := 19) (pc := 76) dX7_goRead_76 rfl ?_
          refine ev_iload (v := v7) (pc := 77) dX7_goRead_77 rfl ?_
          refine ev_iconst (v := 2) (pc := 79) dX7_goRead_79 ki_2 ?_
          refine ev_cVi2 (pc := 80) dX7_goRead_80 mv_X7_ofObject lk_RX7_66 rp_19 (ct_X7_ofObject _ _ _ _ _ rfl e16) (Nat.le_of_ble_eq_true rfl) (Nat.le_of_ble_eq_true rfl) ?_
          refine ev_iconst (v := 1) (pc := 83) dX7_goRead_83 ki_1 ?_
          obtain ⟨j17, e18, h⟩ := rb_bd h
          have hj19 : rb_Ev RX7 cX7_goRead 5 (some .int) none 11 (some o.1) (rb_ov μ [(20, o.2.1), (21, o.2.2.1), (22, o.2.2.2.1), (19, o.2.2.2.2.1), (23, o.2.2.2.2.2.1), (24, o.2.2.2.2.2.2.1), (25, o.2.2.2.2.2.2.2.1), (26, o.2.2.2.2.2.2.2.2.1), (31, o.2.2.2.2.2.2.2.2.2)]) 92 [none, none, none, some (.inl x2), none] [.inl j17, .inl v7, .inr 19] (rb_ov μ [(20, a), (21, rd), (22, ag), (19, mf), (23, na), (24, nb), (25, nl), (26, sv), (31, wa)]) := by
            obtain ⟨t21, e22, h⟩ := rb_bd h
            refine ev_iload_n (v := x2) (pc := 92) dX7_goRead_92 rfl ?_
            refine ev_cVi3w (w' := [(20, t21.2.1), (21, t21.2.2.1), (22, t21.2.2.2.1), (19, t21.2.2.2.2.1), (23, t21.2.2.2.2.2.1), (24, t21.2.2.2.2.2.2.1), (25, t21.2.2.2.2.2.2.2.1), (26, t21.2.2.2.2.2.2.2.2.1), (31, t21.2.2.2.2.2.2.2.2.2)]) (pc := 93) dX7_goRead_93 mv_X7_readValue lk_RX7_237 rp_19 (ct_X7_readValue _ _ _ _ _ _ _ _ _ _ _ _ _ _ rfl rfl rfl rfl rfl rfl rfl rfl rfl e22) (Nat.le_of_ble_eq_true rfl) (Nat.le_of_ble_eq_true rfl) rfl ?_
            obtain rfl := Option.some.inj h
            exact ev_iret (pc := 96) dX7_goRead_96 rfl rfl rfl (hfin _ _ _ _ _ _ _ _ _)
          replace h := e18
          by_cases b20 : t15 = 1
          · rw [if_pos b20] at h
            refine ev_icmp_ne_f (t := 91) (pc := 84) dX7_goRead_84 (by decide) b20 ?_
            refine ev_iconst (v := 1) (pc := 87) dX7_goRead_87 ki_1 ?_
            refine ev_goto (t := 92) (pc := 88) dX7_goRead_88 (by decide) ?_
            obtain rfl := Option.some.inj h
            exact ev_fg (L := [none, none, none, some (.inl x2), none]) (And.intro rfl True.intro) (hj19)
          · rw [if_neg b20] at h
            refine ev_icmp_ne_t (t := 91) (pc := 84) dX7_goRead_84 (by decide) b20 ?_
            refine ev_iconst (v := 0) (pc := 91) dX7_goRead_91 ki_0 ?_
            obtain rfl := Option.some.inj h
            exact ev_fg (L := [none, none, none, some (.inl x2), none]) (And.intro rfl True.intro) (hj19)
        · rw [if_neg b14] at h
          by_cases b23 : t9 = 3
          · rw [if_pos b23] at h
            refine ev_tsIn (t := 97) (off := 63) (pc := 34) dX7_goRead_34 (by rw [b23]; decide) (by rw [b23]; decide) (by rw [b23]; decide) (by decide) ?_
            obtain ⟨t24, e25, h⟩ := rb_bd h
            refine ev_aload_n (v := 19) (pc := 97) dX7_goRead_97 rfl ?_
            refine ev_iload (v := v7) (pc := 98) dX7_goRead_98 rfl ?_
            refine ev_iconst (v := 0) (pc := 100) dX7_goRead_100 ki_0 ?_
            refine ev_iload_n (v := x2) (pc := 101) dX7_goRead_101 rfl ?_
            refine ev_cVi3w (w' := [(20, t24.2.1), (21, t24.2.2.1), (22, t24.2.2.2.1), (19, t24.2.2.2.2.1), (23, t24.2.2.2.2.2.1), (24, t24.2.2.2.2.2.2.1), (25, t24.2.2.2.2.2.2.2.1), (26, t24.2.2.2.2.2.2.2.2.1), (31, t24.2.2.2.2.2.2.2.2.2)]) (pc := 102) dX7_goRead_102 mv_X7_readValue lk_RX7_237 rp_19 (ct_X7_readValue _ _ _ _ _ _ _ _ _ _ _ _ _ _ rfl rfl rfl rfl rfl rfl rfl rfl rfl e25) (Nat.le_of_ble_eq_true rfl) (Nat.le_of_ble_eq_true rfl) rfl ?_
            obtain rfl := Option.some.inj h
            exact ev_iret (pc := 105) dX7_goRead_105 rfl rfl rfl (hfin _ _ _ _ _ _ _ _ _)
          · rw [if_neg b23] at h
            have hd27 : rb_Ev RX7 cX7_goRead 5 (some .int) none 11 (some o.1) (rb_ov μ [(20, o.2.1), (21, o.2.2.1), (22, o.2.2.2.1), (19, o.2.2.2.2.1), (23, o.2.2.2.2.2.1), (24, o.2.2.2.2.2.2.1), (25, o.2.2.2.2.2.2.2.1), (26, o.2.2.2.2.2.2.2.2.1), (31, o.2.2.2.2.2.2.2.2.2)]) 106 [some (.inr 19), some (.inl x0), some (.inl x1), some (.inl x2), some (.inl v7)] [] (rb_ov μ [(20, a), (21, rd), (22, ag), (19, mf), (23, na), (24, nb), (25, nl), (26, sv), (31, wa)]) := by
              refine ev_iconst (v := (-1)) (pc := 106) dX7_goRead_106 ki_m1 ?_
              obtain rfl := Option.some.inj h
              exact ev_iret (pc := 107) dX7_goRead_107 rfl rfl rfl (hfin _ _ _ _ _ _ _ _ _)
            by_cases b26 : t9 = 1
            · exact ev_tsIn (t := 106) (off := 72) (pc := 34) dX7_goRead_34 (by rw [b26]; decide) (by rw [b26]; decide) (by rw [b26]; decide) (by decide) hd27
            exact ev_tsOut (t := 106) (pc := 34) dX7_goRead_34 (rb_tsS (k := 3) (by decide) b23 (rb_tsS (k := 2) (by decide) b14 (rb_tsS (k := 1) (by decide) b26 (rb_tsS (k := 0) (by decide) b11 (rb_ts0 _))))) (by decide) hd27
def XX7_write (a : rb_Row) (rd : rb_Row) (ag : rb_Row) (mf : rb_Row) (na : rb_Row) (nb : rb_Row) (nl : rb_Row) (sv : rb_Row) (wa : rb_Row) (x0 : Int32) (x1 : Int32) : Option (Int32 × rb_Row × rb_Row × rb_Row × rb_Row × rb_Row × rb_Row × rb_Row × rb_Row × rb_Row) := (XX7_goWrite a rd ag mf na nb nl sv wa x0 x1 1).bind fun t1 => some (t1.1, t1.2.1, t1.2.2.1, t1.2.2.2.1, t1.2.2.2.2.1, t1.2.2.2.2.2.1, t1.2.2.2.2.2.2.1, t1.2.2.2.2.2.2.2.1, t1.2.2.2.2.2.2.2.2.1, t1.2.2.2.2.2.2.2.2.2)
set_option maxHeartbeats 4000000 in
set_option maxRecDepth 20000 in
theorem ct_X7_write (μ : rb_Mem) (a : rb_Row) (rd : rb_Row) (ag : rb_Row) (mf : rb_Row) (na : rb_Row) (nb : rb_Row) (nl : rb_Row) (sv : rb_Row) (wa : rb_Row) (x0 : Int32) (x1 : Int32) (o : Int32 × rb_Row × rb_Row × rb_Row × rb_Row × rb_Row × rb_Row × rb_Row × rb_Row × rb_Row) (ha : μ 20 = a) (hrd : μ 21 = rd) (hag : μ 22 = ag) (hmf : μ 19 = mf) (hna : μ 23 = na) (hnb : μ 24 = nb) (hnl : μ 25 = nl) (hsv : μ 26 = sv) (hwa : μ 31 = wa) (h : XX7_write a rd ag mf na nb nl sv wa x0 x1 = some o) : rb_Ct yX7_write cX7_write 3 (some .int) 12 [.inr 19, .inl x0, .inl x1] μ (some o.1) (rb_ov μ [(20, o.2.1), (21, o.2.2.1), (22, o.2.2.2.1), (19, o.2.2.2.2.1), (23, o.2.2.2.2.2.1), (24, o.2.2.2.2.2.2.1), (25, o.2.2.2.2.2.2.2.1), (26, o.2.2.2.2.2.2.2.2.1), (31, o.2.2.2.2.2.2.2.2.2)]) := by
  unfold XX7_write at h
  have hini : rb_ov μ [(20, a), (21, rd), (22, ag), (19, mf), (23, na), (24, nb), (25, nl), (26, sv), (31, wa)] = μ := rb_ov_sf _ _ (And.intro ha (And.intro hrd (And.intro hag (And.intro hmf (And.intro hna (And.intro hnb (And.intro hnl (And.intro hsv (And.intro hwa True.intro)))))))))
  have hfin : ∀ u0 u1 u2 u3 u4 u5 u6 u7 u8 : rb_Row, rb_ov μ [(20, u0), (21, u1), (22, u2), (19, u3), (23, u4), (24, u5), (25, u6), (26, u7), (31, u8)] = rb_ov μ [(20, u0), (21, u1), (22, u2), (19, u3), (23, u4), (24, u5), (25, u6), (26, u7), (31, u8)] := fun u0 u1 u2 u3 u4 u5 u6 u7 u8 => rfl
  refine rb_cti (w := [(20, a), (21, rd), (22, ag), (19, mf), (23, na), (24, nb), (25, nl), (26, sv), (31, wa)]) rfl pn_7 (Nat.le_of_ble_eq_true rfl) rfl hini ?_
  obtain ⟨t1, e2, h⟩ := rb_bd h
  refine ev_aload_n (v := 19) (pc := 0) dX7_write_0 rfl ?_
  refine ev_iload_n (v := x0) (pc := 1) dX7_write_1 rfl ?_
  refine ev_iload_n (v := x1) (pc := 2) dX7_write_2 rfl ?_
  refine ev_iconst (v := 1) (pc := 3) dX7_write_3 ki_1 ?_
  refine ev_cVi3w (w' := [(20, t1.2.1), (21, t1.2.2.1), (22, t1.2.2.2.1), (19, t1.2.2.2.2.1), (23, t1.2.2.2.2.2.1), (24, t1.2.2.2.2.2.2.1), (25, t1.2.2.2.2.2.2.2.1), (26, t1.2.2.2.2.2.2.2.2.1), (31, t1.2.2.2.2.2.2.2.2.2)]) (pc := 4) dX7_write_4 mv_X7_goWrite lk_RX7_241 rp_19 (ct_X7_goWrite _ _ _ _ _ _ _ _ _ _ _ _ _ _ rfl rfl rfl rfl rfl rfl rfl rfl rfl e2) (Nat.le_of_ble_eq_true rfl) (Nat.le_of_ble_eq_true rfl) rfl ?_
  obtain rfl := Option.some.inj h
  exact ev_iret (pc := 7) dX7_write_7 rfl rfl rfl (hfin _ _ _ _ _ _ _ _ _)
def XX7_read (a : rb_Row) (rd : rb_Row) (ag : rb_Row) (mf : rb_Row) (na : rb_Row) (nb : rb_Row) (nl : rb_Row) (sv : rb_Row) (wa : rb_Row) (x0 : Int32) (x1 : Int32) : Option (Int32 × rb_Row × rb_Row × rb_Row × rb_Row × rb_Row × rb_Row × rb_Row × rb_Row × rb_Row) := (XX7_goRead a rd ag mf na nb nl sv wa x0 x1 1).bind fun t1 => some (t1.1, t1.2.1, t1.2.2.1, t1.2.2.2.1, t1.2.2.2.2.1, t1.2.2.2.2.2.1, t1.2.2.2.2.2.2.1, t1.2.2.2.2.2.2.2.1, t1.2.2.2.2.2.2.2.2.1, t1.2.2.2.2.2.2.2.2.2)
set_option maxHeartbeats 4000000 in
set_option maxRecDepth 20000 in
theorem ct_X7_read (μ : rb_Mem) (a : rb_Row) (rd : rb_Row) (ag : rb_Row) (mf : rb_Row) (na : rb_Row) (nb : rb_Row) (nl : rb_Row) (sv : rb_Row) (wa : rb_Row) (x0 : Int32) (x1 : Int32) (o : Int32 × rb_Row × rb_Row × rb_Row × rb_Row × rb_Row × rb_Row × rb_Row × rb_Row × rb_Row) (ha : μ 20 = a) (hrd : μ 21 = rd) (hag : μ 22 = ag) (hmf : μ 19 = mf) (hna : μ 23 = na) (hnb : μ 24 = nb) (hnl : μ 25 = nl) (hsv : μ 26 = sv) (hwa : μ 31 = wa) (h : XX7_read a rd ag mf na nb nl sv wa x0 x1 = some o) : rb_Ct yX7_read cX7_read 3 (some .int) 12 [.inr 19, .inl x0, .inl x1] μ (some o.1) (rb_ov μ [(20, o.2.1), (21, o.2.2.1), (22, o.2.2.2.1), (19, o.2.2.2.2.1), (23, o.2.2.2.2.2.1), (24, o.2.2.2.2.2.2.1), (25, o.2.2.2.2.2.2.2.1), (26, o.2.2.2.2.2.2.2.2.1), (31, o.2.2.2.2.2.2.2.2.2)]) := by
  unfold XX7_read at h
  have hini : rb_ov μ [(20, a), (21, rd), (22, ag), (19, mf), (23, na), (24, nb), (25, nl), (26, sv), (31, wa)] = μ := rb_ov_sf _ _ (And.intro ha (And.intro hrd (And.intro hag (And.intro hmf (And.intro hna (And.intro hnb (And.intro hnl (And.intro hsv (And.intro hwa True.intro)))))))))
  have hfin : ∀ u0 u1 u2 u3 u4 u5 u6 u7 u8 : rb_Row, rb_ov μ [(20, u0), (21, u1), (22, u2), (19, u3), (23, u4), (24, u5), (25, u6), (26, u7), (31, u8)] = rb_ov μ [(20, u0), (21, u1), (22, u2), (19, u3), (23, u4), (24, u5), (25, u6), (26, u7), (31, u8)] := fun u0 u1 u2 u3 u4 u5 u6 u7 u8 => rfl
  refine rb_cti (w := [(20, a), (21, rd), (22, ag), (19, mf), (23, na), (24, nb), (25, nl), (26, sv), (31, wa)]) rfl pn_7 (Nat.le_of_ble_eq_true rfl) rfl hini ?_
  obtain ⟨t1, e2, h⟩ := rb_bd h
  refine ev_aload_n (v := 19) (pc := 0) dX7_read_0 rfl ?_
  refine ev_iload_n (v := x0) (pc := 1) dX7_read_1 rfl ?_
  refine ev_iload_n (v := x1) (pc := 2) dX7_read_2 rfl ?_
  refine ev_iconst (v := 1) (pc := 3) dX7_read_3 ki_1 ?_
  refine ev_cVi3w (w' := [(20, t1.2.1), (21, t1.2.2.1), (22, t1.2.2.2.1), (19, t1.2.2.2.2.1), (23, t1.2.2.2.2.2.1), (24, t1.2.2.2.2.2.2.1), (25, t1.2.2.2.2.2.2.2.1), (26, t1.2.2.2.2.2.2.2.2.1), (31, t1.2.2.2.2.2.2.2.2.2)]) (pc := 4) dX7_read_4 mv_X7_goRead lk_RX7_244 rp_19 (ct_X7_goRead _ _ _ _ _ _ _ _ _ _ _ _ _ _ rfl rfl rfl rfl rfl rfl rfl rfl rfl e2) (Nat.le_of_ble_eq_true rfl) (Nat.le_of_ble_eq_true rfl) rfl ?_
  obtain rfl := Option.some.inj h
  exact ev_iret (pc := 7) dX7_read_7 rfl rfl rfl (hfin _ _ _ _ _ _ _ _ _)
def XX7_arm (a : rb_Row) (mf : rb_Row) (wa : rb_Row) (x0 : Int32) (x1 : Int32) (x2 : Int32) : Option (Int32 × rb_Row × rb_Row × rb_Row) := (XX7_names a x0 3).bind fun t1 => if t1 = 0 then some ((rb_nz 0), a, mf, wa) else (XX7_isIn x1 0 1000).bind fun t4 => if t4 = 0 then some ((rb_nz 0), a, mf, wa) else (XX7_isIn x2 0 1000).bind fun t7 => if t7 = 0 then some ((rb_nz 0), a, mf, wa) else (XX7_keepAct mf wa a).bind fun t10 => (rb_rd a 796 x0).bind fun v12 => (XX7_objectAt v12 1).bind fun t14 => (rb_wr a 796 t14 0).bind fun a16 => (XX7_objectAt v12 2).bind fun t18 => ((if x1 = 0 then some (-1) else (rb_rd a16 796 794).bind fun v24 => some (v24 + x1)) : Option (Int32)).bind fun j20 => (rb_wr a16 796 t18 j20).bind fun a26 => (XX7_objectAt v12 3).bind fun t28 => if x1 = 0 then (rb_wr a26 796 t28 0).bind fun a31 => some ((rb_nz 1), a31, t10.1, t10.2) else (rb_wr a26 796 t28 x2).bind fun a33 => some ((rb_nz 1), a33, t10.1, t10.2)
set_option maxHeartbeats 4000000 in
set_option maxRecDepth 20000 in
theorem ct_X7_arm (μ : rb_Mem) (a : rb_Row) (mf : rb_Row) (wa : rb_Row) (x0 : Int32) (x1 : Int32) (x2 : Int32) (o : Int32 × rb_Row × rb_Row × rb_Row) (ha : μ 20 = a) (hmf : μ 19 = mf) (hwa : μ 31 = wa) (h : XX7_arm a mf wa x0 x1 x2 = some o) : rb_Ct yX7_arm cX7_arm 5 (some .boolean) 4 [.inr 19, .inl x0, .inl x1, .inl x2] μ (some o.1) (rb_ov μ [(20, o.2.1), (19, o.2.2.1), (31, o.2.2.2)]) := by
  unfold XX7_arm at h
  have hini : rb_ov μ [(20, a), (19, mf), (31, wa)] = μ := rb_ov_sf _ _ (And.intro ha (And.intro hmf (And.intro hwa True.intro)))
  have hfin : ∀ u0 u1 u2 : rb_Row, rb_ov μ [(20, u0), (19, u1), (31, u2)] = rb_ov μ [(20, u0), (19, u1), (31, u2)] := fun u0 u1 u2 => rfl
  refine rb_ctz (w := [(20, a), (19, mf), (31, wa)]) rfl pn_7 (Nat.le_of_ble_eq_true rfl) rfl hini ?_
  obtain ⟨t1, e2, h⟩ := rb_bd h
  refine ev_aload_n (v := 19) (pc := 0) dX7_arm_0 rfl ?_
  refine ev_iload_n (v := x0) (pc := 1) dX7_arm_1 rfl ?_
  refine ev_iconst (v := 3) (pc := 2) dX7_arm_2 ki_3 ?_
  refine ev_cVi2 (pc := 3) dX7_arm_3 mv_X7_names lk_RX7_110 rp_19 (ct_X7_names _ _ _ _ _ rfl e2) (Nat.le_of_ble_eq_true rfl) (Nat.le_of_ble_eq_true rfl) ?_
  by_cases b3 : t1 = 0
  · rw [if_pos b3] at h
    refine ev_if_eq_t (t := 31) (pc := 6) dX7_arm_6 (by decide) b3 ?_
    refine ev_iconst (v := 0) (pc := 31) dX7_arm_31 ki_0 ?_
    obtain rfl := Option.some.inj h
    exact ev_iret (pc := 32) dX7_arm_32 rfl rfl rfl (hfin _ _ _)
  · rw [if_neg b3] at h
    refine ev_if_eq_f (t := 31) (pc := 6) dX7_arm_6 (by decide) b3 ?_
    obtain ⟨t4, e5, h⟩ := rb_bd h
    refine ev_iload_n (v := x1) (pc := 9) dX7_arm_9 rfl ?_
    refine ev_iconst (v := 0) (pc := 10) dX7_arm_10 ki_0 ?_
    refine ev_sipush (v := 1000) (pc := 11) dX7_arm_11 ks_1000 ?_
    refine ev_cSi3 (pc := 14) dX7_arm_14 ms_X7_isIn lk_RX7_69 (ct_X7_isIn _ _ _ _ _ e5) (Nat.le_of_ble_eq_true rfl) (Nat.le_of_ble_eq_true rfl) ?_
    by_cases b6 : t4 = 0
    · rw [if_pos b6] at h
      refine ev_if_eq_t (t := 31) (pc := 17) dX7_arm_17 (by decide) b6 ?_
      refine ev_iconst (v := 0) (pc := 31) dX7_arm_31 ki_0 ?_
      obtain rfl := Option.some.inj h
      exact ev_iret (pc := 32) dX7_arm_32 rfl rfl rfl (hfin _ _ _)
    · rw [if_neg b6] at h
      refine ev_if_eq_f (t := 31) (pc := 17) dX7_arm_17 (by decide) b6 ?_
      obtain ⟨t7, e8, h⟩ := rb_bd h
      refine ev_iload_n (v := x2) (pc := 20) dX7_arm_20 rfl ?_
      refine ev_iconst (v := 0) (pc := 21) dX7_arm_21 ki_0 ?_
      refine ev_sipush (v := 1000) (pc := 22) dX7_arm_22 ks_1000 ?_
      refine ev_cSi3 (pc := 25) dX7_arm_25 ms_X7_isIn lk_RX7_69 (ct_X7_isIn _ _ _ _ _ e8) (Nat.le_of_ble_eq_true rfl) (Nat.le_of_ble_eq_true rfl) ?_
      by_cases b9 : t7 = 0
      · rw [if_pos b9] at h
        refine ev_if_ne_f (t := 33) (pc := 28) dX7_arm_28 (by decide) b9 ?_
        refine ev_iconst (v := 0) (pc := 31) dX7_arm_31 ki_0 ?_
        obtain rfl := Option.some.inj h
        exact ev_iret (pc := 32) dX7_arm_32 rfl rfl rfl (hfin _ _ _)
      · rw [if_neg b9] at h
        refine ev_if_ne_t (t := 33) (pc := 28) dX7_arm_28 (by decide) b9 ?_
        obtain ⟨t10, e11, h⟩ := rb_bd h
        obtain ⟨v12, e13, h⟩ := rb_bd h
        obtain ⟨t14, e15, h⟩ := rb_bd h
        obtain ⟨a16, e17, h⟩ := rb_bd h
        obtain ⟨t18, e19, h⟩ := rb_bd h
        refine ev_aload_n (v := 19) (pc := 33) dX7_arm_33 rfl ?_
        refine ev_cVv0w (w' := [(20, a), (19, t10.1), (31, t10.2)]) (pc := 34) dX7_arm_34 mv_X7_keepAct lk_RX7_101 rp_19 (ct_X7_keepAct _ _ _ _ _ rfl rfl rfl e11) (Nat.le_of_ble_eq_true rfl) (Nat.le_of_ble_eq_true rfl) rfl ?_
        refine ev_aload_n (v := 19) (pc := 37) dX7_arm_37 rfl ?_
        refine ev_getr (q := 20) (pc := 38) dX7_arm_38 fl_RX7_7 rfl rfl ?_
        refine ev_iload_n (v := x0) (pc := 41) dX7_arm_41 rfl ?_
        refine ev_iald (pc := 42) dX7_arm_42 rfl e13 ?_
        refine ev_istore (L' := [some (.inr 19), some (.inl x0), some (.inl x1), some (.inl x2), some (.inl v12)]) (pc := 43) dX7_arm_43 (Nat.le_of_ble_eq_true rfl) rfl ?_
        refine ev_aload_n (v := 19) (pc := 45) dX7_arm_45 rfl ?_
        refine ev_getr (q := 20) (pc := 46) dX7_arm_46 fl_RX7_7 rfl rfl ?_
        refine ev_iload (v := v12) (pc := 49) dX7_arm_49 rfl ?_
        refine ev_iconst (v := 1) (pc := 51) dX7_arm_51 ki_1 ?_
        refine ev_cSi2 (pc := 52) dX7_arm_52 ms_X7_objectAt lk_RX7_53 (ct_X7_objectAt _ _ _ _ e15) (Nat.le_of_ble_eq_true rfl) (Nat.le_of_ble_eq_true rfl) ?_
        refine ev_iconst (v := 0) (pc := 55) dX7_arm_55 ki_0 ?_
        refine ev_iast (w' := [(20, a16), (19, t10.1), (31, t10.2)]) (pc := 56) dX7_arm_56 rfl e17 rfl ?_
        refine ev_aload_n (v := 19) (pc := 57) dX7_arm_57 rfl ?_
        refine ev_getr (q := 20) (pc := 58) dX7_arm_58 fl_RX7_7 rfl rfl ?_
        refine ev_iload (v := v12) (pc := 61) dX7_arm_61 rfl ?_
        refine ev_iconst (v := 2) (pc := 63) dX7_arm_63 ki_2 ?_
        refine ev_cSi2 (pc := 64) dX7_arm_64 ms_X7_objectAt lk_RX7_53 (ct_X7_objectAt _ _ _ _ e19) (Nat.le_of_ble_eq_true rfl) (Nat.le_of_ble_eq_true rfl) ?_
        refine ev_iload_n (v := x1) (pc := 67) dX7_arm_67 rfl ?_
        obtain ⟨j20, e21, h⟩ := rb_bd h
        have hj22 : rb_Ev RX7 cX7_arm 5 (some .boolean) none 4 (some o.1) (rb_ov μ [(20, o.2.1), (19, o.2.2.1), (31, o.2.2.2)]) 85 [some (.inr 19), none, some (.inl x1), some (.inl x2), some (.inl v12)] [.inl j20, .inl t18, .inr 20] (rb_ov μ [(20, a16), (19, t10.1), (31, t10.2)]) := by
          obtain ⟨a26, e27, h⟩ := rb_bd h
          obtain ⟨t28, e29, h⟩ := rb_bd h
          refine ev_iast (w' := [(20, a26), (19, t10.1), (31, t10.2)]) (pc := 85) dX7_arm_85 rfl e27 rfl ?_
          refine ev_aload_n (v := 19) (pc := 86) dX7_arm_86 rfl ?_
          refine ev_getr (q := 20) (pc := 87) dX7_arm_87 fl_RX7_7 rfl rfl ?_
          refine ev_iload (v := v12) (pc := 90) dX7_arm_90 rfl ?_
          refine ev_iconst (v := 3) (pc := 92) dX7_arm_92 ki_3 ?_
          refine ev_cSi2 (pc := 93) dX7_arm_93 ms_X7_objectAt lk_RX7_53 (ct_X7_objectAt _ _ _ _ e29) (Nat.le_of_ble_eq_true rfl) (Nat.le_of_ble_eq_true rfl) ?_
          refine ev_iload_n (v := x1) (pc := 96) dX7_arm_96 rfl ?_
          by_cases b30 : x1 = 0
          · rw [if_pos b30] at h
            refine ev_if_ne_f (t := 104) (pc := 97) dX7_arm_97 (by decide) b30 ?_
            obtain ⟨a31, e32, h⟩ := rb_bd h
            refine ev_iconst (v := 0) (pc := 100) dX7_arm_100 ki_0 ?_
            refine ev_goto (t := 105) (pc := 101) dX7_arm_101 (by decide) ?_
            refine ev_iast (w' := [(20, a31), (19, t10.1), (31, t10.2)]) (pc := 105) dX7_arm_105 rfl e32 rfl ?_
            refine ev_iconst (v := 1) (pc := 106) dX7_arm_106 ki_1 ?_
            obtain rfl := Option.some.inj h
            exact ev_iret (pc := 107) dX7_arm_107 rfl rfl rfl (hfin _ _ _)
          · rw [if_neg b30] at h
            refine ev_if_ne_t (t := 104) (pc := 97) dX7_arm_97 (by decide) b30 ?_
            obtain ⟨a33, e34, h⟩ := rb_bd h
            refine ev_iload_n (v := x2) (pc := 104) dX7_arm_104 rfl ?_
            refine ev_iast (w' := [(20, a33), (19, t10.1), (31, t10.2)]) (pc := 105) dX7_arm_105 rfl e34 rfl ?_
            refine ev_iconst (v := 1) (pc := 106) dX7_arm_106 ki_1 ?_
            obtain rfl := Option.some.inj h
            exact ev_iret (pc := 107) dX7_arm_107 rfl rfl rfl (hfin _ _ _)
        replace h := e21
        by_cases b23 : x1 = 0
        · rw [if_pos b23] at h
          refine ev_if_ne_f (t := 75) (pc := 68) dX7_arm_68 (by decide) b23 ?_
          refine ev_iconst (v := (-1)) (pc := 71) dX7_arm_71 ki_m1 ?_
          refine ev_goto (t := 85) (pc := 72) dX7_arm_72 (by decide) ?_
          obtain rfl := Option.some.inj h
          exact ev_fg (L := [some (.inr 19), none, some (.inl x1), some (.inl x2), some (.inl v12)]) (And.intro rfl (And.intro rfl (And.intro rfl (And.intro rfl True.intro)))) (hj22)
        · rw [if_neg b23] at h
          refine ev_if_ne_t (t := 75) (pc := 68) dX7_arm_68 (by decide) b23 ?_
          obtain ⟨v24, e25, h⟩ := rb_bd h
          refine ev_aload_n (v := 19) (pc := 75) dX7_arm_75 rfl ?_
          refine ev_getr (q := 20) (pc := 76) dX7_arm_76 fl_RX7_7 rfl rfl ?_
          refine ev_sipush (v := 794) (pc := 79) dX7_arm_79 ks_794 ?_
          refine ev_iald (pc := 82) dX7_arm_82 rfl e25 ?_
          refine ev_iload_n (v := x1) (pc := 83) dX7_arm_83 rfl ?_
          refine ev_iadd (pc := 84) dX7_arm_84 ?_
          obtain rfl := Option.some.inj h
          exact ev_fg (L := [some (.inr 19), none, some (.inl x1), some (.inl x2), some (.inl v12)]) (And.intro rfl (And.intro rfl (And.intro rfl (And.intro rfl True.intro)))) (hj22)
def XX7_fire (a : rb_Row) (rd : rb_Row) (ag : rb_Row) (mf : rb_Row) (na : rb_Row) (nb : rb_Row) (nl : rb_Row) (sv : rb_Row) (x0 : Int32) : Option (rb_Row × rb_Row × rb_Row × rb_Row × rb_Row × rb_Row × rb_Row × rb_Row) := (XX7_ofObject a x0 1).bind fun t1 => ((if 1000 ≤ t1 then some a else (XX7_objectAt x0 1).bind fun t7 => (rb_rd a 796 t7).bind fun v9 => (rb_wr a 796 t7 (v9 + 1)).bind fun a11 => some a11) : Option (rb_Row)).bind fun j3 => (XX7_objectAt x0 2).bind fun t13 => (XX7_ofObject j3 x0 3).bind fun t15 => ((if t15 = 0 then some (-1) else (rb_rd j3 796 794).bind fun v21 => (XX7_ofObject j3 x0 3).bind fun t23 => some (v21 + t23)) : Option (Int32)).bind fun j17 => (rb_wr j3 796 t13 j17).bind fun a25 => (XX7_notice a25 rd ag mf na nb nl sv x0 1).bind fun t27 => some (t27.1, t27.2.1, t27.2.2.1, t27.2.2.2.1, t27.2.2.2.2.1, t27.2.2.2.2.2.1, t27.2.2.2.2.2.2.1, t27.2.2.2.2.2.2.2)
set_option maxHeartbeats 4000000 in
set_option maxRecDepth 20000 in
theorem ct_X7_fire (μ : rb_Mem) (a : rb_Row) (rd : rb_Row) (ag : rb_Row) (mf : rb_Row) (na : rb_Row) (nb : rb_Row) (nl : rb_Row) (sv : rb_Row) (x0 : Int32) (o : rb_Row × rb_Row × rb_Row × rb_Row × rb_Row × rb_Row × rb_Row × rb_Row) (ha : μ 20 = a) (hrd : μ 21 = rd) (hag : μ 22 = ag) (hmf : μ 19 = mf) (hna : μ 23 = na) (hnb : μ 24 = nb) (hnl : μ 25 = nl) (hsv : μ 26 = sv) (h : XX7_fire a rd ag mf na nb nl sv x0 = some o) : rb_Ct yX7_fire cX7_fire 2 none 10 [.inr 19, .inl x0] μ none (rb_ov μ [(20, o.1), (21, o.2.1), (22, o.2.2.1), (19, o.2.2.2.1), (23, o.2.2.2.2.1), (24, o.2.2.2.2.2.1), (25, o.2.2.2.2.2.2.1), (26, o.2.2.2.2.2.2.2)]) := by
  unfold XX7_fire at h
  have hini : rb_ov μ [(20, a), (21, rd), (22, ag), (19, mf), (23, na), (24, nb), (25, nl), (26, sv)] = μ := rb_ov_sf _ _ (And.intro ha (And.intro hrd (And.intro hag (And.intro hmf (And.intro hna (And.intro hnb (And.intro hnl (And.intro hsv True.intro))))))))
  have hfin : ∀ u0 u1 u2 u3 u4 u5 u6 u7 : rb_Row, rb_ov μ [(20, u0), (21, u1), (22, u2), (19, u3), (23, u4), (24, u5), (25, u6), (26, u7)] = rb_ov μ [(20, u0), (21, u1), (22, u2), (19, u3), (23, u4), (24, u5), (25, u6), (26, u7)] := fun u0 u1 u2 u3 u4 u5 u6 u7 => rfl
  refine rb_ctv (w := [(20, a), (21, rd), (22, ag), (19, mf), (23, na), (24, nb), (25, nl), (26, sv)]) rfl pn_7 (Nat.le_of_ble_eq_true rfl) rfl hini ?_
  obtain ⟨t1, e2, h⟩ := rb_bd h
  refine ev_aload_n (v := 19) (pc := 0) dX7_fire_0 rfl ?_
  refine ev_iload_n (v := x0) (pc := 1) dX7_fire_1 rfl ?_
  refine ev_iconst (v := 1) (pc := 2) dX7_fire_2 ki_1 ?_
  refine ev_cVi2 (pc := 3) dX7_fire_3 mv_X7_ofObject lk_RX7_66 rp_19 (ct_X7_ofObject _ _ _ _ _ rfl e2) (Nat.le_of_ble_eq_true rfl) (Nat.le_of_ble_eq_true rfl) ?_
  refine ev_sipush (v := 1000) (pc := 6) dX7_fire_6 ks_1000 ?_
  obtain ⟨j3, e4, h⟩ := rb_bd h
  have hj5 : rb_Ev RX7 cX7_fire 2 none none 10 none (rb_ov μ [(20, o.1), (21, o.2.1), (22, o.2.2.1), (19, o.2.2.2.1), (23, o.2.2.2.2.1), (24, o.2.2.2.2.2.1), (25, o.2.2.2.2.2.2.1), (26, o.2.2.2.2.2.2.2)]) 26 [some (.inr 19), some (.inl x0)] [] (rb_ov μ [(20, j3), (21, rd), (22, ag), (19, mf), (23, na), (24, nb), (25, nl), (26, sv)]) := by
    obtain ⟨t13, e14, h⟩ := rb_bd h
    obtain ⟨t15, e16, h⟩ := rb_bd h
    refine ev_aload_n (v := 19) (pc := 26) dX7_fire_26 rfl ?_
    refine ev_getr (q := 20) (pc := 27) dX7_fire_27 fl_RX7_7 rfl rfl ?_
    refine ev_iload_n (v := x0) (pc := 30) dX7_fire_30 rfl ?_
    refine ev_iconst (v := 2) (pc := 31) dX7_fire_31 ki_2 ?_
    refine ev_cSi2 (pc := 32) dX7_fire_32 ms_X7_objectAt lk_RX7_53 (ct_X7_objectAt _ _ _ _ e14) (Nat.le_of_ble_eq_true rfl) (Nat.le_of_ble_eq_true rfl) ?_
    refine ev_aload_n (v := 19) (pc := 35) dX7_fire_35 rfl ?_
    refine ev_iload_n (v := x0) (pc := 36) dX7_fire_36 rfl ?_
    refine ev_iconst (v := 3) (pc := 37) dX7_fire_37 ki_3 ?_
    refine ev_cVi2 (pc := 38) dX7_fire_38 mv_X7_ofObject lk_RX7_66 rp_19 (ct_X7_ofObject _ _ _ _ _ rfl e16) (Nat.le_of_ble_eq_true rfl) (Nat.le_of_ble_eq_true rfl) ?_
    obtain ⟨j17, e18, h⟩ := rb_bd h
    have hj19 : rb_Ev RX7 cX7_fire 2 none none 10 none (rb_ov μ [(20, o.1), (21, o.2.1), (22, o.2.2.1), (19, o.2.2.2.1), (23, o.2.2.2.2.1), (24, o.2.2.2.2.2.1), (25, o.2.2.2.2.2.2.1), (26, o.2.2.2.2.2.2.2)]) 63 [some (.inr 19), some (.inl x0)] [.inl j17, .inl t13, .inr 20] (rb_ov μ [(20, j3), (21, rd), (22, ag), (19, mf), (23, na), (24, nb), (25, nl), (26, sv)]) := by
      obtain ⟨a25, e26, h⟩ := rb_bd h
      obtain ⟨t27, e28, h⟩ := rb_bd h
      refine ev_iast (w' := [(20, a25), (21, rd), (22, ag), (19, mf), (23, na), (24, nb), (25, nl), (26, sv)]) (pc := 63) dX7_fire_63 rfl e26 rfl ?_
      refine ev_aload_n (v := 19) (pc := 64) dX7_fire_64 rfl ?_
      refine ev_iload_n (v := x0) (pc := 65) dX7_fire_65 rfl ?_
      refine ev_iconst (v := 1) (pc := 66) dX7_fire_66 ki_1 ?_
      refine ev_cVv2w (w' := [(20, t27.1), (21, t27.2.1), (22, t27.2.2.1), (19, t27.2.2.2.1), (23, t27.2.2.2.2.1), (24, t27.2.2.2.2.2.1), (25, t27.2.2.2.2.2.2.1), (26, t27.2.2.2.2.2.2.2)]) (pc := 67) dX7_fire_67 mv_X7_notice lk_RX7_120 rp_19 (ct_X7_notice _ _ _ _ _ _ _ _ _ _ _ _ rfl rfl rfl rfl rfl rfl rfl rfl e28) (Nat.le_of_ble_eq_true rfl) (Nat.le_of_ble_eq_true rfl) rfl ?_
      obtain rfl := Option.some.inj h
      exact ev_ret (pc := 70) dX7_fire_70 rfl rfl (hfin _ _ _ _ _ _ _ _)
    replace h := e18
    by_cases b20 : t15 = 0
    · rw [if_pos b20] at h
      refine ev_if_ne_f (t := 48) (pc := 41) dX7_fire_41 (by decide) b20 ?_
      refine ev_iconst (v := (-1)) (pc := 44) dX7_fire_44 ki_m1 ?_
      refine ev_goto (t := 63) (pc := 45) dX7_fire_45 (by decide) ?_
      obtain rfl := Option.some.inj h
      exact hj19
    · rw [if_neg b20] at h
      refine ev_if_ne_t (t := 48) (pc := 41) dX7_fire_41 (by decide) b20 ?_
      obtain ⟨v21, e22, h⟩ := rb_bd h
      obtain ⟨t23, e24, h⟩ := rb_bd h
      refine ev_aload_n (v := 19) (pc := 48) dX7_fire_48 rfl ?_
      refine ev_getr (q := 20) (pc := 49) dX7_fire_49 fl_RX7_7 rfl rfl ?_
      refine ev_sipush (v := 794) (pc := 52) dX7_fire_52 ks_794 ?_
      refine ev_iald (pc := 55) dX7_fire_55 rfl e22 ?_
      refine ev_aload_n (v := 19) (pc := 56) dX7_fire_56 rfl ?_
      refine ev_iload_n (v := x0) (pc := 57) dX7_fire_57 rfl ?_
      refine ev_iconst (v := 3) (pc := 58) dX7_fire_58 ki_3 ?_
      refine ev_cVi2 (pc := 59) dX7_fire_59 mv_X7_ofObject lk_RX7_66 rp_19 (ct_X7_ofObject _ _ _ _ _ rfl e24) (Nat.le_of_ble_eq_true rfl) (Nat.le_of_ble_eq_true rfl) ?_
      refine ev_iadd (pc := 62) dX7_fire_62 ?_
      obtain rfl := Option.some.inj h
      exact hj19
  replace h := e4
  by_cases b6 : 1000 ≤ t1
  · rw [if_pos b6] at h
    refine ev_icmp_ge_t (t := 26) (pc := 9) dX7_fire_9 (by decide) b6 ?_
    obtain rfl := Option.some.inj h
    exact hj5
  · rw [if_neg b6] at h
    refine ev_icmp_ge_f (t := 26) (pc := 9) dX7_fire_9 (by decide) b6 ?_
    obtain ⟨t7, e8, h⟩ := rb_bd h
    obtain ⟨v9, e10, h⟩ := rb_bd h
    obtain ⟨a11, e12, h⟩ := rb_bd h
    refine ev_aload_n (v := 19) (pc := 12) dX7_fire_12 rfl ?_
    refine ev_getr (q := 20) (pc := 13) dX7_fire_13 fl_RX7_7 rfl rfl ?_
    refine ev_iload_n (v := x0) (pc := 16) dX7_fire_16 rfl ?_
    refine ev_iconst (v := 1) (pc := 17) dX7_fire_17 ki_1 ?_
    refine ev_cSi2 (pc := 18) dX7_fire_18 ms_X7_objectAt lk_RX7_53 (ct_X7_objectAt _ _ _ _ e8) (Nat.le_of_ble_eq_true rfl) (Nat.le_of_ble_eq_true rfl) ?_
    refine ev_dup2 (pc := 21) dX7_fire_21 ?_
    refine ev_iald (pc := 22) dX7_fire_22 rfl e10 ?_
    refine ev_iconst (v := 1) (pc := 23) dX7_fire_23 ki_1 ?_
    refine ev_iadd (pc := 24) dX7_fire_24 ?_
    refine ev_iast (w' := [(20, a11), (21, rd), (22, ag), (19, mf), (23, na), (24, nb), (25, nl), (26, sv)]) (pc := 25) dX7_fire_25 rfl e12 rfl ?_
    obtain rfl := Option.some.inj h
    exact hj5
def XX7_tickOnce (a : rb_Row) (rd : rb_Row) (ag : rb_Row) (mf : rb_Row) (na : rb_Row) (nb : rb_Row) (nl : rb_Row) (sv : rb_Row) : Option (rb_Row × rb_Row × rb_Row × rb_Row × rb_Row × rb_Row × rb_Row × rb_Row) := (rb_rd a 796 794).bind fun v1 => (rb_wr a 796 794 (v1 + 1)).bind fun a3 => (rb_lp (ρ := rb_Row × rb_Row × rb_Row × rb_Row × rb_Row × rb_Row × rb_Row × rb_Row) (fun (s5 : Int32 × rb_Row × rb_Row × rb_Row × rb_Row × rb_Row × rb_Row × rb_Row × rb_Row) => if 16 ≤ s5.1 then some (.inr (s5.2.1, s5.2.2.1, s5.2.2.2.1, s5.2.2.2.2.1, s5.2.2.2.2.2.1, s5.2.2.2.2.2.2.1, s5.2.2.2.2.2.2.2.1, s5.2.2.2.2.2.2.2.2)) else (XX7_names s5.2.1 s5.1 3).bind fun t14 => ((if t14 = 0 then some (s5.2.1, s5.2.2.1, s5.2.2.2.1, s5.2.2.2.2.1, s5.2.2.2.2.2.1, s5.2.2.2.2.2.2.1, s5.2.2.2.2.2.2.2.1, s5.2.2.2.2.2.2.2.2) else (rb_rd s5.2.1 796 s5.1).bind fun v20 => (XX7_lowestOf s5.2.1 v20).bind fun t22 => if t22 = s5.1 then (rb_rd s5.2.1 796 s5.1).bind fun v25 => (XX7_ofObject s5.2.1 v25 2).bind fun t27 => (rb_rd s5.2.1 796 794).bind fun v29 => if t27 = v29 then (rb_rd s5.2.1 796 s5.1).bind fun v32 => (XX7_fire s5.2.1 s5.2.2.1 s5.2.2.2.1 s5.2.2.2.2.1 s5.2.2.2.2.2.1 s5.2.2.2.2.2.2.1 s5.2.2.2.2.2.2.2.1 s5.2.2.2.2.2.2.2.2 v32).bind fun t34 => some (t34.1, t34.2.1, t34.2.2.1, t34.2.2.2.1, t34.2.2.2.2.1, t34.2.2.2.2.2.1, t34.2.2.2.2.2.2.1, t34.2.2.2.2.2.2.2) else some (s5.2.1, s5.2.2.1, s5.2.2.2.1, s5.2.2.2.2.1, s5.2.2.2.2.2.1, s5.2.2.2.2.2.2.1, s5.2.2.2.2.2.2.2.1, s5.2.2.2.2.2.2.2.2) else some (s5.2.1, s5.2.2.1, s5.2.2.2.1, s5.2.2.2.2.1, s5.2.2.2.2.2.1, s5.2.2.2.2.2.2.1, s5.2.2.2.2.2.2.2.1, s5.2.2.2.2.2.2.2.2)) : Option (rb_Row × rb_Row × rb_Row × rb_Row × rb_Row × rb_Row × rb_Row × rb_Row)).bind fun j16 => some (.inl ((s5.1 + 1), j16.1, j16.2.1, j16.2.2.1, j16.2.2.2.1, j16.2.2.2.2.1, j16.2.2.2.2.2.1, j16.2.2.2.2.2.2.1, j16.2.2.2.2.2.2.2))) 100000 (0, a3, rd, ag, mf, na, nb, nl, sv)).bind fun q6 => (rb_lp (ρ := rb_Row) (fun (s36 : Int32 × rb_Row) => if 6 ≤ s36.1 then some (.inr s36.2) else (XX7_isAsleep s36.2 s36.1).bind fun t45 => ((if t45 = 0 then some s36.2 else (XX7_ofTask s36.2 s36.1 3).bind fun t51 => (rb_rd s36.2 796 794).bind fun v53 => if t51 = v53 then (XX7_gotNothing s36.2 s36.1).bind fun t56 => some t56 else some s36.2) : Option (rb_Row)).bind fun j47 => some (.inl ((s36.1 + 1), j47))) 100000 (0, q6.1)).bind fun q37 => some (q37, q6.2.1, q6.2.2.1, q6.2.2.2.1, q6.2.2.2.2.1, q6.2.2.2.2.2.1, q6.2.2.2.2.2.2.1, q6.2.2.2.2.2.2.2)
set_option maxHeartbeats 4000000 in
set_option maxRecDepth 20000 in
theorem ct_X7_tickOnce (μ : rb_Mem) (a : rb_Row) (rd : rb_Row) (ag : rb_Row) (mf : rb_Row) (na : rb_Row) (nb : rb_Row) (nl : rb_Row) (sv : rb_Row) (o : rb_Row × rb_Row × rb_Row × rb_Row × rb_Row × rb_Row × rb_Row × rb_Row) (ha : μ 20 = a) (hrd : μ 21 = rd) (hag : μ 22 = ag) (hmf : μ 19 = mf) (hna : μ 23 = na) (hnb : μ 24 = nb) (hnl : μ 25 = nl) (hsv : μ 26 = sv) (h : XX7_tickOnce a rd ag mf na nb nl sv = some o) : rb_Ct yX7_tickOnce cX7_tickOnce 2 none 11 [.inr 19] μ none (rb_ov μ [(20, o.1), (21, o.2.1), (22, o.2.2.1), (19, o.2.2.2.1), (23, o.2.2.2.2.1), (24, o.2.2.2.2.2.1), (25, o.2.2.2.2.2.2.1), (26, o.2.2.2.2.2.2.2)]) := by
  unfold XX7_tickOnce at h
  have hini : rb_ov μ [(20, a), (21, rd), (22, ag), (19, mf), (23, na), (24, nb), (25, nl), (26, sv)] = μ := rb_ov_sf _ _ (And.intro ha (And.intro hrd (And.intro hag (And.intro hmf (And.intro hna (And.intro hnb (And.intro hnl (And.intro hsv True.intro))))))))
  have hfin : ∀ u0 u1 u2 u3 u4 u5 u6 u7 : rb_Row, rb_ov μ [(20, u0), (21, u1), (22, u2), (19, u3), (23, u4), (24, u5), (25, u6), (26, u7)] = rb_ov μ [(20, u0), (21, u1), (22, u2), (19, u3), (23, u4), (24, u5), (25, u6), (26, u7)] := fun u0 u1 u2 u3 u4 u5 u6 u7 => rfl
  refine rb_ctv (w := [(20, a), (21, rd), (22, ag), (19, mf), (23, na), (24, nb), (25, nl), (26, sv)]) rfl pn_7 (Nat.le_of_ble_eq_true rfl) rfl hini ?_
  obtain ⟨v1, e2, h⟩ := rb_bd h
  obtain ⟨a3, e4, h⟩ := rb_bd h
  refine ev_aload_n (v := 19) (pc := 0) dX7_tickOnce_0 rfl ?_
  refine ev_getr (q := 20) (pc := 1) dX7_tickOnce_1 fl_RX7_7 rfl rfl ?_
  refine ev_sipush (v := 794) (pc := 4) dX7_tickOnce_4 ks_794 ?_
  refine ev_dup2 (pc := 7) dX7_tickOnce_7 ?_
  refine ev_iald (pc := 8) dX7_tickOnce_8 rfl e2 ?_
  refine ev_iconst (v := 1) (pc := 9) dX7_tickOnce_9 ki_1 ?_
  refine ev_iadd (pc := 10) dX7_tickOnce_10 ?_
  refine ev_iast (w' := [(20, a3), (21, rd), (22, ag), (19, mf), (23, na), (24, nb), (25, nl), (26, sv)]) (pc := 11) dX7_tickOnce_11 rfl e4 rfl ?_
  refine ev_iconst (v := 0) (pc := 12) dX7_tickOnce_12 ki_0 ?_
  refine ev_istore_n (L' := [some (.inr 19), some (.inl 0)]) (pc := 13) dX7_tickOnce_13 (Nat.le_of_ble_eq_true rfl) rfl ?_
  obtain ⟨q6, l7, h⟩ := rb_bd h
  have hx11 : rb_Ev RX7 cX7_tickOnce 2 none none 11 none (rb_ov μ [(20, o.1), (21, o.2.1), (22, o.2.2.1), (19, o.2.2.2.1), (23, o.2.2.2.2.1), (24, o.2.2.2.2.2.1), (25, o.2.2.2.2.2.2.1), (26, o.2.2.2.2.2.2.2)]) 81 [some (.inr 19), none] [] (rb_ov μ [(20, q6.1), (21, q6.2.1), (22, q6.2.2.1), (19, q6.2.2.2.1), (23, q6.2.2.2.2.1), (24, q6.2.2.2.2.2.1), (25, q6.2.2.2.2.2.2.1), (26, q6.2.2.2.2.2.2.2)]) := by
    refine ev_iconst (v := 0) (pc := 81) dX7_tickOnce_81 ki_0 ?_
    refine ev_istore_n (L' := [some (.inr 19), some (.inl 0)]) (pc := 82) dX7_tickOnce_82 (Nat.le_of_ble_eq_true rfl) rfl ?_
    obtain ⟨q37, l38, h⟩ := rb_bd h
    have hx42 : rb_Ev RX7 cX7_tickOnce 2 none none 11 none (rb_ov μ [(20, o.1), (21, o.2.1), (22, o.2.2.1), (19, o.2.2.2.1), (23, o.2.2.2.2.1), (24, o.2.2.2.2.2.1), (25, o.2.2.2.2.2.2.1), (26, o.2.2.2.2.2.2.2)]) 125 [none, none] [] (rb_ov μ [(20, q37), (21, q6.2.1), (22, q6.2.2.1), (19, q6.2.2.2.1), (23, q6.2.2.2.2.1), (24, q6.2.2.2.2.2.1), (25, q6.2.2.2.2.2.2.1), (26, q6.2.2.2.2.2.2.2)]) := by
      obtain rfl := Option.some.inj h
      exact ev_ret (pc := 125) dX7_tickOnce_125 rfl rfl (hfin _ _ _ _ _ _ _ _)
    refine rb_lp_ev (P := fun (s36 : Int32 × rb_Row) => rb_Ev RX7 cX7_tickOnce 2 none none 11 none (rb_ov μ [(20, o.1), (21, o.2.1), (22, o.2.2.1), (19, o.2.2.2.1), (23, o.2.2.2.2.1), (24, o.2.2.2.2.2.1), (25, o.2.2.2.2.2.2.1), (26, o.2.2.2.2.2.2.2)]) 83 [some (.inr 19), some (.inl s36.1)] [] (rb_ov μ [(20, s36.2), (21, q6.2.1), (22, q6.2.2.1), (19, q6.2.2.2.1), (23, q6.2.2.2.2.1), (24, q6.2.2.2.2.2.1), (25, q6.2.2.2.2.2.2.1), (26, q6.2.2.2.2.2.2.2)])) ?_ 100000 (0, q6.1) l38
    intro s36 y39 h ih40 hE41
    refine ev_iload_n (v := s36.1) (pc := 83) dX7_tickOnce_83 rfl ?_
    refine ev_bipush (v := 6) (pc := 84) dX7_tickOnce_84 kb_6 ?_
    by_cases b44 : 6 ≤ s36.1
    · rw [if_pos b44] at h
      refine ev_icmp_ge_t (t := 125) (pc := 86) dX7_tickOnce_86 (by decide) b44 ?_
      obtain rfl := Option.some.inj h
      obtain rfl := hE41 _ rfl
      exact ev_fg (L := [none, none]) True.intro (hx42)
    · rw [if_neg b44] at h
      refine ev_icmp_ge_f (t := 125) (pc := 86) dX7_tickOnce_86 (by decide) b44 ?_
      obtain ⟨t45, e46, h⟩ := rb_bd h
      refine ev_aload_n (v := 19) (pc := 89) dX7_tickOnce_89 rfl ?_
      refine ev_iload_n (v := s36.1) (pc := 90) dX7_tickOnce_90 rfl ?_
      refine ev_cVi1 (pc := 91) dX7_tickOnce_91 mv_X7_isAsleep lk_RX7_250 rp_19 (ct_X7_isAsleep _ _ _ _ rfl e46) (Nat.le_of_ble_eq_true rfl) (Nat.le_of_ble_eq_true rfl) ?_
      obtain ⟨j47, e48, h⟩ := rb_bd h
      have hj49 : rb_Ev RX7 cX7_tickOnce 2 none none 11 none (rb_ov μ [(20, o.1), (21, o.2.1), (22, o.2.2.1), (19, o.2.2.2.1), (23, o.2.2.2.2.1), (24, o.2.2.2.2.2.1), (25, o.2.2.2.2.2.2.1), (26, o.2.2.2.2.2.2.2)]) 119 [some (.inr 19), some (.inl s36.1)] [] (rb_ov μ [(20, j47), (21, q6.2.1), (22, q6.2.2.1), (19, q6.2.2.2.1), (23, q6.2.2.2.2.1), (24, q6.2.2.2.2.2.1), (25, q6.2.2.2.2.2.2.1), (26, q6.2.2.2.2.2.2.2)]) := by
        refine ev_iinc (x := s36.1) (v := (s36.1 + 1)) (L' := [some (.inr 19), some (.inl (s36.1 + 1))]) (pc := 119) dX7_tickOnce_119 rfl (kx_1 _) (Nat.le_of_ble_eq_true rfl) rfl ?_
        refine ev_goto (t := 83) (pc := 122) dX7_tickOnce_122 (by decide) ?_
        obtain rfl := Option.some.inj h
        exact ih40 ((s36.1 + 1), j47) rfl
      replace h := e48
      by_cases b50 : t45 = 0
      · rw [if_pos b50] at h
        refine ev_if_eq_t (t := 119) (pc := 94) dX7_tickOnce_94 (by decide) b50 ?_
        obtain rfl := Option.some.inj h
        exact hj49
      · rw [if_neg b50] at h
        refine ev_if_eq_f (t := 119) (pc := 94) dX7_tickOnce_94 (by decide) b50 ?_
        obtain ⟨t51, e52, h⟩ := rb_bd h
        obtain ⟨v53, e54, h⟩ := rb_bd h
        refine ev_aload_n (v := 19) (pc := 97) dX7_tickOnce_97 rfl ?_
        refine ev_iload_n (v := s36.1) (pc := 98) dX7_tickOnce_98 rfl ?_
        refine ev_iconst (v := 3) (pc := 99) dX7_tickOnce_99 ki_3 ?_
        refine ev_cVi2 (pc := 100) dX7_tickOnce_100 mv_X7_ofTask lk_RX7_84 rp_19 (ct_X7_ofTask _ _ _ _ _ rfl e52) (Nat.le_of_ble_eq_true rfl) (Nat.le_of_ble_eq_true rfl) ?_
        refine ev_aload_n (v := 19) (pc := 103) dX7_tickOnce_103 rfl ?_
        refine ev_getr (q := 20) (pc := 104) dX7_tickOnce_104 fl_RX7_7 rfl rfl ?_
        refine ev_sipush (v := 794) (pc := 107) dX7_tickOnce_107 ks_794 ?_
        refine ev_iald (pc := 110) dX7_tickOnce_110 rfl e54 ?_
        by_cases b55 : t51 = v53
        · rw [if_pos b55] at h
          refine ev_icmp_ne_f (t := 119) (pc := 111) dX7_tickOnce_111 (by decide) b55 ?_
          obtain ⟨t56, e57, h⟩ := rb_bd h
          refine ev_aload_n (v := 19) (pc := 114) dX7_tickOnce_114 rfl ?_
          refine ev_iload_n (v := s36.1) (pc := 115) dX7_tickOnce_115 rfl ?_
          refine ev_cVv1w (w' := [(20, t56), (21, q6.2.1), (22, q6.2.2.1), (19, q6.2.2.2.1), (23, q6.2.2.2.2.1), (24, q6.2.2.2.2.2.1), (25, q6.2.2.2.2.2.2.1), (26, q6.2.2.2.2.2.2.2)]) (pc := 116) dX7_tickOnce_116 mv_X7_gotNothing lk_RX7_214 rp_19 (ct_X7_gotNothing _ _ _ _ rfl e57) (Nat.le_of_ble_eq_true rfl) (Nat.le_of_ble_eq_true rfl) rfl ?_
          obtain rfl := Option.some.inj h
          exact hj49
        · rw [if_neg b55] at h
          refine ev_icmp_ne_t (t := 119) (pc := 111) dX7_tickOnce_111 (by decide) b55 ?_
          obtain rfl := Option.some.inj h
          exact hj49
  refine rb_lp_ev (P := fun (s5 : Int32 × rb_Row × rb_Row × rb_Row × rb_Row × rb_Row × rb_Row × rb_Row × rb_Row) => rb_Ev RX7 cX7_tickOnce 2 none none 11 none (rb_ov μ [(20, o.1), (21, o.2.1), (22, o.2.2.1), (19, o.2.2.2.1), (23, o.2.2.2.2.1), (24, o.2.2.2.2.2.1), (25, o.2.2.2.2.2.2.1), (26, o.2.2.2.2.2.2.2)]) 14 [some (.inr 19), some (.inl s5.1)] [] (rb_ov μ [(20, s5.2.1), (21, s5.2.2.1), (22, s5.2.2.2.1), (19, s5.2.2.2.2.1), (23, s5.2.2.2.2.2.1), (24, s5.2.2.2.2.2.2.1), (25, s5.2.2.2.2.2.2.2.1), (26, s5.2.2.2.2.2.2.2.2)])) ?_ 100000 (0, a3, rd, ag, mf, na, nb, nl, sv) l7
  intro s5 y8 h ih9 hE10
  refine ev_iload_n (v := s5.1) (pc := 14) dX7_tickOnce_14 rfl ?_
  refine ev_bipush (v := 16) (pc := 15) dX7_tickOnce_15 kb_16 ?_
  by_cases b13 : 16 ≤ s5.1
  · rw [if_pos b13] at h
    refine ev_icmp_ge_t (t := 81) (pc := 17) dX7_tickOnce_17 (by decide) b13 ?_
    obtain rfl := Option.some.inj h
    obtain rfl := hE10 _ rfl
    exact ev_fg (L := [some (.inr 19), none]) (And.intro rfl True.intro) (hx11)
  · rw [if_neg b13] at h
    refine ev_icmp_ge_f (t := 81) (pc := 17) dX7_tickOnce_17 (by decide) b13 ?_
    obtain ⟨t14, e15, h⟩ := rb_bd h
    refine ev_aload_n (v := 19) (pc := 20) dX7_tickOnce_20 rfl ?_
    refine ev_iload_n (v := s5.1) (pc := 21) dX7_tickOnce_21 rfl ?_
    refine ev_iconst (v := 3) (pc := 22) dX7_tickOnce_22 ki_3 ?_
    refine ev_cVi2 (pc := 23) dX7_tickOnce_23 mv_X7_names lk_RX7_110 rp_19 (ct_X7_names _ _ _ _ _ rfl e15) (Nat.le_of_ble_eq_true rfl) (Nat.le_of_ble_eq_true rfl) ?_
    obtain ⟨j16, e17, h⟩ := rb_bd h
    have hj18 : rb_Ev RX7 cX7_tickOnce 2 none none 11 none (rb_ov μ [(20, o.1), (21, o.2.1), (22, o.2.2.1), (19, o.2.2.2.1), (23, o.2.2.2.2.1), (24, o.2.2.2.2.2.1), (25, o.2.2.2.2.2.2.1), (26, o.2.2.2.2.2.2.2)]) 75 [some (.inr 19), some (.inl s5.1)] [] (rb_ov μ [(20, j16.1), (21, j16.2.1), (22, j16.2.2.1), (19, j16.2.2.2.1), (23, j16.2.2.2.2.1), (24, j16.2.2.2.2.2.1), (25, j16.2.2.2.2.2.2.1), (26, j16.2.2.2.2.2.2.2)]) := by
      refine ev_iinc (x := s5.1) (v := (s5.1 + 1)) (L' := [some (.inr 19), some (.inl (s5.1 + 1))]) (pc := 75) dX7_tickOnce_75 rfl (kx_1 _) (Nat.le_of_ble_eq_true rfl) rfl ?_
      refine ev_goto (t := 14) (pc := 78) dX7_tickOnce_78 (by decide) ?_
      obtain rfl := Option.some.inj h
      exact ih9 ((s5.1 + 1), j16.1, j16.2.1, j16.2.2.1, j16.2.2.2.1, j16.2.2.2.2.1, j16.2.2.2.2.2.1, j16.2.2.2.2.2.2.1, j16.2.2.2.2.2.2.2) rfl
    replace h := e17
    by_cases b19 : t14 = 0
    · rw [if_pos b19] at h
      refine ev_if_eq_t (t := 75) (pc := 26) dX7_tickOnce_26 (by decide) b19 ?_
      obtain rfl := Option.some.inj h
      exact hj18
    · rw [if_neg b19] at h
      refine ev_if_eq_f (t := 75) (pc := 26) dX7_tickOnce_26 (by decide) b19 ?_
      obtain ⟨v20, e21, h⟩ := rb_bd h
      obtain ⟨t22, e23, h⟩ := rb_bd h
      refine ev_aload_n (v := 19) (pc := 29) dX7_tickOnce_29 rfl ?_
      refine ev_aload_n (v := 19) (pc := 30) dX7_tickOnce_30 rfl ?_
      refine ev_getr (q := 20) (pc := 31) dX7_tickOnce_31 fl_RX7_7 rfl rfl ?_
      refine ev_iload_n (v := s5.1) (pc := 34) dX7_tickOnce_34 rfl ?_
      refine ev_iald (pc := 35) dX7_tickOnce_35 rfl e21 ?_
      refine ev_cVi1 (pc := 36) dX7_tickOnce_36 mv_X7_lowestOf lk_RX7_199 rp_19 (ct_X7_lowestOf _ _ _ _ rfl e23) (Nat.le_of_ble_eq_true rfl) (Nat.le_of_ble_eq_true rfl) ?_
      refine ev_iload_n (v := s5.1) (pc := 39) dX7_tickOnce_39 rfl ?_
      by_cases b24 : t22 = s5.1
      · rw [if_pos b24] at h
        refine ev_icmp_ne_f (t := 75) (pc := 40) dX7_tickOnce_40 (by decide) b24 ?_
        obtain ⟨v25, e26, h⟩ := rb_bd h
        obtain ⟨t27, e28, h⟩ := rb_bd h
        obtain ⟨v29, e30, h⟩ := rb_bd h
        refine ev_aload_n (v := 19) (pc := 43) dX7_tickOnce_43 rfl ?_
        refine ev_aload_n (v := 19) (pc := 44) dX7_tickOnce_44 rfl ?_
        refine ev_getr (q := 20) (pc := 45) dX7_tickOnce_45 fl_RX7_7 rfl rfl ?_
        refine ev_iload_n (v := s5.1) (pc := 48) dX7_tickOnce_48 rfl ?_
        refine ev_iald (pc := 49) dX7_tickOnce_49 rfl e26 ?_
        refine ev_iconst (v := 2) (pc := 50) dX7_tickOnce_50 ki_2 ?_
        refine ev_cVi2 (pc := 51) dX7_tickOnce_51 mv_X7_ofObject lk_RX7_66 rp_19 (ct_X7_ofObject _ _ _ _ _ rfl e28) (Nat.le_of_ble_eq_true rfl) (Nat.le_of_ble_eq_true rfl) ?_
        refine ev_aload_n (v := 19) (pc := 54) dX7_tickOnce_54 rfl ?_
        refine ev_getr (q := 20) (pc := 55) dX7_tickOnce_55 fl_RX7_7 rfl rfl ?_
        refine ev_sipush (v := 794) (pc := 58) dX7_tickOnce_58 ks_794 ?_
        refine ev_iald (pc := 61) dX7_tickOnce_61 rfl e30 ?_
        by_cases b31 : t27 = v29
        · rw [if_pos b31] at h
          refine ev_icmp_ne_f (t := 75) (pc := 62) dX7_tickOnce_62 (by decide) b31 ?_
          obtain ⟨v32, e33, h⟩ := rb_bd h
          obtain ⟨t34, e35, h⟩ := rb_bd h
          refine ev_aload_n (v := 19) (pc := 65) dX7_tickOnce_65 rfl ?_
          refine ev_aload_n (v := 19) (pc := 66) dX7_tickOnce_66 rfl ?_
          refine ev_getr (q := 20) (pc := 67) dX7_tickOnce_67 fl_RX7_7 rfl rfl ?_
          refine ev_iload_n (v := s5.1) (pc := 70) dX7_tickOnce_70 rfl ?_
          refine ev_iald (pc := 71) dX7_tickOnce_71 rfl e33 ?_
          refine ev_cVv1w (w' := [(20, t34.1), (21, t34.2.1), (22, t34.2.2.1), (19, t34.2.2.2.1), (23, t34.2.2.2.2.1), (24, t34.2.2.2.2.2.1), (25, t34.2.2.2.2.2.2.1), (26, t34.2.2.2.2.2.2.2)]) (pc := 72) dX7_tickOnce_72 mv_X7_fire lk_RX7_247 rp_19 (ct_X7_fire _ _ _ _ _ _ _ _ _ _ _ rfl rfl rfl rfl rfl rfl rfl rfl e35) (Nat.le_of_ble_eq_true rfl) (Nat.le_of_ble_eq_true rfl) rfl ?_
          obtain rfl := Option.some.inj h
          exact hj18
        · rw [if_neg b31] at h
          refine ev_icmp_ne_t (t := 75) (pc := 62) dX7_tickOnce_62 (by decide) b31 ?_
          obtain rfl := Option.some.inj h
          exact hj18
      · rw [if_neg b24] at h
        refine ev_icmp_ne_t (t := 75) (pc := 40) dX7_tickOnce_40 (by decide) b24 ?_
        obtain rfl := Option.some.inj h
        exact hj18
def XX7_tick (a : rb_Row) (rd : rb_Row) (ag : rb_Row) (mf : rb_Row) (na : rb_Row) (nb : rb_Row) (nl : rb_Row) (sv : rb_Row) (wa : rb_Row) (x0 : Int32) : Option (Int32 × rb_Row × rb_Row × rb_Row × rb_Row × rb_Row × rb_Row × rb_Row × rb_Row × rb_Row) := (XX7_isIn x0 1 100).bind fun t1 => if t1 = 0 then some ((-1), a, rd, ag, mf, na, nb, nl, sv, wa) else (rb_rd a 796 794).bind fun v4 => if (v4 + x0) ≤ 100000 then (XX7_keepAct mf wa a).bind fun t7 => (rb_lp (ρ := rb_Row × rb_Row × rb_Row × rb_Row × rb_Row × rb_Row × rb_Row × rb_Row) (fun (s9 : Int32 × rb_Row × rb_Row × rb_Row × rb_Row × rb_Row × rb_Row × rb_Row × rb_Row) => if x0 ≤ s9.1 then some (.inr (s9.2.1, s9.2.2.1, s9.2.2.2.1, s9.2.2.2.2.1, s9.2.2.2.2.2.1, s9.2.2.2.2.2.2.1, s9.2.2.2.2.2.2.2.1, s9.2.2.2.2.2.2.2.2)) else (XX7_tickOnce s9.2.1 s9.2.2.1 s9.2.2.2.1 s9.2.2.2.2.1 s9.2.2.2.2.2.1 s9.2.2.2.2.2.2.1 s9.2.2.2.2.2.2.2.1 s9.2.2.2.2.2.2.2.2).bind fun t18 => some (.inl ((s9.1 + 1), t18.1, t18.2.1, t18.2.2.1, t18.2.2.2.1, t18.2.2.2.2.1, t18.2.2.2.2.2.1, t18.2.2.2.2.2.2.1, t18.2.2.2.2.2.2.2))) 100000 (0, a, rd, ag, t7.1, na, nb, nl, sv)).bind fun q10 => (rb_rd q10.1 796 794).bind fun v20 => some (v20, q10.1, q10.2.1, q10.2.2.1, q10.2.2.2.1, q10.2.2.2.2.1, q10.2.2.2.2.2.1, q10.2.2.2.2.2.2.1, q10.2.2.2.2.2.2.2, t7.2) else some ((-1), a, rd, ag, mf, na, nb, nl, sv, wa)
set_option maxHeartbeats 4000000 in
set_option maxRecDepth 20000 in
theorem ct_X7_tick (μ : rb_Mem) (a : rb_Row) (rd : rb_Row) (ag : rb_Row) (mf : rb_Row) (na : rb_Row) (nb : rb_Row) (nl : rb_Row) (sv : rb_Row) (wa : rb_Row) (x0 : Int32) (o : Int32 × rb_Row × rb_Row × rb_Row × rb_Row × rb_Row × rb_Row × rb_Row × rb_Row × rb_Row) (ha : μ 20 = a) (hrd : μ 21 = rd) (hag : μ 22 = ag) (hmf : μ 19 = mf) (hna : μ 23 = na) (hnb : μ 24 = nb) (hnl : μ 25 = nl) (hsv : μ 26 = sv) (hwa : μ 31 = wa) (h : XX7_tick a rd ag mf na nb nl sv wa x0 = some o) : rb_Ct yX7_tick cX7_tick 3 (some .int) 12 [.inr 19, .inl x0] μ (some o.1) (rb_ov μ [(20, o.2.1), (21, o.2.2.1), (22, o.2.2.2.1), (19, o.2.2.2.2.1), (23, o.2.2.2.2.2.1), (24, o.2.2.2.2.2.2.1), (25, o.2.2.2.2.2.2.2.1), (26, o.2.2.2.2.2.2.2.2.1), (31, o.2.2.2.2.2.2.2.2.2)]) := by
  unfold XX7_tick at h
  have hini : rb_ov μ [(20, a), (21, rd), (22, ag), (19, mf), (23, na), (24, nb), (25, nl), (26, sv), (31, wa)] = μ := rb_ov_sf _ _ (And.intro ha (And.intro hrd (And.intro hag (And.intro hmf (And.intro hna (And.intro hnb (And.intro hnl (And.intro hsv (And.intro hwa True.intro)))))))))
  have hfin : ∀ u0 u1 u2 u3 u4 u5 u6 u7 u8 : rb_Row, rb_ov μ [(20, u0), (21, u1), (22, u2), (19, u3), (23, u4), (24, u5), (25, u6), (26, u7), (31, u8)] = rb_ov μ [(20, u0), (21, u1), (22, u2), (19, u3), (23, u4), (24, u5), (25, u6), (26, u7), (31, u8)] := fun u0 u1 u2 u3 u4 u5 u6 u7 u8 => rfl
  refine rb_cti (w := [(20, a), (21, rd), (22, ag), (19, mf), (23, na), (24, nb), (25, nl), (26, sv), (31, wa)]) rfl pn_7 (Nat.le_of_ble_eq_true rfl) rfl hini ?_
  obtain ⟨t1, e2, h⟩ := rb_bd h
  refine ev_iload_n (v := x0) (pc := 0) dX7_tick_0 rfl ?_
  refine ev_iconst (v := 1) (pc := 1) dX7_tick_1 ki_1 ?_
  refine ev_bipush (v := 100) (pc := 2) dX7_tick_2 kb_100 ?_
  refine ev_cSi3 (pc := 4) dX7_tick_4 ms_X7_isIn lk_RX7_69 (ct_X7_isIn _ _ _ _ _ e2) (Nat.le_of_ble_eq_true rfl) (Nat.le_of_ble_eq_true rfl) ?_
  by_cases b3 : t1 = 0
  · rw [if_pos b3] at h
    refine ev_if_eq_t (t := 25) (pc := 7) dX7_tick_7 (by decide) b3 ?_
    refine ev_iconst (v := (-1)) (pc := 25) dX7_tick_25 ki_m1 ?_
    obtain rfl := Option.some.inj h
    exact ev_iret (pc := 26) dX7_tick_26 rfl rfl rfl (hfin _ _ _ _ _ _ _ _ _)
  · rw [if_neg b3] at h
    refine ev_if_eq_f (t := 25) (pc := 7) dX7_tick_7 (by decide) b3 ?_
    obtain ⟨v4, e5, h⟩ := rb_bd h
    refine ev_aload_n (v := 19) (pc := 10) dX7_tick_10 rfl ?_
    refine ev_getr (q := 20) (pc := 11) dX7_tick_11 fl_RX7_7 rfl rfl ?_
    refine ev_sipush (v := 794) (pc := 14) dX7_tick_14 ks_794 ?_
    refine ev_iald (pc := 17) dX7_tick_17 rfl e5 ?_
    refine ev_iload_n (v := x0) (pc := 18) dX7_tick_18 rfl ?_
    refine ev_iadd (pc := 19) dX7_tick_19 ?_
    refine ev_ldc (v := 100000) (pc := 20) dX7_tick_20 kc_RX7_253 ?_
    by_cases b6 : (v4 + x0) ≤ 100000
    · rw [if_pos b6] at h
      refine ev_icmp_le_t (t := 27) (pc := 22) dX7_tick_22 (by decide) b6 ?_
      obtain ⟨t7, e8, h⟩ := rb_bd h
      refine ev_aload_n (v := 19) (pc := 27) dX7_tick_27 rfl ?_
      refine ev_cVv0w (w' := [(20, a), (21, rd), (22, ag), (19, t7.1), (23, na), (24, nb), (25, nl), (26, sv), (31, t7.2)]) (pc := 28) dX7_tick_28 mv_X7_keepAct lk_RX7_101 rp_19 (ct_X7_keepAct _ _ _ _ _ rfl rfl rfl e8) (Nat.le_of_ble_eq_true rfl) (Nat.le_of_ble_eq_true rfl) rfl ?_
      refine ev_iconst (v := 0) (pc := 31) dX7_tick_31 ki_0 ?_
      refine ev_istore_n (L' := [some (.inr 19), some (.inl x0), some (.inl 0)]) (pc := 32) dX7_tick_32 (Nat.le_of_ble_eq_true rfl) rfl ?_
      obtain ⟨q10, l11, h⟩ := rb_bd h
      have hx15 : rb_Ev RX7 cX7_tick 3 (some .int) none 12 (some o.1) (rb_ov μ [(20, o.2.1), (21, o.2.2.1), (22, o.2.2.2.1), (19, o.2.2.2.2.1), (23, o.2.2.2.2.2.1), (24, o.2.2.2.2.2.2.1), (25, o.2.2.2.2.2.2.2.1), (26, o.2.2.2.2.2.2.2.2.1), (31, o.2.2.2.2.2.2.2.2.2)]) 48 [some (.inr 19), none, none] [] (rb_ov μ [(20, q10.1), (21, q10.2.1), (22, q10.2.2.1), (19, q10.2.2.2.1), (23, q10.2.2.2.2.1), (24, q10.2.2.2.2.2.1), (25, q10.2.2.2.2.2.2.1), (26, q10.2.2.2.2.2.2.2), (31, t7.2)]) := by
        obtain ⟨v20, e21, h⟩ := rb_bd h
        refine ev_aload_n (v := 19) (pc := 48) dX7_tick_48 rfl ?_
        refine ev_getr (q := 20) (pc := 49) dX7_tick_49 fl_RX7_7 rfl rfl ?_
        refine ev_sipush (v := 794) (pc := 52) dX7_tick_52 ks_794 ?_
        refine ev_iald (pc := 55) dX7_tick_55 rfl e21 ?_
        obtain rfl := Option.some.inj h
        exact ev_iret (pc := 56) dX7_tick_56 rfl rfl rfl (hfin _ _ _ _ _ _ _ _ _)
      refine rb_lp_ev (P := fun (s9 : Int32 × rb_Row × rb_Row × rb_Row × rb_Row × rb_Row × rb_Row × rb_Row × rb_Row) => rb_Ev RX7 cX7_tick 3 (some .int) none 12 (some o.1) (rb_ov μ [(20, o.2.1), (21, o.2.2.1), (22, o.2.2.2.1), (19, o.2.2.2.2.1), (23, o.2.2.2.2.2.1), (24, o.2.2.2.2.2.2.1), (25, o.2.2.2.2.2.2.2.1), (26, o.2.2.2.2.2.2.2.2.1), (31, o.2.2.2.2.2.2.2.2.2)]) 33 [some (.inr 19), some (.inl x0), some (.inl s9.1)] [] (rb_ov μ [(20, s9.2.1), (21, s9.2.2.1), (22, s9.2.2.2.1), (19, s9.2.2.2.2.1), (23, s9.2.2.2.2.2.1), (24, s9.2.2.2.2.2.2.1), (25, s9.2.2.2.2.2.2.2.1), (26, s9.2.2.2.2.2.2.2.2), (31, t7.2)])) ?_ 100000 (0, a, rd, ag, t7.1, na, nb, nl, sv) l11
      intro s9 y12 h ih13 hE14
      refine ev_iload_n (v := s9.1) (pc := 33) dX7_tick_33 rfl ?_
      refine ev_iload_n (v := x0) (pc := 34) dX7_tick_34 rfl ?_
      by_cases b17 : x0 ≤ s9.1
      · rw [if_pos b17] at h
        refine ev_icmp_ge_t (t := 48) (pc := 35) dX7_tick_35 (by decide) b17 ?_
        obtain rfl := Option.some.inj h
        obtain rfl := hE14 _ rfl
        exact ev_fg (L := [some (.inr 19), none, none]) (And.intro rfl True.intro) (hx15)
      · rw [if_neg b17] at h
        refine ev_icmp_ge_f (t := 48) (pc := 35) dX7_tick_35 (by decide) b17 ?_
        obtain ⟨t18, e19, h⟩ := rb_bd h
        refine ev_aload_n (v := 19) (pc := 38) dX7_tick_38 rfl ?_
        refine ev_cVv0w (w' := [(20, t18.1), (21, t18.2.1), (22, t18.2.2.1), (19, t18.2.2.2.1), (23, t18.2.2.2.2.1), (24, t18.2.2.2.2.2.1), (25, t18.2.2.2.2.2.2.1), (26, t18.2.2.2.2.2.2.2), (31, t7.2)]) (pc := 39) dX7_tick_39 mv_X7_tickOnce lk_RX7_254 rp_19 (ct_X7_tickOnce _ _ _ _ _ _ _ _ _ _ rfl rfl rfl rfl rfl rfl rfl rfl e19) (Nat.le_of_ble_eq_true rfl) (Nat.le_of_ble_eq_true rfl) rfl ?_
        refine ev_iinc (x := s9.1) (v := (s9.1 + 1)) (L' := [some (.inr 19), some (.inl x0), some (.inl (s9.1 + 1))]) (pc := 42) dX7_tick_42 rfl (kx_1 _) (Nat.le_of_ble_eq_true rfl) rfl ?_
        refine ev_goto (t := 33) (pc := 45) dX7_tick_45 (by decide) ?_
        obtain rfl := Option.some.inj h
        exact ih13 ((s9.1 + 1), t18.1, t18.2.1, t18.2.2.1, t18.2.2.2.1, t18.2.2.2.2.1, t18.2.2.2.2.2.1, t18.2.2.2.2.2.2.1, t18.2.2.2.2.2.2.2) rfl
    · rw [if_neg b6] at h
      refine ev_icmp_le_f (t := 27) (pc := 22) dX7_tick_22 (by decide) b6 ?_
      refine ev_iconst (v := (-1)) (pc := 25) dX7_tick_25 ki_m1 ?_
      obtain rfl := Option.some.inj h
      exact ev_iret (pc := 26) dX7_tick_26 rfl rfl rfl (hfin _ _ _ _ _ _ _ _ _)
def XX7_interestsNow (a : rb_Row) : Option (Int32) := (rb_lp (ρ := Int32) (fun (s1 : Int32 × Int32) => if 24 ≤ s1.2 then some (.inr s1.1) else (XX7_isInterest a s1.2).bind fun t10 => ((if t10 = 0 then some 0 else some 1) : Option (Int32)).bind fun j12 => some (.inl ((s1.1 + j12), (s1.2 + 1)))) 100000 (0, 0)).bind fun q2 => some q2
set_option maxHeartbeats 4000000 in
set_option maxRecDepth 20000 in
theorem ct_X7_interestsNow (μ : rb_Mem) (a : rb_Row) (o : Int32) (ha : μ 20 = a) (h : XX7_interestsNow a = some o) : rb_Ct yX7_interestsNow cX7_interestsNow 3 (some .int) 3 [.inr 19] μ (some o) μ := by
  unfold XX7_interestsNow at h
  have hini : rb_ov μ [(20, a)] = μ := rb_ov_sf _ _ (And.intro ha True.intro)
  have hfin := hini
  refine rb_cti (w := [(20, a)]) rfl pn_7 (Nat.le_of_ble_eq_true rfl) rfl hini ?_
  refine ev_iconst (v := 0) (pc := 0) dX7_interestsNow_0 ki_0 ?_
  refine ev_istore_n (L' := [some (.inr 19), some (.inl 0), none]) (pc := 1) dX7_interestsNow_1 (Nat.le_of_ble_eq_true rfl) rfl ?_
  refine ev_iconst (v := 0) (pc := 2) dX7_interestsNow_2 ki_0 ?_
  refine ev_istore_n (L' := [some (.inr 19), some (.inl 0), some (.inl 0)]) (pc := 3) dX7_interestsNow_3 (Nat.le_of_ble_eq_true rfl) rfl ?_
  obtain ⟨q2, l3, h⟩ := rb_bd h
  have hx7 : rb_Ev RX7 cX7_interestsNow 3 (some .int) none 3 (some o) μ 32 [none, some (.inl q2), none] [] (rb_ov μ [(20, a)]) := by
    refine ev_iload_n (v := q2) (pc := 32) dX7_interestsNow_32 rfl ?_
    obtain rfl := Option.some.inj h
    exact ev_iret (pc := 33) dX7_interestsNow_33 rfl rfl rfl hfin
  refine rb_lp_ev (P := fun (s1 : Int32 × Int32) => rb_Ev RX7 cX7_interestsNow 3 (some .int) none 3 (some o) μ 4 [some (.inr 19), some (.inl s1.1), some (.inl s1.2)] [] (rb_ov μ [(20, a)])) ?_ 100000 (0, 0) l3
  intro s1 y4 h ih5 hE6
  refine ev_iload_n (v := s1.2) (pc := 4) dX7_interestsNow_4 rfl ?_
  refine ev_bipush (v := 24) (pc := 5) dX7_interestsNow_5 kb_24 ?_
  by_cases b9 : 24 ≤ s1.2
  · rw [if_pos b9] at h
    refine ev_icmp_ge_t (t := 32) (pc := 7) dX7_interestsNow_7 (by decide) b9 ?_
    obtain rfl := Option.some.inj h
    obtain rfl := hE6 _ rfl
    exact ev_fg (L := [none, some (.inl s1.1), none]) (And.intro rfl True.intro) (hx7)
  · rw [if_neg b9] at h
    refine ev_icmp_ge_f (t := 32) (pc := 7) dX7_interestsNow_7 (by decide) b9 ?_
    obtain ⟨t10, e11, h⟩ := rb_bd h
    refine ev_iload_n (v := s1.1) (pc := 10) dX7_interestsNow_10 rfl ?_
    refine ev_aload_n (v := 19) (pc := 11) dX7_interestsNow_11 rfl ?_
    refine ev_iload_n (v := s1.2) (pc := 12) dX7_interestsNow_12 rfl ?_
    refine ev_cVi1 (pc := 13) dX7_interestsNow_13 mv_X7_isInterest lk_RX7_149 rp_19 (ct_X7_isInterest _ _ _ _ rfl e11) (Nat.le_of_ble_eq_true rfl) (Nat.le_of_ble_eq_true rfl) ?_
    obtain ⟨j12, e13, h⟩ := rb_bd h
    have hj14 : rb_Ev RX7 cX7_interestsNow 3 (some .int) none 3 (some o) μ 24 [some (.inr 19), none, some (.inl s1.2)] [.inl j12, .inl s1.1] (rb_ov μ [(20, a)]) := by
      refine ev_iadd (pc := 24) dX7_interestsNow_24 ?_
      refine ev_istore_n (L' := [some (.inr 19), some (.inl (s1.1 + j12)), some (.inl s1.2)]) (pc := 25) dX7_interestsNow_25 (Nat.le_of_ble_eq_true rfl) rfl ?_
      refine ev_iinc (x := s1.2) (v := (s1.2 + 1)) (L' := [some (.inr 19), some (.inl (s1.1 + j12)), some (.inl (s1.2 + 1))]) (pc := 26) dX7_interestsNow_26 rfl (kx_1 _) (Nat.le_of_ble_eq_true rfl) rfl ?_
      refine ev_goto (t := 4) (pc := 29) dX7_interestsNow_29 (by decide) ?_
      obtain rfl := Option.some.inj h
      exact ih5 ((s1.1 + j12), (s1.2 + 1)) rfl
    replace h := e13
    by_cases b15 : t10 = 0
    · rw [if_pos b15] at h
      refine ev_if_eq_t (t := 23) (pc := 16) dX7_interestsNow_16 (by decide) b15 ?_
      refine ev_iconst (v := 0) (pc := 23) dX7_interestsNow_23 ki_0 ?_
      obtain rfl := Option.some.inj h
      exact ev_fg (L := [some (.inr 19), none, some (.inl s1.2)]) (And.intro rfl (And.intro rfl True.intro)) (hj14)
    · rw [if_neg b15] at h
      refine ev_if_eq_f (t := 23) (pc := 16) dX7_interestsNow_16 (by decide) b15 ?_
      refine ev_iconst (v := 1) (pc := 19) dX7_interestsNow_19 ki_1 ?_
      refine ev_goto (t := 24) (pc := 20) dX7_interestsNow_20 (by decide) ?_
      obtain rfl := Option.some.inj h
      exact ev_fg (L := [some (.inr 19), none, some (.inl s1.2)]) (And.intro rfl (And.intro rfl True.intro)) (hj14)
def XX7_heldBy (a : rb_Row) (x0 : Int32) : Option (Int32) := (rb_lp (ρ := Int32) (fun (s1 : Int32 × Int32) => if 24 ≤ s1.2 then some (.inr s1.1) else (XX7_ofInterest a s1.2 0).bind fun t10 => ((if t10 = x0 then some 1 else some 0) : Option (Int32)).bind fun j12 => some (.inl ((s1.1 + j12), (s1.2 + 1)))) 100000 (0, 0)).bind fun q2 => some q2
set_option maxHeartbeats 4000000 in
set_option maxRecDepth 20000 in
theorem ct_X7_heldBy (μ : rb_Mem) (a : rb_Row) (x0 : Int32) (o : Int32) (ha : μ 20 = a) (h : XX7_heldBy a x0 = some o) : rb_Ct yX7_heldBy cX7_heldBy 4 (some .int) 2 [.inr 19, .inl x0] μ (some o) μ := by
  unfold XX7_heldBy at h
  have hini : rb_ov μ [(20, a)] = μ := rb_ov_sf _ _ (And.intro ha True.intro)
  have hfin := hini
  refine rb_cti (w := [(20, a)]) rfl pn_7 (Nat.le_of_ble_eq_true rfl) rfl hini ?_
  refine ev_iconst (v := 0) (pc := 0) dX7_heldBy_0 ki_0 ?_
  refine ev_istore_n (L' := [some (.inr 19), some (.inl x0), some (.inl 0), none]) (pc := 1) dX7_heldBy_1 (Nat.le_of_ble_eq_true rfl) rfl ?_
  refine ev_iconst (v := 0) (pc := 2) dX7_heldBy_2 ki_0 ?_
  refine ev_istore_n (L' := [some (.inr 19), some (.inl x0), some (.inl 0), some (.inl 0)]) (pc := 3) dX7_heldBy_3 (Nat.le_of_ble_eq_true rfl) rfl ?_
  obtain ⟨q2, l3, h⟩ := rb_bd h
  have hx7 : rb_Ev RX7 cX7_heldBy 4 (some .int) none 2 (some o) μ 34 [none, none, some (.inl q2), none] [] (rb_ov μ [(20, a)]) := by
    refine ev_iload_n (v := q2) (pc := 34) dX7_heldBy_34 rfl ?_
    obtain rfl := Option.some.inj h
    exact ev_iret (pc := 35) dX7_heldBy_35 rfl rfl rfl hfin
  refine rb_lp_ev (P := fun (s1 : Int32 × Int32) => rb_Ev RX7 cX7_heldBy 4 (some .int) none 2 (some o) μ 4 [some (.inr 19), some (.inl x0), some (.inl s1.1), some (.inl s1.2)] [] (rb_ov μ [(20, a)])) ?_ 100000 (0, 0) l3
  intro s1 y4 h ih5 hE6
  refine ev_iload_n (v := s1.2) (pc := 4) dX7_heldBy_4 rfl ?_
  refine ev_bipush (v := 24) (pc := 5) dX7_heldBy_5 kb_24 ?_
  by_cases b9 : 24 ≤ s1.2
  · rw [if_pos b9] at h
    refine ev_icmp_ge_t (t := 34) (pc := 7) dX7_heldBy_7 (by decide) b9 ?_
    obtain rfl := Option.some.inj h
    obtain rfl := hE6 _ rfl
    exact ev_fg (L := [none, none, some (.inl s1.1), none]) (And.intro rfl True.intro) (hx7)
  · rw [if_neg b9] at h
    refine ev_icmp_ge_f (t := 34) (pc := 7) dX7_heldBy_7 (by decide) b9 ?_
    obtain ⟨t10, e11, h⟩ := rb_bd h
    refine ev_iload_n (v := s1.1) (pc := 10) dX7_heldBy_10 rfl ?_
    refine ev_aload_n (v := 19) (pc := 11) dX7_heldBy_11 rfl ?_
    refine ev_iload_n (v := s1.2) (pc := 12) dX7_heldBy_12 rfl ?_
    refine ev_iconst (v := 0) (pc := 13) dX7_heldBy_13 ki_0 ?_
    refine ev_cVi2 (pc := 14) dX7_heldBy_14 mv_X7_ofInterest lk_RX7_81 rp_19 (ct_X7_ofInterest _ _ _ _ _ rfl e11) (Nat.le_of_ble_eq_true rfl) (Nat.le_of_ble_eq_true rfl) ?_
    refine ev_iload_n (v := x0) (pc := 17) dX7_heldBy_17 rfl ?_
    obtain ⟨j12, e13, h⟩ := rb_bd h
    have hj14 : rb_Ev RX7 cX7_heldBy 4 (some .int) none 2 (some o) μ 26 [some (.inr 19), some (.inl x0), none, some (.inl s1.2)] [.inl j12, .inl s1.1] (rb_ov μ [(20, a)]) := by
      refine ev_iadd (pc := 26) dX7_heldBy_26 ?_
      refine ev_istore_n (L' := [some (.inr 19), some (.inl x0), some (.inl (s1.1 + j12)), some (.inl s1.2)]) (pc := 27) dX7_heldBy_27 (Nat.le_of_ble_eq_true rfl) rfl ?_
      refine ev_iinc (x := s1.2) (v := (s1.2 + 1)) (L' := [some (.inr 19), some (.inl x0), some (.inl (s1.1 + j12)), some (.inl (s1.2 + 1))]) (pc := 28) dX7_heldBy_28 rfl (kx_1 _) (Nat.le_of_ble_eq_true rfl) rfl ?_
      refine ev_goto (t := 4) (pc := 31) dX7_heldBy_31 (by decide) ?_
      obtain rfl := Option.some.inj h
      exact ih5 ((s1.1 + j12), (s1.2 + 1)) rfl
    replace h := e13
    by_cases b15 : t10 = x0
    · rw [if_pos b15] at h
      refine ev_icmp_ne_f (t := 25) (pc := 18) dX7_heldBy_18 (by decide) b15 ?_
      refine ev_iconst (v := 1) (pc := 21) dX7_heldBy_21 ki_1 ?_
      refine ev_goto (t := 26) (pc := 22) dX7_heldBy_22 (by decide) ?_
      obtain rfl := Option.some.inj h
      exact ev_fg (L := [some (.inr 19), some (.inl x0), none, some (.inl s1.2)]) (And.intro rfl (And.intro rfl (And.intro rfl True.intro))) (hj14)
    · rw [if_neg b15] at h
      refine ev_icmp_ne_t (t := 25) (pc := 18) dX7_heldBy_18 (by decide) b15 ?_
      refine ev_iconst (v := 0) (pc := 25) dX7_heldBy_25 ki_0 ?_
      obtain rfl := Option.some.inj h
      exact ev_fg (L := [some (.inr 19), some (.inl x0), none, some (.inl s1.2)]) (And.intro rfl (And.intro rfl (And.intro rfl True.intro))) (hj14)
def XX7_found (a : rb_Row) (x0 : Int32) (x1 : Int32) : Option (Int32) := (XX7_names a x0 4).bind fun t1 => if t1 = 0 then some (-1) else (XX7_isHandle a x1).bind fun t4 => if t4 = 0 then some (-1) else (rb_lp (ρ := (Unit) ⊕ (Int32)) (fun (s7 : Int32) => if 24 ≤ s7 then some (.inr (.inl ())) else (XX7_ofInterest a s7 0).bind fun t17 => (rb_rd a 796 x0).bind fun v19 => if t17 = v19 then (XX7_ofInterest a s7 2).bind fun t22 => if t22 = x1 then (XX7_ofInterest a s7 1).bind fun t25 => (rb_rd a 796 x1).bind fun v27 => if t25 = v27 then some (.inr (.inr s7)) else some (.inl (s7 + 1)) else some (.inl (s7 + 1)) else some (.inl (s7 + 1))) 100000 0).bind fun q8 => Sum.elim (fun (z15 : Unit) => some (-1)) (fun (w30 : Int32) => some w30) q8
set_option maxHeartbeats 4000000 in
set_option maxRecDepth 20000 in
theorem ct_X7_found (μ : rb_Mem) (a : rb_Row) (x0 : Int32) (x1 : Int32) (o : Int32) (ha : μ 20 = a) (h : XX7_found a x0 x1 = some o) : rb_Ct yX7_found cX7_found 4 (some .int) 4 [.inr 19, .inl x0, .inl x1] μ (some o) μ := by
  unfold XX7_found at h
  have hini : rb_ov μ [(20, a)] = μ := rb_ov_sf _ _ (And.intro ha True.intro)
  have hfin := hini
  refine rb_cti (w := [(20, a)]) rfl pn_7 (Nat.le_of_ble_eq_true rfl) rfl hini ?_
  obtain ⟨t1, e2, h⟩ := rb_bd h
  refine ev_aload_n (v := 19) (pc := 0) dX7_found_0 rfl ?_
  refine ev_iload_n (v := x0) (pc := 1) dX7_found_1 rfl ?_
  refine ev_iconst (v := 4) (pc := 2) dX7_found_2 ki_4 ?_
  refine ev_cVi2 (pc := 3) dX7_found_3 mv_X7_names lk_RX7_110 rp_19 (ct_X7_names _ _ _ _ _ rfl e2) (Nat.le_of_ble_eq_true rfl) (Nat.le_of_ble_eq_true rfl) ?_
  by_cases b3 : t1 = 0
  · rw [if_pos b3] at h
    refine ev_if_eq_t (t := 17) (pc := 6) dX7_found_6 (by decide) b3 ?_
    refine ev_iconst (v := (-1)) (pc := 17) dX7_found_17 ki_m1 ?_
    obtain rfl := Option.some.inj h
    exact ev_iret (pc := 18) dX7_found_18 rfl rfl rfl hfin
  · rw [if_neg b3] at h
    refine ev_if_eq_f (t := 17) (pc := 6) dX7_found_6 (by decide) b3 ?_
    obtain ⟨t4, e5, h⟩ := rb_bd h
    refine ev_aload_n (v := 19) (pc := 9) dX7_found_9 rfl ?_
    refine ev_iload_n (v := x1) (pc := 10) dX7_found_10 rfl ?_
    refine ev_cVi1 (pc := 11) dX7_found_11 mv_X7_isHandle lk_RX7_73 rp_19 (ct_X7_isHandle _ _ _ _ rfl e5) (Nat.le_of_ble_eq_true rfl) (Nat.le_of_ble_eq_true rfl) ?_
    by_cases b6 : t4 = 0
    · rw [if_pos b6] at h
      refine ev_if_ne_f (t := 19) (pc := 14) dX7_found_14 (by decide) b6 ?_
      refine ev_iconst (v := (-1)) (pc := 17) dX7_found_17 ki_m1 ?_
      obtain rfl := Option.some.inj h
      exact ev_iret (pc := 18) dX7_found_18 rfl rfl rfl hfin
    · rw [if_neg b6] at h
      refine ev_if_ne_t (t := 19) (pc := 14) dX7_found_14 (by decide) b6 ?_
      refine ev_iconst (v := 0) (pc := 19) dX7_found_19 ki_0 ?_
      refine ev_istore_n (L' := [some (.inr 19), some (.inl x0), some (.inl x1), some (.inl 0)]) (pc := 20) dX7_found_20 (Nat.le_of_ble_eq_true rfl) rfl ?_
      obtain ⟨q8, l9, h⟩ := rb_bd h
      have hx13 : ∀ z15 : Unit, q8 = .inl z15 → rb_Ev RX7 cX7_found 4 (some .int) none 4 (some o) μ 75 [none, none, none, none] [] (rb_ov μ [(20, a)]) := by
        intro z15 hz
        rw [hz] at h
        replace h := rb_sel h
        refine ev_iconst (v := (-1)) (pc := 75) dX7_found_75 ki_m1 ?_
        obtain rfl := Option.some.inj h
        exact ev_iret (pc := 76) dX7_found_76 rfl rfl rfl hfin
      have hr14 : ∀ w30 : Int32, q8 = .inr w30 → w30 = o := by
        intro w30 hz
        rw [hz] at h
        replace h := rb_ser h
        exact Option.some.inj h
      refine rb_lp_ev (P := fun (s7 : Int32) => rb_Ev RX7 cX7_found 4 (some .int) none 4 (some o) μ 21 [some (.inr 19), some (.inl x0), some (.inl x1), some (.inl s7)] [] (rb_ov μ [(20, a)])) ?_ 100000 0 l9
      intro s7 y10 h ih11 hE12
      refine ev_iload_n (v := s7) (pc := 21) dX7_found_21 rfl ?_
      refine ev_bipush (v := 24) (pc := 22) dX7_found_22 kb_24 ?_
      by_cases b16 : 24 ≤ s7
      · rw [if_pos b16] at h
        refine ev_icmp_ge_t (t := 75) (pc := 24) dX7_found_24 (by decide) b16 ?_
        obtain rfl := Option.some.inj h
        exact ev_fg (L := [none, none, none, none]) True.intro (hx13 () (hE12 _ rfl).symm)
      · rw [if_neg b16] at h
        refine ev_icmp_ge_f (t := 75) (pc := 24) dX7_found_24 (by decide) b16 ?_
        obtain ⟨t17, e18, h⟩ := rb_bd h
        obtain ⟨v19, e20, h⟩ := rb_bd h
        refine ev_aload_n (v := 19) (pc := 27) dX7_found_27 rfl ?_
        refine ev_iload_n (v := s7) (pc := 28) dX7_found_28 rfl ?_
        refine ev_iconst (v := 0) (pc := 29) dX7_found_29 ki_0 ?_
        refine ev_cVi2 (pc := 30) dX7_found_30 mv_X7_ofInterest lk_RX7_81 rp_19 (ct_X7_ofInterest _ _ _ _ _ rfl e18) (Nat.le_of_ble_eq_true rfl) (Nat.le_of_ble_eq_true rfl) ?_
        refine ev_aload_n (v := 19) (pc := 33) dX7_found_33 rfl ?_
        refine ev_getr (q := 20) (pc := 34) dX7_found_34 fl_RX7_7 rfl rfl ?_
        refine ev_iload_n (v := x0) (pc := 37) dX7_found_37 rfl ?_
        refine ev_iald (pc := 38) dX7_found_38 rfl e20 ?_
        by_cases b21 : t17 = v19
        · rw [if_pos b21] at h
          refine ev_icmp_ne_f (t := 69) (pc := 39) dX7_found_39 (by decide) b21 ?_
          obtain ⟨t22, e23, h⟩ := rb_bd h
          refine ev_aload_n (v := 19) (pc := 42) dX7_found_42 rfl ?_
          refine ev_iload_n (v := s7) (pc := 43) dX7_found_43 rfl ?_
          refine ev_iconst (v := 2) (pc := 44) dX7_found_44 ki_2 ?_
          refine ev_cVi2 (pc := 45) dX7_found_45 mv_X7_ofInterest lk_RX7_81 rp_19 (ct_X7_ofInterest _ _ _ _ _ rfl e23) (Nat.le_of_ble_eq_true rfl) (Nat.le_of_ble_eq_true rfl) ?_
          refine ev_iload_n (v := x1) (pc := 48) dX7_found_48 rfl ?_
          by_cases b24 : t22 = x1
          · rw [if_pos b24] at h
            refine ev_icmp_ne_f (t := 69) (pc := 49) dX7_found_49 (by decide) b24 ?_
            obtain ⟨t25, e26, h⟩ := rb_bd h
            obtain ⟨v27, e28, h⟩ := rb_bd h
            refine ev_aload_n (v := 19) (pc := 52) dX7_found_52 rfl ?_
            refine ev_iload_n (v := s7) (pc := 53) dX7_found_53 rfl ?_
            refine ev_iconst (v := 1) (pc := 54) dX7_found_54 ki_1 ?_
            refine ev_cVi2 (pc := 55) dX7_found_55 mv_X7_ofInterest lk_RX7_81 rp_19 (ct_X7_ofInterest _ _ _ _ _ rfl e26) (Nat.le_of_ble_eq_true rfl) (Nat.le_of_ble_eq_true rfl) ?_
            refine ev_aload_n (v := 19) (pc := 58) dX7_found_58 rfl ?_
            refine ev_getr (q := 20) (pc := 59) dX7_found_59 fl_RX7_7 rfl rfl ?_
            refine ev_iload_n (v := x1) (pc := 62) dX7_found_62 rfl ?_
            refine ev_iald (pc := 63) dX7_found_63 rfl e28 ?_
            by_cases b29 : t25 = v27
            · rw [if_pos b29] at h
              refine ev_icmp_ne_f (t := 69) (pc := 64) dX7_found_64 (by decide) b29 ?_
              refine ev_iload_n (v := s7) (pc := 67) dX7_found_67 rfl ?_
              obtain rfl := Option.some.inj h
              obtain rfl := hr14 _ (hE12 _ rfl).symm
              exact ev_iret (pc := 68) dX7_found_68 rfl rfl rfl hfin
            · rw [if_neg b29] at h
              refine ev_icmp_ne_t (t := 69) (pc := 64) dX7_found_64 (by decide) b29 ?_
              refine ev_iinc (x := s7) (v := (s7 + 1)) (L' := [some (.inr 19), some (.inl x0), some (.inl x1), some (.inl (s7 + 1))]) (pc := 69) dX7_found_69 rfl (kx_1 _) (Nat.le_of_ble_eq_true rfl) rfl ?_
              refine ev_goto (t := 21) (pc := 72) dX7_found_72 (by decide) ?_
              obtain rfl := Option.some.inj h
              exact ih11 (s7 + 1) rfl
          · rw [if_neg b24] at h
            refine ev_icmp_ne_t (t := 69) (pc := 49) dX7_found_49 (by decide) b24 ?_
            refine ev_iinc (x := s7) (v := (s7 + 1)) (L' := [some (.inr 19), some (.inl x0), some (.inl x1), some (.inl (s7 + 1))]) (pc := 69) dX7_found_69 rfl (kx_1 _) (Nat.le_of_ble_eq_true rfl) rfl ?_
            refine ev_goto (t := 21) (pc := 72) dX7_found_72 (by decide) ?_
            obtain rfl := Option.some.inj h
            exact ih11 (s7 + 1) rfl
        · rw [if_neg b21] at h
          refine ev_icmp_ne_t (t := 69) (pc := 39) dX7_found_39 (by decide) b21 ?_
          refine ev_iinc (x := s7) (v := (s7 + 1)) (L' := [some (.inr 19), some (.inl x0), some (.inl x1), some (.inl (s7 + 1))]) (pc := 69) dX7_found_69 rfl (kx_1 _) (Nat.le_of_ble_eq_true rfl) rfl ?_
          refine ev_goto (t := 21) (pc := 72) dX7_found_72 (by decide) ?_
          obtain rfl := Option.some.inj h
          exact ih11 (s7 + 1) rfl
def XX7_layDepths (be : rb_Row) (ab : rb_Row) (a : rb_Row) : Option (rb_Row × rb_Row) := (rb_lp (ρ := rb_Row × rb_Row) (fun (s1 : Int32 × rb_Row × rb_Row) => if 28 ≤ s1.1 then some (.inr (s1.2.1, s1.2.2)) else (XX7_kindOf a s1.1).bind fun t10 => ((if t10 = 4 then some 1 else some 0) : Option (Int32)).bind fun j12 => (rb_wr s1.2.1 28 s1.1 j12).bind fun be16 => (rb_rd be16 28 s1.1).bind fun v18 => (rb_wr s1.2.2 28 s1.1 v18).bind fun ab20 => some (.inl ((s1.1 + 1), be16, ab20))) 100000 (0, be, ab)).bind fun q2 => (rb_lp (ρ := rb_Row × rb_Row) (fun (s22 : Int32 × rb_Row × rb_Row) => if 3 ≤ s22.1 then some (.inr (s22.2.1, s22.2.2)) else (rb_lp (ρ := rb_Row × rb_Row) (fun (s31 : Int32 × rb_Row × rb_Row) => if 24 ≤ s31.1 then some (.inr (s31.2.1, s31.2.2)) else (XX7_isInterest a s31.1).bind fun t40 => ((if t40 = 0 then some (s31.2.1, s31.2.2) else (XX7_ofInterest a s31.1 1).bind fun t46 => (XX7_kindOf a t46).bind fun t48 => if t48 = 4 then (XX7_ofInterest a s31.1 0).bind fun t51 => (XX7_ofInterest a s31.1 1).bind fun t53 => (rb_rd s31.2.1 28 t53).bind fun v55 => (rb_rd s31.2.1 28 t51).bind fun v57 => ((if v55 < v57 then some s31.2.1 else (rb_rd s31.2.1 28 t53).bind fun v63 => (rb_wr s31.2.1 28 t51 (v63 + 1)).bind fun be65 => some be65) : Option (rb_Row)).bind fun j59 => (rb_rd s31.2.2 28 t51).bind fun v67 => (rb_rd s31.2.2 28 t53).bind fun v69 => if v67 < v69 then some (j59, s31.2.2) else (rb_rd s31.2.2 28 t51).bind fun v72 => (rb_wr s31.2.2 28 t53 (v72 + 1)).bind fun ab74 => some (j59, ab74) else some (s31.2.1, s31.2.2)) : Option (rb_Row × rb_Row)).bind fun j42 => some (.inl ((s31.1 + 1), j42.1, j42.2))) 100000 (0, s22.2.1, s22.2.2)).bind fun q32 => some (.inl ((s22.1 + 1), q32.1, q32.2))) 100000 (0, q2.1, q2.2)).bind fun q23 => some (q23.1, q23.2)
set_option maxHeartbeats 4000000 in
set_option maxRecDepth 20000 in
theorem ct_X7_layDepths (μ : rb_Mem) (be : rb_Row) (ab : rb_Row) (a : rb_Row) (o : rb_Row × rb_Row) (hbe : μ 27 = be) (hab : μ 28 = ab) (ha : μ 20 = a) (h : XX7_layDepths be ab a = some o) : rb_Ct yX7_layDepths cX7_layDepths 5 none 3 [.inr 19] μ none (rb_ov μ [(27, o.1), (28, o.2)]) := by
  unfold XX7_layDepths at h
  have hini : rb_ov μ [(27, be), (28, ab), (20, a)] = μ := rb_ov_sf _ _ (And.intro hbe (And.intro hab (And.intro ha True.intro)))
  have hfin : ∀ u0 u1 : rb_Row, rb_ov μ [(27, u0), (28, u1), (20, a)] = rb_ov μ [(27, u0), (28, u1)] := fun u0 u1 => rb_ov_ap _ [(27, u0), (28, u1)] _ (And.intro ha True.intro)
  refine rb_ctv (w := [(27, be), (28, ab), (20, a)]) rfl pn_7 (Nat.le_of_ble_eq_true rfl) rfl hini ?_
  refine ev_iconst (v := 0) (pc := 0) dX7_layDepths_0 ki_0 ?_
  refine ev_istore_n (L' := [some (.inr 19), some (.inl 0), none, none, none]) (pc := 1) dX7_layDepths_1 (Nat.le_of_ble_eq_true rfl) rfl ?_
  obtain ⟨q2, l3, h⟩ := rb_bd h
  have hx7 : rb_Ev RX7 cX7_layDepths 5 none none 3 none (rb_ov μ [(27, o.1), (28, o.2)]) 46 [some (.inr 19), none, none, none, none] [] (rb_ov μ [(27, q2.1), (28, q2.2), (20, a)]) := by
    refine ev_iconst (v := 0) (pc := 46) dX7_layDepths_46 ki_0 ?_
    refine ev_istore_n (L' := [some (.inr 19), some (.inl 0), none, none, none]) (pc := 47) dX7_layDepths_47 (Nat.le_of_ble_eq_true rfl) rfl ?_
    obtain ⟨q23, l24, h⟩ := rb_bd h
    have hx28 : rb_Ev RX7 cX7_layDepths 5 none none 3 none (rb_ov μ [(27, o.1), (28, o.2)]) 175 [none, none, none, none, none] [] (rb_ov μ [(27, q23.1), (28, q23.2), (20, a)]) := by
      obtain rfl := Option.some.inj h
      exact ev_ret (pc := 175) dX7_layDepths_175 rfl rfl (hfin _ _)
    refine rb_lp_ev (P := fun (s22 : Int32 × rb_Row × rb_Row) => rb_Ev RX7 cX7_layDepths 5 none none 3 none (rb_ov μ [(27, o.1), (28, o.2)]) 48 [some (.inr 19), some (.inl s22.1), none, none, none] [] (rb_ov μ [(27, s22.2.1), (28, s22.2.2), (20, a)])) ?_ 100000 (0, q2.1, q2.2) l24
    intro s22 y25 h ih26 hE27
    refine ev_iload_n (v := s22.1) (pc := 48) dX7_layDepths_48 rfl ?_
    refine ev_iconst (v := 3) (pc := 49) dX7_layDepths_49 ki_3 ?_
    by_cases b30 : 3 ≤ s22.1
    · rw [if_pos b30] at h
      refine ev_icmp_ge_t (t := 175) (pc := 50) dX7_layDepths_50 (by decide) b30 ?_
      obtain rfl := Option.some.inj h
      obtain rfl := hE27 _ rfl
      exact ev_fg (L := [none, none, none, none, none]) True.intro (hx28)
    · rw [if_neg b30] at h
      refine ev_icmp_ge_f (t := 175) (pc := 50) dX7_layDepths_50 (by decide) b30 ?_
      refine ev_iconst (v := 0) (pc := 53) dX7_layDepths_53 ki_0 ?_
      refine ev_istore_n (L' := [some (.inr 19), some (.inl s22.1), some (.inl 0), none, none]) (pc := 54) dX7_layDepths_54 (Nat.le_of_ble_eq_true rfl) rfl ?_
      obtain ⟨q32, l33, h⟩ := rb_bd h
      have hx37 : rb_Ev RX7 cX7_layDepths 5 none none 3 none (rb_ov μ [(27, o.1), (28, o.2)]) 169 [some (.inr 19), some (.inl s22.1), none, none, none] [] (rb_ov μ [(27, q32.1), (28, q32.2), (20, a)]) := by
        refine ev_iinc (x := s22.1) (v := (s22.1 + 1)) (L' := [some (.inr 19), some (.inl (s22.1 + 1)), none, none, none]) (pc := 169) dX7_layDepths_169 rfl (kx_1 _) (Nat.le_of_ble_eq_true rfl) rfl ?_
        refine ev_goto (t := 48) (pc := 172) dX7_layDepths_172 (by decide) ?_
        obtain rfl := Option.some.inj h
        exact ih26 ((s22.1 + 1), q32.1, q32.2) rfl
      refine rb_lp_ev (P := fun (s31 : Int32 × rb_Row × rb_Row) => rb_Ev RX7 cX7_layDepths 5 none none 3 none (rb_ov μ [(27, o.1), (28, o.2)]) 55 [some (.inr 19), some (.inl s22.1), some (.inl s31.1), none, none] [] (rb_ov μ [(27, s31.2.1), (28, s31.2.2), (20, a)])) ?_ 100000 (0, s22.2.1, s22.2.2) l33
      intro s31 y34 h ih35 hE36
      refine ev_iload_n (v := s31.1) (pc := 55) dX7_layDepths_55 rfl ?_
      refine ev_bipush (v := 24) (pc := 56) dX7_layDepths_56 kb_24 ?_
      by_cases b39 : 24 ≤ s31.1
      · rw [if_pos b39] at h
        refine ev_icmp_ge_t (t := 169) (pc := 58) dX7_layDepths_58 (by decide) b39 ?_
        obtain rfl := Option.some.inj h
        obtain rfl := hE36 _ rfl
        exact ev_fg (L := [some (.inr 19), some (.inl s22.1), none, none, none]) (And.intro rfl (And.intro rfl True.intro)) (hx37)
      · rw [if_neg b39] at h
        refine ev_icmp_ge_f (t := 169) (pc := 58) dX7_layDepths_58 (by decide) b39 ?_
        obtain ⟨t40, e41, h⟩ := rb_bd h
        refine ev_aload_n (v := 19) (pc := 61) dX7_layDepths_61 rfl ?_
        refine ev_iload_n (v := s31.1) (pc := 62) dX7_layDepths_62 rfl ?_
        refine ev_cVi1 (pc := 63) dX7_layDepths_63 mv_X7_isInterest lk_RX7_149 rp_19 (ct_X7_isInterest _ _ _ _ rfl e41) (Nat.le_of_ble_eq_true rfl) (Nat.le_of_ble_eq_true rfl) ?_
        obtain ⟨j42, e43, h⟩ := rb_bd h
        have hj44 : rb_Ev RX7 cX7_layDepths 5 none none 3 none (rb_ov μ [(27, o.1), (28, o.2)]) 163 [some (.inr 19), some (.inl s22.1), some (.inl s31.1), none, none] [] (rb_ov μ [(27, j42.1), (28, j42.2), (20, a)]) := by
          refine ev_iinc (x := s31.1) (v := (s31.1 + 1)) (L' := [some (.inr 19), some (.inl s22.1), some (.inl (s31.1 + 1)), none, none]) (pc := 163) dX7_layDepths_163 rfl (kx_1 _) (Nat.le_of_ble_eq_true rfl) rfl ?_
          refine ev_goto (t := 55) (pc := 166) dX7_layDepths_166 (by decide) ?_
          obtain rfl := Option.some.inj h
          exact ih35 ((s31.1 + 1), j42.1, j42.2) rfl
        replace h := e43
        by_cases b45 : t40 = 0
        · rw [if_pos b45] at h
          refine ev_if_eq_t (t := 163) (pc := 66) dX7_layDepths_66 (by decide) b45 ?_
          obtain rfl := Option.some.inj h
          exact hj44
        · rw [if_neg b45] at h
          refine ev_if_eq_f (t := 163) (pc := 66) dX7_layDepths_66 (by decide) b45 ?_
          obtain ⟨t46, e47, h⟩ := rb_bd h
          obtain ⟨t48, e49, h⟩ := rb_bd h
          refine ev_aload_n (v := 19) (pc := 69) dX7_layDepths_69 rfl ?_
          refine ev_aload_n (v := 19) (pc := 70) dX7_layDepths_70 rfl ?_
          refine ev_iload_n (v := s31.1) (pc := 71) dX7_layDepths_71 rfl ?_
          refine ev_iconst (v := 1) (pc := 72) dX7_layDepths_72 ki_1 ?_
          refine ev_cVi2 (pc := 73) dX7_layDepths_73 mv_X7_ofInterest lk_RX7_81 rp_19 (ct_X7_ofInterest _ _ _ _ _ rfl e47) (Nat.le_of_ble_eq_true rfl) (Nat.le_of_ble_eq_true rfl) ?_
          refine ev_cVi1 (pc := 76) dX7_layDepths_76 mv_X7_kindOf lk_RX7_77 rp_19 (ct_X7_kindOf _ _ _ _ rfl e49) (Nat.le_of_ble_eq_true rfl) (Nat.le_of_ble_eq_true rfl) ?_
          refine ev_iconst (v := 4) (pc := 79) dX7_layDepths_79 ki_4 ?_
          by_cases b50 : t48 = 4
          · rw [if_pos b50] at h
            refine ev_icmp_eq_t (t := 86) (pc := 80) dX7_layDepths_80 (by decide) b50 ?_
            obtain ⟨t51, e52, h⟩ := rb_bd h
            obtain ⟨t53, e54, h⟩ := rb_bd h
            obtain ⟨v55, e56, h⟩ := rb_bd h
            obtain ⟨v57, e58, h⟩ := rb_bd h
            refine ev_aload_n (v := 19) (pc := 86) dX7_layDepths_86 rfl ?_
            refine ev_iload_n (v := s31.1) (pc := 87) dX7_layDepths_87 rfl ?_
            refine ev_iconst (v := 0) (pc := 88) dX7_layDepths_88 ki_0 ?_
            refine ev_cVi2 (pc := 89) dX7_layDepths_89 mv_X7_ofInterest lk_RX7_81 rp_19 (ct_X7_ofInterest _ _ _ _ _ rfl e52) (Nat.le_of_ble_eq_true rfl) (Nat.le_of_ble_eq_true rfl) ?_
            refine ev_istore_n (L' := [some (.inr 19), some (.inl s22.1), some (.inl s31.1), some (.inl t51), none]) (pc := 92) dX7_layDepths_92 (Nat.le_of_ble_eq_true rfl) rfl ?_
            refine ev_aload_n (v := 19) (pc := 93) dX7_layDepths_93 rfl ?_
            refine ev_iload_n (v := s31.1) (pc := 94) dX7_layDepths_94 rfl ?_
            refine ev_iconst (v := 1) (pc := 95) dX7_layDepths_95 ki_1 ?_
            refine ev_cVi2 (pc := 96) dX7_layDepths_96 mv_X7_ofInterest lk_RX7_81 rp_19 (ct_X7_ofInterest _ _ _ _ _ rfl e54) (Nat.le_of_ble_eq_true rfl) (Nat.le_of_ble_eq_true rfl) ?_
            refine ev_istore (L' := [some (.inr 19), some (.inl s22.1), some (.inl s31.1), some (.inl t51), some (.inl t53)]) (pc := 99) dX7_layDepths_99 (Nat.le_of_ble_eq_true rfl) rfl ?_
            refine ev_aload_n (v := 19) (pc := 101) dX7_layDepths_101 rfl ?_
            refine ev_getr (q := 27) (pc := 102) dX7_layDepths_102 fl_RX7_32 rfl rfl ?_
            refine ev_iload (v := t53) (pc := 105) dX7_layDepths_105 rfl ?_
            refine ev_iald (pc := 107) dX7_layDepths_107 rfl e56 ?_
            refine ev_aload_n (v := 19) (pc := 108) dX7_layDepths_108 rfl ?_
            refine ev_getr (q := 27) (pc := 109) dX7_layDepths_109 fl_RX7_32 rfl rfl ?_
            refine ev_iload_n (v := t51) (pc := 112) dX7_layDepths_112 rfl ?_
            refine ev_iald (pc := 113) dX7_layDepths_113 rfl e58 ?_
            obtain ⟨j59, e60, h⟩ := rb_bd h
            have hj61 : rb_Ev RX7 cX7_layDepths 5 none none 3 none (rb_ov μ [(27, o.1), (28, o.2)]) 132 [some (.inr 19), some (.inl s22.1), some (.inl s31.1), some (.inl t51), some (.inl t53)] [] (rb_ov μ [(27, j59), (28, s31.2.2), (20, a)]) := by
              obtain ⟨v67, e68, h⟩ := rb_bd h
              obtain ⟨v69, e70, h⟩ := rb_bd h
              refine ev_aload_n (v := 19) (pc := 132) dX7_layDepths_132 rfl ?_
              refine ev_getr (q := 28) (pc := 133) dX7_layDepths_133 fl_RX7_35 rfl rfl ?_
              refine ev_iload_n (v := t51) (pc := 136) dX7_layDepths_136 rfl ?_
              refine ev_iald (pc := 137) dX7_layDepths_137 rfl e68 ?_
              refine ev_aload_n (v := 19) (pc := 138) dX7_layDepths_138 rfl ?_
              refine ev_getr (q := 28) (pc := 139) dX7_layDepths_139 fl_RX7_35 rfl rfl ?_
              refine ev_iload (v := t53) (pc := 142) dX7_layDepths_142 rfl ?_
              refine ev_iald (pc := 144) dX7_layDepths_144 rfl e70 ?_
              by_cases b71 : v67 < v69
              · rw [if_pos b71] at h
                refine ev_icmp_lt_t (t := 163) (pc := 145) dX7_layDepths_145 (by decide) b71 ?_
                obtain rfl := Option.some.inj h
                exact ev_fg (L := [some (.inr 19), some (.inl s22.1), some (.inl s31.1), none, none]) (And.intro rfl (And.intro rfl (And.intro rfl True.intro))) (hj44)
              · rw [if_neg b71] at h
                refine ev_icmp_lt_f (t := 163) (pc := 145) dX7_layDepths_145 (by decide) b71 ?_
                obtain ⟨v72, e73, h⟩ := rb_bd h
                obtain ⟨ab74, e75, h⟩ := rb_bd h
                refine ev_aload_n (v := 19) (pc := 148) dX7_layDepths_148 rfl ?_
                refine ev_getr (q := 28) (pc := 149) dX7_layDepths_149 fl_RX7_35 rfl rfl ?_
                refine ev_iload (v := t53) (pc := 152) dX7_layDepths_152 rfl ?_
                refine ev_aload_n (v := 19) (pc := 154) dX7_layDepths_154 rfl ?_
                refine ev_getr (q := 28) (pc := 155) dX7_layDepths_155 fl_RX7_35 rfl rfl ?_
                refine ev_iload_n (v := t51) (pc := 158) dX7_layDepths_158 rfl ?_
                refine ev_iald (pc := 159) dX7_layDepths_159 rfl e73 ?_
                refine ev_iconst (v := 1) (pc := 160) dX7_layDepths_160 ki_1 ?_
                refine ev_iadd (pc := 161) dX7_layDepths_161 ?_
                refine ev_iast (w' := [(27, j59), (28, ab74), (20, a)]) (pc := 162) dX7_layDepths_162 rfl e75 rfl ?_
                obtain rfl := Option.some.inj h
                exact ev_fg (L := [some (.inr 19), some (.inl s22.1), some (.inl s31.1), none, none]) (And.intro rfl (And.intro rfl (And.intro rfl True.intro))) (hj44)
            replace h := e60
            by_cases b62 : v55 < v57
            · rw [if_pos b62] at h
              refine ev_icmp_lt_t (t := 132) (pc := 114) dX7_layDepths_114 (by decide) b62 ?_
              obtain rfl := Option.some.inj h
              exact hj61
            · rw [if_neg b62] at h
              refine ev_icmp_lt_f (t := 132) (pc := 114) dX7_layDepths_114 (by decide) b62 ?_
              obtain ⟨v63, e64, h⟩ := rb_bd h
              obtain ⟨be65, e66, h⟩ := rb_bd h
              refine ev_aload_n (v := 19) (pc := 117) dX7_layDepths_117 rfl ?_
              refine ev_getr (q := 27) (pc := 118) dX7_layDepths_118 fl_RX7_32 rfl rfl ?_
              refine ev_iload_n (v := t51) (pc := 121) dX7_layDepths_121 rfl ?_
              refine ev_aload_n (v := 19) (pc := 122) dX7_layDepths_122 rfl ?_
              refine ev_getr (q := 27) (pc := 123) dX7_layDepths_123 fl_RX7_32 rfl rfl ?_
              refine ev_iload (v := t53) (pc := 126) dX7_layDepths_126 rfl ?_
              refine ev_iald (pc := 128) dX7_layDepths_128 rfl e64 ?_
              refine ev_iconst (v := 1) (pc := 129) dX7_layDepths_129 ki_1 ?_
              refine ev_iadd (pc := 130) dX7_layDepths_130 ?_
              refine ev_iast (w' := [(27, be65), (28, s31.2.2), (20, a)]) (pc := 131) dX7_layDepths_131 rfl e66 rfl ?_
              obtain rfl := Option.some.inj h
              exact hj61
          · rw [if_neg b50] at h
            refine ev_icmp_eq_f (t := 86) (pc := 80) dX7_layDepths_80 (by decide) b50 ?_
            refine ev_goto (t := 163) (pc := 83) dX7_layDepths_83 (by decide) ?_
            obtain rfl := Option.some.inj h
            exact hj44
  refine rb_lp_ev (P := fun (s1 : Int32 × rb_Row × rb_Row) => rb_Ev RX7 cX7_layDepths 5 none none 3 none (rb_ov μ [(27, o.1), (28, o.2)]) 2 [some (.inr 19), some (.inl s1.1), none, none, none] [] (rb_ov μ [(27, s1.2.1), (28, s1.2.2), (20, a)])) ?_ 100000 (0, be, ab) l3
  intro s1 y4 h ih5 hE6
  refine ev_iload_n (v := s1.1) (pc := 2) dX7_layDepths_2 rfl ?_
  refine ev_bipush (v := 28) (pc := 3) dX7_layDepths_3 kb_28 ?_
  by_cases b9 : 28 ≤ s1.1
  · rw [if_pos b9] at h
    refine ev_icmp_ge_t (t := 46) (pc := 5) dX7_layDepths_5 (by decide) b9 ?_
    obtain rfl := Option.some.inj h
    obtain rfl := hE6 _ rfl
    exact ev_fg (L := [some (.inr 19), none, none, none, none]) (And.intro rfl True.intro) (hx7)
  · rw [if_neg b9] at h
    refine ev_icmp_ge_f (t := 46) (pc := 5) dX7_layDepths_5 (by decide) b9 ?_
    obtain ⟨t10, e11, h⟩ := rb_bd h
    refine ev_aload_n (v := 19) (pc := 8) dX7_layDepths_8 rfl ?_
    refine ev_getr (q := 27) (pc := 9) dX7_layDepths_9 fl_RX7_32 rfl rfl ?_
    refine ev_iload_n (v := s1.1) (pc := 12) dX7_layDepths_12 rfl ?_
    refine ev_aload_n (v := 19) (pc := 13) dX7_layDepths_13 rfl ?_
    refine ev_iload_n (v := s1.1) (pc := 14) dX7_layDepths_14 rfl ?_
    refine ev_cVi1 (pc := 15) dX7_layDepths_15 mv_X7_kindOf lk_RX7_77 rp_19 (ct_X7_kindOf _ _ _ _ rfl e11) (Nat.le_of_ble_eq_true rfl) (Nat.le_of_ble_eq_true rfl) ?_
    refine ev_iconst (v := 4) (pc := 18) dX7_layDepths_18 ki_4 ?_
    obtain ⟨j12, e13, h⟩ := rb_bd h
    have hj14 : rb_Ev RX7 cX7_layDepths 5 none none 3 none (rb_ov μ [(27, o.1), (28, o.2)]) 27 [some (.inr 19), some (.inl s1.1), none, none, none] [.inl j12, .inl s1.1, .inr 27] (rb_ov μ [(27, s1.2.1), (28, s1.2.2), (20, a)]) := by
      obtain ⟨be16, e17, h⟩ := rb_bd h
      obtain ⟨v18, e19, h⟩ := rb_bd h
      obtain ⟨ab20, e21, h⟩ := rb_bd h
      refine ev_iast (w' := [(27, be16), (28, s1.2.2), (20, a)]) (pc := 27) dX7_layDepths_27 rfl e17 rfl ?_
      refine ev_aload_n (v := 19) (pc := 28) dX7_layDepths_28 rfl ?_
      refine ev_getr (q := 28) (pc := 29) dX7_layDepths_29 fl_RX7_35 rfl rfl ?_
      refine ev_iload_n (v := s1.1) (pc := 32) dX7_layDepths_32 rfl ?_
      refine ev_aload_n (v := 19) (pc := 33) dX7_layDepths_33 rfl ?_
      refine ev_getr (q := 27) (pc := 34) dX7_layDepths_34 fl_RX7_32 rfl rfl ?_
      refine ev_iload_n (v := s1.1) (pc := 37) dX7_layDepths_37 rfl ?_
      refine ev_iald (pc := 38) dX7_layDepths_38 rfl e19 ?_
      refine ev_iast (w' := [(27, be16), (28, ab20), (20, a)]) (pc := 39) dX7_layDepths_39 rfl e21 rfl ?_
      refine ev_iinc (x := s1.1) (v := (s1.1 + 1)) (L' := [some (.inr 19), some (.inl (s1.1 + 1)), none, none, none]) (pc := 40) dX7_layDepths_40 rfl (kx_1 _) (Nat.le_of_ble_eq_true rfl) rfl ?_
      refine ev_goto (t := 2) (pc := 43) dX7_layDepths_43 (by decide) ?_
      obtain rfl := Option.some.inj h
      exact ih5 ((s1.1 + 1), be16, ab20) rfl
    replace h := e13
    by_cases b15 : t10 = 4
    · rw [if_pos b15] at h
      refine ev_icmp_ne_f (t := 26) (pc := 19) dX7_layDepths_19 (by decide) b15 ?_
      refine ev_iconst (v := 1) (pc := 22) dX7_layDepths_22 ki_1 ?_
      refine ev_goto (t := 27) (pc := 23) dX7_layDepths_23 (by decide) ?_
      obtain rfl := Option.some.inj h
      exact hj14
    · rw [if_neg b15] at h
      refine ev_icmp_ne_t (t := 26) (pc := 19) dX7_layDepths_19 (by decide) b15 ?_
      refine ev_iconst (v := 0) (pc := 26) dX7_layDepths_26 ki_0 ?_
      obtain rfl := Option.some.inj h
      exact hj14
def XX7_standsIn (a : rb_Row) (x0 : Int32) (x1 : Int32) : Option (Int32) := (rb_lp (ρ := Int32) (fun (s1 : Int32 × Int32) => if 3 ≤ s1.2 then some (.inr s1.1) else (rb_lp (ρ := Int32) (fun (s10 : Int32 × Int32) => if 24 ≤ s10.2 then some (.inr s10.1) else (XX7_isInterest a s10.2).bind fun t19 => ((if t19 = 0 then some s10.1 else (XX7_ofInterest a s10.2 0).bind fun t25 => if ((s10.1 >>> (t25 &&& 31)) &&& 1) = 1 then (XX7_ofInterest a s10.2 1).bind fun t28 => some (s10.1 ||| (1 <<< (t28 &&& 31))) else some s10.1) : Option (Int32)).bind fun j21 => some (.inl (j21, (s10.2 + 1)))) 100000 (s1.1, 0)).bind fun q11 => some (.inl (q11, (s1.2 + 1)))) 100000 ((1 <<< (x1 &&& 31)), 0)).bind fun q2 => if ((q2 >>> (x0 &&& 31)) &&& 1) = 1 then some (rb_nz 1) else some (rb_nz 0)
set_option maxHeartbeats 4000000 in
set_option maxRecDepth 20000 in
theorem ct_X7_standsIn (μ : rb_Mem) (a : rb_Row) (x0 : Int32) (x1 : Int32) (o : Int32) (ha : μ 20 = a) (h : XX7_standsIn a x0 x1 = some o) : rb_Ct yX7_standsIn cX7_standsIn 6 (some .boolean) 3 [.inr 19, .inl x0, .inl x1] μ (some o) μ := by
  unfold XX7_standsIn at h
  have hini : rb_ov μ [(20, a)] = μ := rb_ov_sf _ _ (And.intro ha True.intro)
  have hfin := hini
  refine rb_ctz (w := [(20, a)]) rfl pn_7 (Nat.le_of_ble_eq_true rfl) rfl hini ?_
  refine ev_iconst (v := 1) (pc := 0) dX7_standsIn_0 ki_1 ?_
  refine ev_iload_n (v := x1) (pc := 1) dX7_standsIn_1 rfl ?_
  refine ev_ishl (pc := 2) dX7_standsIn_2 ?_
  refine ev_istore_n (L' := [some (.inr 19), some (.inl x0), some (.inl x1), some (.inl (1 <<< (x1 &&& 31))), none, none]) (pc := 3) dX7_standsIn_3 (Nat.le_of_ble_eq_true rfl) rfl ?_
  refine ev_iconst (v := 0) (pc := 4) dX7_standsIn_4 ki_0 ?_
  refine ev_istore (L' := [some (.inr 19), some (.inl x0), some (.inl x1), some (.inl (1 <<< (x1 &&& 31))), some (.inl 0), none]) (pc := 5) dX7_standsIn_5 (Nat.le_of_ble_eq_true rfl) rfl ?_
  obtain ⟨q2, l3, h⟩ := rb_bd h
  have hx7 : rb_Ev RX7 cX7_standsIn 6 (some .boolean) none 3 (some o) μ 71 [none, some (.inl x0), none, some (.inl q2), none, none] [] (rb_ov μ [(20, a)]) := by
    refine ev_iload_n (v := q2) (pc := 71) dX7_standsIn_71 rfl ?_
    refine ev_iload_n (v := x0) (pc := 72) dX7_standsIn_72 rfl ?_
    refine ev_ishr (pc := 73) dX7_standsIn_73 ?_
    refine ev_iconst (v := 1) (pc := 74) dX7_standsIn_74 ki_1 ?_
    refine ev_iand (pc := 75) dX7_standsIn_75 ?_
    refine ev_iconst (v := 1) (pc := 76) dX7_standsIn_76 ki_1 ?_
    by_cases b30 : ((q2 >>> (x0 &&& 31)) &&& 1) = 1
    · rw [if_pos b30] at h
      refine ev_icmp_ne_f (t := 84) (pc := 77) dX7_standsIn_77 (by decide) b30 ?_
      refine ev_iconst (v := 1) (pc := 80) dX7_standsIn_80 ki_1 ?_
      refine ev_goto (t := 85) (pc := 81) dX7_standsIn_81 (by decide) ?_
      obtain rfl := Option.some.inj h
      exact ev_iret (pc := 85) dX7_standsIn_85 rfl rfl rfl hfin
    · rw [if_neg b30] at h
      refine ev_icmp_ne_t (t := 84) (pc := 77) dX7_standsIn_77 (by decide) b30 ?_
      refine ev_iconst (v := 0) (pc := 84) dX7_standsIn_84 ki_0 ?_
      obtain rfl := Option.some.inj h
      exact ev_iret (pc := 85) dX7_standsIn_85 rfl rfl rfl hfin
  refine ev_fg (L := [some (.inr 19), some (.inl x0), none, some (.inl (1 <<< (x1 &&& 31))), some (.inl 0), none]) (And.intro rfl (And.intro rfl (And.intro rfl (And.intro rfl True.intro)))) ?_
  refine rb_lp_ev (P := fun (s1 : Int32 × Int32) => rb_Ev RX7 cX7_standsIn 6 (some .boolean) none 3 (some o) μ 7 [some (.inr 19), some (.inl x0), none, some (.inl s1.1), some (.inl s1.2), none] [] (rb_ov μ [(20, a)])) ?_ 100000 ((1 <<< (x1 &&& 31)), 0) l3
  intro s1 y4 h ih5 hE6
  refine ev_iload (v := s1.2) (pc := 7) dX7_standsIn_7 rfl ?_
  refine ev_iconst (v := 3) (pc := 9) dX7_standsIn_9 ki_3 ?_
  by_cases b9 : 3 ≤ s1.2
  · rw [if_pos b9] at h
    refine ev_icmp_ge_t (t := 71) (pc := 10) dX7_standsIn_10 (by decide) b9 ?_
    obtain rfl := Option.some.inj h
    obtain rfl := hE6 _ rfl
    exact ev_fg (L := [none, some (.inl x0), none, some (.inl s1.1), none, none]) (And.intro rfl (And.intro rfl True.intro)) (hx7)
  · rw [if_neg b9] at h
    refine ev_icmp_ge_f (t := 71) (pc := 10) dX7_standsIn_10 (by decide) b9 ?_
    refine ev_iconst (v := 0) (pc := 13) dX7_standsIn_13 ki_0 ?_
    refine ev_istore (L' := [some (.inr 19), some (.inl x0), none, some (.inl s1.1), some (.inl s1.2), some (.inl 0)]) (pc := 14) dX7_standsIn_14 (Nat.le_of_ble_eq_true rfl) rfl ?_
    obtain ⟨q11, l12, h⟩ := rb_bd h
    have hx16 : rb_Ev RX7 cX7_standsIn 6 (some .boolean) none 3 (some o) μ 65 [some (.inr 19), some (.inl x0), none, some (.inl q11), some (.inl s1.2), none] [] (rb_ov μ [(20, a)]) := by
      refine ev_iinc (x := s1.2) (v := (s1.2 + 1)) (L' := [some (.inr 19), some (.inl x0), none, some (.inl q11), some (.inl (s1.2 + 1)), none]) (pc := 65) dX7_standsIn_65 rfl (kx_1 _) (Nat.le_of_ble_eq_true rfl) rfl ?_
      refine ev_goto (t := 7) (pc := 68) dX7_standsIn_68 (by decide) ?_
      obtain rfl := Option.some.inj h
      exact ih5 (q11, (s1.2 + 1)) rfl
    refine rb_lp_ev (P := fun (s10 : Int32 × Int32) => rb_Ev RX7 cX7_standsIn 6 (some .boolean) none 3 (some o) μ 16 [some (.inr 19), some (.inl x0), none, some (.inl s10.1), some (.inl s1.2), some (.inl s10.2)] [] (rb_ov μ [(20, a)])) ?_ 100000 (s1.1, 0) l12
    intro s10 y13 h ih14 hE15
    refine ev_iload (v := s10.2) (pc := 16) dX7_standsIn_16 rfl ?_
    refine ev_bipush (v := 24) (pc := 18) dX7_standsIn_18 kb_24 ?_
    by_cases b18 : 24 ≤ s10.2
    · rw [if_pos b18] at h
      refine ev_icmp_ge_t (t := 65) (pc := 20) dX7_standsIn_20 (by decide) b18 ?_
      obtain rfl := Option.some.inj h
      obtain rfl := hE15 _ rfl
      exact ev_fg (L := [some (.inr 19), some (.inl x0), none, some (.inl s10.1), some (.inl s1.2), none]) (And.intro rfl (And.intro rfl (And.intro rfl (And.intro rfl True.intro)))) (hx16)
    · rw [if_neg b18] at h
      refine ev_icmp_ge_f (t := 65) (pc := 20) dX7_standsIn_20 (by decide) b18 ?_
      obtain ⟨t19, e20, h⟩ := rb_bd h
      refine ev_aload_n (v := 19) (pc := 23) dX7_standsIn_23 rfl ?_
      refine ev_iload (v := s10.2) (pc := 24) dX7_standsIn_24 rfl ?_
      refine ev_cVi1 (pc := 26) dX7_standsIn_26 mv_X7_isInterest lk_RX7_149 rp_19 (ct_X7_isInterest _ _ _ _ rfl e20) (Nat.le_of_ble_eq_true rfl) (Nat.le_of_ble_eq_true rfl) ?_
      obtain ⟨j21, e22, h⟩ := rb_bd h
      have hj23 : rb_Ev RX7 cX7_standsIn 6 (some .boolean) none 3 (some o) μ 59 [some (.inr 19), some (.inl x0), none, some (.inl j21), some (.inl s1.2), some (.inl s10.2)] [] (rb_ov μ [(20, a)]) := by
        refine ev_iinc (x := s10.2) (v := (s10.2 + 1)) (L' := [some (.inr 19), some (.inl x0), none, some (.inl j21), some (.inl s1.2), some (.inl (s10.2 + 1))]) (pc := 59) dX7_standsIn_59 rfl (kx_1 _) (Nat.le_of_ble_eq_true rfl) rfl ?_
        refine ev_goto (t := 16) (pc := 62) dX7_standsIn_62 (by decide) ?_
        obtain rfl := Option.some.inj h
        exact ih14 (j21, (s10.2 + 1)) rfl
      replace h := e22
      by_cases b24 : t19 = 0
      · rw [if_pos b24] at h
        refine ev_if_eq_t (t := 59) (pc := 29) dX7_standsIn_29 (by decide) b24 ?_
        obtain rfl := Option.some.inj h
        exact hj23
      · rw [if_neg b24] at h
        refine ev_if_eq_f (t := 59) (pc := 29) dX7_standsIn_29 (by decide) b24 ?_
        obtain ⟨t25, e26, h⟩ := rb_bd h
        refine ev_iload_n (v := s10.1) (pc := 32) dX7_standsIn_32 rfl ?_
        refine ev_aload_n (v := 19) (pc := 33) dX7_standsIn_33 rfl ?_
        refine ev_iload (v := s10.2) (pc := 34) dX7_standsIn_34 rfl ?_
        refine ev_iconst (v := 0) (pc := 36) dX7_standsIn_36 ki_0 ?_
        refine ev_cVi2 (pc := 37) dX7_standsIn_37 mv_X7_ofInterest lk_RX7_81 rp_19 (ct_X7_ofInterest _ _ _ _ _ rfl e26) (Nat.le_of_ble_eq_true rfl) (Nat.le_of_ble_eq_true rfl) ?_
        refine ev_ishr (pc := 40) dX7_standsIn_40 ?_
        refine ev_iconst (v := 1) (pc := 41) dX7_standsIn_41 ki_1 ?_
        refine ev_iand (pc := 42) dX7_standsIn_42 ?_
        refine ev_iconst (v := 1) (pc := 43) dX7_standsIn_43 ki_1 ?_
        by_cases b27 : ((s10.1 >>> (t25 &&& 31)) &&& 1) = 1
        · rw [if_pos b27] at h
          refine ev_icmp_ne_f (t := 59) (pc := 44) dX7_standsIn_44 (by decide) b27 ?_
          obtain ⟨t28, e29, h⟩ := rb_bd h
          refine ev_iload_n (v := s10.1) (pc := 47) dX7_standsIn_47 rfl ?_
          refine ev_iconst (v := 1) (pc := 48) dX7_standsIn_48 ki_1 ?_
          refine ev_aload_n (v := 19) (pc := 49) dX7_standsIn_49 rfl ?_
          refine ev_iload (v := s10.2) (pc := 50) dX7_standsIn_50 rfl ?_
          refine ev_iconst (v := 1) (pc := 52) dX7_standsIn_52 ki_1 ?_
          refine ev_cVi2 (pc := 53) dX7_standsIn_53 mv_X7_ofInterest lk_RX7_81 rp_19 (ct_X7_ofInterest _ _ _ _ _ rfl e29) (Nat.le_of_ble_eq_true rfl) (Nat.le_of_ble_eq_true rfl) ?_
          refine ev_ishl (pc := 56) dX7_standsIn_56 ?_
          refine ev_ior (pc := 57) dX7_standsIn_57 ?_
          refine ev_istore_n (L' := [some (.inr 19), some (.inl x0), none, some (.inl (s10.1 ||| (1 <<< (t28 &&& 31)))), some (.inl s1.2), some (.inl s10.2)]) (pc := 58) dX7_standsIn_58 (Nat.le_of_ble_eq_true rfl) rfl ?_
          obtain rfl := Option.some.inj h
          exact hj23
        · rw [if_neg b27] at h
          refine ev_icmp_ne_t (t := 59) (pc := 44) dX7_standsIn_44 (by decide) b27 ?_
          obtain rfl := Option.some.inj h
          exact hj23
def XX7_isTooDeep (be : rb_Row) (ab : rb_Row) (a : rb_Row) (x0 : Int32) (x1 : Int32) : Option (Int32 × rb_Row × rb_Row) := (XX7_kindOf a x1).bind fun t1 => if t1 = 4 then (XX7_layDepths be ab a).bind fun t4 => (XX7_standsIn a x0 x1).bind fun t6 => if t6 = 0 then (rb_rd t4.2 28 x0).bind fun v9 => (rb_rd t4.1 28 x1).bind fun v11 => if (v9 + v11) ≤ 3 then some ((rb_nz 0), t4.1, t4.2) else some ((rb_nz 1), t4.1, t4.2) else some ((rb_nz 1), t4.1, t4.2) else some ((rb_nz 0), be, ab)
set_option maxHeartbeats 4000000 in
set_option maxRecDepth 20000 in
theorem ct_X7_isTooDeep (μ : rb_Mem) (be : rb_Row) (ab : rb_Row) (a : rb_Row) (x0 : Int32) (x1 : Int32) (o : Int32 × rb_Row × rb_Row) (hbe : μ 27 = be) (hab : μ 28 = ab) (ha : μ 20 = a) (h : XX7_isTooDeep be ab a x0 x1 = some o) : rb_Ct yX7_isTooDeep cX7_isTooDeep 3 (some .boolean) 4 [.inr 19, .inl x0, .inl x1] μ (some o.1) (rb_ov μ [(27, o.2.1), (28, o.2.2)]) := by
  unfold XX7_isTooDeep at h
  have hini : rb_ov μ [(27, be), (28, ab), (20, a)] = μ := rb_ov_sf _ _ (And.intro hbe (And.intro hab (And.intro ha True.intro)))
  have hfin : ∀ u0 u1 : rb_Row, rb_ov μ [(27, u0), (28, u1), (20, a)] = rb_ov μ [(27, u0), (28, u1)] := fun u0 u1 => rb_ov_ap _ [(27, u0), (28, u1)] _ (And.intro ha True.intro)
  refine rb_ctz (w := [(27, be), (28, ab), (20, a)]) rfl pn_7 (Nat.le_of_ble_eq_true rfl) rfl hini ?_
  obtain ⟨t1, e2, h⟩ := rb_bd h
  refine ev_aload_n (v := 19) (pc := 0) dX7_isTooDeep_0 rfl ?_
  refine ev_iload_n (v := x1) (pc := 1) dX7_isTooDeep_1 rfl ?_
  refine ev_cVi1 (pc := 2) dX7_isTooDeep_2 mv_X7_kindOf lk_RX7_77 rp_19 (ct_X7_kindOf _ _ _ _ rfl e2) (Nat.le_of_ble_eq_true rfl) (Nat.le_of_ble_eq_true rfl) ?_
  refine ev_iconst (v := 4) (pc := 5) dX7_isTooDeep_5 ki_4 ?_
  by_cases b3 : t1 = 4
  · rw [if_pos b3] at h
    refine ev_icmp_eq_t (t := 11) (pc := 6) dX7_isTooDeep_6 (by decide) b3 ?_
    obtain ⟨t4, e5, h⟩ := rb_bd h
    obtain ⟨t6, e7, h⟩ := rb_bd h
    refine ev_aload_n (v := 19) (pc := 11) dX7_isTooDeep_11 rfl ?_
    refine ev_cVv0w (w' := [(27, t4.1), (28, t4.2), (20, a)]) (pc := 12) dX7_isTooDeep_12 mv_X7_layDepths lk_RX7_257 rp_19 (ct_X7_layDepths _ _ _ _ _ rfl rfl rfl e5) (Nat.le_of_ble_eq_true rfl) (Nat.le_of_ble_eq_true rfl) rfl ?_
    refine ev_aload_n (v := 19) (pc := 15) dX7_isTooDeep_15 rfl ?_
    refine ev_iload_n (v := x0) (pc := 16) dX7_isTooDeep_16 rfl ?_
    refine ev_iload_n (v := x1) (pc := 17) dX7_isTooDeep_17 rfl ?_
    refine ev_cVi2 (pc := 18) dX7_isTooDeep_18 mv_X7_standsIn lk_RX7_260 rp_19 (ct_X7_standsIn _ _ _ _ _ rfl e7) (Nat.le_of_ble_eq_true rfl) (Nat.le_of_ble_eq_true rfl) ?_
    by_cases b8 : t6 = 0
    · rw [if_pos b8] at h
      refine ev_if_ne_f (t := 41) (pc := 21) dX7_isTooDeep_21 (by decide) b8 ?_
      obtain ⟨v9, e10, h⟩ := rb_bd h
      obtain ⟨v11, e12, h⟩ := rb_bd h
      refine ev_aload_n (v := 19) (pc := 24) dX7_isTooDeep_24 rfl ?_
      refine ev_getr (q := 28) (pc := 25) dX7_isTooDeep_25 fl_RX7_35 rfl rfl ?_
      refine ev_iload_n (v := x0) (pc := 28) dX7_isTooDeep_28 rfl ?_
      refine ev_iald (pc := 29) dX7_isTooDeep_29 rfl e10 ?_
      refine ev_aload_n (v := 19) (pc := 30) dX7_isTooDeep_30 rfl ?_
      refine ev_getr (q := 27) (pc := 31) dX7_isTooDeep_31 fl_RX7_32 rfl rfl ?_
      refine ev_iload_n (v := x1) (pc := 34) dX7_isTooDeep_34 rfl ?_
      refine ev_iald (pc := 35) dX7_isTooDeep_35 rfl e12 ?_
      refine ev_iadd (pc := 36) dX7_isTooDeep_36 ?_
      refine ev_iconst (v := 3) (pc := 37) dX7_isTooDeep_37 ki_3 ?_
      by_cases b13 : (v9 + v11) ≤ 3
      · rw [if_pos b13] at h
        refine ev_icmp_le_t (t := 45) (pc := 38) dX7_isTooDeep_38 (by decide) b13 ?_
        refine ev_iconst (v := 0) (pc := 45) dX7_isTooDeep_45 ki_0 ?_
        obtain rfl := Option.some.inj h
        exact ev_iret (pc := 46) dX7_isTooDeep_46 rfl rfl rfl (hfin _ _)
      · rw [if_neg b13] at h
        refine ev_icmp_le_f (t := 45) (pc := 38) dX7_isTooDeep_38 (by decide) b13 ?_
        refine ev_iconst (v := 1) (pc := 41) dX7_isTooDeep_41 ki_1 ?_
        refine ev_goto (t := 46) (pc := 42) dX7_isTooDeep_42 (by decide) ?_
        obtain rfl := Option.some.inj h
        exact ev_iret (pc := 46) dX7_isTooDeep_46 rfl rfl rfl (hfin _ _)
    · rw [if_neg b8] at h
      refine ev_if_ne_t (t := 41) (pc := 21) dX7_isTooDeep_21 (by decide) b8 ?_
      refine ev_iconst (v := 1) (pc := 41) dX7_isTooDeep_41 ki_1 ?_
      refine ev_goto (t := 46) (pc := 42) dX7_isTooDeep_42 (by decide) ?_
      obtain rfl := Option.some.inj h
      exact ev_iret (pc := 46) dX7_isTooDeep_46 rfl rfl rfl (hfin _ _)
  · rw [if_neg b3] at h
    refine ev_icmp_eq_f (t := 11) (pc := 6) dX7_isTooDeep_6 (by decide) b3 ?_
    refine ev_iconst (v := 0) (pc := 9) dX7_isTooDeep_9 ki_0 ?_
    obtain rfl := Option.some.inj h
    exact ev_iret (pc := 10) dX7_isTooDeep_10 rfl rfl rfl (hfin _ _)
def XX7_isSuch (x0 : Int32) (x1 : Int32) : Option (Int32) := (XX7_isIn x0 0 3).bind fun t1 => if t1 = 0 then some (rb_nz 0) else (XX7_isIn x1 0 7).bind fun t4 => if t4 = 0 then some (rb_nz 0) else some (rb_nz 1)
set_option maxHeartbeats 4000000 in
set_option maxRecDepth 20000 in
theorem ct_X7_isSuch (μ : rb_Mem) (x0 : Int32) (x1 : Int32) (o : Int32) (h : XX7_isSuch x0 x1 = some o) : rb_Ct yX7_isSuch cX7_isSuch 2 (some .boolean) 1 [.inl x0, .inl x1] μ (some o) μ := by
  unfold XX7_isSuch at h
  have hini : rb_ov μ [] = μ := rfl
  have hfin := hini
  refine rb_ctz (w := []) rfl pn_7 (Nat.le_of_ble_eq_true rfl) rfl hini ?_
  obtain ⟨t1, e2, h⟩ := rb_bd h
  refine ev_iload_n (v := x0) (pc := 0) dX7_isSuch_0 rfl ?_
  refine ev_iconst (v := 0) (pc := 1) dX7_isSuch_1 ki_0 ?_
  refine ev_iconst (v := 3) (pc := 2) dX7_isSuch_2 ki_3 ?_
  refine ev_cSi3 (pc := 3) dX7_isSuch_3 ms_X7_isIn lk_RX7_69 (ct_X7_isIn _ _ _ _ _ e2) (Nat.le_of_ble_eq_true rfl) (Nat.le_of_ble_eq_true rfl) ?_
  by_cases b3 : t1 = 0
  · rw [if_pos b3] at h
    refine ev_if_eq_t (t := 23) (pc := 6) dX7_isSuch_6 (by decide) b3 ?_
    refine ev_iconst (v := 0) (pc := 23) dX7_isSuch_23 ki_0 ?_
    obtain rfl := Option.some.inj h
    exact ev_iret (pc := 24) dX7_isSuch_24 rfl rfl rfl hfin
  · rw [if_neg b3] at h
    refine ev_if_eq_f (t := 23) (pc := 6) dX7_isSuch_6 (by decide) b3 ?_
    obtain ⟨t4, e5, h⟩ := rb_bd h
    refine ev_iload_n (v := x1) (pc := 9) dX7_isSuch_9 rfl ?_
    refine ev_iconst (v := 0) (pc := 10) dX7_isSuch_10 ki_0 ?_
    refine ev_bipush (v := 7) (pc := 11) dX7_isSuch_11 kb_7 ?_
    refine ev_cSi3 (pc := 13) dX7_isSuch_13 ms_X7_isIn lk_RX7_69 (ct_X7_isIn _ _ _ _ _ e5) (Nat.le_of_ble_eq_true rfl) (Nat.le_of_ble_eq_true rfl) ?_
    by_cases b6 : t4 = 0
    · rw [if_pos b6] at h
      refine ev_if_eq_t (t := 23) (pc := 16) dX7_isSuch_16 (by decide) b6 ?_
      refine ev_iconst (v := 0) (pc := 23) dX7_isSuch_23 ki_0 ?_
      obtain rfl := Option.some.inj h
      exact ev_iret (pc := 24) dX7_isSuch_24 rfl rfl rfl hfin
    · rw [if_neg b6] at h
      refine ev_if_eq_f (t := 23) (pc := 16) dX7_isSuch_16 (by decide) b6 ?_
      refine ev_iconst (v := 1) (pc := 19) dX7_isSuch_19 ki_1 ?_
      refine ev_goto (t := 24) (pc := 20) dX7_isSuch_20 (by decide) ?_
      obtain rfl := Option.some.inj h
      exact ev_iret (pc := 24) dX7_isSuch_24 rfl rfl rfl hfin
def XX7_tell (a : rb_Row) (rd : rb_Row) (ag : rb_Row) (mf : rb_Row) (na : rb_Row) (nb : rb_Row) (nl : rb_Row) (sv : rb_Row) (x0 : Int32) (x1 : Int32) (x2 : Int32) : Option (rb_Row × rb_Row × rb_Row × rb_Row × rb_Row × rb_Row × rb_Row × rb_Row) := (XX7_interestAt x0 3).bind fun t1 => (rb_wr a 796 t1 x1).bind fun a3 => (XX7_interestAt x0 4).bind fun t5 => (rb_wr a3 796 t5 x2).bind fun a7 => (XX7_interestAt x0 5).bind fun t9 => (rb_wr a7 796 t9 1).bind fun a11 => (XX7_layReady rd a11).bind fun t13 => (XX7_isTrue a11 t13 x0).bind fun t15 => if t15 = 0 then some (a11, t13, ag, mf, na, nb, nl, sv) else (XX7_list a11 x0).bind fun t18 => (XX7_ofInterest t18 x0 0).bind fun t20 => (XX7_call t18 t13 ag mf na nb nl sv t20).bind fun t22 => some (t22.1, t22.2.1, t22.2.2.1, t22.2.2.2.1, t22.2.2.2.2.1, t22.2.2.2.2.2.1, t22.2.2.2.2.2.2.1, t22.2.2.2.2.2.2.2)
set_option maxHeartbeats 4000000 in
set_option maxRecDepth 20000 in
theorem ct_X7_tell (μ : rb_Mem) (a : rb_Row) (rd : rb_Row) (ag : rb_Row) (mf : rb_Row) (na : rb_Row) (nb : rb_Row) (nl : rb_Row) (sv : rb_Row) (x0 : Int32) (x1 : Int32) (x2 : Int32) (o : rb_Row × rb_Row × rb_Row × rb_Row × rb_Row × rb_Row × rb_Row × rb_Row) (ha : μ 20 = a) (hrd : μ 21 = rd) (hag : μ 22 = ag) (hmf : μ 19 = mf) (hna : μ 23 = na) (hnb : μ 24 = nb) (hnl : μ 25 = nl) (hsv : μ 26 = sv) (h : XX7_tell a rd ag mf na nb nl sv x0 x1 x2 = some o) : rb_Ct yX7_tell cX7_tell 4 none 11 [.inr 19, .inl x0, .inl x1, .inl x2] μ none (rb_ov μ [(20, o.1), (21, o.2.1), (22, o.2.2.1), (19, o.2.2.2.1), (23, o.2.2.2.2.1), (24, o.2.2.2.2.2.1), (25, o.2.2.2.2.2.2.1), (26, o.2.2.2.2.2.2.2)]) := by
  unfold XX7_tell at h
  have hini : rb_ov μ [(20, a), (21, rd), (22, ag), (19, mf), (23, na), (24, nb), (25, nl), (26, sv)] = μ := rb_ov_sf _ _ (And.intro ha (And.intro hrd (And.intro hag (And.intro hmf (And.intro hna (And.intro hnb (And.intro hnl (And.intro hsv True.intro))))))))
  have hfin : ∀ u0 u1 u2 u3 u4 u5 u6 u7 : rb_Row, rb_ov μ [(20, u0), (21, u1), (22, u2), (19, u3), (23, u4), (24, u5), (25, u6), (26, u7)] = rb_ov μ [(20, u0), (21, u1), (22, u2), (19, u3), (23, u4), (24, u5), (25, u6), (26, u7)] := fun u0 u1 u2 u3 u4 u5 u6 u7 => rfl
  refine rb_ctv (w := [(20, a), (21, rd), (22, ag), (19, mf), (23, na), (24, nb), (25, nl), (26, sv)]) rfl pn_7 (Nat.le_of_ble_eq_true rfl) rfl hini ?_
  obtain ⟨t1, e2, h⟩ := rb_bd h
  obtain ⟨a3, e4, h⟩ := rb_bd h
  obtain ⟨t5, e6, h⟩ := rb_bd h
  obtain ⟨a7, e8, h⟩ := rb_bd h
  obtain ⟨t9, e10, h⟩ := rb_bd h
  obtain ⟨a11, e12, h⟩ := rb_bd h
  obtain ⟨t13, e14, h⟩ := rb_bd h
  obtain ⟨t15, e16, h⟩ := rb_bd h
  refine ev_aload_n (v := 19) (pc := 0) dX7_tell_0 rfl ?_
  refine ev_getr (q := 20) (pc := 1) dX7_tell_1 fl_RX7_7 rfl rfl ?_
  refine ev_iload_n (v := x0) (pc := 4) dX7_tell_4 rfl ?_
  refine ev_iconst (v := 3) (pc := 5) dX7_tell_5 ki_3 ?_
  refine ev_cSi2 (pc := 6) dX7_tell_6 ms_X7_interestAt lk_RX7_60 (ct_X7_interestAt _ _ _ _ e2) (Nat.le_of_ble_eq_true rfl) (Nat.le_of_ble_eq_true rfl) ?_
  refine ev_iload_n (v := x1) (pc := 9) dX7_tell_9 rfl ?_
  refine ev_iast (w' := [(20, a3), (21, rd), (22, ag), (19, mf), (23, na), (24, nb), (25, nl), (26, sv)]) (pc := 10) dX7_tell_10 rfl e4 rfl ?_
  refine ev_aload_n (v := 19) (pc := 11) dX7_tell_11 rfl ?_
  refine ev_getr (q := 20) (pc := 12) dX7_tell_12 fl_RX7_7 rfl rfl ?_
  refine ev_iload_n (v := x0) (pc := 15) dX7_tell_15 rfl ?_
  refine ev_iconst (v := 4) (pc := 16) dX7_tell_16 ki_4 ?_
  refine ev_cSi2 (pc := 17) dX7_tell_17 ms_X7_interestAt lk_RX7_60 (ct_X7_interestAt _ _ _ _ e6) (Nat.le_of_ble_eq_true rfl) (Nat.le_of_ble_eq_true rfl) ?_
  refine ev_iload_n (v := x2) (pc := 20) dX7_tell_20 rfl ?_
  refine ev_iast (w' := [(20, a7), (21, rd), (22, ag), (19, mf), (23, na), (24, nb), (25, nl), (26, sv)]) (pc := 21) dX7_tell_21 rfl e8 rfl ?_
  refine ev_aload_n (v := 19) (pc := 22) dX7_tell_22 rfl ?_
  refine ev_getr (q := 20) (pc := 23) dX7_tell_23 fl_RX7_7 rfl rfl ?_
  refine ev_iload_n (v := x0) (pc := 26) dX7_tell_26 rfl ?_
  refine ev_iconst (v := 5) (pc := 27) dX7_tell_27 ki_5 ?_
  refine ev_cSi2 (pc := 28) dX7_tell_28 ms_X7_interestAt lk_RX7_60 (ct_X7_interestAt _ _ _ _ e10) (Nat.le_of_ble_eq_true rfl) (Nat.le_of_ble_eq_true rfl) ?_
  refine ev_iconst (v := 1) (pc := 31) dX7_tell_31 ki_1 ?_
  refine ev_iast (w' := [(20, a11), (21, rd), (22, ag), (19, mf), (23, na), (24, nb), (25, nl), (26, sv)]) (pc := 32) dX7_tell_32 rfl e12 rfl ?_
  refine ev_aload_n (v := 19) (pc := 33) dX7_tell_33 rfl ?_
  refine ev_cVv0w (w' := [(20, a11), (21, t13), (22, ag), (19, mf), (23, na), (24, nb), (25, nl), (26, sv)]) (pc := 34) dX7_tell_34 mv_X7_layReady lk_RX7_156 rp_19 (ct_X7_layReady _ _ _ _ rfl rfl e14) (Nat.le_of_ble_eq_true rfl) (Nat.le_of_ble_eq_true rfl) rfl ?_
  refine ev_aload_n (v := 19) (pc := 37) dX7_tell_37 rfl ?_
  refine ev_iload_n (v := x0) (pc := 38) dX7_tell_38 rfl ?_
  refine ev_cVi1 (pc := 39) dX7_tell_39 mv_X7_isTrue lk_RX7_140 rp_19 (ct_X7_isTrue _ _ _ _ _ rfl rfl e16) (Nat.le_of_ble_eq_true rfl) (Nat.le_of_ble_eq_true rfl) ?_
  by_cases b17 : t15 = 0
  · rw [if_pos b17] at h
    refine ev_if_ne_f (t := 46) (pc := 42) dX7_tell_42 (by decide) b17 ?_
    obtain rfl := Option.some.inj h
    exact ev_ret (pc := 45) dX7_tell_45 rfl rfl (hfin _ _ _ _ _ _ _ _)
  · rw [if_neg b17] at h
    refine ev_if_ne_t (t := 46) (pc := 42) dX7_tell_42 (by decide) b17 ?_
    obtain ⟨t18, e19, h⟩ := rb_bd h
    obtain ⟨t20, e21, h⟩ := rb_bd h
    obtain ⟨t22, e23, h⟩ := rb_bd h
    refine ev_aload_n (v := 19) (pc := 46) dX7_tell_46 rfl ?_
    refine ev_iload_n (v := x0) (pc := 47) dX7_tell_47 rfl ?_
    refine ev_cVv1w (w' := [(20, t18), (21, t13), (22, ag), (19, mf), (23, na), (24, nb), (25, nl), (26, sv)]) (pc := 48) dX7_tell_48 mv_X7_list lk_RX7_166 rp_19 (ct_X7_list _ _ _ _ rfl e19) (Nat.le_of_ble_eq_true rfl) (Nat.le_of_ble_eq_true rfl) rfl ?_
    refine ev_aload_n (v := 19) (pc := 51) dX7_tell_51 rfl ?_
    refine ev_aload_n (v := 19) (pc := 52) dX7_tell_52 rfl ?_
    refine ev_iload_n (v := x0) (pc := 53) dX7_tell_53 rfl ?_
    refine ev_iconst (v := 0) (pc := 54) dX7_tell_54 ki_0 ?_
    refine ev_cVi2 (pc := 55) dX7_tell_55 mv_X7_ofInterest lk_RX7_81 rp_19 (ct_X7_ofInterest _ _ _ _ _ rfl e21) (Nat.le_of_ble_eq_true rfl) (Nat.le_of_ble_eq_true rfl) ?_
    refine ev_cVv1w (w' := [(20, t22.1), (21, t22.2.1), (22, t22.2.2.1), (19, t22.2.2.2.1), (23, t22.2.2.2.2.1), (24, t22.2.2.2.2.2.1), (25, t22.2.2.2.2.2.2.1), (26, t22.2.2.2.2.2.2.2)]) (pc := 58) dX7_tell_58 mv_X7_call lk_RX7_281 rp_19 (ct_X7_call _ _ _ _ _ _ _ _ _ _ _ rfl rfl rfl rfl rfl rfl rfl rfl e23) (Nat.le_of_ble_eq_true rfl) (Nat.le_of_ble_eq_true rfl) rfl ?_
    obtain rfl := Option.some.inj h
    exact ev_ret (pc := 61) dX7_tell_61 rfl rfl (hfin _ _ _ _ _ _ _ _)
def XX7_add (a : rb_Row) (rd : rb_Row) (ag : rb_Row) (mf : rb_Row) (na : rb_Row) (nb : rb_Row) (nl : rb_Row) (sv : rb_Row) (be : rb_Row) (ab : rb_Row) (wa : rb_Row) (x0 : Int32) (x1 : Int32) (x2 : Int32) (x3 : Int32) : Option (Int32 × rb_Row × rb_Row × rb_Row × rb_Row × rb_Row × rb_Row × rb_Row × rb_Row × rb_Row × rb_Row × rb_Row) := (XX7_names a x0 4).bind fun t1 => if t1 = 0 then some ((-1), a, rd, ag, mf, na, nb, nl, sv, be, ab, wa) else (XX7_isHandle a x1).bind fun t4 => if t4 = 0 then some ((-1), a, rd, ag, mf, na, nb, nl, sv, be, ab, wa) else (rb_rd a 796 x0).bind fun v7 => (rb_rd a 796 x1).bind fun v9 => if v7 = v9 then some ((-1), a, rd, ag, mf, na, nb, nl, sv, be, ab, wa) else (XX7_isSuch x2 x3).bind fun t12 => if t12 = 0 then some ((-1), a, rd, ag, mf, na, nb, nl, sv, be, ab, wa) else (XX7_found a x0 x1).bind fun t15 => if t15 < 0 then (rb_rd a 796 x0).bind fun v18 => (rb_rd a 796 x1).bind fun v20 => (XX7_isTooDeep be ab a v18 v20).bind fun t22 => if t22.1 = 0 then (XX7_interestsNow a).bind fun t25 => if t25 = 24 then some ((-4), a, rd, ag, mf, na, nb, nl, sv, t22.2.1, t22.2.2, wa) else (XX7_keepAct mf wa a).bind fun t28 => (rb_lp (ρ := Int32) (fun (s30 : Int32) => (XX7_isInterest a s30).bind fun t38 => if t38 = 0 then some (.inr s30) else some (.inl (s30 + 1))) 100000 0).bind fun q31 => (XX7_interestAt q31 0).bind fun t41 => (rb_rd a 796 x0).bind fun v43 => (rb_wr a 796 t41 v43).bind fun a45 => (XX7_interestAt q31 1).bind fun t47 => (rb_rd a45 796 x1).bind fun v49 => (rb_wr a45 796 t47 v49).bind fun a51 => (XX7_interestAt q31 2).bind fun t53 => (rb_wr a51 796 t53 x1).bind fun a55 => (XX7_interestAt q31 6).bind fun t57 => (XX7_stamp a55).bind fun t59 => (rb_wr t59.2 796 t57 t59.1).bind fun a61 => (XX7_interestAt q31 7).bind fun t63 => (rb_wr a61 796 t63 0).bind fun a65 => (XX7_interestAt q31 8).bind fun t67 => (rb_wr a65 796 t67 0).bind fun a69 => (XX7_interestAt q31 9).bind fun t71 => (rb_wr a69 796 t71 0).bind fun a73 => (XX7_tell a73 rd ag t28.1 na nb nl sv q31 x2 x3).bind fun t75 => (rb_rd t75.1 796 x0).bind fun v77 => (XX7_heldBy t75.1 v77).bind fun t79 => some (t79, t75.1, t75.2.1, t75.2.2.1, t75.2.2.2.1, t75.2.2.2.2.1, t75.2.2.2.2.2.1, t75.2.2.2.2.2.2.1, t75.2.2.2.2.2.2.2, t22.2.1, t22.2.2, t28.2) else some ((-3), a, rd, ag, mf, na, nb, nl, sv, t22.2.1, t22.2.2, wa) else some ((-2), a, rd, ag, mf, na, nb, nl, sv, be, ab, wa)
set_option maxHeartbeats 4000000 in
set_option maxRecDepth 20000 in
theorem ct_X7_add (μ : rb_Mem) (a : rb_Row) (rd : rb_Row) (ag : rb_Row) (mf : rb_Row) (na : rb_Row) (nb : rb_Row) (nl : rb_Row) (sv : rb_Row) (be : rb_Row) (ab : rb_Row) (wa : rb_Row) (x0 : Int32) (x1 : Int32) (x2 : Int32) (x3 : Int32) (o : Int32 × rb_Row × rb_Row × rb_Row × rb_Row × rb_Row × rb_Row × rb_Row × rb_Row × rb_Row × rb_Row × rb_Row) (ha : μ 20 = a) (hrd : μ 21 = rd) (hag : μ 22 = ag) (hmf : μ 19 = mf) (hna : μ 23 = na) (hnb : μ 24 = nb) (hnl : μ 25 = nl) (hsv : μ 26 = sv) (hbe : μ 27 = be) (hab : μ 28 = ab) (hwa : μ 31 = wa) (h : XX7_add a rd ag mf na nb nl sv be ab wa x0 x1 x2 x3 = some o) : rb_Ct yX7_add cX7_add 6 (some .int) 12 [.inr 19, .inl x0, .inl x1, .inl x2, .inl x3] μ (some o.1) (rb_ov μ [(20, o.2.1), (21, o.2.2.1), (22, o.2.2.2.1), (19, o.2.2.2.2.1), (23, o.2.2.2.2.2.1), (24, o.2.2.2.2.2.2.1), (25, o.2.2.2.2.2.2.2.1), (26, o.2.2.2.2.2.2.2.2.1), (27, o.2.2.2.2.2.2.2.2.2.1), (28, o.2.2.2.2.2.2.2.2.2.2.1), (31, o.2.2.2.2.2.2.2.2.2.2.2)]) := by
  unfold XX7_add at h
  have hini : rb_ov μ [(20, a), (21, rd), (22, ag), (19, mf), (23, na), (24, nb), (25, nl), (26, sv), (27, be), (28, ab), (31, wa)] = μ := rb_ov_sf _ _ (And.intro ha (And.intro hrd (And.intro hag (And.intro hmf (And.intro hna (And.intro hnb (And.intro hnl (And.intro hsv (And.intro hbe (And.intro hab (And.intro hwa True.intro)))))))))))
  have hfin : ∀ u0 u1 u2 u3 u4 u5 u6 u7 u8 u9 u10 : rb_Row, rb_ov μ [(20, u0), (21, u1), (22, u2), (19, u3), (23, u4), (24, u5), (25, u6), (26, u7), (27, u8), (28, u9), (31, u10)] = rb_ov μ [(20, u0), (21, u1), (22, u2), (19, u3), (23, u4), (24, u5), (25, u6), (26, u7), (27, u8), (28, u9), (31, u10)] := fun u0 u1 u2 u3 u4 u5 u6 u7 u8 u9 u10 => rfl
  refine rb_cti (w := [(20, a), (21, rd), (22, ag), (19, mf), (23, na), (24, nb), (25, nl), (26, sv), (27, be), (28, ab), (31, wa)]) rfl pn_7 (Nat.le_of_ble_eq_true rfl) rfl hini ?_
  obtain ⟨t1, e2, h⟩ := rb_bd h
  refine ev_aload_n (v := 19) (pc := 0) dX7_add_0 rfl ?_
  refine ev_iload_n (v := x0) (pc := 1) dX7_add_1 rfl ?_
  refine ev_iconst (v := 4) (pc := 2) dX7_add_2 ki_4 ?_
  refine ev_cVi2 (pc := 3) dX7_add_3 mv_X7_names lk_RX7_110 rp_19 (ct_X7_names _ _ _ _ _ rfl e2) (Nat.le_of_ble_eq_true rfl) (Nat.le_of_ble_eq_true rfl) ?_
  by_cases b3 : t1 = 0
  · rw [if_pos b3] at h
    refine ev_if_eq_t (t := 41) (pc := 6) dX7_add_6 (by decide) b3 ?_
    refine ev_iconst (v := (-1)) (pc := 41) dX7_add_41 ki_m1 ?_
    obtain rfl := Option.some.inj h
    exact ev_iret (pc := 42) dX7_add_42 rfl rfl rfl (hfin _ _ _ _ _ _ _ _ _ _ _)
  · rw [if_neg b3] at h
    refine ev_if_eq_f (t := 41) (pc := 6) dX7_add_6 (by decide) b3 ?_
    obtain ⟨t4, e5, h⟩ := rb_bd h
    refine ev_aload_n (v := 19) (pc := 9) dX7_add_9 rfl ?_
    refine ev_iload_n (v := x1) (pc := 10) dX7_add_10 rfl ?_
    refine ev_cVi1 (pc := 11) dX7_add_11 mv_X7_isHandle lk_RX7_73 rp_19 (ct_X7_isHandle _ _ _ _ rfl e5) (Nat.le_of_ble_eq_true rfl) (Nat.le_of_ble_eq_true rfl) ?_
    by_cases b6 : t4 = 0
    · rw [if_pos b6] at h
      refine ev_if_eq_t (t := 41) (pc := 14) dX7_add_14 (by decide) b6 ?_
      refine ev_iconst (v := (-1)) (pc := 41) dX7_add_41 ki_m1 ?_
      obtain rfl := Option.some.inj h
      exact ev_iret (pc := 42) dX7_add_42 rfl rfl rfl (hfin _ _ _ _ _ _ _ _ _ _ _)
    · rw [if_neg b6] at h
      refine ev_if_eq_f (t := 41) (pc := 14) dX7_add_14 (by decide) b6 ?_
      obtain ⟨v7, e8, h⟩ := rb_bd h
      obtain ⟨v9, e10, h⟩ := rb_bd h
      refine ev_aload_n (v := 19) (pc := 17) dX7_add_17 rfl ?_
      refine ev_getr (q := 20) (pc := 18) dX7_add_18 fl_RX7_7 rfl rfl ?_
      refine ev_iload_n (v := x0) (pc := 21) dX7_add_21 rfl ?_
      refine ev_iald (pc := 22) dX7_add_22 rfl e8 ?_
      refine ev_aload_n (v := 19) (pc := 23) dX7_add_23 rfl ?_
      refine ev_getr (q := 20) (pc := 24) dX7_add_24 fl_RX7_7 rfl rfl ?_
      refine ev_iload_n (v := x1) (pc := 27) dX7_add_27 rfl ?_
      refine ev_iald (pc := 28) dX7_add_28 rfl e10 ?_
      by_cases b11 : v7 = v9
      · rw [if_pos b11] at h
        refine ev_icmp_eq_t (t := 41) (pc := 29) dX7_add_29 (by decide) b11 ?_
        refine ev_iconst (v := (-1)) (pc := 41) dX7_add_41 ki_m1 ?_
        obtain rfl := Option.some.inj h
        exact ev_iret (pc := 42) dX7_add_42 rfl rfl rfl (hfin _ _ _ _ _ _ _ _ _ _ _)
      · rw [if_neg b11] at h
        refine ev_icmp_eq_f (t := 41) (pc := 29) dX7_add_29 (by decide) b11 ?_
        obtain ⟨t12, e13, h⟩ := rb_bd h
        refine ev_iload_n (v := x2) (pc := 32) dX7_add_32 rfl ?_
        refine ev_iload (v := x3) (pc := 33) dX7_add_33 rfl ?_
        refine ev_cSi2 (pc := 35) dX7_add_35 ms_X7_isSuch lk_RX7_263 (ct_X7_isSuch _ _ _ _ e13) (Nat.le_of_ble_eq_true rfl) (Nat.le_of_ble_eq_true rfl) ?_
        by_cases b14 : t12 = 0
        · rw [if_pos b14] at h
          refine ev_if_ne_f (t := 43) (pc := 38) dX7_add_38 (by decide) b14 ?_
          refine ev_iconst (v := (-1)) (pc := 41) dX7_add_41 ki_m1 ?_
          obtain rfl := Option.some.inj h
          exact ev_iret (pc := 42) dX7_add_42 rfl rfl rfl (hfin _ _ _ _ _ _ _ _ _ _ _)
        · rw [if_neg b14] at h
          refine ev_if_ne_t (t := 43) (pc := 38) dX7_add_38 (by decide) b14 ?_
          obtain ⟨t15, e16, h⟩ := rb_bd h
          refine ev_aload_n (v := 19) (pc := 43) dX7_add_43 rfl ?_
          refine ev_iload_n (v := x0) (pc := 44) dX7_add_44 rfl ?_
          refine ev_iload_n (v := x1) (pc := 45) dX7_add_45 rfl ?_
          refine ev_cVi2 (pc := 46) dX7_add_46 mv_X7_found lk_RX7_266 rp_19 (ct_X7_found _ _ _ _ _ rfl e16) (Nat.le_of_ble_eq_true rfl) (Nat.le_of_ble_eq_true rfl) ?_
          by_cases b17 : t15 < 0
          · rw [if_pos b17] at h
            refine ev_if_lt_t (t := 55) (pc := 49) dX7_add_49 (by decide) b17 ?_
            obtain ⟨v18, e19, h⟩ := rb_bd h
            obtain ⟨v20, e21, h⟩ := rb_bd h
            obtain ⟨t22, e23, h⟩ := rb_bd h
            refine ev_aload_n (v := 19) (pc := 55) dX7_add_55 rfl ?_
            refine ev_aload_n (v := 19) (pc := 56) dX7_add_56 rfl ?_
            refine ev_getr (q := 20) (pc := 57) dX7_add_57 fl_RX7_7 rfl rfl ?_
            refine ev_iload_n (v := x0) (pc := 60) dX7_add_60 rfl ?_
            refine ev_iald (pc := 61) dX7_add_61 rfl e19 ?_
            refine ev_aload_n (v := 19) (pc := 62) dX7_add_62 rfl ?_
            refine ev_getr (q := 20) (pc := 63) dX7_add_63 fl_RX7_7 rfl rfl ?_
            refine ev_iload_n (v := x1) (pc := 66) dX7_add_66 rfl ?_
            refine ev_iald (pc := 67) dX7_add_67 rfl e21 ?_
            refine ev_cVi2w (w' := [(20, a), (21, rd), (22, ag), (19, mf), (23, na), (24, nb), (25, nl), (26, sv), (27, t22.2.1), (28, t22.2.2), (31, wa)]) (pc := 68) dX7_add_68 mv_X7_isTooDeep lk_RX7_269 rp_19 (ct_X7_isTooDeep _ _ _ _ _ _ _ rfl rfl rfl e23) (Nat.le_of_ble_eq_true rfl) (Nat.le_of_ble_eq_true rfl) rfl ?_
            by_cases b24 : t22.1 = 0
            · rw [if_pos b24] at h
              refine ev_if_eq_t (t := 77) (pc := 71) dX7_add_71 (by decide) b24 ?_
              obtain ⟨t25, e26, h⟩ := rb_bd h
              refine ev_aload_n (v := 19) (pc := 77) dX7_add_77 rfl ?_
              refine ev_cVi0 (pc := 78) dX7_add_78 mv_X7_interestsNow lk_RX7_272 rp_19 (ct_X7_interestsNow _ _ _ rfl e26) (Nat.le_of_ble_eq_true rfl) (Nat.le_of_ble_eq_true rfl) ?_
              refine ev_bipush (v := 24) (pc := 81) dX7_add_81 kb_24 ?_
              by_cases b27 : t25 = 24
              · rw [if_pos b27] at h
                refine ev_icmp_ne_f (t := 89) (pc := 83) dX7_add_83 (by decide) b27 ?_
                refine ev_bipush (v := (-4)) (pc := 86) dX7_add_86 kb_m4 ?_
                obtain rfl := Option.some.inj h
                exact ev_iret (pc := 88) dX7_add_88 rfl rfl rfl (hfin _ _ _ _ _ _ _ _ _ _ _)
              · rw [if_neg b27] at h
                refine ev_icmp_ne_t (t := 89) (pc := 83) dX7_add_83 (by decide) b27 ?_
                obtain ⟨t28, e29, h⟩ := rb_bd h
                refine ev_aload_n (v := 19) (pc := 89) dX7_add_89 rfl ?_
                refine ev_cVv0w (w' := [(20, a), (21, rd), (22, ag), (19, t28.1), (23, na), (24, nb), (25, nl), (26, sv), (27, t22.2.1), (28, t22.2.2), (31, t28.2)]) (pc := 90) dX7_add_90 mv_X7_keepAct lk_RX7_101 rp_19 (ct_X7_keepAct _ _ _ _ _ rfl rfl rfl e29) (Nat.le_of_ble_eq_true rfl) (Nat.le_of_ble_eq_true rfl) rfl ?_
                refine ev_iconst (v := 0) (pc := 93) dX7_add_93 ki_0 ?_
                refine ev_istore (L' := [some (.inr 19), some (.inl x0), some (.inl x1), some (.inl x2), some (.inl x3), some (.inl 0)]) (pc := 94) dX7_add_94 (Nat.le_of_ble_eq_true rfl) rfl ?_
                obtain ⟨q31, l32, h⟩ := rb_bd h
                have hx36 : rb_Ev RX7 cX7_add 6 (some .int) none 12 (some o.1) (rb_ov μ [(20, o.2.1), (21, o.2.2.1), (22, o.2.2.2.1), (19, o.2.2.2.2.1), (23, o.2.2.2.2.2.1), (24, o.2.2.2.2.2.2.1), (25, o.2.2.2.2.2.2.2.1), (26, o.2.2.2.2.2.2.2.2.1), (27, o.2.2.2.2.2.2.2.2.2.1), (28, o.2.2.2.2.2.2.2.2.2.2.1), (31, o.2.2.2.2.2.2.2.2.2.2.2)]) 111 [some (.inr 19), some (.inl x0), some (.inl x1), some (.inl x2), some (.inl x3), some (.inl q31)] [] (rb_ov μ [(20, a), (21, rd), (22, ag), (19, t28.1), (23, na), (24, nb), (25, nl), (26, sv), (27, t22.2.1), (28, t22.2.2), (31, t28.2)]) := by
                  obtain ⟨t41, e42, h⟩ := rb_bd h
                  obtain ⟨v43, e44, h⟩ := rb_bd h
                  obtain ⟨a45, e46, h⟩ := rb_bd h
                  obtain ⟨t47, e48, h⟩ := rb_bd h
                  obtain ⟨v49, e50, h⟩ := rb_bd h
                  obtain ⟨a51, e52, h⟩ := rb_bd h
                  obtain ⟨t53, e54, h⟩ := rb_bd h
                  obtain ⟨a55, e56, h⟩ := rb_bd h
                  obtain ⟨t57, e58, h⟩ := rb_bd h
                  obtain ⟨t59, e60, h⟩ := rb_bd h
                  obtain ⟨a61, e62, h⟩ := rb_bd h
                  obtain ⟨t63, e64, h⟩ := rb_bd h
                  obtain ⟨a65, e66, h⟩ := rb_bd h
                  obtain ⟨t67, e68, h⟩ := rb_bd h
                  obtain ⟨a69, e70, h⟩ := rb_bd h
                  obtain ⟨t71, e72, h⟩ := rb_bd h
                  obtain ⟨a73, e74, h⟩ := rb_bd h
                  obtain ⟨t75, e76, h⟩ := rb_bd h
                  obtain ⟨v77, e78, h⟩ := rb_bd h
                  obtain ⟨t79, e80, h⟩ := rb_bd h
                  refine ev_aload_n (v := 19) (pc := 111) dX7_add_111 rfl ?_
                  refine ev_getr (q := 20) (pc := 112) dX7_add_112 fl_RX7_7 rfl rfl ?_
                  refine ev_iload (v := q31) (pc := 115) dX7_add_115 rfl ?_
                  refine ev_iconst (v := 0) (pc := 117) dX7_add_117 ki_0 ?_
                  refine ev_cSi2 (pc := 118) dX7_add_118 ms_X7_interestAt lk_RX7_60 (ct_X7_interestAt _ _ _ _ e42) (Nat.le_of_ble_eq_true rfl) (Nat.le_of_ble_eq_true rfl) ?_
                  refine ev_aload_n (v := 19) (pc := 121) dX7_add_121 rfl ?_
                  refine ev_getr (q := 20) (pc := 122) dX7_add_122 fl_RX7_7 rfl rfl ?_
                  refine ev_iload_n (v := x0) (pc := 125) dX7_add_125 rfl ?_
                  refine ev_iald (pc := 126) dX7_add_126 rfl e44 ?_
                  refine ev_iast (w' := [(20, a45), (21, rd), (22, ag), (19, t28.1), (23, na), (24, nb), (25, nl), (26, sv), (27, t22.2.1), (28, t22.2.2), (31, t28.2)]) (pc := 127) dX7_add_127 rfl e46 rfl ?_
                  refine ev_aload_n (v := 19) (pc := 128) dX7_add_128 rfl ?_
                  refine ev_getr (q := 20) (pc := 129) dX7_add_129 fl_RX7_7 rfl rfl ?_
                  refine ev_iload (v := q31) (pc := 132) dX7_add_132 rfl ?_
                  refine ev_iconst (v := 1) (pc := 134) dX7_add_134 ki_1 ?_
                  refine ev_cSi2 (pc := 135) dX7_add_135 ms_X7_interestAt lk_RX7_60 (ct_X7_interestAt _ _ _ _ e48) (Nat.le_of_ble_eq_true rfl) (Nat.le_of_ble_eq_true rfl) ?_
                  refine ev_aload_n (v := 19) (pc := 138) dX7_add_138 rfl ?_
                  refine ev_getr (q := 20) (pc := 139) dX7_add_139 fl_RX7_7 rfl rfl ?_
                  refine ev_iload_n (v := x1) (pc := 142) dX7_add_142 rfl ?_
                  refine ev_iald (pc := 143) dX7_add_143 rfl e50 ?_
                  refine ev_iast (w' := [(20, a51), (21, rd), (22, ag), (19, t28.1), (23, na), (24, nb), (25, nl), (26, sv), (27, t22.2.1), (28, t22.2.2), (31, t28.2)]) (pc := 144) dX7_add_144 rfl e52 rfl ?_
                  refine ev_aload_n (v := 19) (pc := 145) dX7_add_145 rfl ?_
                  refine ev_getr (q := 20) (pc := 146) dX7_add_146 fl_RX7_7 rfl rfl ?_
                  refine ev_iload (v := q31) (pc := 149) dX7_add_149 rfl ?_
                  refine ev_iconst (v := 2) (pc := 151) dX7_add_151 ki_2 ?_
                  refine ev_cSi2 (pc := 152) dX7_add_152 ms_X7_interestAt lk_RX7_60 (ct_X7_interestAt _ _ _ _ e54) (Nat.le_of_ble_eq_true rfl) (Nat.le_of_ble_eq_true rfl) ?_
                  refine ev_iload_n (v := x1) (pc := 155) dX7_add_155 rfl ?_
                  refine ev_iast (w' := [(20, a55), (21, rd), (22, ag), (19, t28.1), (23, na), (24, nb), (25, nl), (26, sv), (27, t22.2.1), (28, t22.2.2), (31, t28.2)]) (pc := 156) dX7_add_156 rfl e56 rfl ?_
                  refine ev_aload_n (v := 19) (pc := 157) dX7_add_157 rfl ?_
                  refine ev_getr (q := 20) (pc := 158) dX7_add_158 fl_RX7_7 rfl rfl ?_
                  refine ev_iload (v := q31) (pc := 161) dX7_add_161 rfl ?_
                  refine ev_bipush (v := 6) (pc := 163) dX7_add_163 kb_6 ?_
                  refine ev_cSi2 (pc := 165) dX7_add_165 ms_X7_interestAt lk_RX7_60 (ct_X7_interestAt _ _ _ _ e58) (Nat.le_of_ble_eq_true rfl) (Nat.le_of_ble_eq_true rfl) ?_
                  refine ev_aload_n (v := 19) (pc := 168) dX7_add_168 rfl ?_
                  refine ev_cVi0w (w' := [(20, t59.2), (21, rd), (22, ag), (19, t28.1), (23, na), (24, nb), (25, nl), (26, sv), (27, t22.2.1), (28, t22.2.2), (31, t28.2)]) (pc := 169) dX7_add_169 mv_X7_stamp lk_RX7_117 rp_19 (ct_X7_stamp _ _ _ rfl e60) (Nat.le_of_ble_eq_true rfl) (Nat.le_of_ble_eq_true rfl) rfl ?_
                  refine ev_iast (w' := [(20, a61), (21, rd), (22, ag), (19, t28.1), (23, na), (24, nb), (25, nl), (26, sv), (27, t22.2.1), (28, t22.2.2), (31, t28.2)]) (pc := 172) dX7_add_172 rfl e62 rfl ?_
                  refine ev_aload_n (v := 19) (pc := 173) dX7_add_173 rfl ?_
                  refine ev_getr (q := 20) (pc := 174) dX7_add_174 fl_RX7_7 rfl rfl ?_
                  refine ev_iload (v := q31) (pc := 177) dX7_add_177 rfl ?_
                  refine ev_bipush (v := 7) (pc := 179) dX7_add_179 kb_7 ?_
                  refine ev_cSi2 (pc := 181) dX7_add_181 ms_X7_interestAt lk_RX7_60 (ct_X7_interestAt _ _ _ _ e64) (Nat.le_of_ble_eq_true rfl) (Nat.le_of_ble_eq_true rfl) ?_
                  refine ev_iconst (v := 0) (pc := 184) dX7_add_184 ki_0 ?_
                  refine ev_iast (w' := [(20, a65), (21, rd), (22, ag), (19, t28.1), (23, na), (24, nb), (25, nl), (26, sv), (27, t22.2.1), (28, t22.2.2), (31, t28.2)]) (pc := 185) dX7_add_185 rfl e66 rfl ?_
                  refine ev_aload_n (v := 19) (pc := 186) dX7_add_186 rfl ?_
                  refine ev_getr (q := 20) (pc := 187) dX7_add_187 fl_RX7_7 rfl rfl ?_
                  refine ev_iload (v := q31) (pc := 190) dX7_add_190 rfl ?_
                  refine ev_bipush (v := 8) (pc := 192) dX7_add_192 kb_8 ?_
                  refine ev_cSi2 (pc := 194) dX7_add_194 ms_X7_interestAt lk_RX7_60 (ct_X7_interestAt _ _ _ _ e68) (Nat.le_of_ble_eq_true rfl) (Nat.le_of_ble_eq_true rfl) ?_
                  refine ev_iconst (v := 0) (pc := 197) dX7_add_197 ki_0 ?_
                  refine ev_iast (w' := [(20, a69), (21, rd), (22, ag), (19, t28.1), (23, na), (24, nb), (25, nl), (26, sv), (27, t22.2.1), (28, t22.2.2), (31, t28.2)]) (pc := 198) dX7_add_198 rfl e70 rfl ?_
                  refine ev_aload_n (v := 19) (pc := 199) dX7_add_199 rfl ?_
                  refine ev_getr (q := 20) (pc := 200) dX7_add_200 fl_RX7_7 rfl rfl ?_
                  refine ev_iload (v := q31) (pc := 203) dX7_add_203 rfl ?_
                  refine ev_bipush (v := 9) (pc := 205) dX7_add_205 kb_9 ?_
                  refine ev_cSi2 (pc := 207) dX7_add_207 ms_X7_interestAt lk_RX7_60 (ct_X7_interestAt _ _ _ _ e72) (Nat.le_of_ble_eq_true rfl) (Nat.le_of_ble_eq_true rfl) ?_
                  refine ev_iconst (v := 0) (pc := 210) dX7_add_210 ki_0 ?_
                  refine ev_iast (w' := [(20, a73), (21, rd), (22, ag), (19, t28.1), (23, na), (24, nb), (25, nl), (26, sv), (27, t22.2.1), (28, t22.2.2), (31, t28.2)]) (pc := 211) dX7_add_211 rfl e74 rfl ?_
                  refine ev_aload_n (v := 19) (pc := 212) dX7_add_212 rfl ?_
                  refine ev_iload (v := q31) (pc := 213) dX7_add_213 rfl ?_
                  refine ev_iload_n (v := x2) (pc := 215) dX7_add_215 rfl ?_
                  refine ev_iload (v := x3) (pc := 216) dX7_add_216 rfl ?_
                  refine ev_cVv3w (w' := [(20, t75.1), (21, t75.2.1), (22, t75.2.2.1), (19, t75.2.2.2.1), (23, t75.2.2.2.2.1), (24, t75.2.2.2.2.2.1), (25, t75.2.2.2.2.2.2.1), (26, t75.2.2.2.2.2.2.2), (27, t22.2.1), (28, t22.2.2), (31, t28.2)]) (pc := 218) dX7_add_218 mv_X7_tell lk_RX7_275 rp_19 (ct_X7_tell _ _ _ _ _ _ _ _ _ _ _ _ _ rfl rfl rfl rfl rfl rfl rfl rfl e76) (Nat.le_of_ble_eq_true rfl) (Nat.le_of_ble_eq_true rfl) rfl ?_
                  refine ev_aload_n (v := 19) (pc := 221) dX7_add_221 rfl ?_
                  refine ev_aload_n (v := 19) (pc := 222) dX7_add_222 rfl ?_
                  refine ev_getr (q := 20) (pc := 223) dX7_add_223 fl_RX7_7 rfl rfl ?_
                  refine ev_iload_n (v := x0) (pc := 226) dX7_add_226 rfl ?_
                  refine ev_iald (pc := 227) dX7_add_227 rfl e78 ?_
                  refine ev_cVi1 (pc := 228) dX7_add_228 mv_X7_heldBy lk_RX7_278 rp_19 (ct_X7_heldBy _ _ _ _ rfl e80) (Nat.le_of_ble_eq_true rfl) (Nat.le_of_ble_eq_true rfl) ?_
                  obtain rfl := Option.some.inj h
                  exact ev_iret (pc := 231) dX7_add_231 rfl rfl rfl (hfin _ _ _ _ _ _ _ _ _ _ _)
                refine rb_lp_ev (P := fun (s30 : Int32) => rb_Ev RX7 cX7_add 6 (some .int) none 12 (some o.1) (rb_ov μ [(20, o.2.1), (21, o.2.2.1), (22, o.2.2.2.1), (19, o.2.2.2.2.1), (23, o.2.2.2.2.2.1), (24, o.2.2.2.2.2.2.1), (25, o.2.2.2.2.2.2.2.1), (26, o.2.2.2.2.2.2.2.2.1), (27, o.2.2.2.2.2.2.2.2.2.1), (28, o.2.2.2.2.2.2.2.2.2.2.1), (31, o.2.2.2.2.2.2.2.2.2.2.2)]) 96 [some (.inr 19), some (.inl x0), some (.inl x1), some (.inl x2), some (.inl x3), some (.inl s30)] [] (rb_ov μ [(20, a), (21, rd), (22, ag), (19, t28.1), (23, na), (24, nb), (25, nl), (26, sv), (27, t22.2.1), (28, t22.2.2), (31, t28.2)])) ?_ 100000 0 l32
                intro s30 y33 h ih34 hE35
                obtain ⟨t38, e39, h⟩ := rb_bd h
                refine ev_aload_n (v := 19) (pc := 96) dX7_add_96 rfl ?_
                refine ev_iload (v := s30) (pc := 97) dX7_add_97 rfl ?_
                refine ev_cVi1 (pc := 99) dX7_add_99 mv_X7_isInterest lk_RX7_149 rp_19 (ct_X7_isInterest _ _ _ _ rfl e39) (Nat.le_of_ble_eq_true rfl) (Nat.le_of_ble_eq_true rfl) ?_
                by_cases b40 : t38 = 0
                · rw [if_pos b40] at h
                  refine ev_if_eq_t (t := 111) (pc := 102) dX7_add_102 (by decide) b40 ?_
                  obtain rfl := Option.some.inj h
                  obtain rfl := hE35 _ rfl
                  exact hx36
                · rw [if_neg b40] at h
                  refine ev_if_eq_f (t := 111) (pc := 102) dX7_add_102 (by decide) b40 ?_
                  refine ev_iinc (x := s30) (v := (s30 + 1)) (L' := [some (.inr 19), some (.inl x0), some (.inl x1), some (.inl x2), some (.inl x3), some (.inl (s30 + 1))]) (pc := 105) dX7_add_105 rfl (kx_1 _) (Nat.le_of_ble_eq_true rfl) rfl ?_
                  refine ev_goto (t := 96) (pc := 108) dX7_add_108 (by decide) ?_
                  obtain rfl := Option.some.inj h
                  exact ih34 (s30 + 1) rfl
            · rw [if_neg b24] at h
              refine ev_if_eq_f (t := 77) (pc := 71) dX7_add_71 (by decide) b24 ?_
              refine ev_bipush (v := (-3)) (pc := 74) dX7_add_74 kb_m3 ?_
              obtain rfl := Option.some.inj h
              exact ev_iret (pc := 76) dX7_add_76 rfl rfl rfl (hfin _ _ _ _ _ _ _ _ _ _ _)
          · rw [if_neg b17] at h
            refine ev_if_lt_f (t := 55) (pc := 49) dX7_add_49 (by decide) b17 ?_
            refine ev_bipush (v := (-2)) (pc := 52) dX7_add_52 kb_m2 ?_
            obtain rfl := Option.some.inj h
            exact ev_iret (pc := 54) dX7_add_54 rfl rfl rfl (hfin _ _ _ _ _ _ _ _ _ _ _)
def XX7_change (a : rb_Row) (rd : rb_Row) (ag : rb_Row) (mf : rb_Row) (na : rb_Row) (nb : rb_Row) (nl : rb_Row) (sv : rb_Row) (wa : rb_Row) (x0 : Int32) (x1 : Int32) (x2 : Int32) (x3 : Int32) : Option (Int32 × rb_Row × rb_Row × rb_Row × rb_Row × rb_Row × rb_Row × rb_Row × rb_Row × rb_Row) := (XX7_found a x0 x1).bind fun t1 => if t1 < 0 then some ((rb_nz 0), a, rd, ag, mf, na, nb, nl, sv, wa) else (XX7_isSuch x2 x3).bind fun t4 => if t4 = 0 then some ((rb_nz 0), a, rd, ag, mf, na, nb, nl, sv, wa) else (XX7_keepAct mf wa a).bind fun t7 => (XX7_tell a rd ag t7.1 na nb nl sv t1 x2 x3).bind fun t9 => some ((rb_nz 1), t9.1, t9.2.1, t9.2.2.1, t9.2.2.2.1, t9.2.2.2.2.1, t9.2.2.2.2.2.1, t9.2.2.2.2.2.2.1, t9.2.2.2.2.2.2.2, t7.2)
set_option maxHeartbeats 4000000 in
set_option maxRecDepth 20000 in
theorem ct_X7_change (μ : rb_Mem) (a : rb_Row) (rd : rb_Row) (ag : rb_Row) (mf : rb_Row) (na : rb_Row) (nb : rb_Row) (nl : rb_Row) (sv : rb_Row) (wa : rb_Row) (x0 : Int32) (x1 : Int32) (x2 : Int32) (x3 : Int32) (o : Int32 × rb_Row × rb_Row × rb_Row × rb_Row × rb_Row × rb_Row × rb_Row × rb_Row × rb_Row) (ha : μ 20 = a) (hrd : μ 21 = rd) (hag : μ 22 = ag) (hmf : μ 19 = mf) (hna : μ 23 = na) (hnb : μ 24 = nb) (hnl : μ 25 = nl) (hsv : μ 26 = sv) (hwa : μ 31 = wa) (h : XX7_change a rd ag mf na nb nl sv wa x0 x1 x2 x3 = some o) : rb_Ct yX7_change cX7_change 6 (some .boolean) 12 [.inr 19, .inl x0, .inl x1, .inl x2, .inl x3] μ (some o.1) (rb_ov μ [(20, o.2.1), (21, o.2.2.1), (22, o.2.2.2.1), (19, o.2.2.2.2.1), (23, o.2.2.2.2.2.1), (24, o.2.2.2.2.2.2.1), (25, o.2.2.2.2.2.2.2.1), (26, o.2.2.2.2.2.2.2.2.1), (31, o.2.2.2.2.2.2.2.2.2)]) := by
  unfold XX7_change at h
  have hini : rb_ov μ [(20, a), (21, rd), (22, ag), (19, mf), (23, na), (24, nb), (25, nl), (26, sv), (31, wa)] = μ := rb_ov_sf _ _ (And.intro ha (And.intro hrd (And.intro hag (And.intro hmf (And.intro hna (And.intro hnb (And.intro hnl (And.intro hsv (And.intro hwa True.intro)))))))))
  have hfin : ∀ u0 u1 u2 u3 u4 u5 u6 u7 u8 : rb_Row, rb_ov μ [(20, u0), (21, u1), (22, u2), (19, u3), (23, u4), (24, u5), (25, u6), (26, u7), (31, u8)] = rb_ov μ [(20, u0), (21, u1), (22, u2), (19, u3), (23, u4), (24, u5), (25, u6), (26, u7), (31, u8)] := fun u0 u1 u2 u3 u4 u5 u6 u7 u8 => rfl
  refine rb_ctz (w := [(20, a), (21, rd), (22, ag), (19, mf), (23, na), (24, nb), (25, nl), (26, sv), (31, wa)]) rfl pn_7 (Nat.le_of_ble_eq_true rfl) rfl hini ?_
  obtain ⟨t1, e2, h⟩ := rb_bd h
  refine ev_aload_n (v := 19) (pc := 0) dX7_change_0 rfl ?_
  refine ev_iload_n (v := x0) (pc := 1) dX7_change_1 rfl ?_
  refine ev_iload_n (v := x1) (pc := 2) dX7_change_2 rfl ?_
  refine ev_cVi2 (pc := 3) dX7_change_3 mv_X7_found lk_RX7_266 rp_19 (ct_X7_found _ _ _ _ _ rfl e2) (Nat.le_of_ble_eq_true rfl) (Nat.le_of_ble_eq_true rfl) ?_
  refine ev_istore (L' := [some (.inr 19), some (.inl x0), some (.inl x1), some (.inl x2), some (.inl x3), some (.inl t1)]) (pc := 6) dX7_change_6 (Nat.le_of_ble_eq_true rfl) rfl ?_
  refine ev_iload (v := t1) (pc := 8) dX7_change_8 rfl ?_
  by_cases b3 : t1 < 0
  · rw [if_pos b3] at h
    refine ev_if_lt_t (t := 22) (pc := 10) dX7_change_10 (by decide) b3 ?_
    refine ev_iconst (v := 0) (pc := 22) dX7_change_22 ki_0 ?_
    obtain rfl := Option.some.inj h
    exact ev_iret (pc := 23) dX7_change_23 rfl rfl rfl (hfin _ _ _ _ _ _ _ _ _)
  · rw [if_neg b3] at h
    refine ev_if_lt_f (t := 22) (pc := 10) dX7_change_10 (by decide) b3 ?_
    obtain ⟨t4, e5, h⟩ := rb_bd h
    refine ev_iload_n (v := x2) (pc := 13) dX7_change_13 rfl ?_
    refine ev_iload (v := x3) (pc := 14) dX7_change_14 rfl ?_
    refine ev_cSi2 (pc := 16) dX7_change_16 ms_X7_isSuch lk_RX7_263 (ct_X7_isSuch _ _ _ _ e5) (Nat.le_of_ble_eq_true rfl) (Nat.le_of_ble_eq_true rfl) ?_
    by_cases b6 : t4 = 0
    · rw [if_pos b6] at h
      refine ev_if_ne_f (t := 24) (pc := 19) dX7_change_19 (by decide) b6 ?_
      refine ev_iconst (v := 0) (pc := 22) dX7_change_22 ki_0 ?_
      obtain rfl := Option.some.inj h
      exact ev_iret (pc := 23) dX7_change_23 rfl rfl rfl (hfin _ _ _ _ _ _ _ _ _)
    · rw [if_neg b6] at h
      refine ev_if_ne_t (t := 24) (pc := 19) dX7_change_19 (by decide) b6 ?_
      obtain ⟨t7, e8, h⟩ := rb_bd h
      obtain ⟨t9, e10, h⟩ := rb_bd h
      refine ev_aload_n (v := 19) (pc := 24) dX7_change_24 rfl ?_
      refine ev_cVv0w (w' := [(20, a), (21, rd), (22, ag), (19, t7.1), (23, na), (24, nb), (25, nl), (26, sv), (31, t7.2)]) (pc := 25) dX7_change_25 mv_X7_keepAct lk_RX7_101 rp_19 (ct_X7_keepAct _ _ _ _ _ rfl rfl rfl e8) (Nat.le_of_ble_eq_true rfl) (Nat.le_of_ble_eq_true rfl) rfl ?_
      refine ev_aload_n (v := 19) (pc := 28) dX7_change_28 rfl ?_
      refine ev_iload (v := t1) (pc := 29) dX7_change_29 rfl ?_
      refine ev_iload_n (v := x2) (pc := 31) dX7_change_31 rfl ?_
      refine ev_iload (v := x3) (pc := 32) dX7_change_32 rfl ?_
      refine ev_cVv3w (w' := [(20, t9.1), (21, t9.2.1), (22, t9.2.2.1), (19, t9.2.2.2.1), (23, t9.2.2.2.2.1), (24, t9.2.2.2.2.2.1), (25, t9.2.2.2.2.2.2.1), (26, t9.2.2.2.2.2.2.2), (31, t7.2)]) (pc := 34) dX7_change_34 mv_X7_tell lk_RX7_275 rp_19 (ct_X7_tell _ _ _ _ _ _ _ _ _ _ _ _ _ rfl rfl rfl rfl rfl rfl rfl rfl e10) (Nat.le_of_ble_eq_true rfl) (Nat.le_of_ble_eq_true rfl) rfl ?_
      refine ev_iconst (v := 1) (pc := 37) dX7_change_37 ki_1 ?_
      obtain rfl := Option.some.inj h
      exact ev_iret (pc := 38) dX7_change_38 rfl rfl rfl (hfin _ _ _ _ _ _ _ _ _)
def XX7_changeAsIs (a : rb_Row) (rd : rb_Row) (ag : rb_Row) (mf : rb_Row) (na : rb_Row) (nb : rb_Row) (nl : rb_Row) (sv : rb_Row) (x0 : Int32) (x1 : Int32) : Option (Int32 × rb_Row × rb_Row × rb_Row × rb_Row × rb_Row × rb_Row × rb_Row × rb_Row) := (XX7_found a x0 x1).bind fun t1 => if 0 ≤ t1 then (XX7_ofInterest a t1 3).bind fun t4 => (XX7_ofInterest a t1 4).bind fun t6 => (XX7_tell a rd ag mf na nb nl sv t1 t4 t6).bind fun t8 => some ((rb_nz 1), t8.1, t8.2.1, t8.2.2.1, t8.2.2.2.1, t8.2.2.2.2.1, t8.2.2.2.2.2.1, t8.2.2.2.2.2.2.1, t8.2.2.2.2.2.2.2) else some ((rb_nz 0), a, rd, ag, mf, na, nb, nl, sv)
set_option maxHeartbeats 4000000 in
set_option maxRecDepth 20000 in
theorem ct_X7_changeAsIs (μ : rb_Mem) (a : rb_Row) (rd : rb_Row) (ag : rb_Row) (mf : rb_Row) (na : rb_Row) (nb : rb_Row) (nl : rb_Row) (sv : rb_Row) (x0 : Int32) (x1 : Int32) (o : Int32 × rb_Row × rb_Row × rb_Row × rb_Row × rb_Row × rb_Row × rb_Row × rb_Row) (ha : μ 20 = a) (hrd : μ 21 = rd) (hag : μ 22 = ag) (hmf : μ 19 = mf) (hna : μ 23 = na) (hnb : μ 24 = nb) (hnl : μ 25 = nl) (hsv : μ 26 = sv) (h : XX7_changeAsIs a rd ag mf na nb nl sv x0 x1 = some o) : rb_Ct yX7_changeAsIs cX7_changeAsIs 4 (some .boolean) 12 [.inr 19, .inl x0, .inl x1] μ (some o.1) (rb_ov μ [(20, o.2.1), (21, o.2.2.1), (22, o.2.2.2.1), (19, o.2.2.2.2.1), (23, o.2.2.2.2.2.1), (24, o.2.2.2.2.2.2.1), (25, o.2.2.2.2.2.2.2.1), (26, o.2.2.2.2.2.2.2.2)]) := by
  unfold XX7_changeAsIs at h
  have hini : rb_ov μ [(20, a), (21, rd), (22, ag), (19, mf), (23, na), (24, nb), (25, nl), (26, sv)] = μ := rb_ov_sf _ _ (And.intro ha (And.intro hrd (And.intro hag (And.intro hmf (And.intro hna (And.intro hnb (And.intro hnl (And.intro hsv True.intro))))))))
  have hfin : ∀ u0 u1 u2 u3 u4 u5 u6 u7 : rb_Row, rb_ov μ [(20, u0), (21, u1), (22, u2), (19, u3), (23, u4), (24, u5), (25, u6), (26, u7)] = rb_ov μ [(20, u0), (21, u1), (22, u2), (19, u3), (23, u4), (24, u5), (25, u6), (26, u7)] := fun u0 u1 u2 u3 u4 u5 u6 u7 => rfl
  refine rb_ctz (w := [(20, a), (21, rd), (22, ag), (19, mf), (23, na), (24, nb), (25, nl), (26, sv)]) rfl pn_7 (Nat.le_of_ble_eq_true rfl) rfl hini ?_
  obtain ⟨t1, e2, h⟩ := rb_bd h
  refine ev_aload_n (v := 19) (pc := 0) dX7_changeAsIs_0 rfl ?_
  refine ev_iload_n (v := x0) (pc := 1) dX7_changeAsIs_1 rfl ?_
  refine ev_iload_n (v := x1) (pc := 2) dX7_changeAsIs_2 rfl ?_
  refine ev_cVi2 (pc := 3) dX7_changeAsIs_3 mv_X7_found lk_RX7_266 rp_19 (ct_X7_found _ _ _ _ _ rfl e2) (Nat.le_of_ble_eq_true rfl) (Nat.le_of_ble_eq_true rfl) ?_
  refine ev_istore_n (L' := [some (.inr 19), some (.inl x0), some (.inl x1), some (.inl t1)]) (pc := 6) dX7_changeAsIs_6 (Nat.le_of_ble_eq_true rfl) rfl ?_
  refine ev_iload_n (v := t1) (pc := 7) dX7_changeAsIs_7 rfl ?_
  by_cases b3 : 0 ≤ t1
  · rw [if_pos b3] at h
    refine ev_if_ge_t (t := 13) (pc := 8) dX7_changeAsIs_8 (by decide) b3 ?_
    obtain ⟨t4, e5, h⟩ := rb_bd h
    obtain ⟨t6, e7, h⟩ := rb_bd h
    obtain ⟨t8, e9, h⟩ := rb_bd h
    refine ev_aload_n (v := 19) (pc := 13) dX7_changeAsIs_13 rfl ?_
    refine ev_iload_n (v := t1) (pc := 14) dX7_changeAsIs_14 rfl ?_
    refine ev_aload_n (v := 19) (pc := 15) dX7_changeAsIs_15 rfl ?_
    refine ev_iload_n (v := t1) (pc := 16) dX7_changeAsIs_16 rfl ?_
    refine ev_iconst (v := 3) (pc := 17) dX7_changeAsIs_17 ki_3 ?_
    refine ev_cVi2 (pc := 18) dX7_changeAsIs_18 mv_X7_ofInterest lk_RX7_81 rp_19 (ct_X7_ofInterest _ _ _ _ _ rfl e5) (Nat.le_of_ble_eq_true rfl) (Nat.le_of_ble_eq_true rfl) ?_
    refine ev_aload_n (v := 19) (pc := 21) dX7_changeAsIs_21 rfl ?_
    refine ev_iload_n (v := t1) (pc := 22) dX7_changeAsIs_22 rfl ?_
    refine ev_iconst (v := 4) (pc := 23) dX7_changeAsIs_23 ki_4 ?_
    refine ev_cVi2 (pc := 24) dX7_changeAsIs_24 mv_X7_ofInterest lk_RX7_81 rp_19 (ct_X7_ofInterest _ _ _ _ _ rfl e7) (Nat.le_of_ble_eq_true rfl) (Nat.le_of_ble_eq_true rfl) ?_
    refine ev_cVv3w (w' := [(20, t8.1), (21, t8.2.1), (22, t8.2.2.1), (19, t8.2.2.2.1), (23, t8.2.2.2.2.1), (24, t8.2.2.2.2.2.1), (25, t8.2.2.2.2.2.2.1), (26, t8.2.2.2.2.2.2.2)]) (pc := 27) dX7_changeAsIs_27 mv_X7_tell lk_RX7_275 rp_19 (ct_X7_tell _ _ _ _ _ _ _ _ _ _ _ _ _ rfl rfl rfl rfl rfl rfl rfl rfl e9) (Nat.le_of_ble_eq_true rfl) (Nat.le_of_ble_eq_true rfl) rfl ?_
    refine ev_iconst (v := 1) (pc := 30) dX7_changeAsIs_30 ki_1 ?_
    obtain rfl := Option.some.inj h
    exact ev_iret (pc := 31) dX7_changeAsIs_31 rfl rfl rfl (hfin _ _ _ _ _ _ _ _)
  · rw [if_neg b3] at h
    refine ev_if_ge_f (t := 13) (pc := 8) dX7_changeAsIs_8 (by decide) b3 ?_
    refine ev_iconst (v := 0) (pc := 11) dX7_changeAsIs_11 ki_0 ?_
    obtain rfl := Option.some.inj h
    exact ev_iret (pc := 12) dX7_changeAsIs_12 rfl rfl rfl (hfin _ _ _ _ _ _ _ _)
def XX7_drop (a : rb_Row) (mf : rb_Row) (wa : rb_Row) (x0 : Int32) (x1 : Int32) : Option (Int32 × rb_Row × rb_Row × rb_Row) := (XX7_found a x0 x1).bind fun t1 => if 0 ≤ t1 then (XX7_keepAct mf wa a).bind fun t4 => (XX7_dropInterest a t1).bind fun t6 => some ((rb_nz 1), t6, t4.1, t4.2) else some ((rb_nz 0), a, mf, wa)
set_option maxHeartbeats 4000000 in
set_option maxRecDepth 20000 in
theorem ct_X7_drop (μ : rb_Mem) (a : rb_Row) (mf : rb_Row) (wa : rb_Row) (x0 : Int32) (x1 : Int32) (o : Int32 × rb_Row × rb_Row × rb_Row) (ha : μ 20 = a) (hmf : μ 19 = mf) (hwa : μ 31 = wa) (h : XX7_drop a mf wa x0 x1 = some o) : rb_Ct yX7_drop cX7_drop 4 (some .boolean) 5 [.inr 19, .inl x0, .inl x1] μ (some o.1) (rb_ov μ [(20, o.2.1), (19, o.2.2.1), (31, o.2.2.2)]) := by
  unfold XX7_drop at h
  have hini : rb_ov μ [(20, a), (19, mf), (31, wa)] = μ := rb_ov_sf _ _ (And.intro ha (And.intro hmf (And.intro hwa True.intro)))
  have hfin : ∀ u0 u1 u2 : rb_Row, rb_ov μ [(20, u0), (19, u1), (31, u2)] = rb_ov μ [(20, u0), (19, u1), (31, u2)] := fun u0 u1 u2 => rfl
  refine rb_ctz (w := [(20, a), (19, mf), (31, wa)]) rfl pn_7 (Nat.le_of_ble_eq_true rfl) rfl hini ?_
  obtain ⟨t1, e2, h⟩ := rb_bd h
  refine ev_aload_n (v := 19) (pc := 0) dX7_drop_0 rfl ?_
  refine ev_iload_n (v := x0) (pc := 1) dX7_drop_1 rfl ?_
  refine ev_iload_n (v := x1) (pc := 2) dX7_drop_2 rfl ?_
  refine ev_cVi2 (pc := 3) dX7_drop_3 mv_X7_found lk_RX7_266 rp_19 (ct_X7_found _ _ _ _ _ rfl e2) (Nat.le_of_ble_eq_true rfl) (Nat.le_of_ble_eq_true rfl) ?_
  refine ev_istore_n (L' := [some (.inr 19), some (.inl x0), some (.inl x1), some (.inl t1)]) (pc := 6) dX7_drop_6 (Nat.le_of_ble_eq_true rfl) rfl ?_
  refine ev_iload_n (v := t1) (pc := 7) dX7_drop_7 rfl ?_
  by_cases b3 : 0 ≤ t1
  · rw [if_pos b3] at h
    refine ev_if_ge_t (t := 13) (pc := 8) dX7_drop_8 (by decide) b3 ?_
    obtain ⟨t4, e5, h⟩ := rb_bd h
    obtain ⟨t6, e7, h⟩ := rb_bd h
    refine ev_aload_n (v := 19) (pc := 13) dX7_drop_13 rfl ?_
    refine ev_cVv0w (w' := [(20, a), (19, t4.1), (31, t4.2)]) (pc := 14) dX7_drop_14 mv_X7_keepAct lk_RX7_101 rp_19 (ct_X7_keepAct _ _ _ _ _ rfl rfl rfl e5) (Nat.le_of_ble_eq_true rfl) (Nat.le_of_ble_eq_true rfl) rfl ?_
    refine ev_aload_n (v := 19) (pc := 17) dX7_drop_17 rfl ?_
    refine ev_iload_n (v := t1) (pc := 18) dX7_drop_18 rfl ?_
    refine ev_cVv1w (w' := [(20, t6), (19, t4.1), (31, t4.2)]) (pc := 19) dX7_drop_19 mv_X7_dropInterest lk_RX7_211 rp_19 (ct_X7_dropInterest _ _ _ _ rfl e7) (Nat.le_of_ble_eq_true rfl) (Nat.le_of_ble_eq_true rfl) rfl ?_
    refine ev_iconst (v := 1) (pc := 22) dX7_drop_22 ki_1 ?_
    obtain rfl := Option.some.inj h
    exact ev_iret (pc := 23) dX7_drop_23 rfl rfl rfl (hfin _ _ _)
  · rw [if_neg b3] at h
    refine ev_if_ge_f (t := 13) (pc := 8) dX7_drop_8 (by decide) b3 ?_
    refine ev_iconst (v := 0) (pc := 11) dX7_drop_11 ki_0 ?_
    obtain rfl := Option.some.inj h
    exact ev_iret (pc := 12) dX7_drop_12 rfl rfl rfl (hfin _ _ _)
def XX7_canCollect (a : rb_Row) (x0 : Int32) (x1 : Int32) (x2 : Int32) : Option (Int32) := (XX7_isTask x0).bind fun t1 => if t1 = 0 then some (rb_nz 0) else (XX7_isAsleep a x0).bind fun t4 => if t4 = 0 then (XX7_names a x1 4).bind fun t7 => if t7 = 0 then some (rb_nz 0) else (XX7_isIn x2 1 8).bind fun t10 => if t10 = 0 then some (rb_nz 0) else some (rb_nz 1) else some (rb_nz 0)
set_option maxHeartbeats 4000000 in
set_option maxRecDepth 20000 in
theorem ct_X7_canCollect (μ : rb_Mem) (a : rb_Row) (x0 : Int32) (x1 : Int32) (x2 : Int32) (o : Int32) (ha : μ 20 = a) (h : XX7_canCollect a x0 x1 x2 = some o) : rb_Ct yX7_canCollect cX7_canCollect 4 (some .boolean) 4 [.inr 19, .inl x0, .inl x1, .inl x2] μ (some o) μ := by
  unfold XX7_canCollect at h
  have hini : rb_ov μ [(20, a)] = μ := rb_ov_sf _ _ (And.intro ha True.intro)
  have hfin := hini
  refine rb_ctz (w := [(20, a)]) rfl pn_7 (Nat.le_of_ble_eq_true rfl) rfl hini ?_
  obtain ⟨t1, e2, h⟩ := rb_bd h
  refine ev_aload_n (v := 19) (pc := 0) dX7_canCollect_0 rfl ?_
  refine ev_iload_n (v := x0) (pc := 1) dX7_canCollect_1 rfl ?_
  refine ev_cVi1 (pc := 2) dX7_canCollect_2 mv_X7_isTask lk_RX7_284 rp_19 (ct_X7_isTask _ _ _ e2) (Nat.le_of_ble_eq_true rfl) (Nat.le_of_ble_eq_true rfl) ?_
  by_cases b3 : t1 = 0
  · rw [if_pos b3] at h
    refine ev_if_eq_t (t := 39) (pc := 5) dX7_canCollect_5 (by decide) b3 ?_
    refine ev_iconst (v := 0) (pc := 39) dX7_canCollect_39 ki_0 ?_
    obtain rfl := Option.some.inj h
    exact ev_iret (pc := 40) dX7_canCollect_40 rfl rfl rfl hfin
  · rw [if_neg b3] at h
    refine ev_if_eq_f (t := 39) (pc := 5) dX7_canCollect_5 (by decide) b3 ?_
    obtain ⟨t4, e5, h⟩ := rb_bd h
    refine ev_aload_n (v := 19) (pc := 8) dX7_canCollect_8 rfl ?_
    refine ev_iload_n (v := x0) (pc := 9) dX7_canCollect_9 rfl ?_
    refine ev_cVi1 (pc := 10) dX7_canCollect_10 mv_X7_isAsleep lk_RX7_250 rp_19 (ct_X7_isAsleep _ _ _ _ rfl e5) (Nat.le_of_ble_eq_true rfl) (Nat.le_of_ble_eq_true rfl) ?_
    by_cases b6 : t4 = 0
    · rw [if_pos b6] at h
      refine ev_if_ne_f (t := 39) (pc := 13) dX7_canCollect_13 (by decide) b6 ?_
      obtain ⟨t7, e8, h⟩ := rb_bd h
      refine ev_aload_n (v := 19) (pc := 16) dX7_canCollect_16 rfl ?_
      refine ev_iload_n (v := x1) (pc := 17) dX7_canCollect_17 rfl ?_
      refine ev_iconst (v := 4) (pc := 18) dX7_canCollect_18 ki_4 ?_
      refine ev_cVi2 (pc := 19) dX7_canCollect_19 mv_X7_names lk_RX7_110 rp_19 (ct_X7_names _ _ _ _ _ rfl e8) (Nat.le_of_ble_eq_true rfl) (Nat.le_of_ble_eq_true rfl) ?_
      by_cases b9 : t7 = 0
      · rw [if_pos b9] at h
        refine ev_if_eq_t (t := 39) (pc := 22) dX7_canCollect_22 (by decide) b9 ?_
        refine ev_iconst (v := 0) (pc := 39) dX7_canCollect_39 ki_0 ?_
        obtain rfl := Option.some.inj h
        exact ev_iret (pc := 40) dX7_canCollect_40 rfl rfl rfl hfin
      · rw [if_neg b9] at h
        refine ev_if_eq_f (t := 39) (pc := 22) dX7_canCollect_22 (by decide) b9 ?_
        obtain ⟨t10, e11, h⟩ := rb_bd h
        refine ev_iload_n (v := x2) (pc := 25) dX7_canCollect_25 rfl ?_
        refine ev_iconst (v := 1) (pc := 26) dX7_canCollect_26 ki_1 ?_
        refine ev_bipush (v := 8) (pc := 27) dX7_canCollect_27 kb_8 ?_
        refine ev_cSi3 (pc := 29) dX7_canCollect_29 ms_X7_isIn lk_RX7_69 (ct_X7_isIn _ _ _ _ _ e11) (Nat.le_of_ble_eq_true rfl) (Nat.le_of_ble_eq_true rfl) ?_
        by_cases b12 : t10 = 0
        · rw [if_pos b12] at h
          refine ev_if_eq_t (t := 39) (pc := 32) dX7_canCollect_32 (by decide) b12 ?_
          refine ev_iconst (v := 0) (pc := 39) dX7_canCollect_39 ki_0 ?_
          obtain rfl := Option.some.inj h
          exact ev_iret (pc := 40) dX7_canCollect_40 rfl rfl rfl hfin
        · rw [if_neg b12] at h
          refine ev_if_eq_f (t := 39) (pc := 32) dX7_canCollect_32 (by decide) b12 ?_
          refine ev_iconst (v := 1) (pc := 35) dX7_canCollect_35 ki_1 ?_
          refine ev_goto (t := 40) (pc := 36) dX7_canCollect_36 (by decide) ?_
          obtain rfl := Option.some.inj h
          exact ev_iret (pc := 40) dX7_canCollect_40 rfl rfl rfl hfin
    · rw [if_neg b6] at h
      refine ev_if_ne_t (t := 39) (pc := 13) dX7_canCollect_13 (by decide) b6 ?_
      refine ev_iconst (v := 0) (pc := 39) dX7_canCollect_39 ki_0 ?_
      obtain rfl := Option.some.inj h
      exact ev_iret (pc := 40) dX7_canCollect_40 rfl rfl rfl hfin
def XX7_goCollectAt (a : rb_Row) (rd : rb_Row) (ag : rb_Row) (mf : rb_Row) (wa : rb_Row) (x0 : Int32) (x1 : Int32) (x2 : Int32) (x3 : Int32) : Option (Int32 × rb_Row × rb_Row × rb_Row × rb_Row × rb_Row) := (XX7_canCollect a x0 x1 x2).bind fun t1 => if t1 = 0 then some ((-1), a, rd, ag, mf, wa) else ((if x3 = 0 then some (mf, wa) else (XX7_keepAct mf wa a).bind fun t8 => some (t8.1, t8.2)) : Option (rb_Row × rb_Row)).bind fun j4 => (rb_rd a 796 x1).bind fun v10 => (XX7_goCollect a rd ag j4.1 x0 v10 x2).bind fun t12 => some (t12.1, t12.2.1, t12.2.2.1, t12.2.2.2.1, t12.2.2.2.2, j4.2)
set_option maxHeartbeats 4000000 in
set_option maxRecDepth 20000 in
theorem ct_X7_goCollectAt (μ : rb_Mem) (a : rb_Row) (rd : rb_Row) (ag : rb_Row) (mf : rb_Row) (wa : rb_Row) (x0 : Int32) (x1 : Int32) (x2 : Int32) (x3 : Int32) (o : Int32 × rb_Row × rb_Row × rb_Row × rb_Row × rb_Row) (ha : μ 20 = a) (hrd : μ 21 = rd) (hag : μ 22 = ag) (hmf : μ 19 = mf) (hwa : μ 31 = wa) (h : XX7_goCollectAt a rd ag mf wa x0 x1 x2 x3 = some o) : rb_Ct yX7_goCollectAt cX7_goCollectAt 5 (some .int) 7 [.inr 19, .inl x0, .inl x1, .inl x2, .inl x3] μ (some o.1) (rb_ov μ [(20, o.2.1), (21, o.2.2.1), (22, o.2.2.2.1), (19, o.2.2.2.2.1), (31, o.2.2.2.2.2)]) := by
  unfold XX7_goCollectAt at h
  have hini : rb_ov μ [(20, a), (21, rd), (22, ag), (19, mf), (31, wa)] = μ := rb_ov_sf _ _ (And.intro ha (And.intro hrd (And.intro hag (And.intro hmf (And.intro hwa True.intro)))))
  have hfin : ∀ u0 u1 u2 u3 u4 : rb_Row, rb_ov μ [(20, u0), (21, u1), (22, u2), (19, u3), (31, u4)] = rb_ov μ [(20, u0), (21, u1), (22, u2), (19, u3), (31, u4)] := fun u0 u1 u2 u3 u4 => rfl
  refine rb_cti (w := [(20, a), (21, rd), (22, ag), (19, mf), (31, wa)]) rfl pn_7 (Nat.le_of_ble_eq_true rfl) rfl hini ?_
  obtain ⟨t1, e2, h⟩ := rb_bd h
  refine ev_aload_n (v := 19) (pc := 0) dX7_goCollectAt_0 rfl ?_
  refine ev_iload_n (v := x0) (pc := 1) dX7_goCollectAt_1 rfl ?_
  refine ev_iload_n (v := x1) (pc := 2) dX7_goCollectAt_2 rfl ?_
  refine ev_iload_n (v := x2) (pc := 3) dX7_goCollectAt_3 rfl ?_
  refine ev_cVi3 (pc := 4) dX7_goCollectAt_4 mv_X7_canCollect lk_RX7_287 rp_19 (ct_X7_canCollect _ _ _ _ _ _ rfl e2) (Nat.le_of_ble_eq_true rfl) (Nat.le_of_ble_eq_true rfl) ?_
  by_cases b3 : t1 = 0
  · rw [if_pos b3] at h
    refine ev_if_ne_f (t := 12) (pc := 7) dX7_goCollectAt_7 (by decide) b3 ?_
    refine ev_iconst (v := (-1)) (pc := 10) dX7_goCollectAt_10 ki_m1 ?_
    obtain rfl := Option.some.inj h
    exact ev_iret (pc := 11) dX7_goCollectAt_11 rfl rfl rfl (hfin _ _ _ _ _)
  · rw [if_neg b3] at h
    refine ev_if_ne_t (t := 12) (pc := 7) dX7_goCollectAt_7 (by decide) b3 ?_
    refine ev_iload (v := x3) (pc := 12) dX7_goCollectAt_12 rfl ?_
    obtain ⟨j4, e5, h⟩ := rb_bd h
    have hj6 : rb_Ev RX7 cX7_goCollectAt 5 (some .int) none 7 (some o.1) (rb_ov μ [(20, o.2.1), (21, o.2.2.1), (22, o.2.2.2.1), (19, o.2.2.2.2.1), (31, o.2.2.2.2.2)]) 21 [some (.inr 19), some (.inl x0), some (.inl x1), some (.inl x2), none] [] (rb_ov μ [(20, a), (21, rd), (22, ag), (19, j4.1), (31, j4.2)]) := by
      obtain ⟨v10, e11, h⟩ := rb_bd h
      obtain ⟨t12, e13, h⟩ := rb_bd h
      refine ev_aload_n (v := 19) (pc := 21) dX7_goCollectAt_21 rfl ?_
      refine ev_iload_n (v := x0) (pc := 22) dX7_goCollectAt_22 rfl ?_
      refine ev_aload_n (v := 19) (pc := 23) dX7_goCollectAt_23 rfl ?_
      refine ev_getr (q := 20) (pc := 24) dX7_goCollectAt_24 fl_RX7_7 rfl rfl ?_
      refine ev_iload_n (v := x1) (pc := 27) dX7_goCollectAt_27 rfl ?_
      refine ev_iald (pc := 28) dX7_goCollectAt_28 rfl e11 ?_
      refine ev_iload_n (v := x2) (pc := 29) dX7_goCollectAt_29 rfl ?_
      refine ev_cVi3w (w' := [(20, t12.2.1), (21, t12.2.2.1), (22, t12.2.2.2.1), (19, t12.2.2.2.2), (31, j4.2)]) (pc := 30) dX7_goCollectAt_30 mv_X7_goCollect lk_RX7_176 rp_19 (ct_X7_goCollect _ _ _ _ _ _ _ _ _ rfl rfl rfl rfl e13) (Nat.le_of_ble_eq_true rfl) (Nat.le_of_ble_eq_true rfl) rfl ?_
      obtain rfl := Option.some.inj h
      exact ev_iret (pc := 33) dX7_goCollectAt_33 rfl rfl rfl (hfin _ _ _ _ _)
    replace h := e5
    by_cases b7 : x3 = 0
    · rw [if_pos b7] at h
      refine ev_if_eq_t (t := 21) (pc := 14) dX7_goCollectAt_14 (by decide) b7 ?_
      obtain rfl := Option.some.inj h
      exact ev_fg (L := [some (.inr 19), some (.inl x0), some (.inl x1), some (.inl x2), none]) (And.intro rfl (And.intro rfl (And.intro rfl (And.intro rfl True.intro)))) (hj6)
    · rw [if_neg b7] at h
      refine ev_if_eq_f (t := 21) (pc := 14) dX7_goCollectAt_14 (by decide) b7 ?_
      obtain ⟨t8, e9, h⟩ := rb_bd h
      refine ev_aload_n (v := 19) (pc := 17) dX7_goCollectAt_17 rfl ?_
      refine ev_cVv0w (w' := [(20, a), (21, rd), (22, ag), (19, t8.1), (31, t8.2)]) (pc := 18) dX7_goCollectAt_18 mv_X7_keepAct lk_RX7_101 rp_19 (ct_X7_keepAct _ _ _ _ _ rfl rfl rfl e9) (Nat.le_of_ble_eq_true rfl) (Nat.le_of_ble_eq_true rfl) rfl ?_
      obtain rfl := Option.some.inj h
      exact ev_fg (L := [some (.inr 19), some (.inl x0), some (.inl x1), some (.inl x2), none]) (And.intro rfl (And.intro rfl (And.intro rfl (And.intro rfl True.intro)))) (hj6)
def XX7_goAwait (a : rb_Row) (rd : rb_Row) (ag : rb_Row) (mf : rb_Row) (wa : rb_Row) (x0 : Int32) (x1 : Int32) (x2 : Int32) (x3 : Int32) (x4 : Int32) : Option (Int32 × rb_Row × rb_Row × rb_Row × rb_Row × rb_Row) := (XX7_canCollect a x0 x1 x2).bind fun t1 => if t1 = 0 then some ((-1), a, rd, ag, mf, wa) else (XX7_isIn x3 0 1000).bind fun t4 => if t4 = 0 then some ((-1), a, rd, ag, mf, wa) else ((if x4 = 0 then some (mf, wa) else (XX7_keepAct mf wa a).bind fun t11 => some (t11.1, t11.2)) : Option (rb_Row × rb_Row)).bind fun j7 => (rb_rd a 796 x1).bind fun v13 => (XX7_goCollect a rd ag j7.1 x0 v13 x2).bind fun t15 => if t15.1 ≤ 0 then (XX7_taskAt x0 0).bind fun t18 => (rb_rd t15.2.1 796 x1).bind fun v20 => (rb_wr t15.2.1 796 t18 v20).bind fun a22 => (XX7_taskAt x0 1).bind fun t24 => (XX7_stamp a22).bind fun t26 => (rb_wr t26.2 796 t24 t26.1).bind fun a28 => (XX7_taskAt x0 2).bind fun t30 => (rb_wr a28 796 t30 x2).bind fun a32 => (XX7_taskAt x0 3).bind fun t34 => if x3 = 0 then (rb_wr a32 796 t34 (-1)).bind fun a37 => some ((-2), a37, t15.2.2.1, t15.2.2.2.1, t15.2.2.2.2, j7.2) else (rb_rd a32 796 794).bind fun v39 => (rb_wr a32 796 t34 (v39 + x3)).bind fun a41 => some ((-2), a41, t15.2.2.1, t15.2.2.2.1, t15.2.2.2.2, j7.2) else some (t15.1, t15.2.1, t15.2.2.1, t15.2.2.2.1, t15.2.2.2.2, j7.2)
set_option maxHeartbeats 4000000 in
set_option maxRecDepth 20000 in
theorem ct_X7_goAwait (μ : rb_Mem) (a : rb_Row) (rd : rb_Row) (ag : rb_Row) (mf : rb_Row) (wa : rb_Row) (x0 : Int32) (x1 : Int32) (x2 : Int32) (x3 : Int32) (x4 : Int32) (o : Int32 × rb_Row × rb_Row × rb_Row × rb_Row × rb_Row) (ha : μ 20 = a) (hrd : μ 21 = rd) (hag : μ 22 = ag) (hmf : μ 19 = mf) (hwa : μ 31 = wa) (h : XX7_goAwait a rd ag mf wa x0 x1 x2 x3 x4 = some o) : rb_Ct yX7_goAwait cX7_goAwait 7 (some .int) 7 [.inr 19, .inl x0, .inl x1, .inl x2, .inl x3, .inl x4] μ (some o.1) (rb_ov μ [(20, o.2.1), (21, o.2.2.1), (22, o.2.2.2.1), (19, o.2.2.2.2.1), (31, o.2.2.2.2.2)]) := by
  unfold XX7_goAwait at h
  have hini : rb_ov μ [(20, a), (21, rd), (22, ag), (19, mf), (31, wa)] = μ := rb_ov_sf _ _ (And.intro ha (And.intro hrd (And.intro hag (And.intro hmf (And.intro hwa True.intro)))))
  have hfin : ∀ u0 u1 u2 u3 u4 : rb_Row, rb_ov μ [(20, u0), (21, u1), (22, u2), (19, u3), (31, u4)] = rb_ov μ [(20, u0), (21, u1), (22, u2), (19, u3), (31, u4)] := fun u0 u1 u2 u3 u4 => rfl
  refine rb_cti (w := [(20, a), (21, rd), (22, ag), (19, mf), (31, wa)]) rfl pn_7 (Nat.le_of_ble_eq_true rfl) rfl hini ?_
  obtain ⟨t1, e2, h⟩ := rb_bd h
  refine ev_aload_n (v := 19) (pc := 0) dX7_goAwait_0 rfl ?_
  refine ev_iload_n (v := x0) (pc := 1) dX7_goAwait_1 rfl ?_
  refine ev_iload_n (v := x1) (pc := 2) dX7_goAwait_2 rfl ?_
  refine ev_iload_n (v := x2) (pc := 3) dX7_goAwait_3 rfl ?_
  refine ev_cVi3 (pc := 4) dX7_goAwait_4 mv_X7_canCollect lk_RX7_287 rp_19 (ct_X7_canCollect _ _ _ _ _ _ rfl e2) (Nat.le_of_ble_eq_true rfl) (Nat.le_of_ble_eq_true rfl) ?_
  by_cases b3 : t1 = 0
  · rw [if_pos b3] at h
    refine ev_if_eq_t (t := 22) (pc := 7) dX7_goAwait_7 (by decide) b3 ?_
    refine ev_iconst (v := (-1)) (pc := 22) dX7_goAwait_22 ki_m1 ?_
    obtain rfl := Option.some.inj h
    exact ev_iret (pc := 23) dX7_goAwait_23 rfl rfl rfl (hfin _ _ _ _ _)
  · rw [if_neg b3] at h
    refine ev_if_eq_f (t := 22) (pc := 7) dX7_goAwait_7 (by decide) b3 ?_
    obtain ⟨t4, e5, h⟩ := rb_bd h
    refine ev_iload (v := x3) (pc := 10) dX7_goAwait_10 rfl ?_
    refine ev_iconst (v := 0) (pc := 12) dX7_goAwait_12 ki_0 ?_
    refine ev_sipush (v := 1000) (pc := 13) dX7_goAwait_13 ks_1000 ?_
    refine ev_cSi3 (pc := 16) dX7_goAwait_16 ms_X7_isIn lk_RX7_69 (ct_X7_isIn _ _ _ _ _ e5) (Nat.le_of_ble_eq_true rfl) (Nat.le_of_ble_eq_true rfl) ?_
    by_cases b6 : t4 = 0
    · rw [if_pos b6] at h
      refine ev_if_ne_f (t := 24) (pc := 19) dX7_goAwait_19 (by decide) b6 ?_
      refine ev_iconst (v := (-1)) (pc := 22) dX7_goAwait_22 ki_m1 ?_
      obtain rfl := Option.some.inj h
      exact ev_iret (pc := 23) dX7_goAwait_23 rfl rfl rfl (hfin _ _ _ _ _)
    · rw [if_neg b6] at h
      refine ev_if_ne_t (t := 24) (pc := 19) dX7_goAwait_19 (by decide) b6 ?_
      refine ev_iload (v := x4) (pc := 24) dX7_goAwait_24 rfl ?_
      obtain ⟨j7, e8, h⟩ := rb_bd h
      have hj9 : rb_Ev RX7 cX7_goAwait 7 (some .int) none 7 (some o.1) (rb_ov μ [(20, o.2.1), (21, o.2.2.1), (22, o.2.2.2.1), (19, o.2.2.2.2.1), (31, o.2.2.2.2.2)]) 33 [some (.inr 19), some (.inl x0), some (.inl x1), some (.inl x2), some (.inl x3), none, none] [] (rb_ov μ [(20, a), (21, rd), (22, ag), (19, j7.1), (31, j7.2)]) := by
        obtain ⟨v13, e14, h⟩ := rb_bd h
        obtain ⟨t15, e16, h⟩ := rb_bd h
        refine ev_aload_n (v := 19) (pc := 33) dX7_goAwait_33 rfl ?_
        refine ev_iload_n (v := x0) (pc := 34) dX7_goAwait_34 rfl ?_
        refine ev_aload_n (v := 19) (pc := 35) dX7_goAwait_35 rfl ?_
        refine ev_getr (q := 20) (pc := 36) dX7_goAwait_36 fl_RX7_7 rfl rfl ?_
        refine ev_iload_n (v := x1) (pc := 39) dX7_goAwait_39 rfl ?_
        refine ev_iald (pc := 40) dX7_goAwait_40 rfl e14 ?_
        refine ev_iload_n (v := x2) (pc := 41) dX7_goAwait_41 rfl ?_
        refine ev_cVi3w (w' := [(20, t15.2.1), (21, t15.2.2.1), (22, t15.2.2.2.1), (19, t15.2.2.2.2), (31, j7.2)]) (pc := 42) dX7_goAwait_42 mv_X7_goCollect lk_RX7_176 rp_19 (ct_X7_goCollect _ _ _ _ _ _ _ _ _ rfl rfl rfl rfl e16) (Nat.le_of_ble_eq_true rfl) (Nat.le_of_ble_eq_true rfl) rfl ?_
        refine ev_istore (L' := [some (.inr 19), some (.inl x0), some (.inl x1), some (.inl x2), some (.inl x3), none, some (.inl t15.1)]) (pc := 45) dX7_goAwait_45 (Nat.le_of_ble_eq_true rfl) rfl ?_
        refine ev_iload (v := t15.1) (pc := 47) dX7_goAwait_47 rfl ?_
        by_cases b17 : t15.1 ≤ 0
        · rw [if_pos b17] at h
          refine ev_if_le_t (t := 55) (pc := 49) dX7_goAwait_49 (by decide) b17 ?_
          obtain ⟨t18, e19, h⟩ := rb_bd h
          obtain ⟨v20, e21, h⟩ := rb_bd h
          obtain ⟨a22, e23, h⟩ := rb_bd h
          obtain ⟨t24, e25, h⟩ := rb_bd h
          obtain ⟨t26, e27, h⟩ := rb_bd h
          obtain ⟨a28, e29, h⟩ := rb_bd h
          obtain ⟨t30, e31, h⟩ := rb_bd h
          obtain ⟨a32, e33, h⟩ := rb_bd h
          obtain ⟨t34, e35, h⟩ := rb_bd h
          refine ev_aload_n (v := 19) (pc := 55) dX7_goAwait_55 rfl ?_
          refine ev_getr (q := 20) (pc := 56) dX7_goAwait_56 fl_RX7_7 rfl rfl ?_
          refine ev_iload_n (v := x0) (pc := 59) dX7_goAwait_59 rfl ?_
          refine ev_iconst (v := 0) (pc := 60) dX7_goAwait_60 ki_0 ?_
          refine ev_cSi2 (pc := 61) dX7_goAwait_61 ms_X7_taskAt lk_RX7_63 (ct_X7_taskAt _ _ _ _ e19) (Nat.le_of_ble_eq_true rfl) (Nat.le_of_ble_eq_true rfl) ?_
          refine ev_aload_n (v := 19) (pc := 64) dX7_goAwait_64 rfl ?_
          refine ev_getr (q := 20) (pc := 65) dX7_goAwait_65 fl_RX7_7 rfl rfl ?_
          refine ev_iload_n (v := x1) (pc := 68) dX7_goAwait_68 rfl ?_
          refine ev_iald (pc := 69) dX7_goAwait_69 rfl e21 ?_
          refine ev_iast (w' := [(20, a22), (21, t15.2.2.1), (22, t15.2.2.2.1), (19, t15.2.2.2.2), (31, j7.2)]) (pc := 70) dX7_goAwait_70 rfl e23 rfl ?_
          refine ev_aload_n (v := 19) (pc := 71) dX7_goAwait_71 rfl ?_
          refine ev_getr (q := 20) (pc := 72) dX7_goAwait_72 fl_RX7_7 rfl rfl ?_
          refine ev_iload_n (v := x0) (pc := 75) dX7_goAwait_75 rfl ?_
          refine ev_iconst (v := 1) (pc := 76) dX7_goAwait_76 ki_1 ?_
          refine ev_cSi2 (pc := 77) dX7_goAwait_77 ms_X7_taskAt lk_RX7_63 (ct_X7_taskAt _ _ _ _ e25) (Nat.le_of_ble_eq_true rfl) (Nat.le_of_ble_eq_true rfl) ?_
          refine ev_aload_n (v := 19) (pc := 80) dX7_goAwait_80 rfl ?_
          refine ev_cVi0w (w' := [(20, t26.2), (21, t15.2.2.1), (22, t15.2.2.2.1), (19, t15.2.2.2.2), (31, j7.2)]) (pc := 81) dX7_goAwait_81 mv_X7_stamp lk_RX7_117 rp_19 (ct_X7_stamp _ _ _ rfl e27) (Nat.le_of_ble_eq_true rfl) (Nat.le_of_ble_eq_true rfl) rfl ?_
          refine ev_iast (w' := [(20, a28), (21, t15.2.2.1), (22, t15.2.2.2.1), (19, t15.2.2.2.2), (31, j7.2)]) (pc := 84) dX7_goAwait_84 rfl e29 rfl ?_
          refine ev_aload_n (v := 19) (pc := 85) dX7_goAwait_85 rfl ?_
          refine ev_getr (q := 20) (pc := 86) dX7_goAwait_86 fl_RX7_7 rfl rfl ?_
          refine ev_iload_n (v := x0) (pc := 89) dX7_goAwait_89 rfl ?_
          refine ev_iconst (v := 2) (pc := 90) dX7_goAwait_90 ki_2 ?_
          refine ev_cSi2 (pc := 91) dX7_goAwait_91 ms_X7_taskAt lk_RX7_63 (ct_X7_taskAt _ _ _ _ e31) (Nat.le_of_ble_eq_true rfl) (Nat.le_of_ble_eq_true rfl) ?_
          refine ev_iload_n (v := x2) (pc := 94) dX7_goAwait_94 rfl ?_
          refine ev_iast (w' := [(20, a32), (21, t15.2.2.1), (22, t15.2.2.2.1), (19, t15.2.2.2.2), (31, j7.2)]) (pc := 95) dX7_goAwait_95 rfl e33 rfl ?_
          refine ev_aload_n (v := 19) (pc := 96) dX7_goAwait_96 rfl ?_
          refine ev_getr (q := 20) (pc := 97) dX7_goAwait_97 fl_RX7_7 rfl rfl ?_
          refine ev_iload_n (v := x0) (pc := 100) dX7_goAwait_100 rfl ?_
          refine ev_iconst (v := 3) (pc := 101) dX7_goAwait_101 ki_3 ?_
          refine ev_cSi2 (pc := 102) dX7_goAwait_102 ms_X7_taskAt lk_RX7_63 (ct_X7_taskAt _ _ _ _ e35) (Nat.le_of_ble_eq_true rfl) (Nat.le_of_ble_eq_true rfl) ?_
          refine ev_iload (v := x3) (pc := 105) dX7_goAwait_105 rfl ?_
          by_cases b36 : x3 = 0
          · rw [if_pos b36] at h
            refine ev_if_ne_f (t := 114) (pc := 107) dX7_goAwait_107 (by decide) b36 ?_
            obtain ⟨a37, e38, h⟩ := rb_bd h
            refine ev_iconst (v := (-1)) (pc := 110) dX7_goAwait_110 ki_m1 ?_
            refine ev_goto (t := 125) (pc := 111) dX7_goAwait_111 (by decide) ?_
            refine ev_iast (w' := [(20, a37), (21, t15.2.2.1), (22, t15.2.2.2.1), (19, t15.2.2.2.2), (31, j7.2)]) (pc := 125) dX7_goAwait_125 rfl e38 rfl ?_
            refine ev_bipush (v := (-2)) (pc := 126) dX7_goAwait_126 kb_m2 ?_
            obtain rfl := Option.some.inj h
            exact ev_iret (pc := 128) dX7_goAwait_128 rfl rfl rfl (hfin _ _ _ _ _)
          · rw [if_neg b36] at h
            refine ev_if_ne_t (t := 114) (pc := 107) dX7_goAwait_107 (by decide) b36 ?_
            obtain ⟨v39, e40, h⟩ := rb_bd h
            obtain ⟨a41, e42, h⟩ := rb_bd h
            refine ev_aload_n (v := 19) (pc := 114) dX7_goAwait_114 rfl ?_
            refine ev_getr (q := 20) (pc := 115) dX7_goAwait_115 fl_RX7_7 rfl rfl ?_
            refine ev_sipush (v := 794) (pc := 118) dX7_goAwait_118 ks_794 ?_
            refine ev_iald (pc := 121) dX7_goAwait_121 rfl e40 ?_
            refine ev_iload (v := x3) (pc := 122) dX7_goAwait_122 rfl ?_
            refine ev_iadd (pc := 124) dX7_goAwait_124 ?_
            refine ev_iast (w' := [(20, a41), (21, t15.2.2.1), (22, t15.2.2.2.1), (19, t15.2.2.2.2), (31, j7.2)]) (pc := 125) dX7_goAwait_125 rfl e42 rfl ?_
            refine ev_bipush (v := (-2)) (pc := 126) dX7_goAwait_126 kb_m2 ?_
            obtain rfl := Option.some.inj h
            exact ev_iret (pc := 128) dX7_goAwait_128 rfl rfl rfl (hfin _ _ _ _ _)
        · rw [if_neg b17] at h
          refine ev_if_le_f (t := 55) (pc := 49) dX7_goAwait_49 (by decide) b17 ?_
          refine ev_iload (v := t15.1) (pc := 52) dX7_goAwait_52 rfl ?_
          obtain rfl := Option.some.inj h
          exact ev_iret (pc := 54) dX7_goAwait_54 rfl rfl rfl (hfin _ _ _ _ _)
      replace h := e8
      by_cases b10 : x4 = 0
      · rw [if_pos b10] at h
        refine ev_if_eq_t (t := 33) (pc := 26) dX7_goAwait_26 (by decide) b10 ?_
        obtain rfl := Option.some.inj h
        exact ev_fg (L := [some (.inr 19), some (.inl x0), some (.inl x1), some (.inl x2), some (.inl x3), none, none]) (And.intro rfl (And.intro rfl (And.intro rfl (And.intro rfl (And.intro rfl True.intro))))) (hj9)
      · rw [if_neg b10] at h
        refine ev_if_eq_f (t := 33) (pc := 26) dX7_goAwait_26 (by decide) b10 ?_
        obtain ⟨t11, e12, h⟩ := rb_bd h
        refine ev_aload_n (v := 19) (pc := 29) dX7_goAwait_29 rfl ?_
        refine ev_cVv0w (w' := [(20, a), (21, rd), (22, ag), (19, t11.1), (31, t11.2)]) (pc := 30) dX7_goAwait_30 mv_X7_keepAct lk_RX7_101 rp_19 (ct_X7_keepAct _ _ _ _ _ rfl rfl rfl e12) (Nat.le_of_ble_eq_true rfl) (Nat.le_of_ble_eq_true rfl) rfl ?_
        obtain rfl := Option.some.inj h
        exact ev_fg (L := [some (.inr 19), some (.inl x0), some (.inl x1), some (.inl x2), some (.inl x3), none, none]) (And.intro rfl (And.intro rfl (And.intro rfl (And.intro rfl (And.intro rfl True.intro))))) (hj9)
def XX7_collect (a : rb_Row) (rd : rb_Row) (ag : rb_Row) (mf : rb_Row) (wa : rb_Row) (x0 : Int32) (x1 : Int32) (x2 : Int32) : Option (Int32 × rb_Row × rb_Row × rb_Row × rb_Row × rb_Row) := (XX7_goCollectAt a rd ag mf wa x0 x1 x2 1).bind fun t1 => some (t1.1, t1.2.1, t1.2.2.1, t1.2.2.2.1, t1.2.2.2.2.1, t1.2.2.2.2.2)
set_option maxHeartbeats 4000000 in
set_option maxRecDepth 20000 in
theorem ct_X7_collect (μ : rb_Mem) (a : rb_Row) (rd : rb_Row) (ag : rb_Row) (mf : rb_Row) (wa : rb_Row) (x0 : Int32) (x1 : Int32) (x2 : Int32) (o : Int32 × rb_Row × rb_Row × rb_Row × rb_Row × rb_Row) (ha : μ 20 = a) (hrd : μ 21 = rd) (hag : μ 22 = ag) (hmf : μ 19 = mf) (hwa : μ 31 = wa) (h : XX7_collect a rd ag mf wa x0 x1 x2 = some o) : rb_Ct yX7_collect cX7_collect 4 (some .int) 8 [.inr 19, .inl x0, .inl x1, .inl x2] μ (some o.1) (rb_ov μ [(20, o.2.1), (21, o.2.2.1), (22, o.2.2.2.1), (19, o.2.2.2.2.1), (31, o.2.2.2.2.2)]) := by
  unfold XX7_collect at h
  have hini : rb_ov μ [(20, a), (21, rd), (22, ag), (19, mf), (31, wa)] = μ := rb_ov_sf _ _ (And.intro ha (And.intro hrd (And.intro hag (And.intro hmf (And.intro hwa True.intro)))))
  have hfin : ∀ u0 u1 u2 u3 u4 : rb_Row, rb_ov μ [(20, u0), (21, u1), (22, u2), (19, u3), (31, u4)] = rb_ov μ [(20, u0), (21, u1), (22, u2), (19, u3), (31, u4)] := fun u0 u1 u2 u3 u4 => rfl
  refine rb_cti (w := [(20, a), (21, rd), (22, ag), (19, mf), (31, wa)]) rfl pn_7 (Nat.le_of_ble_eq_true rfl) rfl hini ?_
  obtain ⟨t1, e2, h⟩ := rb_bd h
  refine ev_aload_n (v := 19) (pc := 0) dX7_collect_0 rfl ?_
  refine ev_iload_n (v := x0) (pc := 1) dX7_collect_1 rfl ?_
  refine ev_iload_n (v := x1) (pc := 2) dX7_collect_2 rfl ?_
  refine ev_iload_n (v := x2) (pc := 3) dX7_collect_3 rfl ?_
  refine ev_iconst (v := 1) (pc := 4) dX7_collect_4 ki_1 ?_
  refine ev_cVi4w (w' := [(20, t1.2.1), (21, t1.2.2.1), (22, t1.2.2.2.1), (19, t1.2.2.2.2.1), (31, t1.2.2.2.2.2)]) (pc := 5) dX7_collect_5 mv_X7_goCollectAt lk_RX7_290 rp_19 (ct_X7_goCollectAt _ _ _ _ _ _ _ _ _ _ _ rfl rfl rfl rfl rfl e2) (Nat.le_of_ble_eq_true rfl) (Nat.le_of_ble_eq_true rfl) rfl ?_
  obtain rfl := Option.some.inj h
  exact ev_iret (pc := 8) dX7_collect_8 rfl rfl rfl (hfin _ _ _ _ _)
def XX7_await (a : rb_Row) (rd : rb_Row) (ag : rb_Row) (mf : rb_Row) (wa : rb_Row) (x0 : Int32) (x1 : Int32) (x2 : Int32) (x3 : Int32) : Option (Int32 × rb_Row × rb_Row × rb_Row × rb_Row × rb_Row) := (XX7_goAwait a rd ag mf wa x0 x1 x2 x3 1).bind fun t1 => some (t1.1, t1.2.1, t1.2.2.1, t1.2.2.2.1, t1.2.2.2.2.1, t1.2.2.2.2.2)
set_option maxHeartbeats 4000000 in
set_option maxRecDepth 20000 in
theorem ct_X7_await (μ : rb_Mem) (a : rb_Row) (rd : rb_Row) (ag : rb_Row) (mf : rb_Row) (wa : rb_Row) (x0 : Int32) (x1 : Int32) (x2 : Int32) (x3 : Int32) (o : Int32 × rb_Row × rb_Row × rb_Row × rb_Row × rb_Row) (ha : μ 20 = a) (hrd : μ 21 = rd) (hag : μ 22 = ag) (hmf : μ 19 = mf) (hwa : μ 31 = wa) (h : XX7_await a rd ag mf wa x0 x1 x2 x3 = some o) : rb_Ct yX7_await cX7_await 5 (some .int) 8 [.inr 19, .inl x0, .inl x1, .inl x2, .inl x3] μ (some o.1) (rb_ov μ [(20, o.2.1), (21, o.2.2.1), (22, o.2.2.2.1), (19, o.2.2.2.2.1), (31, o.2.2.2.2.2)]) := by
  unfold XX7_await at h
  have hini : rb_ov μ [(20, a), (21, rd), (22, ag), (19, mf), (31, wa)] = μ := rb_ov_sf _ _ (And.intro ha (And.intro hrd (And.intro hag (And.intro hmf (And.intro hwa True.intro)))))
  have hfin : ∀ u0 u1 u2 u3 u4 : rb_Row, rb_ov μ [(20, u0), (21, u1), (22, u2), (19, u3), (31, u4)] = rb_ov μ [(20, u0), (21, u1), (22, u2), (19, u3), (31, u4)] := fun u0 u1 u2 u3 u4 => rfl
  refine rb_cti (w := [(20, a), (21, rd), (22, ag), (19, mf), (31, wa)]) rfl pn_7 (Nat.le_of_ble_eq_true rfl) rfl hini ?_
  obtain ⟨t1, e2, h⟩ := rb_bd h
  refine ev_aload_n (v := 19) (pc := 0) dX7_await_0 rfl ?_
  refine ev_iload_n (v := x0) (pc := 1) dX7_await_1 rfl ?_
  refine ev_iload_n (v := x1) (pc := 2) dX7_await_2 rfl ?_
  refine ev_iload_n (v := x2) (pc := 3) dX7_await_3 rfl ?_
  refine ev_iload (v := x3) (pc := 4) dX7_await_4 rfl ?_
  refine ev_iconst (v := 1) (pc := 6) dX7_await_6 ki_1 ?_
  refine ev_cVi5w (w' := [(20, t1.2.1), (21, t1.2.2.1), (22, t1.2.2.2.1), (19, t1.2.2.2.2.1), (31, t1.2.2.2.2.2)]) (pc := 7) dX7_await_7 mv_X7_goAwait lk_RX7_294 rp_19 (ct_X7_goAwait _ _ _ _ _ _ _ _ _ _ _ _ rfl rfl rfl rfl rfl e2) (Nat.le_of_ble_eq_true rfl) (Nat.le_of_ble_eq_true rfl) rfl ?_
  obtain rfl := Option.some.inj h
  exact ev_iret (pc := 10) dX7_await_10 rfl rfl rfl (hfin _ _ _ _ _)
def XX7_holdsOf (a : rb_Row) (x0 : Int32) : Option (Int32) := (XX7_isEnd a x0).bind fun t1 => if t1 = 0 then (XX7_kindOf a x0).bind fun t4 => if t4 = 4 then (XX7_heldBy a x0).bind fun t7 => some t7 else (XX7_kindOf a x0).bind fun t9 => if t9 = 5 then (XX7_waitingAt a x0).bind fun t12 => some t12 else (XX7_ofObject a x0 1).bind fun t14 => some t14 else (XX7_ofObject a x0 1).bind fun t16 => (XX7_ofPipe a t16 1).bind fun t18 => some t18
set_option maxHeartbeats 4000000 in
set_option maxRecDepth 20000 in
theorem ct_X7_holdsOf (μ : rb_Mem) (a : rb_Row) (x0 : Int32) (o : Int32) (ha : μ 20 = a) (h : XX7_holdsOf a x0 = some o) : rb_Ct yX7_holdsOf cX7_holdsOf 2 (some .int) 4 [.inr 19, .inl x0] μ (some o) μ := by
  unfold XX7_holdsOf at h
  have hini : rb_ov μ [(20, a)] = μ := rb_ov_sf _ _ (And.intro ha True.intro)
  have hfin := hini
  refine rb_cti (w := [(20, a)]) rfl pn_7 (Nat.le_of_ble_eq_true rfl) rfl hini ?_
  obtain ⟨t1, e2, h⟩ := rb_bd h
  refine ev_aload_n (v := 19) (pc := 0) dX7_holdsOf_0 rfl ?_
  refine ev_iload_n (v := x0) (pc := 1) dX7_holdsOf_1 rfl ?_
  refine ev_cVi1 (pc := 2) dX7_holdsOf_2 mv_X7_isEnd lk_RX7_220 rp_19 (ct_X7_isEnd _ _ _ _ rfl e2) (Nat.le_of_ble_eq_true rfl) (Nat.le_of_ble_eq_true rfl) ?_
  by_cases b3 : t1 = 0
  · rw [if_pos b3] at h
    refine ev_if_eq_t (t := 20) (pc := 5) dX7_holdsOf_5 (by decide) b3 ?_
    obtain ⟨t4, e5, h⟩ := rb_bd h
    refine ev_aload_n (v := 19) (pc := 20) dX7_holdsOf_20 rfl ?_
    refine ev_iload_n (v := x0) (pc := 21) dX7_holdsOf_21 rfl ?_
    refine ev_cVi1 (pc := 22) dX7_holdsOf_22 mv_X7_kindOf lk_RX7_77 rp_19 (ct_X7_kindOf _ _ _ _ rfl e5) (Nat.le_of_ble_eq_true rfl) (Nat.le_of_ble_eq_true rfl) ?_
    refine ev_iconst (v := 4) (pc := 25) dX7_holdsOf_25 ki_4 ?_
    by_cases b6 : t4 = 4
    · rw [if_pos b6] at h
      refine ev_icmp_ne_f (t := 37) (pc := 26) dX7_holdsOf_26 (by decide) b6 ?_
      obtain ⟨t7, e8, h⟩ := rb_bd h
      refine ev_aload_n (v := 19) (pc := 29) dX7_holdsOf_29 rfl ?_
      refine ev_iload_n (v := x0) (pc := 30) dX7_holdsOf_30 rfl ?_
      refine ev_cVi1 (pc := 31) dX7_holdsOf_31 mv_X7_heldBy lk_RX7_278 rp_19 (ct_X7_heldBy _ _ _ _ rfl e8) (Nat.le_of_ble_eq_true rfl) (Nat.le_of_ble_eq_true rfl) ?_
      refine ev_goto (t := 60) (pc := 34) dX7_holdsOf_34 (by decide) ?_
      obtain rfl := Option.some.inj h
      exact ev_iret (pc := 60) dX7_holdsOf_60 rfl rfl rfl hfin
    · rw [if_neg b6] at h
      refine ev_icmp_ne_t (t := 37) (pc := 26) dX7_holdsOf_26 (by decide) b6 ?_
      obtain ⟨t9, e10, h⟩ := rb_bd h
      refine ev_aload_n (v := 19) (pc := 37) dX7_holdsOf_37 rfl ?_
      refine ev_iload_n (v := x0) (pc := 38) dX7_holdsOf_38 rfl ?_
      refine ev_cVi1 (pc := 39) dX7_holdsOf_39 mv_X7_kindOf lk_RX7_77 rp_19 (ct_X7_kindOf _ _ _ _ rfl e10) (Nat.le_of_ble_eq_true rfl) (Nat.le_of_ble_eq_true rfl) ?_
      refine ev_iconst (v := 5) (pc := 42) dX7_holdsOf_42 ki_5 ?_
      by_cases b11 : t9 = 5
      · rw [if_pos b11] at h
        refine ev_icmp_ne_f (t := 54) (pc := 43) dX7_holdsOf_43 (by decide) b11 ?_
        obtain ⟨t12, e13, h⟩ := rb_bd h
        refine ev_aload_n (v := 19) (pc := 46) dX7_holdsOf_46 rfl ?_
        refine ev_iload_n (v := x0) (pc := 47) dX7_holdsOf_47 rfl ?_
        refine ev_cVi1 (pc := 48) dX7_holdsOf_48 mv_X7_waitingAt lk_RX7_114 rp_19 (ct_X7_waitingAt _ _ _ _ rfl e13) (Nat.le_of_ble_eq_true rfl) (Nat.le_of_ble_eq_true rfl) ?_
        refine ev_goto (t := 60) (pc := 51) dX7_holdsOf_51 (by decide) ?_
        obtain rfl := Option.some.inj h
        exact ev_iret (pc := 60) dX7_holdsOf_60 rfl rfl rfl hfin
      · rw [if_neg b11] at h
        refine ev_icmp_ne_t (t := 54) (pc := 43) dX7_holdsOf_43 (by decide) b11 ?_
        obtain ⟨t14, e15, h⟩ := rb_bd h
        refine ev_aload_n (v := 19) (pc := 54) dX7_holdsOf_54 rfl ?_
        refine ev_iload_n (v := x0) (pc := 55) dX7_holdsOf_55 rfl ?_
        refine ev_iconst (v := 1) (pc := 56) dX7_holdsOf_56 ki_1 ?_
        refine ev_cVi2 (pc := 57) dX7_holdsOf_57 mv_X7_ofObject lk_RX7_66 rp_19 (ct_X7_ofObject _ _ _ _ _ rfl e15) (Nat.le_of_ble_eq_true rfl) (Nat.le_of_ble_eq_true rfl) ?_
        obtain rfl := Option.some.inj h
        exact ev_iret (pc := 60) dX7_holdsOf_60 rfl rfl rfl hfin
  · rw [if_neg b3] at h
    refine ev_if_eq_f (t := 20) (pc := 5) dX7_holdsOf_5 (by decide) b3 ?_
    obtain ⟨t16, e17, h⟩ := rb_bd h
    obtain ⟨t18, e19, h⟩ := rb_bd h
    refine ev_aload_n (v := 19) (pc := 8) dX7_holdsOf_8 rfl ?_
    refine ev_aload_n (v := 19) (pc := 9) dX7_holdsOf_9 rfl ?_
    refine ev_iload_n (v := x0) (pc := 10) dX7_holdsOf_10 rfl ?_
    refine ev_iconst (v := 1) (pc := 11) dX7_holdsOf_11 ki_1 ?_
    refine ev_cVi2 (pc := 12) dX7_holdsOf_12 mv_X7_ofObject lk_RX7_66 rp_19 (ct_X7_ofObject _ _ _ _ _ rfl e17) (Nat.le_of_ble_eq_true rfl) (Nat.le_of_ble_eq_true rfl) ?_
    refine ev_iconst (v := 1) (pc := 15) dX7_holdsOf_15 ki_1 ?_
    refine ev_cVi2 (pc := 16) dX7_holdsOf_16 mv_X7_ofPipe lk_RX7_91 rp_19 (ct_X7_ofPipe _ _ _ _ _ rfl e19) (Nat.le_of_ble_eq_true rfl) (Nat.le_of_ble_eq_true rfl) ?_
    obtain rfl := Option.some.inj h
    exact ev_iret (pc := 19) dX7_holdsOf_19 rfl rfl rfl hfin
def XX7_interestsIn (a : rb_Row) (x0 : Int32) : Option (Int32) := (rb_lp (ρ := Int32) (fun (s1 : Int32 × Int32) => if 24 ≤ s1.2 then some (.inr s1.1) else (XX7_isInterest a s1.2).bind fun t10 => ((if t10 = 0 then some 0 else (XX7_ofInterest a s1.2 1).bind fun t16 => if t16 = x0 then some 1 else some 0) : Option (Int32)).bind fun j12 => some (.inl ((s1.1 + j12), (s1.2 + 1)))) 100000 (0, 0)).bind fun q2 => some q2
set_option maxHeartbeats 4000000 in
set_option maxRecDepth 20000 in
theorem ct_X7_interestsIn (μ : rb_Mem) (a : rb_Row) (x0 : Int32) (o : Int32) (ha : μ 20 = a) (h : XX7_interestsIn a x0 = some o) : rb_Ct yX7_interestsIn cX7_interestsIn 4 (some .int) 3 [.inr 19, .inl x0] μ (some o) μ := by
  unfold XX7_interestsIn at h
  have hini : rb_ov μ [(20, a)] = μ := rb_ov_sf _ _ (And.intro ha True.intro)
  have hfin := hini
  refine rb_cti (w := [(20, a)]) rfl pn_7 (Nat.le_of_ble_eq_true rfl) rfl hini ?_
  refine ev_iconst (v := 0) (pc := 0) dX7_interestsIn_0 ki_0 ?_
  refine ev_istore_n (L' := [some (.inr 19), some (.inl x0), some (.inl 0), none]) (pc := 1) dX7_interestsIn_1 (Nat.le_of_ble_eq_true rfl) rfl ?_
  refine ev_iconst (v := 0) (pc := 2) dX7_interestsIn_2 ki_0 ?_
  refine ev_istore_n (L' := [some (.inr 19), some (.inl x0), some (.inl 0), some (.inl 0)]) (pc := 3) dX7_interestsIn_3 (Nat.le_of_ble_eq_true rfl) rfl ?_
  obtain ⟨q2, l3, h⟩ := rb_bd h
  have hx7 : rb_Ev RX7 cX7_interestsIn 4 (some .int) none 3 (some o) μ 42 [none, none, some (.inl q2), none] [] (rb_ov μ [(20, a)]) := by
    refine ev_iload_n (v := q2) (pc := 42) dX7_interestsIn_42 rfl ?_
    obtain rfl := Option.some.inj h
    exact ev_iret (pc := 43) dX7_interestsIn_43 rfl rfl rfl hfin
  refine rb_lp_ev (P := fun (s1 : Int32 × Int32) => rb_Ev RX7 cX7_interestsIn 4 (some .int) none 3 (some o) μ 4 [some (.inr 19), some (.inl x0), some (.inl s1.1), some (.inl s1.2)] [] (rb_ov μ [(20, a)])) ?_ 100000 (0, 0) l3
  intro s1 y4 h ih5 hE6
  refine ev_iload_n (v := s1.2) (pc := 4) dX7_interestsIn_4 rfl ?_
  refine ev_bipush (v := 24) (pc := 5) dX7_interestsIn_5 kb_24 ?_
  by_cases b9 : 24 ≤ s1.2
  · rw [if_pos b9] at h
    refine ev_icmp_ge_t (t := 42) (pc := 7) dX7_interestsIn_7 (by decide) b9 ?_
    obtain rfl := Option.some.inj h
    obtain rfl := hE6 _ rfl
    exact ev_fg (L := [none, none, some (.inl s1.1), none]) (And.intro rfl True.intro) (hx7)
  · rw [if_neg b9] at h
    refine ev_icmp_ge_f (t := 42) (pc := 7) dX7_interestsIn_7 (by decide) b9 ?_
    obtain ⟨t10, e11, h⟩ := rb_bd h
    refine ev_iload_n (v := s1.1) (pc := 10) dX7_interestsIn_10 rfl ?_
    refine ev_aload_n (v := 19) (pc := 11) dX7_interestsIn_11 rfl ?_
    refine ev_iload_n (v := s1.2) (pc := 12) dX7_interestsIn_12 rfl ?_
    refine ev_cVi1 (pc := 13) dX7_interestsIn_13 mv_X7_isInterest lk_RX7_149 rp_19 (ct_X7_isInterest _ _ _ _ rfl e11) (Nat.le_of_ble_eq_true rfl) (Nat.le_of_ble_eq_true rfl) ?_
    obtain ⟨j12, e13, h⟩ := rb_bd h
    have hj14 : rb_Ev RX7 cX7_interestsIn 4 (some .int) none 3 (some o) μ 34 [some (.inr 19), some (.inl x0), none, some (.inl s1.2)] [.inl j12, .inl s1.1] (rb_ov μ [(20, a)]) := by
      refine ev_iadd (pc := 34) dX7_interestsIn_34 ?_
      refine ev_istore_n (L' := [some (.inr 19), some (.inl x0), some (.inl (s1.1 + j12)), some (.inl s1.2)]) (pc := 35) dX7_interestsIn_35 (Nat.le_of_ble_eq_true rfl) rfl ?_
      refine ev_iinc (x := s1.2) (v := (s1.2 + 1)) (L' := [some (.inr 19), some (.inl x0), some (.inl (s1.1 + j12)), some (.inl (s1.2 + 1))]) (pc := 36) dX7_interestsIn_36 rfl (kx_1 _) (Nat.le_of_ble_eq_true rfl) rfl ?_
      refine ev_goto (t := 4) (pc := 39) dX7_interestsIn_39 (by decide) ?_
      obtain rfl := Option.some.inj h
      exact ih5 ((s1.1 + j12), (s1.2 + 1)) rfl
    replace h := e13
    by_cases b15 : t10 = 0
    · rw [if_pos b15] at h
      refine ev_if_eq_t (t := 33) (pc := 16) dX7_interestsIn_16 (by decide) b15 ?_
      refine ev_iconst (v := 0) (pc := 33) dX7_interestsIn_33 ki_0 ?_
      obtain rfl := Option.some.inj h
      exact ev_fg (L := [some (.inr 19), some (.inl x0), none, some (.inl s1.2)]) (And.intro rfl (And.intro rfl (And.intro rfl True.intro))) (hj14)
    · rw [if_neg b15] at h
      refine ev_if_eq_f (t := 33) (pc := 16) dX7_interestsIn_16 (by decide) b15 ?_
      obtain ⟨t16, e17, h⟩ := rb_bd h
      refine ev_aload_n (v := 19) (pc := 19) dX7_interestsIn_19 rfl ?_
      refine ev_iload_n (v := s1.2) (pc := 20) dX7_interestsIn_20 rfl ?_
      refine ev_iconst (v := 1) (pc := 21) dX7_interestsIn_21 ki_1 ?_
      refine ev_cVi2 (pc := 22) dX7_interestsIn_22 mv_X7_ofInterest lk_RX7_81 rp_19 (ct_X7_ofInterest _ _ _ _ _ rfl e17) (Nat.le_of_ble_eq_true rfl) (Nat.le_of_ble_eq_true rfl) ?_
      refine ev_iload_n (v := x0) (pc := 25) dX7_interestsIn_25 rfl ?_
      by_cases b18 : t16 = x0
      · rw [if_pos b18] at h
        refine ev_icmp_ne_f (t := 33) (pc := 26) dX7_interestsIn_26 (by decide) b18 ?_
        refine ev_iconst (v := 1) (pc := 29) dX7_interestsIn_29 ki_1 ?_
        refine ev_goto (t := 34) (pc := 30) dX7_interestsIn_30 (by decide) ?_
        obtain rfl := Option.some.inj h
        exact ev_fg (L := [some (.inr 19), some (.inl x0), none, some (.inl s1.2)]) (And.intro rfl (And.intro rfl (And.intro rfl True.intro))) (hj14)
      · rw [if_neg b18] at h
        refine ev_icmp_ne_t (t := 33) (pc := 26) dX7_interestsIn_26 (by decide) b18 ?_
        refine ev_iconst (v := 0) (pc := 33) dX7_interestsIn_33 ki_0 ?_
        obtain rfl := Option.some.inj h
        exact ev_fg (L := [some (.inr 19), some (.inl x0), none, some (.inl s1.2)]) (And.intro rfl (And.intro rfl (And.intro rfl True.intro))) (hj14)
def XX7_sleepersAt (a : rb_Row) (x0 : Int32) : Option (Int32) := (rb_lp (ρ := Int32) (fun (s1 : Int32 × Int32) => if 6 ≤ s1.2 then some (.inr s1.1) else (XX7_ofTask a s1.2 0).bind fun t10 => ((if t10 = x0 then some 1 else some 0) : Option (Int32)).bind fun j12 => some (.inl ((s1.1 + j12), (s1.2 + 1)))) 100000 (0, 0)).bind fun q2 => some q2
set_option maxHeartbeats 4000000 in
set_option maxRecDepth 20000 in
theorem ct_X7_sleepersAt (μ : rb_Mem) (a : rb_Row) (x0 : Int32) (o : Int32) (ha : μ 20 = a) (h : XX7_sleepersAt a x0 = some o) : rb_Ct yX7_sleepersAt cX7_sleepersAt 4 (some .int) 2 [.inr 19, .inl x0] μ (some o) μ := by
  unfold XX7_sleepersAt at h
  have hini : rb_ov μ [(20, a)] = μ := rb_ov_sf _ _ (And.intro ha True.intro)
  have hfin := hini
  refine rb_cti (w := [(20, a)]) rfl pn_7 (Nat.le_of_ble_eq_true rfl) rfl hini ?_
  refine ev_iconst (v := 0) (pc := 0) dX7_sleepersAt_0 ki_0 ?_
  refine ev_istore_n (L' := [some (.inr 19), some (.inl x0), some (.inl 0), none]) (pc := 1) dX7_sleepersAt_1 (Nat.le_of_ble_eq_true rfl) rfl ?_
  refine ev_iconst (v := 0) (pc := 2) dX7_sleepersAt_2 ki_0 ?_
  refine ev_istore_n (L' := [some (.inr 19), some (.inl x0), some (.inl 0), some (.inl 0)]) (pc := 3) dX7_sleepersAt_3 (Nat.le_of_ble_eq_true rfl) rfl ?_
  obtain ⟨q2, l3, h⟩ := rb_bd h
  have hx7 : rb_Ev RX7 cX7_sleepersAt 4 (some .int) none 2 (some o) μ 34 [none, none, some (.inl q2), none] [] (rb_ov μ [(20, a)]) := by
    refine ev_iload_n (v := q2) (pc := 34) dX7_sleepersAt_34 rfl ?_
    obtain rfl := Option.some.inj h
    exact ev_iret (pc := 35) dX7_sleepersAt_35 rfl rfl rfl hfin
  refine rb_lp_ev (P := fun (s1 : Int32 × Int32) => rb_Ev RX7 cX7_sleepersAt 4 (some .int) none 2 (some o) μ 4 [some (.inr 19), some (.inl x0), some (.inl s1.1), some (.inl s1.2)] [] (rb_ov μ [(20, a)])) ?_ 100000 (0, 0) l3
  intro s1 y4 h ih5 hE6
  refine ev_iload_n (v := s1.2) (pc := 4) dX7_sleepersAt_4 rfl ?_
  refine ev_bipush (v := 6) (pc := 5) dX7_sleepersAt_5 kb_6 ?_
  by_cases b9 : 6 ≤ s1.2
  · rw [if_pos b9] at h
    refine ev_icmp_ge_t (t := 34) (pc := 7) dX7_sleepersAt_7 (by decide) b9 ?_
    obtain rfl := Option.some.inj h
    obtain rfl := hE6 _ rfl
    exact ev_fg (L := [none, none, some (.inl s1.1), none]) (And.intro rfl True.intro) (hx7)
  · rw [if_neg b9] at h
    refine ev_icmp_ge_f (t := 34) (pc := 7) dX7_sleepersAt_7 (by decide) b9 ?_
    obtain ⟨t10, e11, h⟩ := rb_bd h
    refine ev_iload_n (v := s1.1) (pc := 10) dX7_sleepersAt_10 rfl ?_
    refine ev_aload_n (v := 19) (pc := 11) dX7_sleepersAt_11 rfl ?_
    refine ev_iload_n (v := s1.2) (pc := 12) dX7_sleepersAt_12 rfl ?_
    refine ev_iconst (v := 0) (pc := 13) dX7_sleepersAt_13 ki_0 ?_
    refine ev_cVi2 (pc := 14) dX7_sleepersAt_14 mv_X7_ofTask lk_RX7_84 rp_19 (ct_X7_ofTask _ _ _ _ _ rfl e11) (Nat.le_of_ble_eq_true rfl) (Nat.le_of_ble_eq_true rfl) ?_
    refine ev_iload_n (v := x0) (pc := 17) dX7_sleepersAt_17 rfl ?_
    obtain ⟨j12, e13, h⟩ := rb_bd h
    have hj14 : rb_Ev RX7 cX7_sleepersAt 4 (some .int) none 2 (some o) μ 26 [some (.inr 19), some (.inl x0), none, some (.inl s1.2)] [.inl j12, .inl s1.1] (rb_ov μ [(20, a)]) := by
      refine ev_iadd (pc := 26) dX7_sleepersAt_26 ?_
      refine ev_istore_n (L' := [some (.inr 19), some (.inl x0), some (.inl (s1.1 + j12)), some (.inl s1.2)]) (pc := 27) dX7_sleepersAt_27 (Nat.le_of_ble_eq_true rfl) rfl ?_
      refine ev_iinc (x := s1.2) (v := (s1.2 + 1)) (L' := [some (.inr 19), some (.inl x0), some (.inl (s1.1 + j12)), some (.inl (s1.2 + 1))]) (pc := 28) dX7_sleepersAt_28 rfl (kx_1 _) (Nat.le_of_ble_eq_true rfl) rfl ?_
      refine ev_goto (t := 4) (pc := 31) dX7_sleepersAt_31 (by decide) ?_
      obtain rfl := Option.some.inj h
      exact ih5 ((s1.1 + j12), (s1.2 + 1)) rfl
    replace h := e13
    by_cases b15 : t10 = x0
    · rw [if_pos b15] at h
      refine ev_icmp_ne_f (t := 25) (pc := 18) dX7_sleepersAt_18 (by decide) b15 ?_
      refine ev_iconst (v := 1) (pc := 21) dX7_sleepersAt_21 ki_1 ?_
      refine ev_goto (t := 26) (pc := 22) dX7_sleepersAt_22 (by decide) ?_
      obtain rfl := Option.some.inj h
      exact ev_fg (L := [some (.inr 19), some (.inl x0), none, some (.inl s1.2)]) (And.intro rfl (And.intro rfl (And.intro rfl True.intro))) (hj14)
    · rw [if_neg b15] at h
      refine ev_icmp_ne_t (t := 25) (pc := 18) dX7_sleepersAt_18 (by decide) b15 ?_
      refine ev_iconst (v := 0) (pc := 25) dX7_sleepersAt_25 ki_0 ?_
      obtain rfl := Option.some.inj h
      exact ev_fg (L := [some (.inr 19), some (.inl x0), none, some (.inl s1.2)]) (And.intro rfl (And.intro rfl (And.intro rfl True.intro))) (hj14)
def XX7_fifthOf (a : rb_Row) (x0 : Int32) : Option (Int32) := (XX7_isEnd a x0).bind fun t1 => if t1 = 0 then (XX7_kindOf a x0).bind fun t4 => if t4 = 4 then (XX7_sleepersAt a x0).bind fun t7 => some t7 else (XX7_ofObject a x0 2).bind fun t9 => some t9 else (XX7_ofObject a x0 1).bind fun t11 => (XX7_ofPipe a t11 0).bind fun t13 => some t13
set_option maxHeartbeats 4000000 in
set_option maxRecDepth 20000 in
theorem ct_X7_fifthOf (μ : rb_Mem) (a : rb_Row) (x0 : Int32) (o : Int32) (ha : μ 20 = a) (h : XX7_fifthOf a x0 = some o) : rb_Ct yX7_fifthOf cX7_fifthOf 2 (some .int) 4 [.inr 19, .inl x0] μ (some o) μ := by
  unfold XX7_fifthOf at h
  have hini : rb_ov μ [(20, a)] = μ := rb_ov_sf _ _ (And.intro ha True.intro)
  have hfin := hini
  refine rb_cti (w := [(20, a)]) rfl pn_7 (Nat.le_of_ble_eq_true rfl) rfl hini ?_
  obtain ⟨t1, e2, h⟩ := rb_bd h
  refine ev_aload_n (v := 19) (pc := 0) dX7_fifthOf_0 rfl ?_
  refine ev_iload_n (v := x0) (pc := 1) dX7_fifthOf_1 rfl ?_
  refine ev_cVi1 (pc := 2) dX7_fifthOf_2 mv_X7_isEnd lk_RX7_220 rp_19 (ct_X7_isEnd _ _ _ _ rfl e2) (Nat.le_of_ble_eq_true rfl) (Nat.le_of_ble_eq_true rfl) ?_
  by_cases b3 : t1 = 0
  · rw [if_pos b3] at h
    refine ev_if_eq_t (t := 20) (pc := 5) dX7_fifthOf_5 (by decide) b3 ?_
    obtain ⟨t4, e5, h⟩ := rb_bd h
    refine ev_aload_n (v := 19) (pc := 20) dX7_fifthOf_20 rfl ?_
    refine ev_iload_n (v := x0) (pc := 21) dX7_fifthOf_21 rfl ?_
    refine ev_cVi1 (pc := 22) dX7_fifthOf_22 mv_X7_kindOf lk_RX7_77 rp_19 (ct_X7_kindOf _ _ _ _ rfl e5) (Nat.le_of_ble_eq_true rfl) (Nat.le_of_ble_eq_true rfl) ?_
    refine ev_iconst (v := 4) (pc := 25) dX7_fifthOf_25 ki_4 ?_
    by_cases b6 : t4 = 4
    · rw [if_pos b6] at h
      refine ev_icmp_ne_f (t := 37) (pc := 26) dX7_fifthOf_26 (by decide) b6 ?_
      obtain ⟨t7, e8, h⟩ := rb_bd h
      refine ev_aload_n (v := 19) (pc := 29) dX7_fifthOf_29 rfl ?_
      refine ev_iload_n (v := x0) (pc := 30) dX7_fifthOf_30 rfl ?_
      refine ev_cVi1 (pc := 31) dX7_fifthOf_31 mv_X7_sleepersAt lk_RX7_307 rp_19 (ct_X7_sleepersAt _ _ _ _ rfl e8) (Nat.le_of_ble_eq_true rfl) (Nat.le_of_ble_eq_true rfl) ?_
      refine ev_goto (t := 43) (pc := 34) dX7_fifthOf_34 (by decide) ?_
      obtain rfl := Option.some.inj h
      exact ev_iret (pc := 43) dX7_fifthOf_43 rfl rfl rfl hfin
    · rw [if_neg b6] at h
      refine ev_icmp_ne_t (t := 37) (pc := 26) dX7_fifthOf_26 (by decide) b6 ?_
      obtain ⟨t9, e10, h⟩ := rb_bd h
      refine ev_aload_n (v := 19) (pc := 37) dX7_fifthOf_37 rfl ?_
      refine ev_iload_n (v := x0) (pc := 38) dX7_fifthOf_38 rfl ?_
      refine ev_iconst (v := 2) (pc := 39) dX7_fifthOf_39 ki_2 ?_
      refine ev_cVi2 (pc := 40) dX7_fifthOf_40 mv_X7_ofObject lk_RX7_66 rp_19 (ct_X7_ofObject _ _ _ _ _ rfl e10) (Nat.le_of_ble_eq_true rfl) (Nat.le_of_ble_eq_true rfl) ?_
      obtain rfl := Option.some.inj h
      exact ev_iret (pc := 43) dX7_fifthOf_43 rfl rfl rfl hfin
  · rw [if_neg b3] at h
    refine ev_if_eq_f (t := 20) (pc := 5) dX7_fifthOf_5 (by decide) b3 ?_
    obtain ⟨t11, e12, h⟩ := rb_bd h
    obtain ⟨t13, e14, h⟩ := rb_bd h
    refine ev_aload_n (v := 19) (pc := 8) dX7_fifthOf_8 rfl ?_
    refine ev_aload_n (v := 19) (pc := 9) dX7_fifthOf_9 rfl ?_
    refine ev_iload_n (v := x0) (pc := 10) dX7_fifthOf_10 rfl ?_
    refine ev_iconst (v := 1) (pc := 11) dX7_fifthOf_11 ki_1 ?_
    refine ev_cVi2 (pc := 12) dX7_fifthOf_12 mv_X7_ofObject lk_RX7_66 rp_19 (ct_X7_ofObject _ _ _ _ _ rfl e12) (Nat.le_of_ble_eq_true rfl) (Nat.le_of_ble_eq_true rfl) ?_
    refine ev_iconst (v := 0) (pc := 15) dX7_fifthOf_15 ki_0 ?_
    refine ev_cVi2 (pc := 16) dX7_fifthOf_16 mv_X7_ofPipe lk_RX7_91 rp_19 (ct_X7_ofPipe _ _ _ _ _ rfl e14) (Nat.le_of_ble_eq_true rfl) (Nat.le_of_ble_eq_true rfl) ?_
    obtain rfl := Option.some.inj h
    exact ev_iret (pc := 19) dX7_fifthOf_19 rfl rfl rfl hfin
def XX7_handle (rd : rb_Row) (a : rb_Row) (x0 : Int32) (x1 : Int32) : Option (Int32 × rb_Row) := (XX7_isHandle a x0).bind fun t1 => if t1 = 0 then some ((-1), rd) else (rb_rd a 796 x0).bind fun v4 => if x1 = 0 then (XX7_kindOf a v4).bind fun t7 => some (t7, rd) else if x1 = 1 then (XX7_holdsOf a v4).bind fun t10 => some (t10, rd) else if x1 = 2 then (XX7_layReady rd a).bind fun t13 => (rb_rd t13 28 v4).bind fun v15 => some (v15, t13) else if x1 = 3 then (XX7_handlesOf a v4).bind fun t18 => some (t18, rd) else if x1 = 4 then (XX7_interestsIn a v4).bind fun t21 => some (t21, rd) else if x1 = 5 then (XX7_fifthOf a v4).bind fun t24 => some (t24, rd) else some ((-1), rd)
set_option maxHeartbeats 4000000 in
set_option maxRecDepth 20000 in
theorem ct_X7_handle (μ : rb_Mem) (rd : rb_Row) (a : rb_Row) (x0 : Int32) (x1 : Int32) (o : Int32 × rb_Row) (hrd : μ 21 = rd) (ha : μ 20 = a) (h : XX7_handle rd a x0 x1 = some o) : rb_Ct yX7_handle cX7_handle 4 (some .int) 6 [.inr 19, .inl x0, .inl x1] μ (some o.1) (rb_ov μ [(21, o.2)]) := by
  unfold XX7_handle at h
  have hini : rb_ov μ [(21, rd), (20, a)] = μ := rb_ov_sf _ _ (And.intro hrd (And.intro ha True.intro))
  have hfin : ∀ u0 : rb_Row, rb_ov μ [(21, u0), (20, a)] = rb_ov μ [(21, u0)] := fun u0 => rb_ov_ap _ [(21, u0)] _ (And.intro ha True.intro)
  refine rb_cti (w := [(21, rd), (20, a)]) rfl pn_7 (Nat.le_of_ble_eq_true rfl) rfl hini ?_
  obtain ⟨t1, e2, h⟩ := rb_bd h
  refine ev_aload_n (v := 19) (pc := 0) dX7_handle_0 rfl ?_
  refine ev_iload_n (v := x0) (pc := 1) dX7_handle_1 rfl ?_
  refine ev_cVi1 (pc := 2) dX7_handle_2 mv_X7_isHandle lk_RX7_73 rp_19 (ct_X7_isHandle _ _ _ _ rfl e2) (Nat.le_of_ble_eq_true rfl) (Nat.le_of_ble_eq_true rfl) ?_
  by_cases b3 : t1 = 0
  · rw [if_pos b3] at h
    refine ev_if_ne_f (t := 10) (pc := 5) dX7_handle_5 (by decide) b3 ?_
    refine ev_iconst (v := (-1)) (pc := 8) dX7_handle_8 ki_m1 ?_
    obtain rfl := Option.some.inj h
    exact ev_iret (pc := 9) dX7_handle_9 rfl rfl rfl (hfin _)
  · rw [if_neg b3] at h
    refine ev_if_ne_t (t := 10) (pc := 5) dX7_handle_5 (by decide) b3 ?_
    obtain ⟨v4, e5, h⟩ := rb_bd h
    refine ev_aload_n (v := 19) (pc := 10) dX7_handle_10 rfl ?_
    refine ev_getr (q := 20) (pc := 11) dX7_handle_11 fl_RX7_7 rfl rfl ?_
    refine ev_iload_n (v := x0) (pc := 14) dX7_handle_14 rfl ?_
    refine ev_iald (pc := 15) dX7_handle_15 rfl e5 ?_
    refine ev_istore_n (L' := [some (.inr 19), some (.inl x0), some (.inl x1), some (.inl v4)]) (pc := 16) dX7_handle_16 (Nat.le_of_ble_eq_true rfl) rfl ?_
    refine ev_iload_n (v := x1) (pc := 17) dX7_handle_17 rfl ?_
    by_cases b6 : x1 = 0
    · rw [if_pos b6] at h
      refine ev_tsIn (t := 56) (off := 38) (pc := 18) dX7_handle_18 (by rw [b6]; decide) (by rw [b6]; decide) (by rw [b6]; decide) (by decide) ?_
      obtain ⟨t7, e8, h⟩ := rb_bd h
      refine ev_aload_n (v := 19) (pc := 56) dX7_handle_56 rfl ?_
      refine ev_iload_n (v := v4) (pc := 57) dX7_handle_57 rfl ?_
      refine ev_cVi1 (pc := 58) dX7_handle_58 mv_X7_kindOf lk_RX7_77 rp_19 (ct_X7_kindOf _ _ _ _ rfl e8) (Nat.le_of_ble_eq_true rfl) (Nat.le_of_ble_eq_true rfl) ?_
      obtain rfl := Option.some.inj h
      exact ev_iret (pc := 61) dX7_handle_61 rfl rfl rfl (hfin _)
    · rw [if_neg b6] at h
      by_cases b9 : x1 = 1
      · rw [if_pos b9] at h
        refine ev_tsIn (t := 62) (off := 44) (pc := 18) dX7_handle_18 (by rw [b9]; decide) (by rw [b9]; decide) (by rw [b9]; decide) (by decide) ?_
        obtain ⟨t10, e11, h⟩ := rb_bd h
        refine ev_aload_n (v := 19) (pc := 62) dX7_handle_62 rfl ?_
        refine ev_iload_n (v := v4) (pc := 63) dX7_handle_63 rfl ?_
        refine ev_cVi1 (pc := 64) dX7_handle_64 mv_X7_holdsOf lk_RX7_298 rp_19 (ct_X7_holdsOf _ _ _ _ rfl e11) (Nat.le_of_ble_eq_true rfl) (Nat.le_of_ble_eq_true rfl) ?_
        obtain rfl := Option.some.inj h
        exact ev_iret (pc := 67) dX7_handle_67 rfl rfl rfl (hfin _)
      · rw [if_neg b9] at h
        by_cases b12 : x1 = 2
        · rw [if_pos b12] at h
          refine ev_tsIn (t := 68) (off := 50) (pc := 18) dX7_handle_18 (by rw [b12]; decide) (by rw [b12]; decide) (by rw [b12]; decide) (by decide) ?_
          obtain ⟨t13, e14, h⟩ := rb_bd h
          obtain ⟨v15, e16, h⟩ := rb_bd h
          refine ev_aload_n (v := 19) (pc := 68) dX7_handle_68 rfl ?_
          refine ev_cVv0w (w' := [(21, t13), (20, a)]) (pc := 69) dX7_handle_69 mv_X7_layReady lk_RX7_156 rp_19 (ct_X7_layReady _ _ _ _ rfl rfl e14) (Nat.le_of_ble_eq_true rfl) (Nat.le_of_ble_eq_true rfl) rfl ?_
          refine ev_aload_n (v := 19) (pc := 72) dX7_handle_72 rfl ?_
          refine ev_getr (q := 21) (pc := 73) dX7_handle_73 fl_RX7_13 rfl rfl ?_
          refine ev_iload_n (v := v4) (pc := 76) dX7_handle_76 rfl ?_
          refine ev_iald (pc := 77) dX7_handle_77 rfl e16 ?_
          obtain rfl := Option.some.inj h
          exact ev_iret (pc := 78) dX7_handle_78 rfl rfl rfl (hfin _)
        · rw [if_neg b12] at h
          by_cases b17 : x1 = 3
          · rw [if_pos b17] at h
            refine ev_tsIn (t := 79) (off := 61) (pc := 18) dX7_handle_18 (by rw [b17]; decide) (by rw [b17]; decide) (by rw [b17]; decide) (by decide) ?_
            obtain ⟨t18, e19, h⟩ := rb_bd h
            refine ev_aload_n (v := 19) (pc := 79) dX7_handle_79 rfl ?_
            refine ev_iload_n (v := v4) (pc := 80) dX7_handle_80 rfl ?_
            refine ev_cVi1 (pc := 81) dX7_handle_81 mv_X7_handlesOf lk_RX7_205 rp_19 (ct_X7_handlesOf _ _ _ _ rfl e19) (Nat.le_of_ble_eq_true rfl) (Nat.le_of_ble_eq_true rfl) ?_
            obtain rfl := Option.some.inj h
            exact ev_iret (pc := 84) dX7_handle_84 rfl rfl rfl (hfin _)
          · rw [if_neg b17] at h
            by_cases b20 : x1 = 4
            · rw [if_pos b20] at h
              refine ev_tsIn (t := 85) (off := 67) (pc := 18) dX7_handle_18 (by rw [b20]; decide) (by rw [b20]; decide) (by rw [b20]; decide) (by decide) ?_
              obtain ⟨t21, e22, h⟩ := rb_bd h
              refine ev_aload_n (v := 19) (pc := 85) dX7_handle_85 rfl ?_
              refine ev_iload_n (v := v4) (pc := 86) dX7_handle_86 rfl ?_
              refine ev_cVi1 (pc := 87) dX7_handle_87 mv_X7_interestsIn lk_RX7_301 rp_19 (ct_X7_interestsIn _ _ _ _ rfl e22) (Nat.le_of_ble_eq_true rfl) (Nat.le_of_ble_eq_true rfl) ?_
              obtain rfl := Option.some.inj h
              exact ev_iret (pc := 90) dX7_handle_90 rfl rfl rfl (hfin _)
            · rw [if_neg b20] at h
              by_cases b23 : x1 = 5
              · rw [if_pos b23] at h
                refine ev_tsIn (t := 91) (off := 73) (pc := 18) dX7_handle_18 (by rw [b23]; decide) (by rw [b23]; decide) (by rw [b23]; decide) (by decide) ?_
                obtain ⟨t24, e25, h⟩ := rb_bd h
                refine ev_aload_n (v := 19) (pc := 91) dX7_handle_91 rfl ?_
                refine ev_iload_n (v := v4) (pc := 92) dX7_handle_92 rfl ?_
                refine ev_cVi1 (pc := 93) dX7_handle_93 mv_X7_fifthOf lk_RX7_304 rp_19 (ct_X7_fifthOf _ _ _ _ rfl e25) (Nat.le_of_ble_eq_true rfl) (Nat.le_of_ble_eq_true rfl) ?_
                obtain rfl := Option.some.inj h
                exact ev_iret (pc := 96) dX7_handle_96 rfl rfl rfl (hfin _)
              · rw [if_neg b23] at h
                refine ev_tsOut (t := 97) (pc := 18) dX7_handle_18 (rb_tsS (k := 5) (by decide) b23 (rb_tsS (k := 4) (by decide) b20 (rb_tsS (k := 3) (by decide) b17 (rb_tsS (k := 2) (by decide) b12 (rb_tsS (k := 1) (by decide) b9 (rb_tsS (k := 0) (by decide) b6 (rb_ts0 _))))))) (by decide) ?_
                refine ev_iconst (v := (-1)) (pc := 97) dX7_handle_97 ki_m1 ?_
                obtain rfl := Option.some.inj h
                exact ev_iret (pc := 98) dX7_handle_98 rfl rfl rfl (hfin _)
def XX7_other (a : rb_Row) (x0 : Int32) : Option (Int32) := (XX7_isHandle a x0).bind fun t1 => if t1 = 0 then some (-1) else (rb_rd a 796 x0).bind fun v4 => (XX7_isEnd a v4).bind fun t6 => if t6 = 0 then some (-1) else (rb_rd a 796 x0).bind fun v9 => (XX7_otherEnd a v9).bind fun t11 => (XX7_lowestOf a t11).bind fun t13 => some t13
set_option maxHeartbeats 4000000 in
set_option maxRecDepth 20000 in
theorem ct_X7_other (μ : rb_Mem) (a : rb_Row) (x0 : Int32) (o : Int32) (ha : μ 20 = a) (h : XX7_other a x0 = some o) : rb_Ct yX7_other cX7_other 2 (some .int) 4 [.inr 19, .inl x0] μ (some o) μ := by
  unfold XX7_other at h
  have hini : rb_ov μ [(20, a)] = μ := rb_ov_sf _ _ (And.intro ha True.intro)
  have hfin := hini
  refine rb_cti (w := [(20, a)]) rfl pn_7 (Nat.le_of_ble_eq_true rfl) rfl hini ?_
  obtain ⟨t1, e2, h⟩ := rb_bd h
  refine ev_aload_n (v := 19) (pc := 0) dX7_other_0 rfl ?_
  refine ev_iload_n (v := x0) (pc := 1) dX7_other_1 rfl ?_
  refine ev_cVi1 (pc := 2) dX7_other_2 mv_X7_isHandle lk_RX7_73 rp_19 (ct_X7_isHandle _ _ _ _ rfl e2) (Nat.le_of_ble_eq_true rfl) (Nat.le_of_ble_eq_true rfl) ?_
  by_cases b3 : t1 = 0
  · rw [if_pos b3] at h
    refine ev_if_eq_t (t := 38) (pc := 5) dX7_other_5 (by decide) b3 ?_
    refine ev_iconst (v := (-1)) (pc := 38) dX7_other_38 ki_m1 ?_
    obtain rfl := Option.some.inj h
    exact ev_iret (pc := 39) dX7_other_39 rfl rfl rfl hfin
  · rw [if_neg b3] at h
    refine ev_if_eq_f (t := 38) (pc := 5) dX7_other_5 (by decide) b3 ?_
    obtain ⟨v4, e5, h⟩ := rb_bd h
    obtain ⟨t6, e7, h⟩ := rb_bd h
    refine ev_aload_n (v := 19) (pc := 8) dX7_other_8 rfl ?_
    refine ev_aload_n (v := 19) (pc := 9) dX7_other_9 rfl ?_
    refine ev_getr (q := 20) (pc := 10) dX7_other_10 fl_RX7_7 rfl rfl ?_
    refine ev_iload_n (v := x0) (pc := 13) dX7_other_13 rfl ?_
    refine ev_iald (pc := 14) dX7_other_14 rfl e5 ?_
    refine ev_cVi1 (pc := 15) dX7_other_15 mv_X7_isEnd lk_RX7_220 rp_19 (ct_X7_isEnd _ _ _ _ rfl e7) (Nat.le_of_ble_eq_true rfl) (Nat.le_of_ble_eq_true rfl) ?_
    by_cases b8 : t6 = 0
    · rw [if_pos b8] at h
      refine ev_if_eq_t (t := 38) (pc := 18) dX7_other_18 (by decide) b8 ?_
      refine ev_iconst (v := (-1)) (pc := 38) dX7_other_38 ki_m1 ?_
      obtain rfl := Option.some.inj h
      exact ev_iret (pc := 39) dX7_other_39 rfl rfl rfl hfin
    · rw [if_neg b8] at h
      refine ev_if_eq_f (t := 38) (pc := 18) dX7_other_18 (by decide) b8 ?_
      obtain ⟨v9, e10, h⟩ := rb_bd h
      obtain ⟨t11, e12, h⟩ := rb_bd h
      obtain ⟨t13, e14, h⟩ := rb_bd h
      refine ev_aload_n (v := 19) (pc := 21) dX7_other_21 rfl ?_
      refine ev_aload_n (v := 19) (pc := 22) dX7_other_22 rfl ?_
      refine ev_aload_n (v := 19) (pc := 23) dX7_other_23 rfl ?_
      refine ev_getr (q := 20) (pc := 24) dX7_other_24 fl_RX7_7 rfl rfl ?_
      refine ev_iload_n (v := x0) (pc := 27) dX7_other_27 rfl ?_
      refine ev_iald (pc := 28) dX7_other_28 rfl e10 ?_
      refine ev_cVi1 (pc := 29) dX7_other_29 mv_X7_otherEnd lk_RX7_134 rp_19 (ct_X7_otherEnd _ _ _ _ rfl e12) (Nat.le_of_ble_eq_true rfl) (Nat.le_of_ble_eq_true rfl) ?_
      refine ev_cVi1 (pc := 32) dX7_other_32 mv_X7_lowestOf lk_RX7_199 rp_19 (ct_X7_lowestOf _ _ _ _ rfl e14) (Nat.le_of_ble_eq_true rfl) (Nat.le_of_ble_eq_true rfl) ?_
      refine ev_goto (t := 39) (pc := 35) dX7_other_35 (by decide) ?_
      obtain rfl := Option.some.inj h
      exact ev_iret (pc := 39) dX7_other_39 rfl rfl rfl hfin
def XX7_placeOf (a : rb_Row) (x0 : Int32) : Option (Int32) := (XX7_ofInterest a x0 7).bind fun t1 => if t1 = 0 then some (-1) else (rb_lp (ρ := Int32) (fun (s4 : Int32 × Int32) => if 24 ≤ s4.2 then some (.inr s4.1) else (XX7_ofInterest a s4.2 0).bind fun t13 => (XX7_ofInterest a x0 0).bind fun t15 => ((if t13 = t15 then (XX7_ofInterest a s4.2 7).bind fun t21 => if t21 ≤ 0 then some s4.1 else (XX7_ofInterest a s4.2 7).bind fun t24 => (XX7_ofInterest a x0 7).bind fun t26 => if t26 ≤ t24 then some s4.1 else some (s4.1 + 1) else some s4.1) : Option (Int32)).bind fun j17 => some (.inl (j17, (s4.2 + 1)))) 100000 (0, 0)).bind fun q5 => some q5
set_option maxHeartbeats 4000000 in
set_option maxRecDepth 20000 in
theorem ct_X7_placeOf (μ : rb_Mem) (a : rb_Row) (x0 : Int32) (o : Int32) (ha : μ 20 = a) (h : XX7_placeOf a x0 = some o) : rb_Ct yX7_placeOf cX7_placeOf 4 (some .int) 2 [.inr 19, .inl x0] μ (some o) μ := by
  unfold XX7_placeOf at h
  have hini : rb_ov μ [(20, a)] = μ := rb_ov_sf _ _ (And.intro ha True.intro)
  have hfin := hini
  refine rb_cti (w := [(20, a)]) rfl pn_7 (Nat.le_of_ble_eq_true rfl) rfl hini ?_
  obtain ⟨t1, e2, h⟩ := rb_bd h
  refine ev_aload_n (v := 19) (pc := 0) dX7_placeOf_0 rfl ?_
  refine ev_iload_n (v := x0) (pc := 1) dX7_placeOf_1 rfl ?_
  refine ev_bipush (v := 7) (pc := 2) dX7_placeOf_2 kb_7 ?_
  refine ev_cVi2 (pc := 4) dX7_placeOf_4 mv_X7_ofInterest lk_RX7_81 rp_19 (ct_X7_ofInterest _ _ _ _ _ rfl e2) (Nat.le_of_ble_eq_true rfl) (Nat.le_of_ble_eq_true rfl) ?_
  by_cases b3 : t1 = 0
  · rw [if_pos b3] at h
    refine ev_if_ne_f (t := 12) (pc := 7) dX7_placeOf_7 (by decide) b3 ?_
    refine ev_iconst (v := (-1)) (pc := 10) dX7_placeOf_10 ki_m1 ?_
    obtain rfl := Option.some.inj h
    exact ev_iret (pc := 11) dX7_placeOf_11 rfl rfl rfl hfin
  · rw [if_neg b3] at h
    refine ev_if_ne_t (t := 12) (pc := 7) dX7_placeOf_7 (by decide) b3 ?_
    refine ev_iconst (v := 0) (pc := 12) dX7_placeOf_12 ki_0 ?_
    refine ev_istore_n (L' := [some (.inr 19), some (.inl x0), some (.inl 0), none]) (pc := 13) dX7_placeOf_13 (Nat.le_of_ble_eq_true rfl) rfl ?_
    refine ev_iconst (v := 0) (pc := 14) dX7_placeOf_14 ki_0 ?_
    refine ev_istore_n (L' := [some (.inr 19), some (.inl x0), some (.inl 0), some (.inl 0)]) (pc := 15) dX7_placeOf_15 (Nat.le_of_ble_eq_true rfl) rfl ?_
    obtain ⟨q5, l6, h⟩ := rb_bd h
    have hx10 : rb_Ev RX7 cX7_placeOf 4 (some .int) none 2 (some o) μ 73 [none, none, some (.inl q5), none] [] (rb_ov μ [(20, a)]) := by
      refine ev_iload_n (v := q5) (pc := 73) dX7_placeOf_73 rfl ?_
      obtain rfl := Option.some.inj h
      exact ev_iret (pc := 74) dX7_placeOf_74 rfl rfl rfl hfin
    refine rb_lp_ev (P := fun (s4 : Int32 × Int32) => rb_Ev RX7 cX7_placeOf 4 (some .int) none 2 (some o) μ 16 [some (.inr 19), some (.inl x0), some (.inl s4.1), some (.inl s4.2)] [] (rb_ov μ [(20, a)])) ?_ 100000 (0, 0) l6
    intro s4 y7 h ih8 hE9
    refine ev_iload_n (v := s4.2) (pc := 16) dX7_placeOf_16 rfl ?_
    refine ev_bipush (v := 24) (pc := 17) dX7_placeOf_17 kb_24 ?_
    by_cases b12 : 24 ≤ s4.2
    · rw [if_pos b12] at h
      refine ev_icmp_ge_t (t := 73) (pc := 19) dX7_placeOf_19 (by decide) b12 ?_
      obtain rfl := Option.some.inj h
      obtain rfl := hE9 _ rfl
      exact ev_fg (L := [none, none, some (.inl s4.1), none]) (And.intro rfl True.intro) (hx10)
    · rw [if_neg b12] at h
      refine ev_icmp_ge_f (t := 73) (pc := 19) dX7_placeOf_19 (by decide) b12 ?_
      obtain ⟨t13, e14, h⟩ := rb_bd h
      obtain ⟨t15, e16, h⟩ := rb_bd h
      refine ev_aload_n (v := 19) (pc := 22) dX7_placeOf_22 rfl ?_
      refine ev_iload_n (v := s4.2) (pc := 23) dX7_placeOf_23 rfl ?_
      refine ev_iconst (v := 0) (pc := 24) dX7_placeOf_24 ki_0 ?_
      refine ev_cVi2 (pc := 25) dX7_placeOf_25 mv_X7_ofInterest lk_RX7_81 rp_19 (ct_X7_ofInterest _ _ _ _ _ rfl e14) (Nat.le_of_ble_eq_true rfl) (Nat.le_of_ble_eq_true rfl) ?_
      refine ev_aload_n (v := 19) (pc := 28) dX7_placeOf_28 rfl ?_
      refine ev_iload_n (v := x0) (pc := 29) dX7_placeOf_29 rfl ?_
      refine ev_iconst (v := 0) (pc := 30) dX7_placeOf_30 ki_0 ?_
      refine ev_cVi2 (pc := 31) dX7_placeOf_31 mv_X7_ofInterest lk_RX7_81 rp_19 (ct_X7_ofInterest _ _ _ _ _ rfl e16) (Nat.le_of_ble_eq_true rfl) (Nat.le_of_ble_eq_true rfl) ?_
      obtain ⟨j17, e18, h⟩ := rb_bd h
      have hj19 : rb_Ev RX7 cX7_placeOf 4 (some .int) none 2 (some o) μ 67 [some (.inr 19), some (.inl x0), some (.inl j17), some (.inl s4.2)] [] (rb_ov μ [(20, a)]) := by
        refine ev_iinc (x := s4.2) (v := (s4.2 + 1)) (L' := [some (.inr 19), some (.inl x0), some (.inl j17), some (.inl (s4.2 + 1))]) (pc := 67) dX7_placeOf_67 rfl (kx_1 _) (Nat.le_of_ble_eq_true rfl) rfl ?_
        refine ev_goto (t := 16) (pc := 70) dX7_placeOf_70 (by decide) ?_
        obtain rfl := Option.some.inj h
        exact ih8 (j17, (s4.2 + 1)) rfl
      replace h := e18
      by_cases b20 : t13 = t15
      · rw [if_pos b20] at h
        refine ev_icmp_ne_f (t := 67) (pc := 34) dX7_placeOf_34 (by decide) b20 ?_
        obtain ⟨t21, e22, h⟩ := rb_bd h
        refine ev_aload_n (v := 19) (pc := 37) dX7_placeOf_37 rfl ?_
        refine ev_iload_n (v := s4.2) (pc := 38) dX7_placeOf_38 rfl ?_
        refine ev_bipush (v := 7) (pc := 39) dX7_placeOf_39 kb_7 ?_
        refine ev_cVi2 (pc := 41) dX7_placeOf_41 mv_X7_ofInterest lk_RX7_81 rp_19 (ct_X7_ofInterest _ _ _ _ _ rfl e22) (Nat.le_of_ble_eq_true rfl) (Nat.le_of_ble_eq_true rfl) ?_
        by_cases b23 : t21 ≤ 0
        · rw [if_pos b23] at h
          refine ev_if_le_t (t := 67) (pc := 44) dX7_placeOf_44 (by decide) b23 ?_
          obtain rfl := Option.some.inj h
          exact hj19
        · rw [if_neg b23] at h
          refine ev_if_le_f (t := 67) (pc := 44) dX7_placeOf_44 (by decide) b23 ?_
          obtain ⟨t24, e25, h⟩ := rb_bd h
          obtain ⟨t26, e27, h⟩ := rb_bd h
          refine ev_aload_n (v := 19) (pc := 47) dX7_placeOf_47 rfl ?_
          refine ev_iload_n (v := s4.2) (pc := 48) dX7_placeOf_48 rfl ?_
          refine ev_bipush (v := 7) (pc := 49) dX7_placeOf_49 kb_7 ?_
          refine ev_cVi2 (pc := 51) dX7_placeOf_51 mv_X7_ofInterest lk_RX7_81 rp_19 (ct_X7_ofInterest _ _ _ _ _ rfl e25) (Nat.le_of_ble_eq_true rfl) (Nat.le_of_ble_eq_true rfl) ?_
          refine ev_aload_n (v := 19) (pc := 54) dX7_placeOf_54 rfl ?_
          refine ev_iload_n (v := x0) (pc := 55) dX7_placeOf_55 rfl ?_
          refine ev_bipush (v := 7) (pc := 56) dX7_placeOf_56 kb_7 ?_
          refine ev_cVi2 (pc := 58) dX7_placeOf_58 mv_X7_ofInterest lk_RX7_81 rp_19 (ct_X7_ofInterest _ _ _ _ _ rfl e27) (Nat.le_of_ble_eq_true rfl) (Nat.le_of_ble_eq_true rfl) ?_
          by_cases b28 : t26 ≤ t24
          · rw [if_pos b28] at h
            refine ev_icmp_ge_t (t := 67) (pc := 61) dX7_placeOf_61 (by decide) b28 ?_
            obtain rfl := Option.some.inj h
            exact hj19
          · rw [if_neg b28] at h
            refine ev_icmp_ge_f (t := 67) (pc := 61) dX7_placeOf_61 (by decide) b28 ?_
            refine ev_iinc (x := s4.1) (v := (s4.1 + 1)) (L' := [some (.inr 19), some (.inl x0), some (.inl (s4.1 + 1)), some (.inl s4.2)]) (pc := 64) dX7_placeOf_64 rfl (kx_1 _) (Nat.le_of_ble_eq_true rfl) rfl ?_
            obtain rfl := Option.some.inj h
            exact hj19
      · rw [if_neg b20] at h
        refine ev_icmp_ne_t (t := 67) (pc := 34) dX7_placeOf_34 (by decide) b20 ?_
        obtain rfl := Option.some.inj h
        exact hj19
def XX7_interest (rd : rb_Row) (a : rb_Row) (x0 : Int32) (x1 : Int32) (x2 : Int32) : Option (Int32 × rb_Row) := (XX7_names a x0 4).bind fun t1 => if t1 = 0 then some ((-1), rd) else (rb_rd a 796 x0).bind fun v4 => (XX7_heldBy a v4).bind fun t6 => (XX7_isIn x1 0 (t6 - 1)).bind fun t8 => if t8 = 0 then some ((-1), rd) else (rb_rd a 796 x0).bind fun v11 => (XX7_addedBehind a v11 1 0).bind fun t13 => (rb_lp (ρ := Int32) (fun (s15 : Int32 × Int32) => if x1 ≤ s15.2 then some (.inr s15.1) else (rb_rd a 796 x0).bind fun v24 => (XX7_ofInterest a s15.1 6).bind fun t26 => (XX7_addedBehind a v24 1 t26).bind fun t28 => some (.inl (t28, (s15.2 + 1)))) 100000 (t13, 0)).bind fun q16 => if x2 = 0 then (XX7_ofInterest a q16 2).bind fun t31 => some (t31, rd) else if x2 = 1 then (XX7_ofInterest a q16 3).bind fun t34 => some (t34, rd) else if x2 = 2 then (XX7_ofInterest a q16 4).bind fun t37 => some (t37, rd) else if x2 = 3 then (XX7_ofInterest a q16 5).bind fun t40 => some (t40, rd) else if x2 = 4 then (XX7_placeOf a q16).bind fun t43 => some (t43, rd) else if x2 = 5 then (XX7_layReady rd a).bind fun t46 => (XX7_isTrue a t46 q16).bind fun t48 => if t48 = 0 then some (0, t46) else some (1, t46) else if x2 = 6 then (XX7_ofInterest a q16 2).bind fun t52 => (rb_rd a 796 t52).bind fun v54 => (XX7_ofInterest a q16 1).bind fun t56 => if v54 = t56 then some (1, rd) else some (0, rd) else if x2 = 7 then (XX7_ofInterest a q16 8).bind fun t60 => some (t60, rd) else if x2 = 8 then (XX7_ofInterest a q16 9).bind fun t63 => some (t63, rd) else if x2 = 9 then (XX7_ofInterest a q16 7).bind fun t66 => if t66 ≤ 0 then some (0, rd) else (XX7_ofInterest a q16 10).bind fun t69 => some (t69, rd) else some ((-1), rd)
set_option maxHeartbeats 4000000 in
set_option maxRecDepth 20000 in
theorem ct_X7_interest (μ : rb_Mem) (rd : rb_Row) (a : rb_Row) (x0 : Int32) (x1 : Int32) (x2 : Int32) (o : Int32 × rb_Row) (hrd : μ 21 = rd) (ha : μ 20 = a) (h : XX7_interest rd a x0 x1 x2 = some o) : rb_Ct yX7_interest cX7_interest 6 (some .int) 6 [.inr 19, .inl x0, .inl x1, .inl x2] μ (some o.1) (rb_ov μ [(21, o.2)]) := by
  unfold XX7_interest at h
  have hini : rb_ov μ [(21, rd), (20, a)] = μ := rb_ov_sf _ _ (And.intro hrd (And.intro ha True.intro))
  have hfin : ∀ u0 : rb_Row, rb_ov μ [(21, u0), (20, a)] = rb_ov μ [(21, u0)] := fun u0 => rb_ov_ap _ [(21, u0)] _ (And.intro ha True.intro)
  refine rb_cti (w := [(21, rd), (20, a)]) rfl pn_7 (Nat.le_of_ble_eq_true rfl) rfl hini ?_
  obtain ⟨t1, e2, h⟩ := rb_bd h
  refine ev_aload_n (v := 19) (pc := 0) dX7_interest_0 rfl ?_
  refine ev_iload_n (v := x0) (pc := 1) dX7_interest_1 rfl ?_
  refine ev_iconst (v := 4) (pc := 2) dX7_interest_2 ki_4 ?_
  refine ev_cVi2 (pc := 3) dX7_interest_3 mv_X7_names lk_RX7_110 rp_19 (ct_X7_names _ _ _ _ _ rfl e2) (Nat.le_of_ble_eq_true rfl) (Nat.le_of_ble_eq_true rfl) ?_
  by_cases b3 : t1 = 0
  · rw [if_pos b3] at h
    refine ev_if_eq_t (t := 29) (pc := 6) dX7_interest_6 (by decide) b3 ?_
    refine ev_iconst (v := (-1)) (pc := 29) dX7_interest_29 ki_m1 ?_
    obtain rfl := Option.some.inj h
    exact ev_iret (pc := 30) dX7_interest_30 rfl rfl rfl (hfin _)
  · rw [if_neg b3] at h
    refine ev_if_eq_f (t := 29) (pc := 6) dX7_interest_6 (by decide) b3 ?_
    obtain ⟨v4, e5, h⟩ := rb_bd h
    obtain ⟨t6, e7, h⟩ := rb_bd h
    obtain ⟨t8, e9, h⟩ := rb_bd h
    refine ev_iload_n (v := x1) (pc := 9) dX7_interest_9 rfl ?_
    refine ev_iconst (v := 0) (pc := 10) dX7_interest_10 ki_0 ?_
    refine ev_aload_n (v := 19) (pc := 11) dX7_interest_11 rfl ?_
    refine ev_aload_n (v := 19) (pc := 12) dX7_interest_12 rfl ?_
    refine ev_getr (q := 20) (pc := 13) dX7_interest_13 fl_RX7_7 rfl rfl ?_
    refine ev_iload_n (v := x0) (pc := 16) dX7_interest_16 rfl ?_
    refine ev_iald (pc := 17) dX7_interest_17 rfl e5 ?_
    refine ev_cVi1 (pc := 18) dX7_interest_18 mv_X7_heldBy lk_RX7_278 rp_19 (ct_X7_heldBy _ _ _ _ rfl e7) (Nat.le_of_ble_eq_true rfl) (Nat.le_of_ble_eq_true rfl) ?_
    refine ev_iconst (v := 1) (pc := 21) dX7_interest_21 ki_1 ?_
    refine ev_isub (pc := 22) dX7_interest_22 ?_
    refine ev_cSi3 (pc := 23) dX7_interest_23 ms_X7_isIn lk_RX7_69 (ct_X7_isIn _ _ _ _ _ e9) (Nat.le_of_ble_eq_true rfl) (Nat.le_of_ble_eq_true rfl) ?_
    by_cases b10 : t8 = 0
    · rw [if_pos b10] at h
      refine ev_if_ne_f (t := 31) (pc := 26) dX7_interest_26 (by decide) b10 ?_
      refine ev_iconst (v := (-1)) (pc := 29) dX7_interest_29 ki_m1 ?_
      obtain rfl := Option.some.inj h
      exact ev_iret (pc := 30) dX7_interest_30 rfl rfl rfl (hfin _)
    · rw [if_neg b10] at h
      refine ev_if_ne_t (t := 31) (pc := 26) dX7_interest_26 (by decide) b10 ?_
      obtain ⟨v11, e12, h⟩ := rb_bd h
      obtain ⟨t13, e14, h⟩ := rb_bd h
      refine ev_aload_n (v := 19) (pc := 31) dX7_interest_31 rfl ?_
      refine ev_aload_n (v := 19) (pc := 32) dX7_interest_32 rfl ?_
      refine ev_getr (q := 20) (pc := 33) dX7_interest_33 fl_RX7_7 rfl rfl ?_
      refine ev_iload_n (v := x0) (pc := 36) dX7_interest_36 rfl ?_
      refine ev_iald (pc := 37) dX7_interest_37 rfl e12 ?_
      refine ev_iconst (v := 1) (pc := 38) dX7_interest_38 ki_1 ?_
      refine ev_iconst (v := 0) (pc := 39) dX7_interest_39 ki_0 ?_
      refine ev_cVi3 (pc := 40) dX7_interest_40 mv_X7_addedBehind lk_RX7_192 rp_19 (ct_X7_addedBehind _ _ _ _ _ _ rfl e14) (Nat.le_of_ble_eq_true rfl) (Nat.le_of_ble_eq_true rfl) ?_
      refine ev_istore (L' := [some (.inr 19), some (.inl x0), some (.inl x1), some (.inl x2), some (.inl t13), none]) (pc := 43) dX7_interest_43 (Nat.le_of_ble_eq_true rfl) rfl ?_
      refine ev_iconst (v := 0) (pc := 45) dX7_interest_45 ki_0 ?_
      refine ev_istore (L' := [some (.inr 19), some (.inl x0), some (.inl x1), some (.inl x2), some (.inl t13), some (.inl 0)]) (pc := 46) dX7_interest_46 (Nat.le_of_ble_eq_true rfl) rfl ?_
      obtain ⟨q16, l17, h⟩ := rb_bd h
      have hx21 : rb_Ev RX7 cX7_interest 6 (some .int) none 6 (some o.1) (rb_ov μ [(21, o.2)]) 81 [some (.inr 19), none, none, some (.inl x2), some (.inl q16), none] [] (rb_ov μ [(21, rd), (20, a)]) := by
        refine ev_iload_n (v := x2) (pc := 81) dX7_interest_81 rfl ?_
        by_cases b30 : x2 = 0
        · rw [if_pos b30] at h
          refine ev_tsIn (t := 136) (off := 54) (pc := 82) dX7_interest_82 (by rw [b30]; decide) (by rw [b30]; decide) (by rw [b30]; decide) (by decide) ?_
          obtain ⟨t31, e32, h⟩ := rb_bd h
          refine ev_aload_n (v := 19) (pc := 136) dX7_interest_136 rfl ?_
          refine ev_iload (v := q16) (pc := 137) dX7_interest_137 rfl ?_
          refine ev_iconst (v := 2) (pc := 139) dX7_interest_139 ki_2 ?_
          refine ev_cVi2 (pc := 140) dX7_interest_140 mv_X7_ofInterest lk_RX7_81 rp_19 (ct_X7_ofInterest _ _ _ _ _ rfl e32) (Nat.le_of_ble_eq_true rfl) (Nat.le_of_ble_eq_true rfl) ?_
          obtain rfl := Option.some.inj h
          exact ev_iret (pc := 143) dX7_interest_143 rfl rfl rfl (hfin _)
        · rw [if_neg b30] at h
          by_cases b33 : x2 = 1
          · rw [if_pos b33] at h
            refine ev_tsIn (t := 144) (off := 62) (pc := 82) dX7_interest_82 (by rw [b33]; decide) (by rw [b33]; decide) (by rw [b33]; decide) (by decide) ?_
            obtain ⟨t34, e35, h⟩ := rb_bd h
            refine ev_aload_n (v := 19) (pc := 144) dX7_interest_144 rfl ?_
            refine ev_iload (v := q16) (pc := 145) dX7_interest_145 rfl ?_
            refine ev_iconst (v := 3) (pc := 147) dX7_interest_147 ki_3 ?_
            refine ev_cVi2 (pc := 148) dX7_interest_148 mv_X7_ofInterest lk_RX7_81 rp_19 (ct_X7_ofInterest _ _ _ _ _ rfl e35) (Nat.le_of_ble_eq_true rfl) (Nat.le_of_ble_eq_true rfl) ?_
            obtain rfl := Option.some.inj h
            exact ev_iret (pc := 151) dX7_interest_151 rfl rfl rfl (hfin _)
          · rw [if_neg b33] at h
            by_cases b36 : x2 = 2
            · rw [if_pos b36] at h
              refine ev_tsIn (t := 152) (off := 70) (pc := 82) dX7_interest_82 (by rw [b36]; decide) (by rw [b36]; decide) (by rw [b36]; decide) (by decide) ?_
              obtain ⟨t37, e38, h⟩ := rb_bd h
              refine ev_aload_n (v := 19) (pc := 152) dX7_interest_152 rfl ?_
              refine ev_iload (v := q16) (pc := 153) dX7_interest_153 rfl ?_
              refine ev_iconst (v := 4) (pc := 155) dX7_interest_155 ki_4 ?_
              refine ev_cVi2 (pc := 156) dX7_interest_156 mv_X7_ofInterest lk_RX7_81 rp_19 (ct_X7_ofInterest _ _ _ _ _ rfl e38) (Nat.le_of_ble_eq_true rfl) (Nat.le_of_ble_eq_true rfl) ?_
              obtain rfl := Option.some.inj h
              exact ev_iret (pc := 159) dX7_interest_159 rfl rfl rfl (hfin _)
            · rw [if_neg b36] at h
              by_cases b39 : x2 = 3
              · rw [if_pos b39] at h
                refine ev_tsIn (t := 160) (off := 78) (pc := 82) dX7_interest_82 (by rw [b39]; decide) (by rw [b39]; decide) (by rw [b39]; decide) (by decide) ?_
                obtain ⟨t40, e41, h⟩ := rb_bd h
                refine ev_aload_n (v := 19) (pc := 160) dX7_interest_160 rfl ?_
                refine ev_iload (v := q16) (pc := 161) dX7_interest_161 rfl ?_
                refine ev_iconst (v := 5) (pc := 163) dX7_interest_163 ki_5 ?_
                refine ev_cVi2 (pc := 164) dX7_interest_164 mv_X7_ofInterest lk_RX7_81 rp_19 (ct_X7_ofInterest _ _ _ _ _ rfl e41) (Nat.le_of_ble_eq_true rfl) (Nat.le_of_ble_eq_true rfl) ?_
                obtain rfl := Option.some.inj h
                exact ev_iret (pc := 167) dX7_interest_167 rfl rfl rfl (hfin _)
              · rw [if_neg b39] at h
                by_cases b42 : x2 = 4
                · rw [if_pos b42] at h
                  refine ev_tsIn (t := 168) (off := 86) (pc := 82) dX7_interest_82 (by rw [b42]; decide) (by rw [b42]; decide) (by rw [b42]; decide) (by decide) ?_
                  obtain ⟨t43, e44, h⟩ := rb_bd h
                  refine ev_aload_n (v := 19) (pc := 168) dX7_interest_168 rfl ?_
                  refine ev_iload (v := q16) (pc := 169) dX7_interest_169 rfl ?_
                  refine ev_cVi1 (pc := 171) dX7_interest_171 mv_X7_placeOf lk_RX7_310 rp_19 (ct_X7_placeOf _ _ _ _ rfl e44) (Nat.le_of_ble_eq_true rfl) (Nat.le_of_ble_eq_true rfl) ?_
                  obtain rfl := Option.some.inj h
                  exact ev_iret (pc := 174) dX7_interest_174 rfl rfl rfl (hfin _)
                · rw [if_neg b42] at h
                  by_cases b45 : x2 = 5
                  · rw [if_pos b45] at h
                    refine ev_tsIn (t := 175) (off := 93) (pc := 82) dX7_interest_82 (by rw [b45]; decide) (by rw [b45]; decide) (by rw [b45]; decide) (by decide) ?_
                    obtain ⟨t46, e47, h⟩ := rb_bd h
                    obtain ⟨t48, e49, h⟩ := rb_bd h
                    refine ev_aload_n (v := 19) (pc := 175) dX7_interest_175 rfl ?_
                    refine ev_cVv0w (w' := [(21, t46), (20, a)]) (pc := 176) dX7_interest_176 mv_X7_layReady lk_RX7_156 rp_19 (ct_X7_layReady _ _ _ _ rfl rfl e47) (Nat.le_of_ble_eq_true rfl) (Nat.le_of_ble_eq_true rfl) rfl ?_
                    refine ev_aload_n (v := 19) (pc := 179) dX7_interest_179 rfl ?_
                    refine ev_iload (v := q16) (pc := 180) dX7_interest_180 rfl ?_
                    refine ev_cVi1 (pc := 182) dX7_interest_182 mv_X7_isTrue lk_RX7_140 rp_19 (ct_X7_isTrue _ _ _ _ _ rfl rfl e49) (Nat.le_of_ble_eq_true rfl) (Nat.le_of_ble_eq_true rfl) ?_
                    by_cases b50 : t48 = 0
                    · rw [if_pos b50] at h
                      refine ev_if_eq_t (t := 192) (pc := 185) dX7_interest_185 (by decide) b50 ?_
                      refine ev_iconst (v := 0) (pc := 192) dX7_interest_192 ki_0 ?_
                      obtain rfl := Option.some.inj h
                      exact ev_iret (pc := 193) dX7_interest_193 rfl rfl rfl (hfin _)
                    · rw [if_neg b50] at h
                      refine ev_if_eq_f (t := 192) (pc := 185) dX7_interest_185 (by decide) b50 ?_
                      refine ev_iconst (v := 1) (pc := 188) dX7_interest_188 ki_1 ?_
                      refine ev_goto (t := 193) (pc := 189) dX7_interest_189 (by decide) ?_
                      obtain rfl := Option.some.inj h
                      exact ev_iret (pc := 193) dX7_interest_193 rfl rfl rfl (hfin _)
                  · rw [if_neg b45] at h
                    by_cases b51 : x2 = 6
                    · rw [if_pos b51] at h
                      refine ev_tsIn (t := 194) (off := 112) (pc := 82) dX7_interest_82 (by rw [b51]; decide) (by rw [b51]; decide) (by rw [b51]; decide) (by decide) ?_
                      obtain ⟨t52, e53, h⟩ := rb_bd h
                      obtain ⟨v54, e55, h⟩ := rb_bd h
                      obtain ⟨t56, e57, h⟩ := rb_bd h
                      refine ev_aload_n (v := 19) (pc := 194) dX7_interest_194 rfl ?_
                      refine ev_getr (q := 20) (pc := 195) dX7_interest_195 fl_RX7_7 rfl rfl ?_
                      refine ev_aload_n (v := 19) (pc := 198) dX7_interest_198 rfl ?_
                      refine ev_iload (v := q16) (pc := 199) dX7_interest_199 rfl ?_
                      refine ev_iconst (v := 2) (pc := 201) dX7_interest_201 ki_2 ?_
                      refine ev_cVi2 (pc := 202) dX7_interest_202 mv_X7_ofInterest lk_RX7_81 rp_19 (ct_X7_ofInterest _ _ _ _ _ rfl e53) (Nat.le_of_ble_eq_true rfl) (Nat.le_of_ble_eq_true rfl) ?_
                      refine ev_iald (pc := 205) dX7_interest_205 rfl e55 ?_
                      refine ev_aload_n (v := 19) (pc := 206) dX7_interest_206 rfl ?_
                      refine ev_iload (v := q16) (pc := 207) dX7_interest_207 rfl ?_
                      refine ev_iconst (v := 1) (pc := 209) dX7_interest_209 ki_1 ?_
                      refine ev_cVi2 (pc := 210) dX7_interest_210 mv_X7_ofInterest lk_RX7_81 rp_19 (ct_X7_ofInterest _ _ _ _ _ rfl e57) (Nat.le_of_ble_eq_true rfl) (Nat.le_of_ble_eq_true rfl) ?_
                      by_cases b58 : v54 = t56
                      · rw [if_pos b58] at h
                        refine ev_icmp_ne_f (t := 220) (pc := 213) dX7_interest_213 (by decide) b58 ?_
                        refine ev_iconst (v := 1) (pc := 216) dX7_interest_216 ki_1 ?_
                        refine ev_goto (t := 221) (pc := 217) dX7_interest_217 (by decide) ?_
                        obtain rfl := Option.some.inj h
                        exact ev_iret (pc := 221) dX7_interest_221 rfl rfl rfl (hfin _)
                      · rw [if_neg b58] at h
                        refine ev_icmp_ne_t (t := 220) (pc := 213) dX7_interest_213 (by decide) b58 ?_
                        refine ev_iconst (v := 0) (pc := 220) dX7_interest_220 ki_0 ?_
                        obtain rfl := Option.some.inj h
                        exact ev_iret (pc := 221) dX7_interest_221 rfl rfl rfl (hfin _)
                    · rw [if_neg b51] at h
                      by_cases b59 : x2 = 7
                      · rw [if_pos b59] at h
                        refine ev_tsIn (t := 222) (off := 140) (pc := 82) dX7_interest_82 (by rw [b59]; decide) (by rw [b59]; decide) (by rw [b59]; decide) (by decide) ?_
                        obtain ⟨t60, e61, h⟩ := rb_bd h
                        refine ev_aload_n (v := 19) (pc := 222) dX7_interest_222 rfl ?_
                        refine ev_iload (v := q16) (pc := 223) dX7_interest_223 rfl ?_
                        refine ev_bipush (v := 8) (pc := 225) dX7_interest_225 kb_8 ?_
                        refine ev_cVi2 (pc := 227) dX7_interest_227 mv_X7_ofInterest lk_RX7_81 rp_19 (ct_X7_ofInterest _ _ _ _ _ rfl e61) (Nat.le_of_ble_eq_true rfl) (Nat.le_of_ble_eq_true rfl) ?_
                        obtain rfl := Option.some.inj h
                        exact ev_iret (pc := 230) dX7_interest_230 rfl rfl rfl (hfin _)
                      · rw [if_neg b59] at h
                        by_cases b62 : x2 = 8
                        · rw [if_pos b62] at h
                          refine ev_tsIn (t := 231) (off := 149) (pc := 82) dX7_interest_82 (by rw [b62]; decide) (by rw [b62]; decide) (by rw [b62]; decide) (by decide) ?_
                          obtain ⟨t63, e64, h⟩ := rb_bd h
                          refine ev_aload_n (v := 19) (pc := 231) dX7_interest_231 rfl ?_
                          refine ev_iload (v := q16) (pc := 232) dX7_interest_232 rfl ?_
                          refine ev_bipush (v := 9) (pc := 234) dX7_interest_234 kb_9 ?_
                          refine ev_cVi2 (pc := 236) dX7_interest_236 mv_X7_ofInterest lk_RX7_81 rp_19 (ct_X7_ofInterest _ _ _ _ _ rfl e64) (Nat.le_of_ble_eq_true rfl) (Nat.le_of_ble_eq_true rfl) ?_
                          obtain rfl := Option.some.inj h
                          exact ev_iret (pc := 239) dX7_interest_239 rfl rfl rfl (hfin _)
                        · rw [if_neg b62] at h
                          by_cases b65 : x2 = 9
                          · rw [if_pos b65] at h
                            refine ev_tsIn (t := 240) (off := 158) (pc := 82) dX7_interest_82 (by rw [b65]; decide) (by rw [b65]; decide) (by rw [b65]; decide) (by decide) ?_
                            obtain ⟨t66, e67, h⟩ := rb_bd h
                            refine ev_aload_n (v := 19) (pc := 240) dX7_interest_240 rfl ?_
                            refine ev_iload (v := q16) (pc := 241) dX7_interest_241 rfl ?_
                            refine ev_bipush (v := 7) (pc := 243) dX7_interest_243 kb_7 ?_
                            refine ev_cVi2 (pc := 245) dX7_interest_245 mv_X7_ofInterest lk_RX7_81 rp_19 (ct_X7_ofInterest _ _ _ _ _ rfl e67) (Nat.le_of_ble_eq_true rfl) (Nat.le_of_ble_eq_true rfl) ?_
                            by_cases b68 : t66 ≤ 0
                            · rw [if_pos b68] at h
                              refine ev_if_le_t (t := 262) (pc := 248) dX7_interest_248 (by decide) b68 ?_
                              refine ev_iconst (v := 0) (pc := 262) dX7_interest_262 ki_0 ?_
                              obtain rfl := Option.some.inj h
                              exact ev_iret (pc := 263) dX7_interest_263 rfl rfl rfl (hfin _)
                            · rw [if_neg b68] at h
                              refine ev_if_le_f (t := 262) (pc := 248) dX7_interest_248 (by decide) b68 ?_
                              obtain ⟨t69, e70, h⟩ := rb_bd h
                              refine ev_aload_n (v := 19) (pc := 251) dX7_interest_251 rfl ?_
                              refine ev_iload (v := q16) (pc := 252) dX7_interest_252 rfl ?_
                              refine ev_bipush (v := 10) (pc := 254) dX7_interest_254 kb_10 ?_
                              refine ev_cVi2 (pc := 256) dX7_interest_256 mv_X7_ofInterest lk_RX7_81 rp_19 (ct_X7_ofInterest _ _ _ _ _ rfl e70) (Nat.le_of_ble_eq_true rfl) (Nat.le_of_ble_eq_true rfl) ?_
                              refine ev_goto (t := 263) (pc := 259) dX7_interest_259 (by decide) ?_
                              obtain rfl := Option.some.inj h
                              exact ev_iret (pc := 263) dX7_interest_263 rfl rfl rfl (hfin _)
                          · rw [if_neg b65] at h
                            refine ev_tsOut (t := 264) (pc := 82) dX7_interest_82 (rb_tsS (k := 9) (by decide) b65 (rb_tsS (k := 8) (by decide) b62 (rb_tsS (k := 7) (by decide) b59 (rb_tsS (k := 6) (by decide) b51 (rb_tsS (k := 5) (by decide) b45 (rb_tsS (k := 4) (by decide) b42 (rb_tsS (k := 3) (by decide) b39 (rb_tsS (k := 2) (by decide) b36 (rb_tsS (k := 1) (by decide) b33 (rb_tsS (k := 0) (by decide) b30 (rb_ts0 _))))))))))) (by decide) ?_
                            refine ev_iconst (v := (-1)) (pc := 264) dX7_interest_264 ki_m1 ?_
                            obtain rfl := Option.some.inj h
                            exact ev_iret (pc := 265) dX7_interest_265 rfl rfl rfl (hfin _)
      refine rb_lp_ev (P := fun (s15 : Int32 × Int32) => rb_Ev RX7 cX7_interest 6 (some .int) none 6 (some o.1) (rb_ov μ [(21, o.2)]) 48 [some (.inr 19), some (.inl x0), some (.inl x1), some (.inl x2), some (.inl s15.1), some (.inl s15.2)] [] (rb_ov μ [(21, rd), (20, a)])) ?_ 100000 (t13, 0) l17
      intro s15 y18 h ih19 hE20
      refine ev_iload (v := s15.2) (pc := 48) dX7_interest_48 rfl ?_
      refine ev_iload_n (v := x1) (pc := 50) dX7_interest_50 rfl ?_
      by_cases b23 : x1 ≤ s15.2
      · rw [if_pos b23] at h
        refine ev_icmp_ge_t (t := 81) (pc := 51) dX7_interest_51 (by decide) b23 ?_
        obtain rfl := Option.some.inj h
        obtain rfl := hE20 _ rfl
        exact ev_fg (L := [some (.inr 19), none, none, some (.inl x2), some (.inl s15.1), none]) (And.intro rfl (And.intro rfl (And.intro rfl True.intro))) (hx21)
      · rw [if_neg b23] at h
        refine ev_icmp_ge_f (t := 81) (pc := 51) dX7_interest_51 (by decide) b23 ?_
        obtain ⟨v24, e25, h⟩ := rb_bd h
        obtain ⟨t26, e27, h⟩ := rb_bd h
        obtain ⟨t28, e29, h⟩ := rb_bd h
        refine ev_aload_n (v := 19) (pc := 54) dX7_interest_54 rfl ?_
        refine ev_aload_n (v := 19) (pc := 55) dX7_interest_55 rfl ?_
        refine ev_getr (q := 20) (pc := 56) dX7_interest_56 fl_RX7_7 rfl rfl ?_
        refine ev_iload_n (v := x0) (pc := 59) dX7_interest_59 rfl ?_
        refine ev_iald (pc := 60) dX7_interest_60 rfl e25 ?_
        refine ev_iconst (v := 1) (pc := 61) dX7_interest_61 ki_1 ?_
        refine ev_aload_n (v := 19) (pc := 62) dX7_interest_62 rfl ?_
        refine ev_iload (v := s15.1) (pc := 63) dX7_interest_63 rfl ?_
        refine ev_bipush (v := 6) (pc := 65) dX7_interest_65 kb_6 ?_
        refine ev_cVi2 (pc := 67) dX7_interest_67 mv_X7_ofInterest lk_RX7_81 rp_19 (ct_X7_ofInterest _ _ _ _ _ rfl e27) (Nat.le_of_ble_eq_true rfl) (Nat.le_of_ble_eq_true rfl) ?_
        refine ev_cVi3 (pc := 70) dX7_interest_70 mv_X7_addedBehind lk_RX7_192 rp_19 (ct_X7_addedBehind _ _ _ _ _ _ rfl e29) (Nat.le_of_ble_eq_true rfl) (Nat.le_of_ble_eq_true rfl) ?_
        refine ev_istore (L' := [some (.inr 19), some (.inl x0), some (.inl x1), some (.inl x2), some (.inl t28), some (.inl s15.2)]) (pc := 73) dX7_interest_73 (Nat.le_of_ble_eq_true rfl) rfl ?_
        refine ev_iinc (x := s15.2) (v := (s15.2 + 1)) (L' := [some (.inr 19), some (.inl x0), some (.inl x1), some (.inl x2), some (.inl t28), some (.inl (s15.2 + 1))]) (pc := 75) dX7_interest_75 rfl (kx_1 _) (Nat.le_of_ble_eq_true rfl) rfl ?_
        refine ev_goto (t := 48) (pc := 78) dX7_interest_78 (by decide) ?_
        obtain rfl := Option.some.inj h
        exact ih19 (t28, (s15.2 + 1)) rfl
def XX7_listed (a : rb_Row) (x0 : Int32) : Option (Int32) := (XX7_names a x0 4).bind fun t1 => if t1 = 0 then some (-1) else (rb_lp (ρ := Int32) (fun (s4 : Int32 × Int32) => if 24 ≤ s4.2 then some (.inr s4.1) else (XX7_ofInterest a s4.2 0).bind fun t13 => (rb_rd a 796 x0).bind fun v15 => ((if t13 = v15 then (XX7_ofInterest a s4.2 7).bind fun t21 => if t21 ≤ 0 then some 0 else some 1 else some 0) : Option (Int32)).bind fun j17 => some (.inl ((s4.1 + j17), (s4.2 + 1)))) 100000 (0, 0)).bind fun q5 => some q5
set_option maxHeartbeats 4000000 in
set_option maxRecDepth 20000 in
theorem ct_X7_listed (μ : rb_Mem) (a : rb_Row) (x0 : Int32) (o : Int32) (ha : μ 20 = a) (h : XX7_listed a x0 = some o) : rb_Ct yX7_listed cX7_listed 4 (some .int) 4 [.inr 19, .inl x0] μ (some o) μ := by
  unfold XX7_listed at h
  have hini : rb_ov μ [(20, a)] = μ := rb_ov_sf _ _ (And.intro ha True.intro)
  have hfin := hini
  refine rb_cti (w := [(20, a)]) rfl pn_7 (Nat.le_of_ble_eq_true rfl) rfl hini ?_
  obtain ⟨t1, e2, h⟩ := rb_bd h
  refine ev_aload_n (v := 19) (pc := 0) dX7_listed_0 rfl ?_
  refine ev_iload_n (v := x0) (pc := 1) dX7_listed_1 rfl ?_
  refine ev_iconst (v := 4) (pc := 2) dX7_listed_2 ki_4 ?_
  refine ev_cVi2 (pc := 3) dX7_listed_3 mv_X7_names lk_RX7_110 rp_19 (ct_X7_names _ _ _ _ _ rfl e2) (Nat.le_of_ble_eq_true rfl) (Nat.le_of_ble_eq_true rfl) ?_
  by_cases b3 : t1 = 0
  · rw [if_pos b3] at h
    refine ev_if_ne_f (t := 11) (pc := 6) dX7_listed_6 (by decide) b3 ?_
    refine ev_iconst (v := (-1)) (pc := 9) dX7_listed_9 ki_m1 ?_
    obtain rfl := Option.some.inj h
    exact ev_iret (pc := 10) dX7_listed_10 rfl rfl rfl hfin
  · rw [if_neg b3] at h
    refine ev_if_ne_t (t := 11) (pc := 6) dX7_listed_6 (by decide) b3 ?_
    refine ev_iconst (v := 0) (pc := 11) dX7_listed_11 ki_0 ?_
    refine ev_istore_n (L' := [some (.inr 19), some (.inl x0), some (.inl 0), none]) (pc := 12) dX7_listed_12 (Nat.le_of_ble_eq_true rfl) rfl ?_
    refine ev_iconst (v := 0) (pc := 13) dX7_listed_13 ki_0 ?_
    refine ev_istore_n (L' := [some (.inr 19), some (.inl x0), some (.inl 0), some (.inl 0)]) (pc := 14) dX7_listed_14 (Nat.le_of_ble_eq_true rfl) rfl ?_
    obtain ⟨q5, l6, h⟩ := rb_bd h
    have hx10 : rb_Ev RX7 cX7_listed 4 (some .int) none 4 (some o) μ 60 [none, none, some (.inl q5), none] [] (rb_ov μ [(20, a)]) := by
      refine ev_iload_n (v := q5) (pc := 60) dX7_listed_60 rfl ?_
      obtain rfl := Option.some.inj h
      exact ev_iret (pc := 61) dX7_listed_61 rfl rfl rfl hfin
    refine rb_lp_ev (P := fun (s4 : Int32 × Int32) => rb_Ev RX7 cX7_listed 4 (some .int) none 4 (some o) μ 15 [some (.inr 19), some (.inl x0), some (.inl s4.1), some (.inl s4.2)] [] (rb_ov μ [(20, a)])) ?_ 100000 (0, 0) l6
    intro s4 y7 h ih8 hE9
    refine ev_iload_n (v := s4.2) (pc := 15) dX7_listed_15 rfl ?_
    refine ev_bipush (v := 24) (pc := 16) dX7_listed_16 kb_24 ?_
    by_cases b12 : 24 ≤ s4.2
    · rw [if_pos b12] at h
      refine ev_icmp_ge_t (t := 60) (pc := 18) dX7_listed_18 (by decide) b12 ?_
      obtain rfl := Option.some.inj h
      obtain rfl := hE9 _ rfl
      exact ev_fg (L := [none, none, some (.inl s4.1), none]) (And.intro rfl True.intro) (hx10)
    · rw [if_neg b12] at h
      refine ev_icmp_ge_f (t := 60) (pc := 18) dX7_listed_18 (by decide) b12 ?_
      obtain ⟨t13, e14, h⟩ := rb_bd h
      obtain ⟨v15, e16, h⟩ := rb_bd h
      refine ev_iload_n (v := s4.1) (pc := 21) dX7_listed_21 rfl ?_
      refine ev_aload_n (v := 19) (pc := 22) dX7_listed_22 rfl ?_
      refine ev_iload_n (v := s4.2) (pc := 23) dX7_listed_23 rfl ?_
      refine ev_iconst (v := 0) (pc := 24) dX7_listed_24 ki_0 ?_
      refine ev_cVi2 (pc := 25) dX7_listed_25 mv_X7_ofInterest lk_RX7_81 rp_19 (ct_X7_ofInterest _ _ _ _ _ rfl e14) (Nat.le_of_ble_eq_true rfl) (Nat.le_of_ble_eq_true rfl) ?_
      refine ev_aload_n (v := 19) (pc := 28) dX7_listed_28 rfl ?_
      refine ev_getr (q := 20) (pc := 29) dX7_listed_29 fl_RX7_7 rfl rfl ?_
      refine ev_iload_n (v := x0) (pc := 32) dX7_listed_32 rfl ?_
      refine ev_iald (pc := 33) dX7_listed_33 rfl e16 ?_
      obtain ⟨j17, e18, h⟩ := rb_bd h
      have hj19 : rb_Ev RX7 cX7_listed 4 (some .int) none 4 (some o) μ 52 [some (.inr 19), some (.inl x0), none, some (.inl s4.2)] [.inl j17, .inl s4.1] (rb_ov μ [(20, a)]) := by
        refine ev_iadd (pc := 52) dX7_listed_52 ?_
        refine ev_istore_n (L' := [some (.inr 19), some (.inl x0), some (.inl (s4.1 + j17)), some (.inl s4.2)]) (pc := 53) dX7_listed_53 (Nat.le_of_ble_eq_true rfl) rfl ?_
        refine ev_iinc (x := s4.2) (v := (s4.2 + 1)) (L' := [some (.inr 19), some (.inl x0), some (.inl (s4.1 + j17)), some (.inl (s4.2 + 1))]) (pc := 54) dX7_listed_54 rfl (kx_1 _) (Nat.le_of_ble_eq_true rfl) rfl ?_
        refine ev_goto (t := 15) (pc := 57) dX7_listed_57 (by decide) ?_
        obtain rfl := Option.some.inj h
        exact ih8 ((s4.1 + j17), (s4.2 + 1)) rfl
      replace h := e18
      by_cases b20 : t13 = v15
      · rw [if_pos b20] at h
        refine ev_icmp_ne_f (t := 51) (pc := 34) dX7_listed_34 (by decide) b20 ?_
        obtain ⟨t21, e22, h⟩ := rb_bd h
        refine ev_aload_n (v := 19) (pc := 37) dX7_listed_37 rfl ?_
        refine ev_iload_n (v := s4.2) (pc := 38) dX7_listed_38 rfl ?_
        refine ev_bipush (v := 7) (pc := 39) dX7_listed_39 kb_7 ?_
        refine ev_cVi2 (pc := 41) dX7_listed_41 mv_X7_ofInterest lk_RX7_81 rp_19 (ct_X7_ofInterest _ _ _ _ _ rfl e22) (Nat.le_of_ble_eq_true rfl) (Nat.le_of_ble_eq_true rfl) ?_
        by_cases b23 : t21 ≤ 0
        · rw [if_pos b23] at h
          refine ev_if_le_t (t := 51) (pc := 44) dX7_listed_44 (by decide) b23 ?_
          refine ev_iconst (v := 0) (pc := 51) dX7_listed_51 ki_0 ?_
          obtain rfl := Option.some.inj h
          exact ev_fg (L := [some (.inr 19), some (.inl x0), none, some (.inl s4.2)]) (And.intro rfl (And.intro rfl (And.intro rfl True.intro))) (hj19)
        · rw [if_neg b23] at h
          refine ev_if_le_f (t := 51) (pc := 44) dX7_listed_44 (by decide) b23 ?_
          refine ev_iconst (v := 1) (pc := 47) dX7_listed_47 ki_1 ?_
          refine ev_goto (t := 52) (pc := 48) dX7_listed_48 (by decide) ?_
          obtain rfl := Option.some.inj h
          exact ev_fg (L := [some (.inr 19), some (.inl x0), none, some (.inl s4.2)]) (And.intro rfl (And.intro rfl (And.intro rfl True.intro))) (hj19)
      · rw [if_neg b20] at h
        refine ev_icmp_ne_t (t := 51) (pc := 34) dX7_listed_34 (by decide) b20 ?_
        refine ev_iconst (v := 0) (pc := 51) dX7_listed_51 ki_0 ?_
        obtain rfl := Option.some.inj h
        exact ev_fg (L := [some (.inr 19), some (.inl x0), none, some (.inl s4.2)]) (And.intro rfl (And.intro rfl (And.intro rfl True.intro))) (hj19)
def XX7_shows (rd : rb_Row) (a : rb_Row) (x0 : Int32) : Option (Int32 × rb_Row) := (XX7_names a x0 4).bind fun t1 => if t1 = 0 then some ((-1), rd) else (XX7_layReady rd a).bind fun t4 => (rb_rd a 796 x0).bind fun v6 => (XX7_showsOf a t4 v6).bind fun t8 => some (t8, t4)
set_option maxHeartbeats 4000000 in
set_option maxRecDepth 20000 in
theorem ct_X7_shows (μ : rb_Mem) (rd : rb_Row) (a : rb_Row) (x0 : Int32) (o : Int32 × rb_Row) (hrd : μ 21 = rd) (ha : μ 20 = a) (h : XX7_shows rd a x0 = some o) : rb_Ct yX7_shows cX7_shows 2 (some .int) 6 [.inr 19, .inl x0] μ (some o.1) (rb_ov μ [(21, o.2)]) := by
  unfold XX7_shows at h
  have hini : rb_ov μ [(21, rd), (20, a)] = μ := rb_ov_sf _ _ (And.intro hrd (And.intro ha True.intro))
  have hfin : ∀ u0 : rb_Row, rb_ov μ [(21, u0), (20, a)] = rb_ov μ [(21, u0)] := fun u0 => rb_ov_ap _ [(21, u0)] _ (And.intro ha True.intro)
  refine rb_cti (w := [(21, rd), (20, a)]) rfl pn_7 (Nat.le_of_ble_eq_true rfl) rfl hini ?_
  obtain ⟨t1, e2, h⟩ := rb_bd h
  refine ev_aload_n (v := 19) (pc := 0) dX7_shows_0 rfl ?_
  refine ev_iload_n (v := x0) (pc := 1) dX7_shows_1 rfl ?_
  refine ev_iconst (v := 4) (pc := 2) dX7_shows_2 ki_4 ?_
  refine ev_cVi2 (pc := 3) dX7_shows_3 mv_X7_names lk_RX7_110 rp_19 (ct_X7_names _ _ _ _ _ rfl e2) (Nat.le_of_ble_eq_true rfl) (Nat.le_of_ble_eq_true rfl) ?_
  by_cases b3 : t1 = 0
  · rw [if_pos b3] at h
    refine ev_if_ne_f (t := 11) (pc := 6) dX7_shows_6 (by decide) b3 ?_
    refine ev_iconst (v := (-1)) (pc := 9) dX7_shows_9 ki_m1 ?_
    obtain rfl := Option.some.inj h
    exact ev_iret (pc := 10) dX7_shows_10 rfl rfl rfl (hfin _)
  · rw [if_neg b3] at h
    refine ev_if_ne_t (t := 11) (pc := 6) dX7_shows_6 (by decide) b3 ?_
    obtain ⟨t4, e5, h⟩ := rb_bd h
    obtain ⟨v6, e7, h⟩ := rb_bd h
    obtain ⟨t8, e9, h⟩ := rb_bd h
    refine ev_aload_n (v := 19) (pc := 11) dX7_shows_11 rfl ?_
    refine ev_cVv0w (w' := [(21, t4), (20, a)]) (pc := 12) dX7_shows_12 mv_X7_layReady lk_RX7_156 rp_19 (ct_X7_layReady _ _ _ _ rfl rfl e5) (Nat.le_of_ble_eq_true rfl) (Nat.le_of_ble_eq_true rfl) rfl ?_
    refine ev_aload_n (v := 19) (pc := 15) dX7_shows_15 rfl ?_
    refine ev_aload_n (v := 19) (pc := 16) dX7_shows_16 rfl ?_
    refine ev_getr (q := 20) (pc := 17) dX7_shows_17 fl_RX7_7 rfl rfl ?_
    refine ev_iload_n (v := x0) (pc := 20) dX7_shows_20 rfl ?_
    refine ev_iald (pc := 21) dX7_shows_21 rfl e7 ?_
    refine ev_cVi1 (pc := 22) dX7_shows_22 mv_X7_showsOf lk_RX7_146 rp_19 (ct_X7_showsOf _ _ _ _ _ rfl rfl e9) (Nat.le_of_ble_eq_true rfl) (Nat.le_of_ble_eq_true rfl) ?_
    obtain rfl := Option.some.inj h
    exact ev_iret (pc := 25) dX7_shows_25 rfl rfl rfl (hfin _)
def XX7_shown (rd : rb_Row) (a : rb_Row) (x0 : Int32) (x1 : Int32) : Option (Int32 × rb_Row) := (XX7_names a x0 4).bind fun t1 => if t1 = 0 then some ((-1), rd) else if 0 ≤ x1 then (XX7_layReady rd a).bind fun t5 => (rb_rd a 796 x0).bind fun v7 => (XX7_listedBehind a v7 0).bind fun t9 => (rb_lp (ρ := (Unit) ⊕ (Int32 × rb_Row)) (fun (s11 : Int32 × Int32) => if s11.2 < 0 then some (.inr (.inl ())) else (XX7_isTrue a t5 s11.2).bind fun t21 => if t21 = 0 then (rb_rd a 796 x0).bind fun v24 => (XX7_ofInterest a s11.2 7).bind fun t26 => (XX7_listedBehind a v24 t26).bind fun t28 => some (.inl (s11.1, t28)) else if s11.1 = 0 then (XX7_ofInterest a s11.2 2).bind fun t31 => some (.inr (.inr (t31, t5))) else (rb_rd a 796 x0).bind fun v33 => (XX7_ofInterest a s11.2 7).bind fun t35 => (XX7_listedBehind a v33 t35).bind fun t37 => some (.inl ((s11.1 + (-1)), t37))) 100000 (x1, t9)).bind fun q12 => Sum.elim (fun (z19 : Unit) => some ((-1), t5)) (fun (w39 : Int32 × rb_Row) => some w39) q12 else some ((-1), rd)
set_option maxHeartbeats 4000000 in
set_option maxRecDepth 20000 in
theorem ct_X7_shown (μ : rb_Mem) (rd : rb_Row) (a : rb_Row) (x0 : Int32) (x1 : Int32) (o : Int32 × rb_Row) (hrd : μ 21 = rd) (ha : μ 20 = a) (h : XX7_shown rd a x0 x1 = some o) : rb_Ct yX7_shown cX7_shown 5 (some .int) 6 [.inr 19, .inl x0, .inl x1] μ (some o.1) (rb_ov μ [(21, o.2)]) := by
  unfold XX7_shown at h
  have hini : rb_ov μ [(21, rd), (20, a)] = μ := rb_ov_sf _ _ (And.intro hrd (And.intro ha True.intro))
  have hfin : ∀ u0 : rb_Row, rb_ov μ [(21, u0), (20, a)] = rb_ov μ [(21, u0)] := fun u0 => rb_ov_ap _ [(21, u0)] _ (And.intro ha True.intro)
  refine rb_cti (w := [(21, rd), (20, a)]) rfl pn_7 (Nat.le_of_ble_eq_true rfl) rfl hini ?_
  obtain ⟨t1, e2, h⟩ := rb_bd h
  refine ev_aload_n (v := 19) (pc := 0) dX7_shown_0 rfl ?_
  refine ev_iload_n (v := x0) (pc := 1) dX7_shown_1 rfl ?_
  refine ev_iconst (v := 4) (pc := 2) dX7_shown_2 ki_4 ?_
  refine ev_cVi2 (pc := 3) dX7_shown_3 mv_X7_names lk_RX7_110 rp_19 (ct_X7_names _ _ _ _ _ rfl e2) (Nat.le_of_ble_eq_true rfl) (Nat.le_of_ble_eq_true rfl) ?_
  by_cases b3 : t1 = 0
  · rw [if_pos b3] at h
    refine ev_if_eq_t (t := 13) (pc := 6) dX7_shown_6 (by decide) b3 ?_
    refine ev_iconst (v := (-1)) (pc := 13) dX7_shown_13 ki_m1 ?_
    obtain rfl := Option.some.inj h
    exact ev_iret (pc := 14) dX7_shown_14 rfl rfl rfl (hfin _)
  · rw [if_neg b3] at h
    refine ev_if_eq_f (t := 13) (pc := 6) dX7_shown_6 (by decide) b3 ?_
    refine ev_iload_n (v := x1) (pc := 9) dX7_shown_9 rfl ?_
    by_cases b4 : 0 ≤ x1
    · rw [if_pos b4] at h
      refine ev_if_ge_t (t := 15) (pc := 10) dX7_shown_10 (by decide) b4 ?_
      obtain ⟨t5, e6, h⟩ := rb_bd h
      obtain ⟨v7, e8, h⟩ := rb_bd h
      obtain ⟨t9, e10, h⟩ := rb_bd h
      refine ev_aload_n (v := 19) (pc := 15) dX7_shown_15 rfl ?_
      refine ev_cVv0w (w' := [(21, t5), (20, a)]) (pc := 16) dX7_shown_16 mv_X7_layReady lk_RX7_156 rp_19 (ct_X7_layReady _ _ _ _ rfl rfl e6) (Nat.le_of_ble_eq_true rfl) (Nat.le_of_ble_eq_true rfl) rfl ?_
      refine ev_iload_n (v := x1) (pc := 19) dX7_shown_19 rfl ?_
      refine ev_istore_n (L' := [some (.inr 19), some (.inl x0), some (.inl x1), some (.inl x1), none]) (pc := 20) dX7_shown_20 (Nat.le_of_ble_eq_true rfl) rfl ?_
      refine ev_aload_n (v := 19) (pc := 21) dX7_shown_21 rfl ?_
      refine ev_aload_n (v := 19) (pc := 22) dX7_shown_22 rfl ?_
      refine ev_getr (q := 20) (pc := 23) dX7_shown_23 fl_RX7_7 rfl rfl ?_
      refine ev_iload_n (v := x0) (pc := 26) dX7_shown_26 rfl ?_
      refine ev_iald (pc := 27) dX7_shown_27 rfl e8 ?_
      refine ev_iconst (v := 0) (pc := 28) dX7_shown_28 ki_0 ?_
      refine ev_cVi2 (pc := 29) dX7_shown_29 mv_X7_listedBehind lk_RX7_159 rp_19 (ct_X7_listedBehind _ _ _ _ _ rfl e10) (Nat.le_of_ble_eq_true rfl) (Nat.le_of_ble_eq_true rfl) ?_
      refine ev_istore (L' := [some (.inr 19), some (.inl x0), some (.inl x1), some (.inl x1), some (.inl t9)]) (pc := 32) dX7_shown_32 (Nat.le_of_ble_eq_true rfl) rfl ?_
      obtain ⟨q12, l13, h⟩ := rb_bd h
      have hx17 : ∀ z19 : Unit, q12 = .inl z19 → rb_Ev RX7 cX7_shown 5 (some .int) none 6 (some o.1) (rb_ov μ [(21, o.2)]) 89 [none, none, none, none, none] [] (rb_ov μ [(21, t5), (20, a)]) := by
        intro z19 hz
        rw [hz] at h
        replace h := rb_sel h
        refine ev_iconst (v := (-1)) (pc := 89) dX7_shown_89 ki_m1 ?_
        obtain rfl := Option.some.inj h
        exact ev_iret (pc := 90) dX7_shown_90 rfl rfl rfl (hfin _)
      have hr18 : ∀ w39 : Int32 × rb_Row, q12 = .inr w39 → w39 = o := by
        intro w39 hz
        rw [hz] at h
        replace h := rb_ser h
        exact Option.some.inj h
      refine ev_fg (L := [some (.inr 19), some (.inl x0), none, some (.inl x1), some (.inl t9)]) (And.intro rfl (And.intro rfl (And.intro rfl (And.intro rfl True.intro)))) ?_
      refine rb_lp_ev (P := fun (s11 : Int32 × Int32) => rb_Ev RX7 cX7_shown 5 (some .int) none 6 (some o.1) (rb_ov μ [(21, o.2)]) 34 [some (.inr 19), some (.inl x0), none, some (.inl s11.1), some (.inl s11.2)] [] (rb_ov μ [(21, t5), (20, a)])) ?_ 100000 (x1, t9) l13
      intro s11 y14 h ih15 hE16
      refine ev_iload (v := s11.2) (pc := 34) dX7_shown_34 rfl ?_
      by_cases b20 : s11.2 < 0
      · rw [if_pos b20] at h
        refine ev_if_lt_t (t := 89) (pc := 36) dX7_shown_36 (by decide) b20 ?_
        obtain rfl := Option.some.inj h
        exact ev_fg (L := [none, none, none, none, none]) True.intro (hx17 () (hE16 _ rfl).symm)
      · rw [if_neg b20] at h
        refine ev_if_lt_f (t := 89) (pc := 36) dX7_shown_36 (by decide) b20 ?_
        obtain ⟨t21, e22, h⟩ := rb_bd h
        refine ev_aload_n (v := 19) (pc := 39) dX7_shown_39 rfl ?_
        refine ev_iload (v := s11.2) (pc := 40) dX7_shown_40 rfl ?_
        refine ev_cVi1 (pc := 42) dX7_shown_42 mv_X7_isTrue lk_RX7_140 rp_19 (ct_X7_isTrue _ _ _ _ _ rfl rfl e22) (Nat.le_of_ble_eq_true rfl) (Nat.le_of_ble_eq_true rfl) ?_
        by_cases b23 : t21 = 0
        · rw [if_pos b23] at h
          refine ev_if_ne_f (t := 51) (pc := 45) dX7_shown_45 (by decide) b23 ?_
          obtain ⟨v24, e25, h⟩ := rb_bd h
          obtain ⟨t26, e27, h⟩ := rb_bd h
          obtain ⟨t28, e29, h⟩ := rb_bd h
          refine ev_goto (t := 66) (pc := 48) dX7_shown_48 (by decide) ?_
          refine ev_aload_n (v := 19) (pc := 66) dX7_shown_66 rfl ?_
          refine ev_aload_n (v := 19) (pc := 67) dX7_shown_67 rfl ?_
          refine ev_getr (q := 20) (pc := 68) dX7_shown_68 fl_RX7_7 rfl rfl ?_
          refine ev_iload_n (v := x0) (pc := 71) dX7_shown_71 rfl ?_
          refine ev_iald (pc := 72) dX7_shown_72 rfl e25 ?_
          refine ev_aload_n (v := 19) (pc := 73) dX7_shown_73 rfl ?_
          refine ev_iload (v := s11.2) (pc := 74) dX7_shown_74 rfl ?_
          refine ev_bipush (v := 7) (pc := 76) dX7_shown_76 kb_7 ?_
          refine ev_cVi2 (pc := 78) dX7_shown_78 mv_X7_ofInterest lk_RX7_81 rp_19 (ct_X7_ofInterest _ _ _ _ _ rfl e27) (Nat.le_of_ble_eq_true rfl) (Nat.le_of_ble_eq_true rfl) ?_
          refine ev_cVi2 (pc := 81) dX7_shown_81 mv_X7_listedBehind lk_RX7_159 rp_19 (ct_X7_listedBehind _ _ _ _ _ rfl e29) (Nat.le_of_ble_eq_true rfl) (Nat.le_of_ble_eq_true rfl) ?_
          refine ev_istore (L' := [some (.inr 19), some (.inl x0), none, some (.inl s11.1), some (.inl t28)]) (pc := 84) dX7_shown_84 (Nat.le_of_ble_eq_true rfl) rfl ?_
          refine ev_goto (t := 34) (pc := 86) dX7_shown_86 (by decide) ?_
          obtain rfl := Option.some.inj h
          exact ih15 (s11.1, t28) rfl
        · rw [if_neg b23] at h
          refine ev_if_ne_t (t := 51) (pc := 45) dX7_shown_45 (by decide) b23 ?_
          refine ev_iload_n (v := s11.1) (pc := 51) dX7_shown_51 rfl ?_
          by_cases b30 : s11.1 = 0
          · rw [if_pos b30] at h
            refine ev_if_ne_f (t := 63) (pc := 52) dX7_shown_52 (by decide) b30 ?_
            obtain ⟨t31, e32, h⟩ := rb_bd h
            refine ev_aload_n (v := 19) (pc := 55) dX7_shown_55 rfl ?_
            refine ev_iload (v := s11.2) (pc := 56) dX7_shown_56 rfl ?_
            refine ev_iconst (v := 2) (pc := 58) dX7_shown_58 ki_2 ?_
            refine ev_cVi2 (pc := 59) dX7_shown_59 mv_X7_ofInterest lk_RX7_81 rp_19 (ct_X7_ofInterest _ _ _ _ _ rfl e32) (Nat.le_of_ble_eq_true rfl) (Nat.le_of_ble_eq_true rfl) ?_
            obtain rfl := Option.some.inj h
            obtain rfl := hr18 _ (hE16 _ rfl).symm
            exact ev_iret (pc := 62) dX7_shown_62 rfl rfl rfl (hfin _)
          · rw [if_neg b30] at h
            refine ev_if_ne_t (t := 63) (pc := 52) dX7_shown_52 (by decide) b30 ?_
            obtain ⟨v33, e34, h⟩ := rb_bd h
            obtain ⟨t35, e36, h⟩ := rb_bd h
            obtain ⟨t37, e38, h⟩ := rb_bd h
            refine ev_iinc (x := s11.1) (v := (s11.1 + (-1))) (L' := [some (.inr 19), some (.inl x0), none, some (.inl (s11.1 + (-1))), some (.inl s11.2)]) (pc := 63) dX7_shown_63 rfl (kx_m1 _) (Nat.le_of_ble_eq_true rfl) rfl ?_
            refine ev_aload_n (v := 19) (pc := 66) dX7_shown_66 rfl ?_
            refine ev_aload_n (v := 19) (pc := 67) dX7_shown_67 rfl ?_
            refine ev_getr (q := 20) (pc := 68) dX7_shown_68 fl_RX7_7 rfl rfl ?_
            refine ev_iload_n (v := x0) (pc := 71) dX7_shown_71 rfl ?_
            refine ev_iald (pc := 72) dX7_shown_72 rfl e34 ?_
            refine ev_aload_n (v := 19) (pc := 73) dX7_shown_73 rfl ?_
            refine ev_iload (v := s11.2) (pc := 74) dX7_shown_74 rfl ?_
            refine ev_bipush (v := 7) (pc := 76) dX7_shown_76 kb_7 ?_
            refine ev_cVi2 (pc := 78) dX7_shown_78 mv_X7_ofInterest lk_RX7_81 rp_19 (ct_X7_ofInterest _ _ _ _ _ rfl e36) (Nat.le_of_ble_eq_true rfl) (Nat.le_of_ble_eq_true rfl) ?_
            refine ev_cVi2 (pc := 81) dX7_shown_81 mv_X7_listedBehind lk_RX7_159 rp_19 (ct_X7_listedBehind _ _ _ _ _ rfl e38) (Nat.le_of_ble_eq_true rfl) (Nat.le_of_ble_eq_true rfl) ?_
            refine ev_istore (L' := [some (.inr 19), some (.inl x0), none, some (.inl (s11.1 + (-1))), some (.inl t37)]) (pc := 84) dX7_shown_84 (Nat.le_of_ble_eq_true rfl) rfl ?_
            refine ev_goto (t := 34) (pc := 86) dX7_shown_86 (by decide) ?_
            obtain rfl := Option.some.inj h
            exact ih15 ((s11.1 + (-1)), t37) rfl
    · rw [if_neg b4] at h
      refine ev_if_ge_f (t := 15) (pc := 10) dX7_shown_10 (by decide) b4 ?_
      refine ev_iconst (v := (-1)) (pc := 13) dX7_shown_13 ki_m1 ?_
      obtain rfl := Option.some.inj h
      exact ev_iret (pc := 14) dX7_shown_14 rfl rfl rfl (hfin _)
def XX7_depth (be : rb_Row) (ab : rb_Row) (a : rb_Row) (x0 : Int32) : Option (Int32 × rb_Row × rb_Row) := (XX7_names a x0 4).bind fun t1 => if t1 = 0 then some ((-1), be, ab) else (XX7_layDepths be ab a).bind fun t4 => (rb_rd a 796 x0).bind fun v6 => (rb_rd t4.1 28 v6).bind fun v8 => some (v8, t4.1, t4.2)
set_option maxHeartbeats 4000000 in
set_option maxRecDepth 20000 in
theorem ct_X7_depth (μ : rb_Mem) (be : rb_Row) (ab : rb_Row) (a : rb_Row) (x0 : Int32) (o : Int32 × rb_Row × rb_Row) (hbe : μ 27 = be) (hab : μ 28 = ab) (ha : μ 20 = a) (h : XX7_depth be ab a x0 = some o) : rb_Ct yX7_depth cX7_depth 2 (some .int) 4 [.inr 19, .inl x0] μ (some o.1) (rb_ov μ [(27, o.2.1), (28, o.2.2)]) := by
  unfold XX7_depth at h
  have hini : rb_ov μ [(27, be), (28, ab), (20, a)] = μ := rb_ov_sf _ _ (And.intro hbe (And.intro hab (And.intro ha True.intro)))
  have hfin : ∀ u0 u1 : rb_Row, rb_ov μ [(27, u0), (28, u1), (20, a)] = rb_ov μ [(27, u0), (28, u1)] := fun u0 u1 => rb_ov_ap _ [(27, u0), (28, u1)] _ (And.intro ha True.intro)
  refine rb_cti (w := [(27, be), (28, ab), (20, a)]) rfl pn_7 (Nat.le_of_ble_eq_true rfl) rfl hini ?_
  obtain ⟨t1, e2, h⟩ := rb_bd h
  refine ev_aload_n (v := 19) (pc := 0) dX7_depth_0 rfl ?_
  refine ev_iload_n (v := x0) (pc := 1) dX7_depth_1 rfl ?_
  refine ev_iconst (v := 4) (pc := 2) dX7_depth_2 ki_4 ?_
  refine ev_cVi2 (pc := 3) dX7_depth_3 mv_X7_names lk_RX7_110 rp_19 (ct_X7_names _ _ _ _ _ rfl e2) (Nat.le_of_ble_eq_true rfl) (Nat.le_of_ble_eq_true rfl) ?_
  by_cases b3 : t1 = 0
  · rw [if_pos b3] at h
    refine ev_if_ne_f (t := 11) (pc := 6) dX7_depth_6 (by decide) b3 ?_
    refine ev_iconst (v := (-1)) (pc := 9) dX7_depth_9 ki_m1 ?_
    obtain rfl := Option.some.inj h
    exact ev_iret (pc := 10) dX7_depth_10 rfl rfl rfl (hfin _ _)
  · rw [if_neg b3] at h
    refine ev_if_ne_t (t := 11) (pc := 6) dX7_depth_6 (by decide) b3 ?_
    obtain ⟨t4, e5, h⟩ := rb_bd h
    obtain ⟨v6, e7, h⟩ := rb_bd h
    obtain ⟨v8, e9, h⟩ := rb_bd h
    refine ev_aload_n (v := 19) (pc := 11) dX7_depth_11 rfl ?_
    refine ev_cVv0w (w' := [(27, t4.1), (28, t4.2), (20, a)]) (pc := 12) dX7_depth_12 mv_X7_layDepths lk_RX7_257 rp_19 (ct_X7_layDepths _ _ _ _ _ rfl rfl rfl e5) (Nat.le_of_ble_eq_true rfl) (Nat.le_of_ble_eq_true rfl) rfl ?_
    refine ev_aload_n (v := 19) (pc := 15) dX7_depth_15 rfl ?_
    refine ev_getr (q := 27) (pc := 16) dX7_depth_16 fl_RX7_32 rfl rfl ?_
    refine ev_aload_n (v := 19) (pc := 19) dX7_depth_19 rfl ?_
    refine ev_getr (q := 20) (pc := 20) dX7_depth_20 fl_RX7_7 rfl rfl ?_
    refine ev_iload_n (v := x0) (pc := 23) dX7_depth_23 rfl ?_
    refine ev_iald (pc := 24) dX7_depth_24 rfl e7 ?_
    refine ev_iald (pc := 25) dX7_depth_25 rfl e9 ?_
    obtain rfl := Option.some.inj h
    exact ev_iret (pc := 26) dX7_depth_26 rfl rfl rfl (hfin _ _)
def XX7_sleeper (a : rb_Row) (x0 : Int32) (x1 : Int32) : Option (Int32) := (XX7_names a x0 4).bind fun t1 => if t1 = 0 then some (-1) else if 0 ≤ x1 then (rb_rd a 796 x0).bind fun v5 => (XX7_sleeperBehind a v5 0).bind fun t7 => (rb_lp (ρ := Int32) (fun (s9 : Int32 × Int32) => if x1 ≤ s9.2 then some (.inr s9.1) else if s9.1 < 0 then some (.inr s9.1) else (rb_rd a 796 x0).bind fun v19 => (XX7_ofTask a s9.1 1).bind fun t21 => (XX7_sleeperBehind a v19 t21).bind fun t23 => some (.inl (t23, (s9.2 + 1)))) 100000 (t7, 0)).bind fun q10 => some q10 else some (-1)
set_option maxHeartbeats 4000000 in
set_option maxRecDepth 20000 in
theorem ct_X7_sleeper (μ : rb_Mem) (a : rb_Row) (x0 : Int32) (x1 : Int32) (o : Int32) (ha : μ 20 = a) (h : XX7_sleeper a x0 x1 = some o) : rb_Ct yX7_sleeper cX7_sleeper 5 (some .int) 4 [.inr 19, .inl x0, .inl x1] μ (some o) μ := by
  unfold XX7_sleeper at h
  have hini : rb_ov μ [(20, a)] = μ := rb_ov_sf _ _ (And.intro ha True.intro)
  have hfin := hini
  refine rb_cti (w := [(20, a)]) rfl pn_7 (Nat.le_of_ble_eq_true rfl) rfl hini ?_
  obtain ⟨t1, e2, h⟩ := rb_bd h
  refine ev_aload_n (v := 19) (pc := 0) dX7_sleeper_0 rfl ?_
  refine ev_iload_n (v := x0) (pc := 1) dX7_sleeper_1 rfl ?_
  refine ev_iconst (v := 4) (pc := 2) dX7_sleeper_2 ki_4 ?_
  refine ev_cVi2 (pc := 3) dX7_sleeper_3 mv_X7_names lk_RX7_110 rp_19 (ct_X7_names _ _ _ _ _ rfl e2) (Nat.le_of_ble_eq_true rfl) (Nat.le_of_ble_eq_true rfl) ?_
  by_cases b3 : t1 = 0
  · rw [if_pos b3] at h
    refine ev_if_eq_t (t := 13) (pc := 6) dX7_sleeper_6 (by decide) b3 ?_
    refine ev_iconst (v := (-1)) (pc := 13) dX7_sleeper_13 ki_m1 ?_
    obtain rfl := Option.some.inj h
    exact ev_iret (pc := 14) dX7_sleeper_14 rfl rfl rfl hfin
  · rw [if_neg b3] at h
    refine ev_if_eq_f (t := 13) (pc := 6) dX7_sleeper_6 (by decide) b3 ?_
    refine ev_iload_n (v := x1) (pc := 9) dX7_sleeper_9 rfl ?_
    by_cases b4 : 0 ≤ x1
    · rw [if_pos b4] at h
      refine ev_if_ge_t (t := 15) (pc := 10) dX7_sleeper_10 (by decide) b4 ?_
      obtain ⟨v5, e6, h⟩ := rb_bd h
      obtain ⟨t7, e8, h⟩ := rb_bd h
      refine ev_aload_n (v := 19) (pc := 15) dX7_sleeper_15 rfl ?_
      refine ev_aload_n (v := 19) (pc := 16) dX7_sleeper_16 rfl ?_
      refine ev_getr (q := 20) (pc := 17) dX7_sleeper_17 fl_RX7_7 rfl rfl ?_
      refine ev_iload_n (v := x0) (pc := 20) dX7_sleeper_20 rfl ?_
      refine ev_iald (pc := 21) dX7_sleeper_21 rfl e6 ?_
      refine ev_iconst (v := 0) (pc := 22) dX7_sleeper_22 ki_0 ?_
      refine ev_cVi2 (pc := 23) dX7_sleeper_23 mv_X7_sleeperBehind lk_RX7_173 rp_19 (ct_X7_sleeperBehind _ _ _ _ _ rfl e8) (Nat.le_of_ble_eq_true rfl) (Nat.le_of_ble_eq_true rfl) ?_
      refine ev_istore_n (L' := [some (.inr 19), some (.inl x0), some (.inl x1), some (.inl t7), none]) (pc := 26) dX7_sleeper_26 (Nat.le_of_ble_eq_true rfl) rfl ?_
      refine ev_iconst (v := 0) (pc := 27) dX7_sleeper_27 ki_0 ?_
      refine ev_istore (L' := [some (.inr 19), some (.inl x0), some (.inl x1), some (.inl t7), some (.inl 0)]) (pc := 28) dX7_sleeper_28 (Nat.le_of_ble_eq_true rfl) rfl ?_
      obtain ⟨q10, l11, h⟩ := rb_bd h
      have hx15 : rb_Ev RX7 cX7_sleeper 5 (some .int) none 4 (some o) μ 63 [none, none, none, some (.inl q10), none] [] (rb_ov μ [(20, a)]) := by
        refine ev_iload_n (v := q10) (pc := 63) dX7_sleeper_63 rfl ?_
        obtain rfl := Option.some.inj h
        exact ev_iret (pc := 64) dX7_sleeper_64 rfl rfl rfl hfin
      refine rb_lp_ev (P := fun (s9 : Int32 × Int32) => rb_Ev RX7 cX7_sleeper 5 (some .int) none 4 (some o) μ 30 [some (.inr 19), some (.inl x0), some (.inl x1), some (.inl s9.1), some (.inl s9.2)] [] (rb_ov μ [(20, a)])) ?_ 100000 (t7, 0) l11
      intro s9 y12 h ih13 hE14
      refine ev_iload (v := s9.2) (pc := 30) dX7_sleeper_30 rfl ?_
      refine ev_iload_n (v := x1) (pc := 32) dX7_sleeper_32 rfl ?_
      by_cases b17 : x1 ≤ s9.2
      · rw [if_pos b17] at h
        refine ev_icmp_ge_t (t := 63) (pc := 33) dX7_sleeper_33 (by decide) b17 ?_
        obtain rfl := Option.some.inj h
        obtain rfl := hE14 _ rfl
        exact ev_fg (L := [none, none, none, some (.inl s9.1), none]) (And.intro rfl True.intro) (hx15)
      · rw [if_neg b17] at h
        refine ev_icmp_ge_f (t := 63) (pc := 33) dX7_sleeper_33 (by decide) b17 ?_
        refine ev_iload_n (v := s9.1) (pc := 36) dX7_sleeper_36 rfl ?_
        by_cases b18 : s9.1 < 0
        · rw [if_pos b18] at h
          refine ev_if_lt_t (t := 63) (pc := 37) dX7_sleeper_37 (by decide) b18 ?_
          obtain rfl := Option.some.inj h
          obtain rfl := hE14 _ rfl
          exact ev_fg (L := [none, none, none, some (.inl s9.1), none]) (And.intro rfl True.intro) (hx15)
        · rw [if_neg b18] at h
          refine ev_if_lt_f (t := 63) (pc := 37) dX7_sleeper_37 (by decide) b18 ?_
          obtain ⟨v19, e20, h⟩ := rb_bd h
          obtain ⟨t21, e22, h⟩ := rb_bd h
          obtain ⟨t23, e24, h⟩ := rb_bd h
          refine ev_aload_n (v := 19) (pc := 40) dX7_sleeper_40 rfl ?_
          refine ev_aload_n (v := 19) (pc := 41) dX7_sleeper_41 rfl ?_
          refine ev_getr (q := 20) (pc := 42) dX7_sleeper_42 fl_RX7_7 rfl rfl ?_
          refine ev_iload_n (v := x0) (pc := 45) dX7_sleeper_45 rfl ?_
          refine ev_iald (pc := 46) dX7_sleeper_46 rfl e20 ?_
          refine ev_aload_n (v := 19) (pc := 47) dX7_sleeper_47 rfl ?_
          refine ev_iload_n (v := s9.1) (pc := 48) dX7_sleeper_48 rfl ?_
          refine ev_iconst (v := 1) (pc := 49) dX7_sleeper_49 ki_1 ?_
          refine ev_cVi2 (pc := 50) dX7_sleeper_50 mv_X7_ofTask lk_RX7_84 rp_19 (ct_X7_ofTask _ _ _ _ _ rfl e22) (Nat.le_of_ble_eq_true rfl) (Nat.le_of_ble_eq_true rfl) ?_
          refine ev_cVi2 (pc := 53) dX7_sleeper_53 mv_X7_sleeperBehind lk_RX7_173 rp_19 (ct_X7_sleeperBehind _ _ _ _ _ rfl e24) (Nat.le_of_ble_eq_true rfl) (Nat.le_of_ble_eq_true rfl) ?_
          refine ev_istore_n (L' := [some (.inr 19), some (.inl x0), some (.inl x1), some (.inl t23), some (.inl s9.2)]) (pc := 56) dX7_sleeper_56 (Nat.le_of_ble_eq_true rfl) rfl ?_
          refine ev_iinc (x := s9.2) (v := (s9.2 + 1)) (L' := [some (.inr 19), some (.inl x0), some (.inl x1), some (.inl t23), some (.inl (s9.2 + 1))]) (pc := 57) dX7_sleeper_57 rfl (kx_1 _) (Nat.le_of_ble_eq_true rfl) rfl ?_
          refine ev_goto (t := 30) (pc := 60) dX7_sleeper_60 (by decide) ?_
          obtain rfl := Option.some.inj h
          exact ih13 (t23, (s9.2 + 1)) rfl
    · rw [if_neg b4] at h
      refine ev_if_ge_f (t := 15) (pc := 10) dX7_sleeper_10 (by decide) b4 ?_
      refine ev_iconst (v := (-1)) (pc := 13) dX7_sleeper_13 ki_m1 ?_
      obtain rfl := Option.some.inj h
      exact ev_iret (pc := 14) dX7_sleeper_14 rfl rfl rfl hfin
def XX7_task (a : rb_Row) (x0 : Int32) (x1 : Int32) : Option (Int32) := (XX7_isTask x0).bind fun t1 => if t1 = 0 then some (-1) else if x1 = 0 then (XX7_isAsleep a x0).bind fun t5 => if t5 = 0 then some 0 else some 1 else if x1 = 1 then (XX7_ofTask a x0 0).bind fun t9 => (XX7_lowestOf a t9).bind fun t11 => some t11 else if x1 = 2 then (XX7_ofTask a x0 4).bind fun t14 => some t14 else if x1 = 3 then (XX7_ofTask a x0 5).bind fun t17 => some t17 else if x1 = 4 then (XX7_ofTask a x0 6).bind fun t20 => some t20 else if x1 = 5 then (XX7_ofTask a x0 7).bind fun t23 => some t23 else if x1 = 6 then (XX7_ofTask a x0 8).bind fun t26 => some t26 else if x1 = 7 then (XX7_ofTask a x0 3).bind fun t29 => some t29 else if x1 = 8 then (XX7_ofTask a x0 9).bind fun t32 => some t32 else if x1 = 9 then (XX7_ofTask a x0 38).bind fun t35 => some t35 else some (-1)
set_option maxHeartbeats 4000000 in
set_option maxRecDepth 20000 in
theorem ct_X7_task (μ : rb_Mem) (a : rb_Row) (x0 : Int32) (x1 : Int32) (o : Int32) (ha : μ 20 = a) (h : XX7_task a x0 x1 = some o) : rb_Ct yX7_task cX7_task 3 (some .int) 3 [.inr 19, .inl x0, .inl x1] μ (some o) μ := by
  unfold XX7_task at h
  have hini : rb_ov μ [(20, a)] = μ := rb_ov_sf _ _ (And.intro ha True.intro)
  have hfin := hini
  refine rb_cti (w := [(20, a)]) rfl pn_7 (Nat.le_of_ble_eq_true rfl) rfl hini ?_
  obtain ⟨t1, e2, h⟩ := rb_bd h
  refine ev_aload_n (v := 19) (pc := 0) dX7_task_0 rfl ?_
  refine ev_iload_n (v := x0) (pc := 1) dX7_task_1 rfl ?_
  refine ev_cVi1 (pc := 2) dX7_task_2 mv_X7_isTask lk_RX7_284 rp_19 (ct_X7_isTask _ _ _ e2) (Nat.le_of_ble_eq_true rfl) (Nat.le_of_ble_eq_true rfl) ?_
  by_cases b3 : t1 = 0
  · rw [if_pos b3] at h
    refine ev_if_ne_f (t := 10) (pc := 5) dX7_task_5 (by decide) b3 ?_
    refine ev_iconst (v := (-1)) (pc := 8) dX7_task_8 ki_m1 ?_
    obtain rfl := Option.some.inj h
    exact ev_iret (pc := 9) dX7_task_9 rfl rfl rfl hfin
  · rw [if_neg b3] at h
    refine ev_if_ne_t (t := 10) (pc := 5) dX7_task_5 (by decide) b3 ?_
    refine ev_iload_n (v := x1) (pc := 10) dX7_task_10 rfl ?_
    by_cases b4 : x1 = 0
    · rw [if_pos b4] at h
      refine ev_tsIn (t := 64) (off := 53) (pc := 11) dX7_task_11 (by rw [b4]; decide) (by rw [b4]; decide) (by rw [b4]; decide) (by decide) ?_
      obtain ⟨t5, e6, h⟩ := rb_bd h
      refine ev_aload_n (v := 19) (pc := 64) dX7_task_64 rfl ?_
      refine ev_iload_n (v := x0) (pc := 65) dX7_task_65 rfl ?_
      refine ev_cVi1 (pc := 66) dX7_task_66 mv_X7_isAsleep lk_RX7_250 rp_19 (ct_X7_isAsleep _ _ _ _ rfl e6) (Nat.le_of_ble_eq_true rfl) (Nat.le_of_ble_eq_true rfl) ?_
      by_cases b7 : t5 = 0
      · rw [if_pos b7] at h
        refine ev_if_eq_t (t := 76) (pc := 69) dX7_task_69 (by decide) b7 ?_
        refine ev_iconst (v := 0) (pc := 76) dX7_task_76 ki_0 ?_
        obtain rfl := Option.some.inj h
        exact ev_iret (pc := 77) dX7_task_77 rfl rfl rfl hfin
      · rw [if_neg b7] at h
        refine ev_if_eq_f (t := 76) (pc := 69) dX7_task_69 (by decide) b7 ?_
        refine ev_iconst (v := 1) (pc := 72) dX7_task_72 ki_1 ?_
        refine ev_goto (t := 77) (pc := 73) dX7_task_73 (by decide) ?_
        obtain rfl := Option.some.inj h
        exact ev_iret (pc := 77) dX7_task_77 rfl rfl rfl hfin
    · rw [if_neg b4] at h
      by_cases b8 : x1 = 1
      · rw [if_pos b8] at h
        refine ev_tsIn (t := 78) (off := 67) (pc := 11) dX7_task_11 (by rw [b8]; decide) (by rw [b8]; decide) (by rw [b8]; decide) (by decide) ?_
        obtain ⟨t9, e10, h⟩ := rb_bd h
        obtain ⟨t11, e12, h⟩ := rb_bd h
        refine ev_aload_n (v := 19) (pc := 78) dX7_task_78 rfl ?_
        refine ev_aload_n (v := 19) (pc := 79) dX7_task_79 rfl ?_
        refine ev_iload_n (v := x0) (pc := 80) dX7_task_80 rfl ?_
        refine ev_iconst (v := 0) (pc := 81) dX7_task_81 ki_0 ?_
        refine ev_cVi2 (pc := 82) dX7_task_82 mv_X7_ofTask lk_RX7_84 rp_19 (ct_X7_ofTask _ _ _ _ _ rfl e10) (Nat.le_of_ble_eq_true rfl) (Nat.le_of_ble_eq_true rfl) ?_
        refine ev_cVi1 (pc := 85) dX7_task_85 mv_X7_lowestOf lk_RX7_199 rp_19 (ct_X7_lowestOf _ _ _ _ rfl e12) (Nat.le_of_ble_eq_true rfl) (Nat.le_of_ble_eq_true rfl) ?_
        obtain rfl := Option.some.inj h
        exact ev_iret (pc := 88) dX7_task_88 rfl rfl rfl hfin
      · rw [if_neg b8] at h
        by_cases b13 : x1 = 2
        · rw [if_pos b13] at h
          refine ev_tsIn (t := 89) (off := 78) (pc := 11) dX7_task_11 (by rw [b13]; decide) (by rw [b13]; decide) (by rw [b13]; decide) (by decide) ?_
          obtain ⟨t14, e15, h⟩ := rb_bd h
          refine ev_aload_n (v := 19) (pc := 89) dX7_task_89 rfl ?_
          refine ev_iload_n (v := x0) (pc := 90) dX7_task_90 rfl ?_
          refine ev_iconst (v := 4) (pc := 91) dX7_task_91 ki_4 ?_
          refine ev_cVi2 (pc := 92) dX7_task_92 mv_X7_ofTask lk_RX7_84 rp_19 (ct_X7_ofTask _ _ _ _ _ rfl e15) (Nat.le_of_ble_eq_true rfl) (Nat.le_of_ble_eq_true rfl) ?_
          obtain rfl := Option.some.inj h
          exact ev_iret (pc := 95) dX7_task_95 rfl rfl rfl hfin
        · rw [if_neg b13] at h
          by_cases b16 : x1 = 3
          · rw [if_pos b16] at h
            refine ev_tsIn (t := 96) (off := 85) (pc := 11) dX7_task_11 (by rw [b16]; decide) (by rw [b16]; decide) (by rw [b16]; decide) (by decide) ?_
            obtain ⟨t17, e18, h⟩ := rb_bd h
            refine ev_aload_n (v := 19) (pc := 96) dX7_task_96 rfl ?_
            refine ev_iload_n (v := x0) (pc := 97) dX7_task_97 rfl ?_
            refine ev_iconst (v := 5) (pc := 98) dX7_task_98 ki_5 ?_
            refine ev_cVi2 (pc := 99) dX7_task_99 mv_X7_ofTask lk_RX7_84 rp_19 (ct_X7_ofTask _ _ _ _ _ rfl e18) (Nat.le_of_ble_eq_true rfl) (Nat.le_of_ble_eq_true rfl) ?_
            obtain rfl := Option.some.inj h
            exact ev_iret (pc := 102) dX7_task_102 rfl rfl rfl hfin
          · rw [if_neg b16] at h
            by_cases b19 : x1 = 4
            · rw [if_pos b19] at h
              refine ev_tsIn (t := 103) (off := 92) (pc := 11) dX7_task_11 (by rw [b19]; decide) (by rw [b19]; decide) (by rw [b19]; decide) (by decide) ?_
              obtain ⟨t20, e21, h⟩ := rb_bd h
              refine ev_aload_n (v := 19) (pc := 103) dX7_task_103 rfl ?_
              refine ev_iload_n (v := x0) (pc := 104) dX7_task_104 rfl ?_
              refine ev_bipush (v := 6) (pc := 105) dX7_task_105 kb_6 ?_
              refine ev_cVi2 (pc := 107) dX7_task_107 mv_X7_ofTask lk_RX7_84 rp_19 (ct_X7_ofTask _ _ _ _ _ rfl e21) (Nat.le_of_ble_eq_true rfl) (Nat.le_of_ble_eq_true rfl) ?_
              obtain rfl := Option.some.inj h
              exact ev_iret (pc := 110) dX7_task_110 rfl rfl rfl hfin
            · rw [if_neg b19] at h
              by_cases b22 : x1 = 5
              · rw [if_pos b22] at h
                refine ev_tsIn (t := 111) (off := 100) (pc := 11) dX7_task_11 (by rw [b22]; decide) (by rw [b22]; decide) (by rw [b22]; decide) (by decide) ?_
                obtain ⟨t23, e24, h⟩ := rb_bd h
                refine ev_aload_n (v := 19) (pc := 111) dX7_task_111 rfl ?_
                refine ev_iload_n (v := x0) (pc := 112) dX7_task_112 rfl ?_
                refine ev_bipush (v := 7) (pc := 113) dX7_task_113 kb_7 ?_
                refine ev_cVi2 (pc := 115) dX7_task_115 mv_X7_ofTask lk_RX7_84 rp_19 (ct_X7_ofTask _ _ _ _ _ rfl e24) (Nat.le_of_ble_eq_true rfl) (Nat.le_of_ble_eq_true rfl) ?_
                obtain rfl := Option.some.inj h
                exact ev_iret (pc := 118) dX7_task_118 rfl rfl rfl hfin
              · rw [if_neg b22] at h
                by_cases b25 : x1 = 6
                · rw [if_pos b25] at h
                  refine ev_tsIn (t := 119) (off := 108) (pc := 11) dX7_task_11 (by rw [b25]; decide) (by rw [b25]; decide) (by rw [b25]; decide) (by decide) ?_
                  obtain ⟨t26, e27, h⟩ := rb_bd h
                  refine ev_aload_n (v := 19) (pc := 119) dX7_task_119 rfl ?_
                  refine ev_iload_n (v := x0) (pc := 120) dX7_task_120 rfl ?_
                  refine ev_bipush (v := 8) (pc := 121) dX7_task_121 kb_8 ?_
                  refine ev_cVi2 (pc := 123) dX7_task_123 mv_X7_ofTask lk_RX7_84 rp_19 (ct_X7_ofTask _ _ _ _ _ rfl e27) (Nat.le_of_ble_eq_true rfl) (Nat.le_of_ble_eq_true rfl) ?_
                  obtain rfl := Option.some.inj h
                  exact ev_iret (pc := 126) dX7_task_126 rfl rfl rfl hfin
                · rw [if_neg b25] at h
                  by_cases b28 : x1 = 7
                  · rw [if_pos b28] at h
                    refine ev_tsIn (t := 127) (off := 116) (pc := 11) dX7_task_11 (by rw [b28]; decide) (by rw [b28]; decide) (by rw [b28]; decide) (by decide) ?_
                    obtain ⟨t29, e30, h⟩ := rb_bd h
                    refine ev_aload_n (v := 19) (pc := 127) dX7_task_127 rfl ?_
                    refine ev_iload_n (v := x0) (pc := 128) dX7_task_128 rfl ?_
                    refine ev_iconst (v := 3) (pc := 129) dX7_task_129 ki_3 ?_
                    refine ev_cVi2 (pc := 130) dX7_task_130 mv_X7_ofTask lk_RX7_84 rp_19 (ct_X7_ofTask _ _ _ _ _ rfl e30) (Nat.le_of_ble_eq_true rfl) (Nat.le_of_ble_eq_true rfl) ?_
                    obtain rfl := Option.some.inj h
                    exact ev_iret (pc := 133) dX7_task_133 rfl rfl rfl hfin
                  · rw [if_neg b28] at h
                    by_cases b31 : x1 = 8
                    · rw [if_pos b31] at h
                      refine ev_tsIn (t := 134) (off := 123) (pc := 11) dX7_task_11 (by rw [b31]; decide) (by rw [b31]; decide) (by rw [b31]; decide) (by decide) ?_
                      obtain ⟨t32, e33, h⟩ := rb_bd h
                      refine ev_aload_n (v := 19) (pc := 134) dX7_task_134 rfl ?_
                      refine ev_iload_n (v := x0) (pc := 135) dX7_task_135 rfl ?_
                      refine ev_bipush (v := 9) (pc := 136) dX7_task_136 kb_9 ?_
                      refine ev_cVi2 (pc := 138) dX7_task_138 mv_X7_ofTask lk_RX7_84 rp_19 (ct_X7_ofTask _ _ _ _ _ rfl e33) (Nat.le_of_ble_eq_true rfl) (Nat.le_of_ble_eq_true rfl) ?_
                      obtain rfl := Option.some.inj h
                      exact ev_iret (pc := 141) dX7_task_141 rfl rfl rfl hfin
                    · rw [if_neg b31] at h
                      by_cases b34 : x1 = 9
                      · rw [if_pos b34] at h
                        refine ev_tsIn (t := 142) (off := 131) (pc := 11) dX7_task_11 (by rw [b34]; decide) (by rw [b34]; decide) (by rw [b34]; decide) (by decide) ?_
                        obtain ⟨t35, e36, h⟩ := rb_bd h
                        refine ev_aload_n (v := 19) (pc := 142) dX7_task_142 rfl ?_
                        refine ev_iload_n (v := x0) (pc := 143) dX7_task_143 rfl ?_
                        refine ev_bipush (v := 38) (pc := 144) dX7_task_144 kb_38 ?_
                        refine ev_cVi2 (pc := 146) dX7_task_146 mv_X7_ofTask lk_RX7_84 rp_19 (ct_X7_ofTask _ _ _ _ _ rfl e36) (Nat.le_of_ble_eq_true rfl) (Nat.le_of_ble_eq_true rfl) ?_
                        obtain rfl := Option.some.inj h
                        exact ev_iret (pc := 149) dX7_task_149 rfl rfl rfl hfin
                      · rw [if_neg b34] at h
                        refine ev_tsOut (t := 150) (pc := 11) dX7_task_11 (rb_tsS (k := 9) (by decide) b34 (rb_tsS (k := 8) (by decide) b31 (rb_tsS (k := 7) (by decide) b28 (rb_tsS (k := 6) (by decide) b25 (rb_tsS (k := 5) (by decide) b22 (rb_tsS (k := 4) (by decide) b19 (rb_tsS (k := 3) (by decide) b16 (rb_tsS (k := 2) (by decide) b13 (rb_tsS (k := 1) (by decide) b8 (rb_tsS (k := 0) (by decide) b4 (rb_ts0 _))))))))))) (by decide) ?_
                        refine ev_iconst (v := (-1)) (pc := 150) dX7_task_150 ki_m1 ?_
                        obtain rfl := Option.some.inj h
                        exact ev_iret (pc := 151) dX7_task_151 rfl rfl rfl hfin
def XX7_got (a : rb_Row) (x0 : Int32) (x1 : Int32) (x2 : Int32) : Option (Int32) := (XX7_isTask x0).bind fun t1 => if t1 = 0 then some (-1) else (XX7_ofTask a x0 4).bind fun t4 => (XX7_isIn x1 0 (t4 - 1)).bind fun t6 => if t6 = 0 then some (-1) else (XX7_isIn x2 0 1).bind fun t9 => if t9 = 0 then some (-1) else (XX7_ofTask a x0 ((22 + (2 * x1)) + x2)).bind fun t12 => some t12
set_option maxHeartbeats 4000000 in
set_option maxRecDepth 20000 in
theorem ct_X7_got (μ : rb_Mem) (a : rb_Row) (x0 : Int32) (x1 : Int32) (x2 : Int32) (o : Int32) (ha : μ 20 = a) (h : XX7_got a x0 x1 x2 = some o) : rb_Ct yX7_got cX7_got 4 (some .int) 2 [.inr 19, .inl x0, .inl x1, .inl x2] μ (some o) μ := by
  unfold XX7_got at h
  have hini : rb_ov μ [(20, a)] = μ := rb_ov_sf _ _ (And.intro ha True.intro)
  have hfin := hini
  refine rb_cti (w := [(20, a)]) rfl pn_7 (Nat.le_of_ble_eq_true rfl) rfl hini ?_
  obtain ⟨t1, e2, h⟩ := rb_bd h
  refine ev_aload_n (v := 19) (pc := 0) dX7_got_0 rfl ?_
  refine ev_iload_n (v := x0) (pc := 1) dX7_got_1 rfl ?_
  refine ev_cVi1 (pc := 2) dX7_got_2 mv_X7_isTask lk_RX7_284 rp_19 (ct_X7_isTask _ _ _ e2) (Nat.le_of_ble_eq_true rfl) (Nat.le_of_ble_eq_true rfl) ?_
  by_cases b3 : t1 = 0
  · rw [if_pos b3] at h
    refine ev_if_eq_t (t := 49) (pc := 5) dX7_got_5 (by decide) b3 ?_
    refine ev_iconst (v := (-1)) (pc := 49) dX7_got_49 ki_m1 ?_
    obtain rfl := Option.some.inj h
    exact ev_iret (pc := 50) dX7_got_50 rfl rfl rfl hfin
  · rw [if_neg b3] at h
    refine ev_if_eq_f (t := 49) (pc := 5) dX7_got_5 (by decide) b3 ?_
    obtain ⟨t4, e5, h⟩ := rb_bd h
    obtain ⟨t6, e7, h⟩ := rb_bd h
    refine ev_iload_n (v := x1) (pc := 8) dX7_got_8 rfl ?_
    refine ev_iconst (v := 0) (pc := 9) dX7_got_9 ki_0 ?_
    refine ev_aload_n (v := 19) (pc := 10) dX7_got_10 rfl ?_
    refine ev_iload_n (v := x0) (pc := 11) dX7_got_11 rfl ?_
    refine ev_iconst (v := 4) (pc := 12) dX7_got_12 ki_4 ?_
    refine ev_cVi2 (pc := 13) dX7_got_13 mv_X7_ofTask lk_RX7_84 rp_19 (ct_X7_ofTask _ _ _ _ _ rfl e5) (Nat.le_of_ble_eq_true rfl) (Nat.le_of_ble_eq_true rfl) ?_
    refine ev_iconst (v := 1) (pc := 16) dX7_got_16 ki_1 ?_
    refine ev_isub (pc := 17) dX7_got_17 ?_
    refine ev_cSi3 (pc := 18) dX7_got_18 ms_X7_isIn lk_RX7_69 (ct_X7_isIn _ _ _ _ _ e7) (Nat.le_of_ble_eq_true rfl) (Nat.le_of_ble_eq_true rfl) ?_
    by_cases b8 : t6 = 0
    · rw [if_pos b8] at h
      refine ev_if_eq_t (t := 49) (pc := 21) dX7_got_21 (by decide) b8 ?_
      refine ev_iconst (v := (-1)) (pc := 49) dX7_got_49 ki_m1 ?_
      obtain rfl := Option.some.inj h
      exact ev_iret (pc := 50) dX7_got_50 rfl rfl rfl hfin
    · rw [if_neg b8] at h
      refine ev_if_eq_f (t := 49) (pc := 21) dX7_got_21 (by decide) b8 ?_
      obtain ⟨t9, e10, h⟩ := rb_bd h
      refine ev_iload_n (v := x2) (pc := 24) dX7_got_24 rfl ?_
      refine ev_iconst (v := 0) (pc := 25) dX7_got_25 ki_0 ?_
      refine ev_iconst (v := 1) (pc := 26) dX7_got_26 ki_1 ?_
      refine ev_cSi3 (pc := 27) dX7_got_27 ms_X7_isIn lk_RX7_69 (ct_X7_isIn _ _ _ _ _ e10) (Nat.le_of_ble_eq_true rfl) (Nat.le_of_ble_eq_true rfl) ?_
      by_cases b11 : t9 = 0
      · rw [if_pos b11] at h
        refine ev_if_eq_t (t := 49) (pc := 30) dX7_got_30 (by decide) b11 ?_
        refine ev_iconst (v := (-1)) (pc := 49) dX7_got_49 ki_m1 ?_
        obtain rfl := Option.some.inj h
        exact ev_iret (pc := 50) dX7_got_50 rfl rfl rfl hfin
      · rw [if_neg b11] at h
        refine ev_if_eq_f (t := 49) (pc := 30) dX7_got_30 (by decide) b11 ?_
        obtain ⟨t12, e13, h⟩ := rb_bd h
        refine ev_aload_n (v := 19) (pc := 33) dX7_got_33 rfl ?_
        refine ev_iload_n (v := x0) (pc := 34) dX7_got_34 rfl ?_
        refine ev_bipush (v := 22) (pc := 35) dX7_got_35 kb_22 ?_
        refine ev_iconst (v := 2) (pc := 37) dX7_got_37 ki_2 ?_
        refine ev_iload_n (v := x1) (pc := 38) dX7_got_38 rfl ?_
        refine ev_imul (pc := 39) dX7_got_39 ?_
        refine ev_iadd (pc := 40) dX7_got_40 ?_
        refine ev_iload_n (v := x2) (pc := 41) dX7_got_41 rfl ?_
        refine ev_iadd (pc := 42) dX7_got_42 ?_
        refine ev_cVi2 (pc := 43) dX7_got_43 mv_X7_ofTask lk_RX7_84 rp_19 (ct_X7_ofTask _ _ _ _ _ rfl e13) (Nat.le_of_ble_eq_true rfl) (Nat.le_of_ble_eq_true rfl) ?_
        refine ev_goto (t := 50) (pc := 46) dX7_got_46 (by decide) ?_
        obtain rfl := Option.some.inj h
        exact ev_iret (pc := 50) dX7_got_50 rfl rfl rfl hfin
def XX7_putStep (a : rb_Row) (x0 : Int32) (x1 : Int32) (x2 : Int32) (x3 : Int32) : Option (rb_Row) := (XX7_ofTask a x0 9).bind fun t1 => (XX7_taskAt x0 (10 + (3 * t1))).bind fun t3 => (rb_wr a 796 t3 x1).bind fun a5 => (rb_wr a5 796 (t3 + 1) x2).bind fun a7 => (rb_wr a7 796 (t3 + 2) x3).bind fun a9 => (XX7_taskAt x0 9).bind fun t11 => (rb_rd a9 796 t11).bind fun v13 => (rb_wr a9 796 t11 (v13 + 1)).bind fun a15 => some a15
set_option maxHeartbeats 4000000 in
set_option maxRecDepth 20000 in
theorem ct_X7_putStep (μ : rb_Mem) (a : rb_Row) (x0 : Int32) (x1 : Int32) (x2 : Int32) (x3 : Int32) (o : rb_Row) (ha : μ 20 = a) (h : XX7_putStep a x0 x1 x2 x3 = some o) : rb_Ct yX7_putStep cX7_putStep 6 none 2 [.inr 19, .inl x0, .inl x1, .inl x2, .inl x3] μ none (rb_ov μ [(20, o)]) := by
  unfold XX7_putStep at h
  have hini : rb_ov μ [(20, a)] = μ := rb_ov_sf _ _ (And.intro ha True.intro)
  have hfin : ∀ u0 : rb_Row, rb_ov μ [(20, u0)] = rb_ov μ [(20, u0)] := fun u0 => rfl
  refine rb_ctv (w := [(20, a)]) rfl pn_7 (Nat.le_of_ble_eq_true rfl) rfl hini ?_
  obtain ⟨t1, e2, h⟩ := rb_bd h
  obtain ⟨t3, e4, h⟩ := rb_bd h
  obtain ⟨a5, e6, h⟩ := rb_bd h
  obtain ⟨a7, e8, h⟩ := rb_bd h
  obtain ⟨a9, e10, h⟩ := rb_bd h
  obtain ⟨t11, e12, h⟩ := rb_bd h
  obtain ⟨v13, e14, h⟩ := rb_bd h
  obtain ⟨a15, e16, h⟩ := rb_bd h
  refine ev_iload_n (v := x0) (pc := 0) dX7_putStep_0 rfl ?_
  refine ev_bipush (v := 10) (pc := 1) dX7_putStep_1 kb_10 ?_
  refine ev_iconst (v := 3) (pc := 3) dX7_putStep_3 ki_3 ?_
  refine ev_aload_n (v := 19) (pc := 4) dX7_putStep_4 rfl ?_
  refine ev_iload_n (v := x0) (pc := 5) dX7_putStep_5 rfl ?_
  refine ev_bipush (v := 9) (pc := 6) dX7_putStep_6 kb_9 ?_
  refine ev_cVi2 (pc := 8) dX7_putStep_8 mv_X7_ofTask lk_RX7_84 rp_19 (ct_X7_ofTask _ _ _ _ _ rfl e2) (Nat.le_of_ble_eq_true rfl) (Nat.le_of_ble_eq_true rfl) ?_
  refine ev_imul (pc := 11) dX7_putStep_11 ?_
  refine ev_iadd (pc := 12) dX7_putStep_12 ?_
  refine ev_cSi2 (pc := 13) dX7_putStep_13 ms_X7_taskAt lk_RX7_63 (ct_X7_taskAt _ _ _ _ e4) (Nat.le_of_ble_eq_true rfl) (Nat.le_of_ble_eq_true rfl) ?_
  refine ev_istore (L' := [some (.inr 19), some (.inl x0), some (.inl x1), some (.inl x2), some (.inl x3), some (.inl t3)]) (pc := 16) dX7_putStep_16 (Nat.le_of_ble_eq_true rfl) rfl ?_
  refine ev_aload_n (v := 19) (pc := 18) dX7_putStep_18 rfl ?_
  refine ev_getr (q := 20) (pc := 19) dX7_putStep_19 fl_RX7_7 rfl rfl ?_
  refine ev_iload (v := t3) (pc := 22) dX7_putStep_22 rfl ?_
  refine ev_iload_n (v := x1) (pc := 24) dX7_putStep_24 rfl ?_
  refine ev_iast (w' := [(20, a5)]) (pc := 25) dX7_putStep_25 rfl e6 rfl ?_
  refine ev_aload_n (v := 19) (pc := 26) dX7_putStep_26 rfl ?_
  refine ev_getr (q := 20) (pc := 27) dX7_putStep_27 fl_RX7_7 rfl rfl ?_
  refine ev_iload (v := t3) (pc := 30) dX7_putStep_30 rfl ?_
  refine ev_iconst (v := 1) (pc := 32) dX7_putStep_32 ki_1 ?_
  refine ev_iadd (pc := 33) dX7_putStep_33 ?_
  refine ev_iload_n (v := x2) (pc := 34) dX7_putStep_34 rfl ?_
  refine ev_iast (w' := [(20, a7)]) (pc := 35) dX7_putStep_35 rfl e8 rfl ?_
  refine ev_aload_n (v := 19) (pc := 36) dX7_putStep_36 rfl ?_
  refine ev_getr (q := 20) (pc := 37) dX7_putStep_37 fl_RX7_7 rfl rfl ?_
  refine ev_iload (v := t3) (pc := 40) dX7_putStep_40 rfl ?_
  refine ev_iconst (v := 2) (pc := 42) dX7_putStep_42 ki_2 ?_
  refine ev_iadd (pc := 43) dX7_putStep_43 ?_
  refine ev_iload (v := x3) (pc := 44) dX7_putStep_44 rfl ?_
  refine ev_iast (w' := [(20, a9)]) (pc := 46) dX7_putStep_46 rfl e10 rfl ?_
  refine ev_aload_n (v := 19) (pc := 47) dX7_putStep_47 rfl ?_
  refine ev_getr (q := 20) (pc := 48) dX7_putStep_48 fl_RX7_7 rfl rfl ?_
  refine ev_iload_n (v := x0) (pc := 51) dX7_putStep_51 rfl ?_
  refine ev_bipush (v := 9) (pc := 52) dX7_putStep_52 kb_9 ?_
  refine ev_cSi2 (pc := 54) dX7_putStep_54 ms_X7_taskAt lk_RX7_63 (ct_X7_taskAt _ _ _ _ e12) (Nat.le_of_ble_eq_true rfl) (Nat.le_of_ble_eq_true rfl) ?_
  refine ev_dup2 (pc := 57) dX7_putStep_57 ?_
  refine ev_iald (pc := 58) dX7_putStep_58 rfl e14 ?_
  refine ev_iconst (v := 1) (pc := 59) dX7_putStep_59 ki_1 ?_
  refine ev_iadd (pc := 60) dX7_putStep_60 ?_
  refine ev_iast (w' := [(20, a15)]) (pc := 61) dX7_putStep_61 rfl e16 rfl ?_
  obtain rfl := Option.some.inj h
  exact ev_ret (pc := 62) dX7_putStep_62 rfl rfl (hfin _)
def XX7_plan (a : rb_Row) (mf : rb_Row) (wa : rb_Row) (x0 : Int32) (x1 : Int32) (x2 : Int32) (x3 : Int32) : Option (Int32 × rb_Row × rb_Row × rb_Row) := (XX7_isTask x0).bind fun t1 => if t1 = 0 then some ((-1), a, mf, wa) else (XX7_isIn x1 0 7).bind fun t4 => if t4 = 0 then some ((-1), a, mf, wa) else (XX7_ofTask a x0 9).bind fun t7 => if t7 = 4 then some ((-1), a, mf, wa) else (XX7_keepAct mf wa a).bind fun t10 => (XX7_putStep a x0 x1 x2 x3).bind fun t12 => (XX7_ofTask t12 x0 9).bind fun t14 => some (t14, t12, t10.1, t10.2)
set_option maxHeartbeats 4000000 in
set_option maxRecDepth 20000 in
theorem ct_X7_plan (μ : rb_Mem) (a : rb_Row) (mf : rb_Row) (wa : rb_Row) (x0 : Int32) (x1 : Int32) (x2 : Int32) (x3 : Int32) (o : Int32 × rb_Row × rb_Row × rb_Row) (ha : μ 20 = a) (hmf : μ 19 = mf) (hwa : μ 31 = wa) (h : XX7_plan a mf wa x0 x1 x2 x3 = some o) : rb_Ct yX7_plan cX7_plan 5 (some .int) 3 [.inr 19, .inl x0, .inl x1, .inl x2, .inl x3] μ (some o.1) (rb_ov μ [(20, o.2.1), (19, o.2.2.1), (31, o.2.2.2)]) := by
  unfold XX7_plan at h
  have hini : rb_ov μ [(20, a), (19, mf), (31, wa)] = μ := rb_ov_sf _ _ (And.intro ha (And.intro hmf (And.intro hwa True.intro)))
  have hfin : ∀ u0 u1 u2 : rb_Row, rb_ov μ [(20, u0), (19, u1), (31, u2)] = rb_ov μ [(20, u0), (19, u1), (31, u2)] := fun u0 u1 u2 => rfl
  refine rb_cti (w := [(20, a), (19, mf), (31, wa)]) rfl pn_7 (Nat.le_of_ble_eq_true rfl) rfl hini ?_
  obtain ⟨t1, e2, h⟩ := rb_bd h
  refine ev_aload_n (v := 19) (pc := 0) dX7_plan_0 rfl ?_
  refine ev_iload_n (v := x0) (pc := 1) dX7_plan_1 rfl ?_
  refine ev_cVi1 (pc := 2) dX7_plan_2 mv_X7_isTask lk_RX7_284 rp_19 (ct_X7_isTask _ _ _ e2) (Nat.le_of_ble_eq_true rfl) (Nat.le_of_ble_eq_true rfl) ?_
  by_cases b3 : t1 = 0
  · rw [if_pos b3] at h
    refine ev_if_eq_t (t := 29) (pc := 5) dX7_plan_5 (by decide) b3 ?_
    refine ev_iconst (v := (-1)) (pc := 29) dX7_plan_29 ki_m1 ?_
    obtain rfl := Option.some.inj h
    exact ev_iret (pc := 30) dX7_plan_30 rfl rfl rfl (hfin _ _ _)
  · rw [if_neg b3] at h
    refine ev_if_eq_f (t := 29) (pc := 5) dX7_plan_5 (by decide) b3 ?_
    obtain ⟨t4, e5, h⟩ := rb_bd h
    refine ev_iload_n (v := x1) (pc := 8) dX7_plan_8 rfl ?_
    refine ev_iconst (v := 0) (pc := 9) dX7_plan_9 ki_0 ?_
    refine ev_bipush (v := 7) (pc := 10) dX7_plan_10 kb_7 ?_
    refine ev_cSi3 (pc := 12) dX7_plan_12 ms_X7_isIn lk_RX7_69 (ct_X7_isIn _ _ _ _ _ e5) (Nat.le_of_ble_eq_true rfl) (Nat.le_of_ble_eq_true rfl) ?_
    by_cases b6 : t4 = 0
    · rw [if_pos b6] at h
      refine ev_if_eq_t (t := 29) (pc := 15) dX7_plan_15 (by decide) b6 ?_
      refine ev_iconst (v := (-1)) (pc := 29) dX7_plan_29 ki_m1 ?_
      obtain rfl := Option.some.inj h
      exact ev_iret (pc := 30) dX7_plan_30 rfl rfl rfl (hfin _ _ _)
    · rw [if_neg b6] at h
      refine ev_if_eq_f (t := 29) (pc := 15) dX7_plan_15 (by decide) b6 ?_
      obtain ⟨t7, e8, h⟩ := rb_bd h
      refine ev_aload_n (v := 19) (pc := 18) dX7_plan_18 rfl ?_
      refine ev_iload_n (v := x0) (pc := 19) dX7_plan_19 rfl ?_
      refine ev_bipush (v := 9) (pc := 20) dX7_plan_20 kb_9 ?_
      refine ev_cVi2 (pc := 22) dX7_plan_22 mv_X7_ofTask lk_RX7_84 rp_19 (ct_X7_ofTask _ _ _ _ _ rfl e8) (Nat.le_of_ble_eq_true rfl) (Nat.le_of_ble_eq_true rfl) ?_
      refine ev_iconst (v := 4) (pc := 25) dX7_plan_25 ki_4 ?_
      by_cases b9 : t7 = 4
      · rw [if_pos b9] at h
        refine ev_icmp_ne_f (t := 31) (pc := 26) dX7_plan_26 (by decide) b9 ?_
        refine ev_iconst (v := (-1)) (pc := 29) dX7_plan_29 ki_m1 ?_
        obtain rfl := Option.some.inj h
        exact ev_iret (pc := 30) dX7_plan_30 rfl rfl rfl (hfin _ _ _)
      · rw [if_neg b9] at h
        refine ev_icmp_ne_t (t := 31) (pc := 26) dX7_plan_26 (by decide) b9 ?_
        obtain ⟨t10, e11, h⟩ := rb_bd h
        obtain ⟨t12, e13, h⟩ := rb_bd h
        obtain ⟨t14, e15, h⟩ := rb_bd h
        refine ev_aload_n (v := 19) (pc := 31) dX7_plan_31 rfl ?_
        refine ev_cVv0w (w' := [(20, a), (19, t10.1), (31, t10.2)]) (pc := 32) dX7_plan_32 mv_X7_keepAct lk_RX7_101 rp_19 (ct_X7_keepAct _ _ _ _ _ rfl rfl rfl e11) (Nat.le_of_ble_eq_true rfl) (Nat.le_of_ble_eq_true rfl) rfl ?_
        refine ev_aload_n (v := 19) (pc := 35) dX7_plan_35 rfl ?_
        refine ev_iload_n (v := x0) (pc := 36) dX7_plan_36 rfl ?_
        refine ev_iload_n (v := x1) (pc := 37) dX7_plan_37 rfl ?_
        refine ev_iload_n (v := x2) (pc := 38) dX7_plan_38 rfl ?_
        refine ev_iload (v := x3) (pc := 39) dX7_plan_39 rfl ?_
        refine ev_cVv4w (w' := [(20, t12), (19, t10.1), (31, t10.2)]) (pc := 41) dX7_plan_41 mv_X7_putStep lk_RX7_313 rp_19 (ct_X7_putStep _ _ _ _ _ _ _ rfl e13) (Nat.le_of_ble_eq_true rfl) (Nat.le_of_ble_eq_true rfl) rfl ?_
        refine ev_aload_n (v := 19) (pc := 44) dX7_plan_44 rfl ?_
        refine ev_iload_n (v := x0) (pc := 45) dX7_plan_45 rfl ?_
        refine ev_bipush (v := 9) (pc := 46) dX7_plan_46 kb_9 ?_
        refine ev_cVi2 (pc := 48) dX7_plan_48 mv_X7_ofTask lk_RX7_84 rp_19 (ct_X7_ofTask _ _ _ _ _ rfl e15) (Nat.le_of_ble_eq_true rfl) (Nat.le_of_ble_eq_true rfl) ?_
        obtain rfl := Option.some.inj h
        exact ev_iret (pc := 51) dX7_plan_51 rfl rfl rfl (hfin _ _ _)
def XX7_round (a : rb_Row) (mf : rb_Row) (wa : rb_Row) (x0 : Int32) (x1 : Int32) : Option (Int32 × rb_Row × rb_Row × rb_Row) := (XX7_isTask x0).bind fun t1 => if t1 = 0 then some ((rb_nz 0), a, mf, wa) else (XX7_ofTask a x0 38).bind fun t4 => ((if t4 = 1 then some 1 else some 0) : Option (Int32)).bind fun j6 => if j6 = x1 then some ((rb_nz 0), a, mf, wa) else (XX7_keepAct mf wa a).bind fun t11 => (XX7_taskAt x0 38).bind fun t13 => if x1 = 0 then (rb_wr a 796 t13 0).bind fun a16 => some ((rb_nz 1), a16, t11.1, t11.2) else (rb_wr a 796 t13 1).bind fun a18 => some ((rb_nz 1), a18, t11.1, t11.2)
set_option maxHeartbeats 4000000 in
set_option maxRecDepth 20000 in
theorem ct_X7_round (μ : rb_Mem) (a : rb_Row) (mf : rb_Row) (wa : rb_Row) (x0 : Int32) (x1 : Int32) (o : Int32 × rb_Row × rb_Row × rb_Row) (ha : μ 20 = a) (hmf : μ 19 = mf) (hwa : μ 31 = wa) (h : XX7_round a mf wa x0 x1 = some o) : rb_Ct yX7_round cX7_round 3 (some .boolean) 2 [.inr 19, .inl x0, .inl x1] μ (some o.1) (rb_ov μ [(20, o.2.1), (19, o.2.2.1), (31, o.2.2.2)]) := by
  unfold XX7_round at h
  have hini : rb_ov μ [(20, a), (19, mf), (31, wa)] = μ := rb_ov_sf _ _ (And.intro ha (And.intro hmf (And.intro hwa True.intro)))
  have hfin : ∀ u0 u1 u2 : rb_Row, rb_ov μ [(20, u0), (19, u1), (31, u2)] = rb_ov μ [(20, u0), (19, u1), (31, u2)] := fun u0 u1 u2 => rfl
  refine rb_ctz (w := [(20, a), (19, mf), (31, wa)]) rfl pn_7 (Nat.le_of_ble_eq_true rfl) rfl hini ?_
  obtain ⟨t1, e2, h⟩ := rb_bd h
  refine ev_aload_n (v := 19) (pc := 0) dX7_round_0 rfl ?_
  refine ev_iload_n (v := x0) (pc := 1) dX7_round_1 rfl ?_
  refine ev_cVi1 (pc := 2) dX7_round_2 mv_X7_isTask lk_RX7_284 rp_19 (ct_X7_isTask _ _ _ e2) (Nat.le_of_ble_eq_true rfl) (Nat.le_of_ble_eq_true rfl) ?_
  by_cases b3 : t1 = 0
  · rw [if_pos b3] at h
    refine ev_if_eq_t (t := 28) (pc := 5) dX7_round_5 (by decide) b3 ?_
    refine ev_iconst (v := 0) (pc := 28) dX7_round_28 ki_0 ?_
    obtain rfl := Option.some.inj h
    exact ev_iret (pc := 29) dX7_round_29 rfl rfl rfl (hfin _ _ _)
  · rw [if_neg b3] at h
    refine ev_if_eq_f (t := 28) (pc := 5) dX7_round_5 (by decide) b3 ?_
    obtain ⟨t4, e5, h⟩ := rb_bd h
    refine ev_aload_n (v := 19) (pc := 8) dX7_round_8 rfl ?_
    refine ev_iload_n (v := x0) (pc := 9) dX7_round_9 rfl ?_
    refine ev_bipush (v := 38) (pc := 10) dX7_round_10 kb_38 ?_
    refine ev_cVi2 (pc := 12) dX7_round_12 mv_X7_ofTask lk_RX7_84 rp_19 (ct_X7_ofTask _ _ _ _ _ rfl e5) (Nat.le_of_ble_eq_true rfl) (Nat.le_of_ble_eq_true rfl) ?_
    refine ev_iconst (v := 1) (pc := 15) dX7_round_15 ki_1 ?_
    obtain ⟨j6, e7, h⟩ := rb_bd h
    have hj8 : rb_Ev RX7 cX7_round 3 (some .boolean) none 2 (some o.1) (rb_ov μ [(20, o.2.1), (19, o.2.2.1), (31, o.2.2.2)]) 24 [some (.inr 19), some (.inl x0), some (.inl x1)] [.inl j6] (rb_ov μ [(20, a), (19, mf), (31, wa)]) := by
      refine ev_iload_n (v := x1) (pc := 24) dX7_round_24 rfl ?_
      by_cases b10 : j6 = x1
      · rw [if_pos b10] at h
        refine ev_icmp_ne_f (t := 30) (pc := 25) dX7_round_25 (by decide) b10 ?_
        refine ev_iconst (v := 0) (pc := 28) dX7_round_28 ki_0 ?_
        obtain rfl := Option.some.inj h
        exact ev_iret (pc := 29) dX7_round_29 rfl rfl rfl (hfin _ _ _)
      · rw [if_neg b10] at h
        refine ev_icmp_ne_t (t := 30) (pc := 25) dX7_round_25 (by decide) b10 ?_
        obtain ⟨t11, e12, h⟩ := rb_bd h
        obtain ⟨t13, e14, h⟩ := rb_bd h
        refine ev_aload_n (v := 19) (pc := 30) dX7_round_30 rfl ?_
        refine ev_cVv0w (w' := [(20, a), (19, t11.1), (31, t11.2)]) (pc := 31) dX7_round_31 mv_X7_keepAct lk_RX7_101 rp_19 (ct_X7_keepAct _ _ _ _ _ rfl rfl rfl e12) (Nat.le_of_ble_eq_true rfl) (Nat.le_of_ble_eq_true rfl) rfl ?_
        refine ev_aload_n (v := 19) (pc := 34) dX7_round_34 rfl ?_
        refine ev_getr (q := 20) (pc := 35) dX7_round_35 fl_RX7_7 rfl rfl ?_
        refine ev_iload_n (v := x0) (pc := 38) dX7_round_38 rfl ?_
        refine ev_bipush (v := 38) (pc := 39) dX7_round_39 kb_38 ?_
        refine ev_cSi2 (pc := 41) dX7_round_41 ms_X7_taskAt lk_RX7_63 (ct_X7_taskAt _ _ _ _ e14) (Nat.le_of_ble_eq_true rfl) (Nat.le_of_ble_eq_true rfl) ?_
        refine ev_iload_n (v := x1) (pc := 44) dX7_round_44 rfl ?_
        by_cases b15 : x1 = 0
        · rw [if_pos b15] at h
          refine ev_if_eq_t (t := 52) (pc := 45) dX7_round_45 (by decide) b15 ?_
          obtain ⟨a16, e17, h⟩ := rb_bd h
          refine ev_iconst (v := 0) (pc := 52) dX7_round_52 ki_0 ?_
          refine ev_iast (w' := [(20, a16), (19, t11.1), (31, t11.2)]) (pc := 53) dX7_round_53 rfl e17 rfl ?_
          refine ev_iconst (v := 1) (pc := 54) dX7_round_54 ki_1 ?_
          obtain rfl := Option.some.inj h
          exact ev_iret (pc := 55) dX7_round_55 rfl rfl rfl (hfin _ _ _)
        · rw [if_neg b15] at h
          refine ev_if_eq_f (t := 52) (pc := 45) dX7_round_45 (by decide) b15 ?_
          obtain ⟨a18, e19, h⟩ := rb_bd h
          refine ev_iconst (v := 1) (pc := 48) dX7_round_48 ki_1 ?_
          refine ev_goto (t := 53) (pc := 49) dX7_round_49 (by decide) ?_
          refine ev_iast (w' := [(20, a18), (19, t11.1), (31, t11.2)]) (pc := 53) dX7_round_53 rfl e19 rfl ?_
          refine ev_iconst (v := 1) (pc := 54) dX7_round_54 ki_1 ?_
          obtain rfl := Option.some.inj h
          exact ev_iret (pc := 55) dX7_round_55 rfl rfl rfl (hfin _ _ _)
    replace h := e7
    by_cases b9 : t4 = 1
    · rw [if_pos b9] at h
      refine ev_icmp_ne_f (t := 23) (pc := 16) dX7_round_16 (by decide) b9 ?_
      refine ev_iconst (v := 1) (pc := 19) dX7_round_19 ki_1 ?_
      refine ev_goto (t := 24) (pc := 20) dX7_round_20 (by decide) ?_
      obtain rfl := Option.some.inj h
      exact hj8
    · rw [if_neg b9] at h
      refine ev_icmp_ne_t (t := 23) (pc := 16) dX7_round_16 (by decide) b9 ?_
      refine ev_iconst (v := 0) (pc := 23) dX7_round_23 ki_0 ?_
      obtain rfl := Option.some.inj h
      exact hj8
def XX7_canStep (a : rb_Row) (x0 : Int32) : Option (Int32) := (XX7_isAsleep a x0).bind fun t1 => if t1 = 0 then (XX7_ofTask a x0 9).bind fun t4 => if t4 ≤ 0 then some (rb_nz 0) else some (rb_nz 1) else some (rb_nz 0)
set_option maxHeartbeats 4000000 in
set_option maxRecDepth 20000 in
theorem ct_X7_canStep (μ : rb_Mem) (a : rb_Row) (x0 : Int32) (o : Int32) (ha : μ 20 = a) (h : XX7_canStep a x0 = some o) : rb_Ct yX7_canStep cX7_canStep 2 (some .boolean) 3 [.inr 19, .inl x0] μ (some o) μ := by
  unfold XX7_canStep at h
  have hini : rb_ov μ [(20, a)] = μ := rb_ov_sf _ _ (And.intro ha True.intro)
  have hfin := hini
  refine rb_ctz (w := [(20, a)]) rfl pn_7 (Nat.le_of_ble_eq_true rfl) rfl hini ?_
  obtain ⟨t1, e2, h⟩ := rb_bd h
  refine ev_aload_n (v := 19) (pc := 0) dX7_canStep_0 rfl ?_
  refine ev_iload_n (v := x0) (pc := 1) dX7_canStep_1 rfl ?_
  refine ev_cVi1 (pc := 2) dX7_canStep_2 mv_X7_isAsleep lk_RX7_250 rp_19 (ct_X7_isAsleep _ _ _ _ rfl e2) (Nat.le_of_ble_eq_true rfl) (Nat.le_of_ble_eq_true rfl) ?_
  by_cases b3 : t1 = 0
  · rw [if_pos b3] at h
    refine ev_if_ne_f (t := 22) (pc := 5) dX7_canStep_5 (by decide) b3 ?_
    obtain ⟨t4, e5, h⟩ := rb_bd h
    refine ev_aload_n (v := 19) (pc := 8) dX7_canStep_8 rfl ?_
    refine ev_iload_n (v := x0) (pc := 9) dX7_canStep_9 rfl ?_
    refine ev_bipush (v := 9) (pc := 10) dX7_canStep_10 kb_9 ?_
    refine ev_cVi2 (pc := 12) dX7_canStep_12 mv_X7_ofTask lk_RX7_84 rp_19 (ct_X7_ofTask _ _ _ _ _ rfl e5) (Nat.le_of_ble_eq_true rfl) (Nat.le_of_ble_eq_true rfl) ?_
    by_cases b6 : t4 ≤ 0
    · rw [if_pos b6] at h
      refine ev_if_le_t (t := 22) (pc := 15) dX7_canStep_15 (by decide) b6 ?_
      refine ev_iconst (v := 0) (pc := 22) dX7_canStep_22 ki_0 ?_
      obtain rfl := Option.some.inj h
      exact ev_iret (pc := 23) dX7_canStep_23 rfl rfl rfl hfin
    · rw [if_neg b6] at h
      refine ev_if_le_f (t := 22) (pc := 15) dX7_canStep_15 (by decide) b6 ?_
      refine ev_iconst (v := 1) (pc := 18) dX7_canStep_18 ki_1 ?_
      refine ev_goto (t := 23) (pc := 19) dX7_canStep_19 (by decide) ?_
      obtain rfl := Option.some.inj h
      exact ev_iret (pc := 23) dX7_canStep_23 rfl rfl rfl hfin
  · rw [if_neg b3] at h
    refine ev_if_ne_t (t := 22) (pc := 5) dX7_canStep_5 (by decide) b3 ?_
    refine ev_iconst (v := 0) (pc := 22) dX7_canStep_22 ki_0 ?_
    obtain rfl := Option.some.inj h
    exact ev_iret (pc := 23) dX7_canStep_23 rfl rfl rfl hfin
def XX7_goStep (a : rb_Row) (rd : rb_Row) (ag : rb_Row) (mf : rb_Row) (na : rb_Row) (nb : rb_Row) (nl : rb_Row) (sv : rb_Row) (wa : rb_Row) (x0 : Int32) : Option (Int32 × rb_Row × rb_Row × rb_Row × rb_Row × rb_Row × rb_Row × rb_Row × rb_Row × rb_Row) := (XX7_taskAt x0 10).bind fun t1 => (rb_rd a 796 t1).bind fun v3 => (rb_rd a 796 (t1 + 1)).bind fun v5 => (rb_rd a 796 (t1 + 2)).bind fun v7 => (rb_lp (ρ := rb_Row) (fun (s9 : Int32 × rb_Row) => if 12 ≤ (s9.1 + 3) then some (.inr s9.2) else (rb_rd s9.2 796 ((t1 + s9.1) + 3)).bind fun v18 => (rb_wr s9.2 796 (t1 + s9.1) v18).bind fun a20 => some (.inl ((s9.1 + 1), a20))) 100000 (0, a)).bind fun q10 => (XX7_taskAt x0 9).bind fun t22 => (rb_rd q10 796 t22).bind fun v24 => (rb_wr q10 796 t22 (v24 - 1)).bind fun a26 => (XX7_ofTask a26 x0 38).bind fun t28 => ((if t28 = 1 then (XX7_putStep a26 x0 v3 v5 v7).bind fun t34 => some t34 else some a26) : Option (rb_Row)).bind fun j30 => if v3 = 0 then (XX7_goWrite j30 rd ag mf na nb nl sv wa v5 v7 0).bind fun t37 => some (t37.1, t37.2.1, t37.2.2.1, t37.2.2.2.1, t37.2.2.2.2.1, t37.2.2.2.2.2.1, t37.2.2.2.2.2.2.1, t37.2.2.2.2.2.2.2.1, t37.2.2.2.2.2.2.2.2.1, t37.2.2.2.2.2.2.2.2.2) else if v3 = 1 then (XX7_goRead j30 rd ag mf na nb nl sv wa v5 v7 0).bind fun t40 => some (t40.1, t40.2.1, t40.2.2.1, t40.2.2.2.1, t40.2.2.2.2.1, t40.2.2.2.2.2.1, t40.2.2.2.2.2.2.1, t40.2.2.2.2.2.2.2.1, t40.2.2.2.2.2.2.2.2.1, t40.2.2.2.2.2.2.2.2.2) else if v3 = 2 then (XX7_goCollectAt j30 rd ag mf wa x0 v5 v7 0).bind fun t43 => some (t43.1, t43.2.1, t43.2.2.1, t43.2.2.2.1, t43.2.2.2.2.1, na, nb, nl, sv, t43.2.2.2.2.2) else if v3 = 3 then (XX7_goAwait j30 rd ag mf wa x0 v5 v7 0 0).bind fun t46 => some (t46.1, t46.2.1, t46.2.2.1, t46.2.2.2.1, t46.2.2.2.2.1, na, nb, nl, sv, t46.2.2.2.2.2) else if v3 = 4 then (XX7_goClose j30 rd ag mf na nb nl sv wa v5 0).bind fun t49 => if t49.1 = 0 then some (0, t49.2.1, t49.2.2.1, t49.2.2.2.1, t49.2.2.2.2.1, t49.2.2.2.2.2.1, t49.2.2.2.2.2.2.1, t49.2.2.2.2.2.2.2.1, t49.2.2.2.2.2.2.2.2.1, t49.2.2.2.2.2.2.2.2.2) else some (1, t49.2.1, t49.2.2.1, t49.2.2.2.1, t49.2.2.2.2.1, t49.2.2.2.2.2.1, t49.2.2.2.2.2.2.1, t49.2.2.2.2.2.2.2.1, t49.2.2.2.2.2.2.2.2.1, t49.2.2.2.2.2.2.2.2.2) else if v3 = 5 then (XX7_changeAsIs j30 rd ag mf na nb nl sv v5 v7).bind fun t53 => if t53.1 = 0 then some (0, t53.2.1, t53.2.2.1, t53.2.2.2.1, t53.2.2.2.2.1, t53.2.2.2.2.2.1, t53.2.2.2.2.2.2.1, t53.2.2.2.2.2.2.2.1, t53.2.2.2.2.2.2.2.2, wa) else some (1, t53.2.1, t53.2.2.1, t53.2.2.2.1, t53.2.2.2.2.1, t53.2.2.2.2.2.1, t53.2.2.2.2.2.2.1, t53.2.2.2.2.2.2.2.1, t53.2.2.2.2.2.2.2.2, wa) else if v3 = 6 then (XX7_goAccept j30 mf wa v5 0).bind fun t57 => some (t57.1, t57.2.1, rd, ag, t57.2.2.1, na, nb, nl, sv, t57.2.2.2) else (XX7_goConnect j30 rd ag mf na nb nl sv wa v5 0).bind fun t59 => some (t59.1, t59.2.1, t59.2.2.1, t59.2.2.2.1, t59.2.2.2.2.1, t59.2.2.2.2.2.1, t59.2.2.2.2.2.2.1, t59.2.2.2.2.2.2.2.1, t59.2.2.2.2.2.2.2.2.1, t59.2.2.2.2.2.2.2.2.2)
set_option maxHeartbeats 4000000 in
set_option maxRecDepth 20000 in
theorem ct_X7_goStep (μ : rb_Mem) (a : rb_Row) (rd : rb_Row) (ag : rb_Row) (mf : rb_Row) (na : rb_Row) (nb : rb_Row) (nl : rb_Row) (sv : rb_Row) (wa : rb_Row) (x0 : Int32) (o : Int32 × rb_Row × rb_Row × rb_Row × rb_Row × rb_Row × rb_Row × rb_Row × rb_Row × rb_Row) (ha : μ 20 = a) (hrd : μ 21 = rd) (hag : μ 22 = ag) (hmf : μ 19 = mf) (hna : μ 23 = na) (hnb : μ 24 = nb) (hnl : μ 25 = nl) (hsv : μ 26 = sv) (hwa : μ 31 = wa) (h : XX7_goStep a rd ag mf na nb nl sv wa x0 = some o) : rb_Ct yX7_goStep cX7_goStep 7 (some .int) 14 [.inr 19, .inl x0] μ (some o.1) (rb_ov μ [(20, o.2.1), (21, o.2.2.1), (22, o.2.2.2.1), (19, o.2.2.2.2.1), (23, o.2.2.2.2.2.1), (24, o.2.2.2.2.2.2.1), (25, o.2.2.2.2.2.2.2.1), (26, o.2.2.2.2.2.2.2.2.1), (31, o.2.2.2.2.2.2.2.2.2)]) := by
  unfold XX7_goStep at h
  have hini : rb_ov μ [(20, a), (21, rd), (22, ag), (19, mf), (23, na), (24, nb), (25, nl), (26, sv), (31, wa)] = μ := rb_ov_sf _ _ (And.intro ha (And.intro hrd (And.intro hag (And.intro hmf (And.intro hna (And.intro hnb (And.intro hnl (And.intro hsv (And.intro hwa True.intro)))))))))
  have hfin : ∀ u0 u1 u2 u3 u4 u5 u6 u7 u8 : rb_Row, rb_ov μ [(20, u0), (21, u1), (22, u2), (19, u3), (23, u4), (24, u5), (25, u6), (26, u7), (31, u8)] = rb_ov μ [(20, u0), (21, u1), (22, u2), (19, u3), (23, u4), (24, u5), (25, u6), (26, u7), (31, u8)] := fun u0 u1 u2 u3 u4 u5 u6 u7 u8 => rfl
  refine rb_cti (w := [(20, a), (21, rd), (22, ag), (19, mf), (23, na), (24, nb), (25, nl), (26, sv), (31, wa)]) rfl pn_7 (Nat.le_of_ble_eq_true rfl) rfl hini ?_
  obtain ⟨t1, e2, h⟩ := rb_bd h
  obtain ⟨v3, e4, h⟩ := rb_bd h
  obtain ⟨v5, e6, h⟩ := rb_bd h
  obtain ⟨v7, e8, h⟩ := rb_bd h
  refine ev_iload_n (v := x0) (pc := 0) dX7_goStep_0 rfl ?_
  refine ev_bipush (v := 10) (pc := 1) dX7_goStep_1 kb_10 ?_
  refine ev_cSi2 (pc := 3) dX7_goStep_3 ms_X7_taskAt lk_RX7_63 (ct_X7_taskAt _ _ _ _ e2) (Nat.le_of_ble_eq_true rfl) (Nat.le_of_ble_eq_true rfl) ?_
  refine ev_istore_n (L' := [some (.inr 19), some (.inl x0), some (.inl t1), none, none, none, none]) (pc := 6) dX7_goStep_6 (Nat.le_of_ble_eq_true rfl) rfl ?_
  refine ev_aload_n (v := 19) (pc := 7) dX7_goStep_7 rfl ?_
  refine ev_getr (q := 20) (pc := 8) dX7_goStep_8 fl_RX7_7 rfl rfl ?_
  refine ev_iload_n (v := t1) (pc := 11) dX7_goStep_11 rfl ?_
  refine ev_iald (pc := 12) dX7_goStep_12 rfl e4 ?_
  refine ev_istore_n (L' := [some (.inr 19), some (.inl x0), some (.inl t1), some (.inl v3), none, none, none]) (pc := 13) dX7_goStep_13 (Nat.le_of_ble_eq_true rfl) rfl ?_
  refine ev_aload_n (v := 19) (pc := 14) dX7_goStep_14 rfl ?_
  refine ev_getr (q := 20) (pc := 15) dX7_goStep_15 fl_RX7_7 rfl rfl ?_
  refine ev_iload_n (v := t1) (pc := 18) dX7_goStep_18 rfl ?_
  refine ev_iconst (v := 1) (pc := 19) dX7_goStep_19 ki_1 ?_
  refine ev_iadd (pc := 20) dX7_goStep_20 ?_
  refine ev_iald (pc := 21) dX7_goStep_21 rfl e6 ?_
  refine ev_istore (L' := [some (.inr 19), some (.inl x0), some (.inl t1), some (.inl v3), some (.inl v5), none, none]) (pc := 22) dX7_goStep_22 (Nat.le_of_ble_eq_true rfl) rfl ?_
  refine ev_aload_n (v := 19) (pc := 24) dX7_goStep_24 rfl ?_
  refine ev_getr (q := 20) (pc := 25) dX7_goStep_25 fl_RX7_7 rfl rfl ?_
  refine ev_iload_n (v := t1) (pc := 28) dX7_goStep_28 rfl ?_
  refine ev_iconst (v := 2) (pc := 29) dX7_goStep_29 ki_2 ?_
  refine ev_iadd (pc := 30) dX7_goStep_30 ?_
  refine ev_iald (pc := 31) dX7_goStep_31 rfl e8 ?_
  refine ev_istore (L' := [some (.inr 19), some (.inl x0), some (.inl t1), some (.inl v3), some (.inl v5), some (.inl v7), none]) (pc := 32) dX7_goStep_32 (Nat.le_of_ble_eq_true rfl) rfl ?_
  refine ev_iconst (v := 0) (pc := 34) dX7_goStep_34 ki_0 ?_
  refine ev_istore (L' := [some (.inr 19), some (.inl x0), some (.inl t1), some (.inl v3), some (.inl v5), some (.inl v7), some (.inl 0)]) (pc := 35) dX7_goStep_35 (Nat.le_of_ble_eq_true rfl) rfl ?_
  obtain ⟨q10, l11, h⟩ := rb_bd h
  have hx15 : rb_Ev RX7 cX7_goStep 7 (some .int) none 14 (some o.1) (rb_ov μ [(20, o.2.1), (21, o.2.2.1), (22, o.2.2.2.1), (19, o.2.2.2.2.1), (23, o.2.2.2.2.2.1), (24, o.2.2.2.2.2.2.1), (25, o.2.2.2.2.2.2.2.1), (26, o.2.2.2.2.2.2.2.2.1), (31, o.2.2.2.2.2.2.2.2.2)]) 72 [some (.inr 19), some (.inl x0), none, some (.inl v3), some (.inl v5), some (.inl v7), none] [] (rb_ov μ [(20, q10), (21, rd), (22, ag), (19, mf), (23, na), (24, nb), (25, nl), (26, sv), (31, wa)]) := by
    obtain ⟨t22, e23, h⟩ := rb_bd h
    obtain ⟨v24, e25, h⟩ := rb_bd h
    obtain ⟨a26, e27, h⟩ := rb_bd h
    obtain ⟨t28, e29, h⟩ := rb_bd h
    refine ev_aload_n (v := 19) (pc := 72) dX7_goStep_72 rfl ?_
    refine ev_getr (q := 20) (pc := 73) dX7_goStep_73 fl_RX7_7 rfl rfl ?_
    refine ev_iload_n (v := x0) (pc := 76) dX7_goStep_76 rfl ?_
    refine ev_bipush (v := 9) (pc := 77) dX7_goStep_77 kb_9 ?_
    refine ev_cSi2 (pc := 79) dX7_goStep_79 ms_X7_taskAt lk_RX7_63 (ct_X7_taskAt _ _ _ _ e23) (Nat.le_of_ble_eq_true rfl) (Nat.le_of_ble_eq_true rfl) ?_
    refine ev_dup2 (pc := 82) dX7_goStep_82 ?_
    refine ev_iald (pc := 83) dX7_goStep_83 rfl e25 ?_
    refine ev_iconst (v := 1) (pc := 84) dX7_goStep_84 ki_1 ?_
    refine ev_isub (pc := 85) dX7_goStep_85 ?_
    refine ev_iast (w' := [(20, a26), (21, rd), (22, ag), (19, mf), (23, na), (24, nb), (25, nl), (26, sv), (31, wa)]) (pc := 86) dX7_goStep_86 rfl e27 rfl ?_
    refine ev_aload_n (v := 19) (pc := 87) dX7_goStep_87 rfl ?_
    refine ev_iload_n (v := x0) (pc := 88) dX7_goStep_88 rfl ?_
    refine ev_bipush (v := 38) (pc := 89) dX7_goStep_89 kb_38 ?_
    refine ev_cVi2 (pc := 91) dX7_goStep_91 mv_X7_ofTask lk_RX7_84 rp_19 (ct_X7_ofTask _ _ _ _ _ rfl e29) (Nat.le_of_ble_eq_true rfl) (Nat.le_of_ble_eq_true rfl) ?_
    refine ev_iconst (v := 1) (pc := 94) dX7_goStep_94 ki_1 ?_
    obtain ⟨j30, e31, h⟩ := rb_bd h
    have hj32 : rb_Ev RX7 cX7_goStep 7 (some .int) none 14 (some o.1) (rb_ov μ [(20, o.2.1), (21, o.2.2.1), (22, o.2.2.2.1), (19, o.2.2.2.2.1), (23, o.2.2.2.2.2.1), (24, o.2.2.2.2.2.2.1), (25, o.2.2.2.2.2.2.2.1), (26, o.2.2.2.2.2.2.2.2.1), (31, o.2.2.2.2.2.2.2.2.2)]) 108 [some (.inr 19), some (.inl x0), none, some (.inl v3), some (.inl v5), some (.inl v7), none] [] (rb_ov μ [(20, j30), (21, rd), (22, ag), (19, mf), (23, na), (24, nb), (25, nl), (26, sv), (31, wa)]) := by
      refine ev_iload_n (v := v3) (pc := 108) dX7_goStep_108 rfl ?_
      by_cases b36 : v3 = 0
      · rw [if_pos b36] at h
        refine ev_tsIn (t := 152) (off := 43) (pc := 109) dX7_goStep_109 (by rw [b36]; decide) (by rw [b36]; decide) (by rw [b36]; decide) (by decide) ?_
        obtain ⟨t37, e38, h⟩ := rb_bd h
        refine ev_aload_n (v := 19) (pc := 152) dX7_goStep_152 rfl ?_
        refine ev_iload (v := v5) (pc := 153) dX7_goStep_153 rfl ?_
        refine ev_iload (v := v7) (pc := 155) dX7_goStep_155 rfl ?_
        refine ev_iconst (v := 0) (pc := 157) dX7_goStep_157 ki_0 ?_
        refine ev_cVi3w (w' := [(20, t37.2.1), (21, t37.2.2.1), (22, t37.2.2.2.1), (19, t37.2.2.2.2.1), (23, t37.2.2.2.2.2.1), (24, t37.2.2.2.2.2.2.1), (25, t37.2.2.2.2.2.2.2.1), (26, t37.2.2.2.2.2.2.2.2.1), (31, t37.2.2.2.2.2.2.2.2.2)]) (pc := 158) dX7_goStep_158 mv_X7_goWrite lk_RX7_241 rp_19 (ct_X7_goWrite _ _ _ _ _ _ _ _ _ _ _ _ _ _ rfl rfl rfl rfl rfl rfl rfl rfl rfl e38) (Nat.le_of_ble_eq_true rfl) (Nat.le_of_ble_eq_true rfl) rfl ?_
        obtain rfl := Option.some.inj h
        exact ev_iret (pc := 161) dX7_goStep_161 rfl rfl rfl (hfin _ _ _ _ _ _ _ _ _)
      · rw [if_neg b36] at h
        by_cases b39 : v3 = 1
        · rw [if_pos b39] at h
          refine ev_tsIn (t := 162) (off := 53) (pc := 109) dX7_goStep_109 (by rw [b39]; decide) (by rw [b39]; decide) (by rw [b39]; decide) (by decide) ?_
          obtain ⟨t40, e41, h⟩ := rb_bd h
          refine ev_aload_n (v := 19) (pc := 162) dX7_goStep_162 rfl ?_
          refine ev_iload (v := v5) (pc := 163) dX7_goStep_163 rfl ?_
          refine ev_iload (v := v7) (pc := 165) dX7_goStep_165 rfl ?_
          refine ev_iconst (v := 0) (pc := 167) dX7_goStep_167 ki_0 ?_
          refine ev_cVi3w (w' := [(20, t40.2.1), (21, t40.2.2.1), (22, t40.2.2.2.1), (19, t40.2.2.2.2.1), (23, t40.2.2.2.2.2.1), (24, t40.2.2.2.2.2.2.1), (25, t40.2.2.2.2.2.2.2.1), (26, t40.2.2.2.2.2.2.2.2.1), (31, t40.2.2.2.2.2.2.2.2.2)]) (pc := 168) dX7_goStep_168 mv_X7_goRead lk_RX7_244 rp_19 (ct_X7_goRead _ _ _ _ _ _ _ _ _ _ _ _ _ _ rfl rfl rfl rfl rfl rfl rfl rfl rfl e41) (Nat.le_of_ble_eq_true rfl) (Nat.le_of_ble_eq_true rfl) rfl ?_
          obtain rfl := Option.some.inj h
          exact ev_iret (pc := 171) dX7_goStep_171 rfl rfl rfl (hfin _ _ _ _ _ _ _ _ _)
        · rw [if_neg b39] at h
          by_cases b42 : v3 = 2
          · rw [if_pos b42] at h
            refine ev_tsIn (t := 172) (off := 63) (pc := 109) dX7_goStep_109 (by rw [b42]; decide) (by rw [b42]; decide) (by rw [b42]; decide) (by decide) ?_
            obtain ⟨t43, e44, h⟩ := rb_bd h
            refine ev_aload_n (v := 19) (pc := 172) dX7_goStep_172 rfl ?_
            refine ev_iload_n (v := x0) (pc := 173) dX7_goStep_173 rfl ?_
            refine ev_iload (v := v5) (pc := 174) dX7_goStep_174 rfl ?_
            refine ev_iload (v := v7) (pc := 176) dX7_goStep_176 rfl ?_
            refine ev_iconst (v := 0) (pc := 178) dX7_goStep_178 ki_0 ?_
            refine ev_cVi4w (w' := [(20, t43.2.1), (21, t43.2.2.1), (22, t43.2.2.2.1), (19, t43.2.2.2.2.1), (23, na), (24, nb), (25, nl), (26, sv), (31, t43.2.2.2.2.2)]) (pc := 179) dX7_goStep_179 mv_X7_goCollectAt lk_RX7_290 rp_19 (ct_X7_goCollectAt _ _ _ _ _ _ _ _ _ _ _ rfl rfl rfl rfl rfl e44) (Nat.le_of_ble_eq_true rfl) (Nat.le_of_ble_eq_true rfl) rfl ?_
            obtain rfl := Option.some.inj h
            exact ev_iret (pc := 182) dX7_goStep_182 rfl rfl rfl (hfin _ _ _ _ _ _ _ _ _)
          · rw [if_neg b42] at h
            by_cases b45 : v3 = 3
            · rw [if_pos b45] at h
              refine ev_tsIn (t := 183) (off := 74) (pc := 109) dX7_goStep_109 (by rw [b45]; decide) (by rw [b45]; decide) (by rw [b45]; decide) (by decide) ?_
              obtain ⟨t46, e47, h⟩ := rb_bd h
              refine ev_aload_n (v := 19) (pc := 183) dX7_goStep_183 rfl ?_
              refine ev_iload_n (v := x0) (pc := 184) dX7_goStep_184 rfl ?_
              refine ev_iload (v := v5) (pc := 185) dX7_goStep_185 rfl ?_
              refine ev_iload (v := v7) (pc := 187) dX7_goStep_187 rfl ?_
              refine ev_iconst (v := 0) (pc := 189) dX7_goStep_189 ki_0 ?_
              refine ev_iconst (v := 0) (pc := 190) dX7_goStep_190 ki_0 ?_
              refine ev_cVi5w (w' := [(20, t46.2.1), (21, t46.2.2.1), (22, t46.2.2.2.1), (19, t46.2.2.2.2.1), (23, na), (24, nb), (25, nl), (26, sv), (31, t46.2.2.2.2.2)]) (pc := 191) dX7_goStep_191 mv_X7_goAwait lk_RX7_294 rp_19 (ct_X7_goAwait _ _ _ _ _ _ _ _ _ _ _ _ rfl rfl rfl rfl rfl e47) (Nat.le_of_ble_eq_true rfl) (Nat.le_of_ble_eq_true rfl) rfl ?_
              obtain rfl := Option.some.inj h
              exact ev_iret (pc := 194) dX7_goStep_194 rfl rfl rfl (hfin _ _ _ _ _ _ _ _ _)
            · rw [if_neg b45] at h
              by_cases b48 : v3 = 4
              · rw [if_pos b48] at h
                refine ev_tsIn (t := 195) (off := 86) (pc := 109) dX7_goStep_109 (by rw [b48]; decide) (by rw [b48]; decide) (by rw [b48]; decide) (by decide) ?_
                obtain ⟨t49, e50, h⟩ := rb_bd h
                refine ev_aload_n (v := 19) (pc := 195) dX7_goStep_195 rfl ?_
                refine ev_iload (v := v5) (pc := 196) dX7_goStep_196 rfl ?_
                refine ev_iconst (v := 0) (pc := 198) dX7_goStep_198 ki_0 ?_
                refine ev_cVi2w (w' := [(20, t49.2.1), (21, t49.2.2.1), (22, t49.2.2.2.1), (19, t49.2.2.2.2.1), (23, t49.2.2.2.2.2.1), (24, t49.2.2.2.2.2.2.1), (25, t49.2.2.2.2.2.2.2.1), (26, t49.2.2.2.2.2.2.2.2.1), (31, t49.2.2.2.2.2.2.2.2.2)]) (pc := 199) dX7_goStep_199 mv_X7_goClose lk_RX7_226 rp_19 (ct_X7_goClose _ _ _ _ _ _ _ _ _ _ _ _ _ rfl rfl rfl rfl rfl rfl rfl rfl rfl e50) (Nat.le_of_ble_eq_true rfl) (Nat.le_of_ble_eq_true rfl) rfl ?_
                by_cases b51 : t49.1 = 0
                · rw [if_pos b51] at h
                  refine ev_if_eq_t (t := 209) (pc := 202) dX7_goStep_202 (by decide) b51 ?_
                  refine ev_iconst (v := 0) (pc := 209) dX7_goStep_209 ki_0 ?_
                  obtain rfl := Option.some.inj h
                  exact ev_iret (pc := 210) dX7_goStep_210 rfl rfl rfl (hfin _ _ _ _ _ _ _ _ _)
                · rw [if_neg b51] at h
                  refine ev_if_eq_f (t := 209) (pc := 202) dX7_goStep_202 (by decide) b51 ?_
                  refine ev_iconst (v := 1) (pc := 205) dX7_goStep_205 ki_1 ?_
                  refine ev_goto (t := 210) (pc := 206) dX7_goStep_206 (by decide) ?_
                  obtain rfl := Option.some.inj h
                  exact ev_iret (pc := 210) dX7_goStep_210 rfl rfl rfl (hfin _ _ _ _ _ _ _ _ _)
              · rw [if_neg b48] at h
                by_cases b52 : v3 = 5
                · rw [if_pos b52] at h
                  refine ev_tsIn (t := 211) (off := 102) (pc := 109) dX7_goStep_109 (by rw [b52]; decide) (by rw [b52]; decide) (by rw [b52]; decide) (by decide) ?_
                  obtain ⟨t53, e54, h⟩ := rb_bd h
                  refine ev_aload_n (v := 19) (pc := 211) dX7_goStep_211 rfl ?_
                  refine ev_iload (v := v5) (pc := 212) dX7_goStep_212 rfl ?_
                  refine ev_iload (v := v7) (pc := 214) dX7_goStep_214 rfl ?_
                  refine ev_cVi2w (w' := [(20, t53.2.1), (21, t53.2.2.1), (22, t53.2.2.2.1), (19, t53.2.2.2.2.1), (23, t53.2.2.2.2.2.1), (24, t53.2.2.2.2.2.2.1), (25, t53.2.2.2.2.2.2.2.1), (26, t53.2.2.2.2.2.2.2.2), (31, wa)]) (pc := 216) dX7_goStep_216 mv_X7_changeAsIs lk_RX7_329 rp_19 (ct_X7_changeAsIs _ _ _ _ _ _ _ _ _ _ _ _ rfl rfl rfl rfl rfl rfl rfl rfl e54) (Nat.le_of_ble_eq_true rfl) (Nat.le_of_ble_eq_true rfl) rfl ?_
                  by_cases b55 : t53.1 = 0
                  · rw [if_pos b55] at h
                    refine ev_if_eq_t (t := 226) (pc := 219) dX7_goStep_219 (by decide) b55 ?_
                    refine ev_iconst (v := 0) (pc := 226) dX7_goStep_226 ki_0 ?_
                    obtain rfl := Option.some.inj h
                    exact ev_iret (pc := 227) dX7_goStep_227 rfl rfl rfl (hfin _ _ _ _ _ _ _ _ _)
                  · rw [if_neg b55] at h
                    refine ev_if_eq_f (t := 226) (pc := 219) dX7_goStep_219 (by decide) b55 ?_
                    refine ev_iconst (v := 1) (pc := 222) dX7_goStep_222 ki_1 ?_
                    refine ev_goto (t := 227) (pc := 223) dX7_goStep_223 (by decide) ?_
                    obtain rfl := Option.some.inj h
                    exact ev_iret (pc := 227) dX7_goStep_227 rfl rfl rfl (hfin _ _ _ _ _ _ _ _ _)
                · rw [if_neg b52] at h
                  by_cases b56 : v3 = 6
                  · rw [if_pos b56] at h
                    refine ev_tsIn (t := 228) (off := 119) (pc := 109) dX7_goStep_109 (by rw [b56]; decide) (by rw [b56]; decide) (by rw [b56]; decide) (by decide) ?_
                    obtain ⟨t57, e58, h⟩ := rb_bd h
                    refine ev_aload_n (v := 19) (pc := 228) dX7_goStep_228 rfl ?_
                    refine ev_iload (v := v5) (pc := 229) dX7_goStep_229 rfl ?_
                    refine ev_iconst (v := 0) (pc := 231) dX7_goStep_231 ki_0 ?_
                    refine ev_cVi2w (w' := [(20, t57.2.1), (21, rd), (22, ag), (19, t57.2.2.1), (23, na), (24, nb), (25, nl), (26, sv), (31, t57.2.2.2)]) (pc := 232) dX7_goStep_232 mv_X7_goAccept lk_RX7_131 rp_19 (ct_X7_goAccept _ _ _ _ _ _ _ rfl rfl rfl e58) (Nat.le_of_ble_eq_true rfl) (Nat.le_of_ble_eq_true rfl) rfl ?_
                    obtain rfl := Option.some.inj h
                    exact ev_iret (pc := 235) dX7_goStep_235 rfl rfl rfl (hfin _ _ _ _ _ _ _ _ _)
                  · rw [if_neg b56] at h
                    refine ev_tsOut (t := 236) (pc := 109) dX7_goStep_109 (rb_tsS (k := 6) (by decide) b56 (rb_tsS (k := 5) (by decide) b52 (rb_tsS (k := 4) (by decide) b48 (rb_tsS (k := 3) (by decide) b45 (rb_tsS (k := 2) (by decide) b42 (rb_tsS (k := 1) (by decide) b39 (rb_tsS (k := 0) (by decide) b36 (rb_ts0 _)))))))) (by decide) ?_
                    obtain ⟨t59, e60, h⟩ := rb_bd h
                    refine ev_aload_n (v := 19) (pc := 236) dX7_goStep_236 rfl ?_
                    refine ev_iload (v := v5) (pc := 237) dX7_goStep_237 rfl ?_
                    refine ev_iconst (v := 0) (pc := 239) dX7_goStep_239 ki_0 ?_
                    refine ev_cVi2w (w' := [(20, t59.2.1), (21, t59.2.2.1), (22, t59.2.2.2.1), (19, t59.2.2.2.2.1), (23, t59.2.2.2.2.2.1), (24, t59.2.2.2.2.2.2.1), (25, t59.2.2.2.2.2.2.2.1), (26, t59.2.2.2.2.2.2.2.2.1), (31, t59.2.2.2.2.2.2.2.2.2)]) (pc := 240) dX7_goStep_240 mv_X7_goConnect lk_RX7_127 rp_19 (ct_X7_goConnect _ _ _ _ _ _ _ _ _ _ _ _ _ rfl rfl rfl rfl rfl rfl rfl rfl rfl e60) (Nat.le_of_ble_eq_true rfl) (Nat.le_of_ble_eq_true rfl) rfl ?_
                    obtain rfl := Option.some.inj h
                    exact ev_iret (pc := 243) dX7_goStep_243 rfl rfl rfl (hfin _ _ _ _ _ _ _ _ _)
    replace h := e31
    by_cases b33 : t28 = 1
    · rw [if_pos b33] at h
      refine ev_icmp_ne_f (t := 108) (pc := 95) dX7_goStep_95 (by decide) b33 ?_
      obtain ⟨t34, e35, h⟩ := rb_bd h
      refine ev_aload_n (v := 19) (pc := 98) dX7_goStep_98 rfl ?_
      refine ev_iload_n (v := x0) (pc := 99) dX7_goStep_99 rfl ?_
      refine ev_iload_n (v := v3) (pc := 100) dX7_goStep_100 rfl ?_
      refine ev_iload (v := v5) (pc := 101) dX7_goStep_101 rfl ?_
      refine ev_iload (v := v7) (pc := 103) dX7_goStep_103 rfl ?_
      refine ev_cVv4w (w' := [(20, t34), (21, rd), (22, ag), (19, mf), (23, na), (24, nb), (25, nl), (26, sv), (31, wa)]) (pc := 105) dX7_goStep_105 mv_X7_putStep lk_RX7_313 rp_19 (ct_X7_putStep _ _ _ _ _ _ _ rfl e35) (Nat.le_of_ble_eq_true rfl) (Nat.le_of_ble_eq_true rfl) rfl ?_
      obtain rfl := Option.some.inj h
      exact hj32
    · rw [if_neg b33] at h
      refine ev_icmp_ne_t (t := 108) (pc := 95) dX7_goStep_95 (by decide) b33 ?_
      obtain rfl := Option.some.inj h
      exact hj32
  refine rb_lp_ev (P := fun (s9 : Int32 × rb_Row) => rb_Ev RX7 cX7_goStep 7 (some .int) none 14 (some o.1) (rb_ov μ [(20, o.2.1), (21, o.2.2.1), (22, o.2.2.2.1), (19, o.2.2.2.2.1), (23, o.2.2.2.2.2.1), (24, o.2.2.2.2.2.2.1), (25, o.2.2.2.2.2.2.2.1), (26, o.2.2.2.2.2.2.2.2.1), (31, o.2.2.2.2.2.2.2.2.2)]) 37 [some (.inr 19), some (.inl x0), some (.inl t1), some (.inl v3), some (.inl v5), some (.inl v7), some (.inl s9.1)] [] (rb_ov μ [(20, s9.2), (21, rd), (22, ag), (19, mf), (23, na), (24, nb), (25, nl), (26, sv), (31, wa)])) ?_ 100000 (0, a) l11
  intro s9 y12 h ih13 hE14
  refine ev_iload (v := s9.1) (pc := 37) dX7_goStep_37 rfl ?_
  refine ev_iconst (v := 3) (pc := 39) dX7_goStep_39 ki_3 ?_
  refine ev_iadd (pc := 40) dX7_goStep_40 ?_
  refine ev_bipush (v := 12) (pc := 41) dX7_goStep_41 kb_12 ?_
  by_cases b17 : 12 ≤ (s9.1 + 3)
  · rw [if_pos b17] at h
    refine ev_icmp_ge_t (t := 72) (pc := 43) dX7_goStep_43 (by decide) b17 ?_
    obtain rfl := Option.some.inj h
    obtain rfl := hE14 _ rfl
    exact ev_fg (L := [some (.inr 19), some (.inl x0), none, some (.inl v3), some (.inl v5), some (.inl v7), none]) (And.intro rfl (And.intro rfl (And.intro rfl (And.intro rfl (And.intro rfl True.intro))))) (hx15)
  · rw [if_neg b17] at h
    refine ev_icmp_ge_f (t := 72) (pc := 43) dX7_goStep_43 (by decide) b17 ?_
    obtain ⟨v18, e19, h⟩ := rb_bd h
    obtain ⟨a20, e21, h⟩ := rb_bd h
    refine ev_aload_n (v := 19) (pc := 46) dX7_goStep_46 rfl ?_
    refine ev_getr (q := 20) (pc := 47) dX7_goStep_47 fl_RX7_7 rfl rfl ?_
    refine ev_iload_n (v := t1) (pc := 50) dX7_goStep_50 rfl ?_
    refine ev_iload (v := s9.1) (pc := 51) dX7_goStep_51 rfl ?_
    refine ev_iadd (pc := 53) dX7_goStep_53 ?_
    refine ev_aload_n (v := 19) (pc := 54) dX7_goStep_54 rfl ?_
    refine ev_getr (q := 20) (pc := 55) dX7_goStep_55 fl_RX7_7 rfl rfl ?_
    refine ev_iload_n (v := t1) (pc := 58) dX7_goStep_58 rfl ?_
    refine ev_iload (v := s9.1) (pc := 59) dX7_goStep_59 rfl ?_
    refine ev_iadd (pc := 61) dX7_goStep_61 ?_
    refine ev_iconst (v := 3) (pc := 62) dX7_goStep_62 ki_3 ?_
    refine ev_iadd (pc := 63) dX7_goStep_63 ?_
    refine ev_iald (pc := 64) dX7_goStep_64 rfl e19 ?_
    refine ev_iast (w' := [(20, a20), (21, rd), (22, ag), (19, mf), (23, na), (24, nb), (25, nl), (26, sv), (31, wa)]) (pc := 65) dX7_goStep_65 rfl e21 rfl ?_
    refine ev_iinc (x := s9.1) (v := (s9.1 + 1)) (L' := [some (.inr 19), some (.inl x0), some (.inl t1), some (.inl v3), some (.inl v5), some (.inl v7), some (.inl (s9.1 + 1))]) (pc := 66) dX7_goStep_66 rfl (kx_1 _) (Nat.le_of_ble_eq_true rfl) rfl ?_
    refine ev_goto (t := 37) (pc := 69) dX7_goStep_69 (by decide) ?_
    obtain rfl := Option.some.inj h
    exact ih13 ((s9.1 + 1), a20) rfl
def XX7_goRoundOnce (a : rb_Row) (rd : rb_Row) (ag : rb_Row) (mf : rb_Row) (na : rb_Row) (nb : rb_Row) (nl : rb_Row) (sv : rb_Row) (wa : rb_Row) : Option (Int32 × rb_Row × rb_Row × rb_Row × rb_Row × rb_Row × rb_Row × rb_Row × rb_Row × rb_Row) := (rb_lp (ρ := Int32 × rb_Row × rb_Row × rb_Row × rb_Row × rb_Row × rb_Row × rb_Row × rb_Row × rb_Row) (fun (s1 : Int32 × Int32 × rb_Row × rb_Row × rb_Row × rb_Row × rb_Row × rb_Row × rb_Row × rb_Row × rb_Row) => if 6 ≤ s1.2.1 then some (.inr (s1.1, s1.2.2.1, s1.2.2.2.1, s1.2.2.2.2.1, s1.2.2.2.2.2.1, s1.2.2.2.2.2.2.1, s1.2.2.2.2.2.2.2.1, s1.2.2.2.2.2.2.2.2.1, s1.2.2.2.2.2.2.2.2.2.1, s1.2.2.2.2.2.2.2.2.2.2)) else (XX7_canStep s1.2.2.1 s1.2.1).bind fun t10 => ((if t10 = 0 then some (s1.1, s1.2.2.1, s1.2.2.2.1, s1.2.2.2.2.1, s1.2.2.2.2.2.1, s1.2.2.2.2.2.2.1, s1.2.2.2.2.2.2.2.1, s1.2.2.2.2.2.2.2.2.1, s1.2.2.2.2.2.2.2.2.2.1, s1.2.2.2.2.2.2.2.2.2.2) else (XX7_goStep s1.2.2.1 s1.2.2.2.1 s1.2.2.2.2.1 s1.2.2.2.2.2.1 s1.2.2.2.2.2.2.1 s1.2.2.2.2.2.2.2.1 s1.2.2.2.2.2.2.2.2.1 s1.2.2.2.2.2.2.2.2.2.1 s1.2.2.2.2.2.2.2.2.2.2 s1.2.1).bind fun t16 => (rb_pf t16.2.2.2.2.1 13 t16.1).bind fun mf18 => some ((s1.1 + 1), t16.2.1, t16.2.2.1, t16.2.2.2.1, mf18, t16.2.2.2.2.2.1, t16.2.2.2.2.2.2.1, t16.2.2.2.2.2.2.2.1, t16.2.2.2.2.2.2.2.2.1, t16.2.2.2.2.2.2.2.2.2)) : Option (Int32 × rb_Row × rb_Row × rb_Row × rb_Row × rb_Row × rb_Row × rb_Row × rb_Row × rb_Row)).bind fun j12 => some (.inl (j12.1, (s1.2.1 + 1), j12.2.1, j12.2.2.1, j12.2.2.2.1, j12.2.2.2.2.1, j12.2.2.2.2.2.1, j12.2.2.2.2.2.2.1, j12.2.2.2.2.2.2.2.1, j12.2.2.2.2.2.2.2.2.1, j12.2.2.2.2.2.2.2.2.2))) 100000 (0, 0, a, rd, ag, mf, na, nb, nl, sv, wa)).bind fun q2 => some (q2.1, q2.2.1, q2.2.2.1, q2.2.2.2.1, q2.2.2.2.2.1, q2.2.2.2.2.2.1, q2.2.2.2.2.2.2.1, q2.2.2.2.2.2.2.2.1, q2.2.2.2.2.2.2.2.2.1, q2.2.2.2.2.2.2.2.2.2)
set_option maxHeartbeats 4000000 in
set_option maxRecDepth 20000 in
theorem ct_X7_goRoundOnce (μ : rb_Mem) (a : rb_Row) (rd : rb_Row) (ag : rb_Row) (mf : rb_Row) (na : rb_Row) (nb : rb_Row) (nl : rb_Row) (sv : rb_Row) (wa : rb_Row) (o : Int32 × rb_Row × rb_Row × rb_Row × rb_Row × rb_Row × rb_Row × rb_Row × rb_Row × rb_Row) (ha : μ 20 = a) (hrd : μ 21 = rd) (hag : μ 22 = ag) (hmf : μ 19 = mf) (hna : μ 23 = na) (hnb : μ 24 = nb) (hnl : μ 25 = nl) (hsv : μ 26 = sv) (hwa : μ 31 = wa) (h : XX7_goRoundOnce a rd ag mf na nb nl sv wa = some o) : rb_Ct yX7_goRoundOnce cX7_goRoundOnce 3 (some .int) 15 [.inr 19] μ (some o.1) (rb_ov μ [(20, o.2.1), (21, o.2.2.1), (22, o.2.2.2.1), (19, o.2.2.2.2.1), (23, o.2.2.2.2.2.1), (24, o.2.2.2.2.2.2.1), (25, o.2.2.2.2.2.2.2.1), (26, o.2.2.2.2.2.2.2.2.1), (31, o.2.2.2.2.2.2.2.2.2)]) := by
  unfold XX7_goRoundOnce at h
  have hini : rb_ov μ [(20, a), (21, rd), (22, ag), (19, mf), (23, na), (24, nb), (25, nl), (26, sv), (31, wa)] = μ := rb_ov_sf _ _ (And.intro ha (And.intro hrd (And.intro hag (And.intro hmf (And.intro hna (And.intro hnb (And.intro hnl (And.intro hsv (And.intro hwa True.intro)))))))))
  have hfin : ∀ u0 u1 u2 u3 u4 u5 u6 u7 u8 : rb_Row, rb_ov μ [(20, u0), (21, u1), (22, u2), (19, u3), (23, u4), (24, u5), (25, u6), (26, u7), (31, u8)] = rb_ov μ [(20, u0), (21, u1), (22, u2), (19, u3), (23, u4), (24, u5), (25, u6), (26, u7), (31, u8)] := fun u0 u1 u2 u3 u4 u5 u6 u7 u8 => rfl
  refine rb_cti (w := [(20, a), (21, rd), (22, ag), (19, mf), (23, na), (24, nb), (25, nl), (26, sv), (31, wa)]) rfl pn_7 (Nat.le_of_ble_eq_true rfl) rfl hini ?_
  refine ev_iconst (v := 0) (pc := 0) dX7_goRoundOnce_0 ki_0 ?_
  refine ev_istore_n (L' := [some (.inr 19), some (.inl 0), none]) (pc := 1) dX7_goRoundOnce_1 (Nat.le_of_ble_eq_true rfl) rfl ?_
  refine ev_iconst (v := 0) (pc := 2) dX7_goRoundOnce_2 ki_0 ?_
  refine ev_istore_n (L' := [some (.inr 19), some (.inl 0), some (.inl 0)]) (pc := 3) dX7_goRoundOnce_3 (Nat.le_of_ble_eq_true rfl) rfl ?_
  obtain ⟨q2, l3, h⟩ := rb_bd h
  have hx7 : rb_Ev RX7 cX7_goRoundOnce 3 (some .int) none 15 (some o.1) (rb_ov μ [(20, o.2.1), (21, o.2.2.1), (22, o.2.2.2.1), (19, o.2.2.2.2.1), (23, o.2.2.2.2.2.1), (24, o.2.2.2.2.2.2.1), (25, o.2.2.2.2.2.2.2.1), (26, o.2.2.2.2.2.2.2.2.1), (31, o.2.2.2.2.2.2.2.2.2)]) 39 [none, some (.inl q2.1), none] [] (rb_ov μ [(20, q2.2.1), (21, q2.2.2.1), (22, q2.2.2.2.1), (19, q2.2.2.2.2.1), (23, q2.2.2.2.2.2.1), (24, q2.2.2.2.2.2.2.1), (25, q2.2.2.2.2.2.2.2.1), (26, q2.2.2.2.2.2.2.2.2.1), (31, q2.2.2.2.2.2.2.2.2.2)]) := by
    refine ev_iload_n (v := q2.1) (pc := 39) dX7_goRoundOnce_39 rfl ?_
    obtain rfl := Option.some.inj h
    exact ev_iret (pc := 40) dX7_goRoundOnce_40 rfl rfl rfl (hfin _ _ _ _ _ _ _ _ _)
  refine rb_lp_ev (P := fun (s1 : Int32 × Int32 × rb_Row × rb_Row × rb_Row × rb_Row × rb_Row × rb_Row × rb_Row × rb_Row × rb_Row) => rb_Ev RX7 cX7_goRoundOnce 3 (some .int) none 15 (some o.1) (rb_ov μ [(20, o.2.1), (21, o.2.2.1), (22, o.2.2.2.1), (19, o.2.2.2.2.1), (23, o.2.2.2.2.2.1), (24, o.2.2.2.2.2.2.1), (25, o.2.2.2.2.2.2.2.1), (26, o.2.2.2.2.2.2.2.2.1), (31, o.2.2.2.2.2.2.2.2.2)]) 4 [some (.inr 19), some (.inl s1.1), some (.inl s1.2.1)] [] (rb_ov μ [(20, s1.2.2.1), (21, s1.2.2.2.1), (22, s1.2.2.2.2.1), (19, s1.2.2.2.2.2.1), (23, s1.2.2.2.2.2.2.1), (24, s1.2.2.2.2.2.2.2.1), (25, s1.2.2.2.2.2.2.2.2.1), (26, s1.2.2.2.2.2.2.2.2.2.1), (31, s1.2.2.2.2.2.2.2.2.2.2)])) ?_ 100000 (0, 0, a, rd, ag, mf, na, nb, nl, sv, wa) l3
  intro s1 y4 h ih5 hE6
  refine ev_iload_n (v := s1.2.1) (pc := 4) dX7_goRoundOnce_4 rfl ?_
  refine ev_bipush (v := 6) (pc := 5) dX7_goRoundOnce_5 kb_6 ?_
  by_cases b9 : 6 ≤ s1.2.1
  · rw [if_pos b9] at h
    refine ev_icmp_ge_t (t := 39) (pc := 7) dX7_goRoundOnce_7 (by decide) b9 ?_
    obtain rfl := Option.some.inj h
    obtain rfl := hE6 _ rfl
    exact ev_fg (L := [none, some (.inl s1.1), none]) (And.intro rfl True.intro) (hx7)
  · rw [if_neg b9] at h
    refine ev_icmp_ge_f (t := 39) (pc := 7) dX7_goRoundOnce_7 (by decide) b9 ?_
    obtain ⟨t10, e11, h⟩ := rb_bd h
    refine ev_aload_n (v := 19) (pc := 10) dX7_goRoundOnce_10 rfl ?_
    refine ev_iload_n (v := s1.2.1) (pc := 11) dX7_goRoundOnce_11 rfl ?_
    refine ev_cVi1 (pc := 12) dX7_goRoundOnce_12 mv_X7_canStep lk_RX7_317 rp_19 (ct_X7_canStep _ _ _ _ rfl e11) (Nat.le_of_ble_eq_true rfl) (Nat.le_of_ble_eq_true rfl) ?_
    obtain ⟨j12, e13, h⟩ := rb_bd h
    have hj14 : rb_Ev RX7 cX7_goRoundOnce 3 (some .int) none 15 (some o.1) (rb_ov μ [(20, o.2.1), (21, o.2.2.1), (22, o.2.2.2.1), (19, o.2.2.2.2.1), (23, o.2.2.2.2.2.1), (24, o.2.2.2.2.2.2.1), (25, o.2.2.2.2.2.2.2.1), (26, o.2.2.2.2.2.2.2.2.1), (31, o.2.2.2.2.2.2.2.2.2)]) 33 [some (.inr 19), some (.inl j12.1), some (.inl s1.2.1)] [] (rb_ov μ [(20, j12.2.1), (21, j12.2.2.1), (22, j12.2.2.2.1), (19, j12.2.2.2.2.1), (23, j12.2.2.2.2.2.1), (24, j12.2.2.2.2.2.2.1), (25, j12.2.2.2.2.2.2.2.1), (26, j12.2.2.2.2.2.2.2.2.1), (31, j12.2.2.2.2.2.2.2.2.2)]) := by
      refine ev_iinc (x := s1.2.1) (v := (s1.2.1 + 1)) (L' := [some (.inr 19), some (.inl j12.1), some (.inl (s1.2.1 + 1))]) (pc := 33) dX7_goRoundOnce_33 rfl (kx_1 _) (Nat.le_of_ble_eq_true rfl) rfl ?_
      refine ev_goto (t := 4) (pc := 36) dX7_goRoundOnce_36 (by decide) ?_
      obtain rfl := Option.some.inj h
      exact ih5 (j12.1, (s1.2.1 + 1), j12.2.1, j12.2.2.1, j12.2.2.2.1, j12.2.2.2.2.1, j12.2.2.2.2.2.1, j12.2.2.2.2.2.2.1, j12.2.2.2.2.2.2.2.1, j12.2.2.2.2.2.2.2.2.1, j12.2.2.2.2.2.2.2.2.2) rfl
    replace h := e13
    by_cases b15 : t10 = 0
    · rw [if_pos b15] at h
      refine ev_if_ne_f (t := 21) (pc := 15) dX7_goRoundOnce_15 (by decide) b15 ?_
      refine ev_goto (t := 33) (pc := 18) dX7_goRoundOnce_18 (by decide) ?_
      obtain rfl := Option.some.inj h
      exact hj14
    · rw [if_neg b15] at h
      refine ev_if_ne_t (t := 21) (pc := 15) dX7_goRoundOnce_15 (by decide) b15 ?_
      obtain ⟨t16, e17, h⟩ := rb_bd h
      obtain ⟨mf18, e19, h⟩ := rb_bd h
      refine ev_aload_n (v := 19) (pc := 21) dX7_goRoundOnce_21 rfl ?_
      refine ev_aload_n (v := 19) (pc := 22) dX7_goRoundOnce_22 rfl ?_
      refine ev_iload_n (v := s1.2.1) (pc := 23) dX7_goRoundOnce_23 rfl ?_
      refine ev_cVi1w (w' := [(20, t16.2.1), (21, t16.2.2.1), (22, t16.2.2.2.1), (19, t16.2.2.2.2.1), (23, t16.2.2.2.2.2.1), (24, t16.2.2.2.2.2.2.1), (25, t16.2.2.2.2.2.2.2.1), (26, t16.2.2.2.2.2.2.2.2.1), (31, t16.2.2.2.2.2.2.2.2.2)]) (pc := 24) dX7_goRoundOnce_24 mv_X7_goStep lk_RX7_320 rp_19 (ct_X7_goStep _ _ _ _ _ _ _ _ _ _ _ _ rfl rfl rfl rfl rfl rfl rfl rfl rfl e17) (Nat.le_of_ble_eq_true rfl) (Nat.le_of_ble_eq_true rfl) rfl ?_
      refine ev_putw (w' := [(20, t16.2.1), (21, t16.2.2.1), (22, t16.2.2.2.1), (19, mf18), (23, t16.2.2.2.2.2.1), (24, t16.2.2.2.2.2.2.1), (25, t16.2.2.2.2.2.2.2.1), (26, t16.2.2.2.2.2.2.2.2.1), (31, t16.2.2.2.2.2.2.2.2.2)]) (pc := 27) dX7_goRoundOnce_27 fp_RX7_323 rfl rfl e19 rfl ?_
      refine ev_iinc (x := s1.1) (v := (s1.1 + 1)) (L' := [some (.inr 19), some (.inl (s1.1 + 1)), some (.inl s1.2.1)]) (pc := 30) dX7_goRoundOnce_30 rfl (kx_1 _) (Nat.le_of_ble_eq_true rfl) rfl ?_
      obtain rfl := Option.some.inj h
      exact hj14
def XX7_rounds (a : rb_Row) (rd : rb_Row) (ag : rb_Row) (mf : rb_Row) (na : rb_Row) (nb : rb_Row) (nl : rb_Row) (sv : rb_Row) (wa : rb_Row) (x0 : Int32) : Option (Int32 × rb_Row × rb_Row × rb_Row × rb_Row × rb_Row × rb_Row × rb_Row × rb_Row × rb_Row) := (XX7_isIn x0 1 50).bind fun t1 => if t1 = 0 then some ((-1), a, rd, ag, mf, na, nb, nl, sv, wa) else (XX7_keepAct mf wa a).bind fun t4 => (rb_lp (ρ := Int32 × rb_Row × rb_Row × rb_Row × rb_Row × rb_Row × rb_Row × rb_Row × rb_Row × rb_Row) (fun (s6 : Int32 × Int32 × rb_Row × rb_Row × rb_Row × rb_Row × rb_Row × rb_Row × rb_Row × rb_Row × rb_Row) => if x0 ≤ s6.2.1 then some (.inr (s6.1, s6.2.2.1, s6.2.2.2.1, s6.2.2.2.2.1, s6.2.2.2.2.2.1, s6.2.2.2.2.2.2.1, s6.2.2.2.2.2.2.2.1, s6.2.2.2.2.2.2.2.2.1, s6.2.2.2.2.2.2.2.2.2.1, s6.2.2.2.2.2.2.2.2.2.2)) else (XX7_goRoundOnce s6.2.2.1 s6.2.2.2.1 s6.2.2.2.2.1 s6.2.2.2.2.2.1 s6.2.2.2.2.2.2.1 s6.2.2.2.2.2.2.2.1 s6.2.2.2.2.2.2.2.2.1 s6.2.2.2.2.2.2.2.2.2.1 s6.2.2.2.2.2.2.2.2.2.2).bind fun t15 => some (.inl ((s6.1 + t15.1), (s6.2.1 + 1), t15.2.1, t15.2.2.1, t15.2.2.2.1, t15.2.2.2.2.1, t15.2.2.2.2.2.1, t15.2.2.2.2.2.2.1, t15.2.2.2.2.2.2.2.1, t15.2.2.2.2.2.2.2.2.1, t15.2.2.2.2.2.2.2.2.2))) 100000 (0, 0, a, rd, ag, t4.1, na, nb, nl, sv, t4.2)).bind fun q7 => some (q7.1, q7.2.1, q7.2.2.1, q7.2.2.2.1, q7.2.2.2.2.1, q7.2.2.2.2.2.1, q7.2.2.2.2.2.2.1, q7.2.2.2.2.2.2.2.1, q7.2.2.2.2.2.2.2.2.1, q7.2.2.2.2.2.2.2.2.2)
set_option maxHeartbeats 4000000 in
set_option maxRecDepth 20000 in
theorem ct_X7_rounds (μ : rb_Mem) (a : rb_Row) (rd : rb_Row) (ag : rb_Row) (mf : rb_Row) (na : rb_Row) (nb : rb_Row) (nl : rb_Row) (sv : rb_Row) (wa : rb_Row) (x0 : Int32) (o : Int32 × rb_Row × rb_Row × rb_Row × rb_Row × rb_Row × rb_Row × rb_Row × rb_Row × rb_Row) (ha : μ 20 = a) (hrd : μ 21 = rd) (hag : μ 22 = ag) (hmf : μ 19 = mf) (hna : μ 23 = na) (hnb : μ 24 = nb) (hnl : μ 25 = nl) (hsv : μ 26 = sv) (hwa : μ 31 = wa) (h : XX7_rounds a rd ag mf na nb nl sv wa x0 = some o) : rb_Ct yX7_rounds cX7_rounds 4 (some .int) 16 [.inr 19, .inl x0] μ (some o.1) (rb_ov μ [(20, o.2.1), (21, o.2.2.1), (22, o.2.2.2.1), (19, o.2.2.2.2.1), (23, o.2.2.2.2.2.1), (24, o.2.2.2.2.2.2.1), (25, o.2.2.2.2.2.2.2.1), (26, o.2.2.2.2.2.2.2.2.1), (31, o.2.2.2.2.2.2.2.2.2)]) := by
  unfold XX7_rounds at h
  have hini : rb_ov μ [(20, a), (21, rd), (22, ag), (19, mf), (23, na), (24, nb), (25, nl), (26, sv), (31, wa)] = μ := rb_ov_sf _ _ (And.intro ha (And.intro hrd (And.intro hag (And.intro hmf (And.intro hna (And.intro hnb (And.intro hnl (And.intro hsv (And.intro hwa True.intro)))))))))
  have hfin : ∀ u0 u1 u2 u3 u4 u5 u6 u7 u8 : rb_Row, rb_ov μ [(20, u0), (21, u1), (22, u2), (19, u3), (23, u4), (24, u5), (25, u6), (26, u7), (31, u8)] = rb_ov μ [(20, u0), (21, u1), (22, u2), (19, u3), (23, u4), (24, u5), (25, u6), (26, u7), (31, u8)] := fun u0 u1 u2 u3 u4 u5 u6 u7 u8 => rfl
  refine rb_cti (w := [(20, a), (21, rd), (22, ag), (19, mf), (23, na), (24, nb), (25, nl), (26, sv), (31, wa)]) rfl pn_7 (Nat.le_of_ble_eq_true rfl) rfl hini ?_
  obtain ⟨t1, e2, h⟩ := rb_bd h
  refine ev_iload_n (v := x0) (pc := 0) dX7_rounds_0 rfl ?_
  refine ev_iconst (v := 1) (pc := 1) dX7_rounds_1 ki_1 ?_
  refine ev_bipush (v := 50) (pc := 2) dX7_rounds_2 kb_50 ?_
  refine ev_cSi3 (pc := 4) dX7_rounds_4 ms_X7_isIn lk_RX7_69 (ct_X7_isIn _ _ _ _ _ e2) (Nat.le_of_ble_eq_true rfl) (Nat.le_of_ble_eq_true rfl) ?_
  by_cases b3 : t1 = 0
  · rw [if_pos b3] at h
    refine ev_if_ne_f (t := 12) (pc := 7) dX7_rounds_7 (by decide) b3 ?_
    refine ev_iconst (v := (-1)) (pc := 10) dX7_rounds_10 ki_m1 ?_
    obtain rfl := Option.some.inj h
    exact ev_iret (pc := 11) dX7_rounds_11 rfl rfl rfl (hfin _ _ _ _ _ _ _ _ _)
  · rw [if_neg b3] at h
    refine ev_if_ne_t (t := 12) (pc := 7) dX7_rounds_7 (by decide) b3 ?_
    obtain ⟨t4, e5, h⟩ := rb_bd h
    refine ev_aload_n (v := 19) (pc := 12) dX7_rounds_12 rfl ?_
    refine ev_cVv0w (w' := [(20, a), (21, rd), (22, ag), (19, t4.1), (23, na), (24, nb), (25, nl), (26, sv), (31, t4.2)]) (pc := 13) dX7_rounds_13 mv_X7_keepAct lk_RX7_101 rp_19 (ct_X7_keepAct _ _ _ _ _ rfl rfl rfl e5) (Nat.le_of_ble_eq_true rfl) (Nat.le_of_ble_eq_true rfl) rfl ?_
    refine ev_iconst (v := 0) (pc := 16) dX7_rounds_16 ki_0 ?_
    refine ev_istore_n (L' := [some (.inr 19), some (.inl x0), some (.inl 0), none]) (pc := 17) dX7_rounds_17 (Nat.le_of_ble_eq_true rfl) rfl ?_
    refine ev_iconst (v := 0) (pc := 18) dX7_rounds_18 ki_0 ?_
    refine ev_istore_n (L' := [some (.inr 19), some (.inl x0), some (.inl 0), some (.inl 0)]) (pc := 19) dX7_rounds_19 (Nat.le_of_ble_eq_true rfl) rfl ?_
    obtain ⟨q7, l8, h⟩ := rb_bd h
    have hx12 : rb_Ev RX7 cX7_rounds 4 (some .int) none 16 (some o.1) (rb_ov μ [(20, o.2.1), (21, o.2.2.1), (22, o.2.2.2.1), (19, o.2.2.2.2.1), (23, o.2.2.2.2.2.1), (24, o.2.2.2.2.2.2.1), (25, o.2.2.2.2.2.2.2.1), (26, o.2.2.2.2.2.2.2.2.1), (31, o.2.2.2.2.2.2.2.2.2)]) 38 [none, none, some (.inl q7.1), none] [] (rb_ov μ [(20, q7.2.1), (21, q7.2.2.1), (22, q7.2.2.2.1), (19, q7.2.2.2.2.1), (23, q7.2.2.2.2.2.1), (24, q7.2.2.2.2.2.2.1), (25, q7.2.2.2.2.2.2.2.1), (26, q7.2.2.2.2.2.2.2.2.1), (31, q7.2.2.2.2.2.2.2.2.2)]) := by
      refine ev_iload_n (v := q7.1) (pc := 38) dX7_rounds_38 rfl ?_
      obtain rfl := Option.some.inj h
      exact ev_iret (pc := 39) dX7_rounds_39 rfl rfl rfl (hfin _ _ _ _ _ _ _ _ _)
    refine rb_lp_ev (P := fun (s6 : Int32 × Int32 × rb_Row × rb_Row × rb_Row × rb_Row × rb_Row × rb_Row × rb_Row × rb_Row × rb_Row) => rb_Ev RX7 cX7_rounds 4 (some .int) none 16 (some o.1) (rb_ov μ [(20, o.2.1), (21, o.2.2.1), (22, o.2.2.2.1), (19, o.2.2.2.2.1), (23, o.2.2.2.2.2.1), (24, o.2.2.2.2.2.2.1), (25, o.2.2.2.2.2.2.2.1), (26, o.2.2.2.2.2.2.2.2.1), (31, o.2.2.2.2.2.2.2.2.2)]) 20 [some (.inr 19), some (.inl x0), some (.inl s6.1), some (.inl s6.2.1)] [] (rb_ov μ [(20, s6.2.2.1), (21, s6.2.2.2.1), (22, s6.2.2.2.2.1), (19, s6.2.2.2.2.2.1), (23, s6.2.2.2.2.2.2.1), (24, s6.2.2.2.2.2.2.2.1), (25, s6.2.2.2.2.2.2.2.2.1), (26, s6.2.2.2.2.2.2.2.2.2.1), (31, s6.2.2.2.2.2.2.2.2.2.2)])) ?_ 100000 (0, 0, a, rd, ag, t4.1, na, nb, nl, sv, t4.2) l8
    intro s6 y9 h ih10 hE11
    refine ev_iload_n (v := s6.2.1) (pc := 20) dX7_rounds_20 rfl ?_
    refine ev_iload_n (v := x0) (pc := 21) dX7_rounds_21 rfl ?_
    by_cases b14 : x0 ≤ s6.2.1
    · rw [if_pos b14] at h
      refine ev_icmp_ge_t (t := 38) (pc := 22) dX7_rounds_22 (by decide) b14 ?_
      obtain rfl := Option.some.inj h
      obtain rfl := hE11 _ rfl
      exact ev_fg (L := [none, none, some (.inl s6.1), none]) (And.intro rfl True.intro) (hx12)
    · rw [if_neg b14] at h
      refine ev_icmp_ge_f (t := 38) (pc := 22) dX7_rounds_22 (by decide) b14 ?_
      obtain ⟨t15, e16, h⟩ := rb_bd h
      refine ev_iload_n (v := s6.1) (pc := 25) dX7_rounds_25 rfl ?_
      refine ev_aload_n (v := 19) (pc := 26) dX7_rounds_26 rfl ?_
      refine ev_cVi0w (w' := [(20, t15.2.1), (21, t15.2.2.1), (22, t15.2.2.2.1), (19, t15.2.2.2.2.1), (23, t15.2.2.2.2.2.1), (24, t15.2.2.2.2.2.2.1), (25, t15.2.2.2.2.2.2.2.1), (26, t15.2.2.2.2.2.2.2.2.1), (31, t15.2.2.2.2.2.2.2.2.2)]) (pc := 27) dX7_rounds_27 mv_X7_goRoundOnce lk_RX7_326 rp_19 (ct_X7_goRoundOnce _ _ _ _ _ _ _ _ _ _ _ rfl rfl rfl rfl rfl rfl rfl rfl rfl e16) (Nat.le_of_ble_eq_true rfl) (Nat.le_of_ble_eq_true rfl) rfl ?_
      refine ev_iadd (pc := 30) dX7_rounds_30 ?_
      refine ev_istore_n (L' := [some (.inr 19), some (.inl x0), some (.inl (s6.1 + t15.1)), some (.inl s6.2.1)]) (pc := 31) dX7_rounds_31 (Nat.le_of_ble_eq_true rfl) rfl ?_
      refine ev_iinc (x := s6.2.1) (v := (s6.2.1 + 1)) (L' := [some (.inr 19), some (.inl x0), some (.inl (s6.1 + t15.1)), some (.inl (s6.2.1 + 1))]) (pc := 32) dX7_rounds_32 rfl (kx_1 _) (Nat.le_of_ble_eq_true rfl) rfl ?_
      refine ev_goto (t := 20) (pc := 35) dX7_rounds_35 (by decide) ?_
      obtain rfl := Option.some.inj h
      exact ih10 ((s6.1 + t15.1), (s6.2.1 + 1), t15.2.1, t15.2.2.1, t15.2.2.2.1, t15.2.2.2.2.1, t15.2.2.2.2.2.1, t15.2.2.2.2.2.2.1, t15.2.2.2.2.2.2.2.1, t15.2.2.2.2.2.2.2.2.1, t15.2.2.2.2.2.2.2.2.2) rfl
def XX7_forget (a : rb_Row) (mf : rb_Row) (wa : rb_Row) (x0 : Int32) : Option (Int32 × rb_Row × rb_Row × rb_Row) := (XX7_isTask x0).bind fun t1 => if t1 = 0 then some ((-1), a, mf, wa) else (XX7_ofTask a x0 9).bind fun t4 => if t4 = 0 then some ((-1), a, mf, wa) else (XX7_keepAct mf wa a).bind fun t7 => (XX7_ofTask a x0 9).bind fun t9 => (XX7_taskAt x0 9).bind fun t11 => (rb_wr a 796 t11 0).bind fun a13 => some (t9, a13, t7.1, t7.2)
set_option maxHeartbeats 4000000 in
set_option maxRecDepth 20000 in
theorem ct_X7_forget (μ : rb_Mem) (a : rb_Row) (mf : rb_Row) (wa : rb_Row) (x0 : Int32) (o : Int32 × rb_Row × rb_Row × rb_Row) (ha : μ 20 = a) (hmf : μ 19 = mf) (hwa : μ 31 = wa) (h : XX7_forget a mf wa x0 = some o) : rb_Ct yX7_forget cX7_forget 3 (some .int) 2 [.inr 19, .inl x0] μ (some o.1) (rb_ov μ [(20, o.2.1), (19, o.2.2.1), (31, o.2.2.2)]) := by
  unfold XX7_forget at h
  have hini : rb_ov μ [(20, a), (19, mf), (31, wa)] = μ := rb_ov_sf _ _ (And.intro ha (And.intro hmf (And.intro hwa True.intro)))
  have hfin : ∀ u0 u1 u2 : rb_Row, rb_ov μ [(20, u0), (19, u1), (31, u2)] = rb_ov μ [(20, u0), (19, u1), (31, u2)] := fun u0 u1 u2 => rfl
  refine rb_cti (w := [(20, a), (19, mf), (31, wa)]) rfl pn_7 (Nat.le_of_ble_eq_true rfl) rfl hini ?_
  obtain ⟨t1, e2, h⟩ := rb_bd h
  refine ev_aload_n (v := 19) (pc := 0) dX7_forget_0 rfl ?_
  refine ev_iload_n (v := x0) (pc := 1) dX7_forget_1 rfl ?_
  refine ev_cVi1 (pc := 2) dX7_forget_2 mv_X7_isTask lk_RX7_284 rp_19 (ct_X7_isTask _ _ _ e2) (Nat.le_of_ble_eq_true rfl) (Nat.le_of_ble_eq_true rfl) ?_
  by_cases b3 : t1 = 0
  · rw [if_pos b3] at h
    refine ev_if_eq_t (t := 18) (pc := 5) dX7_forget_5 (by decide) b3 ?_
    refine ev_iconst (v := (-1)) (pc := 18) dX7_forget_18 ki_m1 ?_
    obtain rfl := Option.some.inj h
    exact ev_iret (pc := 19) dX7_forget_19 rfl rfl rfl (hfin _ _ _)
  · rw [if_neg b3] at h
    refine ev_if_eq_f (t := 18) (pc := 5) dX7_forget_5 (by decide) b3 ?_
    obtain ⟨t4, e5, h⟩ := rb_bd h
    refine ev_aload_n (v := 19) (pc := 8) dX7_forget_8 rfl ?_
    refine ev_iload_n (v := x0) (pc := 9) dX7_forget_9 rfl ?_
    refine ev_bipush (v := 9) (pc := 10) dX7_forget_10 kb_9 ?_
    refine ev_cVi2 (pc := 12) dX7_forget_12 mv_X7_ofTask lk_RX7_84 rp_19 (ct_X7_ofTask _ _ _ _ _ rfl e5) (Nat.le_of_ble_eq_true rfl) (Nat.le_of_ble_eq_true rfl) ?_
    by_cases b6 : t4 = 0
    · rw [if_pos b6] at h
      refine ev_if_ne_f (t := 20) (pc := 15) dX7_forget_15 (by decide) b6 ?_
      refine ev_iconst (v := (-1)) (pc := 18) dX7_forget_18 ki_m1 ?_
      obtain rfl := Option.some.inj h
      exact ev_iret (pc := 19) dX7_forget_19 rfl rfl rfl (hfin _ _ _)
    · rw [if_neg b6] at h
      refine ev_if_ne_t (t := 20) (pc := 15) dX7_forget_15 (by decide) b6 ?_
      obtain ⟨t7, e8, h⟩ := rb_bd h
      obtain ⟨t9, e10, h⟩ := rb_bd h
      obtain ⟨t11, e12, h⟩ := rb_bd h
      obtain ⟨a13, e14, h⟩ := rb_bd h
      refine ev_aload_n (v := 19) (pc := 20) dX7_forget_20 rfl ?_
      refine ev_cVv0w (w' := [(20, a), (19, t7.1), (31, t7.2)]) (pc := 21) dX7_forget_21 mv_X7_keepAct lk_RX7_101 rp_19 (ct_X7_keepAct _ _ _ _ _ rfl rfl rfl e8) (Nat.le_of_ble_eq_true rfl) (Nat.le_of_ble_eq_true rfl) rfl ?_
      refine ev_aload_n (v := 19) (pc := 24) dX7_forget_24 rfl ?_
      refine ev_iload_n (v := x0) (pc := 25) dX7_forget_25 rfl ?_
      refine ev_bipush (v := 9) (pc := 26) dX7_forget_26 kb_9 ?_
      refine ev_cVi2 (pc := 28) dX7_forget_28 mv_X7_ofTask lk_RX7_84 rp_19 (ct_X7_ofTask _ _ _ _ _ rfl e10) (Nat.le_of_ble_eq_true rfl) (Nat.le_of_ble_eq_true rfl) ?_
      refine ev_istore_n (L' := [some (.inr 19), some (.inl x0), some (.inl t9)]) (pc := 31) dX7_forget_31 (Nat.le_of_ble_eq_true rfl) rfl ?_
      refine ev_aload_n (v := 19) (pc := 32) dX7_forget_32 rfl ?_
      refine ev_getr (q := 20) (pc := 33) dX7_forget_33 fl_RX7_7 rfl rfl ?_
      refine ev_iload_n (v := x0) (pc := 36) dX7_forget_36 rfl ?_
      refine ev_bipush (v := 9) (pc := 37) dX7_forget_37 kb_9 ?_
      refine ev_cSi2 (pc := 39) dX7_forget_39 ms_X7_taskAt lk_RX7_63 (ct_X7_taskAt _ _ _ _ e12) (Nat.le_of_ble_eq_true rfl) (Nat.le_of_ble_eq_true rfl) ?_
      refine ev_iconst (v := 0) (pc := 42) dX7_forget_42 ki_0 ?_
      refine ev_iast (w' := [(20, a13), (19, t7.1), (31, t7.2)]) (pc := 43) dX7_forget_43 rfl e14 rfl ?_
      refine ev_iload_n (v := t9) (pc := 44) dX7_forget_44 rfl ?_
      obtain rfl := Option.some.inj h
      exact ev_iret (pc := 45) dX7_forget_45 rfl rfl rfl (hfin _ _ _)
def XX7_step (a : rb_Row) (rd : rb_Row) (ag : rb_Row) (mf : rb_Row) (na : rb_Row) (nb : rb_Row) (nl : rb_Row) (sv : rb_Row) (wa : rb_Row) (x0 : Int32) : Option (Int32 × rb_Row × rb_Row × rb_Row × rb_Row × rb_Row × rb_Row × rb_Row × rb_Row × rb_Row) := (XX7_isTask x0).bind fun t1 => if t1 = 0 then (XX7_isTask x0).bind fun t4 => if t4 = 0 then some ((-4), a, rd, ag, mf, na, nb, nl, sv, wa) else (XX7_canStep a x0).bind fun t7 => if t7 = 0 then some ((-4), a, rd, ag, mf, na, nb, nl, sv, wa) else (XX7_keepAct mf wa a).bind fun t10 => (XX7_goStep a rd ag t10.1 na nb nl sv t10.2 x0).bind fun t12 => some (t12.1, t12.2.1, t12.2.2.1, t12.2.2.2.1, t12.2.2.2.2.1, t12.2.2.2.2.2.1, t12.2.2.2.2.2.2.1, t12.2.2.2.2.2.2.2.1, t12.2.2.2.2.2.2.2.2.1, t12.2.2.2.2.2.2.2.2.2) else (XX7_isAsleep a x0).bind fun t14 => if t14 = 0 then (XX7_isTask x0).bind fun t17 => if t17 = 0 then some ((-4), a, rd, ag, mf, na, nb, nl, sv, wa) else (XX7_canStep a x0).bind fun t20 => if t20 = 0 then some ((-4), a, rd, ag, mf, na, nb, nl, sv, wa) else (XX7_keepAct mf wa a).bind fun t23 => (XX7_goStep a rd ag t23.1 na nb nl sv t23.2 x0).bind fun t25 => some (t25.1, t25.2.1, t25.2.2.1, t25.2.2.2.1, t25.2.2.2.2.1, t25.2.2.2.2.2.1, t25.2.2.2.2.2.2.1, t25.2.2.2.2.2.2.2.1, t25.2.2.2.2.2.2.2.2.1, t25.2.2.2.2.2.2.2.2.2) else some ((-3), a, rd, ag, mf, na, nb, nl, sv, wa)
set_option maxHeartbeats 4000000 in
set_option maxRecDepth 20000 in
theorem ct_X7_step (μ : rb_Mem) (a : rb_Row) (rd : rb_Row) (ag : rb_Row) (mf : rb_Row) (na : rb_Row) (nb : rb_Row) (nl : rb_Row) (sv : rb_Row) (wa : rb_Row) (x0 : Int32) (o : Int32 × rb_Row × rb_Row × rb_Row × rb_Row × rb_Row × rb_Row × rb_Row × rb_Row × rb_Row) (ha : μ 20 = a) (hrd : μ 21 = rd) (hag : μ 22 = ag) (hmf : μ 19 = mf) (hna : μ 23 = na) (hnb : μ 24 = nb) (hnl : μ 25 = nl) (hsv : μ 26 = sv) (hwa : μ 31 = wa) (h : XX7_step a rd ag mf na nb nl sv wa x0 = some o) : rb_Ct yX7_step cX7_step 2 (some .int) 15 [.inr 19, .inl x0] μ (some o.1) (rb_ov μ [(20, o.2.1), (21, o.2.2.1), (22, o.2.2.2.1), (19, o.2.2.2.2.1), (23, o.2.2.2.2.2.1), (24, o.2.2.2.2.2.2.1), (25, o.2.2.2.2.2.2.2.1), (26, o.2.2.2.2.2.2.2.2.1), (31, o.2.2.2.2.2.2.2.2.2)]) := by
  unfold XX7_step at h
  have hini : rb_ov μ [(20, a), (21, rd), (22, ag), (19, mf), (23, na), (24, nb), (25, nl), (26, sv), (31, wa)] = μ := rb_ov_sf _ _ (And.intro ha (And.intro hrd (And.intro hag (And.intro hmf (And.intro hna (And.intro hnb (And.intro hnl (And.intro hsv (And.intro hwa True.intro)))))))))
  have hfin : ∀ u0 u1 u2 u3 u4 u5 u6 u7 u8 : rb_Row, rb_ov μ [(20, u0), (21, u1), (22, u2), (19, u3), (23, u4), (24, u5), (25, u6), (26, u7), (31, u8)] = rb_ov μ [(20, u0), (21, u1), (22, u2), (19, u3), (23, u4), (24, u5), (25, u6), (26, u7), (31, u8)] := fun u0 u1 u2 u3 u4 u5 u6 u7 u8 => rfl
  refine rb_cti (w := [(20, a), (21, rd), (22, ag), (19, mf), (23, na), (24, nb), (25, nl), (26, sv), (31, wa)]) rfl pn_7 (Nat.le_of_ble_eq_true rfl) rfl hini ?_
  obtain ⟨t1, e2, h⟩ := rb_bd h
  refine ev_aload_n (v := 19) (pc := 0) dX7_step_0 rfl ?_
  refine ev_iload_n (v := x0) (pc := 1) dX7_step_1 rfl ?_
  refine ev_cVi1 (pc := 2) dX7_step_2 mv_X7_isTask lk_RX7_284 rp_19 (ct_X7_isTask _ _ _ e2) (Nat.le_of_ble_eq_true rfl) (Nat.le_of_ble_eq_true rfl) ?_
  by_cases b3 : t1 = 0
  · rw [if_pos b3] at h
    refine ev_if_eq_t (t := 19) (pc := 5) dX7_step_5 (by decide) b3 ?_
    obtain ⟨t4, e5, h⟩ := rb_bd h
    refine ev_aload_n (v := 19) (pc := 19) dX7_step_19 rfl ?_
    refine ev_iload_n (v := x0) (pc := 20) dX7_step_20 rfl ?_
    refine ev_cVi1 (pc := 21) dX7_step_21 mv_X7_isTask lk_RX7_284 rp_19 (ct_X7_isTask _ _ _ e5) (Nat.le_of_ble_eq_true rfl) (Nat.le_of_ble_eq_true rfl) ?_
    by_cases b6 : t4 = 0
    · rw [if_pos b6] at h
      refine ev_if_eq_t (t := 35) (pc := 24) dX7_step_24 (by decide) b6 ?_
      refine ev_bipush (v := (-4)) (pc := 35) dX7_step_35 kb_m4 ?_
      obtain rfl := Option.some.inj h
      exact ev_iret (pc := 37) dX7_step_37 rfl rfl rfl (hfin _ _ _ _ _ _ _ _ _)
    · rw [if_neg b6] at h
      refine ev_if_eq_f (t := 35) (pc := 24) dX7_step_24 (by decide) b6 ?_
      obtain ⟨t7, e8, h⟩ := rb_bd h
      refine ev_aload_n (v := 19) (pc := 27) dX7_step_27 rfl ?_
      refine ev_iload_n (v := x0) (pc := 28) dX7_step_28 rfl ?_
      refine ev_cVi1 (pc := 29) dX7_step_29 mv_X7_canStep lk_RX7_317 rp_19 (ct_X7_canStep _ _ _ _ rfl e8) (Nat.le_of_ble_eq_true rfl) (Nat.le_of_ble_eq_true rfl) ?_
      by_cases b9 : t7 = 0
      · rw [if_pos b9] at h
        refine ev_if_ne_f (t := 38) (pc := 32) dX7_step_32 (by decide) b9 ?_
        refine ev_bipush (v := (-4)) (pc := 35) dX7_step_35 kb_m4 ?_
        obtain rfl := Option.some.inj h
        exact ev_iret (pc := 37) dX7_step_37 rfl rfl rfl (hfin _ _ _ _ _ _ _ _ _)
      · rw [if_neg b9] at h
        refine ev_if_ne_t (t := 38) (pc := 32) dX7_step_32 (by decide) b9 ?_
        obtain ⟨t10, e11, h⟩ := rb_bd h
        obtain ⟨t12, e13, h⟩ := rb_bd h
        refine ev_aload_n (v := 19) (pc := 38) dX7_step_38 rfl ?_
        refine ev_cVv0w (w' := [(20, a), (21, rd), (22, ag), (19, t10.1), (23, na), (24, nb), (25, nl), (26, sv), (31, t10.2)]) (pc := 39) dX7_step_39 mv_X7_keepAct lk_RX7_101 rp_19 (ct_X7_keepAct _ _ _ _ _ rfl rfl rfl e11) (Nat.le_of_ble_eq_true rfl) (Nat.le_of_ble_eq_true rfl) rfl ?_
        refine ev_aload_n (v := 19) (pc := 42) dX7_step_42 rfl ?_
        refine ev_iload_n (v := x0) (pc := 43) dX7_step_43 rfl ?_
        refine ev_cVi1w (w' := [(20, t12.2.1), (21, t12.2.2.1), (22, t12.2.2.2.1), (19, t12.2.2.2.2.1), (23, t12.2.2.2.2.2.1), (24, t12.2.2.2.2.2.2.1), (25, t12.2.2.2.2.2.2.2.1), (26, t12.2.2.2.2.2.2.2.2.1), (31, t12.2.2.2.2.2.2.2.2.2)]) (pc := 44) dX7_step_44 mv_X7_goStep lk_RX7_320 rp_19 (ct_X7_goStep _ _ _ _ _ _ _ _ _ _ _ _ rfl rfl rfl rfl rfl rfl rfl rfl rfl e13) (Nat.le_of_ble_eq_true rfl) (Nat.le_of_ble_eq_true rfl) rfl ?_
        obtain rfl := Option.some.inj h
        exact ev_iret (pc := 47) dX7_step_47 rfl rfl rfl (hfin _ _ _ _ _ _ _ _ _)
  · rw [if_neg b3] at h
    refine ev_if_eq_f (t := 19) (pc := 5) dX7_step_5 (by decide) b3 ?_
    obtain ⟨t14, e15, h⟩ := rb_bd h
    refine ev_aload_n (v := 19) (pc := 8) dX7_step_8 rfl ?_
    refine ev_iload_n (v := x0) (pc := 9) dX7_step_9 rfl ?_
    refine ev_cVi1 (pc := 10) dX7_step_10 mv_X7_isAsleep lk_RX7_250 rp_19 (ct_X7_isAsleep _ _ _ _ rfl e15) (Nat.le_of_ble_eq_true rfl) (Nat.le_of_ble_eq_true rfl) ?_
    by_cases b16 : t14 = 0
    · rw [if_pos b16] at h
      refine ev_if_eq_t (t := 19) (pc := 13) dX7_step_13 (by decide) b16 ?_
      obtain ⟨t17, e18, h⟩ := rb_bd h
      refine ev_aload_n (v := 19) (pc := 19) dX7_step_19 rfl ?_
      refine ev_iload_n (v := x0) (pc := 20) dX7_step_20 rfl ?_
      refine ev_cVi1 (pc := 21) dX7_step_21 mv_X7_isTask lk_RX7_284 rp_19 (ct_X7_isTask _ _ _ e18) (Nat.le_of_ble_eq_true rfl) (Nat.le_of_ble_eq_true rfl) ?_
      by_cases b19 : t17 = 0
      · rw [if_pos b19] at h
        refine ev_if_eq_t (t := 35) (pc := 24) dX7_step_24 (by decide) b19 ?_
        refine ev_bipush (v := (-4)) (pc := 35) dX7_step_35 kb_m4 ?_
        obtain rfl := Option.some.inj h
        exact ev_iret (pc := 37) dX7_step_37 rfl rfl rfl (hfin _ _ _ _ _ _ _ _ _)
      · rw [if_neg b19] at h
        refine ev_if_eq_f (t := 35) (pc := 24) dX7_step_24 (by decide) b19 ?_
        obtain ⟨t20, e21, h⟩ := rb_bd h
        refine ev_aload_n (v := 19) (pc := 27) dX7_step_27 rfl ?_
        refine ev_iload_n (v := x0) (pc := 28) dX7_step_28 rfl ?_
        refine ev_cVi1 (pc := 29) dX7_step_29 mv_X7_canStep lk_RX7_317 rp_19 (ct_X7_canStep _ _ _ _ rfl e21) (Nat.le_of_ble_eq_true rfl) (Nat.le_of_ble_eq_true rfl) ?_
        by_cases b22 : t20 = 0
        · rw [if_pos b22] at h
          refine ev_if_ne_f (t := 38) (pc := 32) dX7_step_32 (by decide) b22 ?_
          refine ev_bipush (v := (-4)) (pc := 35) dX7_step_35 kb_m4 ?_
          obtain rfl := Option.some.inj h
          exact ev_iret (pc := 37) dX7_step_37 rfl rfl rfl (hfin _ _ _ _ _ _ _ _ _)
        · rw [if_neg b22] at h
          refine ev_if_ne_t (t := 38) (pc := 32) dX7_step_32 (by decide) b22 ?_
          obtain ⟨t23, e24, h⟩ := rb_bd h
          obtain ⟨t25, e26, h⟩ := rb_bd h
          refine ev_aload_n (v := 19) (pc := 38) dX7_step_38 rfl ?_
          refine ev_cVv0w (w' := [(20, a), (21, rd), (22, ag), (19, t23.1), (23, na), (24, nb), (25, nl), (26, sv), (31, t23.2)]) (pc := 39) dX7_step_39 mv_X7_keepAct lk_RX7_101 rp_19 (ct_X7_keepAct _ _ _ _ _ rfl rfl rfl e24) (Nat.le_of_ble_eq_true rfl) (Nat.le_of_ble_eq_true rfl) rfl ?_
          refine ev_aload_n (v := 19) (pc := 42) dX7_step_42 rfl ?_
          refine ev_iload_n (v := x0) (pc := 43) dX7_step_43 rfl ?_
          refine ev_cVi1w (w' := [(20, t25.2.1), (21, t25.2.2.1), (22, t25.2.2.2.1), (19, t25.2.2.2.2.1), (23, t25.2.2.2.2.2.1), (24, t25.2.2.2.2.2.2.1), (25, t25.2.2.2.2.2.2.2.1), (26, t25.2.2.2.2.2.2.2.2.1), (31, t25.2.2.2.2.2.2.2.2.2)]) (pc := 44) dX7_step_44 mv_X7_goStep lk_RX7_320 rp_19 (ct_X7_goStep _ _ _ _ _ _ _ _ _ _ _ _ rfl rfl rfl rfl rfl rfl rfl rfl rfl e26) (Nat.le_of_ble_eq_true rfl) (Nat.le_of_ble_eq_true rfl) rfl ?_
          obtain rfl := Option.some.inj h
          exact ev_iret (pc := 47) dX7_step_47 rfl rfl rfl (hfin _ _ _ _ _ _ _ _ _)
    · rw [if_neg b16] at h
      refine ev_if_eq_f (t := 19) (pc := 13) dX7_step_13 (by decide) b16 ?_
      refine ev_bipush (v := (-3)) (pc := 16) dX7_step_16 kb_m3 ?_
      obtain rfl := Option.some.inj h
      exact ev_iret (pc := 18) dX7_step_18 rfl rfl rfl (hfin _ _ _ _ _ _ _ _ _)
def XX7_putAside (sd : rb_Row) (a : rb_Row) : Option (rb_Row) := (rb_lp (ρ := rb_Row) (fun (s1 : Int32 × rb_Row) => if 796 ≤ s1.1 then some (.inr s1.2) else (rb_rd a 796 s1.1).bind fun v10 => (rb_wr s1.2 796 s1.1 v10).bind fun sd12 => some (.inl ((s1.1 + 1), sd12))) 100000 (0, sd)).bind fun q2 => some q2
set_option maxHeartbeats 4000000 in
set_option maxRecDepth 20000 in
theorem ct_X7_putAside (μ : rb_Mem) (sd : rb_Row) (a : rb_Row) (o : rb_Row) (hsd : μ 29 = sd) (ha : μ 20 = a) (h : XX7_putAside sd a = some o) : rb_Ct yX7_putAside cX7_putAside 2 none 0 [.inr 19] μ none (rb_ov μ [(29, o)]) := by
  unfold XX7_putAside at h
  have hini : rb_ov μ [(29, sd), (20, a)] = μ := rb_ov_sf _ _ (And.intro hsd (And.intro ha True.intro))
  have hfin : ∀ u0 : rb_Row, rb_ov μ [(29, u0), (20, a)] = rb_ov μ [(29, u0)] := fun u0 => rb_ov_ap _ [(29, u0)] _ (And.intro ha True.intro)
  refine rb_ctv (w := [(29, sd), (20, a)]) rfl pn_7 (Nat.le_of_ble_eq_true rfl) rfl hini ?_
  refine ev_iconst (v := 0) (pc := 0) dX7_putAside_0 ki_0 ?_
  refine ev_istore_n (L' := [some (.inr 19), some (.inl 0)]) (pc := 1) dX7_putAside_1 (Nat.le_of_ble_eq_true rfl) rfl ?_
  obtain ⟨q2, l3, h⟩ := rb_bd h
  have hx7 : rb_Ev RX7 cX7_putAside 2 none none 0 none (rb_ov μ [(29, o)]) 27 [none, none] [] (rb_ov μ [(29, q2), (20, a)]) := by
    obtain rfl := Option.some.inj h
    exact ev_ret (pc := 27) dX7_putAside_27 rfl rfl (hfin _)
  refine rb_lp_ev (P := fun (s1 : Int32 × rb_Row) => rb_Ev RX7 cX7_putAside 2 none none 0 none (rb_ov μ [(29, o)]) 2 [some (.inr 19), some (.inl s1.1)] [] (rb_ov μ [(29, s1.2), (20, a)])) ?_ 100000 (0, sd) l3
  intro s1 y4 h ih5 hE6
  refine ev_iload_n (v := s1.1) (pc := 2) dX7_putAside_2 rfl ?_
  refine ev_sipush (v := 796) (pc := 3) dX7_putAside_3 ks_796 ?_
  by_cases b9 : 796 ≤ s1.1
  · rw [if_pos b9] at h
    refine ev_icmp_ge_t (t := 27) (pc := 6) dX7_putAside_6 (by decide) b9 ?_
    obtain rfl := Option.some.inj h
    obtain rfl := hE6 _ rfl
    exact ev_fg (L := [none, none]) True.intro (hx7)
  · rw [if_neg b9] at h
    refine ev_icmp_ge_f (t := 27) (pc := 6) dX7_putAside_6 (by decide) b9 ?_
    obtain ⟨v10, e11, h⟩ := rb_bd h
    obtain ⟨sd12, e13, h⟩ := rb_bd h
    refine ev_aload_n (v := 19) (pc := 9) dX7_putAside_9 rfl ?_
    refine ev_getr (q := 29) (pc := 10) dX7_putAside_10 fl_RX7_38 rfl rfl ?_
    refine ev_iload_n (v := s1.1) (pc := 13) dX7_putAside_13 rfl ?_
    refine ev_aload_n (v := 19) (pc := 14) dX7_putAside_14 rfl ?_
    refine ev_getr (q := 20) (pc := 15) dX7_putAside_15 fl_RX7_7 rfl rfl ?_
    refine ev_iload_n (v := s1.1) (pc := 18) dX7_putAside_18 rfl ?_
    refine ev_iald (pc := 19) dX7_putAside_19 rfl e11 ?_
    refine ev_iast (w' := [(29, sd12), (20, a)]) (pc := 20) dX7_putAside_20 rfl e13 rfl ?_
    refine ev_iinc (x := s1.1) (v := (s1.1 + 1)) (L' := [some (.inr 19), some (.inl (s1.1 + 1))]) (pc := 21) dX7_putAside_21 rfl (kx_1 _) (Nat.le_of_ble_eq_true rfl) rfl ?_
    refine ev_goto (t := 2) (pc := 24) dX7_putAside_24 (by decide) ?_
    obtain rfl := Option.some.inj h
    exact ih5 ((s1.1 + 1), sd12) rfl
def XX7_bringBack (a : rb_Row) (sd : rb_Row) : Option (rb_Row) := (rb_lp (ρ := rb_Row) (fun (s1 : Int32 × rb_Row) => if 796 ≤ s1.1 then some (.inr s1.2) else (rb_rd sd 796 s1.1).bind fun v10 => (rb_wr s1.2 796 s1.1 v10).bind fun a12 => some (.inl ((s1.1 + 1), a12))) 100000 (0, a)).bind fun q2 => some q2
set_option maxHeartbeats 4000000 in
set_option maxRecDepth 20000 in
theorem ct_X7_bringBack (μ : rb_Mem) (a : rb_Row) (sd : rb_Row) (o : rb_Row) (ha : μ 20 = a) (hsd : μ 29 = sd) (h : XX7_bringBack a sd = some o) : rb_Ct yX7_bringBack cX7_bringBack 2 none 0 [.inr 19] μ none (rb_ov μ [(20, o)]) := by
  unfold XX7_bringBack at h
  have hini : rb_ov μ [(20, a), (29, sd)] = μ := rb_ov_sf _ _ (And.intro ha (And.intro hsd True.intro))
  have hfin : ∀ u0 : rb_Row, rb_ov μ [(20, u0), (29, sd)] = rb_ov μ [(20, u0)] := fun u0 => rb_ov_ap _ [(20, u0)] _ (And.intro hsd True.intro)
  refine rb_ctv (w := [(20, a), (29, sd)]) rfl pn_7 (Nat.le_of_ble_eq_true rfl) rfl hini ?_
  refine ev_iconst (v := 0) (pc := 0) dX7_bringBack_0 ki_0 ?_
  refine ev_istore_n (L' := [some (.inr 19), some (.inl 0)]) (pc := 1) dX7_bringBack_1 (Nat.le_of_ble_eq_true rfl) rfl ?_
  obtain ⟨q2, l3, h⟩ := rb_bd h
  have hx7 : rb_Ev RX7 cX7_bringBack 2 none none 0 none (rb_ov μ [(20, o)]) 27 [none, none] [] (rb_ov μ [(20, q2), (29, sd)]) := by
    obtain rfl := Option.some.inj h
    exact ev_ret (pc := 27) dX7_bringBack_27 rfl rfl (hfin _)
  refine rb_lp_ev (P := fun (s1 : Int32 × rb_Row) => rb_Ev RX7 cX7_bringBack 2 none none 0 none (rb_ov μ [(20, o)]) 2 [some (.inr 19), some (.inl s1.1)] [] (rb_ov μ [(20, s1.2), (29, sd)])) ?_ 100000 (0, a) l3
  intro s1 y4 h ih5 hE6
  refine ev_iload_n (v := s1.1) (pc := 2) dX7_bringBack_2 rfl ?_
  refine ev_sipush (v := 796) (pc := 3) dX7_bringBack_3 ks_796 ?_
  by_cases b9 : 796 ≤ s1.1
  · rw [if_pos b9] at h
    refine ev_icmp_ge_t (t := 27) (pc := 6) dX7_bringBack_6 (by decide) b9 ?_
    obtain rfl := Option.some.inj h
    obtain rfl := hE6 _ rfl
    exact ev_fg (L := [none, none]) True.intro (hx7)
  · rw [if_neg b9] at h
    refine ev_icmp_ge_f (t := 27) (pc := 6) dX7_bringBack_6 (by decide) b9 ?_
    obtain ⟨v10, e11, h⟩ := rb_bd h
    obtain ⟨a12, e13, h⟩ := rb_bd h
    refine ev_aload_n (v := 19) (pc := 9) dX7_bringBack_9 rfl ?_
    refine ev_getr (q := 20) (pc := 10) dX7_bringBack_10 fl_RX7_7 rfl rfl ?_
    refine ev_iload_n (v := s1.1) (pc := 13) dX7_bringBack_13 rfl ?_
    refine ev_aload_n (v := 19) (pc := 14) dX7_bringBack_14 rfl ?_
    refine ev_getr (q := 29) (pc := 15) dX7_bringBack_15 fl_RX7_38 rfl rfl ?_
    refine ev_iload_n (v := s1.1) (pc := 18) dX7_bringBack_18 rfl ?_
    refine ev_iald (pc := 19) dX7_bringBack_19 rfl e11 ?_
    refine ev_iast (w' := [(20, a12), (29, sd)]) (pc := 20) dX7_bringBack_20 rfl e13 rfl ?_
    refine ev_iinc (x := s1.1) (v := (s1.1 + 1)) (L' := [some (.inr 19), some (.inl (s1.1 + 1))]) (pc := 21) dX7_bringBack_21 rfl (kx_1 _) (Nat.le_of_ble_eq_true rfl) rfl ?_
    refine ev_goto (t := 2) (pc := 24) dX7_bringBack_24 (by decide) ?_
    obtain rfl := Option.some.inj h
    exact ih5 ((s1.1 + 1), a12) rfl
def XX7_wakes (a : rb_Row) (rd : rb_Row) (ag : rb_Row) (mf : rb_Row) (na : rb_Row) (nb : rb_Row) (nl : rb_Row) (sv : rb_Row) (sd : rb_Row) (wa : rb_Row) (x0 : Int32) : Option (Int32 × rb_Row × rb_Row × rb_Row × rb_Row × rb_Row × rb_Row × rb_Row × rb_Row × rb_Row × rb_Row) := (XX7_isHandle a x0).bind fun t1 => if t1 = 0 then some ((-1), a, rd, ag, mf, na, nb, nl, sv, sd, wa) else (XX7_putAside sd a).bind fun t4 => (XX7_goWrite a rd ag mf na nb nl sv wa x0 1 0).bind fun t6 => (rb_lp (ρ := Int32) (fun (s8 : Int32 × Int32) => if 6 ≤ s8.2 then some (.inr s8.1) else if t6.1 ≤ 0 then some (.inr s8.1) else (XX7_ofTask t6.2.1 s8.2 6).bind fun t18 => (XX7_taskAt s8.2 6).bind fun t20 => (rb_rd t4 796 t20).bind fun v22 => ((if t18 ≤ v22 then some s8.1 else some (s8.1 ||| (1 <<< (s8.2 &&& 31)))) : Option (Int32)).bind fun j24 => some (.inl (j24, (s8.2 + 1)))) 100000 (0, 0)).bind fun q9 => (XX7_bringBack t6.2.1 t4).bind fun t28 => some (q9, t28, t6.2.2.1, t6.2.2.2.1, t6.2.2.2.2.1, t6.2.2.2.2.2.1, t6.2.2.2.2.2.2.1, t6.2.2.2.2.2.2.2.1, t6.2.2.2.2.2.2.2.2.1, t4, t6.2.2.2.2.2.2.2.2.2)
set_option maxHeartbeats 4000000 in
set_option maxRecDepth 20000 in
theorem ct_X7_wakes (μ : rb_Mem) (a : rb_Row) (rd : rb_Row) (ag : rb_Row) (mf : rb_Row) (na : rb_Row) (nb : rb_Row) (nl : rb_Row) (sv : rb_Row) (sd : rb_Row) (wa : rb_Row) (x0 : Int32) (o : Int32 × rb_Row × rb_Row × rb_Row × rb_Row × rb_Row × rb_Row × rb_Row × rb_Row × rb_Row × rb_Row) (ha : μ 20 = a) (hrd : μ 21 = rd) (hag : μ 22 = ag) (hmf : μ 19 = mf) (hna : μ 23 = na) (hnb : μ 24 = nb) (hnl : μ 25 = nl) (hsv : μ 26 = sv) (hsd : μ 29 = sd) (hwa : μ 31 = wa) (h : XX7_wakes a rd ag mf na nb nl sv sd wa x0 = some o) : rb_Ct yX7_wakes cX7_wakes 5 (some .int) 12 [.inr 19, .inl x0] μ (some o.1) (rb_ov μ [(20, o.2.1), (21, o.2.2.1), (22, o.2.2.2.1), (19, o.2.2.2.2.1), (23, o.2.2.2.2.2.1), (24, o.2.2.2.2.2.2.1), (25, o.2.2.2.2.2.2.2.1), (26, o.2.2.2.2.2.2.2.2.1), (29, o.2.2.2.2.2.2.2.2.2.1), (31, o.2.2.2.2.2.2.2.2.2.2)]) := by
  unfold XX7_wakes at h
  have hini : rb_ov μ [(20, a), (21, rd), (22, ag), (19, mf), (23, na), (24, nb), (25, nl), (26, sv), (29, sd), (31, wa)] = μ := rb_ov_sf _ _ (And.intro ha (And.intro hrd (And.intro hag (And.intro hmf (And.intro hna (And.intro hnb (And.intro hnl (And.intro hsv (And.intro hsd (And.intro hwa True.intro))))))))))
  have hfin : ∀ u0 u1 u2 u3 u4 u5 u6 u7 u8 u9 : rb_Row, rb_ov μ [(20, u0), (21, u1), (22, u2), (19, u3), (23, u4), (24, u5), (25, u6), (26, u7), (29, u8), (31, u9)] = rb_ov μ [(20, u0), (21, u1), (22, u2), (19, u3), (23, u4), (24, u5), (25, u6), (26, u7), (29, u8), (31, u9)] := fun u0 u1 u2 u3 u4 u5 u6 u7 u8 u9 => rfl
  refine rb_cti (w := [(20, a), (21, rd), (22, ag), (19, mf), (23, na), (24, nb), (25, nl), (26, sv), (29, sd), (31, wa)]) rfl pn_7 (Nat.le_of_ble_eq_true rfl) rfl hini ?_
  obtain ⟨t1, e2, h⟩ := rb_bd h
  refine ev_aload_n (v := 19) (pc := 0) dX7_wakes_0 rfl ?_
  refine ev_iload_n (v := x0) (pc := 1) dX7_wakes_1 rfl ?_
  refine ev_cVi1 (pc := 2) dX7_wakes_2 mv_X7_isHandle lk_RX7_73 rp_19 (ct_X7_isHandle _ _ _ _ rfl e2) (Nat.le_of_ble_eq_true rfl) (Nat.le_of_ble_eq_true rfl) ?_
  by_cases b3 : t1 = 0
  · rw [if_pos b3] at h
    refine ev_if_ne_f (t := 10) (pc := 5) dX7_wakes_5 (by decide) b3 ?_
    refine ev_iconst (v := (-1)) (pc := 8) dX7_wakes_8 ki_m1 ?_
    obtain rfl := Option.some.inj h
    exact ev_iret (pc := 9) dX7_wakes_9 rfl rfl rfl (hfin _ _ _ _ _ _ _ _ _ _)
  · rw [if_neg b3] at h
    refine ev_if_ne_t (t := 10) (pc := 5) dX7_wakes_5 (by decide) b3 ?_
    obtain ⟨t4, e5, h⟩ := rb_bd h
    obtain ⟨t6, e7, h⟩ := rb_bd h
    refine ev_aload_n (v := 19) (pc := 10) dX7_wakes_10 rfl ?_
    refine ev_cVv0w (w' := [(20, a), (21, rd), (22, ag), (19, mf), (23, na), (24, nb), (25, nl), (26, sv), (29, t4), (31, wa)]) (pc := 11) dX7_wakes_11 mv_X7_putAside lk_RX7_332 rp_19 (ct_X7_putAside _ _ _ _ rfl rfl e5) (Nat.le_of_ble_eq_true rfl) (Nat.le_of_ble_eq_true rfl) rfl ?_
    refine ev_aload_n (v := 19) (pc := 14) dX7_wakes_14 rfl ?_
    refine ev_iload_n (v := x0) (pc := 15) dX7_wakes_15 rfl ?_
    refine ev_iconst (v := 1) (pc := 16) dX7_wakes_16 ki_1 ?_
    refine ev_iconst (v := 0) (pc := 17) dX7_wakes_17 ki_0 ?_
    refine ev_cVi3w (w' := [(20, t6.2.1), (21, t6.2.2.1), (22, t6.2.2.2.1), (19, t6.2.2.2.2.1), (23, t6.2.2.2.2.2.1), (24, t6.2.2.2.2.2.2.1), (25, t6.2.2.2.2.2.2.2.1), (26, t6.2.2.2.2.2.2.2.2.1), (29, t4), (31, t6.2.2.2.2.2.2.2.2.2)]) (pc := 18) dX7_wakes_18 mv_X7_goWrite lk_RX7_241 rp_19 (ct_X7_goWrite _ _ _ _ _ _ _ _ _ _ _ _ _ _ rfl rfl rfl rfl rfl rfl rfl rfl rfl e7) (Nat.le_of_ble_eq_true rfl) (Nat.le_of_ble_eq_true rfl) rfl ?_
    refine ev_istore_n (L' := [some (.inr 19), some (.inl x0), some (.inl t6.1), none, none]) (pc := 21) dX7_wakes_21 (Nat.le_of_ble_eq_true rfl) rfl ?_
    refine ev_iconst (v := 0) (pc := 22) dX7_wakes_22 ki_0 ?_
    refine ev_istore_n (L' := [some (.inr 19), some (.inl x0), some (.inl t6.1), some (.inl 0), none]) (pc := 23) dX7_wakes_23 (Nat.le_of_ble_eq_true rfl) rfl ?_
    refine ev_iconst (v := 0) (pc := 24) dX7_wakes_24 ki_0 ?_
    refine ev_istore (L' := [some (.inr 19), some (.inl x0), some (.inl t6.1), some (.inl 0), some (.inl 0)]) (pc := 25) dX7_wakes_25 (Nat.le_of_ble_eq_true rfl) rfl ?_
    obtain ⟨q9, l10, h⟩ := rb_bd h
    have hx14 : rb_Ev RX7 cX7_wakes 5 (some .int) none 12 (some o.1) (rb_ov μ [(20, o.2.1), (21, o.2.2.1), (22, o.2.2.2.1), (19, o.2.2.2.2.1), (23, o.2.2.2.2.2.1), (24, o.2.2.2.2.2.2.1), (25, o.2.2.2.2.2.2.2.1), (26, o.2.2.2.2.2.2.2.2.1), (29, o.2.2.2.2.2.2.2.2.2.1), (31, o.2.2.2.2.2.2.2.2.2.2)]) 74 [some (.inr 19), none, none, some (.inl q9), none] [] (rb_ov μ [(20, t6.2.1), (21, t6.2.2.1), (22, t6.2.2.2.1), (19, t6.2.2.2.2.1), (23, t6.2.2.2.2.2.1), (24, t6.2.2.2.2.2.2.1), (25, t6.2.2.2.2.2.2.2.1), (26, t6.2.2.2.2.2.2.2.2.1), (29, t4), (31, t6.2.2.2.2.2.2.2.2.2)]) := by
      obtain ⟨t28, e29, h⟩ := rb_bd h
      refine ev_aload_n (v := 19) (pc := 74) dX7_wakes_74 rfl ?_
      refine ev_cVv0w (w' := [(20, t28), (21, t6.2.2.1), (22, t6.2.2.2.1), (19, t6.2.2.2.2.1), (23, t6.2.2.2.2.2.1), (24, t6.2.2.2.2.2.2.1), (25, t6.2.2.2.2.2.2.2.1), (26, t6.2.2.2.2.2.2.2.2.1), (29, t4), (31, t6.2.2.2.2.2.2.2.2.2)]) (pc := 75) dX7_wakes_75 mv_X7_bringBack lk_RX7_335 rp_19 (ct_X7_bringBack _ _ _ _ rfl rfl e29) (Nat.le_of_ble_eq_true rfl) (Nat.le_of_ble_eq_true rfl) rfl ?_
      refine ev_iload_n (v := q9) (pc := 78) dX7_wakes_78 rfl ?_
      obtain rfl := Option.some.inj h
      exact ev_iret (pc := 79) dX7_wakes_79 rfl rfl rfl (hfin _ _ _ _ _ _ _ _ _ _)
    refine ev_fg (L := [some (.inr 19), none, some (.inl t6.1), some (.inl 0), some (.inl 0)]) (And.intro rfl (And.intro rfl (And.intro rfl (And.intro rfl True.intro)))) ?_
    refine rb_lp_ev (P := fun (s8 : Int32 × Int32) => rb_Ev RX7 cX7_wakes 5 (some .int) none 12 (some o.1) (rb_ov μ [(20, o.2.1), (21, o.2.2.1), (22, o.2.2.2.1), (19, o.2.2.2.2.1), (23, o.2.2.2.2.2.1), (24, o.2.2.2.2.2.2.1), (25, o.2.2.2.2.2.2.2.1), (26, o.2.2.2.2.2.2.2.2.1), (29, o.2.2.2.2.2.2.2.2.2.1), (31, o.2.2.2.2.2.2.2.2.2.2)]) 27 [some (.inr 19), none, some (.inl t6.1), some (.inl s8.1), some (.inl s8.2)] [] (rb_ov μ [(20, t6.2.1), (21, t6.2.2.1), (22, t6.2.2.2.1), (19, t6.2.2.2.2.1), (23, t6.2.2.2.2.2.1), (24, t6.2.2.2.2.2.2.1), (25, t6.2.2.2.2.2.2.2.1), (26, t6.2.2.2.2.2.2.2.2.1), (29, t4), (31, t6.2.2.2.2.2.2.2.2.2)])) ?_ 100000 (0, 0) l10
    intro s8 y11 h ih12 hE13
    refine ev_iload (v := s8.2) (pc := 27) dX7_wakes_27 rfl ?_
    refine ev_bipush (v := 6) (pc := 29) dX7_wakes_29 kb_6 ?_
    by_cases b16 : 6 ≤ s8.2
    · rw [if_pos b16] at h
      refine ev_icmp_ge_t (t := 74) (pc := 31) dX7_wakes_31 (by decide) b16 ?_
      obtain rfl := Option.some.inj h
      obtain rfl := hE13 _ rfl
      exact ev_fg (L := [some (.inr 19), none, none, some (.inl s8.1), none]) (And.intro rfl (And.intro rfl True.intro)) (hx14)
    · rw [if_neg b16] at h
      refine ev_icmp_ge_f (t := 74) (pc := 31) dX7_wakes_31 (by decide) b16 ?_
      refine ev_iload_n (v := t6.1) (pc := 34) dX7_wakes_34 rfl ?_
      by_cases b17 : t6.1 ≤ 0
      · rw [if_pos b17] at h
        refine ev_if_le_t (t := 74) (pc := 35) dX7_wakes_35 (by decide) b17 ?_
        obtain rfl := Option.some.inj h
        obtain rfl := hE13 _ rfl
        exact ev_fg (L := [some (.inr 19), none, none, some (.inl s8.1), none]) (And.intro rfl (And.intro rfl True.intro)) (hx14)
      · rw [if_neg b17] at h
        refine ev_if_le_f (t := 74) (pc := 35) dX7_wakes_35 (by decide) b17 ?_
        obtain ⟨t18, e19, h⟩ := rb_bd h
        obtain ⟨t20, e21, h⟩ := rb_bd h
        obtain ⟨v22, e23, h⟩ := rb_bd h
        refine ev_aload_n (v := 19) (pc := 38) dX7_wakes_38 rfl ?_
        refine ev_iload (v := s8.2) (pc := 39) dX7_wakes_39 rfl ?_
        refine ev_bipush (v := 6) (pc := 41) dX7_wakes_41 kb_6 ?_
        refine ev_cVi2 (pc := 43) dX7_wakes_43 mv_X7_ofTask lk_RX7_84 rp_19 (ct_X7_ofTask _ _ _ _ _ rfl e19) (Nat.le_of_ble_eq_true rfl) (Nat.le_of_ble_eq_true rfl) ?_
        refine ev_aload_n (v := 19) (pc := 46) dX7_wakes_46 rfl ?_
        refine ev_getr (q := 29) (pc := 47) dX7_wakes_47 fl_RX7_38 rfl rfl ?_
        refine ev_iload (v := s8.2) (pc := 50) dX7_wakes_50 rfl ?_
        refine ev_bipush (v := 6) (pc := 52) dX7_wakes_52 kb_6 ?_
        refine ev_cSi2 (pc := 54) dX7_wakes_54 ms_X7_taskAt lk_RX7_63 (ct_X7_taskAt _ _ _ _ e21) (Nat.le_of_ble_eq_true rfl) (Nat.le_of_ble_eq_true rfl) ?_
        refine ev_iald (pc := 57) dX7_wakes_57 rfl e23 ?_
        obtain ⟨j24, e25, h⟩ := rb_bd h
        have hj26 : rb_Ev RX7 cX7_wakes 5 (some .int) none 12 (some o.1) (rb_ov μ [(20, o.2.1), (21, o.2.2.1), (22, o.2.2.2.1), (19, o.2.2.2.2.1), (23, o.2.2.2.2.2.1), (24, o.2.2.2.2.2.2.1), (25, o.2.2.2.2.2.2.2.1), (26, o.2.2.2.2.2.2.2.2.1), (29, o.2.2.2.2.2.2.2.2.2.1), (31, o.2.2.2.2.2.2.2.2.2.2)]) 68 [some (.inr 19), none, some (.inl t6.1), some (.inl j24), some (.inl s8.2)] [] (rb_ov μ [(20, t6.2.1), (21, t6.2.2.1), (22, t6.2.2.2.1), (19, t6.2.2.2.2.1), (23, t6.2.2.2.2.2.1), (24, t6.2.2.2.2.2.2.1), (25, t6.2.2.2.2.2.2.2.1), (26, t6.2.2.2.2.2.2.2.2.1), (29, t4), (31, t6.2.2.2.2.2.2.2.2.2)]) := by
          refine ev_iinc (x := s8.2) (v := (s8.2 + 1)) (L' := [some (.inr 19), none, some (.inl t6.1), some (.inl j24), some (.inl (s8.2 + 1))]) (pc := 68) dX7_wakes_68 rfl (kx_1 _) (Nat.le_of_ble_eq_true rfl) rfl ?_
          refine ev_goto (t := 27) (pc := 71) dX7_wakes_71 (by decide) ?_
          obtain rfl := Option.some.inj h
          exact ih12 (j24, (s8.2 + 1)) rfl
        replace h := e25
        by_cases b27 : t18 ≤ v22
        · rw [if_pos b27] at h
          refine ev_icmp_le_t (t := 68) (pc := 58) dX7_wakes_58 (by decide) b27 ?_
          obtain rfl := Option.some.inj h
          exact hj26
        · rw [if_neg b27] at h
          refine ev_icmp_le_f (t := 68) (pc := 58) dX7_wakes_58 (by decide) b27 ?_
          refine ev_iload_n (v := s8.1) (pc := 61) dX7_wakes_61 rfl ?_
          refine ev_iconst (v := 1) (pc := 62) dX7_wakes_62 ki_1 ?_
          refine ev_iload (v := s8.2) (pc := 63) dX7_wakes_63 rfl ?_
          refine ev_ishl (pc := 65) dX7_wakes_65 ?_
          refine ev_ior (pc := 66) dX7_wakes_66 ?_
          refine ev_istore_n (L' := [some (.inr 19), none, some (.inl t6.1), some (.inl (s8.1 ||| (1 <<< (s8.2 &&& 31)))), some (.inl s8.2)]) (pc := 67) dX7_wakes_67 (Nat.le_of_ble_eq_true rfl) rfl ?_
          obtain rfl := Option.some.inj h
          exact hj26
def XX7_asleepNow (a : rb_Row) : Option (Int32) := (rb_lp (ρ := Int32) (fun (s1 : Int32 × Int32) => if 6 ≤ s1.2 then some (.inr s1.1) else (XX7_isAsleep a s1.2).bind fun t10 => ((if t10 = 0 then some s1.1 else some (s1.1 ||| (1 <<< (s1.2 &&& 31)))) : Option (Int32)).bind fun j12 => some (.inl (j12, (s1.2 + 1)))) 100000 (0, 0)).bind fun q2 => some q2
set_option maxHeartbeats 4000000 in
set_option maxRecDepth 20000 in
theorem ct_X7_asleepNow (μ : rb_Mem) (a : rb_Row) (o : Int32) (ha : μ 20 = a) (h : XX7_asleepNow a = some o) : rb_Ct yX7_asleepNow cX7_asleepNow 3 (some .int) 3 [.inr 19] μ (some o) μ := by
  unfold XX7_asleepNow at h
  have hini : rb_ov μ [(20, a)] = μ := rb_ov_sf _ _ (And.intro ha True.intro)
  have hfin := hini
  refine rb_cti (w := [(20, a)]) rfl pn_7 (Nat.le_of_ble_eq_true rfl) rfl hini ?_
  refine ev_iconst (v := 0) (pc := 0) dX7_asleepNow_0 ki_0 ?_
  refine ev_istore_n (L' := [some (.inr 19), some (.inl 0), none]) (pc := 1) dX7_asleepNow_1 (Nat.le_of_ble_eq_true rfl) rfl ?_
  refine ev_iconst (v := 0) (pc := 2) dX7_asleepNow_2 ki_0 ?_
  refine ev_istore_n (L' := [some (.inr 19), some (.inl 0), some (.inl 0)]) (pc := 3) dX7_asleepNow_3 (Nat.le_of_ble_eq_true rfl) rfl ?_
  obtain ⟨q2, l3, h⟩ := rb_bd h
  have hx7 : rb_Ev RX7 cX7_asleepNow 3 (some .int) none 3 (some o) μ 30 [none, some (.inl q2), none] [] (rb_ov μ [(20, a)]) := by
    refine ev_iload_n (v := q2) (pc := 30) dX7_asleepNow_30 rfl ?_
    obtain rfl := Option.some.inj h
    exact ev_iret (pc := 31) dX7_asleepNow_31 rfl rfl rfl hfin
  refine rb_lp_ev (P := fun (s1 : Int32 × Int32) => rb_Ev RX7 cX7_asleepNow 3 (some .int) none 3 (some o) μ 4 [some (.inr 19), some (.inl s1.1), some (.inl s1.2)] [] (rb_ov μ [(20, a)])) ?_ 100000 (0, 0) l3
  intro s1 y4 h ih5 hE6
  refine ev_iload_n (v := s1.2) (pc := 4) dX7_asleepNow_4 rfl ?_
  refine ev_bipush (v := 6) (pc := 5) dX7_asleepNow_5 kb_6 ?_
  by_cases b9 : 6 ≤ s1.2
  · rw [if_pos b9] at h
    refine ev_icmp_ge_t (t := 30) (pc := 7) dX7_asleepNow_7 (by decide) b9 ?_
    obtain rfl := Option.some.inj h
    obtain rfl := hE6 _ rfl
    exact ev_fg (L := [none, some (.inl s1.1), none]) (And.intro rfl True.intro) (hx7)
  · rw [if_neg b9] at h
    refine ev_icmp_ge_f (t := 30) (pc := 7) dX7_asleepNow_7 (by decide) b9 ?_
    obtain ⟨t10, e11, h⟩ := rb_bd h
    refine ev_aload_n (v := 19) (pc := 10) dX7_asleepNow_10 rfl ?_
    refine ev_iload_n (v := s1.2) (pc := 11) dX7_asleepNow_11 rfl ?_
    refine ev_cVi1 (pc := 12) dX7_asleepNow_12 mv_X7_isAsleep lk_RX7_250 rp_19 (ct_X7_isAsleep _ _ _ _ rfl e11) (Nat.le_of_ble_eq_true rfl) (Nat.le_of_ble_eq_true rfl) ?_
    obtain ⟨j12, e13, h⟩ := rb_bd h
    have hj14 : rb_Ev RX7 cX7_asleepNow 3 (some .int) none 3 (some o) μ 24 [some (.inr 19), some (.inl j12), some (.inl s1.2)] [] (rb_ov μ [(20, a)]) := by
      refine ev_iinc (x := s1.2) (v := (s1.2 + 1)) (L' := [some (.inr 19), some (.inl j12), some (.inl (s1.2 + 1))]) (pc := 24) dX7_asleepNow_24 rfl (kx_1 _) (Nat.le_of_ble_eq_true rfl) rfl ?_
      refine ev_goto (t := 4) (pc := 27) dX7_asleepNow_27 (by decide) ?_
      obtain rfl := Option.some.inj h
      exact ih5 (j12, (s1.2 + 1)) rfl
    replace h := e13
    by_cases b15 : t10 = 0
    · rw [if_pos b15] at h
      refine ev_if_eq_t (t := 24) (pc := 15) dX7_asleepNow_15 (by decide) b15 ?_
      obtain rfl := Option.some.inj h
      exact hj14
    · rw [if_neg b15] at h
      refine ev_if_eq_f (t := 24) (pc := 15) dX7_asleepNow_15 (by decide) b15 ?_
      refine ev_iload_n (v := s1.1) (pc := 18) dX7_asleepNow_18 rfl ?_
      refine ev_iconst (v := 1) (pc := 19) dX7_asleepNow_19 ki_1 ?_
      refine ev_iload_n (v := s1.2) (pc := 20) dX7_asleepNow_20 rfl ?_
      refine ev_ishl (pc := 21) dX7_asleepNow_21 ?_
      refine ev_ior (pc := 22) dX7_asleepNow_22 ?_
      refine ev_istore_n (L' := [some (.inr 19), some (.inl (s1.1 ||| (1 <<< (s1.2 &&& 31)))), some (.inl s1.2)]) (pc := 23) dX7_asleepNow_23 (Nat.le_of_ble_eq_true rfl) rfl ?_
      obtain rfl := Option.some.inj h
      exact hj14
def XX7_stuck (a : rb_Row) (rd : rb_Row) (ag : rb_Row) (mf : rb_Row) (na : rb_Row) (nb : rb_Row) (nl : rb_Row) (sv : rb_Row) (sd : rb_Row) (wa : rb_Row) : Option (Int32 × rb_Row × rb_Row × rb_Row × rb_Row × rb_Row × rb_Row × rb_Row × rb_Row × rb_Row × rb_Row) := (XX7_putAside sd a).bind fun t1 => (rb_lp (ρ := Int32 × rb_Row × rb_Row × rb_Row × rb_Row × rb_Row × rb_Row × rb_Row × rb_Row × rb_Row) (fun (s3 : Int32 × Int32 × rb_Row × rb_Row × rb_Row × rb_Row × rb_Row × rb_Row × rb_Row × rb_Row × rb_Row) => if 60 ≤ s3.2.1 then some (.inr (s3.1, s3.2.2.1, s3.2.2.2.1, s3.2.2.2.2.1, s3.2.2.2.2.2.1, s3.2.2.2.2.2.2.1, s3.2.2.2.2.2.2.2.1, s3.2.2.2.2.2.2.2.2.1, s3.2.2.2.2.2.2.2.2.2.1, s3.2.2.2.2.2.2.2.2.2.2)) else (XX7_goRoundOnce s3.2.2.1 s3.2.2.2.1 s3.2.2.2.2.1 s3.2.2.2.2.2.1 s3.2.2.2.2.2.2.1 s3.2.2.2.2.2.2.2.1 s3.2.2.2.2.2.2.2.2.1 s3.2.2.2.2.2.2.2.2.2.1 s3.2.2.2.2.2.2.2.2.2.2).bind fun t12 => (rb_rd t12.2.1 796 794).bind fun v14 => ((if 100000 ≤ v14 then some (t12.2.1, t12.2.2.1, t12.2.2.2.1, t12.2.2.2.2.1, t12.2.2.2.2.2.1, t12.2.2.2.2.2.2.1, t12.2.2.2.2.2.2.2.1, t12.2.2.2.2.2.2.2.2.1) else (XX7_tickOnce t12.2.1 t12.2.2.1 t12.2.2.2.1 t12.2.2.2.2.1 t12.2.2.2.2.2.1 t12.2.2.2.2.2.2.1 t12.2.2.2.2.2.2.2.1 t12.2.2.2.2.2.2.2.2.1).bind fun t20 => some (t20.1, t20.2.1, t20.2.2.1, t20.2.2.2.1, t20.2.2.2.2.1, t20.2.2.2.2.2.1, t20.2.2.2.2.2.2.1, t20.2.2.2.2.2.2.2)) : Option (rb_Row × rb_Row × rb_Row × rb_Row × rb_Row × rb_Row × rb_Row × rb_Row)).bind fun j16 => some (.inl ((s3.1 + t12.1), (s3.2.1 + 1), j16.1, j16.2.1, j16.2.2.1, j16.2.2.2.1, j16.2.2.2.2.1, j16.2.2.2.2.2.1, j16.2.2.2.2.2.2.1, j16.2.2.2.2.2.2.2, t12.2.2.2.2.2.2.2.2.2))) 100000 (0, 0, a, rd, ag, mf, na, nb, nl, sv, wa)).bind fun q4 => ((if 0 ≤ q4.1 then (XX7_asleepNow q4.2.1).bind fun t26 => some t26 else some 0) : Option (Int32)).bind fun j22 => (XX7_bringBack q4.2.1 t1).bind fun t28 => some (j22, t28, q4.2.2.1, q4.2.2.2.1, q4.2.2.2.2.1, q4.2.2.2.2.2.1, q4.2.2.2.2.2.2.1, q4.2.2.2.2.2.2.2.1, q4.2.2.2.2.2.2.2.2.1, t1, q4.2.2.2.2.2.2.2.2.2)
set_option maxHeartbeats 4000000 in
set_option maxRecDepth 20000 in
theorem ct_X7_stuck (μ : rb_Mem) (a : rb_Row) (rd : rb_Row) (ag : rb_Row) (mf : rb_Row) (na : rb_Row) (nb : rb_Row) (nl : rb_Row) (sv : rb_Row) (sd : rb_Row) (wa : rb_Row) (o : Int32 × rb_Row × rb_Row × rb_Row × rb_Row × rb_Row × rb_Row × rb_Row × rb_Row × rb_Row × rb_Row) (ha : μ 20 = a) (hrd : μ 21 = rd) (hag : μ 22 = ag) (hmf : μ 19 = mf) (hna : μ 23 = na) (hnb : μ 24 = nb) (hnl : μ 25 = nl) (hsv : μ 26 = sv) (hsd : μ 29 = sd) (hwa : μ 31 = wa) (h : XX7_stuck a rd ag mf na nb nl sv sd wa = some o) : rb_Ct yX7_stuck cX7_stuck 3 (some .int) 16 [.inr 19] μ (some o.1) (rb_ov μ [(20, o.2.1), (21, o.2.2.1), (22, o.2.2.2.1), (19, o.2.2.2.2.1), (23, o.2.2.2.2.2.1), (24, o.2.2.2.2.2.2.1), (25, o.2.2.2.2.2.2.2.1), (26, o.2.2.2.2.2.2.2.2.1), (29, o.2.2.2.2.2.2.2.2.2.1), (31, o.2.2.2.2.2.2.2.2.2.2)]) := by
  unfold XX7_stuck at h
  have hini : rb_ov μ [(20, a), (21, rd), (22, ag), (19, mf), (23, na), (24, nb), (25, nl), (26, sv), (29, sd), (31, wa)] = μ := rb_ov_sf _ _ (And.intro ha (And.intro hrd (And.intro hag (And.intro hmf (And.intro hna (And.intro hnb (And.intro hnl (And.intro hsv (And.intro hsd (And.intro hwa True.intro))))))))))
  have hfin : ∀ u0 u1 u2 u3 u4 u5 u6 u7 u8 u9 : rb_Row, rb_ov μ [(20, u0), (21, u1), (22, u2), (19, u3), (23, u4), (24, u5), (25, u6), (26, u7), (29, u8), (31, u9)] = rb_ov μ [(20, u0), (21, u1), (22, u2), (19, u3), (23, u4), (24, u5), (25, u6), (26, u7), (29, u8), (31, u9)] := fun u0 u1 u2 u3 u4 u5 u6 u7 u8 u9 => rfl
  refine rb_cti (w := [(20, a), (21, rd), (22, ag), (19, mf), (23, na), (24, nb), (25, nl), (26, sv), (29, sd), (31, wa)]) rfl pn_7 (Nat.le_of_ble_eq_true rfl) rfl hini ?_
  obtain ⟨t1, e2, h⟩ := rb_bd h
  refine ev_aload_n (v := 19) (pc := 0) dX7_stuck_0 rfl ?_
  refine ev_cVv0w (w' := [(20, a), (21, rd), (22, ag), (19, mf), (23, na), (24, nb), (25, nl), (26, sv), (29, t1), (31, wa)]) (pc := 1) dX7_stuck_1 mv_X7_putAside lk_RX7_332 rp_19 (ct_X7_putAside _ _ _ _ rfl rfl e2) (Nat.le_of_ble_eq_true rfl) (Nat.le_of_ble_eq_true rfl) rfl ?_
  refine ev_iconst (v := 0) (pc := 4) dX7_stuck_4 ki_0 ?_
  refine ev_istore_n (L' := [some (.inr 19), some (.inl 0), none]) (pc := 5) dX7_stuck_5 (Nat.le_of_ble_eq_true rfl) rfl ?_
  refine ev_iconst (v := 0) (pc := 6) dX7_stuck_6 ki_0 ?_
  refine ev_istore_n (L' := [some (.inr 19), some (.inl 0), some (.inl 0)]) (pc := 7) dX7_stuck_7 (Nat.le_of_ble_eq_true rfl) rfl ?_
  obtain ⟨q4, l5, h⟩ := rb_bd h
  have hx9 : rb_Ev RX7 cX7_stuck 3 (some .int) none 16 (some o.1) (rb_ov μ [(20, o.2.1), (21, o.2.2.1), (22, o.2.2.2.1), (19, o.2.2.2.2.1), (23, o.2.2.2.2.2.1), (24, o.2.2.2.2.2.2.1), (25, o.2.2.2.2.2.2.2.1), (26, o.2.2.2.2.2.2.2.2.1), (29, o.2.2.2.2.2.2.2.2.2.1), (31, o.2.2.2.2.2.2.2.2.2.2)]) 44 [some (.inr 19), some (.inl q4.1), none] [] (rb_ov μ [(20, q4.2.1), (21, q4.2.2.1), (22, q4.2.2.2.1), (19, q4.2.2.2.2.1), (23, q4.2.2.2.2.2.1), (24, q4.2.2.2.2.2.2.1), (25, q4.2.2.2.2.2.2.2.1), (26, q4.2.2.2.2.2.2.2.2.1), (29, t1), (31, q4.2.2.2.2.2.2.2.2.2)]) := by
    refine ev_iload_n (v := q4.1) (pc := 44) dX7_stuck_44 rfl ?_
    obtain ⟨j22, e23, h⟩ := rb_bd h
    have hj24 : rb_Ev RX7 cX7_stuck 3 (some .int) none 16 (some o.1) (rb_ov μ [(20, o.2.1), (21, o.2.2.1), (22, o.2.2.2.1), (19, o.2.2.2.2.1), (23, o.2.2.2.2.2.1), (24, o.2.2.2.2.2.2.1), (25, o.2.2.2.2.2.2.2.1), (26, o.2.2.2.2.2.2.2.2.1), (29, o.2.2.2.2.2.2.2.2.2.1), (31, o.2.2.2.2.2.2.2.2.2.2)]) 56 [some (.inr 19), none, none] [.inl j22] (rb_ov μ [(20, q4.2.1), (21, q4.2.2.1), (22, q4.2.2.2.1), (19, q4.2.2.2.2.1), (23, q4.2.2.2.2.2.1), (24, q4.2.2.2.2.2.2.1), (25, q4.2.2.2.2.2.2.2.1), (26, q4.2.2.2.2.2.2.2.2.1), (29, t1), (31, q4.2.2.2.2.2.2.2.2.2)]) := by
      obtain ⟨t28, e29, h⟩ := rb_bd h
      refine ev_istore_n (L' := [some (.inr 19), none, some (.inl j22)]) (pc := 56) dX7_stuck_56 (Nat.le_of_ble_eq_true rfl) rfl ?_
      refine ev_aload_n (v := 19) (pc := 57) dX7_stuck_57 rfl ?_
      refine ev_cVv0w (w' := [(20, t28), (21, q4.2.2.1), (22, q4.2.2.2.1), (19, q4.2.2.2.2.1), (23, q4.2.2.2.2.2.1), (24, q4.2.2.2.2.2.2.1), (25, q4.2.2.2.2.2.2.2.1), (26, q4.2.2.2.2.2.2.2.2.1), (29, t1), (31, q4.2.2.2.2.2.2.2.2.2)]) (pc := 58) dX7_stuck_58 mv_X7_bringBack lk_RX7_335 rp_19 (ct_X7_bringBack _ _ _ _ rfl rfl e29) (Nat.le_of_ble_eq_true rfl) (Nat.le_of_ble_eq_true rfl) rfl ?_
      refine ev_iload_n (v := j22) (pc := 61) dX7_stuck_61 rfl ?_
      obtain rfl := Option.some.inj h
      exact ev_iret (pc := 62) dX7_stuck_62 rfl rfl rfl (hfin _ _ _ _ _ _ _ _ _ _)
    replace h := e23
    by_cases b25 : 0 ≤ q4.1
    · rw [if_pos b25] at h
      refine ev_if_ge_t (t := 52) (pc := 45) dX7_stuck_45 (by decide) b25 ?_
      obtain ⟨t26, e27, h⟩ := rb_bd h
      refine ev_aload_n (v := 19) (pc := 52) dX7_stuck_52 rfl ?_
      refine ev_cVi0 (pc := 53) dX7_stuck_53 mv_X7_asleepNow lk_RX7_338 rp_19 (ct_X7_asleepNow _ _ _ rfl e27) (Nat.le_of_ble_eq_true rfl) (Nat.le_of_ble_eq_true rfl) ?_
      obtain rfl := Option.some.inj h
      exact ev_fg (L := [some (.inr 19), none, none]) (And.intro rfl True.intro) (hj24)
    · rw [if_neg b25] at h
      refine ev_if_ge_f (t := 52) (pc := 45) dX7_stuck_45 (by decide) b25 ?_
      refine ev_iconst (v := 0) (pc := 48) dX7_stuck_48 ki_0 ?_
      refine ev_goto (t := 56) (pc := 49) dX7_stuck_49 (by decide) ?_
      obtain rfl := Option.some.inj h
      exact ev_fg (L := [some (.inr 19), none, none]) (And.intro rfl True.intro) (hj24)
  refine rb_lp_ev (P := fun (s3 : Int32 × Int32 × rb_Row × rb_Row × rb_Row × rb_Row × rb_Row × rb_Row × rb_Row × rb_Row × rb_Row) => rb_Ev RX7 cX7_stuck 3 (some .int) none 16 (some o.1) (rb_ov μ [(20, o.2.1), (21, o.2.2.1), (22, o.2.2.2.1), (19, o.2.2.2.2.1), (23, o.2.2.2.2.2.1), (24, o.2.2.2.2.2.2.1), (25, o.2.2.2.2.2.2.2.1), (26, o.2.2.2.2.2.2.2.2.1), (29, o.2.2.2.2.2.2.2.2.2.1), (31, o.2.2.2.2.2.2.2.2.2.2)]) 8 [some (.inr 19), some (.inl s3.1), some (.inl s3.2.1)] [] (rb_ov μ [(20, s3.2.2.1), (21, s3.2.2.2.1), (22, s3.2.2.2.2.1), (19, s3.2.2.2.2.2.1), (23, s3.2.2.2.2.2.2.1), (24, s3.2.2.2.2.2.2.2.1), (25, s3.2.2.2.2.2.2.2.2.1), (26, s3.2.2.2.2.2.2.2.2.2.1), (29, t1), (31, s3.2.2.2.2.2.2.2.2.2.2)])) ?_ 100000 (0, 0, a, rd, ag, mf, na, nb, nl, sv, wa) l5
  intro s3 y6 h ih7 hE8
  refine ev_iload_n (v := s3.2.1) (pc := 8) dX7_stuck_8 rfl ?_
  refine ev_bipush (v := 60) (pc := 9) dX7_stuck_9 kb_60 ?_
  by_cases b11 : 60 ≤ s3.2.1
  · rw [if_pos b11] at h
    refine ev_icmp_ge_t (t := 44) (pc := 11) dX7_stuck_11 (by decide) b11 ?_
    obtain rfl := Option.some.inj h
    obtain rfl := hE8 _ rfl
    exact ev_fg (L := [some (.inr 19), some (.inl s3.1), none]) (And.intro rfl (And.intro rfl True.intro)) (hx9)
  · rw [if_neg b11] at h
    refine ev_icmp_ge_f (t := 44) (pc := 11) dX7_stuck_11 (by decide) b11 ?_
    obtain ⟨t12, e13, h⟩ := rb_bd h
    obtain ⟨v14, e15, h⟩ := rb_bd h
    refine ev_iload_n (v := s3.1) (pc := 14) dX7_stuck_14 rfl ?_
    refine ev_aload_n (v := 19) (pc := 15) dX7_stuck_15 rfl ?_
    refine ev_cVi0w (w' := [(20, t12.2.1), (21, t12.2.2.1), (22, t12.2.2.2.1), (19, t12.2.2.2.2.1), (23, t12.2.2.2.2.2.1), (24, t12.2.2.2.2.2.2.1), (25, t12.2.2.2.2.2.2.2.1), (26, t12.2.2.2.2.2.2.2.2.1), (29, t1), (31, t12.2.2.2.2.2.2.2.2.2)]) (pc := 16) dX7_stuck_16 mv_X7_goRoundOnce lk_RX7_326 rp_19 (ct_X7_goRoundOnce _ _ _ _ _ _ _ _ _ _ _ rfl rfl rfl rfl rfl rfl rfl rfl rfl e13) (Nat.le_of_ble_eq_true rfl) (Nat.le_of_ble_eq_true rfl) rfl ?_
    refine ev_iadd (pc := 19) dX7_stuck_19 ?_
    refine ev_istore_n (L' := [some (.inr 19), some (.inl (s3.1 + t12.1)), some (.inl s3.2.1)]) (pc := 20) dX7_stuck_20 (Nat.le_of_ble_eq_true rfl) rfl ?_
    refine ev_aload_n (v := 19) (pc := 21) dX7_stuck_21 rfl ?_
    refine ev_getr (q := 20) (pc := 22) dX7_stuck_22 fl_RX7_7 rfl rfl ?_
    refine ev_sipush (v := 794) (pc := 25) dX7_stuck_25 ks_794 ?_
    refine ev_iald (pc := 28) dX7_stuck_28 rfl e15 ?_
    refine ev_ldc (v := 100000) (pc := 29) dX7_stuck_29 kc_RX7_253 ?_
    obtain ⟨j16, e17, h⟩ := rb_bd h
    have hj18 : rb_Ev RX7 cX7_stuck 3 (some .int) none 16 (some o.1) (rb_ov μ [(20, o.2.1), (21, o.2.2.1), (22, o.2.2.2.1), (19, o.2.2.2.2.1), (23, o.2.2.2.2.2.1), (24, o.2.2.2.2.2.2.1), (25, o.2.2.2.2.2.2.2.1), (26, o.2.2.2.2.2.2.2.2.1), (29, o.2.2.2.2.2.2.2.2.2.1), (31, o.2.2.2.2.2.2.2.2.2.2)]) 38 [some (.inr 19), some (.inl (s3.1 + t12.1)), some (.inl s3.2.1)] [] (rb_ov μ [(20, j16.1), (21, j16.2.1), (22, j16.2.2.1), (19, j16.2.2.2.1), (23, j16.2.2.2.2.1), (24, j16.2.2.2.2.2.1), (25, j16.2.2.2.2.2.2.1), (26, j16.2.2.2.2.2.2.2), (29, t1), (31, t12.2.2.2.2.2.2.2.2.2)]) := by
      refine ev_iinc (x := s3.2.1) (v := (s3.2.1 + 1)) (L' := [some (.inr 19), some (.inl (s3.1 + t12.1)), some (.inl (s3.2.1 + 1))]) (pc := 38) dX7_stuck_38 rfl (kx_1 _) (Nat.le_of_ble_eq_true rfl) rfl ?_
      refine ev_goto (t := 8) (pc := 41) dX7_stuck_41 (by decide) ?_
      obtain rfl := Option.some.inj h
      exact ih7 ((s3.1 + t12.1), (s3.2.1 + 1), j16.1, j16.2.1, j16.2.2.1, j16.2.2.2.1, j16.2.2.2.2.1, j16.2.2.2.2.2.1, j16.2.2.2.2.2.2.1, j16.2.2.2.2.2.2.2, t12.2.2.2.2.2.2.2.2.2) rfl
    replace h := e17
    by_cases b19 : 100000 ≤ v14
    · rw [if_pos b19] at h
      refine ev_icmp_ge_t (t := 38) (pc := 31) dX7_stuck_31 (by decide) b19 ?_
      obtain rfl := Option.some.inj h
      exact hj18
    · rw [if_neg b19] at h
      refine ev_icmp_ge_f (t := 38) (pc := 31) dX7_stuck_31 (by decide) b19 ?_
      obtain ⟨t20, e21, h⟩ := rb_bd h
      refine ev_aload_n (v := 19) (pc := 34) dX7_stuck_34 rfl ?_
      refine ev_cVv0w (w' := [(20, t20.1), (21, t20.2.1), (22, t20.2.2.1), (19, t20.2.2.2.1), (23, t20.2.2.2.2.1), (24, t20.2.2.2.2.2.1), (25, t20.2.2.2.2.2.2.1), (26, t20.2.2.2.2.2.2.2), (29, t1), (31, t12.2.2.2.2.2.2.2.2.2)]) (pc := 35) dX7_stuck_35 mv_X7_tickOnce lk_RX7_254 rp_19 (ct_X7_tickOnce _ _ _ _ _ _ _ _ _ _ rfl rfl rfl rfl rfl rfl rfl rfl e21) (Nat.le_of_ble_eq_true rfl) (Nat.le_of_ble_eq_true rfl) rfl ?_
      obtain rfl := Option.some.inj h
      exact hj18
def XX7_wasWoken (a : rb_Row) (sd : rb_Row) (x0 : Int32) : Option (Int32) := (rb_lp (ρ := (Unit) ⊕ (Int32)) (fun (s1 : Int32) => if 6 ≤ s1 then some (.inr (.inl ())) else (XX7_taskAt s1 0).bind fun t11 => (rb_rd sd 796 t11).bind fun v13 => if v13 = x0 then (XX7_ofTask a s1 6).bind fun t16 => (XX7_ofTask a s1 7).bind fun t18 => (XX7_taskAt s1 6).bind fun t20 => (rb_rd sd 796 t20).bind fun v22 => (XX7_taskAt s1 7).bind fun t24 => (rb_rd sd 796 t24).bind fun v26 => if (t16 + t18) ≤ (v22 + v26) then some (.inl (s1 + 1)) else some (.inr (.inr (rb_nz 1))) else some (.inl (s1 + 1))) 100000 0).bind fun q2 => Sum.elim (fun (z9 : Unit) => some (rb_nz 0)) (fun (w29 : Int32) => some w29) q2
set_option maxHeartbeats 4000000 in
set_option maxRecDepth 20000 in
theorem ct_X7_wasWoken (μ : rb_Mem) (a : rb_Row) (sd : rb_Row) (x0 : Int32) (o : Int32) (ha : μ 20 = a) (hsd : μ 29 = sd) (h : XX7_wasWoken a sd x0 = some o) : rb_Ct yX7_wasWoken cX7_wasWoken 3 (some .boolean) 2 [.inr 19, .inl x0] μ (some o) μ := by
  unfold XX7_wasWoken at h
  have hini : rb_ov μ [(20, a), (29, sd)] = μ := rb_ov_sf _ _ (And.intro ha (And.intro hsd True.intro))
  have hfin := hini
  refine rb_ctz (w := [(20, a), (29, sd)]) rfl pn_7 (Nat.le_of_ble_eq_true rfl) rfl hini ?_
  refine ev_iconst (v := 0) (pc := 0) dX7_wasWoken_0 ki_0 ?_
  refine ev_istore_n (L' := [some (.inr 19), some (.inl x0), some (.inl 0)]) (pc := 1) dX7_wasWoken_1 (Nat.le_of_ble_eq_true rfl) rfl ?_
  obtain ⟨q2, l3, h⟩ := rb_bd h
  have hx7 : ∀ z9 : Unit, q2 = .inl z9 → rb_Ev RX7 cX7_wasWoken 3 (some .boolean) none 2 (some o) μ 74 [none, none, none] [] (rb_ov μ [(20, a), (29, sd)]) := by
    intro z9 hz
    rw [hz] at h
    replace h := rb_sel h
    refine ev_iconst (v := 0) (pc := 74) dX7_wasWoken_74 ki_0 ?_
    obtain rfl := Option.some.inj h
    exact ev_iret (pc := 75) dX7_wasWoken_75 rfl rfl rfl hfin
  have hr8 : ∀ w29 : Int32, q2 = .inr w29 → w29 = o := by
    intro w29 hz
    rw [hz] at h
    replace h := rb_ser h
    exact Option.some.inj h
  refine rb_lp_ev (P := fun (s1 : Int32) => rb_Ev RX7 cX7_wasWoken 3 (some .boolean) none 2 (some o) μ 2 [some (.inr 19), some (.inl x0), some (.inl s1)] [] (rb_ov μ [(20, a), (29, sd)])) ?_ 100000 0 l3
  intro s1 y4 h ih5 hE6
  refine ev_iload_n (v := s1) (pc := 2) dX7_wasWoken_2 rfl ?_
  refine ev_bipush (v := 6) (pc := 3) dX7_wasWoken_3 kb_6 ?_
  by_cases b10 : 6 ≤ s1
  · rw [if_pos b10] at h
    refine ev_icmp_ge_t (t := 74) (pc := 5) dX7_wasWoken_5 (by decide) b10 ?_
    obtain rfl := Option.some.inj h
    exact ev_fg (L := [none, none, none]) True.intro (hx7 () (hE6 _ rfl).symm)
  · rw [if_neg b10] at h
    refine ev_icmp_ge_f (t := 74) (pc := 5) dX7_wasWoken_5 (by decide) b10 ?_
    obtain ⟨t11, e12, h⟩ := rb_bd h
    obtain ⟨v13, e14, h⟩ := rb_bd h
    refine ev_aload_n (v := 19) (pc := 8) dX7_wasWoken_8 rfl ?_
    refine ev_getr (q := 29) (pc := 9) dX7_wasWoken_9 fl_RX7_38 rfl rfl ?_
    refine ev_iload_n (v := s1) (pc := 12) dX7_wasWoken_12 rfl ?_
    refine ev_iconst (v := 0) (pc := 13) dX7_wasWoken_13 ki_0 ?_
    refine ev_cSi2 (pc := 14) dX7_wasWoken_14 ms_X7_taskAt lk_RX7_63 (ct_X7_taskAt _ _ _ _ e12) (Nat.le_of_ble_eq_true rfl) (Nat.le_of_ble_eq_true rfl) ?_
    refine ev_iald (pc := 17) dX7_wasWoken_17 rfl e14 ?_
    refine ev_iload_n (v := x0) (pc := 18) dX7_wasWoken_18 rfl ?_
    by_cases b15 : v13 = x0
    · rw [if_pos b15] at h
      refine ev_icmp_eq_t (t := 25) (pc := 19) dX7_wasWoken_19 (by decide) b15 ?_
      obtain ⟨t16, e17, h⟩ := rb_bd h
      obtain ⟨t18, e19, h⟩ := rb_bd h
      obtain ⟨t20, e21, h⟩ := rb_bd h
      obtain ⟨v22, e23, h⟩ := rb_bd h
      obtain ⟨t24, e25, h⟩ := rb_bd h
      obtain ⟨v26, e27, h⟩ := rb_bd h
      refine ev_aload_n (v := 19) (pc := 25) dX7_wasWoken_25 rfl ?_
      refine ev_iload_n (v := s1) (pc := 26) dX7_wasWoken_26 rfl ?_
      refine ev_bipush (v := 6) (pc := 27) dX7_wasWoken_27 kb_6 ?_
      refine ev_cVi2 (pc := 29) dX7_wasWoken_29 mv_X7_ofTask lk_RX7_84 rp_19 (ct_X7_ofTask _ _ _ _ _ rfl e17) (Nat.le_of_ble_eq_true rfl) (Nat.le_of_ble_eq_true rfl) ?_
      refine ev_aload_n (v := 19) (pc := 32) dX7_wasWoken_32 rfl ?_
      refine ev_iload_n (v := s1) (pc := 33) dX7_wasWoken_33 rfl ?_
      refine ev_bipush (v := 7) (pc := 34) dX7_wasWoken_34 kb_7 ?_
      refine ev_cVi2 (pc := 36) dX7_wasWoken_36 mv_X7_ofTask lk_RX7_84 rp_19 (ct_X7_ofTask _ _ _ _ _ rfl e19) (Nat.le_of_ble_eq_true rfl) (Nat.le_of_ble_eq_true rfl) ?_
      refine ev_iadd (pc := 39) dX7_wasWoken_39 ?_
      refine ev_aload_n (v := 19) (pc := 40) dX7_wasWoken_40 rfl ?_
      refine ev_getr (q := 29) (pc := 41) dX7_wasWoken_41 fl_RX7_38 rfl rfl ?_
      refine ev_iload_n (v := s1) (pc := 44) dX7_wasWoken_44 rfl ?_
      refine ev_bipush (v := 6) (pc := 45) dX7_wasWoken_45 kb_6 ?_
      refine ev_cSi2 (pc := 47) dX7_wasWoken_47 ms_X7_taskAt lk_RX7_63 (ct_X7_taskAt _ _ _ _ e21) (Nat.le_of_ble_eq_true rfl) (Nat.le_of_ble_eq_true rfl) ?_
      refine ev_iald (pc := 50) dX7_wasWoken_50 rfl e23 ?_
      refine ev_aload_n (v := 19) (pc := 51) dX7_wasWoken_51 rfl ?_
      refine ev_getr (q := 29) (pc := 52) dX7_wasWoken_52 fl_RX7_38 rfl rfl ?_
      refine ev_iload_n (v := s1) (pc := 55) dX7_wasWoken_55 rfl ?_
      refine ev_bipush (v := 7) (pc := 56) dX7_wasWoken_56 kb_7 ?_
      refine ev_cSi2 (pc := 58) dX7_wasWoken_58 ms_X7_taskAt lk_RX7_63 (ct_X7_taskAt _ _ _ _ e25) (Nat.le_of_ble_eq_true rfl) (Nat.le_of_ble_eq_true rfl) ?_
      refine ev_iald (pc := 61) dX7_wasWoken_61 rfl e27 ?_
      refine ev_iadd (pc := 62) dX7_wasWoken_62 ?_
      by_cases b28 : (t16 + t18) ≤ (v22 + v26)
      · rw [if_pos b28] at h
        refine ev_icmp_le_t (t := 68) (pc := 63) dX7_wasWoken_63 (by decide) b28 ?_
        refine ev_iinc (x := s1) (v := (s1 + 1)) (L' := [some (.inr 19), some (.inl x0), some (.inl (s1 + 1))]) (pc := 68) dX7_wasWoken_68 rfl (kx_1 _) (Nat.le_of_ble_eq_true rfl) rfl ?_
        refine ev_goto (t := 2) (pc := 71) dX7_wasWoken_71 (by decide) ?_
        obtain rfl := Option.some.inj h
        exact ih5 (s1 + 1) rfl
      · rw [if_neg b28] at h
        refine ev_icmp_le_f (t := 68) (pc := 63) dX7_wasWoken_63 (by decide) b28 ?_
        refine ev_iconst (v := 1) (pc := 66) dX7_wasWoken_66 ki_1 ?_
        obtain rfl := Option.some.inj h
        obtain rfl := hr8 _ (hE6 _ rfl).symm
        exact ev_iret (pc := 67) dX7_wasWoken_67 rfl rfl rfl hfin
    · rw [if_neg b15] at h
      refine ev_icmp_eq_f (t := 25) (pc := 19) dX7_wasWoken_19 (by decide) b15 ?_
      refine ev_goto (t := 68) (pc := 22) dX7_wasWoken_22 (by decide) ?_
      refine ev_iinc (x := s1) (v := (s1 + 1)) (L' := [some (.inr 19), some (.inl x0), some (.inl (s1 + 1))]) (pc := 68) dX7_wasWoken_68 rfl (kx_1 _) (Nat.le_of_ble_eq_true rfl) rfl ?_
      refine ev_goto (t := 2) (pc := 71) dX7_wasWoken_71 (by decide) ?_
      obtain rfl := Option.some.inj h
      exact ih5 (s1 + 1) rfl
def XX7_soon (a : rb_Row) (rd : rb_Row) (ag : rb_Row) (mf : rb_Row) (na : rb_Row) (nb : rb_Row) (nl : rb_Row) (sv : rb_Row) (sd : rb_Row) (x0 : Int32) : Option (Int32 × rb_Row × rb_Row × rb_Row × rb_Row × rb_Row × rb_Row × rb_Row × rb_Row × rb_Row) := (XX7_shows rd a x0).bind fun t1 => if t1.1 = 0 then (XX7_putAside sd a).bind fun t4 => (rb_rd a 796 x0).bind fun v6 => (rb_lp (ρ := Int32 × rb_Row × rb_Row × rb_Row × rb_Row × rb_Row × rb_Row × rb_Row × rb_Row) (fun (s8 : Int32 × Int32 × rb_Row × rb_Row × rb_Row × rb_Row × rb_Row × rb_Row × rb_Row × rb_Row) => if 100 ≤ s8.2.1 then some (.inr (s8.1, s8.2.2.1, s8.2.2.2.1, s8.2.2.2.2.1, s8.2.2.2.2.2.1, s8.2.2.2.2.2.2.1, s8.2.2.2.2.2.2.2.1, s8.2.2.2.2.2.2.2.2.1, s8.2.2.2.2.2.2.2.2.2)) else if s8.1 = 0 then (rb_rd s8.2.2.1 796 794).bind fun v18 => if 100000 ≤ v18 then some (.inr (s8.1, s8.2.2.1, s8.2.2.2.1, s8.2.2.2.2.1, s8.2.2.2.2.2.1, s8.2.2.2.2.2.2.1, s8.2.2.2.2.2.2.2.1, s8.2.2.2.2.2.2.2.2.1, s8.2.2.2.2.2.2.2.2.2)) else (XX7_tickOnce s8.2.2.1 s8.2.2.2.1 s8.2.2.2.2.1 s8.2.2.2.2.2.1 s8.2.2.2.2.2.2.1 s8.2.2.2.2.2.2.2.1 s8.2.2.2.2.2.2.2.2.1 s8.2.2.2.2.2.2.2.2.2).bind fun t21 => (XX7_shows t21.2.1 t21.1 x0).bind fun t23 => ((if 0 < t23.1 then some 1 else (XX7_wasWoken t21.1 t4 v6).bind fun t29 => if t29 = 0 then some 0 else some 1) : Option (Int32)).bind fun j25 => some (.inl (j25, (s8.2.1 + 1), t21.1, t23.2, t21.2.2.1, t21.2.2.2.1, t21.2.2.2.2.1, t21.2.2.2.2.2.1, t21.2.2.2.2.2.2.1, t21.2.2.2.2.2.2.2)) else some (.inr (s8.1, s8.2.2.1, s8.2.2.2.1, s8.2.2.2.2.1, s8.2.2.2.2.2.1, s8.2.2.2.2.2.2.1, s8.2.2.2.2.2.2.2.1, s8.2.2.2.2.2.2.2.2.1, s8.2.2.2.2.2.2.2.2.2))) 100000 (0, 0, a, t1.2, ag, mf, na, nb, nl, sv)).bind fun q9 => ((if q9.1 = 0 then some (-1) else (rb_rd q9.2.1 796 794).bind fun v36 => some v36) : Option (Int32)).bind fun j32 => (XX7_bringBack q9.2.1 t4).bind fun t38 => some (j32, t38, q9.2.2.1, q9.2.2.2.1, q9.2.2.2.2.1, q9.2.2.2.2.2.1, q9.2.2.2.2.2.2.1, q9.2.2.2.2.2.2.2.1, q9.2.2.2.2.2.2.2.2, t4) else if 0 ≤ t1.1 then (rb_rd a 796 794).bind fun v41 => some (v41, a, t1.2, ag, mf, na, nb, nl, sv, sd) else some ((-1), a, t1.2, ag, mf, na, nb, nl, sv, sd)
set_option maxHeartbeats 4000000 in
set_option maxRecDepth 20000 in
theorem ct_X7_soon (μ : rb_Mem) (a : rb_Row) (rd : rb_Row) (ag : rb_Row) (mf : rb_Row) (na : rb_Row) (nb : rb_Row) (nl : rb_Row) (sv : rb_Row) (sd : rb_Row) (x0 : Int32) (o : Int32 × rb_Row × rb_Row × rb_Row × rb_Row × rb_Row × rb_Row × rb_Row × rb_Row × rb_Row) (ha : μ 20 = a) (hrd : μ 21 = rd) (hag : μ 22 = ag) (hmf : μ 19 = mf) (hna : μ 23 = na) (hnb : μ 24 = nb) (hnl : μ 25 = nl) (hsv : μ 26 = sv) (hsd : μ 29 = sd) (h : XX7_soon a rd ag mf na nb nl sv sd x0 = some o) : rb_Ct yX7_soon cX7_soon 6 (some .int) 12 [.inr 19, .inl x0] μ (some o.1) (rb_ov μ [(20, o.2.1), (21, o.2.2.1), (22, o.2.2.2.1), (19, o.2.2.2.2.1), (23, o.2.2.2.2.2.1), (24, o.2.2.2.2.2.2.1), (25, o.2.2.2.2.2.2.2.1), (26, o.2.2.2.2.2.2.2.2.1), (29, o.2.2.2.2.2.2.2.2.2)]) := by
  unfold XX7_soon at h
  have hini : rb_ov μ [(20, a), (21, rd), (22, ag), (19, mf), (23, na), (24, nb), (25, nl), (26, sv), (29, sd)] = μ := rb_ov_sf _ _ (And.intro ha (And.intro hrd (And.intro hag (And.intro hmf (And.intro hna (And.intro hnb (And.intro hnl (And.intro hsv (And.intro hsd True.intro)))))))))
  have hfin : ∀ u0 u1 u2 u3 u4 u5 u6 u7 u8 : rb_Row, rb_ov μ [(20, u0), (21, u1), (22, u2), (19, u3), (23, u4), (24, u5), (25, u6), (26, u7), (29, u8)] = rb_ov μ [(20, u0), (21, u1), (22, u2), (19, u3), (23, u4), (24, u5), (25, u6), (26, u7), (29, u8)] := fun u0 u1 u2 u3 u4 u5 u6 u7 u8 => rfl
  refine rb_cti (w := [(20, a), (21, rd), (22, ag), (19, mf), (23, na), (24, nb), (25, nl), (26, sv), (29, sd)]) rfl pn_7 (Nat.le_of_ble_eq_true rfl) rfl hini ?_
  obtain ⟨t1, e2, h⟩ := rb_bd h
  refine ev_aload_n (v := 19) (pc := 0) dX7_soon_0 rfl ?_
  refine ev_iload_n (v := x0) (pc := 1) dX7_soon_1 rfl ?_
  refine ev_cVi1w (w' := [(20, a), (21, t1.2), (22, ag), (19, mf), (23, na), (24, nb), (25, nl), (26, sv), (29, sd)]) (pc := 2) dX7_soon_2 mv_X7_shows lk_RX7_341 rp_19 (ct_X7_shows _ _ _ _ _ rfl rfl e2) (Nat.le_of_ble_eq_true rfl) (Nat.le_of_ble_eq_true rfl) rfl ?_
  refine ev_istore_n (L' := [some (.inr 19), some (.inl x0), some (.inl t1.1), none, none, none]) (pc := 5) dX7_soon_5 (Nat.le_of_ble_eq_true rfl) rfl ?_
  refine ev_iload_n (v := t1.1) (pc := 6) dX7_soon_6 rfl ?_
  by_cases b3 : t1.1 = 0
  · rw [if_pos b3] at h
    refine ev_if_eq_t (t := 27) (pc := 7) dX7_soon_7 (by decide) b3 ?_
    obtain ⟨t4, e5, h⟩ := rb_bd h
    obtain ⟨v6, e7, h⟩ := rb_bd h
    refine ev_aload_n (v := 19) (pc := 27) dX7_soon_27 rfl ?_
    refine ev_cVv0w (w' := [(20, a), (21, t1.2), (22, ag), (19, mf), (23, na), (24, nb), (25, nl), (26, sv), (29, t4)]) (pc := 28) dX7_soon_28 mv_X7_putAside lk_RX7_332 rp_19 (ct_X7_putAside _ _ _ _ rfl rfl e5) (Nat.le_of_ble_eq_true rfl) (Nat.le_of_ble_eq_true rfl) rfl ?_
    refine ev_aload_n (v := 19) (pc := 31) dX7_soon_31 rfl ?_
    refine ev_getr (q := 20) (pc := 32) dX7_soon_32 fl_RX7_7 rfl rfl ?_
    refine ev_iload_n (v := x0) (pc := 35) dX7_soon_35 rfl ?_
    refine ev_iald (pc := 36) dX7_soon_36 rfl e7 ?_
    refine ev_istore_n (L' := [some (.inr 19), some (.inl x0), some (.inl t1.1), some (.inl v6), none, none]) (pc := 37) dX7_soon_37 (Nat.le_of_ble_eq_true rfl) rfl ?_
    refine ev_iconst (v := 0) (pc := 38) dX7_soon_38 ki_0 ?_
    refine ev_istore (L' := [some (.inr 19), some (.inl x0), some (.inl t1.1), some (.inl v6), some (.inl 0), none]) (pc := 39) dX7_soon_39 (Nat.le_of_ble_eq_true rfl) rfl ?_
    refine ev_iconst (v := 0) (pc := 41) dX7_soon_41 ki_0 ?_
    refine ev_istore (L' := [some (.inr 19), some (.inl x0), some (.inl t1.1), some (.inl v6), some (.inl 0), some (.inl 0)]) (pc := 42) dX7_soon_42 (Nat.le_of_ble_eq_true rfl) rfl ?_
    obtain ⟨q9, l10, h⟩ := rb_bd h
    have hx14 : rb_Ev RX7 cX7_soon 6 (some .int) none 12 (some o.1) (rb_ov μ [(20, o.2.1), (21, o.2.2.1), (22, o.2.2.2.1), (19, o.2.2.2.2.1), (23, o.2.2.2.2.2.1), (24, o.2.2.2.2.2.2.1), (25, o.2.2.2.2.2.2.2.1), (26, o.2.2.2.2.2.2.2.2.1), (29, o.2.2.2.2.2.2.2.2.2)]) 102 [some (.inr 19), none, none, none, some (.inl q9.1), none] [] (rb_ov μ [(20, q9.2.1), (21, q9.2.2.1), (22, q9.2.2.2.1), (19, q9.2.2.2.2.1), (23, q9.2.2.2.2.2.1), (24, q9.2.2.2.2.2.2.1), (25, q9.2.2.2.2.2.2.2.1), (26, q9.2.2.2.2.2.2.2.2), (29, t4)]) := by
      refine ev_iload (v := q9.1) (pc := 102) dX7_soon_102 rfl ?_
      obtain ⟨j32, e33, h⟩ := rb_bd h
      have hj34 : rb_Ev RX7 cX7_soon 6 (some .int) none 12 (some o.1) (rb_ov μ [(20, o.2.1), (21, o.2.2.1), (22, o.2.2.2.1), (19, o.2.2.2.2.1), (23, o.2.2.2.2.2.1), (24, o.2.2.2.2.2.2.1), (25, o.2.2.2.2.2.2.2.1), (26, o.2.2.2.2.2.2.2.2.1), (29, o.2.2.2.2.2.2.2.2.2)]) 119 [some (.inr 19), none, none, none, none, none] [.inl j32] (rb_ov μ [(20, q9.2.1), (21, q9.2.2.1), (22, q9.2.2.2.1), (19, q9.2.2.2.2.1), (23, q9.2.2.2.2.2.1), (24, q9.2.2.2.2.2.2.1), (25, q9.2.2.2.2.2.2.2.1), (26, q9.2.2.2.2.2.2.2.2), (29, t4)]) := by
        obtain ⟨t38, e39, h⟩ := rb_bd h
        refine ev_istore (L' := [some (.inr 19), none, none, none, none, some (.inl j32)]) (pc := 119) dX7_soon_119 (Nat.le_of_ble_eq_true rfl) rfl ?_
        refine ev_aload_n (v := 19) (pc := 121) dX7_soon_121 rfl ?_
        refine ev_cVv0w (w' := [(20, t38), (21, q9.2.2.1), (22, q9.2.2.2.1), (19, q9.2.2.2.2.1), (23, q9.2.2.2.2.2.1), (24, q9.2.2.2.2.2.2.1), (25, q9.2.2.2.2.2.2.2.1), (26, q9.2.2.2.2.2.2.2.2), (29, t4)]) (pc := 122) dX7_soon_122 mv_X7_bringBack lk_RX7_335 rp_19 (ct_X7_bringBack _ _ _ _ rfl rfl e39) (Nat.le_of_ble_eq_true rfl) (Nat.le_of_ble_eq_true rfl) rfl ?_
        refine ev_iload (v := j32) (pc := 125) dX7_soon_125 rfl ?_
        obtain rfl := Option.some.inj h
        exact ev_iret (pc := 127) dX7_soon_127 rfl rfl rfl (hfin _ _ _ _ _ _ _ _ _)
      replace h := e33
      by_cases b35 : q9.1 = 0
      · rw [if_pos b35] at h
        refine ev_if_eq_t (t := 118) (pc := 104) dX7_soon_104 (by decide) b35 ?_
        refine ev_iconst (v := (-1)) (pc := 118) dX7_soon_118 ki_m1 ?_
        obtain rfl := Option.some.inj h
        exact ev_fg (L := [some (.inr 19), none, none, none, none, none]) (And.intro rfl True.intro) (hj34)
      · rw [if_neg b35] at h
        refine ev_if_eq_f (t := 118) (pc := 104) dX7_soon_104 (by decide) b35 ?_
        obtain ⟨v36, e37, h⟩ := rb_bd h
        refine ev_aload_n (v := 19) (pc := 107) dX7_soon_107 rfl ?_
        refine ev_getr (q := 20) (pc := 108) dX7_soon_108 fl_RX7_7 rfl rfl ?_
        refine ev_sipush (v := 794) (pc := 111) dX7_soon_111 ks_794 ?_
        refine ev_iald (pc := 114) dX7_soon_114 rfl e37 ?_
        refine ev_goto (t := 119) (pc := 115) dX7_soon_115 (by decide) ?_
        obtain rfl := Option.some.inj h
        exact ev_fg (L := [some (.inr 19), none, none, none, none, none]) (And.intro rfl True.intro) (hj34)
    refine ev_fg (L := [some (.inr 19), some (.inl x0), none, some (.inl v6), some (.inl 0), some (.inl 0)]) (And.intro rfl (And.intro rfl (And.intro rfl (And.intro rfl (And.intro rfl True.intro))))) ?_
    refine rb_lp_ev (P := fun (s8 : Int32 × Int32 × rb_Row × rb_Row × rb_Row × rb_Row × rb_Row × rb_Row × rb_Row × rb_Row) => rb_Ev RX7 cX7_soon 6 (some .int) none 12 (some o.1) (rb_ov μ [(20, o.2.1), (21, o.2.2.1), (22, o.2.2.2.1), (19, o.2.2.2.2.1), (23, o.2.2.2.2.2.1), (24, o.2.2.2.2.2.2.1), (25, o.2.2.2.2.2.2.2.1), (26, o.2.2.2.2.2.2.2.2.1), (29, o.2.2.2.2.2.2.2.2.2)]) 44 [some (.inr 19), some (.inl x0), none, some (.inl v6), some (.inl s8.1), some (.inl s8.2.1)] [] (rb_ov μ [(20, s8.2.2.1), (21, s8.2.2.2.1), (22, s8.2.2.2.2.1), (19, s8.2.2.2.2.2.1), (23, s8.2.2.2.2.2.2.1), (24, s8.2.2.2.2.2.2.2.1), (25, s8.2.2.2.2.2.2.2.2.1), (26, s8.2.2.2.2.2.2.2.2.2), (29, t4)])) ?_ 100000 (0, 0, a, t1.2, ag, mf, na, nb, nl, sv) l10
    intro s8 y11 h ih12 hE13
    refine ev_iload (v := s8.2.1) (pc := 44) dX7_soon_44 rfl ?_
    refine ev_bipush (v := 100) (pc := 46) dX7_soon_46 kb_100 ?_
    by_cases b16 : 100 ≤ s8.2.1
    · rw [if_pos b16] at h
      refine ev_icmp_ge_t (t := 102) (pc := 48) dX7_soon_48 (by decide) b16 ?_
      obtain rfl := Option.some.inj h
      obtain rfl := hE13 _ rfl
      exact ev_fg (L := [some (.inr 19), none, none, none, some (.inl s8.1), none]) (And.intro rfl (And.intro rfl True.intro)) (hx14)
    · rw [if_neg b16] at h
      refine ev_icmp_ge_f (t := 102) (pc := 48) dX7_soon_48 (by decide) b16 ?_
      refine ev_iload (v := s8.1) (pc := 51) dX7_soon_51 rfl ?_
      by_cases b17 : s8.1 = 0
      · rw [if_pos b17] at h
        refine ev_if_ne_f (t := 102) (pc := 53) dX7_soon_53 (by decide) b17 ?_
        obtain ⟨v18, e19, h⟩ := rb_bd h
        refine ev_aload_n (v := 19) (pc := 56) dX7_soon_56 rfl ?_
        refine ev_getr (q := 20) (pc := 57) dX7_soon_57 fl_RX7_7 rfl rfl ?_
        refine ev_sipush (v := 794) (pc := 60) dX7_soon_60 ks_794 ?_
        refine ev_iald (pc := 63) dX7_soon_63 rfl e19 ?_
        refine ev_ldc (v := 100000) (pc := 64) dX7_soon_64 kc_RX7_253 ?_
        by_cases b20 : 100000 ≤ v18
        · rw [if_pos b20] at h
          refine ev_icmp_ge_t (t := 102) (pc := 66) dX7_soon_66 (by decide) b20 ?_
          obtain rfl := Option.some.inj h
          obtain rfl := hE13 _ rfl
          exact ev_fg (L := [some (.inr 19), none, none, none, some (.inl s8.1), none]) (And.intro rfl (And.intro rfl True.intro)) (hx14)
        · rw [if_neg b20] at h
          refine ev_icmp_ge_f (t := 102) (pc := 66) dX7_soon_66 (by decide) b20 ?_
          obtain ⟨t21, e22, h⟩ := rb_bd h
          obtain ⟨t23, e24, h⟩ := rb_bd h
          refine ev_aload_n (v := 19) (pc := 69) dX7_soon_69 rfl ?_
          refine ev_cVv0w (w' := [(20, t21.1), (21, t21.2.1), (22, t21.2.2.1), (19, t21.2.2.2.1), (23, t21.2.2.2.2.1), (24, t21.2.2.2.2.2.1), (25, t21.2.2.2.2.2.2.1), (26, t21.2.2.2.2.2.2.2), (29, t4)]) (pc := 70) dX7_soon_70 mv_X7_tickOnce lk_RX7_254 rp_19 (ct_X7_tickOnce _ _ _ _ _ _ _ _ _ _ rfl rfl rfl rfl rfl rfl rfl rfl e22) (Nat.le_of_ble_eq_true rfl) (Nat.le_of_ble_eq_true rfl) rfl ?_
          refine ev_aload_n (v := 19) (pc := 73) dX7_soon_73 rfl ?_
          refine ev_iload_n (v := x0) (pc := 74) dX7_soon_74 rfl ?_
          refine ev_cVi1w (w' := [(20, t21.1), (21, t23.2), (22, t21.2.2.1), (19, t21.2.2.2.1), (23, t21.2.2.2.2.1), (24, t21.2.2.2.2.2.1), (25, t21.2.2.2.2.2.2.1), (26, t21.2.2.2.2.2.2.2), (29, t4)]) (pc := 75) dX7_soon_75 mv_X7_shows lk_RX7_341 rp_19 (ct_X7_shows _ _ _ _ _ rfl rfl e24) (Nat.le_of_ble_eq_true rfl) (Nat.le_of_ble_eq_true rfl) rfl ?_
          obtain ⟨j25, e26, h⟩ := rb_bd h
          have hj27 : rb_Ev RX7 cX7_soon 6 (some .int) none 12 (some o.1) (rb_ov μ [(20, o.2.1), (21, o.2.2.1), (22, o.2.2.2.1), (19, o.2.2.2.2.1), (23, o.2.2.2.2.2.1), (24, o.2.2.2.2.2.2.1), (25, o.2.2.2.2.2.2.2.1), (26, o.2.2.2.2.2.2.2.2.1), (29, o.2.2.2.2.2.2.2.2.2)]) 94 [some (.inr 19), some (.inl x0), none, some (.inl v6), none, some (.inl s8.2.1)] [.inl j25] (rb_ov μ [(20, t21.1), (21, t23.2), (22, t21.2.2.1), (19, t21.2.2.2.1), (23, t21.2.2.2.2.1), (24, t21.2.2.2.2.2.1), (25, t21.2.2.2.2.2.2.1), (26, t21.2.2.2.2.2.2.2), (29, t4)]) := by
            refine ev_istore (L' := [some (.inr 19), some (.inl x0), none, some (.inl v6), some (.inl j25), some (.inl s8.2.1)]) (pc := 94) dX7_soon_94 (Nat.le_of_ble_eq_true rfl) rfl ?_
            refine ev_iinc (x := s8.2.1) (v := (s8.2.1 + 1)) (L' := [some (.inr 19), some (.inl x0), none, some (.inl v6), some (.inl j25), some (.inl (s8.2.1 + 1))]) (pc := 96) dX7_soon_96 rfl (kx_1 _) (Nat.le_of_ble_eq_true rfl) rfl ?_
            refine ev_goto (t := 44) (pc := 99) dX7_soon_99 (by decide) ?_
            obtain rfl := Option.some.inj h
            exact ih12 (j25, (s8.2.1 + 1), t21.1, t23.2, t21.2.2.1, t21.2.2.2.1, t21.2.2.2.2.1, t21.2.2.2.2.2.1, t21.2.2.2.2.2.2.1, t21.2.2.2.2.2.2.2) rfl
          replace h := e26
          by_cases b28 : 0 < t23.1
          · rw [if_pos b28] at h
            refine ev_if_gt_t (t := 89) (pc := 78) dX7_soon_78 (by decide) b28 ?_
            refine ev_iconst (v := 1) (pc := 89) dX7_soon_89 ki_1 ?_
            refine ev_goto (t := 94) (pc := 90) dX7_soon_90 (by decide) ?_
            obtain rfl := Option.some.inj h
            exact ev_fg (L := [some (.inr 19), some (.inl x0), none, some (.inl v6), none, some (.inl s8.2.1)]) (And.intro rfl (And.intro rfl (And.intro rfl (And.intro rfl True.intro)))) (hj27)
          · rw [if_neg b28] at h
            refine ev_if_gt_f (t := 89) (pc := 78) dX7_soon_78 (by decide) b28 ?_
            obtain ⟨t29, e30, h⟩ := rb_bd h
            refine ev_aload_n (v := 19) (pc := 81) dX7_soon_81 rfl ?_
            refine ev_iload_n (v := v6) (pc := 82) dX7_soon_82 rfl ?_
            refine ev_cVi1 (pc := 83) dX7_soon_83 mv_X7_wasWoken lk_RX7_344 rp_19 (ct_X7_wasWoken _ _ _ _ _ rfl rfl e30) (Nat.le_of_ble_eq_true rfl) (Nat.le_of_ble_eq_true rfl) ?_
            by_cases b31 : t29 = 0
            · rw [if_pos b31] at h
              refine ev_if_eq_t (t := 93) (pc := 86) dX7_soon_86 (by decide) b31 ?_
              refine ev_iconst (v := 0) (pc := 93) dX7_soon_93 ki_0 ?_
              obtain rfl := Option.some.inj h
              exact ev_fg (L := [some (.inr 19), some (.inl x0), none, some (.inl v6), none, some (.inl s8.2.1)]) (And.intro rfl (And.intro rfl (And.intro rfl (And.intro rfl True.intro)))) (hj27)
            · rw [if_neg b31] at h
              refine ev_if_eq_f (t := 93) (pc := 86) dX7_soon_86 (by decide) b31 ?_
              refine ev_iconst (v := 1) (pc := 89) dX7_soon_89 ki_1 ?_
              refine ev_goto (t := 94) (pc := 90) dX7_soon_90 (by decide) ?_
              obtain rfl := Option.some.inj h
              exact ev_fg (L := [some (.inr 19), some (.inl x0), none, some (.inl v6), none, some (.inl s8.2.1)]) (And.intro rfl (And.intro rfl (And.intro rfl (And.intro rfl True.intro)))) (hj27)
      · rw [if_neg b17] at h
        refine ev_if_ne_t (t := 102) (pc := 53) dX7_soon_53 (by decide) b17 ?_
        obtain rfl := Option.some.inj h
        obtain rfl := hE13 _ rfl
        exact ev_fg (L := [some (.inr 19), none, none, none, some (.inl s8.1), none]) (And.intro rfl (And.intro rfl True.intro)) (hx14)
  · rw [if_neg b3] at h
    refine ev_if_eq_f (t := 27) (pc := 7) dX7_soon_7 (by decide) b3 ?_
    refine ev_iload_n (v := t1.1) (pc := 10) dX7_soon_10 rfl ?_
    by_cases b40 : 0 ≤ t1.1
    · rw [if_pos b40] at h
      refine ev_if_ge_t (t := 18) (pc := 11) dX7_soon_11 (by decide) b40 ?_
      obtain ⟨v41, e42, h⟩ := rb_bd h
      refine ev_aload_n (v := 19) (pc := 18) dX7_soon_18 rfl ?_
      refine ev_getr (q := 20) (pc := 19) dX7_soon_19 fl_RX7_7 rfl rfl ?_
      refine ev_sipush (v := 794) (pc := 22) dX7_soon_22 ks_794 ?_
      refine ev_iald (pc := 25) dX7_soon_25 rfl e42 ?_
      obtain rfl := Option.some.inj h
      exact ev_iret (pc := 26) dX7_soon_26 rfl rfl rfl (hfin _ _ _ _ _ _ _ _ _)
    · rw [if_neg b40] at h
      refine ev_if_ge_f (t := 18) (pc := 11) dX7_soon_11 (by decide) b40 ?_
      refine ev_iconst (v := (-1)) (pc := 14) dX7_soon_14 ki_m1 ?_
      refine ev_goto (t := 26) (pc := 15) dX7_soon_15 (by decide) ?_
      obtain rfl := Option.some.inj h
      exact ev_iret (pc := 26) dX7_soon_26 rfl rfl rfl (hfin _ _ _ _ _ _ _ _ _)
def XX7_calls (a : rb_Row) (rd : rb_Row) (ag : rb_Row) (mf : rb_Row) (na : rb_Row) (nb : rb_Row) (nl : rb_Row) (sv : rb_Row) (sd : rb_Row) (x0 : Int32) (x1 : Int32) : Option (Int32 × rb_Row × rb_Row × rb_Row × rb_Row × rb_Row × rb_Row × rb_Row × rb_Row × rb_Row) := (XX7_isHandle a x0).bind fun t1 => if t1 = 0 then some ((-1), a, rd, ag, mf, na, nb, nl, sv, sd) else if x1 = 1 then (XX7_putAside sd a).bind fun t5 => (rb_pf mf 11 0).bind fun mf7 => (rb_rd a 796 x0).bind fun v9 => (XX7_notice a rd ag mf7 na nb nl sv v9 x1).bind fun t11 => (XX7_bringBack t11.1 t5).bind fun t13 => some ((t11.2.2.2.1 11), t13, t11.2.1, t11.2.2.1, t11.2.2.2.1, t11.2.2.2.2.1, t11.2.2.2.2.2.1, t11.2.2.2.2.2.2.1, t11.2.2.2.2.2.2.2, t5) else if x1 = 2 then (XX7_putAside sd a).bind fun t16 => (rb_pf mf 11 0).bind fun mf18 => (rb_rd a 796 x0).bind fun v20 => (XX7_notice a rd ag mf18 na nb nl sv v20 x1).bind fun t22 => (XX7_bringBack t22.1 t16).bind fun t24 => some ((t22.2.2.2.1 11), t24, t22.2.1, t22.2.2.1, t22.2.2.2.1, t22.2.2.2.2.1, t22.2.2.2.2.2.1, t22.2.2.2.2.2.2.1, t22.2.2.2.2.2.2.2, t16) else if x1 = 4 then (XX7_putAside sd a).bind fun t27 => (rb_pf mf 11 0).bind fun mf29 => (rb_rd a 796 x0).bind fun v31 => (XX7_notice a rd ag mf29 na nb nl sv v31 x1).bind fun t33 => (XX7_bringBack t33.1 t27).bind fun t35 => some ((t33.2.2.2.1 11), t35, t33.2.1, t33.2.2.1, t33.2.2.2.1, t33.2.2.2.2.1, t33.2.2.2.2.2.1, t33.2.2.2.2.2.2.1, t33.2.2.2.2.2.2.2, t27) else if x1 = 8 then (XX7_putAside sd a).bind fun t38 => (rb_pf mf 11 0).bind fun mf40 => (rb_rd a 796 x0).bind fun v42 => (XX7_notice a rd ag mf40 na nb nl sv v42 x1).bind fun t44 => (XX7_bringBack t44.1 t38).bind fun t46 => some ((t44.2.2.2.1 11), t46, t44.2.1, t44.2.2.1, t44.2.2.2.1, t44.2.2.2.2.1, t44.2.2.2.2.2.1, t44.2.2.2.2.2.2.1, t44.2.2.2.2.2.2.2, t38) else some ((-1), a, rd, ag, mf, na, nb, nl, sv, sd)
set_option maxHeartbeats 4000000 in
set_option maxRecDepth 20000 in
theorem ct_X7_calls (μ : rb_Mem) (a : rb_Row) (rd : rb_Row) (ag : rb_Row) (mf : rb_Row) (na : rb_Row) (nb : rb_Row) (nl : rb_Row) (sv : rb_Row) (sd : rb_Row) (x0 : Int32) (x1 : Int32) (o : Int32 × rb_Row × rb_Row × rb_Row × rb_Row × rb_Row × rb_Row × rb_Row × rb_Row × rb_Row) (ha : μ 20 = a) (hrd : μ 21 = rd) (hag : μ 22 = ag) (hmf : μ 19 = mf) (hna : μ 23 = na) (hnb : μ 24 = nb) (hnl : μ 25 = nl) (hsv : μ 26 = sv) (hsd : μ 29 = sd) (h : XX7_calls a rd ag mf na nb nl sv sd x0 x1 = some o) : rb_Ct yX7_calls cX7_calls 3 (some .int) 10 [.inr 19, .inl x0, .inl x1] μ (some o.1) (rb_ov μ [(20, o.2.1), (21, o.2.2.1), (22, o.2.2.2.1), (19, o.2.2.2.2.1), (23, o.2.2.2.2.2.1), (24, o.2.2.2.2.2.2.1), (25, o.2.2.2.2.2.2.2.1), (26, o.2.2.2.2.2.2.2.2.1), (29, o.2.2.2.2.2.2.2.2.2)]) := by
  unfold XX7_calls at h
  have hini : rb_ov μ [(20, a), (21, rd), (22, ag), (19, mf), (23, na), (24, nb), (25, nl), (26, sv), (29, sd)] = μ := rb_ov_sf _ _ (And.intro ha (And.intro hrd (And.intro hag (And.intro hmf (And.intro hna (And.intro hnb (And.intro hnl (And.intro hsv (And.intro hsd True.intro)))))))))
  have hfin : ∀ u0 u1 u2 u3 u4 u5 u6 u7 u8 : rb_Row, rb_ov μ [(20, u0), (21, u1), (22, u2), (19, u3), (23, u4), (24, u5), (25, u6), (26, u7), (29, u8)] = rb_ov μ [(20, u0), (21, u1), (22, u2), (19, u3), (23, u4), (24, u5), (25, u6), (26, u7), (29, u8)] := fun u0 u1 u2 u3 u4 u5 u6 u7 u8 => rfl
  refine rb_cti (w := [(20, a), (21, rd), (22, ag), (19, mf), (23, na), (24, nb), (25, nl), (26, sv), (29, sd)]) rfl pn_7 (Nat.le_of_ble_eq_true rfl) rfl hini ?_
  obtain ⟨t1, e2, h⟩ := rb_bd h
  refine ev_aload_n (v := 19) (pc := 0) dX7_calls_0 rfl ?_
  refine ev_iload_n (v := x0) (pc := 1) dX7_calls_1 rfl ?_
  refine ev_cVi1 (pc := 2) dX7_calls_2 mv_X7_isHandle lk_RX7_73 rp_19 (ct_X7_isHandle _ _ _ _ rfl e2) (Nat.le_of_ble_eq_true rfl) (Nat.le_of_ble_eq_true rfl) ?_
  by_cases b3 : t1 = 0
  · rw [if_pos b3] at h
    refine ev_if_eq_t (t := 29) (pc := 5) dX7_calls_5 (by decide) b3 ?_
    refine ev_iconst (v := (-1)) (pc := 29) dX7_calls_29 ki_m1 ?_
    obtain rfl := Option.some.inj h
    exact ev_iret (pc := 30) dX7_calls_30 rfl rfl rfl (hfin _ _ _ _ _ _ _ _ _)
  · rw [if_neg b3] at h
    refine ev_if_eq_f (t := 29) (pc := 5) dX7_calls_5 (by decide) b3 ?_
    refine ev_iload_n (v := x1) (pc := 8) dX7_calls_8 rfl ?_
    refine ev_iconst (v := 1) (pc := 9) dX7_calls_9 ki_1 ?_
    by_cases b4 : x1 = 1
    · rw [if_pos b4] at h
      refine ev_icmp_eq_t (t := 31) (pc := 10) dX7_calls_10 (by decide) b4 ?_
      obtain ⟨t5, e6, h⟩ := rb_bd h
      obtain ⟨mf7, e8, h⟩ := rb_bd h
      obtain ⟨v9, e10, h⟩ := rb_bd h
      obtain ⟨t11, e12, h⟩ := rb_bd h
      obtain ⟨t13, e14, h⟩ := rb_bd h
      refine ev_aload_n (v := 19) (pc := 31) dX7_calls_31 rfl ?_
      refine ev_cVv0w (w' := [(20, a), (21, rd), (22, ag), (19, mf), (23, na), (24, nb), (25, nl), (26, sv), (29, t5)]) (pc := 32) dX7_calls_32 mv_X7_putAside lk_RX7_332 rp_19 (ct_X7_putAside _ _ _ _ rfl rfl e6) (Nat.le_of_ble_eq_true rfl) (Nat.le_of_ble_eq_true rfl) rfl ?_
      refine ev_aload_n (v := 19) (pc := 35) dX7_calls_35 rfl ?_
      refine ev_iconst (v := 0) (pc := 36) dX7_calls_36 ki_0 ?_
      refine ev_putw (w' := [(20, a), (21, rd), (22, ag), (19, mf7), (23, na), (24, nb), (25, nl), (26, sv), (29, t5)]) (pc := 37) dX7_calls_37 fp_RX7_196 rfl rfl e8 rfl ?_
      refine ev_aload_n (v := 19) (pc := 40) dX7_calls_40 rfl ?_
      refine ev_aload_n (v := 19) (pc := 41) dX7_calls_41 rfl ?_
      refine ev_getr (q := 20) (pc := 42) dX7_calls_42 fl_RX7_7 rfl rfl ?_
      refine ev_iload_n (v := x0) (pc := 45) dX7_calls_45 rfl ?_
      refine ev_iald (pc := 46) dX7_calls_46 rfl e10 ?_
      refine ev_iload_n (v := x1) (pc := 47) dX7_calls_47 rfl ?_
      refine ev_cVv2w (w' := [(20, t11.1), (21, t11.2.1), (22, t11.2.2.1), (19, t11.2.2.2.1), (23, t11.2.2.2.2.1), (24, t11.2.2.2.2.2.1), (25, t11.2.2.2.2.2.2.1), (26, t11.2.2.2.2.2.2.2), (29, t5)]) (pc := 48) dX7_calls_48 mv_X7_notice lk_RX7_120 rp_19 (ct_X7_notice _ _ _ _ _ _ _ _ _ _ _ _ rfl rfl rfl rfl rfl rfl rfl rfl e12) (Nat.le_of_ble_eq_true rfl) (Nat.le_of_ble_eq_true rfl) rfl ?_
      refine ev_aload_n (v := 19) (pc := 51) dX7_calls_51 rfl ?_
      refine ev_cVv0w (w' := [(20, t13), (21, t11.2.1), (22, t11.2.2.1), (19, t11.2.2.2.1), (23, t11.2.2.2.2.1), (24, t11.2.2.2.2.2.1), (25, t11.2.2.2.2.2.2.1), (26, t11.2.2.2.2.2.2.2), (29, t5)]) (pc := 52) dX7_calls_52 mv_X7_bringBack lk_RX7_335 rp_19 (ct_X7_bringBack _ _ _ _ rfl rfl e14) (Nat.le_of_ble_eq_true rfl) (Nat.le_of_ble_eq_true rfl) rfl ?_
      refine ev_aload_n (v := 19) (pc := 55) dX7_calls_55 rfl ?_
      refine ev_geti (v := (t11.2.2.2.1 11)) (pc := 56) dX7_calls_56 fl_RX7_196 rfl rfl rfl ?_
      obtain rfl := Option.some.inj h
      exact ev_iret (pc := 59) dX7_calls_59 rfl rfl rfl (hfin _ _ _ _ _ _ _ _ _)
    · rw [if_neg b4] at h
      refine ev_icmp_eq_f (t := 31) (pc := 10) dX7_calls_10 (by decide) b4 ?_
      refine ev_iload_n (v := x1) (pc := 13) dX7_calls_13 rfl ?_
      refine ev_iconst (v := 2) (pc := 14) dX7_calls_14 ki_2 ?_
      by_cases b15 : x1 = 2
      · rw [if_pos b15] at h
        refine ev_icmp_eq_t (t := 31) (pc := 15) dX7_calls_15 (by decide) b15 ?_
        obtain ⟨t16, e17, h⟩ := rb_bd h
        obtain ⟨mf18, e19, h⟩ := rb_bd h
        obtain ⟨v20, e21, h⟩ := rb_bd h
        obtain ⟨t22, e23, h⟩ := rb_bd h
        obtain ⟨t24, e25, h⟩ := rb_bd h
        refine ev_aload_n (v := 19) (pc := 31) dX7_calls_31 rfl ?_
        refine ev_cVv0w (w' := [(20, a), (21, rd), (22, ag), (19, mf), (23, na), (24, nb), (25, nl), (26, sv), (29, t16)]) (pc := 32) dX7_calls_32 mv_X7_putAside lk_RX7_332 rp_19 (ct_X7_putAside _ _ _ _ rfl rfl e17) (Nat.le_of_ble_eq_true rfl) (Nat.le_of_ble_eq_true rfl) rfl ?_
        refine ev_aload_n (v := 19) (pc := 35) dX7_calls_35 rfl ?_
        refine ev_iconst (v := 0) (pc := 36) dX7_calls_36 ki_0 ?_
        refine ev_putw (w' := [(20, a), (21, rd), (22, ag), (19, mf18), (23, na), (24, nb), (25, nl), (26, sv), (29, t16)]) (pc := 37) dX7_calls_37 fp_RX7_196 rfl rfl e19 rfl ?_
        refine ev_aload_n (v := 19) (pc := 40) dX7_calls_40 rfl ?_
        refine ev_aload_n (v := 19) (pc := 41) dX7_calls_41 rfl ?_
        refine ev_getr (q := 20) (pc := 42) dX7_calls_42 fl_RX7_7 rfl rfl ?_
        refine ev_iload_n (v := x0) (pc := 45) dX7_calls_45 rfl ?_
        refine ev_iald (pc := 46) dX7_calls_46 rfl e21 ?_
        refine ev_iload_n (v := x1) (pc := 47) dX7_calls_47 rfl ?_
        refine ev_cVv2w (w' := [(20, t22.1), (21, t22.2.1), (22, t22.2.2.1), (19, t22.2.2.2.1), (23, t22.2.2.2.2.1), (24, t22.2.2.2.2.2.1), (25, t22.2.2.2.2.2.2.1), (26, t22.2.2.2.2.2.2.2), (29, t16)]) (pc := 48) dX7_calls_48 mv_X7_notice lk_RX7_120 rp_19 (ct_X7_notice _ _ _ _ _ _ _ _ _ _ _ _ rfl rfl rfl rfl rfl rfl rfl rfl e23) (Nat.le_of_ble_eq_true rfl) (Nat.le_of_ble_eq_true rfl) rfl ?_
        refine ev_aload_n (v := 19) (pc := 51) dX7_calls_51 rfl ?_
        refine ev_cVv0w (w' := [(20, t24), (21, t22.2.1), (22, t22.2.2.1), (19, t22.2.2.2.1), (23, t22.2.2.2.2.1), (24, t22.2.2.2.2.2.1), (25, t22.2.2.2.2.2.2.1), (26, t22.2.2.2.2.2.2.2), (29, t16)]) (pc := 52) dX7_calls_52 mv_X7_bringBack lk_RX7_335 rp_19 (ct_X7_bringBack _ _ _ _ rfl rfl e25) (Nat.le_of_ble_eq_true rfl) (Nat.le_of_ble_eq_true rfl) rfl ?_
        refine ev_aload_n (v := 19) (pc := 55) dX7_calls_55 rfl ?_
        refine ev_geti (v := (t22.2.2.2.1 11)) (pc := 56) dX7_calls_56 fl_RX7_196 rfl rfl rfl ?_
        obtain rfl := Option.some.inj h
        exact ev_iret (pc := 59) dX7_calls_59 rfl rfl rfl (hfin _ _ _ _ _ _ _ _ _)
      · rw [if_neg b15] at h
        refine ev_icmp_eq_f (t := 31) (pc := 15) dX7_calls_15 (by decide) b15 ?_
        refine ev_iload_n (v := x1) (pc := 18) dX7_calls_18 rfl ?_
        refine ev_iconst (v := 4) (pc := 19) dX7_calls_19 ki_4 ?_
        by_cases b26 : x1 = 4
        · rw [if_pos b26] at h
          refine ev_icmp_eq_t (t := 31) (pc := 20) dX7_calls_20 (by decide) b26 ?_
          obtain ⟨t27, e28, h⟩ := rb_bd h
          obtain ⟨mf29, e30, h⟩ := rb_bd h
          obtain ⟨v31, e32, h⟩ := rb_bd h
          obtain ⟨t33, e34, h⟩ := rb_bd h
          obtain ⟨t35, e36, h⟩ := rb_bd h
          refine ev_aload_n (v := 19) (pc := 31) dX7_calls_31 rfl ?_
          refine ev_cVv0w (w' := [(20, a), (21, rd), (22, ag), (19, mf), (23, na), (24, nb), (25, nl), (26, sv), (29, t27)]) (pc := 32) dX7_calls_32 mv_X7_putAside lk_RX7_332 rp_19 (ct_X7_putAside _ _ _ _ rfl rfl e28) (Nat.le_of_ble_eq_true rfl) (Nat.le_of_ble_eq_true rfl) rfl ?_
          refine ev_aload_n (v := 19) (pc := 35) dX7_calls_35 rfl ?_
          refine ev_iconst (v := 0) (pc := 36) dX7_calls_36 ki_0 ?_
          refine ev_putw (w' := [(20, a), (21, rd), (22, ag), (19, mf29), (23, na), (24, nb), (25, nl), (26, sv), (29, t27)]) (pc := 37) dX7_calls_37 fp_RX7_196 rfl rfl e30 rfl ?_
          refine ev_aload_n (v := 19) (pc := 40) dX7_calls_40 rfl ?_
          refine ev_aload_n (v := 19) (pc := 41) dX7_calls_41 rfl ?_
          refine ev_getr (q := 20) (pc := 42) dX7_calls_42 fl_RX7_7 rfl rfl ?_
          refine ev_iload_n (v := x0) (pc := 45) dX7_calls_45 rfl ?_
          refine ev_iald (pc := 46) dX7_calls_46 rfl e32 ?_
          refine ev_iload_n (v := x1) (pc := 47) dX7_calls_47 rfl ?_
          refine ev_cVv2w (w' := [(20, t33.1), (21, t33.2.1), (22, t33.2.2.1), (19, t33.2.2.2.1), (23, t33.2.2.2.2.1), (24, t33.2.2.2.2.2.1), (25, t33.2.2.2.2.2.2.1), (26, t33.2.2.2.2.2.2.2), (29, t27)]) (pc := 48) dX7_calls_48 mv_X7_notice lk_RX7_120 rp_19 (ct_X7_notice _ _ _ _ _ _ _ _ _ _ _ _ rfl rfl rfl rfl rfl rfl rfl rfl e34) (Nat.le_of_ble_eq_true rfl) (Nat.le_of_ble_eq_true rfl) rfl ?_
          refine ev_aload_n (v := 19) (pc := 51) dX7_calls_51 rfl ?_
          refine ev_cVv0w (w' := [(20, t35), (21, t33.2.1), (22, t33.2.2.1), (19, t33.2.2.2.1), (23, t33.2.2.2.2.1), (24, t33.2.2.2.2.2.1), (25, t33.2.2.2.2.2.2.1), (26, t33.2.2.2.2.2.2.2), (29, t27)]) (pc := 52) dX7_calls_52 mv_X7_bringBack lk_RX7_335 rp_19 (ct_X7_bringBack _ _ _ _ rfl rfl e36) (Nat.le_of_ble_eq_true rfl) (Nat.le_of_ble_eq_true rfl) rfl ?_
          refine ev_aload_n (v := 19) (pc := 55) dX7_calls_55 rfl ?_
          refine ev_geti (v := (t33.2.2.2.1 11)) (pc := 56) dX7_calls_56 fl_RX7_196 rfl rfl rfl ?_
          obtain rfl := Option.some.inj h
          exact ev_iret (pc := 59) dX7_calls_59 rfl rfl rfl (hfin _ _ _ _ _ _ _ _ _)
        · rw [if_neg b26] at h
          refine ev_icmp_eq_f (t := 31) (pc := 20) dX7_calls_20 (by decide) b26 ?_
          refine ev_iload_n (v := x1) (pc := 23) dX7_calls_23 rfl ?_
          refine ev_bipush (v := 8) (pc := 24) dX7_calls_24 kb_8 ?_
          by_cases b37 : x1 = 8
          · rw [if_pos b37] at h
            refine ev_icmp_eq_t (t := 31) (pc := 26) dX7_calls_26 (by decide) b37 ?_
            obtain ⟨t38, e39, h⟩ := rb_bd h
            obtain ⟨mf40, e41, h⟩ := rb_bd h
            obtain ⟨v42, e43, h⟩ := rb_bd h
            obtain ⟨t44, e45, h⟩ := rb_bd h
            obtain ⟨t46, e47, h⟩ := rb_bd h
            refine ev_aload_n (v := 19) (pc := 31) dX7_calls_31 rfl ?_
            refine ev_cVv0w (w' := [(20, a), (21, rd), (22, ag), (19, mf), (23, na), (24, nb), (25, nl), (26, sv), (29, t38)]) (pc := 32) dX7_calls_32 mv_X7_putAside lk_RX7_332 rp_19 (ct_X7_putAside _ _ _ _ rfl rfl e39) (Nat.le_of_ble_eq_true rfl) (Nat.le_of_ble_eq_true rfl) rfl ?_
            refine ev_aload_n (v := 19) (pc := 35) dX7_calls_35 rfl ?_
            refine ev_iconst (v := 0) (pc := 36) dX7_calls_36 ki_0 ?_
            refine ev_putw (w' := [(20, a), (21, rd), (22, ag), (19, mf40), (23, na), (24, nb), (25, nl), (26, sv), (29, t38)]) (pc := 37) dX7_calls_37 fp_RX7_196 rfl rfl e41 rfl ?_
            refine ev_aload_n (v := 19) (pc := 40) dX7_calls_40 rfl ?_
            refine ev_aload_n (v := 19) (pc := 41) dX7_calls_41 rfl ?_
            refine ev_getr (q := 20) (pc := 42) dX7_calls_42 fl_RX7_7 rfl rfl ?_
            refine ev_iload_n (v := x0) (pc := 45) dX7_calls_45 rfl ?_
            refine ev_iald (pc := 46) dX7_calls_46 rfl e43 ?_
            refine ev_iload_n (v := x1) (pc := 47) dX7_calls_47 rfl ?_
            refine ev_cVv2w (w' := [(20, t44.1), (21, t44.2.1), (22, t44.2.2.1), (19, t44.2.2.2.1), (23, t44.2.2.2.2.1), (24, t44.2.2.2.2.2.1), (25, t44.2.2.2.2.2.2.1), (26, t44.2.2.2.2.2.2.2), (29, t38)]) (pc := 48) dX7_calls_48 mv_X7_notice lk_RX7_120 rp_19 (ct_X7_notice _ _ _ _ _ _ _ _ _ _ _ _ rfl rfl rfl rfl rfl rfl rfl rfl e45) (Nat.le_of_ble_eq_true rfl) (Nat.le_of_ble_eq_true rfl) rfl ?_
            refine ev_aload_n (v := 19) (pc := 51) dX7_calls_51 rfl ?_
            refine ev_cVv0w (w' := [(20, t46), (21, t44.2.1), (22, t44.2.2.1), (19, t44.2.2.2.1), (23, t44.2.2.2.2.1), (24, t44.2.2.2.2.2.1), (25, t44.2.2.2.2.2.2.1), (26, t44.2.2.2.2.2.2.2), (29, t38)]) (pc := 52) dX7_calls_52 mv_X7_bringBack lk_RX7_335 rp_19 (ct_X7_bringBack _ _ _ _ rfl rfl e47) (Nat.le_of_ble_eq_true rfl) (Nat.le_of_ble_eq_true rfl) rfl ?_
            refine ev_aload_n (v := 19) (pc := 55) dX7_calls_55 rfl ?_
            refine ev_geti (v := (t44.2.2.2.1 11)) (pc := 56) dX7_calls_56 fl_RX7_196 rfl rfl rfl ?_
            obtain rfl := Option.some.inj h
            exact ev_iret (pc := 59) dX7_calls_59 rfl rfl rfl (hfin _ _ _ _ _ _ _ _ _)
          · rw [if_neg b37] at h
            refine ev_icmp_eq_f (t := 31) (pc := 26) dX7_calls_26 (by decide) b37 ?_
            refine ev_iconst (v := (-1)) (pc := 29) dX7_calls_29 ki_m1 ?_
            obtain rfl := Option.some.inj h
            exact ev_iret (pc := 30) dX7_calls_30 rfl rfl rfl (hfin _ _ _ _ _ _ _ _ _)
def XX7_tryOrder (a : rb_Row) (rd : rb_Row) (ag : rb_Row) (mf : rb_Row) (na : rb_Row) (nb : rb_Row) (nl : rb_Row) (sv : rb_Row) (wa : rb_Row) (x0 : Int32) (x1 : Int32) (x2 : Int32) : Option (Int32 × rb_Row × rb_Row × rb_Row × rb_Row × rb_Row × rb_Row × rb_Row × rb_Row × rb_Row) := (rb_lp (ρ := Int32 × rb_Row × rb_Row × rb_Row × rb_Row × rb_Row × rb_Row × rb_Row × rb_Row × rb_Row) (fun (s1 : Int32 × Int32 × rb_Row × rb_Row × rb_Row × rb_Row × rb_Row × rb_Row × rb_Row × rb_Row × rb_Row) => if 8 ≤ s1.2.1 then some (.inr (s1.1, s1.2.2.1, s1.2.2.2.1, s1.2.2.2.2.1, s1.2.2.2.2.2.1, s1.2.2.2.2.2.2.1, s1.2.2.2.2.2.2.2.1, s1.2.2.2.2.2.2.2.2.1, s1.2.2.2.2.2.2.2.2.2.1, s1.2.2.2.2.2.2.2.2.2.2)) else (XX7_canStep s1.2.2.1 x0).bind fun t10 => if t10 = 0 then (XX7_canStep s1.2.2.1 x1).bind fun t13 => if t13 = 0 then some (.inr (s1.1, s1.2.2.1, s1.2.2.2.1, s1.2.2.2.2.1, s1.2.2.2.2.2.1, s1.2.2.2.2.2.2.1, s1.2.2.2.2.2.2.2.1, s1.2.2.2.2.2.2.2.2.1, s1.2.2.2.2.2.2.2.2.2.1, s1.2.2.2.2.2.2.2.2.2.2)) else (XX7_canStep s1.2.2.1 x0).bind fun t16 => ((if t16 = 0 then some 0 else (XX7_canStep s1.2.2.1 x1).bind fun t22 => if t22 = 0 then some 0 else some 1) : Option (Int32)).bind fun j18 => ((if j18 = 0 then (XX7_canStep s1.2.2.1 x0).bind fun t29 => if t29 = 0 then some 1 else some 0 else some (s1.1 &&& 1)) : Option (Int32)).bind fun j25 => ((if j18 = 0 then some s1.1 else some (s1.1 >>> (1 &&& 31))) : Option (Int32)).bind fun j32 => ((if j25 = 0 then some x0 else some x1) : Option (Int32)).bind fun j36 => (XX7_goStep s1.2.2.1 s1.2.2.2.1 s1.2.2.2.2.1 s1.2.2.2.2.2.1 s1.2.2.2.2.2.2.1 s1.2.2.2.2.2.2.2.1 s1.2.2.2.2.2.2.2.2.1 s1.2.2.2.2.2.2.2.2.2.1 s1.2.2.2.2.2.2.2.2.2.2 j36).bind fun t40 => (rb_pf t40.2.2.2.2.1 13 t40.1).bind fun mf42 => some (.inl (j32, (s1.2.1 + 1), t40.2.1, t40.2.2.1, t40.2.2.2.1, mf42, t40.2.2.2.2.2.1, t40.2.2.2.2.2.2.1, t40.2.2.2.2.2.2.2.1, t40.2.2.2.2.2.2.2.2.1, t40.2.2.2.2.2.2.2.2.2)) else (XX7_canStep s1.2.2.1 x0).bind fun t44 => ((if t44 = 0 then some 0 else (XX7_canStep s1.2.2.1 x1).bind fun t50 => if t50 = 0 then some 0 else some 1) : Option (Int32)).bind fun j46 => ((if j46 = 0 then (XX7_canStep s1.2.2.1 x0).bind fun t57 => if t57 = 0 then some 1 else some 0 else some (s1.1 &&& 1)) : Option (Int32)).bind fun j53 => ((if j46 = 0 then some s1.1 else some (s1.1 >>> (1 &&& 31))) : Option (Int32)).bind fun j60 => ((if j53 = 0 then some x0 else some x1) : Option (Int32)).bind fun j64 => (XX7_goStep s1.2.2.1 s1.2.2.2.1 s1.2.2.2.2.1 s1.2.2.2.2.2.1 s1.2.2.2.2.2.2.1 s1.2.2.2.2.2.2.2.1 s1.2.2.2.2.2.2.2.2.1 s1.2.2.2.2.2.2.2.2.2.1 s1.2.2.2.2.2.2.2.2.2.2 j64).bind fun t68 => (rb_pf t68.2.2.2.2.1 13 t68.1).bind fun mf70 => some (.inl (j60, (s1.2.1 + 1), t68.2.1, t68.2.2.1, t68.2.2.2.1, mf70, t68.2.2.2.2.2.1, t68.2.2.2.2.2.2.1, t68.2.2.2.2.2.2.2.1, t68.2.2.2.2.2.2.2.2.1, t68.2.2.2.2.2.2.2.2.2))) 100000 (x2, 0, a, rd, ag, mf, na, nb, nl, sv, wa)).bind fun q2 => if q2.1 = 0 then (XX7_canStep q2.2.1 x0).bind fun t73 => if t73 = 0 then (XX7_canStep q2.2.1 x1).bind fun t76 => if t76 = 0 then some ((rb_nz 1), q2.2.1, q2.2.2.1, q2.2.2.2.1, q2.2.2.2.2.1, q2.2.2.2.2.2.1, q2.2.2.2.2.2.2.1, q2.2.2.2.2.2.2.2.1, q2.2.2.2.2.2.2.2.2.1, q2.2.2.2.2.2.2.2.2.2) else some ((rb_nz 0), q2.2.1, q2.2.2.1, q2.2.2.2.1, q2.2.2.2.2.1, q2.2.2.2.2.2.1, q2.2.2.2.2.2.2.1, q2.2.2.2.2.2.2.2.1, q2.2.2.2.2.2.2.2.2.1, q2.2.2.2.2.2.2.2.2.2) else some ((rb_nz 0), q2.2.1, q2.2.2.1, q2.2.2.2.1, q2.2.2.2.2.1, q2.2.2.2.2.2.1, q2.2.2.2.2.2.2.1, q2.2.2.2.2.2.2.2.1, q2.2.2.2.2.2.2.2.2.1, q2.2.2.2.2.2.2.2.2.2) else some ((rb_nz 0), q2.2.1, q2.2.2.1, q2.2.2.2.1, q2.2.2.2.2.1, q2.2.2.2.2.2.1, q2.2.2.2.2.2.2.1, q2.2.2.2.2.2.2.2.1, q2.2.2.2.2.2.2.2.2.1, q2.2.2.2.2.2.2.2.2.2)
set_option maxHeartbeats 4000000 in
set_option maxRecDepth 20000 in
theorem ct_X7_tryOrder (μ : rb_Mem) (a : rb_Row) (rd : rb_Row) (ag : rb_Row) (mf : rb_Row) (na : rb_Row) (nb : rb_Row) (nl : rb_Row) (sv : rb_Row) (wa : rb_Row) (x0 : Int32) (x1 : Int32) (x2 : Int32) (o : Int32 × rb_Row × rb_Row × rb_Row × rb_Row × rb_Row × rb_Row × rb_Row × rb_Row × rb_Row) (ha : μ 20 = a) (hrd : μ 21 = rd) (hag : μ 22 = ag) (hmf : μ 19 = mf) (hna : μ 23 = na) (hnb : μ 24 = nb) (hnl : μ 25 = nl) (hsv : μ 26 = sv) (hwa : μ 31 = wa) (h : XX7_tryOrder a rd ag mf na nb nl sv wa x0 x1 x2 = some o) : rb_Ct yX7_tryOrder cX7_tryOrder 8 (some .boolean) 15 [.inr 19, .inl x0, .inl x1, .inl x2] μ (some o.1) (rb_ov μ [(20, o.2.1), (21, o.2.2.1), (22, o.2.2.2.1), (19, o.2.2.2.2.1), (23, o.2.2.2.2.2.1), (24, o.2.2.2.2.2.2.1), (25, o.2.2.2.2.2.2.2.1), (26, o.2.2.2.2.2.2.2.2.1), (31, o.2.2.2.2.2.2.2.2.2)]) := by
  unfold XX7_tryOrder at h
  have hini : rb_ov μ [(20, a), (21, rd), (22, ag), (19, mf), (23, na), (24, nb), (25, nl), (26, sv), (31, wa)] = μ := rb_ov_sf _ _ (And.intro ha (And.intro hrd (And.intro hag (And.intro hmf (And.intro hna (And.intro hnb (And.intro hnl (And.intro hsv (And.intro hwa True.intro)))))))))
  have hfin : ∀ u0 u1 u2 u3 u4 u5 u6 u7 u8 : rb_Row, rb_ov μ [(20, u0), (21, u1), (22, u2), (19, u3), (23, u4), (24, u5), (25, u6), (26, u7), (31, u8)] = rb_ov μ [(20, u0), (21, u1), (22, u2), (19, u3), (23, u4), (24, u5), (25, u6), (26, u7), (31, u8)] := fun u0 u1 u2 u3 u4 u5 u6 u7 u8 => rfl
  refine rb_ctz (w := [(20, a), (21, rd), (22, ag), (19, mf), (23, na), (24, nb), (25, nl), (26, sv), (31, wa)]) rfl pn_7 (Nat.le_of_ble_eq_true rfl) rfl hini ?_
  refine ev_iload_n (v := x2) (pc := 0) dX7_tryOrder_0 rfl ?_
  refine ev_istore (L' := [some (.inr 19), some (.inl x0), some (.inl x1), some (.inl x2), some (.inl x2), none, none, none]) (pc := 1) dX7_tryOrder_1 (Nat.le_of_ble_eq_true rfl) rfl ?_
  refine ev_iconst (v := 0) (pc := 3) dX7_tryOrder_3 ki_0 ?_
  refine ev_istore (L' := [some (.inr 19), some (.inl x0), some (.inl x1), some (.inl x2), some (.inl x2), some (.inl 0), none, none]) (pc := 4) dX7_tryOrder_4 (Nat.le_of_ble_eq_true rfl) rfl ?_
  obtain ⟨q2, l3, h⟩ := rb_bd h
  have hx7 : rb_Ev RX7 cX7_tryOrder 8 (some .boolean) none 15 (some o.1) (rb_ov μ [(20, o.2.1), (21, o.2.2.1), (22, o.2.2.2.1), (19, o.2.2.2.2.1), (23, o.2.2.2.2.2.1), (24, o.2.2.2.2.2.2.1), (25, o.2.2.2.2.2.2.2.1), (26, o.2.2.2.2.2.2.2.2.1), (31, o.2.2.2.2.2.2.2.2.2)]) 119 [some (.inr 19), some (.inl x0), some (.inl x1), none, some (.inl q2.1), none, none, none] [] (rb_ov μ [(20, q2.2.1), (21, q2.2.2.1), (22, q2.2.2.2.1), (19, q2.2.2.2.2.1), (23, q2.2.2.2.2.2.1), (24, q2.2.2.2.2.2.2.1), (25, q2.2.2.2.2.2.2.2.1), (26, q2.2.2.2.2.2.2.2.2.1), (31, q2.2.2.2.2.2.2.2.2.2)]) := by
    refine ev_iload (v := q2.1) (pc := 119) dX7_tryOrder_119 rfl ?_
    by_cases b72 : q2.1 = 0
    · rw [if_pos b72] at h
      refine ev_if_ne_f (t := 144) (pc := 121) dX7_tryOrder_121 (by decide) b72 ?_
      obtain ⟨t73, e74, h⟩ := rb_bd h
      refine ev_aload_n (v := 19) (pc := 124) dX7_tryOrder_124 rfl ?_
      refine ev_iload_n (v := x0) (pc := 125) dX7_tryOrder_125 rfl ?_
      refine ev_cVi1 (pc := 126) dX7_tryOrder_126 mv_X7_canStep lk_RX7_317 rp_19 (ct_X7_canStep _ _ _ _ rfl e74) (Nat.le_of_ble_eq_true rfl) (Nat.le_of_ble_eq_true rfl) ?_
      by_cases b75 : t73 = 0
      · rw [if_pos b75] at h
        refine ev_if_ne_f (t := 144) (pc := 129) dX7_tryOrder_129 (by decide) b75 ?_
        obtain ⟨t76, e77, h⟩ := rb_bd h
        refine ev_aload_n (v := 19) (pc := 132) dX7_tryOrder_132 rfl ?_
        refine ev_iload_n (v := x1) (pc := 133) dX7_tryOrder_133 rfl ?_
        refine ev_cVi1 (pc := 134) dX7_tryOrder_134 mv_X7_canStep lk_RX7_317 rp_19 (ct_X7_canStep _ _ _ _ rfl e77) (Nat.le_of_ble_eq_true rfl) (Nat.le_of_ble_eq_true rfl) ?_
        by_cases b78 : t76 = 0
        · rw [if_pos b78] at h
          refine ev_if_ne_f (t := 144) (pc := 137) dX7_tryOrder_137 (by decide) b78 ?_
          refine ev_iconst (v := 1) (pc := 140) dX7_tryOrder_140 ki_1 ?_
          refine ev_goto (t := 145) (pc := 141) dX7_tryOrder_141 (by decide) ?_
          obtain rfl := Option.some.inj h
          exact ev_iret (pc := 145) dX7_tryOrder_145 rfl rfl rfl (hfin _ _ _ _ _ _ _ _ _)
        · rw [if_neg b78] at h
          refine ev_if_ne_t (t := 144) (pc := 137) dX7_tryOrder_137 (by decide) b78 ?_
          refine ev_iconst (v := 0) (pc := 144) dX7_tryOrder_144 ki_0 ?_
          obtain rfl := Option.some.inj h
          exact ev_iret (pc := 145) dX7_tryOrder_145 rfl rfl rfl (hfin _ _ _ _ _ _ _ _ _)
      · rw [if_neg b75] at h
        refine ev_if_ne_t (t := 144) (pc := 129) dX7_tryOrder_129 (by decide) b75 ?_
        refine ev_iconst (v := 0) (pc := 144) dX7_tryOrder_144 ki_0 ?_
        obtain rfl := Option.some.inj h
        exact ev_iret (pc := 145) dX7_tryOrder_145 rfl rfl rfl (hfin _ _ _ _ _ _ _ _ _)
    · rw [if_neg b72] at h
      refine ev_if_ne_t (t := 144) (pc := 121) dX7_tryOrder_121 (by decide) b72 ?_
      refine ev_iconst (v := 0) (pc := 144) dX7_tryOrder_144 ki_0 ?_
      obtain rfl := Option.some.inj h
      exact ev_iret (pc := 145) dX7_tryOrder_145 rfl rfl rfl (hfin _ _ _ _ _ _ _ _ _)
  refine ev_fg (L := [some (.inr 19), some (.inl x0), some (.inl x1), none, some (.inl x2), some (.inl 0), none, none]) (And.intro rfl (And.intro rfl (And.intro rfl (And.intro rfl (And.intro rfl True.intro))))) ?_
  refine rb_lp_ev (P := fun (s1 : Int32 × Int32 × rb_Row × rb_Row × rb_Row × rb_Row × rb_Row × rb_Row × rb_Row × rb_Row × rb_Row) => rb_Ev RX7 cX7_tryOrder 8 (some .boolean) none 15 (some o.1) (rb_ov μ [(20, o.2.1), (21, o.2.2.1), (22, o.2.2.2.1), (19, o.2.2.2.2.1), (23, o.2.2.2.2.2.1), (24, o.2.2.2.2.2.2.1), (25, o.2.2.2.2.2.2.2.1), (26, o.2.2.2.2.2.2.2.2.1), (31, o.2.2.2.2.2.2.2.2.2)]) 6 [some (.inr 19), some (.inl x0), some (.inl x1), none, some (.inl s1.1), some (.inl s1.2.1), none, none] [] (rb_ov μ [(20, s1.2.2.1), (21, s1.2.2.2.1), (22, s1.2.2.2.2.1), (19, s1.2.2.2.2.2.1), (23, s1.2.2.2.2.2.2.1), (24, s1.2.2.2.2.2.2.2.1), (25, s1.2.2.2.2.2.2.2.2.1), (26, s1.2.2.2.2.2.2.2.2.2.1), (31, s1.2.2.2.2.2.2.2.2.2.2)])) ?_ 100000 (x2, 0, a, rd, ag, mf, na, nb, nl, sv, wa) l3
  intro s1 y4 h ih5 hE6
  refine ev_iload (v := s1.2.1) (pc := 6) dX7_tryOrder_6 rfl ?_
  refine ev_bipush (v := 8) (pc := 8) dX7_tryOrder_8 kb_8 ?_
  by_cases b9 : 8 ≤ s1.2.1
  · rw [if_pos b9] at h
    refine ev_icmp_ge_t (t := 119) (pc := 10) dX7_tryOrder_10 (by decide) b9 ?_
    obtain rfl := Option.some.inj h
    obtain rfl := hE6 _ rfl
    exact ev_fg (L := [some (.inr 19), some (.inl x0), some (.inl x1), none, some (.inl s1.1), none, none, none]) (And.intro rfl (And.intro rfl (And.intro rfl (And.intro rfl True.intro)))) (hx7)
  · rw [if_neg b9] at h
    refine ev_icmp_ge_f (t := 119) (pc := 10) dX7_tryOrder_10 (by decide) b9 ?_
    obtain ⟨t10, e11, h⟩ := rb_bd h
    refine ev_aload_n (v := 19) (pc := 13) dX7_tryOrder_13 rfl ?_
    refine ev_iload_n (v := x0) (pc := 14) dX7_tryOrder_14 rfl ?_
    refine ev_cVi1 (pc := 15) dX7_tryOrder_15 mv_X7_canStep lk_RX7_317 rp_19 (ct_X7_canStep _ _ _ _ rfl e11) (Nat.le_of_ble_eq_true rfl) (Nat.le_of_ble_eq_true rfl) ?_
    by_cases b12 : t10 = 0
    · rw [if_pos b12] at h
      refine ev_if_ne_f (t := 29) (pc := 18) dX7_tryOrder_18 (by decide) b12 ?_
      obtain ⟨t13, e14, h⟩ := rb_bd h
      refine ev_aload_n (v := 19) (pc := 21) dX7_tryOrder_21 rfl ?_
      refine ev_iload_n (v := x1) (pc := 22) dX7_tryOrder_22 rfl ?_
      refine ev_cVi1 (pc := 23) dX7_tryOrder_23 mv_X7_canStep lk_RX7_317 rp_19 (ct_X7_canStep _ _ _ _ rfl e14) (Nat.le_of_ble_eq_true rfl) (Nat.le_of_ble_eq_true rfl) ?_
      by_cases b15 : t13 = 0
      · rw [if_pos b15] at h
        refine ev_if_eq_t (t := 119) (pc := 26) dX7_tryOrder_26 (by decide) b15 ?_
        obtain rfl := Option.some.inj h
        obtain rfl := hE6 _ rfl
        exact ev_fg (L := [some (.inr 19), some (.inl x0), some (.inl x1), none, some (.inl s1.1), none, none, none]) (And.intro rfl (And.intro rfl (And.intro rfl (And.intro rfl True.intro)))) (hx7)
      · rw [if_neg b15] at h
        refine ev_if_eq_f (t := 119) (pc := 26) dX7_tryOrder_26 (by decide) b15 ?_
        obtain ⟨t16, e17, h⟩ := rb_bd h
        refine ev_aload_n (v := 19) (pc := 29) dX7_tryOrder_29 rfl ?_
        refine ev_iload_n (v := x0) (pc := 30) dX7_tryOrder_30 rfl ?_
        refine ev_cVi1 (pc := 31) dX7_tryOrder_31 mv_X7_canStep lk_RX7_317 rp_19 (ct_X7_canStep _ _ _ _ rfl e17) (Nat.le_of_ble_eq_true rfl) (Nat.le_of_ble_eq_true rfl) ?_
        obtain ⟨j18, e19, h⟩ := rb_bd h
        have hj20 : rb_Ev RX7 cX7_tryOrder 8 (some .boolean) none 15 (some o.1) (rb_ov μ [(20, o.2.1), (21, o.2.2.1), (22, o.2.2.2.1), (19, o.2.2.2.2.1), (23, o.2.2.2.2.2.1), (24, o.2.2.2.2.2.2.1), (25, o.2.2.2.2.2.2.2.1), (26, o.2.2.2.2.2.2.2.2.1), (31, o.2.2.2.2.2.2.2.2.2)]) 50 [some (.inr 19), some (.inl x0), some (.inl x1), none, some (.inl s1.1), some (.inl s1.2.1), none, none] [.inl j18] (rb_ov μ [(20, s1.2.2.1), (21, s1.2.2.2.1), (22, s1.2.2.2.2.1), (19, s1.2.2.2.2.2.1), (23, s1.2.2.2.2.2.2.1), (24, s1.2.2.2.2.2.2.2.1), (25, s1.2.2.2.2.2.2.2.2.1), (26, s1.2.2.2.2.2.2.2.2.2.1), (31, s1.2.2.2.2.2.2.2.2.2.2)]) := by
          refine ev_istore (L' := [some (.inr 19), some (.inl x0), some (.inl x1), none, some (.inl s1.1), some (.inl s1.2.1), some (.inl j18), none]) (pc := 50) dX7_tryOrder_50 (Nat.le_of_ble_eq_true rfl) rfl ?_
          refine ev_iload (v := j18) (pc := 52) dX7_tryOrder_52 rfl ?_
          obtain ⟨j25, e26, h⟩ := rb_bd h
          have hj27 : rb_Ev RX7 cX7_tryOrder 8 (some .boolean) none 15 (some o.1) (rb_ov μ [(20, o.2.1), (21, o.2.2.1), (22, o.2.2.2.1), (19, o.2.2.2.2.1), (23, o.2.2.2.2.2.1), (24, o.2.2.2.2.2.2.1), (25, o.2.2.2.2.2.2.2.1), (26, o.2.2.2.2.2.2.2.2.1), (31, o.2.2.2.2.2.2.2.2.2)]) 77 [some (.inr 19), some (.inl x0), some (.inl x1), none, some (.inl s1.1), some (.inl s1.2.1), some (.inl j18), none] [.inl j25] (rb_ov μ [(20, s1.2.2.1), (21, s1.2.2.2.1), (22, s1.2.2.2.2.1), (19, s1.2.2.2.2.2.1), (23, s1.2.2.2.2.2.2.1), (24, s1.2.2.2.2.2.2.2.1), (25, s1.2.2.2.2.2.2.2.2.1), (26, s1.2.2.2.2.2.2.2.2.2.1), (31, s1.2.2.2.2.2.2.2.2.2.2)]) := by
            refine ev_istore (L' := [some (.inr 19), some (.inl x0), some (.inl x1), none, some (.inl s1.1), some (.inl s1.2.1), some (.inl j18), some (.inl j25)]) (pc := 77) dX7_tryOrder_77 (Nat.le_of_ble_eq_true rfl) rfl ?_
            refine ev_iload (v := j18) (pc := 79) dX7_tryOrder_79 rfl ?_
            obtain ⟨j32, e33, h⟩ := rb_bd h
            have hj34 : rb_Ev RX7 cX7_tryOrder 8 (some .boolean) none 15 (some o.1) (rb_ov μ [(20, o.2.1), (21, o.2.2.1), (22, o.2.2.2.1), (19, o.2.2.2.2.1), (23, o.2.2.2.2.2.1), (24, o.2.2.2.2.2.2.1), (25, o.2.2.2.2.2.2.2.1), (26, o.2.2.2.2.2.2.2.2.1), (31, o.2.2.2.2.2.2.2.2.2)]) 93 [some (.inr 19), some (.inl x0), some (.inl x1), none, none, some (.inl s1.2.1), none, some (.inl j25)] [.inl j32] (rb_ov μ [(20, s1.2.2.1), (21, s1.2.2.2.1), (22, s1.2.2.2.2.1), (19, s1.2.2.2.2.2.1), (23, s1.2.2.2.2.2.2.1), (24, s1.2.2.2.2.2.2.2.1), (25, s1.2.2.2.2.2.2.2.2.1), (26, s1.2.2.2.2.2.2.2.2.2.1), (31, s1.2.2.2.2.2.2.2.2.2.2)]) := by
              refine ev_istore (L' := [some (.inr 19), some (.inl x0), some (.inl x1), none, some (.inl j32), some (.inl s1.2.1), none, some (.inl j25)]) (pc := 93) dX7_tryOrder_93 (Nat.le_of_ble_eq_true rfl) rfl ?_
              refine ev_aload_n (v := 19) (pc := 95) dX7_tryOrder_95 rfl ?_
              refine ev_aload_n (v := 19) (pc := 96) dX7_tryOrder_96 rfl ?_
              refine ev_iload (v := j25) (pc := 97) dX7_tryOrder_97 rfl ?_
              obtain ⟨j36, e37, h⟩ := rb_bd h
              have hj38 : rb_Ev RX7 cX7_tryOrder 8 (some .boolean) none 15 (some o.1) (rb_ov μ [(20, o.2.1), (21, o.2.2.1), (22, o.2.2.2.1), (19, o.2.2.2.2.1), (23, o.2.2.2.2.2.1), (24, o.2.2.2.2.2.2.1), (25, o.2.2.2.2.2.2.2.1), (26, o.2.2.2.2.2.2.2.2.1), (31, o.2.2.2.2.2.2.2.2.2)]) 107 [some (.inr 19), some (.inl x0), some (.inl x1), none, some (.inl j32), some (.inl s1.2.1), none, none] [.inl j36, .inr 19, .inr 19] (rb_ov μ [(20, s1.2.2.1), (21, s1.2.2.2.1), (22, s1.2.2.2.2.1), (19, s1.2.2.2.2.2.1), (23, s1.2.2.2.2.2.2.1), (24, s1.2.2.2.2.2.2.2.1), (25, s1.2.2.2.2.2.2.2.2.1), (26, s1.2.2.2.2.2.2.2.2.2.1), (31, s1.2.2.2.2.2.2.2.2.2.2)]) := by
                obtain ⟨t40, e41, h⟩ := rb_bd h
                obtain ⟨mf42, e43, h⟩ := rb_bd h
                refine ev_cVi1w (w' := [(20, t40.2.1), (21, t40.2.2.1), (22, t40.2.2.2.1), (19, t40.2.2.2.2.1), (23, t40.2.2.2.2.2.1), (24, t40.2.2.2.2.2.2.1), (25, t40.2.2.2.2.2.2.2.1), (26, t40.2.2.2.2.2.2.2.2.1), (31, t40.2.2.2.2.2.2.2.2.2)]) (pc := 107) dX7_tryOrder_107 mv_X7_goStep lk_RX7_320 rp_19 (ct_X7_goStep _ _ _ _ _ _ _ _ _ _ _ _ rfl rfl rfl rfl rfl rfl rfl rfl rfl e41) (Nat.le_of_ble_eq_true rfl) (Nat.le_of_ble_eq_true rfl) rfl ?_
                refine ev_putw (w' := [(20, t40.2.1), (21, t40.2.2.1), (22, t40.2.2.2.1), (19, mf42), (23, t40.2.2.2.2.2.1), (24, t40.2.2.2.2.2.2.1), (25, t40.2.2.2.2.2.2.2.1), (26, t40.2.2.2.2.2.2.2.2.1), (31, t40.2.2.2.2.2.2.2.2.2)]) (pc := 110) dX7_tryOrder_110 fp_RX7_323 rfl rfl e43 rfl ?_
                refine ev_iinc (x := s1.2.1) (v := (s1.2.1 + 1)) (L' := [some (.inr 19), some (.inl x0), some (.inl x1), none, some (.inl j32), some (.inl (s1.2.1 + 1)), none, none]) (pc := 113) dX7_tryOrder_113 rfl (kx_1 _) (Nat.le_of_ble_eq_true rfl) rfl ?_
                refine ev_goto (t := 6) (pc := 116) dX7_tryOrder_116 (by decide) ?_
                obtain rfl := Option.some.inj h
                exact ih5 (j32, (s1.2.1 + 1), t40.2.1, t40.2.2.1, t40.2.2.2.1, mf42, t40.2.2.2.2.2.1, t40.2.2.2.2.2.2.1, t40.2.2.2.2.2.2.2.1, t40.2.2.2.2.2.2.2.2.1, t40.2.2.2.2.2.2.2.2.2) rfl
              replace h := e37
              by_cases b39 : j25 = 0
              · rw [if_pos b39] at h
                refine ev_if_ne_f (t := 106) (pc := 99) dX7_tryOrder_99 (by decide) b39 ?_
                refine ev_iload_n (v := x0) (pc := 102) dX7_tryOrder_102 rfl ?_
                refine ev_goto (t := 107) (pc := 103) dX7_tryOrder_103 (by decide) ?_
                obtain rfl := Option.some.inj h
                exact ev_fg (L := [some (.inr 19), some (.inl x0), some (.inl x1), none, some (.inl j32), some (.inl s1.2.1), none, none]) (And.intro rfl (And.intro rfl (And.intro rfl (And.intro rfl (And.intro rfl True.intro))))) (hj38)
              · rw [if_neg b39] at h
                refine ev_if_ne_t (t := 106) (pc := 99) dX7_tryOrder_99 (by decide) b39 ?_
                refine ev_iload_n (v := x1) (pc := 106) dX7_tryOrder_106 rfl ?_
                obtain rfl := Option.some.inj h
                exact ev_fg (L := [some (.inr 19), some (.inl x0), some (.inl x1), none, some (.inl j32), some (.inl s1.2.1), none, none]) (And.intro rfl (And.intro rfl (And.intro rfl (And.intro rfl (And.intro rfl True.intro))))) (hj38)
            replace h := e33
            by_cases b35 : j18 = 0
            · rw [if_pos b35] at h
              refine ev_if_eq_t (t := 91) (pc := 81) dX7_tryOrder_81 (by decide) b35 ?_
              refine ev_iload (v := s1.1) (pc := 91) dX7_tryOrder_91 rfl ?_
              obtain rfl := Option.some.inj h
              exact ev_fg (L := [some (.inr 19), some (.inl x0), some (.inl x1), none, none, some (.inl s1.2.1), none, some (.inl j25)]) (And.intro rfl (And.intro rfl (And.intro rfl (And.intro rfl (And.intro rfl True.intro))))) (hj34)
            · rw [if_neg b35] at h
              refine ev_if_eq_f (t := 91) (pc := 81) dX7_tryOrder_81 (by decide) b35 ?_
              refine ev_iload (v := s1.1) (pc := 84) dX7_tryOrder_84 rfl ?_
              refine ev_iconst (v := 1) (pc := 86) dX7_tryOrder_86 ki_1 ?_
              refine ev_ishr (pc := 87) dX7_tryOrder_87 ?_
              refine ev_goto (t := 93) (pc := 88) dX7_tryOrder_88 (by decide) ?_
              obtain rfl := Option.some.inj h
              exact ev_fg (L := [some (.inr 19), some (.inl x0), some (.inl x1), none, none, some (.inl s1.2.1), none, some (.inl j25)]) (And.intro rfl (And.intro rfl (And.intro rfl (And.intro rfl (And.intro rfl True.intro))))) (hj34)
          replace h := e26
          by_cases b28 : j18 = 0
          · rw [if_pos b28] at h
            refine ev_if_eq_t (t := 64) (pc := 54) dX7_tryOrder_54 (by decide) b28 ?_
            obtain ⟨t29, e30, h⟩ := rb_bd h
            refine ev_aload_n (v := 19) (pc := 64) dX7_tryOrder_64 rfl ?_
            refine ev_iload_n (v := x0) (pc := 65) dX7_tryOrder_65 rfl ?_
            refine ev_cVi1 (pc := 66) dX7_tryOrder_66 mv_X7_canStep lk_RX7_317 rp_19 (ct_X7_canStep _ _ _ _ rfl e30) (Nat.le_of_ble_eq_true rfl) (Nat.le_of_ble_eq_true rfl) ?_
            by_cases b31 : t29 = 0
            · rw [if_pos b31] at h
              refine ev_if_eq_t (t := 76) (pc := 69) dX7_tryOrder_69 (by decide) b31 ?_
              refine ev_iconst (v := 1) (pc := 76) dX7_tryOrder_76 ki_1 ?_
              obtain rfl := Option.some.inj h
              exact hj27
            · rw [if_neg b31] at h
              refine ev_if_eq_f (t := 76) (pc := 69) dX7_tryOrder_69 (by decide) b31 ?_
              refine ev_iconst (v := 0) (pc := 72) dX7_tryOrder_72 ki_0 ?_
              refine ev_goto (t := 77) (pc := 73) dX7_tryOrder_73 (by decide) ?_
              obtain rfl := Option.some.inj h
              exact hj27
          · rw [if_neg b28] at h
            refine ev_if_eq_f (t := 64) (pc := 54) dX7_tryOrder_54 (by decide) b28 ?_
            refine ev_iload (v := s1.1) (pc := 57) dX7_tryOrder_57 rfl ?_
            refine ev_iconst (v := 1) (pc := 59) dX7_tryOrder_59 ki_1 ?_
            refine ev_iand (pc := 60) dX7_tryOrder_60 ?_
            refine ev_goto (t := 77) (pc := 61) dX7_tryOrder_61 (by decide) ?_
            obtain rfl := Option.some.inj h
            exact hj27
        replace h := e19
        by_cases b21 : t16 = 0
        · rw [if_pos b21] at h
          refine ev_if_eq_t (t := 49) (pc := 34) dX7_tryOrder_34 (by decide) b21 ?_
          refine ev_iconst (v := 0) (pc := 49) dX7_tryOrder_49 ki_0 ?_
          obtain rfl := Option.some.inj h
          exact hj20
        · rw [if_neg b21] at h
          refine ev_if_eq_f (t := 49) (pc := 34) dX7_tryOrder_34 (by decide) b21 ?_
          obtain ⟨t22, e23, h⟩ := rb_bd h
          refine ev_aload_n (v := 19) (pc := 37) dX7_tryOrder_37 rfl ?_
          refine ev_iload_n (v := x1) (pc := 38) dX7_tryOrder_38 rfl ?_
          refine ev_cVi1 (pc := 39) dX7_tryOrder_39 mv_X7_canStep lk_RX7_317 rp_19 (ct_X7_canStep _ _ _ _ rfl e23) (Nat.le_of_ble_eq_true rfl) (Nat.le_of_ble_eq_true rfl) ?_
          by_cases b24 : t22 = 0
          · rw [if_pos b24] at h
            refine ev_if_eq_t (t := 49) (pc := 42) dX7_tryOrder_42 (by decide) b24 ?_
            refine ev_iconst (v := 0) (pc := 49) dX7_tryOrder_49 ki_0 ?_
            obtain rfl := Option.some.inj h
            exact hj20
          · rw [if_neg b24] at h
            refine ev_if_eq_f (t := 49) (pc := 42) dX7_tryOrder_42 (by decide) b24 ?_
            refine ev_iconst (v := 1) (pc := 45) dX7_tryOrder_45 ki_1 ?_
            refine ev_goto (t := 50) (pc := 46) dX7_tryOrder_46 (by decide) ?_
            obtain rfl := Option.some.inj h
            exact hj20
    · rw [if_neg b12] at h
      refine ev_if_ne_t (t := 29) (pc := 18) dX7_tryOrder_18 (by decide) b12 ?_
      obtain ⟨t44, e45, h⟩ := rb_bd h
      refine ev_aload_n (v := 19) (pc := 29) dX7_tryOrder_29 rfl ?_
      refine ev_iload_n (v := x0) (pc := 30) dX7_tryOrder_30 rfl ?_
      refine ev_cVi1 (pc := 31) dX7_tryOrder_31 mv_X7_canStep lk_RX7_317 rp_19 (ct_X7_canStep _ _ _ _ rfl e45) (Nat.le_of_ble_eq_true rfl) (Nat.le_of_ble_eq_true rfl) ?_
      obtain ⟨j46, e47, h⟩ := rb_bd h
      have hj48 : rb_Ev RX7 cX7_tryOrder 8 (some .boolean) none 15 (some o.1) (rb_ov μ [(20, o.2.1), (21, o.2.2.1), (22, o.2.2.2.1), (19, o.2.2.2.2.1), (23, o.2.2.2.2.2.1), (24, o.2.2.2.2.2.2.1), (25, o.2.2.2.2.2.2.2.1), (26, o.2.2.2.2.2.2.2.2.1), (31, o.2.2.2.2.2.2.2.2.2)]) 50 [some (.inr 19), some (.inl x0), some (.inl x1), none, some (.inl s1.1), some (.inl s1.2.1), none, none] [.inl j46] (rb_ov μ [(20, s1.2.2.1), (21, s1.2.2.2.1), (22, s1.2.2.2.2.1), (19, s1.2.2.2.2.2.1), (23, s1.2.2.2.2.2.2.1), (24, s1.2.2.2.2.2.2.2.1), (25, s1.2.2.2.2.2.2.2.2.1), (26, s1.2.2.2.2.2.2.2.2.2.1), (31, s1.2.2.2.2.2.2.2.2.2.2)]) := by
        refine ev_istore (L' := [some (.inr 19), some (.inl x0), some (.inl x1), none, some (.inl s1.1), some (.inl s1.2.1), some (.inl j46), none]) (pc := 50) dX7_tryOrder_50 (Nat.le_of_ble_eq_true rfl) rfl ?_
        refine ev_iload (v := j46) (pc := 52) dX7_tryOrder_52 rfl ?_
        obtain ⟨j53, e54, h⟩ := rb_bd h
        have hj55 : rb_Ev RX7 cX7_tryOrder 8 (some .boolean) none 15 (some o.1) (rb_ov μ [(20, o.2.1), (21, o.2.2.1), (22, o.2.2.2.1), (19, o.2.2.2.2.1), (23, o.2.2.2.2.2.1), (24, o.2.2.2.2.2.2.1), (25, o.2.2.2.2.2.2.2.1), (26, o.2.2.2.2.2.2.2.2.1), (31, o.2.2.2.2.2.2.2.2.2)]) 77 [some (.inr 19), some (.inl x0), some (.inl x1), none, some (.inl s1.1), some (.inl s1.2.1), some (.inl j46), none] [.inl j53] (rb_ov μ [(20, s1.2.2.1), (21, s1.2.2.2.1), (22, s1.2.2.2.2.1), (19, s1.2.2.2.2.2.1), (23, s1.2.2.2.2.2.2.1), (24, s1.2.2.2.2.2.2.2.1), (25, s1.2.2.2.2.2.2.2.2.1), (26, s1.2.2.2.2.2.2.2.2.2.1), (31, s1.2.2.2.2.2.2.2.2.2.2)]) := by
          refine ev_istore (L' := [some (.inr 19), some (.inl x0), some (.inl x1), none, some (.inl s1.1), some (.inl s1.2.1), some (.inl j46), some (.inl j53)]) (pc := 77) dX7_tryOrder_77 (Nat.le_of_ble_eq_true rfl) rfl ?_
          refine ev_iload (v := j46) (pc := 79) dX7_tryOrder_79 rfl ?_
          obtain ⟨j60, e61, h⟩ := rb_bd h
          have hj62 : rb_Ev RX7 cX7_tryOrder 8 (some .boolean) none 15 (some o.1) (rb_ov μ [(20, o.2.1), (21, o.2.2.1), (22, o.2.2.2.1), (19, o.2.2.2.2.1), (23, o.2.2.2.2.2.1), (24, o.2.2.2.2.2.2.1), (25, o.2.2.2.2.2.2.2.1), (26, o.2.2.2.2.2.2.2.2.1), (31, o.2.2.2.2.2.2.2.2.2)]) 93 [some (.inr 19), some (.inl x0), some (.inl x1), none, none, some (.inl s1.2.1), none, some (.inl j53)] [.inl j60] (rb_ov μ [(20, s1.2.2.1), (21, s1.2.2.2.1), (22, s1.2.2.2.2.1), (19, s1.2.2.2.2.2.1), (23, s1.2.2.2.2.2.2.1), (24, s1.2.2.2.2.2.2.2.1), (25, s1.2.2.2.2.2.2.2.2.1), (26, s1.2.2.2.2.2.2.2.2.2.1), (31, s1.2.2.2.2.2.2.2.2.2.2)]) := by
            refine ev_istore (L' := [some (.inr 19), some (.inl x0), some (.inl x1), none, some (.inl j60), some (.inl s1.2.1), none, some (.inl j53)]) (pc := 93) dX7_tryOrder_93 (Nat.le_of_ble_eq_true rfl) rfl ?_
            refine ev_aload_n (v := 19) (pc := 95) dX7_tryOrder_95 rfl ?_
            refine ev_aload_n (v := 19) (pc := 96) dX7_tryOrder_96 rfl ?_
            refine ev_iload (v := j53) (pc := 97) dX7_tryOrder_97 rfl ?_
            obtain ⟨j64, e65, h⟩ := rb_bd h
            have hj66 : rb_Ev RX7 cX7_tryOrder 8 (some .boolean) none 15 (some o.1) (rb_ov μ [(20, o.2.1), (21, o.2.2.1), (22, o.2.2.2.1), (19, o.2.2.2.2.1), (23, o.2.2.2.2.2.1), (24, o.2.2.2.2.2.2.1), (25, o.2.2.2.2.2.2.2.1), (26, o.2.2.2.2.2.2.2.2.1), (31, o.2.2.2.2.2.2.2.2.2)]) 107 [some (.inr 19), some (.inl x0), some (.inl x1), none, some (.inl j60), some (.inl s1.2.1), none, none] [.inl j64, .inr 19, .inr 19] (rb_ov μ [(20, s1.2.2.1), (21, s1.2.2.2.1), (22, s1.2.2.2.2.1), (19, s1.2.2.2.2.2.1), (23, s1.2.2.2.2.2.2.1), (24, s1.2.2.2.2.2.2.2.1), (25, s1.2.2.2.2.2.2.2.2.1), (26, s1.2.2.2.2.2.2.2.2.2.1), (31, s1.2.2.2.2.2.2.2.2.2.2)]) := by
              obtain ⟨t68, e69, h⟩ := rb_bd h
              obtain ⟨mf70, e71, h⟩ := rb_bd h
              refine ev_cVi1w (w' := [(20, t68.2.1), (21, t68.2.2.1), (22, t68.2.2.2.1), (19, t68.2.2.2.2.1), (23, t68.2.2.2.2.2.1), (24, t68.2.2.2.2.2.2.1), (25, t68.2.2.2.2.2.2.2.1), (26, t68.2.2.2.2.2.2.2.2.1), (31, t68.2.2.2.2.2.2.2.2.2)]) (pc := 107) dX7_tryOrder_107 mv_X7_goStep lk_RX7_320 rp_19 (ct_X7_goStep _ _ _ _ _ _ _ _ _ _ _ _ rfl rfl rfl rfl rfl rfl rfl rfl rfl e69) (Nat.le_of_ble_eq_true rfl) (Nat.le_of_ble_eq_true rfl) rfl ?_
              refine ev_putw (w' := [(20, t68.2.1), (21, t68.2.2.1), (22, t68.2.2.2.1), (19, mf70), (23, t68.2.2.2.2.2.1), (24, t68.2.2.2.2.2.2.1), (25, t68.2.2.2.2.2.2.2.1), (26, t68.2.2.2.2.2.2.2.2.1), (31, t68.2.2.2.2.2.2.2.2.2)]) (pc := 110) dX7_tryOrder_110 fp_RX7_323 rfl rfl e71 rfl ?_
              refine ev_iinc (x := s1.2.1) (v := (s1.2.1 + 1)) (L' := [some (.inr 19), some (.inl x0), some (.inl x1), none, some (.inl j60), some (.inl (s1.2.1 + 1)), none, none]) (pc := 113) dX7_tryOrder_113 rfl (kx_1 _) (Nat.le_of_ble_eq_true rfl) rfl ?_
              refine ev_goto (t := 6) (pc := 116) dX7_tryOrder_116 (by decide) ?_
              obtain rfl := Option.some.inj h
              exact ih5 (j60, (s1.2.1 + 1), t68.2.1, t68.2.2.1, t68.2.2.2.1, mf70, t68.2.2.2.2.2.1, t68.2.2.2.2.2.2.1, t68.2.2.2.2.2.2.2.1, t68.2.2.2.2.2.2.2.2.1, t68.2.2.2.2.2.2.2.2.2) rfl
            replace h := e65
            by_cases b67 : j53 = 0
            · rw [if_pos b67] at h
              refine ev_if_ne_f (t := 106) (pc := 99) dX7_tryOrder_99 (by decide) b67 ?_
              refine ev_iload_n (v := x0) (pc := 102) dX7_tryOrder_102 rfl ?_
              refine ev_goto (t := 107) (pc := 103) dX7_tryOrder_103 (by decide) ?_
              obtain rfl := Option.some.inj h
              exact ev_fg (L := [some (.inr 19), some (.inl x0), some (.inl x1), none, some (.inl j60), some (.inl s1.2.1), none, none]) (And.intro rfl (And.intro rfl (And.intro rfl (And.intro rfl (And.intro rfl True.intro))))) (hj66)
            · rw [if_neg b67] at h
              refine ev_if_ne_t (t := 106) (pc := 99) dX7_tryOrder_99 (by decide) b67 ?_
              refine ev_iload_n (v := x1) (pc := 106) dX7_tryOrder_106 rfl ?_
              obtain rfl := Option.some.inj h
              exact ev_fg (L := [some (.inr 19), some (.inl x0), some (.inl x1), none, some (.inl j60), some (.inl s1.2.1), none, none]) (And.intro rfl (And.intro rfl (And.intro rfl (And.intro rfl (And.intro rfl True.intro))))) (hj66)
          replace h := e61
          by_cases b63 : j46 = 0
          · rw [if_pos b63] at h
            refine ev_if_eq_t (t := 91) (pc := 81) dX7_tryOrder_81 (by decide) b63 ?_
            refine ev_iload (v := s1.1) (pc := 91) dX7_tryOrder_91 rfl ?_
            obtain rfl := Option.some.inj h
            exact ev_fg (L := [some (.inr 19), some (.inl x0), some (.inl x1), none, none, some (.inl s1.2.1), none, some (.inl j53)]) (And.intro rfl (And.intro rfl (And.intro rfl (And.intro rfl (And.intro rfl True.intro))))) (hj62)
          · rw [if_neg b63] at h
            refine ev_if_eq_f (t := 91) (pc := 81) dX7_tryOrder_81 (by decide) b63 ?_
            refine ev_iload (v := s1.1) (pc := 84) dX7_tryOrder_84 rfl ?_
            refine ev_iconst (v := 1) (pc := 86) dX7_tryOrder_86 ki_1 ?_
            refine ev_ishr (pc := 87) dX7_tryOrder_87 ?_
            refine ev_goto (t := 93) (pc := 88) dX7_tryOrder_88 (by decide) ?_
            obtain rfl := Option.some.inj h
            exact ev_fg (L := [some (.inr 19), some (.inl x0), some (.inl x1), none, none, some (.inl s1.2.1), none, some (.inl j53)]) (And.intro rfl (And.intro rfl (And.intro rfl (And.intro rfl (And.intro rfl True.intro))))) (hj62)
        replace h := e54
        by_cases b56 : j46 = 0
        · rw [if_pos b56] at h
          refine ev_if_eq_t (t := 64) (pc := 54) dX7_tryOrder_54 (by decide) b56 ?_
          obtain ⟨t57, e58, h⟩ := rb_bd h
          refine ev_aload_n (v := 19) (pc := 64) dX7_tryOrder_64 rfl ?_
          refine ev_iload_n (v := x0) (pc := 65) dX7_tryOrder_65 rfl ?_
          refine ev_cVi1 (pc := 66) dX7_tryOrder_66 mv_X7_canStep lk_RX7_317 rp_19 (ct_X7_canStep _ _ _ _ rfl e58) (Nat.le_of_ble_eq_true rfl) (Nat.le_of_ble_eq_true rfl) ?_
          by_cases b59 : t57 = 0
          · rw [if_pos b59] at h
            refine ev_if_eq_t (t := 76) (pc := 69) dX7_tryOrder_69 (by decide) b59 ?_
            refine ev_iconst (v := 1) (pc := 76) dX7_tryOrder_76 ki_1 ?_
            obtain rfl := Option.some.inj h
            exact hj55
          · rw [if_neg b59] at h
            refine ev_if_eq_f (t := 76) (pc := 69) dX7_tryOrder_69 (by decide) b59 ?_
            refine ev_iconst (v := 0) (pc := 72) dX7_tryOrder_72 ki_0 ?_
            refine ev_goto (t := 77) (pc := 73) dX7_tryOrder_73 (by decide) ?_
            obtain rfl := Option.some.inj h
            exact hj55
        · rw [if_neg b56] at h
          refine ev_if_eq_f (t := 64) (pc := 54) dX7_tryOrder_54 (by decide) b56 ?_
          refine ev_iload (v := s1.1) (pc := 57) dX7_tryOrder_57 rfl ?_
          refine ev_iconst (v := 1) (pc := 59) dX7_tryOrder_59 ki_1 ?_
          refine ev_iand (pc := 60) dX7_tryOrder_60 ?_
          refine ev_goto (t := 77) (pc := 61) dX7_tryOrder_61 (by decide) ?_
          obtain rfl := Option.some.inj h
          exact hj55
      replace h := e47
      by_cases b49 : t44 = 0
      · rw [if_pos b49] at h
        refine ev_if_eq_t (t := 49) (pc := 34) dX7_tryOrder_34 (by decide) b49 ?_
        refine ev_iconst (v := 0) (pc := 49) dX7_tryOrder_49 ki_0 ?_
        obtain rfl := Option.some.inj h
        exact hj48
      · rw [if_neg b49] at h
        refine ev_if_eq_f (t := 49) (pc := 34) dX7_tryOrder_34 (by decide) b49 ?_
        obtain ⟨t50, e51, h⟩ := rb_bd h
        refine ev_aload_n (v := 19) (pc := 37) dX7_tryOrder_37 rfl ?_
        refine ev_iload_n (v := x1) (pc := 38) dX7_tryOrder_38 rfl ?_
        refine ev_cVi1 (pc := 39) dX7_tryOrder_39 mv_X7_canStep lk_RX7_317 rp_19 (ct_X7_canStep _ _ _ _ rfl e51) (Nat.le_of_ble_eq_true rfl) (Nat.le_of_ble_eq_true rfl) ?_
        by_cases b52 : t50 = 0
        · rw [if_pos b52] at h
          refine ev_if_eq_t (t := 49) (pc := 42) dX7_tryOrder_42 (by decide) b52 ?_
          refine ev_iconst (v := 0) (pc := 49) dX7_tryOrder_49 ki_0 ?_
          obtain rfl := Option.some.inj h
          exact hj48
        · rw [if_neg b52] at h
          refine ev_if_eq_f (t := 49) (pc := 42) dX7_tryOrder_42 (by decide) b52 ?_
          refine ev_iconst (v := 1) (pc := 45) dX7_tryOrder_45 ki_1 ?_
          refine ev_goto (t := 50) (pc := 46) dX7_tryOrder_46 (by decide) ?_
          obtain rfl := Option.some.inj h
          exact hj48
def XX7_tallyNow (rd : rb_Row) (ta : rb_Row) (a : rb_Row) (sd : rb_Row) (x0 : Int32) (x1 : Int32) : Option (rb_Row × rb_Row) := (XX7_ofTask a x0 5).bind fun t1 => (XX7_ofTask a x1 5).bind fun t3 => (XX7_taskAt x0 5).bind fun t5 => (rb_rd sd 796 t5).bind fun v7 => (XX7_taskAt x1 5).bind fun t9 => (rb_rd sd 796 t9).bind fun v11 => (XX7_layReady rd a).bind fun t13 => (rb_rd ta 5 0).bind fun v15 => (rb_wr ta 5 0 (v15 + 1)).bind fun ta17 => (rb_rd ta17 5 1).bind fun v19 => (XX7_isAsleep a x0).bind fun t21 => ((if t21 = 0 then (XX7_isAsleep a x1).bind fun t27 => if t27 = 0 then some 0 else some 1 else some 1) : Option (Int32)).bind fun j23 => (rb_wr ta17 5 1 (v19 + j23)).bind fun ta30 => (XX7_isAsleep a x0).bind fun t32 => ((if t32 = 0 then (XX7_isAsleep a x1).bind fun t38 => if t38 = 0 then some 0 else (XX7_ofTask a x1 0).bind fun t41 => (XX7_showsOf a t13 t41).bind fun t43 => if t43 ≤ 0 then some 0 else some 1 else (XX7_ofTask a x0 0).bind fun t46 => (XX7_showsOf a t13 t46).bind fun t48 => if 0 < t48 then some 1 else (XX7_isAsleep a x1).bind fun t51 => if t51 = 0 then some 0 else (XX7_ofTask a x1 0).bind fun t54 => (XX7_showsOf a t13 t54).bind fun t56 => if t56 ≤ 0 then some 0 else some 1) : Option (Int32)).bind fun j34 => (rb_rd ta30 5 2).bind fun v59 => ((if j34 = 0 then some 0 else some 1) : Option (Int32)).bind fun j61 => (rb_wr ta30 5 2 (v59 + j61)).bind fun ta65 => (rb_rd ta65 5 3).bind fun v67 => ((if v67 < 0 then (rb_wr ta65 5 3 (((t1 + t3) - v7) - v11)).bind fun ta73 => some ta73 else (rb_rd ta65 5 3).bind fun v75 => if v75 ≤ (((t1 + t3) - v7) - v11) then some ta65 else (rb_wr ta65 5 3 (((t1 + t3) - v7) - v11)).bind fun ta78 => some ta78) : Option (rb_Row)).bind fun j69 => (rb_rd j69 5 4).bind fun v80 => if (((t1 + t3) - v7) - v11) ≤ v80 then some (t13, j69) else (rb_wr j69 5 4 (((t1 + t3) - v7) - v11)).bind fun ta83 => some (t13, ta83)
set_option maxHeartbeats 4000000 in
set_option maxRecDepth 20000 in
theorem ct_X7_tallyNow (μ : rb_Mem) (rd : rb_Row) (ta : rb_Row) (a : rb_Row) (sd : rb_Row) (x0 : Int32) (x1 : Int32) (o : rb_Row × rb_Row) (hrd : μ 21 = rd) (hta : μ 30 = ta) (ha : μ 20 = a) (hsd : μ 29 = sd) (h : XX7_tallyNow rd ta a sd x0 x1 = some o) : rb_Ct yX7_tallyNow cX7_tallyNow 5 none 6 [.inr 19, .inl x0, .inl x1] μ none (rb_ov μ [(21, o.1), (30, o.2)]) := by
  unfold XX7_tallyNow at h
  have hini : rb_ov μ [(21, rd), (30, ta), (20, a), (29, sd)] = μ := rb_ov_sf _ _ (And.intro hrd (And.intro hta (And.intro ha (And.intro hsd True.intro))))
  have hfin : ∀ u0 u1 : rb_Row, rb_ov μ [(21, u0), (30, u1), (20, a), (29, sd)] = rb_ov μ [(21, u0), (30, u1)] := fun u0 u1 => rb_ov_ap _ [(21, u0), (30, u1)] _ (And.intro ha (And.intro hsd True.intro))
  refine rb_ctv (w := [(21, rd), (30, ta), (20, a), (29, sd)]) rfl pn_7 (Nat.le_of_ble_eq_true rfl) rfl hini ?_
  obtain ⟨t1, e2, h⟩ := rb_bd h
  obtain ⟨t3, e4, h⟩ := rb_bd h
  obtain ⟨t5, e6, h⟩ := rb_bd h
  obtain ⟨v7, e8, h⟩ := rb_bd h
  obtain ⟨t9, e10, h⟩ := rb_bd h
  obtain ⟨v11, e12, h⟩ := rb_bd h
  obtain ⟨t13, e14, h⟩ := rb_bd h
  obtain ⟨v15, e16, h⟩ := rb_bd h
  obtain ⟨ta17, e18, h⟩ := rb_bd h
  obtain ⟨v19, e20, h⟩ := rb_bd h
  obtain ⟨t21, e22, h⟩ := rb_bd h
  refine ev_aload_n (v := 19) (pc := 0) dX7_tallyNow_0 rfl ?_
  refine ev_iload_n (v := x0) (pc := 1) dX7_tallyNow_1 rfl ?_
  refine ev_iconst (v := 5) (pc := 2) dX7_tallyNow_2 ki_5 ?_
  refine ev_cVi2 (pc := 3) dX7_tallyNow_3 mv_X7_ofTask lk_RX7_84 rp_19 (ct_X7_ofTask _ _ _ _ _ rfl e2) (Nat.le_of_ble_eq_true rfl) (Nat.le_of_ble_eq_true rfl) ?_
  refine ev_aload_n (v := 19) (pc := 6) dX7_tallyNow_6 rfl ?_
  refine ev_iload_n (v := x1) (pc := 7) dX7_tallyNow_7 rfl ?_
  refine ev_iconst (v := 5) (pc := 8) dX7_tallyNow_8 ki_5 ?_
  refine ev_cVi2 (pc := 9) dX7_tallyNow_9 mv_X7_ofTask lk_RX7_84 rp_19 (ct_X7_ofTask _ _ _ _ _ rfl e4) (Nat.le_of_ble_eq_true rfl) (Nat.le_of_ble_eq_true rfl) ?_
  refine ev_iadd (pc := 12) dX7_tallyNow_12 ?_
  refine ev_aload_n (v := 19) (pc := 13) dX7_tallyNow_13 rfl ?_
  refine ev_getr (q := 29) (pc := 14) dX7_tallyNow_14 fl_RX7_38 rfl rfl ?_
  refine ev_iload_n (v := x0) (pc := 17) dX7_tallyNow_17 rfl ?_
  refine ev_iconst (v := 5) (pc := 18) dX7_tallyNow_18 ki_5 ?_
  refine ev_cSi2 (pc := 19) dX7_tallyNow_19 ms_X7_taskAt lk_RX7_63 (ct_X7_taskAt _ _ _ _ e6) (Nat.le_of_ble_eq_true rfl) (Nat.le_of_ble_eq_true rfl) ?_
  refine ev_iald (pc := 22) dX7_tallyNow_22 rfl e8 ?_
  refine ev_isub (pc := 23) dX7_tallyNow_23 ?_
  refine ev_aload_n (v := 19) (pc := 24) dX7_tallyNow_24 rfl ?_
  refine ev_getr (q := 29) (pc := 25) dX7_tallyNow_25 fl_RX7_38 rfl rfl ?_
  refine ev_iload_n (v := x1) (pc := 28) dX7_tallyNow_28 rfl ?_
  refine ev_iconst (v := 5) (pc := 29) dX7_tallyNow_29 ki_5 ?_
  refine ev_cSi2 (pc := 30) dX7_tallyNow_30 ms_X7_taskAt lk_RX7_63 (ct_X7_taskAt _ _ _ _ e10) (Nat.le_of_ble_eq_true rfl) (Nat.le_of_ble_eq_true rfl) ?_
  refine ev_iald (pc := 33) dX7_tallyNow_33 rfl e12 ?_
  refine ev_isub (pc := 34) dX7_tallyNow_34 ?_
  refine ev_istore_n (L' := [some (.inr 19), some (.inl x0), some (.inl x1), some (.inl (((t1 + t3) - v7) - v11)), none]) (pc := 35) dX7_tallyNow_35 (Nat.le_of_ble_eq_true rfl) rfl ?_
  refine ev_aload_n (v := 19) (pc := 36) dX7_tallyNow_36 rfl ?_
  refine ev_cVv0w (w' := [(21, t13), (30, ta), (20, a), (29, sd)]) (pc := 37) dX7_tallyNow_37 mv_X7_layReady lk_RX7_156 rp_19 (ct_X7_layReady _ _ _ _ rfl rfl e14) (Nat.le_of_ble_eq_true rfl) (Nat.le_of_ble_eq_true rfl) rfl ?_
  refine ev_aload_n (v := 19) (pc := 40) dX7_tallyNow_40 rfl ?_
  refine ev_getr (q := 30) (pc := 41) dX7_tallyNow_41 fl_RX7_41 rfl rfl ?_
  refine ev_iconst (v := 0) (pc := 44) dX7_tallyNow_44 ki_0 ?_
  refine ev_dup2 (pc := 45) dX7_tallyNow_45 ?_
  refine ev_iald (pc := 46) dX7_tallyNow_46 rfl e16 ?_
  refine ev_iconst (v := 1) (pc := 47) dX7_tallyNow_47 ki_1 ?_
  refine ev_iadd (pc := 48) dX7_tallyNow_48 ?_
  refine ev_iast (w' := [(21, t13), (30, ta17), (20, a), (29, sd)]) (pc := 49) dX7_tallyNow_49 rfl e18 rfl ?_
  refine ev_aload_n (v := 19) (pc := 50) dX7_tallyNow_50 rfl ?_
  refine ev_getr (q := 30) (pc := 51) dX7_tallyNow_51 fl_RX7_41 rfl rfl ?_
  refine ev_iconst (v := 1) (pc := 54) dX7_tallyNow_54 ki_1 ?_
  refine ev_dup2 (pc := 55) dX7_tallyNow_55 ?_
  refine ev_iald (pc := 56) dX7_tallyNow_56 rfl e20 ?_
  refine ev_aload_n (v := 19) (pc := 57) dX7_tallyNow_57 rfl ?_
  refine ev_iload_n (v := x0) (pc := 58) dX7_tallyNow_58 rfl ?_
  refine ev_cVi1 (pc := 59) dX7_tallyNow_59 mv_X7_isAsleep lk_RX7_250 rp_19 (ct_X7_isAsleep _ _ _ _ rfl e22) (Nat.le_of_ble_eq_true rfl) (Nat.le_of_ble_eq_true rfl) ?_
  obtain ⟨j23, e24, h⟩ := rb_bd h
  have hj25 : rb_Ev RX7 cX7_tallyNow 5 none none 6 none (rb_ov μ [(21, o.1), (30, o.2)]) 78 [some (.inr 19), some (.inl x0), some (.inl x1), some (.inl (((t1 + t3) - v7) - v11)), none] [.inl j23, .inl v19, .inl 1, .inr 30] (rb_ov μ [(21, t13), (30, ta17), (20, a), (29, sd)]) := by
    obtain ⟨ta30, e31, h⟩ := rb_bd h
    obtain ⟨t32, e33, h⟩ := rb_bd h
    refine ev_iadd (pc := 78) dX7_tallyNow_78 ?_
    refine ev_iast (w' := [(21, t13), (30, ta30), (20, a), (29, sd)]) (pc := 79) dX7_tallyNow_79 rfl e31 rfl ?_
    refine ev_aload_n (v := 19) (pc := 80) dX7_tallyNow_80 rfl ?_
    refine ev_iload_n (v := x0) (pc := 81) dX7_tallyNow_81 rfl ?_
    refine ev_cVi1 (pc := 82) dX7_tallyNow_82 mv_X7_isAsleep lk_RX7_250 rp_19 (ct_X7_isAsleep _ _ _ _ rfl e33) (Nat.le_of_ble_eq_true rfl) (Nat.le_of_ble_eq_true rfl) ?_
    obtain ⟨j34, e35, h⟩ := rb_bd h
    have hj36 : rb_Ev RX7 cX7_tallyNow 5 none none 6 none (rb_ov μ [(21, o.1), (30, o.2)]) 127 [some (.inr 19), none, none, some (.inl (((t1 + t3) - v7) - v11)), none] [.inl j34] (rb_ov μ [(21, t13), (30, ta30), (20, a), (29, sd)]) := by
      obtain ⟨v59, e60, h⟩ := rb_bd h
      refine ev_istore (L' := [some (.inr 19), none, none, some (.inl (((t1 + t3) - v7) - v11)), some (.inl j34)]) (pc := 127) dX7_tallyNow_127 (Nat.le_of_ble_eq_true rfl) rfl ?_
      refine ev_aload_n (v := 19) (pc := 129) dX7_tallyNow_129 rfl ?_
      refine ev_getr (q := 30) (pc := 130) dX7_tallyNow_130 fl_RX7_41 rfl rfl ?_
      refine ev_iconst (v := 2) (pc := 133) dX7_tallyNow_133 ki_2 ?_
      refine ev_dup2 (pc := 134) dX7_tallyNow_134 ?_
      refine ev_iald (pc := 135) dX7_tallyNow_135 rfl e60 ?_
      refine ev_iload (v := j34) (pc := 136) dX7_tallyNow_136 rfl ?_
      obtain ⟨j61, e62, h⟩ := rb_bd h
      have hj63 : rb_Ev RX7 cX7_tallyNow 5 none none 6 none (rb_ov μ [(21, o.1), (30, o.2)]) 146 [some (.inr 19), none, none, some (.inl (((t1 + t3) - v7) - v11)), none] [.inl j61, .inl v59, .inl 2, .inr 30] (rb_ov μ [(21, t13), (30, ta30), (20, a), (29, sd)]) := by
        obtain ⟨ta65, e66, h⟩ := rb_bd h
        obtain ⟨v67, e68, h⟩ := rb_bd h
        refine ev_iadd (pc := 146) dX7_tallyNow_146 ?_
        refine ev_iast (w' := [(21, t13), (30, ta65), (20, a), (29, sd)]) (pc := 147) dX7_tallyNow_147 rfl e66 rfl ?_
        refine ev_aload_n (v := 19) (pc := 148) dX7_tallyNow_148 rfl ?_
        refine ev_getr (q := 30) (pc := 149) dX7_tallyNow_149 fl_RX7_41 rfl rfl ?_
        refine ev_iconst (v := 3) (pc := 152) dX7_tallyNow_152 ki_3 ?_
        refine ev_iald (pc := 153) dX7_tallyNow_153 rfl e68 ?_
        obtain ⟨j69, e70, h⟩ := rb_bd h
        have hj71 : rb_Ev RX7 cX7_tallyNow 5 none none 6 none (rb_ov μ [(21, o.1), (30, o.2)]) 174 [some (.inr 19), none, none, some (.inl (((t1 + t3) - v7) - v11)), none] [] (rb_ov μ [(21, t13), (30, j69), (20, a), (29, sd)]) := by
          obtain ⟨v80, e81, h⟩ := rb_bd h
          refine ev_iload_n (v := (((t1 + t3) - v7) - v11)) (pc := 174) dX7_tallyNow_174 rfl ?_
          refine ev_aload_n (v := 19) (pc := 175) dX7_tallyNow_175 rfl ?_
          refine ev_getr (q := 30) (pc := 176) dX7_tallyNow_176 fl_RX7_41 rfl rfl ?_
          refine ev_iconst (v := 4) (pc := 179) dX7_tallyNow_179 ki_4 ?_
          refine ev_iald (pc := 180) dX7_tallyNow_180 rfl e81 ?_
          by_cases b82 : (((t1 + t3) - v7) - v11) ≤ v80
          · rw [if_pos b82] at h
            refine ev_icmp_le_t (t := 191) (pc := 181) dX7_tallyNow_181 (by decide) b82 ?_
            obtain rfl := Option.some.inj h
            exact ev_ret (pc := 191) dX7_tallyNow_191 rfl rfl (hfin _ _)
          · rw [if_neg b82] at h
            refine ev_icmp_le_f (t := 191) (pc := 181) dX7_tallyNow_181 (by decide) b82 ?_
            obtain ⟨ta83, e84, h⟩ := rb_bd h
            refine ev_aload_n (v := 19) (pc := 184) dX7_tallyNow_184 rfl ?_
            refine ev_getr (q := 30) (pc := 185) dX7_tallyNow_185 fl_RX7_41 rfl rfl ?_
            refine ev_iconst (v := 4) (pc := 188) dX7_tallyNow_188 ki_4 ?_
            refine ev_iload_n (v := (((t1 + t3) - v7) - v11)) (pc := 189) dX7_tallyNow_189 rfl ?_
            refine ev_iast (w' := [(21, t13), (30, ta83), (20, a), (29, sd)]) (pc := 190) dX7_tallyNow_190 rfl e84 rfl ?_
            obtain rfl := Option.some.inj h
            exact ev_ret (pc := 191) dX7_tallyNow_191 rfl rfl (hfin _ _)
        replace h := e70
        by_cases b72 : v67 < 0
        · rw [if_pos b72] at h
          refine ev_if_lt_t (t := 167) (pc := 154) dX7_tallyNow_154 (by decide) b72 ?_
          obtain ⟨ta73, e74, h⟩ := rb_bd h
          refine ev_aload_n (v := 19) (pc := 167) dX7_tallyNow_167 rfl ?_
          refine ev_getr (q := 30) (pc := 168) dX7_tallyNow_168 fl_RX7_41 rfl rfl ?_
          refine ev_iconst (v := 3) (pc := 171) dX7_tallyNow_171 ki_3 ?_
          refine ev_iload_n (v := (((t1 + t3) - v7) - v11)) (pc := 172) dX7_tallyNow_172 rfl ?_
          refine ev_iast (w' := [(21, t13), (30, ta73), (20, a), (29, sd)]) (pc := 173) dX7_tallyNow_173 rfl e74 rfl ?_
          obtain rfl := Option.some.inj h
          exact hj71
        · rw [if_neg b72] at h
          refine ev_if_lt_f (t := 167) (pc := 154) dX7_tallyNow_154 (by decide) b72 ?_
          obtain ⟨v75, e76, h⟩ := rb_bd h
          refine ev_iload_n (v := (((t1 + t3) - v7) - v11)) (pc := 157) dX7_tallyNow_157 rfl ?_
          refine ev_aload_n (v := 19) (pc := 158) dX7_tallyNow_158 rfl ?_
          refine ev_getr (q := 30) (pc := 159) dX7_tallyNow_159 fl_RX7_41 rfl rfl ?_
          refine ev_iconst (v := 3) (pc := 162) dX7_tallyNow_162 ki_3 ?_
          refine ev_iald (pc := 163) dX7_tallyNow_163 rfl e76 ?_
          by_cases b77 : v75 ≤ (((t1 + t3) - v7) - v11)
          · rw [if_pos b77] at h
            refine ev_icmp_ge_t (t := 174) (pc := 164) dX7_tallyNow_164 (by decide) b77 ?_
            obtain rfl := Option.some.inj h
            exact hj71
          · rw [if_neg b77] at h
            refine ev_icmp_ge_f (t := 174) (pc := 164) dX7_tallyNow_164 (by decide) b77 ?_
            obtain ⟨ta78, e79, h⟩ := rb_bd h
            refine ev_aload_n (v := 19) (pc := 167) dX7_tallyNow_167 rfl ?_
            refine ev_getr (q := 30) (pc := 168) dX7_tallyNow_168 fl_RX7_41 rfl rfl ?_
            refine ev_iconst (v := 3) (pc := 171) dX7_tallyNow_171 ki_3 ?_
            refine ev_iload_n (v := (((t1 + t3) - v7) - v11)) (pc := 172) dX7_tallyNow_172 rfl ?_
            refine ev_iast (w' := [(21, t13), (30, ta78), (20, a), (29, sd)]) (pc := 173) dX7_tallyNow_173 rfl e79 rfl ?_
            obtain rfl := Option.some.inj h
            exact hj71
      replace h := e62
      by_cases b64 : j34 = 0
      · rw [if_pos b64] at h
        refine ev_if_eq_t (t := 145) (pc := 138) dX7_tallyNow_138 (by decide) b64 ?_
        refine ev_iconst (v := 0) (pc := 145) dX7_tallyNow_145 ki_0 ?_
        obtain rfl := Option.some.inj h
        exact ev_fg (L := [some (.inr 19), none, none, some (.inl (((t1 + t3) - v7) - v11)), none]) (And.intro rfl (And.intro rfl True.intro)) (hj63)
      · rw [if_neg b64] at h
        refine ev_if_eq_f (t := 145) (pc := 138) dX7_tallyNow_138 (by decide) b64 ?_
        refine ev_iconst (v := 1) (pc := 141) dX7_tallyNow_141 ki_1 ?_
        refine ev_goto (t := 146) (pc := 142) dX7_tallyNow_142 (by decide) ?_
        obtain rfl := Option.some.inj h
        exact ev_fg (L := [some (.inr 19), none, none, some (.inl (((t1 + t3) - v7) - v11)), none]) (And.intro rfl (And.intro rfl True.intro)) (hj63)
    replace h := e35
    by_cases b37 : t32 = 0
    · rw [if_pos b37] at h
      refine ev_if_eq_t (t := 101) (pc := 85) dX7_tallyNow_85 (by decide) b37 ?_
      obtain ⟨t38, e39, h⟩ := rb_bd h
      refine ev_aload_n (v := 19) (pc := 101) dX7_tallyNow_101 rfl ?_
      refine ev_iload_n (v := x1) (pc := 102) dX7_tallyNow_102 rfl ?_
      refine ev_cVi1 (pc := 103) dX7_tallyNow_103 mv_X7_isAsleep lk_RX7_250 rp_19 (ct_X7_isAsleep _ _ _ _ rfl e39) (Nat.le_of_ble_eq_true rfl) (Nat.le_of_ble_eq_true rfl) ?_
      by_cases b40 : t38 = 0
      · rw [if_pos b40] at h
        refine ev_if_eq_t (t := 126) (pc := 106) dX7_tallyNow_106 (by decide) b40 ?_
        refine ev_iconst (v := 0) (pc := 126) dX7_tallyNow_126 ki_0 ?_
        obtain rfl := Option.some.inj h
        exact ev_fg (L := [some (.inr 19), none, none, some (.inl (((t1 + t3) - v7) - v11)), none]) (And.intro rfl (And.intro rfl True.intro)) (hj36)
      · rw [if_neg b40] at h
        refine ev_if_eq_f (t := 126) (pc := 106) dX7_tallyNow_106 (by decide) b40 ?_
        obtain ⟨t41, e42, h⟩ := rb_bd h
        obtain ⟨t43, e44, h⟩ := rb_bd h
        refine ev_aload_n (v := 19) (pc := 109) dX7_tallyNow_109 rfl ?_
        refine ev_aload_n (v := 19) (pc := 110) dX7_tallyNow_110 rfl ?_
        refine ev_iload_n (v := x1) (pc := 111) dX7_tallyNow_111 rfl ?_
        refine ev_iconst (v := 0) (pc := 112) dX7_tallyNow_112 ki_0 ?_
        refine ev_cVi2 (pc := 113) dX7_tallyNow_113 mv_X7_ofTask lk_RX7_84 rp_19 (ct_X7_ofTask _ _ _ _ _ rfl e42) (Nat.le_of_ble_eq_true rfl) (Nat.le_of_ble_eq_true rfl) ?_
        refine ev_cVi1 (pc := 116) dX7_tallyNow_116 mv_X7_showsOf lk_RX7_146 rp_19 (ct_X7_showsOf _ _ _ _ _ rfl rfl e44) (Nat.le_of_ble_eq_true rfl) (Nat.le_of_ble_eq_true rfl) ?_
        by_cases b45 : t43 ≤ 0
        · rw [if_pos b45] at h
          refine ev_if_le_t (t := 126) (pc := 119) dX7_tallyNow_119 (by decide) b45 ?_
          refine ev_iconst (v := 0) (pc := 126) dX7_tallyNow_126 ki_0 ?_
          obtain rfl := Option.some.inj h
          exact ev_fg (L := [some (.inr 19), none, none, some (.inl (((t1 + t3) - v7) - v11)), none]) (And.intro rfl (And.intro rfl True.intro)) (hj36)
        · rw [if_neg b45] at h
          refine ev_if_le_f (t := 126) (pc := 119) dX7_tallyNow_119 (by decide) b45 ?_
          refine ev_iconst (v := 1) (pc := 122) dX7_tallyNow_122 ki_1 ?_
          refine ev_goto (t := 127) (pc := 123) dX7_tallyNow_123 (by decide) ?_
          obtain rfl := Option.some.inj h
          exact ev_fg (L := [some (.inr 19), none, none, some (.inl (((t1 + t3) - v7) - v11)), none]) (And.intro rfl (And.intro rfl True.intro)) (hj36)
    · rw [if_neg b37] at h
      refine ev_if_eq_f (t := 101) (pc := 85) dX7_tallyNow_85 (by decide) b37 ?_
      obtain ⟨t46, e47, h⟩ := rb_bd h
      obtain ⟨t48, e49, h⟩ := rb_bd h
      refine ev_aload_n (v := 19) (pc := 88) dX7_tallyNow_88 rfl ?_
      refine ev_aload_n (v := 19) (pc := 89) dX7_tallyNow_89 rfl ?_
      refine ev_iload_n (v := x0) (pc := 90) dX7_tallyNow_90 rfl ?_
      refine ev_iconst (v := 0) (pc := 91) dX7_tallyNow_91 ki_0 ?_
      refine ev_cVi2 (pc := 92) dX7_tallyNow_92 mv_X7_ofTask lk_RX7_84 rp_19 (ct_X7_ofTask _ _ _ _ _ rfl e47) (Nat.le_of_ble_eq_true rfl) (Nat.le_of_ble_eq_true rfl) ?_
      refine ev_cVi1 (pc := 95) dX7_tallyNow_95 mv_X7_showsOf lk_RX7_146 rp_19 (ct_X7_showsOf _ _ _ _ _ rfl rfl e49) (Nat.le_of_ble_eq_true rfl) (Nat.le_of_ble_eq_true rfl) ?_
      by_cases b50 : 0 < t48
      · rw [if_pos b50] at h
        refine ev_if_gt_t (t := 122) (pc := 98) dX7_tallyNow_98 (by decide) b50 ?_
        refine ev_iconst (v := 1) (pc := 122) dX7_tallyNow_122 ki_1 ?_
        refine ev_goto (t := 127) (pc := 123) dX7_tallyNow_123 (by decide) ?_
        obtain rfl := Option.some.inj h
        exact ev_fg (L := [some (.inr 19), none, none, some (.inl (((t1 + t3) - v7) - v11)), none]) (And.intro rfl (And.intro rfl True.intro)) (hj36)
      · rw [if_neg b50] at h
        refine ev_if_gt_f (t := 122) (pc := 98) dX7_tallyNow_98 (by decide) b50 ?_
        obtain ⟨t51, e52, h⟩ := rb_bd h
        refine ev_aload_n (v := 19) (pc := 101) dX7_tallyNow_101 rfl ?_
        refine ev_iload_n (v := x1) (pc := 102) dX7_tallyNow_102 rfl ?_
        refine ev_cVi1 (pc := 103) dX7_tallyNow_103 mv_X7_isAsleep lk_RX7_250 rp_19 (ct_X7_isAsleep _ _ _ _ rfl e52) (Nat.le_of_ble_eq_true rfl) (Nat.le_of_ble_eq_true rfl) ?_
        by_cases b53 : t51 = 0
        · rw [if_pos b53] at h
          refine ev_if_eq_t (t := 126) (pc := 106) dX7_tallyNow_106 (by decide) b53 ?_
          refine ev_iconst (v := 0) (pc := 126) dX7_tallyNow_126 ki_0 ?_
          obtain rfl := Option.some.inj h
          exact ev_fg (L := [some (.inr 19), none, none, some (.inl (((t1 + t3) - v7) - v11)), none]) (And.intro rfl (And.intro rfl True.intro)) (hj36)
        · rw [if_neg b53] at h
          refine ev_if_eq_f (t := 126) (pc := 106) dX7_tallyNow_106 (by decide) b53 ?_
          obtain ⟨t54, e55, h⟩ := rb_bd h
          obtain ⟨t56, e57, h⟩ := rb_bd h
          refine ev_aload_n (v := 19) (pc := 109) dX7_tallyNow_109 rfl ?_
          refine ev_aload_n (v := 19) (pc := 110) dX7_tallyNow_110 rfl ?_
          refine ev_iload_n (v := x1) (pc := 111) dX7_tallyNow_111 rfl ?_
          refine ev_iconst (v := 0) (pc := 112) dX7_tallyNow_112 ki_0 ?_
          refine ev_cVi2 (pc := 113) dX7_tallyNow_113 mv_X7_ofTask lk_RX7_84 rp_19 (ct_X7_ofTask _ _ _ _ _ rfl e55) (Nat.le_of_ble_eq_true rfl) (Nat.le_of_ble_eq_true rfl) ?_
          refine ev_cVi1 (pc := 116) dX7_tallyNow_116 mv_X7_showsOf lk_RX7_146 rp_19 (ct_X7_showsOf _ _ _ _ _ rfl rfl e57) (Nat.le_of_ble_eq_true rfl) (Nat.le_of_ble_eq_true rfl) ?_
          by_cases b58 : t56 ≤ 0
          · rw [if_pos b58] at h
            refine ev_if_le_t (t := 126) (pc := 119) dX7_tallyNow_119 (by decide) b58 ?_
            refine ev_iconst (v := 0) (pc := 126) dX7_tallyNow_126 ki_0 ?_
            obtain rfl := Option.some.inj h
            exact ev_fg (L := [some (.inr 19), none, none, some (.inl (((t1 + t3) - v7) - v11)), none]) (And.intro rfl (And.intro rfl True.intro)) (hj36)
          · rw [if_neg b58] at h
            refine ev_if_le_f (t := 126) (pc := 119) dX7_tallyNow_119 (by decide) b58 ?_
            refine ev_iconst (v := 1) (pc := 122) dX7_tallyNow_122 ki_1 ?_
            refine ev_goto (t := 127) (pc := 123) dX7_tallyNow_123 (by decide) ?_
            obtain rfl := Option.some.inj h
            exact ev_fg (L := [some (.inr 19), none, none, some (.inl (((t1 + t3) - v7) - v11)), none]) (And.intro rfl (And.intro rfl True.intro)) (hj36)
  replace h := e24
  by_cases b26 : t21 = 0
  · rw [if_pos b26] at h
    refine ev_if_ne_f (t := 73) (pc := 62) dX7_tallyNow_62 (by decide) b26 ?_
    obtain ⟨t27, e28, h⟩ := rb_bd h
    refine ev_aload_n (v := 19) (pc := 65) dX7_tallyNow_65 rfl ?_
    refine ev_iload_n (v := x1) (pc := 66) dX7_tallyNow_66 rfl ?_
    refine ev_cVi1 (pc := 67) dX7_tallyNow_67 mv_X7_isAsleep lk_RX7_250 rp_19 (ct_X7_isAsleep _ _ _ _ rfl e28) (Nat.le_of_ble_eq_true rfl) (Nat.le_of_ble_eq_true rfl) ?_
    by_cases b29 : t27 = 0
    · rw [if_pos b29] at h
      refine ev_if_eq_t (t := 77) (pc := 70) dX7_tallyNow_70 (by decide) b29 ?_
      refine ev_iconst (v := 0) (pc := 77) dX7_tallyNow_77 ki_0 ?_
      obtain rfl := Option.some.inj h
      exact hj25
    · rw [if_neg b29] at h
      refine ev_if_eq_f (t := 77) (pc := 70) dX7_tallyNow_70 (by decide) b29 ?_
      refine ev_iconst (v := 1) (pc := 73) dX7_tallyNow_73 ki_1 ?_
      refine ev_goto (t := 78) (pc := 74) dX7_tallyNow_74 (by decide) ?_
      obtain rfl := Option.some.inj h
      exact hj25
  · rw [if_neg b26] at h
    refine ev_if_ne_t (t := 73) (pc := 62) dX7_tallyNow_62 (by decide) b26 ?_
    refine ev_iconst (v := 1) (pc := 73) dX7_tallyNow_73 ki_1 ?_
    refine ev_goto (t := 78) (pc := 74) dX7_tallyNow_74 (by decide) ?_
    obtain rfl := Option.some.inj h
    exact hj25
def XX7_orders (a : rb_Row) (rd : rb_Row) (ag : rb_Row) (mf : rb_Row) (na : rb_Row) (nb : rb_Row) (nl : rb_Row) (sv : rb_Row) (sd : rb_Row) (ta : rb_Row) (wa : rb_Row) (x0 : Int32) (x1 : Int32) (x2 : Int32) : Option (Int32 × rb_Row × rb_Row × rb_Row × rb_Row × rb_Row × rb_Row × rb_Row × rb_Row × rb_Row × rb_Row × rb_Row) := (XX7_isTask x0).bind fun t1 => if t1 = 0 then some ((-1), a, rd, ag, mf, na, nb, nl, sv, sd, ta, wa) else (XX7_isTask x1).bind fun t4 => if t4 = 0 then some ((-1), a, rd, ag, mf, na, nb, nl, sv, sd, ta, wa) else if x0 = x1 then some ((-1), a, rd, ag, mf, na, nb, nl, sv, sd, ta, wa) else (XX7_isIn x2 0 4).bind fun t8 => if t8 = 0 then some ((-1), a, rd, ag, mf, na, nb, nl, sv, sd, ta, wa) else (XX7_ofTask a x0 38).bind fun t11 => (XX7_ofTask a x1 38).bind fun t13 => if (t11 + t13) ≤ 0 then (rb_lp (ρ := rb_Row) (fun (s16 : Int32 × rb_Row) => if 5 ≤ s16.1 then some (.inr s16.2) else ((if s16.1 = 3 then some (-1) else some 0) : Option (Int32)).bind fun j25 => (rb_wr s16.2 5 s16.1 j25).bind fun ta29 => some (.inl ((s16.1 + 1), ta29))) 100000 (0, ta)).bind fun q17 => (XX7_putAside sd a).bind fun t31 => (rb_lp (ρ := rb_Row × rb_Row × rb_Row × rb_Row × rb_Row × rb_Row × rb_Row × rb_Row × rb_Row × rb_Row) (fun (s33 : Int32 × rb_Row × rb_Row × rb_Row × rb_Row × rb_Row × rb_Row × rb_Row × rb_Row × rb_Row × rb_Row) => if 256 ≤ s33.1 then some (.inr (s33.2.1, s33.2.2.1, s33.2.2.2.1, s33.2.2.2.2.1, s33.2.2.2.2.2.1, s33.2.2.2.2.2.2.1, s33.2.2.2.2.2.2.2.1, s33.2.2.2.2.2.2.2.2.1, s33.2.2.2.2.2.2.2.2.2.1, s33.2.2.2.2.2.2.2.2.2.2)) else (XX7_tryOrder s33.2.1 s33.2.2.1 s33.2.2.2.1 s33.2.2.2.2.1 s33.2.2.2.2.2.1 s33.2.2.2.2.2.2.1 s33.2.2.2.2.2.2.2.1 s33.2.2.2.2.2.2.2.2.1 s33.2.2.2.2.2.2.2.2.2.2 x0 x1 s33.1).bind fun t42 => ((if t42.1 = 0 then some (t42.2.2.1, s33.2.2.2.2.2.2.2.2.2.1) else (XX7_tallyNow t42.2.2.1 s33.2.2.2.2.2.2.2.2.2.1 t42.2.1 t31 x0 x1).bind fun t48 => some (t48.1, t48.2)) : Option (rb_Row × rb_Row)).bind fun j44 => (XX7_bringBack t42.2.1 t31).bind fun t50 => some (.inl ((s33.1 + 1), t50, j44.1, t42.2.2.2.1, t42.2.2.2.2.1, t42.2.2.2.2.2.1, t42.2.2.2.2.2.2.1, t42.2.2.2.2.2.2.2.1, t42.2.2.2.2.2.2.2.2.1, j44.2, t42.2.2.2.2.2.2.2.2.2))) 100000 (0, a, rd, ag, mf, na, nb, nl, sv, q17, wa)).bind fun q34 => (rb_rd q34.2.2.2.2.2.2.2.2.1 5 x2).bind fun v52 => some (v52, q34.1, q34.2.1, q34.2.2.1, q34.2.2.2.1, q34.2.2.2.2.1, q34.2.2.2.2.2.1, q34.2.2.2.2.2.2.1, q34.2.2.2.2.2.2.2.1, t31, q34.2.2.2.2.2.2.2.2.1, q34.2.2.2.2.2.2.2.2.2) else some ((-1), a, rd, ag, mf, na, nb, nl, sv, sd, ta, wa)
set_option maxHeartbeats 4000000 in
set_option maxRecDepth 20000 in
theorem ct_X7_orders (μ : rb_Mem) (a : rb_Row) (rd : rb_Row) (ag : rb_Row) (mf : rb_Row) (na : rb_Row) (nb : rb_Row) (nl : rb_Row) (sv : rb_Row) (sd : rb_Row) (ta : rb_Row) (wa : rb_Row) (x0 : Int32) (x1 : Int32) (x2 : Int32) (o : Int32 × rb_Row × rb_Row × rb_Row × rb_Row × rb_Row × rb_Row × rb_Row × rb_Row × rb_Row × rb_Row × rb_Row) (ha : μ 20 = a) (hrd : μ 21 = rd) (hag : μ 22 = ag) (hmf : μ 19 = mf) (hna : μ 23 = na) (hnb : μ 24 = nb) (hnl : μ 25 = nl) (hsv : μ 26 = sv) (hsd : μ 29 = sd) (hta : μ 30 = ta) (hwa : μ 31 = wa) (h : XX7_orders a rd ag mf na nb nl sv sd ta wa x0 x1 x2 = some o) : rb_Ct yX7_orders cX7_orders 5 (some .int) 16 [.inr 19, .inl x0, .inl x1, .inl x2] μ (some o.1) (rb_ov μ [(20, o.2.1), (21, o.2.2.1), (22, o.2.2.2.1), (19, o.2.2.2.2.1), (23, o.2.2.2.2.2.1), (24, o.2.2.2.2.2.2.1), (25, o.2.2.2.2.2.2.2.1), (26, o.2.2.2.2.2.2.2.2.1), (29, o.2.2.2.2.2.2.2.2.2.1), (30, o.2.2.2.2.2.2.2.2.2.2.1), (31, o.2.2.2.2.2.2.2.2.2.2.2)]) := by
  unfold XX7_orders at h
  have hini : rb_ov μ [(20, a), (21, rd), (22, ag), (19, mf), (23, na), (24, nb), (25, nl), (26, sv), (29, sd), (30, ta), (31, wa)] = μ := rb_ov_sf _ _ (And.intro ha (And.intro hrd (And.intro hag (And.intro hmf (And.intro hna (And.intro hnb (And.intro hnl (And.intro hsv (And.intro hsd (And.intro hta (And.intro hwa True.intro)))))))))))
  have hfin : ∀ u0 u1 u2 u3 u4 u5 u6 u7 u8 u9 u10 : rb_Row, rb_ov μ [(20, u0), (21, u1), (22, u2), (19, u3), (23, u4), (24, u5), (25, u6), (26, u7), (29, u8), (30, u9), (31, u10)] = rb_ov μ [(20, u0), (21, u1), (22, u2), (19, u3), (23, u4), (24, u5), (25, u6), (26, u7), (29, u8), (30, u9), (31, u10)] := fun u0 u1 u2 u3 u4 u5 u6 u7 u8 u9 u10 => rfl
  refine rb_cti (w := [(20, a), (21, rd), (22, ag), (19, mf), (23, na), (24, nb), (25, nl), (26, sv), (29, sd), (30, ta), (31, wa)]) rfl pn_7 (Nat.le_of_ble_eq_true rfl) rfl hini ?_
  obtain ⟨t1, e2, h⟩ := rb_bd h
  refine ev_aload_n (v := 19) (pc := 0) dX7_orders_0 rfl ?_
  refine ev_iload_n (v := x0) (pc := 1) dX7_orders_1 rfl ?_
  refine ev_cVi1 (pc := 2) dX7_orders_2 mv_X7_isTask lk_RX7_284 rp_19 (ct_X7_isTask _ _ _ e2) (Nat.le_of_ble_eq_true rfl) (Nat.le_of_ble_eq_true rfl) ?_
  by_cases b3 : t1 = 0
  · rw [if_pos b3] at h
    refine ev_if_eq_t (t := 48) (pc := 5) dX7_orders_5 (by decide) b3 ?_
    refine ev_iconst (v := (-1)) (pc := 48) dX7_orders_48 ki_m1 ?_
    obtain rfl := Option.some.inj h
    exact ev_iret (pc := 49) dX7_orders_49 rfl rfl rfl (hfin _ _ _ _ _ _ _ _ _ _ _)
  · rw [if_neg b3] at h
    refine ev_if_eq_f (t := 48) (pc := 5) dX7_orders_5 (by decide) b3 ?_
    obtain ⟨t4, e5, h⟩ := rb_bd h
    refine ev_aload_n (v := 19) (pc := 8) dX7_orders_8 rfl ?_
    refine ev_iload_n (v := x1) (pc := 9) dX7_orders_9 rfl ?_
    refine ev_cVi1 (pc := 10) dX7_orders_10 mv_X7_isTask lk_RX7_284 rp_19 (ct_X7_isTask _ _ _ e5) (Nat.le_of_ble_eq_true rfl) (Nat.le_of_ble_eq_true rfl) ?_
    by_cases b6 : t4 = 0
    · rw [if_pos b6] at h
      refine ev_if_eq_t (t := 48) (pc := 13) dX7_orders_13 (by decide) b6 ?_
      refine ev_iconst (v := (-1)) (pc := 48) dX7_orders_48 ki_m1 ?_
      obtain rfl := Option.some.inj h
      exact ev_iret (pc := 49) dX7_orders_49 rfl rfl rfl (hfin _ _ _ _ _ _ _ _ _ _ _)
    · rw [if_neg b6] at h
      refine ev_if_eq_f (t := 48) (pc := 13) dX7_orders_13 (by decide) b6 ?_
      refine ev_iload_n (v := x0) (pc := 16) dX7_orders_16 rfl ?_
      refine ev_iload_n (v := x1) (pc := 17) dX7_orders_17 rfl ?_
      by_cases b7 : x0 = x1
      · rw [if_pos b7] at h
        refine ev_icmp_eq_t (t := 48) (pc := 18) dX7_orders_18 (by decide) b7 ?_
        refine ev_iconst (v := (-1)) (pc := 48) dX7_orders_48 ki_m1 ?_
        obtain rfl := Option.some.inj h
        exact ev_iret (pc := 49) dX7_orders_49 rfl rfl rfl (hfin _ _ _ _ _ _ _ _ _ _ _)
      · rw [if_neg b7] at h
        refine ev_icmp_eq_f (t := 48) (pc := 18) dX7_orders_18 (by decide) b7 ?_
        obtain ⟨t8, e9, h⟩ := rb_bd h
        refine ev_iload_n (v := x2) (pc := 21) dX7_orders_21 rfl ?_
        refine ev_iconst (v := 0) (pc := 22) dX7_orders_22 ki_0 ?_
        refine ev_iconst (v := 4) (pc := 23) dX7_orders_23 ki_4 ?_
        refine ev_cSi3 (pc := 24) dX7_orders_24 ms_X7_isIn lk_RX7_69 (ct_X7_isIn _ _ _ _ _ e9) (Nat.le_of_ble_eq_true rfl) (Nat.le_of_ble_eq_true rfl) ?_
        by_cases b10 : t8 = 0
        · rw [if_pos b10] at h
          refine ev_if_eq_t (t := 48) (pc := 27) dX7_orders_27 (by decide) b10 ?_
          refine ev_iconst (v := (-1)) (pc := 48) dX7_orders_48 ki_m1 ?_
          obtain rfl := Option.some.inj h
          exact ev_iret (pc := 49) dX7_orders_49 rfl rfl rfl (hfin _ _ _ _ _ _ _ _ _ _ _)
        · rw [if_neg b10] at h
          refine ev_if_eq_f (t := 48) (pc := 27) dX7_orders_27 (by decide) b10 ?_
          obtain ⟨t11, e12, h⟩ := rb_bd h
          obtain ⟨t13, e14, h⟩ := rb_bd h
          refine ev_aload_n (v := 19) (pc := 30) dX7_orders_30 rfl ?_
          refine ev_iload_n (v := x0) (pc := 31) dX7_orders_31 rfl ?_
          refine ev_bipush (v := 38) (pc := 32) dX7_orders_32 kb_38 ?_
          refine ev_cVi2 (pc := 34) dX7_orders_34 mv_X7_ofTask lk_RX7_84 rp_19 (ct_X7_ofTask _ _ _ _ _ rfl e12) (Nat.le_of_ble_eq_true rfl) (Nat.le_of_ble_eq_true rfl) ?_
          refine ev_aload_n (v := 19) (pc := 37) dX7_orders_37 rfl ?_
          refine ev_iload_n (v := x1) (pc := 38) dX7_orders_38 rfl ?_
          refine ev_bipush (v := 38) (pc := 39) dX7_orders_39 kb_38 ?_
          refine ev_cVi2 (pc := 41) dX7_orders_41 mv_X7_ofTask lk_RX7_84 rp_19 (ct_X7_ofTask _ _ _ _ _ rfl e14) (Nat.le_of_ble_eq_true rfl) (Nat.le_of_ble_eq_true rfl) ?_
          refine ev_iadd (pc := 44) dX7_orders_44 ?_
          by_cases b15 : (t11 + t13) ≤ 0
          · rw [if_pos b15] at h
            refine ev_if_le_t (t := 50) (pc := 45) dX7_orders_45 (by decide) b15 ?_
            refine ev_iconst (v := 0) (pc := 50) dX7_orders_50 ki_0 ?_
            refine ev_istore (L' := [some (.inr 19), some (.inl x0), some (.inl x1), some (.inl x2), some (.inl 0)]) (pc := 51) dX7_orders_51 (Nat.le_of_ble_eq_true rfl) rfl ?_
            obtain ⟨q17, l18, h⟩ := rb_bd h
            have hx22 : rb_Ev RX7 cX7_orders 5 (some .int) none 16 (some o.1) (rb_ov μ [(20, o.2.1), (21, o.2.2.1), (22, o.2.2.2.1), (19, o.2.2.2.2.1), (23, o.2.2.2.2.2.1), (24, o.2.2.2.2.2.2.1), (25, o.2.2.2.2.2.2.2.1), (26, o.2.2.2.2.2.2.2.2.1), (29, o.2.2.2.2.2.2.2.2.2.1), (30, o.2.2.2.2.2.2.2.2.2.2.1), (31, o.2.2.2.2.2.2.2.2.2.2.2)]) 83 [some (.inr 19), some (.inl x0), some (.inl x1), some (.inl x2), none] [] (rb_ov μ [(20, a), (21, rd), (22, ag), (19, mf), (23, na), (24, nb), (25, nl), (26, sv), (29, sd), (30, q17), (31, wa)]) := by
              obtain ⟨t31, e32, h⟩ := rb_bd h
              refine ev_aload_n (v := 19) (pc := 83) dX7_orders_83 rfl ?_
              refine ev_cVv0w (w' := [(20, a), (21, rd), (22, ag), (19, mf), (23, na), (24, nb), (25, nl), (26, sv), (29, t31), (30, q17), (31, wa)]) (pc := 84) dX7_orders_84 mv_X7_putAside lk_RX7_332 rp_19 (ct_X7_putAside _ _ _ _ rfl rfl e32) (Nat.le_of_ble_eq_true rfl) (Nat.le_of_ble_eq_true rfl) rfl ?_
              refine ev_iconst (v := 0) (pc := 87) dX7_orders_87 ki_0 ?_
              refine ev_istore (L' := [some (.inr 19), some (.inl x0), some (.inl x1), some (.inl x2), some (.inl 0)]) (pc := 88) dX7_orders_88 (Nat.le_of_ble_eq_true rfl) rfl ?_
              obtain ⟨q34, l35, h⟩ := rb_bd h
              have hx39 : rb_Ev RX7 cX7_orders 5 (some .int) none 16 (some o.1) (rb_ov μ [(20, o.2.1), (21, o.2.2.1), (22, o.2.2.2.1), (19, o.2.2.2.2.1), (23, o.2.2.2.2.2.1), (24, o.2.2.2.2.2.2.1), (25, o.2.2.2.2.2.2.2.1), (26, o.2.2.2.2.2.2.2.2.1), (29, o.2.2.2.2.2.2.2.2.2.1), (30, o.2.2.2.2.2.2.2.2.2.2.1), (31, o.2.2.2.2.2.2.2.2.2.2.2)]) 125 [some (.inr 19), none, none, some (.inl x2), none] [] (rb_ov μ [(20, q34.1), (21, q34.2.1), (22, q34.2.2.1), (19, q34.2.2.2.1), (23, q34.2.2.2.2.1), (24, q34.2.2.2.2.2.1), (25, q34.2.2.2.2.2.2.1), (26, q34.2.2.2.2.2.2.2.1), (29, t31), (30, q34.2.2.2.2.2.2.2.2.1), (31, q34.2.2.2.2.2.2.2.2.2)]) := by
                obtain ⟨v52, e53, h⟩ := rb_bd h
                refine ev_aload_n (v := 19) (pc := 125) dX7_orders_125 rfl ?_
                refine ev_getr (q := 30) (pc := 126) dX7_orders_126 fl_RX7_41 rfl rfl ?_
                refine ev_iload_n (v := x2) (pc := 129) dX7_orders_129 rfl ?_
                refine ev_iald (pc := 130) dX7_orders_130 rfl e53 ?_
                obtain rfl := Option.some.inj h
                exact ev_iret (pc := 131) dX7_orders_131 rfl rfl rfl (hfin _ _ _ _ _ _ _ _ _ _ _)
              refine rb_lp_ev (P := fun (s33 : Int32 × rb_Row × rb_Row × rb_Row × rb_Row × rb_Row × rb_Row × rb_Row × rb_Row × rb_Row × rb_Row) => rb_Ev RX7 cX7_orders 5 (some .int) none 16 (some o.1) (rb_ov μ [(20, o.2.1), (21, o.2.2.1), (22, o.2.2.2.1), (19, o.2.2.2.2.1), (23, o.2.2.2.2.2.1), (24, o.2.2.2.2.2.2.1), (25, o.2.2.2.2.2.2.2.1), (26, o.2.2.2.2.2.2.2.2.1), (29, o.2.2.2.2.2.2.2.2.2.1), (30, o.2.2.2.2.2.2.2.2.2.2.1), (31, o.2.2.2.2.2.2.2.2.2.2.2)]) 90 [some (.inr 19), some (.inl x0), some (.inl x1), some (.inl x2), some (.inl s33.1)] [] (rb_ov μ [(20, s33.2.1), (21, s33.2.2.1), (22, s33.2.2.2.1), (19, s33.2.2.2.2.1), (23, s33.2.2.2.2.2.1), (24, s33.2.2.2.2.2.2.1), (25, s33.2.2.2.2.2.2.2.1), (26, s33.2.2.2.2.2.2.2.2.1), (29, t31), (30, s33.2.2.2.2.2.2.2.2.2.1), (31, s33.2.2.2.2.2.2.2.2.2.2)])) ?_ 100000 (0, a, rd, ag, mf, na, nb, nl, sv, q17, wa) l35
              intro s33 y36 h ih37 hE38
              refine ev_iload (v := s33.1) (pc := 90) dX7_orders_90 rfl ?_
              refine ev_sipush (v := 256) (pc := 92) dX7_orders_92 ks_256 ?_
              by_cases b41 : 256 ≤ s33.1
              · rw [if_pos b41] at h
                refine ev_icmp_ge_t (t := 125) (pc := 95) dX7_orders_95 (by decide) b41 ?_
                obtain rfl := Option.some.inj h
                obtain rfl := hE38 _ rfl
                exact ev_fg (L := [some (.inr 19), none, none, some (.inl x2), none]) (And.intro rfl (And.intro rfl True.intro)) (hx39)
              · rw [if_neg b41] at h
                refine ev_icmp_ge_f (t := 125) (pc := 95) dX7_orders_95 (by decide) b41 ?_
                obtain ⟨t42, e43, h⟩ := rb_bd h
                refine ev_aload_n (v := 19) (pc := 98) dX7_orders_98 rfl ?_
                refine ev_iload_n (v := x0) (pc := 99) dX7_orders_99 rfl ?_
                refine ev_iload_n (v := x1) (pc := 100) dX7_orders_100 rfl ?_
                refine ev_iload (v := s33.1) (pc := 101) dX7_orders_101 rfl ?_
                refine ev_cVi3w (w' := [(20, t42.2.1), (21, t42.2.2.1), (22, t42.2.2.2.1), (19, t42.2.2.2.2.1), (23, t42.2.2.2.2.2.1), (24, t42.2.2.2.2.2.2.1), (25, t42.2.2.2.2.2.2.2.1), (26, t42.2.2.2.2.2.2.2.2.1), (29, t31), (30, s33.2.2.2.2.2.2.2.2.2.1), (31, t42.2.2.2.2.2.2.2.2.2)]) (pc := 103) dX7_orders_103 mv_X7_tryOrder lk_RX7_347 rp_19 (ct_X7_tryOrder _ _ _ _ _ _ _ _ _ _ _ _ _ _ rfl rfl rfl rfl rfl rfl rfl rfl rfl e43) (Nat.le_of_ble_eq_true rfl) (Nat.le_of_ble_eq_true rfl) rfl ?_
                obtain ⟨j44, e45, h⟩ := rb_bd h
                have hj46 : rb_Ev RX7 cX7_orders 5 (some .int) none 16 (some o.1) (rb_ov μ [(20, o.2.1), (21, o.2.2.1), (22, o.2.2.2.1), (19, o.2.2.2.2.1), (23, o.2.2.2.2.2.1), (24, o.2.2.2.2.2.2.1), (25, o.2.2.2.2.2.2.2.1), (26, o.2.2.2.2.2.2.2.2.1), (29, o.2.2.2.2.2.2.2.2.2.1), (30, o.2.2.2.2.2.2.2.2.2.2.1), (31, o.2.2.2.2.2.2.2.2.2.2.2)]) 115 [some (.inr 19), some (.inl x0), some (.inl x1), some (.inl x2), some (.inl s33.1)] [] (rb_ov μ [(20, t42.2.1), (21, j44.1), (22, t42.2.2.2.1), (19, t42.2.2.2.2.1), (23, t42.2.2.2.2.2.1), (24, t42.2.2.2.2.2.2.1), (25, t42.2.2.2.2.2.2.2.1), (26, t42.2.2.2.2.2.2.2.2.1), (29, t31), (30, j44.2), (31, t42.2.2.2.2.2.2.2.2.2)]) := by
                  obtain ⟨t50, e51, h⟩ := rb_bd h
                  refine ev_aload_n (v := 19) (pc := 115) dX7_orders_115 rfl ?_
                  refine ev_cVv0w (w' := [(20, t50), (21, j44.1), (22, t42.2.2.2.1), (19, t42.2.2.2.2.1), (23, t42.2.2.2.2.2.1), (24, t42.2.2.2.2.2.2.1), (25, t42.2.2.2.2.2.2.2.1), (26, t42.2.2.2.2.2.2.2.2.1), (29, t31), (30, j44.2), (31, t42.2.2.2.2.2.2.2.2.2)]) (pc := 116) dX7_orders_116 mv_X7_bringBack lk_RX7_335 rp_19 (ct_X7_bringBack _ _ _ _ rfl rfl e51) (Nat.le_of_ble_eq_true rfl) (Nat.le_of_ble_eq_true rfl) rfl ?_
                  refine ev_iinc (x := s33.1) (v := (s33.1 + 1)) (L' := [some (.inr 19), some (.inl x0), some (.inl x1), some (.inl x2), some (.inl (s33.1 + 1))]) (pc := 119) dX7_orders_119 rfl (kx_1 _) (Nat.le_of_ble_eq_true rfl) rfl ?_
                  refine ev_goto (t := 90) (pc := 122) dX7_orders_122 (by decide) ?_
                  obtain rfl := Option.some.inj h
                  exact ih37 ((s33.1 + 1), t50, j44.1, t42.2.2.2.1, t42.2.2.2.2.1, t42.2.2.2.2.2.1, t42.2.2.2.2.2.2.1, t42.2.2.2.2.2.2.2.1, t42.2.2.2.2.2.2.2.2.1, j44.2, t42.2.2.2.2.2.2.2.2.2) rfl
                replace h := e45
                by_cases b47 : t42.1 = 0
                · rw [if_pos b47] at h
                  refine ev_if_eq_t (t := 115) (pc := 106) dX7_orders_106 (by decide) b47 ?_
                  obtain rfl := Option.some.inj h
                  exact hj46
                · rw [if_neg b47] at h
                  refine ev_if_eq_f (t := 115) (pc := 106) dX7_orders_106 (by decide) b47 ?_
                  obtain ⟨t48, e49, h⟩ := rb_bd h
                  refine ev_aload_n (v := 19) (pc := 109) dX7_orders_109 rfl ?_
                  refine ev_iload_n (v := x0) (pc := 110) dX7_orders_110 rfl ?_
                  refine ev_iload_n (v := x1) (pc := 111) dX7_orders_111 rfl ?_
                  refine ev_cVv2w (w' := [(20, t42.2.1), (21, t48.1), (22, t42.2.2.2.1), (19, t42.2.2.2.2.1), (23, t42.2.2.2.2.2.1), (24, t42.2.2.2.2.2.2.1), (25, t42.2.2.2.2.2.2.2.1), (26, t42.2.2.2.2.2.2.2.2.1), (29, t31), (30, t48.2), (31, t42.2.2.2.2.2.2.2.2.2)]) (pc := 112) dX7_orders_112 mv_X7_tallyNow lk_RX7_350 rp_19 (ct_X7_tallyNow _ _ _ _ _ _ _ _ rfl rfl rfl rfl e49) (Nat.le_of_ble_eq_true rfl) (Nat.le_of_ble_eq_true rfl) rfl ?_
                  obtain rfl := Option.some.inj h
                  exact hj46
            refine rb_lp_ev (P := fun (s16 : Int32 × rb_Row) => rb_Ev RX7 cX7_orders 5 (some .int) none 16 (some o.1) (rb_ov μ [(20, o.2.1), (21, o.2.2.1), (22, o.2.2.2.1), (19, o.2.2.2.2.1), (23, o.2.2.2.2.2.1), (24, o.2.2.2.2.2.2.1), (25, o.2.2.2.2.2.2.2.1), (26, o.2.2.2.2.2.2.2.2.1), (29, o.2.2.2.2.2.2.2.2.2.1), (30, o.2.2.2.2.2.2.2.2.2.2.1), (31, o.2.2.2.2.2.2.2.2.2.2.2)]) 53 [some (.inr 19), some (.inl x0), some (.inl x1), some (.inl x2), some (.inl s16.1)] [] (rb_ov μ [(20, a), (21, rd), (22, ag), (19, mf), (23, na), (24, nb), (25, nl), (26, sv), (29, sd), (30, s16.2), (31, wa)])) ?_ 100000 (0, ta) l18
            intro s16 y19 h ih20 hE21
            refine ev_iload (v := s16.1) (pc := 53) dX7_orders_53 rfl ?_
            refine ev_iconst (v := 5) (pc := 55) dX7_orders_55 ki_5 ?_
            by_cases b24 : 5 ≤ s16.1
            · rw [if_pos b24] at h
              refine ev_icmp_ge_t (t := 83) (pc := 56) dX7_orders_56 (by decide) b24 ?_
              obtain rfl := Option.some.inj h
              obtain rfl := hE21 _ rfl
              exact ev_fg (L := [some (.inr 19), some (.inl x0), some (.inl x1), some (.inl x2), none]) (And.intro rfl (And.intro rfl (And.intro rfl (And.intro rfl True.intro)))) (hx22)
            · rw [if_neg b24] at h
              refine ev_icmp_ge_f (t := 83) (pc := 56) dX7_orders_56 (by decide) b24 ?_
              refine ev_aload_n (v := 19) (pc := 59) dX7_orders_59 rfl ?_
              refine ev_getr (q := 30) (pc := 60) dX7_orders_60 fl_RX7_41 rfl rfl ?_
              refine ev_iload (v := s16.1) (pc := 63) dX7_orders_63 rfl ?_
              refine ev_iload (v := s16.1) (pc := 65) dX7_orders_65 rfl ?_
              refine ev_iconst (v := 3) (pc := 67) dX7_orders_67 ki_3 ?_
              obtain ⟨j25, e26, h⟩ := rb_bd h
              have hj27 : rb_Ev RX7 cX7_orders 5 (some .int) none 16 (some o.1) (rb_ov μ [(20, o.2.1), (21, o.2.2.1), (22, o.2.2.2.1), (19, o.2.2.2.2.1), (23, o.2.2.2.2.2.1), (24, o.2.2.2.2.2.2.1), (25, o.2.2.2.2.2.2.2.1), (26, o.2.2.2.2.2.2.2.2.1), (29, o.2.2.2.2.2.2.2.2.2.1), (30, o.2.2.2.2.2.2.2.2.2.2.1), (31, o.2.2.2.2.2.2.2.2.2.2.2)]) 76 [some (.inr 19), some (.inl x0), some (.inl x1), some (.inl x2), some (.inl s16.1)] [.inl j25, .inl s16.1, .inr 30] (rb_ov μ [(20, a), (21, rd), (22, ag), (19, mf), (23, na), (24, nb), (25, nl), (26, sv), (29, sd), (30, s16.2), (31, wa)]) := by
                obtain ⟨ta29, e30, h⟩ := rb_bd h
                refine ev_iast (w' := [(20, a), (21, rd), (22, ag), (19, mf), (23, na), (24, nb), (25, nl), (26, sv), (29, sd), (30, ta29), (31, wa)]) (pc := 76) dX7_orders_76 rfl e30 rfl ?_
                refine ev_iinc (x := s16.1) (v := (s16.1 + 1)) (L' := [some (.inr 19), some (.inl x0), some (.inl x1), some (.inl x2), some (.inl (s16.1 + 1))]) (pc := 77) dX7_orders_77 rfl (kx_1 _) (Nat.le_of_ble_eq_true rfl) rfl ?_
                refine ev_goto (t := 53) (pc := 80) dX7_orders_80 (by decide) ?_
                obtain rfl := Option.some.inj h
                exact ih20 ((s16.1 + 1), ta29) rfl
              replace h := e26
              by_cases b28 : s16.1 = 3
              · rw [if_pos b28] at h
                refine ev_icmp_ne_f (t := 75) (pc := 68) dX7_orders_68 (by decide) b28 ?_
                refine ev_iconst (v := (-1)) (pc := 71) dX7_orders_71 ki_m1 ?_
                refine ev_goto (t := 76) (pc := 72) dX7_orders_72 (by decide) ?_
                obtain rfl := Option.some.inj h
                exact hj27
              · rw [if_neg b28] at h
                refine ev_icmp_ne_t (t := 75) (pc := 68) dX7_orders_68 (by decide) b28 ?_
                refine ev_iconst (v := 0) (pc := 75) dX7_orders_75 ki_0 ?_
                obtain rfl := Option.some.inj h
                exact hj27
          · rw [if_neg b15] at h
            refine ev_if_le_f (t := 50) (pc := 45) dX7_orders_45 (by decide) b15 ?_
            refine ev_iconst (v := (-1)) (pc := 48) dX7_orders_48 ki_m1 ?_
            obtain rfl := Option.some.inj h
            exact ev_iret (pc := 49) dX7_orders_49 rfl rfl rfl (hfin _ _ _ _ _ _ _ _ _ _ _)
def XX7_swapAll (a : rb_Row) (wa : rb_Row) (mf : rb_Row) : Option (rb_Row × rb_Row) := (rb_lp (ρ := rb_Row × rb_Row) (fun (s1 : Int32 × rb_Row × rb_Row) => if 796 ≤ s1.1 then some (.inr (s1.2.1, s1.2.2)) else (rb_rd s1.2.2 10348 ((796 * (mf 16)) + s1.1)).bind fun v10 => (rb_rd s1.2.1 796 s1.1).bind fun v12 => (rb_wr s1.2.2 10348 ((796 * (mf 16)) + s1.1) v12).bind fun wa14 => (rb_wr s1.2.1 796 s1.1 v10).bind fun a16 => some (.inl ((s1.1 + 1), a16, wa14))) 100000 (0, a, wa)).bind fun q2 => some (q2.1, q2.2)
set_option maxHeartbeats 4000000 in
set_option maxRecDepth 20000 in
theorem ct_X7_swapAll (μ : rb_Mem) (a : rb_Row) (wa : rb_Row) (mf : rb_Row) (o : rb_Row × rb_Row) (ha : μ 20 = a) (hwa : μ 31 = wa) (hmf : μ 19 = mf) (h : XX7_swapAll a wa mf = some o) : rb_Ct yX7_swapAll cX7_swapAll 3 none 0 [.inr 19] μ none (rb_ov μ [(20, o.1), (31, o.2)]) := by
  unfold XX7_swapAll at h
  have hini : rb_ov μ [(20, a), (31, wa), (19, mf)] = μ := rb_ov_sf _ _ (And.intro ha (And.intro hwa (And.intro hmf True.intro)))
  have hfin : ∀ u0 u1 : rb_Row, rb_ov μ [(20, u0), (31, u1), (19, mf)] = rb_ov μ [(20, u0), (31, u1)] := fun u0 u1 => rb_ov_ap _ [(20, u0), (31, u1)] _ (And.intro hmf True.intro)
  refine rb_ctv (w := [(20, a), (31, wa), (19, mf)]) rfl pn_7 (Nat.le_of_ble_eq_true rfl) rfl hini ?_
  refine ev_iconst (v := 0) (pc := 0) dX7_swapAll_0 ki_0 ?_
  refine ev_istore_n (L' := [some (.inr 19), some (.inl 0), none]) (pc := 1) dX7_swapAll_1 (Nat.le_of_ble_eq_true rfl) rfl ?_
  obtain ⟨q2, l3, h⟩ := rb_bd h
  have hx7 : rb_Ev RX7 cX7_swapAll 3 none none 0 none (rb_ov μ [(20, o.1), (31, o.2)]) 59 [none, none, none] [] (rb_ov μ [(20, q2.1), (31, q2.2), (19, mf)]) := by
    obtain rfl := Option.some.inj h
    exact ev_ret (pc := 59) dX7_swapAll_59 rfl rfl (hfin _ _)
  refine rb_lp_ev (P := fun (s1 : Int32 × rb_Row × rb_Row) => rb_Ev RX7 cX7_swapAll 3 none none 0 none (rb_ov μ [(20, o.1), (31, o.2)]) 2 [some (.inr 19), some (.inl s1.1), none] [] (rb_ov μ [(20, s1.2.1), (31, s1.2.2), (19, mf)])) ?_ 100000 (0, a, wa) l3
  intro s1 y4 h ih5 hE6
  refine ev_iload_n (v := s1.1) (pc := 2) dX7_swapAll_2 rfl ?_
  refine ev_sipush (v := 796) (pc := 3) dX7_swapAll_3 ks_796 ?_
  by_cases b9 : 796 ≤ s1.1
  · rw [if_pos b9] at h
    refine ev_icmp_ge_t (t := 59) (pc := 6) dX7_swapAll_6 (by decide) b9 ?_
    obtain rfl := Option.some.inj h
    obtain rfl := hE6 _ rfl
    exact ev_fg (L := [none, none, none]) True.intro (hx7)
  · rw [if_neg b9] at h
    refine ev_icmp_ge_f (t := 59) (pc := 6) dX7_swapAll_6 (by decide) b9 ?_
    obtain ⟨v10, e11, h⟩ := rb_bd h
    obtain ⟨v12, e13, h⟩ := rb_bd h
    obtain ⟨wa14, e15, h⟩ := rb_bd h
    obtain ⟨a16, e17, h⟩ := rb_bd h
    refine ev_aload_n (v := 19) (pc := 9) dX7_swapAll_9 rfl ?_
    refine ev_getr (q := 31) (pc := 10) dX7_swapAll_10 fl_RX7_44 rfl rfl ?_
    refine ev_sipush (v := 796) (pc := 13) dX7_swapAll_13 ks_796 ?_
    refine ev_aload_n (v := 19) (pc := 16) dX7_swapAll_16 rfl ?_
    refine ev_geti (v := (mf 16)) (pc := 17) dX7_swapAll_17 fl_RX7_353 rfl rfl rfl ?_
    refine ev_imul (pc := 20) dX7_swapAll_20 ?_
    refine ev_iload_n (v := s1.1) (pc := 21) dX7_swapAll_21 rfl ?_
    refine ev_iadd (pc := 22) dX7_swapAll_22 ?_
    refine ev_iald (pc := 23) dX7_swapAll_23 rfl e11 ?_
    refine ev_istore_n (L' := [some (.inr 19), some (.inl s1.1), some (.inl v10)]) (pc := 24) dX7_swapAll_24 (Nat.le_of_ble_eq_true rfl) rfl ?_
    refine ev_aload_n (v := 19) (pc := 25) dX7_swapAll_25 rfl ?_
    refine ev_getr (q := 31) (pc := 26) dX7_swapAll_26 fl_RX7_44 rfl rfl ?_
    refine ev_sipush (v := 796) (pc := 29) dX7_swapAll_29 ks_796 ?_
    refine ev_aload_n (v := 19) (pc := 32) dX7_swapAll_32 rfl ?_
    refine ev_geti (v := (mf 16)) (pc := 33) dX7_swapAll_33 fl_RX7_353 rfl rfl rfl ?_
    refine ev_imul (pc := 36) dX7_swapAll_36 ?_
    refine ev_iload_n (v := s1.1) (pc := 37) dX7_swapAll_37 rfl ?_
    refine ev_iadd (pc := 38) dX7_swapAll_38 ?_
    refine ev_aload_n (v := 19) (pc := 39) dX7_swapAll_39 rfl ?_
    refine ev_getr (q := 20) (pc := 40) dX7_swapAll_40 fl_RX7_7 rfl rfl ?_
    refine ev_iload_n (v := s1.1) (pc := 43) dX7_swapAll_43 rfl ?_
    refine ev_iald (pc := 44) dX7_swapAll_44 rfl e13 ?_
    refine ev_iast (w' := [(20, s1.2.1), (31, wa14), (19, mf)]) (pc := 45) dX7_swapAll_45 rfl e15 rfl ?_
    refine ev_aload_n (v := 19) (pc := 46) dX7_swapAll_46 rfl ?_
    refine ev_getr (q := 20) (pc := 47) dX7_swapAll_47 fl_RX7_7 rfl rfl ?_
    refine ev_iload_n (v := s1.1) (pc := 50) dX7_swapAll_50 rfl ?_
    refine ev_iload_n (v := v10) (pc := 51) dX7_swapAll_51 rfl ?_
    refine ev_iast (w' := [(20, a16), (31, wa14), (19, mf)]) (pc := 52) dX7_swapAll_52 rfl e17 rfl ?_
    refine ev_iinc (x := s1.1) (v := (s1.1 + 1)) (L' := [some (.inr 19), some (.inl (s1.1 + 1)), some (.inl v10)]) (pc := 53) dX7_swapAll_53 rfl (kx_1 _) (Nat.le_of_ble_eq_true rfl) rfl ?_
    refine ev_goto (t := 2) (pc := 56) dX7_swapAll_56 (by decide) ?_
    obtain rfl := Option.some.inj h
    exact ev_fg (L := [some (.inr 19), some (.inl (s1.1 + 1)), none]) (And.intro rfl (And.intro rfl True.intro)) (ih5 ((s1.1 + 1), a16, wa14) rfl)
def XX7_undo (a : rb_Row) (mf : rb_Row) (wa : rb_Row) : Option (Int32 × rb_Row × rb_Row × rb_Row) := if (mf 16) = 0 then some ((rb_nz 0), a, mf, wa) else (rb_pf mf 16 ((mf 16) - 1)).bind fun mf2 => (rb_pf mf2 17 ((mf2 17) + 1)).bind fun mf4 => (XX7_swapAll a wa mf4).bind fun t6 => some ((rb_nz 1), t6.1, mf4, t6.2)
set_option maxHeartbeats 4000000 in
set_option maxRecDepth 20000 in
theorem ct_X7_undo (μ : rb_Mem) (a : rb_Row) (mf : rb_Row) (wa : rb_Row) (o : Int32 × rb_Row × rb_Row × rb_Row) (ha : μ 20 = a) (hmf : μ 19 = mf) (hwa : μ 31 = wa) (h : XX7_undo a mf wa = some o) : rb_Ct yX7_undo cX7_undo 1 (some .boolean) 1 [.inr 19] μ (some o.1) (rb_ov μ [(20, o.2.1), (19, o.2.2.1), (31, o.2.2.2)]) := by
  unfold XX7_undo at h
  have hini : rb_ov μ [(20, a), (19, mf), (31, wa)] = μ := rb_ov_sf _ _ (And.intro ha (And.intro hmf (And.intro hwa True.intro)))
  have hfin : ∀ u0 u1 u2 : rb_Row, rb_ov μ [(20, u0), (19, u1), (31, u2)] = rb_ov μ [(20, u0), (19, u1), (31, u2)] := fun u0 u1 u2 => rfl
  refine rb_ctz (w := [(20, a), (19, mf), (31, wa)]) rfl pn_7 (Nat.le_of_ble_eq_true rfl) rfl hini ?_
  refine ev_aload_n (v := 19) (pc := 0) dX7_undo_0 rfl ?_
  refine ev_geti (v := (mf 16)) (pc := 1) dX7_undo_1 fl_RX7_353 rfl rfl rfl ?_
  by_cases b1 : (mf 16) = 0
  · rw [if_pos b1] at h
    refine ev_if_ne_f (t := 9) (pc := 4) dX7_undo_4 (by decide) b1 ?_
    refine ev_iconst (v := 0) (pc := 7) dX7_undo_7 ki_0 ?_
    obtain rfl := Option.some.inj h
    exact ev_iret (pc := 8) dX7_undo_8 rfl rfl rfl (hfin _ _ _)
  · rw [if_neg b1] at h
    refine ev_if_ne_t (t := 9) (pc := 4) dX7_undo_4 (by decide) b1 ?_
    obtain ⟨mf2, e3, h⟩ := rb_bd h
    obtain ⟨mf4, e5, h⟩ := rb_bd h
    obtain ⟨t6, e7, h⟩ := rb_bd h
    refine ev_aload_n (v := 19) (pc := 9) dX7_undo_9 rfl ?_
    refine ev_dup (pc := 10) dX7_undo_10 ?_
    refine ev_geti (v := (mf 16)) (pc := 11) dX7_undo_11 fl_RX7_353 rfl rfl rfl ?_
    refine ev_iconst (v := 1) (pc := 14) dX7_undo_14 ki_1 ?_
    refine ev_isub (pc := 15) dX7_undo_15 ?_
    refine ev_putw (w' := [(20, a), (19, mf2), (31, wa)]) (pc := 16) dX7_undo_16 fp_RX7_353 rfl rfl e3 rfl ?_
    refine ev_aload_n (v := 19) (pc := 19) dX7_undo_19 rfl ?_
    refine ev_dup (pc := 20) dX7_undo_20 ?_
    refine ev_geti (v := (mf2 17)) (pc := 21) dX7_undo_21 fl_RX7_356 rfl rfl rfl ?_
    refine ev_iconst (v := 1) (pc := 24) dX7_undo_24 ki_1 ?_
    refine ev_iadd (pc := 25) dX7_undo_25 ?_
    refine ev_putw (w' := [(20, a), (19, mf4), (31, wa)]) (pc := 26) dX7_undo_26 fp_RX7_356 rfl rfl e5 rfl ?_
    refine ev_aload_n (v := 19) (pc := 29) dX7_undo_29 rfl ?_
    refine ev_cVv0w (w' := [(20, t6.1), (19, mf4), (31, t6.2)]) (pc := 30) dX7_undo_30 mv_X7_swapAll lk_RX7_359 rp_19 (ct_X7_swapAll _ _ _ _ _ rfl rfl rfl e7) (Nat.le_of_ble_eq_true rfl) (Nat.le_of_ble_eq_true rfl) rfl ?_
    refine ev_iconst (v := 1) (pc := 33) dX7_undo_33 ki_1 ?_
    obtain rfl := Option.some.inj h
    exact ev_iret (pc := 34) dX7_undo_34 rfl rfl rfl (hfin _ _ _)
def XX7_redo (a : rb_Row) (mf : rb_Row) (wa : rb_Row) : Option (Int32 × rb_Row × rb_Row × rb_Row) := if (mf 17) = 0 then some ((rb_nz 0), a, mf, wa) else (XX7_swapAll a wa mf).bind fun t2 => (rb_pf mf 16 ((mf 16) + 1)).bind fun mf4 => (rb_pf mf4 17 ((mf4 17) - 1)).bind fun mf6 => some ((rb_nz 1), t2.1, mf6, t2.2)
set_option maxHeartbeats 4000000 in
set_option maxRecDepth 20000 in
theorem ct_X7_redo (μ : rb_Mem) (a : rb_Row) (mf : rb_Row) (wa : rb_Row) (o : Int32 × rb_Row × rb_Row × rb_Row) (ha : μ 20 = a) (hmf : μ 19 = mf) (hwa : μ 31 = wa) (h : XX7_redo a mf wa = some o) : rb_Ct yX7_redo cX7_redo 1 (some .boolean) 1 [.inr 19] μ (some o.1) (rb_ov μ [(20, o.2.1), (19, o.2.2.1), (31, o.2.2.2)]) := by
  unfold XX7_redo at h
  have hini : rb_ov μ [(20, a), (19, mf), (31, wa)] = μ := rb_ov_sf _ _ (And.intro ha (And.intro hmf (And.intro hwa True.intro)))
  have hfin : ∀ u0 u1 u2 : rb_Row, rb_ov μ [(20, u0), (19, u1), (31, u2)] = rb_ov μ [(20, u0), (19, u1), (31, u2)] := fun u0 u1 u2 => rfl
  refine rb_ctz (w := [(20, a), (19, mf), (31, wa)]) rfl pn_7 (Nat.le_of_ble_eq_true rfl) rfl hini ?_
  refine ev_aload_n (v := 19) (pc := 0) dX7_redo_0 rfl ?_
  refine ev_geti (v := (mf 17)) (pc := 1) dX7_redo_1 fl_RX7_356 rfl rfl rfl ?_
  by_cases b1 : (mf 17) = 0
  · rw [if_pos b1] at h
    refine ev_if_ne_f (t := 9) (pc := 4) dX7_redo_4 (by decide) b1 ?_
    refine ev_iconst (v := 0) (pc := 7) dX7_redo_7 ki_0 ?_
    obtain rfl := Option.some.inj h
    exact ev_iret (pc := 8) dX7_redo_8 rfl rfl rfl (hfin _ _ _)
  · rw [if_neg b1] at h
    refine ev_if_ne_t (t := 9) (pc := 4) dX7_redo_4 (by decide) b1 ?_
    obtain ⟨t2, e3, h⟩ := rb_bd h
    obtain ⟨mf4, e5, h⟩ := rb_bd h
    obtain ⟨mf6, e7, h⟩ := rb_bd h
    refine ev_aload_n (v := 19) (pc := 9) dX7_redo_9 rfl ?_
    refine ev_cVv0w (w' := [(20, t2.1), (19, mf), (31, t2.2)]) (pc := 10) dX7_redo_10 mv_X7_swapAll lk_RX7_359 rp_19 (ct_X7_swapAll _ _ _ _ _ rfl rfl rfl e3) (Nat.le_of_ble_eq_true rfl) (Nat.le_of_ble_eq_true rfl) rfl ?_
    refine ev_aload_n (v := 19) (pc := 13) dX7_redo_13 rfl ?_
    refine ev_dup (pc := 14) dX7_redo_14 ?_
    refine ev_geti (v := (mf 16)) (pc := 15) dX7_redo_15 fl_RX7_353 rfl rfl rfl ?_
    refine ev_iconst (v := 1) (pc := 18) dX7_redo_18 ki_1 ?_
    refine ev_iadd (pc := 19) dX7_redo_19 ?_
    refine ev_putw (w' := [(20, t2.1), (19, mf4), (31, t2.2)]) (pc := 20) dX7_redo_20 fp_RX7_353 rfl rfl e5 rfl ?_
    refine ev_aload_n (v := 19) (pc := 23) dX7_redo_23 rfl ?_
    refine ev_dup (pc := 24) dX7_redo_24 ?_
    refine ev_geti (v := (mf4 17)) (pc := 25) dX7_redo_25 fl_RX7_356 rfl rfl rfl ?_
    refine ev_iconst (v := 1) (pc := 28) dX7_redo_28 ki_1 ?_
    refine ev_isub (pc := 29) dX7_redo_29 ?_
    refine ev_putw (w' := [(20, t2.1), (19, mf6), (31, t2.2)]) (pc := 30) dX7_redo_30 fp_RX7_356 rfl rfl e7 rfl ?_
    refine ev_iconst (v := 1) (pc := 33) dX7_redo_33 ki_1 ?_
    obtain rfl := Option.some.inj h
    exact ev_iret (pc := 34) dX7_redo_34 rfl rfl rfl (hfin _ _ _)
def XX7_objectsNow (a : rb_Row) : Option (Int32) := (rb_lp (ρ := Int32) (fun (s1 : Int32 × Int32) => if 28 ≤ s1.2 then some (.inr s1.1) else (XX7_kindOf a s1.2).bind fun t10 => ((if t10 < 0 then some 0 else some 1) : Option (Int32)).bind fun j12 => some (.inl ((s1.1 + j12), (s1.2 + 1)))) 100000 (0, 0)).bind fun q2 => some q2
set_option maxHeartbeats 4000000 in
set_option maxRecDepth 20000 in
theorem ct_X7_objectsNow (μ : rb_Mem) (a : rb_Row) (o : Int32) (ha : μ 20 = a) (h : XX7_objectsNow a = some o) : rb_Ct yX7_objectsNow cX7_objectsNow 3 (some .int) 3 [.inr 19] μ (some o) μ := by
  unfold XX7_objectsNow at h
  have hini : rb_ov μ [(20, a)] = μ := rb_ov_sf _ _ (And.intro ha True.intro)
  have hfin := hini
  refine rb_cti (w := [(20, a)]) rfl pn_7 (Nat.le_of_ble_eq_true rfl) rfl hini ?_
  refine ev_iconst (v := 0) (pc := 0) dX7_objectsNow_0 ki_0 ?_
  refine ev_istore_n (L' := [some (.inr 19), some (.inl 0), none]) (pc := 1) dX7_objectsNow_1 (Nat.le_of_ble_eq_true rfl) rfl ?_
  refine ev_iconst (v := 0) (pc := 2) dX7_objectsNow_2 ki_0 ?_
  refine ev_istore_n (L' := [some (.inr 19), some (.inl 0), some (.inl 0)]) (pc := 3) dX7_objectsNow_3 (Nat.le_of_ble_eq_true rfl) rfl ?_
  obtain ⟨q2, l3, h⟩ := rb_bd h
  have hx7 : rb_Ev RX7 cX7_objectsNow 3 (some .int) none 3 (some o) μ 32 [none, some (.inl q2), none] [] (rb_ov μ [(20, a)]) := by
    refine ev_iload_n (v := q2) (pc := 32) dX7_objectsNow_32 rfl ?_
    obtain rfl := Option.some.inj h
    exact ev_iret (pc := 33) dX7_objectsNow_33 rfl rfl rfl hfin
  refine rb_lp_ev (P := fun (s1 : Int32 × Int32) => rb_Ev RX7 cX7_objectsNow 3 (some .int) none 3 (some o) μ 4 [some (.inr 19), some (.inl s1.1), some (.inl s1.2)] [] (rb_ov μ [(20, a)])) ?_ 100000 (0, 0) l3
  intro s1 y4 h ih5 hE6
  refine ev_iload_n (v := s1.2) (pc := 4) dX7_objectsNow_4 rfl ?_
  refine ev_bipush (v := 28) (pc := 5) dX7_objectsNow_5 kb_28 ?_
  by_cases b9 : 28 ≤ s1.2
  · rw [if_pos b9] at h
    refine ev_icmp_ge_t (t := 32) (pc := 7) dX7_objectsNow_7 (by decide) b9 ?_
    obtain rfl := Option.some.inj h
    obtain rfl := hE6 _ rfl
    exact ev_fg (L := [none, some (.inl s1.1), none]) (And.intro rfl True.intro) (hx7)
  · rw [if_neg b9] at h
    refine ev_icmp_ge_f (t := 32) (pc := 7) dX7_objectsNow_7 (by decide) b9 ?_
    obtain ⟨t10, e11, h⟩ := rb_bd h
    refine ev_iload_n (v := s1.1) (pc := 10) dX7_objectsNow_10 rfl ?_
    refine ev_aload_n (v := 19) (pc := 11) dX7_objectsNow_11 rfl ?_
    refine ev_iload_n (v := s1.2) (pc := 12) dX7_objectsNow_12 rfl ?_
    refine ev_cVi1 (pc := 13) dX7_objectsNow_13 mv_X7_kindOf lk_RX7_77 rp_19 (ct_X7_kindOf _ _ _ _ rfl e11) (Nat.le_of_ble_eq_true rfl) (Nat.le_of_ble_eq_true rfl) ?_
    obtain ⟨j12, e13, h⟩ := rb_bd h
    have hj14 : rb_Ev RX7 cX7_objectsNow 3 (some .int) none 3 (some o) μ 24 [some (.inr 19), none, some (.inl s1.2)] [.inl j12, .inl s1.1] (rb_ov μ [(20, a)]) := by
      refine ev_iadd (pc := 24) dX7_objectsNow_24 ?_
      refine ev_istore_n (L' := [some (.inr 19), some (.inl (s1.1 + j12)), some (.inl s1.2)]) (pc := 25) dX7_objectsNow_25 (Nat.le_of_ble_eq_true rfl) rfl ?_
      refine ev_iinc (x := s1.2) (v := (s1.2 + 1)) (L' := [some (.inr 19), some (.inl (s1.1 + j12)), some (.inl (s1.2 + 1))]) (pc := 26) dX7_objectsNow_26 rfl (kx_1 _) (Nat.le_of_ble_eq_true rfl) rfl ?_
      refine ev_goto (t := 4) (pc := 29) dX7_objectsNow_29 (by decide) ?_
      obtain rfl := Option.some.inj h
      exact ih5 ((s1.1 + j12), (s1.2 + 1)) rfl
    replace h := e13
    by_cases b15 : t10 < 0
    · rw [if_pos b15] at h
      refine ev_if_lt_t (t := 23) (pc := 16) dX7_objectsNow_16 (by decide) b15 ?_
      refine ev_iconst (v := 0) (pc := 23) dX7_objectsNow_23 ki_0 ?_
      obtain rfl := Option.some.inj h
      exact ev_fg (L := [some (.inr 19), none, some (.inl s1.2)]) (And.intro rfl (And.intro rfl True.intro)) (hj14)
    · rw [if_neg b15] at h
      refine ev_if_lt_f (t := 23) (pc := 16) dX7_objectsNow_16 (by decide) b15 ?_
      refine ev_iconst (v := 1) (pc := 19) dX7_objectsNow_19 ki_1 ?_
      refine ev_goto (t := 24) (pc := 20) dX7_objectsNow_20 (by decide) ?_
      obtain rfl := Option.some.inj h
      exact ev_fg (L := [some (.inr 19), none, some (.inl s1.2)]) (And.intro rfl (And.intro rfl True.intro)) (hj14)
def XX7_image (bo : rb_Row) (ib : rb_Row) (a : rb_Row) (x0 : Int32) : Option (Int32 × rb_Row × rb_Row) := (XX7_isIn x0 0 1).bind fun t1 => if t1 = 0 then some ((-1), bo, ib) else (rb_lp (ρ := rb_Row) (fun (s4 : Int32 × rb_Row) => if 796 ≤ s4.1 then some (.inr s4.2) else (rb_rd a 796 s4.1).bind fun v13 => (rb_wr s4.2 1592 ((796 * x0) + s4.1) v13).bind fun bo15 => some (.inl ((s4.1 + 1), bo15))) 100000 (0, bo)).bind fun q5 => (rb_wr ib 2 x0 (rb_nz 1)).bind fun ib17 => (XX7_objectsNow a).bind fun t19 => some (t19, q5, ib17)
set_option maxHeartbeats 4000000 in
set_option maxRecDepth 20000 in
theorem ct_X7_image (μ : rb_Mem) (bo : rb_Row) (ib : rb_Row) (a : rb_Row) (x0 : Int32) (o : Int32 × rb_Row × rb_Row) (hbo : μ 32 = bo) (hib : μ 33 = ib) (ha : μ 20 = a) (h : XX7_image bo ib a x0 = some o) : rb_Ct yX7_image cX7_image 3 (some .int) 4 [.inr 19, .inl x0] μ (some o.1) (rb_ov μ [(32, o.2.1), (33, o.2.2)]) := by
  unfold XX7_image at h
  have hini : rb_ov μ [(32, bo), (33, ib), (20, a)] = μ := rb_ov_sf _ _ (And.intro hbo (And.intro hib (And.intro ha True.intro)))
  have hfin : ∀ u0 u1 : rb_Row, rb_ov μ [(32, u0), (33, u1), (20, a)] = rb_ov μ [(32, u0), (33, u1)] := fun u0 u1 => rb_ov_ap _ [(32, u0), (33, u1)] _ (And.intro ha True.intro)
  refine rb_cti (w := [(32, bo), (33, ib), (20, a)]) rfl pn_7 (Nat.le_of_ble_eq_true rfl) rfl hini ?_
  obtain ⟨t1, e2, h⟩ := rb_bd h
  refine ev_iload_n (v := x0) (pc := 0) dX7_image_0 rfl ?_
  refine ev_iconst (v := 0) (pc := 1) dX7_image_1 ki_0 ?_
  refine ev_iconst (v := 1) (pc := 2) dX7_image_2 ki_1 ?_
  refine ev_cSi3 (pc := 3) dX7_image_3 ms_X7_isIn lk_RX7_69 (ct_X7_isIn _ _ _ _ _ e2) (Nat.le_of_ble_eq_true rfl) (Nat.le_of_ble_eq_true rfl) ?_
  by_cases b3 : t1 = 0
  · rw [if_pos b3] at h
    refine ev_if_ne_f (t := 11) (pc := 6) dX7_image_6 (by decide) b3 ?_
    refine ev_iconst (v := (-1)) (pc := 9) dX7_image_9 ki_m1 ?_
    obtain rfl := Option.some.inj h
    exact ev_iret (pc := 10) dX7_image_10 rfl rfl rfl (hfin _ _)
  · rw [if_neg b3] at h
    refine ev_if_ne_t (t := 11) (pc := 6) dX7_image_6 (by decide) b3 ?_
    refine ev_iconst (v := 0) (pc := 11) dX7_image_11 ki_0 ?_
    refine ev_istore_n (L' := [some (.inr 19), some (.inl x0), some (.inl 0)]) (pc := 12) dX7_image_12 (Nat.le_of_ble_eq_true rfl) rfl ?_
    obtain ⟨q5, l6, h⟩ := rb_bd h
    have hx10 : rb_Ev RX7 cX7_image 3 (some .int) none 4 (some o.1) (rb_ov μ [(32, o.2.1), (33, o.2.2)]) 44 [some (.inr 19), some (.inl x0), none] [] (rb_ov μ [(32, q5), (33, ib), (20, a)]) := by
      obtain ⟨ib17, e18, h⟩ := rb_bd h
      obtain ⟨t19, e20, h⟩ := rb_bd h
      refine ev_aload_n (v := 19) (pc := 44) dX7_image_44 rfl ?_
      refine ev_getr (q := 33) (pc := 45) dX7_image_45 fl_RX7_50 rfl rfl ?_
      refine ev_iload_n (v := x0) (pc := 48) dX7_image_48 rfl ?_
      refine ev_iconst (v := 1) (pc := 49) dX7_image_49 ki_1 ?_
      refine ev_zast (w' := [(32, q5), (33, ib17), (20, a)]) (pc := 50) dX7_image_50 rfl e18 rfl ?_
      refine ev_aload_n (v := 19) (pc := 51) dX7_image_51 rfl ?_
      refine ev_cVi0 (pc := 52) dX7_image_52 mv_X7_objectsNow lk_RX7_362 rp_19 (ct_X7_objectsNow _ _ _ rfl e20) (Nat.le_of_ble_eq_true rfl) (Nat.le_of_ble_eq_true rfl) ?_
      obtain rfl := Option.some.inj h
      exact ev_iret (pc := 55) dX7_image_55 rfl rfl rfl (hfin _ _)
    refine rb_lp_ev (P := fun (s4 : Int32 × rb_Row) => rb_Ev RX7 cX7_image 3 (some .int) none 4 (some o.1) (rb_ov μ [(32, o.2.1), (33, o.2.2)]) 13 [some (.inr 19), some (.inl x0), some (.inl s4.1)] [] (rb_ov μ [(32, s4.2), (33, ib), (20, a)])) ?_ 100000 (0, bo) l6
    intro s4 y7 h ih8 hE9
    refine ev_iload_n (v := s4.1) (pc := 13) dX7_image_13 rfl ?_
    refine ev_sipush (v := 796) (pc := 14) dX7_image_14 ks_796 ?_
    by_cases b12 : 796 ≤ s4.1
    · rw [if_pos b12] at h
      refine ev_icmp_ge_t (t := 44) (pc := 17) dX7_image_17 (by decide) b12 ?_
      obtain rfl := Option.some.inj h
      obtain rfl := hE9 _ rfl
      exact ev_fg (L := [some (.inr 19), some (.inl x0), none]) (And.intro rfl (And.intro rfl True.intro)) (hx10)
    · rw [if_neg b12] at h
      refine ev_icmp_ge_f (t := 44) (pc := 17) dX7_image_17 (by decide) b12 ?_
      obtain ⟨v13, e14, h⟩ := rb_bd h
      obtain ⟨bo15, e16, h⟩ := rb_bd h
      refine ev_aload_n (v := 19) (pc := 20) dX7_image_20 rfl ?_
      refine ev_getr (q := 32) (pc := 21) dX7_image_21 fl_RX7_47 rfl rfl ?_
      refine ev_sipush (v := 796) (pc := 24) dX7_image_24 ks_796 ?_
      refine ev_iload_n (v := x0) (pc := 27) dX7_image_27 rfl ?_
      refine ev_imul (pc := 28) dX7_image_28 ?_
      refine ev_iload_n (v := s4.1) (pc := 29) dX7_image_29 rfl ?_
      refine ev_iadd (pc := 30) dX7_image_30 ?_
      refine ev_aload_n (v := 19) (pc := 31) dX7_image_31 rfl ?_
      refine ev_getr (q := 20) (pc := 32) dX7_image_32 fl_RX7_7 rfl rfl ?_
      refine ev_iload_n (v := s4.1) (pc := 35) dX7_image_35 rfl ?_
      refine ev_iald (pc := 36) dX7_image_36 rfl e14 ?_
      refine ev_iast (w' := [(32, bo15), (33, ib), (20, a)]) (pc := 37) dX7_image_37 rfl e16 rfl ?_
      refine ev_iinc (x := s4.1) (v := (s4.1 + 1)) (L' := [some (.inr 19), some (.inl x0), some (.inl (s4.1 + 1))]) (pc := 38) dX7_image_38 rfl (kx_1 _) (Nat.le_of_ble_eq_true rfl) rfl ?_
      refine ev_goto (t := 13) (pc := 41) dX7_image_41 (by decide) ?_
      obtain rfl := Option.some.inj h
      exact ih8 ((s4.1 + 1), bo15) rfl
def XX7_back (a : rb_Row) (mf : rb_Row) (bo : rb_Row) (ib : rb_Row) (x0 : Int32) : Option (Int32 × rb_Row × rb_Row) := (XX7_isIn x0 0 1).bind fun t1 => if t1 = 0 then some ((-1), a, mf) else (rb_rd ib 2 x0).bind fun v4 => if v4 = 0 then some ((-1), a, mf) else (rb_lp (ρ := rb_Row) (fun (s7 : Int32 × rb_Row) => if 796 ≤ s7.1 then some (.inr s7.2) else (rb_rd bo 1592 ((796 * x0) + s7.1)).bind fun v16 => (rb_wr s7.2 796 s7.1 v16).bind fun a18 => some (.inl ((s7.1 + 1), a18))) 100000 (0, a)).bind fun q8 => (rb_pf mf 16 0).bind fun mf20 => (rb_pf mf20 17 0).bind fun mf22 => (XX7_objectsNow q8).bind fun t24 => some (t24, q8, mf22)
set_option maxHeartbeats 4000000 in
set_option maxRecDepth 20000 in
theorem ct_X7_back (μ : rb_Mem) (a : rb_Row) (mf : rb_Row) (bo : rb_Row) (ib : rb_Row) (x0 : Int32) (o : Int32 × rb_Row × rb_Row) (ha : μ 20 = a) (hmf : μ 19 = mf) (hbo : μ 32 = bo) (hib : μ 33 = ib) (h : XX7_back a mf bo ib x0 = some o) : rb_Ct yX7_back cX7_back 3 (some .int) 4 [.inr 19, .inl x0] μ (some o.1) (rb_ov μ [(20, o.2.1), (19, o.2.2)]) := by
  unfold XX7_back at h
  have hini : rb_ov μ [(20, a), (19, mf), (32, bo), (33, ib)] = μ := rb_ov_sf _ _ (And.intro ha (And.intro hmf (And.intro hbo (And.intro hib True.intro))))
  have hfin : ∀ u0 u1 : rb_Row, rb_ov μ [(20, u0), (19, u1), (32, bo), (33, ib)] = rb_ov μ [(20, u0), (19, u1)] := fun u0 u1 => rb_ov_ap _ [(20, u0), (19, u1)] _ (And.intro hbo (And.intro hib True.intro))
  refine rb_cti (w := [(20, a), (19, mf), (32, bo), (33, ib)]) rfl pn_7 (Nat.le_of_ble_eq_true rfl) rfl hini ?_
  obtain ⟨t1, e2, h⟩ := rb_bd h
  refine ev_iload_n (v := x0) (pc := 0) dX7_back_0 rfl ?_
  refine ev_iconst (v := 0) (pc := 1) dX7_back_1 ki_0 ?_
  refine ev_iconst (v := 1) (pc := 2) dX7_back_2 ki_1 ?_
  refine ev_cSi3 (pc := 3) dX7_back_3 ms_X7_isIn lk_RX7_69 (ct_X7_isIn _ _ _ _ _ e2) (Nat.le_of_ble_eq_true rfl) (Nat.le_of_ble_eq_true rfl) ?_
  by_cases b3 : t1 = 0
  · rw [if_pos b3] at h
    refine ev_if_eq_t (t := 18) (pc := 6) dX7_back_6 (by decide) b3 ?_
    refine ev_iconst (v := (-1)) (pc := 18) dX7_back_18 ki_m1 ?_
    obtain rfl := Option.some.inj h
    exact ev_iret (pc := 19) dX7_back_19 rfl rfl rfl (hfin _ _)
  · rw [if_neg b3] at h
    refine ev_if_eq_f (t := 18) (pc := 6) dX7_back_6 (by decide) b3 ?_
    obtain ⟨v4, e5, h⟩ := rb_bd h
    refine ev_aload_n (v := 19) (pc := 9) dX7_back_9 rfl ?_
    refine ev_getr (q := 33) (pc := 10) dX7_back_10 fl_RX7_50 rfl rfl ?_
    refine ev_iload_n (v := x0) (pc := 13) dX7_back_13 rfl ?_
    refine ev_zald (pc := 14) dX7_back_14 rfl e5 ?_
    by_cases b6 : v4 = 0
    · rw [if_pos b6] at h
      refine ev_if_ne_f (t := 20) (pc := 15) dX7_back_15 (by decide) b6 ?_
      refine ev_iconst (v := (-1)) (pc := 18) dX7_back_18 ki_m1 ?_
      obtain rfl := Option.some.inj h
      exact ev_iret (pc := 19) dX7_back_19 rfl rfl rfl (hfin _ _)
    · rw [if_neg b6] at h
      refine ev_if_ne_t (t := 20) (pc := 15) dX7_back_15 (by decide) b6 ?_
      refine ev_iconst (v := 0) (pc := 20) dX7_back_20 ki_0 ?_
      refine ev_istore_n (L' := [some (.inr 19), some (.inl x0), some (.inl 0)]) (pc := 21) dX7_back_21 (Nat.le_of_ble_eq_true rfl) rfl ?_
      obtain ⟨q8, l9, h⟩ := rb_bd h
      have hx13 : rb_Ev RX7 cX7_back 3 (some .int) none 4 (some o.1) (rb_ov μ [(20, o.2.1), (19, o.2.2)]) 53 [some (.inr 19), none, none] [] (rb_ov μ [(20, q8), (19, mf), (32, bo), (33, ib)]) := by
        obtain ⟨mf20, e21, h⟩ := rb_bd h
        obtain ⟨mf22, e23, h⟩ := rb_bd h
        obtain ⟨t24, e25, h⟩ := rb_bd h
        refine ev_aload_n (v := 19) (pc := 53) dX7_back_53 rfl ?_
        refine ev_iconst (v := 0) (pc := 54) dX7_back_54 ki_0 ?_
        refine ev_putw (w' := [(20, q8), (19, mf20), (32, bo), (33, ib)]) (pc := 55) dX7_back_55 fp_RX7_353 rfl rfl e21 rfl ?_
        refine ev_aload_n (v := 19) (pc := 58) dX7_back_58 rfl ?_
        refine ev_iconst (v := 0) (pc := 59) dX7_back_59 ki_0 ?_
        refine ev_putw (w' := [(20, q8), (19, mf22), (32, bo), (33, ib)]) (pc := 60) dX7_back_60 fp_RX7_356 rfl rfl e23 rfl ?_
        refine ev_aload_n (v := 19) (pc := 63) dX7_back_63 rfl ?_
        refine ev_cVi0 (pc := 64) dX7_back_64 mv_X7_objectsNow lk_RX7_362 rp_19 (ct_X7_objectsNow _ _ _ rfl e25) (Nat.le_of_ble_eq_true rfl) (Nat.le_of_ble_eq_true rfl) ?_
        obtain rfl := Option.some.inj h
        exact ev_iret (pc := 67) dX7_back_67 rfl rfl rfl (hfin _ _)
      refine rb_lp_ev (P := fun (s7 : Int32 × rb_Row) => rb_Ev RX7 cX7_back 3 (some .int) none 4 (some o.1) (rb_ov μ [(20, o.2.1), (19, o.2.2)]) 22 [some (.inr 19), some (.inl x0), some (.inl s7.1)] [] (rb_ov μ [(20, s7.2), (19, mf), (32, bo), (33, ib)])) ?_ 100000 (0, a) l9
      intro s7 y10 h ih11 hE12
      refine ev_iload_n (v := s7.1) (pc := 22) dX7_back_22 rfl ?_
      refine ev_sipush (v := 796) (pc := 23) dX7_back_23 ks_796 ?_
      by_cases b15 : 796 ≤ s7.1
      · rw [if_pos b15] at h
        refine ev_icmp_ge_t (t := 53) (pc := 26) dX7_back_26 (by decide) b15 ?_
        obtain rfl := Option.some.inj h
        obtain rfl := hE12 _ rfl
        exact ev_fg (L := [some (.inr 19), none, none]) (And.intro rfl True.intro) (hx13)
      · rw [if_neg b15] at h
        refine ev_icmp_ge_f (t := 53) (pc := 26) dX7_back_26 (by decide) b15 ?_
        obtain ⟨v16, e17, h⟩ := rb_bd h
        obtain ⟨a18, e19, h⟩ := rb_bd h
        refine ev_aload_n (v := 19) (pc := 29) dX7_back_29 rfl ?_
        refine ev_getr (q := 20) (pc := 30) dX7_back_30 fl_RX7_7 rfl rfl ?_
        refine ev_iload_n (v := s7.1) (pc := 33) dX7_back_33 rfl ?_
        refine ev_aload_n (v := 19) (pc := 34) dX7_back_34 rfl ?_
        refine ev_getr (q := 32) (pc := 35) dX7_back_35 fl_RX7_47 rfl rfl ?_
        refine ev_sipush (v := 796) (pc := 38) dX7_back_38 ks_796 ?_
        refine ev_iload_n (v := x0) (pc := 41) dX7_back_41 rfl ?_
        refine ev_imul (pc := 42) dX7_back_42 ?_
        refine ev_iload_n (v := s7.1) (pc := 43) dX7_back_43 rfl ?_
        refine ev_iadd (pc := 44) dX7_back_44 ?_
        refine ev_iald (pc := 45) dX7_back_45 rfl e17 ?_
        refine ev_iast (w' := [(20, a18), (19, mf), (32, bo), (33, ib)]) (pc := 46) dX7_back_46 rfl e19 rfl ?_
        refine ev_iinc (x := s7.1) (v := (s7.1 + 1)) (L' := [some (.inr 19), some (.inl x0), some (.inl (s7.1 + 1))]) (pc := 47) dX7_back_47 rfl (kx_1 _) (Nat.le_of_ble_eq_true rfl) rfl ?_
        refine ev_goto (t := 22) (pc := 50) dX7_back_50 (by decide) ?_
        obtain rfl := Option.some.inj h
        exact ih11 ((s7.1 + 1), a18) rfl
def XX7_handlesNow (a : rb_Row) : Option (Int32) := (rb_lp (ρ := Int32) (fun (s1 : Int32 × Int32) => if 16 ≤ s1.2 then some (.inr s1.1) else (XX7_isHandle a s1.2).bind fun t10 => ((if t10 = 0 then some s1.1 else some (s1.1 ||| (1 <<< (s1.2 &&& 31)))) : Option (Int32)).bind fun j12 => some (.inl (j12, (s1.2 + 1)))) 100000 (0, 0)).bind fun q2 => some q2
set_option maxHeartbeats 4000000 in
set_option maxRecDepth 20000 in
theorem ct_X7_handlesNow (μ : rb_Mem) (a : rb_Row) (o : Int32) (ha : μ 20 = a) (h : XX7_handlesNow a = some o) : rb_Ct yX7_handlesNow cX7_handlesNow 3 (some .int) 2 [.inr 19] μ (some o) μ := by
  unfold XX7_handlesNow at h
  have hini : rb_ov μ [(20, a)] = μ := rb_ov_sf _ _ (And.intro ha True.intro)
  have hfin := hini
  refine rb_cti (w := [(20, a)]) rfl pn_7 (Nat.le_of_ble_eq_true rfl) rfl hini ?_
  refine ev_iconst (v := 0) (pc := 0) dX7_handlesNow_0 ki_0 ?_
  refine ev_istore_n (L' := [some (.inr 19), some (.inl 0), none]) (pc := 1) dX7_handlesNow_1 (Nat.le_of_ble_eq_true rfl) rfl ?_
  refine ev_iconst (v := 0) (pc := 2) dX7_handlesNow_2 ki_0 ?_
  refine ev_istore_n (L' := [some (.inr 19), some (.inl 0), some (.inl 0)]) (pc := 3) dX7_handlesNow_3 (Nat.le_of_ble_eq_true rfl) rfl ?_
  obtain ⟨q2, l3, h⟩ := rb_bd h
  have hx7 : rb_Ev RX7 cX7_handlesNow 3 (some .int) none 2 (some o) μ 30 [none, some (.inl q2), none] [] (rb_ov μ [(20, a)]) := by
    refine ev_iload_n (v := q2) (pc := 30) dX7_handlesNow_30 rfl ?_
    obtain rfl := Option.some.inj h
    exact ev_iret (pc := 31) dX7_handlesNow_31 rfl rfl rfl hfin
  refine rb_lp_ev (P := fun (s1 : Int32 × Int32) => rb_Ev RX7 cX7_handlesNow 3 (some .int) none 2 (some o) μ 4 [some (.inr 19), some (.inl s1.1), some (.inl s1.2)] [] (rb_ov μ [(20, a)])) ?_ 100000 (0, 0) l3
  intro s1 y4 h ih5 hE6
  refine ev_iload_n (v := s1.2) (pc := 4) dX7_handlesNow_4 rfl ?_
  refine ev_bipush (v := 16) (pc := 5) dX7_handlesNow_5 kb_16 ?_
  by_cases b9 : 16 ≤ s1.2
  · rw [if_pos b9] at h
    refine ev_icmp_ge_t (t := 30) (pc := 7) dX7_handlesNow_7 (by decide) b9 ?_
    obtain rfl := Option.some.inj h
    obtain rfl := hE6 _ rfl
    exact ev_fg (L := [none, some (.inl s1.1), none]) (And.intro rfl True.intro) (hx7)
  · rw [if_neg b9] at h
    refine ev_icmp_ge_f (t := 30) (pc := 7) dX7_handlesNow_7 (by decide) b9 ?_
    obtain ⟨t10, e11, h⟩ := rb_bd h
    refine ev_aload_n (v := 19) (pc := 10) dX7_handlesNow_10 rfl ?_
    refine ev_iload_n (v := s1.2) (pc := 11) dX7_handlesNow_11 rfl ?_
    refine ev_cVi1 (pc := 12) dX7_handlesNow_12 mv_X7_isHandle lk_RX7_73 rp_19 (ct_X7_isHandle _ _ _ _ rfl e11) (Nat.le_of_ble_eq_true rfl) (Nat.le_of_ble_eq_true rfl) ?_
    obtain ⟨j12, e13, h⟩ := rb_bd h
    have hj14 : rb_Ev RX7 cX7_handlesNow 3 (some .int) none 2 (some o) μ 24 [some (.inr 19), some (.inl j12), some (.inl s1.2)] [] (rb_ov μ [(20, a)]) := by
      refine ev_iinc (x := s1.2) (v := (s1.2 + 1)) (L' := [some (.inr 19), some (.inl j12), some (.inl (s1.2 + 1))]) (pc := 24) dX7_handlesNow_24 rfl (kx_1 _) (Nat.le_of_ble_eq_true rfl) rfl ?_
      refine ev_goto (t := 4) (pc := 27) dX7_handlesNow_27 (by decide) ?_
      obtain rfl := Option.some.inj h
      exact ih5 (j12, (s1.2 + 1)) rfl
    replace h := e13
    by_cases b15 : t10 = 0
    · rw [if_pos b15] at h
      refine ev_if_eq_t (t := 24) (pc := 15) dX7_handlesNow_15 (by decide) b15 ?_
      obtain rfl := Option.some.inj h
      exact hj14
    · rw [if_neg b15] at h
      refine ev_if_eq_f (t := 24) (pc := 15) dX7_handlesNow_15 (by decide) b15 ?_
      refine ev_iload_n (v := s1.1) (pc := 18) dX7_handlesNow_18 rfl ?_
      refine ev_iconst (v := 1) (pc := 19) dX7_handlesNow_19 ki_1 ?_
      refine ev_iload_n (v := s1.2) (pc := 20) dX7_handlesNow_20 rfl ?_
      refine ev_ishl (pc := 21) dX7_handlesNow_21 ?_
      refine ev_ior (pc := 22) dX7_handlesNow_22 ?_
      refine ev_istore_n (L' := [some (.inr 19), some (.inl (s1.1 ||| (1 <<< (s1.2 &&& 31)))), some (.inl s1.2)]) (pc := 23) dX7_handlesNow_23 (Nat.le_of_ble_eq_true rfl) rfl ?_
      obtain rfl := Option.some.inj h
      exact hj14
def XX7_about (a : rb_Row) (mf : rb_Row) (x0 : Int32) : Option (Int32) := if x0 = 0 then (XX7_handlesNow a).bind fun t2 => some t2 else if x0 = 1 then (XX7_interestsNow a).bind fun t5 => some t5 else if x0 = 2 then (rb_rd a 796 794).bind fun v8 => some v8 else if x0 = 3 then (XX7_asleepNow a).bind fun t11 => some t11 else if x0 = 4 then some (mf 16) else if x0 = 5 then some (mf 17) else if x0 = 6 then (XX7_objectsNow a).bind fun t16 => some t16 else some (-1)
set_option maxHeartbeats 4000000 in
set_option maxRecDepth 20000 in
theorem ct_X7_about (μ : rb_Mem) (a : rb_Row) (mf : rb_Row) (x0 : Int32) (o : Int32) (ha : μ 20 = a) (hmf : μ 19 = mf) (h : XX7_about a mf x0 = some o) : rb_Ct yX7_about cX7_about 2 (some .int) 4 [.inr 19, .inl x0] μ (some o) μ := by
  unfold XX7_about at h
  have hini : rb_ov μ [(20, a), (19, mf)] = μ := rb_ov_sf _ _ (And.intro ha (And.intro hmf True.intro))
  have hfin := hini
  refine rb_cti (w := [(20, a), (19, mf)]) rfl pn_7 (Nat.le_of_ble_eq_true rfl) rfl hini ?_
  refine ev_iload_n (v := x0) (pc := 0) dX7_about_0 rfl ?_
  by_cases b1 : x0 = 0
  · rw [if_pos b1] at h
    refine ev_tsIn (t := 44) (off := 43) (pc := 1) dX7_about_1 (by rw [b1]; decide) (by rw [b1]; decide) (by rw [b1]; decide) (by decide) ?_
    obtain ⟨t2, e3, h⟩ := rb_bd h
    refine ev_aload_n (v := 19) (pc := 44) dX7_about_44 rfl ?_
    refine ev_cVi0 (pc := 45) dX7_about_45 mv_X7_handlesNow lk_RX7_365 rp_19 (ct_X7_handlesNow _ _ _ rfl e3) (Nat.le_of_ble_eq_true rfl) (Nat.le_of_ble_eq_true rfl) ?_
    obtain rfl := Option.some.inj h
    exact ev_iret (pc := 48) dX7_about_48 rfl rfl rfl hfin
  · rw [if_neg b1] at h
    by_cases b4 : x0 = 1
    · rw [if_pos b4] at h
      refine ev_tsIn (t := 49) (off := 48) (pc := 1) dX7_about_1 (by rw [b4]; decide) (by rw [b4]; decide) (by rw [b4]; decide) (by decide) ?_
      obtain ⟨t5, e6, h⟩ := rb_bd h
      refine ev_aload_n (v := 19) (pc := 49) dX7_about_49 rfl ?_
      refine ev_cVi0 (pc := 50) dX7_about_50 mv_X7_interestsNow lk_RX7_272 rp_19 (ct_X7_interestsNow _ _ _ rfl e6) (Nat.le_of_ble_eq_true rfl) (Nat.le_of_ble_eq_true rfl) ?_
      obtain rfl := Option.some.inj h
      exact ev_iret (pc := 53) dX7_about_53 rfl rfl rfl hfin
    · rw [if_neg b4] at h
      by_cases b7 : x0 = 2
      · rw [if_pos b7] at h
        refine ev_tsIn (t := 54) (off := 53) (pc := 1) dX7_about_1 (by rw [b7]; decide) (by rw [b7]; decide) (by rw [b7]; decide) (by decide) ?_
        obtain ⟨v8, e9, h⟩ := rb_bd h
        refine ev_aload_n (v := 19) (pc := 54) dX7_about_54 rfl ?_
        refine ev_getr (q := 20) (pc := 55) dX7_about_55 fl_RX7_7 rfl rfl ?_
        refine ev_sipush (v := 794) (pc := 58) dX7_about_58 ks_794 ?_
        refine ev_iald (pc := 61) dX7_about_61 rfl e9 ?_
        obtain rfl := Option.some.inj h
        exact ev_iret (pc := 62) dX7_about_62 rfl rfl rfl hfin
      · rw [if_neg b7] at h
        by_cases b10 : x0 = 3
        · rw [if_pos b10] at h
          refine ev_tsIn (t := 63) (off := 62) (pc := 1) dX7_about_1 (by rw [b10]; decide) (by rw [b10]; decide) (by rw [b10]; decide) (by decide) ?_
          obtain ⟨t11, e12, h⟩ := rb_bd h
          refine ev_aload_n (v := 19) (pc := 63) dX7_about_63 rfl ?_
          refine ev_cVi0 (pc := 64) dX7_about_64 mv_X7_asleepNow lk_RX7_338 rp_19 (ct_X7_asleepNow _ _ _ rfl e12) (Nat.le_of_ble_eq_true rfl) (Nat.le_of_ble_eq_true rfl) ?_
          obtain rfl := Option.some.inj h
          exact ev_iret (pc := 67) dX7_about_67 rfl rfl rfl hfin
        · rw [if_neg b10] at h
          by_cases b13 : x0 = 4
          · rw [if_pos b13] at h
            refine ev_tsIn (t := 68) (off := 67) (pc := 1) dX7_about_1 (by rw [b13]; decide) (by rw [b13]; decide) (by rw [b13]; decide) (by decide) ?_
            refine ev_aload_n (v := 19) (pc := 68) dX7_about_68 rfl ?_
            refine ev_geti (v := (mf 16)) (pc := 69) dX7_about_69 fl_RX7_353 rfl rfl rfl ?_
            obtain rfl := Option.some.inj h
            exact ev_iret (pc := 72) dX7_about_72 rfl rfl rfl hfin
          · rw [if_neg b13] at h
            by_cases b14 : x0 = 5
            · rw [if_pos b14] at h
              refine ev_tsIn (t := 73) (off := 72) (pc := 1) dX7_about_1 (by rw [b14]; decide) (by rw [b14]; decide) (by rw [b14]; decide) (by decide) ?_
              refine ev_aload_n (v := 19) (pc := 73) dX7_about_73 rfl ?_
              refine ev_geti (v := (mf 17)) (pc := 74) dX7_about_74 fl_RX7_356 rfl rfl rfl ?_
              obtain rfl := Option.some.inj h
              exact ev_iret (pc := 77) dX7_about_77 rfl rfl rfl hfin
            · rw [if_neg b14] at h
              by_cases b15 : x0 = 6
              · rw [if_pos b15] at h
                refine ev_tsIn (t := 78) (off := 77) (pc := 1) dX7_about_1 (by rw [b15]; decide) (by rw [b15]; decide) (by rw [b15]; decide) (by decide) ?_
                obtain ⟨t16, e17, h⟩ := rb_bd h
                refine ev_aload_n (v := 19) (pc := 78) dX7_about_78 rfl ?_
                refine ev_cVi0 (pc := 79) dX7_about_79 mv_X7_objectsNow lk_RX7_362 rp_19 (ct_X7_objectsNow _ _ _ rfl e17) (Nat.le_of_ble_eq_true rfl) (Nat.le_of_ble_eq_true rfl) ?_
                obtain rfl := Option.some.inj h
                exact ev_iret (pc := 82) dX7_about_82 rfl rfl rfl hfin
              · rw [if_neg b15] at h
                refine ev_tsOut (t := 83) (pc := 1) dX7_about_1 (rb_tsS (k := 6) (by decide) b15 (rb_tsS (k := 5) (by decide) b14 (rb_tsS (k := 4) (by decide) b13 (rb_tsS (k := 3) (by decide) b10 (rb_tsS (k := 2) (by decide) b7 (rb_tsS (k := 1) (by decide) b4 (rb_tsS (k := 0) (by decide) b1 (rb_ts0 _)))))))) (by decide) ?_
                refine ev_iconst (v := (-1)) (pc := 83) dX7_about_83 ki_m1 ?_
                obtain rfl := Option.some.inj h
                exact ev_iret (pc := 84) dX7_about_84 rfl rfl rfl hfin
