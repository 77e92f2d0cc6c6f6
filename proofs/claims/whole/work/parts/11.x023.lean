def XX0_become (c : rb_Row) (f : rb_Row) (src : rb_Row) : Option (rb_Row × rb_Row) := (rb_cp src 773 0 c 773 0 773).bind fun c1 => (rb_pf f 5 0).bind fun f3 => (rb_pf f3 6 0).bind fun f5 => (rb_pf f5 7 0).bind fun f7 => some (c1, f7)
set_option maxHeartbeats 4000000 in
set_option maxRecDepth 20000 in
theorem ct1_X0_become (μ : rb_Mem) (c : rb_Row) (f : rb_Row) (src : rb_Row) (o : rb_Row × rb_Row) (hc : μ 11 = c) (hf : μ 7 = f) (hsrc : μ 5 = src) (h : XX0_become c f src = some o) : rb_Ct yX0_become cX0_become 2 none 1 [.inr 7, .inr 5] μ none (rb_ov μ [(11, o.1), (7, o.2)]) := by
  unfold XX0_become at h
  have hini : rb_ov μ [(11, c), (7, f), (5, src)] = μ := rb_ov_sf _ _ (And.intro hc (And.intro hf (And.intro hsrc True.intro)))
  have hfin : ∀ u0 u1 : rb_Row, rb_ov μ [(11, u0), (7, u1), (5, src)] = rb_ov μ [(11, u0), (7, u1)] := fun u0 u1 => rb_ov_ap _ [(11, u0), (7, u1)] _ (And.intro hsrc True.intro)
  refine rb_ctv (w := [(11, c), (7, f), (5, src)]) rfl pn_0 (Nat.le_of_ble_eq_true rfl) rfl hini ?_
  obtain ⟨c1, e2, h⟩ := rb_bd h
  obtain ⟨f3, e4, h⟩ := rb_bd h
  obtain ⟨f5, e6, h⟩ := rb_bd h
  obtain ⟨f7, e8, h⟩ := rb_bd h
  refine ev_aload_n (v := 5) (pc := 0) dX0_become_0 rfl ?_
  refine ev_iconst (v := 0) (pc := 1) dX0_become_1 ki_0 ?_
  refine ev_aload_n (v := 7) (pc := 2) dX0_become_2 rfl ?_
  refine ev_getr (q := 11) (pc := 3) dX0_become_3 fl_RX0_9 rfl rfl ?_
  refine ev_iconst (v := 0) (pc := 6) dX0_become_6 ki_0 ?_
  refine ev_sipush (v := 773) (pc := 7) dX0_become_7 ks_773 ?_
  refine ev_copy (w' := [(11, c1), (7, f), (5, src)]) (pc := 10) dX0_become_10 lk_RX0_41 rfl rfl (Nat.le_of_ble_eq_true rfl) (Nat.le_of_ble_eq_true rfl) e2 rfl ?_
  refine ev_aload_n (v := 7) (pc := 13) dX0_become_13 rfl ?_
  refine ev_iconst (v := 0) (pc := 14) dX0_become_14 ki_0 ?_
  refine ev_putw (w' := [(11, c1), (7, f3), (5, src)]) (pc := 15) dX0_become_15 fp_RX0_47 rfl rfl e4 rfl ?_
  refine ev_aload_n (v := 7) (pc := 18) dX0_become_18 rfl ?_
  refine ev_iconst (v := 0) (pc := 19) dX0_become_19 ki_0 ?_
  refine ev_putw (w' := [(11, c1), (7, f5), (5, src)]) (pc := 20) dX0_become_20 fp_RX0_51 rfl rfl e6 rfl ?_
  refine ev_aload_n (v := 7) (pc := 23) dX0_become_23 rfl ?_
  refine ev_iconst (v := 0) (pc := 24) dX0_become_24 ki_0 ?_
  refine ev_putw (w' := [(11, c1), (7, f7), (5, src)]) (pc := 25) dX0_become_25 fp_RX0_54 rfl rfl e8 rfl ?_
  obtain rfl := Option.some.inj h
  exact ev_ret (pc := 28) dX0_become_28 rfl rfl (hfin _ _)
def XX0_time (c : rb_Row) : Option (Int32) := (rb_rd c 773 0).bind fun v1 => some v1
set_option maxHeartbeats 4000000 in
set_option maxRecDepth 20000 in
theorem ct0_X0_time (μ : rb_Mem) (c : rb_Row) (o : Int32) (hc : μ 5 = c) (h : XX0_time c = some o) : rb_Ct yX0_time cX0_time 1 (some .int) 0 [.inr 1] μ (some o) μ := by
  unfold XX0_time at h
  have hini : rb_ov μ [(5, c)] = μ := rb_ov_sf _ _ (And.intro hc True.intro)
  have hfin := hini
  refine rb_cti (w := [(5, c)]) rfl pn_0 (Nat.le_of_ble_eq_true rfl) rfl hini ?_
  obtain ⟨v1, e2, h⟩ := rb_bd h
  refine ev_aload_n (v := 1) (pc := 0) dX0_time_0 rfl ?_
  refine ev_getr (q := 5) (pc := 1) dX0_time_1 fl_RX0_9 rfl rfl ?_
  refine ev_iconst (v := 0) (pc := 4) dX0_time_4 ki_0 ?_
  refine ev_iald (pc := 5) dX0_time_5 rfl e2 ?_
  obtain rfl := Option.some.inj h
  exact ev_iret (pc := 6) dX0_time_6 rfl rfl rfl hfin
set_option maxHeartbeats 4000000 in
set_option maxRecDepth 20000 in
theorem ct1_X0_time (μ : rb_Mem) (c : rb_Row) (o : Int32) (hc : μ 11 = c) (h : XX0_time c = some o) : rb_Ct yX0_time cX0_time 1 (some .int) 0 [.inr 7] μ (some o) μ := by
  unfold XX0_time at h
  have hini : rb_ov μ [(11, c)] = μ := rb_ov_sf _ _ (And.intro hc True.intro)
  have hfin := hini
  refine rb_cti (w := [(11, c)]) rfl pn_0 (Nat.le_of_ble_eq_true rfl) rfl hini ?_
  obtain ⟨v1, e2, h⟩ := rb_bd h
  refine ev_aload_n (v := 7) (pc := 0) dX0_time_0 rfl ?_
  refine ev_getr (q := 11) (pc := 1) dX0_time_1 fl_RX0_9 rfl rfl ?_
  refine ev_iconst (v := 0) (pc := 4) dX0_time_4 ki_0 ?_
  refine ev_iald (pc := 5) dX0_time_5 rfl e2 ?_
  obtain rfl := Option.some.inj h
  exact ev_iret (pc := 6) dX0_time_6 rfl rfl rfl hfin
def XX0_hasWokenAt (f : rb_Row) (x0 : Int32) : Option (Int32) := if ((f 6) &&& (1 <<< (x0 &&& 31))) = 0 then some (rb_nz 0) else some (rb_nz 1)
set_option maxHeartbeats 4000000 in
set_option maxRecDepth 20000 in
theorem ct0_X0_hasWokenAt (μ : rb_Mem) (f : rb_Row) (x0 : Int32) (o : Int32) (hf : μ 1 = f) (h : XX0_hasWokenAt f x0 = some o) : rb_Ct yX0_hasWokenAt cX0_hasWokenAt 2 (some .boolean) 0 [.inr 1, .inl x0] μ (some o) μ := by
  unfold XX0_hasWokenAt at h
  have hini : rb_ov μ [(1, f)] = μ := rb_ov_sf _ _ (And.intro hf True.intro)
  have hfin := hini
  refine rb_ctz (w := [(1, f)]) rfl pn_0 (Nat.le_of_ble_eq_true rfl) rfl hini ?_
  refine ev_aload_n (v := 1) (pc := 0) dX0_hasWokenAt_0 rfl ?_
  refine ev_geti (v := (f 6)) (pc := 1) dX0_hasWokenAt_1 fl_RX0_51 rfl rfl rfl ?_
  refine ev_iconst (v := 1) (pc := 4) dX0_hasWokenAt_4 ki_1 ?_
  refine ev_iload_n (v := x0) (pc := 5) dX0_hasWokenAt_5 rfl ?_
  refine ev_ishl (pc := 6) dX0_hasWokenAt_6 ?_
  refine ev_iand (pc := 7) dX0_hasWokenAt_7 ?_
  by_cases b1 : ((f 6) &&& (1 <<< (x0 &&& 31))) = 0
  · rw [if_pos b1] at h
    refine ev_if_eq_t (t := 15) (pc := 8) dX0_hasWokenAt_8 (by decide) b1 ?_
    refine ev_iconst (v := 0) (pc := 15) dX0_hasWokenAt_15 ki_0 ?_
    obtain rfl := Option.some.inj h
    exact ev_iret (pc := 16) dX0_hasWokenAt_16 rfl rfl rfl hfin
  · rw [if_neg b1] at h
    refine ev_if_eq_f (t := 15) (pc := 8) dX0_hasWokenAt_8 (by decide) b1 ?_
    refine ev_iconst (v := 1) (pc := 11) dX0_hasWokenAt_11 ki_1 ?_
    refine ev_goto (t := 16) (pc := 12) dX0_hasWokenAt_12 (by decide) ?_
    obtain rfl := Option.some.inj h
    exact ev_iret (pc := 16) dX0_hasWokenAt_16 rfl rfl rfl hfin
set_option maxHeartbeats 4000000 in
set_option maxRecDepth 20000 in
theorem ct1_X0_hasWokenAt (μ : rb_Mem) (f : rb_Row) (x0 : Int32) (o : Int32) (hf : μ 7 = f) (h : XX0_hasWokenAt f x0 = some o) : rb_Ct yX0_hasWokenAt cX0_hasWokenAt 2 (some .boolean) 0 [.inr 7, .inl x0] μ (some o) μ := by
  unfold XX0_hasWokenAt at h
  have hini : rb_ov μ [(7, f)] = μ := rb_ov_sf _ _ (And.intro hf True.intro)
  have hfin := hini
  refine rb_ctz (w := [(7, f)]) rfl pn_0 (Nat.le_of_ble_eq_true rfl) rfl hini ?_
  refine ev_aload_n (v := 7) (pc := 0) dX0_hasWokenAt_0 rfl ?_
  refine ev_geti (v := (f 6)) (pc := 1) dX0_hasWokenAt_1 fl_RX0_51 rfl rfl rfl ?_
  refine ev_iconst (v := 1) (pc := 4) dX0_hasWokenAt_4 ki_1 ?_
  refine ev_iload_n (v := x0) (pc := 5) dX0_hasWokenAt_5 rfl ?_
  refine ev_ishl (pc := 6) dX0_hasWokenAt_6 ?_
  refine ev_iand (pc := 7) dX0_hasWokenAt_7 ?_
  by_cases b1 : ((f 6) &&& (1 <<< (x0 &&& 31))) = 0
  · rw [if_pos b1] at h
    refine ev_if_eq_t (t := 15) (pc := 8) dX0_hasWokenAt_8 (by decide) b1 ?_
    refine ev_iconst (v := 0) (pc := 15) dX0_hasWokenAt_15 ki_0 ?_
    obtain rfl := Option.some.inj h
    exact ev_iret (pc := 16) dX0_hasWokenAt_16 rfl rfl rfl hfin
  · rw [if_neg b1] at h
    refine ev_if_eq_f (t := 15) (pc := 8) dX0_hasWokenAt_8 (by decide) b1 ?_
    refine ev_iconst (v := 1) (pc := 11) dX0_hasWokenAt_11 ki_1 ?_
    refine ev_goto (t := 16) (pc := 12) dX0_hasWokenAt_12 (by decide) ?_
    obtain rfl := Option.some.inj h
    exact ev_iret (pc := 16) dX0_hasWokenAt_16 rfl rfl rfl hfin
def XX0_calledHandles (c : rb_Row) (f : rb_Row) : Option (Int32) := (rb_lp (ρ := Int32) (fun (s1 : Int32 × Int32) => if s1.2 < 0 then some (.inr s1.1) else (rb_rd c 773 (3 + s1.2)).bind fun v10 => ((if v10 < 0 then some s1.1 else if ((f 5) &&& (1 <<< (v10 &&& 31))) = 0 then some s1.1 else (XX5_lowestHandle c v10).bind fun t17 => if t17 = s1.2 then some (s1.1 ||| (1 <<< (s1.2 &&& 31))) else some s1.1) : Option (Int32)).bind fun j12 => some (.inl (j12, (s1.2 + (-1))))) 100000 (0, 15)).bind fun q2 => some q2
set_option maxHeartbeats 4000000 in
set_option maxRecDepth 20000 in
theorem ct0_X0_calledHandles (μ : rb_Mem) (c : rb_Row) (f : rb_Row) (o : Int32) (hc : μ 5 = c) (hf : μ 1 = f) (h : XX0_calledHandles c f = some o) : rb_Ct yX0_calledHandles cX0_calledHandles 4 (some .int) 2 [.inr 1] μ (some o) μ := by
  unfold XX0_calledHandles at h
  have hini : rb_ov μ [(5, c), (1, f)] = μ := rb_ov_sf _ _ (And.intro hc (And.intro hf True.intro))
  have hfin := hini
  refine rb_cti (w := [(5, c), (1, f)]) rfl pn_0 (Nat.le_of_ble_eq_true rfl) rfl hini ?_
  refine ev_iconst (v := 0) (pc := 0) dX0_calledHandles_0 ki_0 ?_
  refine ev_istore_n (L' := [some (.inr 1), some (.inl 0), none, none]) (pc := 1) dX0_calledHandles_1 (Nat.le_of_ble_eq_true rfl) rfl ?_
  refine ev_bipush (v := 15) (pc := 2) dX0_calledHandles_2 kb_15 ?_
  refine ev_istore_n (L' := [some (.inr 1), some (.inl 0), some (.inl 15), none]) (pc := 4) dX0_calledHandles_4 (Nat.le_of_ble_eq_true rfl) rfl ?_
  obtain ⟨q2, l3, h⟩ := rb_bd h
  have hx7 : rb_Ev RX0 cX0_calledHandles 4 (some .int) none 2 (some o) μ 57 [none, some (.inl q2), none, none] [] (rb_ov μ [(5, c), (1, f)]) := by
    refine ev_iload_n (v := q2) (pc := 57) dX0_calledHandles_57 rfl ?_
    obtain rfl := Option.some.inj h
    exact ev_iret (pc := 58) dX0_calledHandles_58 rfl rfl rfl hfin
  refine rb_lp_ev (P := fun (s1 : Int32 × Int32) => rb_Ev RX0 cX0_calledHandles 4 (some .int) none 2 (some o) μ 5 [some (.inr 1), some (.inl s1.1), some (.inl s1.2), none] [] (rb_ov μ [(5, c), (1, f)])) ?_ 100000 (0, 15) l3
  intro s1 y4 h ih5 hE6
  refine ev_iload_n (v := s1.2) (pc := 5) dX0_calledHandles_5 rfl ?_
  by_cases b9 : s1.2 < 0
  · rw [if_pos b9] at h
    refine ev_if_lt_t (t := 57) (pc := 6) dX0_calledHandles_6 (by decide) b9 ?_
    obtain rfl := Option.some.inj h
    obtain rfl := hE6 _ rfl
    exact ev_fg (L := [none, some (.inl s1.1), none, none]) (And.intro rfl True.intro) (hx7)
  · rw [if_neg b9] at h
    refine ev_if_lt_f (t := 57) (pc := 6) dX0_calledHandles_6 (by decide) b9 ?_
    obtain ⟨v10, e11, h⟩ := rb_bd h
    refine ev_aload_n (v := 1) (pc := 9) dX0_calledHandles_9 rfl ?_
    refine ev_getr (q := 5) (pc := 10) dX0_calledHandles_10 fl_RX0_9 rfl rfl ?_
    refine ev_iconst (v := 3) (pc := 13) dX0_calledHandles_13 ki_3 ?_
    refine ev_iload_n (v := s1.2) (pc := 14) dX0_calledHandles_14 rfl ?_
    refine ev_iadd (pc := 15) dX0_calledHandles_15 ?_
    refine ev_iald (pc := 16) dX0_calledHandles_16 rfl e11 ?_
    refine ev_istore_n (L' := [some (.inr 1), some (.inl s1.1), some (.inl s1.2), some (.inl v10)]) (pc := 17) dX0_calledHandles_17 (Nat.le_of_ble_eq_true rfl) rfl ?_
    refine ev_iload_n (v := v10) (pc := 18) dX0_calledHandles_18 rfl ?_
    obtain ⟨j12, e13, h⟩ := rb_bd h
    have hj14 : rb_Ev RX0 cX0_calledHandles 4 (some .int) none 2 (some o) μ 51 [some (.inr 1), some (.inl j12), some (.inl s1.2), none] [] (rb_ov μ [(5, c), (1, f)]) := by
      refine ev_iinc (x := s1.2) (v := (s1.2 + (-1))) (L' := [some (.inr 1), some (.inl j12), some (.inl (s1.2 + (-1))), none]) (pc := 51) dX0_calledHandles_51 rfl (kx_m1 _) (Nat.le_of_ble_eq_true rfl) rfl ?_
      refine ev_goto (t := 5) (pc := 54) dX0_calledHandles_54 (by decide) ?_
      obtain rfl := Option.some.inj h
      exact ih5 (j12, (s1.2 + (-1))) rfl
    replace h := e13
    by_cases b15 : v10 < 0
    · rw [if_pos b15] at h
      refine ev_if_lt_t (t := 51) (pc := 19) dX0_calledHandles_19 (by decide) b15 ?_
      obtain rfl := Option.some.inj h
      exact ev_fg (L := [some (.inr 1), some (.inl s1.1), some (.inl s1.2), none]) (And.intro rfl (And.intro rfl (And.intro rfl True.intro))) (hj14)
    · rw [if_neg b15] at h
      refine ev_if_lt_f (t := 51) (pc := 19) dX0_calledHandles_19 (by decide) b15 ?_
      refine ev_aload_n (v := 1) (pc := 22) dX0_calledHandles_22 rfl ?_
      refine ev_geti (v := (f 5)) (pc := 23) dX0_calledHandles_23 fl_RX0_47 rfl rfl rfl ?_
      refine ev_iconst (v := 1) (pc := 26) dX0_calledHandles_26 ki_1 ?_
      refine ev_iload_n (v := v10) (pc := 27) dX0_calledHandles_27 rfl ?_
      refine ev_ishl (pc := 28) dX0_calledHandles_28 ?_
      refine ev_iand (pc := 29) dX0_calledHandles_29 ?_
      by_cases b16 : ((f 5) &&& (1 <<< (v10 &&& 31))) = 0
      · rw [if_pos b16] at h
        refine ev_if_eq_t (t := 51) (pc := 30) dX0_calledHandles_30 (by decide) b16 ?_
        obtain rfl := Option.some.inj h
        exact ev_fg (L := [some (.inr 1), some (.inl s1.1), some (.inl s1.2), none]) (And.intro rfl (And.intro rfl (And.intro rfl True.intro))) (hj14)
      · rw [if_neg b16] at h
        refine ev_if_eq_f (t := 51) (pc := 30) dX0_calledHandles_30 (by decide) b16 ?_
        obtain ⟨t17, e18, h⟩ := rb_bd h
        refine ev_aload_n (v := 1) (pc := 33) dX0_calledHandles_33 rfl ?_
        refine ev_getr (q := 2) (pc := 34) dX0_calledHandles_34 fl_RX0_20 rfl rfl ?_
        refine ev_iload_n (v := v10) (pc := 37) dX0_calledHandles_37 rfl ?_
        refine ev_cVi1 (pc := 38) dX0_calledHandles_38 mv_X5_lowestHandle lk_RX0_57 rp_2 (ct0_X5_lowestHandle _ _ _ _ rfl e18) (Nat.le_of_ble_eq_true rfl) (Nat.le_of_ble_eq_true rfl) ?_
        refine ev_iload_n (v := s1.2) (pc := 41) dX0_calledHandles_41 rfl ?_
        by_cases b19 : t17 = s1.2
        · rw [if_pos b19] at h
          refine ev_icmp_ne_f (t := 51) (pc := 42) dX0_calledHandles_42 (by decide) b19 ?_
          refine ev_iload_n (v := s1.1) (pc := 45) dX0_calledHandles_45 rfl ?_
          refine ev_iconst (v := 1) (pc := 46) dX0_calledHandles_46 ki_1 ?_
          refine ev_iload_n (v := s1.2) (pc := 47) dX0_calledHandles_47 rfl ?_
          refine ev_ishl (pc := 48) dX0_calledHandles_48 ?_
          refine ev_ior (pc := 49) dX0_calledHandles_49 ?_
          refine ev_istore_n (L' := [some (.inr 1), some (.inl (s1.1 ||| (1 <<< (s1.2 &&& 31)))), some (.inl s1.2), some (.inl v10)]) (pc := 50) dX0_calledHandles_50 (Nat.le_of_ble_eq_true rfl) rfl ?_
          obtain rfl := Option.some.inj h
          exact ev_fg (L := [some (.inr 1), some (.inl (s1.1 ||| (1 <<< (s1.2 &&& 31)))), some (.inl s1.2), none]) (And.intro rfl (And.intro rfl (And.intro rfl True.intro))) (hj14)
        · rw [if_neg b19] at h
          refine ev_icmp_ne_t (t := 51) (pc := 42) dX0_calledHandles_42 (by decide) b19 ?_
          obtain rfl := Option.some.inj h
          exact ev_fg (L := [some (.inr 1), some (.inl s1.1), some (.inl s1.2), none]) (And.intro rfl (And.intro rfl (And.intro rfl True.intro))) (hj14)
set_option maxHeartbeats 4000000 in
set_option maxRecDepth 20000 in
theorem ct1_X0_calledHandles (μ : rb_Mem) (c : rb_Row) (f : rb_Row) (o : Int32) (hc : μ 11 = c) (hf : μ 7 = f) (h : XX0_calledHandles c f = some o) : rb_Ct yX0_calledHandles cX0_calledHandles 4 (some .int) 2 [.inr 7] μ (some o) μ := by
  unfold XX0_calledHandles at h
  have hini : rb_ov μ [(11, c), (7, f)] = μ := rb_ov_sf _ _ (And.intro hc (And.intro hf True.intro))
  have hfin := hini
  refine rb_cti (w := [(11, c), (7, f)]) rfl pn_0 (Nat.le_of_ble_eq_true rfl) rfl hini ?_
  refine ev_iconst (v := 0) (pc := 0) dX0_calledHandles_0 ki_0 ?_
  refine ev_istore_n (L' := [some (.inr 7), some (.inl 0), none, none]) (pc := 1) dX0_calledHandles_1 (Nat.le_of_ble_eq_true rfl) rfl ?_
  refine ev_bipush (v := 15) (pc := 2) dX0_calledHandles_2 kb_15 ?_
  refine ev_istore_n (L' := [some (.inr 7), some (.inl 0), some (.inl 15), none]) (pc := 4) dX0_calledHandles_4 (Nat.le_of_ble_eq_true rfl) rfl ?_
  obtain ⟨q2, l3, h⟩ := rb_bd h
  have hx7 : rb_Ev RX0 cX0_calledHandles 4 (some .int) none 2 (some o) μ 57 [none, some (.inl q2), none, none] [] (rb_ov μ [(11, c), (7, f)]) := by
    refine ev_iload_n (v := q2) (pc := 57) dX0_calledHandles_57 rfl ?_
    obtain rfl := Option.some.inj h
    exact ev_iret (pc := 58) dX0_calledHandles_58 rfl rfl rfl hfin
  refine rb_lp_ev (P := fun (s1 : Int32 × Int32) => rb_Ev RX0 cX0_calledHandles 4 (some .int) none 2 (some o) μ 5 [some (.inr 7), some (.inl s1.1), some (.inl s1.2), none] [] (rb_ov μ [(11, c), (7, f)])) ?_ 100000 (0, 15) l3
  intro s1 y4 h ih5 hE6
  refine ev_iload_n (v := s1.2) (pc := 5) dX0_calledHandles_5 rfl ?_
  by_cases b9 : s1.2 < 0
  · rw [if_pos b9] at h
    refine ev_if_lt_t (t := 57) (pc := 6) dX0_calledHandles_6 (by decide) b9 ?_
    obtain rfl := Option.some.inj h
    obtain rfl := hE6 _ rfl
    exact ev_fg (L := [none, some (.inl s1.1), none, none]) (And.intro rfl True.intro) (hx7)
  · rw [if_neg b9] at h
    refine ev_if_lt_f (t := 57) (pc := 6) dX0_calledHandles_6 (by decide) b9 ?_
    obtain ⟨v10, e11, h⟩ := rb_bd h
    refine ev_aload_n (v := 7) (pc := 9) dX0_calledHandles_9 rfl ?_
    refine ev_getr (q := 11) (pc := 10) dX0_calledHandles_10 fl_RX0_9 rfl rfl ?_
    refine ev_iconst (v := 3) (pc := 13) dX0_calledHandles_13 ki_3 ?_
    refine ev_iload_n (v := s1.2) (pc := 14) dX0_calledHandles_14 rfl ?_
    refine ev_iadd (pc := 15) dX0_calledHandles_15 ?_
    refine ev_iald (pc := 16) dX0_calledHandles_16 rfl e11 ?_
    refine ev_istore_n (L' := [some (.inr 7), some (.inl s1.1), some (.inl s1.2), some (.inl v10)]) (pc := 17) dX0_calledHandles_17 (Nat.le_of_ble_eq_true rfl) rfl ?_
    refine ev_iload_n (v := v10) (pc := 18) dX0_calledHandles_18 rfl ?_
    obtain ⟨j12, e13, h⟩ := rb_bd h
    have hj14 : rb_Ev RX0 cX0_calledHandles 4 (some .int) none 2 (some o) μ 51 [some (.inr 7), some (.inl j12), some (.inl s1.2), none] [] (rb_ov μ [(11, c), (7, f)]) := by
      refine ev_iinc (x := s1.2) (v := (s1.2 + (-1))) (L' := [some (.inr 7), some (.inl j12), some (.inl (s1.2 + (-1))), none]) (pc := 51) dX0_calledHandles_51 rfl (kx_m1 _) (Nat.le_of_ble_eq_true rfl) rfl ?_
      refine ev_goto (t := 5) (pc := 54) dX0_calledHandles_54 (by decide) ?_
      obtain rfl := Option.some.inj h
      exact ih5 (j12, (s1.2 + (-1))) rfl
    replace h := e13
    by_cases b15 : v10 < 0
    · rw [if_pos b15] at h
      refine ev_if_lt_t (t := 51) (pc := 19) dX0_calledHandles_19 (by decide) b15 ?_
      obtain rfl := Option.some.inj h
      exact ev_fg (L := [some (.inr 7), some (.inl s1.1), some (.inl s1.2), none]) (And.intro rfl (And.intro rfl (And.intro rfl True.intro))) (hj14)
    · rw [if_neg b15] at h
      refine ev_if_lt_f (t := 51) (pc := 19) dX0_calledHandles_19 (by decide) b15 ?_
      refine ev_aload_n (v := 7) (pc := 22) dX0_calledHandles_22 rfl ?_
      refine ev_geti (v := (f 5)) (pc := 23) dX0_calledHandles_23 fl_RX0_47 rfl rfl rfl ?_
      refine ev_iconst (v := 1) (pc := 26) dX0_calledHandles_26 ki_1 ?_
      refine ev_iload_n (v := v10) (pc := 27) dX0_calledHandles_27 rfl ?_
      refine ev_ishl (pc := 28) dX0_calledHandles_28 ?_
      refine ev_iand (pc := 29) dX0_calledHandles_29 ?_
      by_cases b16 : ((f 5) &&& (1 <<< (v10 &&& 31))) = 0
      · rw [if_pos b16] at h
        refine ev_if_eq_t (t := 51) (pc := 30) dX0_calledHandles_30 (by decide) b16 ?_
        obtain rfl := Option.some.inj h
        exact ev_fg (L := [some (.inr 7), some (.inl s1.1), some (.inl s1.2), none]) (And.intro rfl (And.intro rfl (And.intro rfl True.intro))) (hj14)
      · rw [if_neg b16] at h
        refine ev_if_eq_f (t := 51) (pc := 30) dX0_calledHandles_30 (by decide) b16 ?_
        obtain ⟨t17, e18, h⟩ := rb_bd h
        refine ev_aload_n (v := 7) (pc := 33) dX0_calledHandles_33 rfl ?_
        refine ev_getr (q := 8) (pc := 34) dX0_calledHandles_34 fl_RX0_20 rfl rfl ?_
        refine ev_iload_n (v := v10) (pc := 37) dX0_calledHandles_37 rfl ?_
        refine ev_cVi1 (pc := 38) dX0_calledHandles_38 mv_X5_lowestHandle lk_RX0_57 rp_8 (ct1_X5_lowestHandle _ _ _ _ rfl e18) (Nat.le_of_ble_eq_true rfl) (Nat.le_of_ble_eq_true rfl) ?_
        refine ev_iload_n (v := s1.2) (pc := 41) dX0_calledHandles_41 rfl ?_
        by_cases b19 : t17 = s1.2
        · rw [if_pos b19] at h
          refine ev_icmp_ne_f (t := 51) (pc := 42) dX0_calledHandles_42 (by decide) b19 ?_
          refine ev_iload_n (v := s1.1) (pc := 45) dX0_calledHandles_45 rfl ?_
          refine ev_iconst (v := 1) (pc := 46) dX0_calledHandles_46 ki_1 ?_
          refine ev_iload_n (v := s1.2) (pc := 47) dX0_calledHandles_47 rfl ?_
          refine ev_ishl (pc := 48) dX0_calledHandles_48 ?_
          refine ev_ior (pc := 49) dX0_calledHandles_49 ?_
          refine ev_istore_n (L' := [some (.inr 7), some (.inl (s1.1 ||| (1 <<< (s1.2 &&& 31)))), some (.inl s1.2), some (.inl v10)]) (pc := 50) dX0_calledHandles_50 (Nat.le_of_ble_eq_true rfl) rfl ?_
          obtain rfl := Option.some.inj h
          exact ev_fg (L := [some (.inr 7), some (.inl (s1.1 ||| (1 <<< (s1.2 &&& 31)))), some (.inl s1.2), none]) (And.intro rfl (And.intro rfl (And.intro rfl True.intro))) (hj14)
        · rw [if_neg b19] at h
          refine ev_icmp_ne_t (t := 51) (pc := 42) dX0_calledHandles_42 (by decide) b19 ?_
          obtain rfl := Option.some.inj h
          exact ev_fg (L := [some (.inr 7), some (.inl s1.1), some (.inl s1.2), none]) (And.intro rfl (And.intro rfl (And.intro rfl True.intro))) (hj14)
def XX0_makeNamed (c : rb_Row) (x0 : Int32) : Option (Int32 × rb_Row) := (XX5_freeHandle c).bind fun t1 => ((if 0 ≤ t1 then (XX5_makeThing c x0).bind fun t7 => some (t7.1, t7.2) else some ((-1), c)) : Option (Int32 × rb_Row)).bind fun j3 => if 0 ≤ j3.1 then (XX5_giveName j3.2 t1 j3.1).bind fun t10 => some (t1, t10) else some ((-1), j3.2)
set_option maxHeartbeats 4000000 in
set_option maxRecDepth 20000 in
theorem ct0_X0_makeNamed (μ : rb_Mem) (c : rb_Row) (x0 : Int32) (o : Int32 × rb_Row) (hc : μ 5 = c) (h : XX0_makeNamed c x0 = some o) : rb_Ct yX0_makeNamed cX0_makeNamed 4 (some .int) 2 [.inr 1, .inl x0] μ (some o.1) (rb_ov μ [(5, o.2)]) := by
  unfold XX0_makeNamed at h
  have hini : rb_ov μ [(5, c)] = μ := rb_ov_sf _ _ (And.intro hc True.intro)
  have hfin : ∀ u0 : rb_Row, rb_ov μ [(5, u0)] = rb_ov μ [(5, u0)] := fun u0 => rfl
  refine rb_cti (w := [(5, c)]) rfl pn_0 (Nat.le_of_ble_eq_true rfl) rfl hini ?_
  obtain ⟨t1, e2, h⟩ := rb_bd h
  refine ev_aload_n (v := 1) (pc := 0) dX0_makeNamed_0 rfl ?_
  refine ev_getr (q := 2) (pc := 1) dX0_makeNamed_1 fl_RX0_20 rfl rfl ?_
  refine ev_cVi0 (pc := 4) dX0_makeNamed_4 mv_X5_freeHandle lk_RX0_61 rp_2 (ct0_X5_freeHandle _ _ _ rfl e2) (Nat.le_of_ble_eq_true rfl) (Nat.le_of_ble_eq_true rfl) ?_
  refine ev_istore_n (L' := [some (.inr 1), some (.inl x0), some (.inl t1), none]) (pc := 7) dX0_makeNamed_7 (Nat.le_of_ble_eq_true rfl) rfl ?_
  refine ev_iload_n (v := t1) (pc := 8) dX0_makeNamed_8 rfl ?_
  obtain ⟨j3, e4, h⟩ := rb_bd h
  have hj5 : rb_Ev RX0 cX0_makeNamed 4 (some .int) none 2 (some o.1) (rb_ov μ [(5, o.2)]) 24 [some (.inr 1), none, some (.inl t1), none] [.inl j3.1] (rb_ov μ [(5, j3.2)]) := by
    refine ev_istore_n (L' := [some (.inr 1), none, some (.inl t1), some (.inl j3.1)]) (pc := 24) dX0_makeNamed_24 (Nat.le_of_ble_eq_true rfl) rfl ?_
    refine ev_iload_n (v := j3.1) (pc := 25) dX0_makeNamed_25 rfl ?_
    by_cases b9 : 0 ≤ j3.1
    · rw [if_pos b9] at h
      refine ev_if_ge_t (t := 31) (pc := 26) dX0_makeNamed_26 (by decide) b9 ?_
      obtain ⟨t10, e11, h⟩ := rb_bd h
      refine ev_aload_n (v := 1) (pc := 31) dX0_makeNamed_31 rfl ?_
      refine ev_getr (q := 2) (pc := 32) dX0_makeNamed_32 fl_RX0_20 rfl rfl ?_
      refine ev_iload_n (v := t1) (pc := 35) dX0_makeNamed_35 rfl ?_
      refine ev_iload_n (v := j3.1) (pc := 36) dX0_makeNamed_36 rfl ?_
      refine ev_cVv2w (w' := [(5, t10)]) (pc := 37) dX0_makeNamed_37 mv_X5_giveName lk_RX0_68 rp_2 (ct0_X5_giveName _ _ _ _ _ rfl e11) (Nat.le_of_ble_eq_true rfl) (Nat.le_of_ble_eq_true rfl) rfl ?_
      refine ev_iload_n (v := t1) (pc := 40) dX0_makeNamed_40 rfl ?_
      obtain rfl := Option.some.inj h
      exact ev_iret (pc := 41) dX0_makeNamed_41 rfl rfl rfl (hfin _)
    · rw [if_neg b9] at h
      refine ev_if_ge_f (t := 31) (pc := 26) dX0_makeNamed_26 (by decide) b9 ?_
      refine ev_iconst (v := (-1)) (pc := 29) dX0_makeNamed_29 ki_m1 ?_
      obtain rfl := Option.some.inj h
      exact ev_iret (pc := 30) dX0_makeNamed_30 rfl rfl rfl (hfin _)
  replace h := e4
  by_cases b6 : 0 ≤ t1
  · rw [if_pos b6] at h
    refine ev_if_ge_t (t := 16) (pc := 9) dX0_makeNamed_9 (by decide) b6 ?_
    obtain ⟨t7, e8, h⟩ := rb_bd h
    refine ev_aload_n (v := 1) (pc := 16) dX0_makeNamed_16 rfl ?_
    refine ev_getr (q := 2) (pc := 17) dX0_makeNamed_17 fl_RX0_20 rfl rfl ?_
    refine ev_iload_n (v := x0) (pc := 20) dX0_makeNamed_20 rfl ?_
    refine ev_cVi1w (w' := [(5, t7.2)]) (pc := 21) dX0_makeNamed_21 mv_X5_makeThing lk_RX0_65 rp_2 (ct0_X5_makeThing _ _ _ _ rfl e8) (Nat.le_of_ble_eq_true rfl) (Nat.le_of_ble_eq_true rfl) rfl ?_
    obtain rfl := Option.some.inj h
    exact ev_fg (L := [some (.inr 1), none, some (.inl t1), none]) (And.intro rfl (And.intro rfl True.intro)) (hj5)
  · rw [if_neg b6] at h
    refine ev_if_ge_f (t := 16) (pc := 9) dX0_makeNamed_9 (by decide) b6 ?_
    refine ev_iconst (v := (-1)) (pc := 12) dX0_makeNamed_12 ki_m1 ?_
    refine ev_goto (t := 24) (pc := 13) dX0_makeNamed_13 (by decide) ?_
    obtain rfl := Option.some.inj h
    exact ev_fg (L := [some (.inr 1), none, some (.inl t1), none]) (And.intro rfl (And.intro rfl True.intro)) (hj5)
set_option maxHeartbeats 4000000 in
set_option maxRecDepth 20000 in
theorem ct1_X0_makeNamed (μ : rb_Mem) (c : rb_Row) (x0 : Int32) (o : Int32 × rb_Row) (hc : μ 11 = c) (h : XX0_makeNamed c x0 = some o) : rb_Ct yX0_makeNamed cX0_makeNamed 4 (some .int) 2 [.inr 7, .inl x0] μ (some o.1) (rb_ov μ [(11, o.2)]) := by
  unfold XX0_makeNamed at h
  have hini : rb_ov μ [(11, c)] = μ := rb_ov_sf _ _ (And.intro hc True.intro)
  have hfin : ∀ u0 : rb_Row, rb_ov μ [(11, u0)] = rb_ov μ [(11, u0)] := fun u0 => rfl
  refine rb_cti (w := [(11, c)]) rfl pn_0 (Nat.le_of_ble_eq_true rfl) rfl hini ?_
  obtain ⟨t1, e2, h⟩ := rb_bd h
  refine ev_aload_n (v := 7) (pc := 0) dX0_makeNamed_0 rfl ?_
  refine ev_getr (q := 8) (pc := 1) dX0_makeNamed_1 fl_RX0_20 rfl rfl ?_
  refine ev_cVi0 (pc := 4) dX0_makeNamed_4 mv_X5_freeHandle lk_RX0_61 rp_8 (ct1_X5_freeHandle _ _ _ rfl e2) (Nat.le_of_ble_eq_true rfl) (Nat.le_of_ble_eq_true rfl) ?_
  refine ev_istore_n (L' := [some (.inr 7), some (.inl x0), some (.inl t1), none]) (pc := 7) dX0_makeNamed_7 (Nat.le_of_ble_eq_true rfl) rfl ?_
  refine ev_iload_n (v := t1) (pc := 8) dX0_makeNamed_8 rfl ?_
  obtain ⟨j3, e4, h⟩ := rb_bd h
  have hj5 : rb_Ev RX0 cX0_makeNamed 4 (some .int) none 2 (some o.1) (rb_ov μ [(11, o.2)]) 24 [some (.inr 7), none, some (.inl t1), none] [.inl j3.1] (rb_ov μ [(11, j3.2)]) := by
    refine ev_istore_n (L' := [some (.inr 7), none, some (.inl t1), some (.inl j3.1)]) (pc := 24) dX0_makeNamed_24 (Nat.le_of_ble_eq_true rfl) rfl ?_
    refine ev_iload_n (v := j3.1) (pc := 25) dX0_makeNamed_25 rfl ?_
    by_cases b9 : 0 ≤ j3.1
    · rw [if_pos b9] at h
      refine ev_if_ge_t (t := 31) (pc := 26) dX0_makeNamed_26 (by decide) b9 ?_
      obtain ⟨t10, e11, h⟩ := rb_bd h
      refine ev_aload_n (v := 7) (pc := 31) dX0_makeNamed_31 rfl ?_
      refine ev_getr (q := 8) (pc := 32) dX0_makeNamed_32 fl_RX0_20 rfl rfl ?_
      refine ev_iload_n (v := t1) (pc := 35) dX0_makeNamed_35 rfl ?_
      refine ev_iload_n (v := j3.1) (pc := 36) dX0_makeNamed_36 rfl ?_
      refine ev_cVv2w (w' := [(11, t10)]) (pc := 37) dX0_makeNamed_37 mv_X5_giveName lk_RX0_68 rp_8 (ct1_X5_giveName _ _ _ _ _ rfl e11) (Nat.le_of_ble_eq_true rfl) (Nat.le_of_ble_eq_true rfl) rfl ?_
      refine ev_iload_n (v := t1) (pc := 40) dX0_makeNamed_40 rfl ?_
      obtain rfl := Option.some.inj h
      exact ev_iret (pc := 41) dX0_makeNamed_41 rfl rfl rfl (hfin _)
    · rw [if_neg b9] at h
      refine ev_if_ge_f (t := 31) (pc := 26) dX0_makeNamed_26 (by decide) b9 ?_
      refine ev_iconst (v := (-1)) (pc := 29) dX0_makeNamed_29 ki_m1 ?_
      obtain rfl := Option.some.inj h
      exact ev_iret (pc := 30) dX0_makeNamed_30 rfl rfl rfl (hfin _)
  replace h := e4
  by_cases b6 : 0 ≤ t1
  · rw [if_pos b6] at h
    refine ev_if_ge_t (t := 16) (pc := 9) dX0_makeNamed_9 (by decide) b6 ?_
    obtain ⟨t7, e8, h⟩ := rb_bd h
    refine ev_aload_n (v := 7) (pc := 16) dX0_makeNamed_16 rfl ?_
    refine ev_getr (q := 8) (pc := 17) dX0_makeNamed_17 fl_RX0_20 rfl rfl ?_
    refine ev_iload_n (v := x0) (pc := 20) dX0_makeNamed_20 rfl ?_
    refine ev_cVi1w (w' := [(11, t7.2)]) (pc := 21) dX0_makeNamed_21 mv_X5_makeThing lk_RX0_65 rp_8 (ct1_X5_makeThing _ _ _ _ rfl e8) (Nat.le_of_ble_eq_true rfl) (Nat.le_of_ble_eq_true rfl) rfl ?_
    obtain rfl := Option.some.inj h
    exact ev_fg (L := [some (.inr 7), none, some (.inl t1), none]) (And.intro rfl (And.intro rfl True.intro)) (hj5)
  · rw [if_neg b6] at h
    refine ev_if_ge_f (t := 16) (pc := 9) dX0_makeNamed_9 (by decide) b6 ?_
    refine ev_iconst (v := (-1)) (pc := 12) dX0_makeNamed_12 ki_m1 ?_
    refine ev_goto (t := 24) (pc := 13) dX0_makeNamed_13 (by decide) ?_
    obtain rfl := Option.some.inj h
    exact ev_fg (L := [some (.inr 7), none, some (.inl t1), none]) (And.intro rfl (And.intro rfl True.intro)) (hj5)
def XX0_makePipe (c : rb_Row) (x0 : Int32) : Option (Int32 × rb_Row) := (XX6_between x0 1 100).bind fun t1 => if t1 = 0 then some ((-1), c) else (XX5_freeHandles c).bind fun t4 => if 2 ≤ t4 then (XX5_makeEnds c x0).bind fun t7 => if 0 ≤ t7.1 then (XX5_freeHandle t7.2).bind fun t10 => (XX5_giveName t7.2 t10 t7.1).bind fun t12 => (XX5_freeHandle t12).bind fun t14 => (rb_rd t12 773 (131 + t7.1)).bind fun v16 => (XX5_giveName t12 t14 v16).bind fun t18 => some (t10, t18) else some ((-1), t7.2) else some ((-1), c)
set_option maxHeartbeats 4000000 in
set_option maxRecDepth 20000 in
theorem ct0_X0_makePipe (μ : rb_Mem) (c : rb_Row) (x0 : Int32) (o : Int32 × rb_Row) (hc : μ 5 = c) (h : XX0_makePipe c x0 = some o) : rb_Ct yX0_makePipe cX0_makePipe 4 (some .int) 2 [.inr 1, .inl x0] μ (some o.1) (rb_ov μ [(5, o.2)]) := by
  unfold XX0_makePipe at h
  have hini : rb_ov μ [(5, c)] = μ := rb_ov_sf _ _ (And.intro hc True.intro)
  have hfin : ∀ u0 : rb_Row, rb_ov μ [(5, u0)] = rb_ov μ [(5, u0)] := fun u0 => rfl
  refine rb_cti (w := [(5, c)]) rfl pn_0 (Nat.le_of_ble_eq_true rfl) rfl hini ?_
  obtain ⟨t1, e2, h⟩ := rb_bd h
  refine ev_iload_n (v := x0) (pc := 0) dX0_makePipe_0 rfl ?_
  refine ev_iconst (v := 1) (pc := 1) dX0_makePipe_1 ki_1 ?_
  refine ev_bipush (v := 100) (pc := 2) dX0_makePipe_2 kb_100 ?_
  refine ev_cSi3 (pc := 4) dX0_makePipe_4 ms_X6_between lk_RX0_72 (ct_X6_between _ _ _ _ _ e2) (Nat.le_of_ble_eq_true rfl) (Nat.le_of_ble_eq_true rfl) ?_
  by_cases b3 : t1 = 0
  · rw [if_pos b3] at h
    refine ev_if_eq_t (t := 21) (pc := 7) dX0_makePipe_7 (by decide) b3 ?_
    refine ev_iconst (v := (-1)) (pc := 21) dX0_makePipe_21 ki_m1 ?_
    obtain rfl := Option.some.inj h
    exact ev_iret (pc := 22) dX0_makePipe_22 rfl rfl rfl (hfin _)
  · rw [if_neg b3] at h
    refine ev_if_eq_f (t := 21) (pc := 7) dX0_makePipe_7 (by decide) b3 ?_
    obtain ⟨t4, e5, h⟩ := rb_bd h
    refine ev_aload_n (v := 1) (pc := 10) dX0_makePipe_10 rfl ?_
    refine ev_getr (q := 2) (pc := 11) dX0_makePipe_11 fl_RX0_20 rfl rfl ?_
    refine ev_cVi0 (pc := 14) dX0_makePipe_14 mv_X5_freeHandles lk_RX0_76 rp_2 (ct0_X5_freeHandles _ _ _ rfl e5) (Nat.le_of_ble_eq_true rfl) (Nat.le_of_ble_eq_true rfl) ?_
    refine ev_iconst (v := 2) (pc := 17) dX0_makePipe_17 ki_2 ?_
    by_cases b6 : 2 ≤ t4
    · rw [if_pos b6] at h
      refine ev_icmp_ge_t (t := 23) (pc := 18) dX0_makePipe_18 (by decide) b6 ?_
      obtain ⟨t7, e8, h⟩ := rb_bd h
      refine ev_aload_n (v := 1) (pc := 23) dX0_makePipe_23 rfl ?_
      refine ev_getr (q := 2) (pc := 24) dX0_makePipe_24 fl_RX0_20 rfl rfl ?_
      refine ev_iload_n (v := x0) (pc := 27) dX0_makePipe_27 rfl ?_
      refine ev_cVi1w (w' := [(5, t7.2)]) (pc := 28) dX0_makePipe_28 mv_X5_makeEnds lk_RX0_79 rp_2 (ct0_X5_makeEnds _ _ _ _ rfl e8) (Nat.le_of_ble_eq_true rfl) (Nat.le_of_ble_eq_true rfl) rfl ?_
      refine ev_istore_n (L' := [some (.inr 1), some (.inl x0), some (.inl t7.1), none]) (pc := 31) dX0_makePipe_31 (Nat.le_of_ble_eq_true rfl) rfl ?_
      refine ev_iload_n (v := t7.1) (pc := 32) dX0_makePipe_32 rfl ?_
      by_cases b9 : 0 ≤ t7.1
      · rw [if_pos b9] at h
        refine ev_if_ge_t (t := 38) (pc := 33) dX0_makePipe_33 (by decide) b9 ?_
        obtain ⟨t10, e11, h⟩ := rb_bd h
        obtain ⟨t12, e13, h⟩ := rb_bd h
        obtain ⟨t14, e15, h⟩ := rb_bd h
        obtain ⟨v16, e17, h⟩ := rb_bd h
        obtain ⟨t18, e19, h⟩ := rb_bd h
        refine ev_aload_n (v := 1) (pc := 38) dX0_makePipe_38 rfl ?_
        refine ev_getr (q := 2) (pc := 39) dX0_makePipe_39 fl_RX0_20 rfl rfl ?_
        refine ev_cVi0 (pc := 42) dX0_makePipe_42 mv_X5_freeHandle lk_RX0_61 rp_2 (ct0_X5_freeHandle _ _ _ rfl e11) (Nat.le_of_ble_eq_true rfl) (Nat.le_of_ble_eq_true rfl) ?_
        refine ev_istore_n (L' := [some (.inr 1), some (.inl x0), some (.inl t7.1), some (.inl t10)]) (pc := 45) dX0_makePipe_45 (Nat.le_of_ble_eq_true rfl) rfl ?_
        refine ev_aload_n (v := 1) (pc := 46) dX0_makePipe_46 rfl ?_
        refine ev_getr (q := 2) (pc := 47) dX0_makePipe_47 fl_RX0_20 rfl rfl ?_
        refine ev_iload_n (v := t10) (pc := 50) dX0_makePipe_50 rfl ?_
        refine ev_iload_n (v := t7.1) (pc := 51) dX0_makePipe_51 rfl ?_
        refine ev_cVv2w (w' := [(5, t12)]) (pc := 52) dX0_makePipe_52 mv_X5_giveName lk_RX0_68 rp_2 (ct0_X5_giveName _ _ _ _ _ rfl e13) (Nat.le_of_ble_eq_true rfl) (Nat.le_of_ble_eq_true rfl) rfl ?_
        refine ev_aload_n (v := 1) (pc := 55) dX0_makePipe_55 rfl ?_
        refine ev_getr (q := 2) (pc := 56) dX0_makePipe_56 fl_RX0_20 rfl rfl ?_
        refine ev_aload_n (v := 1) (pc := 59) dX0_makePipe_59 rfl ?_
        refine ev_getr (q := 2) (pc := 60) dX0_makePipe_60 fl_RX0_20 rfl rfl ?_
        refine ev_cVi0 (pc := 63) dX0_makePipe_63 mv_X5_freeHandle lk_RX0_61 rp_2 (ct0_X5_freeHandle _ _ _ rfl e15) (Nat.le_of_ble_eq_true rfl) (Nat.le_of_ble_eq_true rfl) ?_
        refine ev_aload_n (v := 1) (pc := 66) dX0_makePipe_66 rfl ?_
        refine ev_getr (q := 5) (pc := 67) dX0_makePipe_67 fl_RX0_9 rfl rfl ?_
        refine ev_sipush (v := 131) (pc := 70) dX0_makePipe_70 ks_131 ?_
        refine ev_iload_n (v := t7.1) (pc := 73) dX0_makePipe_73 rfl ?_
        refine ev_iadd (pc := 74) dX0_makePipe_74 ?_
        refine ev_iald (pc := 75) dX0_makePipe_75 rfl e17 ?_
        refine ev_cVv2w (w' := [(5, t18)]) (pc := 76) dX0_makePipe_76 mv_X5_giveName lk_RX0_68 rp_2 (ct0_X5_giveName _ _ _ _ _ rfl e19) (Nat.le_of_ble_eq_true rfl) (Nat.le_of_ble_eq_true rfl) rfl ?_
        refine ev_iload_n (v := t10) (pc := 79) dX0_makePipe_79 rfl ?_
        obtain rfl := Option.some.inj h
        exact ev_iret (pc := 80) dX0_makePipe_80 rfl rfl rfl (hfin _)
      · rw [if_neg b9] at h
        refine ev_if_ge_f (t := 38) (pc := 33) dX0_makePipe_33 (by decide) b9 ?_
        refine ev_iconst (v := (-1)) (pc := 36) dX0_makePipe_36 ki_m1 ?_
        obtain rfl := Option.some.inj h
        exact ev_iret (pc := 37) dX0_makePipe_37 rfl rfl rfl (hfin _)
    · rw [if_neg b6] at h
      refine ev_icmp_ge_f (t := 23) (pc := 18) dX0_makePipe_18 (by decide) b6 ?_
      refine ev_iconst (v := (-1)) (pc := 21) dX0_makePipe_21 ki_m1 ?_
      obtain rfl := Option.some.inj h
      exact ev_iret (pc := 22) dX0_makePipe_22 rfl rfl rfl (hfin _)
set_option maxHeartbeats 4000000 in
set_option maxRecDepth 20000 in
theorem ct1_X0_makePipe (μ : rb_Mem) (c : rb_Row) (x0 : Int32) (o : Int32 × rb_Row) (hc : μ 11 = c) (h : XX0_makePipe c x0 = some o) : rb_Ct yX0_makePipe cX0_makePipe 4 (some .int) 2 [.inr 7, .inl x0] μ (some o.1) (rb_ov μ [(11, o.2)]) := by
  unfold XX0_makePipe at h
  have hini : rb_ov μ [(11, c)] = μ := rb_ov_sf _ _ (And.intro hc True.intro)
  have hfin : ∀ u0 : rb_Row, rb_ov μ [(11, u0)] = rb_ov μ [(11, u0)] := fun u0 => rfl
  refine rb_cti (w := [(11, c)]) rfl pn_0 (Nat.le_of_ble_eq_true rfl) rfl hini ?_
  obtain ⟨t1, e2, h⟩ := rb_bd h
  refine ev_iload_n (v := x0) (pc := 0) dX0_makePipe_0 rfl ?_
  refine ev_iconst (v := 1) (pc := 1) dX0_makePipe_1 ki_1 ?_
  refine ev_bipush (v := 100) (pc := 2) dX0_makePipe_2 kb_100 ?_
  refine ev_cSi3 (pc := 4) dX0_makePipe_4 ms_X6_between lk_RX0_72 (ct_X6_between _ _ _ _ _ e2) (Nat.le_of_ble_eq_true rfl) (Nat.le_of_ble_eq_true rfl) ?_
  by_cases b3 : t1 = 0
  · rw [if_pos b3] at h
    refine ev_if_eq_t (t := 21) (pc := 7) dX0_makePipe_7 (by decide) b3 ?_
    refine ev_iconst (v := (-1)) (pc := 21) dX0_makePipe_21 ki_m1 ?_
    obtain rfl := Option.some.inj h
    exact ev_iret (pc := 22) dX0_makePipe_22 rfl rfl rfl (hfin _)
  · rw [if_neg b3] at h
    refine ev_if_eq_f (t := 21) (pc := 7) dX0_makePipe_7 (by decide) b3 ?_
    obtain ⟨t4, e5, h⟩ := rb_bd h
    refine ev_aload_n (v := 7) (pc := 10) dX0_makePipe_10 rfl ?_
    refine ev_getr (q := 8) (pc := 11) dX0_makePipe_11 fl_RX0_20 rfl rfl ?_
    refine ev_cVi0 (pc := 14) dX0_makePipe_14 mv_X5_freeHandles lk_RX0_76 rp_8 (ct1_X5_freeHandles _ _ _ rfl e5) (Nat.le_of_ble_eq_true rfl) (Nat.le_of_ble_eq_true rfl) ?_
    refine ev_iconst (v := 2) (pc := 17) dX0_makePipe_17 ki_2 ?_
    by_cases b6 : 2 ≤ t4
    · rw [if_pos b6] at h
      refine ev_icmp_ge_t (t := 23) (pc := 18) dX0_makePipe_18 (by decide) b6 ?_
      obtain ⟨t7, e8, h⟩ := rb_bd h
      refine ev_aload_n (v := 7) (pc := 23) dX0_makePipe_23 rfl ?_
      refine ev_getr (q := 8) (pc := 24) dX0_makePipe_24 fl_RX0_20 rfl rfl ?_
      refine ev_iload_n (v := x0) (pc := 27) dX0_makePipe_27 rfl ?_
      refine ev_cVi1w (w' := [(11, t7.2)]) (pc := 28) dX0_makePipe_28 mv_X5_makeEnds lk_RX0_79 rp_8 (ct1_X5_makeEnds _ _ _ _ rfl e8) (Nat.le_of_ble_eq_true rfl) (Nat.le_of_ble_eq_true rfl) rfl ?_
      refine ev_istore_n (L' := [some (.inr 7), some (.inl x0), some (.inl t7.1), none]) (pc := 31) dX0_makePipe_31 (Nat.le_of_ble_eq_true rfl) rfl ?_
      refine ev_iload_n (v := t7.1) (pc := 32) dX0_makePipe_32 rfl ?_
      by_cases b9 : 0 ≤ t7.1
      · rw [if_pos b9] at h
        refine ev_if_ge_t (t := 38) (pc := 33) dX0_makePipe_33 (by decide) b9 ?_
        obtain ⟨t10, e11, h⟩ := rb_bd h
        obtain ⟨t12, e13, h⟩ := rb_bd h
        obtain ⟨t14, e15, h⟩ := rb_bd h
        obtain ⟨v16, e17, h⟩ := rb_bd h
        obtain ⟨t18, e19, h⟩ := rb_bd h
        refine ev_aload_n (v := 7) (pc := 38) dX0_makePipe_38 rfl ?_
        refine ev_getr (q := 8) (pc := 39) dX0_makePipe_39 fl_RX0_20 rfl rfl ?_
        refine ev_cVi0 (pc := 42) dX0_makePipe_42 mv_X5_freeHandle lk_RX0_61 rp_8 (ct1_X5_freeHandle _ _ _ rfl e11) (Nat.le_of_ble_eq_true rfl) (Nat.le_of_ble_eq_true rfl) ?_
        refine ev_istore_n (L' := [some (.inr 7), some (.inl x0), some (.inl t7.1), some (.inl t10)]) (pc := 45) dX0_makePipe_45 (Nat.le_of_ble_eq_true rfl) rfl ?_
        refine ev_aload_n (v := 7) (pc := 46) dX0_makePipe_46 rfl ?_
        refine ev_getr (q := 8) (pc := 47) dX0_makePipe_47 fl_RX0_20 rfl rfl ?_
        refine ev_iload_n (v := t10) (pc := 50) dX0_makePipe_50 rfl ?_
        refine ev_iload_n (v := t7.1) (pc := 51) dX0_makePipe_51 rfl ?_
        refine ev_cVv2w (w' := [(11, t12)]) (pc := 52) dX0_makePipe_52 mv_X5_giveName lk_RX0_68 rp_8 (ct1_X5_giveName _ _ _ _ _ rfl e13) (Nat.le_of_ble_eq_true rfl) (Nat.le_of_ble_eq_true rfl) rfl ?_
        refine ev_aload_n (v := 7) (pc := 55) dX0_makePipe_55 rfl ?_
        refine ev_getr (q := 8) (pc := 56) dX0_makePipe_56 fl_RX0_20 rfl rfl ?_
        refine ev_aload_n (v := 7) (pc := 59) dX0_makePipe_59 rfl ?_
        refine ev_getr (q := 8) (pc := 60) dX0_makePipe_60 fl_RX0_20 rfl rfl ?_
        refine ev_cVi0 (pc := 63) dX0_makePipe_63 mv_X5_freeHandle lk_RX0_61 rp_8 (ct1_X5_freeHandle _ _ _ rfl e15) (Nat.le_of_ble_eq_true rfl) (Nat.le_of_ble_eq_true rfl) ?_
        refine ev_aload_n (v := 7) (pc := 66) dX0_makePipe_66 rfl ?_
        refine ev_getr (q := 11) (pc := 67) dX0_makePipe_67 fl_RX0_9 rfl rfl ?_
        refine ev_sipush (v := 131) (pc := 70) dX0_makePipe_70 ks_131 ?_
        refine ev_iload_n (v := t7.1) (pc := 73) dX0_makePipe_73 rfl ?_
        refine ev_iadd (pc := 74) dX0_makePipe_74 ?_
        refine ev_iald (pc := 75) dX0_makePipe_75 rfl e17 ?_
        refine ev_cVv2w (w' := [(11, t18)]) (pc := 76) dX0_makePipe_76 mv_X5_giveName lk_RX0_68 rp_8 (ct1_X5_giveName _ _ _ _ _ rfl e19) (Nat.le_of_ble_eq_true rfl) (Nat.le_of_ble_eq_true rfl) rfl ?_
        refine ev_iload_n (v := t10) (pc := 79) dX0_makePipe_79 rfl ?_
        obtain rfl := Option.some.inj h
        exact ev_iret (pc := 80) dX0_makePipe_80 rfl rfl rfl (hfin _)
      · rw [if_neg b9] at h
        refine ev_if_ge_f (t := 38) (pc := 33) dX0_makePipe_33 (by decide) b9 ?_
        refine ev_iconst (v := (-1)) (pc := 36) dX0_makePipe_36 ki_m1 ?_
        obtain rfl := Option.some.inj h
        exact ev_iret (pc := 37) dX0_makePipe_37 rfl rfl rfl (hfin _)
    · rw [if_neg b6] at h
      refine ev_icmp_ge_f (t := 23) (pc := 18) dX0_makePipe_18 (by decide) b6 ?_
      refine ev_iconst (v := (-1)) (pc := 21) dX0_makePipe_21 ki_m1 ?_
      obtain rfl := Option.some.inj h
      exact ev_iret (pc := 22) dX0_makePipe_22 rfl rfl rfl (hfin _)
def XX0_gather (c : rb_Row) (g : rb_Row) (x0 : Int32) (x1 : Int32) (x2 : Int32) : Option (Int32 × rb_Row × rb_Row) := (rb_lp (ρ := Int32 × Int32 × rb_Row × rb_Row) (fun (s1 : Int32 × Int32 × Int32 × rb_Row × rb_Row) => if 24 ≤ s1.2.2.1 then some (.inr (s1.1, s1.2.1, s1.2.2.2.1, s1.2.2.2.2)) else if x2 ≤ s1.1 then some (.inr (s1.1, s1.2.1, s1.2.2.2.1, s1.2.2.2.2)) else if 8 ≤ s1.1 then some (.inr (s1.1, s1.2.1, s1.2.2.2.1, s1.2.2.2.2)) else (XX1_firstListed s1.2.2.2.1 x1).bind fun t12 => if 0 ≤ t12 then (XX1_takeOffList s1.2.2.2.1 t12).bind fun t15 => (rb_rd t15 773 (419 + t12)).bind fun v17 => ((if v17 = 0 then some 0 else (XX1_bitsOf t15 t12).bind fun t23 => (rb_rd t15 773 (323 + t12)).bind fun v25 => (XX1_ready 5 t15 v25 0).bind fun t27 => some (t23 &&& t27)) : Option (Int32)).bind fun j19 => ((if j19 = 0 then some (s1.1, s1.2.1, t15, s1.2.2.2.2) else (rb_rd t15 773 (347 + t12)).bind fun v33 => (rb_wr t15 773 ((677 + (x0 * 8)) + s1.1) v33).bind fun c35 => (rb_wr c35 773 ((725 + (x0 * 8)) + s1.1) j19).bind fun c37 => (rb_rd c37 773 (491 + t12)).bind fun v39 => (rb_wr c37 773 (491 + t12) (v39 + 1)).bind fun c41 => (rb_rd c41 773 (395 + t12)).bind fun v43 => if (v43 &&& 2) = 0 then (rb_rd c41 773 (395 + t12)).bind fun v46 => if (v46 &&& 1) = 0 then (rb_wr s1.2.2.2.2 8 s1.2.1 t12).bind fun g49 => some ((s1.1 + 1), (s1.2.1 + 1), c41, g49) else some ((s1.1 + 1), s1.2.1, c41, s1.2.2.2.2) else (rb_wr c41 773 (419 + t12) 0).bind fun c51 => some ((s1.1 + 1), s1.2.1, c51, s1.2.2.2.2)) : Option (Int32 × Int32 × rb_Row × rb_Row)).bind fun j29 => some (.inl (j29.1, j29.2.1, (s1.2.2.1 + 1), j29.2.2.1, j29.2.2.2)) else some (.inr (s1.1, s1.2.1, s1.2.2.2.1, s1.2.2.2.2))) 100000 (0, 0, 0, c, g)).bind fun q2 => (XX1_countLeft q2.2.2.1 x1).bind fun t53 => (rb_lp (ρ := rb_Row) (fun (s55 : Int32 × rb_Row) => if q2.2.1 ≤ s55.1 then some (.inr s55.2) else (rb_rd q2.2.2.2 8 s55.1).bind fun v64 => (XX1_putOnList s55.2 v64).bind fun t66 => some (.inl ((s55.1 + 1), t66))) 100000 (0, t53)).bind fun q56 => (rb_wr q56 773 (563 + x0) q2.1).bind fun c68 => (rb_rd c68 773 (569 + x0)).bind fun v70 => (rb_wr c68 773 (569 + x0) (v70 + q2.1)).bind fun c72 => some (q2.1, c72, q2.2.2.2)
set_option maxHeartbeats 4000000 in
set_option maxRecDepth 20000 in
theorem ct0_X0_gather (μ : rb_Mem) (c : rb_Row) (g : rb_Row) (x0 : Int32) (x1 : Int32) (x2 : Int32) (o : Int32 × rb_Row × rb_Row) (hc : μ 5 = c) (hg : μ 6 = g) (h : XX0_gather c g x0 x1 x2 = some o) : rb_Ct yX0_gather cX0_gather 9 (some .int) 6 [.inr 1, .inl x0, .inl x1, .inl x2] μ (some o.1) (rb_ov μ [(5, o.2.1), (6, o.2.2)]) := by
  unfold XX0_gather at h
  have hini : rb_ov μ [(5, c), (6, g)] = μ := rb_ov_sf _ _ (And.intro hc (And.intro hg True.intro))
  have hfin : ∀ u0 u1 : rb_Row, rb_ov μ [(5, u0), (6, u1)] = rb_ov μ [(5, u0), (6, u1)] := fun u0 u1 => rfl
  refine rb_cti (w := [(5, c), (6, g)]) rfl pn_0 (Nat.le_of_ble_eq_true rfl) rfl hini ?_
  refine ev_iconst (v := 0) (pc := 0) dX0_gather_0 ki_0 ?_
  refine ev_istore (L' := [some (.inr 1), some (.inl x0), some (.inl x1), some (.inl x2), some (.inl 0), none, none, none, none]) (pc := 1) dX0_gather_1 (Nat.le_of_ble_eq_true rfl) rfl ?_
  refine ev_iconst (v := 0) (pc := 3) dX0_gather_3 ki_0 ?_
  refine ev_istore (L' := [some (.inr 1), some (.inl x0), some (.inl x1), some (.inl x2), some (.inl 0), some (.inl 0), none, none, none]) (pc := 4) dX0_gather_4 (Nat.le_of_ble_eq_true rfl) rfl ?_
  refine ev_iconst (v := 0) (pc := 6) dX0_gather_6 ki_0 ?_
  refine ev_istore (L' := [some (.inr 1), some (.inl x0), some (.inl x1), some (.inl x2), some (.inl 0), some (.inl 0), some (.inl 0), none, none]) (pc := 7) dX0_gather_7 (Nat.le_of_ble_eq_true rfl) rfl ?_
  obtain ⟨q2, l3, h⟩ := rb_bd h
  have hx7 : rb_Ev RX0 cX0_gather 9 (some .int) none 6 (some o.1) (rb_ov μ [(5, o.2.1), (6, o.2.2)]) 241 [some (.inr 1), some (.inl x0), some (.inl x1), none, some (.inl q2.1), some (.inl q2.2.1), none, none, none] [] (rb_ov μ [(5, q2.2.2.1), (6, q2.2.2.2)]) := by
    obtain ⟨t53, e54, h⟩ := rb_bd h
    refine ev_aload_n (v := 1) (pc := 241) dX0_gather_241 rfl ?_
    refine ev_getr (q := 3) (pc := 242) dX0_gather_242 fl_RX0_27 rfl rfl ?_
    refine ev_iload_n (v := x1) (pc := 245) dX0_gather_245 rfl ?_
    refine ev_cVv1w (w' := [(5, t53), (6, q2.2.2.2)]) (pc := 246) dX0_gather_246 mv_X1_countLeft lk_RX0_178 rp_3 (ct0_X1_countLeft _ _ _ _ rfl e54) (Nat.le_of_ble_eq_true rfl) (Nat.le_of_ble_eq_true rfl) rfl ?_
    refine ev_iconst (v := 0) (pc := 249) dX0_gather_249 ki_0 ?_
    refine ev_istore (L' := [some (.inr 1), some (.inl x0), some (.inl x1), none, some (.inl q2.1), some (.inl q2.2.1), some (.inl 0), none, none]) (pc := 250) dX0_gather_250 (Nat.le_of_ble_eq_true rfl) rfl ?_
    obtain ⟨q56, l57, h⟩ := rb_bd h
    have hx61 : rb_Ev RX0 cX0_gather 9 (some .int) none 6 (some o.1) (rb_ov μ [(5, o.2.1), (6, o.2.2)]) 279 [some (.inr 1), some (.inl x0), none, none, some (.inl q2.1), none, none, none, none] [] (rb_ov μ [(5, q56), (6, q2.2.2.2)]) := by
      obtain ⟨c68, e69, h⟩ := rb_bd h
      obtain ⟨v70, e71, h⟩ := rb_bd h
      obtain ⟨c72, e73, h⟩ := rb_bd h
      refine ev_aload_n (v := 1) (pc := 279) dX0_gather_279 rfl ?_
      refine ev_getr (q := 5) (pc := 280) dX0_gather_280 fl_RX0_9 rfl rfl ?_
      refine ev_sipush (v := 563) (pc := 283) dX0_gather_283 ks_563 ?_
      refine ev_iload_n (v := x0) (pc := 286) dX0_gather_286 rfl ?_
      refine ev_iadd (pc := 287) dX0_gather_287 ?_
      refine ev_iload (v := q2.1) (pc := 288) dX0_gather_288 rfl ?_
      refine ev_iast (w' := [(5, c68), (6, q2.2.2.2)]) (pc := 290) dX0_gather_290 rfl e69 rfl ?_
      refine ev_aload_n (v := 1) (pc := 291) dX0_gather_291 rfl ?_
      refine ev_getr (q := 5) (pc := 292) dX0_gather_292 fl_RX0_9 rfl rfl ?_
      refine ev_sipush (v := 569) (pc := 295) dX0_gather_295 ks_569 ?_
      refine ev_iload_n (v := x0) (pc := 298) dX0_gather_298 rfl ?_
      refine ev_iadd (pc := 299) dX0_gather_299 ?_
      refine ev_dup2 (pc := 300) dX0_gather_300 ?_
      refine ev_iald (pc := 301) dX0_gather_301 rfl e71 ?_
      refine ev_iload (v := q2.1) (pc := 302) dX0_gather_302 rfl ?_
      refine ev_iadd (pc := 304) dX0_gather_304 ?_
      refine ev_iast (w' := [(5, c72), (6, q2.2.2.2)]) (pc := 305) dX0_gather_305 rfl e73 rfl ?_
      refine ev_iload (v := q2.1) (pc := 306) dX0_gather_306 rfl ?_
      obtain rfl := Option.some.inj h
      exact ev_iret (pc := 308) dX0_gather_308 rfl rfl rfl (hfin _ _)
    refine ev_fg (L := [some (.inr 1), some (.inl x0), none, none, some (.inl q2.1), some (.inl q2.2.1), some (.inl 0), none, none]) (And.intro rfl (And.intro rfl (And.intro rfl (And.intro rfl (And.intro rfl True.intro))))) ?_
    refine rb_lp_ev (P := fun (s55 : Int32 × rb_Row) => rb_Ev RX0 cX0_gather 9 (some .int) none 6 (some o.1) (rb_ov μ [(5, o.2.1), (6, o.2.2)]) 252 [some (.inr 1), some (.inl x0), none, none, some (.inl q2.1), some (.inl q2.2.1), some (.inl s55.1), none, none] [] (rb_ov μ [(5, s55.2), (6, q2.2.2.2)])) ?_ 100000 (0, t53) l57
    intro s55 y58 h ih59 hE60
    refine ev_iload (v := s55.1) (pc := 252) dX0_gather_252 rfl ?_
    refine ev_iload (v := q2.2.1) (pc := 254) dX0_gather_254 rfl ?_
    by_cases b63 : q2.2.1 ≤ s55.1
    · rw [if_pos b63] at h
      refine ev_icmp_ge_t (t := 279) (pc := 256) dX0_gather_256 (by decide) b63 ?_
      obtain rfl := Option.some.inj h
      obtain rfl := hE60 _ rfl
      exact ev_fg (L := [some (.inr 1), some (.inl x0), none, none, some (.inl q2.1), none, none, none, none]) (And.intro rfl (And.intro rfl (And.intro rfl True.intro))) (hx61)
    · rw [if_neg b63] at h
      refine ev_icmp_ge_f (t := 279) (pc := 256) dX0_gather_256 (by decide) b63 ?_
      obtain ⟨v64, e65, h⟩ := rb_bd h
      obtain ⟨t66, e67, h⟩ := rb_bd h
      refine ev_aload_n (v := 1) (pc := 259) dX0_gather_259 rfl ?_
      refine ev_getr (q := 3) (pc := 260) dX0_gather_260 fl_RX0_27 rfl rfl ?_
      refine ev_aload_n (v := 1) (pc := 263) dX0_gather_263 rfl ?_
      refine ev_getr (q := 6) (pc := 264) dX0_gather_264 fl_RX0_38 rfl rfl ?_
      refine ev_iload (v := s55.1) (pc := 267) dX0_gather_267 rfl ?_
      refine ev_iald (pc := 269) dX0_gather_269 rfl e65 ?_
      refine ev_cVv1w (w' := [(5, t66), (6, q2.2.2.2)]) (pc := 270) dX0_gather_270 mv_X1_putOnList lk_RX0_144 rp_3 (ct0_X1_putOnList _ _ _ _ rfl e67) (Nat.le_of_ble_eq_true rfl) (Nat.le_of_ble_eq_true rfl) rfl ?_
      refine ev_iinc (x := s55.1) (v := (s55.1 + 1)) (L' := [some (.inr 1), some (.inl x0), none, none, some (.inl q2.1), some (.inl q2.2.1), some (.inl (s55.1 + 1)), none, none]) (pc := 273) dX0_gather_273 rfl (kx_1 _) (Nat.le_of_ble_eq_true rfl) rfl ?_
      refine ev_goto (t := 252) (pc := 276) dX0_gather_276 (by decide) ?_
      obtain rfl := Option.some.inj h
      exact ih59 ((s55.1 + 1), t66) rfl
  refine rb_lp_ev (P := fun (s1 : Int32 × Int32 × Int32 × rb_Row × rb_Row) => rb_Ev RX0 cX0_gather 9 (some .int) none 6 (some o.1) (rb_ov μ [(5, o.2.1), (6, o.2.2)]) 9 [some (.inr 1), some (.inl x0), some (.inl x1), some (.inl x2), some (.inl s1.1), some (.inl s1.2.1), some (.inl s1.2.2.1), none, none] [] (rb_ov μ [(5, s1.2.2.2.1), (6, s1.2.2.2.2)])) ?_ 100000 (0, 0, 0, c, g) l3
  intro s1 y4 h ih5 hE6
  refine ev_iload (v := s1.2.2.1) (pc := 9) dX0_gather_9 rfl ?_
  refine ev_bipush (v := 24) (pc := 11) dX0_gather_11 kb_24 ?_
  by_cases b9 : 24 ≤ s1.2.2.1
  · rw [if_pos b9] at h
    refine ev_icmp_ge_t (t := 241) (pc := 13) dX0_gather_13 (by decide) b9 ?_
    obtain rfl := Option.some.inj h
    obtain rfl := hE6 _ rfl
    exact ev_fg (L := [some (.inr 1), some (.inl x0), some (.inl x1), none, some (.inl s1.1), some (.inl s1.2.1), none, none, none]) (And.intro rfl (And.intro rfl (And.intro rfl (And.intro rfl (And.intro rfl True.intro))))) (hx7)
  · rw [if_neg b9] at h
    refine ev_icmp_ge_f (t := 241) (pc := 13) dX0_gather_13 (by decide) b9 ?_
    refine ev_iload (v := s1.1) (pc := 16) dX0_gather_16 rfl ?_
    refine ev_iload_n (v := x2) (pc := 18) dX0_gather_18 rfl ?_
    by_cases b10 : x2 ≤ s1.1
    · rw [if_pos b10] at h
      refine ev_icmp_ge_t (t := 241) (pc := 19) dX0_gather_19 (by decide) b10 ?_
      obtain rfl := Option.some.inj h
      obtain rfl := hE6 _ rfl
      exact ev_fg (L := [some (.inr 1), some (.inl x0), some (.inl x1), none, some (.inl s1.1), some (.inl s1.2.1), none, none, none]) (And.intro rfl (And.intro rfl (And.intro rfl (And.intro rfl (And.intro rfl True.intro))))) (hx7)
    · rw [if_neg b10] at h
      refine ev_icmp_ge_f (t := 241) (pc := 19) dX0_gather_19 (by decide) b10 ?_
      refine ev_iload (v := s1.1) (pc := 22) dX0_gather_22 rfl ?_
      refine ev_bipush (v := 8) (pc := 24) dX0_gather_24 kb_8 ?_
      by_cases b11 : 8 ≤ s1.1
      · rw [if_pos b11] at h
        refine ev_icmp_ge_t (t := 241) (pc := 26) dX0_gather_26 (by decide) b11 ?_
        obtain rfl := Option.some.inj h
        obtain rfl := hE6 _ rfl
        exact ev_fg (L := [some (.inr 1), some (.inl x0), some (.inl x1), none, some (.inl s1.1), some (.inl s1.2.1), none, none, none]) (And.intro rfl (And.intro rfl (And.intro rfl (And.intro rfl (And.intro rfl True.intro))))) (hx7)
      · rw [if_neg b11] at h
        refine ev_icmp_ge_f (t := 241) (pc := 26) dX0_gather_26 (by decide) b11 ?_
        obtain ⟨t12, e13, h⟩ := rb_bd h
        refine ev_aload_n (v := 1) (pc := 29) dX0_gather_29 rfl ?_
        refine ev_getr (q := 3) (pc := 30) dX0_gather_30 fl_RX0_27 rfl rfl ?_
        refine ev_iload_n (v := x1) (pc := 33) dX0_gather_33 rfl ?_
        refine ev_cVi1 (pc := 34) dX0_gather_34 mv_X1_firstListed lk_RX0_166 rp_3 (ct0_X1_firstListed _ _ _ _ rfl e13) (Nat.le_of_ble_eq_true rfl) (Nat.le_of_ble_eq_true rfl) ?_
        refine ev_istore (L' := [some (.inr 1), some (.inl x0), some (.inl x1), some (.inl x2), some (.inl s1.1), some (.inl s1.2.1), some (.inl s1.2.2.1), some (.inl t12), none]) (pc := 37) dX0_gather_37 (Nat.le_of_ble_eq_true rfl) rfl ?_
        refine ev_iload (v := t12) (pc := 39) dX0_gather_39 rfl ?_
        by_cases b14 : 0 ≤ t12
        · rw [if_pos b14] at h
          refine ev_if_ge_t (t := 47) (pc := 41) dX0_gather_41 (by decide) b14 ?_
          obtain ⟨t15, e16, h⟩ := rb_bd h
          obtain ⟨v17, e18, h⟩ := rb_bd h
          refine ev_aload_n (v := 1) (pc := 47) dX0_gather_47 rfl ?_
          refine ev_getr (q := 3) (pc := 48) dX0_gather_48 fl_RX0_27 rfl rfl ?_
          refine ev_iload (v := t12) (pc := 51) dX0_gather_51 rfl ?_
          refine ev_cVv1w (w' := [(5, t15), (6, s1.2.2.2.2)]) (pc := 53) dX0_gather_53 mv_X1_takeOffList lk_RX0_169 rp_3 (ct0_X1_takeOffList _ _ _ _ rfl e16) (Nat.le_of_ble_eq_true rfl) (Nat.le_of_ble_eq_true rfl) rfl ?_
          refine ev_aload_n (v := 1) (pc := 56) dX0_gather_56 rfl ?_
          refine ev_getr (q := 5) (pc := 57) dX0_gather_57 fl_RX0_9 rfl rfl ?_
          refine ev_sipush (v := 419) (pc := 60) dX0_gather_60 ks_419 ?_
          refine ev_iload (v := t12) (pc := 63) dX0_gather_63 rfl ?_
          refine ev_iadd (pc := 65) dX0_gather_65 ?_
          refine ev_iald (pc := 66) dX0_gather_66 rfl e18 ?_
          obtain ⟨j19, e20, h⟩ := rb_bd h
          have hj21 : rb_Ev RX0 cX0_gather 9 (some .int) none 6 (some o.1) (rb_ov μ [(5, o.2.1), (6, o.2.2)]) 103 [some (.inr 1), some (.inl x0), some (.inl x1), some (.inl x2), some (.inl s1.1), some (.inl s1.2.1), some (.inl s1.2.2.1), some (.inl t12), none] [.inl j19] (rb_ov μ [(5, t15), (6, s1.2.2.2.2)]) := by
            refine ev_istore (L' := [some (.inr 1), some (.inl x0), some (.inl x1), some (.inl x2), some (.inl s1.1), some (.inl s1.2.1), some (.inl s1.2.2.1), some (.inl t12), some (.inl j19)]) (pc := 103) dX0_gather_103 (Nat.le_of_ble_eq_true rfl) rfl ?_
            refine ev_iload (v := j19) (pc := 105) dX0_gather_105 rfl ?_
            obtain ⟨j29, e30, h⟩ := rb_bd h
            have hj31 : rb_Ev RX0 cX0_gather 9 (some .int) none 6 (some o.1) (rb_ov μ [(5, o.2.1), (6, o.2.2)]) 235 [some (.inr 1), some (.inl x0), some (.inl x1), some (.inl x2), some (.inl j29.1), some (.inl j29.2.1), some (.inl s1.2.2.1), none, none] [] (rb_ov μ [(5, j29.2.2.1), (6, j29.2.2.2)]) := by
              refine ev_iinc (x := s1.2.2.1) (v := (s1.2.2.1 + 1)) (L' := [some (.inr 1), some (.inl x0), some (.inl x1), some (.inl x2), some (.inl j29.1), some (.inl j29.2.1), some (.inl (s1.2.2.1 + 1)), none, none]) (pc := 235) dX0_gather_235 rfl (kx_1 _) (Nat.le_of_ble_eq_true rfl) rfl ?_
              refine ev_goto (t := 9) (pc := 238) dX0_gather_238 (by decide) ?_
              obtain rfl := Option.some.inj h
              exact ih5 (j29.1, j29.2.1, (s1.2.2.1 + 1), j29.2.2.1, j29.2.2.2) rfl
            replace h := e30
            by_cases b32 : j19 = 0
            · rw [if_pos b32] at h
              refine ev_if_ne_f (t := 113) (pc := 107) dX0_gather_107 (by decide) b32 ?_
              refine ev_goto (t := 235) (pc := 110) dX0_gather_110 (by decide) ?_
              obtain rfl := Option.some.inj h
              exact ev_fg (L := [some (.inr 1), some (.inl x0), some (.inl x1), some (.inl x2), some (.inl s1.1), some (.inl s1.2.1), some (.inl s1.2.2.1), none, none]) (And.intro rfl (And.intro rfl (And.intro rfl (And.intro rfl (And.intro rfl (And.intro rfl (And.intro rfl True.intro))))))) (hj31)
            · rw [if_neg b32] at h
              refine ev_if_ne_t (t := 113) (pc := 107) dX0_gather_107 (by decide) b32 ?_
              obtain ⟨v33, e34, h⟩ := rb_bd h
              obtain ⟨c35, e36, h⟩ := rb_bd h
              obtain ⟨c37, e38, h⟩ := rb_bd h
              obtain ⟨v39, e40, h⟩ := rb_bd h
              obtain ⟨c41, e42, h⟩ := rb_bd h
              obtain ⟨v43, e44, h⟩ := rb_bd h
              refine ev_aload_n (v := 1) (pc := 113) dX0_gather_113 rfl ?_
              refine ev_getr (q := 5) (pc := 114) dX0_gather_114 fl_RX0_9 rfl rfl ?_
              refine ev_sipush (v := 677) (pc := 117) dX0_gather_117 ks_677 ?_
              refine ev_iload_n (v := x0) (pc := 120) dX0_gather_120 rfl ?_
              refine ev_bipush (v := 8) (pc := 121) dX0_gather_121 kb_8 ?_
              refine ev_imul (pc := 123) dX0_gather_123 ?_
              refine ev_iadd (pc := 124) dX0_gather_124 ?_
              refine ev_iload (v := s1.1) (pc := 125) dX0_gather_125 rfl ?_
              refine ev_iadd (pc := 127) dX0_gather_127 ?_
              refine ev_aload_n (v := 1) (pc := 128) dX0_gather_128 rfl ?_
              refine ev_getr (q := 5) (pc := 129) dX0_gather_129 fl_RX0_9 rfl rfl ?_
              refine ev_sipush (v := 347) (pc := 132) dX0_gather_132 ks_347 ?_
              refine ev_iload (v := t12) (pc := 135) dX0_gather_135 rfl ?_
              refine ev_iadd (pc := 137) dX0_gather_137 ?_
              refine ev_iald (pc := 138) dX0_gather_138 rfl e34 ?_
              refine ev_iast (w' := [(5, c35), (6, s1.2.2.2.2)]) (pc := 139) dX0_gather_139 rfl e36 rfl ?_
              refine ev_aload_n (v := 1) (pc := 140) dX0_gather_140 rfl ?_
              refine ev_getr (q := 5) (pc := 141) dX0_gather_141 fl_RX0_9 rfl rfl ?_
              refine ev_sipush (v := 725) (pc := 144) dX0_gather_144 ks_725 ?_
              refine ev_iload_n (v := x0) (pc := 147) dX0_gather_147 rfl ?_
              refine ev_bipush (v := 8) (pc := 148) dX0_gather_148 kb_8 ?_
              refine ev_imul (pc := 150) dX0_gather_150 ?_
              refine ev_iadd (pc := 151) dX0_gather_151 ?_
              refine ev_iload (v := s1.1) (pc := 152) dX0_gather_152 rfl ?_
              refine ev_iadd (pc := 154) dX0_gather_154 ?_
              refine ev_iload (v := j19) (pc := 155) dX0_gather_155 rfl ?_
              refine ev_iast (w' := [(5, c37), (6, s1.2.2.2.2)]) (pc := 157) dX0_gather_157 rfl e38 rfl ?_
              refine ev_iinc (x := s1.1) (v := (s1.1 + 1)) (L' := [some (.inr 1), some (.inl x0), some (.inl x1), some (.inl x2), some (.inl (s1.1 + 1)), some (.inl s1.2.1), some (.inl s1.2.2.1), some (.inl t12), some (.inl j19)]) (pc := 158) dX0_gather_158 rfl (kx_1 _) (Nat.le_of_ble_eq_true rfl) rfl ?_
              refine ev_aload_n (v := 1) (pc := 161) dX0_gather_161 rfl ?_
              refine ev_getr (q := 5) (pc := 162) dX0_gather_162 fl_RX0_9 rfl rfl ?_
              refine ev_sipush (v := 491) (pc := 165) dX0_gather_165 ks_491 ?_
              refine ev_iload (v := t12) (pc := 168) dX0_gather_168 rfl ?_
              refine ev_iadd (pc := 170) dX0_gather_170 ?_
              refine ev_dup2 (pc := 171) dX0_gather_171 ?_
              refine ev_iald (pc := 172) dX0_gather_172 rfl e40 ?_
              refine ev_iconst (v := 1) (pc := 173) dX0_gather_173 ki_1 ?_
              refine ev_iadd (pc := 174) dX0_gather_174 ?_
              refine ev_iast (w' := [(5, c41), (6, s1.2.2.2.2)]) (pc := 175) dX0_gather_175 rfl e42 rfl ?_
              refine ev_aload_n (v := 1) (pc := 176) dX0_gather_176 rfl ?_
              refine ev_getr (q := 5) (pc := 177) dX0_gather_177 fl_RX0_9 rfl rfl ?_
              refine ev_sipush (v := 395) (pc := 180) dX0_gather_180 ks_395 ?_
              refine ev_iload (v := t12) (pc := 183) dX0_gather_183 rfl ?_
              refine ev_iadd (pc := 185) dX0_gather_185 ?_
              refine ev_iald (pc := 186) dX0_gather_186 rfl e44 ?_
              refine ev_iconst (v := 2) (pc := 187) dX0_gather_187 ki_2 ?_
              refine ev_iand (pc := 188) dX0_gather_188 ?_
              by_cases b45 : (v43 &&& 2) = 0
              · rw [if_pos b45] at h
                refine ev_if_eq_t (t := 207) (pc := 189) dX0_gather_189 (by decide) b45 ?_
                obtain ⟨v46, e47, h⟩ := rb_bd h
                refine ev_aload_n (v := 1) (pc := 207) dX0_gather_207 rfl ?_
                refine ev_getr (q := 5) (pc := 208) dX0_gather_208 fl_RX0_9 rfl rfl ?_
                refine ev_sipush (v := 395) (pc := 211) dX0_gather_211 ks_395 ?_
                refine ev_iload (v := t12) (pc := 214) dX0_gather_214 rfl ?_
                refine ev_iadd (pc := 216) dX0_gather_216 ?_
                refine ev_iald (pc := 217) dX0_gather_217 rfl e47 ?_
                refine ev_iconst (v := 1) (pc := 218) dX0_gather_218 ki_1 ?_
                refine ev_iand (pc := 219) dX0_gather_219 ?_
                by_cases b48 : (v46 &&& 1) = 0
                · rw [if_pos b48] at h
                  refine ev_if_ne_f (t := 235) (pc := 220) dX0_gather_220 (by decide) b48 ?_
                  obtain ⟨g49, e50, h⟩ := rb_bd h
                  refine ev_aload_n (v := 1) (pc := 223) dX0_gather_223 rfl ?_
                  refine ev_getr (q := 6) (pc := 224) dX0_gather_224 fl_RX0_38 rfl rfl ?_
                  refine ev_iload (v := s1.2.1) (pc := 227) dX0_gather_227 rfl ?_
                  refine ev_iinc (x := s1.2.1) (v := (s1.2.1 + 1)) (L' := [some (.inr 1), some (.inl x0), some (.inl x1), some (.inl x2), some (.inl (s1.1 + 1)), some (.inl (s1.2.1 + 1)), some (.inl s1.2.2.1), some (.inl t12), some (.inl j19)]) (pc := 229) dX0_gather_229 rfl (kx_1 _) (Nat.le_of_ble_eq_true rfl) rfl ?_
                  refine ev_iload (v := t12) (pc := 232) dX0_gather_232 rfl ?_
                  refine ev_iast (w' := [(5, c41), (6, g49)]) (pc := 234) dX0_gather_234 rfl e50 rfl ?_
                  obtain rfl := Option.some.inj h
                  exact ev_fg (L := [some (.inr 1), some (.inl x0), some (.inl x1), some (.inl x2), some (.inl (s1.1 + 1)), some (.inl (s1.2.1 + 1)), some (.inl s1.2.2.1), none, none]) (And.intro rfl (And.intro rfl (And.intro rfl (And.intro rfl (And.intro rfl (And.intro rfl (And.intro rfl True.intro))))))) (hj31)
                · rw [if_neg b48] at h
                  refine ev_if_ne_t (t := 235) (pc := 220) dX0_gather_220 (by decide) b48 ?_
                  obtain rfl := Option.some.inj h
                  exact ev_fg (L := [some (.inr 1), some (.inl x0), some (.inl x1), some (.inl x2), some (.inl (s1.1 + 1)), some (.inl s1.2.1), some (.inl s1.2.2.1), none, none]) (And.intro rfl (And.intro rfl (And.intro rfl (And.intro rfl (And.intro rfl (And.intro rfl (And.intro rfl True.intro))))))) (hj31)
              · rw [if_neg b45] at h
                refine ev_if_eq_f (t := 207) (pc := 189) dX0_gather_189 (by decide) b45 ?_
                obtain ⟨c51, e52, h⟩ := rb_bd h
                refine ev_aload_n (v := 1) (pc := 192) dX0_gather_192 rfl ?_
                refine ev_getr (q := 5) (pc := 193) dX0_gather_193 fl_RX0_9 rfl rfl ?_
                refine ev_sipush (v := 419) (pc := 196) dX0_gather_196 ks_419 ?_
                refine ev_iload (v := t12) (pc := 199) dX0_gather_199 rfl ?_
                refine ev_iadd (pc := 201) dX0_gather_201 ?_
                refine ev_iconst (v := 0) (pc := 202) dX0_gather_202 ki_0 ?_
                refine ev_iast (w' := [(5, c51), (6, s1.2.2.2.2)]) (pc := 203) dX0_gather_203 rfl e52 rfl ?_
                refine ev_goto (t := 235) (pc := 204) dX0_gather_204 (by decide) ?_
                obtain rfl := Option.some.inj h
                exact ev_fg (L := [some (.inr 1), some (.inl x0), some (.inl x1), some (.inl x2), some (.inl (s1.1 + 1)), some (.inl s1.2.1), some (.inl s1.2.2.1), none, none]) (And.intro rfl (And.intro rfl (And.intro rfl (And.intro rfl (And.intro rfl (And.intro rfl (And.intro rfl True.intro))))))) (hj31)
          replace h := e20
          by_cases b22 : v17 = 0
          · rw [if_pos b22] at h
            refine ev_if_ne_f (t := 74) (pc := 67) dX0_gather_67 (by decide) b22 ?_
            refine ev_iconst (v := 0) (pc := 70) dX0_gather_70 ki_0 ?_
            refine ev_goto (t := 103) (pc := 71) dX0_gather_71 (by decide) ?_
            obtain rfl := Option.some.inj h
            exact hj21
          · rw [if_neg b22] at h
            refine ev_if_ne_t (t := 74) (pc := 67) dX0_gather_67 (by decide) b22 ?_
            obtain ⟨t23, e24, h⟩ := rb_bd h
            obtain ⟨v25, e26, h⟩ := rb_bd h
            obtain ⟨t27, e28, h⟩ := rb_bd h
            refine ev_aload_n (v := 1) (pc := 74) dX0_gather_74 rfl ?_
            refine ev_getr (q := 3) (pc := 75) dX0_gather_75 fl_RX0_27 rfl rfl ?_
            refine ev_iload (v := t12) (pc := 78) dX0_gather_78 rfl ?_
            refine ev_cVi1 (pc := 80) dX0_gather_80 mv_X1_bitsOf lk_RX0_172 rp_3 (ct0_X1_bitsOf _ _ _ _ rfl e24) (Nat.le_of_ble_eq_true rfl) (Nat.le_of_ble_eq_true rfl) ?_
            refine ev_aload_n (v := 1) (pc := 83) dX0_gather_83 rfl ?_
            refine ev_getr (q := 3) (pc := 84) dX0_gather_84 fl_RX0_27 rfl rfl ?_
            refine ev_aload_n (v := 1) (pc := 87) dX0_gather_87 rfl ?_
            refine ev_getr (q := 5) (pc := 88) dX0_gather_88 fl_RX0_9 rfl rfl ?_
            refine ev_sipush (v := 323) (pc := 91) dX0_gather_91 ks_323 ?_
            refine ev_iload (v := t12) (pc := 94) dX0_gather_94 rfl ?_
            refine ev_iadd (pc := 96) dX0_gather_96 ?_
            refine ev_iald (pc := 97) dX0_gather_97 rfl e26 ?_
            refine ev_iconst (v := 0) (pc := 98) dX0_gather_98 ki_0 ?_
            refine ev_cVi2 (pc := 99) dX0_gather_99 mv_X1_ready lk_RX0_175 rp_3 (ct0_X1_ready 5 _ _ _ _ _ rfl e28) (Nat.le_of_ble_eq_true rfl) (Nat.le_of_ble_eq_true rfl) ?_
            refine ev_iand (pc := 102) dX0_gather_102 ?_
            obtain rfl := Option.some.inj h
            exact hj21
        · rw [if_neg b14] at h
          refine ev_if_ge_f (t := 47) (pc := 41) dX0_gather_41 (by decide) b14 ?_
          refine ev_goto (t := 241) (pc := 44) dX0_gather_44 (by decide) ?_
          obtain rfl := Option.some.inj h
          obtain rfl := hE6 _ rfl
          exact ev_fg (L := [some (.inr 1), some (.inl x0), some (.inl x1), none, some (.inl s1.1), some (.inl s1.2.1), none, none, none]) (And.intro rfl (And.intro rfl (And.intro rfl (And.intro rfl (And.intro rfl True.intro))))) (hx7)
set_option maxHeartbeats 4000000 in
set_option maxRecDepth 20000 in
theorem ct1_X0_gather (μ : rb_Mem) (c : rb_Row) (g : rb_Row) (x0 : Int32) (x1 : Int32) (x2 : Int32) (o : Int32 × rb_Row × rb_Row) (hc : μ 11 = c) (hg : μ 12 = g) (h : XX0_gather c g x0 x1 x2 = some o) : rb_Ct yX0_gather cX0_gather 9 (some .int) 6 [.inr 7, .inl x0, .inl x1, .inl x2] μ (some o.1) (rb_ov μ [(11, o.2.1), (12, o.2.2)]) := by
  unfold XX0_gather at h
  have hini : rb_ov μ [(11, c), (12, g)] = μ := rb_ov_sf _ _ (And.intro hc (And.intro hg True.intro))
  have hfin : ∀ u0 u1 : rb_Row, rb_ov μ [(11, u0), (12, u1)] = rb_ov μ [(11, u0), (12, u1)] := fun u0 u1 => rfl
  refine rb_cti (w := [(11, c), (12, g)]) rfl pn_0 (Nat.le_of_ble_eq_true rfl) rfl hini ?_
  refine ev_iconst (v := 0) (pc := 0) dX0_gather_0 ki_0 ?_
  refine ev_istore (L' := [some (.inr 7), some (.inl x0), some (.inl x1), some (.inl x2), some (.inl 0), none, none, none, none]) (pc := 1) dX0_gather_1 (Nat.le_of_ble_eq_true rfl) rfl ?_
  refine ev_iconst (v := 0) (pc := 3) dX0_gather_3 ki_0 ?_
  refine ev_istore (L' := [some (.inr 7), some (.inl x0), some (.inl x1), some (.inl x2), some (.inl 0), some (.inl 0), none, none, none]) (pc := 4) dX0_gather_4 (Nat.le_of_ble_eq_true rfl) rfl ?_
  refine ev_iconst (v := 0) (pc := 6) dX0_gather_6 ki_0 ?_
  refine ev_istore (L' := [some (.inr 7), some (.inl x0), some (.inl x1), some (.inl x2), some (.inl 0), some (.inl 0), some (.inl 0), none, none]) (pc := 7) dX0_gather_7 (Nat.le_of_ble_eq_true rfl) rfl ?_
  obtain ⟨q2, l3, h⟩ := rb_bd h
  have hx7 : rb_Ev RX0 cX0_gather 9 (some .int) none 6 (some o.1) (rb_ov μ [(11, o.2.1), (12, o.2.2)]) 241 [some (.inr 7), some (.inl x0), some (.inl x1), none, some (.inl q2.1), some (.inl q2.2.1), none, none, none] [] (rb_ov μ [(11, q2.2.2.1), (12, q2.2.2.2)]) := by
    obtain ⟨t53, e54, h⟩ := rb_bd h
    refine ev_aload_n (v := 7) (pc := 241) dX0_gather_241 rfl ?_
    refine ev_getr (q := 9) (pc := 242) dX0_gather_242 fl_RX0_27 rfl rfl ?_
    refine ev_iload_n (v := x1) (pc := 245) dX0_gather_245 rfl ?_
    refine ev_cVv1w (w' := [(11, t53), (12, q2.2.2.2)]) (pc := 246) dX0_gather_246 mv_X1_countLeft lk_RX0_178 rp_9 (ct1_X1_countLeft _ _ _ _ rfl e54) (Nat.le_of_ble_eq_true rfl) (Nat.le_of_ble_eq_true rfl) rfl ?_
    refine ev_iconst (v := 0) (pc := 249) dX0_gather_249 ki_0 ?_
    refine ev_istore (L' := [some (.inr 7), some (.inl x0), some (.inl x1), none, some (.inl q2.1), some (.inl q2.2.1), some (.inl 0), none, none]) (pc := 250) dX0_gather_250 (Nat.le_of_ble_eq_true rfl) rfl ?_
    obtain ⟨q56, l57, h⟩ := rb_bd h
    have hx61 : rb_Ev RX0 cX0_gather 9 (some .int) none 6 (some o.1) (rb_ov μ [(11, o.2.1), (12, o.2.2)]) 279 [some (.inr 7), some (.inl x0), none, none, some (.inl q2.1), none, none, none, none] [] (rb_ov μ [(11, q56), (12, q2.2.2.2)]) := by
      obtain ⟨c68, e69, h⟩ := rb_bd h
      obtain ⟨v70, e71, h⟩ := rb_bd h
      obtain ⟨c72, e73, h⟩ := rb_bd h
      refine ev_aload_n (v := 7) (pc := 279) dX0_gather_279 rfl ?_
      refine ev_getr (q := 11) (pc := 280) dX0_gather_280 fl_RX0_9 rfl rfl ?_
      refine ev_sipush (v := 563) (pc := 283) dX0_gather_283 ks_563 ?_
      refine ev_iload_n (v := x0) (pc := 286) dX0_gather_286 rfl ?_
      refine ev_iadd (pc := 287) dX0_gather_287 ?_
      refine ev_iload (v := q2.1) (pc := 288) dX0_gather_288 rfl ?_
      refine ev_iast (w' := [(11, c68), (12, q2.2.2.2)]) (pc := 290) dX0_gather_290 rfl e69 rfl ?_
      refine ev_aload_n (v := 7) (pc := 291) dX0_gather_291 rfl ?_
      refine ev_getr (q := 11) (pc := 292) dX0_gather_292 fl_RX0_9 rfl rfl ?_
      refine ev_sipush (v := 569) (pc := 295) dX0_gather_295 ks_569 ?_
      refine ev_iload_n (v := x0) (pc := 298) dX0_gather_298 rfl ?_
      refine ev_iadd (pc := 299) dX0_gather_299 ?_
      refine ev_dup2 (pc := 300) dX0_gather_300 ?_
      refine ev_iald (pc := 301) dX0_gather_301 rfl e71 ?_
      refine ev_iload (v := q2.1) (pc := 302) dX0_gather_302 rfl ?_
      refine ev_iadd (pc := 304) dX0_gather_304 ?_
      refine ev_iast (w' := [(11, c72), (12, q2.2.2.2)]) (pc := 305) dX0_gather_305 rfl e73 rfl ?_
      refine ev_iload (v := q2.1) (pc := 306) dX0_gather_306 rfl ?_
      obtain rfl := Option.some.inj h
      exact ev_iret (pc := 308) dX0_gather_308 rfl rfl rfl (hfin _ _)
    refine ev_fg (L := [some (.inr 7), some (.inl x0), none, none, some (.inl q2.1), some (.inl q2.2.1), some (.inl 0), none, none]) (And.intro rfl (And.intro rfl (And.intro rfl (And.intro rfl (And.intro rfl True.intro))))) ?_
    refine rb_lp_ev (P := fun (s55 : Int32 × rb_Row) => rb_Ev RX0 cX0_gather 9 (some .int) none 6 (some o.1) (rb_ov μ [(11, o.2.1), (12, o.2.2)]) 252 [some (.inr 7), some (.inl x0), none, none, some (.inl q2.1), some (.inl q2.2.1), some (.inl s55.1), none, none] [] (rb_ov μ [(11, s55.2), (12, q2.2.2.2)])) ?_ 100000 (0, t53) l57
    intro s55 y58 h ih59 hE60
    refine ev_iload (v := s55.1) (pc := 252) dX0_gather_252 rfl ?_
    refine ev_iload (v := q2.2.1) (pc := 254) dX0_gather_254 rfl ?_
    by_cases b63 : q2.2.1 ≤ s55.1
    · rw [if_pos b63] at h
      refine ev_icmp_ge_t (t := 279) (pc := 256) dX0_gather_256 (by decide) b63 ?_
      obtain rfl := Option.some.inj h
      obtain rfl := hE60 _ rfl
      exact ev_fg (L := [some (.inr 7), some (.inl x0), none, none, some (.inl q2.1), none, none, none, none]) (And.intro rfl (And.intro rfl (And.intro rfl True.intro))) (hx61)
    · rw [if_neg b63] at h
      refine ev_icmp_ge_f (t := 279) (pc := 256) dX0_gather_256 (by decide) b63 ?_
      obtain ⟨v64, e65, h⟩ := rb_bd h
      obtain ⟨t66, e67, h⟩ := rb_bd h
      refine ev_aload_n (v := 7) (pc := 259) dX0_gather_259 rfl ?_
      refine ev_getr (q := 9) (pc := 260) dX0_gather_260 fl_RX0_27 rfl rfl ?_
      refine ev_aload_n (v := 7) (pc := 263) dX0_gather_263 rfl ?_
      refine ev_getr (q := 12) (pc := 264) dX0_gather_264 fl_RX0_38 rfl rfl ?_
      refine ev_iload (v := s55.1) (pc := 267) dX0_gather_267 rfl ?_
      refine ev_iald (pc := 269) dX0_gather_269 rfl e65 ?_
      refine ev_cVv1w (w' := [(11, t66), (12, q2.2.2.2)]) (pc := 270) dX0_gather_270 mv_X1_putOnList lk_RX0_144 rp_9 (ct1_X1_putOnList _ _ _ _ rfl e67) (Nat.le_of_ble_eq_true rfl) (Nat.le_of_ble_eq_true rfl) rfl ?_
      refine ev_iinc (x := s55.1) (v := (s55.1 + 1)) (L' := [some (.inr 7), some (.inl x0), none, none, some (.inl q2.1), some (.inl q2.2.1), some (.inl (s55.1 + 1)), none, none]) (pc := 273) dX0_gather_273 rfl (kx_1 _) (Nat.le_of_ble_eq_true rfl) rfl ?_
      refine ev_goto (t := 252) (pc := 276) dX0_gather_276 (by decide) ?_
      obtain rfl := Option.some.inj h
      exact ih59 ((s55.1 + 1), t66) rfl
  refine rb_lp_ev (P := fun (s1 : Int32 × Int32 × Int32 × rb_Row × rb_Row) => rb_Ev RX0 cX0_gather 9 (some .int) none 6 (some o.1) (rb_ov μ [(11, o.2.1), (12, o.2.2)]) 9 [some (.inr 7), some (.inl x0), some (.inl x1), some (.inl x2), some (.inl s1.1), some (.inl s1.2.1), some (.inl s1.2.2.1), none, none] [] (rb_ov μ [(11, s1.2.2.2.1), (12, s1.2.2.2.2)])) ?_ 100000 (0, 0, 0, c, g) l3
  intro s1 y4 h ih5 hE6
  refine ev_iload (v := s1.2.2.1) (pc := 9) dX0_gather_9 rfl ?_
  refine ev_bipush (v := 24) (pc := 11) dX0_gather_11 kb_24 ?_
  by_cases b9 : 24 ≤ s1.2.2.1
  · rw [if_pos b9] at h
    refine ev_icmp_ge_t (t := 241) (pc := 13) dX0_gather_13 (by decide) b9 ?_
    obtain rfl := Option.some.inj h
    obtain rfl := hE6 _ rfl
    exact ev_fg (L := [some (.inr 7), some (.inl x0), some (.inl x1), none, some (.inl s1.1), some (.inl s1.2.1), none, none, none]) (And.intro rfl (And.intro rfl (And.intro rfl (And.intro rfl (And.intro rfl True.intro))))) (hx7)
  · rw [if_neg b9] at h
    refine ev_icmp_ge_f (t := 241) (pc := 13) dX0_gather_13 (by decide) b9 ?_
    refine ev_iload (v := s1.1) (pc := 16) dX0_gather_16 rfl ?_
    refine ev_iload_n (v := x2) (pc := 18) dX0_gather_18 rfl ?_
    by_cases b10 : x2 ≤ s1.1
    · rw [if_pos b10] at h
      refine ev_icmp_ge_t (t := 241) (pc := 19) dX0_gather_19 (by decide) b10 ?_
      obtain rfl := Option.some.inj h
      obtain rfl := hE6 _ rfl
      exact ev_fg (L := [some (.inr 7), some (.inl x0), some (.inl x1), none, some (.inl s1.1), some (.inl s1.2.1), none, none, none]) (And.intro rfl (And.intro rfl (And.intro rfl (And.intro rfl (And.intro rfl True.intro))))) (hx7)
    · rw [if_neg b10] at h
      refine ev_icmp_ge_f (t := 241) (pc := 19) dX0_gather_19 (by decide) b10 ?_
      refine ev_iload (v := s1.1) (pc := 22) dX0_gather_22 rfl ?_
      refine ev_bipush (v := 8) (pc := 24) dX0_gather_24 kb_8 ?_
      by_cases b11 : 8 ≤ s1.1
      · rw [if_pos b11] at h
        refine ev_icmp_ge_t (t := 241) (pc := 26) dX0_gather_26 (by decide) b11 ?_
        obtain rfl := Option.some.inj h
        obtain rfl := hE6 _ rfl
        exact ev_fg (L := [some (.inr 7), some (.inl x0), some (.inl x1), none, some (.inl s1.1), some (.inl s1.2.1), none, none, none]) (And.intro rfl (And.intro rfl (And.intro rfl (And.intro rfl (And.intro rfl True.intro))))) (hx7)
      · rw [if_neg b11] at h
        refine ev_icmp_ge_f (t := 241) (pc := 26) dX0_gather_26 (by decide) b11 ?_
        obtain ⟨t12, e13, h⟩ := rb_bd h
        refine ev_aload_n (v := 7) (pc := 29) dX0_gather_29 rfl ?_
        refine ev_getr (q := 9) (pc := 30) dX0_gather_30 fl_RX0_27 rfl rfl ?_
        refine ev_iload_n (v := x1) (pc := 33) dX0_gather_33 rfl ?_
        refine ev_cVi1 (pc := 34) dX0_gather_34 mv_X1_firstListed lk_RX0_166 rp_9 (ct1_X1_firstListed _ _ _ _ rfl e13) (Nat.le_of_ble_eq_true rfl) (Nat.le_of_ble_eq_true rfl) ?_
        refine ev_istore (L' := [some (.inr 7), some (.inl x0), some (.inl x1), some (.inl x2), some (.inl s1.1), some (.inl s1.2.1), some (.inl s1.2.2.1), some (.inl t12), none]) (pc := 37) dX0_gather_37 (Nat.le_of_ble_eq_true rfl) rfl ?_
        refine ev_iload (v := t12) (pc := 39) dX0_gather_39 rfl ?_
        by_cases b14 : 0 ≤ t12
        · rw [if_pos b14] at h
          refine ev_if_ge_t (t := 47) (pc := 41) dX0_gather_41 (by decide) b14 ?_
          obtain ⟨t15, e16, h⟩ := rb_bd h
          obtain ⟨v17, e18, h⟩ := rb_bd h
          refine ev_aload_n (v := 7) (pc := 47) dX0_gather_47 rfl ?_
          refine ev_getr (q := 9) (pc := 48) dX0_gather_48 fl_RX0_27 rfl rfl ?_
          refine ev_iload (v := t12) (pc := 51) dX0_gather_51 rfl ?_
          refine ev_cVv1w (w' := [(11, t15), (12, s1.2.2.2.2)]) (pc := 53) dX0_gather_53 mv_X1_takeOffList lk_RX0_169 rp_9 (ct1_X1_takeOffList _ _ _ _ rfl e16) (Nat.le_of_ble_eq_true rfl) (Nat.le_of_ble_eq_true rfl) rfl ?_
          refine ev_aload_n (v := 7) (pc := 56) dX0_gather_56 rfl ?_
          refine ev_getr (q := 11) (pc := 57) dX0_gather_57 fl_RX0_9 rfl rfl ?_
          refine ev_sipush (v := 419) (pc := 60) dX0_gather_60 ks_419 ?_
          refine ev_iload (v := t12) (pc := 63) dX0_gather_63 rfl ?_
          refine ev_iadd (pc := 65) dX0_gather_65 ?_
          refine ev_iald (pc := 66) dX0_gather_66 rfl e18 ?_
          obtain ⟨j19, e20, h⟩ := rb_bd h
          have hj21 : rb_Ev RX0 cX0_gather 9 (some .int) none 6 (some o.1) (rb_ov μ [(11, o.2.1), (12, o.2.2)]) 103 [some (.inr 7), some (.inl x0), some (.inl x1), some (.inl x2), some (.inl s1.1), some (.inl s1.2.1), some (.inl s1.2.2.1), some (.inl t12), none] [.inl j19] (rb_ov μ [(11, t15), (12, s1.2.2.2.2)]) := by
            refine ev_istore (L' := [some (.inr 7), some (.inl x0), some (.inl x1), some (.inl x2), some (.inl s1.1), some (.inl s1.2.1), some (.inl s1.2.2.1), some (.inl t12), some (.inl j19)]) (pc := 103) dX0_gather_103 (Nat.le_of_ble_eq_true rfl) rfl ?_
            refine ev_iload (v := j19) (pc := 105) dX0_gather_105 rfl ?_
            obtain ⟨j29, e30, h⟩ := rb_bd h
            have hj31 : rb_Ev RX0 cX0_gather 9 (some .int) none 6 (some o.1) (rb_ov μ [(11, o.2.1), (12, o.2.2)]) 235 [some (.inr 7), some (.inl x0), some (.inl x1), some (.inl x2), some (.inl j29.1), some (.inl j29.2.1), some (.inl s1.2.2.1), none, none] [] (rb_ov μ [(11, j29.2.2.1), (12, j29.2.2.2)]) := by
              refine ev_iinc (x := s1.2.2.1) (v := (s1.2.2.1 + 1)) (L' := [some (.inr 7), some (.inl x0), some (.inl x1), some (.inl x2), some (.inl j29.1), some (.inl j29.2.1), some (.inl (s1.2.2.1 + 1)), none, none]) (pc := 235) dX0_gather_235 rfl (kx_1 _) (Nat.le_of_ble_eq_true rfl) rfl ?_
              refine ev_goto (t := 9) (pc := 238) dX0_gather_238 (by decide) ?_
              obtain rfl := Option.some.inj h
              exact ih5 (j29.1, j29.2.1, (s1.2.2.1 + 1), j29.2.2.1, j29.2.2.2) rfl
            replace h := e30
            by_cases b32 : j19 = 0
            · rw [if_pos b32] at h
              refine ev_if_ne_f (t := 113) (pc := 107) dX0_gather_107 (by decide) b32 ?_
              refine ev_goto (t := 235) (pc := 110) dX0_gather_110 (by decide) ?_
              obtain rfl := Option.some.inj h
              exact ev_fg (L := [some (.inr 7), some (.inl x0), some (.inl x1), some (.inl x2), some (.inl s1.1), some (.inl s1.2.1), some (.inl s1.2.2.1), none, none]) (And.intro rfl (And.intro rfl (And.intro rfl (And.intro rfl (And.intro rfl (And.intro rfl (And.intro rfl True.intro))))))) (hj31)
            · rw [if_neg b32] at h
              refine ev_if_ne_t (t := 113) (pc := 107) dX0_gather_107 (by decide) b32 ?_
              obtain ⟨v33, e34, h⟩ := rb_bd h
              obtain ⟨c35, e36, h⟩ := rb_bd h
              obtain ⟨c37, e38, h⟩ := rb_bd h
              obtain ⟨v39, e40, h⟩ := rb_bd h
              obtain ⟨c41, e42, h⟩ := rb_bd h
              obtain ⟨v43, e44, h⟩ := rb_bd h
              refine ev_aload_n (v := 7) (pc := 113) dX0_gather_113 rfl ?_
              refine ev_getr (q := 11) (pc := 114) dX0_gather_114 fl_RX0_9 rfl rfl ?_
              refine ev_sipush (v := 677) (pc := 117) dX0_gather_117 ks_677 ?_
              refine ev_iload_n (v := x0) (pc := 120) dX0_gather_120 rfl ?_
              refine ev_bipush (v := 8) (pc := 121) dX0_gather_121 kb_8 ?_
              refine ev_imul (pc := 123) dX0_gather_123 ?_
              refine ev_iadd (pc := 124) dX0_gather_124 ?_
              refine ev_iload (v := s1.1) (pc := 125) dX0_gather_125 rfl ?_
              refine ev_iadd (pc := 127) dX0_gather_127 ?_
              refine ev_aload_n (v := 7) (pc := 128) dX0_gather_128 rfl ?_
              refine ev_getr (q := 11) (pc := 129) dX0_gather_129 fl_RX0_9 rfl rfl ?_
              refine ev_sipush (v := 347) (pc := 132) dX0_gather_132 ks_347 ?_
              refine ev_iload (v := t12) (pc := 135) dX0_gather_135 rfl ?_
              refine ev_iadd (pc := 137) dX0_gather_137 ?_
              refine ev_iald (pc := 138) dX0_gather_138 rfl e34 ?_
              refine ev_iast (w' := [(11, c35), (12, s1.2.2.2.2)]) (pc := 139) dX0_gather_139 rfl e36 rfl ?_
              refine ev_aload_n (v := 7) (pc := 140) dX0_gather_140 rfl ?_
              refine ev_getr (q := 11) (pc := 141) dX0_gather_141 fl_RX0_9 rfl rfl ?_
              refine ev_sipush (v := 725) (pc := 144) dX0_gather_144 ks_725 ?_
              refine ev_iload_n (v := x0) (pc := 147) dX0_gather_147 rfl ?_
              refine ev_bipush (v := 8) (pc := 148) dX0_gather_148 kb_8 ?_
              refine ev_imul (pc := 150) dX0_gather_150 ?_
              refine ev_iadd (pc := 151) dX0_gather_151 ?_
              refine ev_iload (v := s1.1) (pc := 152) dX0_gather_152 rfl ?_
              refine ev_iadd (pc := 154) dX0_gather_154 ?_
              refine ev_iload (v := j19) (pc := 155) dX0_gather_155 rfl ?_
              refine ev_iast (w' := [(11, c37), (12, s1.2.2.2.2)]) (pc := 157) dX0_gather_157 rfl e38 rfl ?_
              refine ev_iinc (x := s1.1) (v := (s1.1 + 1)) (L' := [some (.inr 7), some (.inl x0), some (.inl x1), some (.inl x2), some (.inl (s1.1 + 1)), some (.inl s1.2.1), some (.inl s1.2.2.1), some (.inl t12), some (.inl j19)]) (pc := 158) dX0_gather_158 rfl (kx_1 _) (Nat.le_of_ble_eq_true rfl) rfl ?_
              refine ev_aload_n (v := 7) (pc := 161) dX0_gather_161 rfl ?_
              refine ev_getr (q := 11) (pc := 162) dX0_gather_162 fl_RX0_9 rfl rfl ?_
              refine ev_sipush (v := 491) (pc := 165) dX0_gather_165 ks_491 ?_
              refine ev_iload (v := t12) (pc := 168) dX0_gather_168 rfl ?_
              refine ev_iadd (pc := 170) dX0_gather_170 ?_
              refine ev_dup2 (pc := 171) dX0_gather_171 ?_
              refine ev_iald (pc := 172) dX0_gather_172 rfl e40 ?_
              refine ev_iconst (v := 1) (pc := 173) dX0_gather_173 ki_1 ?_
              refine ev_iadd (pc := 174) dX0_gather_174 ?_
              refine ev_iast (w' := [(11, c41), (12, s1.2.2.2.2)]) (pc := 175) dX0_gather_175 rfl e42 rfl ?_
              refine ev_aload_n (v := 7) (pc := 176) dX0_gather_176 rfl ?_
              refine ev_getr (q := 11) (pc := 177) dX0_gather_177 fl_RX0_9 rfl rfl ?_
              refine ev_sipush (v := 395) (pc := 180) dX0_gather_180 ks_395 ?_
              refine ev_iload (v := t12) (pc := 183) dX0_gather_183 rfl ?_
              refine ev_iadd (pc := 185) dX0_gather_185 ?_
              refine ev_iald (pc := 186) dX0_gather_186 rfl e44 ?_
              refine ev_iconst (v := 2) (pc := 187) dX0_gather_187 ki_2 ?_
              refine ev_iand (pc := 188) dX0_gather_188 ?_
              by_cases b45 : (v43 &&& 2) = 0
              · rw [if_pos b45] at h
                refine ev_if_eq_t (t := 207) (pc := 189) dX0_gather_189 (by decide) b45 ?_
                obtain ⟨v46, e47, h⟩ := rb_bd h
                refine ev_aload_n (v := 7) (pc := 207) dX0_gather_207 rfl ?_
                refine ev_getr (q := 11) (pc := 208) dX0_gather_208 fl_RX0_9 rfl rfl ?_
                refine ev_sipush (v := 395) (pc := 211) dX0_gather_211 ks_395 ?_
                refine ev_iload (v := t12) (pc := 214) dX0_gather_214 rfl ?_
                refine ev_iadd (pc := 216) dX0_gather_216 ?_
                refine ev_iald (pc := 217) dX0_gather_217 rfl e47 ?_
                refine ev_iconst (v := 1) (pc := 218) dX0_gather_218 ki_1 ?_
                refine ev_iand (pc := 219) dX0_gather_219 ?_
                by_cases b48 : (v46 &&& 1) = 0
                · rw [if_pos b48] at h
                  refine ev_if_ne_f (t := 235) (pc := 220) dX0_gather_220 (by decide) b48 ?_
                  obtain ⟨g49, e50, h⟩ := rb_bd h
                  refine ev_aload_n (v := 7) (pc := 223) dX0_gather_223 rfl ?_
                  refine ev_getr (q := 12) (pc := 224) dX0_gather_224 fl_RX0_38 rfl rfl ?_
                  refine ev_iload (v := s1.2.1) (pc := 227) dX0_gather_227 rfl ?_
                  refine ev_iinc (x := s1.2.1) (v := (s1.2.1 + 1)) (L' := [some (.inr 7), some (.inl x0), some (.inl x1), some (.inl x2), some (.inl (s1.1 + 1)), some (.inl (s1.2.1 + 1)), some (.inl s1.2.2.1), some (.inl t12), some (.inl j19)]) (pc := 229) dX0_gather_229 rfl (kx_1 _) (Nat.le_of_ble_eq_true rfl) rfl ?_
                  refine ev_iload (v := t12) (pc := 232) dX0_gather_232 rfl ?_
                  refine ev_iast (w' := [(11, c41), (12, g49)]) (pc := 234) dX0_gather_234 rfl e50 rfl ?_
                  obtain rfl := Option.some.inj h
                  exact ev_fg (L := [some (.inr 7), some (.inl x0), some (.inl x1), some (.inl x2), some (.inl (s1.1 + 1)), some (.inl (s1.2.1 + 1)), some (.inl s1.2.2.1), none, none]) (And.intro rfl (And.intro rfl (And.intro rfl (And.intro rfl (And.intro rfl (And.intro rfl (And.intro rfl True.intro))))))) (hj31)
                · rw [if_neg b48] at h
                  refine ev_if_ne_t (t := 235) (pc := 220) dX0_gather_220 (by decide) b48 ?_
                  obtain rfl := Option.some.inj h
                  exact ev_fg (L := [some (.inr 7), some (.inl x0), some (.inl x1), some (.inl x2), some (.inl (s1.1 + 1)), some (.inl s1.2.1), some (.inl s1.2.2.1), none, none]) (And.intro rfl (And.intro rfl (And.intro rfl (And.intro rfl (And.intro rfl (And.intro rfl (And.intro rfl True.intro))))))) (hj31)
              · rw [if_neg b45] at h
                refine ev_if_eq_f (t := 207) (pc := 189) dX0_gather_189 (by decide) b45 ?_
                obtain ⟨c51, e52, h⟩ := rb_bd h
                refine ev_aload_n (v := 7) (pc := 192) dX0_gather_192 rfl ?_
                refine ev_getr (q := 11) (pc := 193) dX0_gather_193 fl_RX0_9 rfl rfl ?_
                refine ev_sipush (v := 419) (pc := 196) dX0_gather_196 ks_419 ?_
                refine ev_iload (v := t12) (pc := 199) dX0_gather_199 rfl ?_
                refine ev_iadd (pc := 201) dX0_gather_201 ?_
                refine ev_iconst (v := 0) (pc := 202) dX0_gather_202 ki_0 ?_
                refine ev_iast (w' := [(11, c51), (12, s1.2.2.2.2)]) (pc := 203) dX0_gather_203 rfl e52 rfl ?_
                refine ev_goto (t := 235) (pc := 204) dX0_gather_204 (by decide) ?_
                obtain rfl := Option.some.inj h
                exact ev_fg (L := [some (.inr 7), some (.inl x0), some (.inl x1), some (.inl x2), some (.inl (s1.1 + 1)), some (.inl s1.2.1), some (.inl s1.2.2.1), none, none]) (And.intro rfl (And.intro rfl (And.intro rfl (And.intro rfl (And.intro rfl (And.intro rfl (And.intro rfl True.intro))))))) (hj31)
          replace h := e20
          by_cases b22 : v17 = 0
          · rw [if_pos b22] at h
            refine ev_if_ne_f (t := 74) (pc := 67) dX0_gather_67 (by decide) b22 ?_
            refine ev_iconst (v := 0) (pc := 70) dX0_gather_70 ki_0 ?_
            refine ev_goto (t := 103) (pc := 71) dX0_gather_71 (by decide) ?_
            obtain rfl := Option.some.inj h
            exact hj21
          · rw [if_neg b22] at h
            refine ev_if_ne_t (t := 74) (pc := 67) dX0_gather_67 (by decide) b22 ?_
            obtain ⟨t23, e24, h⟩ := rb_bd h
            obtain ⟨v25, e26, h⟩ := rb_bd h
            obtain ⟨t27, e28, h⟩ := rb_bd h
            refine ev_aload_n (v := 7) (pc := 74) dX0_gather_74 rfl ?_
            refine ev_getr (q := 9) (pc := 75) dX0_gather_75 fl_RX0_27 rfl rfl ?_
            refine ev_iload (v := t12) (pc := 78) dX0_gather_78 rfl ?_
            refine ev_cVi1 (pc := 80) dX0_gather_80 mv_X1_bitsOf lk_RX0_172 rp_9 (ct1_X1_bitsOf _ _ _ _ rfl e24) (Nat.le_of_ble_eq_true rfl) (Nat.le_of_ble_eq_true rfl) ?_
            refine ev_aload_n (v := 7) (pc := 83) dX0_gather_83 rfl ?_
            refine ev_getr (q := 9) (pc := 84) dX0_gather_84 fl_RX0_27 rfl rfl ?_
            refine ev_aload_n (v := 7) (pc := 87) dX0_gather_87 rfl ?_
            refine ev_getr (q := 11) (pc := 88) dX0_gather_88 fl_RX0_9 rfl rfl ?_
            refine ev_sipush (v := 323) (pc := 91) dX0_gather_91 ks_323 ?_
            refine ev_iload (v := t12) (pc := 94) dX0_gather_94 rfl ?_
            refine ev_iadd (pc := 96) dX0_gather_96 ?_
            refine ev_iald (pc := 97) dX0_gather_97 rfl e26 ?_
            refine ev_iconst (v := 0) (pc := 98) dX0_gather_98 ki_0 ?_
            refine ev_cVi2 (pc := 99) dX0_gather_99 mv_X1_ready lk_RX0_175 rp_9 (ct1_X1_ready 5 _ _ _ _ _ rfl e28) (Nat.le_of_ble_eq_true rfl) (Nat.le_of_ble_eq_true rfl) ?_
            refine ev_iand (pc := 102) dX0_gather_102 ?_
            obtain rfl := Option.some.inj h
            exact hj21
        · rw [if_neg b14] at h
          refine ev_if_ge_f (t := 47) (pc := 41) dX0_gather_41 (by decide) b14 ?_
          refine ev_goto (t := 241) (pc := 44) dX0_gather_44 (by decide) ?_
          obtain rfl := Option.some.inj h
          obtain rfl := hE6 _ rfl
          exact ev_fg (L := [some (.inr 7), some (.inl x0), some (.inl x1), none, some (.inl s1.1), some (.inl s1.2.1), none, none, none]) (And.intro rfl (And.intro rfl (And.intro rfl (And.intro rfl (And.intro rfl True.intro))))) (hx7)
def XX0_callSleepers (c : rb_Row) (g : rb_Row) (f : rb_Row) (x0 : Int32) : Option (Int32 × rb_Row × rb_Row × rb_Row) := (rb_pf f 5 ((f 5) ||| (1 <<< (x0 &&& 31)))).bind fun f1 => (rb_lp (ρ := Int32 × rb_Row × rb_Row × rb_Row) (fun (s3 : Int32 × Int32 × rb_Row × rb_Row × rb_Row) => if 6 ≤ s3.2.1 then some (.inr (s3.1, s3.2.2.1, s3.2.2.2.1, s3.2.2.2.2)) else (XX4_firstSleeper s3.2.2.1 x0).bind fun t12 => if 0 ≤ t12 then (rb_pf s3.2.2.2.2 6 ((s3.2.2.2.2 6) ||| (1 <<< (x0 &&& 31)))).bind fun f15 => (rb_rd s3.2.2.1 773 1).bind fun v17 => (rb_rd s3.2.2.1 773 (551 + t12)).bind fun v19 => (XX0_gather s3.2.2.1 s3.2.2.2.1 t12 x0 v19).bind fun t21 => if t21.1 = 0 then (rb_rd t21.2.1 773 (581 + t12)).bind fun v24 => (rb_wr t21.2.1 773 (581 + t12) (v24 + 1)).bind fun c26 => some (.inr (s3.1, c26, t21.2.2, f15)) else (XX4_getUp t21.2.1 t12).bind fun t28 => (rb_rd t28 773 (575 + t12)).bind fun v30 => (rb_wr t28 773 (575 + t12) (v30 + 1)).bind fun c32 => (rb_pf f15 7 ((f15 7) ||| (1 <<< (t12 &&& 31)))).bind fun f34 => (XX1_showsOlder c32 x0 v17).bind fun t36 => if t36 = 0 then some (.inr (1, c32, t21.2.2, f34)) else some (.inl (1, (s3.2.1 + 1), c32, t21.2.2, f34)) else some (.inr (s3.1, s3.2.2.1, s3.2.2.2.1, s3.2.2.2.2))) 100000 (0, 0, c, g, f1)).bind fun q4 => some ((rb_nz q4.1), q4.2.1, q4.2.2.1, q4.2.2.2)
set_option maxHeartbeats 4000000 in
set_option maxRecDepth 20000 in
theorem ct0_X0_callSleepers (μ : rb_Mem) (c : rb_Row) (g : rb_Row) (f : rb_Row) (x0 : Int32) (o : Int32 × rb_Row × rb_Row × rb_Row) (hc : μ 5 = c) (hg : μ 6 = g) (hf : μ 1 = f) (h : XX0_callSleepers c g f x0 = some o) : rb_Ct yX0_callSleepers cX0_callSleepers 6 (some .boolean) 7 [.inr 1, .inl x0] μ (some o.1) (rb_ov μ [(5, o.2.1), (6, o.2.2.1), (1, o.2.2.2)]) := by
  unfold XX0_callSleepers at h
  have hini : rb_ov μ [(5, c), (6, g), (1, f)] = μ := rb_ov_sf _ _ (And.intro hc (And.intro hg (And.intro hf True.intro)))
  have hfin : ∀ u0 u1 u2 : rb_Row, rb_ov μ [(5, u0), (6, u1), (1, u2)] = rb_ov μ [(5, u0), (6, u1), (1, u2)] := fun u0 u1 u2 => rfl
  refine rb_ctz (w := [(5, c), (6, g), (1, f)]) rfl pn_0 (Nat.le_of_ble_eq_true rfl) rfl hini ?_
  obtain ⟨f1, e2, h⟩ := rb_bd h
  refine ev_aload_n (v := 1) (pc := 0) dX0_callSleepers_0 rfl ?_
  refine ev_dup (pc := 1) dX0_callSleepers_1 ?_
  refine ev_geti (v := (f 5)) (pc := 2) dX0_callSleepers_2 fl_RX0_47 rfl rfl rfl ?_
  refine ev_iconst (v := 1) (pc := 5) dX0_callSleepers_5 ki_1 ?_
  refine ev_iload_n (v := x0) (pc := 6) dX0_callSleepers_6 rfl ?_
  refine ev_ishl (pc := 7) dX0_callSleepers_7 ?_
  refine ev_ior (pc := 8) dX0_callSleepers_8 ?_
  refine ev_putw (w' := [(5, c), (6, g), (1, f1)]) (pc := 9) dX0_callSleepers_9 fp_RX0_47 rfl rfl e2 rfl ?_
  refine ev_iconst (v := 0) (pc := 12) dX0_callSleepers_12 ki_0 ?_
  refine ev_istore_n (L' := [some (.inr 1), some (.inl x0), some (.inl 0), none, none, none]) (pc := 13) dX0_callSleepers_13 (Nat.le_of_ble_eq_true rfl) rfl ?_
  refine ev_iconst (v := 0) (pc := 14) dX0_callSleepers_14 ki_0 ?_
  refine ev_istore_n (L' := [some (.inr 1), some (.inl x0), some (.inl 0), some (.inl 0), none, none]) (pc := 15) dX0_callSleepers_15 (Nat.le_of_ble_eq_true rfl) rfl ?_
  obtain ⟨q4, l5, h⟩ := rb_bd h
  have hx9 : rb_Ev RX0 cX0_callSleepers 6 (some .boolean) none 7 (some o.1) (rb_ov μ [(5, o.2.1), (6, o.2.2.1), (1, o.2.2.2)]) 160 [none, none, some (.inl q4.1), none, none, none] [] (rb_ov μ [(5, q4.2.1), (6, q4.2.2.1), (1, q4.2.2.2)]) := by
    refine ev_iload_n (v := q4.1) (pc := 160) dX0_callSleepers_160 rfl ?_
    obtain rfl := Option.some.inj h
    exact ev_iret (pc := 161) dX0_callSleepers_161 rfl rfl rfl (hfin _ _ _)
  refine rb_lp_ev (P := fun (s3 : Int32 × Int32 × rb_Row × rb_Row × rb_Row) => rb_Ev RX0 cX0_callSleepers 6 (some .boolean) none 7 (some o.1) (rb_ov μ [(5, o.2.1), (6, o.2.2.1), (1, o.2.2.2)]) 16 [some (.inr 1), some (.inl x0), some (.inl s3.1), some (.inl s3.2.1), none, none] [] (rb_ov μ [(5, s3.2.2.1), (6, s3.2.2.2.1), (1, s3.2.2.2.2)])) ?_ 100000 (0, 0, c, g, f1) l5
  intro s3 y6 h ih7 hE8
  refine ev_iload_n (v := s3.2.1) (pc := 16) dX0_callSleepers_16 rfl ?_
  refine ev_bipush (v := 6) (pc := 17) dX0_callSleepers_17 kb_6 ?_
  by_cases b11 : 6 ≤ s3.2.1
  · rw [if_pos b11] at h
    refine ev_icmp_ge_t (t := 160) (pc := 19) dX0_callSleepers_19 (by decide) b11 ?_
    obtain rfl := Option.some.inj h
    obtain rfl := hE8 _ rfl
    exact ev_fg (L := [none, none, some (.inl s3.1), none, none, none]) (And.intro rfl True.intro) (hx9)
  · rw [if_neg b11] at h
    refine ev_icmp_ge_f (t := 160) (pc := 19) dX0_callSleepers_19 (by decide) b11 ?_
    obtain ⟨t12, e13, h⟩ := rb_bd h
    refine ev_aload_n (v := 1) (pc := 22) dX0_callSleepers_22 rfl ?_
    refine ev_getr (q := 4) (pc := 23) dX0_callSleepers_23 fl_RX0_34 rfl rfl ?_
    refine ev_iload_n (v := x0) (pc := 26) dX0_callSleepers_26 rfl ?_
    refine ev_cVi1 (pc := 27) dX0_callSleepers_27 mv_X4_firstSleeper lk_RX0_154 rp_4 (ct0_X4_firstSleeper _ _ _ _ rfl e13) (Nat.le_of_ble_eq_true rfl) (Nat.le_of_ble_eq_true rfl) ?_
    refine ev_istore (L' := [some (.inr 1), some (.inl x0), some (.inl s3.1), some (.inl s3.2.1), some (.inl t12), none]) (pc := 30) dX0_callSleepers_30 (Nat.le_of_ble_eq_true rfl) rfl ?_
    refine ev_iload (v := t12) (pc := 32) dX0_callSleepers_32 rfl ?_
    by_cases b14 : 0 ≤ t12
    · rw [if_pos b14] at h
      refine ev_if_ge_t (t := 40) (pc := 34) dX0_callSleepers_34 (by decide) b14 ?_
      obtain ⟨f15, e16, h⟩ := rb_bd h
      obtain ⟨v17, e18, h⟩ := rb_bd h
      obtain ⟨v19, e20, h⟩ := rb_bd h
      obtain ⟨t21, e22, h⟩ := rb_bd h
      refine ev_aload_n (v := 1) (pc := 40) dX0_callSleepers_40 rfl ?_
      refine ev_dup (pc := 41) dX0_callSleepers_41 ?_
      refine ev_geti (v := (s3.2.2.2.2 6)) (pc := 42) dX0_callSleepers_42 fl_RX0_51 rfl rfl rfl ?_
      refine ev_iconst (v := 1) (pc := 45) dX0_callSleepers_45 ki_1 ?_
      refine ev_iload_n (v := x0) (pc := 46) dX0_callSleepers_46 rfl ?_
      refine ev_ishl (pc := 47) dX0_callSleepers_47 ?_
      refine ev_ior (pc := 48) dX0_callSleepers_48 ?_
      refine ev_putw (w' := [(5, s3.2.2.1), (6, s3.2.2.2.1), (1, f15)]) (pc := 49) dX0_callSleepers_49 fp_RX0_51 rfl rfl e16 rfl ?_
      refine ev_aload_n (v := 1) (pc := 52) dX0_callSleepers_52 rfl ?_
      refine ev_getr (q := 5) (pc := 53) dX0_callSleepers_53 fl_RX0_9 rfl rfl ?_
      refine ev_iconst (v := 1) (pc := 56) dX0_callSleepers_56 ki_1 ?_
      refine ev_iald (pc := 57) dX0_callSleepers_57 rfl e18 ?_
      refine ev_istore (L' := [some (.inr 1), some (.inl x0), some (.inl s3.1), some (.inl s3.2.1), some (.inl t12), some (.inl v17)]) (pc := 58) dX0_callSleepers_58 (Nat.le_of_ble_eq_true rfl) rfl ?_
      refine ev_aload_n (v := 1) (pc := 60) dX0_callSleepers_60 rfl ?_
      refine ev_iload (v := t12) (pc := 61) dX0_callSleepers_61 rfl ?_
      refine ev_iload_n (v := x0) (pc := 63) dX0_callSleepers_63 rfl ?_
      refine ev_aload_n (v := 1) (pc := 64) dX0_callSleepers_64 rfl ?_
      refine ev_getr (q := 5) (pc := 65) dX0_callSleepers_65 fl_RX0_9 rfl rfl ?_
      refine ev_sipush (v := 551) (pc := 68) dX0_callSleepers_68 ks_551 ?_
      refine ev_iload (v := t12) (pc := 71) dX0_callSleepers_71 rfl ?_
      refine ev_iadd (pc := 73) dX0_callSleepers_73 ?_
      refine ev_iald (pc := 74) dX0_callSleepers_74 rfl e20 ?_
      refine ev_cVi3w (w' := [(5, t21.2.1), (6, t21.2.2), (1, f15)]) (pc := 75) dX0_callSleepers_75 mv_X0_gather lk_RX0_157 rp_1 (ct0_X0_gather _ _ _ _ _ _ _ rfl rfl e22) (Nat.le_of_ble_eq_true rfl) (Nat.le_of_ble_eq_true rfl) rfl ?_
      by_cases b23 : t21.1 = 0
      · rw [if_pos b23] at h
        refine ev_if_ne_f (t := 99) (pc := 78) dX0_callSleepers_78 (by decide) b23 ?_
        obtain ⟨v24, e25, h⟩ := rb_bd h
        obtain ⟨c26, e27, h⟩ := rb_bd h
        refine ev_aload_n (v := 1) (pc := 81) dX0_callSleepers_81 rfl ?_
        refine ev_getr (q := 5) (pc := 82) dX0_callSleepers_82 fl_RX0_9 rfl rfl ?_
        refine ev_sipush (v := 581) (pc := 85) dX0_callSleepers_85 ks_581 ?_
        refine ev_iload (v := t12) (pc := 88) dX0_callSleepers_88 rfl ?_
        refine ev_iadd (pc := 90) dX0_callSleepers_90 ?_
        refine ev_dup2 (pc := 91) dX0_callSleepers_91 ?_
        refine ev_iald (pc := 92) dX0_callSleepers_92 rfl e25 ?_
        refine ev_iconst (v := 1) (pc := 93) dX0_callSleepers_93 ki_1 ?_
        refine ev_iadd (pc := 94) dX0_callSleepers_94 ?_
        refine ev_iast (w' := [(5, c26), (6, t21.2.2), (1, f15)]) (pc := 95) dX0_callSleepers_95 rfl e27 rfl ?_
        refine ev_goto (t := 160) (pc := 96) dX0_callSleepers_96 (by decide) ?_
        obtain rfl := Option.some.inj h
        obtain rfl := hE8 _ rfl
        exact ev_fg (L := [none, none, some (.inl s3.1), none, none, none]) (And.intro rfl True.intro) (hx9)
      · rw [if_neg b23] at h
        refine ev_if_ne_t (t := 99) (pc := 78) dX0_callSleepers_78 (by decide) b23 ?_
        obtain ⟨t28, e29, h⟩ := rb_bd h
        obtain ⟨v30, e31, h⟩ := rb_bd h
        obtain ⟨c32, e33, h⟩ := rb_bd h
        obtain ⟨f34, e35, h⟩ := rb_bd h
        obtain ⟨t36, e37, h⟩ := rb_bd h
        refine ev_aload_n (v := 1) (pc := 99) dX0_callSleepers_99 rfl ?_
        refine ev_getr (q := 4) (pc := 100) dX0_callSleepers_100 fl_RX0_34 rfl rfl ?_
        refine ev_iload (v := t12) (pc := 103) dX0_callSleepers_103 rfl ?_
        refine ev_cVv1w (w' := [(5, t28), (6, t21.2.2), (1, f15)]) (pc := 105) dX0_callSleepers_105 mv_X4_getUp lk_RX0_160 rp_4 (ct0_X4_getUp _ _ _ _ rfl e29) (Nat.le_of_ble_eq_true rfl) (Nat.le_of_ble_eq_true rfl) rfl ?_
        refine ev_aload_n (v := 1) (pc := 108) dX0_callSleepers_108 rfl ?_
        refine ev_getr (q := 5) (pc := 109) dX0_callSleepers_109 fl_RX0_9 rfl rfl ?_
        refine ev_sipush (v := 575) (pc := 112) dX0_callSleepers_112 ks_575 ?_
        refine ev_iload (v := t12) (pc := 115) dX0_callSleepers_115 rfl ?_
        refine ev_iadd (pc := 117) dX0_callSleepers_117 ?_
        refine ev_dup2 (pc := 118) dX0_callSleepers_118 ?_
        refine ev_iald (pc := 119) dX0_callSleepers_119 rfl e31 ?_
        refine ev_iconst (v := 1) (pc := 120) dX0_callSleepers_120 ki_1 ?_
        refine ev_iadd (pc := 121) dX0_callSleepers_121 ?_
        refine ev_iast (w' := [(5, c32), (6, t21.2.2), (1, f15)]) (pc := 122) dX0_callSleepers_122 rfl e33 rfl ?_
        refine ev_aload_n (v := 1) (pc := 123) dX0_callSleepers_123 rfl ?_
        refine ev_dup (pc := 124) dX0_callSleepers_124 ?_
        refine ev_geti (v := (f15 7)) (pc := 125) dX0_callSleepers_125 fl_RX0_54 rfl rfl rfl ?_
        refine ev_iconst (v := 1) (pc := 128) dX0_callSleepers_128 ki_1 ?_
        refine ev_iload (v := t12) (pc := 129) dX0_callSleepers_129 rfl ?_
        refine ev_ishl (pc := 131) dX0_callSleepers_131 ?_
        refine ev_ior (pc := 132) dX0_callSleepers_132 ?_
        refine ev_putw (w' := [(5, c32), (6, t21.2.2), (1, f34)]) (pc := 133) dX0_callSleepers_133 fp_RX0_54 rfl rfl e35 rfl ?_
        refine ev_iconst (v := 1) (pc := 136) dX0_callSleepers_136 ki_1 ?_
        refine ev_istore_n (L' := [some (.inr 1), some (.inl x0), some (.inl 1), some (.inl s3.2.1), some (.inl t12), some (.inl v17)]) (pc := 137) dX0_callSleepers_137 (Nat.le_of_ble_eq_true rfl) rfl ?_
        refine ev_aload_n (v := 1) (pc := 138) dX0_callSleepers_138 rfl ?_
        refine ev_getr (q := 3) (pc := 139) dX0_callSleepers_139 fl_RX0_27 rfl rfl ?_
        refine ev_iload_n (v := x0) (pc := 142) dX0_callSleepers_142 rfl ?_
        refine ev_iload (v := v17) (pc := 143) dX0_callSleepers_143 rfl ?_
        refine ev_cVi2 (pc := 145) dX0_callSleepers_145 mv_X1_showsOlder lk_RX0_163 rp_3 (ct0_X1_showsOlder _ _ _ _ _ rfl e37) (Nat.le_of_ble_eq_true rfl) (Nat.le_of_ble_eq_true rfl) ?_
        by_cases b38 : t36 = 0
        · rw [if_pos b38] at h
          refine ev_if_ne_f (t := 154) (pc := 148) dX0_callSleepers_148 (by decide) b38 ?_
          refine ev_goto (t := 160) (pc := 151) dX0_callSleepers_151 (by decide) ?_
          obtain rfl := Option.some.inj h
          obtain rfl := hE8 _ rfl
          exact ev_fg (L := [none, none, some (.inl 1), none, none, none]) (And.intro rfl True.intro) (hx9)
        · rw [if_neg b38] at h
          refine ev_if_ne_t (t := 154) (pc := 148) dX0_callSleepers_148 (by decide) b38 ?_
          refine ev_iinc (x := s3.2.1) (v := (s3.2.1 + 1)) (L' := [some (.inr 1), some (.inl x0), some (.inl 1), some (.inl (s3.2.1 + 1)), some (.inl t12), some (.inl v17)]) (pc := 154) dX0_callSleepers_154 rfl (kx_1 _) (Nat.le_of_ble_eq_true rfl) rfl ?_
          refine ev_goto (t := 16) (pc := 157) dX0_callSleepers_157 (by decide) ?_
          obtain rfl := Option.some.inj h
          exact ev_fg (L := [some (.inr 1), some (.inl x0), some (.inl 1), some (.inl (s3.2.1 + 1)), none, none]) (And.intro rfl (And.intro rfl (And.intro rfl (And.intro rfl True.intro)))) (ih7 (1, (s3.2.1 + 1), c32, t21.2.2, f34) rfl)
    · rw [if_neg b14] at h
      refine ev_if_ge_f (t := 40) (pc := 34) dX0_callSleepers_34 (by decide) b14 ?_
      refine ev_goto (t := 160) (pc := 37) dX0_callSleepers_37 (by decide) ?_
      obtain rfl := Option.some.inj h
      obtain rfl := hE8 _ rfl
      exact ev_fg (L := [none, none, some (.inl s3.1), none, none, none]) (And.intro rfl True.intro) (hx9)
set_option maxHeartbeats 4000000 in
set_option maxRecDepth 20000 in
theorem ct1_X0_callSleepers (μ : rb_Mem) (c : rb_Row) (g : rb_Row) (f : rb_Row) (x0 : Int32) (o : Int32 × rb_Row × rb_Row × rb_Row) (hc : μ 11 = c) (hg : μ 12 = g) (hf : μ 7 = f) (h : XX0_callSleepers c g f x0 = some o) : rb_Ct yX0_callSleepers cX0_callSleepers 6 (some .boolean) 7 [.inr 7, .inl x0] μ (some o.1) (rb_ov μ [(11, o.2.1), (12, o.2.2.1), (7, o.2.2.2)]) := by
  unfold XX0_callSleepers at h
  have hini : rb_ov μ [(11, c), (12, g), (7, f)] = μ := rb_ov_sf _ _ (And.intro hc (And.intro hg (And.intro hf True.intro)))
  have hfin : ∀ u0 u1 u2 : rb_Row, rb_ov μ [(11, u0), (12, u1), (7, u2)] = rb_ov μ [(11, u0), (12, u1), (7, u2)] := fun u0 u1 u2 => rfl
  refine rb_ctz (w := [(11, c), (12, g), (7, f)]) rfl pn_0 (Nat.le_of_ble_eq_true rfl) rfl hini ?_
  obtain ⟨f1, e2, h⟩ := rb_bd h
  refine ev_aload_n (v := 7) (pc := 0) dX0_callSleepers_0 rfl ?_
  refine ev_dup (pc := 1) dX0_callSleepers_1 ?_
  refine ev_geti (v := (f 5)) (pc := 2) dX0_callSleepers_2 fl_RX0_47 rfl rfl rfl ?_
  refine ev_iconst (v := 1) (pc := 5) dX0_callSleepers_5 ki_1 ?_
  refine ev_iload_n (v := x0) (pc := 6) dX0_callSleepers_6 rfl ?_
  refine ev_ishl (pc := 7) dX0_callSleepers_7 ?_
  refine ev_ior (pc := 8) dX0_callSleepers_8 ?_
  refine ev_putw (w' := [(11, c), (12, g), (7, f1)]) (pc := 9) dX0_callSleepers_9 fp_RX0_47 rfl rfl e2 rfl ?_
  refine ev_iconst (v := 0) (pc := 12) dX0_callSleepers_12 ki_0 ?_
  refine ev_istore_n (L' := [some (.inr 7), some (.inl x0), some (.inl 0), none, none, none]) (pc := 13) dX0_callSleepers_13 (Nat.le_of_ble_eq_true rfl) rfl ?_
  refine ev_iconst (v := 0) (pc := 14) dX0_callSleepers_14 ki_0 ?_
  refine ev_istore_n (L' := [some (.inr 7), some (.inl x0), some (.inl 0), some (.inl 0), none, none]) (pc := 15) dX0_callSleepers_15 (Nat.le_of_ble_eq_true rfl) rfl ?_
  obtain ⟨q4, l5, h⟩ := rb_bd h
  have hx9 : rb_Ev RX0 cX0_callSleepers 6 (some .boolean) none 7 (some o.1) (rb_ov μ [(11, o.2.1), (12, o.2.2.1), (7, o.2.2.2)]) 160 [none, none, some (.inl q4.1), none, none, none] [] (rb_ov μ [(11, q4.2.1), (12, q4.2.2.1), (7, q4.2.2.2)]) := by
    refine ev_iload_n (v := q4.1) (pc := 160) dX0_callSleepers_160 rfl ?_
    obtain rfl := Option.some.inj h
    exact ev_iret (pc := 161) dX0_callSleepers_161 rfl rfl rfl (hfin _ _ _)
  refine rb_lp_ev (P := fun (s3 : Int32 × Int32 × rb_Row × rb_Row × rb_Row) => rb_Ev RX0 cX0_callSleepers 6 (some .boolean) none 7 (some o.1) (rb_ov μ [(11, o.2.1), (12, o.2.2.1), (7, o.2.2.2)]) 16 [some (.inr 7), some (.inl x0), some (.inl s3.1), some (.inl s3.2.1), none, none] [] (rb_ov μ [(11, s3.2.2.1), (12, s3.2.2.2.1), (7, s3.2.2.2.2)])) ?_ 100000 (0, 0, c, g, f1) l5
  intro s3 y6 h ih7 hE8
  refine ev_iload_n (v := s3.2.1) (pc := 16) dX0_callSleepers_16 rfl ?_
  refine ev_bipush (v := 6) (pc := 17) dX0_callSleepers_17 kb_6 ?_
  by_cases b11 : 6 ≤ s3.2.1
  · rw [if_pos b11] at h
    refine ev_icmp_ge_t (t := 160) (pc := 19) dX0_callSleepers_19 (by decide) b11 ?_
    obtain rfl := Option.some.inj h
    obtain rfl := hE8 _ rfl
    exact ev_fg (L := [none, none, some (.inl s3.1), none, none, none]) (And.intro rfl True.intro) (hx9)
  · rw [if_neg b11] at h
    refine ev_icmp_ge_f (t := 160) (pc := 19) dX0_callSleepers_19 (by decide) b11 ?_
    obtain ⟨t12, e13, h⟩ := rb_bd h
    refine ev_aload_n (v := 7) (pc := 22) dX0_callSleepers_22 rfl ?_
    refine ev_getr (q := 10) (pc := 23) dX0_callSleepers_23 fl_RX0_34 rfl rfl ?_
    refine ev_iload_n (v := x0) (pc := 26) dX0_callSleepers_26 rfl ?_
    refine ev_cVi1 (pc := 27) dX0_callSleepers_27 mv_X4_firstSleeper lk_RX0_154 rp_10 (ct1_X4_firstSleeper _ _ _ _ rfl e13) (Nat.le_of_ble_eq_true rfl) (Nat.le_of_ble_eq_true rfl) ?_
    refine ev_istore (L' := [some (.inr 7), some (.inl x0), some (.inl s3.1), some (.inl s3.2.1), some (.inl t12), none]) (pc := 30) dX0_callSleepers_30 (Nat.le_of_ble_eq_true rfl) rfl ?_
    refine ev_iload (v := t12) (pc := 32) dX0_callSleepers_32 rfl ?_
    by_cases b14 : 0 ≤ t12
    · rw [if_pos b14] at h
      refine ev_if_ge_t (t := 40) (pc := 34) dX0_callSleepers_34 (by decide) b14 ?_
      obtain ⟨f15, e16, h⟩ := rb_bd h
      obtain ⟨v17, e18, h⟩ := rb_bd h
      obtain ⟨v19, e20, h⟩ := rb_bd h
      obtain ⟨t21, e22, h⟩ := rb_bd h
      refine ev_aload_n (v := 7) (pc := 40) dX0_callSleepers_40 rfl ?_
      refine ev_dup (pc := 41) dX0_callSleepers_41 ?_
      refine ev_geti (v := (s3.2.2.2.2 6)) (pc := 42) dX0_callSleepers_42 fl_RX0_51 rfl rfl rfl ?_
      refine ev_iconst (v := 1) (pc := 45) dX0_callSleepers_45 ki_1 ?_
      refine ev_iload_n (v := x0) (pc := 46) dX0_callSleepers_46 rfl ?_
      refine ev_ishl (pc := 47) dX0_callSleepers_47 ?_
      refine ev_ior (pc := 48) dX0_callSleepers_48 ?_
      refine ev_putw (w' := [(11, s3.2.2.1), (12, s3.2.2.2.1), (7, f15)]) (pc := 49) dX0_callSleepers_49 fp_RX0_51 rfl rfl e16 rfl ?_
      refine ev_aload_n (v := 7) (pc := 52) dX0_callSleepers_52 rfl ?_
      refine ev_getr (q := 11) (pc := 53) dX0_callSleepers_53 fl_RX0_9 rfl rfl ?_
      refine ev_iconst (v := 1) (pc := 56) dX0_callSleepers_56 ki_1 ?_
      refine ev_iald (pc := 57) dX0_callSleepers_57 rfl e18 ?_
      refine ev_istore (L' := [some (.inr 7), some (.inl x0), some (.inl s3.1), some (.inl s3.2.1), some (.inl t12), some (.inl v17)]) (pc := 58) dX0_callSleepers_58 (Nat.le_of_ble_eq_true rfl) rfl ?_
      refine ev_aload_n (v := 7) (pc := 60) dX0_callSleepers_60 rfl ?_
      refine ev_iload (v := t12) (pc := 61) dX0_callSleepers_61 rfl ?_
      refine ev_iload_n (v := x0) (pc := 63) dX0_callSleepers_63 rfl ?_
      refine ev_aload_n (v := 7) (pc := 64) dX0_callSleepers_64 rfl ?_
      refine ev_getr (q := 11) (pc := 65) dX0_callSleepers_65 fl_RX0_9 rfl rfl ?_
      refine ev_sipush (v := 551) (pc := 68) dX0_callSleepers_68 ks_551 ?_
      refine ev_iload (v := t12) (pc := 71) dX0_callSleepers_71 rfl ?_
      refine ev_iadd (pc := 73) dX0_callSleepers_73 ?_
      refine ev_iald (pc := 74) dX0_callSleepers_74 rfl e20 ?_
      refine ev_cVi3w (w' := [(11, t21.2.1), (12, t21.2.2), (7, f15)]) (pc := 75) dX0_callSleepers_75 mv_X0_gather lk_RX0_157 rp_7 (ct1_X0_gather _ _ _ _ _ _ _ rfl rfl e22) (Nat.le_of_ble_eq_true rfl) (Nat.le_of_ble_eq_true rfl) rfl ?_
      by_cases b23 : t21.1 = 0
      · rw [if_pos b23] at h
        refine ev_if_ne_f (t := 99) (pc := 78) dX0_callSleepers_78 (by decide) b23 ?_
        obtain ⟨v24, e25, h⟩ := rb_bd h
        obtain ⟨c26, e27, h⟩ := rb_bd h
        refine ev_aload_n (v := 7) (pc := 81) dX0_callSleepers_81 rfl ?_
        refine ev_getr (q := 11) (pc := 82) dX0_callSleepers_82 fl_RX0_9 rfl rfl ?_
        refine ev_sipush (v := 581) (pc := 85) dX0_callSleepers_85 ks_581 ?_
        refine ev_iload (v := t12) (pc := 88) dX0_callSleepers_88 rfl ?_
        refine ev_iadd (pc := 90) dX0_callSleepers_90 ?_
        refine ev_dup2 (pc := 91) dX0_callSleepers_91 ?_
        refine ev_iald (pc := 92) dX0_callSleepers_92 rfl e25 ?_
        refine ev_iconst (v := 1) (pc := 93) dX0_callSleepers_93 ki_1 ?_
        refine ev_iadd (pc := 94) dX0_callSleepers_94 ?_
        refine ev_iast (w' := [(11, c26), (12, t21.2.2), (7, f15)]) (pc := 95) dX0_callSleepers_95 rfl e27 rfl ?_
        refine ev_goto (t := 160) (pc := 96) dX0_callSleepers_96 (by decide) ?_
        obtain rfl := Option.some.inj h
        obtain rfl := hE8 _ rfl
        exact ev_fg (L := [none, none, some (.inl s3.1), none, none, none]) (And.intro rfl True.intro) (hx9)
      · rw [if_neg b23] at h
        refine ev_if_ne_t (t := 99) (pc := 78) dX0_callSleepers_78 (by decide) b23 ?_
        obtain ⟨t28, e29, h⟩ := rb_bd h
        obtain ⟨v30, e31, h⟩ := rb_bd h
        obtain ⟨c32, e33, h⟩ := rb_bd h
        obtain ⟨f34, e35, h⟩ := rb_bd h
        obtain ⟨t36, e37, h⟩ := rb_bd h
        refine ev_aload_n (v := 7) (pc := 99) dX0_callSleepers_99 rfl ?_
        refine ev_getr (q := 10) (pc := 100) dX0_callSleepers_100 fl_RX0_34 rfl rfl ?_
        refine ev_iload (v := t12) (pc := 103) dX0_callSleepers_103 rfl ?_
        refine ev_cVv1w (w' := [(11, t28), (12, t21.2.2), (7, f15)]) (pc := 105) dX0_callSleepers_105 mv_X4_getUp lk_RX0_160 rp_10 (ct1_X4_getUp _ _ _ _ rfl e29) (Nat.le_of_ble_eq_true rfl) (Nat.le_of_ble_eq_true rfl) rfl ?_
        refine ev_aload_n (v := 7) (pc := 108) dX0_callSleepers_108 rfl ?_
        refine ev_getr (q := 11) (pc := 109) dX0_callSleepers_109 fl_RX0_9 rfl rfl ?_
        refine ev_sipush (v := 575) (pc := 112) dX0_callSleepers_112 ks_575 ?_
        refine ev_iload (v := t12) (pc := 115) dX0_callSleepers_115 rfl ?_
        refine ev_iadd (pc := 117) dX0_callSleepers_117 ?_
        refine ev_dup2 (pc := 118) dX0_callSleepers_118 ?_
        refine ev_iald (pc := 119) dX0_callSleepers_119 rfl e31 ?_
        refine ev_iconst (v := 1) (pc := 120) dX0_callSleepers_120 ki_1 ?_
        refine ev_iadd (pc := 121) dX0_callSleepers_121 ?_
        refine ev_iast (w' := [(11, c32), (12, t21.2.2), (7, f15)]) (pc := 122) dX0_callSleepers_122 rfl e33 rfl ?_
        refine ev_aload_n (v := 7) (pc := 123) dX0_callSleepers_123 rfl ?_
        refine ev_dup (pc := 124) dX0_callSleepers_124 ?_
        refine ev_geti (v := (f15 7)) (pc := 125) dX0_callSleepers_125 fl_RX0_54 rfl rfl rfl ?_
        refine ev_iconst (v := 1) (pc := 128) dX0_callSleepers_128 ki_1 ?_
        refine ev_iload (v := t12) (pc := 129) dX0_callSleepers_129 rfl ?_
        refine ev_ishl (pc := 131) dX0_callSleepers_131 ?_
        refine ev_ior (pc := 132) dX0_callSleepers_132 ?_
        refine ev_putw (w' := [(11, c32), (12, t21.2.2), (7, f34)]) (pc := 133) dX0_callSleepers_133 fp_RX0_54 rfl rfl e35 rfl ?_
        refine ev_iconst (v := 1) (pc := 136) dX0_callSleepers_136 ki_1 ?_
        refine ev_istore_n (L' := [some (.inr 7), some (.inl x0), some (.inl 1), some (.inl s3.2.1), some (.inl t12), some (.inl v17)]) (pc := 137) dX0_callSleepers_137 (Nat.le_of_ble_eq_true rfl) rfl ?_
        refine ev_aload_n (v := 7) (pc := 138) dX0_callSleepers_138 rfl ?_
        refine ev_getr (q := 9) (pc := 139) dX0_callSleepers_139 fl_RX0_27 rfl rfl ?_
        refine ev_iload_n (v := x0) (pc := 142) dX0_callSleepers_142 rfl ?_
        refine ev_iload (v := v17) (pc := 143) dX0_callSleepers_143 rfl ?_
        refine ev_cVi2 (pc := 145) dX0_callSleepers_145 mv_X1_showsOlder lk_RX0_163 rp_9 (ct1_X1_showsOlder _ _ _ _ _ rfl e37) (Nat.le_of_ble_eq_true rfl) (Nat.le_of_ble_eq_true rfl) ?_
        by_cases b38 : t36 = 0
        · rw [if_pos b38] at h
          refine ev_if_ne_f (t := 154) (pc := 148) dX0_callSleepers_148 (by decide) b38 ?_
          refine ev_goto (t := 160) (pc := 151) dX0_callSleepers_151 (by decide) ?_
          obtain rfl := Option.some.inj h
          obtain rfl := hE8 _ rfl
          exact ev_fg (L := [none, none, some (.inl 1), none, none, none]) (And.intro rfl True.intro) (hx9)
        · rw [if_neg b38] at h
          refine ev_if_ne_t (t := 154) (pc := 148) dX0_callSleepers_148 (by decide) b38 ?_
          refine ev_iinc (x := s3.2.1) (v := (s3.2.1 + 1)) (L' := [some (.inr 7), some (.inl x0), some (.inl 1), some (.inl (s3.2.1 + 1)), some (.inl t12), some (.inl v17)]) (pc := 154) dX0_callSleepers_154 rfl (kx_1 _) (Nat.le_of_ble_eq_true rfl) rfl ?_
          refine ev_goto (t := 16) (pc := 157) dX0_callSleepers_157 (by decide) ?_
          obtain rfl := Option.some.inj h
          exact ev_fg (L := [some (.inr 7), some (.inl x0), some (.inl 1), some (.inl (s3.2.1 + 1)), none, none]) (And.intro rfl (And.intro rfl (And.intro rfl (And.intro rfl True.intro)))) (ih7 (1, (s3.2.1 + 1), c32, t21.2.2, f34) rfl)
    · rw [if_neg b14] at h
      refine ev_if_ge_f (t := 40) (pc := 34) dX0_callSleepers_34 (by decide) b14 ?_
      refine ev_goto (t := 160) (pc := 37) dX0_callSleepers_37 (by decide) ?_
      obtain rfl := Option.some.inj h
      obtain rfl := hE8 _ rfl
      exact ev_fg (L := [none, none, some (.inl s3.1), none, none, none]) (And.intro rfl True.intro) (hx9)
def XX0_sendNotice : Nat → rb_Row → rb_Row → rb_Row → Int32 → Int32 → Int32 → Option (rb_Row × rb_Row × rb_Row)
  | 0, _, _, _, _, _, _ => none
  | n + 1, c, g, f, x0, x1, x2 => if x0 < 0 then some (c, g, f) else if x2 ≤ 3 then (rb_rd c 773 2).bind fun v3 => (rb_lp (ρ := rb_Row × rb_Row × rb_Row) (fun (s5 : Int32 × Int32 × rb_Row × rb_Row × rb_Row) => if v3 ≤ s5.2.1 then some (.inr (s5.2.2.1, s5.2.2.2.1, s5.2.2.2.2)) else (rb_rd s5.2.2.1 773 (395 + s5.2.1)).bind fun v14 => ((if (v14 &&& 4) = 0 then some 0 else some 1) : Option (Int32)).bind fun j16 => (rb_rd s5.2.2.1 773 (323 + s5.2.1)).bind fun v20 => ((if v20 = x0 then (XX1_heeds s5.2.2.1 s5.2.1 x1).bind fun t26 => if t26 = 0 then some (s5.1, s5.2.2.1, s5.2.2.2.1, s5.2.2.2.2) else if j16 = 0 then (XX1_putOnList s5.2.2.1 s5.2.1).bind fun t30 => (rb_rd t30 773 (467 + s5.2.1)).bind fun v32 => (rb_wr t30 773 (467 + s5.2.1) (v32 + 1)).bind fun c34 => (rb_rd c34 773 (299 + s5.2.1)).bind fun v36 => (XX0_callSleepers c34 s5.2.2.2.1 s5.2.2.2.2 v36).bind fun t38 => (rb_rd t38.2.1 773 (299 + s5.2.1)).bind fun v40 => (XX0_sendNotice n t38.2.1 t38.2.2.1 t38.2.2.2 v40 1 (x2 + 1)).bind fun t42 => ((if j16 = 0 then some 0 else if t38.1 = 0 then some 0 else some 1) : Option (Int32)).bind fun j44 => some ((s5.1 ||| j44), t42.1, t42.2.1, t42.2.2) else if s5.1 = 0 then (XX1_putOnList s5.2.2.1 s5.2.1).bind fun t50 => (rb_rd t50 773 (467 + s5.2.1)).bind fun v52 => (rb_wr t50 773 (467 + s5.2.1) (v52 + 1)).bind fun c54 => (rb_rd c54 773 (299 + s5.2.1)).bind fun v56 => (XX0_callSleepers c54 s5.2.2.2.1 s5.2.2.2.2 v56).bind fun t58 => (rb_rd t58.2.1 773 (299 + s5.2.1)).bind fun v60 => (XX0_sendNotice n t58.2.1 t58.2.2.1 t58.2.2.2 v60 1 (x2 + 1)).bind fun t62 => ((if j16 = 0 then some 0 else if t58.1 = 0 then some 0 else some 1) : Option (Int32)).bind fun j64 => some ((s5.1 ||| j64), t62.1, t62.2.1, t62.2.2) else some (s5.1, s5.2.2.1, s5.2.2.2.1, s5.2.2.2.2) else some (s5.1, s5.2.2.1, s5.2.2.2.1, s5.2.2.2.2)) : Option (Int32 × rb_Row × rb_Row × rb_Row)).bind fun j22 => some (.inl (j22.1, (s5.2.1 + 1), j22.2.1, j22.2.2.1, j22.2.2.2))) 100000 (0, 0, c, g, f)).bind fun q6 => some (q6.1, q6.2.1, q6.2.2) else some (c, g, f)
set_option maxHeartbeats 4000000 in
set_option maxRecDepth 20000 in
theorem ct0_X0_sendNotice : ∀ (n : Nat) (μ : rb_Mem) (c : rb_Row) (g : rb_Row) (f : rb_Row) (x0 : Int32) (x1 : Int32) (x2 : Int32) (o : rb_Row × rb_Row × rb_Row) (hc : μ 5 = c) (hg : μ 6 = g) (hf : μ 1 = f) (h : XX0_sendNotice n c g f x0 x1 x2 = some o), rb_Ct yX0_sendNotice cX0_sendNotice 9 none (8 + n) [.inr 1, .inl x0, .inl x1, .inl x2] μ none (rb_ov μ [(5, o.1), (6, o.2.1), (1, o.2.2)]) := by
  intro n
  induction n with
  | zero => intro μ c g f x0 x1 x2 o hc hg hf h; cases h
  | succ n ihn =>
    intro μ c g f x0 x1 x2 o hc hg hf h
    rw [XX0_sendNotice] at h
    have hini : rb_ov μ [(5, c), (6, g), (1, f)] = μ := rb_ov_sf _ _ (And.intro hc (And.intro hg (And.intro hf True.intro)))
    have hfin : ∀ u0 u1 u2 : rb_Row, rb_ov μ [(5, u0), (6, u1), (1, u2)] = rb_ov μ [(5, u0), (6, u1), (1, u2)] := fun u0 u1 u2 => rfl
    refine rb_ctv (w := [(5, c), (6, g), (1, f)]) rfl pn_0 (Nat.le_of_ble_eq_true rfl) rfl hini ?_
    refine ev_iload_n (v := x0) (pc := 0) dX0_sendNotice_0 rfl ?_
    by_cases b1 : x0 < 0
    · rw [if_pos b1] at h
      refine ev_if_lt_t (t := 9) (pc := 1) dX0_sendNotice_1 (by decide) b1 ?_
      obtain rfl := Option.some.inj h
      exact ev_ret (pc := 9) dX0_sendNotice_9 rfl rfl (hfin _ _ _)
    · rw [if_neg b1] at h
      refine ev_if_lt_f (t := 9) (pc := 1) dX0_sendNotice_1 (by decide) b1 ?_
      refine ev_iload_n (v := x2) (pc := 4) dX0_sendNotice_4 rfl ?_
      refine ev_iconst (v := 3) (pc := 5) dX0_sendNotice_5 ki_3 ?_
      by_cases b2 : x2 ≤ 3
      · rw [if_pos b2] at h
        refine ev_icmp_le_t (t := 10) (pc := 6) dX0_sendNotice_6 (by decide) b2 ?_
        obtain ⟨v3, e4, h⟩ := rb_bd h
        refine ev_iconst (v := 0) (pc := 10) dX0_sendNotice_10 ki_0 ?_
        refine ev_istore (L' := [some (.inr 1), some (.inl x0), some (.inl x1), some (.inl x2), some (.inl 0), none, none, none, none]) (pc := 11) dX0_sendNotice_11 (Nat.le_of_ble_eq_true rfl) rfl ?_
        refine ev_aload_n (v := 1) (pc := 13) dX0_sendNotice_13 rfl ?_
        refine ev_getr (q := 5) (pc := 14) dX0_sendNotice_14 fl_RX0_9 rfl rfl ?_
        refine ev_iconst (v := 2) (pc := 17) dX0_sendNotice_17 ki_2 ?_
        refine ev_iald (pc := 18) dX0_sendNotice_18 rfl e4 ?_
        refine ev_istore (L' := [some (.inr 1), some (.inl x0), some (.inl x1), some (.inl x2), some (.inl 0), some (.inl v3), none, none, none]) (pc := 19) dX0_sendNotice_19 (Nat.le_of_ble_eq_true rfl) rfl ?_
        refine ev_iconst (v := 0) (pc := 21) dX0_sendNotice_21 ki_0 ?_
        refine ev_istore (L' := [some (.inr 1), some (.inl x0), some (.inl x1), some (.inl x2), some (.inl 0), some (.inl v3), some (.inl 0), none, none]) (pc := 22) dX0_sendNotice_22 (Nat.le_of_ble_eq_true rfl) rfl ?_
        obtain ⟨q6, l7, h⟩ := rb_bd h
        have hx11 : rb_Ev RX0 cX0_sendNotice 9 none none (8 + (n + 1)) none (rb_ov μ [(5, o.1), (6, o.2.1), (1, o.2.2)]) 181 [none, none, none, none, none, none, none, none, none] [] (rb_ov μ [(5, q6.1), (6, q6.2.1), (1, q6.2.2)]) := by
          obtain rfl := Option.some.inj h
          exact ev_ret (pc := 181) dX0_sendNotice_181 rfl rfl (hfin _ _ _)
        refine rb_lp_ev (P := fun (s5 : Int32 × Int32 × rb_Row × rb_Row × rb_Row) => rb_Ev RX0 cX0_sendNotice 9 none none (8 + (n + 1)) none (rb_ov μ [(5, o.1), (6, o.2.1), (1, o.2.2)]) 24 [some (.inr 1), some (.inl x0), some (.inl x1), some (.inl x2), some (.inl s5.1), some (.inl v3), some (.inl s5.2.1), none, none] [] (rb_ov μ [(5, s5.2.2.1), (6, s5.2.2.2.1), (1, s5.2.2.2.2)])) ?_ 100000 (0, 0, c, g, f) l7
        intro s5 y8 h ih9 hE10
        refine ev_iload (v := s5.2.1) (pc := 24) dX0_sendNotice_24 rfl ?_
        refine ev_iload (v := v3) (pc := 26) dX0_sendNotice_26 rfl ?_
        by_cases b13 : v3 ≤ s5.2.1
        · rw [if_pos b13] at h
          refine ev_icmp_ge_t (t := 181) (pc := 28) dX0_sendNotice_28 (by decide) b13 ?_
          obtain rfl := Option.some.inj h
          obtain rfl := hE10 _ rfl
          exact ev_fg (L := [none, none, none, none, none, none, none, none, none]) True.intro (hx11)
        · rw [if_neg b13] at h
          refine ev_icmp_ge_f (t := 181) (pc := 28) dX0_sendNotice_28 (by decide) b13 ?_
          obtain ⟨v14, e15, h⟩ := rb_bd h
          refine ev_aload_n (v := 1) (pc := 31) dX0_sendNotice_31 rfl ?_
          refine ev_getr (q := 5) (pc := 32) dX0_sendNotice_32 fl_RX0_9 rfl rfl ?_
          refine ev_sipush (v := 395) (pc := 35) dX0_sendNotice_35 ks_395 ?_
          refine ev_iload (v := s5.2.1) (pc := 38) dX0_sendNotice_38 rfl ?_
          refine ev_iadd (pc := 40) dX0_sendNotice_40 ?_
          refine ev_iald (pc := 41) dX0_sendNotice_41 rfl e15 ?_
          refine ev_iconst (v := 4) (pc := 42) dX0_sendNotice_42 ki_4 ?_
          refine ev_iand (pc := 43) dX0_sendNotice_43 ?_
          obtain ⟨j16, e17, h⟩ := rb_bd h
          have hj18 : rb_Ev RX0 cX0_sendNotice 9 none none (8 + (n + 1)) none (rb_ov μ [(5, o.1), (6, o.2.1), (1, o.2.2)]) 52 [some (.inr 1), some (.inl x0), some (.inl x1), some (.inl x2), some (.inl s5.1), some (.inl v3), some (.inl s5.2.1), none, none] [.inl j16] (rb_ov μ [(5, s5.2.2.1), (6, s5.2.2.2.1), (1, s5.2.2.2.2)]) := by
            obtain ⟨v20, e21, h⟩ := rb_bd h
            refine ev_istore (L' := [some (.inr 1), some (.inl x0), some (.inl x1), some (.inl x2), some (.inl s5.1), some (.inl v3), some (.inl s5.2.1), some (.inl j16), none]) (pc := 52) dX0_sendNotice_52 (Nat.le_of_ble_eq_true rfl) rfl ?_
            refine ev_aload_n (v := 1) (pc := 54) dX0_sendNotice_54 rfl ?_
            refine ev_getr (q := 5) (pc := 55) dX0_sendNotice_55 fl_RX0_9 rfl rfl ?_
            refine ev_sipush (v := 323) (pc := 58) dX0_sendNotice_58 ks_323 ?_
            refine ev_iload (v := s5.2.1) (pc := 61) dX0_sendNotice_61 rfl ?_
            refine ev_iadd (pc := 63) dX0_sendNotice_63 ?_
            refine ev_iald (pc := 64) dX0_sendNotice_64 rfl e21 ?_
            refine ev_iload_n (v := x0) (pc := 65) dX0_sendNotice_65 rfl ?_
            obtain ⟨j22, e23, h⟩ := rb_bd h
            have hj24 : rb_Ev RX0 cX0_sendNotice 9 none none (8 + (n + 1)) none (rb_ov μ [(5, o.1), (6, o.2.1), (1, o.2.2)]) 175 [some (.inr 1), some (.inl x0), some (.inl x1), some (.inl x2), some (.inl j22.1), some (.inl v3), some (.inl s5.2.1), none, none] [] (rb_ov μ [(5, j22.2.1), (6, j22.2.2.1), (1, j22.2.2.2)]) := by
              refine ev_iinc (x := s5.2.1) (v := (s5.2.1 + 1)) (L' := [some (.inr 1), some (.inl x0), some (.inl x1), some (.inl x2), some (.inl j22.1), some (.inl v3), some (.inl (s5.2.1 + 1)), none, none]) (pc := 175) dX0_sendNotice_175 rfl (kx_1 _) (Nat.le_of_ble_eq_true rfl) rfl ?_
              refine ev_goto (t := 24) (pc := 178) dX0_sendNotice_178 (by decide) ?_
              obtain rfl := Option.some.inj h
              exact ih9 (j22.1, (s5.2.1 + 1), j22.2.1, j22.2.2.1, j22.2.2.2) rfl
            replace h := e23
            by_cases b25 : v20 = x0
            · rw [if_pos b25] at h
              refine ev_icmp_ne_f (t := 175) (pc := 66) dX0_sendNotice_66 (by decide) b25 ?_
              obtain ⟨t26, e27, h⟩ := rb_bd h
              refine ev_aload_n (v := 1) (pc := 69) dX0_sendNotice_69 rfl ?_
              refine ev_getr (q := 3) (pc := 70) dX0_sendNotice_70 fl_RX0_27 rfl rfl ?_
              refine ev_iload (v := s5.2.1) (pc := 73) dX0_sendNotice_73 rfl ?_
              refine ev_iload_n (v := x1) (pc := 75) dX0_sendNotice_75 rfl ?_
              refine ev_cVi2 (pc := 76) dX0_sendNotice_76 mv_X1_heeds lk_RX0_150 rp_3 (ct0_X1_heeds _ _ _ _ _ rfl e27) (by omega) (Nat.le_of_ble_eq_true rfl) ?_
              by_cases b28 : t26 = 0
              · rw [if_pos b28] at h
                refine ev_if_eq_t (t := 175) (pc := 79) dX0_sendNotice_79 (by decide) b28 ?_
                obtain rfl := Option.some.inj h
                exact ev_fg (L := [some (.inr 1), some (.inl x0), some (.inl x1), some (.inl x2), some (.inl s5.1), some (.inl v3), some (.inl s5.2.1), none, none]) (And.intro rfl (And.intro rfl (And.intro rfl (And.intro rfl (And.intro rfl (And.intro rfl (And.intro rfl True.intro))))))) (hj24)
              · rw [if_neg b28] at h
                refine ev_if_eq_f (t := 175) (pc := 79) dX0_sendNotice_79 (by decide) b28 ?_
                refine ev_iload (v := j16) (pc := 82) dX0_sendNotice_82 rfl ?_
                by_cases b29 : j16 = 0
                · rw [if_pos b29] at h
                  refine ev_if_eq_t (t := 95) (pc := 84) dX0_sendNotice_84 (by decide) b29 ?_
                  obtain ⟨t30, e31, h⟩ := rb_bd h
                  obtain ⟨v32, e33, h⟩ := rb_bd h
                  obtain ⟨c34, e35, h⟩ := rb_bd h
                  obtain ⟨v36, e37, h⟩ := rb_bd h
                  obtain ⟨t38, e39, h⟩ := rb_bd h
                  obtain ⟨v40, e41, h⟩ := rb_bd h
                  obtain ⟨t42, e43, h⟩ := rb_bd h
                  refine ev_aload_n (v := 1) (pc := 95) dX0_sendNotice_95 rfl ?_
                  refine ev_getr (q := 3) (pc := 96) dX0_sendNotice_96 fl_RX0_27 rfl rfl ?_
                  refine ev_iload (v := s5.2.1) (pc := 99) dX0_sendNotice_99 rfl ?_
                  refine ev_cVv1w (w' := [(5, t30), (6, s5.2.2.2.1), (1, s5.2.2.2.2)]) (pc := 101) dX0_sendNotice_101 mv_X1_putOnList lk_RX0_144 rp_3 (ct0_X1_putOnList _ _ _ _ rfl e31) (by omega) (Nat.le_of_ble_eq_true rfl) rfl ?_
                  refine ev_aload_n (v := 1) (pc := 104) dX0_sendNotice_104 rfl ?_
                  refine ev_getr (q := 5) (pc := 105) dX0_sendNotice_105 fl_RX0_9 rfl rfl ?_
                  refine ev_sipush (v := 467) (pc := 108) dX0_sendNotice_108 ks_467 ?_
                  refine ev_iload (v := s5.2.1) (pc := 111) dX0_sendNotice_111 rfl ?_
                  refine ev_iadd (pc := 113) dX0_sendNotice_113 ?_
                  refine ev_dup2 (pc := 114) dX0_sendNotice_114 ?_
                  refine ev_iald (pc := 115) dX0_sendNotice_115 rfl e33 ?_
                  refine ev_iconst (v := 1) (pc := 116) dX0_sendNotice_116 ki_1 ?_
                  refine ev_iadd (pc := 117) dX0_sendNotice_117 ?_
                  refine ev_iast (w' := [(5, c34), (6, s5.2.2.2.1), (1, s5.2.2.2.2)]) (pc := 118) dX0_sendNotice_118 rfl e35 rfl ?_
                  refine ev_aload_n (v := 1) (pc := 119) dX0_sendNotice_119 rfl ?_
                  refine ev_aload_n (v := 1) (pc := 120) dX0_sendNotice_120 rfl ?_
                  refine ev_getr (q := 5) (pc := 121) dX0_sendNotice_121 fl_RX0_9 rfl rfl ?_
                  refine ev_sipush (v := 299) (pc := 124) dX0_sendNotice_124 ks_299 ?_
                  refine ev_iload (v := s5.2.1) (pc := 127) dX0_sendNotice_127 rfl ?_
                  refine ev_iadd (pc := 129) dX0_sendNotice_129 ?_
                  refine ev_iald (pc := 130) dX0_sendNotice_130 rfl e37 ?_
                  refine ev_cVi1w (w' := [(5, t38.2.1), (6, t38.2.2.1), (1, t38.2.2.2)]) (pc := 131) dX0_sendNotice_131 mv_X0_callSleepers lk_RX0_147 rp_1 (ct0_X0_callSleepers _ _ _ _ _ _ rfl rfl rfl e39) (by omega) (Nat.le_of_ble_eq_true rfl) rfl ?_
                  refine ev_istore (L' := [some (.inr 1), some (.inl x0), some (.inl x1), some (.inl x2), some (.inl s5.1), some (.inl v3), some (.inl s5.2.1), some (.inl j16), some (.inl t38.1)]) (pc := 134) dX0_sendNotice_134 (Nat.le_of_ble_eq_true rfl) rfl ?_
                  refine ev_aload_n (v := 1) (pc := 136) dX0_sendNotice_136 rfl ?_
                  refine ev_aload_n (v := 1) (pc := 137) dX0_sendNotice_137 rfl ?_
                  refine ev_getr (q := 5) (pc := 138) dX0_sendNotice_138 fl_RX0_9 rfl rfl ?_
                  refine ev_sipush (v := 299) (pc := 141) dX0_sendNotice_141 ks_299 ?_
                  refine ev_iload (v := s5.2.1) (pc := 144) dX0_sendNotice_144 rfl ?_
                  refine ev_iadd (pc := 146) dX0_sendNotice_146 ?_
                  refine ev_iald (pc := 147) dX0_sendNotice_147 rfl e41 ?_
                  refine ev_iconst (v := 1) (pc := 148) dX0_sendNotice_148 ki_1 ?_
                  refine ev_iload_n (v := x2) (pc := 149) dX0_sendNotice_149 rfl ?_
                  refine ev_iconst (v := 1) (pc := 150) dX0_sendNotice_150 ki_1 ?_
                  refine ev_iadd (pc := 151) dX0_sendNotice_151 ?_
                  refine ev_cVv3w (w' := [(5, t42.1), (6, t42.2.1), (1, t42.2.2)]) (pc := 152) dX0_sendNotice_152 mv_X0_sendNotice lk_RX0_89 rp_1 (ihn _ _ _ _ _ _ _ _ rfl rfl rfl e43) (by omega) (Nat.le_of_ble_eq_true rfl) rfl ?_
                  refine ev_iload (v := s5.1) (pc := 155) dX0_sendNotice_155 rfl ?_
                  refine ev_iload (v := j16) (pc := 157) dX0_sendNotice_157 rfl ?_
                  obtain ⟨j44, e45, h⟩ := rb_bd h
                  have hj46 : rb_Ev RX0 cX0_sendNotice 9 none none (8 + (n + 1)) none (rb_ov μ [(5, o.1), (6, o.2.1), (1, o.2.2)]) 172 [some (.inr 1), some (.inl x0), some (.inl x1), some (.inl x2), none, some (.inl v3), some (.inl s5.2.1), none, none] [.inl j44, .inl s5.1] (rb_ov μ [(5, t42.1), (6, t42.2.1), (1, t42.2.2)]) := by
                    refine ev_ior (pc := 172) dX0_sendNotice_172 ?_
                    refine ev_istore (L' := [some (.inr 1), some (.inl x0), some (.inl x1), some (.inl x2), some (.inl (s5.1 ||| j44)), some (.inl v3), some (.inl s5.2.1), none, none]) (pc := 173) dX0_sendNotice_173 (Nat.le_of_ble_eq_true rfl) rfl ?_
                    obtain rfl := Option.some.inj h
                    exact hj24
                  replace h := e45
                  by_cases b47 : j16 = 0
                  · rw [if_pos b47] at h
                    refine ev_if_eq_t (t := 171) (pc := 159) dX0_sendNotice_159 (by decide) b47 ?_
                    refine ev_iconst (v := 0) (pc := 171) dX0_sendNotice_171 ki_0 ?_
                    obtain rfl := Option.some.inj h
                    exact ev_fg (L := [some (.inr 1), some (.inl x0), some (.inl x1), some (.inl x2), none, some (.inl v3), some (.inl s5.2.1), none, none]) (And.intro rfl (And.intro rfl (And.intro rfl (And.intro rfl (And.intro rfl (And.intro rfl True.intro)))))) (hj46)
                  · rw [if_neg b47] at h
                    refine ev_if_eq_f (t := 171) (pc := 159) dX0_sendNotice_159 (by decide) b47 ?_
                    refine ev_iload (v := t38.1) (pc := 162) dX0_sendNotice_162 rfl ?_
                    by_cases b48 : t38.1 = 0
                    · rw [if_pos b48] at h
                      refine ev_if_eq_t (t := 171) (pc := 164) dX0_sendNotice_164 (by decide) b48 ?_
                      refine ev_iconst (v := 0) (pc := 171) dX0_sendNotice_171 ki_0 ?_
                      obtain rfl := Option.some.inj h
                      exact ev_fg (L := [some (.inr 1), some (.inl x0), some (.inl x1), some (.inl x2), none, some (.inl v3), some (.inl s5.2.1), none, none]) (And.intro rfl (And.intro rfl (And.intro rfl (And.intro rfl (And.intro rfl (And.intro rfl True.intro)))))) (hj46)
                    · rw [if_neg b48] at h
                      refine ev_if_eq_f (t := 171) (pc := 164) dX0_sendNotice_164 (by decide) b48 ?_
                      refine ev_iconst (v := 1) (pc := 167) dX0_sendNotice_167 ki_1 ?_
                      refine ev_goto (t := 172) (pc := 168) dX0_sendNotice_168 (by decide) ?_
                      obtain rfl := Option.some.inj h
                      exact ev_fg (L := [some (.inr 1), some (.inl x0), some (.inl x1), some (.inl x2), none, some (.inl v3), some (.inl s5.2.1), none, none]) (And.intro rfl (And.intro rfl (And.intro rfl (And.intro rfl (And.intro rfl (And.intro rfl True.intro)))))) (hj46)
                · rw [if_neg b29] at h
                  refine ev_if_eq_f (t := 95) (pc := 84) dX0_sendNotice_84 (by decide) b29 ?_
                  refine ev_iload (v := s5.1) (pc := 87) dX0_sendNotice_87 rfl ?_
                  by_cases b49 : s5.1 = 0
                  · rw [if_pos b49] at h
                    refine ev_if_eq_t (t := 95) (pc := 89) dX0_sendNotice_89 (by decide) b49 ?_
                    obtain ⟨t50, e51, h⟩ := rb_bd h
                    obtain ⟨v52, e53, h⟩ := rb_bd h
                    obtain ⟨c54, e55, h⟩ := rb_bd h
                    obtain ⟨v56, e57, h⟩ := rb_bd h
                    obtain ⟨t58, e59, h⟩ := rb_bd h
                    obtain ⟨v60, e61, h⟩ := rb_bd h
                    obtain ⟨t62, e63, h⟩ := rb_bd h
                    refine ev_aload_n (v := 1) (pc := 95) dX0_sendNotice_95 rfl ?_
                    refine ev_getr (q := 3) (pc := 96) dX0_sendNotice_96 fl_RX0_27 rfl rfl ?_
                    refine ev_iload (v := s5.2.1) (pc := 99) dX0_sendNotice_99 rfl ?_
                    refine ev_cVv1w (w' := [(5, t50), (6, s5.2.2.2.1), (1, s5.2.2.2.2)]) (pc := 101) dX0_sendNotice_101 mv_X1_putOnList lk_RX0_144 rp_3 (ct0_X1_putOnList _ _ _ _ rfl e51) (by omega) (Nat.le_of_ble_eq_true rfl) rfl ?_
                    refine ev_aload_n (v := 1) (pc := 104) dX0_sendNotice_104 rfl ?_
                    refine ev_getr (q := 5) (pc := 105) dX0_sendNotice_105 fl_RX0_9 rfl rfl ?_
                    refine ev_sipush (v := 467) (pc := 108) dX0_sendNotice_108 ks_467 ?_
                    refine ev_iload (v := s5.2.1) (pc := 111) dX0_sendNotice_111 rfl ?_
                    refine ev_iadd (pc := 113) dX0_sendNotice_113 ?_
                    refine ev_dup2 (pc := 114) dX0_sendNotice_114 ?_
                    refine ev_iald (pc := 115) dX0_sendNotice_115 rfl e53 ?_
                    refine ev_iconst (v := 1) (pc := 116) dX0_sendNotice_116 ki_1 ?_
                    refine ev_iadd (pc := 117) dX0_sendNotice_117 ?_
                    refine ev_iast (w' := [(5, c54), (6, s5.2.2.2.1), (1, s5.2.2.2.2)]) (pc := 118) dX0_sendNotice_118 rfl e55 rfl ?_
                    refine ev_aload_n (v := 1) (pc := 119) dX0_sendNotice_119 rfl ?_
                    refine ev_aload_n (v := 1) (pc := 120) dX0_sendNotice_120 rfl ?_
                    refine ev_getr (q := 5) (pc := 121) dX0_sendNotice_121 fl_RX0_9 rfl rfl ?_
                    refine ev_sipush (v := 299) (pc := 124) dX0_sendNotice_124 ks_299 ?_
                    refine ev_iload (v := s5.2.1) (pc := 127) dX0_sendNotice_127 rfl ?_
                    refine ev_iadd (pc := 129) dX0_sendNotice_129 ?_
                    refine ev_iald (pc := 130) dX0_sendNotice_130 rfl e57 ?_
                    refine ev_cVi1w (w' := [(5, t58.2.1), (6, t58.2.2.1), (1, t58.2.2.2)]) (pc := 131) dX0_sendNotice_131 mv_X0_callSleepers lk_RX0_147 rp_1 (ct0_X0_callSleepers _ _ _ _ _ _ rfl rfl rfl e59) (by omega) (Nat.le_of_ble_eq_true rfl) rfl ?_
                    refine ev_istore (L' := [some (.inr 1), some (.inl x0), some (.inl x1), some (.inl x2), some (.inl s5.1), some (.inl v3), some (.inl s5.2.1), some (.inl j16), some (.inl t58.1)]) (pc := 134) dX0_sendNotice_134 (Nat.le_of_ble_eq_true rfl) rfl ?_
                    refine ev_aload_n (v := 1) (pc := 136) dX0_sendNotice_136 rfl ?_
                    refine ev_aload_n (v := 1) (pc := 137) dX0_sendNotice_137 rfl ?_
                    refine ev_getr (q := 5) (pc := 138) dX0_sendNotice_138 fl_RX0_9 rfl rfl ?_
                    refine ev_sipush (v := 299) (pc := 141) dX0_sendNotice_141 ks_299 ?_
                    refine ev_iload (v := s5.2.1) (pc := 144) dX0_sendNotice_144 rfl ?_
                    refine ev_iadd (pc := 146) dX0_sendNotice_146 ?_
                    refine ev_iald (pc := 147) dX0_sendNotice_147 rfl e61 ?_
                    refine ev_iconst (v := 1) (pc := 148) dX0_sendNotice_148 ki_1 ?_
                    refine ev_iload_n (v := x2) (pc := 149) dX0_sendNotice_149 rfl ?_
                    refine ev_iconst (v := 1) (pc := 150) dX0_sendNotice_150 ki_1 ?_
                    refine ev_iadd (pc := 151) dX0_sendNotice_151 ?_
                    refine ev_cVv3w (w' := [(5, t62.1), (6, t62.2.1), (1, t62.2.2)]) (pc := 152) dX0_sendNotice_152 mv_X0_sendNotice lk_RX0_89 rp_1 (ihn _ _ _ _ _ _ _ _ rfl rfl rfl e63) (by omega) (Nat.le_of_ble_eq_true rfl) rfl ?_
                    refine ev_iload (v := s5.1) (pc := 155) dX0_sendNotice_155 rfl ?_
                    refine ev_iload (v := j16) (pc := 157) dX0_sendNotice_157 rfl ?_
                    obtain ⟨j64, e65, h⟩ := rb_bd h
                    have hj66 : rb_Ev RX0 cX0_sendNotice 9 none none (8 + (n + 1)) none (rb_ov μ [(5, o.1), (6, o.2.1), (1, o.2.2)]) 172 [some (.inr 1), some (.inl x0), some (.inl x1), some (.inl x2), none, some (.inl v3), some (.inl s5.2.1), none, none] [.inl j64, .inl s5.1] (rb_ov μ [(5, t62.1), (6, t62.2.1), (1, t62.2.2)]) := by
                      refine ev_ior (pc := 172) dX0_sendNotice_172 ?_
                      refine ev_istore (L' := [some (.inr 1), some (.inl x0), some (.inl x1), some (.inl x2), some (.inl (s5.1 ||| j64)), some (.inl v3), some (.inl s5.2.1), none, none]) (pc := 173) dX0_sendNotice_173 (Nat.le_of_ble_eq_true rfl) rfl ?_
                      obtain rfl := Option.some.inj h
                      exact hj24
                    replace h := e65
                    by_cases b67 : j16 = 0
                    · rw [if_pos b67] at h
                      refine ev_if_eq_t (t := 171) (pc := 159) dX0_sendNotice_159 (by decide) b67 ?_
                      refine ev_iconst (v := 0) (pc := 171) dX0_sendNotice_171 ki_0 ?_
                      obtain rfl := Option.some.inj h
                      exact ev_fg (L := [some (.inr 1), some (.inl x0), some (.inl x1), some (.inl x2), none, some (.inl v3), some (.inl s5.2.1), none, none]) (And.intro rfl (And.intro rfl (And.intro rfl (And.intro rfl (And.intro rfl (And.intro rfl True.intro)))))) (hj66)
                    · rw [if_neg b67] at h
                      refine ev_if_eq_f (t := 171) (pc := 159) dX0_sendNotice_159 (by decide) b67 ?_
                      refine ev_iload (v := t58.1) (pc := 162) dX0_sendNotice_162 rfl ?_
                      by_cases b68 : t58.1 = 0
                      · rw [if_pos b68] at h
                        refine ev_if_eq_t (t := 171) (pc := 164) dX0_sendNotice_164 (by decide) b68 ?_
                        refine ev_iconst (v := 0) (pc := 171) dX0_sendNotice_171 ki_0 ?_
                        obtain rfl := Option.some.inj h
                        exact ev_fg (L := [some (.inr 1), some (.inl x0), some (.inl x1), some (.inl x2), none, some (.inl v3), some (.inl s5.2.1), none, none]) (And.intro rfl (And.intro rfl (And.intro rfl (And.intro rfl (And.intro rfl (And.intro rfl True.intro)))))) (hj66)
                      · rw [if_neg b68] at h
                        refine ev_if_eq_f (t := 171) (pc := 164) dX0_sendNotice_164 (by decide) b68 ?_
                        refine ev_iconst (v := 1) (pc := 167) dX0_sendNotice_167 ki_1 ?_
                        refine ev_goto (t := 172) (pc := 168) dX0_sendNotice_168 (by decide) ?_
                        obtain rfl := Option.some.inj h
                        exact ev_fg (L := [some (.inr 1), some (.inl x0), some (.inl x1), some (.inl x2), none, some (.inl v3), some (.inl s5.2.1), none, none]) (And.intro rfl (And.intro rfl (And.intro rfl (And.intro rfl (And.intro rfl (And.intro rfl True.intro)))))) (hj66)
                  · rw [if_neg b49] at h
                    refine ev_if_eq_f (t := 95) (pc := 89) dX0_sendNotice_89 (by decide) b49 ?_
                    refine ev_goto (t := 175) (pc := 92) dX0_sendNotice_92 (by decide) ?_
                    obtain rfl := Option.some.inj h
                    exact ev_fg (L := [some (.inr 1), some (.inl x0), some (.inl x1), some (.inl x2), some (.inl s5.1), some (.inl v3), some (.inl s5.2.1), none, none]) (And.intro rfl (And.intro rfl (And.intro rfl (And.intro rfl (And.intro rfl (And.intro rfl (And.intro rfl True.intro))))))) (hj24)
            · rw [if_neg b25] at h
              refine ev_icmp_ne_t (t := 175) (pc := 66) dX0_sendNotice_66 (by decide) b25 ?_
              obtain rfl := Option.some.inj h
              exact ev_fg (L := [some (.inr 1), some (.inl x0), some (.inl x1), some (.inl x2), some (.inl s5.1), some (.inl v3), some (.inl s5.2.1), none, none]) (And.intro rfl (And.intro rfl (And.intro rfl (And.intro rfl (And.intro rfl (And.intro rfl (And.intro rfl True.intro))))))) (hj24)
          replace h := e17
          by_cases b19 : (v14 &&& 4) = 0
          · rw [if_pos b19] at h
            refine ev_if_eq_t (t := 51) (pc := 44) dX0_sendNotice_44 (by decide) b19 ?_
            refine ev_iconst (v := 0) (pc := 51) dX0_sendNotice_51 ki_0 ?_
            obtain rfl := Option.some.inj h
            exact hj18
          · rw [if_neg b19] at h
            refine ev_if_eq_f (t := 51) (pc := 44) dX0_sendNotice_44 (by decide) b19 ?_
            refine ev_iconst (v := 1) (pc := 47) dX0_sendNotice_47 ki_1 ?_
            refine ev_goto (t := 52) (pc := 48) dX0_sendNotice_48 (by decide) ?_
            obtain rfl := Option.some.inj h
            exact hj18
      · rw [if_neg b2] at h
        refine ev_icmp_le_f (t := 10) (pc := 6) dX0_sendNotice_6 (by decide) b2 ?_
        obtain rfl := Option.some.inj h
        exact ev_ret (pc := 9) dX0_sendNotice_9 rfl rfl (hfin _ _ _)
set_option maxHeartbeats 4000000 in
set_option maxRecDepth 20000 in
theorem ct1_X0_sendNotice : ∀ (n : Nat) (μ : rb_Mem) (c : rb_Row) (g : rb_Row) (f : rb_Row) (x0 : Int32) (x1 : Int32) (x2 : Int32) (o : rb_Row × rb_Row × rb_Row) (hc : μ 11 = c) (hg : μ 12 = g) (hf : μ 7 = f) (h : XX0_sendNotice n c g f x0 x1 x2 = some o), rb_Ct yX0_sendNotice cX0_sendNotice 9 none (8 + n) [.inr 7, .inl x0, .inl x1, .inl x2] μ none (rb_ov μ [(11, o.1), (12, o.2.1), (7, o.2.2)]) := by
  intro n
  induction n with
  | zero => intro μ c g f x0 x1 x2 o hc hg hf h; cases h
  | succ n ihn =>
    intro μ c g f x0 x1 x2 o hc hg hf h
    rw [XX0_sendNotice] at h
    have hini : rb_ov μ [(11, c), (12, g), (7, f)] = μ := rb_ov_sf _ _ (And.intro hc (And.intro hg (And.intro hf True.intro)))
    have hfin : ∀ u0 u1 u2 : rb_Row, rb_ov μ [(11, u0), (12, u1), (7, u2)] = rb_ov μ [(11, u0), (12, u1), (7, u2)] := fun u0 u1 u2 => rfl
    refine rb_ctv (w := [(11, c), (12, g), (7, f)]) rfl pn_0 (Nat.le_of_ble_eq_true rfl) rfl hini ?_
    refine ev_iload_n (v := x0) (pc := 0) dX0_sendNotice_0 rfl ?_
    by_cases b1 : x0 < 0
    · rw [if_pos b1] at h
      refine ev_if_lt_t (t := 9) (pc := 1) dX0_sendNotice_1 (by decide) b1 ?_
      obtain rfl := Option.some.inj h
      exact ev_ret (pc := 9) dX0_sendNotice_9 rfl rfl (hfin _ _ _)
    · rw [if_neg b1] at h
      refine ev_if_lt_f (t := 9) (pc := 1) dX0_sendNotice_1 (by decide) b1 ?_
      refine ev_iload_n (v := x2) (pc := 4) dX0_sendNotice_4 rfl ?_
      refine ev_iconst (v := 3) (pc := 5) dX0_sendNotice_5 ki_3 ?_
      by_cases b2 : x2 ≤ 3
      · rw [if_pos b2] at h
        refine ev_icmp_le_t (t := 10) (pc := 6) dX0_sendNotice_6 (by decide) b2 ?_
        obtain ⟨v3, e4, h⟩ := rb_bd h
        refine ev_iconst (v := 0) (pc := 10) dX0_sendNotice_10 ki_0 ?_
        refine ev_istore (L' := [some (.inr 7), some (.inl x0), some (.inl x1), some (.inl x2), some (.inl 0), none, none, none, none]) (pc := 11) dX0_sendNotice_11 (Nat.le_of_ble_eq_true rfl) rfl ?_
        refine ev_aload_n (v := 7) (pc := 13) dX0_sendNotice_13 rfl ?_
        refine ev_getr (q := 11) (pc := 14) dX0_sendNotice_14 fl_RX0_9 rfl rfl ?_
        refine ev_iconst (v := 2) (pc := 17) dX0_sendNotice_17 ki_2 ?_
        refine ev_iald (pc := 18) dX0_sendNotice_18 rfl e4 ?_
        refine ev_istore (L' := [some (.inr 7), some (.inl x0), some (.inl x1), some (.inl x2), some (.inl 0), some (.inl v3), none, none, none]) (pc := 19) dX0_sendNotice_19 (Nat.le_of_ble_eq_true rfl) rfl ?_
        refine ev_iconst (v := 0) (pc := 21) dX0_sendNotice_21 ki_0 ?_
        refine ev_istore (L' := [some (.inr 7), some (.inl x0), some (.inl x1), some (.inl x2), some (.inl 0), some (.inl v3), some (.inl 0), none, none]) (pc := 22) dX0_sendNotice_22 (Nat.le_of_ble_eq_true rfl) rfl ?_
        obtain ⟨q6, l7, h⟩ := rb_bd h
        have hx11 : rb_Ev RX0 cX0_sendNotice 9 none none (8 + (n + 1)) none (rb_ov μ [(11, o.1), (12, o.2.1), (7, o.2.2)]) 181 [none, none, none, none, none, none, none, none, none] [] (rb_ov μ [(11, q6.1), (12, q6.2.1), (7, q6.2.2)]) := by
          obtain rfl := Option.some.inj h
          exact ev_ret (pc := 181) dX0_sendNotice_181 rfl rfl (hfin _ _ _)
        refine rb_lp_ev (P := fun (s5 : Int32 × Int32 × rb_Row × rb_Row × rb_Row) => rb_Ev RX0 cX0_sendNotice 9 none none (8 + (n + 1)) none (rb_ov μ [(11, o.1), (12, o.2.1), (7, o.2.2)]) 24 [some (.inr 7), some (.inl x0), some (.inl x1), some (.inl x2), some (.inl s5.1), some (.inl v3), some (.inl s5.2.1), none, none] [] (rb_ov μ [(11, s5.2.2.1), (12, s5.2.2.2.1), (7, s5.2.2.2.2)])) ?_ 100000 (0, 0, c, g, f) l7
        intro s5 y8 h ih9 hE10
        refine ev_iload (v := s5.2.1) (pc := 24) dX0_sendNotice_24 rfl ?_
        refine ev_iload (v := v3) (pc := 26) dX0_sendNotice_26 rfl ?_
        by_cases b13 : v3 ≤ s5.2.1
        · rw [if_pos b13] at h
          refine ev_icmp_ge_t (t := 181) (pc := 28) dX0_sendNotice_28 (by decide) b13 ?_
          obtain rfl := Option.some.inj h
          obtain rfl := hE10 _ rfl
          exact ev_fg (L := [none, none, none, none, none, none, none, none, none]) True.intro (hx11)
        · rw [if_neg b13] at h
          refine ev_icmp_ge_f (t := 181) (pc := 28) dX0_sendNotice_28 (by decide) b13 ?_
          obtain ⟨v14, e15, h⟩ := rb_bd h
          refine ev_aload_n (v := 7) (pc := 31) dX0_sendNotice_31 rfl ?_
          refine ev_getr (q := 11) (pc := 32) dX0_sendNotice_32 fl_RX0_9 rfl rfl ?_
          refine ev_sipush (v := 395) (pc := 35) dX0_sendNotice_35 ks_395 ?_
          refine ev_iload (v := s5.2.1) (pc := 38) dX0_sendNotice_38 rfl ?_
          refine ev_iadd (pc := 40) dX0_sendNotice_40 ?_
          refine ev_iald (pc := 41) dX0_sendNotice_41 rfl e15 ?_
          refine ev_iconst (v := 4) (pc := 42) dX0_sendNotice_42 ki_4 ?_
          refine ev_iand (pc := 43) dX0_sendNotice_43 ?_
          obtain ⟨j16, e17, h⟩ := rb_bd h
          have hj18 : rb_Ev RX0 cX0_sendNotice 9 none none (8 + (n + 1)) none (rb_ov μ [(11, o.1), (12, o.2.1), (7, o.2.2)]) 52 [some (.inr 7), some (.inl x0), some (.inl x1), some (.inl x2), some (.inl s5.1), some (.inl v3), some (.inl s5.2.1), none, none] [.inl j16] (rb_ov μ [(11, s5.2.2.1), (12, s5.2.2.2.1), (7, s5.2.2.2.2)]) := by
            obtain ⟨v20, e21, h⟩ := rb_bd h
            refine ev_istore (L' := [some (.inr 7), some (.inl x0), some (.inl x1), some (.inl x2), some (.inl s5.1), some (.inl v3), some (.inl s5.2.1), some (.inl j16), none]) (pc := 52) dX0_sendNotice_52 (Nat.le_of_ble_eq_true rfl) rfl ?_
            refine ev_aload_n (v := 7) (pc := 54) dX0_sendNotice_54 rfl ?_
            refine ev_getr (q := 11) (pc := 55) dX0_sendNotice_55 fl_RX0_9 rfl rfl ?_
            refine ev_sipush (v := 323) (pc := 58) dX0_sendNotice_58 ks_323 ?_
            refine ev_iload (v := s5.2.1) (pc := 61) dX0_sendNotice_61 rfl ?_
            refine ev_iadd (pc := 63) dX0_sendNotice_63 ?_
            refine ev_iald (pc := 64) dX0_sendNotice_64 rfl e21 ?_
            refine ev_iload_n (v := x0) (pc := 65) dX0_sendNotice_65 rfl ?_
            obtain ⟨j22, e23, h⟩ := rb_bd h
            have hj24 : rb_Ev RX0 cX0_sendNotice 9 none none (8 + (n + 1)) none (rb_ov μ [(11, o.1), (12, o.2.1), (7, o.2.2)]) 175 [some (.inr 7), some (.inl x0), some (.inl x1), some (.inl x2), some (.inl j22.1), some (.inl v3), some (.inl s5.2.1), none, none] [] (rb_ov μ [(11, j22.2.1), (12, j22.2.2.1), (7, j22.2.2.2)]) := by
              refine ev_iinc (x := s5.2.1) (v := (s5.2.1 + 1)) (L' := [some (.inr 7), some (.inl x0), some (.inl x1), some (.inl x2), some (.inl j22.1), some (.inl v3), some (.inl (s5.2.1 + 1)), none, none]) (pc := 175) dX0_sendNotice_175 rfl (kx_1 _) (Nat.le_of_ble_eq_true rfl) rfl ?_
              refine ev_goto (t := 24) (pc := 178) dX0_sendNotice_178 (by decide) ?_
              obtain rfl := Option.some.inj h
              exact ih9 (j22.1, (s5.2.1 + 1), j22.2.1, j22.2.2.1, j22.2.2.2) rfl
            replace h := e23
            by_cases b25 : v20 = x0
            · rw [if_pos b25] at h
              refine ev_icmp_ne_f (t := 175) (pc := 66) dX0_sendNotice_66 (by decide) b25 ?_
              obtain ⟨t26, e27, h⟩ := rb_bd h
              refine ev_aload_n (v := 7) (pc := 69) dX0_sendNotice_69 rfl ?_
              refine ev_getr (q := 9) (pc := 70) dX0_sendNotice_70 fl_RX0_27 rfl rfl ?_
              refine ev_iload (v := s5.2.1) (pc := 73) dX0_sendNotice_73 rfl ?_
              refine ev_iload_n (v := x1) (pc := 75) dX0_sendNotice_75 rfl ?_
              refine ev_cVi2 (pc := 76) dX0_sendNotice_76 mv_X1_heeds lk_RX0_150 rp_9 (ct1_X1_heeds _ _ _ _ _ rfl e27) (by omega) (Nat.le_of_ble_eq_true rfl) ?_
              by_cases b28 : t26 = 0
              · rw [if_pos b28] at h
                refine ev_if_eq_t (t := 175) (pc := 79) dX0_sendNotice_79 (by decide) b28 ?_
                obtain rfl := Option.some.inj h
                exact ev_fg (L := [some (.inr 7), some (.inl x0), some (.inl x1), some (.inl x2), some (.inl s5.1), some (.inl v3), some (.inl s5.2.1), none, none]) (And.intro rfl (And.intro rfl (And.intro rfl (And.intro rfl (And.intro rfl (And.intro rfl (And.intro rfl True.intro))))))) (hj24)
              · rw [if_neg b28] at h
                refine ev_if_eq_f (t := 175) (pc := 79) dX0_sendNotice_79 (by decide) b28 ?_
                refine ev_iload (v := j16) (pc := 82) dX0_sendNotice_82 rfl ?_
                by_cases b29 : j16 = 0
                · rw [if_pos b29] at h
                  refine ev_if_eq_t (t := 95) (pc := 84) dX0_sendNotice_84 (by decide) b29 ?_
                  obtain ⟨t30, e31, h⟩ := rb_bd h
                  obtain ⟨v32, e33, h⟩ := rb_bd h
                  obtain ⟨c34, e35, h⟩ := rb_bd h
                  obtain ⟨v36, e37, h⟩ := rb_bd h
                  obtain ⟨t38, e39, h⟩ := rb_bd h
                  obtain ⟨v40, e41, h⟩ := rb_bd h
                  obtain ⟨t42, e43, h⟩ := rb_bd h
                  refine ev_aload_n (v := 7) (pc := 95) dX0_sendNotice_95 rfl ?_
                  refine ev_getr (q := 9) (pc := 96) dX0_sendNotice_96 fl_RX0_27 rfl rfl ?_
                  refine ev_iload (v := s5.2.1) (pc := 99) dX0_sendNotice_99 rfl ?_
                  refine ev_cVv1w (w' := [(11, t30), (12, s5.2.2.2.1), (7, s5.2.2.2.2)]) (pc := 101) dX0_sendNotice_101 mv_X1_putOnList lk_RX0_144 rp_9 (ct1_X1_putOnList _ _ _ _ rfl e31) (by omega) (Nat.le_of_ble_eq_true rfl) rfl ?_
                  refine ev_aload_n (v := 7) (pc := 104) dX0_sendNotice_104 rfl ?_
                  refine ev_getr (q := 11) (pc := 105) dX0_sendNotice_105 fl_RX0_9 rfl rfl ?_
                  refine ev_sipush (v := 467) (pc := 108) dX0_sendNotice_108 ks_467 ?_
                  refine ev_iload (v := s5.2.1) (pc := 111) dX0_sendNotice_111 rfl ?_
                  refine ev_iadd (pc := 113) dX0_sendNotice_113 ?_
                  refine ev_dup2 (pc := 114) dX0_sendNotice_114 ?_
                  refine ev_iald (pc := 115) dX0_sendNotice_115 rfl e33 ?_
                  refine ev_iconst (v := 1) (pc := 116) dX0_sendNotice_116 ki_1 ?_
                  refine ev_iadd (pc := 117) dX0_sendNotice_117 ?_
                  refine ev_iast (w' := [(11, c34), (12, s5.2.2.2.1), (7, s5.2.2.2.2)]) (pc := 118) dX0_sendNotice_118 rfl e35 rfl ?_
                  refine ev_aload_n (v := 7) (pc := 119) dX0_sendNotice_119 rfl ?_
                  refine ev_aload_n (v := 7) (pc := 120) dX0_sendNotice_120 rfl ?_
                  refine ev_getr (q := 11) (pc := 121) dX0_sendNotice_121 fl_RX0_9 rfl rfl ?_
                  refine ev_sipush (v := 299) (pc := 124) dX0_sendNotice_124 ks_299 ?_
                  refine ev_iload (v := s5.2.1) (pc := 127) dX0_sendNotice_127 rfl ?_
                  refine ev_iadd (pc := 129) dX0_sendNotice_129 ?_
                  refine ev_iald (pc := 130) dX0_sendNotice_130 rfl e37 ?_
                  refine ev_cVi1w (w' := [(11, t38.2.1), (12, t38.2.2.1), (7, t38.2.2.2)]) (pc := 131) dX0_sendNotice_131 mv_X0_callSleepers lk_RX0_147 rp_7 (ct1_X0_callSleepers _ _ _ _ _ _ rfl rfl rfl e39) (by omega) (Nat.le_of_ble_eq_true rfl) rfl ?_
                  refine ev_istore (L' := [some (.inr 7), some (.inl x0), some (.inl x1), some (.inl x2), some (.inl s5.1), some (.inl v3), some (.inl s5.2.1), some (.inl j16), some (.inl t38.1)]) (pc := 134) dX0_sendNotice_134 (Nat.le_of_ble_eq_true rfl) rfl ?_
                  refine ev_aload_n (v := 7) (pc := 136) dX0_sendNotice_136 rfl ?_
                  refine ev_aload_n (v := 7) (pc := 137) dX0_sendNotice_137 rfl ?_
                  refine ev_getr (q := 11) (pc := 138) dX0_sendNotice_138 fl_RX0_9 rfl rfl ?_
                  refine ev_sipush (v := 299) (pc := 141) dX0_sendNotice_141 ks_299 ?_
                  refine ev_iload (v := s5.2.1) (pc := 144) dX0_sendNotice_144 rfl ?_
                  refine ev_iadd (pc := 146) dX0_sendNotice_146 ?_
                  refine ev_iald (pc := 147) dX0_sendNotice_147 rfl e41 ?_
                  refine ev_iconst (v := 1) (pc := 148) dX0_sendNotice_148 ki_1 ?_
                  refine ev_iload_n (v := x2) (pc := 149) dX0_sendNotice_149 rfl ?_
                  refine ev_iconst (v := 1) (pc := 150) dX0_sendNotice_150 ki_1 ?_
                  refine ev_iadd (pc := 151) dX0_sendNotice_151 ?_
                  refine ev_cVv3w (w' := [(11, t42.1), (12, t42.2.1), (7, t42.2.2)]) (pc := 152) dX0_sendNotice_152 mv_X0_sendNotice lk_RX0_89 rp_7 (ihn _ _ _ _ _ _ _ _ rfl rfl rfl e43) (by omega) (Nat.le_of_ble_eq_true rfl) rfl ?_
                  refine ev_iload (v := s5.1) (pc := 155) dX0_sendNotice_155 rfl ?_
                  refine ev_iload (v := j16) (pc := 157) dX0_sendNotice_157 rfl ?_
                  obtain ⟨j44, e45, h⟩ := rb_bd h
                  have hj46 : rb_Ev RX0 cX0_sendNotice 9 none none (8 + (n + 1)) none (rb_ov μ [(11, o.1), (12, o.2.1), (7, o.2.2)]) 172 [some (.inr 7), some (.inl x0), some (.inl x1), some (.inl x2), none, some (.inl v3), some (.inl s5.2.1), none, none] [.inl j44, .inl s5.1] (rb_ov μ [(11, t42.1), (12, t42.2.1), (7, t42.2.2)]) := by
                    refine ev_ior (pc := 172) dX0_sendNotice_172 ?_
                    refine ev_istore (L' := [some (.inr 7), some (.inl x0), some (.inl x1), some (.inl x2), some (.inl (s5.1 ||| j44)), some (.inl v3), some (.inl s5.2.1), none, none]) (pc := 173) dX0_sendNotice_173 (Nat.le_of_ble_eq_true rfl) rfl ?_
                    obtain rfl := Option.some.inj h
                    exact hj24
                  replace h := e45
                  by_cases b47 : j16 = 0
                  · rw [if_pos b47] at h
                    refine ev_if_eq_t (t := 171) (pc := 159) dX0_sendNotice_159 (by decide) b47 ?_
                    refine ev_iconst (v := 0) (pc := 171) dX0_sendNotice_171 ki_0 ?_
                    obtain rfl := Option.some.inj h
                    exact ev_fg (L := [some (.inr 7), some (.inl x0), some (.inl x1), some (.inl x2), none, some (.inl v3), some (.inl s5.2.1), none, none]) (And.intro rfl (And.intro rfl (And.intro rfl (And.intro rfl (And.intro rfl (And.intro rfl True.intro)))))) (hj46)
                  · rw [if_neg b47] at h
                    refine ev_if_eq_f (t := 171) (pc := 159) dX0_sendNotice_159 (by decide) b47 ?_
                    refine ev_iload (v := t38.1) (pc := 162) dX0_sendNotice_162 rfl ?_
                    by_cases b48 : t38.1 = 0
                    · rw [if_pos b48] at h
                      refine ev_if_eq_t (t := 171) (pc := 164) dX0_sendNotice_164 (by decide) b48 ?_
                      refine ev_iconst (v := 0) (pc := 171) dX0_sendNotice_171 ki_0 ?_
                      obtain rfl := Option.some.inj h
                      exact ev_fg (L := [some (.inr 7), some (.inl x0), some (.inl x1), some (.inl x2), none, some (.inl v3), some (.inl s5.2.1), none, none]) (And.intro rfl (And.intro rfl (And.intro rfl (And.intro rfl (And.intro rfl (And.intro rfl True.intro)))))) (hj46)
                    · rw [if_neg b48] at h
                      refine ev_if_eq_f (t := 171) (pc := 164) dX0_sendNotice_164 (by decide) b48 ?_
                      refine ev_iconst (v := 1) (pc := 167) dX0_sendNotice_167 ki_1 ?_
                      refine ev_goto (t := 172) (pc := 168) dX0_sendNotice_168 (by decide) ?_
                      obtain rfl := Option.some.inj h
                      exact ev_fg (L := [some (.inr 7), some (.inl x0), some (.inl x1), some (.inl x2), none, some (.inl v3), some (.inl s5.2.1), none, none]) (And.intro rfl (And.intro rfl (And.intro rfl (And.intro rfl (And.intro rfl (And.intro rfl True.intro)))))) (hj46)
                · rw [if_neg b29] at h
                  refine ev_if_eq_f (t := 95) (pc := 84) dX0_sendNotice_84 (by decide) b29 ?_
                  refine ev_iload (v := s5.1) (pc := 87) dX0_sendNotice_87 rfl ?_
                  by_cases b49 : s5.1 = 0
                  · rw [if_pos b49] at h
                    refine ev_if_eq_t (t := 95) (pc := 89) dX0_sendNotice_89 (by decide) b49 ?_
                    obtain ⟨t50, e51, h⟩ := rb_bd h
                    obtain ⟨v52, e53, h⟩ := rb_bd h
                    obtain ⟨c54, e55, h⟩ := rb_bd h
                    obtain ⟨v56, e57, h⟩ := rb_bd h
                    obtain ⟨t58, e59, h⟩ := rb_bd h
                    obtain ⟨v60, e61, h⟩ := rb_bd h
                    obtain ⟨t62, e63, h⟩ := rb_bd h
                    refine ev_aload_n (v := 7) (pc := 95) dX0_sendNotice_95 rfl ?_
                    refine ev_getr (q := 9) (pc := 96) dX0_sendNotice_96 fl_RX0_27 rfl rfl ?_
                    refine ev_iload (v := s5.2.1) (pc := 99) dX0_sendNotice_99 rfl ?_
                    refine ev_cVv1w (w' := [(11, t50), (12, s5.2.2.2.1), (7, s5.2.2.2.2)]) (pc := 101) dX0_sendNotice_101 mv_X1_putOnList lk_RX0_144 rp_9 (ct1_X1_putOnList _ _ _ _ rfl e51) (by omega) (Nat.le_of_ble_eq_true rfl) rfl ?_
                    refine ev_aload_n (v := 7) (pc := 104) dX0_sendNotice_104 rfl ?_
                    refine ev_getr (q := 11) (pc := 105) dX0_sendNotice_105 fl_RX0_9 rfl rfl ?_
                    refine ev_sipush (v := 467) (pc := 108) dX0_sendNotice_108 ks_467 ?_
                    refine ev_iload (v := s5.2.1) (pc := 111) dX0_sendNotice_111 rfl ?_
                    refine ev_iadd (pc := 113) dX0_sendNotice_113 ?_
                    refine ev_dup2 (pc := 114) dX0_sendNotice_114 ?_
                    refine ev_iald (pc := 115) dX0_sendNotice_115 rfl e53 ?_
                    refine ev_iconst (v := 1) (pc := 116) dX0_sendNotice_116 ki_1 ?_
                    refine ev_iadd (pc := 117) dX0_sendNotice_117 ?_
                    refine ev_iast (w' := [(11, c54), (12, s5.2.2.2.1), (7, s5.2.2.2.2)]) (pc := 118) dX0_sendNotice_118 rfl e55 rfl ?_
                    refine ev_aload_n (v := 7) (pc := 119) dX0_sendNotice_119 rfl ?_
                    refine ev_aload_n (v := 7) (pc := 120) dX0_sendNotice_120 rfl ?_
                    refine ev_getr (q := 11) (pc := 121) dX0_sendNotice_121 fl_RX0_9 rfl rfl ?_
                    refine ev_sipush (v := 299) (pc := 124) dX0_sendNotice_124 ks_299 ?_
                    refine ev_iload (v := s5.2.1) (pc := 127) dX0_sendNotice_127 rfl ?_
                    refine ev_iadd (pc := 129) dX0_sendNotice_129 ?_
                    refine ev_iald (pc := 130) dX0_sendNotice_130 rfl e57 ?_
                    refine ev_cVi1w (w' := [(11, t58.2.1), (12, t58.2.2.1), (7, t58.2.2.2)]) (pc := 131) dX0_sendNotice_131 mv_X0_callSleepers lk_RX0_147 rp_7 (ct1_X0_callSleepers _ _ _ _ _ _ rfl rfl rfl e59) (by omega) (Nat.le_of_ble_eq_true rfl) rfl ?_
                    refine ev_istore (L' := [some (.inr 7), some (.inl x0), some (.inl x1), some (.inl x2), some (.inl s5.1), some (.inl v3), some (.inl s5.2.1), some (.inl j16), some (.inl t58.1)]) (pc := 134) dX0_sendNotice_134 (Nat.le_of_ble_eq_true rfl) rfl ?_
                    refine ev_aload_n (v := 7) (pc := 136) dX0_sendNotice_136 rfl ?_
                    refine ev_aload_n (v := 7) (pc := 137) dX0_sendNotice_137 rfl ?_
                    refine ev_getr (q := 11) (pc := 138) dX0_sendNotice_138 fl_RX0_9 rfl rfl ?_
                    refine ev_sipush (v := 299) (pc := 141) dX0_sendNotice_141 ks_299 ?_
                    refine ev_iload (v := s5.2.1) (pc := 144) dX0_sendNotice_144 rfl ?_
                    refine ev_iadd (pc := 146) dX0_sendNotice_146 ?_
                    refine ev_iald (pc := 147) dX0_sendNotice_147 rfl e61 ?_
                    refine ev_iconst (v := 1) (pc := 148) dX0_sendNotice_148 ki_1 ?_
                    refine ev_iload_n (v := x2) (pc := 149) dX0_sendNotice_149 rfl ?_
                    refine ev_iconst (v := 1) (pc := 150) dX0_sendNotice_150 ki_1 ?_
                    refine ev_iadd (pc := 151) dX0_sendNotice_151 ?_
                    refine ev_cVv3w (w' := [(11, t62.1), (12, t62.2.1), (7, t62.2.2)]) (pc := 152) dX0_sendNotice_152 mv_X0_sendNotice lk_RX0_89 rp_7 (ihn _ _ _ _ _ _ _ _ rfl rfl rfl e63) (by omega) (Nat.le_of_ble_eq_true rfl) rfl ?_
                    refine ev_iload (v := s5.1) (pc := 155) dX0_sendNotice_155 rfl ?_
                    refine ev_iload (v := j16) (pc := 157) dX0_sendNotice_157 rfl ?_
                    obtain ⟨j64, e65, h⟩ := rb_bd h
                    have hj66 : rb_Ev RX0 cX0_sendNotice 9 none none (8 + (n + 1)) none (rb_ov μ [(11, o.1), (12, o.2.1), (7, o.2.2)]) 172 [some (.inr 7), some (.inl x0), some (.inl x1), some (.inl x2), none, some (.inl v3), some (.inl s5.2.1), none, none] [.inl j64, .inl s5.1] (rb_ov μ [(11, t62.1), (12, t62.2.1), (7, t62.2.2)]) := by
                      refine ev_ior (pc := 172) dX0_sendNotice_172 ?_
                      refine ev_istore (L' := [some (.inr 7), some (.inl x0), some (.inl x1), some (.inl x2), some (.inl (s5.1 ||| j64)), some (.inl v3), some (.inl s5.2.1), none, none]) (pc := 173) dX0_sendNotice_173 (Nat.le_of_ble_eq_true rfl) rfl ?_
                      obtain rfl := Option.some.inj h
                      exact hj24
                    replace h := e65
                    by_cases b67 : j16 = 0
                    · rw [if_pos b67] at h
                      refine ev_if_eq_t (t := 171) (pc := 159) dX0_sendNotice_159 (by decide) b67 ?_
                      refine ev_iconst (v := 0) (pc := 171) dX0_sendNotice_171 ki_0 ?_
                      obtain rfl := Option.some.inj h
                      exact ev_fg (L := [some (.inr 7), some (.inl x0), some (.inl x1), some (.inl x2), none, some (.inl v3), some (.inl s5.2.1), none, none]) (And.intro rfl (And.intro rfl (And.intro rfl (And.intro rfl (And.intro rfl (And.intro rfl True.intro)))))) (hj66)
                    · rw [if_neg b67] at h
                      refine ev_if_eq_f (t := 171) (pc := 159) dX0_sendNotice_159 (by decide) b67 ?_
                      refine ev_iload (v := t58.1) (pc := 162) dX0_sendNotice_162 rfl ?_
                      by_cases b68 : t58.1 = 0
                      · rw [if_pos b68] at h
                        refine ev_if_eq_t (t := 171) (pc := 164) dX0_sendNotice_164 (by decide) b68 ?_
                        refine ev_iconst (v := 0) (pc := 171) dX0_sendNotice_171 ki_0 ?_
                        obtain rfl := Option.some.inj h
                        exact ev_fg (L := [some (.inr 7), some (.inl x0), some (.inl x1), some (.inl x2), none, some (.inl v3), some (.inl s5.2.1), none, none]) (And.intro rfl (And.intro rfl (And.intro rfl (And.intro rfl (And.intro rfl (And.intro rfl True.intro)))))) (hj66)
                      · rw [if_neg b68] at h
                        refine ev_if_eq_f (t := 171) (pc := 164) dX0_sendNotice_164 (by decide) b68 ?_
                        refine ev_iconst (v := 1) (pc := 167) dX0_sendNotice_167 ki_1 ?_
                        refine ev_goto (t := 172) (pc := 168) dX0_sendNotice_168 (by decide) ?_
                        obtain rfl := Option.some.inj h
                        exact ev_fg (L := [some (.inr 7), some (.inl x0), some (.inl x1), some (.inl x2), none, some (.inl v3), some (.inl s5.2.1), none, none]) (And.intro rfl (And.intro rfl (And.intro rfl (And.intro rfl (And.intro rfl (And.intro rfl True.intro)))))) (hj66)
                  · rw [if_neg b49] at h
                    refine ev_if_eq_f (t := 95) (pc := 89) dX0_sendNotice_89 (by decide) b49 ?_
                    refine ev_goto (t := 175) (pc := 92) dX0_sendNotice_92 (by decide) ?_
                    obtain rfl := Option.some.inj h
                    exact ev_fg (L := [some (.inr 7), some (.inl x0), some (.inl x1), some (.inl x2), some (.inl s5.1), some (.inl v3), some (.inl s5.2.1), none, none]) (And.intro rfl (And.intro rfl (And.intro rfl (And.intro rfl (And.intro rfl (And.intro rfl (And.intro rfl True.intro))))))) (hj24)
            · rw [if_neg b25] at h
              refine ev_icmp_ne_t (t := 175) (pc := 66) dX0_sendNotice_66 (by decide) b25 ?_
              obtain rfl := Option.some.inj h
              exact ev_fg (L := [some (.inr 7), some (.inl x0), some (.inl x1), some (.inl x2), some (.inl s5.1), some (.inl v3), some (.inl s5.2.1), none, none]) (And.intro rfl (And.intro rfl (And.intro rfl (And.intro rfl (And.intro rfl (And.intro rfl (And.intro rfl True.intro))))))) (hj24)
          replace h := e17
          by_cases b19 : (v14 &&& 4) = 0
          · rw [if_pos b19] at h
            refine ev_if_eq_t (t := 51) (pc := 44) dX0_sendNotice_44 (by decide) b19 ?_
            refine ev_iconst (v := 0) (pc := 51) dX0_sendNotice_51 ki_0 ?_
            obtain rfl := Option.some.inj h
            exact hj18
          · rw [if_neg b19] at h
            refine ev_if_eq_f (t := 51) (pc := 44) dX0_sendNotice_44 (by decide) b19 ?_
            refine ev_iconst (v := 1) (pc := 47) dX0_sendNotice_47 ki_1 ?_
            refine ev_goto (t := 52) (pc := 48) dX0_sendNotice_48 (by decide) ?_
            obtain rfl := Option.some.inj h
            exact hj18
      · rw [if_neg b2] at h
        refine ev_icmp_le_f (t := 10) (pc := 6) dX0_sendNotice_6 (by decide) b2 ?_
        obtain rfl := Option.some.inj h
        exact ev_ret (pc := 9) dX0_sendNotice_9 rfl rfl (hfin _ _ _)
def XX0_connectTo (c : rb_Row) (g : rb_Row) (f : rb_Row) (x0 : Int32) : Option (Int32 × rb_Row × rb_Row × rb_Row) := (XX5_thingOfKind c x0 5).bind fun t1 => (XX5_freeHandle c).bind fun t3 => if t1 < 0 then some ((-1), c, g, f) else if 0 ≤ t3 then (rb_rd c 773 (47 + t1)).bind fun v7 => (rb_rd c 773 (215 + t1)).bind fun v9 => if v9 ≤ v7 then some ((-2), c, g, f) else (XX5_waitingInAll c).bind fun t12 => if t12 < 12 then (rb_rd c 773 (75 + t1)).bind fun v15 => (XX5_makeEnds c v15).bind fun t17 => if 0 ≤ t17.1 then (rb_wr t17.2 773 (243 + t17.1) t1).bind fun c20 => (rb_rd c20 773 1).bind fun v22 => (rb_wr c20 773 1 (v22 + 1)).bind fun c24 => (rb_wr c24 773 (271 + t17.1) v22).bind fun c26 => (rb_rd c26 773 (47 + t1)).bind fun v28 => (rb_wr c26 773 (47 + t1) (v28 + 1)).bind fun c30 => (rb_rd c30 773 (131 + t17.1)).bind fun v32 => (XX5_giveName c30 t3 v32).bind fun t34 => (XX0_sendNotice 6 t34 g f t1 1 0).bind fun t36 => some (t3, t36.1, t36.2.1, t36.2.2) else some ((-1), t17.2, g, f) else some ((-2), c, g, f) else some ((-1), c, g, f)
set_option maxHeartbeats 4000000 in
set_option maxRecDepth 20000 in
theorem ct0_X0_connectTo (μ : rb_Mem) (c : rb_Row) (g : rb_Row) (f : rb_Row) (x0 : Int32) (o : Int32 × rb_Row × rb_Row × rb_Row) (hc : μ 5 = c) (hg : μ 6 = g) (hf : μ 1 = f) (h : XX0_connectTo c g f x0 = some o) : rb_Ct yX0_connectTo cX0_connectTo 5 (some .int) 15 [.inr 1, .inl x0] μ (some o.1) (rb_ov μ [(5, o.2.1), (6, o.2.2.1), (1, o.2.2.2)]) := by
  unfold XX0_connectTo at h
  have hini : rb_ov μ [(5, c), (6, g), (1, f)] = μ := rb_ov_sf _ _ (And.intro hc (And.intro hg (And.intro hf True.intro)))
  have hfin : ∀ u0 u1 u2 : rb_Row, rb_ov μ [(5, u0), (6, u1), (1, u2)] = rb_ov μ [(5, u0), (6, u1), (1, u2)] := fun u0 u1 u2 => rfl
  refine rb_cti (w := [(5, c), (6, g), (1, f)]) rfl pn_0 (Nat.le_of_ble_eq_true rfl) rfl hini ?_
  obtain ⟨t1, e2, h⟩ := rb_bd h
  obtain ⟨t3, e4, h⟩ := rb_bd h
  refine ev_aload_n (v := 1) (pc := 0) dX0_connectTo_0 rfl ?_
  refine ev_getr (q := 2) (pc := 1) dX0_connectTo_1 fl_RX0_20 rfl rfl ?_
  refine ev_iload_n (v := x0) (pc := 4) dX0_connectTo_4 rfl ?_
  refine ev_iconst (v := 5) (pc := 5) dX0_connectTo_5 ki_5 ?_
  refine ev_cVi2 (pc := 6) dX0_connectTo_6 mv_X5_thingOfKind lk_RX0_82 rp_2 (ct0_X5_thingOfKind _ _ _ _ _ rfl e2) (Nat.le_of_ble_eq_true rfl) (Nat.le_of_ble_eq_true rfl) ?_
  refine ev_istore_n (L' := [some (.inr 1), some (.inl x0), some (.inl t1), none, none]) (pc := 9) dX0_connectTo_9 (Nat.le_of_ble_eq_true rfl) rfl ?_
  refine ev_aload_n (v := 1) (pc := 10) dX0_connectTo_10 rfl ?_
  refine ev_getr (q := 2) (pc := 11) dX0_connectTo_11 fl_RX0_20 rfl rfl ?_
  refine ev_cVi0 (pc := 14) dX0_connectTo_14 mv_X5_freeHandle lk_RX0_61 rp_2 (ct0_X5_freeHandle _ _ _ rfl e4) (Nat.le_of_ble_eq_true rfl) (Nat.le_of_ble_eq_true rfl) ?_
  refine ev_istore_n (L' := [some (.inr 1), some (.inl x0), some (.inl t1), some (.inl t3), none]) (pc := 17) dX0_connectTo_17 (Nat.le_of_ble_eq_true rfl) rfl ?_
  refine ev_iload_n (v := t1) (pc := 18) dX0_connectTo_18 rfl ?_
  by_cases b5 : t1 < 0
  · rw [if_pos b5] at h
    refine ev_if_lt_t (t := 26) (pc := 19) dX0_connectTo_19 (by decide) b5 ?_
    refine ev_iconst (v := (-1)) (pc := 26) dX0_connectTo_26 ki_m1 ?_
    obtain rfl := Option.some.inj h
    exact ev_iret (pc := 27) dX0_connectTo_27 rfl rfl rfl (hfin _ _ _)
  · rw [if_neg b5] at h
    refine ev_if_lt_f (t := 26) (pc := 19) dX0_connectTo_19 (by decide) b5 ?_
    refine ev_iload_n (v := t3) (pc := 22) dX0_connectTo_22 rfl ?_
    by_cases b6 : 0 ≤ t3
    · rw [if_pos b6] at h
      refine ev_if_ge_t (t := 28) (pc := 23) dX0_connectTo_23 (by decide) b6 ?_
      obtain ⟨v7, e8, h⟩ := rb_bd h
      obtain ⟨v9, e10, h⟩ := rb_bd h
      refine ev_aload_n (v := 1) (pc := 28) dX0_connectTo_28 rfl ?_
      refine ev_getr (q := 5) (pc := 29) dX0_connectTo_29 fl_RX0_9 rfl rfl ?_
      refine ev_bipush (v := 47) (pc := 32) dX0_connectTo_32 kb_47 ?_
      refine ev_iload_n (v := t1) (pc := 34) dX0_connectTo_34 rfl ?_
      refine ev_iadd (pc := 35) dX0_connectTo_35 ?_
      refine ev_iald (pc := 36) dX0_connectTo_36 rfl e8 ?_
      refine ev_aload_n (v := 1) (pc := 37) dX0_connectTo_37 rfl ?_
      refine ev_getr (q := 5) (pc := 38) dX0_connectTo_38 fl_RX0_9 rfl rfl ?_
      refine ev_sipush (v := 215) (pc := 41) dX0_connectTo_41 ks_215 ?_
      refine ev_iload_n (v := t1) (pc := 44) dX0_connectTo_44 rfl ?_
      refine ev_iadd (pc := 45) dX0_connectTo_45 ?_
      refine ev_iald (pc := 46) dX0_connectTo_46 rfl e10 ?_
      by_cases b11 : v9 ≤ v7
      · rw [if_pos b11] at h
        refine ev_icmp_ge_t (t := 62) (pc := 47) dX0_connectTo_47 (by decide) b11 ?_
        refine ev_bipush (v := (-2)) (pc := 62) dX0_connectTo_62 kb_m2 ?_
        obtain rfl := Option.some.inj h
        exact ev_iret (pc := 64) dX0_connectTo_64 rfl rfl rfl (hfin _ _ _)
      · rw [if_neg b11] at h
        refine ev_icmp_ge_f (t := 62) (pc := 47) dX0_connectTo_47 (by decide) b11 ?_
        obtain ⟨t12, e13, h⟩ := rb_bd h
        refine ev_aload_n (v := 1) (pc := 50) dX0_connectTo_50 rfl ?_
        refine ev_getr (q := 2) (pc := 51) dX0_connectTo_51 fl_RX0_20 rfl rfl ?_
        refine ev_cVi0 (pc := 54) dX0_connectTo_54 mv_X5_waitingInAll lk_RX0_86 rp_2 (ct0_X5_waitingInAll _ _ _ rfl e13) (Nat.le_of_ble_eq_true rfl) (Nat.le_of_ble_eq_true rfl) ?_
        refine ev_bipush (v := 12) (pc := 57) dX0_connectTo_57 kb_12 ?_
        by_cases b14 : t12 < 12
        · rw [if_pos b14] at h
          refine ev_icmp_lt_t (t := 65) (pc := 59) dX0_connectTo_59 (by decide) b14 ?_
          obtain ⟨v15, e16, h⟩ := rb_bd h
          obtain ⟨t17, e18, h⟩ := rb_bd h
          refine ev_aload_n (v := 1) (pc := 65) dX0_connectTo_65 rfl ?_
          refine ev_getr (q := 2) (pc := 66) dX0_connectTo_66 fl_RX0_20 rfl rfl ?_
          refine ev_aload_n (v := 1) (pc := 69) dX0_connectTo_69 rfl ?_
          refine ev_getr (q := 5) (pc := 70) dX0_connectTo_70 fl_RX0_9 rfl rfl ?_
          refine ev_bipush (v := 75) (pc := 73) dX0_connectTo_73 kb_75 ?_
          refine ev_iload_n (v := t1) (pc := 75) dX0_connectTo_75 rfl ?_
          refine ev_iadd (pc := 76) dX0_connectTo_76 ?_
          refine ev_iald (pc := 77) dX0_connectTo_77 rfl e16 ?_
          refine ev_cVi1w (w' := [(5, t17.2), (6, g), (1, f)]) (pc := 78) dX0_connectTo_78 mv_X5_makeEnds lk_RX0_79 rp_2 (ct0_X5_makeEnds _ _ _ _ rfl e18) (Nat.le_of_ble_eq_true rfl) (Nat.le_of_ble_eq_true rfl) rfl ?_
          refine ev_istore (L' := [some (.inr 1), some (.inl x0), some (.inl t1), some (.inl t3), some (.inl t17.1)]) (pc := 81) dX0_connectTo_81 (Nat.le_of_ble_eq_true rfl) rfl ?_
          refine ev_iload (v := t17.1) (pc := 83) dX0_connectTo_83 rfl ?_
          by_cases b19 : 0 ≤ t17.1
          · rw [if_pos b19] at h
            refine ev_if_ge_t (t := 90) (pc := 85) dX0_connectTo_85 (by decide) b19 ?_
            obtain ⟨c20, e21, h⟩ := rb_bd h
            obtain ⟨v22, e23, h⟩ := rb_bd h
            obtain ⟨c24, e25, h⟩ := rb_bd h
            obtain ⟨c26, e27, h⟩ := rb_bd h
            obtain ⟨v28, e29, h⟩ := rb_bd h
            obtain ⟨c30, e31, h⟩ := rb_bd h
            obtain ⟨v32, e33, h⟩ := rb_bd h
            obtain ⟨t34, e35, h⟩ := rb_bd h
            obtain ⟨t36, e37, h⟩ := rb_bd h
            refine ev_aload_n (v := 1) (pc := 90) dX0_connectTo_90 rfl ?_
            refine ev_getr (q := 5) (pc := 91) dX0_connectTo_91 fl_RX0_9 rfl rfl ?_
            refine ev_sipush (v := 243) (pc := 94) dX0_connectTo_94 ks_243 ?_
            refine ev_iload (v := t17.1) (pc := 97) dX0_connectTo_97 rfl ?_
            refine ev_iadd (pc := 99) dX0_connectTo_99 ?_
            refine ev_iload_n (v := t1) (pc := 100) dX0_connectTo_100 rfl ?_
            refine ev_iast (w' := [(5, c20), (6, g), (1, f)]) (pc := 101) dX0_connectTo_101 rfl e21 rfl ?_
            refine ev_aload_n (v := 1) (pc := 102) dX0_connectTo_102 rfl ?_
            refine ev_getr (q := 5) (pc := 103) dX0_connectTo_103 fl_RX0_9 rfl rfl ?_
            refine ev_sipush (v := 271) (pc := 106) dX0_connectTo_106 ks_271 ?_
            refine ev_iload (v := t17.1) (pc := 109) dX0_connectTo_109 rfl ?_
            refine ev_iadd (pc := 111) dX0_connectTo_111 ?_
            refine ev_aload_n (v := 1) (pc := 112) dX0_connectTo_112 rfl ?_
            refine ev_getr (q := 5) (pc := 113) dX0_connectTo_113 fl_RX0_9 rfl rfl ?_
            refine ev_iconst (v := 1) (pc := 116) dX0_connectTo_116 ki_1 ?_
            refine ev_dup2 (pc := 117) dX0_connectTo_117 ?_
            refine ev_iald (pc := 118) dX0_connectTo_118 rfl e23 ?_
            refine ev_dup_x2 (pc := 119) dX0_connectTo_119 ?_
            refine ev_iconst (v := 1) (pc := 120) dX0_connectTo_120 ki_1 ?_
            refine ev_iadd (pc := 121) dX0_connectTo_121 ?_
            refine ev_iast (w' := [(5, c24), (6, g), (1, f)]) (pc := 122) dX0_connectTo_122 rfl e25 rfl ?_
            refine ev_iast (w' := [(5, c26), (6, g), (1, f)]) (pc := 123) dX0_connectTo_123 rfl e27 rfl ?_
            refine ev_aload_n (v := 1) (pc := 124) dX0_connectTo_124 rfl ?_
            refine ev_getr (q := 5) (pc := 125) dX0_connectTo_125 fl_RX0_9 rfl rfl ?_
            refine ev_bipush (v := 47) (pc := 128) dX0_connectTo_128 kb_47 ?_
            refine ev_iload_n (v := t1) (pc := 130) dX0_connectTo_130 rfl ?_
            refine ev_iadd (pc := 131) dX0_connectTo_131 ?_
            refine ev_dup2 (pc := 132) dX0_connectTo_132 ?_
            refine ev_iald (pc := 133) dX0_connectTo_133 rfl e29 ?_
            refine ev_iconst (v := 1) (pc := 134) dX0_connectTo_134 ki_1 ?_
            refine ev_iadd (pc := 135) dX0_connectTo_135 ?_
            refine ev_iast (w' := [(5, c30), (6, g), (1, f)]) (pc := 136) dX0_connectTo_136 rfl e31 rfl ?_
            refine ev_aload_n (v := 1) (pc := 137) dX0_connectTo_137 rfl ?_
            refine ev_getr (q := 2) (pc := 138) dX0_connectTo_138 fl_RX0_20 rfl rfl ?_
            refine ev_iload_n (v := t3) (pc := 141) dX0_connectTo_141 rfl ?_
            refine ev_aload_n (v := 1) (pc := 142) dX0_connectTo_142 rfl ?_
            refine ev_getr (q := 5) (pc := 143) dX0_connectTo_143 fl_RX0_9 rfl rfl ?_
            refine ev_sipush (v := 131) (pc := 146) dX0_connectTo_146 ks_131 ?_
            refine ev_iload (v := t17.1) (pc := 149) dX0_connectTo_149 rfl ?_
            refine ev_iadd (pc := 151) dX0_connectTo_151 ?_
            refine ev_iald (pc := 152) dX0_connectTo_152 rfl e33 ?_
            refine ev_cVv2w (w' := [(5, t34), (6, g), (1, f)]) (pc := 153) dX0_connectTo_153 mv_X5_giveName lk_RX0_68 rp_2 (ct0_X5_giveName _ _ _ _ _ rfl e35) (Nat.le_of_ble_eq_true rfl) (Nat.le_of_ble_eq_true rfl) rfl ?_
            refine ev_aload_n (v := 1) (pc := 156) dX0_connectTo_156 rfl ?_
            refine ev_iload_n (v := t1) (pc := 157) dX0_connectTo_157 rfl ?_
            refine ev_iconst (v := 1) (pc := 158) dX0_connectTo_158 ki_1 ?_
            refine ev_iconst (v := 0) (pc := 159) dX0_connectTo_159 ki_0 ?_
            refine ev_cVv3w (w' := [(5, t36.1), (6, t36.2.1), (1, t36.2.2)]) (pc := 160) dX0_connectTo_160 mv_X0_sendNotice lk_RX0_89 rp_1 (ct0_X0_sendNotice 6 _ _ _ _ _ _ _ _ rfl rfl rfl e37) (Nat.le_of_ble_eq_true rfl) (Nat.le_of_ble_eq_true rfl) rfl ?_
            refine ev_iload_n (v := t3) (pc := 163) dX0_connectTo_163 rfl ?_
            obtain rfl := Option.some.inj h
            exact ev_iret (pc := 164) dX0_connectTo_164 rfl rfl rfl (hfin _ _ _)
          · rw [if_neg b19] at h
            refine ev_if_ge_f (t := 90) (pc := 85) dX0_connectTo_85 (by decide) b19 ?_
            refine ev_iconst (v := (-1)) (pc := 88) dX0_connectTo_88 ki_m1 ?_
            obtain rfl := Option.some.inj h
            exact ev_iret (pc := 89) dX0_connectTo_89 rfl rfl rfl (hfin _ _ _)
        · rw [if_neg b14] at h
          refine ev_icmp_lt_f (t := 65) (pc := 59) dX0_connectTo_59 (by decide) b14 ?_
          refine ev_bipush (v := (-2)) (pc := 62) dX0_connectTo_62 kb_m2 ?_
          obtain rfl := Option.some.inj h
          exact ev_iret (pc := 64) dX0_connectTo_64 rfl rfl rfl (hfin _ _ _)
    · rw [if_neg b6] at h
      refine ev_if_ge_f (t := 28) (pc := 23) dX0_connectTo_23 (by decide) b6 ?_
      refine ev_iconst (v := (-1)) (pc := 26) dX0_connectTo_26 ki_m1 ?_
      obtain rfl := Option.some.inj h
      exact ev_iret (pc := 27) dX0_connectTo_27 rfl rfl rfl (hfin _ _ _)
set_option maxHeartbeats 4000000 in
set_option maxRecDepth 20000 in
theorem ct1_X0_connectTo (μ : rb_Mem) (c : rb_Row) (g : rb_Row) (f : rb_Row) (x0 : Int32) (o : Int32 × rb_Row × rb_Row × rb_Row) (hc : μ 11 = c) (hg : μ 12 = g) (hf : μ 7 = f) (h : XX0_connectTo c g f x0 = some o) : rb_Ct yX0_connectTo cX0_connectTo 5 (some .int) 15 [.inr 7, .inl x0] μ (some o.1) (rb_ov μ [(11, o.2.1), (12, o.2.2.1), (7, o.2.2.2)]) := by
  unfold XX0_connectTo at h
  have hini : rb_ov μ [(11, c), (12, g), (7, f)] = μ := rb_ov_sf _ _ (And.intro hc (And.intro hg (And.intro hf True.intro)))
  have hfin : ∀ u0 u1 u2 : rb_Row, rb_ov μ [(11, u0), (12, u1), (7, u2)] = rb_ov μ [(11, u0), (12, u1), (7, u2)] := fun u0 u1 u2 => rfl
  refine rb_cti (w := [(11, c), (12, g), (7, f)]) rfl pn_0 (Nat.le_of_ble_eq_true rfl) rfl hini ?_
  obtain ⟨t1, e2, h⟩ := rb_bd h
  obtain ⟨t3, e4, h⟩ := rb_bd h
  refine ev_aload_n (v := 7) (pc := 0) dX0_connectTo_0 rfl ?_
  refine ev_getr (q := 8) (pc := 1) dX0_connectTo_1 fl_RX0_20 rfl rfl ?_
  refine ev_iload_n (v := x0) (pc := 4) dX0_connectTo_4 rfl ?_
  refine ev_iconst (v := 5) (pc := 5) dX0_connectTo_5 ki_5 ?_
  refine ev_cVi2 (pc := 6) dX0_connectTo_6 mv_X5_thingOfKind lk_RX0_82 rp_8 (ct1_X5_thingOfKind _ _ _ _ _ rfl e2) (Nat.le_of_ble_eq_true rfl) (Nat.le_of_ble_eq_true rfl) ?_
  refine ev_istore_n (L' := [some (.inr 7), some (.inl x0), some (.inl t1), none, none]) (pc := 9) dX0_connectTo_9 (Nat.le_of_ble_eq_true rfl) rfl ?_
  refine ev_aload_n (v := 7) (pc := 10) dX0_connectTo_10 rfl ?_
  refine ev_getr (q := 8) (pc := 11) dX0_connectTo_11 fl_RX0_20 rfl rfl ?_
  refine ev_cVi0 (pc := 14) dX0_connectTo_14 mv_X5_freeHandle lk_RX0_61 rp_8 (ct1_X5_freeHandle _ _ _ rfl e4) (Nat.le_of_ble_eq_true rfl) (Nat.le_of_ble_eq_true rfl) ?_
  refine ev_istore_n (L' := [some (.inr 7), some (.inl x0), some (.inl t1), some (.inl t3), none]) (pc := 17) dX0_connectTo_17 (Nat.le_of_ble_eq_true rfl) rfl ?_
  refine ev_iload_n (v := t1) (pc := 18) dX0_connectTo_18 rfl ?_
  by_cases b5 : t1 < 0
  · rw [if_pos b5] at h
    refine ev_if_lt_t (t := 26) (pc := 19) dX0_connectTo_19 (by decide) b5 ?_
    refine ev_iconst (v := (-1)) (pc := 26) dX0_connectTo_26 ki_m1 ?_
    obtain rfl := Option.some.inj h
    exact ev_iret (pc := 27) dX0_connectTo_27 rfl rfl rfl (hfin _ _ _)
  · rw [if_neg b5] at h
    refine ev_if_lt_f (t := 26) (pc := 19) dX0_connectTo_19 (by decide) b5 ?_
    refine ev_iload_n (v := t3) (pc := 22) dX0_connectTo_22 rfl ?_
    by_cases b6 : 0 ≤ t3
    · rw [if_pos b6] at h
      refine ev_if_ge_t (t := 28) (pc := 23) dX0_connectTo_23 (by decide) b6 ?_
      obtain ⟨v7, e8, h⟩ := rb_bd h
      obtain ⟨v9, e10, h⟩ := rb_bd h
      refine ev_aload_n (v := 7) (pc := 28) dX0_connectTo_28 rfl ?_
      refine ev_getr (q := 11) (pc := 29) dX0_connectTo_29 fl_RX0_9 rfl rfl ?_
      refine ev_bipush (v := 47) (pc := 32) dX0_connectTo_32 kb_47 ?_
      refine ev_iload_n (v := t1) (pc := 34) dX0_connectTo_34 rfl ?_
      refine ev_iadd (pc := 35) dX0_connectTo_35 ?_
      refine ev_iald (pc := 36) dX0_connectTo_36 rfl e8 ?_
      refine ev_aload_n (v := 7) (pc := 37) dX0_connectTo_37 rfl ?_
      refine ev_getr (q := 11) (pc := 38) dX0_connectTo_38 fl_RX0_9 rfl rfl ?_
      refine ev_sipush (v := 215) (pc := 41) dX0_connectTo_41 ks_215 ?_
      refine ev_iload_n (v := t1) (pc := 44) dX0_connectTo_44 rfl ?_
      refine ev_iadd (pc := 45) dX0_connectTo_45 ?_
      refine ev_iald (pc := 46) dX0_connectTo_46 rfl e10 ?_
      by_cases b11 : v9 ≤ v7
      · rw [if_pos b11] at h
        refine ev_icmp_ge_t (t := 62) (pc := 47) dX0_connectTo_47 (by decide) b11 ?_
        refine ev_bipush (v := (-2)) (pc := 62) dX0_connectTo_62 kb_m2 ?_
        obtain rfl := Option.some.inj h
        exact ev_iret (pc := 64) dX0_connectTo_64 rfl rfl rfl (hfin _ _ _)
      · rw [if_neg b11] at h
        refine ev_icmp_ge_f (t := 62) (pc := 47) dX0_connectTo_47 (by decide) b11 ?_
        obtain ⟨t12, e13, h⟩ := rb_bd h
        refine ev_aload_n (v := 7) (pc := 50) dX0_connectTo_50 rfl ?_
        refine ev_getr (q := 8) (pc := 51) dX0_connectTo_51 fl_RX0_20 rfl rfl ?_
        refine ev_cVi0 (pc := 54) dX0_connectTo_54 mv_X5_waitingInAll lk_RX0_86 rp_8 (ct1_X5_waitingInAll _ _ _ rfl e13) (Nat.le_of_ble_eq_true rfl) (Nat.le_of_ble_eq_true rfl) ?_
        refine ev_bipush (v := 12) (pc := 57) dX0_connectTo_57 kb_12 ?_
        by_cases b14 : t12 < 12
        · rw [if_pos b14] at h
          refine ev_icmp_lt_t (t := 65) (pc := 59) dX0_connectTo_59 (by decide) b14 ?_
          obtain ⟨v15, e16, h⟩ := rb_bd h
          obtain ⟨t17, e18, h⟩ := rb_bd h
          refine ev_aload_n (v := 7) (pc := 65) dX0_connectTo_65 rfl ?_
          refine ev_getr (q := 8) (pc := 66) dX0_connectTo_66 fl_RX0_20 rfl rfl ?_
          refine ev_aload_n (v := 7) (pc := 69) dX0_connectTo_69 rfl ?_
          refine ev_getr (q := 11) (pc := 70) dX0_connectTo_70 fl_RX0_9 rfl rfl ?_
          refine ev_bipush (v := 75) (pc := 73) dX0_connectTo_73 kb_75 ?_
          refine ev_iload_n (v := t1) (pc := 75) dX0_connectTo_75 rfl ?_
          refine ev_iadd (pc := 76) dX0_connectTo_76 ?_
          refine ev_iald (pc := 77) dX0_connectTo_77 rfl e16 ?_
          refine ev_cVi1w (w' := [(11, t17.2), (12, g), (7, f)]) (pc := 78) dX0_connectTo_78 mv_X5_makeEnds lk_RX0_79 rp_8 (ct1_X5_makeEnds _ _ _ _ rfl e18) (Nat.le_of_ble_eq_true rfl) (Nat.le_of_ble_eq_true rfl) rfl ?_
          refine ev_istore (L' := [some (.inr 7), some (.inl x0), some (.inl t1), some (.inl t3), some (.inl t17.1)]) (pc := 81) dX0_connectTo_81 (Nat.le_of_ble_eq_true rfl) rfl ?_
          refine ev_iload (v := t17.1) (pc := 83) dX0_connectTo_83 rfl ?_
          by_cases b19 : 0 ≤ t17.1
          · rw [if_pos b19] at h
            refine ev_if_ge_t (t := 90) (pc := 85) dX0_connectTo_85 (by decide) b19 ?_
            obtain ⟨c20, e21, h⟩ := rb_bd h
            obtain ⟨v22, e23, h⟩ := rb_bd h
            obtain ⟨c24, e25, h⟩ := rb_bd h
            obtain ⟨c26, e27, h⟩ := rb_bd h
            obtain ⟨v28, e29, h⟩ := rb_bd h
            obtain ⟨c30, e31, h⟩ := rb_bd h
            obtain ⟨v32, e33, h⟩ := rb_bd h
            obtain ⟨t34, e35, h⟩ := rb_bd h
            obtain ⟨t36, e37, h⟩ := rb_bd h
            refine ev_aload_n (v := 7) (pc := 90) dX0_connectTo_90 rfl ?_
            refine ev_getr (q := 11) (pc := 91) dX0_connectTo_91 fl_RX0_9 rfl rfl ?_
            refine ev_sipush (v := 243) (pc := 94) dX0_connectTo_94 ks_243 ?_
            refine ev_iload (v := t17.1) (pc := 97) dX0_connectTo_97 rfl ?_
            refine ev_iadd (pc := 99) dX0_connectTo_99 ?_
            refine ev_iload_n (v := t1) (pc := 100) dX0_connectTo_100 rfl ?_
            refine ev_iast (w' := [(11, c20), (12, g), (7, f)]) (pc := 101) dX0_connectTo_101 rfl e21 rfl ?_
            refine ev_aload_n (v := 7) (pc := 102) dX0_connectTo_102 rfl ?_
            refine ev_getr (q := 11) (pc := 103) dX0_connectTo_103 fl_RX0_9 rfl rfl ?_
            refine ev_sipush (v := 271) (pc := 106) dX0_connectTo_106 ks_271 ?_
            refine ev_iload (v := t17.1) (pc := 109) dX0_connectTo_109 rfl ?_
            refine ev_iadd (pc := 111) dX0_connectTo_111 ?_
            refine ev_aload_n (v := 7) (pc := 112) dX0_connectTo_112 rfl ?_
            refine ev_getr (q := 11) (pc := 113) dX0_connectTo_113 fl_RX0_9 rfl rfl ?_
            refine ev_iconst (v := 1) (pc := 116) dX0_connectTo_116 ki_1 ?_
            refine ev_dup2 (pc := 117) dX0_connectTo_117 ?_
            refine ev_iald (pc := 118) dX0_connectTo_118 rfl e23 ?_
            refine ev_dup_x2 (pc := 119) dX0_connectTo_119 ?_
            refine ev_iconst (v := 1) (pc := 120) dX0_connectTo_120 ki_1 ?_
            refine ev_iadd (pc := 121) dX0_connectTo_121 ?_
            refine ev_iast (w' := [(11, c24), (12, g), (7, f)]) (pc := 122) dX0_connectTo_122 rfl e25 rfl ?_
            refine ev_iast (w' := [(11, c26), (12, g), (7, f)]) (pc := 123) dX0_connectTo_123 rfl e27 rfl ?_
            refine ev_aload_n (v := 7) (pc := 124) dX0_connectTo_124 rfl ?_
            refine ev_getr (q := 11) (pc := 125) dX0_connectTo_125 fl_RX0_9 rfl rfl ?_
            refine ev_bipush (v := 47) (pc := 128) dX0_connectTo_128 kb_47 ?_
            refine ev_iload_n (v := t1) (pc := 130) dX0_connectTo_130 rfl ?_
            refine ev_iadd (pc := 131) dX0_connectTo_131 ?_
            refine ev_dup2 (pc := 132) dX0_connectTo_132 ?_
            refine ev_iald (pc := 133) dX0_connectTo_133 rfl e29 ?_
            refine ev_iconst (v := 1) (pc := 134) dX0_connectTo_134 ki_1 ?_
            refine ev_iadd (pc := 135) dX0_connectTo_135 ?_
            refine ev_iast (w' := [(11, c30), (12, g), (7, f)]) (pc := 136) dX0_connectTo_136 rfl e31 rfl ?_
            refine ev_aload_n (v := 7) (pc := 137) dX0_connectTo_137 rfl ?_
            refine ev_getr (q := 8) (pc := 138) dX0_connectTo_138 fl_RX0_20 rfl rfl ?_
            refine ev_iload_n (v := t3) (pc := 141) dX0_connectTo_141 rfl ?_
            refine ev_aload_n (v := 7) (pc := 142) dX0_connectTo_142 rfl ?_
            refine ev_getr (q := 11) (pc := 143) dX0_connectTo_143 fl_RX0_9 rfl rfl ?_
            refine ev_sipush (v := 131) (pc := 146) dX0_connectTo_146 ks_131 ?_
            refine ev_iload (v := t17.1) (pc := 149) dX0_connectTo_149 rfl ?_
            refine ev_iadd (pc := 151) dX0_connectTo_151 ?_
            refine ev_iald (pc := 152) dX0_connectTo_152 rfl e33 ?_
            refine ev_cVv2w (w' := [(11, t34), (12, g), (7, f)]) (pc := 153) dX0_connectTo_153 mv_X5_giveName lk_RX0_68 rp_8 (ct1_X5_giveName _ _ _ _ _ rfl e35) (Nat.le_of_ble_eq_true rfl) (Nat.le_of_ble_eq_true rfl) rfl ?_
            refine ev_aload_n (v := 7) (pc := 156) dX0_connectTo_156 rfl ?_
            refine ev_iload_n (v := t1) (pc := 157) dX0_connectTo_157 rfl ?_
            refine ev_iconst (v := 1) (pc := 158) dX0_connectTo_158 ki_1 ?_
            refine ev_iconst (v := 0) (pc := 159) dX0_connectTo_159 ki_0 ?_
            refine ev_cVv3w (w' := [(11, t36.1), (12, t36.2.1), (7, t36.2.2)]) (pc := 160) dX0_connectTo_160 mv_X0_sendNotice lk_RX0_89 rp_7 (ct1_X0_sendNotice 6 _ _ _ _ _ _ _ _ rfl rfl rfl e37) (Nat.le_of_ble_eq_true rfl) (Nat.le_of_ble_eq_true rfl) rfl ?_
            refine ev_iload_n (v := t3) (pc := 163) dX0_connectTo_163 rfl ?_
            obtain rfl := Option.some.inj h
            exact ev_iret (pc := 164) dX0_connectTo_164 rfl rfl rfl (hfin _ _ _)
          · rw [if_neg b19] at h
            refine ev_if_ge_f (t := 90) (pc := 85) dX0_connectTo_85 (by decide) b19 ?_
            refine ev_iconst (v := (-1)) (pc := 88) dX0_connectTo_88 ki_m1 ?_
            obtain rfl := Option.some.inj h
            exact ev_iret (pc := 89) dX0_connectTo_89 rfl rfl rfl (hfin _ _ _)
        · rw [if_neg b14] at h
          refine ev_icmp_lt_f (t := 65) (pc := 59) dX0_connectTo_59 (by decide) b14 ?_
          refine ev_bipush (v := (-2)) (pc := 62) dX0_connectTo_62 kb_m2 ?_
          obtain rfl := Option.some.inj h
          exact ev_iret (pc := 64) dX0_connectTo_64 rfl rfl rfl (hfin _ _ _)
    · rw [if_neg b6] at h
      refine ev_if_ge_f (t := 28) (pc := 23) dX0_connectTo_23 (by decide) b6 ?_
      refine ev_iconst (v := (-1)) (pc := 26) dX0_connectTo_26 ki_m1 ?_
      obtain rfl := Option.some.inj h
      exact ev_iret (pc := 27) dX0_connectTo_27 rfl rfl rfl (hfin _ _ _)
def XX0_acceptFrom (c : rb_Row) (x0 : Int32) : Option (Int32 × rb_Row) := (XX5_thingOfKind c x0 5).bind fun t1 => (XX5_freeHandle c).bind fun t3 => if t1 < 0 then some ((-1), c) else if 0 ≤ t3 then (XX5_longestWaiting c t1).bind fun t7 => if 0 ≤ t7 then (rb_wr c 773 (243 + t7) (-1)).bind fun c10 => (rb_rd c10 773 (47 + t1)).bind fun v12 => (rb_wr c10 773 (47 + t1) (v12 - 1)).bind fun c14 => (XX5_giveName c14 t3 t7).bind fun t16 => some (t3, t16) else some ((-2), c) else some ((-1), c)
set_option maxHeartbeats 4000000 in
set_option maxRecDepth 20000 in
theorem ct0_X0_acceptFrom (μ : rb_Mem) (c : rb_Row) (x0 : Int32) (o : Int32 × rb_Row) (hc : μ 5 = c) (h : XX0_acceptFrom c x0 = some o) : rb_Ct yX0_acceptFrom cX0_acceptFrom 5 (some .int) 2 [.inr 1, .inl x0] μ (some o.1) (rb_ov μ [(5, o.2)]) := by
  unfold XX0_acceptFrom at h
  have hini : rb_ov μ [(5, c)] = μ := rb_ov_sf _ _ (And.intro hc True.intro)
  have hfin : ∀ u0 : rb_Row, rb_ov μ [(5, u0)] = rb_ov μ [(5, u0)] := fun u0 => rfl
  refine rb_cti (w := [(5, c)]) rfl pn_0 (Nat.le_of_ble_eq_true rfl) rfl hini ?_
  obtain ⟨t1, e2, h⟩ := rb_bd h
  obtain ⟨t3, e4, h⟩ := rb_bd h
  refine ev_aload_n (v := 1) (pc := 0) dX0_acceptFrom_0 rfl ?_
  refine ev_getr (q := 2) (pc := 1) dX0_acceptFrom_1 fl_RX0_20 rfl rfl ?_
  refine ev_iload_n (v := x0) (pc := 4) dX0_acceptFrom_4 rfl ?_
  refine ev_iconst (v := 5) (pc := 5) dX0_acceptFrom_5 ki_5 ?_
  refine ev_cVi2 (pc := 6) dX0_acceptFrom_6 mv_X5_thingOfKind lk_RX0_82 rp_2 (ct0_X5_thingOfKind _ _ _ _ _ rfl e2) (Nat.le_of_ble_eq_true rfl) (Nat.le_of_ble_eq_true rfl) ?_
  refine ev_istore_n (L' := [some (.inr 1), some (.inl x0), some (.inl t1), none, none]) (pc := 9) dX0_acceptFrom_9 (Nat.le_of_ble_eq_true rfl) rfl ?_
  refine ev_aload_n (v := 1) (pc := 10) dX0_acceptFrom_10 rfl ?_
  refine ev_getr (q := 2) (pc := 11) dX0_acceptFrom_11 fl_RX0_20 rfl rfl ?_
  refine ev_cVi0 (pc := 14) dX0_acceptFrom_14 mv_X5_freeHandle lk_RX0_61 rp_2 (ct0_X5_freeHandle _ _ _ rfl e4) (Nat.le_of_ble_eq_true rfl) (Nat.le_of_ble_eq_true rfl) ?_
  refine ev_istore_n (L' := [some (.inr 1), some (.inl x0), some (.inl t1), some (.inl t3), none]) (pc := 17) dX0_acceptFrom_17 (Nat.le_of_ble_eq_true rfl) rfl ?_
  refine ev_iload_n (v := t1) (pc := 18) dX0_acceptFrom_18 rfl ?_
  by_cases b5 : t1 < 0
  · rw [if_pos b5] at h
    refine ev_if_lt_t (t := 26) (pc := 19) dX0_acceptFrom_19 (by decide) b5 ?_
    refine ev_iconst (v := (-1)) (pc := 26) dX0_acceptFrom_26 ki_m1 ?_
    obtain rfl := Option.some.inj h
    exact ev_iret (pc := 27) dX0_acceptFrom_27 rfl rfl rfl (hfin _)
  · rw [if_neg b5] at h
    refine ev_if_lt_f (t := 26) (pc := 19) dX0_acceptFrom_19 (by decide) b5 ?_
    refine ev_iload_n (v := t3) (pc := 22) dX0_acceptFrom_22 rfl ?_
    by_cases b6 : 0 ≤ t3
    · rw [if_pos b6] at h
      refine ev_if_ge_t (t := 28) (pc := 23) dX0_acceptFrom_23 (by decide) b6 ?_
      obtain ⟨t7, e8, h⟩ := rb_bd h
      refine ev_aload_n (v := 1) (pc := 28) dX0_acceptFrom_28 rfl ?_
      refine ev_getr (q := 2) (pc := 29) dX0_acceptFrom_29 fl_RX0_20 rfl rfl ?_
      refine ev_iload_n (v := t1) (pc := 32) dX0_acceptFrom_32 rfl ?_
      refine ev_cVi1 (pc := 33) dX0_acceptFrom_33 mv_X5_longestWaiting lk_RX0_93 rp_2 (ct0_X5_longestWaiting _ _ _ _ rfl e8) (Nat.le_of_ble_eq_true rfl) (Nat.le_of_ble_eq_true rfl) ?_
      refine ev_istore (L' := [some (.inr 1), some (.inl x0), some (.inl t1), some (.inl t3), some (.inl t7)]) (pc := 36) dX0_acceptFrom_36 (Nat.le_of_ble_eq_true rfl) rfl ?_
      refine ev_iload (v := t7) (pc := 38) dX0_acceptFrom_38 rfl ?_
      by_cases b9 : 0 ≤ t7
      · rw [if_pos b9] at h
        refine ev_if_ge_t (t := 46) (pc := 40) dX0_acceptFrom_40 (by decide) b9 ?_
        obtain ⟨c10, e11, h⟩ := rb_bd h
        obtain ⟨v12, e13, h⟩ := rb_bd h
        obtain ⟨c14, e15, h⟩ := rb_bd h
        obtain ⟨t16, e17, h⟩ := rb_bd h
        refine ev_aload_n (v := 1) (pc := 46) dX0_acceptFrom_46 rfl ?_
        refine ev_getr (q := 5) (pc := 47) dX0_acceptFrom_47 fl_RX0_9 rfl rfl ?_
        refine ev_sipush (v := 243) (pc := 50) dX0_acceptFrom_50 ks_243 ?_
        refine ev_iload (v := t7) (pc := 53) dX0_acceptFrom_53 rfl ?_
        refine ev_iadd (pc := 55) dX0_acceptFrom_55 ?_
        refine ev_iconst (v := (-1)) (pc := 56) dX0_acceptFrom_56 ki_m1 ?_
        refine ev_iast (w' := [(5, c10)]) (pc := 57) dX0_acceptFrom_57 rfl e11 rfl ?_
        refine ev_aload_n (v := 1) (pc := 58) dX0_acceptFrom_58 rfl ?_
        refine ev_getr (q := 5) (pc := 59) dX0_acceptFrom_59 fl_RX0_9 rfl rfl ?_
        refine ev_bipush (v := 47) (pc := 62) dX0_acceptFrom_62 kb_47 ?_
        refine ev_iload_n (v := t1) (pc := 64) dX0_acceptFrom_64 rfl ?_
        refine ev_iadd (pc := 65) dX0_acceptFrom_65 ?_
        refine ev_dup2 (pc := 66) dX0_acceptFrom_66 ?_
        refine ev_iald (pc := 67) dX0_acceptFrom_67 rfl e13 ?_
        refine ev_iconst (v := 1) (pc := 68) dX0_acceptFrom_68 ki_1 ?_
        refine ev_isub (pc := 69) dX0_acceptFrom_69 ?_
        refine ev_iast (w' := [(5, c14)]) (pc := 70) dX0_acceptFrom_70 rfl e15 rfl ?_
        refine ev_aload_n (v := 1) (pc := 71) dX0_acceptFrom_71 rfl ?_
        refine ev_getr (q := 2) (pc := 72) dX0_acceptFrom_72 fl_RX0_20 rfl rfl ?_
        refine ev_iload_n (v := t3) (pc := 75) dX0_acceptFrom_75 rfl ?_
        refine ev_iload (v := t7) (pc := 76) dX0_acceptFrom_76 rfl ?_
        refine ev_cVv2w (w' := [(5, t16)]) (pc := 78) dX0_acceptFrom_78 mv_X5_giveName lk_RX0_68 rp_2 (ct0_X5_giveName _ _ _ _ _ rfl e17) (Nat.le_of_ble_eq_true rfl) (Nat.le_of_ble_eq_true rfl) rfl ?_
        refine ev_iload_n (v := t3) (pc := 81) dX0_acceptFrom_81 rfl ?_
        obtain rfl := Option.some.inj h
        exact ev_iret (pc := 82) dX0_acceptFrom_82 rfl rfl rfl (hfin _)
      · rw [if_neg b9] at h
        refine ev_if_ge_f (t := 46) (pc := 40) dX0_acceptFrom_40 (by decide) b9 ?_
        refine ev_bipush (v := (-2)) (pc := 43) dX0_acceptFrom_43 kb_m2 ?_
        obtain rfl := Option.some.inj h
        exact ev_iret (pc := 45) dX0_acceptFrom_45 rfl rfl rfl (hfin _)
    · rw [if_neg b6] at h
      refine ev_if_ge_f (t := 28) (pc := 23) dX0_acceptFrom_23 (by decide) b6 ?_
      refine ev_iconst (v := (-1)) (pc := 26) dX0_acceptFrom_26 ki_m1 ?_
      obtain rfl := Option.some.inj h
      exact ev_iret (pc := 27) dX0_acceptFrom_27 rfl rfl rfl (hfin _)
set_option maxHeartbeats 4000000 in
set_option maxRecDepth 20000 in
theorem ct1_X0_acceptFrom (μ : rb_Mem) (c : rb_Row) (x0 : Int32) (o : Int32 × rb_Row) (hc : μ 11 = c) (h : XX0_acceptFrom c x0 = some o) : rb_Ct yX0_acceptFrom cX0_acceptFrom 5 (some .int) 2 [.inr 7, .inl x0] μ (some o.1) (rb_ov μ [(11, o.2)]) := by
  unfold XX0_acceptFrom at h
  have hini : rb_ov μ [(11, c)] = μ := rb_ov_sf _ _ (And.intro hc True.intro)
  have hfin : ∀ u0 : rb_Row, rb_ov μ [(11, u0)] = rb_ov μ [(11, u0)] := fun u0 => rfl
  refine rb_cti (w := [(11, c)]) rfl pn_0 (Nat.le_of_ble_eq_true rfl) rfl hini ?_
  obtain ⟨t1, e2, h⟩ := rb_bd h
  obtain ⟨t3, e4, h⟩ := rb_bd h
  refine ev_aload_n (v := 7) (pc := 0) dX0_acceptFrom_0 rfl ?_
  refine ev_getr (q := 8) (pc := 1) dX0_acceptFrom_1 fl_RX0_20 rfl rfl ?_
  refine ev_iload_n (v := x0) (pc := 4) dX0_acceptFrom_4 rfl ?_
  refine ev_iconst (v := 5) (pc := 5) dX0_acceptFrom_5 ki_5 ?_
  refine ev_cVi2 (pc := 6) dX0_acceptFrom_6 mv_X5_thingOfKind lk_RX0_82 rp_8 (ct1_X5_thingOfKind _ _ _ _ _ rfl e2) (Nat.le_of_ble_eq_true rfl) (Nat.le_of_ble_eq_true rfl) ?_
  refine ev_istore_n (L' := [some (.inr 7), some (.inl x0), some (.inl t1), none, none]) (pc := 9) dX0_acceptFrom_9 (Nat.le_of_ble_eq_true rfl) rfl ?_
  refine ev_aload_n (v := 7) (pc := 10) dX0_acceptFrom_10 rfl ?_
  refine ev_getr (q := 8) (pc := 11) dX0_acceptFrom_11 fl_RX0_20 rfl rfl ?_
  refine ev_cVi0 (pc := 14) dX0_acceptFrom_14 mv_X5_freeHandle lk_RX0_61 rp_8 (ct1_X5_freeHandle _ _ _ rfl e4) (Nat.le_of_ble_eq_true rfl) (Nat.le_of_ble_eq_true rfl) ?_
  refine ev_istore_n (L' := [some (.inr 7), some (.inl x0), some (.inl t1), some (.inl t3), none]) (pc := 17) dX0_acceptFrom_17 (Nat.le_of_ble_eq_true rfl) rfl ?_
  refine ev_iload_n (v := t1) (pc := 18) dX0_acceptFrom_18 rfl ?_
  by_cases b5 : t1 < 0
  · rw [if_pos b5] at h
    refine ev_if_lt_t (t := 26) (pc := 19) dX0_acceptFrom_19 (by decide) b5 ?_
    refine ev_iconst (v := (-1)) (pc := 26) dX0_acceptFrom_26 ki_m1 ?_
    obtain rfl := Option.some.inj h
    exact ev_iret (pc := 27) dX0_acceptFrom_27 rfl rfl rfl (hfin _)
  · rw [if_neg b5] at h
    refine ev_if_lt_f (t := 26) (pc := 19) dX0_acceptFrom_19 (by decide) b5 ?_
    refine ev_iload_n (v := t3) (pc := 22) dX0_acceptFrom_22 rfl ?_
    by_cases b6 : 0 ≤ t3
    · rw [if_pos b6] at h
      refine ev_if_ge_t (t := 28) (pc := 23) dX0_acceptFrom_23 (by decide) b6 ?_
      obtain ⟨t7, e8, h⟩ := rb_bd h
      refine ev_aload_n (v := 7) (pc := 28) dX0_acceptFrom_28 rfl ?_
      refine ev_getr (q := 8) (pc := 29) dX0_acceptFrom_29 fl_RX0_20 rfl rfl ?_
      refine ev_iload_n (v := t1) (pc := 32) dX0_acceptFrom_32 rfl ?_
      refine ev_cVi1 (pc := 33) dX0_acceptFrom_33 mv_X5_longestWaiting lk_RX0_93 rp_8 (ct1_X5_longestWaiting _ _ _ _ rfl e8) (Nat.le_of_ble_eq_true rfl) (Nat.le_of_ble_eq_true rfl) ?_
      refine ev_istore (L' := [some (.inr 7), some (.inl x0), some (.inl t1), some (.inl t3), some (.inl t7)]) (pc := 36) dX0_acceptFrom_36 (Nat.le_of_ble_eq_true rfl) rfl ?_
      refine ev_iload (v := t7) (pc := 38) dX0_acceptFrom_38 rfl ?_
      by_cases b9 : 0 ≤ t7
      · rw [if_pos b9] at h
        refine ev_if_ge_t (t := 46) (pc := 40) dX0_acceptFrom_40 (by decide) b9 ?_
        obtain ⟨c10, e11, h⟩ := rb_bd h
        obtain ⟨v12, e13, h⟩ := rb_bd h
        obtain ⟨c14, e15, h⟩ := rb_bd h
        obtain ⟨t16, e17, h⟩ := rb_bd h
        refine ev_aload_n (v := 7) (pc := 46) dX0_acceptFrom_46 rfl ?_
        refine ev_getr (q := 11) (pc := 47) dX0_acceptFrom_47 fl_RX0_9 rfl rfl ?_
        refine ev_sipush (v := 243) (pc := 50) dX0_acceptFrom_50 ks_243 ?_
        refine ev_iload (v := t7) (pc := 53) dX0_acceptFrom_53 rfl ?_
        refine ev_iadd (pc := 55) dX0_acceptFrom_55 ?_
        refine ev_iconst (v := (-1)) (pc := 56) dX0_acceptFrom_56 ki_m1 ?_
        refine ev_iast (w' := [(11, c10)]) (pc := 57) dX0_acceptFrom_57 rfl e11 rfl ?_
        refine ev_aload_n (v := 7) (pc := 58) dX0_acceptFrom_58 rfl ?_
        refine ev_getr (q := 11) (pc := 59) dX0_acceptFrom_59 fl_RX0_9 rfl rfl ?_
        refine ev_bipush (v := 47) (pc := 62) dX0_acceptFrom_62 kb_47 ?_
        refine ev_iload_n (v := t1) (pc := 64) dX0_acceptFrom_64 rfl ?_
        refine ev_iadd (pc := 65) dX0_acceptFrom_65 ?_
        refine ev_dup2 (pc := 66) dX0_acceptFrom_66 ?_
        refine ev_iald (pc := 67) dX0_acceptFrom_67 rfl e13 ?_
        refine ev_iconst (v := 1) (pc := 68) dX0_acceptFrom_68 ki_1 ?_
        refine ev_isub (pc := 69) dX0_acceptFrom_69 ?_
        refine ev_iast (w' := [(11, c14)]) (pc := 70) dX0_acceptFrom_70 rfl e15 rfl ?_
        refine ev_aload_n (v := 7) (pc := 71) dX0_acceptFrom_71 rfl ?_
        refine ev_getr (q := 8) (pc := 72) dX0_acceptFrom_72 fl_RX0_20 rfl rfl ?_
        refine ev_iload_n (v := t3) (pc := 75) dX0_acceptFrom_75 rfl ?_
        refine ev_iload (v := t7) (pc := 76) dX0_acceptFrom_76 rfl ?_
        refine ev_cVv2w (w' := [(11, t16)]) (pc := 78) dX0_acceptFrom_78 mv_X5_giveName lk_RX0_68 rp_8 (ct1_X5_giveName _ _ _ _ _ rfl e17) (Nat.le_of_ble_eq_true rfl) (Nat.le_of_ble_eq_true rfl) rfl ?_
        refine ev_iload_n (v := t3) (pc := 81) dX0_acceptFrom_81 rfl ?_
        obtain rfl := Option.some.inj h
        exact ev_iret (pc := 82) dX0_acceptFrom_82 rfl rfl rfl (hfin _)
      · rw [if_neg b9] at h
        refine ev_if_ge_f (t := 46) (pc := 40) dX0_acceptFrom_40 (by decide) b9 ?_
        refine ev_bipush (v := (-2)) (pc := 43) dX0_acceptFrom_43 kb_m2 ?_
        obtain rfl := Option.some.inj h
        exact ev_iret (pc := 45) dX0_acceptFrom_45 rfl rfl rfl (hfin _)
    · rw [if_neg b6] at h
      refine ev_if_ge_f (t := 28) (pc := 23) dX0_acceptFrom_23 (by decide) b6 ?_
      refine ev_iconst (v := (-1)) (pc := 26) dX0_acceptFrom_26 ki_m1 ?_
      obtain rfl := Option.some.inj h
      exact ev_iret (pc := 27) dX0_acceptFrom_27 rfl rfl rfl (hfin _)
def XX0_closeHandle (c : rb_Row) (g : rb_Row) (f : rb_Row) (x0 : Int32) : Option (Int32 × rb_Row × rb_Row × rb_Row) := (XX5_thingOf c x0).bind fun t1 => if 0 ≤ t1 then (XX5_giveName c x0 (-1)).bind fun t4 => (XX5_lowestHandle t4 t1).bind fun t6 => if t6 < 0 then (rb_rd t4 773 (19 + t1)).bind fun v9 => (rb_rd t4 773 (131 + t1)).bind fun v11 => (XX1_removeAllOf t4 t1).bind fun t13 => (XX4_dismissFrom t13 t1).bind fun t15 => (rb_lp (ρ := rb_Row × rb_Row × rb_Row) (fun (s17 : Int32 × rb_Row × rb_Row × rb_Row) => if 12 ≤ s17.1 then some (.inr (s17.2.1, s17.2.2.1, s17.2.2.2)) else if v9 = 5 then (XX5_longestWaiting s17.2.1 t1).bind fun t27 => if 0 ≤ t27 then (rb_rd s17.2.1 773 (131 + t27)).bind fun v30 => (XX5_remove s17.2.1 t27).bind fun t32 => (XX0_sendNotice 6 t32 s17.2.2.1 s17.2.2.2 v30 8 0).bind fun t34 => some (.inl ((s17.1 + 1), t34.1, t34.2.1, t34.2.2)) else some (.inr (s17.2.1, s17.2.2.1, s17.2.2.2)) else some (.inr (s17.2.1, s17.2.2.1, s17.2.2.2))) 100000 (0, t15, g, f)).bind fun q18 => (XX5_remove q18.1 t1).bind fun t36 => ((if v9 = 1 then some 4 else some 8) : Option (Int32)).bind fun j38 => (XX0_sendNotice 6 t36 q18.2.1 q18.2.2 v11 j38 0).bind fun t42 => some ((rb_nz 1), t42.1, t42.2.1, t42.2.2) else some ((rb_nz 1), t4, g, f) else some ((rb_nz 0), c, g, f)
set_option maxHeartbeats 4000000 in
set_option maxRecDepth 20000 in
theorem ct0_X0_closeHandle (μ : rb_Mem) (c : rb_Row) (g : rb_Row) (f : rb_Row) (x0 : Int32) (o : Int32 × rb_Row × rb_Row × rb_Row) (hc : μ 5 = c) (hg : μ 6 = g) (hf : μ 1 = f) (h : XX0_closeHandle c g f x0 = some o) : rb_Ct yX0_closeHandle cX0_closeHandle 8 (some .boolean) 15 [.inr 1, .inl x0] μ (some o.1) (rb_ov μ [(5, o.2.1), (6, o.2.2.1), (1, o.2.2.2)]) := by
  unfold XX0_closeHandle at h
  have hini : rb_ov μ [(5, c), (6, g), (1, f)] = μ := rb_ov_sf _ _ (And.intro hc (And.intro hg (And.intro hf True.intro)))
  have hfin : ∀ u0 u1 u2 : rb_Row, rb_ov μ [(5, u0), (6, u1), (1, u2)] = rb_ov μ [(5, u0), (6, u1), (1, u2)] := fun u0 u1 u2 => rfl
  refine rb_ctz (w := [(5, c), (6, g), (1, f)]) rfl pn_0 (Nat.le_of_ble_eq_true rfl) rfl hini ?_
  obtain ⟨t1, e2, h⟩ := rb_bd h
  refine ev_aload_n (v := 1) (pc := 0) dX0_closeHandle_0 rfl ?_
  refine ev_getr (q := 2) (pc := 1) dX0_closeHandle_1 fl_RX0_20 rfl rfl ?_
  refine ev_iload_n (v := x0) (pc := 4) dX0_closeHandle_4 rfl ?_
  refine ev_cVi1 (pc := 5) dX0_closeHandle_5 mv_X5_thingOf lk_RX0_96 rp_2 (ct0_X5_thingOf _ _ _ _ rfl e2) (Nat.le_of_ble_eq_true rfl) (Nat.le_of_ble_eq_true rfl) ?_
  refine ev_istore_n (L' := [some (.inr 1), some (.inl x0), some (.inl t1), none, none, none, none, none]) (pc := 8) dX0_closeHandle_8 (Nat.le_of_ble_eq_true rfl) rfl ?_
  refine ev_iload_n (v := t1) (pc := 9) dX0_closeHandle_9 rfl ?_
  by_cases b3 : 0 ≤ t1
  · rw [if_pos b3] at h
    refine ev_if_ge_t (t := 15) (pc := 10) dX0_closeHandle_10 (by decide) b3 ?_
    obtain ⟨t4, e5, h⟩ := rb_bd h
    obtain ⟨t6, e7, h⟩ := rb_bd h
    refine ev_aload_n (v := 1) (pc := 15) dX0_closeHandle_15 rfl ?_
    refine ev_getr (q := 2) (pc := 16) dX0_closeHandle_16 fl_RX0_20 rfl rfl ?_
    refine ev_iload_n (v := x0) (pc := 19) dX0_closeHandle_19 rfl ?_
    refine ev_iconst (v := (-1)) (pc := 20) dX0_closeHandle_20 ki_m1 ?_
    refine ev_cVv2w (w' := [(5, t4), (6, g), (1, f)]) (pc := 21) dX0_closeHandle_21 mv_X5_giveName lk_RX0_68 rp_2 (ct0_X5_giveName _ _ _ _ _ rfl e5) (Nat.le_of_ble_eq_true rfl) (Nat.le_of_ble_eq_true rfl) rfl ?_
    refine ev_aload_n (v := 1) (pc := 24) dX0_closeHandle_24 rfl ?_
    refine ev_getr (q := 2) (pc := 25) dX0_closeHandle_25 fl_RX0_20 rfl rfl ?_
    refine ev_iload_n (v := t1) (pc := 28) dX0_closeHandle_28 rfl ?_
    refine ev_cVi1 (pc := 29) dX0_closeHandle_29 mv_X5_lowestHandle lk_RX0_57 rp_2 (ct0_X5_lowestHandle _ _ _ _ rfl e7) (Nat.le_of_ble_eq_true rfl) (Nat.le_of_ble_eq_true rfl) ?_
    by_cases b8 : t6 < 0
    · rw [if_pos b8] at h
      refine ev_if_lt_t (t := 37) (pc := 32) dX0_closeHandle_32 (by decide) b8 ?_
      obtain ⟨v9, e10, h⟩ := rb_bd h
      obtain ⟨v11, e12, h⟩ := rb_bd h
      obtain ⟨t13, e14, h⟩ := rb_bd h
      obtain ⟨t15, e16, h⟩ := rb_bd h
      refine ev_aload_n (v := 1) (pc := 37) dX0_closeHandle_37 rfl ?_
      refine ev_getr (q := 5) (pc := 38) dX0_closeHandle_38 fl_RX0_9 rfl rfl ?_
      refine ev_bipush (v := 19) (pc := 41) dX0_closeHandle_41 kb_19 ?_
      refine ev_iload_n (v := t1) (pc := 43) dX0_closeHandle_43 rfl ?_
      refine ev_iadd (pc := 44) dX0_closeHandle_44 ?_
      refine ev_iald (pc := 45) dX0_closeHandle_45 rfl e10 ?_
      refine ev_istore_n (L' := [some (.inr 1), some (.inl x0), some (.inl t1), some (.inl v9), none, none, none, none]) (pc := 46) dX0_closeHandle_46 (Nat.le_of_ble_eq_true rfl) rfl ?_
      refine ev_aload_n (v := 1) (pc := 47) dX0_closeHandle_47 rfl ?_
      refine ev_getr (q := 5) (pc := 48) dX0_closeHandle_48 fl_RX0_9 rfl rfl ?_
      refine ev_sipush (v := 131) (pc := 51) dX0_closeHandle_51 ks_131 ?_
      refine ev_iload_n (v := t1) (pc := 54) dX0_closeHandle_54 rfl ?_
      refine ev_iadd (pc := 55) dX0_closeHandle_55 ?_
      refine ev_iald (pc := 56) dX0_closeHandle_56 rfl e12 ?_
      refine ev_istore (L' := [some (.inr 1), some (.inl x0), some (.inl t1), some (.inl v9), some (.inl v11), none, none, none]) (pc := 57) dX0_closeHandle_57 (Nat.le_of_ble_eq_true rfl) rfl ?_
      refine ev_aload_n (v := 1) (pc := 59) dX0_closeHandle_59 rfl ?_
      refine ev_getr (q := 3) (pc := 60) dX0_closeHandle_60 fl_RX0_27 rfl rfl ?_
      refine ev_iload_n (v := t1) (pc := 63) dX0_closeHandle_63 rfl ?_
      refine ev_cVv1w (w' := [(5, t13), (6, g), (1, f)]) (pc := 64) dX0_closeHandle_64 mv_X1_removeAllOf lk_RX0_99 rp_3 (ct0_X1_removeAllOf _ _ _ _ rfl e14) (Nat.le_of_ble_eq_true rfl) (Nat.le_of_ble_eq_true rfl) rfl ?_
      refine ev_aload_n (v := 1) (pc := 67) dX0_closeHandle_67 rfl ?_
      refine ev_getr (q := 4) (pc := 68) dX0_closeHandle_68 fl_RX0_34 rfl rfl ?_
      refine ev_iload_n (v := t1) (pc := 71) dX0_closeHandle_71 rfl ?_
      refine ev_cVv1w (w' := [(5, t15), (6, g), (1, f)]) (pc := 72) dX0_closeHandle_72 mv_X4_dismissFrom lk_RX0_103 rp_4 (ct0_X4_dismissFrom _ _ _ _ rfl e16) (Nat.le_of_ble_eq_true rfl) (Nat.le_of_ble_eq_true rfl) rfl ?_
      refine ev_iconst (v := 0) (pc := 75) dX0_closeHandle_75 ki_0 ?_
      refine ev_istore (L' := [some (.inr 1), some (.inl x0), some (.inl t1), some (.inl v9), some (.inl v11), some (.inl 0), none, none]) (pc := 76) dX0_closeHandle_76 (Nat.le_of_ble_eq_true rfl) rfl ?_
      obtain ⟨q18, l19, h⟩ := rb_bd h
      have hx23 : rb_Ev RX0 cX0_closeHandle 8 (some .boolean) none 15 (some o.1) (rb_ov μ [(5, o.2.1), (6, o.2.2.1), (1, o.2.2.2)]) 145 [some (.inr 1), none, some (.inl t1), some (.inl v9), some (.inl v11), none, none, none] [] (rb_ov μ [(5, q18.1), (6, q18.2.1), (1, q18.2.2)]) := by
        obtain ⟨t36, e37, h⟩ := rb_bd h
        refine ev_aload_n (v := 1) (pc := 145) dX0_closeHandle_145 rfl ?_
        refine ev_getr (q := 2) (pc := 146) dX0_closeHandle_146 fl_RX0_20 rfl rfl ?_
        refine ev_iload_n (v := t1) (pc := 149) dX0_closeHandle_149 rfl ?_
        refine ev_cVv1w (w' := [(5, t36), (6, q18.2.1), (1, q18.2.2)]) (pc := 150) dX0_closeHandle_150 mv_X5_remove lk_RX0_106 rp_2 (ct0_X5_remove _ _ _ _ rfl e37) (Nat.le_of_ble_eq_true rfl) (Nat.le_of_ble_eq_true rfl) rfl ?_
        refine ev_aload_n (v := 1) (pc := 153) dX0_closeHandle_153 rfl ?_
        refine ev_iload (v := v11) (pc := 154) dX0_closeHandle_154 rfl ?_
        refine ev_iload_n (v := v9) (pc := 156) dX0_closeHandle_156 rfl ?_
        refine ev_iconst (v := 1) (pc := 157) dX0_closeHandle_157 ki_1 ?_
        obtain ⟨j38, e39, h⟩ := rb_bd h
        have hj40 : rb_Ev RX0 cX0_closeHandle 8 (some .boolean) none 15 (some o.1) (rb_ov μ [(5, o.2.1), (6, o.2.2.1), (1, o.2.2.2)]) 167 [none, none, none, none, none, none, none, none] [.inl j38, .inl v11, .inr 1] (rb_ov μ [(5, t36), (6, q18.2.1), (1, q18.2.2)]) := by
          obtain ⟨t42, e43, h⟩ := rb_bd h
          refine ev_iconst (v := 0) (pc := 167) dX0_closeHandle_167 ki_0 ?_
          refine ev_cVv3w (w' := [(5, t42.1), (6, t42.2.1), (1, t42.2.2)]) (pc := 168) dX0_closeHandle_168 mv_X0_sendNotice lk_RX0_89 rp_1 (ct0_X0_sendNotice 6 _ _ _ _ _ _ _ _ rfl rfl rfl e43) (Nat.le_of_ble_eq_true rfl) (Nat.le_of_ble_eq_true rfl) rfl ?_
          refine ev_iconst (v := 1) (pc := 171) dX0_closeHandle_171 ki_1 ?_
          obtain rfl := Option.some.inj h
          exact ev_iret (pc := 172) dX0_closeHandle_172 rfl rfl rfl (hfin _ _ _)
        replace h := e39
        by_cases b41 : v9 = 1
        · rw [if_pos b41] at h
          refine ev_icmp_ne_f (t := 165) (pc := 158) dX0_closeHandle_158 (by decide) b41 ?_
          refine ev_iconst (v := 4) (pc := 161) dX0_closeHandle_161 ki_4 ?_
          refine ev_goto (t := 167) (pc := 162) dX0_closeHandle_162 (by decide) ?_
          obtain rfl := Option.some.inj h
          exact ev_fg (L := [none, none, none, none, none, none, none, none]) True.intro (hj40)
        · rw [if_neg b41] at h
          refine ev_icmp_ne_t (t := 165) (pc := 158) dX0_closeHandle_158 (by decide) b41 ?_
          refine ev_bipush (v := 8) (pc := 165) dX0_closeHandle_165 kb_8 ?_
          obtain rfl := Option.some.inj h
          exact ev_fg (L := [none, none, none, none, none, none, none, none]) True.intro (hj40)
      refine ev_fg (L := [some (.inr 1), none, some (.inl t1), some (.inl v9), some (.inl v11), some (.inl 0), none, none]) (And.intro rfl (And.intro rfl (And.intro rfl (And.intro rfl (And.intro rfl True.intro))))) ?_
      refine rb_lp_ev (P := fun (s17 : Int32 × rb_Row × rb_Row × rb_Row) => rb_Ev RX0 cX0_closeHandle 8 (some .boolean) none 15 (some o.1) (rb_ov μ [(5, o.2.1), (6, o.2.2.1), (1, o.2.2.2)]) 78 [some (.inr 1), none, some (.inl t1), some (.inl v9), some (.inl v11), some (.inl s17.1), none, none] [] (rb_ov μ [(5, s17.2.1), (6, s17.2.2.1), (1, s17.2.2.2)])) ?_ 100000 (0, t15, g, f) l19
      intro s17 y20 h ih21 hE22
      refine ev_iload (v := s17.1) (pc := 78) dX0_closeHandle_78 rfl ?_
      refine ev_bipush (v := 12) (pc := 80) dX0_closeHandle_80 kb_12 ?_
      by_cases b25 : 12 ≤ s17.1
      · rw [if_pos b25] at h
        refine ev_icmp_ge_t (t := 145) (pc := 82) dX0_closeHandle_82 (by decide) b25 ?_
        obtain rfl := Option.some.inj h
        obtain rfl := hE22 _ rfl
        exact ev_fg (L := [some (.inr 1), none, some (.inl t1), some (.inl v9), some (.inl v11), none, none, none]) (And.intro rfl (And.intro rfl (And.intro rfl (And.intro rfl True.intro)))) (hx23)
      · rw [if_neg b25] at h
        refine ev_icmp_ge_f (t := 145) (pc := 82) dX0_closeHandle_82 (by decide) b25 ?_
        refine ev_iload_n (v := v9) (pc := 85) dX0_closeHandle_85 rfl ?_
        refine ev_iconst (v := 5) (pc := 86) dX0_closeHandle_86 ki_5 ?_
        by_cases b26 : v9 = 5
        · rw [if_pos b26] at h
          refine ev_icmp_ne_f (t := 145) (pc := 87) dX0_closeHandle_87 (by decide) b26 ?_
          obtain ⟨t27, e28, h⟩ := rb_bd h
          refine ev_aload_n (v := 1) (pc := 90) dX0_closeHandle_90 rfl ?_
          refine ev_getr (q := 2) (pc := 91) dX0_closeHandle_91 fl_RX0_20 rfl rfl ?_
          refine ev_iload_n (v := t1) (pc := 94) dX0_closeHandle_94 rfl ?_
          refine ev_cVi1 (pc := 95) dX0_closeHandle_95 mv_X5_longestWaiting lk_RX0_93 rp_2 (ct0_X5_longestWaiting _ _ _ _ rfl e28) (Nat.le_of_ble_eq_true rfl) (Nat.le_of_ble_eq_true rfl) ?_
          refine ev_istore (L' := [some (.inr 1), none, some (.inl t1), some (.inl v9), some (.inl v11), some (.inl s17.1), some (.inl t27), none]) (pc := 98) dX0_closeHandle_98 (Nat.le_of_ble_eq_true rfl) rfl ?_
          refine ev_iload (v := t27) (pc := 100) dX0_closeHandle_100 rfl ?_
          by_cases b29 : 0 ≤ t27
          · rw [if_pos b29] at h
            refine ev_if_ge_t (t := 108) (pc := 102) dX0_closeHandle_102 (by decide) b29 ?_
            obtain ⟨v30, e31, h⟩ := rb_bd h
            obtain ⟨t32, e33, h⟩ := rb_bd h
            obtain ⟨t34, e35, h⟩ := rb_bd h
            refine ev_aload_n (v := 1) (pc := 108) dX0_closeHandle_108 rfl ?_
            refine ev_getr (q := 5) (pc := 109) dX0_closeHandle_109 fl_RX0_9 rfl rfl ?_
            refine ev_sipush (v := 131) (pc := 112) dX0_closeHandle_112 ks_131 ?_
            refine ev_iload (v := t27) (pc := 115) dX0_closeHandle_115 rfl ?_
            refine ev_iadd (pc := 117) dX0_closeHandle_117 ?_
            refine ev_iald (pc := 118) dX0_closeHandle_118 rfl e31 ?_
            refine ev_istore (L' := [some (.inr 1), none, some (.inl t1), some (.inl v9), some (.inl v11), some (.inl s17.1), some (.inl t27), some (.inl v30)]) (pc := 119) dX0_closeHandle_119 (Nat.le_of_ble_eq_true rfl) rfl ?_
            refine ev_aload_n (v := 1) (pc := 121) dX0_closeHandle_121 rfl ?_
            refine ev_getr (q := 2) (pc := 122) dX0_closeHandle_122 fl_RX0_20 rfl rfl ?_
            refine ev_iload (v := t27) (pc := 125) dX0_closeHandle_125 rfl ?_
            refine ev_cVv1w (w' := [(5, t32), (6, s17.2.2.1), (1, s17.2.2.2)]) (pc := 127) dX0_closeHandle_127 mv_X5_remove lk_RX0_106 rp_2 (ct0_X5_remove _ _ _ _ rfl e33) (Nat.le_of_ble_eq_true rfl) (Nat.le_of_ble_eq_true rfl) rfl ?_
            refine ev_aload_n (v := 1) (pc := 130) dX0_closeHandle_130 rfl ?_
            refine ev_iload (v := v30) (pc := 131) dX0_closeHandle_131 rfl ?_
            refine ev_bipush (v := 8) (pc := 133) dX0_closeHandle_133 kb_8 ?_
            refine ev_iconst (v := 0) (pc := 135) dX0_closeHandle_135 ki_0 ?_
            refine ev_cVv3w (w' := [(5, t34.1), (6, t34.2.1), (1, t34.2.2)]) (pc := 136) dX0_closeHandle_136 mv_X0_sendNotice lk_RX0_89 rp_1 (ct0_X0_sendNotice 6 _ _ _ _ _ _ _ _ rfl rfl rfl e35) (Nat.le_of_ble_eq_true rfl) (Nat.le_of_ble_eq_true rfl) rfl ?_
            refine ev_iinc (x := s17.1) (v := (s17.1 + 1)) (L' := [some (.inr 1), none, some (.inl t1), some (.inl v9), some (.inl v11), some (.inl (s17.1 + 1)), some (.inl t27), some (.inl v30)]) (pc := 139) dX0_closeHandle_139 rfl (kx_1 _) (Nat.le_of_ble_eq_true rfl) rfl ?_
            refine ev_goto (t := 78) (pc := 142) dX0_closeHandle_142 (by decide) ?_
            obtain rfl := Option.some.inj h
            exact ev_fg (L := [some (.inr 1), none, some (.inl t1), some (.inl v9), some (.inl v11), some (.inl (s17.1 + 1)), none, none]) (And.intro rfl (And.intro rfl (And.intro rfl (And.intro rfl (And.intro rfl True.intro))))) (ih21 ((s17.1 + 1), t34.1, t34.2.1, t34.2.2) rfl)
          · rw [if_neg b29] at h
            refine ev_if_ge_f (t := 108) (pc := 102) dX0_closeHandle_102 (by decide) b29 ?_
            refine ev_goto (t := 145) (pc := 105) dX0_closeHandle_105 (by decide) ?_
            obtain rfl := Option.some.inj h
            obtain rfl := hE22 _ rfl
            exact ev_fg (L := [some (.inr 1), none, some (.inl t1), some (.inl v9), some (.inl v11), none, none, none]) (And.intro rfl (And.intro rfl (And.intro rfl (And.intro rfl True.intro)))) (hx23)
        · rw [if_neg b26] at h
          refine ev_icmp_ne_t (t := 145) (pc := 87) dX0_closeHandle_87 (by decide) b26 ?_
          obtain rfl := Option.some.inj h
          obtain rfl := hE22 _ rfl
          exact ev_fg (L := [some (.inr 1), none, some (.inl t1), some (.inl v9), some (.inl v11), none, none, none]) (And.intro rfl (And.intro rfl (And.intro rfl (And.intro rfl True.intro)))) (hx23)
    · rw [if_neg b8] at h
      refine ev_if_lt_f (t := 37) (pc := 32) dX0_closeHandle_32 (by decide) b8 ?_
      refine ev_iconst (v := 1) (pc := 35) dX0_closeHandle_35 ki_1 ?_
      obtain rfl := Option.some.inj h
      exact ev_iret (pc := 36) dX0_closeHandle_36 rfl rfl rfl (hfin _ _ _)
  · rw [if_neg b3] at h
    refine ev_if_ge_f (t := 15) (pc := 10) dX0_closeHandle_10 (by decide) b3 ?_
    refine ev_iconst (v := 0) (pc := 13) dX0_closeHandle_13 ki_0 ?_
    obtain rfl := Option.some.inj h
    exact ev_iret (pc := 14) dX0_closeHandle_14 rfl rfl rfl (hfin _ _ _)
set_option maxHeartbeats 4000000 in
set_option maxRecDepth 20000 in
theorem ct1_X0_closeHandle (μ : rb_Mem) (c : rb_Row) (g : rb_Row) (f : rb_Row) (x0 : Int32) (o : Int32 × rb_Row × rb_Row × rb_Row) (hc : μ 11 = c) (hg : μ 12 = g) (hf : μ 7 = f) (h : XX0_closeHandle c g f x0 = some o) : rb_Ct yX0_closeHandle cX0_closeHandle 8 (some .boolean) 15 [.inr 7, .inl x0] μ (some o.1) (rb_ov μ [(11, o.2.1), (12, o.2.2.1), (7, o.2.2.2)]) := by
  unfold XX0_closeHandle at h
  have hini : rb_ov μ [(11, c), (12, g), (7, f)] = μ := rb_ov_sf _ _ (And.intro hc (And.intro hg (And.intro hf True.intro)))
  have hfin : ∀ u0 u1 u2 : rb_Row, rb_ov μ [(11, u0), (12, u1), (7, u2)] = rb_ov μ [(11, u0), (12, u1), (7, u2)] := fun u0 u1 u2 => rfl
  refine rb_ctz (w := [(11, c), (12, g), (7, f)]) rfl pn_0 (Nat.le_of_ble_eq_true rfl) rfl hini ?_
  obtain ⟨t1, e2, h⟩ := rb_bd h
  refine ev_aload_n (v := 7) (pc := 0) dX0_closeHandle_0 rfl ?_
  refine ev_getr (q := 8) (pc := 1) dX0_closeHandle_1 fl_RX0_20 rfl rfl ?_
  refine ev_iload_n (v := x0) (pc := 4) dX0_closeHandle_4 rfl ?_
  refine ev_cVi1 (pc := 5) dX0_closeHandle_5 mv_X5_thingOf lk_RX0_96 rp_8 (ct1_X5_thingOf _ _ _ _ rfl e2) (Nat.le_of_ble_eq_true rfl) (Nat.le_of_ble_eq_true rfl) ?_
  refine ev_istore_n (L' := [some (.inr 7), some (.inl x0), some (.inl t1), none, none, none, none, none]) (pc := 8) dX0_closeHandle_8 (Nat.le_of_ble_eq_true rfl) rfl ?_
  refine ev_iload_n (v := t1) (pc := 9) dX0_closeHandle_9 rfl ?_
  by_cases b3 : 0 ≤ t1
  · rw [if_pos b3] at h
    refine ev_if_ge_t (t := 15) (pc := 10) dX0_closeHandle_10 (by decide) b3 ?_
    obtain ⟨t4, e5, h⟩ := rb_bd h
    obtain ⟨t6, e7, h⟩ := rb_bd h
    refine ev_aload_n (v := 7) (pc := 15) dX0_closeHandle_15 rfl ?_
    refine ev_getr (q := 8) (pc := 16) dX0_closeHandle_16 fl_RX0_20 rfl rfl ?_
    refine ev_iload_n (v := x0) (pc := 19) dX0_closeHandle_19 rfl ?_
    refine ev_iconst (v := (-1)) (pc := 20) dX0_closeHandle_20 ki_m1 ?_
    refine ev_cVv2w (w' := [(11, t4), (12, g), (7, f)]) (pc := 21) dX0_closeHandle_21 mv_X5_giveName lk_RX0_68 rp_8 (ct1_X5_giveName _ _ _ _ _ rfl e5) (Nat.le_of_ble_eq_true rfl) (Nat.le_of_ble_eq_true rfl) rfl ?_
    refine ev_aload_n (v := 7) (pc := 24) dX0_closeHandle_24 rfl ?_
    refine ev_getr (q := 8) (pc := 25) dX0_closeHandle_25 fl_RX0_20 rfl rfl ?_
    refine ev_iload_n (v := t1) (pc := 28) dX0_closeHandle_28 rfl ?_
    refine ev_cVi1 (pc := 29) dX0_closeHandle_29 mv_X5_lowestHandle lk_RX0_57 rp_8 (ct1_X5_lowestHandle _ _ _ _ rfl e7) (Nat.le_of_ble_eq_true rfl) (Nat.le_of_ble_eq_true rfl) ?_
    by_cases b8 : t6 < 0
    · rw [if_pos b8] at h
      refine ev_if_lt_t (t := 37) (pc := 32) dX0_closeHandle_32 (by decide) b8 ?_
      obtain ⟨v9, e10, h⟩ := rb_bd h
      obtain ⟨v11, e12, h⟩ := rb_bd h
      obtain ⟨t13, e14, h⟩ := rb_bd h
      obtain ⟨t15, e16, h⟩ := rb_bd h
      refine ev_aload_n (v := 7) (pc := 37) dX0_closeHandle_37 rfl ?_
      refine ev_getr (q := 11) (pc := 38) dX0_closeHandle_38 fl_RX0_9 rfl rfl ?_
      refine ev_bipush (v := 19) (pc := 41) dX0_closeHandle_41 kb_19 ?_
      refine ev_iload_n (v := t1) (pc := 43) dX0_closeHandle_43 rfl ?_
      refine ev_iadd (pc := 44) dX0_closeHandle_44 ?_
      refine ev_iald (pc := 45) dX0_closeHandle_45 rfl e10 ?_
      refine ev_istore_n (L' := [some (.inr 7), some (.inl x0), some (.inl t1), some (.inl v9), none, none, none, none]) (pc := 46) dX0_closeHandle_46 (Nat.le_of_ble_eq_true rfl) rfl ?_
      refine ev_aload_n (v := 7) (pc := 47) dX0_closeHandle_47 rfl ?_
      refine ev_getr (q := 11) (pc := 48) dX0_closeHandle_48 fl_RX0_9 rfl rfl ?_
      refine ev_sipush (v := 131) (pc := 51) dX0_closeHandle_51 ks_131 ?_
      refine ev_iload_n (v := t1) (pc := 54) dX0_closeHandle_54 rfl ?_
      refine ev_iadd (pc := 55) dX0_closeHandle_55 ?_
      refine ev_iald (pc := 56) dX0_closeHandle_56 rfl e12 ?_
      refine ev_istore (L' := [some (.inr 7), some (.inl x0), some (.inl t1), some (.inl v9), some (.inl v11), none, none, none]) (pc := 57) dX0_closeHandle_57 (Nat.le_of_ble_eq_true rfl) rfl ?_
      refine ev_aload_n (v := 7) (pc := 59) dX0_closeHandle_59 rfl ?_
      refine ev_getr (q := 9) (pc := 60) dX0_closeHandle_60 fl_RX0_27 rfl rfl ?_
      refine ev_iload_n (v := t1) (pc := 63) dX0_closeHandle_63 rfl ?_
      refine ev_cVv1w (w' := [(11, t13), (12, g), (7, f)]) (pc := 64) dX0_closeHandle_64 mv_X1_removeAllOf lk_RX0_99 rp_9 (ct1_X1_removeAllOf _ _ _ _ rfl e14) (Nat.le_of_ble_eq_true rfl) (Nat.le_of_ble_eq_true rfl) rfl ?_
      refine ev_aload_n (v := 7) (pc := 67) dX0_closeHandle_67 rfl ?_
      refine ev_getr (q := 10) (pc := 68) dX0_closeHandle_68 fl_RX0_34 rfl rfl ?_
      refine ev_iload_n (v := t1) (pc := 71) dX0_closeHandle_71 rfl ?_
      refine ev_cVv1w (w' := [(11, t15), (12, g), (7, f)]) (pc := 72) dX0_closeHandle_72 mv_X4_dismissFrom lk_RX0_103 rp_10 (ct1_X4_dismissFrom _ _ _ _ rfl e16) (Nat.le_of_ble_eq_true rfl) (Nat.le_of_ble_eq_true rfl) rfl ?_
      refine ev_iconst (v := 0) (pc := 75) dX0_closeHandle_75 ki_0 ?_
      refine ev_istore (L' := [some (.inr 7), some (.inl x0), some (.inl t1), some (.inl v9), some (.inl v11), some (.inl 0), none, none]) (pc := 76) dX0_closeHandle_76 (Nat.le_of_ble_eq_true rfl) rfl ?_
      obtain ⟨q18, l19, h⟩ := rb_bd h
      have hx23 : rb_Ev RX0 cX0_closeHandle 8 (some .boolean) none 15 (some o.1) (rb_ov μ [(11, o.2.1), (12, o.2.2.1), (7, o.2.2.2)]) 145 [some (.inr 7), none, some (.inl t1), some (.inl v9), some (.inl v11), none, none, none] [] (rb_ov μ [(11, q18.1), (12, q18.2.1), (7, q18.2.2)]) := by
        obtain ⟨t36, e37, h⟩ := rb_bd h
        refine ev_aload_n (v := 7) (pc := 145) dX0_closeHandle_145 rfl ?_
        refine ev_getr (q := 8) (pc := 146) dX0_closeHandle_146 fl_RX0_20 rfl rfl ?_
        refine ev_iload_n (v := t1) (pc := 149) dX0_closeHandle_149 rfl ?_
        refine ev_cVv1w (w' := [(11, t36), (12, q18.2.1), (7, q18.2.2)]) (pc := 150) dX0_closeHandle_150 mv_X5_remove lk_RX0_106 rp_8 (ct1_X5_remove _ _ _ _ rfl e37) (Nat.le_of_ble_eq_true rfl) (Nat.le_of_ble_eq_true rfl) rfl ?_
        refine ev_aload_n (v := 7) (pc := 153) dX0_closeHandle_153 rfl ?_
        refine ev_iload (v := v11) (pc := 154) dX0_closeHandle_154 rfl ?_
        refine ev_iload_n (v := v9) (pc := 156) dX0_closeHandle_156 rfl ?_
        refine ev_iconst (v := 1) (pc := 157) dX0_closeHandle_157 ki_1 ?_
        obtain ⟨j38, e39, h⟩ := rb_bd h
        have hj40 : rb_Ev RX0 cX0_closeHandle 8 (some .boolean) none 15 (some o.1) (rb_ov μ [(11, o.2.1), (12, o.2.2.1), (7, o.2.2.2)]) 167 [none, none, none, none, none, none, none, none] [.inl j38, .inl v11, .inr 7] (rb_ov μ [(11, t36), (12, q18.2.1), (7, q18.2.2)]) := by
          obtain ⟨t42, e43, h⟩ := rb_bd h
          refine ev_iconst (v := 0) (pc := 167) dX0_closeHandle_167 ki_0 ?_
          refine ev_cVv3w (w' := [(11, t42.1), (12, t42.2.1), (7, t42.2.2)]) (pc := 168) dX0_closeHandle_168 mv_X0_sendNotice lk_RX0_89 rp_7 (ct1_X0_sendNotice 6 _ _ _ _ _ _ _ _ rfl rfl rfl e43) (Nat.le_of_ble_eq_true rfl) (Nat.le_of_ble_eq_true rfl) rfl ?_
          refine ev_iconst (v := 1) (pc := 171) dX0_closeHandle_171 ki_1 ?_
          obtain rfl := Option.some.inj h
          exact ev_iret (pc := 172) dX0_closeHandle_172 rfl rfl rfl (hfin _ _ _)
        replace h := e39
        by_cases b41 : v9 = 1
        · rw [if_pos b41] at h
          refine ev_icmp_ne_f (t := 165) (pc := 158) dX0_closeHandle_158 (by decide) b41 ?_
          refine ev_iconst (v := 4) (pc := 161) dX0_closeHandle_161 ki_4 ?_
          refine ev_goto (t := 167) (pc := 162) dX0_closeHandle_162 (by decide) ?_
          obtain rfl := Option.some.inj h
          exact ev_fg (L := [none, none, none, none, none, none, none, none]) True.intro (hj40)
        · rw [if_neg b41] at h
          refine ev_icmp_ne_t (t := 165) (pc := 158) dX0_closeHandle_158 (by decide) b41 ?_
          refine ev_bipush (v := 8) (pc := 165) dX0_closeHandle_165 kb_8 ?_
          obtain rfl := Option.some.inj h
          exact ev_fg (L := [none, none, none, none, none, none, none, none]) True.intro (hj40)
      refine ev_fg (L := [some (.inr 7), none, some (.inl t1), some (.inl v9), some (.inl v11), some (.inl 0), none, none]) (And.intro rfl (And.intro rfl (And.intro rfl (And.intro rfl (And.intro rfl True.intro))))) ?_
      refine rb_lp_ev (P := fun (s17 : Int32 × rb_Row × rb_Row × rb_Row) => rb_Ev RX0 cX0_closeHandle 8 (some .boolean) none 15 (some o.1) (rb_ov μ [(11, o.2.1), (12, o.2.2.1), (7, o.2.2.2)]) 78 [some (.inr 7), none, some (.inl t1), some (.inl v9), some (.inl v11), some (.inl s17.1), none, none] [] (rb_ov μ [(11, s17.2.1), (12, s17.2.2.1), (7, s17.2.2.2)])) ?_ 100000 (0, t15, g, f) l19
      intro s17 y20 h ih21 hE22
      refine ev_iload (v := s17.1) (pc := 78) dX0_closeHandle_78 rfl ?_
      refine ev_bipush (v := 12) (pc := 80) dX0_closeHandle_80 kb_12 ?_
      by_cases b25 : 12 ≤ s17.1
      · rw [if_pos b25] at h
        refine ev_icmp_ge_t (t := 145) (pc := 82) dX0_closeHandle_82 (by decide) b25 ?_
        obtain rfl := Option.some.inj h
        obtain rfl := hE22 _ rfl
        exact ev_fg (L := [some (.inr 7), none, some (.inl t1), some (.inl v9), some (.inl v11), none, none, none]) (And.intro rfl (And.intro rfl (And.intro rfl (And.intro rfl True.intro)))) (hx23)
      · rw [if_neg b25] at h
        refine ev_icmp_ge_f (t := 145) (pc := 82) dX0_closeHandle_82 (by decide) b25 ?_
        refine ev_iload_n (v := v9) (pc := 85) dX0_closeHandle_85 rfl ?_
        refine ev_iconst (v := 5) (pc := 86) dX0_closeHandle_86 ki_5 ?_
        by_cases b26 : v9 = 5
        · rw [if_pos b26] at h
          refine ev_icmp_ne_f (t := 145) (pc := 87) dX0_closeHandle_87 (by decide) b26 ?_
          obtain ⟨t27, e28, h⟩ := rb_bd h
          refine ev_aload_n (v := 7) (pc := 90) dX0_closeHandle_90 rfl ?_
          refine ev_getr (q := 8) (pc := 91) dX0_closeHandle_91 fl_RX0_20 rfl rfl ?_
          refine ev_iload_n (v := t1) (pc := 94) dX0_closeHandle_94 rfl ?_
          refine ev_cVi1 (pc := 95) dX0_closeHandle_95 mv_X5_longestWaiting lk_RX0_93 rp_8 (ct1_X5_longestWaiting _ _ _ _ rfl e28) (Nat.le_of_ble_eq_true rfl) (Nat.le_of_ble_eq_true rfl) ?_
          refine ev_istore (L' := [some (.inr 7), none, some (.inl t1), some (.inl v9), some (.inl v11), some (.inl s17.1), some (.inl t27), none]) (pc := 98) dX0_closeHandle_98 (Nat.le_of_ble_eq_true rfl) rfl ?_
          refine ev_iload (v := t27) (pc := 100) dX0_closeHandle_100 rfl ?_
          by_cases b29 : 0 ≤ t27
          · rw [if_pos b29] at h
            refine ev_if_ge_t (t := 108) (pc := 102) dX0_closeHandle_102 (by decide) b29 ?_
            obtain ⟨v30, e31, h⟩ := rb_bd h
            obtain ⟨t32, e33, h⟩ := rb_bd h
            obtain ⟨t34, e35, h⟩ := rb_bd h
            refine ev_aload_n (v := 7) (pc := 108) dX0_closeHandle_108 rfl ?_
            refine ev_getr (q := 11) (pc := 109) dX0_closeHandle_109 fl_RX0_9 rfl rfl ?_
            refine ev_sipush (v := 131) (pc := 112) dX0_closeHandle_112 ks_131 ?_
            refine ev_iload (v := t27) (pc := 115) dX0_closeHandle_115 rfl ?_
            refine ev_iadd (pc := 117) dX0_closeHandle_117 ?_
            refine ev_iald (pc := 118) dX0_closeHandle_118 rfl e31 ?_
            refine ev_istore (L' := [some (.inr 7), none, some (.inl t1), some (.inl v9), some (.inl v11), some (.inl s17.1), some (.inl t27), some (.inl v30)]) (pc := 119) dX0_closeHandle_119 (Nat.le_of_ble_eq_true rfl) rfl ?_
            refine ev_aload_n (v := 7) (pc := 121) dX0_closeHandle_121 rfl ?_
            refine ev_getr (q := 8) (pc := 122) dX0_closeHandle_122 fl_RX0_20 rfl rfl ?_
            refine ev_iload (v := t27) (pc := 125) dX0_closeHandle_125 rfl ?_
            refine ev_cVv1w (w' := [(11, t32), (12, s17.2.2.1), (7, s17.2.2.2)]) (pc := 127) dX0_closeHandle_127 mv_X5_remove lk_RX0_106 rp_8 (ct1_X5_remove _ _ _ _ rfl e33) (Nat.le_of_ble_eq_true rfl) (Nat.le_of_ble_eq_true rfl) rfl ?_
            refine ev_aload_n (v := 7) (pc := 130) dX0_closeHandle_130 rfl ?_
            refine ev_iload (v := v30) (pc := 131) dX0_closeHandle_131 rfl ?_
            refine ev_bipush (v := 8) (pc := 133) dX0_closeHandle_133 kb_8 ?_
            refine ev_iconst (v := 0) (pc := 135) dX0_closeHandle_135 ki_0 ?_
            refine ev_cVv3w (w' := [(11, t34.1), (12, t34.2.1), (7, t34.2.2)]) (pc := 136) dX0_closeHandle_136 mv_X0_sendNotice lk_RX0_89 rp_7 (ct1_X0_sendNotice 6 _ _ _ _ _ _ _ _ rfl rfl rfl e35) (Nat.le_of_ble_eq_true rfl) (Nat.le_of_ble_eq_true rfl) rfl ?_
            refine ev_iinc (x := s17.1) (v := (s17.1 + 1)) (L' := [some (.inr 7), none, some (.inl t1), some (.inl v9), some (.inl v11), some (.inl (s17.1 + 1)), some (.inl t27), some (.inl v30)]) (pc := 139) dX0_closeHandle_139 rfl (kx_1 _) (Nat.le_of_ble_eq_true rfl) rfl ?_
            refine ev_goto (t := 78) (pc := 142) dX0_closeHandle_142 (by decide) ?_
            obtain rfl := Option.some.inj h
            exact ev_fg (L := [some (.inr 7), none, some (.inl t1), some (.inl v9), some (.inl v11), some (.inl (s17.1 + 1)), none, none]) (And.intro rfl (And.intro rfl (And.intro rfl (And.intro rfl (And.intro rfl True.intro))))) (ih21 ((s17.1 + 1), t34.1, t34.2.1, t34.2.2) rfl)
          · rw [if_neg b29] at h
            refine ev_if_ge_f (t := 108) (pc := 102) dX0_closeHandle_102 (by decide) b29 ?_
            refine ev_goto (t := 145) (pc := 105) dX0_closeHandle_105 (by decide) ?_
            obtain rfl := Option.some.inj h
            obtain rfl := hE22 _ rfl
            exact ev_fg (L := [some (.inr 7), none, some (.inl t1), some (.inl v9), some (.inl v11), none, none, none]) (And.intro rfl (And.intro rfl (And.intro rfl (And.intro rfl True.intro)))) (hx23)
        · rw [if_neg b26] at h
          refine ev_icmp_ne_t (t := 145) (pc := 87) dX0_closeHandle_87 (by decide) b26 ?_
          obtain rfl := Option.some.inj h
          obtain rfl := hE22 _ rfl
          exact ev_fg (L := [some (.inr 7), none, some (.inl t1), some (.inl v9), some (.inl v11), none, none, none]) (And.intro rfl (And.intro rfl (And.intro rfl (And.intro rfl True.intro)))) (hx23)
    · rw [if_neg b8] at h
      refine ev_if_lt_f (t := 37) (pc := 32) dX0_closeHandle_32 (by decide) b8 ?_
      refine ev_iconst (v := 1) (pc := 35) dX0_closeHandle_35 ki_1 ?_
      obtain rfl := Option.some.inj h
      exact ev_iret (pc := 36) dX0_closeHandle_36 rfl rfl rfl (hfin _ _ _)
  · rw [if_neg b3] at h
    refine ev_if_ge_f (t := 15) (pc := 10) dX0_closeHandle_10 (by decide) b3 ?_
    refine ev_iconst (v := 0) (pc := 13) dX0_closeHandle_13 ki_0 ?_
    obtain rfl := Option.some.inj h
    exact ev_iret (pc := 14) dX0_closeHandle_14 rfl rfl rfl (hfin _ _ _)
def XX0_writeTo (c : rb_Row) (g : rb_Row) (f : rb_Row) (x0 : Int32) (x1 : Int32) : Option (Int32 × rb_Row × rb_Row × rb_Row) := (XX5_thingOf c x0).bind fun t1 => if t1 < 0 then some ((-1), c, g, f) else (XX6_between x1 1 100).bind fun t4 => if t4 = 0 then some ((-1), c, g, f) else (rb_rd c 773 (47 + t1)).bind fun v7 => (rb_rd c 773 (19 + t1)).bind fun v9 => if v9 = 2 then if (v7 + x1) ≤ 1000 then (rb_wr c 773 (47 + t1) (v7 + x1)).bind fun c13 => (XX0_sendNotice 6 c13 g f t1 1 0).bind fun t15 => some (x1, t15.1, t15.2.1, t15.2.2) else some (0, c, g, f) else (rb_rd c 773 (19 + t1)).bind fun v17 => if v17 = 1 then (rb_rd c 773 (131 + t1)).bind fun v20 => if 0 ≤ v20 then (rb_rd c 773 (75 + t1)).bind fun v23 => if 0 < (rb_min x1 (v23 - v7)) then (XX5_setHeld c t1 (v7 + (rb_min x1 (v23 - v7)))).bind fun t26 => (rb_rd t26 773 (131 + t1)).bind fun v28 => (XX0_sendNotice 6 t26 g f v28 1 0).bind fun t30 => some ((rb_min x1 (v23 - v7)), t30.1, t30.2.1, t30.2.2) else some (0, c, g, f) else some ((-2), c, g, f) else some ((-1), c, g, f)
set_option maxHeartbeats 4000000 in
set_option maxRecDepth 20000 in
theorem ct0_X0_writeTo (μ : rb_Mem) (c : rb_Row) (g : rb_Row) (f : rb_Row) (x0 : Int32) (x1 : Int32) (o : Int32 × rb_Row × rb_Row × rb_Row) (hc : μ 5 = c) (hg : μ 6 = g) (hf : μ 1 = f) (h : XX0_writeTo c g f x0 x1 = some o) : rb_Ct yX0_writeTo cX0_writeTo 6 (some .int) 15 [.inr 1, .inl x0, .inl x1] μ (some o.1) (rb_ov μ [(5, o.2.1), (6, o.2.2.1), (1, o.2.2.2)]) := by
  unfold XX0_writeTo at h
  have hini : rb_ov μ [(5, c), (6, g), (1, f)] = μ := rb_ov_sf _ _ (And.intro hc (And.intro hg (And.intro hf True.intro)))
  have hfin : ∀ u0 u1 u2 : rb_Row, rb_ov μ [(5, u0), (6, u1), (1, u2)] = rb_ov μ [(5, u0), (6, u1), (1, u2)] := fun u0 u1 u2 => rfl
  refine rb_cti (w := [(5, c), (6, g), (1, f)]) rfl pn_0 (Nat.le_of_ble_eq_true rfl) rfl hini ?_
  obtain ⟨t1, e2, h⟩ := rb_bd h
  refine ev_aload_n (v := 1) (pc := 0) dX0_writeTo_0 rfl ?_
  refine ev_getr (q := 2) (pc := 1) dX0_writeTo_1 fl_RX0_20 rfl rfl ?_
  refine ev_iload_n (v := x0) (pc := 4) dX0_writeTo_4 rfl ?_
  refine ev_cVi1 (pc := 5) dX0_writeTo_5 mv_X5_thingOf lk_RX0_96 rp_2 (ct0_X5_thingOf _ _ _ _ rfl e2) (Nat.le_of_ble_eq_true rfl) (Nat.le_of_ble_eq_true rfl) ?_
  refine ev_istore_n (L' := [some (.inr 1), some (.inl x0), some (.inl x1), some (.inl t1), none, none]) (pc := 8) dX0_writeTo_8 (Nat.le_of_ble_eq_true rfl) rfl ?_
  refine ev_iload_n (v := t1) (pc := 9) dX0_writeTo_9 rfl ?_
  by_cases b3 : t1 < 0
  · rw [if_pos b3] at h
    refine ev_if_lt_t (t := 23) (pc := 10) dX0_writeTo_10 (by decide) b3 ?_
    refine ev_iconst (v := (-1)) (pc := 23) dX0_writeTo_23 ki_m1 ?_
    obtain rfl := Option.some.inj h
    exact ev_iret (pc := 24) dX0_writeTo_24 rfl rfl rfl (hfin _ _ _)
  · rw [if_neg b3] at h
    refine ev_if_lt_f (t := 23) (pc := 10) dX0_writeTo_10 (by decide) b3 ?_
    obtain ⟨t4, e5, h⟩ := rb_bd h
    refine ev_iload_n (v := x1) (pc := 13) dX0_writeTo_13 rfl ?_
    refine ev_iconst (v := 1) (pc := 14) dX0_writeTo_14 ki_1 ?_
    refine ev_bipush (v := 100) (pc := 15) dX0_writeTo_15 kb_100 ?_
    refine ev_cSi3 (pc := 17) dX0_writeTo_17 ms_X6_between lk_RX0_72 (ct_X6_between _ _ _ _ _ e5) (Nat.le_of_ble_eq_true rfl) (Nat.le_of_ble_eq_true rfl) ?_
    by_cases b6 : t4 = 0
    · rw [if_pos b6] at h
      refine ev_if_ne_f (t := 25) (pc := 20) dX0_writeTo_20 (by decide) b6 ?_
      refine ev_iconst (v := (-1)) (pc := 23) dX0_writeTo_23 ki_m1 ?_
      obtain rfl := Option.some.inj h
      exact ev_iret (pc := 24) dX0_writeTo_24 rfl rfl rfl (hfin _ _ _)
    · rw [if_neg b6] at h
      refine ev_if_ne_t (t := 25) (pc := 20) dX0_writeTo_20 (by decide) b6 ?_
      obtain ⟨v7, e8, h⟩ := rb_bd h
      obtain ⟨v9, e10, h⟩ := rb_bd h
      refine ev_aload_n (v := 1) (pc := 25) dX0_writeTo_25 rfl ?_
      refine ev_getr (q := 5) (pc := 26) dX0_writeTo_26 fl_RX0_9 rfl rfl ?_
      refine ev_bipush (v := 47) (pc := 29) dX0_writeTo_29 kb_47 ?_
      refine ev_iload_n (v := t1) (pc := 31) dX0_writeTo_31 rfl ?_
      refine ev_iadd (pc := 32) dX0_writeTo_32 ?_
      refine ev_iald (pc := 33) dX0_writeTo_33 rfl e8 ?_
      refine ev_istore (L' := [some (.inr 1), some (.inl x0), some (.inl x1), some (.inl t1), some (.inl v7), none]) (pc := 34) dX0_writeTo_34 (Nat.le_of_ble_eq_true rfl) rfl ?_
      refine ev_aload_n (v := 1) (pc := 36) dX0_writeTo_36 rfl ?_
      refine ev_getr (q := 5) (pc := 37) dX0_writeTo_37 fl_RX0_9 rfl rfl ?_
      refine ev_bipush (v := 19) (pc := 40) dX0_writeTo_40 kb_19 ?_
      refine ev_iload_n (v := t1) (pc := 42) dX0_writeTo_42 rfl ?_
      refine ev_iadd (pc := 43) dX0_writeTo_43 ?_
      refine ev_iald (pc := 44) dX0_writeTo_44 rfl e10 ?_
      refine ev_iconst (v := 2) (pc := 45) dX0_writeTo_45 ki_2 ?_
      by_cases b11 : v9 = 2
      · rw [if_pos b11] at h
        refine ev_icmp_ne_f (t := 83) (pc := 46) dX0_writeTo_46 (by decide) b11 ?_
        refine ev_iload (v := v7) (pc := 49) dX0_writeTo_49 rfl ?_
        refine ev_iload_n (v := x1) (pc := 51) dX0_writeTo_51 rfl ?_
        refine ev_iadd (pc := 52) dX0_writeTo_52 ?_
        refine ev_sipush (v := 1000) (pc := 53) dX0_writeTo_53 ks_1000 ?_
        by_cases b12 : (v7 + x1) ≤ 1000
        · rw [if_pos b12] at h
          refine ev_icmp_le_t (t := 61) (pc := 56) dX0_writeTo_56 (by decide) b12 ?_
          obtain ⟨c13, e14, h⟩ := rb_bd h
          obtain ⟨t15, e16, h⟩ := rb_bd h
          refine ev_aload_n (v := 1) (pc := 61) dX0_writeTo_61 rfl ?_
          refine ev_getr (q := 5) (pc := 62) dX0_writeTo_62 fl_RX0_9 rfl rfl ?_
          refine ev_bipush (v := 47) (pc := 65) dX0_writeTo_65 kb_47 ?_
          refine ev_iload_n (v := t1) (pc := 67) dX0_writeTo_67 rfl ?_
          refine ev_iadd (pc := 68) dX0_writeTo_68 ?_
          refine ev_iload (v := v7) (pc := 69) dX0_writeTo_69 rfl ?_
          refine ev_iload_n (v := x1) (pc := 71) dX0_writeTo_71 rfl ?_
          refine ev_iadd (pc := 72) dX0_writeTo_72 ?_
          refine ev_iast (w' := [(5, c13), (6, g), (1, f)]) (pc := 73) dX0_writeTo_73 rfl e14 rfl ?_
          refine ev_aload_n (v := 1) (pc := 74) dX0_writeTo_74 rfl ?_
          refine ev_iload_n (v := t1) (pc := 75) dX0_writeTo_75 rfl ?_
          refine ev_iconst (v := 1) (pc := 76) dX0_writeTo_76 ki_1 ?_
          refine ev_iconst (v := 0) (pc := 77) dX0_writeTo_77 ki_0 ?_
          refine ev_cVv3w (w' := [(5, t15.1), (6, t15.2.1), (1, t15.2.2)]) (pc := 78) dX0_writeTo_78 mv_X0_sendNotice lk_RX0_89 rp_1 (ct0_X0_sendNotice 6 _ _ _ _ _ _ _ _ rfl rfl rfl e16) (Nat.le_of_ble_eq_true rfl) (Nat.le_of_ble_eq_true rfl) rfl ?_
          refine ev_iload_n (v := x1) (pc := 81) dX0_writeTo_81 rfl ?_
          obtain rfl := Option.some.inj h
          exact ev_iret (pc := 82) dX0_writeTo_82 rfl rfl rfl (hfin _ _ _)
        · rw [if_neg b12] at h
          refine ev_icmp_le_f (t := 61) (pc := 56) dX0_writeTo_56 (by decide) b12 ?_
          refine ev_iconst (v := 0) (pc := 59) dX0_writeTo_59 ki_0 ?_
          obtain rfl := Option.some.inj h
          exact ev_iret (pc := 60) dX0_writeTo_60 rfl rfl rfl (hfin _ _ _)
      · rw [if_neg b11] at h
        refine ev_icmp_ne_t (t := 83) (pc := 46) dX0_writeTo_46 (by decide) b11 ?_
        obtain ⟨v17, e18, h⟩ := rb_bd h
        refine ev_aload_n (v := 1) (pc := 83) dX0_writeTo_83 rfl ?_
        refine ev_getr (q := 5) (pc := 84) dX0_writeTo_84 fl_RX0_9 rfl rfl ?_
        refine ev_bipush (v := 19) (pc := 87) dX0_writeTo_87 kb_19 ?_
        refine ev_iload_n (v := t1) (pc := 89) dX0_writeTo_89 rfl ?_
        refine ev_iadd (pc := 90) dX0_writeTo_90 ?_
        refine ev_iald (pc := 91) dX0_writeTo_91 rfl e18 ?_
        refine ev_iconst (v := 1) (pc := 92) dX0_writeTo_92 ki_1 ?_
        by_cases b19 : v17 = 1
        · rw [if_pos b19] at h
          refine ev_icmp_eq_t (t := 98) (pc := 93) dX0_writeTo_93 (by decide) b19 ?_
          obtain ⟨v20, e21, h⟩ := rb_bd h
          refine ev_aload_n (v := 1) (pc := 98) dX0_writeTo_98 rfl ?_
          refine ev_getr (q := 5) (pc := 99) dX0_writeTo_99 fl_RX0_9 rfl rfl ?_
          refine ev_sipush (v := 131) (pc := 102) dX0_writeTo_102 ks_131 ?_
          refine ev_iload_n (v := t1) (pc := 105) dX0_writeTo_105 rfl ?_
          refine ev_iadd (pc := 106) dX0_writeTo_106 ?_
          refine ev_iald (pc := 107) dX0_writeTo_107 rfl e21 ?_
          by_cases b22 : 0 ≤ v20
          · rw [if_pos b22] at h
            refine ev_if_ge_t (t := 114) (pc := 108) dX0_writeTo_108 (by decide) b22 ?_
            obtain ⟨v23, e24, h⟩ := rb_bd h
            refine ev_iload_n (v := x1) (pc := 114) dX0_writeTo_114 rfl ?_
            refine ev_aload_n (v := 1) (pc := 115) dX0_writeTo_115 rfl ?_
            refine ev_getr (q := 5) (pc := 116) dX0_writeTo_116 fl_RX0_9 rfl rfl ?_
            refine ev_bipush (v := 75) (pc := 119) dX0_writeTo_119 kb_75 ?_
            refine ev_iload_n (v := t1) (pc := 121) dX0_writeTo_121 rfl ?_
            refine ev_iadd (pc := 122) dX0_writeTo_122 ?_
            refine ev_iald (pc := 123) dX0_writeTo_123 rfl e24 ?_
            refine ev_iload (v := v7) (pc := 124) dX0_writeTo_124 rfl ?_
            refine ev_isub (pc := 126) dX0_writeTo_126 ?_
            refine ev_min (pc := 127) dX0_writeTo_127 lk_RX0_109 (Nat.le_of_ble_eq_true rfl) (Nat.le_of_ble_eq_true rfl) ?_
            refine ev_istore (L' := [some (.inr 1), some (.inl x0), some (.inl x1), some (.inl t1), some (.inl v7), some (.inl (rb_min x1 (v23 - v7)))]) (pc := 130) dX0_writeTo_130 (Nat.le_of_ble_eq_true rfl) rfl ?_
            refine ev_iload (v := (rb_min x1 (v23 - v7))) (pc := 132) dX0_writeTo_132 rfl ?_
            by_cases b25 : 0 < (rb_min x1 (v23 - v7))
            · rw [if_pos b25] at h
              refine ev_if_gt_t (t := 139) (pc := 134) dX0_writeTo_134 (by decide) b25 ?_
              obtain ⟨t26, e27, h⟩ := rb_bd h
              obtain ⟨v28, e29, h⟩ := rb_bd h
              obtain ⟨t30, e31, h⟩ := rb_bd h
              refine ev_aload_n (v := 1) (pc := 139) dX0_writeTo_139 rfl ?_
              refine ev_getr (q := 2) (pc := 140) dX0_writeTo_140 fl_RX0_20 rfl rfl ?_
              refine ev_iload_n (v := t1) (pc := 143) dX0_writeTo_143 rfl ?_
              refine ev_iload (v := v7) (pc := 144) dX0_writeTo_144 rfl ?_
              refine ev_iload (v := (rb_min x1 (v23 - v7))) (pc := 146) dX0_writeTo_146 rfl ?_
              refine ev_iadd (pc := 148) dX0_writeTo_148 ?_
              refine ev_cVv2w (w' := [(5, t26), (6, g), (1, f)]) (pc := 149) dX0_writeTo_149 mv_X5_setHeld lk_RX0_114 rp_2 (ct0_X5_setHeld _ _ _ _ _ rfl e27) (Nat.le_of_ble_eq_true rfl) (Nat.le_of_ble_eq_true rfl) rfl ?_
              refine ev_aload_n (v := 1) (pc := 152) dX0_writeTo_152 rfl ?_
              refine ev_aload_n (v := 1) (pc := 153) dX0_writeTo_153 rfl ?_
              refine ev_getr (q := 5) (pc := 154) dX0_writeTo_154 fl_RX0_9 rfl rfl ?_
              refine ev_sipush (v := 131) (pc := 157) dX0_writeTo_157 ks_131 ?_
              refine ev_iload_n (v := t1) (pc := 160) dX0_writeTo_160 rfl ?_
              refine ev_iadd (pc := 161) dX0_writeTo_161 ?_
              refine ev_iald (pc := 162) dX0_writeTo_162 rfl e29 ?_
              refine ev_iconst (v := 1) (pc := 163) dX0_writeTo_163 ki_1 ?_
              refine ev_iconst (v := 0) (pc := 164) dX0_writeTo_164 ki_0 ?_
              refine ev_cVv3w (w' := [(5, t30.1), (6, t30.2.1), (1, t30.2.2)]) (pc := 165) dX0_writeTo_165 mv_X0_sendNotice lk_RX0_89 rp_1 (ct0_X0_sendNotice 6 _ _ _ _ _ _ _ _ rfl rfl rfl e31) (Nat.le_of_ble_eq_true rfl) (Nat.le_of_ble_eq_true rfl) rfl ?_
              refine ev_iload (v := (rb_min x1 (v23 - v7))) (pc := 168) dX0_writeTo_168 rfl ?_
              obtain rfl := Option.some.inj h
              exact ev_iret (pc := 170) dX0_writeTo_170 rfl rfl rfl (hfin _ _ _)
            · rw [if_neg b25] at h
              refine ev_if_gt_f (t := 139) (pc := 134) dX0_writeTo_134 (by decide) b25 ?_
              refine ev_iconst (v := 0) (pc := 137) dX0_writeTo_137 ki_0 ?_
              obtain rfl := Option.some.inj h
              exact ev_iret (pc := 138) dX0_writeTo_138 rfl rfl rfl (hfin _ _ _)
          · rw [if_neg b22] at h
            refine ev_if_ge_f (t := 114) (pc := 108) dX0_writeTo_108 (by decide) b22 ?_
            refine ev_bipush (v := (-2)) (pc := 111) dX0_writeTo_111 kb_m2 ?_
            obtain rfl := Option.some.inj h
            exact ev_iret (pc := 113) dX0_writeTo_113 rfl rfl rfl (hfin _ _ _)
        · rw [if_neg b19] at h
          refine ev_icmp_eq_f (t := 98) (pc := 93) dX0_writeTo_93 (by decide) b19 ?_
          refine ev_iconst (v := (-1)) (pc := 96) dX0_writeTo_96 ki_m1 ?_
          obtain rfl := Option.some.inj h
          exact ev_iret (pc := 97) dX0_writeTo_97 rfl rfl rfl (hfin _ _ _)
set_option maxHeartbeats 4000000 in
set_option maxRecDepth 20000 in
theorem ct1_X0_writeTo (μ : rb_Mem) (c : rb_Row) (g : rb_Row) (f : rb_Row) (x0 : Int32) (x1 : Int32) (o : Int32 × rb_Row × rb_Row × rb_Row) (hc : μ 11 = c) (hg : μ 12 = g) (hf : μ 7 = f) (h : XX0_writeTo c g f x0 x1 = some o) : rb_Ct yX0_writeTo cX0_writeTo 6 (some .int) 15 [.inr 7, .inl x0, .inl x1] μ (some o.1) (rb_ov μ [(11, o.2.1), (12, o.2.2.1), (7, o.2.2.2)]) := by
  unfold XX0_writeTo at h
  have hini : rb_ov μ [(11, c), (12, g), (7, f)] = μ := rb_ov_sf _ _ (And.intro hc (And.intro hg (And.intro hf True.intro)))
  have hfin : ∀ u0 u1 u2 : rb_Row, rb_ov μ [(11, u0), (12, u1), (7, u2)] = rb_ov μ [(11, u0), (12, u1), (7, u2)] := fun u0 u1 u2 => rfl
  refine rb_cti (w := [(11, c), (12, g), (7, f)]) rfl pn_0 (Nat.le_of_ble_eq_true rfl) rfl hini ?_
  obtain ⟨t1, e2, h⟩ := rb_bd h
  refine ev_aload_n (v := 7) (pc := 0) dX0_writeTo_0 rfl ?_
  refine ev_getr (q := 8) (pc := 1) dX0_writeTo_1 fl_RX0_20 rfl rfl ?_
  refine ev_iload_n (v := x0) (pc := 4) dX0_writeTo_4 rfl ?_
  refine ev_cVi1 (pc := 5) dX0_writeTo_5 mv_X5_thingOf lk_RX0_96 rp_8 (ct1_X5_thingOf _ _ _ _ rfl e2) (Nat.le_of_ble_eq_true rfl) (Nat.le_of_ble_eq_true rfl) ?_
  refine ev_istore_n (L' := [some (.inr 7), some (.inl x0), some (.inl x1), some (.inl t1), none, none]) (pc := 8) dX0_writeTo_8 (Nat.le_of_ble_eq_true rfl) rfl ?_
  refine ev_iload_n (v := t1) (pc := 9) dX0_writeTo_9 rfl ?_
  by_cases b3 : t1 < 0
  · rw [if_pos b3] at h
    refine ev_if_lt_t (t := 23) (pc := 10) dX0_writeTo_10 (by decide) b3 ?_
    refine ev_iconst (v := (-1)) (pc := 23) dX0_writeTo_23 ki_m1 ?_
    obtain rfl := Option.some.inj h
    exact ev_iret (pc := 24) dX0_writeTo_24 rfl rfl rfl (hfin _ _ _)
  · rw [if_neg b3] at h
    refine ev_if_lt_f (t := 23) (pc := 10) dX0_writeTo_10 (by decide) b3 ?_
    obtain ⟨t4, e5, h⟩ := rb_bd h
    refine ev_iload_n (v := x1) (pc := 13) dX0_writeTo_13 rfl ?_
    refine ev_iconst (v := 1) (pc := 14) dX0_writeTo_14 ki_1 ?_
    refine ev_bipush (v := 100) (pc := 15) dX0_writeTo_15 kb_100 ?_
    refine ev_cSi3 (pc := 17) dX0_writeTo_17 ms_X6_between lk_RX0_72 (ct_X6_between _ _ _ _ _ e5) (Nat.le_of_ble_eq_true rfl) (Nat.le_of_ble_eq_true rfl) ?_
    by_cases b6 : t4 = 0
    · rw [if_pos b6] at h
      refine ev_if_ne_f (t := 25) (pc := 20) dX0_writeTo_20 (by decide) b6 ?_
      refine ev_iconst (v := (-1)) (pc := 23) dX0_writeTo_23 ki_m1 ?_
      obtain rfl := Option.some.inj h
      exact ev_iret (pc := 24) dX0_writeTo_24 rfl rfl rfl (hfin _ _ _)
    · rw [if_neg b6] at h
      refine ev_if_ne_t (t := 25) (pc := 20) dX0_writeTo_20 (by decide) b6 ?_
      obtain ⟨v7, e8, h⟩ := rb_bd h
      obtain ⟨v9, e10, h⟩ := rb_bd h
      refine ev_aload_n (v := 7) (pc := 25) dX0_writeTo_25 rfl ?_
      refine ev_getr (q := 11) (pc := 26) dX0_writeTo_26 fl_RX0_9 rfl rfl ?_
      refine ev_bipush (v := 47) (pc := 29) dX0_writeTo_29 kb_47 ?_
      refine ev_iload_n (v := t1) (pc := 31) dX0_writeTo_31 rfl ?_
      refine ev_iadd (pc := 32) dX0_writeTo_32 ?_
      refine ev_iald (pc := 33) dX0_writeTo_33 rfl e8 ?_
      refine ev_istore (L' := [some (.inr 7), some (.inl x0), some (.inl x1), some (.inl t1), some (.inl v7), none]) (pc := 34) dX0_writeTo_34 (Nat.le_of_ble_eq_true rfl) rfl ?_
      refine ev_aload_n (v := 7) (pc := 36) dX0_writeTo_36 rfl ?_
      refine ev_getr (q := 11) (pc := 37) dX0_writeTo_37 fl_RX0_9 rfl rfl ?_
      refine ev_bipush (v := 19) (pc := 40) dX0_writeTo_40 kb_19 ?_
      refine ev_iload_n (v := t1) (pc := 42) dX0_writeTo_42 rfl ?_
      refine ev_iadd (pc := 43) dX0_writeTo_43 ?_
      refine ev_iald (pc := 44) dX0_writeTo_44 rfl e10 ?_
      refine ev_iconst (v := 2) (pc := 45) dX0_writeTo_45 ki_2 ?_
      by_cases b11 : v9 = 2
      · rw [if_pos b11] at h
        refine ev_icmp_ne_f (t := 83) (pc := 46) dX0_writeTo_46 (by decide) b11 ?_
        refine ev_iload (v := v7) (pc := 49) dX0_writeTo_49 rfl ?_
        refine ev_iload_n (v := x1) (pc := 51) dX0_writeTo_51 rfl ?_
        refine ev_iadd (pc := 52) dX0_writeTo_52 ?_
        refine ev_sipush (v := 1000) (pc := 53) dX0_writeTo_53 ks_1000 ?_
        by_cases b12 : (v7 + x1) ≤ 1000
        · rw [if_pos b12] at h
          refine ev_icmp_le_t (t := 61) (pc := 56) dX0_writeTo_56 (by decide) b12 ?_
          obtain ⟨c13, e14, h⟩ := rb_bd h
          obtain ⟨t15, e16, h⟩ := rb_bd h
          refine ev_aload_n (v := 7) (pc := 61) dX0_writeTo_61 rfl ?_
          refine ev_getr (q := 11) (pc := 62) dX0_writeTo_62 fl_RX0_9 rfl rfl ?_
          refine ev_bipush (v := 47) (pc := 65) dX0_writeTo_65 kb_47 ?_
          refine ev_iload_n (v := t1) (pc := 67) dX0_writeTo_67 rfl ?_
          refine ev_iadd (pc := 68) dX0_writeTo_68 ?_
          refine ev_iload (v := v7) (pc := 69) dX0_writeTo_69 rfl ?_
          refine ev_iload_n (v := x1) (pc := 71) dX0_writeTo_71 rfl ?_
          refine ev_iadd (pc := 72) dX0_writeTo_72 ?_
          refine ev_iast (w' := [(11, c13), (12, g), (7, f)]) (pc := 73) dX0_writeTo_73 rfl e14 rfl ?_
          refine ev_aload_n (v := 7) (pc := 74) dX0_writeTo_74 rfl ?_
          refine ev_iload_n (v := t1) (pc := 75) dX0_writeTo_75 rfl ?_
          refine ev_iconst (v := 1) (pc := 76) dX0_writeTo_76 ki_1 ?_
          refine ev_iconst (v := 0) (pc := 77) dX0_writeTo_77 ki_0 ?_
          refine ev_cVv3w (w' := [(11, t15.1), (12, t15.2.1), (7, t15.2.2)]) (pc := 78) dX0_writeTo_78 mv_X0_sendNotice lk_RX0_89 rp_7 (ct1_X0_sendNotice 6 _ _ _ _ _ _ _ _ rfl rfl rfl e16) (Nat.le_of_ble_eq_true rfl) (Nat.le_of_ble_eq_true rfl) rfl ?_
          refine ev_iload_n (v := x1) (pc := 81) dX0_writeTo_81 rfl ?_
          obtain rfl := Option.some.inj h
          exact ev_iret (pc := 82) dX0_writeTo_82 rfl rfl rfl (hfin _ _ _)
        · rw [if_neg b12] at h
          refine ev_icmp_le_f (t := 61) (pc := 56) dX0_writeTo_56 (by decide) b12 ?_
          refine ev_iconst (v := 0) (pc := 59) dX0_writeTo_59 ki_0 ?_
          obtain rfl := Option.some.inj h
          exact ev_iret (pc := 60) dX0_writeTo_60 rfl rfl rfl (hfin _ _ _)
      · rw [if_neg b11] at h
        refine ev_icmp_ne_t (t := 83) (pc := 46) dX0_writeTo_46 (by decide) b11 ?_
        obtain ⟨v17, e18, h⟩ := rb_bd h
        refine ev_aload_n (v := 7) (pc := 83) dX0_writeTo_83 rfl ?_
        refine ev_getr (q := 11) (pc := 84) dX0_writeTo_84 fl_RX0_9 rfl rfl ?_
        refine ev_bipush (v := 19) (pc := 87) dX0_writeTo_87 kb_19 ?_
        refine ev_iload_n (v := t1) (pc := 89) dX0_writeTo_89 rfl ?_
        refine ev_iadd (pc := 90) dX0_writeTo_90 ?_
        refine ev_iald (pc := 91) dX0_writeTo_91 rfl e18 ?_
        refine ev_iconst (v := 1) (pc := 92) dX0_writeTo_92 ki_1 ?_
        by_cases b19 : v17 = 1
        · rw [if_pos b19] at h
          refine ev_icmp_eq_t (t := 98) (pc := 93) dX0_writeTo_93 (by decide) b19 ?_
          obtain ⟨v20, e21, h⟩ := rb_bd h
          refine ev_aload_n (v := 7) (pc := 98) dX0_writeTo_98 rfl ?_
          refine ev_getr (q := 11) (pc := 99) dX0_writeTo_99 fl_RX0_9 rfl rfl ?_
          refine ev_sipush (v := 131) (pc := 102) dX0_writeTo_102 ks_131 ?_
          refine ev_iload_n (v := t1) (pc := 105) dX0_writeTo_105 rfl ?_
          refine ev_iadd (pc := 106) dX0_writeTo_106 ?_
          refine ev_iald (pc := 107) dX0_writeTo_107 rfl e21 ?_
          by_cases b22 : 0 ≤ v20
          · rw [if_pos b22] at h
            refine ev_if_ge_t (t := 114) (pc := 108) dX0_writeTo_108 (by decide) b22 ?_
            obtain ⟨v23, e24, h⟩ := rb_bd h
            refine ev_iload_n (v := x1) (pc := 114) dX0_writeTo_114 rfl ?_
            refine ev_aload_n (v := 7) (pc := 115) dX0_writeTo_115 rfl ?_
            refine ev_getr (q := 11) (pc := 116) dX0_writeTo_116 fl_RX0_9 rfl rfl ?_
            refine ev_bipush (v := 75) (pc := 119) dX0_writeTo_119 kb_75 ?_
            refine ev_iload_n (v := t1) (pc := 121) dX0_writeTo_121 rfl ?_
            refine ev_iadd (pc := 122) dX0_writeTo_122 ?_
            refine ev_iald (pc := 123) dX0_writeTo_123 rfl e24 ?_
            refine ev_iload (v := v7) (pc := 124) dX0_writeTo_124 rfl ?_
            refine ev_isub (pc := 126) dX0_writeTo_126 ?_
            refine ev_min (pc := 127) dX0_writeTo_127 lk_RX0_109 (Nat.le_of_ble_eq_true rfl) (Nat.le_of_ble_eq_true rfl) ?_
            refine ev_istore (L' := [some (.inr 7), some (.inl x0), some (.inl x1), some (.inl t1), some (.inl v7), some (.inl (rb_min x1 (v23 - v7)))]) (pc := 130) dX0_writeTo_130 (Nat.le_of_ble_eq_true rfl) rfl ?_
            refine ev_iload (v := (rb_min x1 (v23 - v7))) (pc := 132) dX0_writeTo_132 rfl ?_
            by_cases b25 : 0 < (rb_min x1 (v23 - v7))
            · rw [if_pos b25] at h
              refine ev_if_gt_t (t := 139) (pc := 134) dX0_writeTo_134 (by decide) b25 ?_
              obtain ⟨t26, e27, h⟩ := rb_bd h
              obtain ⟨v28, e29, h⟩ := rb_bd h
              obtain ⟨t30, e31, h⟩ := rb_bd h
              refine ev_aload_n (v := 7) (pc := 139) dX0_writeTo_139 rfl ?_
              refine ev_getr (q := 8) (pc := 140) dX0_writeTo_140 fl_RX0_20 rfl rfl ?_
              refine ev_iload_n (v := t1) (pc := 143) dX0_writeTo_143 rfl ?_
              refine ev_iload (v := v7) (pc := 144) dX0_writeTo_144 rfl ?_
              refine ev_iload (v := (rb_min x1 (v23 - v7))) (pc := 146) dX0_writeTo_146 rfl ?_
              refine ev_iadd (pc := 148) dX0_writeTo_148 ?_
              refine ev_cVv2w (w' := [(11, t26), (12, g), (7, f)]) (pc := 149) dX0_writeTo_149 mv_X5_setHeld lk_RX0_114 rp_8 (ct1_X5_setHeld _ _ _ _ _ rfl e27) (Nat.le_of_ble_eq_true rfl) (Nat.le_of_ble_eq_true rfl) rfl ?_
              refine ev_aload_n (v := 7) (pc := 152) dX0_writeTo_152 rfl ?_
              refine ev_aload_n (v := 7) (pc := 153) dX0_writeTo_153 rfl ?_
              refine ev_getr (q := 11) (pc := 154) dX0_writeTo_154 fl_RX0_9 rfl rfl ?_
              refine ev_sipush (v := 131) (pc := 157) dX0_writeTo_157 ks_131 ?_
              refine ev_iload_n (v := t1) (pc := 160) dX0_writeTo_160 rfl ?_
              refine ev_iadd (pc := 161) dX0_writeTo_161 ?_
              refine ev_iald (pc := 162) dX0_writeTo_162 rfl e29 ?_
              refine ev_iconst (v := 1) (pc := 163) dX0_writeTo_163 ki_1 ?_
              refine ev_iconst (v := 0) (pc := 164) dX0_writeTo_164 ki_0 ?_
              refine ev_cVv3w (w' := [(11, t30.1), (12, t30.2.1), (7, t30.2.2)]) (pc := 165) dX0_writeTo_165 mv_X0_sendNotice lk_RX0_89 rp_7 (ct1_X0_sendNotice 6 _ _ _ _ _ _ _ _ rfl rfl rfl e31) (Nat.le_of_ble_eq_true rfl) (Nat.le_of_ble_eq_true rfl) rfl ?_
              refine ev_iload (v := (rb_min x1 (v23 - v7))) (pc := 168) dX0_writeTo_168 rfl ?_
              obtain rfl := Option.some.inj h
              exact ev_iret (pc := 170) dX0_writeTo_170 rfl rfl rfl (hfin _ _ _)
            · rw [if_neg b25] at h
              refine ev_if_gt_f (t := 139) (pc := 134) dX0_writeTo_134 (by decide) b25 ?_
              refine ev_iconst (v := 0) (pc := 137) dX0_writeTo_137 ki_0 ?_
              obtain rfl := Option.some.inj h
              exact ev_iret (pc := 138) dX0_writeTo_138 rfl rfl rfl (hfin _ _ _)
          · rw [if_neg b22] at h
            refine ev_if_ge_f (t := 114) (pc := 108) dX0_writeTo_108 (by decide) b22 ?_
            refine ev_bipush (v := (-2)) (pc := 111) dX0_writeTo_111 kb_m2 ?_
            obtain rfl := Option.some.inj h
            exact ev_iret (pc := 113) dX0_writeTo_113 rfl rfl rfl (hfin _ _ _)
        · rw [if_neg b19] at h
          refine ev_icmp_eq_f (t := 98) (pc := 93) dX0_writeTo_93 (by decide) b19 ?_
          refine ev_iconst (v := (-1)) (pc := 96) dX0_writeTo_96 ki_m1 ?_
          obtain rfl := Option.some.inj h
          exact ev_iret (pc := 97) dX0_writeTo_97 rfl rfl rfl (hfin _ _ _)
def XX0_readFrom (c : rb_Row) (g : rb_Row) (f : rb_Row) (x0 : Int32) (x1 : Int32) : Option (Int32 × rb_Row × rb_Row × rb_Row) := (XX5_thingOf c x0).bind fun t1 => ((if 0 ≤ t1 then (rb_rd c 773 (19 + t1)).bind fun v7 => some v7 else some (-1)) : Option (Int32)).bind fun j3 => (XX6_between x1 1 100).bind fun t9 => if t9 = 0 then some ((-1), c, g, f) else if j3 = 0 then (rb_rd c 773 (131 + t1)).bind fun v13 => (rb_rd c 773 (47 + t1)).bind fun v15 => ((if j3 = 0 then some x1 else (rb_rd c 773 (103 + t1)).bind fun v21 => if v21 = 0 then some 1000 else some 1) : Option (Int32)).bind fun j17 => if 0 < (rb_min j17 v15) then (XX5_setHeld c t1 (v15 - (rb_min j17 v15))).bind fun t25 => if j3 = 0 then (XX0_sendNotice 6 t25 g f v13 2 0).bind fun t28 => some ((rb_min j17 v15), t28.1, t28.2.1, t28.2.2) else if j3 = 2 then (XX0_sendNotice 6 t25 g f t1 2 0).bind fun t31 => some ((rb_min j17 v15), t31.1, t31.2.1, t31.2.2) else some ((rb_min j17 v15), t25, g, f) else if j3 = 0 then if 0 ≤ v13 then some (0, c, g, f) else some ((-2), c, g, f) else some (0, c, g, f) else if j3 = 2 then (rb_rd c 773 (131 + t1)).bind fun v36 => (rb_rd c 773 (47 + t1)).bind fun v38 => ((if j3 = 0 then some x1 else (rb_rd c 773 (103 + t1)).bind fun v44 => if v44 = 0 then some 1000 else some 1) : Option (Int32)).bind fun j40 => if 0 < (rb_min j40 v38) then (XX5_setHeld c t1 (v38 - (rb_min j40 v38))).bind fun t48 => if j3 = 0 then (XX0_sendNotice 6 t48 g f v36 2 0).bind fun t51 => some ((rb_min j40 v38), t51.1, t51.2.1, t51.2.2) else if j3 = 2 then (XX0_sendNotice 6 t48 g f t1 2 0).bind fun t54 => some ((rb_min j40 v38), t54.1, t54.2.1, t54.2.2) else some ((rb_min j40 v38), t48, g, f) else if j3 = 0 then if 0 ≤ v36 then some (0, c, g, f) else some ((-2), c, g, f) else some (0, c, g, f) else if j3 = 3 then (rb_rd c 773 (131 + t1)).bind fun v59 => (rb_rd c 773 (47 + t1)).bind fun v61 => ((if j3 = 0 then some x1 else (rb_rd c 773 (103 + t1)).bind fun v67 => if v67 = 0 then some 1000 else some 1) : Option (Int32)).bind fun j63 => if 0 < (rb_min j63 v61) then (XX5_setHeld c t1 (v61 - (rb_min j63 v61))).bind fun t71 => if j3 = 0 then (XX0_sendNotice 6 t71 g f v59 2 0).bind fun t74 => some ((rb_min j63 v61), t74.1, t74.2.1, t74.2.2) else if j3 = 2 then (XX0_sendNotice 6 t71 g f t1 2 0).bind fun t77 => some ((rb_min j63 v61), t77.1, t77.2.1, t77.2.2) else some ((rb_min j63 v61), t71, g, f) else if j3 = 0 then if 0 ≤ v59 then some (0, c, g, f) else some ((-2), c, g, f) else some (0, c, g, f) else some ((-1), c, g, f)
set_option maxHeartbeats 4000000 in
set_option maxRecDepth 20000 in
theorem ct0_X0_readFrom (μ : rb_Mem) (c : rb_Row) (g : rb_Row) (f : rb_Row) (x0 : Int32) (x1 : Int32) (o : Int32 × rb_Row × rb_Row × rb_Row) (hc : μ 5 = c) (hg : μ 6 = g) (hf : μ 1 = f) (h : XX0_readFrom c g f x0 x1 = some o) : rb_Ct yX0_readFrom cX0_readFrom 9 (some .int) 15 [.inr 1, .inl x0, .inl x1] μ (some o.1) (rb_ov μ [(5, o.2.1), (6, o.2.2.1), (1, o.2.2.2)]) := by
  unfold XX0_readFrom at h
  have hini : rb_ov μ [(5, c), (6, g), (1, f)] = μ := rb_ov_sf _ _ (And.intro hc (And.intro hg (And.intro hf True.intro)))
  have hfin : ∀ u0 u1 u2 : rb_Row, rb_ov μ [(5, u0), (6, u1), (1, u2)] = rb_ov μ [(5, u0), (6, u1), (1, u2)] := fun u0 u1 u2 => rfl
  refine rb_cti (w := [(5, c), (6, g), (1, f)]) rfl pn_0 (Nat.le_of_ble_eq_true rfl) rfl hini ?_
  obtain ⟨t1, e2, h⟩ := rb_bd h
  refine ev_aload_n (v := 1) (pc := 0) dX0_readFrom_0 rfl ?_
  refine ev_getr (q := 2) (pc := 1) dX0_readFrom_1 fl_RX0_20 rfl rfl ?_
  refine ev_iload_n (v := x0) (pc := 4) dX0_readFrom_4 rfl ?_
  refine ev_cVi1 (pc := 5) dX0_readFrom_5 mv_X5_thingOf lk_RX0_96 rp_2 (ct0_X5_thingOf _ _ _ _ rfl e2) (Nat.le_of_ble_eq_true rfl) (Nat.le_of_ble_eq_true rfl) ?_
  refine ev_istore_n (L' := [some (.inr 1), some (.inl x0), some (.inl x1), some (.inl t1), none, none, none, none, none]) (pc := 8) dX0_readFrom_8 (Nat.le_of_ble_eq_true rfl) rfl ?_
  refine ev_iload_n (v := t1) (pc := 9) dX0_readFrom_9 rfl ?_
  obtain ⟨j3, e4, h⟩ := rb_bd h
  have hj5 : rb_Ev RX0 cX0_readFrom 9 (some .int) none 15 (some o.1) (rb_ov μ [(5, o.2.1), (6, o.2.2.1), (1, o.2.2.2)]) 26 [some (.inr 1), none, some (.inl x1), some (.inl t1), none, none, none, none, none] [.inl j3] (rb_ov μ [(5, c), (6, g), (1, f)]) := by
    obtain ⟨t9, e10, h⟩ := rb_bd h
    refine ev_istore (L' := [some (.inr 1), none, some (.inl x1), some (.inl t1), some (.inl j3), none, none, none, none]) (pc := 26) dX0_readFrom_26 (Nat.le_of_ble_eq_true rfl) rfl ?_
    refine ev_iload_n (v := x1) (pc := 28) dX0_readFrom_28 rfl ?_
    refine ev_iconst (v := 1) (pc := 29) dX0_readFrom_29 ki_1 ?_
    refine ev_bipush (v := 100) (pc := 30) dX0_readFrom_30 kb_100 ?_
    refine ev_cSi3 (pc := 32) dX0_readFrom_32 ms_X6_between lk_RX0_72 (ct_X6_between _ _ _ _ _ e10) (Nat.le_of_ble_eq_true rfl) (Nat.le_of_ble_eq_true rfl) ?_
    by_cases b11 : t9 = 0
    · rw [if_pos b11] at h
      refine ev_if_eq_t (t := 55) (pc := 35) dX0_readFrom_35 (by decide) b11 ?_
      refine ev_iconst (v := (-1)) (pc := 55) dX0_readFrom_55 ki_m1 ?_
      obtain rfl := Option.some.inj h
      exact ev_iret (pc := 56) dX0_readFrom_56 rfl rfl rfl (hfin _ _ _)
    · rw [if_neg b11] at h
      refine ev_if_eq_f (t := 55) (pc := 35) dX0_readFrom_35 (by decide) b11 ?_
      refine ev_iload (v := j3) (pc := 38) dX0_readFrom_38 rfl ?_
      by_cases b12 : j3 = 0
      · rw [if_pos b12] at h
        refine ev_if_eq_t (t := 57) (pc := 40) dX0_readFrom_40 (by decide) b12 ?_
        obtain ⟨v13, e14, h⟩ := rb_bd h
        obtain ⟨v15, e16, h⟩ := rb_bd h
        refine ev_aload_n (v := 1) (pc := 57) dX0_readFrom_57 rfl ?_
        refine ev_getr (q := 5) (pc := 58) dX0_readFrom_58 fl_RX0_9 rfl rfl ?_
        refine ev_sipush (v := 131) (pc := 61) dX0_readFrom_61 ks_131 ?_
        refine ev_iload_n (v := t1) (pc := 64) dX0_readFrom_64 rfl ?_
        refine ev_iadd (pc := 65) dX0_readFrom_65 ?_
        refine ev_iald (pc := 66) dX0_readFrom_66 rfl e14 ?_
        refine ev_istore (L' := [some (.inr 1), none, some (.inl x1), some (.inl t1), some (.inl j3), some (.inl v13), none, none, none]) (pc := 67) dX0_readFrom_67 (Nat.le_of_ble_eq_true rfl) rfl ?_
        refine ev_aload_n (v := 1) (pc := 69) dX0_readFrom_69 rfl ?_
        refine ev_getr (q := 5) (pc := 70) dX0_readFrom_70 fl_RX0_9 rfl rfl ?_
        refine ev_bipush (v := 47) (pc := 73) dX0_readFrom_73 kb_47 ?_
        refine ev_iload_n (v := t1) (pc := 75) dX0_readFrom_75 rfl ?_
        refine ev_iadd (pc := 76) dX0_readFrom_76 ?_
        refine ev_iald (pc := 77) dX0_readFrom_77 rfl e16 ?_
        refine ev_istore (L' := [some (.inr 1), none, some (.inl x1), some (.inl t1), some (.inl j3), some (.inl v13), some (.inl v15), none, none]) (pc := 78) dX0_readFrom_78 (Nat.le_of_ble_eq_true rfl) rfl ?_
        refine ev_iload (v := j3) (pc := 80) dX0_readFrom_80 rfl ?_
        obtain ⟨j17, e18, h⟩ := rb_bd h
        have hj19 : rb_Ev RX0 cX0_readFrom 9 (some .int) none 15 (some o.1) (rb_ov μ [(5, o.2.1), (6, o.2.2.1), (1, o.2.2.2)]) 108 [some (.inr 1), none, none, some (.inl t1), some (.inl j3), some (.inl v13), some (.inl v15), none, none] [.inl j17] (rb_ov μ [(5, c), (6, g), (1, f)]) := by
          refine ev_istore (L' := [some (.inr 1), none, none, some (.inl t1), some (.inl j3), some (.inl v13), some (.inl v15), some (.inl j17), none]) (pc := 108) dX0_readFrom_108 (Nat.le_of_ble_eq_true rfl) rfl ?_
          refine ev_iload (v := j17) (pc := 110) dX0_readFrom_110 rfl ?_
          refine ev_iload (v := v15) (pc := 112) dX0_readFrom_112 rfl ?_
          refine ev_min (pc := 114) dX0_readFrom_114 lk_RX0_109 (Nat.le_of_ble_eq_true rfl) (Nat.le_of_ble_eq_true rfl) ?_
          refine ev_istore (L' := [some (.inr 1), none, none, some (.inl t1), some (.inl j3), some (.inl v13), some (.inl v15), some (.inl j17), some (.inl (rb_min j17 v15))]) (pc := 117) dX0_readFrom_117 (Nat.le_of_ble_eq_true rfl) rfl ?_
          refine ev_iload (v := (rb_min j17 v15)) (pc := 119) dX0_readFrom_119 rfl ?_
          by_cases b24 : 0 < (rb_min j17 v15)
          · rw [if_pos b24] at h
            refine ev_if_gt_t (t := 141) (pc := 121) dX0_readFrom_121 (by decide) b24 ?_
            obtain ⟨t25, e26, h⟩ := rb_bd h
            refine ev_aload_n (v := 1) (pc := 141) dX0_readFrom_141 rfl ?_
            refine ev_getr (q := 2) (pc := 142) dX0_readFrom_142 fl_RX0_20 rfl rfl ?_
            refine ev_iload_n (v := t1) (pc := 145) dX0_readFrom_145 rfl ?_
            refine ev_iload (v := v15) (pc := 146) dX0_readFrom_146 rfl ?_
            refine ev_iload (v := (rb_min j17 v15)) (pc := 148) dX0_readFrom_148 rfl ?_
            refine ev_isub (pc := 150) dX0_readFrom_150 ?_
            refine ev_cVv2w (w' := [(5, t25), (6, g), (1, f)]) (pc := 151) dX0_readFrom_151 mv_X5_setHeld lk_RX0_114 rp_2 (ct0_X5_setHeld _ _ _ _ _ rfl e26) (Nat.le_of_ble_eq_true rfl) (Nat.le_of_ble_eq_true rfl) rfl ?_
            refine ev_iload (v := j3) (pc := 154) dX0_readFrom_154 rfl ?_
            by_cases b27 : j3 = 0
            · rw [if_pos b27] at h
              refine ev_if_ne_f (t := 170) (pc := 156) dX0_readFrom_156 (by decide) b27 ?_
              obtain ⟨t28, e29, h⟩ := rb_bd h
              refine ev_aload_n (v := 1) (pc := 159) dX0_readFrom_159 rfl ?_
              refine ev_iload (v := v13) (pc := 160) dX0_readFrom_160 rfl ?_
              refine ev_iconst (v := 2) (pc := 162) dX0_readFrom_162 ki_2 ?_
              refine ev_iconst (v := 0) (pc := 163) dX0_readFrom_163 ki_0 ?_
              refine ev_cVv3w (w' := [(5, t28.1), (6, t28.2.1), (1, t28.2.2)]) (pc := 164) dX0_readFrom_164 mv_X0_sendNotice lk_RX0_89 rp_1 (ct0_X0_sendNotice 6 _ _ _ _ _ _ _ _ rfl rfl rfl e29) (Nat.le_of_ble_eq_true rfl) (Nat.le_of_ble_eq_true rfl) rfl ?_
              refine ev_goto (t := 183) (pc := 167) dX0_readFrom_167 (by decide) ?_
              refine ev_iload (v := (rb_min j17 v15)) (pc := 183) dX0_readFrom_183 rfl ?_
              obtain rfl := Option.some.inj h
              exact ev_iret (pc := 185) dX0_readFrom_185 rfl rfl rfl (hfin _ _ _)
            · rw [if_neg b27] at h
              refine ev_if_ne_t (t := 170) (pc := 156) dX0_readFrom_156 (by decide) b27 ?_
              refine ev_iload (v := j3) (pc := 170) dX0_readFrom_170 rfl ?_
              refine ev_iconst (v := 2) (pc := 172) dX0_readFrom_172 ki_2 ?_
              by_cases b30 : j3 = 2
              · rw [if_pos b30] at h
                refine ev_icmp_ne_f (t := 183) (pc := 173) dX0_readFrom_173 (by decide) b30 ?_
                obtain ⟨t31, e32, h⟩ := rb_bd h
                refine ev_aload_n (v := 1) (pc := 176) dX0_readFrom_176 rfl ?_
                refine ev_iload_n (v := t1) (pc := 177) dX0_readFrom_177 rfl ?_
                refine ev_iconst (v := 2) (pc := 178) dX0_readFrom_178 ki_2 ?_
                refine ev_iconst (v := 0) (pc := 179) dX0_readFrom_179 ki_0 ?_
                refine ev_cVv3w (w' := [(5, t31.1), (6, t31.2.1), (1, t31.2.2)]) (pc := 180) dX0_readFrom_180 mv_X0_sendNotice lk_RX0_89 rp_1 (ct0_X0_sendNotice 6 _ _ _ _ _ _ _ _ rfl rfl rfl e32) (Nat.le_of_ble_eq_true rfl) (Nat.le_of_ble_eq_true rfl) rfl ?_
                refine ev_iload (v := (rb_min j17 v15)) (pc := 183) dX0_readFrom_183 rfl ?_
                obtain rfl := Option.some.inj h
                exact ev_iret (pc := 185) dX0_readFrom_185 rfl rfl rfl (hfin _ _ _)
              · rw [if_neg b30] at h
                refine ev_icmp_ne_t (t := 183) (pc := 173) dX0_readFrom_173 (by decide) b30 ?_
                refine ev_iload (v := (rb_min j17 v15)) (pc := 183) dX0_readFrom_183 rfl ?_
                obtain rfl := Option.some.inj h
                exact ev_iret (pc := 185) dX0_readFrom_185 rfl rfl rfl (hfin _ _ _)
          · rw [if_neg b24] at h
            refine ev_if_gt_f (t := 141) (pc := 121) dX0_readFrom_121 (by decide) b24 ?_
            refine ev_iload (v := j3) (pc := 124) dX0_readFrom_124 rfl ?_
            by_cases b33 : j3 = 0
            · rw [if_pos b33] at h
              refine ev_if_ne_f (t := 139) (pc := 126) dX0_readFrom_126 (by decide) b33 ?_
              refine ev_iload (v := v13) (pc := 129) dX0_readFrom_129 rfl ?_
              by_cases b34 : 0 ≤ v13
              · rw [if_pos b34] at h
                refine ev_if_ge_t (t := 139) (pc := 131) dX0_readFrom_131 (by decide) b34 ?_
                refine ev_iconst (v := 0) (pc := 139) dX0_readFrom_139 ki_0 ?_
                obtain rfl := Option.some.inj h
                exact ev_iret (pc := 140) dX0_readFrom_140 rfl rfl rfl (hfin _ _ _)
              · rw [if_neg b34] at h
                refine ev_if_ge_f (t := 139) (pc := 131) dX0_readFrom_131 (by decide) b34 ?_
                refine ev_bipush (v := (-2)) (pc := 134) dX0_readFrom_134 kb_m2 ?_
                refine ev_goto (t := 140) (pc := 136) dX0_readFrom_136 (by decide) ?_
                obtain rfl := Option.some.inj h
                exact ev_iret (pc := 140) dX0_readFrom_140 rfl rfl rfl (hfin _ _ _)
            · rw [if_neg b33] at h
              refine ev_if_ne_t (t := 139) (pc := 126) dX0_readFrom_126 (by decide) b33 ?_
              refine ev_iconst (v := 0) (pc := 139) dX0_readFrom_139 ki_0 ?_
              obtain rfl := Option.some.inj h
              exact ev_iret (pc := 140) dX0_readFrom_140 rfl rfl rfl (hfin _ _ _)
        replace h := e18
        by_cases b20 : j3 = 0
        · rw [if_pos b20] at h
          refine ev_if_ne_f (t := 89) (pc := 82) dX0_readFrom_82 (by decide) b20 ?_
          refine ev_iload_n (v := x1) (pc := 85) dX0_readFrom_85 rfl ?_
          refine ev_goto (t := 108) (pc := 86) dX0_readFrom_86 (by decide) ?_
          obtain rfl := Option.some.inj h
          exact ev_fg (L := [some (.inr 1), none, none, some (.inl t1), some (.inl j3), some (.inl v13), some (.inl v15), none, none]) (And.intro rfl (And.intro rfl (And.intro rfl (And.intro rfl (And.intro rfl True.intro))))) (hj19)
        · rw [if_neg b20] at h
          refine ev_if_ne_t (t := 89) (pc := 82) dX0_readFrom_82 (by decide) b20 ?_
          obtain ⟨v21, e22, h⟩ := rb_bd h
          refine ev_aload_n (v := 1) (pc := 89) dX0_readFrom_89 rfl ?_
          refine ev_getr (q := 5) (pc := 90) dX0_readFrom_90 fl_RX0_9 rfl rfl ?_
          refine ev_bipush (v := 103) (pc := 93) dX0_readFrom_93 kb_103 ?_
          refine ev_iload_n (v := t1) (pc := 95) dX0_readFrom_95 rfl ?_
          refine ev_iadd (pc := 96) dX0_readFrom_96 ?_
          refine ev_iald (pc := 97) dX0_readFrom_97 rfl e22 ?_
          by_cases b23 : v21 = 0
          · rw [if_pos b23] at h
            refine ev_if_eq_t (t := 105) (pc := 98) dX0_readFrom_98 (by decide) b23 ?_
            refine ev_sipush (v := 1000) (pc := 105) dX0_readFrom_105 ks_1000 ?_
            obtain rfl := Option.some.inj h
            exact ev_fg (L := [some (.inr 1), none, none, some (.inl t1), some (.inl j3), some (.inl v13), some (.inl v15), none, none]) (And.intro rfl (And.intro rfl (And.intro rfl (And.intro rfl (And.intro rfl True.intro))))) (hj19)
          · rw [if_neg b23] at h
            refine ev_if_eq_f (t := 105) (pc := 98) dX0_readFrom_98 (by decide) b23 ?_
            refine ev_iconst (v := 1) (pc := 101) dX0_readFrom_101 ki_1 ?_
            refine ev_goto (t := 108) (pc := 102) dX0_readFrom_102 (by decide) ?_
            obtain rfl := Option.some.inj h
            exact ev_fg (L := [some (.inr 1), none, none, some (.inl t1), some (.inl j3), some (.inl v13), some (.inl v15), none, none]) (And.intro rfl (And.intro rfl (And.intro rfl (And.intro rfl (And.intro rfl True.intro))))) (hj19)
      · rw [if_neg b12] at h
        refine ev_if_eq_f (t := 57) (pc := 40) dX0_readFrom_40 (by decide) b12 ?_
        refine ev_iload (v := j3) (pc := 43) dX0_readFrom_43 rfl ?_
        refine ev_iconst (v := 2) (pc := 45) dX0_readFrom_45 ki_2 ?_
        by_cases b35 : j3 = 2
        · rw [if_pos b35] at h
          refine ev_icmp_eq_t (t := 57) (pc := 46) dX0_readFrom_46 (by decide) b35 ?_
          obtain ⟨v36, e37, h⟩ := rb_bd h
          obtain ⟨v38, e39, h⟩ := rb_bd h
          refine ev_aload_n (v := 1) (pc := 57) dX0_readFrom_57 rfl ?_
          refine ev_getr (q := 5) (pc := 58) dX0_readFrom_58 fl_RX0_9 rfl rfl ?_
          refine ev_sipush (v := 131) (pc := 61) dX0_readFrom_61 ks_131 ?_
          refine ev_iload_n (v := t1) (pc := 64) dX0_readFrom_64 rfl ?_
          refine ev_iadd (pc := 65) dX0_readFrom_65 ?_
          refine ev_iald (pc := 66) dX0_readFrom_66 rfl e37 ?_
          refine ev_istore (L' := [some (.inr 1), none, some (.inl x1), some (.inl t1), some (.inl j3), some (.inl v36), none, none, none]) (pc := 67) dX0_readFrom_67 (Nat.le_of_ble_eq_true rfl) rfl ?_
          refine ev_aload_n (v := 1) (pc := 69) dX0_readFrom_69 rfl ?_
          refine ev_getr (q := 5) (pc := 70) dX0_readFrom_70 fl_RX0_9 rfl rfl ?_
          refine ev_bipush (v := 47) (pc := 73) dX0_readFrom_73 kb_47 ?_
          refine ev_iload_n (v := t1) (pc := 75) dX0_readFrom_75 rfl ?_
          refine ev_iadd (pc := 76) dX0_readFrom_76 ?_
          refine ev_iald (pc := 77) dX0_readFrom_77 rfl e39 ?_
          refine ev_istore (L' := [some (.inr 1), none, some (.inl x1), some (.inl t1), some (.inl j3), some (.inl v36), some (.inl v38), none, none]) (pc := 78) dX0_readFrom_78 (Nat.le_of_ble_eq_true rfl) rfl ?_
          refine ev_iload (v := j3) (pc := 80) dX0_readFrom_80 rfl ?_
          obtain ⟨j40, e41, h⟩ := rb_bd h
          have hj42 : rb_Ev RX0 cX0_readFrom 9 (some .int) none 15 (some o.1) (rb_ov μ [(5, o.2.1), (6, o.2.2.1), (1, o.2.2.2)]) 108 [some (.inr 1), none, none, some (.inl t1), some (.inl j3), some (.inl v36), some (.inl v38), none, none] [.inl j40] (rb_ov μ [(5, c), (6, g), (1, f)]) := by
            refine ev_istore (L' := [some (.inr 1), none, none, some (.inl t1), some (.inl j3), some (.inl v36), some (.inl v38), some (.inl j40), none]) (pc := 108) dX0_readFrom_108 (Nat.le_of_ble_eq_true rfl) rfl ?_
            refine ev_iload (v := j40) (pc := 110) dX0_readFrom_110 rfl ?_
            refine ev_iload (v := v38) (pc := 112) dX0_readFrom_112 rfl ?_
            refine ev_min (pc := 114) dX0_readFrom_114 lk_RX0_109 (Nat.le_of_ble_eq_true rfl) (Nat.le_of_ble_eq_true rfl) ?_
            refine ev_istore (L' := [some (.inr 1), none, none, some (.inl t1), some (.inl j3), some (.inl v36), some (.inl v38), some (.inl j40), some (.inl (rb_min j40 v38))]) (pc := 117) dX0_readFrom_117 (Nat.le_of_ble_eq_true rfl) rfl ?_
            refine ev_iload (v := (rb_min j40 v38)) (pc := 119) dX0_readFrom_119 rfl ?_
            by_cases b47 : 0 < (rb_min j40 v38)
            · rw [if_pos b47] at h
              refine ev_if_gt_t (t := 141) (pc := 121) dX0_readFrom_121 (by decide) b47 ?_
              obtain ⟨t48, e49, h⟩ := rb_bd h
              refine ev_aload_n (v := 1) (pc := 141) dX0_readFrom_141 rfl ?_
              refine ev_getr (q := 2) (pc := 142) dX0_readFrom_142 fl_RX0_20 rfl rfl ?_
              refine ev_iload_n (v := t1) (pc := 145) dX0_readFrom_145 rfl ?_
              refine ev_iload (v := v38) (pc := 146) dX0_readFrom_146 rfl ?_
              refine ev_iload (v := (rb_min j40 v38)) (pc := 148) dX0_readFrom_148 rfl ?_
              refine ev_isub (pc := 150) dX0_readFrom_150 ?_
              refine ev_cVv2w (w' := [(5, t48), (6, g), (1, f)]) (pc := 151) dX0_readFrom_151 mv_X5_setHeld lk_RX0_114 rp_2 (ct0_X5_setHeld _ _ _ _ _ rfl e49) (Nat.le_of_ble_eq_true rfl) (Nat.le_of_ble_eq_true rfl) rfl ?_
              refine ev_iload (v := j3) (pc := 154) dX0_readFrom_154 rfl ?_
              by_cases b50 : j3 = 0
              · rw [if_pos b50] at h
                refine ev_if_ne_f (t := 170) (pc := 156) dX0_readFrom_156 (by decide) b50 ?_
                obtain ⟨t51, e52, h⟩ := rb_bd h
                refine ev_aload_n (v := 1) (pc := 159) dX0_readFrom_159 rfl ?_
                refine ev_iload (v := v36) (pc := 160) dX0_readFrom_160 rfl ?_
                refine ev_iconst (v := 2) (pc := 162) dX0_readFrom_162 ki_2 ?_
                refine ev_iconst (v := 0) (pc := 163) dX0_readFrom_163 ki_0 ?_
                refine ev_cVv3w (w' := [(5, t51.1), (6, t51.2.1), (1, t51.2.2)]) (pc := 164) dX0_readFrom_164 mv_X0_sendNotice lk_RX0_89 rp_1 (ct0_X0_sendNotice 6 _ _ _ _ _ _ _ _ rfl rfl rfl e52) (Nat.le_of_ble_eq_true rfl) (Nat.le_of_ble_eq_true rfl) rfl ?_
                refine ev_goto (t := 183) (pc := 167) dX0_readFrom_167 (by decide) ?_
                refine ev_iload (v := (rb_min j40 v38)) (pc := 183) dX0_readFrom_183 rfl ?_
                obtain rfl := Option.some.inj h
                exact ev_iret (pc := 185) dX0_readFrom_185 rfl rfl rfl (hfin _ _ _)
              · rw [if_neg b50] at h
                refine ev_if_ne_t (t := 170) (pc := 156) dX0_readFrom_156 (by decide) b50 ?_
                refine ev_iload (v := j3) (pc := 170) dX0_readFrom_170 rfl ?_
                refine ev_iconst (v := 2) (pc := 172) dX0_readFrom_172 ki_2 ?_
                by_cases b53 : j3 = 2
                · rw [if_pos b53] at h
                  refine ev_icmp_ne_f (t := 183) (pc := 173) dX0_readFrom_173 (by decide) b53 ?_
                  obtain ⟨t54, e55, h⟩ := rb_bd h
                  refine ev_aload_n (v := 1) (pc := 176) dX0_readFrom_176 rfl ?_
                  refine ev_iload_n (v := t1) (pc := 177) dX0_readFrom_177 rfl ?_
                  refine ev_iconst (v := 2) (pc := 178) dX0_readFrom_178 ki_2 ?_
                  refine ev_iconst (v := 0) (pc := 179) dX0_readFrom_179 ki_0 ?_
                  refine ev_cVv3w (w' := [(5, t54.1), (6, t54.2.1), (1, t54.2.2)]) (pc := 180) dX0_readFrom_180 mv_X0_sendNotice lk_RX0_89 rp_1 (ct0_X0_sendNotice 6 _ _ _ _ _ _ _ _ rfl rfl rfl e55) (Nat.le_of_ble_eq_true rfl) (Nat.le_of_ble_eq_true rfl) rfl ?_
                  refine ev_iload (v := (rb_min j40 v38)) (pc := 183) dX0_readFrom_183 rfl ?_
                  obtain rfl := Option.some.inj h
                  exact ev_iret (pc := 185) dX0_readFrom_185 rfl rfl rfl (hfin _ _ _)
                · rw [if_neg b53] at h
                  refine ev_icmp_ne_t (t := 183) (pc := 173) dX0_readFrom_173 (by decide) b53 ?_
                  refine ev_iload (v := (rb_min j40 v38)) (pc := 183) dX0_readFrom_183 rfl ?_
                  obtain rfl := Option.some.inj h
                  exact ev_iret (pc := 185) dX0_readFrom_185 rfl rfl rfl (hfin _ _ _)
            · rw [if_neg b47] at h
              refine ev_if_gt_f (t := 141) (pc := 121) dX0_readFrom_121 (by decide) b47 ?_
              refine ev_iload (v := j3) (pc := 124) dX0_readFrom_124 rfl ?_
              by_cases b56 : j3 = 0
              · rw [if_pos b56] at h
                refine ev_if_ne_f (t := 139) (pc := 126) dX0_readFrom_126 (by decide) b56 ?_
                refine ev_iload (v := v36) (pc := 129) dX0_readFrom_129 rfl ?_
                by_cases b57 : 0 ≤ v36
                · rw [if_pos b57] at h
                  refine ev_if_ge_t (t := 139) (pc := 131) dX0_readFrom_131 (by decide) b57 ?_
                  refine ev_iconst (v := 0) (pc := 139) dX0_readFrom_139 ki_0 ?_
                  obtain rfl := Option.some.inj h
                  exact ev_iret (pc := 140) dX0_readFrom_140 rfl rfl rfl (hfin _ _ _)
                · rw [if_neg b57] at h
                  refine ev_if_ge_f (t := 139) (pc := 131) dX0_readFrom_131 (by decide) b57 ?_
                  refine ev_bipush (v := (-2)) (pc := 134) dX0_readFrom_134 kb_m2 ?_
                  refine ev_goto (t := 140) (pc := 136) dX0_readFrom_136 (by decide) ?_
                  obtain rfl := Option.some.inj h
                  exact ev_iret (pc := 140) dX0_readFrom_140 rfl rfl rfl (hfin _ _ _)
              · rw [if_neg b56] at h
                refine ev_if_ne_t (t := 139) (pc := 126) dX0_readFrom_126 (by decide) b56 ?_
                refine ev_iconst (v := 0) (pc := 139) dX0_readFrom_139 ki_0 ?_
                obtain rfl := Option.some.inj h
                exact ev_iret (pc := 140) dX0_readFrom_140 rfl rfl rfl (hfin _ _ _)
          replace h := e41
          by_cases b43 : j3 = 0
          · rw [if_pos b43] at h
            refine ev_if_ne_f (t := 89) (pc := 82) dX0_readFrom_82 (by decide) b43 ?_
            refine ev_iload_n (v := x1) (pc := 85) dX0_readFrom_85 rfl ?_
            refine ev_goto (t := 108) (pc := 86) dX0_readFrom_86 (by decide) ?_
            obtain rfl := Option.some.inj h
            exact ev_fg (L := [some (.inr 1), none, none, some (.inl t1), some (.inl j3), some (.inl v36), some (.inl v38), none, none]) (And.intro rfl (And.intro rfl (And.intro rfl (And.intro rfl (And.intro rfl True.intro))))) (hj42)
          · rw [if_neg b43] at h
            refine ev_if_ne_t (t := 89) (pc := 82) dX0_readFrom_82 (by decide) b43 ?_
            obtain ⟨v44, e45, h⟩ := rb_bd h
            refine ev_aload_n (v := 1) (pc := 89) dX0_readFrom_89 rfl ?_
            refine ev_getr (q := 5) (pc := 90) dX0_readFrom_90 fl_RX0_9 rfl rfl ?_
            refine ev_bipush (v := 103) (pc := 93) dX0_readFrom_93 kb_103 ?_
            refine ev_iload_n (v := t1) (pc := 95) dX0_readFrom_95 rfl ?_
            refine ev_iadd (pc := 96) dX0_readFrom_96 ?_
            refine ev_iald (pc := 97) dX0_readFrom_97 rfl e45 ?_
            by_cases b46 : v44 = 0
            · rw [if_pos b46] at h
              refine ev_if_eq_t (t := 105) (pc := 98) dX0_readFrom_98 (by decide) b46 ?_
              refine ev_sipush (v := 1000) (pc := 105) dX0_readFrom_105 ks_1000 ?_
              obtain rfl := Option.some.inj h
              exact ev_fg (L := [some (.inr 1), none, none, some (.inl t1), some (.inl j3), some (.inl v36), some (.inl v38), none, none]) (And.intro rfl (And.intro rfl (And.intro rfl (And.intro rfl (And.intro rfl True.intro))))) (hj42)
            · rw [if_neg b46] at h
              refine ev_if_eq_f (t := 105) (pc := 98) dX0_readFrom_98 (by decide) b46 ?_
              refine ev_iconst (v := 1) (pc := 101) dX0_readFrom_101 ki_1 ?_
              refine ev_goto (t := 108) (pc := 102) dX0_readFrom_102 (by decide) ?_
              obtain rfl := Option.some.inj h
              exact ev_fg (L := [some (.inr 1), none, none, some (.inl t1), some (.inl j3), some (.inl v36), some (.inl v38), none, none]) (And.intro rfl (And.intro rfl (And.intro rfl (And.intro rfl (And.intro rfl True.intro))))) (hj42)
        · rw [if_neg b35] at h
          refine ev_icmp_eq_f (t := 57) (pc := 46) dX0_readFrom_46 (by decide) b35 ?_
          refine ev_iload (v := j3) (pc := 49) dX0_readFrom_49 rfl ?_
          refine ev_iconst (v := 3) (pc := 51) dX0_readFrom_51 ki_3 ?_
          by_cases b58 : j3 = 3
          · rw [if_pos b58] at h
            refine ev_icmp_eq_t (t := 57) (pc := 52) dX0_readFrom_52 (by decide) b58 ?_
            obtain ⟨v59, e60, h⟩ := rb_bd h
            obtain ⟨v61, e62, h⟩ := rb_bd h
            refine ev_aload_n (v := 1) (pc := 57) dX0_readFrom_57 rfl ?_
            refine ev_getr (q := 5) (pc := 58) dX0_readFrom_58 fl_RX0_9 rfl rfl ?_
            refine ev_sipush (v := 131) (pc := 61) dX0_readFrom_61 ks_131 ?_
            refine ev_iload_n (v := t1) (pc := 64) dX0_readFrom_64 rfl ?_
            refine ev_iadd (pc := 65) dX0_readFrom_65 ?_
            refine ev_iald (pc := 66) dX0_readFrom_66 rfl e60 ?_
            refine ev_istore (L' := [some (.inr 1), none, some (.inl x1), some (.inl t1), some (.inl j3), some (.inl v59), none, none, none]) (pc := 67) dX0_readFrom_67 (Nat.le_of_ble_eq_true rfl) rfl ?_
            refine ev_aload_n (v := 1) (pc := 69) dX0_readFrom_69 rfl ?_
            refine ev_getr (q := 5) (pc := 70) dX0_readFrom_70 fl_RX0_9 rfl rfl ?_
            refine ev_bipush (v := 47) (pc := 73) dX0_readFrom_73 kb_47 ?_
            refine ev_iload_n (v := t1) (pc := 75) dX0_readFrom_75 rfl ?_
            refine ev_iadd (pc := 76) dX0_readFrom_76 ?_
            refine ev_iald (pc := 77) dX0_readFrom_77 rfl e62 ?_
            refine ev_istore (L' := [some (.inr 1), none, some (.inl x1), some (.inl t1), some (.inl j3), some (.inl v59), some (.inl v61), none, none]) (pc := 78) dX0_readFrom_78 (Nat.le_of_ble_eq_true rfl) rfl ?_
            refine ev_iload (v := j3) (pc := 80) dX0_readFrom_80 rfl ?_
            obtain ⟨j63, e64, h⟩ := rb_bd h
            have hj65 : rb_Ev RX0 cX0_readFrom 9 (some .int) none 15 (some o.1) (rb_ov μ [(5, o.2.1), (6, o.2.2.1), (1, o.2.2.2)]) 108 [some (.inr 1), none, none, some (.inl t1), some (.inl j3), some (.inl v59), some (.inl v61), none, none] [.inl j63] (rb_ov μ [(5, c), (6, g), (1, f)]) := by
              refine ev_istore (L' := [some (.inr 1), none, none, some (.inl t1), some (.inl j3), some (.inl v59), some (.inl v61), some (.inl j63), none]) (pc := 108) dX0_readFrom_108 (Nat.le_of_ble_eq_true rfl) rfl ?_
              refine ev_iload (v := j63) (pc := 110) dX0_readFrom_110 rfl ?_
              refine ev_iload (v := v61) (pc := 112) dX0_readFrom_112 rfl ?_
              refine ev_min (pc := 114) dX0_readFrom_114 lk_RX0_109 (Nat.le_of_ble_eq_true rfl) (Nat.le_of_ble_eq_true rfl) ?_
              refine ev_istore (L' := [some (.inr 1), none, none, some (.inl t1), some (.inl j3), some (.inl v59), some (.inl v61), some (.inl j63), some (.inl (rb_min j63 v61))]) (pc := 117) dX0_readFrom_117 (Nat.le_of_ble_eq_true rfl) rfl ?_
              refine ev_iload (v := (rb_min j63 v61)) (pc := 119) dX0_readFrom_119 rfl ?_
              by_cases b70 : 0 < (rb_min j63 v61)
              · rw [if_pos b70] at h
                refine ev_if_gt_t (t := 141) (pc := 121) dX0_readFrom_121 (by decide) b70 ?_
                obtain ⟨t71, e72, h⟩ := rb_bd h
                refine ev_aload_n (v := 1) (pc := 141) dX0_readFrom_141 rfl ?_
                refine ev_getr (q := 2) (pc := 142) dX0_readFrom_142 fl_RX0_20 rfl rfl ?_
                refine ev_iload_n (v := t1) (pc := 145) dX0_readFrom_145 rfl ?_
                refine ev_iload (v := v61) (pc := 146) dX0_readFrom_146 rfl ?_
                refine ev_iload (v := (rb_min j63 v61)) (pc := 148) dX0_readFrom_148 rfl ?_
                refine ev_isub (pc := 150) dX0_readFrom_150 ?_
                refine ev_cVv2w (w' := [(5, t71), (6, g), (1, f)]) (pc := 151) dX0_readFrom_151 mv_X5_setHeld lk_RX0_114 rp_2 (ct0_X5_setHeld _ _ _ _ _ rfl e72) (Nat.le_of_ble_eq_true rfl) (Nat.le_of_ble_eq_true rfl) rfl ?_
                refine ev_iload (v := j3) (pc := 154) dX0_readFrom_154 rfl ?_
                by_cases b73 : j3 = 0
                · rw [if_pos b73] at h
                  refine ev_if_ne_f (t := 170) (pc := 156) dX0_readFrom_156 (by decide) b73 ?_
                  obtain ⟨t74, e75, h⟩ := rb_bd h
                  refine ev_aload_n (v := 1) (pc := 159) dX0_readFrom_159 rfl ?_
                  refine ev_iload (v := v59) (pc := 160) dX0_readFrom_160 rfl ?_
                  refine ev_iconst (v := 2) (pc := 162) dX0_readFrom_162 ki_2 ?_
                  refine ev_iconst (v := 0) (pc := 163) dX0_readFrom_163 ki_0 ?_
                  refine ev_cVv3w (w' := [(5, t74.1), (6, t74.2.1), (1, t74.2.2)]) (pc := 164) dX0_readFrom_164 mv_X0_sendNotice lk_RX0_89 rp_1 (ct0_X0_sendNotice 6 _ _ _ _ _ _ _ _ rfl rfl rfl e75) (Nat.le_of_ble_eq_true rfl) (Nat.le_of_ble_eq_true rfl) rfl ?_
                  refine ev_goto (t := 183) (pc := 167) dX0_readFrom_167 (by decide) ?_
                  refine ev_iload (v := (rb_min j63 v61)) (pc := 183) dX0_readFrom_183 rfl ?_
                  obtain rfl := Option.some.inj h
                  exact ev_iret (pc := 185) dX0_readFrom_185 rfl rfl rfl (hfin _ _ _)
                · rw [if_neg b73] at h
                  refine ev_if_ne_t (t := 170) (pc := 156) dX0_readFrom_156 (by decide) b73 ?_
                  refine ev_iload (v := j3) (pc := 170) dX0_readFrom_170 rfl ?_
                  refine ev_iconst (v := 2) (pc := 172) dX0_readFrom_172 ki_2 ?_
                  by_cases b76 : j3 = 2
                  · rw [if_pos b76] at h
                    refine ev_icmp_ne_f (t := 183) (pc := 173) dX0_readFrom_173 (by decide) b76 ?_
                    obtain ⟨t77, e78, h⟩ := rb_bd h
                    refine ev_aload_n (v := 1) (pc := 176) dX0_readFrom_176 rfl ?_
                    refine ev_iload_n (v := t1) (pc := 177) dX0_readFrom_177 rfl ?_
                    refine ev_iconst (v := 2) (pc := 178) dX0_readFrom_178 ki_2 ?_
                    refine ev_iconst (v := 0) (pc := 179) dX0_readFrom_179 ki_0 ?_
                    refine ev_cVv3w (w' := [(5, t77.1), (6, t77.2.1), (1, t77.2.2)]) (pc := 180) dX0_readFrom_180 mv_X0_sendNotice lk_RX0_89 rp_1 (ct0_X0_sendNotice 6 _ _ _ _ _ _ _ _ rfl rfl rfl e78) (Nat.le_of_ble_eq_true rfl) (Nat.le_of_ble_eq_true rfl) rfl ?_
                    refine ev_iload (v := (rb_min j63 v61)) (pc := 183) dX0_readFrom_183 rfl ?_
                    obtain rfl := Option.some.inj h
                    exact ev_iret (pc := 185) dX0_readFrom_185 rfl rfl rfl (hfin _ _ _)
                  · rw [if_neg b76] at h
                    refine ev_icmp_ne_t (t := 183) (pc := 173) dX0_readFrom_173 (by decide) b76 ?_
                    refine ev_iload (v := (rb_min j63 v61)) (pc := 183) dX0_readFrom_183 rfl ?_
                    obtain rfl := Option.some.inj h
                    exact ev_iret (pc := 185) dX0_readFrom_185 rfl rfl rfl (hfin _ _ _)
              · rw [if_neg b70] at h
                refine ev_if_gt_f (t := 141) (pc := 121) dX0_readFrom_121 (by decide) b70 ?_
                refine ev_iload (v := j3) (pc := 124) dX0_readFrom_124 rfl ?_
                by_cases b79 : j3 = 0
                · rw [if_pos b79] at h
                  refine ev_if_ne_f (t := 139) (pc := 126) dX0_readFrom_126 (by decide) b79 ?_
                  refine ev_iload (v := v59) (pc := 129) dX0_readFrom_129 rfl ?_
                  by_cases b80 : 0 ≤ v59
                  · rw [if_pos b80] at h
                    refine ev_if_ge_t (t := 139) (pc := 131) dX0_readFrom_131 (by decide) b80 ?_
                    refine ev_iconst (v := 0) (pc := 139) dX0_readFrom_139 ki_0 ?_
                    obtain rfl := Option.some.inj h
                    exact ev_iret (pc := 140) dX0_readFrom_140 rfl rfl rfl (hfin _ _ _)
                  · rw [if_neg b80] at h
                    refine ev_if_ge_f (t := 139) (pc := 131) dX0_readFrom_131 (by decide) b80 ?_
                    refine ev_bipush (v := (-2)) (pc := 134) dX0_readFrom_134 kb_m2 ?_
                    refine ev_goto (t := 140) (pc := 136) dX0_readFrom_136 (by decide) ?_
                    obtain rfl := Option.some.inj h
                    exact ev_iret (pc := 140) dX0_readFrom_140 rfl rfl rfl (hfin _ _ _)
                · rw [if_neg b79] at h
                  refine ev_if_ne_t (t := 139) (pc := 126) dX0_readFrom_126 (by decide) b79 ?_
                  refine ev_iconst (v := 0) (pc := 139) dX0_readFrom_139 ki_0 ?_
                  obtain rfl := Option.some.inj h
                  exact ev_iret (pc := 140) dX0_readFrom_140 rfl rfl rfl (hfin _ _ _)
            replace h := e64
            by_cases b66 : j3 = 0
            · rw [if_pos b66] at h
              refine ev_if_ne_f (t := 89) (pc := 82) dX0_readFrom_82 (by decide) b66 ?_
              refine ev_iload_n (v := x1) (pc := 85) dX0_readFrom_85 rfl ?_
              refine ev_goto (t := 108) (pc := 86) dX0_readFrom_86 (by decide) ?_
              obtain rfl := Option.some.inj h
              exact ev_fg (L := [some (.inr 1), none, none, some (.inl t1), some (.inl j3), some (.inl v59), some (.inl v61), none, none]) (And.intro rfl (And.intro rfl (And.intro rfl (And.intro rfl (And.intro rfl True.intro))))) (hj65)
            · rw [if_neg b66] at h
              refine ev_if_ne_t (t := 89) (pc := 82) dX0_readFrom_82 (by decide) b66 ?_
              obtain ⟨v67, e68, h⟩ := rb_bd h
              refine ev_aload_n (v := 1) (pc := 89) dX0_readFrom_89 rfl ?_
              refine ev_getr (q := 5) (pc := 90) dX0_readFrom_90 fl_RX0_9 rfl rfl ?_
              refine ev_bipush (v := 103) (pc := 93) dX0_readFrom_93 kb_103 ?_
              refine ev_iload_n (v := t1) (pc := 95) dX0_readFrom_95 rfl ?_
              refine ev_iadd (pc := 96) dX0_readFrom_96 ?_
              refine ev_iald (pc := 97) dX0_readFrom_97 rfl e68 ?_
              by_cases b69 : v67 = 0
              · rw [if_pos b69] at h
                refine ev_if_eq_t (t := 105) (pc := 98) dX0_readFrom_98 (by decide) b69 ?_
                refine ev_sipush (v := 1000) (pc := 105) dX0_readFrom_105 ks_1000 ?_
                obtain rfl := Option.some.inj h
                exact ev_fg (L := [some (.inr 1), none, none, some (.inl t1), some (.inl j3), some (.inl v59), some (.inl v61), none, none]) (And.intro rfl (And.intro rfl (And.intro rfl (And.intro rfl (And.intro rfl True.intro))))) (hj65)
              · rw [if_neg b69] at h
                refine ev_if_eq_f (t := 105) (pc := 98) dX0_readFrom_98 (by decide) b69 ?_
                refine ev_iconst (v := 1) (pc := 101) dX0_readFrom_101 ki_1 ?_
                refine ev_goto (t := 108) (pc := 102) dX0_readFrom_102 (by decide) ?_
                obtain rfl := Option.some.inj h
                exact ev_fg (L := [some (.inr 1), none, none, some (.inl t1), some (.inl j3), some (.inl v59), some (.inl v61), none, none]) (And.intro rfl (And.intro rfl (And.intro rfl (And.intro rfl (And.intro rfl True.intro))))) (hj65)
          · rw [if_neg b58] at h
            refine ev_icmp_eq_f (t := 57) (pc := 52) dX0_readFrom_52 (by decide) b58 ?_
            refine ev_iconst (v := (-1)) (pc := 55) dX0_readFrom_55 ki_m1 ?_
            obtain rfl := Option.some.inj h
            exact ev_iret (pc := 56) dX0_readFrom_56 rfl rfl rfl (hfin _ _ _)
  replace h := e4
  by_cases b6 : 0 ≤ t1
  · rw [if_pos b6] at h
    refine ev_if_ge_t (t := 17) (pc := 10) dX0_readFrom_10 (by decide) b6 ?_
    obtain ⟨v7, e8, h⟩ := rb_bd h
    refine ev_aload_n (v := 1) (pc := 17) dX0_readFrom_17 rfl ?_
    refine ev_getr (q := 5) (pc := 18) dX0_readFrom_18 fl_RX0_9 rfl rfl ?_
    refine ev_bipush (v := 19) (pc := 21) dX0_readFrom_21 kb_19 ?_
    refine ev_iload_n (v := t1) (pc := 23) dX0_readFrom_23 rfl ?_
    refine ev_iadd (pc := 24) dX0_readFrom_24 ?_
    refine ev_iald (pc := 25) dX0_readFrom_25 rfl e8 ?_
    obtain rfl := Option.some.inj h
    exact ev_fg (L := [some (.inr 1), none, some (.inl x1), some (.inl t1), none, none, none, none, none]) (And.intro rfl (And.intro rfl (And.intro rfl True.intro))) (hj5)
  · rw [if_neg b6] at h
    refine ev_if_ge_f (t := 17) (pc := 10) dX0_readFrom_10 (by decide) b6 ?_
    refine ev_iconst (v := (-1)) (pc := 13) dX0_readFrom_13 ki_m1 ?_
    refine ev_goto (t := 26) (pc := 14) dX0_readFrom_14 (by decide) ?_
    obtain rfl := Option.some.inj h
    exact ev_fg (L := [some (.inr 1), none, some (.inl x1), some (.inl t1), none, none, none, none, none]) (And.intro rfl (And.intro rfl (And.intro rfl True.intro))) (hj5)
set_option maxHeartbeats 4000000 in
set_option maxRecDepth 20000 in
theorem ct1_X0_readFrom (μ : rb_Mem) (c : rb_Row) (g : rb_Row) (f : rb_Row) (x0 : Int32) (x1 : Int32) (o : Int32 × rb_Row × rb_Row × rb_Row) (hc : μ 11 = c) (hg : μ 12 = g) (hf : μ 7 = f) (h : XX0_readFrom c g f x0 x1 = some o) : rb_Ct yX0_readFrom cX0_readFrom 9 (some .int) 15 [.inr 7, .inl x0, .inl x1] μ (some o.1) (rb_ov μ [(11, o.2.1), (12, o.2.2.1), (7, o.2.2.2)]) := by
  unfold XX0_readFrom at h
  have hini : rb_ov μ [(11, c), (12, g), (7, f)] = μ := rb_ov_sf _ _ (And.intro hc (And.intro hg (And.intro hf True.intro)))
  have hfin : ∀ u0 u1 u2 : rb_Row, rb_ov μ [(11, u0), (12, u1), (7, u2)] = rb_ov μ [(11, u0), (12, u1), (7, u2)] := fun u0 u1 u2 => rfl
  refine rb_cti (w := [(11, c), (12, g), (7, f)]) rfl pn_0 (Nat.le_of_ble_eq_true rfl) rfl hini ?_
  obtain ⟨t1, e2, h⟩ := rb_bd h
  refine ev_aload_n (v := 7) (pc := 0) dX0_readFrom_0 rfl ?_
  refine ev_getr (q := 8) (pc := 1) dX0_readFrom_1 fl_RX0_20 rfl rfl ?_
  refine ev_iload_n (v := x0) (pc := 4) dX0_readFrom_4 rfl ?_
  refine ev_cVi1 (pc := 5) dX0_readFrom_5 mv_X5_thingOf lk_RX0_96 rp_8 (ct1_X5_thingOf _ _ _ _ rfl e2) (Nat.le_of_ble_eq_true rfl) (Nat.le_of_ble_eq_true rfl) ?_
  refine ev_istore_n (L' := [some (.inr 7), some (.inl x0), some (.inl x1), some (.inl t1), none, none, none, none, none]) (pc := 8) dX0_readFrom_8 (Nat.le_of_ble_eq_true rfl) rfl ?_
  refine ev_iload_n (v := t1) (pc := 9) dX0_readFrom_9 rfl ?_
  obtain ⟨j3, e4, h⟩ := rb_bd h
  have hj5 : rb_Ev RX0 cX0_readFrom 9 (some .int) none 15 (some o.1) (rb_ov μ [(11, o.2.1), (12, o.2.2.1), (7, o.2.2.2)]) 26 [some (.inr 7), none, some (.inl x1), some (.inl t1), none, none, none, none, none] [.inl j3] (rb_ov μ [(11, c), (12, g), (7, f)]) := by
    obtain ⟨t9, e10, h⟩ := rb_bd h
    refine ev_istore (L' := [some (.inr 7), none, some (.inl x1), some (.inl t1), some (.inl j3), none, none, none, none]) (pc := 26) dX0_readFrom_26 (Nat.le_of_ble_eq_true rfl) rfl ?_
    refine ev_iload_n (v := x1) (pc := 28) dX0_readFrom_28 rfl ?_
    refine ev_iconst (v := 1) (pc := 29) dX0_readFrom_29 ki_1 ?_
    refine ev_bipush (v := 100) (pc := 30) dX0_readFrom_30 kb_100 ?_
    refine ev_cSi3 (pc := 32) dX0_readFrom_32 ms_X6_between lk_RX0_72 (ct_X6_between _ _ _ _ _ e10) (Nat.le_of_ble_eq_true rfl) (Nat.le_of_ble_eq_true rfl) ?_
    by_cases b11 : t9 = 0
    · rw [if_pos b11] at h
      refine ev_if_eq_t (t := 55) (pc := 35) dX0_readFrom_35 (by decide) b11 ?_
      refine ev_iconst (v := (-1)) (pc := 55) dX0_readFrom_55 ki_m1 ?_
      obtain rfl := Option.some.inj h
      exact ev_iret (pc := 56) dX0_readFrom_56 rfl rfl rfl (hfin _ _ _)
    · rw [if_neg b11] at h
      refine ev_if_eq_f (t := 55) (pc := 35) dX0_readFrom_35 (by decide) b11 ?_
      refine ev_iload (v := j3) (pc := 38) dX0_readFrom_38 rfl ?_
      by_cases b12 : j3 = 0
      · rw [if_pos b12] at h
        refine ev_if_eq_t (t := 57) (pc := 40) dX0_readFrom_40 (by decide) b12 ?_
        obtain ⟨v13, e14, h⟩ := rb_bd h
        obtain ⟨v15, e16, h⟩ := rb_bd h
        refine ev_aload_n (v := 7) (pc := 57) dX0_readFrom_57 rfl ?_
        refine ev_getr (q := 11) (pc := 58) dX0_readFrom_58 fl_RX0_9 rfl rfl ?_
        refine ev_sipush (v := 131) (pc := 61) dX0_readFrom_61 ks_131 ?_
        refine ev_iload_n (v := t1) (pc := 64) dX0_readFrom_64 rfl ?_
        refine ev_iadd (pc := 65) dX0_readFrom_65 ?_
        refine ev_iald (pc := 66) dX0_readFrom_66 rfl e14 ?_
        refine ev_istore (L' := [some (.inr 7), none, some (.inl x1), some (.inl t1), some (.inl j3), some (.inl v13), none, none, none]) (pc := 67) dX0_readFrom_67 (Nat.le_of_ble_eq_true rfl) rfl ?_
        refine ev_aload_n (v := 7) (pc := 69) dX0_readFrom_69 rfl ?_
        refine ev_getr (q := 11) (pc := 70) dX0_readFrom_70 fl_RX0_9 rfl rfl ?_
        refine ev_bipush (v := 47) (pc := 73) dX0_readFrom_73 kb_47 ?_
        refine ev_iload_n (v := t1) (pc := 75) dX0_readFrom_75 rfl ?_
        refine ev_iadd (pc := 76) dX0_readFrom_76 ?_
        refine ev_iald (pc := 77) dX0_readFrom_77 rfl e16 ?_
        refine ev_istore (L' := [some (.inr 7), none, some (.inl x1), some (.inl t1), some (.inl j3), some (.inl v13), some (.inl v15), none, none]) (pc := 78) dX0_readFrom_78 (Nat.le_of_ble_eq_true rfl) rfl ?_
        refine ev_iload (v := j3) (pc := 80) dX0_readFrom_80 rfl ?_
        obtain ⟨j17, e18, h⟩ := rb_bd h
        have hj19 : rb_Ev RX0 cX0_readFrom 9 (some .int) none 15 (some o.1) (rb_ov μ [(11, o.2.1), (12, o.2.2.1), (7, o.2.2.2)]) 108 [some (.inr 7), none, none, some (.inl t1), some (.inl j3), some (.inl v13), some (.inl v15), none, none] [.inl j17] (rb_ov μ [(11, c), (12, g), (7, f)]) := by
          refine ev_istore (L' := [some (.inr 7), none, none, some (.inl t1), some (.inl j3), some (.inl v13), some (.inl v15), some (.inl j17), none]) (pc := 108) dX0_readFrom_108 (Nat.le_of_ble_eq_true rfl) rfl ?_
          refine ev_iload (v := j17) (pc := 110) dX0_readFrom_110 rfl ?_
          refine ev_iload (v := v15) (pc := 112) dX0_readFrom_112 rfl ?_
          refine ev_min (pc := 114) dX0_readFrom_114 lk_RX0_109 (Nat.le_of_ble_eq_true rfl) (Nat.le_of_ble_eq_true rfl) ?_
          refine ev_istore (L' := [some (.inr 7), none, none, some (.inl t1), some (.inl j3), some (.inl v13), some (.inl v15), some (.inl j17), some (.inl (rb_min j17 v15))]) (pc := 117) dX0_readFrom_117 (Nat.le_of_ble_eq_true rfl) rfl ?_
          refine ev_iload (v := (rb_min j17 v15)) (pc := 119) dX0_readFrom_119 rfl ?_
          by_cases b24 : 0 < (rb_min j17 v15)
          · rw [if_pos b24] at h
            refine ev_if_gt_t (t := 141) (pc := 121) dX0_readFrom_121 (by decide) b24 ?_
            obtain ⟨t25, e26, h⟩ := rb_bd h
            refine ev_aload_n (v := 7) (pc := 141) dX0_readFrom_141 rfl ?_
            refine ev_getr (q := 8) (pc := 142) dX0_readFrom_142 fl_RX0_20 rfl rfl ?_
            refine ev_iload_n (v := t1) (pc := 145) dX0_readFrom_145 rfl ?_
            refine ev_iload (v := v15) (pc := 146) dX0_readFrom_146 rfl ?_
            refine ev_iload (v := (rb_min j17 v15)) (pc := 148) dX0_readFrom_148 rfl ?_
            refine ev_isub (pc := 150) dX0_readFrom_150 ?_
            refine ev_cVv2w (w' := [(11, t25), (12, g), (7, f)]) (pc := 151) dX0_readFrom_151 mv_X5_setHeld lk_RX0_114 rp_8 (ct1_X5_setHeld _ _ _ _ _ rfl e26) (Nat.le_of_ble_eq_true rfl) (Nat.le_of_ble_eq_true rfl) rfl ?_
            refine ev_iload (v := j3) (pc := 154) dX0_readFrom_154 rfl ?_
            by_cases b27 : j3 = 0
            · rw [if_pos b27] at h
              refine ev_if_ne_f (t := 170) (pc := 156) dX0_readFrom_156 (by decide) b27 ?_
              obtain ⟨t28, e29, h⟩ := rb_bd h
              refine ev_aload_n (v := 7) (pc := 159) dX0_readFrom_159 rfl ?_
              refine ev_iload (v := v13) (pc := 160) dX0_readFrom_160 rfl ?_
              refine ev_iconst (v := 2) (pc := 162) dX0_readFrom_162 ki_2 ?_
              refine ev_iconst (v := 0) (pc := 163) dX0_readFrom_163 ki_0 ?_
              refine ev_cVv3w (w' := [(11, t28.1), (12, t28.2.1), (7, t28.2.2)]) (pc := 164) dX0_readFrom_164 mv_X0_sendNotice lk_RX0_89 rp_7 (ct1_X0_sendNotice 6 _ _ _ _ _ _ _ _ rfl rfl rfl e29) (Nat.le_of_ble_eq_true rfl) (Nat.le_of_ble_eq_true rfl) rfl ?_
              refine ev_goto (t := 183) (pc := 167) dX0_readFrom_167 (by decide) ?_
              refine ev_iload (v := (rb_min j17 v15)) (pc := 183) dX0_readFrom_183 rfl ?_
              obtain rfl := Option.some.inj h
              exact ev_iret (pc := 185) dX0_readFrom_185 rfl rfl rfl (hfin _ _ _)
            · rw [if_neg b27] at h
              refine ev_if_ne_t (t := 170) (pc := 156) dX0_readFrom_156 (by decide) b27 ?_
              refine ev_iload (v := j3) (pc := 170) dX0_readFrom_170 rfl ?_
              refine ev_iconst (v := 2) (pc := 172) dX0_readFrom_172 ki_2 ?_
              by_cases b30 : j3 = 2
              · rw [if_pos b30] at h
                refine ev_icmp_ne_f (t := 183) (pc := 173) dX0_readFrom_173 (by decide) b30 ?_
                obtain ⟨t31, e32, h⟩ := rb_bd h
                refine ev_aload_n (v := 7) (pc := 176) dX0_readFrom_176 rfl ?_
                refine ev_iload_n (v := t1) (pc := 177) dX0_readFrom_177 rfl ?_
                refine ev_iconst (v := 2) (pc := 178) dX0_readFrom_178 ki_2 ?_
                refine ev_iconst (v := 0) (pc := 179) dX0_readFrom_179 ki_0 ?_
                refine ev_cVv3w (w' := [(11, t31.1), (12, t31.2.1), (7, t31.2.2)]) (pc := 180) dX0_readFrom_180 mv_X0_sendNotice lk_RX0_89 rp_7 (ct1_X0_sendNotice 6 _ _ _ _ _ _ _ _ rfl rfl rfl e32) (Nat.le_of_ble_eq_true rfl) (Nat.le_of_ble_eq_true rfl) rfl ?_
                refine ev_iload (v := (rb_min j17 v15)) (pc := 183) dX0_readFrom_183 rfl ?_
                obtain rfl := Option.some.inj h
                exact ev_iret (pc := 185) dX0_readFrom_185 rfl rfl rfl (hfin _ _ _)
              · rw [if_neg b30] at h
                refine ev_icmp_ne_t (t := 183) (pc := 173) dX0_readFrom_173 (by decide) b30 ?_
                refine ev_iload (v := (rb_min j17 v15)) (pc := 183) dX0_readFrom_183 rfl ?_
                obtain rfl := Option.some.inj h
                exact ev_iret (pc := 185) dX0_readFrom_185 rfl rfl rfl (hfin _ _ _)
          · rw [if_neg b24] at h
            refine ev_if_gt_f (t := 141) (pc := 121) dX0_readFrom_121 (by decide) b24 ?_
            refine ev_iload (v := j3) (pc := 124) dX0_readFrom_124 rfl ?_
            by_cases b33 : j3 = 0
            · rw [if_pos b33] at h
              refine ev_if_ne_f (t := 139) (pc := 126) dX0_readFrom_126 (by decide) b33 ?_
              refine ev_iload (v := v13) (pc := 129) dX0_readFrom_129 rfl ?_
              by_cases b34 : 0 ≤ v13
              · rw [if_pos b34] at h
                refine ev_if_ge_t (t := 139) (pc := 131) dX0_readFrom_131 (by decide) b34 ?_
                refine ev_iconst (v := 0) (pc := 139) dX0_readFrom_139 ki_0 ?_
                obtain rfl := Option.some.inj h
                exact ev_iret (pc := 140) dX0_readFrom_140 rfl rfl rfl (hfin _ _ _)
              · rw [if_neg b34] at h
                refine ev_if_ge_f (t := 139) (pc := 131) dX0_readFrom_131 (by decide) b34 ?_
                refine ev_bipush (v := (-2)) (pc := 134) dX0_readFrom_134 kb_m2 ?_
                refine ev_goto (t := 140) (pc := 136) dX0_readFrom_136 (by decide) ?_
                obtain rfl := Option.some.inj h
                exact ev_iret (pc := 140) dX0_readFrom_140 rfl rfl rfl (hfin _ _ _)
            · rw [if_neg b33] at h
              refine ev_if_ne_t (t := 139) (pc := 126) dX0_readFrom_126 (by decide) b33 ?_
              refine ev_iconst (v := 0) (pc := 139) dX0_readFrom_139 ki_0 ?_
              obtain rfl := Option.some.inj h
              exact ev_iret (pc := 140) dX0_readFrom_140 rfl rfl rfl (hfin _ _ _)
        replace h := e18
        by_cases b20 : j3 = 0
        · rw [if_pos b20] at h
          refine ev_if_ne_f (t := 89) (pc := 82) dX0_readFrom_82 (by decide) b20 ?_
          refine ev_iload_n (v := x1) (pc := 85) dX0_readFrom_85 rfl ?_
          refine ev_goto (t := 108) (pc := 86) dX0_readFrom_86 (by decide) ?_
          obtain rfl := Option.some.inj h
          exact ev_fg (L := [some (.inr 7), none, none, some (.inl t1), some (.inl j3), some (.inl v13), some (.inl v15), none, none]) (And.intro rfl (And.intro rfl (And.intro rfl (And.intro rfl (And.intro rfl True.intro))))) (hj19)
        · rw [if_neg b20] at h
          refine ev_if_ne_t (t := 89) (pc := 82) dX0_readFrom_82 (by decide) b20 ?_
          obtain ⟨v21, e22, h⟩ := rb_bd h
          refine ev_aload_n (v := 7) (pc := 89) dX0_readFrom_89 rfl ?_
          refine ev_getr (q := 11) (pc := 90) dX0_readFrom_90 fl_RX0_9 rfl rfl ?_
          refine ev_bipush (v := 103) (pc := 93) dX0_readFrom_93 kb_103 ?_
          refine ev_iload_n (v := t1) (pc := 95) dX0_readFrom_95 rfl ?_
          refine ev_iadd (pc := 96) dX0_readFrom_96 ?_
          refine ev_iald (pc := 97) dX0_readFrom_97 rfl e22 ?_
          by_cases b23 : v21 = 0
          · rw [if_pos b23] at h
            refine ev_if_eq_t (t := 105) (pc := 98) dX0_readFrom_98 (by decide) b23 ?_
            refine ev_sipush (v := 1000) (pc := 105) dX0_readFrom_105 ks_1000 ?_
            obtain rfl := Option.some.inj h
            exact ev_fg (L := [some (.inr 7), none, none, some (.inl t1), some (.inl j3), some (.inl v13), some (.inl v15), none, none]) (And.intro rfl (And.intro rfl (And.intro rfl (And.intro rfl (And.intro rfl True.intro))))) (hj19)
          · rw [if_neg b23] at h
            refine ev_if_eq_f (t := 105) (pc := 98) dX0_readFrom_98 (by decide) b23 ?_
            refine ev_iconst (v := 1) (pc := 101) dX0_readFrom_101 ki_1 ?_
            refine ev_goto (t := 108) (pc := 102) dX0_readFrom_102 (by decide) ?_
            obtain rfl := Option.some.inj h
            exact ev_fg (L := [some (.inr 7), none, none, some (.inl t1), some (.inl j3), some (.inl v13), some (.inl v15), none, none]) (And.intro rfl (And.intro rfl (And.intro rfl (And.intro rfl (And.intro rfl True.intro))))) (hj19)
      · rw [if_neg b12] at h
        refine ev_if_eq_f (t := 57) (pc := 40) dX0_readFrom_40 (by decide) b12 ?_
        refine ev_iload (v := j3) (pc := 43) dX0_readFrom_43 rfl ?_
        refine ev_iconst (v := 2) (pc := 45) dX0_readFrom_45 ki_2 ?_
        by_cases b35 : j3 = 2
        · rw [if_pos b35] at h
          refine ev_icmp_eq_t (t := 57) (pc := 46) dX0_readFrom_46 (by decide) b35 ?_
          obtain ⟨v36, e37, h⟩ := rb_bd h
          obtain ⟨v38, e39, h⟩ := rb_bd h
          refine ev_aload_n (v := 7) (pc := 57) dX0_readFrom_57 rfl ?_
          refine ev_getr (q := 11) (pc := 58) dX0_readFrom_58 fl_RX0_9 rfl rfl ?_
          refine ev_sipush (v := 131) (pc := 61) dX0_readFrom_61 ks_131 ?_
          refine ev_iload_n (v := t1) (pc := 64) dX0_readFrom_64 rfl ?_
          refine ev_iadd (pc := 65) dX0_readFrom_65 ?_
          refine ev_iald (pc := 66) dX0_readFrom_66 rfl e37 ?_
          refine ev_istore (L' := [some (.inr 7), none, some (.inl x1), some (.inl t1), some (.inl j3), some (.inl v36), none, none, none]) (pc := 67) dX0_readFrom_67 (Nat.le_of_ble_eq_true rfl) rfl ?_
          refine ev_aload_n (v := 7) (pc := 69) dX0_readFrom_69 rfl ?_
          refine ev_getr (q := 11) (pc := 70) dX0_readFrom_70 fl_RX0_9 rfl rfl ?_
          refine ev_bipush (v := 47) (pc := 73) dX0_readFrom_73 kb_47 ?_
          refine ev_iload_n (v := t1) (pc := 75) dX0_readFrom_75 rfl ?_
          refine ev_iadd (pc := 76) dX0_readFrom_76 ?_
          refine ev_iald (pc := 77) dX0_readFrom_77 rfl e39 ?_
          refine ev_istore (L' := [some (.inr 7), none, some (.inl x1), some (.inl t1), some (.inl j3), some (.inl v36), some (.inl v38), none, none]) (pc := 78) dX0_readFrom_78 (Nat.le_of_ble_eq_true rfl) rfl ?_
          refine ev_iload (v := j3) (pc := 80) dX0_readFrom_80 rfl ?_
          obtain ⟨j40, e41, h⟩ := rb_bd h
          have hj42 : rb_Ev RX0 cX0_readFrom 9 (some .int) none 15 (some o.1) (rb_ov μ [(11, o.2.1), (12, o.2.2.1), (7, o.2.2.2)]) 108 [some (.inr 7), none, none, some (.inl t1), some (.inl j3), some (.inl v36), some (.inl v38), none, none] [.inl j40] (rb_ov μ [(11, c), (12, g), (7, f)]) := by
            refine ev_istore (L' := [some (.inr 7), none, none, some (.inl t1), some (.inl j3), some (.inl v36), some (.inl v38), some (.inl j40), none]) (pc := 108) dX0_readFrom_108 (Nat.le_of_ble_eq_true rfl) rfl ?_
            refine ev_iload (v := j40) (pc := 110) dX0_readFrom_110 rfl ?_
            refine ev_iload (v := v38) (pc := 112) dX0_readFrom_112 rfl ?_
            refine ev_min (pc := 114) dX0_readFrom_114 lk_RX0_109 (Nat.le_of_ble_eq_true rfl) (Nat.le_of_ble_eq_true rfl) ?_
            refine ev_istore (L' := [some (.inr 7), none, none, some (.inl t1), some (.inl j3), some (.inl v36), some (.inl v38), some (.inl j40), some (.inl (rb_min j40 v38))]) (pc := 117) dX0_readFrom_117 (Nat.le_of_ble_eq_true rfl) rfl ?_
            refine ev_iload (v := (rb_min j40 v38)) (pc := 119) dX0_readFrom_119 rfl ?_
            by_cases b47 : 0 < (rb_min j40 v38)
            · rw [if_pos b47] at h
              refine ev_if_gt_t (t := 141) (pc := 121) dX0_readFrom_121 (by decide) b47 ?_
              obtain ⟨t48, e49, h⟩ := rb_bd h
              refine ev_aload_n (v := 7) (pc := 141) dX0_readFrom_141 rfl ?_
              refine ev_getr (q := 8) (pc := 142) dX0_readFrom_142 fl_RX0_20 rfl rfl ?_
              refine ev_iload_n (v := t1) (pc := 145) dX0_readFrom_145 rfl ?_
              refine ev_iload (v := v38) (pc := 146) dX0_readFrom_146 rfl ?_
              refine ev_iload (v := (rb_min j40 v38)) (pc := 148) dX0_readFrom_148 rfl ?_
              refine ev_isub (pc := 150) dX0_readFrom_150 ?_
              refine ev_cVv2w (w' := [(11, t48), (12, g), (7, f)]) (pc := 151) dX0_readFrom_151 mv_X5_setHeld lk_RX0_114 rp_8 (ct1_X5_setHeld _ _ _ _ _ rfl e49) (Nat.le_of_ble_eq_true rfl) (Nat.le_of_ble_eq_true rfl) rfl ?_
              refine ev_iload (v := j3) (pc := 154) dX0_readFrom_154 rfl ?_
              by_cases b50 : j3 = 0
              · rw [if_pos b50] at h
                refine ev_if_ne_f (t := 170) (pc := 156) dX0_readFrom_156 (by decide) b50 ?_
                obtain ⟨t51, e52, h⟩ := rb_bd h
                refine ev_aload_n (v := 7) (pc := 159) dX0_readFrom_159 rfl ?_
                refine ev_iload (v := v36) (pc := 160) dX0_readFrom_160 rfl ?_
                refine ev_iconst (v := 2) (pc := 162) dX0_readFrom_162 ki_2 ?_
                refine ev_iconst (v := 0) (pc := 163) dX0_readFrom_163 ki_0 ?_
                refine ev_cVv3w (w' := [(11, t51.1), (12, t51.2.1), (7, t51.2.2)]) (pc := 164) dX0_readFrom_164 mv_X0_sendNotice lk_RX0_89 rp_7 (ct1_X0_sendNotice 6 _ _ _ _ _ _ _ _ rfl rfl rfl e52) (Nat.le_of_ble_eq_true rfl) (Nat.le_of_ble_eq_true rfl) rfl ?_
                refine ev_goto (t := 183) (pc := 167) dX0_readFrom_167 (by decide) ?_
                refine ev_iload (v := (rb_min j40 v38)) (pc := 183) dX0_readFrom_183 rfl ?_
                obtain rfl := Option.some.inj h
                exact ev_iret (pc := 185) dX0_readFrom_185 rfl rfl rfl (hfin _ _ _)
              · rw [if_neg b50] at h
                refine ev_if_ne_t (t := 170) (pc := 156) dX0_readFrom_156 (by decide) b50 ?_
                refine ev_iload (v := j3) (pc := 170) dX0_readFrom_170 rfl ?_
                refine ev_iconst (v := 2) (pc := 172) dX0_readFrom_172 ki_2 ?_
                by_cases b53 : j3 = 2
                · rw [if_pos b53] at h
                  refine ev_icmp_ne_f (t := 183) (pc := 173) dX0_readFrom_173 (by decide) b53 ?_
                  obtain ⟨t54, e55, h⟩ := rb_bd h
                  refine ev_aload_n (v := 7) (pc := 176) dX0_readFrom_176 rfl ?_
                  refine ev_iload_n (v := t1) (pc := 177) dX0_readFrom_177 rfl ?_
                  refine ev_iconst (v := 2) (pc := 178) dX0_readFrom_178 ki_2 ?_
                  refine ev_iconst (v := 0) (pc := 179) dX0_readFrom_179 ki_0 ?_
                  refine ev_cVv3w (w' := [(11, t54.1), (12, t54.2.1), (7, t54.2.2)]) (pc := 180) dX0_readFrom_180 mv_X0_sendNotice lk_RX0_89 rp_7 (ct1_X0_sendNotice 6 _ _ _ _ _ _ _ _ rfl rfl rfl e55) (Nat.le_of_ble_eq_true rfl) (Nat.le_of_ble_eq_true rfl) rfl ?_
                  refine ev_iload (v := (rb_min j40 v38)) (pc := 183) dX0_readFrom_183 rfl ?_
                  obtain rfl := Option.some.inj h
                  exact ev_iret (pc := 185) dX0_readFrom_185 rfl rfl rfl (hfin _ _ _)
                · rw [if_neg b53] at h
                  refine ev_icmp_ne_t (t := 183) (pc := 173) dX0_readFrom_173 (by decide) b53 ?_
                  refine ev_iload (v := (rb_min j40 v38)) (pc := 183) dX0_readFrom_183 rfl ?_
                  obtain rfl := Option.some.inj h
                  exact ev_iret (pc := 185) dX0_readFrom_185 rfl rfl rfl (hfin _ _ _)
            · rw [if_neg b47] at h
              refine ev_if_gt_f (t := 141) (pc := 121) dX0_readFrom_121 (by decide) b47 ?_
              refine ev_iload (v := j3) (pc := 124) dX0_readFrom_124 rfl ?_
              by_cases b56 : j3 = 0
              · rw [if_pos b56] at h
                refine ev_if_ne_f (t := 139) (pc := 126) dX0_readFrom_126 (by decide) b56 ?_
                refine ev_iload (v := v36) (pc := 129) dX0_readFrom_129 rfl ?_
                by_cases b57 : 0 ≤ v36
                · rw [if_pos b57] at h
                  refine ev_if_ge_t (t := 139) (pc := 131) dX0_readFrom_131 (by decide) b57 ?_
                  refine ev_iconst (v := 0) (pc := 139) dX0_readFrom_139 ki_0 ?_
                  obtain rfl := Option.some.inj h
                  exact ev_iret (pc := 140) dX0_readFrom_140 rfl rfl rfl (hfin _ _ _)
                · rw [if_neg b57] at h
                  refine ev_if_ge_f (t := 139) (pc := 131) dX0_readFrom_131 (by decide) b57 ?_
                  refine ev_bipush (v := (-2)) (pc := 134) dX0_readFrom_134 kb_m2 ?_
                  refine ev_goto (t := 140) (pc := 136) dX0_readFrom_136 (by decide) ?_
                  obtain rfl := Option.some.inj h
                  exact ev_iret (pc := 140) dX0_readFrom_140 rfl rfl rfl (hfin _ _ _)
              · rw [if_neg b56] at h
                refine ev_if_ne_t (t := 139) (pc := 126) dX0_readFrom_126 (by decide) b56 ?_
                refine ev_iconst (v := 0) (pc := 139) dX0_readFrom_139 ki_0 ?_
                obtain rfl := Option.some.inj h
                exact ev_iret (pc := 140) dX0_readFrom_140 rfl rfl rfl (hfin _ _ _)
          replace h := e41
          by_cases b43 : j3 = 0
          · rw [if_pos b43] at h
            refine ev_if_ne_f (t := 89) (pc := 82) dX0_readFrom_82 (by decide) b43 ?_
            refine ev_iload_n (v := x1) (pc := 85) dX0_readFrom_85 rfl ?_
            refine ev_goto (t := 108) (pc := 86) dX0_readFrom_86 (by decide) ?_
            obtain rfl := Option.some.inj h
            exact ev_fg (L := [some (.inr 7), none, none, some (.inl t1), some (.inl j3), some (.inl v36), some (.inl v38), none, none]) (And.intro rfl (And.intro rfl (And.intro rfl (And.intro rfl (And.intro rfl True.intro))))) (hj42)
          · rw [if_neg b43] at h
            refine ev_if_ne_t (t := 89) (pc := 82) dX0_readFrom_82 (by decide) b43 ?_
            obtain ⟨v44, e45, h⟩ := rb_bd h
            refine ev_aload_n (v := 7) (pc := 89) dX0_readFrom_89 rfl ?_
            refine ev_getr (q := 11) (pc := 90) dX0_readFrom_90 fl_RX0_9 rfl rfl ?_
            refine ev_bipush (v := 103) (pc := 93) dX0_readFrom_93 kb_103 ?_
            refine ev_iload_n (v := t1) (pc := 95) dX0_readFrom_95 rfl ?_
            refine ev_iadd (pc := 96) dX0_readFrom_96 ?_
            refine ev_iald (pc := 97) dX0_readFrom_97 rfl e45 ?_
            by_cases b46 : v44 = 0
            · rw [if_pos b46] at h
              refine ev_if_eq_t (t := 105) (pc := 98) dX0_readFrom_98 (by decide) b46 ?_
              refine ev_sipush (v := 1000) (pc := 105) dX0_readFrom_105 ks_1000 ?_
              obtain rfl := Option.some.inj h
              exact ev_fg (L := [some (.inr 7), none, none, some (.inl t1), some (.inl j3), some (.inl v36), some (.inl v38), none, none]) (And.intro rfl (And.intro rfl (And.intro rfl (And.intro rfl (And.intro rfl True.intro))))) (hj42)
            · rw [if_neg b46] at h
              refine ev_if_eq_f (t := 105) (pc := 98) dX0_readFrom_98 (by decide) b46 ?_
              refine ev_iconst (v := 1) (pc := 101) dX0_readFrom_101 ki_1 ?_
              refine ev_goto (t := 108) (pc := 102) dX0_readFrom_102 (by decide) ?_
              obtain rfl := Option.some.inj h
              exact ev_fg (L := [some (.inr 7), none, none, some (.inl t1), some (.inl j3), some (.inl v36), some (.inl v38), none, none]) (And.intro rfl (And.intro rfl (And.intro rfl (And.intro rfl (And.intro rfl True.intro))))) (hj42)
        · rw [if_neg b35] at h
          refine ev_icmp_eq_f (t := 57) (pc := 46) dX0_readFrom_46 (by decide) b35 ?_
          refine ev_iload (v := j3) (pc := 49) dX0_readFrom_49 rfl ?_
          refine ev_iconst (v := 3) (pc := 51) dX0_readFrom_51 ki_3 ?_
          by_cases b58 : j3 = 3
          · rw [if_pos b58] at h
            refine ev_icmp_eq_t (t := 57) (pc := 52) dX0_readFrom_52 (by decide) b58 ?_
            obtain ⟨v59, e60, h⟩ := rb_bd h
            obtain ⟨v61, e62, h⟩ := rb_bd h
            refine ev_aload_n (v := 7) (pc := 57) dX0_readFrom_57 rfl ?_
            refine ev_getr (q := 11) (pc := 58) dX0_readFrom_58 fl_RX0_9 rfl rfl ?_
            refine ev_sipush (v := 131) (pc := 61) dX0_readFrom_61 ks_131 ?_
            refine ev_iload_n (v := t1) (pc := 64) dX0_readFrom_64 rfl ?_
            refine ev_iadd (pc := 65) dX0_readFrom_65 ?_
            refine ev_iald (pc := 66) dX0_readFrom_66 rfl e60 ?_
            refine ev_istore (L' := [some (.inr 7), none, some (.inl x1), some (.inl t1), some (.inl j3), some (.inl v59), none, none, none]) (pc := 67) dX0_readFrom_67 (Nat.le_of_ble_eq_true rfl) rfl ?_
            refine ev_aload_n (v := 7) (pc := 69) dX0_readFrom_69 rfl ?_
            refine ev_getr (q := 11) (pc := 70) dX0_readFrom_70 fl_RX0_9 rfl rfl ?_
            refine ev_bipush (v := 47) (pc := 73) dX0_readFrom_73 kb_47 ?_
            refine ev_iload_n (v := t1) (pc := 75) dX0_readFrom_75 rfl ?_
            refine ev_iadd (pc := 76) dX0_readFrom_76 ?_
            refine ev_iald (pc := 77) dX0_readFrom_77 rfl e62 ?_
            refine ev_istore (L' := [some (.inr 7), none, some (.inl x1), some (.inl t1), some (.inl j3), some (.inl v59), some (.inl v61), none, none]) (pc := 78) dX0_readFrom_78 (Nat.le_of_ble_eq_true rfl) rfl ?_
            refine ev_iload (v := j3) (pc := 80) dX0_readFrom_80 rfl ?_
            obtain ⟨j63, e64, h⟩ := rb_bd h
            have hj65 : rb_Ev RX0 cX0_readFrom 9 (some .int) none 15 (some o.1) (rb_ov μ [(11, o.2.1), (12, o.2.2.1), (7, o.2.2.2)]) 108 [some (.inr 7), none, none, some (.inl t1), some (.inl j3), some (.inl v59), some (.inl v61), none, none] [.inl j63] (rb_ov μ [(11, c), (12, g), (7, f)]) := by
              refine ev_istore (L' := [some (.inr 7), none, none, some (.inl t1), some (.inl j3), some (.inl v59), some (.inl v61), some (.inl j63), none]) (pc := 108) dX0_readFrom_108 (Nat.le_of_ble_eq_true rfl) rfl ?_
              refine ev_iload (v := j63) (pc := 110) dX0_readFrom_110 rfl ?_
              refine ev_iload (v := v61) (pc := 112) dX0_readFrom_112 rfl ?_
              refine ev_min (pc := 114) dX0_readFrom_114 lk_RX0_109 (Nat.le_of_ble_eq_true rfl) (Nat.le_of_ble_eq_true rfl) ?_
              refine ev_istore (L' := [some (.inr 7), none, none, some (.inl t1), some (.inl j3), some (.inl v59), some (.inl v61), some (.inl j63), some (.inl (rb_min j63 v61))]) (pc := 117) dX0_readFrom_117 (Nat.le_of_ble_eq_true rfl) rfl ?_
              refine ev_iload (v := (rb_min j63 v61)) (pc := 119) dX0_readFrom_119 rfl ?_
              by_cases b70 : 0 < (rb_min j63 v61)
              · rw [if_pos b70] at h
                refine ev_if_gt_t (t := 141) (pc := 121) dX0_readFrom_121 (by decide) b70 ?_
                obtain ⟨t71, e72, h⟩ := rb_bd h
                refine ev_aload_n (v := 7) (pc := 141) dX0_readFrom_141 rfl ?_
                refine ev_getr (q := 8) (pc := 142) dX0_readFrom_142 fl_RX0_20 rfl rfl ?_
                refine ev_iload_n (v := t1) (pc := 145) dX0_readFrom_145 rfl ?_
                refine ev_iload (v := v61) (pc := 146) dX0_readFrom_146 rfl ?_
                refine ev_iload (v := (rb_min j63 v61)) (pc := 148) dX0_readFrom_148 rfl ?_
                refine ev_isub (pc := 150) dX0_readFrom_150 ?_
                refine ev_cVv2w (w' := [(11, t71), (12, g), (7, f)]) (pc := 151) dX0_readFrom_151 mv_X5_setHeld lk_RX0_114 rp_8 (ct1_X5_setHeld _ _ _ _ _ rfl e72) (Nat.le_of_ble_eq_true rfl) (Nat.le_of_ble_eq_true rfl) rfl ?_
                refine ev_iload (v := j3) (pc := 154) dX0_readFrom_154 rfl ?_
                by_cases b73 : j3 = 0
                · rw [if_pos b73] at h
                  refine ev_if_ne_f (t := 170) (pc := 156) dX0_readFrom_156 (by decide) b73 ?_
                  obtain ⟨t74, e75, h⟩ := rb_bd h
                  refine ev_aload_n (v := 7) (pc := 159) dX0_readFrom_159 rfl ?_
                  refine ev_iload (v := v59) (pc := 160) dX0_readFrom_160 rfl ?_
                  refine ev_iconst (v := 2) (pc := 162) dX0_readFrom_162 ki_2 ?_
                  refine ev_iconst (v := 0) (pc := 163) dX0_readFrom_163 ki_0 ?_
                  refine ev_cVv3w (w' := [(11, t74.1), (12, t74.2.1), (7, t74.2.2)]) (pc := 164) dX0_readFrom_164 mv_X0_sendNotice lk_RX0_89 rp_7 (ct1_X0_sendNotice 6 _ _ _ _ _ _ _ _ rfl rfl rfl e75) (Nat.le_of_ble_eq_true rfl) (Nat.le_of_ble_eq_true rfl) rfl ?_
                  refine ev_goto (t := 183) (pc := 167) dX0_readFrom_167 (by decide) ?_
                  refine ev_iload (v := (rb_min j63 v61)) (pc := 183) dX0_readFrom_183 rfl ?_
                  obtain rfl := Option.some.inj h
                  exact ev_iret (pc := 185) dX0_readFrom_185 rfl rfl rfl (hfin _ _ _)
                · rw [if_neg b73] at h
                  refine ev_if_ne_t (t := 170) (pc := 156) dX0_readFrom_156 (by decide) b73 ?_
                  refine ev_iload (v := j3) (pc := 170) dX0_readFrom_170 rfl ?_
                  refine ev_iconst (v := 2) (pc := 172) dX0_readFrom_172 ki_2 ?_
                  by_cases b76 : j3 = 2
                  · rw [if_pos b76] at h
                    refine ev_icmp_ne_f (t := 183) (pc := 173) dX0_readFrom_173 (by decide) b76 ?_
                    obtain ⟨t77, e78, h⟩ := rb_bd h
                    refine ev_aload_n (v := 7) (pc := 176) dX0_readFrom_176 rfl ?_
                    refine ev_iload_n (v := t1) (pc := 177) dX0_readFrom_177 rfl ?_
                    refine ev_iconst (v := 2) (pc := 178) dX0_readFrom_178 ki_2 ?_
                    refine ev_iconst (v := 0) (pc := 179) dX0_readFrom_179 ki_0 ?_
                    refine ev_cVv3w (w' := [(11, t77.1), (12, t77.2.1), (7, t77.2.2)]) (pc := 180) dX0_readFrom_180 mv_X0_sendNotice lk_RX0_89 rp_7 (ct1_X0_sendNotice 6 _ _ _ _ _ _ _ _ rfl rfl rfl e78) (Nat.le_of_ble_eq_true rfl) (Nat.le_of_ble_eq_true rfl) rfl ?_
                    refine ev_iload (v := (rb_min j63 v61)) (pc := 183) dX0_readFrom_183 rfl ?_
                    obtain rfl := Option.some.inj h
                    exact ev_iret (pc := 185) dX0_readFrom_185 rfl rfl rfl (hfin _ _ _)
                  · rw [if_neg b76] at h
                    refine ev_icmp_ne_t (t := 183) (pc := 173) dX0_readFrom_173 (by decide) b76 ?_
                    refine ev_iload (v := (rb_min j63 v61)) (pc := 183) dX0_readFrom_183 rfl ?_
                    obtain rfl := Option.some.inj h
                    exact ev_iret (pc := 185) dX0_readFrom_185 rfl rfl rfl (hfin _ _ _)
              · rw [if_neg b70] at h
                refine ev_if_gt_f (t := 141) (pc := 121) dX0_readFrom_121 (by decide) b70 ?_
                refine ev_iload (v := j3) (pc := 124) dX0_readFrom_124 rfl ?_
                by_cases b79 : j3 = 0
                · rw [if_pos b79] at h
                  refine ev_if_ne_f (t := 139) (pc := 126) dX0_readFrom_126 (by decide) b79 ?_
                  refine ev_iload (v := v59) (pc := 129) dX0_readFrom_129 rfl ?_
                  by_cases b80 : 0 ≤ v59
                  · rw [if_pos b80] at h
                    refine ev_if_ge_t (t := 139) (pc := 131) dX0_readFrom_131 (by decide) b80 ?_
                    refine ev_iconst (v := 0) (pc := 139) dX0_readFrom_139 ki_0 ?_
                    obtain rfl := Option.some.inj h
                    exact ev_iret (pc := 140) dX0_readFrom_140 rfl rfl rfl (hfin _ _ _)
                  · rw [if_neg b80] at h
                    refine ev_if_ge_f (t := 139) (pc := 131) dX0_readFrom_131 (by decide) b80 ?_
                    refine ev_bipush (v := (-2)) (pc := 134) dX0_readFrom_134 kb_m2 ?_
                    refine ev_goto (t := 140) (pc := 136) dX0_readFrom_136 (by decide) ?_
                    obtain rfl := Option.some.inj h
                    exact ev_iret (pc := 140) dX0_readFrom_140 rfl rfl rfl (hfin _ _ _)
                · rw [if_neg b79] at h
                  refine ev_if_ne_t (t := 139) (pc := 126) dX0_readFrom_126 (by decide) b79 ?_
                  refine ev_iconst (v := 0) (pc := 139) dX0_readFrom_139 ki_0 ?_
                  obtain rfl := Option.some.inj h
                  exact ev_iret (pc := 140) dX0_readFrom_140 rfl rfl rfl (hfin _ _ _)
            replace h := e64
            by_cases b66 : j3 = 0
            · rw [if_pos b66] at h
              refine ev_if_ne_f (t := 89) (pc := 82) dX0_readFrom_82 (by decide) b66 ?_
              refine ev_iload_n (v := x1) (pc := 85) dX0_readFrom_85 rfl ?_
              refine ev_goto (t := 108) (pc := 86) dX0_readFrom_86 (by decide) ?_
              obtain rfl := Option.some.inj h
              exact ev_fg (L := [some (.inr 7), none, none, some (.inl t1), some (.inl j3), some (.inl v59), some (.inl v61), none, none]) (And.intro rfl (And.intro rfl (And.intro rfl (And.intro rfl (And.intro rfl True.intro))))) (hj65)
            · rw [if_neg b66] at h
              refine ev_if_ne_t (t := 89) (pc := 82) dX0_readFrom_82 (by decide) b66 ?_
              obtain ⟨v67, e68, h⟩ := rb_bd h
              refine ev_aload_n (v := 7) (pc := 89) dX0_readFrom_89 rfl ?_
              refine ev_getr (q := 11) (pc := 90) dX0_readFrom_90 fl_RX0_9 rfl rfl ?_
              refine ev_bipush (v := 103) (pc := 93) dX0_readFrom_93 kb_103 ?_
              refine ev_iload_n (v := t1) (pc := 95) dX0_readFrom_95 rfl ?_
              refine ev_iadd (pc := 96) dX0_readFrom_96 ?_
              refine ev_iald (pc := 97) dX0_readFrom_97 rfl e68 ?_
              by_cases b69 : v67 = 0
              · rw [if_pos b69] at h
                refine ev_if_eq_t (t := 105) (pc := 98) dX0_readFrom_98 (by decide) b69 ?_
                refine ev_sipush (v := 1000) (pc := 105) dX0_readFrom_105 ks_1000 ?_
                obtain rfl := Option.some.inj h
                exact ev_fg (L := [some (.inr 7), none, none, some (.inl t1), some (.inl j3), some (.inl v59), some (.inl v61), none, none]) (And.intro rfl (And.intro rfl (And.intro rfl (And.intro rfl (And.intro rfl True.intro))))) (hj65)
              · rw [if_neg b69] at h
                refine ev_if_eq_f (t := 105) (pc := 98) dX0_readFrom_98 (by decide) b69 ?_
                refine ev_iconst (v := 1) (pc := 101) dX0_readFrom_101 ki_1 ?_
                refine ev_goto (t := 108) (pc := 102) dX0_readFrom_102 (by decide) ?_
                obtain rfl := Option.some.inj h
                exact ev_fg (L := [some (.inr 7), none, none, some (.inl t1), some (.inl j3), some (.inl v59), some (.inl v61), none, none]) (And.intro rfl (And.intro rfl (And.intro rfl (And.intro rfl (And.intro rfl True.intro))))) (hj65)
          · rw [if_neg b58] at h
            refine ev_icmp_eq_f (t := 57) (pc := 52) dX0_readFrom_52 (by decide) b58 ?_
            refine ev_iconst (v := (-1)) (pc := 55) dX0_readFrom_55 ki_m1 ?_
            obtain rfl := Option.some.inj h
            exact ev_iret (pc := 56) dX0_readFrom_56 rfl rfl rfl (hfin _ _ _)
  replace h := e4
  by_cases b6 : 0 ≤ t1
  · rw [if_pos b6] at h
    refine ev_if_ge_t (t := 17) (pc := 10) dX0_readFrom_10 (by decide) b6 ?_
    obtain ⟨v7, e8, h⟩ := rb_bd h
    refine ev_aload_n (v := 7) (pc := 17) dX0_readFrom_17 rfl ?_
    refine ev_getr (q := 11) (pc := 18) dX0_readFrom_18 fl_RX0_9 rfl rfl ?_
    refine ev_bipush (v := 19) (pc := 21) dX0_readFrom_21 kb_19 ?_
    refine ev_iload_n (v := t1) (pc := 23) dX0_readFrom_23 rfl ?_
    refine ev_iadd (pc := 24) dX0_readFrom_24 ?_
    refine ev_iald (pc := 25) dX0_readFrom_25 rfl e8 ?_
    obtain rfl := Option.some.inj h
    exact ev_fg (L := [some (.inr 7), none, some (.inl x1), some (.inl t1), none, none, none, none, none]) (And.intro rfl (And.intro rfl (And.intro rfl True.intro))) (hj5)
  · rw [if_neg b6] at h
    refine ev_if_ge_f (t := 17) (pc := 10) dX0_readFrom_10 (by decide) b6 ?_
    refine ev_iconst (v := (-1)) (pc := 13) dX0_readFrom_13 ki_m1 ?_
    refine ev_goto (t := 26) (pc := 14) dX0_readFrom_14 (by decide) ?_
    obtain rfl := Option.some.inj h
    exact ev_fg (L := [some (.inr 7), none, some (.inl x1), some (.inl t1), none, none, none, none, none]) (And.intro rfl (And.intro rfl (And.intro rfl True.intro))) (hj5)
def XX0_armTimer (c : rb_Row) (x0 : Int32) (x1 : Int32) (x2 : Int32) : Option (Int32 × rb_Row) := (XX5_thingOfKind c x0 3).bind fun t1 => if t1 < 0 then some ((rb_nz 0), c) else (XX6_between x1 0 1000).bind fun t4 => if t4 = 0 then some ((rb_nz 0), c) else (XX6_between x2 0 1000).bind fun t7 => if t7 = 0 then some ((rb_nz 0), c) else (rb_wr c 773 (47 + t1) 0).bind fun c10 => ((if x1 = 0 then some (-1) else (rb_rd c10 773 0).bind fun v16 => some (v16 + x1)) : Option (Int32)).bind fun j12 => (rb_wr c10 773 (159 + t1) j12).bind fun c18 => (rb_wr c18 773 (187 + t1) x2).bind fun c20 => some ((rb_nz 1), c20)
set_option maxHeartbeats 4000000 in
set_option maxRecDepth 20000 in
theorem ct0_X0_armTimer (μ : rb_Mem) (c : rb_Row) (x0 : Int32) (x1 : Int32) (x2 : Int32) (o : Int32 × rb_Row) (hc : μ 5 = c) (h : XX0_armTimer c x0 x1 x2 = some o) : rb_Ct yX0_armTimer cX0_armTimer 5 (some .boolean) 2 [.inr 1, .inl x0, .inl x1, .inl x2] μ (some o.1) (rb_ov μ [(5, o.2)]) := by
  unfold XX0_armTimer at h
  have hini : rb_ov μ [(5, c)] = μ := rb_ov_sf _ _ (And.intro hc True.intro)
  have hfin : ∀ u0 : rb_Row, rb_ov μ [(5, u0)] = rb_ov μ [(5, u0)] := fun u0 => rfl
  refine rb_ctz (w := [(5, c)]) rfl pn_0 (Nat.le_of_ble_eq_true rfl) rfl hini ?_
  obtain ⟨t1, e2, h⟩ := rb_bd h
  refine ev_aload_n (v := 1) (pc := 0) dX0_armTimer_0 rfl ?_
  refine ev_getr (q := 2) (pc := 1) dX0_armTimer_1 fl_RX0_20 rfl rfl ?_
  refine ev_iload_n (v := x0) (pc := 4) dX0_armTimer_4 rfl ?_
  refine ev_iconst (v := 3) (pc := 5) dX0_armTimer_5 ki_3 ?_
  refine ev_cVi2 (pc := 6) dX0_armTimer_6 mv_X5_thingOfKind lk_RX0_82 rp_2 (ct0_X5_thingOfKind _ _ _ _ _ rfl e2) (Nat.le_of_ble_eq_true rfl) (Nat.le_of_ble_eq_true rfl) ?_
  refine ev_istore (L' := [some (.inr 1), some (.inl x0), some (.inl x1), some (.inl x2), some (.inl t1)]) (pc := 9) dX0_armTimer_9 (Nat.le_of_ble_eq_true rfl) rfl ?_
  refine ev_iload (v := t1) (pc := 11) dX0_armTimer_11 rfl ?_
  by_cases b3 : t1 < 0
  · rw [if_pos b3] at h
    refine ev_if_lt_t (t := 38) (pc := 13) dX0_armTimer_13 (by decide) b3 ?_
    refine ev_iconst (v := 0) (pc := 38) dX0_armTimer_38 ki_0 ?_
    obtain rfl := Option.some.inj h
    exact ev_iret (pc := 39) dX0_armTimer_39 rfl rfl rfl (hfin _)
  · rw [if_neg b3] at h
    refine ev_if_lt_f (t := 38) (pc := 13) dX0_armTimer_13 (by decide) b3 ?_
    obtain ⟨t4, e5, h⟩ := rb_bd h
    refine ev_iload_n (v := x1) (pc := 16) dX0_armTimer_16 rfl ?_
    refine ev_iconst (v := 0) (pc := 17) dX0_armTimer_17 ki_0 ?_
    refine ev_sipush (v := 1000) (pc := 18) dX0_armTimer_18 ks_1000 ?_
    refine ev_cSi3 (pc := 21) dX0_armTimer_21 ms_X6_between lk_RX0_72 (ct_X6_between _ _ _ _ _ e5) (Nat.le_of_ble_eq_true rfl) (Nat.le_of_ble_eq_true rfl) ?_
    by_cases b6 : t4 = 0
    · rw [if_pos b6] at h
      refine ev_if_eq_t (t := 38) (pc := 24) dX0_armTimer_24 (by decide) b6 ?_
      refine ev_iconst (v := 0) (pc := 38) dX0_armTimer_38 ki_0 ?_
      obtain rfl := Option.some.inj h
      exact ev_iret (pc := 39) dX0_armTimer_39 rfl rfl rfl (hfin _)
    · rw [if_neg b6] at h
      refine ev_if_eq_f (t := 38) (pc := 24) dX0_armTimer_24 (by decide) b6 ?_
      obtain ⟨t7, e8, h⟩ := rb_bd h
      refine ev_iload_n (v := x2) (pc := 27) dX0_armTimer_27 rfl ?_
      refine ev_iconst (v := 0) (pc := 28) dX0_armTimer_28 ki_0 ?_
      refine ev_sipush (v := 1000) (pc := 29) dX0_armTimer_29 ks_1000 ?_
      refine ev_cSi3 (pc := 32) dX0_armTimer_32 ms_X6_between lk_RX0_72 (ct_X6_between _ _ _ _ _ e8) (Nat.le_of_ble_eq_true rfl) (Nat.le_of_ble_eq_true rfl) ?_
      by_cases b9 : t7 = 0
      · rw [if_pos b9] at h
        refine ev_if_ne_f (t := 40) (pc := 35) dX0_armTimer_35 (by decide) b9 ?_
        refine ev_iconst (v := 0) (pc := 38) dX0_armTimer_38 ki_0 ?_
        obtain rfl := Option.some.inj h
        exact ev_iret (pc := 39) dX0_armTimer_39 rfl rfl rfl (hfin _)
      · rw [if_neg b9] at h
        refine ev_if_ne_t (t := 40) (pc := 35) dX0_armTimer_35 (by decide) b9 ?_
        obtain ⟨c10, e11, h⟩ := rb_bd h
        refine ev_aload_n (v := 1) (pc := 40) dX0_armTimer_40 rfl ?_
        refine ev_getr (q := 5) (pc := 41) dX0_armTimer_41 fl_RX0_9 rfl rfl ?_
        refine ev_bipush (v := 47) (pc := 44) dX0_armTimer_44 kb_47 ?_
        refine ev_iload (v := t1) (pc := 46) dX0_armTimer_46 rfl ?_
        refine ev_iadd (pc := 48) dX0_armTimer_48 ?_
        refine ev_iconst (v := 0) (pc := 49) dX0_armTimer_49 ki_0 ?_
        refine ev_iast (w' := [(5, c10)]) (pc := 50) dX0_armTimer_50 rfl e11 rfl ?_
        refine ev_aload_n (v := 1) (pc := 51) dX0_armTimer_51 rfl ?_
        refine ev_getr (q := 5) (pc := 52) dX0_armTimer_52 fl_RX0_9 rfl rfl ?_
        refine ev_sipush (v := 159) (pc := 55) dX0_armTimer_55 ks_159 ?_
        refine ev_iload (v := t1) (pc := 58) dX0_armTimer_58 rfl ?_
        refine ev_iadd (pc := 60) dX0_armTimer_60 ?_
        refine ev_iload_n (v := x1) (pc := 61) dX0_armTimer_61 rfl ?_
        obtain ⟨j12, e13, h⟩ := rb_bd h
        have hj14 : rb_Ev RX0 cX0_armTimer 5 (some .boolean) none 2 (some o.1) (rb_ov μ [(5, o.2)]) 77 [some (.inr 1), none, none, some (.inl x2), some (.inl t1)] [.inl j12, .inl (159 + t1), .inr 5] (rb_ov μ [(5, c10)]) := by
          obtain ⟨c18, e19, h⟩ := rb_bd h
          obtain ⟨c20, e21, h⟩ := rb_bd h
          refine ev_iast (w' := [(5, c18)]) (pc := 77) dX0_armTimer_77 rfl e19 rfl ?_
          refine ev_aload_n (v := 1) (pc := 78) dX0_armTimer_78 rfl ?_
          refine ev_getr (q := 5) (pc := 79) dX0_armTimer_79 fl_RX0_9 rfl rfl ?_
          refine ev_sipush (v := 187) (pc := 82) dX0_armTimer_82 ks_187 ?_
          refine ev_iload (v := t1) (pc := 85) dX0_armTimer_85 rfl ?_
          refine ev_iadd (pc := 87) dX0_armTimer_87 ?_
          refine ev_iload_n (v := x2) (pc := 88) dX0_armTimer_88 rfl ?_
          refine ev_iast (w' := [(5, c20)]) (pc := 89) dX0_armTimer_89 rfl e21 rfl ?_
          refine ev_iconst (v := 1) (pc := 90) dX0_armTimer_90 ki_1 ?_
          obtain rfl := Option.some.inj h
          exact ev_iret (pc := 91) dX0_armTimer_91 rfl rfl rfl (hfin _)
        replace h := e13
        by_cases b15 : x1 = 0
        · rw [if_pos b15] at h
          refine ev_if_ne_f (t := 69) (pc := 62) dX0_armTimer_62 (by decide) b15 ?_
          refine ev_iconst (v := (-1)) (pc := 65) dX0_armTimer_65 ki_m1 ?_
          refine ev_goto (t := 77) (pc := 66) dX0_armTimer_66 (by decide) ?_
          obtain rfl := Option.some.inj h
          exact ev_fg (L := [some (.inr 1), none, none, some (.inl x2), some (.inl t1)]) (And.intro rfl (And.intro rfl (And.intro rfl True.intro))) (hj14)
        · rw [if_neg b15] at h
          refine ev_if_ne_t (t := 69) (pc := 62) dX0_armTimer_62 (by decide) b15 ?_
          obtain ⟨v16, e17, h⟩ := rb_bd h
          refine ev_aload_n (v := 1) (pc := 69) dX0_armTimer_69 rfl ?_
          refine ev_getr (q := 5) (pc := 70) dX0_armTimer_70 fl_RX0_9 rfl rfl ?_
          refine ev_iconst (v := 0) (pc := 73) dX0_armTimer_73 ki_0 ?_
          refine ev_iald (pc := 74) dX0_armTimer_74 rfl e17 ?_
          refine ev_iload_n (v := x1) (pc := 75) dX0_armTimer_75 rfl ?_
          refine ev_iadd (pc := 76) dX0_armTimer_76 ?_
          obtain rfl := Option.some.inj h
          exact ev_fg (L := [some (.inr 1), none, none, some (.inl x2), some (.inl t1)]) (And.intro rfl (And.intro rfl (And.intro rfl True.intro))) (hj14)
set_option maxHeartbeats 4000000 in
set_option maxRecDepth 20000 in
theorem ct1_X0_armTimer (μ : rb_Mem) (c : rb_Row) (x0 : Int32) (x1 : Int32) (x2 : Int32) (o : Int32 × rb_Row) (hc : μ 11 = c) (h : XX0_armTimer c x0 x1 x2 = some o) : rb_Ct yX0_armTimer cX0_armTimer 5 (some .boolean) 2 [.inr 7, .inl x0, .inl x1, .inl x2] μ (some o.1) (rb_ov μ [(11, o.2)]) := by
  unfold XX0_armTimer at h
  have hini : rb_ov μ [(11, c)] = μ := rb_ov_sf _ _ (And.intro hc True.intro)
  have hfin : ∀ u0 : rb_Row, rb_ov μ [(11, u0)] = rb_ov μ [(11, u0)] := fun u0 => rfl
  refine rb_ctz (w := [(11, c)]) rfl pn_0 (Nat.le_of_ble_eq_true rfl) rfl hini ?_
  obtain ⟨t1, e2, h⟩ := rb_bd h
  refine ev_aload_n (v := 7) (pc := 0) dX0_armTimer_0 rfl ?_
  refine ev_getr (q := 8) (pc := 1) dX0_armTimer_1 fl_RX0_20 rfl rfl ?_
  refine ev_iload_n (v := x0) (pc := 4) dX0_armTimer_4 rfl ?_
  refine ev_iconst (v := 3) (pc := 5) dX0_armTimer_5 ki_3 ?_
  refine ev_cVi2 (pc := 6) dX0_armTimer_6 mv_X5_thingOfKind lk_RX0_82 rp_8 (ct1_X5_thingOfKind _ _ _ _ _ rfl e2) (Nat.le_of_ble_eq_true rfl) (Nat.le_of_ble_eq_true rfl) ?_
  refine ev_istore (L' := [some (.inr 7), some (.inl x0), some (.inl x1), some (.inl x2), some (.inl t1)]) (pc := 9) dX0_armTimer_9 (Nat.le_of_ble_eq_true rfl) rfl ?_
  refine ev_iload (v := t1) (pc := 11) dX0_armTimer_11 rfl ?_
  by_cases b3 : t1 < 0
  · rw [if_pos b3] at h
    refine ev_if_lt_t (t := 38) (pc := 13) dX0_armTimer_13 (by decide) b3 ?_
    refine ev_iconst (v := 0) (pc := 38) dX0_armTimer_38 ki_0 ?_
    obtain rfl := Option.some.inj h
    exact ev_iret (pc := 39) dX0_armTimer_39 rfl rfl rfl (hfin _)
  · rw [if_neg b3] at h
    refine ev_if_lt_f (t := 38) (pc := 13) dX0_armTimer_13 (by decide) b3 ?_
    obtain ⟨t4, e5, h⟩ := rb_bd h
    refine ev_iload_n (v := x1) (pc := 16) dX0_armTimer_16 rfl ?_
    refine ev_iconst (v := 0) (pc := 17) dX0_armTimer_17 ki_0 ?_
    refine ev_sipush (v := 1000) (pc := 18) dX0_armTimer_18 ks_1000 ?_
    refine ev_cSi3 (pc := 21) dX0_armTimer_21 ms_X6_between lk_RX0_72 (ct_X6_between _ _ _ _ _ e5) (Nat.le_of_ble_eq_true rfl) (Nat.le_of_ble_eq_true rfl) ?_
    by_cases b6 : t4 = 0
    · rw [if_pos b6] at h
      refine ev_if_eq_t (t := 38) (pc := 24) dX0_armTimer_24 (by decide) b6 ?_
      refine ev_iconst (v := 0) (pc := 38) dX0_armTimer_38 ki_0 ?_
      obtain rfl := Option.some.inj h
      exact ev_iret (pc := 39) dX0_armTimer_39 rfl rfl rfl (hfin _)
    · rw [if_neg b6] at h
      refine ev_if_eq_f (t := 38) (pc := 24) dX0_armTimer_24 (by decide) b6 ?_
      obtain ⟨t7, e8, h⟩ := rb_bd h
      refine ev_iload_n (v := x2) (pc := 27) dX0_armTimer_27 rfl ?_
      refine ev_iconst (v := 0) (pc := 28) dX0_armTimer_28 ki_0 ?_
      refine ev_sipush (v := 1000) (pc := 29) dX0_armTimer_29 ks_1000 ?_
      refine ev_cSi3 (pc := 32) dX0_armTimer_32 ms_X6_between lk_RX0_72 (ct_X6_between _ _ _ _ _ e8) (Nat.le_of_ble_eq_true rfl) (Nat.le_of_ble_eq_true rfl) ?_
      by_cases b9 : t7 = 0
      · rw [if_pos b9] at h
        refine ev_if_ne_f (t := 40) (pc := 35) dX0_armTimer_35 (by decide) b9 ?_
        refine ev_iconst (v := 0) (pc := 38) dX0_armTimer_38 ki_0 ?_
        obtain rfl := Option.some.inj h
        exact ev_iret (pc := 39) dX0_armTimer_39 rfl rfl rfl (hfin _)
      · rw [if_neg b9] at h
        refine ev_if_ne_t (t := 40) (pc := 35) dX0_armTimer_35 (by decide) b9 ?_
        obtain ⟨c10, e11, h⟩ := rb_bd h
        refine ev_aload_n (v := 7) (pc := 40) dX0_armTimer_40 rfl ?_
        refine ev_getr (q := 11) (pc := 41) dX0_armTimer_41 fl_RX0_9 rfl rfl ?_
        refine ev_bipush (v := 47) (pc := 44) dX0_armTimer_44 kb_47 ?_
        refine ev_iload (v := t1) (pc := 46) dX0_armTimer_46 rfl ?_
        refine ev_iadd (pc := 48) dX0_armTimer_48 ?_
        refine ev_iconst (v := 0) (pc := 49) dX0_armTimer_49 ki_0 ?_
        refine ev_iast (w' := [(11, c10)]) (pc := 50) dX0_armTimer_50 rfl e11 rfl ?_
        refine ev_aload_n (v := 7) (pc := 51) dX0_armTimer_51 rfl ?_
        refine ev_getr (q := 11) (pc := 52) dX0_armTimer_52 fl_RX0_9 rfl rfl ?_
        refine ev_sipush (v := 159) (pc := 55) dX0_armTimer_55 ks_159 ?_
        refine ev_iload (v := t1) (pc := 58) dX0_armTimer_58 rfl ?_
        refine ev_iadd (pc := 60) dX0_armTimer_60 ?_
        refine ev_iload_n (v := x1) (pc := 61) dX0_armTimer_61 rfl ?_
        obtain ⟨j12, e13, h⟩ := rb_bd h
        have hj14 : rb_Ev RX0 cX0_armTimer 5 (some .boolean) none 2 (some o.1) (rb_ov μ [(11, o.2)]) 77 [some (.inr 7), none, none, some (.inl x2), some (.inl t1)] [.inl j12, .inl (159 + t1), .inr 11] (rb_ov μ [(11, c10)]) := by
          obtain ⟨c18, e19, h⟩ := rb_bd h
          obtain ⟨c20, e21, h⟩ := rb_bd h
          refine ev_iast (w' := [(11, c18)]) (pc := 77) dX0_armTimer_77 rfl e19 rfl ?_
          refine ev_aload_n (v := 7) (pc := 78) dX0_armTimer_78 rfl ?_
          refine ev_getr (q := 11) (pc := 79) dX0_armTimer_79 fl_RX0_9 rfl rfl ?_
          refine ev_sipush (v := 187) (pc := 82) dX0_armTimer_82 ks_187 ?_
          refine ev_iload (v := t1) (pc := 85) dX0_armTimer_85 rfl ?_
          refine ev_iadd (pc := 87) dX0_armTimer_87 ?_
          refine ev_iload_n (v := x2) (pc := 88) dX0_armTimer_88 rfl ?_
          refine ev_iast (w' := [(11, c20)]) (pc := 89) dX0_armTimer_89 rfl e21 rfl ?_
          refine ev_iconst (v := 1) (pc := 90) dX0_armTimer_90 ki_1 ?_
          obtain rfl := Option.some.inj h
          exact ev_iret (pc := 91) dX0_armTimer_91 rfl rfl rfl (hfin _)
        replace h := e13
        by_cases b15 : x1 = 0
        · rw [if_pos b15] at h
          refine ev_if_ne_f (t := 69) (pc := 62) dX0_armTimer_62 (by decide) b15 ?_
          refine ev_iconst (v := (-1)) (pc := 65) dX0_armTimer_65 ki_m1 ?_
          refine ev_goto (t := 77) (pc := 66) dX0_armTimer_66 (by decide) ?_
          obtain rfl := Option.some.inj h
          exact ev_fg (L := [some (.inr 7), none, none, some (.inl x2), some (.inl t1)]) (And.intro rfl (And.intro rfl (And.intro rfl True.intro))) (hj14)
        · rw [if_neg b15] at h
          refine ev_if_ne_t (t := 69) (pc := 62) dX0_armTimer_62 (by decide) b15 ?_
          obtain ⟨v16, e17, h⟩ := rb_bd h
          refine ev_aload_n (v := 7) (pc := 69) dX0_armTimer_69 rfl ?_
          refine ev_getr (q := 11) (pc := 70) dX0_armTimer_70 fl_RX0_9 rfl rfl ?_
          refine ev_iconst (v := 0) (pc := 73) dX0_armTimer_73 ki_0 ?_
          refine ev_iald (pc := 74) dX0_armTimer_74 rfl e17 ?_
          refine ev_iload_n (v := x1) (pc := 75) dX0_armTimer_75 rfl ?_
          refine ev_iadd (pc := 76) dX0_armTimer_76 ?_
          obtain rfl := Option.some.inj h
          exact ev_fg (L := [some (.inr 7), none, none, some (.inl x2), some (.inl t1)]) (And.intro rfl (And.intro rfl (And.intro rfl True.intro))) (hj14)
def XX0_passTime (c : rb_Row) (g : rb_Row) (f : rb_Row) : Option (rb_Row × rb_Row × rb_Row) := (rb_rd c 773 0).bind fun v1 => (rb_wr c 773 0 (v1 + 1)).bind fun c3 => (rb_lp (ρ := rb_Row × rb_Row × rb_Row) (fun (s5 : Int32 × rb_Row × rb_Row × rb_Row) => if 16 ≤ s5.1 then some (.inr (s5.2.1, s5.2.2.1, s5.2.2.2)) else (rb_rd s5.2.1 773 (3 + s5.1)).bind fun v14 => ((if v14 < 0 then some (s5.2.1, s5.2.2.1, s5.2.2.2) else (rb_rd s5.2.1 773 (19 + v14)).bind fun v20 => if v20 = 3 then (rb_rd s5.2.1 773 (159 + v14)).bind fun v23 => if v23 = (v1 + 1) then (rb_rd s5.2.1 773 (47 + v14)).bind fun v26 => (rb_wr s5.2.1 773 (47 + v14) (rb_min 1000 (v26 + 1))).bind fun c28 => (rb_rd c28 773 (187 + v14)).bind fun v30 => ((if v30 = 0 then some (-1) else (rb_rd c28 773 (187 + v14)).bind fun v36 => some ((v1 + 1) + v36)) : Option (Int32)).bind fun j32 => (rb_wr c28 773 (159 + v14) j32).bind fun c38 => (XX0_sendNotice 6 c38 s5.2.2.1 s5.2.2.2 v14 1 0).bind fun t40 => some (t40.1, t40.2.1, t40.2.2) else some (s5.2.1, s5.2.2.1, s5.2.2.2) else some (s5.2.1, s5.2.2.1, s5.2.2.2)) : Option (rb_Row × rb_Row × rb_Row)).bind fun j16 => some (.inl ((s5.1 + 1), j16.1, j16.2.1, j16.2.2))) 100000 (0, c3, g, f)).bind fun q6 => (XX4_dismissLate q6.1).bind fun t42 => some (t42, q6.2.1, q6.2.2)
set_option maxHeartbeats 4000000 in
set_option maxRecDepth 20000 in
theorem ct0_X0_passTime (μ : rb_Mem) (c : rb_Row) (g : rb_Row) (f : rb_Row) (o : rb_Row × rb_Row × rb_Row) (hc : μ 5 = c) (hg : μ 6 = g) (hf : μ 1 = f) (h : XX0_passTime c g f = some o) : rb_Ct yX0_passTime cX0_passTime 4 none 15 [.inr 1] μ none (rb_ov μ [(5, o.1), (6, o.2.1), (1, o.2.2)]) := by
  unfold XX0_passTime at h
  have hini : rb_ov μ [(5, c), (6, g), (1, f)] = μ := rb_ov_sf _ _ (And.intro hc (And.intro hg (And.intro hf True.intro)))
  have hfin : ∀ u0 u1 u2 : rb_Row, rb_ov μ [(5, u0), (6, u1), (1, u2)] = rb_ov μ [(5, u0), (6, u1), (1, u2)] := fun u0 u1 u2 => rfl
  refine rb_ctv (w := [(5, c), (6, g), (1, f)]) rfl pn_0 (Nat.le_of_ble_eq_true rfl) rfl hini ?_
  obtain ⟨v1, e2, h⟩ := rb_bd h
  obtain ⟨c3, e4, h⟩ := rb_bd h
  refine ev_aload_n (v := 1) (pc := 0) dX0_passTime_0 rfl ?_
  refine ev_getr (q := 5) (pc := 1) dX0_passTime_1 fl_RX0_9 rfl rfl ?_
  refine ev_iconst (v := 0) (pc := 4) dX0_passTime_4 ki_0 ?_
  refine ev_dup2 (pc := 5) dX0_passTime_5 ?_
  refine ev_iald (pc := 6) dX0_passTime_6 rfl e2 ?_
  refine ev_iconst (v := 1) (pc := 7) dX0_passTime_7 ki_1 ?_
  refine ev_iadd (pc := 8) dX0_passTime_8 ?_
  refine ev_dup_x2 (pc := 9) dX0_passTime_9 ?_
  refine ev_iast (w' := [(5, c3), (6, g), (1, f)]) (pc := 10) dX0_passTime_10 rfl e4 rfl ?_
  refine ev_istore_n (L' := [some (.inr 1), some (.inl (v1 + 1)), none, none]) (pc := 11) dX0_passTime_11 (Nat.le_of_ble_eq_true rfl) rfl ?_
  refine ev_iconst (v := 0) (pc := 12) dX0_passTime_12 ki_0 ?_
  refine ev_istore_n (L' := [some (.inr 1), some (.inl (v1 + 1)), some (.inl 0), none]) (pc := 13) dX0_passTime_13 (Nat.le_of_ble_eq_true rfl) rfl ?_
  obtain ⟨q6, l7, h⟩ := rb_bd h
  have hx11 : rb_Ev RX0 cX0_passTime 4 none none 15 none (rb_ov μ [(5, o.1), (6, o.2.1), (1, o.2.2)]) 138 [some (.inr 1), none, none, none] [] (rb_ov μ [(5, q6.1), (6, q6.2.1), (1, q6.2.2)]) := by
    obtain ⟨t42, e43, h⟩ := rb_bd h
    refine ev_aload_n (v := 1) (pc := 138) dX0_passTime_138 rfl ?_
    refine ev_getr (q := 4) (pc := 139) dX0_passTime_139 fl_RX0_34 rfl rfl ?_
    refine ev_cVv0w (w' := [(5, t42), (6, q6.2.1), (1, q6.2.2)]) (pc := 142) dX0_passTime_142 mv_X4_dismissLate lk_RX0_117 rp_4 (ct0_X4_dismissLate _ _ _ rfl e43) (Nat.le_of_ble_eq_true rfl) (Nat.le_of_ble_eq_true rfl) rfl ?_
    obtain rfl := Option.some.inj h
    exact ev_ret (pc := 145) dX0_passTime_145 rfl rfl (hfin _ _ _)
  refine rb_lp_ev (P := fun (s5 : Int32 × rb_Row × rb_Row × rb_Row) => rb_Ev RX0 cX0_passTime 4 none none 15 none (rb_ov μ [(5, o.1), (6, o.2.1), (1, o.2.2)]) 14 [some (.inr 1), some (.inl (v1 + 1)), some (.inl s5.1), none] [] (rb_ov μ [(5, s5.2.1), (6, s5.2.2.1), (1, s5.2.2.2)])) ?_ 100000 (0, c3, g, f) l7
  intro s5 y8 h ih9 hE10
  refine ev_iload_n (v := s5.1) (pc := 14) dX0_passTime_14 rfl ?_
  refine ev_bipush (v := 16) (pc := 15) dX0_passTime_15 kb_16 ?_
  by_cases b13 : 16 ≤ s5.1
  · rw [if_pos b13] at h
    refine ev_icmp_ge_t (t := 138) (pc := 17) dX0_passTime_17 (by decide) b13 ?_
    obtain rfl := Option.some.inj h
    obtain rfl := hE10 _ rfl
    exact ev_fg (L := [some (.inr 1), none, none, none]) (And.intro rfl True.intro) (hx11)
  · rw [if_neg b13] at h
    refine ev_icmp_ge_f (t := 138) (pc := 17) dX0_passTime_17 (by decide) b13 ?_
    obtain ⟨v14, e15, h⟩ := rb_bd h
    refine ev_aload_n (v := 1) (pc := 20) dX0_passTime_20 rfl ?_
    refine ev_getr (q := 5) (pc := 21) dX0_passTime_21 fl_RX0_9 rfl rfl ?_
    refine ev_iconst (v := 3) (pc := 24) dX0_passTime_24 ki_3 ?_
    refine ev_iload_n (v := s5.1) (pc := 25) dX0_passTime_25 rfl ?_
    refine ev_iadd (pc := 26) dX0_passTime_26 ?_
    refine ev_iald (pc := 27) dX0_passTime_27 rfl e15 ?_
    refine ev_istore_n (L' := [some (.inr 1), some (.inl (v1 + 1)), some (.inl s5.1), some (.inl v14)]) (pc := 28) dX0_passTime_28 (Nat.le_of_ble_eq_true rfl) rfl ?_
    refine ev_iload_n (v := v14) (pc := 29) dX0_passTime_29 rfl ?_
    obtain ⟨j16, e17, h⟩ := rb_bd h
    have hj18 : rb_Ev RX0 cX0_passTime 4 none none 15 none (rb_ov μ [(5, o.1), (6, o.2.1), (1, o.2.2)]) 132 [some (.inr 1), some (.inl (v1 + 1)), some (.inl s5.1), none] [] (rb_ov μ [(5, j16.1), (6, j16.2.1), (1, j16.2.2)]) := by
      refine ev_iinc (x := s5.1) (v := (s5.1 + 1)) (L' := [some (.inr 1), some (.inl (v1 + 1)), some (.inl (s5.1 + 1)), none]) (pc := 132) dX0_passTime_132 rfl (kx_1 _) (Nat.le_of_ble_eq_true rfl) rfl ?_
      refine ev_goto (t := 14) (pc := 135) dX0_passTime_135 (by decide) ?_
      obtain rfl := Option.some.inj h
      exact ih9 ((s5.1 + 1), j16.1, j16.2.1, j16.2.2) rfl
    replace h := e17
    by_cases b19 : v14 < 0
    · rw [if_pos b19] at h
      refine ev_if_lt_t (t := 132) (pc := 30) dX0_passTime_30 (by decide) b19 ?_
      obtain rfl := Option.some.inj h
      exact ev_fg (L := [some (.inr 1), some (.inl (v1 + 1)), some (.inl s5.1), none]) (And.intro rfl (And.intro rfl (And.intro rfl True.intro))) (hj18)
    · rw [if_neg b19] at h
      refine ev_if_lt_f (t := 132) (pc := 30) dX0_passTime_30 (by decide) b19 ?_
      obtain ⟨v20, e21, h⟩ := rb_bd h
      refine ev_aload_n (v := 1) (pc := 33) dX0_passTime_33 rfl ?_
      refine ev_getr (q := 5) (pc := 34) dX0_passTime_34 fl_RX0_9 rfl rfl ?_
      refine ev_bipush (v := 19) (pc := 37) dX0_passTime_37 kb_19 ?_
      refine ev_iload_n (v := v14) (pc := 39) dX0_passTime_39 rfl ?_
      refine ev_iadd (pc := 40) dX0_passTime_40 ?_
      refine ev_iald (pc := 41) dX0_passTime_41 rfl e21 ?_
      refine ev_iconst (v := 3) (pc := 42) dX0_passTime_42 ki_3 ?_
      by_cases b22 : v20 = 3
      · rw [if_pos b22] at h
        refine ev_icmp_ne_f (t := 132) (pc := 43) dX0_passTime_43 (by decide) b22 ?_
        obtain ⟨v23, e24, h⟩ := rb_bd h
        refine ev_aload_n (v := 1) (pc := 46) dX0_passTime_46 rfl ?_
        refine ev_getr (q := 5) (pc := 47) dX0_passTime_47 fl_RX0_9 rfl rfl ?_
        refine ev_sipush (v := 159) (pc := 50) dX0_passTime_50 ks_159 ?_
        refine ev_iload_n (v := v14) (pc := 53) dX0_passTime_53 rfl ?_
        refine ev_iadd (pc := 54) dX0_passTime_54 ?_
        refine ev_iald (pc := 55) dX0_passTime_55 rfl e24 ?_
        refine ev_iload_n (v := (v1 + 1)) (pc := 56) dX0_passTime_56 rfl ?_
        by_cases b25 : v23 = (v1 + 1)
        · rw [if_pos b25] at h
          refine ev_icmp_ne_f (t := 132) (pc := 57) dX0_passTime_57 (by decide) b25 ?_
          obtain ⟨v26, e27, h⟩ := rb_bd h
          obtain ⟨c28, e29, h⟩ := rb_bd h
          obtain ⟨v30, e31, h⟩ := rb_bd h
          refine ev_aload_n (v := 1) (pc := 60) dX0_passTime_60 rfl ?_
          refine ev_getr (q := 5) (pc := 61) dX0_passTime_61 fl_RX0_9 rfl rfl ?_
          refine ev_bipush (v := 47) (pc := 64) dX0_passTime_64 kb_47 ?_
          refine ev_iload_n (v := v14) (pc := 66) dX0_passTime_66 rfl ?_
          refine ev_iadd (pc := 67) dX0_passTime_67 ?_
          refine ev_sipush (v := 1000) (pc := 68) dX0_passTime_68 ks_1000 ?_
          refine ev_aload_n (v := 1) (pc := 71) dX0_passTime_71 rfl ?_
          refine ev_getr (q := 5) (pc := 72) dX0_passTime_72 fl_RX0_9 rfl rfl ?_
          refine ev_bipush (v := 47) (pc := 75) dX0_passTime_75 kb_47 ?_
          refine ev_iload_n (v := v14) (pc := 77) dX0_passTime_77 rfl ?_
          refine ev_iadd (pc := 78) dX0_passTime_78 ?_
          refine ev_iald (pc := 79) dX0_passTime_79 rfl e27 ?_
          refine ev_iconst (v := 1) (pc := 80) dX0_passTime_80 ki_1 ?_
          refine ev_iadd (pc := 81) dX0_passTime_81 ?_
          refine ev_min (pc := 82) dX0_passTime_82 lk_RX0_109 (Nat.le_of_ble_eq_true rfl) (Nat.le_of_ble_eq_true rfl) ?_
          refine ev_iast (w' := [(5, c28), (6, s5.2.2.1), (1, s5.2.2.2)]) (pc := 85) dX0_passTime_85 rfl e29 rfl ?_
          refine ev_aload_n (v := 1) (pc := 86) dX0_passTime_86 rfl ?_
          refine ev_getr (q := 5) (pc := 87) dX0_passTime_87 fl_RX0_9 rfl rfl ?_
          refine ev_sipush (v := 159) (pc := 90) dX0_passTime_90 ks_159 ?_
          refine ev_iload_n (v := v14) (pc := 93) dX0_passTime_93 rfl ?_
          refine ev_iadd (pc := 94) dX0_passTime_94 ?_
          refine ev_aload_n (v := 1) (pc := 95) dX0_passTime_95 rfl ?_
          refine ev_getr (q := 5) (pc := 96) dX0_passTime_96 fl_RX0_9 rfl rfl ?_
          refine ev_sipush (v := 187) (pc := 99) dX0_passTime_99 ks_187 ?_
          refine ev_iload_n (v := v14) (pc := 102) dX0_passTime_102 rfl ?_
          refine ev_iadd (pc := 103) dX0_passTime_103 ?_
          refine ev_iald (pc := 104) dX0_passTime_104 rfl e31 ?_
          obtain ⟨j32, e33, h⟩ := rb_bd h
          have hj34 : rb_Ev RX0 cX0_passTime 4 none none 15 none (rb_ov μ [(5, o.1), (6, o.2.1), (1, o.2.2)]) 124 [some (.inr 1), some (.inl (v1 + 1)), some (.inl s5.1), some (.inl v14)] [.inl j32, .inl (159 + v14), .inr 5] (rb_ov μ [(5, c28), (6, s5.2.2.1), (1, s5.2.2.2)]) := by
            obtain ⟨c38, e39, h⟩ := rb_bd h
            obtain ⟨t40, e41, h⟩ := rb_bd h
            refine ev_iast (w' := [(5, c38), (6, s5.2.2.1), (1, s5.2.2.2)]) (pc := 124) dX0_passTime_124 rfl e39 rfl ?_
            refine ev_aload_n (v := 1) (pc := 125) dX0_passTime_125 rfl ?_
            refine ev_iload_n (v := v14) (pc := 126) dX0_passTime_126 rfl ?_
            refine ev_iconst (v := 1) (pc := 127) dX0_passTime_127 ki_1 ?_
            refine ev_iconst (v := 0) (pc := 128) dX0_passTime_128 ki_0 ?_
            refine ev_cVv3w (w' := [(5, t40.1), (6, t40.2.1), (1, t40.2.2)]) (pc := 129) dX0_passTime_129 mv_X0_sendNotice lk_RX0_89 rp_1 (ct0_X0_sendNotice 6 _ _ _ _ _ _ _ _ rfl rfl rfl e41) (Nat.le_of_ble_eq_true rfl) (Nat.le_of_ble_eq_true rfl) rfl ?_
            obtain rfl := Option.some.inj h
            exact ev_fg (L := [some (.inr 1), some (.inl (v1 + 1)), some (.inl s5.1), none]) (And.intro rfl (And.intro rfl (And.intro rfl True.intro))) (hj18)
          replace h := e33
          by_cases b35 : v30 = 0
          · rw [if_pos b35] at h
            refine ev_if_ne_f (t := 112) (pc := 105) dX0_passTime_105 (by decide) b35 ?_
            refine ev_iconst (v := (-1)) (pc := 108) dX0_passTime_108 ki_m1 ?_
            refine ev_goto (t := 124) (pc := 109) dX0_passTime_109 (by decide) ?_
            obtain rfl := Option.some.inj h
            exact hj34
          · rw [if_neg b35] at h
            refine ev_if_ne_t (t := 112) (pc := 105) dX0_passTime_105 (by decide) b35 ?_
            obtain ⟨v36, e37, h⟩ := rb_bd h
            refine ev_iload_n (v := (v1 + 1)) (pc := 112) dX0_passTime_112 rfl ?_
            refine ev_aload_n (v := 1) (pc := 113) dX0_passTime_113 rfl ?_
            refine ev_getr (q := 5) (pc := 114) dX0_passTime_114 fl_RX0_9 rfl rfl ?_
            refine ev_sipush (v := 187) (pc := 117) dX0_passTime_117 ks_187 ?_
            refine ev_iload_n (v := v14) (pc := 120) dX0_passTime_120 rfl ?_
            refine ev_iadd (pc := 121) dX0_passTime_121 ?_
            refine ev_iald (pc := 122) dX0_passTime_122 rfl e37 ?_
            refine ev_iadd (pc := 123) dX0_passTime_123 ?_
            obtain rfl := Option.some.inj h
            exact hj34
        · rw [if_neg b25] at h
          refine ev_icmp_ne_t (t := 132) (pc := 57) dX0_passTime_57 (by decide) b25 ?_
          obtain rfl := Option.some.inj h
          exact ev_fg (L := [some (.inr 1), some (.inl (v1 + 1)), some (.inl s5.1), none]) (And.intro rfl (And.intro rfl (And.intro rfl True.intro))) (hj18)
      · rw [if_neg b22] at h
        refine ev_icmp_ne_t (t := 132) (pc := 43) dX0_passTime_43 (by decide) b22 ?_
        obtain rfl := Option.some.inj h
        exact ev_fg (L := [some (.inr 1), some (.inl (v1 + 1)), some (.inl s5.1), none]) (And.intro rfl (And.intro rfl (And.intro rfl True.intro))) (hj18)
set_option maxHeartbeats 4000000 in
set_option maxRecDepth 20000 in
theorem ct1_X0_passTime (μ : rb_Mem) (c : rb_Row) (g : rb_Row) (f : rb_Row) (o : rb_Row × rb_Row × rb_Row) (hc : μ 11 = c) (hg : μ 12 = g) (hf : μ 7 = f) (h : XX0_passTime c g f = some o) : rb_Ct yX0_passTime cX0_passTime 4 none 15 [.inr 7] μ none (rb_ov μ [(11, o.1), (12, o.2.1), (7, o.2.2)]) := by
  unfold XX0_passTime at h
  have hini : rb_ov μ [(11, c), (12, g), (7, f)] = μ := rb_ov_sf _ _ (And.intro hc (And.intro hg (And.intro hf True.intro)))
  have hfin : ∀ u0 u1 u2 : rb_Row, rb_ov μ [(11, u0), (12, u1), (7, u2)] = rb_ov μ [(11, u0), (12, u1), (7, u2)] := fun u0 u1 u2 => rfl
  refine rb_ctv (w := [(11, c), (12, g), (7, f)]) rfl pn_0 (Nat.le_of_ble_eq_true rfl) rfl hini ?_
  obtain ⟨v1, e2, h⟩ := rb_bd h
  obtain ⟨c3, e4, h⟩ := rb_bd h
  refine ev_aload_n (v := 7) (pc := 0) dX0_passTime_0 rfl ?_
  refine ev_getr (q := 11) (pc := 1) dX0_passTime_1 fl_RX0_9 rfl rfl ?_
  refine ev_iconst (v := 0) (pc := 4) dX0_passTime_4 ki_0 ?_
  refine ev_dup2 (pc := 5) dX0_passTime_5 ?_
  refine ev_iald (pc := 6) dX0_passTime_6 rfl e2 ?_
  refine ev_iconst (v := 1) (pc := 7) dX0_passTime_7 ki_1 ?_
  refine ev_iadd (pc := 8) dX0_passTime_8 ?_
  refine ev_dup_x2 (pc := 9) dX0_passTime_9 ?_
  refine ev_iast (w' := [(11, c3), (12, g), (7, f)]) (pc := 10) dX0_passTime_10 rfl e4 rfl ?_
  refine ev_istore_n (L' := [some (.inr 7), some (.inl (v1 + 1)), none, none]) (pc := 11) dX0_passTime_11 (Nat.le_of_ble_eq_true rfl) rfl ?_
  refine ev_iconst (v := 0) (pc := 12) dX0_passTime_12 ki_0 ?_
  refine ev_istore_n (L' := [some (.inr 7), some (.inl (v1 + 1)), some (.inl 0), none]) (pc := 13) dX0_passTime_13 (Nat.le_of_ble_eq_true rfl) rfl ?_
  obtain ⟨q6, l7, h⟩ := rb_bd h
  have hx11 : rb_Ev RX0 cX0_passTime 4 none none 15 none (rb_ov μ [(11, o.1), (12, o.2.1), (7, o.2.2)]) 138 [some (.inr 7), none, none, none] [] (rb_ov μ [(11, q6.1), (12, q6.2.1), (7, q6.2.2)]) := by
    obtain ⟨t42, e43, h⟩ := rb_bd h
    refine ev_aload_n (v := 7) (pc := 138) dX0_passTime_138 rfl ?_
    refine ev_getr (q := 10) (pc := 139) dX0_passTime_139 fl_RX0_34 rfl rfl ?_
    refine ev_cVv0w (w' := [(11, t42), (12, q6.2.1), (7, q6.2.2)]) (pc := 142) dX0_passTime_142 mv_X4_dismissLate lk_RX0_117 rp_10 (ct1_X4_dismissLate _ _ _ rfl e43) (Nat.le_of_ble_eq_true rfl) (Nat.le_of_ble_eq_true rfl) rfl ?_
    obtain rfl := Option.some.inj h
    exact ev_ret (pc := 145) dX0_passTime_145 rfl rfl (hfin _ _ _)
  refine rb_lp_ev (P := fun (s5 : Int32 × rb_Row × rb_Row × rb_Row) => rb_Ev RX0 cX0_passTime 4 none none 15 none (rb_ov μ [(11, o.1), (12, o.2.1), (7, o.2.2)]) 14 [some (.inr 7), some (.inl (v1 + 1)), some (.inl s5.1), none] [] (rb_ov μ [(11, s5.2.1), (12, s5.2.2.1), (7, s5.2.2.2)])) ?_ 100000 (0, c3, g, f) l7
  intro s5 y8 h ih9 hE10
  refine ev_iload_n (v := s5.1) (pc := 14) dX0_passTime_14 rfl ?_
  refine ev_bipush (v := 16) (pc := 15) dX0_passTime_15 kb_16 ?_
  by_cases b13 : 16 ≤ s5.1
  · rw [if_pos b13] at h
    refine ev_icmp_ge_t (t := 138) (pc := 17) dX0_passTime_17 (by decide) b13 ?_
    obtain rfl := Option.some.inj h
    obtain rfl := hE10 _ rfl
    exact ev_fg (L := [some (.inr 7), none, none, none]) (And.intro rfl True.intro) (hx11)
  · rw [if_neg b13] at h
    refine ev_icmp_ge_f (t := 138) (pc := 17) dX0_passTime_17 (by decide) b13 ?_
    obtain ⟨v14, e15, h⟩ := rb_bd h
    refine ev_aload_n (v := 7) (pc := 20) dX0_passTime_20 rfl ?_
    refine ev_getr (q := 11) (pc := 21) dX0_passTime_21 fl_RX0_9 rfl rfl ?_
    refine ev_iconst (v := 3) (pc := 24) dX0_passTime_24 ki_3 ?_
    refine ev_iload_n (v := s5.1) (pc := 25) dX0_passTime_25 rfl ?_
    refine ev_iadd (pc := 26) dX0_passTime_26 ?_
    refine ev_iald (pc := 27) dX0_passTime_27 rfl e15 ?_
    refine ev_istore_n (L' := [some (.inr 7), some (.inl (v1 + 1)), some (.inl s5.1), some (.inl v14)]) (pc := 28) dX0_passTime_28 (Nat.le_of_ble_eq_true rfl) rfl ?_
    refine ev_iload_n (v := v14) (pc := 29) dX0_passTime_29 rfl ?_
    obtain ⟨j16, e17, h⟩ := rb_bd h
    have hj18 : rb_Ev RX0 cX0_passTime 4 none none 15 none (rb_ov μ [(11, o.1), (12, o.2.1), (7, o.2.2)]) 132 [some (.inr 7), some (.inl (v1 + 1)), some (.inl s5.1), none] [] (rb_ov μ [(11, j16.1), (12, j16.2.1), (7, j16.2.2)]) := by
      refine ev_iinc (x := s5.1) (v := (s5.1 + 1)) (L' := [some (.inr 7), some (.inl (v1 + 1)), some (.inl (s5.1 + 1)), none]) (pc := 132) dX0_passTime_132 rfl (kx_1 _) (Nat.le_of_ble_eq_true rfl) rfl ?_
      refine ev_goto (t := 14) (pc := 135) dX0_passTime_135 (by decide) ?_
      obtain rfl := Option.some.inj h
      exact ih9 ((s5.1 + 1), j16.1, j16.2.1, j16.2.2) rfl
    replace h := e17
    by_cases b19 : v14 < 0
    · rw [if_pos b19] at h
      refine ev_if_lt_t (t := 132) (pc := 30) dX0_passTime_30 (by decide) b19 ?_
      obtain rfl := Option.some.inj h
      exact ev_fg (L := [some (.inr 7), some (.inl (v1 + 1)), some (.inl s5.1), none]) (And.intro rfl (And.intro rfl (And.intro rfl True.intro))) (hj18)
    · rw [if_neg b19] at h
      refine ev_if_lt_f (t := 132) (pc := 30) dX0_passTime_30 (by decide) b19 ?_
      obtain ⟨v20, e21, h⟩ := rb_bd h
      refine ev_aload_n (v := 7) (pc := 33) dX0_passTime_33 rfl ?_
      refine ev_getr (q := 11) (pc := 34) dX0_passTime_34 fl_RX0_9 rfl rfl ?_
      refine ev_bipush (v := 19) (pc := 37) dX0_passTime_37 kb_19 ?_
      refine ev_iload_n (v := v14) (pc := 39) dX0_passTime_39 rfl ?_
      refine ev_iadd (pc := 40) dX0_passTime_40 ?_
      refine ev_iald (pc := 41) dX0_passTime_41 rfl e21 ?_
      refine ev_iconst (v := 3) (pc := 42) dX0_passTime_42 ki_3 ?_
      by_cases b22 : v20 = 3
      · rw [if_pos b22] at h
        refine ev_icmp_ne_f (t := 132) (pc := 43) dX0_passTime_43 (by decide) b22 ?_
        obtain ⟨v23, e24, h⟩ := rb_bd h
        refine ev_aload_n (v := 7) (pc := 46) dX0_passTime_46 rfl ?_
        refine ev_getr (q := 11) (pc := 47) dX0_passTime_47 fl_RX0_9 rfl rfl ?_
        refine ev_sipush (v := 159) (pc := 50) dX0_passTime_50 ks_159 ?_
        refine ev_iload_n (v := v14) (pc := 53) dX0_passTime_53 rfl ?_
        refine ev_iadd (pc := 54) dX0_passTime_54 ?_
        refine ev_iald (pc := 55) dX0_passTime_55 rfl e24 ?_
        refine ev_iload_n (v := (v1 + 1)) (pc := 56) dX0_passTime_56 rfl ?_
        by_cases b25 : v23 = (v1 + 1)
        · rw [if_pos b25] at h
          refine ev_icmp_ne_f (t := 132) (pc := 57) dX0_passTime_57 (by decide) b25 ?_
          obtain ⟨v26, e27, h⟩ := rb_bd h
          obtain ⟨c28, e29, h⟩ := rb_bd h
          obtain ⟨v30, e31, h⟩ := rb_bd h
          refine ev_aload_n (v := 7) (pc := 60) dX0_passTime_60 rfl ?_
          refine ev_getr (q := 11) (pc := 61) dX0_passTime_61 fl_RX0_9 rfl rfl ?_
          refine ev_bipush (v := 47) (pc := 64) dX0_passTime_64 kb_47 ?_
          refine ev_iload_n (v := v14) (pc := 66) dX0_passTime_66 rfl ?_
          refine ev_iadd (pc := 67) dX0_passTime_67 ?_
          refine ev_sipush (v := 1000) (pc := 68) dX0_passTime_68 ks_1000 ?_
          refine ev_aload_n (v := 7) (pc := 71) dX0_passTime_71 rfl ?_
          refine ev_getr (q := 11) (pc := 72) dX0_passTime_72 fl_RX0_9 rfl rfl ?_
          refine ev_bipush (v := 47) (pc := 75) dX0_passTime_75 kb_47 ?_
          refine ev_iload_n (v := v14) (pc := 77) dX0_passTime_77 rfl ?_
          refine ev_iadd (pc := 78) dX0_passTime_78 ?_
          refine ev_iald (pc := 79) dX0_passTime_79 rfl e27 ?_
          refine ev_iconst (v := 1) (pc := 80) dX0_passTime_80 ki_1 ?_
          refine ev_iadd (pc := 81) dX0_passTime_81 ?_
          refine ev_min (pc := 82) dX0_passTime_82 lk_RX0_109 (Nat.le_of_ble_eq_true rfl) (Nat.le_of_ble_eq_true rfl) ?_
          refine ev_iast (w' := [(11, c28), (12, s5.2.2.1), (7, s5.2.2.2)]) (pc := 85) dX0_passTime_85 rfl e29 rfl ?_
          refine ev_aload_n (v := 7) (pc := 86) dX0_passTime_86 rfl ?_
          refine ev_getr (q := 11) (pc := 87) dX0_passTime_87 fl_RX0_9 rfl rfl ?_
          refine ev_sipush (v := 159) (pc := 90) dX0_passTime_90 ks_159 ?_
          refine ev_iload_n (v := v14) (pc := 93) dX0_passTime_93 rfl ?_
          refine ev_iadd (pc := 94) dX0_passTime_94 ?_
          refine ev_aload_n (v := 7) (pc := 95) dX0_passTime_95 rfl ?_
          refine ev_getr (q := 11) (pc := 96) dX0_passTime_96 fl_RX0_9 rfl rfl ?_
          refine ev_sipush (v := 187) (pc := 99) dX0_passTime_99 ks_187 ?_
          refine ev_iload_n (v := v14) (pc := 102) dX0_passTime_102 rfl ?_
          refine ev_iadd (pc := 103) dX0_passTime_103 ?_
          refine ev_iald (pc := 104) dX0_passTime_104 rfl e31 ?_
          obtain ⟨j32, e33, h⟩ := rb_bd h
          have hj34 : rb_Ev RX0 cX0_passTime 4 none none 15 none (rb_ov μ [(11, o.1), (12, o.2.1), (7, o.2.2)]) 124 [some (.inr 7), some (.inl (v1 + 1)), some (.inl s5.1), some (.inl v14)] [.inl j32, .inl (159 + v14), .inr 11] (rb_ov μ [(11, c28), (12, s5.2.2.1), (7, s5.2.2.2)]) := by
            obtain ⟨c38, e39, h⟩ := rb_bd h
            obtain ⟨t40, e41, h⟩ := rb_bd h
            refine ev_iast (w' := [(11, c38), (12, s5.2.2.1), (7, s5.2.2.2)]) (pc := 124) dX0_passTime_124 rfl e39 rfl ?_
            refine ev_aload_n (v := 7) (pc := 125) dX0_passTime_125 rfl ?_
            refine ev_iload_n (v := v14) (pc := 126) dX0_passTime_126 rfl ?_
            refine ev_iconst (v := 1) (pc := 127) dX0_passTime_127 ki_1 ?_
            refine ev_iconst (v := 0) (pc := 128) dX0_passTime_128 ki_0 ?_
            refine ev_cVv3w (w' := [(11, t40.1), (12, t40.2.1), (7, t40.2.2)]) (pc := 129) dX0_passTime_129 mv_X0_sendNotice lk_RX0_89 rp_7 (ct1_X0_sendNotice 6 _ _ _ _ _ _ _ _ rfl rfl rfl e41) (Nat.le_of_ble_eq_true rfl) (Nat.le_of_ble_eq_true rfl) rfl ?_
            obtain rfl := Option.some.inj h
            exact ev_fg (L := [some (.inr 7), some (.inl (v1 + 1)), some (.inl s5.1), none]) (And.intro rfl (And.intro rfl (And.intro rfl True.intro))) (hj18)
          replace h := e33
          by_cases b35 : v30 = 0
          · rw [if_pos b35] at h
            refine ev_if_ne_f (t := 112) (pc := 105) dX0_passTime_105 (by decide) b35 ?_
            refine ev_iconst (v := (-1)) (pc := 108) dX0_passTime_108 ki_m1 ?_
            refine ev_goto (t := 124) (pc := 109) dX0_passTime_109 (by decide) ?_
            obtain rfl := Option.some.inj h
            exact hj34
          · rw [if_neg b35] at h
            refine ev_if_ne_t (t := 112) (pc := 105) dX0_passTime_105 (by decide) b35 ?_
            obtain ⟨v36, e37, h⟩ := rb_bd h
            refine ev_iload_n (v := (v1 + 1)) (pc := 112) dX0_passTime_112 rfl ?_
            refine ev_aload_n (v := 7) (pc := 113) dX0_passTime_113 rfl ?_
            refine ev_getr (q := 11) (pc := 114) dX0_passTime_114 fl_RX0_9 rfl rfl ?_
            refine ev_sipush (v := 187) (pc := 117) dX0_passTime_117 ks_187 ?_
            refine ev_iload_n (v := v14) (pc := 120) dX0_passTime_120 rfl ?_
            refine ev_iadd (pc := 121) dX0_passTime_121 ?_
            refine ev_iald (pc := 122) dX0_passTime_122 rfl e37 ?_
            refine ev_iadd (pc := 123) dX0_passTime_123 ?_
            obtain rfl := Option.some.inj h
            exact hj34
        · rw [if_neg b25] at h
          refine ev_icmp_ne_t (t := 132) (pc := 57) dX0_passTime_57 (by decide) b25 ?_
          obtain rfl := Option.some.inj h
          exact ev_fg (L := [some (.inr 7), some (.inl (v1 + 1)), some (.inl s5.1), none]) (And.intro rfl (And.intro rfl (And.intro rfl True.intro))) (hj18)
      · rw [if_neg b22] at h
        refine ev_icmp_ne_t (t := 132) (pc := 43) dX0_passTime_43 (by decide) b22 ?_
        obtain rfl := Option.some.inj h
        exact ev_fg (L := [some (.inr 7), some (.inl (v1 + 1)), some (.inl s5.1), none]) (And.intro rfl (And.intro rfl (And.intro rfl True.intro))) (hj18)
def XX0_findInterest (c : rb_Row) (x0 : Int32) (x1 : Int32) : Option (Int32) := (XX5_thingOfKind c x0 4).bind fun t1 => (XX5_thingOf c x1).bind fun t3 => if t1 < 0 then some (-1) else if 0 ≤ t3 then (XX1_find c t1 x1 t3).bind fun t7 => some t7 else some (-1)
set_option maxHeartbeats 4000000 in
set_option maxRecDepth 20000 in
theorem ct0_X0_findInterest (μ : rb_Mem) (c : rb_Row) (x0 : Int32) (x1 : Int32) (o : Int32) (hc : μ 5 = c) (h : XX0_findInterest c x0 x1 = some o) : rb_Ct yX0_findInterest cX0_findInterest 5 (some .int) 2 [.inr 1, .inl x0, .inl x1] μ (some o) μ := by
  unfold XX0_findInterest at h
  have hini : rb_ov μ [(5, c)] = μ := rb_ov_sf _ _ (And.intro hc True.intro)
  have hfin := hini
  refine rb_cti (w := [(5, c)]) rfl pn_0 (Nat.le_of_ble_eq_true rfl) rfl hini ?_
  obtain ⟨t1, e2, h⟩ := rb_bd h
  obtain ⟨t3, e4, h⟩ := rb_bd h
  refine ev_aload_n (v := 1) (pc := 0) dX0_findInterest_0 rfl ?_
  refine ev_getr (q := 2) (pc := 1) dX0_findInterest_1 fl_RX0_20 rfl rfl ?_
  refine ev_iload_n (v := x0) (pc := 4) dX0_findInterest_4 rfl ?_
  refine ev_iconst (v := 4) (pc := 5) dX0_findInterest_5 ki_4 ?_
  refine ev_cVi2 (pc := 6) dX0_findInterest_6 mv_X5_thingOfKind lk_RX0_82 rp_2 (ct0_X5_thingOfKind _ _ _ _ _ rfl e2) (Nat.le_of_ble_eq_true rfl) (Nat.le_of_ble_eq_true rfl) ?_
  refine ev_istore_n (L' := [some (.inr 1), some (.inl x0), some (.inl x1), some (.inl t1), none]) (pc := 9) dX0_findInterest_9 (Nat.le_of_ble_eq_true rfl) rfl ?_
  refine ev_aload_n (v := 1) (pc := 10) dX0_findInterest_10 rfl ?_
  refine ev_getr (q := 2) (pc := 11) dX0_findInterest_11 fl_RX0_20 rfl rfl ?_
  refine ev_iload_n (v := x1) (pc := 14) dX0_findInterest_14 rfl ?_
  refine ev_cVi1 (pc := 15) dX0_findInterest_15 mv_X5_thingOf lk_RX0_96 rp_2 (ct0_X5_thingOf _ _ _ _ rfl e4) (Nat.le_of_ble_eq_true rfl) (Nat.le_of_ble_eq_true rfl) ?_
  refine ev_istore (L' := [some (.inr 1), some (.inl x0), some (.inl x1), some (.inl t1), some (.inl t3)]) (pc := 18) dX0_findInterest_18 (Nat.le_of_ble_eq_true rfl) rfl ?_
  refine ev_iload_n (v := t1) (pc := 20) dX0_findInterest_20 rfl ?_
  by_cases b5 : t1 < 0
  · rw [if_pos b5] at h
    refine ev_if_lt_t (t := 29) (pc := 21) dX0_findInterest_21 (by decide) b5 ?_
    refine ev_iconst (v := (-1)) (pc := 29) dX0_findInterest_29 ki_m1 ?_
    refine ev_goto (t := 44) (pc := 30) dX0_findInterest_30 (by decide) ?_
    obtain rfl := Option.some.inj h
    exact ev_iret (pc := 44) dX0_findInterest_44 rfl rfl rfl hfin
  · rw [if_neg b5] at h
    refine ev_if_lt_f (t := 29) (pc := 21) dX0_findInterest_21 (by decide) b5 ?_
    refine ev_iload (v := t3) (pc := 24) dX0_findInterest_24 rfl ?_
    by_cases b6 : 0 ≤ t3
    · rw [if_pos b6] at h
      refine ev_if_ge_t (t := 33) (pc := 26) dX0_findInterest_26 (by decide) b6 ?_
      obtain ⟨t7, e8, h⟩ := rb_bd h
      refine ev_aload_n (v := 1) (pc := 33) dX0_findInterest_33 rfl ?_
      refine ev_getr (q := 3) (pc := 34) dX0_findInterest_34 fl_RX0_27 rfl rfl ?_
      refine ev_iload_n (v := t1) (pc := 37) dX0_findInterest_37 rfl ?_
      refine ev_iload_n (v := x1) (pc := 38) dX0_findInterest_38 rfl ?_
      refine ev_iload (v := t3) (pc := 39) dX0_findInterest_39 rfl ?_
      refine ev_cVi3 (pc := 41) dX0_findInterest_41 mv_X1_find lk_RX0_120 rp_3 (ct0_X1_find _ _ _ _ _ _ rfl e8) (Nat.le_of_ble_eq_true rfl) (Nat.le_of_ble_eq_true rfl) ?_
      obtain rfl := Option.some.inj h
      exact ev_iret (pc := 44) dX0_findInterest_44 rfl rfl rfl hfin
    · rw [if_neg b6] at h
      refine ev_if_ge_f (t := 33) (pc := 26) dX0_findInterest_26 (by decide) b6 ?_
      refine ev_iconst (v := (-1)) (pc := 29) dX0_findInterest_29 ki_m1 ?_
      refine ev_goto (t := 44) (pc := 30) dX0_findInterest_30 (by decide) ?_
      obtain rfl := Option.some.inj h
      exact ev_iret (pc := 44) dX0_findInterest_44 rfl rfl rfl hfin
set_option maxHeartbeats 4000000 in
set_option maxRecDepth 20000 in
theorem ct1_X0_findInterest (μ : rb_Mem) (c : rb_Row) (x0 : Int32) (x1 : Int32) (o : Int32) (hc : μ 11 = c) (h : XX0_findInterest c x0 x1 = some o) : rb_Ct yX0_findInterest cX0_findInterest 5 (some .int) 2 [.inr 7, .inl x0, .inl x1] μ (some o) μ := by
  unfold XX0_findInterest at h
  have hini : rb_ov μ [(11, c)] = μ := rb_ov_sf _ _ (And.intro hc True.intro)
  have hfin := hini
  refine rb_cti (w := [(11, c)]) rfl pn_0 (Nat.le_of_ble_eq_true rfl) rfl hini ?_
  obtain ⟨t1, e2, h⟩ := rb_bd h
  obtain ⟨t3, e4, h⟩ := rb_bd h
  refine ev_aload_n (v := 7) (pc := 0) dX0_findInterest_0 rfl ?_
  refine ev_getr (q := 8) (pc := 1) dX0_findInterest_1 fl_RX0_20 rfl rfl ?_
  refine ev_iload_n (v := x0) (pc := 4) dX0_findInterest_4 rfl ?_
  refine ev_iconst (v := 4) (pc := 5) dX0_findInterest_5 ki_4 ?_
  refine ev_cVi2 (pc := 6) dX0_findInterest_6 mv_X5_thingOfKind lk_RX0_82 rp_8 (ct1_X5_thingOfKind _ _ _ _ _ rfl e2) (Nat.le_of_ble_eq_true rfl) (Nat.le_of_ble_eq_true rfl) ?_
  refine ev_istore_n (L' := [some (.inr 7), some (.inl x0), some (.inl x1), some (.inl t1), none]) (pc := 9) dX0_findInterest_9 (Nat.le_of_ble_eq_true rfl) rfl ?_
  refine ev_aload_n (v := 7) (pc := 10) dX0_findInterest_10 rfl ?_
  refine ev_getr (q := 8) (pc := 11) dX0_findInterest_11 fl_RX0_20 rfl rfl ?_
  refine ev_iload_n (v := x1) (pc := 14) dX0_findInterest_14 rfl ?_
  refine ev_cVi1 (pc := 15) dX0_findInterest_15 mv_X5_thingOf lk_RX0_96 rp_8 (ct1_X5_thingOf _ _ _ _ rfl e4) (Nat.le_of_ble_eq_true rfl) (Nat.le_of_ble_eq_true rfl) ?_
  refine ev_istore (L' := [some (.inr 7), some (.inl x0), some (.inl x1), some (.inl t1), some (.inl t3)]) (pc := 18) dX0_findInterest_18 (Nat.le_of_ble_eq_true rfl) rfl ?_
  refine ev_iload_n (v := t1) (pc := 20) dX0_findInterest_20 rfl ?_
  by_cases b5 : t1 < 0
  · rw [if_pos b5] at h
    refine ev_if_lt_t (t := 29) (pc := 21) dX0_findInterest_21 (by decide) b5 ?_
    refine ev_iconst (v := (-1)) (pc := 29) dX0_findInterest_29 ki_m1 ?_
    refine ev_goto (t := 44) (pc := 30) dX0_findInterest_30 (by decide) ?_
    obtain rfl := Option.some.inj h
    exact ev_iret (pc := 44) dX0_findInterest_44 rfl rfl rfl hfin
  · rw [if_neg b5] at h
    refine ev_if_lt_f (t := 29) (pc := 21) dX0_findInterest_21 (by decide) b5 ?_
    refine ev_iload (v := t3) (pc := 24) dX0_findInterest_24 rfl ?_
    by_cases b6 : 0 ≤ t3
    · rw [if_pos b6] at h
      refine ev_if_ge_t (t := 33) (pc := 26) dX0_findInterest_26 (by decide) b6 ?_
      obtain ⟨t7, e8, h⟩ := rb_bd h
      refine ev_aload_n (v := 7) (pc := 33) dX0_findInterest_33 rfl ?_
      refine ev_getr (q := 9) (pc := 34) dX0_findInterest_34 fl_RX0_27 rfl rfl ?_
      refine ev_iload_n (v := t1) (pc := 37) dX0_findInterest_37 rfl ?_
      refine ev_iload_n (v := x1) (pc := 38) dX0_findInterest_38 rfl ?_
      refine ev_iload (v := t3) (pc := 39) dX0_findInterest_39 rfl ?_
      refine ev_cVi3 (pc := 41) dX0_findInterest_41 mv_X1_find lk_RX0_120 rp_9 (ct1_X1_find _ _ _ _ _ _ rfl e8) (Nat.le_of_ble_eq_true rfl) (Nat.le_of_ble_eq_true rfl) ?_
      obtain rfl := Option.some.inj h
      exact ev_iret (pc := 44) dX0_findInterest_44 rfl rfl rfl hfin
    · rw [if_neg b6] at h
      refine ev_if_ge_f (t := 33) (pc := 26) dX0_findInterest_26 (by decide) b6 ?_
      refine ev_iconst (v := (-1)) (pc := 29) dX0_findInterest_29 ki_m1 ?_
      refine ev_goto (t := 44) (pc := 30) dX0_findInterest_30 (by decide) ?_
      obtain rfl := Option.some.inj h
      exact ev_iret (pc := 44) dX0_findInterest_44 rfl rfl rfl hfin
def XX0_armInterest (c : rb_Row) (g : rb_Row) (f : rb_Row) (x0 : Int32) : Option (Int32 × rb_Row × rb_Row × rb_Row) := if 0 ≤ x0 then (rb_wr c 773 (419 + x0) 1).bind fun c2 => (XX1_tells c2 x0).bind fun t4 => if t4 = 0 then some ((rb_nz 1), c2, g, f) else (rb_rd c2 773 (299 + x0)).bind fun v7 => (XX1_putOnList c2 x0).bind fun t9 => (XX0_callSleepers t9 g f v7).bind fun t11 => (XX0_sendNotice 6 t11.2.1 t11.2.2.1 t11.2.2.2 v7 1 1).bind fun t13 => some ((rb_nz 1), t13.1, t13.2.1, t13.2.2) else some ((rb_nz 0), c, g, f)
set_option maxHeartbeats 4000000 in
set_option maxRecDepth 20000 in
theorem ct0_X0_armInterest (μ : rb_Mem) (c : rb_Row) (g : rb_Row) (f : rb_Row) (x0 : Int32) (o : Int32 × rb_Row × rb_Row × rb_Row) (hc : μ 5 = c) (hg : μ 6 = g) (hf : μ 1 = f) (h : XX0_armInterest c g f x0 = some o) : rb_Ct yX0_armInterest cX0_armInterest 3 (some .boolean) 15 [.inr 1, .inl x0] μ (some o.1) (rb_ov μ [(5, o.2.1), (6, o.2.2.1), (1, o.2.2.2)]) := by
  unfold XX0_armInterest at h
  have hini : rb_ov μ [(5, c), (6, g), (1, f)] = μ := rb_ov_sf _ _ (And.intro hc (And.intro hg (And.intro hf True.intro)))
  have hfin : ∀ u0 u1 u2 : rb_Row, rb_ov μ [(5, u0), (6, u1), (1, u2)] = rb_ov μ [(5, u0), (6, u1), (1, u2)] := fun u0 u1 u2 => rfl
  refine rb_ctz (w := [(5, c), (6, g), (1, f)]) rfl pn_0 (Nat.le_of_ble_eq_true rfl) rfl hini ?_
  refine ev_iload_n (v := x0) (pc := 0) dX0_armInterest_0 rfl ?_
  by_cases b1 : 0 ≤ x0
  · rw [if_pos b1] at h
    refine ev_if_ge_t (t := 6) (pc := 1) dX0_armInterest_1 (by decide) b1 ?_
    obtain ⟨c2, e3, h⟩ := rb_bd h
    obtain ⟨t4, e5, h⟩ := rb_bd h
    refine ev_aload_n (v := 1) (pc := 6) dX0_armInterest_6 rfl ?_
    refine ev_getr (q := 5) (pc := 7) dX0_armInterest_7 fl_RX0_9 rfl rfl ?_
    refine ev_sipush (v := 419) (pc := 10) dX0_armInterest_10 ks_419 ?_
    refine ev_iload_n (v := x0) (pc := 13) dX0_armInterest_13 rfl ?_
    refine ev_iadd (pc := 14) dX0_armInterest_14 ?_
    refine ev_iconst (v := 1) (pc := 15) dX0_armInterest_15 ki_1 ?_
    refine ev_iast (w' := [(5, c2), (6, g), (1, f)]) (pc := 16) dX0_armInterest_16 rfl e3 rfl ?_
    refine ev_aload_n (v := 1) (pc := 17) dX0_armInterest_17 rfl ?_
    refine ev_getr (q := 3) (pc := 18) dX0_armInterest_18 fl_RX0_27 rfl rfl ?_
    refine ev_iload_n (v := x0) (pc := 21) dX0_armInterest_21 rfl ?_
    refine ev_cVi1 (pc := 22) dX0_armInterest_22 mv_X1_tells lk_RX0_141 rp_3 (ct0_X1_tells _ _ _ _ rfl e5) (Nat.le_of_ble_eq_true rfl) (Nat.le_of_ble_eq_true rfl) ?_
    by_cases b6 : t4 = 0
    · rw [if_pos b6] at h
      refine ev_if_eq_t (t := 60) (pc := 25) dX0_armInterest_25 (by decide) b6 ?_
      refine ev_iconst (v := 1) (pc := 60) dX0_armInterest_60 ki_1 ?_
      obtain rfl := Option.some.inj h
      exact ev_iret (pc := 61) dX0_armInterest_61 rfl rfl rfl (hfin _ _ _)
    · rw [if_neg b6] at h
      refine ev_if_eq_f (t := 60) (pc := 25) dX0_armInterest_25 (by decide) b6 ?_
      obtain ⟨v7, e8, h⟩ := rb_bd h
      obtain ⟨t9, e10, h⟩ := rb_bd h
      obtain ⟨t11, e12, h⟩ := rb_bd h
      obtain ⟨t13, e14, h⟩ := rb_bd h
      refine ev_aload_n (v := 1) (pc := 28) dX0_armInterest_28 rfl ?_
      refine ev_getr (q := 5) (pc := 29) dX0_armInterest_29 fl_RX0_9 rfl rfl ?_
      refine ev_sipush (v := 299) (pc := 32) dX0_armInterest_32 ks_299 ?_
      refine ev_iload_n (v := x0) (pc := 35) dX0_armInterest_35 rfl ?_
      refine ev_iadd (pc := 36) dX0_armInterest_36 ?_
      refine ev_iald (pc := 37) dX0_armInterest_37 rfl e8 ?_
      refine ev_istore_n (L' := [some (.inr 1), some (.inl x0), some (.inl v7)]) (pc := 38) dX0_armInterest_38 (Nat.le_of_ble_eq_true rfl) rfl ?_
      refine ev_aload_n (v := 1) (pc := 39) dX0_armInterest_39 rfl ?_
      refine ev_getr (q := 3) (pc := 40) dX0_armInterest_40 fl_RX0_27 rfl rfl ?_
      refine ev_iload_n (v := x0) (pc := 43) dX0_armInterest_43 rfl ?_
      refine ev_cVv1w (w' := [(5, t9), (6, g), (1, f)]) (pc := 44) dX0_armInterest_44 mv_X1_putOnList lk_RX0_144 rp_3 (ct0_X1_putOnList _ _ _ _ rfl e10) (Nat.le_of_ble_eq_true rfl) (Nat.le_of_ble_eq_true rfl) rfl ?_
      refine ev_aload_n (v := 1) (pc := 47) dX0_armInterest_47 rfl ?_
      refine ev_iload_n (v := v7) (pc := 48) dX0_armInterest_48 rfl ?_
      refine ev_cVi1w (w' := [(5, t11.2.1), (6, t11.2.2.1), (1, t11.2.2.2)]) (pc := 49) dX0_armInterest_49 mv_X0_callSleepers lk_RX0_147 rp_1 (ct0_X0_callSleepers _ _ _ _ _ _ rfl rfl rfl e12) (Nat.le_of_ble_eq_true rfl) (Nat.le_of_ble_eq_true rfl) rfl ?_
      refine ev_pop (pc := 52) dX0_armInterest_52 ?_
      refine ev_aload_n (v := 1) (pc := 53) dX0_armInterest_53 rfl ?_
      refine ev_iload_n (v := v7) (pc := 54) dX0_armInterest_54 rfl ?_
      refine ev_iconst (v := 1) (pc := 55) dX0_armInterest_55 ki_1 ?_
      refine ev_iconst (v := 1) (pc := 56) dX0_armInterest_56 ki_1 ?_
      refine ev_cVv3w (w' := [(5, t13.1), (6, t13.2.1), (1, t13.2.2)]) (pc := 57) dX0_armInterest_57 mv_X0_sendNotice lk_RX0_89 rp_1 (ct0_X0_sendNotice 6 _ _ _ _ _ _ _ _ rfl rfl rfl e14) (Nat.le_of_ble_eq_true rfl) (Nat.le_of_ble_eq_true rfl) rfl ?_
      refine ev_iconst (v := 1) (pc := 60) dX0_armInterest_60 ki_1 ?_
      obtain rfl := Option.some.inj h
      exact ev_iret (pc := 61) dX0_armInterest_61 rfl rfl rfl (hfin _ _ _)
  · rw [if_neg b1] at h
    refine ev_if_ge_f (t := 6) (pc := 1) dX0_armInterest_1 (by decide) b1 ?_
    refine ev_iconst (v := 0) (pc := 4) dX0_armInterest_4 ki_0 ?_
    obtain rfl := Option.some.inj h
    exact ev_iret (pc := 5) dX0_armInterest_5 rfl rfl rfl (hfin _ _ _)
set_option maxHeartbeats 4000000 in
set_option maxRecDepth 20000 in
theorem ct1_X0_armInterest (μ : rb_Mem) (c : rb_Row) (g : rb_Row) (f : rb_Row) (x0 : Int32) (o : Int32 × rb_Row × rb_Row × rb_Row) (hc : μ 11 = c) (hg : μ 12 = g) (hf : μ 7 = f) (h : XX0_armInterest c g f x0 = some o) : rb_Ct yX0_armInterest cX0_armInterest 3 (some .boolean) 15 [.inr 7, .inl x0] μ (some o.1) (rb_ov μ [(11, o.2.1), (12, o.2.2.1), (7, o.2.2.2)]) := by
  unfold XX0_armInterest at h
  have hini : rb_ov μ [(11, c), (12, g), (7, f)] = μ := rb_ov_sf _ _ (And.intro hc (And.intro hg (And.intro hf True.intro)))
  have hfin : ∀ u0 u1 u2 : rb_Row, rb_ov μ [(11, u0), (12, u1), (7, u2)] = rb_ov μ [(11, u0), (12, u1), (7, u2)] := fun u0 u1 u2 => rfl
  refine rb_ctz (w := [(11, c), (12, g), (7, f)]) rfl pn_0 (Nat.le_of_ble_eq_true rfl) rfl hini ?_
  refine ev_iload_n (v := x0) (pc := 0) dX0_armInterest_0 rfl ?_
  by_cases b1 : 0 ≤ x0
  · rw [if_pos b1] at h
    refine ev_if_ge_t (t := 6) (pc := 1) dX0_armInterest_1 (by decide) b1 ?_
    obtain ⟨c2, e3, h⟩ := rb_bd h
    obtain ⟨t4, e5, h⟩ := rb_bd h
    refine ev_aload_n (v := 7) (pc := 6) dX0_armInterest_6 rfl ?_
    refine ev_getr (q := 11) (pc := 7) dX0_armInterest_7 fl_RX0_9 rfl rfl ?_
    refine ev_sipush (v := 419) (pc := 10) dX0_armInterest_10 ks_419 ?_
    refine ev_iload_n (v := x0) (pc := 13) dX0_armInterest_13 rfl ?_
    refine ev_iadd (pc := 14) dX0_armInterest_14 ?_
    refine ev_iconst (v := 1) (pc := 15) dX0_armInterest_15 ki_1 ?_
    refine ev_iast (w' := [(11, c2), (12, g), (7, f)]) (pc := 16) dX0_armInterest_16 rfl e3 rfl ?_
    refine ev_aload_n (v := 7) (pc := 17) dX0_armInterest_17 rfl ?_
    refine ev_getr (q := 9) (pc := 18) dX0_armInterest_18 fl_RX0_27 rfl rfl ?_
    refine ev_iload_n (v := x0) (pc := 21) dX0_armInterest_21 rfl ?_
    refine ev_cVi1 (pc := 22) dX0_armInterest_22 mv_X1_tells lk_RX0_141 rp_9 (ct1_X1_tells _ _ _ _ rfl e5) (Nat.le_of_ble_eq_true rfl) (Nat.le_of_ble_eq_true rfl) ?_
    by_cases b6 : t4 = 0
    · rw [if_pos b6] at h
      refine ev_if_eq_t (t := 60) (pc := 25) dX0_armInterest_25 (by decide) b6 ?_
      refine ev_iconst (v := 1) (pc := 60) dX0_armInterest_60 ki_1 ?_
      obtain rfl := Option.some.inj h
      exact ev_iret (pc := 61) dX0_armInterest_61 rfl rfl rfl (hfin _ _ _)
    · rw [if_neg b6] at h
      refine ev_if_eq_f (t := 60) (pc := 25) dX0_armInterest_25 (by decide) b6 ?_
      obtain ⟨v7, e8, h⟩ := rb_bd h
      obtain ⟨t9, e10, h⟩ := rb_bd h
      obtain ⟨t11, e12, h⟩ := rb_bd h
      obtain ⟨t13, e14, h⟩ := rb_bd h
      refine ev_aload_n (v := 7) (pc := 28) dX0_armInterest_28 rfl ?_
      refine ev_getr (q := 11) (pc := 29) dX0_armInterest_29 fl_RX0_9 rfl rfl ?_
      refine ev_sipush (v := 299) (pc := 32) dX0_armInterest_32 ks_299 ?_
      refine ev_iload_n (v := x0) (pc := 35) dX0_armInterest_35 rfl ?_
      refine ev_iadd (pc := 36) dX0_armInterest_36 ?_
      refine ev_iald (pc := 37) dX0_armInterest_37 rfl e8 ?_
      refine ev_istore_n (L' := [some (.inr 7), some (.inl x0), some (.inl v7)]) (pc := 38) dX0_armInterest_38 (Nat.le_of_ble_eq_true rfl) rfl ?_
      refine ev_aload_n (v := 7) (pc := 39) dX0_armInterest_39 rfl ?_
      refine ev_getr (q := 9) (pc := 40) dX0_armInterest_40 fl_RX0_27 rfl rfl ?_
      refine ev_iload_n (v := x0) (pc := 43) dX0_armInterest_43 rfl ?_
      refine ev_cVv1w (w' := [(11, t9), (12, g), (7, f)]) (pc := 44) dX0_armInterest_44 mv_X1_putOnList lk_RX0_144 rp_9 (ct1_X1_putOnList _ _ _ _ rfl e10) (Nat.le_of_ble_eq_true rfl) (Nat.le_of_ble_eq_true rfl) rfl ?_
      refine ev_aload_n (v := 7) (pc := 47) dX0_armInterest_47 rfl ?_
      refine ev_iload_n (v := v7) (pc := 48) dX0_armInterest_48 rfl ?_
      refine ev_cVi1w (w' := [(11, t11.2.1), (12, t11.2.2.1), (7, t11.2.2.2)]) (pc := 49) dX0_armInterest_49 mv_X0_callSleepers lk_RX0_147 rp_7 (ct1_X0_callSleepers _ _ _ _ _ _ rfl rfl rfl e12) (Nat.le_of_ble_eq_true rfl) (Nat.le_of_ble_eq_true rfl) rfl ?_
      refine ev_pop (pc := 52) dX0_armInterest_52 ?_
      refine ev_aload_n (v := 7) (pc := 53) dX0_armInterest_53 rfl ?_
      refine ev_iload_n (v := v7) (pc := 54) dX0_armInterest_54 rfl ?_
      refine ev_iconst (v := 1) (pc := 55) dX0_armInterest_55 ki_1 ?_
      refine ev_iconst (v := 1) (pc := 56) dX0_armInterest_56 ki_1 ?_
      refine ev_cVv3w (w' := [(11, t13.1), (12, t13.2.1), (7, t13.2.2)]) (pc := 57) dX0_armInterest_57 mv_X0_sendNotice lk_RX0_89 rp_7 (ct1_X0_sendNotice 6 _ _ _ _ _ _ _ _ rfl rfl rfl e14) (Nat.le_of_ble_eq_true rfl) (Nat.le_of_ble_eq_true rfl) rfl ?_
      refine ev_iconst (v := 1) (pc := 60) dX0_armInterest_60 ki_1 ?_
      obtain rfl := Option.some.inj h
      exact ev_iret (pc := 61) dX0_armInterest_61 rfl rfl rfl (hfin _ _ _)
  · rw [if_neg b1] at h
    refine ev_if_ge_f (t := 6) (pc := 1) dX0_armInterest_1 (by decide) b1 ?_
    refine ev_iconst (v := 0) (pc := 4) dX0_armInterest_4 ki_0 ?_
    obtain rfl := Option.some.inj h
    exact ev_iret (pc := 5) dX0_armInterest_5 rfl rfl rfl (hfin _ _ _)
def XX0_addInterest (c : rb_Row) (g : rb_Row) (f : rb_Row) (x0 : Int32) (x1 : Int32) (x2 : Int32) (x3 : Int32) : Option (Int32 × rb_Row × rb_Row × rb_Row) := (XX5_thingOfKind c x0 4).bind fun t1 => (XX5_thingOf c x1).bind fun t3 => if t1 < 0 then some ((-1), c, g, f) else if t3 < 0 then some ((-1), c, g, f) else if t1 = t3 then some ((-1), c, g, f) else (XX6_between x2 0 3).bind fun t8 => if t8 = 0 then some ((-1), c, g, f) else (XX6_between x3 0 7).bind fun t11 => if t11 = 0 then some ((-1), c, g, f) else (XX1_find c t1 x1 t3).bind fun t14 => if t14 < 0 then (rb_rd c 773 (19 + t3)).bind fun v17 => if v17 = 4 then (XX1_deepAbove 5 c t1 1).bind fun t20 => (XX1_deepBelow 5 c t3 1).bind fun t22 => if (t20 + t22) ≤ 3 then (XX1_append c t1 x1 t3 x2 x3).bind fun t25 => if 0 ≤ t25.1 then (XX0_armInterest t25.2 g f t25.1).bind fun t28 => (XX1_heldBy t28.2.1 t1).bind fun t30 => some (t30, t28.2.1, t28.2.2.1, t28.2.2.2) else some ((-4), t25.2, g, f) else some ((-3), c, g, f) else (XX1_append c t1 x1 t3 x2 x3).bind fun t32 => if 0 ≤ t32.1 then (XX0_armInterest t32.2 g f t32.1).bind fun t35 => (XX1_heldBy t35.2.1 t1).bind fun t37 => some (t37, t35.2.1, t35.2.2.1, t35.2.2.2) else some ((-4), t32.2, g, f) else some ((-2), c, g, f)
set_option maxHeartbeats 4000000 in
set_option maxRecDepth 20000 in
theorem ct0_X0_addInterest (μ : rb_Mem) (c : rb_Row) (g : rb_Row) (f : rb_Row) (x0 : Int32) (x1 : Int32) (x2 : Int32) (x3 : Int32) (o : Int32 × rb_Row × rb_Row × rb_Row) (hc : μ 5 = c) (hg : μ 6 = g) (hf : μ 1 = f) (h : XX0_addInterest c g f x0 x1 x2 x3 = some o) : rb_Ct yX0_addInterest cX0_addInterest 8 (some .int) 16 [.inr 1, .inl x0, .inl x1, .inl x2, .inl x3] μ (some o.1) (rb_ov μ [(5, o.2.1), (6, o.2.2.1), (1, o.2.2.2)]) := by
  unfold XX0_addInterest at h
  have hini : rb_ov μ [(5, c), (6, g), (1, f)] = μ := rb_ov_sf _ _ (And.intro hc (And.intro hg (And.intro hf True.intro)))
  have hfin : ∀ u0 u1 u2 : rb_Row, rb_ov μ [(5, u0), (6, u1), (1, u2)] = rb_ov μ [(5, u0), (6, u1), (1, u2)] := fun u0 u1 u2 => rfl
  refine rb_cti (w := [(5, c), (6, g), (1, f)]) rfl pn_0 (Nat.le_of_ble_eq_true rfl) rfl hini ?_
  obtain ⟨t1, e2, h⟩ := rb_bd h
  obtain ⟨t3, e4, h⟩ := rb_bd h
  refine ev_aload_n (v := 1) (pc := 0) dX0_addInterest_0 rfl ?_
  refine ev_getr (q := 2) (pc := 1) dX0_addInterest_1 fl_RX0_20 rfl rfl ?_
  refine ev_iload_n (v := x0) (pc := 4) dX0_addInterest_4 rfl ?_
  refine ev_iconst (v := 4) (pc := 5) dX0_addInterest_5 ki_4 ?_
  refine ev_cVi2 (pc := 6) dX0_addInterest_6 mv_X5_thingOfKind lk_RX0_82 rp_2 (ct0_X5_thingOfKind _ _ _ _ _ rfl e2) (Nat.le_of_ble_eq_true rfl) (Nat.le_of_ble_eq_true rfl) ?_
  refine ev_istore (L' := [some (.inr 1), some (.inl x0), some (.inl x1), some (.inl x2), some (.inl x3), some (.inl t1), none, none]) (pc := 9) dX0_addInterest_9 (Nat.le_of_ble_eq_true rfl) rfl ?_
  refine ev_aload_n (v := 1) (pc := 11) dX0_addInterest_11 rfl ?_
  refine ev_getr (q := 2) (pc := 12) dX0_addInterest_12 fl_RX0_20 rfl rfl ?_
  refine ev_iload_n (v := x1) (pc := 15) dX0_addInterest_15 rfl ?_
  refine ev_cVi1 (pc := 16) dX0_addInterest_16 mv_X5_thingOf lk_RX0_96 rp_2 (ct0_X5_thingOf _ _ _ _ rfl e4) (Nat.le_of_ble_eq_true rfl) (Nat.le_of_ble_eq_true rfl) ?_
  refine ev_istore (L' := [some (.inr 1), some (.inl x0), some (.inl x1), some (.inl x2), some (.inl x3), some (.inl t1), some (.inl t3), none]) (pc := 19) dX0_addInterest_19 (Nat.le_of_ble_eq_true rfl) rfl ?_
  refine ev_iload (v := t1) (pc := 21) dX0_addInterest_21 rfl ?_
  by_cases b5 : t1 < 0
  · rw [if_pos b5] at h
    refine ev_if_lt_t (t := 58) (pc := 23) dX0_addInterest_23 (by decide) b5 ?_
    refine ev_iconst (v := (-1)) (pc := 58) dX0_addInterest_58 ki_m1 ?_
    obtain rfl := Option.some.inj h
    exact ev_iret (pc := 59) dX0_addInterest_59 rfl rfl rfl (hfin _ _ _)
  · rw [if_neg b5] at h
    refine ev_if_lt_f (t := 58) (pc := 23) dX0_addInterest_23 (by decide) b5 ?_
    refine ev_iload (v := t3) (pc := 26) dX0_addInterest_26 rfl ?_
    by_cases b6 : t3 < 0
    · rw [if_pos b6] at h
      refine ev_if_lt_t (t := 58) (pc := 28) dX0_addInterest_28 (by decide) b6 ?_
      refine ev_iconst (v := (-1)) (pc := 58) dX0_addInterest_58 ki_m1 ?_
      obtain rfl := Option.some.inj h
      exact ev_iret (pc := 59) dX0_addInterest_59 rfl rfl rfl (hfin _ _ _)
    · rw [if_neg b6] at h
      refine ev_if_lt_f (t := 58) (pc := 28) dX0_addInterest_28 (by decide) b6 ?_
      refine ev_iload (v := t1) (pc := 31) dX0_addInterest_31 rfl ?_
      refine ev_iload (v := t3) (pc := 33) dX0_addInterest_33 rfl ?_
      by_cases b7 : t1 = t3
      · rw [if_pos b7] at h
        refine ev_icmp_eq_t (t := 58) (pc := 35) dX0_addInterest_35 (by decide) b7 ?_
        refine ev_iconst (v := (-1)) (pc := 58) dX0_addInterest_58 ki_m1 ?_
        obtain rfl := Option.some.inj h
        exact ev_iret (pc := 59) dX0_addInterest_59 rfl rfl rfl (hfin _ _ _)
      · rw [if_neg b7] at h
        refine ev_icmp_eq_f (t := 58) (pc := 35) dX0_addInterest_35 (by decide) b7 ?_
        obtain ⟨t8, e9, h⟩ := rb_bd h
        refine ev_iload_n (v := x2) (pc := 38) dX0_addInterest_38 rfl ?_
        refine ev_iconst (v := 0) (pc := 39) dX0_addInterest_39 ki_0 ?_
        refine ev_iconst (v := 3) (pc := 40) dX0_addInterest_40 ki_3 ?_
        refine ev_cSi3 (pc := 41) dX0_addInterest_41 ms_X6_between lk_RX0_72 (ct_X6_between _ _ _ _ _ e9) (Nat.le_of_ble_eq_true rfl) (Nat.le_of_ble_eq_true rfl) ?_
        by_cases b10 : t8 = 0
        · rw [if_pos b10] at h
          refine ev_if_eq_t (t := 58) (pc := 44) dX0_addInterest_44 (by decide) b10 ?_
          refine ev_iconst (v := (-1)) (pc := 58) dX0_addInterest_58 ki_m1 ?_
          obtain rfl := Option.some.inj h
          exact ev_iret (pc := 59) dX0_addInterest_59 rfl rfl rfl (hfin _ _ _)
        · rw [if_neg b10] at h
          refine ev_if_eq_f (t := 58) (pc := 44) dX0_addInterest_44 (by decide) b10 ?_
          obtain ⟨t11, e12, h⟩ := rb_bd h
          refine ev_iload (v := x3) (pc := 47) dX0_addInterest_47 rfl ?_
          refine ev_iconst (v := 0) (pc := 49) dX0_addInterest_49 ki_0 ?_
          refine ev_bipush (v := 7) (pc := 50) dX0_addInterest_50 kb_7 ?_
          refine ev_cSi3 (pc := 52) dX0_addInterest_52 ms_X6_between lk_RX0_72 (ct_X6_between _ _ _ _ _ e12) (Nat.le_of_ble_eq_true rfl) (Nat.le_of_ble_eq_true rfl) ?_
          by_cases b13 : t11 = 0
          · rw [if_pos b13] at h
            refine ev_if_ne_f (t := 60) (pc := 55) dX0_addInterest_55 (by decide) b13 ?_
            refine ev_iconst (v := (-1)) (pc := 58) dX0_addInterest_58 ki_m1 ?_
            obtain rfl := Option.some.inj h
            exact ev_iret (pc := 59) dX0_addInterest_59 rfl rfl rfl (hfin _ _ _)
          · rw [if_neg b13] at h
            refine ev_if_ne_t (t := 60) (pc := 55) dX0_addInterest_55 (by decide) b13 ?_
            obtain ⟨t14, e15, h⟩ := rb_bd h
            refine ev_aload_n (v := 1) (pc := 60) dX0_addInterest_60 rfl ?_
            refine ev_getr (q := 3) (pc := 61) dX0_addInterest_61 fl_RX0_27 rfl rfl ?_
            refine ev_iload (v := t1) (pc := 64) dX0_addInterest_64 rfl ?_
            refine ev_iload_n (v := x1) (pc := 66) dX0_addInterest_66 rfl ?_
            refine ev_iload (v := t3) (pc := 67) dX0_addInterest_67 rfl ?_
            refine ev_cVi3 (pc := 69) dX0_addInterest_69 mv_X1_find lk_RX0_120 rp_3 (ct0_X1_find _ _ _ _ _ _ rfl e15) (Nat.le_of_ble_eq_true rfl) (Nat.le_of_ble_eq_true rfl) ?_
            by_cases b16 : t14 < 0
            · rw [if_pos b16] at h
              refine ev_if_lt_t (t := 78) (pc := 72) dX0_addInterest_72 (by decide) b16 ?_
              obtain ⟨v17, e18, h⟩ := rb_bd h
              refine ev_aload_n (v := 1) (pc := 78) dX0_addInterest_78 rfl ?_
              refine ev_getr (q := 5) (pc := 79) dX0_addInterest_79 fl_RX0_9 rfl rfl ?_
              refine ev_bipush (v := 19) (pc := 82) dX0_addInterest_82 kb_19 ?_
              refine ev_iload (v := t3) (pc := 84) dX0_addInterest_84 rfl ?_
              refine ev_iadd (pc := 86) dX0_addInterest_86 ?_
              refine ev_iald (pc := 87) dX0_addInterest_87 rfl e18 ?_
              refine ev_iconst (v := 4) (pc := 88) dX0_addInterest_88 ki_4 ?_
              by_cases b19 : v17 = 4
              · rw [if_pos b19] at h
                refine ev_icmp_ne_f (t := 120) (pc := 89) dX0_addInterest_89 (by decide) b19 ?_
                obtain ⟨t20, e21, h⟩ := rb_bd h
                obtain ⟨t22, e23, h⟩ := rb_bd h
                refine ev_aload_n (v := 1) (pc := 92) dX0_addInterest_92 rfl ?_
                refine ev_getr (q := 3) (pc := 93) dX0_addInterest_93 fl_RX0_27 rfl rfl ?_
                refine ev_iload (v := t1) (pc := 96) dX0_addInterest_96 rfl ?_
                refine ev_iconst (v := 1) (pc := 98) dX0_addInterest_98 ki_1 ?_
                refine ev_cVi2 (pc := 99) dX0_addInterest_99 mv_X1_deepAbove lk_RX0_124 rp_3 (ct0_X1_deepAbove 5 _ _ _ _ _ rfl e21) (Nat.le_of_ble_eq_true rfl) (Nat.le_of_ble_eq_true rfl) ?_
                refine ev_aload_n (v := 1) (pc := 102) dX0_addInterest_102 rfl ?_
                refine ev_getr (q := 3) (pc := 103) dX0_addInterest_103 fl_RX0_27 rfl rfl ?_
                refine ev_iload (v := t3) (pc := 106) dX0_addInterest_106 rfl ?_
                refine ev_iconst (v := 1) (pc := 108) dX0_addInterest_108 ki_1 ?_
                refine ev_cVi2 (pc := 109) dX0_addInterest_109 mv_X1_deepBelow lk_RX0_127 rp_3 (ct0_X1_deepBelow 5 _ _ _ _ _ rfl e23) (Nat.le_of_ble_eq_true rfl) (Nat.le_of_ble_eq_true rfl) ?_
                refine ev_iadd (pc := 112) dX0_addInterest_112 ?_
                refine ev_iconst (v := 3) (pc := 113) dX0_addInterest_113 ki_3 ?_
                by_cases b24 : (t20 + t22) ≤ 3
                · rw [if_pos b24] at h
                  refine ev_icmp_le_t (t := 120) (pc := 114) dX0_addInterest_114 (by decide) b24 ?_
                  obtain ⟨t25, e26, h⟩ := rb_bd h
                  refine ev_aload_n (v := 1) (pc := 120) dX0_addInterest_120 rfl ?_
                  refine ev_getr (q := 3) (pc := 121) dX0_addInterest_121 fl_RX0_27 rfl rfl ?_
                  refine ev_iload (v := t1) (pc := 124) dX0_addInterest_124 rfl ?_
                  refine ev_iload_n (v := x1) (pc := 126) dX0_addInterest_126 rfl ?_
                  refine ev_iload (v := t3) (pc := 127) dX0_addInterest_127 rfl ?_
                  refine ev_iload_n (v := x2) (pc := 129) dX0_addInterest_129 rfl ?_
                  refine ev_iload (v := x3) (pc := 130) dX0_addInterest_130 rfl ?_
                  refine ev_cVi5w (w' := [(5, t25.2), (6, g), (1, f)]) (pc := 132) dX0_addInterest_132 mv_X1_append lk_RX0_130 rp_3 (ct0_X1_append _ _ _ _ _ _ _ _ rfl e26) (Nat.le_of_ble_eq_true rfl) (Nat.le_of_ble_eq_true rfl) rfl ?_
                  refine ev_istore (L' := [some (.inr 1), some (.inl x0), some (.inl x1), some (.inl x2), some (.inl x3), some (.inl t1), some (.inl t3), some (.inl t25.1)]) (pc := 135) dX0_addInterest_135 (Nat.le_of_ble_eq_true rfl) rfl ?_
                  refine ev_iload (v := t25.1) (pc := 137) dX0_addInterest_137 rfl ?_
                  by_cases b27 : 0 ≤ t25.1
                  · rw [if_pos b27] at h
                    refine ev_if_ge_t (t := 145) (pc := 139) dX0_addInterest_139 (by decide) b27 ?_
                    obtain ⟨t28, e29, h⟩ := rb_bd h
                    obtain ⟨t30, e31, h⟩ := rb_bd h
                    refine ev_aload_n (v := 1) (pc := 145) dX0_addInterest_145 rfl ?_
                    refine ev_iload (v := t25.1) (pc := 146) dX0_addInterest_146 rfl ?_
                    refine ev_cVi1w (w' := [(5, t28.2.1), (6, t28.2.2.1), (1, t28.2.2.2)]) (pc := 148) dX0_addInterest_148 mv_X0_armInterest lk_RX0_134 rp_1 (ct0_X0_armInterest _ _ _ _ _ _ rfl rfl rfl e29) (Nat.le_of_ble_eq_true rfl) (Nat.le_of_ble_eq_true rfl) rfl ?_
                    refine ev_pop (pc := 151) dX0_addInterest_151 ?_
                    refine ev_aload_n (v := 1) (pc := 152) dX0_addInterest_152 rfl ?_
                    refine ev_getr (q := 3) (pc := 153) dX0_addInterest_153 fl_RX0_27 rfl rfl ?_
                    refine ev_iload (v := t1) (pc := 156) dX0_addInterest_156 rfl ?_
                    refine ev_cVi1 (pc := 158) dX0_addInterest_158 mv_X1_heldBy lk_RX0_138 rp_3 (ct0_X1_heldBy _ _ _ _ rfl e31) (Nat.le_of_ble_eq_true rfl) (Nat.le_of_ble_eq_true rfl) ?_
                    obtain rfl := Option.some.inj h
                    exact ev_iret (pc := 161) dX0_addInterest_161 rfl rfl rfl (hfin _ _ _)
                  · rw [if_neg b27] at h
                    refine ev_if_ge_f (t := 145) (pc := 139) dX0_addInterest_139 (by decide) b27 ?_
                    refine ev_bipush (v := (-4)) (pc := 142) dX0_addInterest_142 kb_m4 ?_
                    obtain rfl := Option.some.inj h
                    exact ev_iret (pc := 144) dX0_addInterest_144 rfl rfl rfl (hfin _ _ _)
                · rw [if_neg b24] at h
                  refine ev_icmp_le_f (t := 120) (pc := 114) dX0_addInterest_114 (by decide) b24 ?_
                  refine ev_bipush (v := (-3)) (pc := 117) dX0_addInterest_117 kb_m3 ?_
                  obtain rfl := Option.some.inj h
                  exact ev_iret (pc := 119) dX0_addInterest_119 rfl rfl rfl (hfin _ _ _)
              · rw [if_neg b19] at h
                refine ev_icmp_ne_t (t := 120) (pc := 89) dX0_addInterest_89 (by decide) b19 ?_
                obtain ⟨t32, e33, h⟩ := rb_bd h
                refine ev_aload_n (v := 1) (pc := 120) dX0_addInterest_120 rfl ?_
                refine ev_getr (q := 3) (pc := 121) dX0_addInterest_121 fl_RX0_27 rfl rfl ?_
                refine ev_iload (v := t1) (pc := 124) dX0_addInterest_124 rfl ?_
                refine ev_iload_n (v := x1) (pc := 126) dX0_addInterest_126 rfl ?_
                refine ev_iload (v := t3) (pc := 127) dX0_addInterest_127 rfl ?_
                refine ev_iload_n (v := x2) (pc := 129) dX0_addInterest_129 rfl ?_
                refine ev_iload (v := x3) (pc := 130) dX0_addInterest_130 rfl ?_
                refine ev_cVi5w (w' := [(5, t32.2), (6, g), (1, f)]) (pc := 132) dX0_addInterest_132 mv_X1_append lk_RX0_130 rp_3 (ct0_X1_append _ _ _ _ _ _ _ _ rfl e33) (Nat.le_of_ble_eq_true rfl) (Nat.le_of_ble_eq_true rfl) rfl ?_
                refine ev_istore (L' := [some (.inr 1), some (.inl x0), some (.inl x1), some (.inl x2), some (.inl x3), some (.inl t1), some (.inl t3), some (.inl t32.1)]) (pc := 135) dX0_addInterest_135 (Nat.le_of_ble_eq_true rfl) rfl ?_
                refine ev_iload (v := t32.1) (pc := 137) dX0_addInterest_137 rfl ?_
                by_cases b34 : 0 ≤ t32.1
                · rw [if_pos b34] at h
                  refine ev_if_ge_t (t := 145) (pc := 139) dX0_addInterest_139 (by decide) b34 ?_
                  obtain ⟨t35, e36, h⟩ := rb_bd h
                  obtain ⟨t37, e38, h⟩ := rb_bd h
                  refine ev_aload_n (v := 1) (pc := 145) dX0_addInterest_145 rfl ?_
                  refine ev_iload (v := t32.1) (pc := 146) dX0_addInterest_146 rfl ?_
                  refine ev_cVi1w (w' := [(5, t35.2.1), (6, t35.2.2.1), (1, t35.2.2.2)]) (pc := 148) dX0_addInterest_148 mv_X0_armInterest lk_RX0_134 rp_1 (ct0_X0_armInterest _ _ _ _ _ _ rfl rfl rfl e36) (Nat.le_of_ble_eq_true rfl) (Nat.le_of_ble_eq_true rfl) rfl ?_
                  refine ev_pop (pc := 151) dX0_addInterest_151 ?_
                  refine ev_aload_n (v := 1) (pc := 152) dX0_addInterest_152 rfl ?_
                  refine ev_getr (q := 3) (pc := 153) dX0_addInterest_153 fl_RX0_27 rfl rfl ?_
                  refine ev_iload (v := t1) (pc := 156) dX0_addInterest_156 rfl ?_
                  refine ev_cVi1 (pc := 158) dX0_addInterest_158 mv_X1_heldBy lk_RX0_138 rp_3 (ct0_X1_heldBy _ _ _ _ rfl e38) (Nat.le_of_ble_eq_true rfl) (Nat.le_of_ble_eq_true rfl) ?_
                  obtain rfl := Option.some.inj h
                  exact ev_iret (pc := 161) dX0_addInterest_161 rfl rfl rfl (hfin _ _ _)
                · rw [if_neg b34] at h
                  refine ev_if_ge_f (t := 145) (pc := 139) dX0_addInterest_139 (by decide) b34 ?_
                  refine ev_bipush (v := (-4)) (pc := 142) dX0_addInterest_142 kb_m4 ?_
                  obtain rfl := Option.some.inj h
                  exact ev_iret (pc := 144) dX0_addInterest_144 rfl rfl rfl (hfin _ _ _)
            · rw [if_neg b16] at h
              refine ev_if_lt_f (t := 78) (pc := 72) dX0_addInterest_72 (by decide) b16 ?_
              refine ev_bipush (v := (-2)) (pc := 75) dX0_addInterest_75 kb_m2 ?_
              obtain rfl := Option.some.inj h
              exact ev_iret (pc := 77) dX0_addInterest_77 rfl rfl rfl (hfin _ _ _)
set_option maxHeartbeats 4000000 in
set_option maxRecDepth 20000 in
theorem ct1_X0_addInterest (μ : rb_Mem) (c : rb_Row) (g : rb_Row) (f : rb_Row) (x0 : Int32) (x1 : Int32) (x2 : Int32) (x3 : Int32) (o : Int32 × rb_Row × rb_Row × rb_Row) (hc : μ 11 = c) (hg : μ 12 = g) (hf : μ 7 = f) (h : XX0_addInterest c g f x0 x1 x2 x3 = some o) : rb_Ct yX0_addInterest cX0_addInterest 8 (some .int) 16 [.inr 7, .inl x0, .inl x1, .inl x2, .inl x3] μ (some o.1) (rb_ov μ [(11, o.2.1), (12, o.2.2.1), (7, o.2.2.2)]) := by
  unfold XX0_addInterest at h
  have hini : rb_ov μ [(11, c), (12, g), (7, f)] = μ := rb_ov_sf _ _ (And.intro hc (And.intro hg (And.intro hf True.intro)))
  have hfin : ∀ u0 u1 u2 : rb_Row, rb_ov μ [(11, u0), (12, u1), (7, u2)] = rb_ov μ [(11, u0), (12, u1), (7, u2)] := fun u0 u1 u2 => rfl
  refine rb_cti (w := [(11, c), (12, g), (7, f)]) rfl pn_0 (Nat.le_of_ble_eq_true rfl) rfl hini ?_
  obtain ⟨t1, e2, h⟩ := rb_bd h
  obtain ⟨t3, e4, h⟩ := rb_bd h
  refine ev_aload_n (v := 7) (pc := 0) dX0_addInterest_0 rfl ?_
  refine ev_getr (q := 8) (pc := 1) dX0_addInterest_1 fl_RX0_20 rfl rfl ?_
  refine ev_iload_n (v := x0) (pc := 4) dX0_addInterest_4 rfl ?_
  refine ev_iconst (v := 4) (pc := 5) dX0_addInterest_5 ki_4 ?_
  refine ev_cVi2 (pc := 6) dX0_addInterest_6 mv_X5_thingOfKind lk_RX0_82 rp_8 (ct1_X5_thingOfKind _ _ _ _ _ rfl e2) (Nat.le_of_ble_eq_true rfl) (Nat.le_of_ble_eq_true rfl) ?_
  refine ev_istore (L' := [some (.inr 7), some (.inl x0), some (.inl x1), some (.inl x2), some (.inl x3), some (.inl t1), none, none]) (pc := 9) dX0_addInterest_9 (Nat.le_of_ble_eq_true rfl) rfl ?_
  refine ev_aload_n (v := 7) (pc := 11) dX0_addInterest_11 rfl ?_
  refine ev_getr (q := 8) (pc := 12) dX0_addInterest_12 fl_RX0_20 rfl rfl ?_
  refine ev_iload_n (v := x1) (pc := 15) dX0_addInterest_15 rfl ?_
  refine ev_cVi1 (pc := 16) dX0_addInterest_16 mv_X5_thingOf lk_RX0_96 rp_8 (ct1_X5_thingOf _ _ _ _ rfl e4) (Nat.le_of_ble_eq_true rfl) (Nat.le_of_ble_eq_true rfl) ?_
  refine ev_istore (L' := [some (.inr 7), some (.inl x0), some (.inl x1), some (.inl x2), some (.inl x3), some (.inl t1), some (.inl t3), none]) (pc := 19) dX0_addInterest_19 (Nat.le_of_ble_eq_true rfl) rfl ?_
  refine ev_iload (v := t1) (pc := 21) dX0_addInterest_21 rfl ?_
  by_cases b5 : t1 < 0
  · rw [if_pos b5] at h
    refine ev_if_lt_t (t := 58) (pc := 23) dX0_addInterest_23 (by decide) b5 ?_
    refine ev_iconst (v := (-1)) (pc := 58) dX0_addInterest_58 ki_m1 ?_
    obtain rfl := Option.some.inj h
    exact ev_iret (pc := 59) dX0_addInterest_59 rfl rfl rfl (hfin _ _ _)
  · rw [if_neg b5] at h
    refine ev_if_lt_f (t := 58) (pc := 23) dX0_addInterest_23 (by decide) b5 ?_
    refine ev_iload (v := t3) (pc := 26) dX0_addInterest_26 rfl ?_
    by_cases b6 : t3 < 0
    · rw [if_pos b6] at h
      refine ev_if_lt_t (t := 58) (pc := 28) dX0_addInterest_28 (by decide) b6 ?_
      refine ev_iconst (v := (-1)) (pc := 58) dX0_addInterest_58 ki_m1 ?_
      obtain rfl := Option.some.inj h
      exact ev_iret (pc := 59) dX0_addInterest_59 rfl rfl rfl (hfin _ _ _)
    · rw [if_neg b6] at h
      refine ev_if_lt_f (t := 58) (pc := 28) dX0_addInterest_28 (by decide) b6 ?_
      refine ev_iload (v := t1) (pc := 31) dX0_addInterest_31 rfl ?_
      refine ev_iload (v := t3) (pc := 33) dX0_addInterest_33 rfl ?_
      by_cases b7 : t1 = t3
      · rw [if_pos b7] at h
        refine ev_icmp_eq_t (t := 58) (pc := 35) dX0_addInterest_35 (by decide) b7 ?_
        refine ev_iconst (v := (-1)) (pc := 58) dX0_addInterest_58 ki_m1 ?_
        obtain rfl := Option.some.inj h
        exact ev_iret (pc := 59) dX0_addInterest_59 rfl rfl rfl (hfin _ _ _)
      · rw [if_neg b7] at h
        refine ev_icmp_eq_f (t := 58) (pc := 35) dX0_addInterest_35 (by decide) b7 ?_
        obtain ⟨t8, e9, h⟩ := rb_bd h
        refine ev_iload_n (v := x2) (pc := 38) dX0_addInterest_38 rfl ?_
        refine ev_iconst (v := 0) (pc := 39) dX0_addInterest_39 ki_0 ?_
        refine ev_iconst (v := 3) (pc := 40) dX0_addInterest_40 ki_3 ?_
        refine ev_cSi3 (pc := 41) dX0_addInterest_41 ms_X6_between lk_RX0_72 (ct_X6_between _ _ _ _ _ e9) (Nat.le_of_ble_eq_true rfl) (Nat.le_of_ble_eq_true rfl) ?_
        by_cases b10 : t8 = 0
        · rw [if_pos b10] at h
          refine ev_if_eq_t (t := 58) (pc := 44) dX0_addInterest_44 (by decide) b10 ?_
          refine ev_iconst (v := (-1)) (pc := 58) dX0_addInterest_58 ki_m1 ?_
          obtain rfl := Option.some.inj h
          exact ev_iret (pc := 59) dX0_addInterest_59 rfl rfl rfl (hfin _ _ _)
        · rw [if_neg b10] at h
          refine ev_if_eq_f (t := 58) (pc := 44) dX0_addInterest_44 (by decide) b10 ?_
          obtain ⟨t11, e12, h⟩ := rb_bd h
          refine ev_iload (v := x3) (pc := 47) dX0_addInterest_47 rfl ?_
          refine ev_iconst (v := 0) (pc := 49) dX0_addInterest_49 ki_0 ?_
          refine ev_bipush (v := 7) (pc := 50) dX0_addInterest_50 kb_7 ?_
          refine ev_cSi3 (pc := 52) dX0_addInterest_52 ms_X6_between lk_RX0_72 (ct_X6_between _ _ _ _ _ e12) (Nat.le_of_ble_eq_true rfl) (Nat.le_of_ble_eq_true rfl) ?_
          by_cases b13 : t11 = 0
          · rw [if_pos b13] at h
            refine ev_if_ne_f (t := 60) (pc := 55) dX0_addInterest_55 (by decide) b13 ?_
            refine ev_iconst (v := (-1)) (pc := 58) dX0_addInterest_58 ki_m1 ?_
            obtain rfl := Option.some.inj h
            exact ev_iret (pc := 59) dX0_addInterest_59 rfl rfl rfl (hfin _ _ _)
          · rw [if_neg b13] at h
            refine ev_if_ne_t (t := 60) (pc := 55) dX0_addInterest_55 (by decide) b13 ?_
            obtain ⟨t14, e15, h⟩ := rb_bd h
            refine ev_aload_n (v := 7) (pc := 60) dX0_addInterest_60 rfl ?_
            refine ev_getr (q := 9) (pc := 61) dX0_addInterest_61 fl_RX0_27 rfl rfl ?_
            refine ev_iload (v := t1) (pc := 64) dX0_addInterest_64 rfl ?_
            refine ev_iload_n (v := x1) (pc := 66) dX0_addInterest_66 rfl ?_
            refine ev_iload (v := t3) (pc := 67) dX0_addInterest_67 rfl ?_
            refine ev_cVi3 (pc := 69) dX0_addInterest_69 mv_X1_find lk_RX0_120 rp_9 (ct1_X1_find _ _ _ _ _ _ rfl e15) (Nat.le_of_ble_eq_true rfl) (Nat.le_of_ble_eq_true rfl) ?_
            by_cases b16 : t14 < 0
            · rw [if_pos b16] at h
              refine ev_if_lt_t (t := 78) (pc := 72) dX0_addInterest_72 (by decide) b16 ?_
              obtain ⟨v17, e18, h⟩ := rb_bd h
              refine ev_aload_n (v := 7) (pc := 78) dX0_addInterest_78 rfl ?_
              refine ev_getr (q := 11) (pc := 79) dX0_addInterest_79 fl_RX0_9 rfl rfl ?_
              refine ev_bipush (v := 19) (pc := 82) dX0_addInterest_82 kb_19 ?_
              refine ev_iload (v := t3) (pc := 84) dX0_addInterest_84 rfl ?_
              refine ev_iadd (pc := 86) dX0_addInterest_86 ?_
              refine ev_iald (pc := 87) dX0_addInterest_87 rfl e18 ?_
              refine ev_iconst (v := 4) (pc := 88) dX0_addInterest_88 ki_4 ?_
              by_cases b19 : v17 = 4
              · rw [if_pos b19] at h
                refine ev_icmp_ne_f (t := 120) (pc := 89) dX0_addInterest_89 (by decide) b19 ?_
                obtain ⟨t20, e21, h⟩ := rb_bd h
                obtain ⟨t22, e23, h⟩ := rb_bd h
                refine ev_aload_n (v := 7) (pc := 92) dX0_addInterest_92 rfl ?_
                refine ev_getr (q := 9) (pc := 93) dX0_addInterest_93 fl_RX0_27 rfl rfl ?_
                refine ev_iload (v := t1) (pc := 96) dX0_addInterest_96 rfl ?_
                refine ev_iconst (v := 1) (pc := 98) dX0_addInterest_98 ki_1 ?_
                refine ev_cVi2 (pc := 99) dX0_addInterest_99 mv_X1_deepAbove lk_RX0_124 rp_9 (ct1_X1_deepAbove 5 _ _ _ _ _ rfl e21) (Nat.le_of_ble_eq_true rfl) (Nat.le_of_ble_eq_true rfl) ?_
                refine ev_aload_n (v := 7) (pc := 102) dX0_addInterest_102 rfl ?_
                refine ev_getr (q := 9) (pc := 103) dX0_addInterest_103 fl_RX0_27 rfl rfl ?_
                refine ev_iload (v := t3) (pc := 106) dX0_addInterest_106 rfl ?_
                refine ev_iconst (v := 1) (pc := 108) dX0_addInterest_108 ki_1 ?_
                refine ev_cVi2 (pc := 109) dX0_addInterest_109 mv_X1_deepBelow lk_RX0_127 rp_9 (ct1_X1_deepBelow 5 _ _ _ _ _ rfl e23) (Nat.le_of_ble_eq_true rfl) (Nat.le_of_ble_eq_true rfl) ?_
                refine ev_iadd (pc := 112) dX0_addInterest_112 ?_
                refine ev_iconst (v := 3) (pc := 113) dX0_addInterest_113 ki_3 ?_
                by_cases b24 : (t20 + t22) ≤ 3
                · rw [if_pos b24] at h
                  refine ev_icmp_le_t (t := 120) (pc := 114) dX0_addInterest_114 (by decide) b24 ?_
                  obtain ⟨t25, e26, h⟩ := rb_bd h
                  refine ev_aload_n (v := 7) (pc := 120) dX0_addInterest_120 rfl ?_
                  refine ev_getr (q := 9) (pc := 121) dX0_addInterest_121 fl_RX0_27 rfl rfl ?_
                  refine ev_iload (v := t1) (pc := 124) dX0_addInterest_124 rfl ?_
                  refine ev_iload_n (v := x1) (pc := 126) dX0_addInterest_126 rfl ?_
                  refine ev_iload (v := t3) (pc := 127) dX0_addInterest_127 rfl ?_
                  refine ev_iload_n (v := x2) (pc := 129) dX0_addInterest_129 rfl ?_
                  refine ev_iload (v := x3) (pc := 130) dX0_addInterest_130 rfl ?_
                  refine ev_cVi5w (w' := [(11, t25.2), (12, g), (7, f)]) (pc := 132) dX0_addInterest_132 mv_X1_append lk_RX0_130 rp_9 (ct1_X1_append _ _ _ _ _ _ _ _ rfl e26) (Nat.le_of_ble_eq_true rfl) (Nat.le_of_ble_eq_true rfl) rfl ?_
                  refine ev_istore (L' := [some (.inr 7), some (.inl x0), some (.inl x1), some (.inl x2), some (.inl x3), some (.inl t1), some (.inl t3), some (.inl t25.1)]) (pc := 135) dX0_addInterest_135 (Nat.le_of_ble_eq_true rfl) rfl ?_
                  refine ev_iload (v := t25.1) (pc := 137) dX0_addInterest_137 rfl ?_
                  by_cases b27 : 0 ≤ t25.1
                  · rw [if_pos b27] at h
                    refine ev_if_ge_t (t := 145) (pc := 139) dX0_addInterest_139 (by decide) b27 ?_
                    obtain ⟨t28, e29, h⟩ := rb_bd h
                    obtain ⟨t30, e31, h⟩ := rb_bd h
                    refine ev_aload_n (v := 7) (pc := 145) dX0_addInterest_145 rfl ?_
                    refine ev_iload (v := t25.1) (pc := 146) dX0_addInterest_146 rfl ?_
                    refine ev_cVi1w (w' := [(11, t28.2.1), (12, t28.2.2.1), (7, t28.2.2.2)]) (pc := 148) dX0_addInterest_148 mv_X0_armInterest lk_RX0_134 rp_7 (ct1_X0_armInterest _ _ _ _ _ _ rfl rfl rfl e29) (Nat.le_of_ble_eq_true rfl) (Nat.le_of_ble_eq_true rfl) rfl ?_
                    refine ev_pop (pc := 151) dX0_addInterest_151 ?_
                    refine ev_aload_n (v := 7) (pc := 152) dX0_addInterest_152 rfl ?_
                    refine ev_getr (q := 9) (pc := 153) dX0_addInterest_153 fl_RX0_27 rfl rfl ?_
                    refine ev_iload (v := t1) (pc := 156) dX0_addInterest_156 rfl ?_
                    refine ev_cVi1 (pc := 158) dX0_addInterest_158 mv_X1_heldBy lk_RX0_138 rp_9 (ct1_X1_heldBy _ _ _ _ rfl e31) (Nat.le_of_ble_eq_true rfl) (Nat.le_of_ble_eq_true rfl) ?_
                    obtain rfl := Option.some.inj h
                    exact ev_iret (pc := 161) dX0_addInterest_161 rfl rfl rfl (hfin _ _ _)
                  · rw [if_neg b27] at h
                    refine ev_if_ge_f (t := 145) (pc := 139) dX0_addInterest_139 (by decide) b27 ?_
                    refine ev_bipush (v := (-4)) (pc := 142) dX0_addInterest_142 kb_m4 ?_
                    obtain rfl := Option.some.inj h
                    exact ev_iret (pc := 144) dX0_addInterest_144 rfl rfl rfl (hfin _ _ _)
                · rw [if_neg b24] at h
                  refine ev_icmp_le_f (t := 120) (pc := 114) dX0_addInterest_114 (by decide) b24 ?_
                  refine ev_bipush (v := (-3)) (pc := 117) dX0_addInterest_117 kb_m3 ?_
                  obtain rfl := Option.some.inj h
                  exact ev_iret (pc := 119) dX0_addInterest_119 rfl rfl rfl (hfin _ _ _)
              · rw [if_neg b19] at h
                refine ev_icmp_ne_t (t := 120) (pc := 89) dX0_addInterest_89 (by decide) b19 ?_
                obtain ⟨t32, e33, h⟩ := rb_bd h
                refine ev_aload_n (v := 7) (pc := 120) dX0_addInterest_120 rfl ?_
                refine ev_getr (q := 9) (pc := 121) dX0_addInterest_121 fl_RX0_27 rfl rfl ?_
                refine ev_iload (v := t1) (pc := 124) dX0_addInterest_124 rfl ?_
                refine ev_iload_n (v := x1) (pc := 126) dX0_addInterest_126 rfl ?_
                refine ev_iload (v := t3) (pc := 127) dX0_addInterest_127 rfl ?_
                refine ev_iload_n (v := x2) (pc := 129) dX0_addInterest_129 rfl ?_
                refine ev_iload (v := x3) (pc := 130) dX0_addInterest_130 rfl ?_
                refine ev_cVi5w (w' := [(11, t32.2), (12, g), (7, f)]) (pc := 132) dX0_addInterest_132 mv_X1_append lk_RX0_130 rp_9 (ct1_X1_append _ _ _ _ _ _ _ _ rfl e33) (Nat.le_of_ble_eq_true rfl) (Nat.le_of_ble_eq_true rfl) rfl ?_
                refine ev_istore (L' := [some (.inr 7), some (.inl x0), some (.inl x1), some (.inl x2), some (.inl x3), some (.inl t1), some (.inl t3), some (.inl t32.1)]) (pc := 135) dX0_addInterest_135 (Nat.le_of_ble_eq_true rfl) rfl ?_
                refine ev_iload (v := t32.1) (pc := 137) dX0_addInterest_137 rfl ?_
                by_cases b34 : 0 ≤ t32.1
                · rw [if_pos b34] at h
                  refine ev_if_ge_t (t := 145) (pc := 139) dX0_addInterest_139 (by decide) b34 ?_
                  obtain ⟨t35, e36, h⟩ := rb_bd h
                  obtain ⟨t37, e38, h⟩ := rb_bd h
                  refine ev_aload_n (v := 7) (pc := 145) dX0_addInterest_145 rfl ?_
                  refine ev_iload (v := t32.1) (pc := 146) dX0_addInterest_146 rfl ?_
                  refine ev_cVi1w (w' := [(11, t35.2.1), (12, t35.2.2.1), (7, t35.2.2.2)]) (pc := 148) dX0_addInterest_148 mv_X0_armInterest lk_RX0_134 rp_7 (ct1_X0_armInterest _ _ _ _ _ _ rfl rfl rfl e36) (Nat.le_of_ble_eq_true rfl) (Nat.le_of_ble_eq_true rfl) rfl ?_
                  refine ev_pop (pc := 151) dX0_addInterest_151 ?_
                  refine ev_aload_n (v := 7) (pc := 152) dX0_addInterest_152 rfl ?_
                  refine ev_getr (q := 9) (pc := 153) dX0_addInterest_153 fl_RX0_27 rfl rfl ?_
                  refine ev_iload (v := t1) (pc := 156) dX0_addInterest_156 rfl ?_
                  refine ev_cVi1 (pc := 158) dX0_addInterest_158 mv_X1_heldBy lk_RX0_138 rp_9 (ct1_X1_heldBy _ _ _ _ rfl e38) (Nat.le_of_ble_eq_true rfl) (Nat.le_of_ble_eq_true rfl) ?_
                  obtain rfl := Option.some.inj h
                  exact ev_iret (pc := 161) dX0_addInterest_161 rfl rfl rfl (hfin _ _ _)
                · rw [if_neg b34] at h
                  refine ev_if_ge_f (t := 145) (pc := 139) dX0_addInterest_139 (by decide) b34 ?_
                  refine ev_bipush (v := (-4)) (pc := 142) dX0_addInterest_142 kb_m4 ?_
                  obtain rfl := Option.some.inj h
                  exact ev_iret (pc := 144) dX0_addInterest_144 rfl rfl rfl (hfin _ _ _)
            · rw [if_neg b16] at h
              refine ev_if_lt_f (t := 78) (pc := 72) dX0_addInterest_72 (by decide) b16 ?_
              refine ev_bipush (v := (-2)) (pc := 75) dX0_addInterest_75 kb_m2 ?_
              obtain rfl := Option.some.inj h
              exact ev_iret (pc := 77) dX0_addInterest_77 rfl rfl rfl (hfin _ _ _)
def XX0_canGather (c : rb_Row) (x0 : Int32) (x1 : Int32) (x2 : Int32) : Option (Int32) := (XX6_isTask x0).bind fun t1 => if t1 = 0 then some (rb_nz 0) else (rb_rd c 773 (539 + x0)).bind fun v4 => if 0 ≤ v4 then some (rb_nz 0) else if x1 < 0 then some (rb_nz 0) else (XX6_between x2 1 8).bind fun t8 => if t8 = 0 then some (rb_nz 0) else some (rb_nz 1)
set_option maxHeartbeats 4000000 in
set_option maxRecDepth 20000 in
theorem ct0_X0_canGather (μ : rb_Mem) (c : rb_Row) (x0 : Int32) (x1 : Int32) (x2 : Int32) (o : Int32) (hc : μ 5 = c) (h : XX0_canGather c x0 x1 x2 = some o) : rb_Ct yX0_canGather cX0_canGather 4 (some .boolean) 1 [.inr 1, .inl x0, .inl x1, .inl x2] μ (some o) μ := by
  unfold XX0_canGather at h
  have hini : rb_ov μ [(5, c)] = μ := rb_ov_sf _ _ (And.intro hc True.intro)
  have hfin := hini
  refine rb_ctz (w := [(5, c)]) rfl pn_0 (Nat.le_of_ble_eq_true rfl) rfl hini ?_
  obtain ⟨t1, e2, h⟩ := rb_bd h
  refine ev_iload_n (v := x0) (pc := 0) dX0_canGather_0 rfl ?_
  refine ev_cSi1 (pc := 1) dX0_canGather_1 ms_X6_isTask lk_RX0_181 (ct_X6_isTask _ _ _ e2) (Nat.le_of_ble_eq_true rfl) (Nat.le_of_ble_eq_true rfl) ?_
  by_cases b3 : t1 = 0
  · rw [if_pos b3] at h
    refine ev_if_eq_t (t := 38) (pc := 4) dX0_canGather_4 (by decide) b3 ?_
    refine ev_iconst (v := 0) (pc := 38) dX0_canGather_38 ki_0 ?_
    obtain rfl := Option.some.inj h
    exact ev_iret (pc := 39) dX0_canGather_39 rfl rfl rfl hfin
  · rw [if_neg b3] at h
    refine ev_if_eq_f (t := 38) (pc := 4) dX0_canGather_4 (by decide) b3 ?_
    obtain ⟨v4, e5, h⟩ := rb_bd h
    refine ev_aload_n (v := 1) (pc := 7) dX0_canGather_7 rfl ?_
    refine ev_getr (q := 5) (pc := 8) dX0_canGather_8 fl_RX0_9 rfl rfl ?_
    refine ev_sipush (v := 539) (pc := 11) dX0_canGather_11 ks_539 ?_
    refine ev_iload_n (v := x0) (pc := 14) dX0_canGather_14 rfl ?_
    refine ev_iadd (pc := 15) dX0_canGather_15 ?_
    refine ev_iald (pc := 16) dX0_canGather_16 rfl e5 ?_
    by_cases b6 : 0 ≤ v4
    · rw [if_pos b6] at h
      refine ev_if_ge_t (t := 38) (pc := 17) dX0_canGather_17 (by decide) b6 ?_
      refine ev_iconst (v := 0) (pc := 38) dX0_canGather_38 ki_0 ?_
      obtain rfl := Option.some.inj h
      exact ev_iret (pc := 39) dX0_canGather_39 rfl rfl rfl hfin
    · rw [if_neg b6] at h
      refine ev_if_ge_f (t := 38) (pc := 17) dX0_canGather_17 (by decide) b6 ?_
      refine ev_iload_n (v := x1) (pc := 20) dX0_canGather_20 rfl ?_
      by_cases b7 : x1 < 0
      · rw [if_pos b7] at h
        refine ev_if_lt_t (t := 38) (pc := 21) dX0_canGather_21 (by decide) b7 ?_
        refine ev_iconst (v := 0) (pc := 38) dX0_canGather_38 ki_0 ?_
        obtain rfl := Option.some.inj h
        exact ev_iret (pc := 39) dX0_canGather_39 rfl rfl rfl hfin
      · rw [if_neg b7] at h
        refine ev_if_lt_f (t := 38) (pc := 21) dX0_canGather_21 (by decide) b7 ?_
        obtain ⟨t8, e9, h⟩ := rb_bd h
        refine ev_iload_n (v := x2) (pc := 24) dX0_canGather_24 rfl ?_
        refine ev_iconst (v := 1) (pc := 25) dX0_canGather_25 ki_1 ?_
        refine ev_bipush (v := 8) (pc := 26) dX0_canGather_26 kb_8 ?_
        refine ev_cSi3 (pc := 28) dX0_canGather_28 ms_X6_between lk_RX0_72 (ct_X6_between _ _ _ _ _ e9) (Nat.le_of_ble_eq_true rfl) (Nat.le_of_ble_eq_true rfl) ?_
        by_cases b10 : t8 = 0
        · rw [if_pos b10] at h
          refine ev_if_eq_t (t := 38) (pc := 31) dX0_canGather_31 (by decide) b10 ?_
          refine ev_iconst (v := 0) (pc := 38) dX0_canGather_38 ki_0 ?_
          obtain rfl := Option.some.inj h
          exact ev_iret (pc := 39) dX0_canGather_39 rfl rfl rfl hfin
        · rw [if_neg b10] at h
          refine ev_if_eq_f (t := 38) (pc := 31) dX0_canGather_31 (by decide) b10 ?_
          refine ev_iconst (v := 1) (pc := 34) dX0_canGather_34 ki_1 ?_
          refine ev_goto (t := 39) (pc := 35) dX0_canGather_35 (by decide) ?_
          obtain rfl := Option.some.inj h
          exact ev_iret (pc := 39) dX0_canGather_39 rfl rfl rfl hfin
set_option maxHeartbeats 4000000 in
set_option maxRecDepth 20000 in
theorem ct1_X0_canGather (μ : rb_Mem) (c : rb_Row) (x0 : Int32) (x1 : Int32) (x2 : Int32) (o : Int32) (hc : μ 11 = c) (h : XX0_canGather c x0 x1 x2 = some o) : rb_Ct yX0_canGather cX0_canGather 4 (some .boolean) 1 [.inr 7, .inl x0, .inl x1, .inl x2] μ (some o) μ := by
  unfold XX0_canGather at h
  have hini : rb_ov μ [(11, c)] = μ := rb_ov_sf _ _ (And.intro hc True.intro)
  have hfin := hini
  refine rb_ctz (w := [(11, c)]) rfl pn_0 (Nat.le_of_ble_eq_true rfl) rfl hini ?_
  obtain ⟨t1, e2, h⟩ := rb_bd h
  refine ev_iload_n (v := x0) (pc := 0) dX0_canGather_0 rfl ?_
  refine ev_cSi1 (pc := 1) dX0_canGather_1 ms_X6_isTask lk_RX0_181 (ct_X6_isTask _ _ _ e2) (Nat.le_of_ble_eq_true rfl) (Nat.le_of_ble_eq_true rfl) ?_
  by_cases b3 : t1 = 0
  · rw [if_pos b3] at h
    refine ev_if_eq_t (t := 38) (pc := 4) dX0_canGather_4 (by decide) b3 ?_
    refine ev_iconst (v := 0) (pc := 38) dX0_canGather_38 ki_0 ?_
    obtain rfl := Option.some.inj h
    exact ev_iret (pc := 39) dX0_canGather_39 rfl rfl rfl hfin
  · rw [if_neg b3] at h
    refine ev_if_eq_f (t := 38) (pc := 4) dX0_canGather_4 (by decide) b3 ?_
    obtain ⟨v4, e5, h⟩ := rb_bd h
    refine ev_aload_n (v := 7) (pc := 7) dX0_canGather_7 rfl ?_
    refine ev_getr (q := 11) (pc := 8) dX0_canGather_8 fl_RX0_9 rfl rfl ?_
    refine ev_sipush (v := 539) (pc := 11) dX0_canGather_11 ks_539 ?_
    refine ev_iload_n (v := x0) (pc := 14) dX0_canGather_14 rfl ?_
    refine ev_iadd (pc := 15) dX0_canGather_15 ?_
    refine ev_iald (pc := 16) dX0_canGather_16 rfl e5 ?_
    by_cases b6 : 0 ≤ v4
    · rw [if_pos b6] at h
      refine ev_if_ge_t (t := 38) (pc := 17) dX0_canGather_17 (by decide) b6 ?_
      refine ev_iconst (v := 0) (pc := 38) dX0_canGather_38 ki_0 ?_
      obtain rfl := Option.some.inj h
      exact ev_iret (pc := 39) dX0_canGather_39 rfl rfl rfl hfin
    · rw [if_neg b6] at h
      refine ev_if_ge_f (t := 38) (pc := 17) dX0_canGather_17 (by decide) b6 ?_
      refine ev_iload_n (v := x1) (pc := 20) dX0_canGather_20 rfl ?_
      by_cases b7 : x1 < 0
      · rw [if_pos b7] at h
        refine ev_if_lt_t (t := 38) (pc := 21) dX0_canGather_21 (by decide) b7 ?_
        refine ev_iconst (v := 0) (pc := 38) dX0_canGather_38 ki_0 ?_
        obtain rfl := Option.some.inj h
        exact ev_iret (pc := 39) dX0_canGather_39 rfl rfl rfl hfin
      · rw [if_neg b7] at h
        refine ev_if_lt_f (t := 38) (pc := 21) dX0_canGather_21 (by decide) b7 ?_
        obtain ⟨t8, e9, h⟩ := rb_bd h
        refine ev_iload_n (v := x2) (pc := 24) dX0_canGather_24 rfl ?_
        refine ev_iconst (v := 1) (pc := 25) dX0_canGather_25 ki_1 ?_
        refine ev_bipush (v := 8) (pc := 26) dX0_canGather_26 kb_8 ?_
        refine ev_cSi3 (pc := 28) dX0_canGather_28 ms_X6_between lk_RX0_72 (ct_X6_between _ _ _ _ _ e9) (Nat.le_of_ble_eq_true rfl) (Nat.le_of_ble_eq_true rfl) ?_
        by_cases b10 : t8 = 0
        · rw [if_pos b10] at h
          refine ev_if_eq_t (t := 38) (pc := 31) dX0_canGather_31 (by decide) b10 ?_
          refine ev_iconst (v := 0) (pc := 38) dX0_canGather_38 ki_0 ?_
          obtain rfl := Option.some.inj h
          exact ev_iret (pc := 39) dX0_canGather_39 rfl rfl rfl hfin
        · rw [if_neg b10] at h
          refine ev_if_eq_f (t := 38) (pc := 31) dX0_canGather_31 (by decide) b10 ?_
          refine ev_iconst (v := 1) (pc := 34) dX0_canGather_34 ki_1 ?_
          refine ev_goto (t := 39) (pc := 35) dX0_canGather_35 (by decide) ?_
          obtain rfl := Option.some.inj h
          exact ev_iret (pc := 39) dX0_canGather_39 rfl rfl rfl hfin
def XX0_collectAt (c : rb_Row) (g : rb_Row) (x0 : Int32) (x1 : Int32) (x2 : Int32) : Option (Int32 × rb_Row × rb_Row) := (XX5_thingOfKind c x1 4).bind fun t1 => (XX0_canGather c x0 t1 x2).bind fun t3 => if t3 = 0 then some ((-1), c, g) else (XX0_gather c g x0 t1 x2).bind fun t6 => some (t6.1, t6.2.1, t6.2.2)
set_option maxHeartbeats 4000000 in
set_option maxRecDepth 20000 in
theorem ct0_X0_collectAt (μ : rb_Mem) (c : rb_Row) (g : rb_Row) (x0 : Int32) (x1 : Int32) (x2 : Int32) (o : Int32 × rb_Row × rb_Row) (hc : μ 5 = c) (hg : μ 6 = g) (h : XX0_collectAt c g x0 x1 x2 = some o) : rb_Ct yX0_collectAt cX0_collectAt 5 (some .int) 7 [.inr 1, .inl x0, .inl x1, .inl x2] μ (some o.1) (rb_ov μ [(5, o.2.1), (6, o.2.2)]) := by
  unfold XX0_collectAt at h
  have hini : rb_ov μ [(5, c), (6, g)] = μ := rb_ov_sf _ _ (And.intro hc (And.intro hg True.intro))
  have hfin : ∀ u0 u1 : rb_Row, rb_ov μ [(5, u0), (6, u1)] = rb_ov μ [(5, u0), (6, u1)] := fun u0 u1 => rfl
  refine rb_cti (w := [(5, c), (6, g)]) rfl pn_0 (Nat.le_of_ble_eq_true rfl) rfl hini ?_
  obtain ⟨t1, e2, h⟩ := rb_bd h
  obtain ⟨t3, e4, h⟩ := rb_bd h
  refine ev_aload_n (v := 1) (pc := 0) dX0_collectAt_0 rfl ?_
  refine ev_getr (q := 2) (pc := 1) dX0_collectAt_1 fl_RX0_20 rfl rfl ?_
  refine ev_iload_n (v := x1) (pc := 4) dX0_collectAt_4 rfl ?_
  refine ev_iconst (v := 4) (pc := 5) dX0_collectAt_5 ki_4 ?_
  refine ev_cVi2 (pc := 6) dX0_collectAt_6 mv_X5_thingOfKind lk_RX0_82 rp_2 (ct0_X5_thingOfKind _ _ _ _ _ rfl e2) (Nat.le_of_ble_eq_true rfl) (Nat.le_of_ble_eq_true rfl) ?_
  refine ev_istore (L' := [some (.inr 1), some (.inl x0), some (.inl x1), some (.inl x2), some (.inl t1)]) (pc := 9) dX0_collectAt_9 (Nat.le_of_ble_eq_true rfl) rfl ?_
  refine ev_aload_n (v := 1) (pc := 11) dX0_collectAt_11 rfl ?_
  refine ev_iload_n (v := x0) (pc := 12) dX0_collectAt_12 rfl ?_
  refine ev_iload (v := t1) (pc := 13) dX0_collectAt_13 rfl ?_
  refine ev_iload_n (v := x2) (pc := 15) dX0_collectAt_15 rfl ?_
  refine ev_cVi3 (pc := 16) dX0_collectAt_16 mv_X0_canGather lk_RX0_184 rp_1 (ct0_X0_canGather _ _ _ _ _ _ rfl e4) (Nat.le_of_ble_eq_true rfl) (Nat.le_of_ble_eq_true rfl) ?_
  by_cases b5 : t3 = 0
  · rw [if_pos b5] at h
    refine ev_if_eq_t (t := 33) (pc := 19) dX0_collectAt_19 (by decide) b5 ?_
    refine ev_iconst (v := (-1)) (pc := 33) dX0_collectAt_33 ki_m1 ?_
    obtain rfl := Option.some.inj h
    exact ev_iret (pc := 34) dX0_collectAt_34 rfl rfl rfl (hfin _ _)
  · rw [if_neg b5] at h
    refine ev_if_eq_f (t := 33) (pc := 19) dX0_collectAt_19 (by decide) b5 ?_
    obtain ⟨t6, e7, h⟩ := rb_bd h
    refine ev_aload_n (v := 1) (pc := 22) dX0_collectAt_22 rfl ?_
    refine ev_iload_n (v := x0) (pc := 23) dX0_collectAt_23 rfl ?_
    refine ev_iload (v := t1) (pc := 24) dX0_collectAt_24 rfl ?_
    refine ev_iload_n (v := x2) (pc := 26) dX0_collectAt_26 rfl ?_
    refine ev_cVi3w (w' := [(5, t6.2.1), (6, t6.2.2)]) (pc := 27) dX0_collectAt_27 mv_X0_gather lk_RX0_157 rp_1 (ct0_X0_gather _ _ _ _ _ _ _ rfl rfl e7) (Nat.le_of_ble_eq_true rfl) (Nat.le_of_ble_eq_true rfl) rfl ?_
    refine ev_goto (t := 34) (pc := 30) dX0_collectAt_30 (by decide) ?_
    obtain rfl := Option.some.inj h
    exact ev_iret (pc := 34) dX0_collectAt_34 rfl rfl rfl (hfin _ _)
set_option maxHeartbeats 4000000 in
set_option maxRecDepth 20000 in
theorem ct1_X0_collectAt (μ : rb_Mem) (c : rb_Row) (g : rb_Row) (x0 : Int32) (x1 : Int32) (x2 : Int32) (o : Int32 × rb_Row × rb_Row) (hc : μ 11 = c) (hg : μ 12 = g) (h : XX0_collectAt c g x0 x1 x2 = some o) : rb_Ct yX0_collectAt cX0_collectAt 5 (some .int) 7 [.inr 7, .inl x0, .inl x1, .inl x2] μ (some o.1) (rb_ov μ [(11, o.2.1), (12, o.2.2)]) := by
  unfold XX0_collectAt at h
  have hini : rb_ov μ [(11, c), (12, g)] = μ := rb_ov_sf _ _ (And.intro hc (And.intro hg True.intro))
  have hfin : ∀ u0 u1 : rb_Row, rb_ov μ [(11, u0), (12, u1)] = rb_ov μ [(11, u0), (12, u1)] := fun u0 u1 => rfl
  refine rb_cti (w := [(11, c), (12, g)]) rfl pn_0 (Nat.le_of_ble_eq_true rfl) rfl hini ?_
  obtain ⟨t1, e2, h⟩ := rb_bd h
  obtain ⟨t3, e4, h⟩ := rb_bd h
  refine ev_aload_n (v := 7) (pc := 0) dX0_collectAt_0 rfl ?_
  refine ev_getr (q := 8) (pc := 1) dX0_collectAt_1 fl_RX0_20 rfl rfl ?_
  refine ev_iload_n (v := x1) (pc := 4) dX0_collectAt_4 rfl ?_
  refine ev_iconst (v := 4) (pc := 5) dX0_collectAt_5 ki_4 ?_
  refine ev_cVi2 (pc := 6) dX0_collectAt_6 mv_X5_thingOfKind lk_RX0_82 rp_8 (ct1_X5_thingOfKind _ _ _ _ _ rfl e2) (Nat.le_of_ble_eq_true rfl) (Nat.le_of_ble_eq_true rfl) ?_
  refine ev_istore (L' := [some (.inr 7), some (.inl x0), some (.inl x1), some (.inl x2), some (.inl t1)]) (pc := 9) dX0_collectAt_9 (Nat.le_of_ble_eq_true rfl) rfl ?_
  refine ev_aload_n (v := 7) (pc := 11) dX0_collectAt_11 rfl ?_
  refine ev_iload_n (v := x0) (pc := 12) dX0_collectAt_12 rfl ?_
  refine ev_iload (v := t1) (pc := 13) dX0_collectAt_13 rfl ?_
  refine ev_iload_n (v := x2) (pc := 15) dX0_collectAt_15 rfl ?_
  refine ev_cVi3 (pc := 16) dX0_collectAt_16 mv_X0_canGather lk_RX0_184 rp_7 (ct1_X0_canGather _ _ _ _ _ _ rfl e4) (Nat.le_of_ble_eq_true rfl) (Nat.le_of_ble_eq_true rfl) ?_
  by_cases b5 : t3 = 0
  · rw [if_pos b5] at h
    refine ev_if_eq_t (t := 33) (pc := 19) dX0_collectAt_19 (by decide) b5 ?_
    refine ev_iconst (v := (-1)) (pc := 33) dX0_collectAt_33 ki_m1 ?_
    obtain rfl := Option.some.inj h
    exact ev_iret (pc := 34) dX0_collectAt_34 rfl rfl rfl (hfin _ _)
  · rw [if_neg b5] at h
    refine ev_if_eq_f (t := 33) (pc := 19) dX0_collectAt_19 (by decide) b5 ?_
    obtain ⟨t6, e7, h⟩ := rb_bd h
    refine ev_aload_n (v := 7) (pc := 22) dX0_collectAt_22 rfl ?_
    refine ev_iload_n (v := x0) (pc := 23) dX0_collectAt_23 rfl ?_
    refine ev_iload (v := t1) (pc := 24) dX0_collectAt_24 rfl ?_
    refine ev_iload_n (v := x2) (pc := 26) dX0_collectAt_26 rfl ?_
    refine ev_cVi3w (w' := [(11, t6.2.1), (12, t6.2.2)]) (pc := 27) dX0_collectAt_27 mv_X0_gather lk_RX0_157 rp_7 (ct1_X0_gather _ _ _ _ _ _ _ rfl rfl e7) (Nat.le_of_ble_eq_true rfl) (Nat.le_of_ble_eq_true rfl) rfl ?_
    refine ev_goto (t := 34) (pc := 30) dX0_collectAt_30 (by decide) ?_
    obtain rfl := Option.some.inj h
    exact ev_iret (pc := 34) dX0_collectAt_34 rfl rfl rfl (hfin _ _)
def XX0_awaitAt (c : rb_Row) (g : rb_Row) (x0 : Int32) (x1 : Int32) (x2 : Int32) (x3 : Int32) : Option (Int32 × rb_Row × rb_Row) := (XX5_thingOfKind c x1 4).bind fun t1 => (XX0_canGather c x0 t1 x2).bind fun t3 => if t3 = 0 then some ((-1), c, g) else (XX6_between x3 0 1000).bind fun t6 => if t6 = 0 then some ((-1), c, g) else (XX0_gather c g x0 t1 x2).bind fun t9 => if t9.1 = 0 then (XX4_fallAsleep t9.2.1 x0 t1 x2 x3).bind fun t12 => some ((-2), t12, t9.2.2) else some (t9.1, t9.2.1, t9.2.2)
set_option maxHeartbeats 4000000 in
set_option maxRecDepth 20000 in
theorem ct0_X0_awaitAt (μ : rb_Mem) (c : rb_Row) (g : rb_Row) (x0 : Int32) (x1 : Int32) (x2 : Int32) (x3 : Int32) (o : Int32 × rb_Row × rb_Row) (hc : μ 5 = c) (hg : μ 6 = g) (h : XX0_awaitAt c g x0 x1 x2 x3 = some o) : rb_Ct yX0_awaitAt cX0_awaitAt 7 (some .int) 7 [.inr 1, .inl x0, .inl x1, .inl x2, .inl x3] μ (some o.1) (rb_ov μ [(5, o.2.1), (6, o.2.2)]) := by
  unfold XX0_awaitAt at h
  have hini : rb_ov μ [(5, c), (6, g)] = μ := rb_ov_sf _ _ (And.intro hc (And.intro hg True.intro))
  have hfin : ∀ u0 u1 : rb_Row, rb_ov μ [(5, u0), (6, u1)] = rb_ov μ [(5, u0), (6, u1)] := fun u0 u1 => rfl
  refine rb_cti (w := [(5, c), (6, g)]) rfl pn_0 (Nat.le_of_ble_eq_true rfl) rfl hini ?_
  obtain ⟨t1, e2, h⟩ := rb_bd h
  obtain ⟨t3, e4, h⟩ := rb_bd h
  refine ev_aload_n (v := 1) (pc := 0) dX0_awaitAt_0 rfl ?_
  refine ev_getr (q := 2) (pc := 1) dX0_awaitAt_1 fl_RX0_20 rfl rfl ?_
  refine ev_iload_n (v := x1) (pc := 4) dX0_awaitAt_4 rfl ?_
  refine ev_iconst (v := 4) (pc := 5) dX0_awaitAt_5 ki_4 ?_
  refine ev_cVi2 (pc := 6) dX0_awaitAt_6 mv_X5_thingOfKind lk_RX0_82 rp_2 (ct0_X5_thingOfKind _ _ _ _ _ rfl e2) (Nat.le_of_ble_eq_true rfl) (Nat.le_of_ble_eq_true rfl) ?_
  refine ev_istore (L' := [some (.inr 1), some (.inl x0), some (.inl x1), some (.inl x2), some (.inl x3), some (.inl t1), none]) (pc := 9) dX0_awaitAt_9 (Nat.le_of_ble_eq_true rfl) rfl ?_
  refine ev_aload_n (v := 1) (pc := 11) dX0_awaitAt_11 rfl ?_
  refine ev_iload_n (v := x0) (pc := 12) dX0_awaitAt_12 rfl ?_
  refine ev_iload (v := t1) (pc := 13) dX0_awaitAt_13 rfl ?_
  refine ev_iload_n (v := x2) (pc := 15) dX0_awaitAt_15 rfl ?_
  refine ev_cVi3 (pc := 16) dX0_awaitAt_16 mv_X0_canGather lk_RX0_184 rp_1 (ct0_X0_canGather _ _ _ _ _ _ rfl e4) (Nat.le_of_ble_eq_true rfl) (Nat.le_of_ble_eq_true rfl) ?_
  by_cases b5 : t3 = 0
  · rw [if_pos b5] at h
    refine ev_if_eq_t (t := 34) (pc := 19) dX0_awaitAt_19 (by decide) b5 ?_
    refine ev_iconst (v := (-1)) (pc := 34) dX0_awaitAt_34 ki_m1 ?_
    obtain rfl := Option.some.inj h
    exact ev_iret (pc := 35) dX0_awaitAt_35 rfl rfl rfl (hfin _ _)
  · rw [if_neg b5] at h
    refine ev_if_eq_f (t := 34) (pc := 19) dX0_awaitAt_19 (by decide) b5 ?_
    obtain ⟨t6, e7, h⟩ := rb_bd h
    refine ev_iload (v := x3) (pc := 22) dX0_awaitAt_22 rfl ?_
    refine ev_iconst (v := 0) (pc := 24) dX0_awaitAt_24 ki_0 ?_
    refine ev_sipush (v := 1000) (pc := 25) dX0_awaitAt_25 ks_1000 ?_
    refine ev_cSi3 (pc := 28) dX0_awaitAt_28 ms_X6_between lk_RX0_72 (ct_X6_between _ _ _ _ _ e7) (Nat.le_of_ble_eq_true rfl) (Nat.le_of_ble_eq_true rfl) ?_
    by_cases b8 : t6 = 0
    · rw [if_pos b8] at h
      refine ev_if_ne_f (t := 36) (pc := 31) dX0_awaitAt_31 (by decide) b8 ?_
      refine ev_iconst (v := (-1)) (pc := 34) dX0_awaitAt_34 ki_m1 ?_
      obtain rfl := Option.some.inj h
      exact ev_iret (pc := 35) dX0_awaitAt_35 rfl rfl rfl (hfin _ _)
    · rw [if_neg b8] at h
      refine ev_if_ne_t (t := 36) (pc := 31) dX0_awaitAt_31 (by decide) b8 ?_
      obtain ⟨t9, e10, h⟩ := rb_bd h
      refine ev_aload_n (v := 1) (pc := 36) dX0_awaitAt_36 rfl ?_
      refine ev_iload_n (v := x0) (pc := 37) dX0_awaitAt_37 rfl ?_
      refine ev_iload (v := t1) (pc := 38) dX0_awaitAt_38 rfl ?_
      refine ev_iload_n (v := x2) (pc := 40) dX0_awaitAt_40 rfl ?_
      refine ev_cVi3w (w' := [(5, t9.2.1), (6, t9.2.2)]) (pc := 41) dX0_awaitAt_41 mv_X0_gather lk_RX0_157 rp_1 (ct0_X0_gather _ _ _ _ _ _ _ rfl rfl e10) (Nat.le_of_ble_eq_true rfl) (Nat.le_of_ble_eq_true rfl) rfl ?_
      refine ev_istore (L' := [some (.inr 1), some (.inl x0), some (.inl x1), some (.inl x2), some (.inl x3), some (.inl t1), some (.inl t9.1)]) (pc := 44) dX0_awaitAt_44 (Nat.le_of_ble_eq_true rfl) rfl ?_
      refine ev_iload (v := t9.1) (pc := 46) dX0_awaitAt_46 rfl ?_
      by_cases b11 : t9.1 = 0
      · rw [if_pos b11] at h
        refine ev_if_ne_f (t := 67) (pc := 48) dX0_awaitAt_48 (by decide) b11 ?_
        obtain ⟨t12, e13, h⟩ := rb_bd h
        refine ev_aload_n (v := 1) (pc := 51) dX0_awaitAt_51 rfl ?_
        refine ev_getr (q := 4) (pc := 52) dX0_awaitAt_52 fl_RX0_34 rfl rfl ?_
        refine ev_iload_n (v := x0) (pc := 55) dX0_awaitAt_55 rfl ?_
        refine ev_iload (v := t1) (pc := 56) dX0_awaitAt_56 rfl ?_
        refine ev_iload_n (v := x2) (pc := 58) dX0_awaitAt_58 rfl ?_
        refine ev_iload (v := x3) (pc := 59) dX0_awaitAt_59 rfl ?_
        refine ev_cVv4w (w' := [(5, t12), (6, t9.2.2)]) (pc := 61) dX0_awaitAt_61 mv_X4_fallAsleep lk_RX0_187 rp_4 (ct0_X4_fallAsleep _ _ _ _ _ _ _ rfl e13) (Nat.le_of_ble_eq_true rfl) (Nat.le_of_ble_eq_true rfl) rfl ?_
        refine ev_bipush (v := (-2)) (pc := 64) dX0_awaitAt_64 kb_m2 ?_
        obtain rfl := Option.some.inj h
        exact ev_iret (pc := 66) dX0_awaitAt_66 rfl rfl rfl (hfin _ _)
      · rw [if_neg b11] at h
        refine ev_if_ne_t (t := 67) (pc := 48) dX0_awaitAt_48 (by decide) b11 ?_
        refine ev_iload (v := t9.1) (pc := 67) dX0_awaitAt_67 rfl ?_
        obtain rfl := Option.some.inj h
        exact ev_iret (pc := 69) dX0_awaitAt_69 rfl rfl rfl (hfin _ _)
set_option maxHeartbeats 4000000 in
set_option maxRecDepth 20000 in
theorem ct1_X0_awaitAt (μ : rb_Mem) (c : rb_Row) (g : rb_Row) (x0 : Int32) (x1 : Int32) (x2 : Int32) (x3 : Int32) (o : Int32 × rb_Row × rb_Row) (hc : μ 11 = c) (hg : μ 12 = g) (h : XX0_awaitAt c g x0 x1 x2 x3 = some o) : rb_Ct yX0_awaitAt cX0_awaitAt 7 (some .int) 7 [.inr 7, .inl x0, .inl x1, .inl x2, .inl x3] μ (some o.1) (rb_ov μ [(11, o.2.1), (12, o.2.2)]) := by
  unfold XX0_awaitAt at h
  have hini : rb_ov μ [(11, c), (12, g)] = μ := rb_ov_sf _ _ (And.intro hc (And.intro hg True.intro))
  have hfin : ∀ u0 u1 : rb_Row, rb_ov μ [(11, u0), (12, u1)] = rb_ov μ [(11, u0), (12, u1)] := fun u0 u1 => rfl
  refine rb_cti (w := [(11, c), (12, g)]) rfl pn_0 (Nat.le_of_ble_eq_true rfl) rfl hini ?_
  obtain ⟨t1, e2, h⟩ := rb_bd h
  obtain ⟨t3, e4, h⟩ := rb_bd h
  refine ev_aload_n (v := 7) (pc := 0) dX0_awaitAt_0 rfl ?_
  refine ev_getr (q := 8) (pc := 1) dX0_awaitAt_1 fl_RX0_20 rfl rfl ?_
  refine ev_iload_n (v := x1) (pc := 4) dX0_awaitAt_4 rfl ?_
  refine ev_iconst (v := 4) (pc := 5) dX0_awaitAt_5 ki_4 ?_
  refine ev_cVi2 (pc := 6) dX0_awaitAt_6 mv_X5_thingOfKind lk_RX0_82 rp_8 (ct1_X5_thingOfKind _ _ _ _ _ rfl e2) (Nat.le_of_ble_eq_true rfl) (Nat.le_of_ble_eq_true rfl) ?_
  refine ev_istore (L' := [some (.inr 7), some (.inl x0), some (.inl x1), some (.inl x2), some (.inl x3), some (.inl t1), none]) (pc := 9) dX0_awaitAt_9 (Nat.le_of_ble_eq_true rfl) rfl ?_
  refine ev_aload_n (v := 7) (pc := 11) dX0_awaitAt_11 rfl ?_
  refine ev_iload_n (v := x0) (pc := 12) dX0_awaitAt_12 rfl ?_
  refine ev_iload (v := t1) (pc := 13) dX0_awaitAt_13 rfl ?_
  refine ev_iload_n (v := x2) (pc := 15) dX0_awaitAt_15 rfl ?_
  refine ev_cVi3 (pc := 16) dX0_awaitAt_16 mv_X0_canGather lk_RX0_184 rp_7 (ct1_X0_canGather _ _ _ _ _ _ rfl e4) (Nat.le_of_ble_eq_true rfl) (Nat.le_of_ble_eq_true rfl) ?_
  by_cases b5 : t3 = 0
  · rw [if_pos b5] at h
    refine ev_if_eq_t (t := 34) (pc := 19) dX0_awaitAt_19 (by decide) b5 ?_
    refine ev_iconst (v := (-1)) (pc := 34) dX0_awaitAt_34 ki_m1 ?_
    obtain rfl := Option.some.inj h
    exact ev_iret (pc := 35) dX0_awaitAt_35 rfl rfl rfl (hfin _ _)
  · rw [if_neg b5] at h
    refine ev_if_eq_f (t := 34) (pc := 19) dX0_awaitAt_19 (by decide) b5 ?_
    obtain ⟨t6, e7, h⟩ := rb_bd h
    refine ev_iload (v := x3) (pc := 22) dX0_awaitAt_22 rfl ?_
    refine ev_iconst (v := 0) (pc := 24) dX0_awaitAt_24 ki_0 ?_
    refine ev_sipush (v := 1000) (pc := 25) dX0_awaitAt_25 ks_1000 ?_
    refine ev_cSi3 (pc := 28) dX0_awaitAt_28 ms_X6_between lk_RX0_72 (ct_X6_between _ _ _ _ _ e7) (Nat.le_of_ble_eq_true rfl) (Nat.le_of_ble_eq_true rfl) ?_
    by_cases b8 : t6 = 0
    · rw [if_pos b8] at h
      refine ev_if_ne_f (t := 36) (pc := 31) dX0_awaitAt_31 (by decide) b8 ?_
      refine ev_iconst (v := (-1)) (pc := 34) dX0_awaitAt_34 ki_m1 ?_
      obtain rfl := Option.some.inj h
      exact ev_iret (pc := 35) dX0_awaitAt_35 rfl rfl rfl (hfin _ _)
    · rw [if_neg b8] at h
      refine ev_if_ne_t (t := 36) (pc := 31) dX0_awaitAt_31 (by decide) b8 ?_
      obtain ⟨t9, e10, h⟩ := rb_bd h
      refine ev_aload_n (v := 7) (pc := 36) dX0_awaitAt_36 rfl ?_
      refine ev_iload_n (v := x0) (pc := 37) dX0_awaitAt_37 rfl ?_
      refine ev_iload (v := t1) (pc := 38) dX0_awaitAt_38 rfl ?_
      refine ev_iload_n (v := x2) (pc := 40) dX0_awaitAt_40 rfl ?_
      refine ev_cVi3w (w' := [(11, t9.2.1), (12, t9.2.2)]) (pc := 41) dX0_awaitAt_41 mv_X0_gather lk_RX0_157 rp_7 (ct1_X0_gather _ _ _ _ _ _ _ rfl rfl e10) (Nat.le_of_ble_eq_true rfl) (Nat.le_of_ble_eq_true rfl) rfl ?_
      refine ev_istore (L' := [some (.inr 7), some (.inl x0), some (.inl x1), some (.inl x2), some (.inl x3), some (.inl t1), some (.inl t9.1)]) (pc := 44) dX0_awaitAt_44 (Nat.le_of_ble_eq_true rfl) rfl ?_
      refine ev_iload (v := t9.1) (pc := 46) dX0_awaitAt_46 rfl ?_
      by_cases b11 : t9.1 = 0
      · rw [if_pos b11] at h
        refine ev_if_ne_f (t := 67) (pc := 48) dX0_awaitAt_48 (by decide) b11 ?_
        obtain ⟨t12, e13, h⟩ := rb_bd h
        refine ev_aload_n (v := 7) (pc := 51) dX0_awaitAt_51 rfl ?_
        refine ev_getr (q := 10) (pc := 52) dX0_awaitAt_52 fl_RX0_34 rfl rfl ?_
        refine ev_iload_n (v := x0) (pc := 55) dX0_awaitAt_55 rfl ?_
        refine ev_iload (v := t1) (pc := 56) dX0_awaitAt_56 rfl ?_
        refine ev_iload_n (v := x2) (pc := 58) dX0_awaitAt_58 rfl ?_
        refine ev_iload (v := x3) (pc := 59) dX0_awaitAt_59 rfl ?_
        refine ev_cVv4w (w' := [(11, t12), (12, t9.2.2)]) (pc := 61) dX0_awaitAt_61 mv_X4_fallAsleep lk_RX0_187 rp_10 (ct1_X4_fallAsleep _ _ _ _ _ _ _ rfl e13) (Nat.le_of_ble_eq_true rfl) (Nat.le_of_ble_eq_true rfl) rfl ?_
        refine ev_bipush (v := (-2)) (pc := 64) dX0_awaitAt_64 kb_m2 ?_
        obtain rfl := Option.some.inj h
        exact ev_iret (pc := 66) dX0_awaitAt_66 rfl rfl rfl (hfin _ _)
      · rw [if_neg b11] at h
        refine ev_if_ne_t (t := 67) (pc := 48) dX0_awaitAt_48 (by decide) b11 ?_
        refine ev_iload (v := t9.1) (pc := 67) dX0_awaitAt_67 rfl ?_
        obtain rfl := Option.some.inj h
        exact ev_iret (pc := 69) dX0_awaitAt_69 rfl rfl rfl (hfin _ _)
def XX0_doStep (c : rb_Row) (g : rb_Row) (f : rb_Row) (x0 : Int32) : Option (Int32 × rb_Row × rb_Row × rb_Row) := (rb_rd c 773 (605 + (x0 * 4))).bind fun v1 => (rb_rd c 773 (629 + (x0 * 4))).bind fun v3 => (rb_rd c 773 (653 + (x0 * 4))).bind fun v5 => (XX4_turnProgram c x0).bind fun t7 => if v1 = 0 then (XX0_writeTo t7 g f v3 v5).bind fun t10 => some (t10.1, t10.2.1, t10.2.2.1, t10.2.2.2) else if v1 = 1 then (XX0_readFrom t7 g f v3 v5).bind fun t13 => some (t13.1, t13.2.1, t13.2.2.1, t13.2.2.2) else if v1 = 2 then (XX0_collectAt t7 g x0 v3 v5).bind fun t16 => some (t16.1, t16.2.1, t16.2.2, f) else if v1 = 3 then (XX0_awaitAt t7 g x0 v3 v5 0).bind fun t19 => some (t19.1, t19.2.1, t19.2.2, f) else if v1 = 4 then (XX0_closeHandle t7 g f v3).bind fun t22 => if t22.1 = 0 then some (0, t22.2.1, t22.2.2.1, t22.2.2.2) else some (1, t22.2.1, t22.2.2.1, t22.2.2.2) else if v1 = 5 then (XX0_findInterest t7 v3 v5).bind fun t26 => (XX0_armInterest t7 g f t26).bind fun t28 => if t28.1 = 0 then some (0, t28.2.1, t28.2.2.1, t28.2.2.2) else some (1, t28.2.1, t28.2.2.1, t28.2.2.2) else if v1 = 6 then (XX0_acceptFrom t7 v3).bind fun t32 => some (t32.1, t32.2, g, f) else if v1 = 7 then (XX0_connectTo t7 g f v3).bind fun t35 => some (t35.1, t35.2.1, t35.2.2.1, t35.2.2.2) else some ((-1), t7, g, f)
set_option maxHeartbeats 4000000 in
set_option maxRecDepth 20000 in
theorem ct0_X0_doStep (μ : rb_Mem) (c : rb_Row) (g : rb_Row) (f : rb_Row) (x0 : Int32) (o : Int32 × rb_Row × rb_Row × rb_Row) (hc : μ 5 = c) (hg : μ 6 = g) (hf : μ 1 = f) (h : XX0_doStep c g f x0 = some o) : rb_Ct yX0_doStep cX0_doStep 6 (some .int) 16 [.inr 1, .inl x0] μ (some o.1) (rb_ov μ [(5, o.2.1), (6, o.2.2.1), (1, o.2.2.2)]) := by
  unfold XX0_doStep at h
  have hini : rb_ov μ [(5, c), (6, g), (1, f)] = μ := rb_ov_sf _ _ (And.intro hc (And.intro hg (And.intro hf True.intro)))
  have hfin : ∀ u0 u1 u2 : rb_Row, rb_ov μ [(5, u0), (6, u1), (1, u2)] = rb_ov μ [(5, u0), (6, u1), (1, u2)] := fun u0 u1 u2 => rfl
  refine rb_cti (w := [(5, c), (6, g), (1, f)]) rfl pn_0 (Nat.le_of_ble_eq_true rfl) rfl hini ?_
  obtain ⟨v1, e2, h⟩ := rb_bd h
  obtain ⟨v3, e4, h⟩ := rb_bd h
  obtain ⟨v5, e6, h⟩ := rb_bd h
  obtain ⟨t7, e8, h⟩ := rb_bd h
  refine ev_iload_n (v := x0) (pc := 0) dX0_doStep_0 rfl ?_
  refine ev_iconst (v := 4) (pc := 1) dX0_doStep_1 ki_4 ?_
  refine ev_imul (pc := 2) dX0_doStep_2 ?_
  refine ev_istore_n (L' := [some (.inr 1), some (.inl x0), some (.inl (x0 * 4)), none, none, none]) (pc := 3) dX0_doStep_3 (Nat.le_of_ble_eq_true rfl) rfl ?_
  refine ev_aload_n (v := 1) (pc := 4) dX0_doStep_4 rfl ?_
  refine ev_getr (q := 5) (pc := 5) dX0_doStep_5 fl_RX0_9 rfl rfl ?_
  refine ev_sipush (v := 605) (pc := 8) dX0_doStep_8 ks_605 ?_
  refine ev_iload_n (v := (x0 * 4)) (pc := 11) dX0_doStep_11 rfl ?_
  refine ev_iadd (pc := 12) dX0_doStep_12 ?_
  refine ev_iald (pc := 13) dX0_doStep_13 rfl e2 ?_
  refine ev_istore_n (L' := [some (.inr 1), some (.inl x0), some (.inl (x0 * 4)), some (.inl v1), none, none]) (pc := 14) dX0_doStep_14 (Nat.le_of_ble_eq_true rfl) rfl ?_
  refine ev_aload_n (v := 1) (pc := 15) dX0_doStep_15 rfl ?_
  refine ev_getr (q := 5) (pc := 16) dX0_doStep_16 fl_RX0_9 rfl rfl ?_
  refine ev_sipush (v := 629) (pc := 19) dX0_doStep_19 ks_629 ?_
  refine ev_iload_n (v := (x0 * 4)) (pc := 22) dX0_doStep_22 rfl ?_
  refine ev_iadd (pc := 23) dX0_doStep_23 ?_
  refine ev_iald (pc := 24) dX0_doStep_24 rfl e4 ?_
  refine ev_istore (L' := [some (.inr 1), some (.inl x0), some (.inl (x0 * 4)), some (.inl v1), some (.inl v3), none]) (pc := 25) dX0_doStep_25 (Nat.le_of_ble_eq_true rfl) rfl ?_
  refine ev_aload_n (v := 1) (pc := 27) dX0_doStep_27 rfl ?_
  refine ev_getr (q := 5) (pc := 28) dX0_doStep_28 fl_RX0_9 rfl rfl ?_
  refine ev_sipush (v := 653) (pc := 31) dX0_doStep_31 ks_653 ?_
  refine ev_iload_n (v := (x0 * 4)) (pc := 34) dX0_doStep_34 rfl ?_
  refine ev_iadd (pc := 35) dX0_doStep_35 ?_
  refine ev_iald (pc := 36) dX0_doStep_36 rfl e6 ?_
  refine ev_istore (L' := [some (.inr 1), some (.inl x0), some (.inl (x0 * 4)), some (.inl v1), some (.inl v3), some (.inl v5)]) (pc := 37) dX0_doStep_37 (Nat.le_of_ble_eq_true rfl) rfl ?_
  refine ev_aload_n (v := 1) (pc := 39) dX0_doStep_39 rfl ?_
  refine ev_getr (q := 4) (pc := 40) dX0_doStep_40 fl_RX0_34 rfl rfl ?_
  refine ev_iload_n (v := x0) (pc := 43) dX0_doStep_43 rfl ?_
  refine ev_cVv1w (w' := [(5, t7), (6, g), (1, f)]) (pc := 44) dX0_doStep_44 mv_X4_turnProgram lk_RX0_197 rp_4 (ct0_X4_turnProgram _ _ _ _ rfl e8) (Nat.le_of_ble_eq_true rfl) (Nat.le_of_ble_eq_true rfl) rfl ?_
  refine ev_iload_n (v := v1) (pc := 47) dX0_doStep_47 rfl ?_
  by_cases b9 : v1 = 0
  · rw [if_pos b9] at h
    refine ev_tsIn (t := 96) (off := 48) (pc := 48) dX0_doStep_48 (by rw [b9]; decide) (by rw [b9]; decide) (by rw [b9]; decide) (by decide) ?_
    obtain ⟨t10, e11, h⟩ := rb_bd h
    refine ev_aload_n (v := 1) (pc := 96) dX0_doStep_96 rfl ?_
    refine ev_iload (v := v3) (pc := 97) dX0_doStep_97 rfl ?_
    refine ev_iload (v := v5) (pc := 99) dX0_doStep_99 rfl ?_
    refine ev_cVi2w (w' := [(5, t10.2.1), (6, t10.2.2.1), (1, t10.2.2.2)]) (pc := 101) dX0_doStep_101 mv_X0_writeTo lk_RX0_200 rp_1 (ct0_X0_writeTo _ _ _ _ _ _ _ rfl rfl rfl e11) (Nat.le_of_ble_eq_true rfl) (Nat.le_of_ble_eq_true rfl) rfl ?_
    obtain rfl := Option.some.inj h
    exact ev_iret (pc := 104) dX0_doStep_104 rfl rfl rfl (hfin _ _ _)
  · rw [if_neg b9] at h
    by_cases b12 : v1 = 1
    · rw [if_pos b12] at h
      refine ev_tsIn (t := 105) (off := 57) (pc := 48) dX0_doStep_48 (by rw [b12]; decide) (by rw [b12]; decide) (by rw [b12]; decide) (by decide) ?_
      obtain ⟨t13, e14, h⟩ := rb_bd h
      refine ev_aload_n (v := 1) (pc := 105) dX0_doStep_105 rfl ?_
      refine ev_iload (v := v3) (pc := 106) dX0_doStep_106 rfl ?_
      refine ev_iload (v := v5) (pc := 108) dX0_doStep_108 rfl ?_
      refine ev_cVi2w (w' := [(5, t13.2.1), (6, t13.2.2.1), (1, t13.2.2.2)]) (pc := 110) dX0_doStep_110 mv_X0_readFrom lk_RX0_203 rp_1 (ct0_X0_readFrom _ _ _ _ _ _ _ rfl rfl rfl e14) (Nat.le_of_ble_eq_true rfl) (Nat.le_of_ble_eq_true rfl) rfl ?_
      obtain rfl := Option.some.inj h
      exact ev_iret (pc := 113) dX0_doStep_113 rfl rfl rfl (hfin _ _ _)
    · rw [if_neg b12] at h
      by_cases b15 : v1 = 2
      · rw [if_pos b15] at h
        refine ev_tsIn (t := 114) (off := 66) (pc := 48) dX0_doStep_48 (by rw [b15]; decide) (by rw [b15]; decide) (by rw [b15]; decide) (by decide) ?_
        obtain ⟨t16, e17, h⟩ := rb_bd h
        refine ev_aload_n (v := 1) (pc := 114) dX0_doStep_114 rfl ?_
        refine ev_iload_n (v := x0) (pc := 115) dX0_doStep_115 rfl ?_
        refine ev_iload (v := v3) (pc := 116) dX0_doStep_116 rfl ?_
        refine ev_iload (v := v5) (pc := 118) dX0_doStep_118 rfl ?_
        refine ev_cVi3w (w' := [(5, t16.2.1), (6, t16.2.2), (1, f)]) (pc := 120) dX0_doStep_120 mv_X0_collectAt lk_RX0_206 rp_1 (ct0_X0_collectAt _ _ _ _ _ _ _ rfl rfl e17) (Nat.le_of_ble_eq_true rfl) (Nat.le_of_ble_eq_true rfl) rfl ?_
        obtain rfl := Option.some.inj h
        exact ev_iret (pc := 123) dX0_doStep_123 rfl rfl rfl (hfin _ _ _)
      · rw [if_neg b15] at h
        by_cases b18 : v1 = 3
        · rw [if_pos b18] at h
          refine ev_tsIn (t := 124) (off := 76) (pc := 48) dX0_doStep_48 (by rw [b18]; decide) (by rw [b18]; decide) (by rw [b18]; decide) (by decide) ?_
          obtain ⟨t19, e20, h⟩ := rb_bd h
          refine ev_aload_n (v := 1) (pc := 124) dX0_doStep_124 rfl ?_
          refine ev_iload_n (v := x0) (pc := 125) dX0_doStep_125 rfl ?_
          refine ev_iload (v := v3) (pc := 126) dX0_doStep_126 rfl ?_
          refine ev_iload (v := v5) (pc := 128) dX0_doStep_128 rfl ?_
          refine ev_iconst (v := 0) (pc := 130) dX0_doStep_130 ki_0 ?_
          refine ev_cVi4w (w' := [(5, t19.2.1), (6, t19.2.2), (1, f)]) (pc := 131) dX0_doStep_131 mv_X0_awaitAt lk_RX0_209 rp_1 (ct0_X0_awaitAt _ _ _ _ _ _ _ _ rfl rfl e20) (Nat.le_of_ble_eq_true rfl) (Nat.le_of_ble_eq_true rfl) rfl ?_
          obtain rfl := Option.some.inj h
          exact ev_iret (pc := 134) dX0_doStep_134 rfl rfl rfl (hfin _ _ _)
        · rw [if_neg b18] at h
          by_cases b21 : v1 = 4
          · rw [if_pos b21] at h
            refine ev_tsIn (t := 135) (off := 87) (pc := 48) dX0_doStep_48 (by rw [b21]; decide) (by rw [b21]; decide) (by rw [b21]; decide) (by decide) ?_
            obtain ⟨t22, e23, h⟩ := rb_bd h
            refine ev_aload_n (v := 1) (pc := 135) dX0_doStep_135 rfl ?_
            refine ev_iload (v := v3) (pc := 136) dX0_doStep_136 rfl ?_
            refine ev_cVi1w (w' := [(5, t22.2.1), (6, t22.2.2.1), (1, t22.2.2.2)]) (pc := 138) dX0_doStep_138 mv_X0_closeHandle lk_RX0_213 rp_1 (ct0_X0_closeHandle _ _ _ _ _ _ rfl rfl rfl e23) (Nat.le_of_ble_eq_true rfl) (Nat.le_of_ble_eq_true rfl) rfl ?_
            by_cases b24 : t22.1 = 0
            · rw [if_pos b24] at h
              refine ev_if_eq_t (t := 148) (pc := 141) dX0_doStep_141 (by decide) b24 ?_
              refine ev_iconst (v := 0) (pc := 148) dX0_doStep_148 ki_0 ?_
              obtain rfl := Option.some.inj h
              exact ev_iret (pc := 149) dX0_doStep_149 rfl rfl rfl (hfin _ _ _)
            · rw [if_neg b24] at h
              refine ev_if_eq_f (t := 148) (pc := 141) dX0_doStep_141 (by decide) b24 ?_
              refine ev_iconst (v := 1) (pc := 144) dX0_doStep_144 ki_1 ?_
              refine ev_goto (t := 149) (pc := 145) dX0_doStep_145 (by decide) ?_
              obtain rfl := Option.some.inj h
              exact ev_iret (pc := 149) dX0_doStep_149 rfl rfl rfl (hfin _ _ _)
          · rw [if_neg b21] at h
            by_cases b25 : v1 = 5
            · rw [if_pos b25] at h
              refine ev_tsIn (t := 150) (off := 102) (pc := 48) dX0_doStep_48 (by rw [b25]; decide) (by rw [b25]; decide) (by rw [b25]; decide) (by decide) ?_
              obtain ⟨t26, e27, h⟩ := rb_bd h
              obtain ⟨t28, e29, h⟩ := rb_bd h
              refine ev_aload_n (v := 1) (pc := 150) dX0_doStep_150 rfl ?_
              refine ev_aload_n (v := 1) (pc := 151) dX0_doStep_151 rfl ?_
              refine ev_iload (v := v3) (pc := 152) dX0_doStep_152 rfl ?_
              refine ev_iload (v := v5) (pc := 154) dX0_doStep_154 rfl ?_
              refine ev_cVi2 (pc := 156) dX0_doStep_156 mv_X0_findInterest lk_RX0_216 rp_1 (ct0_X0_findInterest _ _ _ _ _ rfl e27) (Nat.le_of_ble_eq_true rfl) (Nat.le_of_ble_eq_true rfl) ?_
              refine ev_cVi1w (w' := [(5, t28.2.1), (6, t28.2.2.1), (1, t28.2.2.2)]) (pc := 159) dX0_doStep_159 mv_X0_armInterest lk_RX0_134 rp_1 (ct0_X0_armInterest _ _ _ _ _ _ rfl rfl rfl e29) (Nat.le_of_ble_eq_true rfl) (Nat.le_of_ble_eq_true rfl) rfl ?_
              by_cases b30 : t28.1 = 0
              · rw [if_pos b30] at h
                refine ev_if_eq_t (t := 169) (pc := 162) dX0_doStep_162 (by decide) b30 ?_
                refine ev_iconst (v := 0) (pc := 169) dX0_doStep_169 ki_0 ?_
                obtain rfl := Option.some.inj h
                exact ev_iret (pc := 170) dX0_doStep_170 rfl rfl rfl (hfin _ _ _)
              · rw [if_neg b30] at h
                refine ev_if_eq_f (t := 169) (pc := 162) dX0_doStep_162 (by decide) b30 ?_
                refine ev_iconst (v := 1) (pc := 165) dX0_doStep_165 ki_1 ?_
                refine ev_goto (t := 170) (pc := 166) dX0_doStep_166 (by decide) ?_
                obtain rfl := Option.some.inj h
                exact ev_iret (pc := 170) dX0_doStep_170 rfl rfl rfl (hfin _ _ _)
            · rw [if_neg b25] at h
              by_cases b31 : v1 = 6
              · rw [if_pos b31] at h
                refine ev_tsIn (t := 171) (off := 123) (pc := 48) dX0_doStep_48 (by rw [b31]; decide) (by rw [b31]; decide) (by rw [b31]; decide) (by decide) ?_
                obtain ⟨t32, e33, h⟩ := rb_bd h
                refine ev_aload_n (v := 1) (pc := 171) dX0_doStep_171 rfl ?_
                refine ev_iload (v := v3) (pc := 172) dX0_doStep_172 rfl ?_
                refine ev_cVi1w (w' := [(5, t32.2), (6, g), (1, f)]) (pc := 174) dX0_doStep_174 mv_X0_acceptFrom lk_RX0_219 rp_1 (ct0_X0_acceptFrom _ _ _ _ rfl e33) (Nat.le_of_ble_eq_true rfl) (Nat.le_of_ble_eq_true rfl) rfl ?_
                obtain rfl := Option.some.inj h
                exact ev_iret (pc := 177) dX0_doStep_177 rfl rfl rfl (hfin _ _ _)
              · rw [if_neg b31] at h
                by_cases b34 : v1 = 7
                · rw [if_pos b34] at h
                  refine ev_tsIn (t := 178) (off := 130) (pc := 48) dX0_doStep_48 (by rw [b34]; decide) (by rw [b34]; decide) (by rw [b34]; decide) (by decide) ?_
                  obtain ⟨t35, e36, h⟩ := rb_bd h
                  refine ev_aload_n (v := 1) (pc := 178) dX0_doStep_178 rfl ?_
                  refine ev_iload (v := v3) (pc := 179) dX0_doStep_179 rfl ?_
                  refine ev_cVi1w (w' := [(5, t35.2.1), (6, t35.2.2.1), (1, t35.2.2.2)]) (pc := 181) dX0_doStep_181 mv_X0_connectTo lk_RX0_222 rp_1 (ct0_X0_connectTo _ _ _ _ _ _ rfl rfl rfl e36) (Nat.le_of_ble_eq_true rfl) (Nat.le_of_ble_eq_true rfl) rfl ?_
                  obtain rfl := Option.some.inj h
                  exact ev_iret (pc := 184) dX0_doStep_184 rfl rfl rfl (hfin _ _ _)
                · rw [if_neg b34] at h
                  refine ev_tsOut (t := 185) (pc := 48) dX0_doStep_48 (rb_tsS (k := 7) (by decide) b34 (rb_tsS (k := 6) (by decide) b31 (rb_tsS (k := 5) (by decide) b25 (rb_tsS (k := 4) (by decide) b21 (rb_tsS (k := 3) (by decide) b18 (rb_tsS (k := 2) (by decide) b15 (rb_tsS (k := 1) (by decide) b12 (rb_tsS (k := 0) (by decide) b9 (rb_ts0 _))))))))) (by decide) ?_
                  refine ev_iconst (v := (-1)) (pc := 185) dX0_doStep_185 ki_m1 ?_
                  obtain rfl := Option.some.inj h
                  exact ev_iret (pc := 186) dX0_doStep_186 rfl rfl rfl (hfin _ _ _)
set_option maxHeartbeats 4000000 in
set_option maxRecDepth 20000 in
theorem ct1_X0_doStep (μ : rb_Mem) (c : rb_Row) (g : rb_Row) (f : rb_Row) (x0 : Int32) (o : Int32 × rb_Row × rb_Row × rb_Row) (hc : μ 11 = c) (hg : μ 12 = g) (hf : μ 7 = f) (h : XX0_doStep c g f x0 = some o) : rb_Ct yX0_doStep cX0_doStep 6 (some .int) 16 [.inr 7, .inl x0] μ (some o.1) (rb_ov μ [(11, o.2.1), (12, o.2.2.1), (7, o.2.2.2)]) := by
  unfold XX0_doStep at h
  have hini : rb_ov μ [(11, c), (12, g), (7, f)] = μ := rb_ov_sf _ _ (And.intro hc (And.intro hg (And.intro hf True.intro)))
  have hfin : ∀ u0 u1 u2 : rb_Row, rb_ov μ [(11, u0), (12, u1), (7, u2)] = rb_ov μ [(11, u0), (12, u1), (7, u2)] := fun u0 u1 u2 => rfl
  refine rb_cti (w := [(11, c), (12, g), (7, f)]) rfl pn_0 (Nat.le_of_ble_eq_true rfl) rfl hini ?_
  obtain ⟨v1, e2, h⟩ := rb_bd h
  obtain ⟨v3, e4, h⟩ := rb_bd h
  obtain ⟨v5, e6, h⟩ := rb_bd h
  obtain ⟨t7, e8, h⟩ := rb_bd h
  refine ev_iload_n (v := x0) (pc := 0) dX0_doStep_0 rfl ?_
  refine ev_iconst (v := 4) (pc := 1) dX0_doStep_1 ki_4 ?_
  refine ev_imul (pc := 2) dX0_doStep_2 ?_
  refine ev_istore_n (L' := [some (.inr 7), some (.inl x0), some (.inl (x0 * 4)), none, none, none]) (pc := 3) dX0_doStep_3 (Nat.le_of_ble_eq_true rfl) rfl ?_
  refine ev_aload_n (v := 7) (pc := 4) dX0_doStep_4 rfl ?_
  refine ev_getr (q := 11) (pc := 5) dX0_doStep_5 fl_RX0_9 rfl rfl ?_
  refine ev_sipush (v := 605) (pc := 8) dX0_doStep_8 ks_605 ?_
  refine ev_iload_n (v := (x0 * 4)) (pc := 11) dX0_doStep_11 rfl ?_
  refine ev_iadd (pc := 12) dX0_doStep_12 ?_
  refine ev_iald (pc := 13) dX0_doStep_13 rfl e2 ?_
  refine ev_istore_n (L' := [some (.inr 7), some (.inl x0), some (.inl (x0 * 4)), some (.inl v1), none, none]) (pc := 14) dX0_doStep_14 (Nat.le_of_ble_eq_true rfl) rfl ?_
  refine ev_aload_n (v := 7) (pc := 15) dX0_doStep_15 rfl ?_
  refine ev_getr (q := 11) (pc := 16) dX0_doStep_16 fl_RX0_9 rfl rfl ?_
  refine ev_sipush (v := 629) (pc := 19) dX0_doStep_19 ks_629 ?_
  refine ev_iload_n (v := (x0 * 4)) (pc := 22) dX0_doStep_22 rfl ?_
  refine ev_iadd (pc := 23) dX0_doStep_23 ?_
  refine ev_iald (pc := 24) dX0_doStep_24 rfl e4 ?_
  refine ev_istore (L' := [some (.inr 7), some (.inl x0), some (.inl (x0 * 4)), some (.inl v1), some (.inl v3), none]) (pc := 25) dX0_doStep_25 (Nat.le_of_ble_eq_true rfl) rfl ?_
  refine ev_aload_n (v := 7) (pc := 27) dX0_doStep_27 rfl ?_
  refine ev_getr (q := 11) (pc := 28) dX0_doStep_28 fl_RX0_9 rfl rfl ?_
  refine ev_sipush (v := 653) (pc := 31) dX0_doStep_31 ks_653 ?_
  refine ev_iload_n (v := (x0 * 4)) (pc := 34) dX0_doStep_34 rfl ?_
  refine ev_iadd (pc := 35) dX0_doStep_35 ?_
  refine ev_iald (pc := 36) dX0_doStep_36 rfl e6 ?_
  refine ev_istore (L' := [some (.inr 7), some (.inl x0), some (.inl (x0 * 4)), some (.inl v1), some (.inl v3), some (.inl v5)]) (pc := 37) dX0_doStep_37 (Nat.le_of_ble_eq_true rfl) rfl ?_
  refine ev_aload_n (v := 7) (pc := 39) dX0_doStep_39 rfl ?_
  refine ev_getr (q := 10) (pc := 40) dX0_doStep_40 fl_RX0_34 rfl rfl ?_
  refine ev_iload_n (v := x0) (pc := 43) dX0_doStep_43 rfl ?_
  refine ev_cVv1w (w' := [(11, t7), (12, g), (7, f)]) (pc := 44) dX0_doStep_44 mv_X4_turnProgram lk_RX0_197 rp_10 (ct1_X4_turnProgram _ _ _ _ rfl e8) (Nat.le_of_ble_eq_true rfl) (Nat.le_of_ble_eq_true rfl) rfl ?_
  refine ev_iload_n (v := v1) (pc := 47) dX0_doStep_47 rfl ?_
  by_cases b9 : v1 = 0
  · rw [if_pos b9] at h
    refine ev_tsIn (t := 96) (off := 48) (pc := 48) dX0_doStep_48 (by rw [b9]; decide) (by rw [b9]; decide) (by rw [b9]; decide) (by decide) ?_
    obtain ⟨t10, e11, h⟩ := rb_bd h
    refine ev_aload_n (v := 7) (pc := 96) dX0_doStep_96 rfl ?_
    refine ev_iload (v := v3) (pc := 97) dX0_doStep_97 rfl ?_
    refine ev_iload (v := v5) (pc := 99) dX0_doStep_99 rfl ?_
    refine ev_cVi2w (w' := [(11, t10.2.1), (12, t10.2.2.1), (7, t10.2.2.2)]) (pc := 101) dX0_doStep_101 mv_X0_writeTo lk_RX0_200 rp_7 (ct1_X0_writeTo _ _ _ _ _ _ _ rfl rfl rfl e11) (Nat.le_of_ble_eq_true rfl) (Nat.le_of_ble_eq_true rfl) rfl ?_
    obtain rfl := Option.some.inj h
    exact ev_iret (pc := 104) dX0_doStep_104 rfl rfl rfl (hfin _ _ _)
  · rw [if_neg b9] at h
    by_cases b12 : v1 = 1
    · rw [if_pos b12] at h
      refine ev_tsIn (t := 105) (off := 57) (pc := 48) dX0_doStep_48 (by rw [b12]; decide) (by rw [b12]; decide) (by rw [b12]; decide) (by decide) ?_
      obtain ⟨t13, e14, h⟩ := rb_bd h
      refine ev_aload_n (v := 7) (pc := 105) dX0_doStep_105 rfl ?_
      refine ev_iload (v := v3) (pc := 106) dX0_doStep_106 rfl ?_
      refine ev_iload (v := v5) (pc := 108) dX0_doStep_108 rfl ?_
      refine ev_cVi2w (w' := [(11, t13.2.1), (12, t13.2.2.1), (7, t13.2.2.2)]) (pc := 110) dX0_doStep_110 mv_X0_readFrom lk_RX0_203 rp_7 (ct1_X0_readFrom _ _ _ _ _ _ _ rfl rfl rfl e14) (Nat.le_of_ble_eq_true rfl) (Nat.le_of_ble_eq_true rfl) rfl ?_
      obtain rfl := Option.some.inj h
      exact ev_iret (pc := 113) dX0_doStep_113 rfl rfl rfl (hfin _ _ _)
    · rw [if_neg b12] at h
      by_cases b15 : v1 = 2
      · rw [if_pos b15] at h
        refine ev_tsIn (t := 114) (off := 66) (pc := 48) dX0_doStep_48 (by rw [b15]; decide) (by rw [b15]; decide) (by rw [b15]; decide) (by decide) ?_
        obtain ⟨t16, e17, h⟩ := rb_bd h
        refine ev_aload_n (v := 7) (pc := 114) dX0_doStep_114 rfl ?_
        refine ev_iload_n (v := x0) (pc := 115) dX0_doStep_115 rfl ?_
        refine ev_iload (v := v3) (pc := 116) dX0_doStep_116 rfl ?_
        refine ev_iload (v := v5) (pc := 118) dX0_doStep_118 rfl ?_
        refine ev_cVi3w (w' := [(11, t16.2.1), (12, t16.2.2), (7, f)]) (pc := 120) dX0_doStep_120 mv_X0_collectAt lk_RX0_206 rp_7 (ct1_X0_collectAt _ _ _ _ _ _ _ rfl rfl e17) (Nat.le_of_ble_eq_true rfl) (Nat.le_of_ble_eq_true rfl) rfl ?_
        obtain rfl := Option.some.inj h
        exact ev_iret (pc := 123) dX0_doStep_123 rfl rfl rfl (hfin _ _ _)
      · rw [if_neg b15] at h
        by_cases b18 : v1 = 3
        · rw [if_pos b18] at h
          refine ev_tsIn (t := 124) (off := 76) (pc := 48) dX0_doStep_48 (by rw [b18]; decide) (by rw [b18]; decide) (by rw [b18]; decide) (by decide) ?_
          obtain ⟨t19, e20, h⟩ := rb_bd h
          refine ev_aload_n (v := 7) (pc := 124) dX0_doStep_124 rfl ?_
          refine ev_iload_n (v := x0) (pc := 125) dX0_doStep_125 rfl ?_
          refine ev_iload (v := v3) (pc := 126) dX0_doStep_126 rfl ?_
          refine ev_iload (v := v5) (pc := 128) dX0_doStep_128 rfl ?_
          refine ev_iconst (v := 0) (pc := 130) dX0_doStep_130 ki_0 ?_
          refine ev_cVi4w (w' := [(11, t19.2.1), (12, t19.2.2), (7, f)]) (pc := 131) dX0_doStep_131 mv_X0_awaitAt lk_RX0_209 rp_7 (ct1_X0_awaitAt _ _ _ _ _ _ _ _ rfl rfl e20) (Nat.le_of_ble_eq_true rfl) (Nat.le_of_ble_eq_true rfl) rfl ?_
          obtain rfl := Option.some.inj h
          exact ev_iret (pc := 134) dX0_doStep_134 rfl rfl rfl (hfin _ _ _)
        · rw [if_neg b18] at h
          by_cases b21 : v1 = 4
          · rw [if_pos b21] at h
            refine ev_tsIn (t := 135) (off := 87) (pc := 48) dX0_doStep_48 (by rw [b21]; decide) (by rw [b21]; decide) (by rw [b21]; decide) (by decide) ?_
            obtain ⟨t22, e23, h⟩ := rb_bd h
            refine ev_aload_n (v := 7) (pc := 135) dX0_doStep_135 rfl ?_
            refine ev_iload (v := v3) (pc := 136) dX0_doStep_136 rfl ?_
            refine ev_cVi1w (w' := [(11, t22.2.1), (12, t22.2.2.1), (7, t22.2.2.2)]) (pc := 138) dX0_doStep_138 mv_X0_closeHandle lk_RX0_213 rp_7 (ct1_X0_closeHandle _ _ _ _ _ _ rfl rfl rfl e23) (Nat.le_of_ble_eq_true rfl) (Nat.le_of_ble_eq_true rfl) rfl ?_
            by_cases b24 : t22.1 = 0
            · rw [if_pos b24] at h
              refine ev_if_eq_t (t := 148) (pc := 141) dX0_doStep_141 (by decide) b24 ?_
              refine ev_iconst (v := 0) (pc := 148) dX0_doStep_148 ki_0 ?_
              obtain rfl := Option.some.inj h
              exact ev_iret (pc := 149) dX0_doStep_149 rfl rfl rfl (hfin _ _ _)
            · rw [if_neg b24] at h
              refine ev_if_eq_f (t := 148) (pc := 141) dX0_doStep_141 (by decide) b24 ?_
              refine ev_iconst (v := 1) (pc := 144) dX0_doStep_144 ki_1 ?_
              refine ev_goto (t := 149) (pc := 145) dX0_doStep_145 (by decide) ?_
              obtain rfl := Option.some.inj h
              exact ev_iret (pc := 149) dX0_doStep_149 rfl rfl rfl (hfin _ _ _)
          · rw [if_neg b21] at h
            by_cases b25 : v1 = 5
            · rw [if_pos b25] at h
              refine ev_tsIn (t := 150) (off := 102) (pc := 48) dX0_doStep_48 (by rw [b25]; decide) (by rw [b25]; decide) (by rw [b25]; decide) (by decide) ?_
              obtain ⟨t26, e27, h⟩ := rb_bd h
              obtain ⟨t28, e29, h⟩ := rb_bd h
              refine ev_aload_n (v := 7) (pc := 150) dX0_doStep_150 rfl ?_
              refine ev_aload_n (v := 7) (pc := 151) dX0_doStep_151 rfl ?_
              refine ev_iload (v := v3) (pc := 152) dX0_doStep_152 rfl ?_
              refine ev_iload (v := v5) (pc := 154) dX0_doStep_154 rfl ?_
              refine ev_cVi2 (pc := 156) dX0_doStep_156 mv_X0_findInterest lk_RX0_216 rp_7 (ct1_X0_findInterest _ _ _ _ _ rfl e27) (Nat.le_of_ble_eq_true rfl) (Nat.le_of_ble_eq_true rfl) ?_
              refine ev_cVi1w (w' := [(11, t28.2.1), (12, t28.2.2.1), (7, t28.2.2.2)]) (pc := 159) dX0_doStep_159 mv_X0_armInterest lk_RX0_134 rp_7 (ct1_X0_armInterest _ _ _ _ _ _ rfl rfl rfl e29) (Nat.le_of_ble_eq_true rfl) (Nat.le_of_ble_eq_true rfl) rfl ?_
              by_cases b30 : t28.1 = 0
              · rw [if_pos b30] at h
                refine ev_if_eq_t (t := 169) (pc := 162) dX0_doStep_162 (by decide) b30 ?_
                refine ev_iconst (v := 0) (pc := 169) dX0_doStep_169 ki_0 ?_
                obtain rfl := Option.some.inj h
                exact ev_iret (pc := 170) dX0_doStep_170 rfl rfl rfl (hfin _ _ _)
              · rw [if_neg b30] at h
                refine ev_if_eq_f (t := 169) (pc := 162) dX0_doStep_162 (by decide) b30 ?_
                refine ev_iconst (v := 1) (pc := 165) dX0_doStep_165 ki_1 ?_
                refine ev_goto (t := 170) (pc := 166) dX0_doStep_166 (by decide) ?_
                obtain rfl := Option.some.inj h
                exact ev_iret (pc := 170) dX0_doStep_170 rfl rfl rfl (hfin _ _ _)
            · rw [if_neg b25] at h
              by_cases b31 : v1 = 6
              · rw [if_pos b31] at h
                refine ev_tsIn (t := 171) (off := 123) (pc := 48) dX0_doStep_48 (by rw [b31]; decide) (by rw [b31]; decide) (by rw [b31]; decide) (by decide) ?_
                obtain ⟨t32, e33, h⟩ := rb_bd h
                refine ev_aload_n (v := 7) (pc := 171) dX0_doStep_171 rfl ?_
                refine ev_iload (v := v3) (pc := 172) dX0_doStep_172 rfl ?_
                refine ev_cVi1w (w' := [(11, t32.2), (12, g), (7, f)]) (pc := 174) dX0_doStep_174 mv_X0_acceptFrom lk_RX0_219 rp_7 (ct1_X0_acceptFrom _ _ _ _ rfl e33) (Nat.le_of_ble_eq_true rfl) (Nat.le_of_ble_eq_true rfl) rfl ?_
                obtain rfl := Option.some.inj h
                exact ev_iret (pc := 177) dX0_doStep_177 rfl rfl rfl (hfin _ _ _)
              · rw [if_neg b31] at h
                by_cases b34 : v1 = 7
                · rw [if_pos b34] at h
                  refine ev_tsIn (t := 178) (off := 130) (pc := 48) dX0_doStep_48 (by rw [b34]; decide) (by rw [b34]; decide) (by rw [b34]; decide) (by decide) ?_
                  obtain ⟨t35, e36, h⟩ := rb_bd h
                  refine ev_aload_n (v := 7) (pc := 178) dX0_doStep_178 rfl ?_
                  refine ev_iload (v := v3) (pc := 179) dX0_doStep_179 rfl ?_
                  refine ev_cVi1w (w' := [(11, t35.2.1), (12, t35.2.2.1), (7, t35.2.2.2)]) (pc := 181) dX0_doStep_181 mv_X0_connectTo lk_RX0_222 rp_7 (ct1_X0_connectTo _ _ _ _ _ _ rfl rfl rfl e36) (Nat.le_of_ble_eq_true rfl) (Nat.le_of_ble_eq_true rfl) rfl ?_
                  obtain rfl := Option.some.inj h
                  exact ev_iret (pc := 184) dX0_doStep_184 rfl rfl rfl (hfin _ _ _)
                · rw [if_neg b34] at h
                  refine ev_tsOut (t := 185) (pc := 48) dX0_doStep_48 (rb_tsS (k := 7) (by decide) b34 (rb_tsS (k := 6) (by decide) b31 (rb_tsS (k := 5) (by decide) b25 (rb_tsS (k := 4) (by decide) b21 (rb_tsS (k := 3) (by decide) b18 (rb_tsS (k := 2) (by decide) b15 (rb_tsS (k := 1) (by decide) b12 (rb_tsS (k := 0) (by decide) b9 (rb_ts0 _))))))))) (by decide) ?_
                  refine ev_iconst (v := (-1)) (pc := 185) dX0_doStep_185 ki_m1 ?_
                  obtain rfl := Option.some.inj h
                  exact ev_iret (pc := 186) dX0_doStep_186 rfl rfl rfl (hfin _ _ _)
def XX0_goOneRound (c : rb_Row) (g : rb_Row) (f : rb_Row) : Option (Int32 × rb_Row × rb_Row × rb_Row) := (rb_lp (ρ := Int32 × rb_Row × rb_Row × rb_Row) (fun (s1 : Int32 × Int32 × rb_Row × rb_Row × rb_Row) => if 6 ≤ s1.2.1 then some (.inr (s1.1, s1.2.2.1, s1.2.2.2.1, s1.2.2.2.2)) else (XX4_canGo s1.2.2.1 s1.2.1).bind fun t10 => ((if t10 = 0 then some (s1.1, s1.2.2.1, s1.2.2.2.1, s1.2.2.2.2) else (XX0_doStep s1.2.2.1 s1.2.2.2.1 s1.2.2.2.2 s1.2.1).bind fun t16 => some ((s1.1 + 1), t16.2.1, t16.2.2.1, t16.2.2.2)) : Option (Int32 × rb_Row × rb_Row × rb_Row)).bind fun j12 => some (.inl (j12.1, (s1.2.1 + 1), j12.2.1, j12.2.2.1, j12.2.2.2))) 100000 (0, 0, c, g, f)).bind fun q2 => some (q2.1, q2.2.1, q2.2.2.1, q2.2.2.2)
set_option maxHeartbeats 4000000 in
set_option maxRecDepth 20000 in
theorem ct0_X0_goOneRound (μ : rb_Mem) (c : rb_Row) (g : rb_Row) (f : rb_Row) (o : Int32 × rb_Row × rb_Row × rb_Row) (hc : μ 5 = c) (hg : μ 6 = g) (hf : μ 1 = f) (h : XX0_goOneRound c g f = some o) : rb_Ct yX0_goOneRound cX0_goOneRound 3 (some .int) 17 [.inr 1] μ (some o.1) (rb_ov μ [(5, o.2.1), (6, o.2.2.1), (1, o.2.2.2)]) := by
  unfold XX0_goOneRound at h
  have hini : rb_ov μ [(5, c), (6, g), (1, f)] = μ := rb_ov_sf _ _ (And.intro hc (And.intro hg (And.intro hf True.intro)))
  have hfin : ∀ u0 u1 u2 : rb_Row, rb_ov μ [(5, u0), (6, u1), (1, u2)] = rb_ov μ [(5, u0), (6, u1), (1, u2)] := fun u0 u1 u2 => rfl
  refine rb_cti (w := [(5, c), (6, g), (1, f)]) rfl pn_0 (Nat.le_of_ble_eq_true rfl) rfl hini ?_
  refine ev_iconst (v := 0) (pc := 0) dX0_goOneRound_0 ki_0 ?_
  refine ev_istore_n (L' := [some (.inr 1), some (.inl 0), none]) (pc := 1) dX0_goOneRound_1 (Nat.le_of_ble_eq_true rfl) rfl ?_
  refine ev_iconst (v := 0) (pc := 2) dX0_goOneRound_2 ki_0 ?_
  refine ev_istore_n (L' := [some (.inr 1), some (.inl 0), some (.inl 0)]) (pc := 3) dX0_goOneRound_3 (Nat.le_of_ble_eq_true rfl) rfl ?_
  obtain ⟨q2, l3, h⟩ := rb_bd h
  have hx7 : rb_Ev RX0 cX0_goOneRound 3 (some .int) none 17 (some o.1) (rb_ov μ [(5, o.2.1), (6, o.2.2.1), (1, o.2.2.2)]) 36 [none, some (.inl q2.1), none] [] (rb_ov μ [(5, q2.2.1), (6, q2.2.2.1), (1, q2.2.2.2)]) := by
    refine ev_iload_n (v := q2.1) (pc := 36) dX0_goOneRound_36 rfl ?_
    obtain rfl := Option.some.inj h
    exact ev_iret (pc := 37) dX0_goOneRound_37 rfl rfl rfl (hfin _ _ _)
  refine rb_lp_ev (P := fun (s1 : Int32 × Int32 × rb_Row × rb_Row × rb_Row) => rb_Ev RX0 cX0_goOneRound 3 (some .int) none 17 (some o.1) (rb_ov μ [(5, o.2.1), (6, o.2.2.1), (1, o.2.2.2)]) 4 [some (.inr 1), some (.inl s1.1), some (.inl s1.2.1)] [] (rb_ov μ [(5, s1.2.2.1), (6, s1.2.2.2.1), (1, s1.2.2.2.2)])) ?_ 100000 (0, 0, c, g, f) l3
  intro s1 y4 h ih5 hE6
  refine ev_iload_n (v := s1.2.1) (pc := 4) dX0_goOneRound_4 rfl ?_
  refine ev_bipush (v := 6) (pc := 5) dX0_goOneRound_5 kb_6 ?_
  by_cases b9 : 6 ≤ s1.2.1
  · rw [if_pos b9] at h
    refine ev_icmp_ge_t (t := 36) (pc := 7) dX0_goOneRound_7 (by decide) b9 ?_
    obtain rfl := Option.some.inj h
    obtain rfl := hE6 _ rfl
    exact ev_fg (L := [none, some (.inl s1.1), none]) (And.intro rfl True.intro) (hx7)
  · rw [if_neg b9] at h
    refine ev_icmp_ge_f (t := 36) (pc := 7) dX0_goOneRound_7 (by decide) b9 ?_
    obtain ⟨t10, e11, h⟩ := rb_bd h
    refine ev_aload_n (v := 1) (pc := 10) dX0_goOneRound_10 rfl ?_
    refine ev_getr (q := 4) (pc := 11) dX0_goOneRound_11 fl_RX0_34 rfl rfl ?_
    refine ev_iload_n (v := s1.2.1) (pc := 14) dX0_goOneRound_14 rfl ?_
    refine ev_cVi1 (pc := 15) dX0_goOneRound_15 mv_X4_canGo lk_RX0_191 rp_4 (ct0_X4_canGo _ _ _ _ rfl e11) (Nat.le_of_ble_eq_true rfl) (Nat.le_of_ble_eq_true rfl) ?_
    obtain ⟨j12, e13, h⟩ := rb_bd h
    have hj14 : rb_Ev RX0 cX0_goOneRound 3 (some .int) none 17 (some o.1) (rb_ov μ [(5, o.2.1), (6, o.2.2.1), (1, o.2.2.2)]) 30 [some (.inr 1), some (.inl j12.1), some (.inl s1.2.1)] [] (rb_ov μ [(5, j12.2.1), (6, j12.2.2.1), (1, j12.2.2.2)]) := by
      refine ev_iinc (x := s1.2.1) (v := (s1.2.1 + 1)) (L' := [some (.inr 1), some (.inl j12.1), some (.inl (s1.2.1 + 1))]) (pc := 30) dX0_goOneRound_30 rfl (kx_1 _) (Nat.le_of_ble_eq_true rfl) rfl ?_
      refine ev_goto (t := 4) (pc := 33) dX0_goOneRound_33 (by decide) ?_
      obtain rfl := Option.some.inj h
      exact ih5 (j12.1, (s1.2.1 + 1), j12.2.1, j12.2.2.1, j12.2.2.2) rfl
    replace h := e13
    by_cases b15 : t10 = 0
    · rw [if_pos b15] at h
      refine ev_if_eq_t (t := 30) (pc := 18) dX0_goOneRound_18 (by decide) b15 ?_
      obtain rfl := Option.some.inj h
      exact hj14
    · rw [if_neg b15] at h
      refine ev_if_eq_f (t := 30) (pc := 18) dX0_goOneRound_18 (by decide) b15 ?_
      obtain ⟨t16, e17, h⟩ := rb_bd h
      refine ev_aload_n (v := 1) (pc := 21) dX0_goOneRound_21 rfl ?_
      refine ev_iload_n (v := s1.2.1) (pc := 22) dX0_goOneRound_22 rfl ?_
      refine ev_cVi1w (w' := [(5, t16.2.1), (6, t16.2.2.1), (1, t16.2.2.2)]) (pc := 23) dX0_goOneRound_23 mv_X0_doStep lk_RX0_194 rp_1 (ct0_X0_doStep _ _ _ _ _ _ rfl rfl rfl e17) (Nat.le_of_ble_eq_true rfl) (Nat.le_of_ble_eq_true rfl) rfl ?_
      refine ev_pop (pc := 26) dX0_goOneRound_26 ?_
      refine ev_iinc (x := s1.1) (v := (s1.1 + 1)) (L' := [some (.inr 1), some (.inl (s1.1 + 1)), some (.inl s1.2.1)]) (pc := 27) dX0_goOneRound_27 rfl (kx_1 _) (Nat.le_of_ble_eq_true rfl) rfl ?_
      obtain rfl := Option.some.inj h
      exact hj14
set_option maxHeartbeats 4000000 in
set_option maxRecDepth 20000 in
theorem ct1_X0_goOneRound (μ : rb_Mem) (c : rb_Row) (g : rb_Row) (f : rb_Row) (o : Int32 × rb_Row × rb_Row × rb_Row) (hc : μ 11 = c) (hg : μ 12 = g) (hf : μ 7 = f) (h : XX0_goOneRound c g f = some o) : rb_Ct yX0_goOneRound cX0_goOneRound 3 (some .int) 17 [.inr 7] μ (some o.1) (rb_ov μ [(11, o.2.1), (12, o.2.2.1), (7, o.2.2.2)]) := by
  unfold XX0_goOneRound at h
  have hini : rb_ov μ [(11, c), (12, g), (7, f)] = μ := rb_ov_sf _ _ (And.intro hc (And.intro hg (And.intro hf True.intro)))
  have hfin : ∀ u0 u1 u2 : rb_Row, rb_ov μ [(11, u0), (12, u1), (7, u2)] = rb_ov μ [(11, u0), (12, u1), (7, u2)] := fun u0 u1 u2 => rfl
  refine rb_cti (w := [(11, c), (12, g), (7, f)]) rfl pn_0 (Nat.le_of_ble_eq_true rfl) rfl hini ?_
  refine ev_iconst (v := 0) (pc := 0) dX0_goOneRound_0 ki_0 ?_
  refine ev_istore_n (L' := [some (.inr 7), some (.inl 0), none]) (pc := 1) dX0_goOneRound_1 (Nat.le_of_ble_eq_true rfl) rfl ?_
  refine ev_iconst (v := 0) (pc := 2) dX0_goOneRound_2 ki_0 ?_
  refine ev_istore_n (L' := [some (.inr 7), some (.inl 0), some (.inl 0)]) (pc := 3) dX0_goOneRound_3 (Nat.le_of_ble_eq_true rfl) rfl ?_
  obtain ⟨q2, l3, h⟩ := rb_bd h
  have hx7 : rb_Ev RX0 cX0_goOneRound 3 (some .int) none 17 (some o.1) (rb_ov μ [(11, o.2.1), (12, o.2.2.1), (7, o.2.2.2)]) 36 [none, some (.inl q2.1), none] [] (rb_ov μ [(11, q2.2.1), (12, q2.2.2.1), (7, q2.2.2.2)]) := by
    refine ev_iload_n (v := q2.1) (pc := 36) dX0_goOneRound_36 rfl ?_
    obtain rfl := Option.some.inj h
    exact ev_iret (pc := 37) dX0_goOneRound_37 rfl rfl rfl (hfin _ _ _)
  refine rb_lp_ev (P := fun (s1 : Int32 × Int32 × rb_Row × rb_Row × rb_Row) => rb_Ev RX0 cX0_goOneRound 3 (some .int) none 17 (some o.1) (rb_ov μ [(11, o.2.1), (12, o.2.2.1), (7, o.2.2.2)]) 4 [some (.inr 7), some (.inl s1.1), some (.inl s1.2.1)] [] (rb_ov μ [(11, s1.2.2.1), (12, s1.2.2.2.1), (7, s1.2.2.2.2)])) ?_ 100000 (0, 0, c, g, f) l3
  intro s1 y4 h ih5 hE6
  refine ev_iload_n (v := s1.2.1) (pc := 4) dX0_goOneRound_4 rfl ?_
  refine ev_bipush (v := 6) (pc := 5) dX0_goOneRound_5 kb_6 ?_
  by_cases b9 : 6 ≤ s1.2.1
  · rw [if_pos b9] at h
    refine ev_icmp_ge_t (t := 36) (pc := 7) dX0_goOneRound_7 (by decide) b9 ?_
    obtain rfl := Option.some.inj h
    obtain rfl := hE6 _ rfl
    exact ev_fg (L := [none, some (.inl s1.1), none]) (And.intro rfl True.intro) (hx7)
  · rw [if_neg b9] at h
    refine ev_icmp_ge_f (t := 36) (pc := 7) dX0_goOneRound_7 (by decide) b9 ?_
    obtain ⟨t10, e11, h⟩ := rb_bd h
    refine ev_aload_n (v := 7) (pc := 10) dX0_goOneRound_10 rfl ?_
    refine ev_getr (q := 10) (pc := 11) dX0_goOneRound_11 fl_RX0_34 rfl rfl ?_
    refine ev_iload_n (v := s1.2.1) (pc := 14) dX0_goOneRound_14 rfl ?_
    refine ev_cVi1 (pc := 15) dX0_goOneRound_15 mv_X4_canGo lk_RX0_191 rp_10 (ct1_X4_canGo _ _ _ _ rfl e11) (Nat.le_of_ble_eq_true rfl) (Nat.le_of_ble_eq_true rfl) ?_
    obtain ⟨j12, e13, h⟩ := rb_bd h
    have hj14 : rb_Ev RX0 cX0_goOneRound 3 (some .int) none 17 (some o.1) (rb_ov μ [(11, o.2.1), (12, o.2.2.1), (7, o.2.2.2)]) 30 [some (.inr 7), some (.inl j12.1), some (.inl s1.2.1)] [] (rb_ov μ [(11, j12.2.1), (12, j12.2.2.1), (7, j12.2.2.2)]) := by
      refine ev_iinc (x := s1.2.1) (v := (s1.2.1 + 1)) (L' := [some (.inr 7), some (.inl j12.1), some (.inl (s1.2.1 + 1))]) (pc := 30) dX0_goOneRound_30 rfl (kx_1 _) (Nat.le_of_ble_eq_true rfl) rfl ?_
      refine ev_goto (t := 4) (pc := 33) dX0_goOneRound_33 (by decide) ?_
      obtain rfl := Option.some.inj h
      exact ih5 (j12.1, (s1.2.1 + 1), j12.2.1, j12.2.2.1, j12.2.2.2) rfl
    replace h := e13
    by_cases b15 : t10 = 0
    · rw [if_pos b15] at h
      refine ev_if_eq_t (t := 30) (pc := 18) dX0_goOneRound_18 (by decide) b15 ?_
      obtain rfl := Option.some.inj h
      exact hj14
    · rw [if_neg b15] at h
      refine ev_if_eq_f (t := 30) (pc := 18) dX0_goOneRound_18 (by decide) b15 ?_
      obtain ⟨t16, e17, h⟩ := rb_bd h
      refine ev_aload_n (v := 7) (pc := 21) dX0_goOneRound_21 rfl ?_
      refine ev_iload_n (v := s1.2.1) (pc := 22) dX0_goOneRound_22 rfl ?_
      refine ev_cVi1w (w' := [(11, t16.2.1), (12, t16.2.2.1), (7, t16.2.2.2)]) (pc := 23) dX0_goOneRound_23 mv_X0_doStep lk_RX0_194 rp_7 (ct1_X0_doStep _ _ _ _ _ _ rfl rfl rfl e17) (Nat.le_of_ble_eq_true rfl) (Nat.le_of_ble_eq_true rfl) rfl ?_
      refine ev_pop (pc := 26) dX0_goOneRound_26 ?_
      refine ev_iinc (x := s1.1) (v := (s1.1 + 1)) (L' := [some (.inr 7), some (.inl (s1.1 + 1)), some (.inl s1.2.1)]) (pc := 27) dX0_goOneRound_27 rfl (kx_1 _) (Nat.le_of_ble_eq_true rfl) rfl ?_
      obtain rfl := Option.some.inj h
      exact hj14
def XX2_restart (pr : rb_Row) (pf : rb_Row) (c0 : rb_Row) : Option (rb_Row × rb_Row) := (rb_pf pf 2 0).bind fun pf1 => (rb_pf pf1 3 0).bind fun pf3 => (rb_cp c0 773 0 pr 10049 ((pf3 1) * 773) 773).bind fun pr5 => some (pr5, pf3)
set_option maxHeartbeats 4000000 in
set_option maxRecDepth 20000 in
theorem ct_X2_restart (μ : rb_Mem) (pr : rb_Row) (pf : rb_Row) (c0 : rb_Row) (o : rb_Row × rb_Row) (hpr : μ 14 = pr) (hpf : μ 13 = pf) (hc0 : μ 5 = c0) (h : XX2_restart pr pf c0 = some o) : rb_Ct yX2_restart cX2_restart 2 none 1 [.inr 13, .inr 5] μ none (rb_ov μ [(14, o.1), (13, o.2)]) := by
  unfold XX2_restart at h
  have hini : rb_ov μ [(14, pr), (13, pf), (5, c0)] = μ := rb_ov_sf _ _ (And.intro hpr (And.intro hpf (And.intro hc0 True.intro)))
  have hfin : ∀ u0 u1 : rb_Row, rb_ov μ [(14, u0), (13, u1), (5, c0)] = rb_ov μ [(14, u0), (13, u1)] := fun u0 u1 => rb_ov_ap _ [(14, u0), (13, u1)] _ (And.intro hc0 True.intro)
  refine rb_ctv (w := [(14, pr), (13, pf), (5, c0)]) rfl pn_2 (Nat.le_of_ble_eq_true rfl) rfl hini ?_
  obtain ⟨pf1, e2, h⟩ := rb_bd h
  obtain ⟨pf3, e4, h⟩ := rb_bd h
  obtain ⟨pr5, e6, h⟩ := rb_bd h
  refine ev_aload_n (v := 13) (pc := 0) dX2_restart_0 rfl ?_
  refine ev_iconst (v := 0) (pc := 1) dX2_restart_1 ki_0 ?_
  refine ev_putw (w' := [(14, pr), (13, pf1), (5, c0)]) (pc := 2) dX2_restart_2 fp_RX2_19 rfl rfl e2 rfl ?_
  refine ev_aload_n (v := 13) (pc := 5) dX2_restart_5 rfl ?_
  refine ev_iconst (v := 0) (pc := 6) dX2_restart_6 ki_0 ?_
  refine ev_putw (w' := [(14, pr), (13, pf3), (5, c0)]) (pc := 7) dX2_restart_7 fp_RX2_22 rfl rfl e4 rfl ?_
  refine ev_aload_n (v := 5) (pc := 10) dX2_restart_10 rfl ?_
  refine ev_iconst (v := 0) (pc := 11) dX2_restart_11 ki_0 ?_
  refine ev_aload_n (v := 13) (pc := 12) dX2_restart_12 rfl ?_
  refine ev_getr (q := 14) (pc := 13) dX2_restart_13 fl_RX2_11 rfl rfl ?_
  refine ev_aload_n (v := 13) (pc := 16) dX2_restart_16 rfl ?_
  refine ev_geti (v := (pf3 1)) (pc := 17) dX2_restart_17 fl_RX2_15 rfl rfl rfl ?_
  refine ev_sipush (v := 773) (pc := 20) dX2_restart_20 ks_773 ?_
  refine ev_imul (pc := 23) dX2_restart_23 ?_
  refine ev_sipush (v := 773) (pc := 24) dX2_restart_24 ks_773 ?_
  refine ev_copy (w' := [(14, pr5), (13, pf3), (5, c0)]) (pc := 27) dX2_restart_27 lk_RX2_25 rfl rfl (Nat.le_of_ble_eq_true rfl) (Nat.le_of_ble_eq_true rfl) e6 rfl ?_
  obtain rfl := Option.some.inj h
  exact ev_ret (pc := 30) dX2_restart_30 rfl rfl (hfin _ _)
def XX2_keep (pr : rb_Row) (pf : rb_Row) (c0 : rb_Row) : Option (rb_Row × rb_Row) := (rb_pf pf 1 (((pf 1) + 1) - ((pf 1) + 1) / 13 * 13)).bind fun pf1 => (rb_pf pf1 2 (rb_min 12 ((pf1 2) + 1))).bind fun pf3 => (rb_pf pf3 3 0).bind fun pf5 => (rb_cp c0 773 0 pr 10049 ((pf5 1) * 773) 773).bind fun pr7 => some (pr7, pf5)
set_option maxHeartbeats 4000000 in
set_option maxRecDepth 20000 in
theorem ct_X2_keep (μ : rb_Mem) (pr : rb_Row) (pf : rb_Row) (c0 : rb_Row) (o : rb_Row × rb_Row) (hpr : μ 14 = pr) (hpf : μ 13 = pf) (hc0 : μ 5 = c0) (h : XX2_keep pr pf c0 = some o) : rb_Ct yX2_keep cX2_keep 2 none 1 [.inr 13, .inr 5] μ none (rb_ov μ [(14, o.1), (13, o.2)]) := by
  unfold XX2_keep at h
  have hini : rb_ov μ [(14, pr), (13, pf), (5, c0)] = μ := rb_ov_sf _ _ (And.intro hpr (And.intro hpf (And.intro hc0 True.intro)))
  have hfin : ∀ u0 u1 : rb_Row, rb_ov μ [(14, u0), (13, u1), (5, c0)] = rb_ov μ [(14, u0), (13, u1)] := fun u0 u1 => rb_ov_ap _ [(14, u0), (13, u1)] _ (And.intro hc0 True.intro)
  refine rb_ctv (w := [(14, pr), (13, pf), (5, c0)]) rfl pn_2 (Nat.le_of_ble_eq_true rfl) rfl hini ?_
  obtain ⟨pf1, e2, h⟩ := rb_bd h
  obtain ⟨pf3, e4, h⟩ := rb_bd h
  obtain ⟨pf5, e6, h⟩ := rb_bd h
  obtain ⟨pr7, e8, h⟩ := rb_bd h
  refine ev_aload_n (v := 13) (pc := 0) dX2_keep_0 rfl ?_
  refine ev_aload_n (v := 13) (pc := 1) dX2_keep_1 rfl ?_
  refine ev_geti (v := (pf 1)) (pc := 2) dX2_keep_2 fl_RX2_15 rfl rfl rfl ?_
  refine ev_iconst (v := 1) (pc := 5) dX2_keep_5 ki_1 ?_
  refine ev_iadd (pc := 6) dX2_keep_6 ?_
  refine ev_bipush (v := 13) (pc := 7) dX2_keep_7 kb_13 ?_
  refine ev_irem (pc := 9) dX2_keep_9 (by decide) ?_
  refine ev_putw (w' := [(14, pr), (13, pf1), (5, c0)]) (pc := 10) dX2_keep_10 fp_RX2_15 rfl rfl e2 rfl ?_
  refine ev_aload_n (v := 13) (pc := 13) dX2_keep_13 rfl ?_
  refine ev_bipush (v := 12) (pc := 14) dX2_keep_14 kb_12 ?_
  refine ev_aload_n (v := 13) (pc := 16) dX2_keep_16 rfl ?_
  refine ev_geti (v := (pf1 2)) (pc := 17) dX2_keep_17 fl_RX2_19 rfl rfl rfl ?_
  refine ev_iconst (v := 1) (pc := 20) dX2_keep_20 ki_1 ?_
  refine ev_iadd (pc := 21) dX2_keep_21 ?_
  refine ev_min (pc := 22) dX2_keep_22 lk_RX2_31 (Nat.le_of_ble_eq_true rfl) (Nat.le_of_ble_eq_true rfl) ?_
  refine ev_putw (w' := [(14, pr), (13, pf3), (5, c0)]) (pc := 25) dX2_keep_25 fp_RX2_19 rfl rfl e4 rfl ?_
  refine ev_aload_n (v := 13) (pc := 28) dX2_keep_28 rfl ?_
  refine ev_iconst (v := 0) (pc := 29) dX2_keep_29 ki_0 ?_
  refine ev_putw (w' := [(14, pr), (13, pf5), (5, c0)]) (pc := 30) dX2_keep_30 fp_RX2_22 rfl rfl e6 rfl ?_
  refine ev_aload_n (v := 5) (pc := 33) dX2_keep_33 rfl ?_
  refine ev_iconst (v := 0) (pc := 34) dX2_keep_34 ki_0 ?_
  refine ev_aload_n (v := 13) (pc := 35) dX2_keep_35 rfl ?_
  refine ev_getr (q := 14) (pc := 36) dX2_keep_36 fl_RX2_11 rfl rfl ?_
  refine ev_aload_n (v := 13) (pc := 39) dX2_keep_39 rfl ?_
  refine ev_geti (v := (pf5 1)) (pc := 40) dX2_keep_40 fl_RX2_15 rfl rfl rfl ?_
  refine ev_sipush (v := 773) (pc := 43) dX2_keep_43 ks_773 ?_
  refine ev_imul (pc := 46) dX2_keep_46 ?_
  refine ev_sipush (v := 773) (pc := 47) dX2_keep_47 ks_773 ?_
  refine ev_copy (w' := [(14, pr7), (13, pf5), (5, c0)]) (pc := 50) dX2_keep_50 lk_RX2_25 rfl rfl (Nat.le_of_ble_eq_true rfl) (Nat.le_of_ble_eq_true rfl) e8 rfl ?_
  obtain rfl := Option.some.inj h
  exact ev_ret (pc := 53) dX2_keep_53 rfl rfl (hfin _ _)
def XX2_goBack (c0 : rb_Row) (pf : rb_Row) (pr : rb_Row) : Option (Int32 × rb_Row × rb_Row) := if (pf 2) = 0 then some ((rb_nz 0), c0, pf) else (rb_pf pf 1 ((((pf 1) + 13) - 1) - (((pf 1) + 13) - 1) / 13 * 13)).bind fun pf2 => (rb_pf pf2 2 ((pf2 2) - 1)).bind fun pf4 => (rb_pf pf4 3 ((pf4 3) + 1)).bind fun pf6 => (rb_cp pr 10049 ((pf6 1) * 773) c0 773 0 773).bind fun c08 => some ((rb_nz 1), c08, pf6)
set_option maxHeartbeats 4000000 in
set_option maxRecDepth 20000 in
theorem ct_X2_goBack (μ : rb_Mem) (c0 : rb_Row) (pf : rb_Row) (pr : rb_Row) (o : Int32 × rb_Row × rb_Row) (hc0 : μ 5 = c0) (hpf : μ 13 = pf) (hpr : μ 14 = pr) (h : XX2_goBack c0 pf pr = some o) : rb_Ct yX2_goBack cX2_goBack 2 (some .boolean) 1 [.inr 13, .inr 5] μ (some o.1) (rb_ov μ [(5, o.2.1), (13, o.2.2)]) := by
  unfold XX2_goBack at h
  have hini : rb_ov μ [(5, c0), (13, pf), (14, pr)] = μ := rb_ov_sf _ _ (And.intro hc0 (And.intro hpf (And.intro hpr True.intro)))
  have hfin : ∀ u0 u1 : rb_Row, rb_ov μ [(5, u0), (13, u1), (14, pr)] = rb_ov μ [(5, u0), (13, u1)] := fun u0 u1 => rb_ov_ap _ [(5, u0), (13, u1)] _ (And.intro hpr True.intro)
  refine rb_ctz (w := [(5, c0), (13, pf), (14, pr)]) rfl pn_2 (Nat.le_of_ble_eq_true rfl) rfl hini ?_
  refine ev_aload_n (v := 13) (pc := 0) dX2_goBack_0 rfl ?_
  refine ev_geti (v := (pf 2)) (pc := 1) dX2_goBack_1 fl_RX2_19 rfl rfl rfl ?_
  by_cases b1 : (pf 2) = 0
  · rw [if_pos b1] at h
    refine ev_if_ne_f (t := 9) (pc := 4) dX2_goBack_4 (by decide) b1 ?_
    refine ev_iconst (v := 0) (pc := 7) dX2_goBack_7 ki_0 ?_
    obtain rfl := Option.some.inj h
    exact ev_iret (pc := 8) dX2_goBack_8 rfl rfl rfl (hfin _ _)
  · rw [if_neg b1] at h
    refine ev_if_ne_t (t := 9) (pc := 4) dX2_goBack_4 (by decide) b1 ?_
    obtain ⟨pf2, e3, h⟩ := rb_bd h
    obtain ⟨pf4, e5, h⟩ := rb_bd h
    obtain ⟨pf6, e7, h⟩ := rb_bd h
    obtain ⟨c08, e9, h⟩ := rb_bd h
    refine ev_aload_n (v := 13) (pc := 9) dX2_goBack_9 rfl ?_
    refine ev_aload_n (v := 13) (pc := 10) dX2_goBack_10 rfl ?_
    refine ev_geti (v := (pf 1)) (pc := 11) dX2_goBack_11 fl_RX2_15 rfl rfl rfl ?_
    refine ev_bipush (v := 13) (pc := 14) dX2_goBack_14 kb_13 ?_
    refine ev_iadd (pc := 16) dX2_goBack_16 ?_
    refine ev_iconst (v := 1) (pc := 17) dX2_goBack_17 ki_1 ?_
    refine ev_isub (pc := 18) dX2_goBack_18 ?_
    refine ev_bipush (v := 13) (pc := 19) dX2_goBack_19 kb_13 ?_
    refine ev_irem (pc := 21) dX2_goBack_21 (by decide) ?_
    refine ev_putw (w' := [(5, c0), (13, pf2), (14, pr)]) (pc := 22) dX2_goBack_22 fp_RX2_15 rfl rfl e3 rfl ?_
    refine ev_aload_n (v := 13) (pc := 25) dX2_goBack_25 rfl ?_
    refine ev_dup (pc := 26) dX2_goBack_26 ?_
    refine ev_geti (v := (pf2 2)) (pc := 27) dX2_goBack_27 fl_RX2_19 rfl rfl rfl ?_
    refine ev_iconst (v := 1) (pc := 30) dX2_goBack_30 ki_1 ?_
    refine ev_isub (pc := 31) dX2_goBack_31 ?_
    refine ev_putw (w' := [(5, c0), (13, pf4), (14, pr)]) (pc := 32) dX2_goBack_32 fp_RX2_19 rfl rfl e5 rfl ?_
    refine ev_aload_n (v := 13) (pc := 35) dX2_goBack_35 rfl ?_
    refine ev_dup (pc := 36) dX2_goBack_36 ?_
    refine ev_geti (v := (pf4 3)) (pc := 37) dX2_goBack_37 fl_RX2_22 rfl rfl rfl ?_
    refine ev_iconst (v := 1) (pc := 40) dX2_goBack_40 ki_1 ?_
    refine ev_iadd (pc := 41) dX2_goBack_41 ?_
    refine ev_putw (w' := [(5, c0), (13, pf6), (14, pr)]) (pc := 42) dX2_goBack_42 fp_RX2_22 rfl rfl e7 rfl ?_
    refine ev_aload_n (v := 13) (pc := 45) dX2_goBack_45 rfl ?_
    refine ev_getr (q := 14) (pc := 46) dX2_goBack_46 fl_RX2_11 rfl rfl ?_
    refine ev_aload_n (v := 13) (pc := 49) dX2_goBack_49 rfl ?_
    refine ev_geti (v := (pf6 1)) (pc := 50) dX2_goBack_50 fl_RX2_15 rfl rfl rfl ?_
    refine ev_sipush (v := 773) (pc := 53) dX2_goBack_53 ks_773 ?_
    refine ev_imul (pc := 56) dX2_goBack_56 ?_
    refine ev_aload_n (v := 5) (pc := 57) dX2_goBack_57 rfl ?_
    refine ev_iconst (v := 0) (pc := 58) dX2_goBack_58 ki_0 ?_
    refine ev_sipush (v := 773) (pc := 59) dX2_goBack_59 ks_773 ?_
    refine ev_copy (w' := [(5, c08), (13, pf6), (14, pr)]) (pc := 62) dX2_goBack_62 lk_RX2_25 rfl rfl (Nat.le_of_ble_eq_true rfl) (Nat.le_of_ble_eq_true rfl) e9 rfl ?_
    refine ev_iconst (v := 1) (pc := 65) dX2_goBack_65 ki_1 ?_
    obtain rfl := Option.some.inj h
    exact ev_iret (pc := 66) dX2_goBack_66 rfl rfl rfl (hfin _ _)
def XX2_goForth (c0 : rb_Row) (pf : rb_Row) (pr : rb_Row) : Option (Int32 × rb_Row × rb_Row) := if (pf 3) = 0 then some ((rb_nz 0), c0, pf) else (rb_pf pf 1 (((pf 1) + 1) - ((pf 1) + 1) / 13 * 13)).bind fun pf2 => (rb_pf pf2 2 ((pf2 2) + 1)).bind fun pf4 => (rb_pf pf4 3 ((pf4 3) - 1)).bind fun pf6 => (rb_cp pr 10049 ((pf6 1) * 773) c0 773 0 773).bind fun c08 => some ((rb_nz 1), c08, pf6)
set_option maxHeartbeats 4000000 in
set_option maxRecDepth 20000 in
theorem ct_X2_goForth (μ : rb_Mem) (c0 : rb_Row) (pf : rb_Row) (pr : rb_Row) (o : Int32 × rb_Row × rb_Row) (hc0 : μ 5 = c0) (hpf : μ 13 = pf) (hpr : μ 14 = pr) (h : XX2_goForth c0 pf pr = some o) : rb_Ct yX2_goForth cX2_goForth 2 (some .boolean) 1 [.inr 13, .inr 5] μ (some o.1) (rb_ov μ [(5, o.2.1), (13, o.2.2)]) := by
  unfold XX2_goForth at h
  have hini : rb_ov μ [(5, c0), (13, pf), (14, pr)] = μ := rb_ov_sf _ _ (And.intro hc0 (And.intro hpf (And.intro hpr True.intro)))
  have hfin : ∀ u0 u1 : rb_Row, rb_ov μ [(5, u0), (13, u1), (14, pr)] = rb_ov μ [(5, u0), (13, u1)] := fun u0 u1 => rb_ov_ap _ [(5, u0), (13, u1)] _ (And.intro hpr True.intro)
  refine rb_ctz (w := [(5, c0), (13, pf), (14, pr)]) rfl pn_2 (Nat.le_of_ble_eq_true rfl) rfl hini ?_
  refine ev_aload_n (v := 13) (pc := 0) dX2_goForth_0 rfl ?_
  refine ev_geti (v := (pf 3)) (pc := 1) dX2_goForth_1 fl_RX2_22 rfl rfl rfl ?_
  by_cases b1 : (pf 3) = 0
  · rw [if_pos b1] at h
    refine ev_if_ne_f (t := 9) (pc := 4) dX2_goForth_4 (by decide) b1 ?_
    refine ev_iconst (v := 0) (pc := 7) dX2_goForth_7 ki_0 ?_
    obtain rfl := Option.some.inj h
    exact ev_iret (pc := 8) dX2_goForth_8 rfl rfl rfl (hfin _ _)
  · rw [if_neg b1] at h
    refine ev_if_ne_t (t := 9) (pc := 4) dX2_goForth_4 (by decide) b1 ?_
    obtain ⟨pf2, e3, h⟩ := rb_bd h
    obtain ⟨pf4, e5, h⟩ := rb_bd h
    obtain ⟨pf6, e7, h⟩ := rb_bd h
    obtain ⟨c08, e9, h⟩ := rb_bd h
    refine ev_aload_n (v := 13) (pc := 9) dX2_goForth_9 rfl ?_
    refine ev_aload_n (v := 13) (pc := 10) dX2_goForth_10 rfl ?_
    refine ev_geti (v := (pf 1)) (pc := 11) dX2_goForth_11 fl_RX2_15 rfl rfl rfl ?_
    refine ev_iconst (v := 1) (pc := 14) dX2_goForth_14 ki_1 ?_
    refine ev_iadd (pc := 15) dX2_goForth_15 ?_
    refine ev_bipush (v := 13) (pc := 16) dX2_goForth_16 kb_13 ?_
    refine ev_irem (pc := 18) dX2_goForth_18 (by decide) ?_
    refine ev_putw (w' := [(5, c0), (13, pf2), (14, pr)]) (pc := 19) dX2_goForth_19 fp_RX2_15 rfl rfl e3 rfl ?_
    refine ev_aload_n (v := 13) (pc := 22) dX2_goForth_22 rfl ?_
    refine ev_dup (pc := 23) dX2_goForth_23 ?_
    refine ev_geti (v := (pf2 2)) (pc := 24) dX2_goForth_24 fl_RX2_19 rfl rfl rfl ?_
    refine ev_iconst (v := 1) (pc := 27) dX2_goForth_27 ki_1 ?_
    refine ev_iadd (pc := 28) dX2_goForth_28 ?_
    refine ev_putw (w' := [(5, c0), (13, pf4), (14, pr)]) (pc := 29) dX2_goForth_29 fp_RX2_19 rfl rfl e5 rfl ?_
    refine ev_aload_n (v := 13) (pc := 32) dX2_goForth_32 rfl ?_
    refine ev_dup (pc := 33) dX2_goForth_33 ?_
    refine ev_geti (v := (pf4 3)) (pc := 34) dX2_goForth_34 fl_RX2_22 rfl rfl rfl ?_
    refine ev_iconst (v := 1) (pc := 37) dX2_goForth_37 ki_1 ?_
    refine ev_isub (pc := 38) dX2_goForth_38 ?_
    refine ev_putw (w' := [(5, c0), (13, pf6), (14, pr)]) (pc := 39) dX2_goForth_39 fp_RX2_22 rfl rfl e7 rfl ?_
    refine ev_aload_n (v := 13) (pc := 42) dX2_goForth_42 rfl ?_
    refine ev_getr (q := 14) (pc := 43) dX2_goForth_43 fl_RX2_11 rfl rfl ?_
    refine ev_aload_n (v := 13) (pc := 46) dX2_goForth_46 rfl ?_
    refine ev_geti (v := (pf6 1)) (pc := 47) dX2_goForth_47 fl_RX2_15 rfl rfl rfl ?_
    refine ev_sipush (v := 773) (pc := 50) dX2_goForth_50 ks_773 ?_
    refine ev_imul (pc := 53) dX2_goForth_53 ?_
    refine ev_aload_n (v := 5) (pc := 54) dX2_goForth_54 rfl ?_
    refine ev_iconst (v := 0) (pc := 55) dX2_goForth_55 ki_0 ?_
    refine ev_sipush (v := 773) (pc := 56) dX2_goForth_56 ks_773 ?_
    refine ev_copy (w' := [(5, c08), (13, pf6), (14, pr)]) (pc := 59) dX2_goForth_59 lk_RX2_25 rfl rfl (Nat.le_of_ble_eq_true rfl) (Nat.le_of_ble_eq_true rfl) e9 rfl ?_
    refine ev_iconst (v := 1) (pc := 62) dX2_goForth_62 ki_1 ?_
    obtain rfl := Option.some.inj h
    exact ev_iret (pc := 63) dX2_goForth_63 rfl rfl rfl (hfin _ _)
def XX3_begin (ty : rb_Row) (tf : rb_Row) (c1 : rb_Row) (x0 : Int32) (x1 : Int32) : Option (rb_Row × rb_Row) := (rb_pf tf 4 x0).bind fun tf1 => (rb_pf tf1 5 x1).bind fun tf3 => (rb_rd c1 773 (569 + (tf3 4))).bind fun v5 => (rb_rd c1 773 (569 + (tf3 5))).bind fun v7 => (rb_pf tf3 6 (v5 + v7)).bind fun tf9 => (rb_lp (ρ := rb_Row) (fun (s11 : Int32 × rb_Row) => if 5 ≤ s11.1 then some (.inr s11.2) else (rb_wr s11.2 5 s11.1 0).bind fun ty20 => some (.inl ((s11.1 + 1), ty20))) 100000 (0, ty)).bind fun q12 => some (q12, tf9)
set_option maxHeartbeats 4000000 in
set_option maxRecDepth 20000 in
theorem ct_X3_begin (μ : rb_Mem) (ty : rb_Row) (tf : rb_Row) (c1 : rb_Row) (x0 : Int32) (x1 : Int32) (o : rb_Row × rb_Row) (hty : μ 17 = ty) (htf : μ 15 = tf) (hc1 : μ 11 = c1) (h : XX3_begin ty tf c1 x0 x1 = some o) : rb_Ct yX3_begin cX3_begin 4 none 0 [.inr 15, .inl x0, .inl x1] μ none (rb_ov μ [(17, o.1), (15, o.2)]) := by
  unfold XX3_begin at h
  have hini : rb_ov μ [(17, ty), (15, tf), (11, c1)] = μ := rb_ov_sf _ _ (And.intro hty (And.intro htf (And.intro hc1 True.intro)))
  have hfin : ∀ u0 u1 : rb_Row, rb_ov μ [(17, u0), (15, u1), (11, c1)] = rb_ov μ [(17, u0), (15, u1)] := fun u0 u1 => rb_ov_ap _ [(17, u0), (15, u1)] _ (And.intro hc1 True.intro)
  refine rb_ctv (w := [(17, ty), (15, tf), (11, c1)]) rfl pn_3 (Nat.le_of_ble_eq_true rfl) rfl hini ?_
  obtain ⟨tf1, e2, h⟩ := rb_bd h
  obtain ⟨tf3, e4, h⟩ := rb_bd h
  obtain ⟨v5, e6, h⟩ := rb_bd h
  obtain ⟨v7, e8, h⟩ := rb_bd h
  obtain ⟨tf9, e10, h⟩ := rb_bd h
  refine ev_aload_n (v := 15) (pc := 0) dX3_begin_0 rfl ?_
  refine ev_iload_n (v := x0) (pc := 1) dX3_begin_1 rfl ?_
  refine ev_putw (w' := [(17, ty), (15, tf1), (11, c1)]) (pc := 2) dX3_begin_2 fp_RX3_25 rfl rfl e2 rfl ?_
  refine ev_aload_n (v := 15) (pc := 5) dX3_begin_5 rfl ?_
  refine ev_iload_n (v := x1) (pc := 6) dX3_begin_6 rfl ?_
  refine ev_putw (w' := [(17, ty), (15, tf3), (11, c1)]) (pc := 7) dX3_begin_7 fp_RX3_29 rfl rfl e4 rfl ?_
  refine ev_aload_n (v := 15) (pc := 10) dX3_begin_10 rfl ?_
  refine ev_aload_n (v := 15) (pc := 11) dX3_begin_11 rfl ?_
  refine ev_getr (q := 11) (pc := 12) dX3_begin_12 fl_RX3_15 rfl rfl ?_
  refine ev_sipush (v := 569) (pc := 15) dX3_begin_15 ks_569 ?_
  refine ev_aload_n (v := 15) (pc := 18) dX3_begin_18 rfl ?_
  refine ev_geti (v := (tf3 4)) (pc := 19) dX3_begin_19 fl_RX3_25 rfl rfl rfl ?_
  refine ev_iadd (pc := 22) dX3_begin_22 ?_
  refine ev_iald (pc := 23) dX3_begin_23 rfl e6 ?_
  refine ev_aload_n (v := 15) (pc := 24) dX3_begin_24 rfl ?_
  refine ev_getr (q := 11) (pc := 25) dX3_begin_25 fl_RX3_15 rfl rfl ?_
  refine ev_sipush (v := 569) (pc := 28) dX3_begin_28 ks_569 ?_
  refine ev_aload_n (v := 15) (pc := 31) dX3_begin_31 rfl ?_
  refine ev_geti (v := (tf3 5)) (pc := 32) dX3_begin_32 fl_RX3_29 rfl rfl rfl ?_
  refine ev_iadd (pc := 35) dX3_begin_35 ?_
  refine ev_iald (pc := 36) dX3_begin_36 rfl e8 ?_
  refine ev_iadd (pc := 37) dX3_begin_37 ?_
  refine ev_putw (w' := [(17, ty), (15, tf9), (11, c1)]) (pc := 38) dX3_begin_38 fp_RX3_32 rfl rfl e10 rfl ?_
  refine ev_iconst (v := 0) (pc := 41) dX3_begin_41 ki_0 ?_
  refine ev_istore_n (L' := [some (.inr 15), some (.inl x0), some (.inl x1), some (.inl 0)]) (pc := 42) dX3_begin_42 (Nat.le_of_ble_eq_true rfl) rfl ?_
  obtain ⟨q12, l13, h⟩ := rb_bd h
  have hx17 : rb_Ev RX3 cX3_begin 4 none none 0 none (rb_ov μ [(17, o.1), (15, o.2)]) 61 [none, none, none, none] [] (rb_ov μ [(17, q12), (15, tf9), (11, c1)]) := by
    obtain rfl := Option.some.inj h
    exact ev_ret (pc := 61) dX3_begin_61 rfl rfl (hfin _ _)
  refine ev_fg (L := [some (.inr 15), none, none, some (.inl 0)]) (And.intro rfl (And.intro rfl True.intro)) ?_
  refine rb_lp_ev (P := fun (s11 : Int32 × rb_Row) => rb_Ev RX3 cX3_begin 4 none none 0 none (rb_ov μ [(17, o.1), (15, o.2)]) 43 [some (.inr 15), none, none, some (.inl s11.1)] [] (rb_ov μ [(17, s11.2), (15, tf9), (11, c1)])) ?_ 100000 (0, ty) l13
  intro s11 y14 h ih15 hE16
  refine ev_iload_n (v := s11.1) (pc := 43) dX3_begin_43 rfl ?_
  refine ev_iconst (v := 5) (pc := 44) dX3_begin_44 ki_5 ?_
  by_cases b19 : 5 ≤ s11.1
  · rw [if_pos b19] at h
    refine ev_icmp_ge_t (t := 61) (pc := 45) dX3_begin_45 (by decide) b19 ?_
    obtain rfl := Option.some.inj h
    obtain rfl := hE16 _ rfl
    exact ev_fg (L := [none, none, none, none]) True.intro (hx17)
  · rw [if_neg b19] at h
    refine ev_icmp_ge_f (t := 61) (pc := 45) dX3_begin_45 (by decide) b19 ?_
    obtain ⟨ty20, e21, h⟩ := rb_bd h
    refine ev_aload_n (v := 15) (pc := 48) dX3_begin_48 rfl ?_
    refine ev_getr (q := 17) (pc := 49) dX3_begin_49 fl_RX3_22 rfl rfl ?_
    refine ev_iload_n (v := s11.1) (pc := 52) dX3_begin_52 rfl ?_
    refine ev_iconst (v := 0) (pc := 53) dX3_begin_53 ki_0 ?_
    refine ev_iast (w' := [(17, ty20), (15, tf9), (11, c1)]) (pc := 54) dX3_begin_54 rfl e21 rfl ?_
    refine ev_iinc (x := s11.1) (v := (s11.1 + 1)) (L' := [some (.inr 15), none, none, some (.inl (s11.1 + 1))]) (pc := 55) dX3_begin_55 rfl (kx_1 _) (Nat.le_of_ble_eq_true rfl) rfl ?_
    refine ev_goto (t := 43) (pc := 58) dX3_begin_58 (by decide) ?_
    obtain rfl := Option.some.inj h
    exact ih15 ((s11.1 + 1), ty20) rfl
def XX3_tallyOf (ty : rb_Row) (x0 : Int32) : Option (Int32) := if x0 < 0 then some (-1) else if 5 ≤ x0 then some (-1) else (rb_rd ty 5 x0).bind fun v3 => some v3
set_option maxHeartbeats 4000000 in
set_option maxRecDepth 20000 in
theorem ct_X3_tallyOf (μ : rb_Mem) (ty : rb_Row) (x0 : Int32) (o : Int32) (hty : μ 17 = ty) (h : XX3_tallyOf ty x0 = some o) : rb_Ct yX3_tallyOf cX3_tallyOf 2 (some .int) 0 [.inr 15, .inl x0] μ (some o) μ := by
  unfold XX3_tallyOf at h
  have hini : rb_ov μ [(17, ty)] = μ := rb_ov_sf _ _ (And.intro hty True.intro)
  have hfin := hini
  refine rb_cti (w := [(17, ty)]) rfl pn_3 (Nat.le_of_ble_eq_true rfl) rfl hini ?_
  refine ev_iload_n (v := x0) (pc := 0) dX3_tallyOf_0 rfl ?_
  by_cases b1 : x0 < 0
  · rw [if_pos b1] at h
    refine ev_if_lt_t (t := 18) (pc := 1) dX3_tallyOf_1 (by decide) b1 ?_
    refine ev_iconst (v := (-1)) (pc := 18) dX3_tallyOf_18 ki_m1 ?_
    obtain rfl := Option.some.inj h
    exact ev_iret (pc := 19) dX3_tallyOf_19 rfl rfl rfl hfin
  · rw [if_neg b1] at h
    refine ev_if_lt_f (t := 18) (pc := 1) dX3_tallyOf_1 (by decide) b1 ?_
    refine ev_iload_n (v := x0) (pc := 4) dX3_tallyOf_4 rfl ?_
    refine ev_iconst (v := 5) (pc := 5) dX3_tallyOf_5 ki_5 ?_
    by_cases b2 : 5 ≤ x0
    · rw [if_pos b2] at h
      refine ev_icmp_ge_t (t := 18) (pc := 6) dX3_tallyOf_6 (by decide) b2 ?_
      refine ev_iconst (v := (-1)) (pc := 18) dX3_tallyOf_18 ki_m1 ?_
      obtain rfl := Option.some.inj h
      exact ev_iret (pc := 19) dX3_tallyOf_19 rfl rfl rfl hfin
    · rw [if_neg b2] at h
      refine ev_icmp_ge_f (t := 18) (pc := 6) dX3_tallyOf_6 (by decide) b2 ?_
      obtain ⟨v3, e4, h⟩ := rb_bd h
      refine ev_aload_n (v := 15) (pc := 9) dX3_tallyOf_9 rfl ?_
      refine ev_getr (q := 17) (pc := 10) dX3_tallyOf_10 fl_RX3_22 rfl rfl ?_
      refine ev_iload_n (v := x0) (pc := 13) dX3_tallyOf_13 rfl ?_
      refine ev_iald (pc := 14) dX3_tallyOf_14 rfl e4 ?_
      refine ev_goto (t := 19) (pc := 15) dX3_tallyOf_15 (by decide) ?_
      obtain rfl := Option.some.inj h
      exact ev_iret (pc := 19) dX3_tallyOf_19 rfl rfl rfl hfin
def XX3_missesSome (c1 : rb_Row) (x0 : Int32) : Option (Int32) := (rb_rd c1 773 (539 + x0)).bind fun v1 => if v1 < 0 then some (rb_nz 0) else (XX1_ready 5 c1 v1 0).bind fun t4 => if t4 = 0 then some (rb_nz 0) else some (rb_nz 1)
set_option maxHeartbeats 4000000 in
set_option maxRecDepth 20000 in
theorem ct_X3_missesSome (μ : rb_Mem) (c1 : rb_Row) (x0 : Int32) (o : Int32) (hc1 : μ 11 = c1) (h : XX3_missesSome c1 x0 = some o) : rb_Ct yX3_missesSome cX3_missesSome 3 (some .boolean) 6 [.inr 15, .inl x0] μ (some o) μ := by
  unfold XX3_missesSome at h
  have hini : rb_ov μ [(11, c1)] = μ := rb_ov_sf _ _ (And.intro hc1 True.intro)
  have hfin := hini
  refine rb_ctz (w := [(11, c1)]) rfl pn_3 (Nat.le_of_ble_eq_true rfl) rfl hini ?_
  obtain ⟨v1, e2, h⟩ := rb_bd h
  refine ev_aload_n (v := 15) (pc := 0) dX3_missesSome_0 rfl ?_
  refine ev_getr (q := 11) (pc := 1) dX3_missesSome_1 fl_RX3_15 rfl rfl ?_
  refine ev_sipush (v := 539) (pc := 4) dX3_missesSome_4 ks_539 ?_
  refine ev_iload_n (v := x0) (pc := 7) dX3_missesSome_7 rfl ?_
  refine ev_iadd (pc := 8) dX3_missesSome_8 ?_
  refine ev_iald (pc := 9) dX3_missesSome_9 rfl e2 ?_
  refine ev_istore_n (L' := [some (.inr 15), some (.inl x0), some (.inl v1)]) (pc := 10) dX3_missesSome_10 (Nat.le_of_ble_eq_true rfl) rfl ?_
  refine ev_iload_n (v := v1) (pc := 11) dX3_missesSome_11 rfl ?_
  by_cases b3 : v1 < 0
  · rw [if_pos b3] at h
    refine ev_if_lt_t (t := 34) (pc := 12) dX3_missesSome_12 (by decide) b3 ?_
    refine ev_iconst (v := 0) (pc := 34) dX3_missesSome_34 ki_0 ?_
    obtain rfl := Option.some.inj h
    exact ev_iret (pc := 35) dX3_missesSome_35 rfl rfl rfl hfin
  · rw [if_neg b3] at h
    refine ev_if_lt_f (t := 34) (pc := 12) dX3_missesSome_12 (by decide) b3 ?_
    obtain ⟨t4, e5, h⟩ := rb_bd h
    refine ev_aload_n (v := 15) (pc := 15) dX3_missesSome_15 rfl ?_
    refine ev_getr (q := 7) (pc := 16) dX3_missesSome_16 fl_RX3_9 rfl rfl ?_
    refine ev_getr (q := 9) (pc := 19) dX3_missesSome_19 fl_RX3_76 rfl rfl ?_
    refine ev_iload_n (v := v1) (pc := 22) dX3_missesSome_22 rfl ?_
    refine ev_iconst (v := 0) (pc := 23) dX3_missesSome_23 ki_0 ?_
    refine ev_cVi2 (pc := 24) dX3_missesSome_24 mv_X1_ready lk_RX3_80 rp_9 (ct1_X1_ready 5 _ _ _ _ _ rfl e5) (Nat.le_of_ble_eq_true rfl) (Nat.le_of_ble_eq_true rfl) ?_
    by_cases b6 : t4 = 0
    · rw [if_pos b6] at h
      refine ev_if_eq_t (t := 34) (pc := 27) dX3_missesSome_27 (by decide) b6 ?_
      refine ev_iconst (v := 0) (pc := 34) dX3_missesSome_34 ki_0 ?_
      obtain rfl := Option.some.inj h
      exact ev_iret (pc := 35) dX3_missesSome_35 rfl rfl rfl hfin
    · rw [if_neg b6] at h
      refine ev_if_eq_f (t := 34) (pc := 27) dX3_missesSome_27 (by decide) b6 ?_
      refine ev_iconst (v := 1) (pc := 30) dX3_missesSome_30 ki_1 ?_
      refine ev_goto (t := 35) (pc := 31) dX3_missesSome_31 (by decide) ?_
      obtain rfl := Option.some.inj h
      exact ev_iret (pc := 35) dX3_missesSome_35 rfl rfl rfl hfin
def XX3_countEnd (ty : rb_Row) (c1 : rb_Row) (tf : rb_Row) : Option (rb_Row) := (rb_rd c1 773 (569 + (tf 4))).bind fun v1 => (rb_rd c1 773 (569 + (tf 5))).bind fun v3 => (rb_rd ty 5 0).bind fun v5 => ((if v5 = 0 then some ((v1 + v3) - (tf 6)) else (rb_rd ty 5 3).bind fun v11 => some (rb_min v11 ((v1 + v3) - (tf 6)))) : Option (Int32)).bind fun j7 => (rb_wr ty 5 3 j7).bind fun ty13 => (rb_rd ty13 5 4).bind fun v15 => (rb_wr ty13 5 4 (rb_max v15 ((v1 + v3) - (tf 6)))).bind fun ty17 => (rb_rd ty17 5 0).bind fun v19 => (rb_wr ty17 5 0 (v19 + 1)).bind fun ty21 => (rb_rd c1 773 (539 + (tf 4))).bind fun v23 => ((if 0 ≤ v23 then (rb_rd ty21 5 1).bind fun v29 => (rb_wr ty21 5 1 (v29 + 1)).bind fun ty31 => some ty31 else (rb_rd c1 773 (539 + (tf 5))).bind fun v33 => if v33 < 0 then some ty21 else (rb_rd ty21 5 1).bind fun v36 => (rb_wr ty21 5 1 (v36 + 1)).bind fun ty38 => some ty38) : Option (rb_Row)).bind fun j25 => (XX3_missesSome c1 (tf 4)).bind fun t40 => if t40 = 0 then (XX3_missesSome c1 (tf 5)).bind fun t43 => if t43 = 0 then some j25 else (rb_rd j25 5 2).bind fun v46 => (rb_wr j25 5 2 (v46 + 1)).bind fun ty48 => some ty48 else (rb_rd j25 5 2).bind fun v50 => (rb_wr j25 5 2 (v50 + 1)).bind fun ty52 => some ty52
set_option maxHeartbeats 4000000 in
set_option maxRecDepth 20000 in
theorem ct_X3_countEnd (μ : rb_Mem) (ty : rb_Row) (c1 : rb_Row) (tf : rb_Row) (o : rb_Row) (hty : μ 17 = ty) (hc1 : μ 11 = c1) (htf : μ 15 = tf) (h : XX3_countEnd ty c1 tf = some o) : rb_Ct yX3_countEnd cX3_countEnd 2 none 7 [.inr 15] μ none (rb_ov μ [(17, o)]) := by
  unfold XX3_countEnd at h
  have hini : rb_ov μ [(17, ty), (11, c1), (15, tf)] = μ := rb_ov_sf _ _ (And.intro hty (And.intro hc1 (And.intro htf True.intro)))
  have hfin : ∀ u0 : rb_Row, rb_ov μ [(17, u0), (11, c1), (15, tf)] = rb_ov μ [(17, u0)] := fun u0 => rb_ov_ap _ [(17, u0)] _ (And.intro hc1 (And.intro htf True.intro))
  refine rb_ctv (w := [(17, ty), (11, c1), (15, tf)]) rfl pn_3 (Nat.le_of_ble_eq_true rfl) rfl hini ?_
  obtain ⟨v1, e2, h⟩ := rb_bd h
  obtain ⟨v3, e4, h⟩ := rb_bd h
  obtain ⟨v5, e6, h⟩ := rb_bd h
  refine ev_aload_n (v := 15) (pc := 0) dX3_countEnd_0 rfl ?_
  refine ev_getr (q := 11) (pc := 1) dX3_countEnd_1 fl_RX3_15 rfl rfl ?_
  refine ev_sipush (v := 569) (pc := 4) dX3_countEnd_4 ks_569 ?_
  refine ev_aload_n (v := 15) (pc := 7) dX3_countEnd_7 rfl ?_
  refine ev_geti (v := (tf 4)) (pc := 8) dX3_countEnd_8 fl_RX3_25 rfl rfl rfl ?_
  refine ev_iadd (pc := 11) dX3_countEnd_11 ?_
  refine ev_iald (pc := 12) dX3_countEnd_12 rfl e2 ?_
  refine ev_aload_n (v := 15) (pc := 13) dX3_countEnd_13 rfl ?_
  refine ev_getr (q := 11) (pc := 14) dX3_countEnd_14 fl_RX3_15 rfl rfl ?_
  refine ev_sipush (v := 569) (pc := 17) dX3_countEnd_17 ks_569 ?_
  refine ev_aload_n (v := 15) (pc := 20) dX3_countEnd_20 rfl ?_
  refine ev_geti (v := (tf 5)) (pc := 21) dX3_countEnd_21 fl_RX3_29 rfl rfl rfl ?_
  refine ev_iadd (pc := 24) dX3_countEnd_24 ?_
  refine ev_iald (pc := 25) dX3_countEnd_25 rfl e4 ?_
  refine ev_iadd (pc := 26) dX3_countEnd_26 ?_
  refine ev_aload_n (v := 15) (pc := 27) dX3_countEnd_27 rfl ?_
  refine ev_geti (v := (tf 6)) (pc := 28) dX3_countEnd_28 fl_RX3_32 rfl rfl rfl ?_
  refine ev_isub (pc := 31) dX3_countEnd_31 ?_
  refine ev_istore_n (L' := [some (.inr 15), some (.inl ((v1 + v3) - (tf 6)))]) (pc := 32) dX3_countEnd_32 (Nat.le_of_ble_eq_true rfl) rfl ?_
  refine ev_aload_n (v := 15) (pc := 33) dX3_countEnd_33 rfl ?_
  refine ev_getr (q := 17) (pc := 34) dX3_countEnd_34 fl_RX3_22 rfl rfl ?_
  refine ev_iconst (v := 3) (pc := 37) dX3_countEnd_37 ki_3 ?_
  refine ev_aload_n (v := 15) (pc := 38) dX3_countEnd_38 rfl ?_
  refine ev_getr (q := 17) (pc := 39) dX3_countEnd_39 fl_RX3_22 rfl rfl ?_
  refine ev_iconst (v := 0) (pc := 42) dX3_countEnd_42 ki_0 ?_
  refine ev_iald (pc := 43) dX3_countEnd_43 rfl e6 ?_
  obtain ⟨j7, e8, h⟩ := rb_bd h
  have hj9 : rb_Ev RX3 cX3_countEnd 2 none none 7 none (rb_ov μ [(17, o)]) 61 [some (.inr 15), some (.inl ((v1 + v3) - (tf 6)))] [.inl j7, .inl 3, .inr 17] (rb_ov μ [(17, ty), (11, c1), (15, tf)]) := by
    obtain ⟨ty13, e14, h⟩ := rb_bd h
    obtain ⟨v15, e16, h⟩ := rb_bd h
    obtain ⟨ty17, e18, h⟩ := rb_bd h
    obtain ⟨v19, e20, h⟩ := rb_bd h
    obtain ⟨ty21, e22, h⟩ := rb_bd h
    obtain ⟨v23, e24, h⟩ := rb_bd h
    refine ev_iast (w' := [(17, ty13), (11, c1), (15, tf)]) (pc := 61) dX3_countEnd_61 rfl e14 rfl ?_
    refine ev_aload_n (v := 15) (pc := 62) dX3_countEnd_62 rfl ?_
    refine ev_getr (q := 17) (pc := 63) dX3_countEnd_63 fl_RX3_22 rfl rfl ?_
    refine ev_iconst (v := 4) (pc := 66) dX3_countEnd_66 ki_4 ?_
    refine ev_aload_n (v := 15) (pc := 67) dX3_countEnd_67 rfl ?_
    refine ev_getr (q := 17) (pc := 68) dX3_countEnd_68 fl_RX3_22 rfl rfl ?_
    refine ev_iconst (v := 4) (pc := 71) dX3_countEnd_71 ki_4 ?_
    refine ev_iald (pc := 72) dX3_countEnd_72 rfl e16 ?_
    refine ev_iload_n (v := ((v1 + v3) - (tf 6))) (pc := 73) dX3_countEnd_73 rfl ?_
    refine ev_max (pc := 74) dX3_countEnd_74 lk_RX3_70 (Nat.le_of_ble_eq_true rfl) (Nat.le_of_ble_eq_true rfl) ?_
    refine ev_iast (w' := [(17, ty17), (11, c1), (15, tf)]) (pc := 77) dX3_countEnd_77 rfl e18 rfl ?_
    refine ev_aload_n (v := 15) (pc := 78) dX3_countEnd_78 rfl ?_
    refine ev_getr (q := 17) (pc := 79) dX3_countEnd_79 fl_RX3_22 rfl rfl ?_
    refine ev_iconst (v := 0) (pc := 82) dX3_countEnd_82 ki_0 ?_
    refine ev_dup2 (pc := 83) dX3_countEnd_83 ?_
    refine ev_iald (pc := 84) dX3_countEnd_84 rfl e20 ?_
    refine ev_iconst (v := 1) (pc := 85) dX3_countEnd_85 ki_1 ?_
    refine ev_iadd (pc := 86) dX3_countEnd_86 ?_
    refine ev_iast (w' := [(17, ty21), (11, c1), (15, tf)]) (pc := 87) dX3_countEnd_87 rfl e22 rfl ?_
    refine ev_aload_n (v := 15) (pc := 88) dX3_countEnd_88 rfl ?_
    refine ev_getr (q := 11) (pc := 89) dX3_countEnd_89 fl_RX3_15 rfl rfl ?_
    refine ev_sipush (v := 539) (pc := 92) dX3_countEnd_92 ks_539 ?_
    refine ev_aload_n (v := 15) (pc := 95) dX3_countEnd_95 rfl ?_
    refine ev_geti (v := (tf 4)) (pc := 96) dX3_countEnd_96 fl_RX3_25 rfl rfl rfl ?_
    refine ev_iadd (pc := 99) dX3_countEnd_99 ?_
    refine ev_iald (pc := 100) dX3_countEnd_100 rfl e24 ?_
    obtain ⟨j25, e26, h⟩ := rb_bd h
    have hj27 : rb_Ev RX3 cX3_countEnd 2 none none 7 none (rb_ov μ [(17, o)]) 130 [some (.inr 15), none] [] (rb_ov μ [(17, j25), (11, c1), (15, tf)]) := by
      obtain ⟨t40, e41, h⟩ := rb_bd h
      refine ev_aload_n (v := 15) (pc := 130) dX3_countEnd_130 rfl ?_
      refine ev_aload_n (v := 15) (pc := 131) dX3_countEnd_131 rfl ?_
      refine ev_geti (v := (tf 4)) (pc := 132) dX3_countEnd_132 fl_RX3_25 rfl rfl rfl ?_
      refine ev_cVi1 (pc := 135) dX3_countEnd_135 mv_X3_missesSome lk_RX3_73 rp_15 (ct_X3_missesSome _ _ _ _ rfl e41) (Nat.le_of_ble_eq_true rfl) (Nat.le_of_ble_eq_true rfl) ?_
      by_cases b42 : t40 = 0
      · rw [if_pos b42] at h
        refine ev_if_ne_f (t := 152) (pc := 138) dX3_countEnd_138 (by decide) b42 ?_
        obtain ⟨t43, e44, h⟩ := rb_bd h
        refine ev_aload_n (v := 15) (pc := 141) dX3_countEnd_141 rfl ?_
        refine ev_aload_n (v := 15) (pc := 142) dX3_countEnd_142 rfl ?_
        refine ev_geti (v := (tf 5)) (pc := 143) dX3_countEnd_143 fl_RX3_29 rfl rfl rfl ?_
        refine ev_cVi1 (pc := 146) dX3_countEnd_146 mv_X3_missesSome lk_RX3_73 rp_15 (ct_X3_missesSome _ _ _ _ rfl e44) (Nat.le_of_ble_eq_true rfl) (Nat.le_of_ble_eq_true rfl) ?_
        by_cases b45 : t43 = 0
        · rw [if_pos b45] at h
          refine ev_if_eq_t (t := 162) (pc := 149) dX3_countEnd_149 (by decide) b45 ?_
          obtain rfl := Option.some.inj h
          exact ev_ret (pc := 162) dX3_countEnd_162 rfl rfl (hfin _)
        · rw [if_neg b45] at h
          refine ev_if_eq_f (t := 162) (pc := 149) dX3_countEnd_149 (by decide) b45 ?_
          obtain ⟨v46, e47, h⟩ := rb_bd h
          obtain ⟨ty48, e49, h⟩ := rb_bd h
          refine ev_aload_n (v := 15) (pc := 152) dX3_countEnd_152 rfl ?_
          refine ev_getr (q := 17) (pc := 153) dX3_countEnd_153 fl_RX3_22 rfl rfl ?_
          refine ev_iconst (v := 2) (pc := 156) dX3_countEnd_156 ki_2 ?_
          refine ev_dup2 (pc := 157) dX3_countEnd_157 ?_
          refine ev_iald (pc := 158) dX3_countEnd_158 rfl e47 ?_
          refine ev_iconst (v := 1) (pc := 159) dX3_countEnd_159 ki_1 ?_
          refine ev_iadd (pc := 160) dX3_countEnd_160 ?_
          refine ev_iast (w' := [(17, ty48), (11, c1), (15, tf)]) (pc := 161) dX3_countEnd_161 rfl e49 rfl ?_
          obtain rfl := Option.some.inj h
          exact ev_ret (pc := 162) dX3_countEnd_162 rfl rfl (hfin _)
      · rw [if_neg b42] at h
        refine ev_if_ne_t (t := 152) (pc := 138) dX3_countEnd_138 (by decide) b42 ?_
        obtain ⟨v50, e51, h⟩ := rb_bd h
        obtain ⟨ty52, e53, h⟩ := rb_bd h
        refine ev_aload_n (v := 15) (pc := 152) dX3_countEnd_152 rfl ?_
        refine ev_getr (q := 17) (pc := 153) dX3_countEnd_153 fl_RX3_22 rfl rfl ?_
        refine ev_iconst (v := 2) (pc := 156) dX3_countEnd_156 ki_2 ?_
        refine ev_dup2 (pc := 157) dX3_countEnd_157 ?_
        refine ev_iald (pc := 158) dX3_countEnd_158 rfl e51 ?_
        refine ev_iconst (v := 1) (pc := 159) dX3_countEnd_159 ki_1 ?_
        refine ev_iadd (pc := 160) dX3_countEnd_160 ?_
        refine ev_iast (w' := [(17, ty52), (11, c1), (15, tf)]) (pc := 161) dX3_countEnd_161 rfl e53 rfl ?_
        obtain rfl := Option.some.inj h
        exact ev_ret (pc := 162) dX3_countEnd_162 rfl rfl (hfin _)
    replace h := e26
    by_cases b28 : 0 ≤ v23
    · rw [if_pos b28] at h
      refine ev_if_ge_t (t := 120) (pc := 101) dX3_countEnd_101 (by decide) b28 ?_
      obtain ⟨v29, e30, h⟩ := rb_bd h
      obtain ⟨ty31, e32, h⟩ := rb_bd h
      refine ev_aload_n (v := 15) (pc := 120) dX3_countEnd_120 rfl ?_
      refine ev_getr (q := 17) (pc := 121) dX3_countEnd_121 fl_RX3_22 rfl rfl ?_
      refine ev_iconst (v := 1) (pc := 124) dX3_countEnd_124 ki_1 ?_
      refine ev_dup2 (pc := 125) dX3_countEnd_125 ?_
      refine ev_iald (pc := 126) dX3_countEnd_126 rfl e30 ?_
      refine ev_iconst (v := 1) (pc := 127) dX3_countEnd_127 ki_1 ?_
      refine ev_iadd (pc := 128) dX3_countEnd_128 ?_
      refine ev_iast (w' := [(17, ty31), (11, c1), (15, tf)]) (pc := 129) dX3_countEnd_129 rfl e32 rfl ?_
      obtain rfl := Option.some.inj h
      exact ev_fg (L := [some (.inr 15), none]) (And.intro rfl True.intro) (hj27)
    · rw [if_neg b28] at h
      refine ev_if_ge_f (t := 120) (pc := 101) dX3_countEnd_101 (by decide) b28 ?_
      obtain ⟨v33, e34, h⟩ := rb_bd h
      refine ev_aload_n (v := 15) (pc := 104) dX3_countEnd_104 rfl ?_
      refine ev_getr (q := 11) (pc := 105) dX3_countEnd_105 fl_RX3_15 rfl rfl ?_
      refine ev_sipush (v := 539) (pc := 108) dX3_countEnd_108 ks_539 ?_
      refine ev_aload_n (v := 15) (pc := 111) dX3_countEnd_111 rfl ?_
      refine ev_geti (v := (tf 5)) (pc := 112) dX3_countEnd_112 fl_RX3_29 rfl rfl rfl ?_
      refine ev_iadd (pc := 115) dX3_countEnd_115 ?_
      refine ev_iald (pc := 116) dX3_countEnd_116 rfl e34 ?_
      by_cases b35 : v33 < 0
      · rw [if_pos b35] at h
        refine ev_if_lt_t (t := 130) (pc := 117) dX3_countEnd_117 (by decide) b35 ?_
        obtain rfl := Option.some.inj h
        exact ev_fg (L := [some (.inr 15), none]) (And.intro rfl True.intro) (hj27)
      · rw [if_neg b35] at h
        refine ev_if_lt_f (t := 130) (pc := 117) dX3_countEnd_117 (by decide) b35 ?_
        obtain ⟨v36, e37, h⟩ := rb_bd h
        obtain ⟨ty38, e39, h⟩ := rb_bd h
        refine ev_aload_n (v := 15) (pc := 120) dX3_countEnd_120 rfl ?_
        refine ev_getr (q := 17) (pc := 121) dX3_countEnd_121 fl_RX3_22 rfl rfl ?_
        refine ev_iconst (v := 1) (pc := 124) dX3_countEnd_124 ki_1 ?_
        refine ev_dup2 (pc := 125) dX3_countEnd_125 ?_
        refine ev_iald (pc := 126) dX3_countEnd_126 rfl e37 ?_
        refine ev_iconst (v := 1) (pc := 127) dX3_countEnd_127 ki_1 ?_
        refine ev_iadd (pc := 128) dX3_countEnd_128 ?_
        refine ev_iast (w' := [(17, ty38), (11, c1), (15, tf)]) (pc := 129) dX3_countEnd_129 rfl e39 rfl ?_
        obtain rfl := Option.some.inj h
        exact ev_fg (L := [some (.inr 15), none]) (And.intro rfl True.intro) (hj27)
  replace h := e8
  by_cases b10 : v5 = 0
  · rw [if_pos b10] at h
    refine ev_if_ne_f (t := 51) (pc := 44) dX3_countEnd_44 (by decide) b10 ?_
    refine ev_iload_n (v := ((v1 + v3) - (tf 6))) (pc := 47) dX3_countEnd_47 rfl ?_
    refine ev_goto (t := 61) (pc := 48) dX3_countEnd_48 (by decide) ?_
    obtain rfl := Option.some.inj h
    exact hj9
  · rw [if_neg b10] at h
    refine ev_if_ne_t (t := 51) (pc := 44) dX3_countEnd_44 (by decide) b10 ?_
    obtain ⟨v11, e12, h⟩ := rb_bd h
    refine ev_aload_n (v := 15) (pc := 51) dX3_countEnd_51 rfl ?_
    refine ev_getr (q := 17) (pc := 52) dX3_countEnd_52 fl_RX3_22 rfl rfl ?_
    refine ev_iconst (v := 3) (pc := 55) dX3_countEnd_55 ki_3 ?_
    refine ev_iald (pc := 56) dX3_countEnd_56 rfl e12 ?_
    refine ev_iload_n (v := ((v1 + v3) - (tf 6))) (pc := 57) dX3_countEnd_57 rfl ?_
    refine ev_min (pc := 58) dX3_countEnd_58 lk_RX3_64 (Nat.le_of_ble_eq_true rfl) (Nat.le_of_ble_eq_true rfl) ?_
    obtain rfl := Option.some.inj h
    exact hj9
def XX3_explore : Nat → rb_Row → rb_Row → rb_Row → rb_Row → rb_Row → rb_Row → Int32 → Option (rb_Row × rb_Row × rb_Row × rb_Row × rb_Row)
  | 0, _, _, _, _, _, _, _ => none
  | n + 1, c1, g1, f1, tr, ty, tf, x0 => (rb_lp (ρ := Int32 × rb_Row × rb_Row × rb_Row × rb_Row × rb_Row) (fun (s1 : Int32 × Int32 × rb_Row × rb_Row × rb_Row × rb_Row × rb_Row) => if 2 ≤ s1.2.1 then some (.inr (s1.1, s1.2.2.1, s1.2.2.2.1, s1.2.2.2.2.1, s1.2.2.2.2.2.1, s1.2.2.2.2.2.2)) else if 8 ≤ x0 then some (.inr (s1.1, s1.2.2.1, s1.2.2.2.1, s1.2.2.2.2.1, s1.2.2.2.2.2.1, s1.2.2.2.2.2.2)) else ((if s1.2.1 = 0 then some (tf 4) else some (tf 5)) : Option (Int32)).bind fun j11 => (XX4_canGo s1.2.2.1 j11).bind fun t15 => ((if t15 = 0 then some (s1.1, s1.2.2.1, s1.2.2.2.1, s1.2.2.2.2.1, s1.2.2.2.2.2.1, s1.2.2.2.2.2.2) else (rb_cp s1.2.2.1 773 0 s1.2.2.2.2.2.1 6184 (x0 * 773) 773).bind fun tr21 => (XX0_doStep s1.2.2.1 s1.2.2.2.1 s1.2.2.2.2.1 j11).bind fun t23 => (XX3_explore n t23.2.1 t23.2.2.1 t23.2.2.2 tr21 s1.2.2.2.2.2.2 tf (x0 + 1)).bind fun t25 => (rb_cp t25.2.2.2.1 6184 (x0 * 773) t25.1 773 0 773).bind fun c127 => some (1, c127, t25.2.1, t25.2.2.1, t25.2.2.2.1, t25.2.2.2.2)) : Option (Int32 × rb_Row × rb_Row × rb_Row × rb_Row × rb_Row)).bind fun j17 => some (.inl (j17.1, (s1.2.1 + 1), j17.2.1, j17.2.2.1, j17.2.2.2.1, j17.2.2.2.2.1, j17.2.2.2.2.2))) 100000 (0, 0, c1, g1, f1, tr, ty)).bind fun q2 => if q2.1 = 0 then (XX3_countEnd q2.2.2.2.2.2 q2.2.1 tf).bind fun t30 => some (q2.2.1, q2.2.2.1, q2.2.2.2.1, q2.2.2.2.2.1, t30) else some (q2.2.1, q2.2.2.1, q2.2.2.2.1, q2.2.2.2.2.1, q2.2.2.2.2.2)
set_option maxHeartbeats 4000000 in
set_option maxRecDepth 20000 in
theorem ct_X3_explore : ∀ (n : Nat) (μ : rb_Mem) (c1 : rb_Row) (g1 : rb_Row) (f1 : rb_Row) (tr : rb_Row) (ty : rb_Row) (tf : rb_Row) (x0 : Int32) (o : rb_Row × rb_Row × rb_Row × rb_Row × rb_Row) (hc1 : μ 11 = c1) (hg1 : μ 12 = g1) (hf1 : μ 7 = f1) (htr : μ 16 = tr) (hty : μ 17 = ty) (htf : μ 15 = tf) (h : XX3_explore n c1 g1 f1 tr ty tf x0 = some o), rb_Ct yX3_explore cX3_explore 5 none (17 + n) [.inr 15, .inl x0] μ none (rb_ov μ [(11, o.1), (12, o.2.1), (7, o.2.2.1), (16, o.2.2.2.1), (17, o.2.2.2.2)]) := by
  intro n
  induction n with
  | zero => intro μ c1 g1 f1 tr ty tf x0 o hc1 hg1 hf1 htr hty htf h; cases h
  | succ n ihn =>
    intro μ c1 g1 f1 tr ty tf x0 o hc1 hg1 hf1 htr hty htf h
    rw [XX3_explore] at h
    have hini : rb_ov μ [(11, c1), (12, g1), (7, f1), (16, tr), (17, ty), (15, tf)] = μ := rb_ov_sf _ _ (And.intro hc1 (And.intro hg1 (And.intro hf1 (And.intro htr (And.intro hty (And.intro htf True.intro))))))
    have hfin : ∀ u0 u1 u2 u3 u4 : rb_Row, rb_ov μ [(11, u0), (12, u1), (7, u2), (16, u3), (17, u4), (15, tf)] = rb_ov μ [(11, u0), (12, u1), (7, u2), (16, u3), (17, u4)] := fun u0 u1 u2 u3 u4 => rb_ov_ap _ [(11, u0), (12, u1), (7, u2), (16, u3), (17, u4)] _ (And.intro htf True.intro)
    refine rb_ctv (w := [(11, c1), (12, g1), (7, f1), (16, tr), (17, ty), (15, tf)]) rfl pn_3 (Nat.le_of_ble_eq_true rfl) rfl hini ?_
    refine ev_iconst (v := 0) (pc := 0) dX3_explore_0 ki_0 ?_
    refine ev_istore_n (L' := [some (.inr 15), some (.inl x0), some (.inl 0), none, none]) (pc := 1) dX3_explore_1 (Nat.le_of_ble_eq_true rfl) rfl ?_
    refine ev_iconst (v := 0) (pc := 2) dX3_explore_2 ki_0 ?_
    refine ev_istore_n (L' := [some (.inr 15), some (.inl x0), some (.inl 0), some (.inl 0), none]) (pc := 3) dX3_explore_3 (Nat.le_of_ble_eq_true rfl) rfl ?_
    obtain ⟨q2, l3, h⟩ := rb_bd h
    have hx7 : rb_Ev RX3 cX3_explore 5 none none (17 + (n + 1)) none (rb_ov μ [(11, o.1), (12, o.2.1), (7, o.2.2.1), (16, o.2.2.2.1), (17, o.2.2.2.2)]) 112 [some (.inr 15), none, some (.inl q2.1), none, none] [] (rb_ov μ [(11, q2.2.1), (12, q2.2.2.1), (7, q2.2.2.2.1), (16, q2.2.2.2.2.1), (17, q2.2.2.2.2.2), (15, tf)]) := by
      refine ev_iload_n (v := q2.1) (pc := 112) dX3_explore_112 rfl ?_
      by_cases b29 : q2.1 = 0
      · rw [if_pos b29] at h
        refine ev_if_ne_f (t := 120) (pc := 113) dX3_explore_113 (by decide) b29 ?_
        obtain ⟨t30, e31, h⟩ := rb_bd h
        refine ev_aload_n (v := 15) (pc := 116) dX3_explore_116 rfl ?_
        refine ev_cVv0w (w' := [(11, q2.2.1), (12, q2.2.2.1), (7, q2.2.2.2.1), (16, q2.2.2.2.2.1), (17, t30), (15, tf)]) (pc := 117) dX3_explore_117 mv_X3_countEnd lk_RX3_61 rp_15 (ct_X3_countEnd _ _ _ _ _ rfl rfl rfl e31) (by omega) (Nat.le_of_ble_eq_true rfl) rfl ?_
        obtain rfl := Option.some.inj h
        exact ev_ret (pc := 120) dX3_explore_120 rfl rfl (hfin _ _ _ _ _)
      · rw [if_neg b29] at h
        refine ev_if_ne_t (t := 120) (pc := 113) dX3_explore_113 (by decide) b29 ?_
        obtain rfl := Option.some.inj h
        exact ev_ret (pc := 120) dX3_explore_120 rfl rfl (hfin _ _ _ _ _)
    refine rb_lp_ev (P := fun (s1 : Int32 × Int32 × rb_Row × rb_Row × rb_Row × rb_Row × rb_Row) => rb_Ev RX3 cX3_explore 5 none none (17 + (n + 1)) none (rb_ov μ [(11, o.1), (12, o.2.1), (7, o.2.2.1), (16, o.2.2.2.1), (17, o.2.2.2.2)]) 4 [some (.inr 15), some (.inl x0), some (.inl s1.1), some (.inl s1.2.1), none] [] (rb_ov μ [(11, s1.2.2.1), (12, s1.2.2.2.1), (7, s1.2.2.2.2.1), (16, s1.2.2.2.2.2.1), (17, s1.2.2.2.2.2.2), (15, tf)])) ?_ 100000 (0, 0, c1, g1, f1, tr, ty) l3
    intro s1 y4 h ih5 hE6
    refine ev_iload_n (v := s1.2.1) (pc := 4) dX3_explore_4 rfl ?_
    refine ev_iconst (v := 2) (pc := 5) dX3_explore_5 ki_2 ?_
    by_cases b9 : 2 ≤ s1.2.1
    · rw [if_pos b9] at h
      refine ev_icmp_ge_t (t := 112) (pc := 6) dX3_explore_6 (by decide) b9 ?_
      obtain rfl := Option.some.inj h
      obtain rfl := hE6 _ rfl
      exact ev_fg (L := [some (.inr 15), none, some (.inl s1.1), none, none]) (And.intro rfl (And.intro rfl True.intro)) (hx7)
    · rw [if_neg b9] at h
      refine ev_icmp_ge_f (t := 112) (pc := 6) dX3_explore_6 (by decide) b9 ?_
      refine ev_iload_n (v := x0) (pc := 9) dX3_explore_9 rfl ?_
      refine ev_bipush (v := 8) (pc := 10) dX3_explore_10 kb_8 ?_
      by_cases b10 : 8 ≤ x0
      · rw [if_pos b10] at h
        refine ev_icmp_ge_t (t := 112) (pc := 12) dX3_explore_12 (by decide) b10 ?_
        obtain rfl := Option.some.inj h
        obtain rfl := hE6 _ rfl
        exact ev_fg (L := [some (.inr 15), none, some (.inl s1.1), none, none]) (And.intro rfl (And.intro rfl True.intro)) (hx7)
      · rw [if_neg b10] at h
        refine ev_icmp_ge_f (t := 112) (pc := 12) dX3_explore_12 (by decide) b10 ?_
        refine ev_iload_n (v := s1.2.1) (pc := 15) dX3_explore_15 rfl ?_
        obtain ⟨j11, e12, h⟩ := rb_bd h
        have hj13 : rb_Ev RX3 cX3_explore 5 none none (17 + (n + 1)) none (rb_ov μ [(11, o.1), (12, o.2.1), (7, o.2.2.1), (16, o.2.2.2.1), (17, o.2.2.2.2)]) 30 [some (.inr 15), some (.inl x0), some (.inl s1.1), some (.inl s1.2.1), none] [.inl j11] (rb_ov μ [(11, s1.2.2.1), (12, s1.2.2.2.1), (7, s1.2.2.2.2.1), (16, s1.2.2.2.2.2.1), (17, s1.2.2.2.2.2.2), (15, tf)]) := by
          obtain ⟨t15, e16, h⟩ := rb_bd h
          refine ev_istore (L' := [some (.inr 15), some (.inl x0), some (.inl s1.1), some (.inl s1.2.1), some (.inl j11)]) (pc := 30) dX3_explore_30 (Nat.le_of_ble_eq_true rfl) rfl ?_
          refine ev_aload_n (v := 15) (pc := 32) dX3_explore_32 rfl ?_
          refine ev_getr (q := 7) (pc := 33) dX3_explore_33 fl_RX3_9 rfl rfl ?_
          refine ev_getr (q := 10) (pc := 36) dX3_explore_36 fl_RX3_35 rfl rfl ?_
          refine ev_iload (v := j11) (pc := 39) dX3_explore_39 rfl ?_
          refine ev_cVi1 (pc := 41) dX3_explore_41 mv_X4_canGo lk_RX3_41 rp_10 (ct1_X4_canGo _ _ _ _ rfl e16) (by omega) (Nat.le_of_ble_eq_true rfl) ?_
          obtain ⟨j17, e18, h⟩ := rb_bd h
          have hj19 : rb_Ev RX3 cX3_explore 5 none none (17 + (n + 1)) none (rb_ov μ [(11, o.1), (12, o.2.1), (7, o.2.2.1), (16, o.2.2.2.1), (17, o.2.2.2.2)]) 106 [some (.inr 15), some (.inl x0), some (.inl j17.1), some (.inl s1.2.1), none] [] (rb_ov μ [(11, j17.2.1), (12, j17.2.2.1), (7, j17.2.2.2.1), (16, j17.2.2.2.2.1), (17, j17.2.2.2.2.2), (15, tf)]) := by
            refine ev_iinc (x := s1.2.1) (v := (s1.2.1 + 1)) (L' := [some (.inr 15), some (.inl x0), some (.inl j17.1), some (.inl (s1.2.1 + 1)), none]) (pc := 106) dX3_explore_106 rfl (kx_1 _) (Nat.le_of_ble_eq_true rfl) rfl ?_
            refine ev_goto (t := 4) (pc := 109) dX3_explore_109 (by decide) ?_
            obtain rfl := Option.some.inj h
            exact ih5 (j17.1, (s1.2.1 + 1), j17.2.1, j17.2.2.1, j17.2.2.2.1, j17.2.2.2.2.1, j17.2.2.2.2.2) rfl
          replace h := e18
          by_cases b20 : t15 = 0
          · rw [if_pos b20] at h
            refine ev_if_eq_t (t := 106) (pc := 44) dX3_explore_44 (by decide) b20 ?_
            obtain rfl := Option.some.inj h
            exact ev_fg (L := [some (.inr 15), some (.inl x0), some (.inl s1.1), some (.inl s1.2.1), none]) (And.intro rfl (And.intro rfl (And.intro rfl (And.intro rfl True.intro)))) (hj19)
          · rw [if_neg b20] at h
            refine ev_if_eq_f (t := 106) (pc := 44) dX3_explore_44 (by decide) b20 ?_
            obtain ⟨tr21, e22, h⟩ := rb_bd h
            obtain ⟨t23, e24, h⟩ := rb_bd h
            obtain ⟨t25, e26, h⟩ := rb_bd h
            obtain ⟨c127, e28, h⟩ := rb_bd h
            refine ev_iconst (v := 1) (pc := 47) dX3_explore_47 ki_1 ?_
            refine ev_istore_n (L' := [some (.inr 15), some (.inl x0), some (.inl 1), some (.inl s1.2.1), some (.inl j11)]) (pc := 48) dX3_explore_48 (Nat.le_of_ble_eq_true rfl) rfl ?_
            refine ev_aload_n (v := 15) (pc := 49) dX3_explore_49 rfl ?_
            refine ev_getr (q := 11) (pc := 50) dX3_explore_50 fl_RX3_15 rfl rfl ?_
            refine ev_iconst (v := 0) (pc := 53) dX3_explore_53 ki_0 ?_
            refine ev_aload_n (v := 15) (pc := 54) dX3_explore_54 rfl ?_
            refine ev_getr (q := 16) (pc := 55) dX3_explore_55 fl_RX3_19 rfl rfl ?_
            refine ev_iload_n (v := x0) (pc := 58) dX3_explore_58 rfl ?_
            refine ev_sipush (v := 773) (pc := 59) dX3_explore_59 ks_773 ?_
            refine ev_imul (pc := 62) dX3_explore_62 ?_
            refine ev_sipush (v := 773) (pc := 63) dX3_explore_63 ks_773 ?_
            refine ev_copy (w' := [(11, s1.2.2.1), (12, s1.2.2.2.1), (7, s1.2.2.2.2.1), (16, tr21), (17, s1.2.2.2.2.2.2), (15, tf)]) (pc := 66) dX3_explore_66 lk_RX3_47 rfl rfl (Nat.le_of_ble_eq_true rfl) (Nat.le_of_ble_eq_true rfl) e22 rfl ?_
            refine ev_aload_n (v := 15) (pc := 69) dX3_explore_69 rfl ?_
            refine ev_getr (q := 7) (pc := 70) dX3_explore_70 fl_RX3_9 rfl rfl ?_
            refine ev_iload (v := j11) (pc := 73) dX3_explore_73 rfl ?_
            refine ev_cVi1w (w' := [(11, t23.2.1), (12, t23.2.2.1), (7, t23.2.2.2), (16, tr21), (17, s1.2.2.2.2.2.2), (15, tf)]) (pc := 75) dX3_explore_75 mv_X0_doStep lk_RX3_53 rp_7 (ct1_X0_doStep _ _ _ _ _ _ rfl rfl rfl e24) (by omega) (Nat.le_of_ble_eq_true rfl) rfl ?_
            refine ev_pop (pc := 78) dX3_explore_78 ?_
            refine ev_aload_n (v := 15) (pc := 79) dX3_explore_79 rfl ?_
            refine ev_iload_n (v := x0) (pc := 80) dX3_explore_80 rfl ?_
            refine ev_iconst (v := 1) (pc := 81) dX3_explore_81 ki_1 ?_
            refine ev_iadd (pc := 82) dX3_explore_82 ?_
            refine ev_cVv1w (w' := [(11, t25.1), (12, t25.2.1), (7, t25.2.2.1), (16, t25.2.2.2.1), (17, t25.2.2.2.2), (15, tf)]) (pc := 83) dX3_explore_83 mv_X3_explore lk_RX3_57 rp_15 (ihn _ _ _ _ _ _ _ _ _ rfl rfl rfl rfl rfl rfl e26) (by omega) (Nat.le_of_ble_eq_true rfl) rfl ?_
            refine ev_aload_n (v := 15) (pc := 86) dX3_explore_86 rfl ?_
            refine ev_getr (q := 16) (pc := 87) dX3_explore_87 fl_RX3_19 rfl rfl ?_
            refine ev_iload_n (v := x0) (pc := 90) dX3_explore_90 rfl ?_
            refine ev_sipush (v := 773) (pc := 91) dX3_explore_91 ks_773 ?_
            refine ev_imul (pc := 94) dX3_explore_94 ?_
            refine ev_aload_n (v := 15) (pc := 95) dX3_explore_95 rfl ?_
            refine ev_getr (q := 11) (pc := 96) dX3_explore_96 fl_RX3_15 rfl rfl ?_
            refine ev_iconst (v := 0) (pc := 99) dX3_explore_99 ki_0 ?_
            refine ev_sipush (v := 773) (pc := 100) dX3_explore_100 ks_773 ?_
            refine ev_copy (w' := [(11, c127), (12, t25.2.1), (7, t25.2.2.1), (16, t25.2.2.2.1), (17, t25.2.2.2.2), (15, tf)]) (pc := 103) dX3_explore_103 lk_RX3_47 rfl rfl (Nat.le_of_ble_eq_true rfl) (Nat.le_of_ble_eq_true rfl) e28 rfl ?_
            obtain rfl := Option.some.inj h
            exact ev_fg (L := [some (.inr 15), some (.inl x0), some (.inl 1), some (.inl s1.2.1), none]) (And.intro rfl (And.intro rfl (And.intro rfl (And.intro rfl True.intro)))) (hj19)
        replace h := e12
        by_cases b14 : s1.2.1 = 0
        · rw [if_pos b14] at h
          refine ev_if_ne_f (t := 26) (pc := 16) dX3_explore_16 (by decide) b14 ?_
          refine ev_aload_n (v := 15) (pc := 19) dX3_explore_19 rfl ?_
          refine ev_geti (v := (tf 4)) (pc := 20) dX3_explore_20 fl_RX3_25 rfl rfl rfl ?_
          refine ev_goto (t := 30) (pc := 23) dX3_explore_23 (by decide) ?_
          obtain rfl := Option.some.inj h
          exact hj13
        · rw [if_neg b14] at h
          refine ev_if_ne_t (t := 26) (pc := 16) dX3_explore_16 (by decide) b14 ?_
          refine ev_aload_n (v := 15) (pc := 26) dX3_explore_26 rfl ?_
          refine ev_geti (v := (tf 5)) (pc := 27) dX3_explore_27 fl_RX3_29 rfl rfl rfl ?_
          obtain rfl := Option.some.inj h
          exact hj13
