theorem rb_cA {D : va_G} {cl : List vw_C} {cI cZ cA : ClassId} {s : State} (hK : va_K D cl ([(cI, .int), (cZ, .boolean)] ++ [(cA, .int)]) s) : cA = cI := by
  have h1 : s.vm.findClass ("[" ++ FieldType.int.toString) = some cI := (hK.2 0 (cI, .int) rfl).2
  have h2 : s.vm.findClass ("[" ++ FieldType.int.toString) = some cA := (hK.2 2 (cA, .int) rfl).2
  exact Option.some.inj (h2.symm.trans h1)
theorem rb_cAz {D : va_G} {cl : List vw_C} {cI cZ cA : ClassId} {s : State} (hK : va_K D cl ([(cI, .int), (cZ, .boolean)] ++ [(cA, .boolean)]) s) : cA = cZ := by
  have h1 : s.vm.findClass ("[" ++ FieldType.boolean.toString) = some cZ := (hK.2 1 (cZ, .boolean) rfl).2
  have h2 : s.vm.findClass ("[" ++ FieldType.boolean.toString) = some cA := (hK.2 2 (cA, .boolean) rfl).2
  exact Option.some.inj (h2.symm.trans h1)
theorem rb_w7 : Cond.arrayClass .int ∈ rb_tbl := rb_mem (by decide +kernel) rfl
theorem rb_w8 : Cond.arrayClass .boolean ∈ rb_tbl := rb_mem (by decide +kernel) rfl
theorem rb_w9 : Cond.instanceMethod objectInit ∈ rb_tbl := rb_mem (by decide +kernel) rfl
theorem rb_w10 : Cond.code objectInit ⟨#[0xb1]⟩ 1 none ∈ rb_tbl := rb_mem (by decide +kernel) rfl
theorem rb_gi {w0 : Cond} (h : w0 ∈ rb_tbl) : GoodIn rb_tbl (w0 :: rb_tbl) := rb_goodIn (fun w hw => (List.mem_cons.mp hw).elim (fun e => e ▸ h) id)
theorem wl_RX5_3 : Cond.methodLink RX5 3 objectInit ∈ rb_tbl := rb_at 143 (by decide +kernel) rfl
theorem wf_RX5_9 : Cond.fieldLink RX5 9 "ReadyBell$Things" "cells" "[I" ∈ rb_tbl := rb_at 144 (by decide +kernel) rfl
set_option maxHeartbeats 4000000 in
set_option maxRecDepth 100000 in
theorem k_X5_init (l : Launch) (dC : Nat → ClassId) (dI : Nat → Nat → Nat) (cI cZ : ClassId) (h0 h1 : Nat) (sz : Nat) : Met l yX5_init (Cond.code yX5_init cX5_init 2 none :: rb_tbl) ({ frames := 1, cells := 0, slots := 0, locals := 12 }) (va_Pc [.ref h0, .ref h1] (fun U => U.heap.size = sz ∧ va_P (dC, dI) rb_cl [(h0, .inr (5, [.null]))] U.heap ∧ va_K (dC, dI) rb_cl [(cI, .int), (cZ, .boolean)] U ∧ va_D (fun _ => True) [(h0, .inr (5, [.null]))])) (va_Qv (fun (_ : Unit) => True) (fun (u : Unit) t => va_P (dC, dI) rb_cl [(h0, .inr (5, [.ref h1]))] t.heap ∧ va_K (dC, dI) rb_cl [(cI, .int), (cZ, .boolean)] t ∧ va_D (va_A [(h0, .inr (5, [.null]))] sz) [(h0, .inr (5, [.ref h1]))]) (va_A [(h0, .inr (5, [.null]))] sz)) 0 0 (va_A [(h0, .inr (5, [.null]))] sz) := by
  refine Met.ofW (cc := cX5_init) (maxL := 2) (ret := none) (by decide) rfl ?_
  intro p e s m args below meth c s₁ B hml hv
  obtain ⟨rfl, hsz, hP, hK, hD0⟩ := hv
  have hx := B.exec
  have hb := B.bytes
  have hr := B.returns
  have hts0 := atoms_spec (ws := Cond.code yX5_init cX5_init 2 none :: rb_tbl) B.pre
  have hts : ∀ w ∈ rb_tbl, w.before ([.ref h0, .ref h1] : List Value).toArray s = true := fun w hw => hts0 w (List.mem_cons_of_mem _ hw)
  have hown : s.vm.findClass RX5 = some m.cls := findClass_of_methodNamed B.named
  have hlocks := B.notSynchronized
  have hin : meth.name = "<init>" := (name_of_methodNamed B.named B.method).1
  subst hsz
  have hD := hD0.self (sz := s.heap.size)
  generalize hAe : va_A [(h0, .inr (5, [.null]))] s.heap.size = A at hD ⊢
  have hA : ∀ q : Nat, s.heap.size ≤ q → A q := fun q h => by rw [← hAe]; exact Or.inr h
  have hS : va_S A s.heap s.heap [] := va_S.rf
  have hl := lv_entry ([.ref h0, .ref h1]) (n := 2) (Nat.le_of_ble_eq_true rfl)
  rw [lg_entry_eq]
  generalize (lg_sl ([.ref h0, .ref h1]) ++ List.replicate (2 - (lg_sl ([.ref h0, .ref h1])).length) Slot.unset).toArray = ls at hl ⊢
  have hl : lv_has ls 2 [(0, .ref h0), (1, .ref h1)] := hl
  have hP : va_P (dC, dI) rb_cl [(h0, .inr (5, [.null]))] s.heap := hP
  refine lv_aload_n hx hb dX5_init_0 rfl (lv_at hl 0 rfl) ?_
  refine W.objInit hx hb hown (hts _ wl_RX5_3) (hts _ rb_w9) (hts _ rb_w10) rfl (by rw [hml]; exact hl.1) rfl dX5_init_1 (Nat.le_of_ble_eq_true rfl) (Nat.le_of_ble_eq_true rfl) ?_
  refine W.eq (g2 := F0 m 4 ls []) rfl ?_
  refine lv_aload_n hx hb dX5_init_4 rfl (lv_at hl 0 rfl) ?_
  refine lv_aload_n hx hb dX5_init_5 rfl (lv_at hl 1 rfl) ?_
  refine va_putF (D := (dC, dI)) (ci := 5) (v := .ref h1) (ty := (.array .int)) (C := RX5) (T := TX5) (N := 1) hx hb hts rb_in5 tyX5 tyX5_ok nmX5 hown hK hP hD hS 0 rfl rfl 0 (by decide) (hts _ wf_RX5_9) (fun _ h9 => h9) rfl hin rfl (by decide +kernel) rfl rfl (Nat.le_of_ble_eq_true rfl) dX5_init_6 (fun H locs hP hD hS => ?_)
  have hP : va_P (dC, dI) rb_cl [(h0, .inr (5, [.ref h1]))] H := hP
  have hD : va_D A [(h0, .inr (5, [.ref h1]))] := hD
  refine W.widen (k := 0) (n := 0) (Nat.le_of_ble_eq_true rfl) (Nat.le_of_ble_eq_true rfl) ?_
  exact W.vret hx hb hr (fun t ht hW => ⟨⟨(), rfl, trivial, by rw [ht]; exact hP, va_K.moved hW.alike hK, hD⟩, hS.F ht⟩) hS.2.2 dX5_init_9
theorem wl_RX1_3 : Cond.methodLink RX1 3 objectInit ∈ rb_tbl := rb_at 154 (by decide +kernel) rfl
theorem wf_RX1_9 : Cond.fieldLink RX1 9 "ReadyBell$Interests" "cells" "[I" ∈ rb_tbl := rb_at 155 (by decide +kernel) rfl
set_option maxHeartbeats 4000000 in
set_option maxRecDepth 100000 in
theorem k_X1_init (l : Launch) (dC : Nat → ClassId) (dI : Nat → Nat → Nat) (cI cZ : ClassId) (h0 h1 : Nat) (sz : Nat) : Met l yX1_init (Cond.code yX1_init cX1_init 2 none :: rb_tbl) ({ frames := 1, cells := 0, slots := 0, locals := 12 }) (va_Pc [.ref h0, .ref h1] (fun U => U.heap.size = sz ∧ va_P (dC, dI) rb_cl [(h0, .inr (1, [.null]))] U.heap ∧ va_K (dC, dI) rb_cl [(cI, .int), (cZ, .boolean)] U ∧ va_D (fun _ => True) [(h0, .inr (1, [.null]))])) (va_Qv (fun (_ : Unit) => True) (fun (u : Unit) t => va_P (dC, dI) rb_cl [(h0, .inr (1, [.ref h1]))] t.heap ∧ va_K (dC, dI) rb_cl [(cI, .int), (cZ, .boolean)] t ∧ va_D (va_A [(h0, .inr (1, [.null]))] sz) [(h0, .inr (1, [.ref h1]))]) (va_A [(h0, .inr (1, [.null]))] sz)) 0 0 (va_A [(h0, .inr (1, [.null]))] sz) := by
  refine Met.ofW (cc := cX1_init) (maxL := 2) (ret := none) (by decide) rfl ?_
  intro p e s m args below meth c s₁ B hml hv
  obtain ⟨rfl, hsz, hP, hK, hD0⟩ := hv
  have hx := B.exec
  have hb := B.bytes
  have hr := B.returns
  have hts0 := atoms_spec (ws := Cond.code yX1_init cX1_init 2 none :: rb_tbl) B.pre
  have hts : ∀ w ∈ rb_tbl, w.before ([.ref h0, .ref h1] : List Value).toArray s = true := fun w hw => hts0 w (List.mem_cons_of_mem _ hw)
  have hown : s.vm.findClass RX1 = some m.cls := findClass_of_methodNamed B.named
  have hlocks := B.notSynchronized
  have hin : meth.name = "<init>" := (name_of_methodNamed B.named B.method).1
  subst hsz
  have hD := hD0.self (sz := s.heap.size)
  generalize hAe : va_A [(h0, .inr (1, [.null]))] s.heap.size = A at hD ⊢
  have hA : ∀ q : Nat, s.heap.size ≤ q → A q := fun q h => by rw [← hAe]; exact Or.inr h
  have hS : va_S A s.heap s.heap [] := va_S.rf
  have hl := lv_entry ([.ref h0, .ref h1]) (n := 2) (Nat.le_of_ble_eq_true rfl)
  rw [lg_entry_eq]
  generalize (lg_sl ([.ref h0, .ref h1]) ++ List.replicate (2 - (lg_sl ([.ref h0, .ref h1])).length) Slot.unset).toArray = ls at hl ⊢
  have hl : lv_has ls 2 [(0, .ref h0), (1, .ref h1)] := hl
  have hP : va_P (dC, dI) rb_cl [(h0, .inr (1, [.null]))] s.heap := hP
  refine lv_aload_n hx hb dX1_init_0 rfl (lv_at hl 0 rfl) ?_
  refine W.objInit hx hb hown (hts _ wl_RX1_3) (hts _ rb_w9) (hts _ rb_w10) rfl (by rw [hml]; exact hl.1) rfl dX1_init_1 (Nat.le_of_ble_eq_true rfl) (Nat.le_of_ble_eq_true rfl) ?_
  refine W.eq (g2 := F0 m 4 ls []) rfl ?_
  refine lv_aload_n hx hb dX1_init_4 rfl (lv_at hl 0 rfl) ?_
  refine lv_aload_n hx hb dX1_init_5 rfl (lv_at hl 1 rfl) ?_
  refine va_putF (D := (dC, dI)) (ci := 1) (v := .ref h1) (ty := (.array .int)) (C := RX1) (T := TX1) (N := 1) hx hb hts rb_in1 tyX1 tyX1_ok nmX1 hown hK hP hD hS 0 rfl rfl 0 (by decide) (hts _ wf_RX1_9) (fun _ h9 => h9) rfl hin rfl (by decide +kernel) rfl rfl (Nat.le_of_ble_eq_true rfl) dX1_init_6 (fun H locs hP hD hS => ?_)
  have hP : va_P (dC, dI) rb_cl [(h0, .inr (1, [.ref h1]))] H := hP
  have hD : va_D A [(h0, .inr (1, [.ref h1]))] := hD
  refine W.widen (k := 0) (n := 0) (Nat.le_of_ble_eq_true rfl) (Nat.le_of_ble_eq_true rfl) ?_
  exact W.vret hx hb hr (fun t ht hW => ⟨⟨(), rfl, trivial, by rw [ht]; exact hP, va_K.moved hW.alike hK, hD⟩, hS.F ht⟩) hS.2.2 dX1_init_9
theorem wl_RX4_3 : Cond.methodLink RX4 3 objectInit ∈ rb_tbl := rb_at 164 (by decide +kernel) rfl
theorem wf_RX4_9 : Cond.fieldLink RX4 9 "ReadyBell$Tasks" "cells" "[I" ∈ rb_tbl := rb_at 165 (by decide +kernel) rfl
set_option maxHeartbeats 4000000 in
set_option maxRecDepth 100000 in
theorem k_X4_init (l : Launch) (dC : Nat → ClassId) (dI : Nat → Nat → Nat) (cI cZ : ClassId) (h0 h1 : Nat) (sz : Nat) : Met l yX4_init (Cond.code yX4_init cX4_init 2 none :: rb_tbl) ({ frames := 1, cells := 0, slots := 0, locals := 12 }) (va_Pc [.ref h0, .ref h1] (fun U => U.heap.size = sz ∧ va_P (dC, dI) rb_cl [(h0, .inr (4, [.null]))] U.heap ∧ va_K (dC, dI) rb_cl [(cI, .int), (cZ, .boolean)] U ∧ va_D (fun _ => True) [(h0, .inr (4, [.null]))])) (va_Qv (fun (_ : Unit) => True) (fun (u : Unit) t => va_P (dC, dI) rb_cl [(h0, .inr (4, [.ref h1]))] t.heap ∧ va_K (dC, dI) rb_cl [(cI, .int), (cZ, .boolean)] t ∧ va_D (va_A [(h0, .inr (4, [.null]))] sz) [(h0, .inr (4, [.ref h1]))]) (va_A [(h0, .inr (4, [.null]))] sz)) 0 0 (va_A [(h0, .inr (4, [.null]))] sz) := by
  refine Met.ofW (cc := cX4_init) (maxL := 2) (ret := none) (by decide) rfl ?_
  intro p e s m args below meth c s₁ B hml hv
  obtain ⟨rfl, hsz, hP, hK, hD0⟩ := hv
  have hx := B.exec
  have hb := B.bytes
  have hr := B.returns
  have hts0 := atoms_spec (ws := Cond.code yX4_init cX4_init 2 none :: rb_tbl) B.pre
  have hts : ∀ w ∈ rb_tbl, w.before ([.ref h0, .ref h1] : List Value).toArray s = true := fun w hw => hts0 w (List.mem_cons_of_mem _ hw)
  have hown : s.vm.findClass RX4 = some m.cls := findClass_of_methodNamed B.named
  have hlocks := B.notSynchronized
  have hin : meth.name = "<init>" := (name_of_methodNamed B.named B.method).1
  subst hsz
  have hD := hD0.self (sz := s.heap.size)
  generalize hAe : va_A [(h0, .inr (4, [.null]))] s.heap.size = A at hD ⊢
  have hA : ∀ q : Nat, s.heap.size ≤ q → A q := fun q h => by rw [← hAe]; exact Or.inr h
  have hS : va_S A s.heap s.heap [] := va_S.rf
  have hl := lv_entry ([.ref h0, .ref h1]) (n := 2) (Nat.le_of_ble_eq_true rfl)
  rw [lg_entry_eq]
  generalize (lg_sl ([.ref h0, .ref h1]) ++ List.replicate (2 - (lg_sl ([.ref h0, .ref h1])).length) Slot.unset).toArray = ls at hl ⊢
  have hl : lv_has ls 2 [(0, .ref h0), (1, .ref h1)] := hl
  have hP : va_P (dC, dI) rb_cl [(h0, .inr (4, [.null]))] s.heap := hP
  refine lv_aload_n hx hb dX4_init_0 rfl (lv_at hl 0 rfl) ?_
  refine W.objInit hx hb hown (hts _ wl_RX4_3) (hts _ rb_w9) (hts _ rb_w10) rfl (by rw [hml]; exact hl.1) rfl dX4_init_1 (Nat.le_of_ble_eq_true rfl) (Nat.le_of_ble_eq_true rfl) ?_
  refine W.eq (g2 := F0 m 4 ls []) rfl ?_
  refine lv_aload_n hx hb dX4_init_4 rfl (lv_at hl 0 rfl) ?_
  refine lv_aload_n hx hb dX4_init_5 rfl (lv_at hl 1 rfl) ?_
  refine va_putF (D := (dC, dI)) (ci := 4) (v := .ref h1) (ty := (.array .int)) (C := RX4) (T := TX4) (N := 1) hx hb hts rb_in4 tyX4 tyX4_ok nmX4 hown hK hP hD hS 0 rfl rfl 0 (by decide) (hts _ wf_RX4_9) (fun _ h9 => h9) rfl hin rfl (by decide +kernel) rfl rfl (Nat.le_of_ble_eq_true rfl) dX4_init_6 (fun H locs hP hD hS => ?_)
  have hP : va_P (dC, dI) rb_cl [(h0, .inr (4, [.ref h1]))] H := hP
  have hD : va_D A [(h0, .inr (4, [.ref h1]))] := hD
  refine W.widen (k := 0) (n := 0) (Nat.le_of_ble_eq_true rfl) (Nat.le_of_ble_eq_true rfl) ?_
  exact W.vret hx hb hr (fun t ht hW => ⟨⟨(), rfl, trivial, by rw [ht]; exact hP, va_K.moved hW.alike hK, hD⟩, hS.F ht⟩) hS.2.2 dX4_init_9
theorem wl_RX0_3 : Cond.methodLink RX0 3 objectInit ∈ rb_tbl := rb_at 137 (by decide +kernel) rfl
theorem wf_RX0_9 : Cond.fieldLink RX0 9 "ReadyBell$House" "cells" "[I" ∈ rb_tbl := rb_at 177 (by decide +kernel) rfl
theorem wc_RX0_15 : Cond.classLink RX0 15 RX5 ∈ rb_tbl := rb_at 138 (by decide +kernel) rfl
theorem wi_5 : Cond.instantiable RX5 1 ∈ rb_tbl := rb_at 139 (by decide +kernel) rfl
theorem wn_5 : Cond.initialized RX5 ∈ rb_tbl := rb_at 110 (by decide +kernel) rfl
theorem wk_X5_init : Cond.code yX5_init cX5_init 2 none ∈ rb_tbl := rb_at 142 (by decide +kernel) rfl
theorem wm_RX0_17 : Cond.methodLink RX0 17 yX5_init ∈ rb_tbl := rb_at 140 (by decide +kernel) rfl
theorem wx_X5_init : Cond.instanceMethod yX5_init ∈ rb_tbl := rb_at 141 (by decide +kernel) rfl
theorem wf_RX0_20 : Cond.fieldLink RX0 20 "ReadyBell$House" "things" "LReadyBell$Things;" ∈ rb_tbl := rb_at 169 (by decide +kernel) rfl
theorem wc_RX0_24 : Cond.classLink RX0 24 RX1 ∈ rb_tbl := rb_at 149 (by decide +kernel) rfl
theorem wi_1 : Cond.instantiable RX1 1 ∈ rb_tbl := rb_at 150 (by decide +kernel) rfl
theorem wn_1 : Cond.initialized RX1 ∈ rb_tbl := rb_at 111 (by decide +kernel) rfl
theorem wk_X1_init : Cond.code yX1_init cX1_init 2 none ∈ rb_tbl := rb_at 153 (by decide +kernel) rfl
theorem wm_RX0_26 : Cond.methodLink RX0 26 yX1_init ∈ rb_tbl := rb_at 151 (by decide +kernel) rfl
theorem wx_X1_init : Cond.instanceMethod yX1_init ∈ rb_tbl := rb_at 152 (by decide +kernel) rfl
theorem wf_RX0_27 : Cond.fieldLink RX0 27 "ReadyBell$House" "interests" "LReadyBell$Interests;" ∈ rb_tbl := rb_at 171 (by decide +kernel) rfl
theorem wc_RX0_31 : Cond.classLink RX0 31 RX4 ∈ rb_tbl := rb_at 159 (by decide +kernel) rfl
theorem wi_4 : Cond.instantiable RX4 1 ∈ rb_tbl := rb_at 160 (by decide +kernel) rfl
theorem wn_4 : Cond.initialized RX4 ∈ rb_tbl := rb_at 112 (by decide +kernel) rfl
theorem wk_X4_init : Cond.code yX4_init cX4_init 2 none ∈ rb_tbl := rb_at 163 (by decide +kernel) rfl
theorem wm_RX0_33 : Cond.methodLink RX0 33 yX4_init ∈ rb_tbl := rb_at 161 (by decide +kernel) rfl
theorem wx_X4_init : Cond.instanceMethod yX4_init ∈ rb_tbl := rb_at 162 (by decide +kernel) rfl
theorem wf_RX0_34 : Cond.fieldLink RX0 34 "ReadyBell$House" "tasks" "LReadyBell$Tasks;" ∈ rb_tbl := rb_at 174 (by decide +kernel) rfl
theorem wf_RX0_38 : Cond.fieldLink RX0 38 "ReadyBell$House" "again" "[I" ∈ rb_tbl := rb_at 178 (by decide +kernel) rfl
set_option maxHeartbeats 4000000 in
set_option maxRecDepth 100000 in
theorem k_X0_init (l : Launch) (dC : Nat → ClassId) (dI : Nat → Nat → Nat) (cI cZ : ClassId) (h0 h1 : Nat) (sz : Nat) : Met l yX0_init (Cond.code yX0_init cX0_init 2 none :: rb_tbl) ({ frames := 2, cells := 4, slots := 11, locals := 33 }) (va_Pc [.ref h0, .ref h1] (fun U => U.heap.size = sz ∧ va_P (dC, dI) rb_cl [(h0, .inr (0, [.null, .null, .null, .null, .null, .int 0, .int 0, .int 0]))] U.heap ∧ va_K (dC, dI) rb_cl [(cI, .int), (cZ, .boolean)] U ∧ va_D (fun _ => True) [(h0, .inr (0, [.null, .null, .null, .null, .null, .int 0, .int 0, .int 0]))])) (va_Qv (fun (_ : Nat × Nat × Nat × Nat) => True) (fun (u : Nat × Nat × Nat × Nat) t => match u with
  | (q1, q3, q5, q7) => va_P (dC, dI) rb_cl [(h0, .inr (0, [.ref q1, .ref q3, .ref q5, .ref h1, .ref q7, .int 0, .int 0, .int 0])), (q1, .inr (5, [.ref h1])), (q3, .inr (1, [.ref h1])), (q5, .inr (4, [.ref h1])), (q7, .inl (cI, 8, .inl (fun _ => 0)))] t.heap ∧ va_K (dC, dI) rb_cl [(cI, .int), (cZ, .boolean)] t ∧ va_D (va_A [(h0, .inr (0, [.null, .null, .null, .null, .null, .int 0, .int 0, .int 0]))] sz) [(h0, .inr (0, [.ref q1, .ref q3, .ref q5, .ref h1, .ref q7, .int 0, .int 0, .int 0])), (q1, .inr (5, [.ref h1])), (q3, .inr (1, [.ref h1])), (q5, .inr (4, [.ref h1])), (q7, .inl (cI, 8, .inl (fun _ => 0)))]) (va_A [(h0, .inr (0, [.null, .null, .null, .null, .null, .int 0, .int 0, .int 0]))] sz)) 4 11 (va_A [(h0, .inr (0, [.null, .null, .null, .null, .null, .int 0, .int 0, .int 0]))] sz) := by
  refine Met.ofW (cc := cX0_init) (maxL := 2) (ret := none) (by decide) rfl ?_
  intro p e s m args below meth c s₁ B hml hv
  obtain ⟨rfl, hsz, hP, hK, hD0⟩ := hv
  have hx := B.exec
  have hb := B.bytes
  have hr := B.returns
  have hts0 := atoms_spec (ws := Cond.code yX0_init cX0_init 2 none :: rb_tbl) B.pre
  have hts : ∀ w ∈ rb_tbl, w.before ([.ref h0, .ref h1] : List Value).toArray s = true := fun w hw => hts0 w (List.mem_cons_of_mem _ hw)
  have hown : s.vm.findClass RX0 = some m.cls := findClass_of_methodNamed B.named
  have hlocks := B.notSynchronized
  have hin : meth.name = "<init>" := (name_of_methodNamed B.named B.method).1
  subst hsz
  have hD := hD0.self (sz := s.heap.size)
  generalize hAe : va_A [(h0, .inr (0, [.null, .null, .null, .null, .null, .int 0, .int 0, .int 0]))] s.heap.size = A at hD ⊢
  have hA : ∀ q : Nat, s.heap.size ≤ q → A q := fun q h => by rw [← hAe]; exact Or.inr h
  have hS : va_S A s.heap s.heap [] := va_S.rf
  have hl := lv_entry ([.ref h0, .ref h1]) (n := 2) (Nat.le_of_ble_eq_true rfl)
  rw [lg_entry_eq]
  generalize (lg_sl ([.ref h0, .ref h1]) ++ List.replicate (2 - (lg_sl ([.ref h0, .ref h1])).length) Slot.unset).toArray = ls at hl ⊢
  have hl : lv_has ls 2 [(0, .ref h0), (1, .ref h1)] := hl
  have hP : va_P (dC, dI) rb_cl [(h0, .inr (0, [.null, .null, .null, .null, .null, .int 0, .int 0, .int 0]))] s.heap := hP
  refine lv_aload_n hx hb dX0_init_0 rfl (lv_at hl 0 rfl) ?_
  refine W.objInit hx hb hown (hts _ wl_RX0_3) (hts _ rb_w9) (hts _ rb_w10) rfl (by rw [hml]; exact hl.1) rfl dX0_init_1 (Nat.le_of_ble_eq_true rfl) (Nat.le_of_ble_eq_true rfl) ?_
  refine W.eq (g2 := F0 m 4 ls []) rfl ?_
  refine lv_aload_n hx hb dX0_init_4 rfl (lv_at hl 0 rfl) ?_
  refine lv_aload_n hx hb dX0_init_5 rfl (lv_at hl 1 rfl) ?_
  refine va_putF (D := (dC, dI)) (ci := 0) (v := .ref h1) (ty := (.array .int)) (C := RX0) (T := TX0) (N := 8) hx hb hts rb_in0 tyX0 tyX0_ok nmX0 hown hK hP hD hS 0 rfl rfl 3 (by decide) (hts _ wf_RX0_9) (fun _ h9 => h9) rfl hin rfl (by decide +kernel) rfl rfl (Nat.le_of_ble_eq_true rfl) dX0_init_6 (fun H locs hP hD hS => ?_)
  have hP : va_P (dC, dI) rb_cl [(h0, .inr (0, [.null, .null, .null, .ref h1, .null, .int 0, .int 0, .int 0]))] H := hP
  have hD : va_D A [(h0, .inr (0, [.null, .null, .null, .ref h1, .null, .int 0, .int 0, .int 0]))] := hD
  refine lv_aload_n hx hb dX0_init_9 rfl (lv_at hl 0 rfl) ?_
  refine va_new (ci := 5) (fs := [.null]) (C := RX5) (T := TX5) (N := 1) hx hb hts rb_in5 tyX5 tyX5_ok hown (hts _ wc_RX0_15) (hts _ wi_5) (hts _ wn_5) hK hP hD hS hA rfl (fun j hj => by rcases (show j = 0 by omega) with rfl <;> rfl) (Nat.le_of_ble_eq_true rfl) (Nat.le_of_ble_eq_true rfl) dX0_init_10 (fun q1 H hP hD hS => ?_)
  have hP : va_P (dC, dI) rb_cl [(h0, .inr (0, [.null, .null, .null, .ref h1, .null, .int 0, .int 0, .int 0])), (q1, .inr (5, [.null]))] H := hP
  have hD : va_D A [(h0, .inr (0, [.null, .null, .null, .ref h1, .null, .int 0, .int 0, .int 0])), (q1, .inr (5, [.null]))] := hD
  refine lv_dup hx hb dX0_init_13 rfl ?_
  refine lv_aload_n hx hb dX0_init_14 rfl (lv_at hl 1 rfl) ?_
  have hPc := hP.sub (ws' := [(q1, .inr (5, [.null]))]) [1] rfl
  have hDc := hD.sub (ws' := [(q1, .inr (5, [.null]))]) [1] (by decide) rfl
  have hFc := va_free (wc := [(q1, .inr (5, [.null]))]) hD hS hA [1] rfl
  refine va_callv (va_runI (As := [.ref h1]) (rest := [.ref q1, .ref h0]) ⟨hx, hb, hml, hown, hts⟩ (k_X5_init l dC dI cI cZ q1 h1 H.size) (cwI 1 hts (rb_gi wk_X5_init) rfl rfl rfl (hts _ wn_5) (hts _ wm_RX0_17) (hts _ wx_X5_init) rfl (by decide +kernel) ⟨Nat.le_of_ble_eq_true rfl, Nat.le_of_ble_eq_true rfl⟩) ⟨fun a U g mk q => by obtain ⟨q0, q1, qP, qK, qD⟩ := q; exact ⟨q0, q1, qP, va_K.moved (u := U) (U := U.calling g mk a) (Vm.Alike.refl U.vm) qK, qD⟩, fun U hU hW => ⟨rfl, by rw [hU], by rw [hU]; exact hPc, va_K.moved hW.alike hK, hDc.weaken (fun _ _ _ _ => trivial)⟩⟩ rfl rfl hl.1 rfl (lv_room (Nat.le_of_ble_eq_true rfl)) dX0_init_15 ⟨Nat.le_of_ble_eq_true rfl, Nat.le_of_ble_eq_true rfl⟩) hS (fun q _ h => hFc q h) hFc (fun u2 t H1 locs ht hvm hw hB hz1 hk1 hS => ?_)
  obtain ⟨hP1, hK1, hD1⟩ := hB
  rw [ht] at hP1
  obtain ⟨hP, hD⟩ := va_join (wr := [(h0, .inr (0, [.null, .null, .null, .ref h1, .null, .int 0, .int 0, .int 0]))]) (w1 := [(q1, .inr (5, [.ref h1]))]) hP hD [1] [0] rfl rfl (by decide) (by decide) hk1 hFc hP1 hD1
  clear hPc hDc hFc hP1 hK1 hD1 hk1 hz1
  generalize H1 = H at hP hS ⊢
  have hP : va_P (dC, dI) rb_cl [(h0, .inr (0, [.null, .null, .null, .ref h1, .null, .int 0, .int 0, .int 0])), (q1, .inr (5, [.ref h1]))] H := hP
  have hD : va_D A [(h0, .inr (0, [.null, .null, .null, .ref h1, .null, .int 0, .int 0, .int 0])), (q1, .inr (5, [.ref h1]))] := hD
  refine va_putF (D := (dC, dI)) (ci := 0) (v := .ref q1) (ty := (.object "ReadyBell$Things")) (C := RX0) (T := TX0) (N := 8) hx hb hts rb_in0 tyX0 tyX0_ok nmX0 hown hK hP hD hS 0 rfl rfl 0 (by decide) (hts _ wf_RX0_20) (fun _ h9 => h9) rfl hin rfl (by decide +kernel) rfl rfl (Nat.le_of_ble_eq_true rfl) dX0_init_18 (fun H locs hP hD hS => ?_)
  have hP : va_P (dC, dI) rb_cl [(h0, .inr (0, [.ref q1, .null, .null, .ref h1, .null, .int 0, .int 0, .int 0])), (q1, .inr (5, [.ref h1]))] H := hP
  have hD : va_D A [(h0, .inr (0, [.ref q1, .null, .null, .ref h1, .null, .int 0, .int 0, .int 0])), (q1, .inr (5, [.ref h1]))] := hD
  refine lv_aload_n hx hb dX0_init_21 rfl (lv_at hl 0 rfl) ?_
  refine va_new (ci := 1) (fs := [.null]) (C := RX1) (T := TX1) (N := 1) hx hb hts rb_in1 tyX1 tyX1_ok hown (hts _ wc_RX0_24) (hts _ wi_1) (hts _ wn_1) hK hP hD hS hA rfl (fun j hj => by rcases (show j = 0 by omega) with rfl <;> rfl) (Nat.le_of_ble_eq_true rfl) (Nat.le_of_ble_eq_true rfl) dX0_init_22 (fun q3 H hP hD hS => ?_)
  have hP : va_P (dC, dI) rb_cl [(h0, .inr (0, [.ref q1, .null, .null, .ref h1, .null, .int 0, .int 0, .int 0])), (q1, .inr (5, [.ref h1])), (q3, .inr (1, [.null]))] H := hP
  have hD : va_D A [(h0, .inr (0, [.ref q1, .null, .null, .ref h1, .null, .int 0, .int 0, .int 0])), (q1, .inr (5, [.ref h1])), (q3, .inr (1, [.null]))] := hD
  refine lv_dup hx hb dX0_init_25 rfl ?_
  refine lv_aload_n hx hb dX0_init_26 rfl (lv_at hl 1 rfl) ?_
  have hPc := hP.sub (ws' := [(q3, .inr (1, [.null]))]) [2] rfl
  have hDc := hD.sub (ws' := [(q3, .inr (1, [.null]))]) [2] (by decide) rfl
  have hFc := va_free (wc := [(q3, .inr (1, [.null]))]) hD hS hA [2] rfl
  refine va_callv (va_runI (As := [.ref h1]) (rest := [.ref q3, .ref h0]) ⟨hx, hb, hml, hown, hts⟩ (k_X1_init l dC dI cI cZ q3 h1 H.size) (cwI 1 hts (rb_gi wk_X1_init) rfl rfl rfl (hts _ wn_1) (hts _ wm_RX0_26) (hts _ wx_X1_init) rfl (by decide +kernel) ⟨Nat.le_of_ble_eq_true rfl, Nat.le_of_ble_eq_true rfl⟩) ⟨fun a U g mk q => by obtain ⟨q0, q1, qP, qK, qD⟩ := q; exact ⟨q0, q1, qP, va_K.moved (u := U) (U := U.calling g mk a) (Vm.Alike.refl U.vm) qK, qD⟩, fun U hU hW => ⟨rfl, by rw [hU], by rw [hU]; exact hPc, va_K.moved hW.alike hK, hDc.weaken (fun _ _ _ _ => trivial)⟩⟩ rfl rfl hl.1 rfl (lv_room (Nat.le_of_ble_eq_true rfl)) dX0_init_27 ⟨Nat.le_of_ble_eq_true rfl, Nat.le_of_ble_eq_true rfl⟩) hS (fun q _ h => hFc q h) hFc (fun u4 t H1 locs ht hvm hw hB hz1 hk1 hS => ?_)
  obtain ⟨hP1, hK1, hD1⟩ := hB
  rw [ht] at hP1
  obtain ⟨hP, hD⟩ := va_join (wr := [(h0, .inr (0, [.ref q1, .null, .null, .ref h1, .null, .int 0, .int 0, .int 0])), (q1, .inr (5, [.ref h1]))]) (w1 := [(q3, .inr (1, [.ref h1]))]) hP hD [2] [0, 1] rfl rfl (by decide) (by decide) hk1 hFc hP1 hD1
  clear hPc hDc hFc hP1 hK1 hD1 hk1 hz1
  generalize H1 = H at hP hS ⊢
  have hP : va_P (dC, dI) rb_cl [(h0, .inr (0, [.ref q1, .null, .null, .ref h1, .null, .int 0, .int 0, .int 0])), (q1, .inr (5, [.ref h1])), (q3, .inr (1, [.ref h1]))] H := hP
  have hD : va_D A [(h0, .inr (0, [.ref q1, .null, .null, .ref h1, .null, .int 0, .int 0, .int 0])), (q1, .inr (5, [.ref h1])), (q3, .inr (1, [.ref h1]))] := hD
  refine va_putF (D := (dC, dI)) (ci := 0) (v := .ref q3) (ty := (.object "ReadyBell$Interests")) (C := RX0) (T := TX0) (N := 8) hx hb hts rb_in0 tyX0 tyX0_ok nmX0 hown hK hP hD hS 0 rfl rfl 1 (by decide) (hts _ wf_RX0_27) (fun _ h9 => h9) rfl hin rfl (by decide +kernel) rfl rfl (Nat.le_of_ble_eq_true rfl) dX0_init_30 (fun H locs hP hD hS => ?_)
  have hP : va_P (dC, dI) rb_cl [(h0, .inr (0, [.ref q1, .ref q3, .null, .ref h1, .null, .int 0, .int 0, .int 0])), (q1, .inr (5, [.ref h1])), (q3, .inr (1, [.ref h1]))] H := hP
  have hD : va_D A [(h0, .inr (0, [.ref q1, .ref q3, .null, .ref h1, .null, .int 0, .int 0, .int 0])), (q1, .inr (5, [.ref h1])), (q3, .inr (1, [.ref h1]))] := hD
  refine lv_aload_n hx hb dX0_init_33 rfl (lv_at hl 0 rfl) ?_
  refine va_new (ci := 4) (fs := [.null]) (C := RX4) (T := TX4) (N := 1) hx hb hts rb_in4 tyX4 tyX4_ok hown (hts _ wc_RX0_31) (hts _ wi_4) (hts _ wn_4) hK hP hD hS hA rfl (fun j hj => by rcases (show j = 0 by omega) with rfl <;> rfl) (Nat.le_of_ble_eq_true rfl) (Nat.le_of_ble_eq_true rfl) dX0_init_34 (fun q5 H hP hD hS => ?_)
  have hP : va_P (dC, dI) rb_cl [(h0, .inr (0, [.ref q1, .ref q3, .null, .ref h1, .null, .int 0, .int 0, .int 0])), (q1, .inr (5, [.ref h1])), (q3, .inr (1, [.ref h1])), (q5, .inr (4, [.null]))] H := hP
  have hD : va_D A [(h0, .inr (0, [.ref q1, .ref q3, .null, .ref h1, .null, .int 0, .int 0, .int 0])), (q1, .inr (5, [.ref h1])), (q3, .inr (1, [.ref h1])), (q5, .inr (4, [.null]))] := hD
  refine lv_dup hx hb dX0_init_37 rfl ?_
  refine lv_aload_n hx hb dX0_init_38 rfl (lv_at hl 1 rfl) ?_
  have hPc := hP.sub (ws' := [(q5, .inr (4, [.null]))]) [3] rfl
  have hDc := hD.sub (ws' := [(q5, .inr (4, [.null]))]) [3] (by decide) rfl
  have hFc := va_free (wc := [(q5, .inr (4, [.null]))]) hD hS hA [3] rfl
  refine va_callv (va_runI (As := [.ref h1]) (rest := [.ref q5, .ref h0]) ⟨hx, hb, hml, hown, hts⟩ (k_X4_init l dC dI cI cZ q5 h1 H.size) (cwI 1 hts (rb_gi wk_X4_init) rfl rfl rfl (hts _ wn_4) (hts _ wm_RX0_33) (hts _ wx_X4_init) rfl (by decide +kernel) ⟨Nat.le_of_ble_eq_true rfl, Nat.le_of_ble_eq_true rfl⟩) ⟨fun a U g mk q => by obtain ⟨q0, q1, qP, qK, qD⟩ := q; exact ⟨q0, q1, qP, va_K.moved (u := U) (U := U.calling g mk a) (Vm.Alike.refl U.vm) qK, qD⟩, fun U hU hW => ⟨rfl, by rw [hU], by rw [hU]; exact hPc, va_K.moved hW.alike hK, hDc.weaken (fun _ _ _ _ => trivial)⟩⟩ rfl rfl hl.1 rfl (lv_room (Nat.le_of_ble_eq_true rfl)) dX0_init_39 ⟨Nat.le_of_ble_eq_true rfl, Nat.le_of_ble_eq_true rfl⟩) hS (fun q _ h => hFc q h) hFc (fun u6 t H1 locs ht hvm hw hB hz1 hk1 hS => ?_)
  obtain ⟨hP1, hK1, hD1⟩ := hB
  rw [ht] at hP1
  obtain ⟨hP, hD⟩ := va_join (wr := [(h0, .inr (0, [.ref q1, .ref q3, .null, .ref h1, .null, .int 0, .int 0, .int 0])), (q1, .inr (5, [.ref h1])), (q3, .inr (1, [.ref h1]))]) (w1 := [(q5, .inr (4, [.ref h1]))]) hP hD [3] [0, 1, 2] rfl rfl (by decide) (by decide) hk1 hFc hP1 hD1
  clear hPc hDc hFc hP1 hK1 hD1 hk1 hz1
  generalize H1 = H at hP hS ⊢
  have hP : va_P (dC, dI) rb_cl [(h0, .inr (0, [.ref q1, .ref q3, .null, .ref h1, .null, .int 0, .int 0, .int 0])), (q1, .inr (5, [.ref h1])), (q3, .inr (1, [.ref h1])), (q5, .inr (4, [.ref h1]))] H := hP
  have hD : va_D A [(h0, .inr (0, [.ref q1, .ref q3, .null, .ref h1, .null, .int 0, .int 0, .int 0])), (q1, .inr (5, [.ref h1])), (q3, .inr (1, [.ref h1])), (q5, .inr (4, [.ref h1]))] := hD
  refine va_putF (D := (dC, dI)) (ci := 0) (v := .ref q5) (ty := (.object "ReadyBell$Tasks")) (C := RX0) (T := TX0) (N := 8) hx hb hts rb_in0 tyX0 tyX0_ok nmX0 hown hK hP hD hS 0 rfl rfl 2 (by decide) (hts _ wf_RX0_34) (fun _ h9 => h9) rfl hin rfl (by decide +kernel) rfl rfl (Nat.le_of_ble_eq_true rfl) dX0_init_42 (fun H locs hP hD hS => ?_)
  have hP : va_P (dC, dI) rb_cl [(h0, .inr (0, [.ref q1, .ref q3, .ref q5, .ref h1, .null, .int 0, .int 0, .int 0])), (q1, .inr (5, [.ref h1])), (q3, .inr (1, [.ref h1])), (q5, .inr (4, [.ref h1]))] H := hP
  have hD : va_D A [(h0, .inr (0, [.ref q1, .ref q3, .ref q5, .ref h1, .null, .int 0, .int 0, .int 0])), (q1, .inr (5, [.ref h1])), (q3, .inr (1, [.ref h1])), (q5, .inr (4, [.ref h1]))] := hD
  refine lv_aload_n hx hb dX0_init_45 rfl (lv_at hl 0 rfl) ?_
  refine lv_bipush (v := 8) hx hb dX0_init_46 kb_8 ?_
  refine va_newa (atype := .int) (ty := .int) (n := 8) (N' := 8) (a0 := (8, .inl (fun _ => 0))) hx hb (hts _ rb_w7) rfl hK hP hD hS hA (fun _ => rfl) (by decide) (by decide) (Nat.le_of_ble_eq_true rfl) (Nat.le_of_ble_eq_true rfl) (Nat.le_of_ble_eq_true rfl) dX0_init_48 (fun q7 cA8 H hK hP hD hS => ?_)
  obtain rfl := (rb_cA hK).symm
  have hK := hK.sub (tys' := [(cI, .int), (cZ, .boolean)]) [0, 1] rfl
  have hP : va_P (dC, dI) rb_cl [(h0, .inr (0, [.ref q1, .ref q3, .ref q5, .ref h1, .null, .int 0, .int 0, .int 0])), (q1, .inr (5, [.ref h1])), (q3, .inr (1, [.ref h1])), (q5, .inr (4, [.ref h1])), (q7, .inl (cI, 8, .inl (fun _ => 0)))] H := hP
  have hD : va_D A [(h0, .inr (0, [.ref q1, .ref q3, .ref q5, .ref h1, .null, .int 0, .int 0, .int 0])), (q1, .inr (5, [.ref h1])), (q3, .inr (1, [.ref h1])), (q5, .inr (4, [.ref h1])), (q7, .inl (cI, 8, .inl (fun _ => 0)))] := hD
  refine va_putF (D := (dC, dI)) (ci := 0) (v := .ref q7) (ty := (.array .int)) (C := RX0) (T := TX0) (N := 8) hx hb hts rb_in0 tyX0 tyX0_ok nmX0 hown hK hP hD hS 0 rfl rfl 4 (by decide) (hts _ wf_RX0_38) (fun _ h9 => h9) rfl hin rfl (by decide +kernel) rfl rfl (Nat.le_of_ble_eq_true rfl) dX0_init_50 (fun H locs hP hD hS => ?_)
  have hP : va_P (dC, dI) rb_cl [(h0, .inr (0, [.ref q1, .ref q3, .ref q5, .ref h1, .ref q7, .int 0, .int 0, .int 0])), (q1, .inr (5, [.ref h1])), (q3, .inr (1, [.ref h1])), (q5, .inr (4, [.ref h1])), (q7, .inl (cI, 8, .inl (fun _ => 0)))] H := hP
  have hD : va_D A [(h0, .inr (0, [.ref q1, .ref q3, .ref q5, .ref h1, .ref q7, .int 0, .int 0, .int 0])), (q1, .inr (5, [.ref h1])), (q3, .inr (1, [.ref h1])), (q5, .inr (4, [.ref h1])), (q7, .inl (cI, 8, .inl (fun _ => 0)))] := hD
  refine W.widen (k := 4) (n := 11) (Nat.le_of_ble_eq_true rfl) (Nat.le_of_ble_eq_true rfl) ?_
  exact W.vret hx hb hr (fun t ht hW => ⟨⟨(q1, q3, q5, q7), rfl, trivial, by rw [ht]; exact hP, va_K.moved hW.alike hK, hD⟩, hS.F ht⟩) hS.2.2 dX0_init_53
theorem wl_RX2_3 : Cond.methodLink RX2 3 objectInit ∈ rb_tbl := rb_at 233 (by decide +kernel) rfl
theorem wf_RX2_11 : Cond.fieldLink RX2 11 "ReadyBell$Past" "rows" "[I" ∈ rb_tbl := rb_at 234 (by decide +kernel) rfl
theorem wf_RX2_15 : Cond.fieldLink RX2 15 "ReadyBell$Past" "now" "I" ∈ rb_tbl := rb_at 235 (by decide +kernel) rfl
theorem wf_RX2_19 : Cond.fieldLink RX2 19 "ReadyBell$Past" "behind" "I" ∈ rb_tbl := rb_at 236 (by decide +kernel) rfl
theorem wf_RX2_22 : Cond.fieldLink RX2 22 "ReadyBell$Past" "ahead" "I" ∈ rb_tbl := rb_at 238 (by decide +kernel) rfl
set_option maxHeartbeats 4000000 in
set_option maxRecDepth 100000 in
theorem k_X2_init (l : Launch) (dC : Nat → ClassId) (dI : Nat → Nat → Nat) (cI cZ : ClassId) (h0 : Nat) (sz : Nat) : Met l yX2_init (Cond.code yX2_init cX2_init 1 none :: rb_tbl) ({ frames := 1, cells := 1, slots := 10049, locals := 12 }) (va_Pc [.ref h0] (fun U => U.heap.size = sz ∧ va_P (dC, dI) rb_cl [(h0, .inr (2, [.null, .int 0, .int 0, .int 0]))] U.heap ∧ va_K (dC, dI) rb_cl [(cI, .int), (cZ, .boolean)] U ∧ va_D (fun _ => True) [(h0, .inr (2, [.null, .int 0, .int 0, .int 0]))])) (va_Qv (fun (_ : Nat) => True) (fun (u : Nat) t => match u with
  | q1 => va_P (dC, dI) rb_cl [(h0, .inr (2, [.ref q1, .int 0, .int 0, .int 0])), (q1, .inl (cI, 10049, .inl (fun _ => 0)))] t.heap ∧ va_K (dC, dI) rb_cl [(cI, .int), (cZ, .boolean)] t ∧ va_D (va_A [(h0, .inr (2, [.null, .int 0, .int 0, .int 0]))] sz) [(h0, .inr (2, [.ref q1, .int 0, .int 0, .int 0])), (q1, .inl (cI, 10049, .inl (fun _ => 0)))]) (va_A [(h0, .inr (2, [.null, .int 0, .int 0, .int 0]))] sz)) 1 10049 (va_A [(h0, .inr (2, [.null, .int 0, .int 0, .int 0]))] sz) := by
  refine Met.ofW (cc := cX2_init) (maxL := 1) (ret := none) (by decide) rfl ?_
  intro p e s m args below meth c s₁ B hml hv
  obtain ⟨rfl, hsz, hP, hK, hD0⟩ := hv
  have hx := B.exec
  have hb := B.bytes
  have hr := B.returns
  have hts0 := atoms_spec (ws := Cond.code yX2_init cX2_init 1 none :: rb_tbl) B.pre
  have hts : ∀ w ∈ rb_tbl, w.before ([.ref h0] : List Value).toArray s = true := fun w hw => hts0 w (List.mem_cons_of_mem _ hw)
  have hown : s.vm.findClass RX2 = some m.cls := findClass_of_methodNamed B.named
  have hlocks := B.notSynchronized
  have hin : meth.name = "<init>" := (name_of_methodNamed B.named B.method).1
  subst hsz
  have hD := hD0.self (sz := s.heap.size)
  generalize hAe : va_A [(h0, .inr (2, [.null, .int 0, .int 0, .int 0]))] s.heap.size = A at hD ⊢
  have hA : ∀ q : Nat, s.heap.size ≤ q → A q := fun q h => by rw [← hAe]; exact Or.inr h
  have hS : va_S A s.heap s.heap [] := va_S.rf
  have hl := lv_entry ([.ref h0]) (n := 1) (Nat.le_of_ble_eq_true rfl)
  rw [lg_entry_eq]
  generalize (lg_sl ([.ref h0]) ++ List.replicate (1 - (lg_sl ([.ref h0])).length) Slot.unset).toArray = ls at hl ⊢
  have hl : lv_has ls 1 [(0, .ref h0)] := hl
  have hP : va_P (dC, dI) rb_cl [(h0, .inr (2, [.null, .int 0, .int 0, .int 0]))] s.heap := hP
  refine lv_aload_n hx hb dX2_init_0 rfl (lv_at hl 0 rfl) ?_
  refine W.objInit hx hb hown (hts _ wl_RX2_3) (hts _ rb_w9) (hts _ rb_w10) rfl (by rw [hml]; exact hl.1) rfl dX2_init_1 (Nat.le_of_ble_eq_true rfl) (Nat.le_of_ble_eq_true rfl) ?_
  refine W.eq (g2 := F0 m 4 ls []) rfl ?_
  refine lv_aload_n hx hb dX2_init_4 rfl (lv_at hl 0 rfl) ?_
  refine lv_sipush (v := 10049) hx hb dX2_init_5 ks_10049 ?_
  refine va_newa (atype := .int) (ty := .int) (n := 10049) (N' := 10049) (a0 := (10049, .inl (fun _ => 0))) hx hb (hts _ rb_w7) rfl hK hP hD hS hA (fun _ => rfl) (by decide) (by decide) (Nat.le_of_ble_eq_true rfl) (Nat.le_of_ble_eq_true rfl) (Nat.le_of_ble_eq_true rfl) dX2_init_8 (fun q1 cA2 H hK hP hD hS => ?_)
  obtain rfl := (rb_cA hK).symm
  have hK := hK.sub (tys' := [(cI, .int), (cZ, .boolean)]) [0, 1] rfl
  have hP : va_P (dC, dI) rb_cl [(h0, .inr (2, [.null, .int 0, .int 0, .int 0])), (q1, .inl (cI, 10049, .inl (fun _ => 0)))] H := hP
  have hD : va_D A [(h0, .inr (2, [.null, .int 0, .int 0, .int 0])), (q1, .inl (cI, 10049, .inl (fun _ => 0)))] := hD
  refine va_putF (D := (dC, dI)) (ci := 2) (v := .ref q1) (ty := (.array .int)) (C := RX2) (T := TX2) (N := 4) hx hb hts rb_in2 tyX2 tyX2_ok nmX2 hown hK hP hD hS 0 rfl rfl 0 (by decide) (hts _ wf_RX2_11) (fun _ h9 => h9) rfl hin rfl (by decide +kernel) rfl rfl (Nat.le_of_ble_eq_true rfl) dX2_init_10 (fun H locs hP hD hS => ?_)
  have hP : va_P (dC, dI) rb_cl [(h0, .inr (2, [.ref q1, .int 0, .int 0, .int 0])), (q1, .inl (cI, 10049, .inl (fun _ => 0)))] H := hP
  have hD : va_D A [(h0, .inr (2, [.ref q1, .int 0, .int 0, .int 0])), (q1, .inl (cI, 10049, .inl (fun _ => 0)))] := hD
  refine lv_aload_n hx hb dX2_init_13 rfl (lv_at hl 0 rfl) ?_
  refine lv_iconst (v := 0) hx hb dX2_init_14 ki_0 ?_
  refine va_put (D := (dC, dI)) (ci := 2) (v := .int 0) (ty := .int) (C := RX2) (T := TX2) (N := 4) hx hb hts rb_in2 tyX2 tyX2_ok nmX2 hown hK hP hD hS 0 rfl rfl 1 (by decide) (hts _ wf_RX2_15) (fun _ h9 => h9) rfl (by decide +kernel) rfl rfl (Nat.le_of_ble_eq_true rfl) dX2_init_15 (fun H locs hP hD hS => ?_)
  have hP : va_P (dC, dI) rb_cl [(h0, .inr (2, [.ref q1, .int 0, .int 0, .int 0])), (q1, .inl (cI, 10049, .inl (fun _ => 0)))] H := hP
  have hD : va_D A [(h0, .inr (2, [.ref q1, .int 0, .int 0, .int 0])), (q1, .inl (cI, 10049, .inl (fun _ => 0)))] := hD
  refine lv_aload_n hx hb dX2_init_18 rfl (lv_at hl 0 rfl) ?_
  refine lv_iconst (v := 0) hx hb dX2_init_19 ki_0 ?_
  refine va_put (D := (dC, dI)) (ci := 2) (v := .int 0) (ty := .int) (C := RX2) (T := TX2) (N := 4) hx hb hts rb_in2 tyX2 tyX2_ok nmX2 hown hK hP hD hS 0 rfl rfl 2 (by decide) (hts _ wf_RX2_19) (fun _ h9 => h9) rfl (by decide +kernel) rfl rfl (Nat.le_of_ble_eq_true rfl) dX2_init_20 (fun H locs hP hD hS => ?_)
  have hP : va_P (dC, dI) rb_cl [(h0, .inr (2, [.ref q1, .int 0, .int 0, .int 0])), (q1, .inl (cI, 10049, .inl (fun _ => 0)))] H := hP
  have hD : va_D A [(h0, .inr (2, [.ref q1, .int 0, .int 0, .int 0])), (q1, .inl (cI, 10049, .inl (fun _ => 0)))] := hD
  refine lv_aload_n hx hb dX2_init_23 rfl (lv_at hl 0 rfl) ?_
  refine lv_iconst (v := 0) hx hb dX2_init_24 ki_0 ?_
  refine va_put (D := (dC, dI)) (ci := 2) (v := .int 0) (ty := .int) (C := RX2) (T := TX2) (N := 4) hx hb hts rb_in2 tyX2 tyX2_ok nmX2 hown hK hP hD hS 0 rfl rfl 3 (by decide) (hts _ wf_RX2_22) (fun _ h9 => h9) rfl (by decide +kernel) rfl rfl (Nat.le_of_ble_eq_true rfl) dX2_init_25 (fun H locs hP hD hS => ?_)
  have hP : va_P (dC, dI) rb_cl [(h0, .inr (2, [.ref q1, .int 0, .int 0, .int 0])), (q1, .inl (cI, 10049, .inl (fun _ => 0)))] H := hP
  have hD : va_D A [(h0, .inr (2, [.ref q1, .int 0, .int 0, .int 0])), (q1, .inl (cI, 10049, .inl (fun _ => 0)))] := hD
  refine W.widen (k := 1) (n := 10049) (Nat.le_of_ble_eq_true rfl) (Nat.le_of_ble_eq_true rfl) ?_
  exact W.vret hx hb hr (fun t ht hW => ⟨⟨(q1), rfl, trivial, by rw [ht]; exact hP, va_K.moved hW.alike hK, hD⟩, hS.F ht⟩) hS.2.2 dX2_init_28
theorem wl_RX3_3 : Cond.methodLink RX3 3 objectInit ∈ rb_tbl := rb_at 205 (by decide +kernel) rfl
theorem wf_RX3_9 : Cond.fieldLink RX3 9 "ReadyBell$Paths" "trial" "LReadyBell$House;" ∈ rb_tbl := rb_at 206 (by decide +kernel) rfl
theorem wf_RX3_15 : Cond.fieldLink RX3 15 "ReadyBell$Paths" "cells" "[I" ∈ rb_tbl := rb_at 207 (by decide +kernel) rfl
theorem wf_RX3_19 : Cond.fieldLink RX3 19 "ReadyBell$Paths" "rows" "[I" ∈ rb_tbl := rb_at 208 (by decide +kernel) rfl
theorem wf_RX3_22 : Cond.fieldLink RX3 22 "ReadyBell$Paths" "tally" "[I" ∈ rb_tbl := rb_at 209 (by decide +kernel) rfl
set_option maxHeartbeats 4000000 in
set_option maxRecDepth 100000 in
theorem k_X3_init (l : Launch) (dC : Nat → ClassId) (dI : Nat → Nat → Nat) (cI cZ : ClassId) (h0 h1 h2 : Nat) (sz : Nat) : Met l yX3_init (Cond.code yX3_init cX3_init 3 none :: rb_tbl) ({ frames := 1, cells := 2, slots := 6189, locals := 12 }) (va_Pc [.ref h0, .ref h1, .ref h2] (fun U => U.heap.size = sz ∧ va_P (dC, dI) rb_cl [(h0, .inr (3, [.null, .null, .null, .null, .int 0, .int 0, .int 0]))] U.heap ∧ va_K (dC, dI) rb_cl [(cI, .int), (cZ, .boolean)] U ∧ va_D (fun _ => True) [(h0, .inr (3, [.null, .null, .null, .null, .int 0, .int 0, .int 0]))])) (va_Qv (fun (_ : Nat × Nat) => True) (fun (u : Nat × Nat) t => match u with
  | (q1, q3) => va_P (dC, dI) rb_cl [(h0, .inr (3, [.ref h1, .ref h2, .ref q1, .ref q3, .int 0, .int 0, .int 0])), (q1, .inl (cI, 6184, .inl (fun _ => 0))), (q3, .inl (cI, 5, .inl (fun _ => 0)))] t.heap ∧ va_K (dC, dI) rb_cl [(cI, .int), (cZ, .boolean)] t ∧ va_D (va_A [(h0, .inr (3, [.null, .null, .null, .null, .int 0, .int 0, .int 0]))] sz) [(h0, .inr (3, [.ref h1, .ref h2, .ref q1, .ref q3, .int 0, .int 0, .int 0])), (q1, .inl (cI, 6184, .inl (fun _ => 0))), (q3, .inl (cI, 5, .inl (fun _ => 0)))]) (va_A [(h0, .inr (3, [.null, .null, .null, .null, .int 0, .int 0, .int 0]))] sz)) 2 6189 (va_A [(h0, .inr (3, [.null, .null, .null, .null, .int 0, .int 0, .int 0]))] sz) := by
  refine Met.ofW (cc := cX3_init) (maxL := 3) (ret := none) (by decide) rfl ?_
  intro p e s m args below meth c s₁ B hml hv
  obtain ⟨rfl, hsz, hP, hK, hD0⟩ := hv
  have hx := B.exec
  have hb := B.bytes
  have hr := B.returns
  have hts0 := atoms_spec (ws := Cond.code yX3_init cX3_init 3 none :: rb_tbl) B.pre
  have hts : ∀ w ∈ rb_tbl, w.before ([.ref h0, .ref h1, .ref h2] : List Value).toArray s = true := fun w hw => hts0 w (List.mem_cons_of_mem _ hw)
  have hown : s.vm.findClass RX3 = some m.cls := findClass_of_methodNamed B.named
  have hlocks := B.notSynchronized
  have hin : meth.name = "<init>" := (name_of_methodNamed B.named B.method).1
  subst hsz
  have hD := hD0.self (sz := s.heap.size)
  generalize hAe : va_A [(h0, .inr (3, [.null, .null, .null, .null, .int 0, .int 0, .int 0]))] s.heap.size = A at hD ⊢
  have hA : ∀ q : Nat, s.heap.size ≤ q → A q := fun q h => by rw [← hAe]; exact Or.inr h
  have hS : va_S A s.heap s.heap [] := va_S.rf
  have hl := lv_entry ([.ref h0, .ref h1, .ref h2]) (n := 3) (Nat.le_of_ble_eq_true rfl)
  rw [lg_entry_eq]
  generalize (lg_sl ([.ref h0, .ref h1, .ref h2]) ++ List.replicate (3 - (lg_sl ([.ref h0, .ref h1, .ref h2])).length) Slot.unset).toArray = ls at hl ⊢
  have hl : lv_has ls 3 [(0, .ref h0), (1, .ref h1), (2, .ref h2)] := hl
  have hP : va_P (dC, dI) rb_cl [(h0, .inr (3, [.null, .null, .null, .null, .int 0, .int 0, .int 0]))] s.heap := hP
  refine lv_aload_n hx hb dX3_init_0 rfl (lv_at hl 0 rfl) ?_
  refine W.objInit hx hb hown (hts _ wl_RX3_3) (hts _ rb_w9) (hts _ rb_w10) rfl (by rw [hml]; exact hl.1) rfl dX3_init_1 (Nat.le_of_ble_eq_true rfl) (Nat.le_of_ble_eq_true rfl) ?_
  refine W.eq (g2 := F0 m 4 ls []) rfl ?_
  refine lv_aload_n hx hb dX3_init_4 rfl (lv_at hl 0 rfl) ?_
  refine lv_aload_n hx hb dX3_init_5 rfl (lv_at hl 1 rfl) ?_
  refine va_putF (D := (dC, dI)) (ci := 3) (v := .ref h1) (ty := (.object "ReadyBell$House")) (C := RX3) (T := TX3) (N := 7) hx hb hts rb_in3 tyX3 tyX3_ok nmX3 hown hK hP hD hS 0 rfl rfl 0 (by decide) (hts _ wf_RX3_9) (fun _ h9 => h9) rfl hin rfl (by decide +kernel) rfl rfl (Nat.le_of_ble_eq_true rfl) dX3_init_6 (fun H locs hP hD hS => ?_)
  have hP : va_P (dC, dI) rb_cl [(h0, .inr (3, [.ref h1, .null, .null, .null, .int 0, .int 0, .int 0]))] H := hP
  have hD : va_D A [(h0, .inr (3, [.ref h1, .null, .null, .null, .int 0, .int 0, .int 0]))] := hD
  refine lv_aload_n hx hb dX3_init_9 rfl (lv_at hl 0 rfl) ?_
  refine lv_aload_n hx hb dX3_init_10 rfl (lv_at hl 2 rfl) ?_
  refine va_putF (D := (dC, dI)) (ci := 3) (v := .ref h2) (ty := (.array .int)) (C := RX3) (T := TX3) (N := 7) hx hb hts rb_in3 tyX3 tyX3_ok nmX3 hown hK hP hD hS 0 rfl rfl 1 (by decide) (hts _ wf_RX3_15) (fun _ h9 => h9) rfl hin rfl (by decide +kernel) rfl rfl (Nat.le_of_ble_eq_true rfl) dX3_init_11 (fun H locs hP hD hS => ?_)
  have hP : va_P (dC, dI) rb_cl [(h0, .inr (3, [.ref h1, .ref h2, .null, .null, .int 0, .int 0, .int 0]))] H := hP
  have hD : va_D A [(h0, .inr (3, [.ref h1, .ref h2, .null, .null, .int 0, .int 0, .int 0]))] := hD
  refine lv_aload_n hx hb dX3_init_14 rfl (lv_at hl 0 rfl) ?_
  refine lv_sipush (v := 6184) hx hb dX3_init_15 ks_6184 ?_
  refine va_newa (atype := .int) (ty := .int) (n := 6184) (N' := 6184) (a0 := (6184, .inl (fun _ => 0))) hx hb (hts _ rb_w7) rfl hK hP hD hS hA (fun _ => rfl) (by decide) (by decide) (Nat.le_of_ble_eq_true rfl) (Nat.le_of_ble_eq_true rfl) (Nat.le_of_ble_eq_true rfl) dX3_init_18 (fun q1 cA2 H hK hP hD hS => ?_)
  obtain rfl := (rb_cA hK).symm
  have hK := hK.sub (tys' := [(cI, .int), (cZ, .boolean)]) [0, 1] rfl
  have hP : va_P (dC, dI) rb_cl [(h0, .inr (3, [.ref h1, .ref h2, .null, .null, .int 0, .int 0, .int 0])), (q1, .inl (cI, 6184, .inl (fun _ => 0)))] H := hP
  have hD : va_D A [(h0, .inr (3, [.ref h1, .ref h2, .null, .null, .int 0, .int 0, .int 0])), (q1, .inl (cI, 6184, .inl (fun _ => 0)))] := hD
  refine va_putF (D := (dC, dI)) (ci := 3) (v := .ref q1) (ty := (.array .int)) (C := RX3) (T := TX3) (N := 7) hx hb hts rb_in3 tyX3 tyX3_ok nmX3 hown hK hP hD hS 0 rfl rfl 2 (by decide) (hts _ wf_RX3_19) (fun _ h9 => h9) rfl hin rfl (by decide +kernel) rfl rfl (Nat.le_of_ble_eq_true rfl) dX3_init_20 (fun H locs hP hD hS => ?_)
  have hP : va_P (dC, dI) rb_cl [(h0, .inr (3, [.ref h1, .ref h2, .ref q1, .null, .int 0, .int 0, .int 0])), (q1, .inl (cI, 6184, .inl (fun _ => 0)))] H := hP
  have hD : va_D A [(h0, .inr (3, [.ref h1, .ref h2, .ref q1, .null, .int 0, .int 0, .int 0])), (q1, .inl (cI, 6184, .inl (fun _ => 0)))] := hD
  refine lv_aload_n hx hb dX3_init_23 rfl (lv_at hl 0 rfl) ?_
  refine lv_iconst (v := 5) hx hb dX3_init_24 ki_5 ?_
  refine va_newa (atype := .int) (ty := .int) (n := 5) (N' := 5) (a0 := (5, .inl (fun _ => 0))) hx hb (hts _ rb_w7) rfl hK hP hD hS hA (fun _ => rfl) (by decide) (by decide) (Nat.le_of_ble_eq_true rfl) (Nat.le_of_ble_eq_true rfl) (Nat.le_of_ble_eq_true rfl) dX3_init_25 (fun q3 cA4 H hK hP hD hS => ?_)
  obtain rfl := (rb_cA hK).symm
  have hK := hK.sub (tys' := [(cI, .int), (cZ, .boolean)]) [0, 1] rfl
  have hP : va_P (dC, dI) rb_cl [(h0, .inr (3, [.ref h1, .ref h2, .ref q1, .null, .int 0, .int 0, .int 0])), (q1, .inl (cI, 6184, .inl (fun _ => 0))), (q3, .inl (cI, 5, .inl (fun _ => 0)))] H := hP
  have hD : va_D A [(h0, .inr (3, [.ref h1, .ref h2, .ref q1, .null, .int 0, .int 0, .int 0])), (q1, .inl (cI, 6184, .inl (fun _ => 0))), (q3, .inl (cI, 5, .inl (fun _ => 0)))] := hD
  refine va_putF (D := (dC, dI)) (ci := 3) (v := .ref q3) (ty := (.array .int)) (C := RX3) (T := TX3) (N := 7) hx hb hts rb_in3 tyX3 tyX3_ok nmX3 hown hK hP hD hS 0 rfl rfl 3 (by decide) (hts _ wf_RX3_22) (fun _ h9 => h9) rfl hin rfl (by decide +kernel) rfl rfl (Nat.le_of_ble_eq_true rfl) dX3_init_27 (fun H locs hP hD hS => ?_)
  have hP : va_P (dC, dI) rb_cl [(h0, .inr (3, [.ref h1, .ref h2, .ref q1, .ref q3, .int 0, .int 0, .int 0])), (q1, .inl (cI, 6184, .inl (fun _ => 0))), (q3, .inl (cI, 5, .inl (fun _ => 0)))] H := hP
  have hD : va_D A [(h0, .inr (3, [.ref h1, .ref h2, .ref q1, .ref q3, .int 0, .int 0, .int 0])), (q1, .inl (cI, 6184, .inl (fun _ => 0))), (q3, .inl (cI, 5, .inl (fun _ => 0)))] := hD
  refine W.widen (k := 2) (n := 6189) (Nat.le_of_ble_eq_true rfl) (Nat.le_of_ble_eq_true rfl) ?_
  exact W.vret hx hb hr (fun t ht hW => ⟨⟨(q1, q3), rfl, trivial, by rw [ht]; exact hP, va_K.moved hW.alike hK, hD⟩, hS.F ht⟩) hS.2.2 dX3_init_30
set_option maxHeartbeats 4000000 in
set_option maxRecDepth 100000 in
theorem k_X2_restart (l : Launch) (dC : Nat → ClassId) (dI : Nat → Nat → Nat) (cI cZ : ClassId) (h0 h1 h2 : Nat) (f1 f2 : rb_Row) (sz : Nat) : Met l yX2_restart (Cond.code yX2_restart cX2_restart 2 none :: rb_tbl) ({ frames := 1, cells := 0, slots := 0, locals := 40 }) (va_Pc [.ref h0, .ref h1] (fun U => U.heap.size = sz ∧ va_P (dC, dI) rb_cl [(h0, .inr (2, [.ref h2, .int 0, .int 0, .int 0])), (h1, .inl (cI, 773, .inl f1)), (h2, .inl (cI, 10049, .inl f2))] U.heap ∧ va_K (dC, dI) rb_cl [(cI, .int), (cZ, .boolean)] U ∧ va_D (fun _ => True) [(h0, .inr (2, [.ref h2, .int 0, .int 0, .int 0])), (h1, .inl (cI, 773, .inl f1)), (h2, .inl (cI, 10049, .inl f2))])) (va_Qv (fun (_ : Unit) => True) (fun (u : Unit) t => va_P (dC, dI) rb_cl [(h0, .inr (2, [.ref h2, .int 0, .int 0, .int 0])), (h1, .inl (cI, 773, .inl f1)), (h2, .inl (cI, 10049, .inl (va_cpy f1 f2 ((0) : Int32).toNatClampNeg (((0 * 773)) : Int32).toNatClampNeg ((773) : Int32).toNatClampNeg)))] t.heap ∧ va_K (dC, dI) rb_cl [(cI, .int), (cZ, .boolean)] t ∧ va_D (va_A [(h0, .inr (2, [.ref h2, .int 0, .int 0, .int 0])), (h1, .inl (cI, 773, .inl f1)), (h2, .inl (cI, 10049, .inl f2))] sz) [(h0, .inr (2, [.ref h2, .int 0, .int 0, .int 0])), (h1, .inl (cI, 773, .inl f1)), (h2, .inl (cI, 10049, .inl (va_cpy f1 f2 ((0) : Int32).toNatClampNeg (((0 * 773)) : Int32).toNatClampNeg ((773) : Int32).toNatClampNeg)))]) (va_A [(h0, .inr (2, [.ref h2, .int 0, .int 0, .int 0])), (h1, .inl (cI, 773, .inl f1)), (h2, .inl (cI, 10049, .inl f2))] sz)) 0 0 (va_A [(h0, .inr (2, [.ref h2, .int 0, .int 0, .int 0])), (h1, .inl (cI, 773, .inl f1)), (h2, .inl (cI, 10049, .inl f2))] sz) := by
  refine Met.ofW (cc := cX2_restart) (maxL := 2) (ret := none) (by decide) rfl ?_
  intro p e s m args below meth c s₁ B hml hv
  obtain ⟨rfl, hsz, hP, hK, hD0⟩ := hv
  have hx := B.exec
  have hb := B.bytes
  have hr := B.returns
  have hts0 := atoms_spec (ws := Cond.code yX2_restart cX2_restart 2 none :: rb_tbl) B.pre
  have hts : ∀ w ∈ rb_tbl, w.before ([.ref h0, .ref h1] : List Value).toArray s = true := fun w hw => hts0 w (List.mem_cons_of_mem _ hw)
  have hown : s.vm.findClass RX2 = some m.cls := findClass_of_methodNamed B.named
  have hlocks := B.notSynchronized
  subst hsz
  have hD := hD0.self (sz := s.heap.size)
  generalize hAe : va_A [(h0, .inr (2, [.ref h2, .int 0, .int 0, .int 0])), (h1, .inl (cI, 773, .inl f1)), (h2, .inl (cI, 10049, .inl f2))] s.heap.size = A at hD ⊢
  have hA : ∀ q : Nat, s.heap.size ≤ q → A q := fun q h => by rw [← hAe]; exact Or.inr h
  have hS : va_S A s.heap s.heap [] := va_S.rf
  have hl := lv_entry ([.ref h0, .ref h1]) (n := 2) (Nat.le_of_ble_eq_true rfl)
  rw [lg_entry_eq]
  generalize (lg_sl ([.ref h0, .ref h1]) ++ List.replicate (2 - (lg_sl ([.ref h0, .ref h1])).length) Slot.unset).toArray = ls at hl ⊢
  have hl : lv_has ls 2 [(0, .ref h0), (1, .ref h1)] := hl
  have hP : va_P (dC, dI) rb_cl [(h0, .inr (2, [.ref h2, .int 0, .int 0, .int 0])), (h1, .inl (cI, 773, .inl f1)), (h2, .inl (cI, 10049, .inl f2))] s.heap := hP
  refine lv_aload_n hx hb dX2_restart_0 rfl (lv_at hl 0 rfl) ?_
  refine lv_iconst (v := 0) hx hb dX2_restart_1 ki_0 ?_
  refine va_put (D := (dC, dI)) (ci := 2) (v := .int 0) (ty := .int) (C := RX2) (T := TX2) (N := 4) hx hb hts rb_in2 tyX2 tyX2_ok nmX2 hown hK hP hD hS 0 rfl rfl 2 (by decide) (hts _ wf_RX2_19) (fun _ h9 => h9) rfl (by decide +kernel) rfl rfl (Nat.le_of_ble_eq_true rfl) dX2_restart_2 (fun H locs hP hD hS => ?_)
  have hP : va_P (dC, dI) rb_cl [(h0, .inr (2, [.ref h2, .int 0, .int 0, .int 0])), (h1, .inl (cI, 773, .inl f1)), (h2, .inl (cI, 10049, .inl f2))] H := hP
  have hD : va_D A [(h0, .inr (2, [.ref h2, .int 0, .int 0, .int 0])), (h1, .inl (cI, 773, .inl f1)), (h2, .inl (cI, 10049, .inl f2))] := hD
  refine lv_aload_n hx hb dX2_restart_5 rfl (lv_at hl 0 rfl) ?_
  refine lv_iconst (v := 0) hx hb dX2_restart_6 ki_0 ?_
  refine va_put (D := (dC, dI)) (ci := 2) (v := .int 0) (ty := .int) (C := RX2) (T := TX2) (N := 4) hx hb hts rb_in2 tyX2 tyX2_ok nmX2 hown hK hP hD hS 0 rfl rfl 3 (by decide) (hts _ wf_RX2_22) (fun _ h9 => h9) rfl (by decide +kernel) rfl rfl (Nat.le_of_ble_eq_true rfl) dX2_restart_7 (fun H locs hP hD hS => ?_)
  have hP : va_P (dC, dI) rb_cl [(h0, .inr (2, [.ref h2, .int 0, .int 0, .int 0])), (h1, .inl (cI, 773, .inl f1)), (h2, .inl (cI, 10049, .inl f2))] H := hP
  have hD : va_D A [(h0, .inr (2, [.ref h2, .int 0, .int 0, .int 0])), (h1, .inl (cI, 773, .inl f1)), (h2, .inl (cI, 10049, .inl f2))] := hD
  refine lv_aload_n hx hb dX2_restart_10 rfl (lv_at hl 1 rfl) ?_
  refine lv_iconst (v := 0) hx hb dX2_restart_11 ki_0 ?_
  refine lv_aload_n hx hb dX2_restart_12 rfl (lv_at hl 0 rfl) ?_
  refine va_get (D := (dC, dI)) (ci := 2) (v := .ref h2) (C := RX2) (T := TX2) (N := 4) hx hb hts rb_in2 hown hK hP 0 rfl rfl 0 (by decide) (hts _ wf_RX2_11) (fun _ h9 => h9) rfl dX2_restart_13 ?_
  refine lv_aload_n hx hb dX2_restart_16 rfl (lv_at hl 0 rfl) ?_
  refine va_get (D := (dC, dI)) (ci := 2) (v := .int 0) (C := RX2) (T := TX2) (N := 4) hx hb hts rb_in2 hown hK hP 0 rfl rfl 1 (by decide) (hts _ wf_RX2_15) (fun _ h9 => h9) rfl dX2_restart_17 ?_
  refine lv_sipush (v := 773) hx hb dX2_restart_20 ks_773 ?_
  refine lv_imul hx hb dX2_restart_23 ?_
  refine lv_sipush (v := 773) hx hb dX2_restart_24 ks_773 ?_
  refine va_copyi hx hb (by rw [hml, hl.1]) hown (hts _ lk_RX2_25) (hts _ rb_w1) (hts _ rb_w2) (hts _ rb_w3) hK hP hD hS 1 2 0 0 rfl rfl rfl rfl rfl (by decide) (by decide) (by decide) (by decide) (by decide) (fun _ _ => rfl) (Nat.le_of_ble_eq_true rfl) (by rw [rb_nfw]; exact Nat.le_of_ble_eq_true rfl) dX2_restart_27 (fun H locs hP hD hS => ?_)
  have hP : va_P (dC, dI) rb_cl [(h0, .inr (2, [.ref h2, .int 0, .int 0, .int 0])), (h1, .inl (cI, 773, .inl f1)), (h2, .inl (cI, 10049, .inl (va_cpy f1 f2 ((0) : Int32).toNatClampNeg (((0 * 773)) : Int32).toNatClampNeg ((773) : Int32).toNatClampNeg)))] H := hP
  have hD : va_D A [(h0, .inr (2, [.ref h2, .int 0, .int 0, .int 0])), (h1, .inl (cI, 773, .inl f1)), (h2, .inl (cI, 10049, .inl (va_cpy f1 f2 ((0) : Int32).toNatClampNeg (((0 * 773)) : Int32).toNatClampNeg ((773) : Int32).toNatClampNeg)))] := hD
  refine W.widen (k := 0) (n := 0) (Nat.le_of_ble_eq_true rfl) (Nat.le_of_ble_eq_true rfl) ?_
  exact W.vret hx hb hr (fun t ht hW => ⟨⟨(), rfl, trivial, by rw [ht]; exact hP, va_K.moved hW.alike hK, hD⟩, hS.F ht⟩) hS.2.2 dX2_restart_30
