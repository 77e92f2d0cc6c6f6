/-- own's pool entry idx is field j of the class ci -/
def rb_FL (own : String) (idx ci j : Nat) : Prop := ∃ C : vw_C, rb_cl[ci]? = some C ∧ j < C.2.2 ∧ Cond.fieldLink own idx (C.2.1 j).1 (C.2.1 j).2.1 (C.2.1 j).2.2.1 ∈ rb_tbl
/-- .. and no final one, of type int -/
def rb_FP (own : String) (idx ci j : Nat) : Prop := ∃ C : vw_C, rb_cl[ci]? = some C ∧ j < C.2.2 ∧ Cond.fieldLink own idx (C.2.1 j).1 (C.2.1 j).2.1 (C.2.1 j).2.2.1 ∈ rb_tbl ∧ (C.2.1 j).2.2.2 = false ∧ parseFieldDescriptor (C.2.1 j).2.2.1 = some .int
def rb_rd (f : rb_Row) (n : Nat) (i : Int32) : Option Int32 := if i < 0 ∨ n ≤ i.toNatClampNeg then none else some (f i.toNatClampNeg)
def rb_wr (f : rb_Row) (n : Nat) (i x : Int32) : Option rb_Row := if i < 0 ∨ n ≤ i.toNatClampNeg then none else some (upd f i.toNatClampNeg x)
def rb_cp (f : rb_Row) (n0 : Nat) (sp : Int32) (g : rb_Row) (n1 : Nat) (dp n : Int32) : Option rb_Row := if sp < 0 ∨ dp < 0 ∨ n < 0 ∨ n0 < sp.toNatClampNeg + n.toNatClampNeg ∨ n1 < dp.toNatClampNeg + n.toNatClampNeg then none else some (va_cpy f g sp.toNatClampNeg dp.toNatClampNeg n.toNatClampNeg)
def rb_max (x y : Int32) : Int32 := if x < y then y else x
def rb_min (x y : Int32) : Int32 := if y < x then y else x
/-- a boolean keeps the lowest bit -/
def rb_nz (x : Int32) : Int32 := x &&& 1
theorem rb_rd_in {f : rb_Row} {n : Nat} {i v : Int32} (h : rb_rd f n i = some v) : vp_in i n ∧ f i.toNatClampNeg = v := by
  unfold rb_rd at h
  by_cases hc : i < 0 ∨ n ≤ i.toNatClampNeg
  · rw [if_pos hc] at h; cases h
  · rw [if_neg hc] at h; exact ⟨hc, Option.some.inj h⟩
theorem rb_wr_in {f r : rb_Row} {n : Nat} {i x : Int32} (h : rb_wr f n i x = some r) : vp_in i n ∧ upd f i.toNatClampNeg x = r := by
  unfold rb_wr at h
  by_cases hc : i < 0 ∨ n ≤ i.toNatClampNeg
  · rw [if_pos hc] at h; cases h
  · rw [if_neg hc] at h; exact ⟨hc, Option.some.inj h⟩
theorem rb_fv_set (ad : Nat → Nat) (r : rb_Row) (fs : List (Option Nat)) (j : Nat) (x : Int32) (h : fs[j]? = some none) : (fs.mapIdx (rb_fv ad r)).set j (.int x) = fs.mapIdx (rb_fv ad (upd r j x)) := by
  apply List.ext_getElem?
  intro q
  rw [List.getElem?_set]
  have hl : j < fs.length := (List.getElem?_eq_some_iff.mp h).1
  by_cases hq : j = q
  · subst hq
    rw [if_pos rfl, if_pos (by rw [List.length_mapIdx]; exact hl)]
    simp [List.getElem?_mapIdx, h, rb_fv, upd]
  · rw [if_neg hq]
    simp only [List.getElem?_mapIdx]
    cases hf : fs[q]? with
    | none => rfl
    | some f =>
      cases f with
      | none => simp [rb_fv, upd, Ne.symm hq]
      | some z => rfl
theorem rb_ret0 {p : Program} {l : Launch} {e : Env} {R : Room} {s : State} {m : MethodId} {args : Array Value} {below : List Frame} {meth : Method} {c : Code} {H : Heap} {locs : List Loc} {cells slots : Nat} {cc : ByteArray} {Qc : Array Value → State → Outcome → State → Prop} {free : Addr → Prop} {v w : Int32} {ty : FieldType} (hexec : p.tables.exec = Jvm.exec) (hb : c.code = cc) (hr : meth.sig.returnType = some ty) (hn : narrow ty (.int w) = .int v)
    (hq : ∀ t : State, t.heap = H → s.WarmedH t.vm → Qc args s (.returned (some (.int v))) t) (hf : ∀ q ∈ locs, free q.base)
    {pc : Nat} {ls : Array Slot} (hdg : decode cc pc = .ok (.ireturn, 1)) (hlocks : meth.locks = false) : W p l e R s m args below meth c H locs cells slots (MQ below Qc args s cells slots free) (F0 m pc ls [.int w]) := by
  intro T hT X
  have hlocks : meth.locks = false := hlocks
  obtain ⟨fs, hret, hrun, hended, hW, hframe⟩ := X.leave (v := some (.int v)) (fun h => by rw [hr] at h; cases h)
  have hmeth' : T.vm.method? m = some meth := X.method'
  refine ⟨T.setFrames fs, ?_, .returned (some (.int v)), hrun, hended, hq _ hT hW, locs, ⟨⟨_, rfl⟩, hW, hframe⟩, hf⟩
  jvm_step X.here [X.here.top, hexec, hb, hdg, hmeth', hr, hn]
  (try refine ⟨rfl, ?_⟩); (try refine ⟨rfl, ?_⟩)
  first | (intro acts; rw [hret _ acts rfl rfl rfl]) | rw [hret _ _ rfl rfl rfl]
  exact Steps.refl _
section rb_rules2
variable {own : String} {cc : ByteArray} {mL : Nat} {ret : Option FieldType} {X : Option (Nat × rb_Row)} {k : Nat} {r : Option Int32} {μf : rb_Mem} {pc : Nat} {L : List (Option rb_AV)} {st : List rb_AV} {μ β : rb_Mem} {w w' : List (Nat × rb_Row)}
theorem ev_getr {idx ci j p q : Nat} {fs : List (Option Nat)} (d : decode cc pc = .ok (.getfield idx, 3)) (fl : rb_FL own idx ci j) (hs : rb_SH[p]? = some (.inl (ci, fs))) (hf : fs[j]? = some (some q)) (K : rb_Ev own cc mL ret X k r μf (pc + 3) L (.inr q :: st) μ) : rb_Ev own cc mL ret X k r μf pc L (.inr p :: st) μ := by
  have hs := hs
  rename_i p0
  intro p l e R s m args below meth c H0 cells slots Q A dC dI cI cZ ad C F H locs ls hP hS hl
  obtain ⟨D, hD, hj, hw⟩ := fl
  exact va_get (D := (dC, dI)) (C := D.1) (T := D.2.1) (N := D.2.2) (v := rb_cv ad (.inr q)) C.1 C.2.1 C.2.2.2.2.1 (rb_in hD) C.2.2.2.1 C.2.2.2.2.2.2.1 hP _ (rb_wl_get ad cI cZ μ hs) hD j hj (C.2.2.2.2.1 _ hw) (fun _ h => h) (by simp [List.getElem?_mapIdx, hf, rb_fv, rb_cv]) d (K p l e R s m args below meth c H0 cells slots Q A dC dI cI cZ ad C F H locs ls hP hS hl)
theorem ev_geti {idx ci j p0 : Nat} {fs : List (Option Nat)} {v : Int32} (d : decode cc pc = .ok (.getfield idx, 3)) (fl : rb_FL own idx ci j) (hs : rb_SH[p0]? = some (.inl (ci, fs))) (hf : fs[j]? = some none) (hv : μ p0 j = v) (K : rb_Ev own cc mL ret X k r μf (pc + 3) L (.inl v :: st) μ) : rb_Ev own cc mL ret X k r μf pc L (.inr p0 :: st) μ := by
  subst hv
  intro p l e R s m args below meth c H0 cells slots Q A dC dI cI cZ ad C F H locs ls hP hS hl
  obtain ⟨D, hD, hj, hw⟩ := fl
  exact va_get (D := (dC, dI)) (C := D.1) (T := D.2.1) (N := D.2.2) (v := rb_cv ad (.inl (μ p0 j))) C.1 C.2.1 C.2.2.2.2.1 (rb_in hD) C.2.2.2.1 C.2.2.2.2.2.2.1 hP _ (rb_wl_get ad cI cZ μ hs) hD j hj (C.2.2.2.2.1 _ hw) (fun _ h => h) (by simp [List.getElem?_mapIdx, hf, rb_fv, rb_cv]) d (K p l e R s m args below meth c H0 cells slots Q A dC dI cI cZ ad C F H locs ls hP hS hl)
theorem ev_put {idx ci j p0 : Nat} {fs : List (Option Nat)} {x : Int32} {r0 : rb_Row} (d : decode cc pc = .ok (.putfield idx, 3)) (fl : rb_FP own idx ci j) (hs : rb_SH[p0]? = some (.inl (ci, fs))) (hf : fs[j]? = some none) (hr : rb_lk β w p0 = r0) (hw' : rb_st w p0 (upd r0 j x) = w') (K : rb_Ev own cc mL ret X k r μf (pc + 3) L st (rb_ov β w')) : rb_Ev own cc mL ret X k r μf pc L (.inl x :: .inr p0 :: st) (rb_ov β w) := by
  subst hr
  intro p l e R s m args below meth c H0 cells slots Q A dC dI cI cZ ad C F H locs ls hP hS hl
  obtain ⟨D, hD, hj, hw, hfin, hty⟩ := fl
  refine va_put (D := (dC, dI)) (C := D.1) (T := D.2.1) (N := D.2.2) (A := A) (ty := .int) (v := .int x) C.1 C.2.1 C.2.2.2.2.1 (rb_in hD) (rb_ty ci) (rb_tyok hD) (rb_nm hD) C.2.2.2.1 C.2.2.2.2.2.2.1 hP (rb_D _ C.2.2.2.2.2.2.2.2.2.1) hS p0 (rb_wl_get ad cI cZ _ hs) hD j hj (C.2.2.2.2.1 _ hw) (fun _ h => h) hfin hty rfl rfl (by rw [List.length_mapIdx]; exact (List.getElem?_eq_some_iff.mp hf).1) d (fun H1 locs1 hP1 hD1 hS1 => ?_)
  rw [rb_fv_set ad _ fs j x hf] at hP1
  have ew := rb_wl_set ad cI cZ (rb_ov β w) (upd (rb_ov β w p0) j x) hs
  rw [rb_up_ov] at ew
  have hP2 : va_P (dC, dI) rb_cl (rb_wl ad cI cZ (rb_ov β w')) H1 := by rw [← hw']; exact ew ▸ hP1
  exact K p l e R s m args below meth c H0 cells slots Q A dC dI cI cZ ad C F H1 locs1 ls hP2 hS1 hl
theorem ev_iald {n p0 : Nat} {i v : Int32} (d : decode cc pc = .ok (.iaload, 1)) (hs : rb_SH[p0]? = some (.inr (false, n))) (hv : rb_rd (μ p0) n i = some v) (K : rb_Ev own cc mL ret X k r μf (pc + 1) L (.inl v :: st) μ) : rb_Ev own cc mL ret X k r μf pc L (.inl i :: .inr p0 :: st) μ := by
  obtain ⟨hin, rfl⟩ := rb_rd_in hv
  intro p l e R s m args below meth c H0 cells slots Q A dC dI cI cZ ad C F H locs ls hP hS hl
  exact va_iald C.1 C.2.1 C.2.2.2.2.2.2.1 hP p0 0 (rb_wl_get ad cI cZ μ hs) rfl hin d (K p l e R s m args below meth c H0 cells slots Q A dC dI cI cZ ad C F H locs ls hP hS hl)
theorem ev_zald {n p0 : Nat} {i v : Int32} (d : decode cc pc = .ok (.baload, 1)) (hs : rb_SH[p0]? = some (.inr (true, n))) (hv : rb_rd (μ p0) n i = some v) (K : rb_Ev own cc mL ret X k r μf (pc + 1) L (.inl v :: st) μ) : rb_Ev own cc mL ret X k r μf pc L (.inl i :: .inr p0 :: st) μ := by
  obtain ⟨hin, rfl⟩ := rb_rd_in hv
  intro p l e R s m args below meth c H0 cells slots Q A dC dI cI cZ ad C F H locs ls hP hS hl
  exact va_zald C.1 C.2.1 C.2.2.2.2.2.2.1 hP p0 1 (rb_wl_get ad cI cZ μ hs) rfl hin d (K p l e R s m args below meth c H0 cells slots Q A dC dI cI cZ ad C F H locs ls hP hS hl)
theorem ev_iast {n p0 : Nat} {i x : Int32} {r' : rb_Row} (d : decode cc pc = .ok (.iastore, 1)) (hs : rb_SH[p0]? = some (.inr (false, n))) (hv : rb_wr (rb_lk β w p0) n i x = some r') (hw' : rb_st w p0 r' = w') (K : rb_Ev own cc mL ret X k r μf (pc + 1) L st (rb_ov β w')) : rb_Ev own cc mL ret X k r μf pc L (.inl x :: .inl i :: .inr p0 :: st) (rb_ov β w) := by
  obtain ⟨hin, hr⟩ := rb_wr_in hv
  intro p l e R s m args below meth c H0 cells slots Q A dC dI cI cZ ad C F H locs ls hP hS hl
  refine va_iast C.1 C.2.1 C.2.2.2.2.2.2.1 hP (rb_D _ C.2.2.2.2.2.2.2.2.2.1) hS p0 0 (rb_wl_get ad cI cZ _ hs) rfl hin d (fun H1 locs1 hP1 hD1 hS1 => ?_)
  have ew := rb_wl_set ad cI cZ (rb_ov β w) r' hs
  rw [rb_up_ov] at ew
  have hP2 : va_P (dC, dI) rb_cl (rb_wl ad cI cZ (rb_ov β w')) H1 := by rw [← hw', ← ew, ← hr]; exact hP1
  exact K p l e R s m args below meth c H0 cells slots Q A dC dI cI cZ ad C F H1 locs1 ls hP2 hS1 hl
theorem ev_zast {n p0 : Nat} {i x : Int32} {r' : rb_Row} (d : decode cc pc = .ok (.bastore, 1)) (hs : rb_SH[p0]? = some (.inr (true, n))) (hv : rb_wr (rb_lk β w p0) n i (rb_nz x) = some r') (hw' : rb_st w p0 r' = w') (K : rb_Ev own cc mL ret X k r μf (pc + 1) L st (rb_ov β w')) : rb_Ev own cc mL ret X k r μf pc L (.inl x :: .inl i :: .inr p0 :: st) (rb_ov β w) := by
  obtain ⟨hin, hr⟩ := rb_wr_in hv
  intro p l e R s m args below meth c H0 cells slots Q A dC dI cI cZ ad C F H locs ls hP hS hl
  refine va_zast C.1 C.2.1 C.2.2.2.2.2.2.1 hP (rb_D _ C.2.2.2.2.2.2.2.2.2.1) hS p0 1 (rb_wl_get ad cI cZ _ hs) rfl hin d (fun H1 locs1 hP1 hD1 hS1 => ?_)
  have ew := rb_wl_set ad cI cZ (rb_ov β w) r' hs
  rw [rb_up_ov] at ew
  have hP2 : va_P (dC, dI) rb_cl (rb_wl ad cI cZ (rb_ov β w')) H1 := by rw [← hw', ← ew, ← hr]; exact hP1
  exact K p l e R s m args below meth c H0 cells slots Q A dC dI cI cZ ad C F H1 locs1 ls hP2 hS1 hl
theorem ev_sld {n : Nat} {xs : rb_Row} {i v : Int32} (d : decode cc pc = .ok (.iaload, 1)) (hX : X = some (n, xs)) (hv : rb_rd xs n i = some v) (K : rb_Ev own cc mL ret X k r μf (pc + 1) L (.inl v :: st) μ) : rb_Ev own cc mL ret X k r μf pc L (.inl i :: .inr 99 :: st) μ := by
  obtain ⟨hin, rfl⟩ := rb_rd_in hv
  intro p l e R s m args below meth c H0 cells slots Q A dC dI cI cZ ad C F H locs ls hP hS hl
  obtain ⟨x1, x2, x3⟩ := C.2.2.2.2.2.2.2.2.1 n xs hX
  exact va_sld C.1 C.2.1 x1 x2 x3 hS hin d (K p l e R s m args below meth c H0 cells slots Q A dC dI cI cZ ad C F H locs ls hP hS hl)
theorem ev_slen {n : Nat} {xs : rb_Row} (d : decode cc pc = .ok (.arraylength, 1)) (hX : X = some (n, xs)) (K : rb_Ev own cc mL ret X k r μf (pc + 1) L (.inl (Int32.ofNat n) :: st) μ) : rb_Ev own cc mL ret X k r μf pc L (.inr 99 :: st) μ := by
  intro p l e R s m args below meth c H0 cells slots Q A dC dI cI cZ ad C F H locs ls hP hS hl
  obtain ⟨x1, x2, x3⟩ := C.2.2.2.2.2.2.2.2.1 n xs hX
  exact va_slen C.1 C.2.1 x1 x2 x3 hS d (K p l e R s m args below meth c H0 cells slots Q A dC dI cI cZ ad C F H locs ls hP hS hl)
theorem rb_csum (ad : Nat → Nat) (st : List rb_AV) : ((st.map (rb_cv ad)).map fun v => v.category).sum = st.length := by
  induction st with
  | nil => rfl
  | cons a st ih => simp only [List.map_cons, List.sum_cons, List.length_cons, ih, rb_cat]; omega
theorem rb_nfw : nativeFrameWords "java/lang/System" "arraycopy" 5 = 7 := by decide
theorem rb_w1 : Cond.native arraycopyName ∈ rb_tbl := rb_mem (by decide +kernel) rfl
theorem rb_w2 : Cond.static arraycopyName ∈ rb_tbl := rb_mem (by decide +kernel) rfl
theorem rb_w3 : Cond.initialized "java/lang/System" ∈ rb_tbl := rb_mem (by decide +kernel) rfl
theorem rb_w4a : Cond.static Lib.Math.max.name ∈ rb_tbl := rb_mem (by decide +kernel) rfl
theorem rb_w4b : Cond.code Lib.Math.max.name Lib.Math.max.code 2 (some .int) ∈ rb_tbl := rb_mem (by decide +kernel) rfl
theorem rb_w5a : Cond.static Lib.Math.min.name ∈ rb_tbl := rb_mem (by decide +kernel) rfl
theorem rb_w5b : Cond.code Lib.Math.min.name Lib.Math.min.code 2 (some .int) ∈ rb_tbl := rb_mem (by decide +kernel) rfl
theorem rb_w6 : Cond.initialized "java/lang/Math" ∈ rb_tbl := rb_mem (by decide +kernel) rfl
theorem ev_copy {idx n0 n1 p0 p1 : Nat} {sp dp n : Int32} {r' : rb_Row} (d : decode cc pc = .ok (.invokestatic idx, 3)) (lk : Cond.methodLink own idx arraycopyName ∈ rb_tbl) (hs0 : rb_SH[p0]? = some (.inr (false, n0))) (hs1 : rb_SH[p1]? = some (.inr (false, n1))) (hk : 1 ≤ k) (hst : st.length ≤ 8) (hv : rb_cp (rb_lk β w p0) n0 sp (rb_lk β w p1) n1 dp n = some r') (hw' : rb_st w p1 r' = w') (K : rb_Ev own cc mL ret X k r μf (pc + 3) L st (rb_ov β w')) : rb_Ev own cc mL ret X k r μf pc L (.inl n :: .inl dp :: .inr p1 :: .inl sp :: .inr p0 :: st) (rb_ov β w) := by
  unfold rb_cp at hv
  by_cases hc : sp < 0 ∨ dp < 0 ∨ n < 0 ∨ n0 < sp.toNatClampNeg + n.toNatClampNeg ∨ n1 < dp.toNatClampNeg + n.toNatClampNeg
  · rw [if_pos hc] at hv; cases hv
  rw [if_neg hc] at hv
  have hr := Option.some.inj hv
  simp only [not_or, Nat.not_lt] at hc
  obtain ⟨h1, h2, h3, h4, h5⟩ := hc
  intro p l e R s m args below meth c H0 cells slots Q A dC dI cI cZ ad C F H locs ls hP hS hl
  obtain ⟨hR1, hR2, hR3, hR4⟩ := C.2.2.2.2.2.1
  have hsum := rb_csum ad st
  refine va_copyi C.1 C.2.1 (by rw [C.2.2.1, hl.1]) C.2.2.2.1 (C.2.2.2.2.1 _ lk) (C.2.2.2.2.1 (.native arraycopyName) rb_w1) (C.2.2.2.2.1 (.static arraycopyName) rb_w2) (C.2.2.2.2.1 (.initialized "java/lang/System") rb_w3) C.2.2.2.2.2.2.1 hP (rb_D _ C.2.2.2.2.2.2.2.2.2.1) hS p0 p1 0 0 (rb_wl_get ad cI cZ _ hs0) (rb_wl_get ad cI cZ _ hs1) rfl rfl rfl h1 h2 h3 h4 h5 (fun _ _ => rfl) (by omega) (by rw [rb_nfw]; omega) d (fun H1 locs1 hP1 hD1 hS1 => ?_)
  have ew := rb_wl_set ad cI cZ (rb_ov β w) r' hs1
  rw [rb_up_ov] at ew
  have hP2 : va_P (dC, dI) rb_cl (rb_wl ad cI cZ (rb_ov β w')) H1 := by rw [← hw', ← ew, ← hr]; exact hP1
  exact K p l e R s m args below meth c H0 cells slots Q A dC dI cI cZ ad C F H1 locs1 ls hP2 hS1 hl
theorem ev_max {idx : Nat} {x y : Int32} (d : decode cc pc = .ok (.invokestatic idx, 3)) (lk : Cond.methodLink own idx Lib.Math.max.name ∈ rb_tbl) (hk : 1 ≤ k) (hst : st.length ≤ 8) (K : rb_Ev own cc mL ret X k r μf (pc + 3) L (.inl (rb_max x y) :: st) μ) : rb_Ev own cc mL ret X k r μf pc L (.inl y :: .inl x :: st) μ := by
  intro p l e R s m args below meth c H0 cells slots Q A dC dI cI cZ ad C F H locs ls hP hS hl
  obtain ⟨hR1, hR2, hR3, hR4⟩ := C.2.2.2.2.2.1
  have hsum := rb_csum ad st
  exact va_mmax C.1 C.2.1 (by rw [C.2.2.1, hl.1]) C.2.2.2.1 (C.2.2.2.2.1 _ lk) (C.2.2.2.2.1 (.static Lib.Math.max.name) rb_w4a) (C.2.2.2.2.1 (.initialized "java/lang/Math") rb_w6) (C.2.2.2.2.1 (.code Lib.Math.max.name Lib.Math.max.code 2 (some .int)) rb_w4b) (by omega) (by omega) hR3 hR4 d (K p l e R s m args below meth c H0 cells slots Q A dC dI cI cZ ad C F H locs ls hP hS hl)
theorem ev_min {idx : Nat} {x y : Int32} (d : decode cc pc = .ok (.invokestatic idx, 3)) (lk : Cond.methodLink own idx Lib.Math.min.name ∈ rb_tbl) (hk : 1 ≤ k) (hst : st.length ≤ 8) (K : rb_Ev own cc mL ret X k r μf (pc + 3) L (.inl (rb_min x y) :: st) μ) : rb_Ev own cc mL ret X k r μf pc L (.inl y :: .inl x :: st) μ := by
  intro p l e R s m args below meth c H0 cells slots Q A dC dI cI cZ ad C F H locs ls hP hS hl
  obtain ⟨hR1, hR2, hR3, hR4⟩ := C.2.2.2.2.2.1
  have hsum := rb_csum ad st
  exact va_mmin C.1 C.2.1 (by rw [C.2.2.1, hl.1]) C.2.2.2.1 (C.2.2.2.2.1 _ lk) (C.2.2.2.2.1 (.static Lib.Math.min.name) rb_w5a) (C.2.2.2.2.1 (.initialized "java/lang/Math") rb_w6) (C.2.2.2.2.1 (.code Lib.Math.min.name Lib.Math.min.code 2 (some .int)) rb_w5b) (by omega) (by omega) hR3 hR4 d (K p l e R s m args below meth c H0 cells slots Q A dC dI cI cZ ad C F H locs ls hP hS hl)
theorem ev_iret {v x : Int32} {ty : FieldType} (d : decode cc pc = .ok (.ireturn, 1)) (hret : ret = some ty) (hr : r = some v) (hx : vp_nar ty x = v) (hμ : μ = μf) : rb_Ev own cc mL ret X k r μf pc L [.inl x] μ := by
  subst hμ
  intro p l e R s m args below meth c H0 cells slots Q A dC dI cI cZ ad C F H locs ls hP hS hl
  exact (F H locs ls pc hP hS).1 v x ty hret hr hx d
theorem ev_ret (d : decode cc pc = .ok (.return_, 1)) (hret : ret = none) (hr : r = none) (hμ : μ = μf) : rb_Ev own cc mL ret X k r μf pc L [] μ := by
  subst hμ
  intro p l e R s m args below meth c H0 cells slots Q A dC dI cI cZ ad C F H locs ls hP hS hl
  exact (F H locs ls pc hP hS).2 hret hr d
end rb_rules2
def rb_rm (k : Nat) : Room := { frames := k, cells := 0, slots := 0, locals := 40 * k }
def rb_B (dC : Nat → ClassId) (dI : Nat → Nat → Nat) (cI cZ : ClassId) (ad : Nat → Nat) (A : Nat → Prop) (u : rb_Mem) (t : State) : Prop := va_P (dC, dI) rb_cl (rb_wl ad cI cZ u) t.heap ∧ va_K (dC, dI) rb_cl [(cI, .int), (cZ, .boolean)] t ∧ va_D A (rb_wl ad cI cZ u)
def rb_Q (r : Option Int32) (μf : rb_Mem) (dC : Nat → ClassId) (dI : Nat → Nat → Nat) (cI cZ : ClassId) (ad : Nat → Nat) (A : Nat → Prop) : Array Value → State → Outcome → State → Prop := match r with
  | some v => va_Qi (fun (x : Int32) (u : rb_Mem) => x = v ∧ u = μf) (rb_B dC dI cI cZ ad A) A
  | none => va_Qv (fun (u : rb_Mem) => u = μf) (rb_B dC dI cI cZ ad A) A
def rb_Pr (av : List rb_AV) (μ : rb_Mem) (dC : Nat → ClassId) (dI : Nat → Nat → Nat) (cI cZ : ClassId) (ad : Nat → Nat) (sz : Nat) : Array Value → State → Prop := va_Pc (av.map (rb_cv ad)) (fun U => U.heap.size = sz ∧ va_P (dC, dI) rb_cl (rb_wl ad cI cZ μ) U.heap ∧ va_K (dC, dI) rb_cl [(cI, .int), (cZ, .boolean)] U ∧ va_D (fun _ => True) (rb_wl ad cI cZ μ) ∧ rb_N U)
/-- the contract of a method: called with these arguments over this memory it returns r and leaves the memory μf -/
def rb_Ct (y : MethodName) (cc : ByteArray) (mL : Nat) (ret : Option FieldType) (k : Nat) (av : List rb_AV) (μ : rb_Mem) (r : Option Int32) (μf : rb_Mem) : Prop :=
  ∀ (l : Launch) (dC : Nat → ClassId) (dI : Nat → Nat → Nat) (cI cZ : ClassId) (ad : Nat → Nat) (sz : Nat), Met l y (Cond.code y cc mL ret :: rb_tbl) (rb_rm k) (rb_Pr av μ dC dI cI cZ ad sz) (rb_Q r μf dC dI cI cZ ad (va_A (rb_wl ad cI cZ μ) sz)) 0 0 (va_A (rb_wl ad cI cZ μ) sz)
theorem rb_sl (vs : List rb_AV) (ad : Nat → Nat) : lg_sl (vs.map (rb_cv ad)) = (vs.map (rb_cv ad)).map Slot.val := by
  induction vs with
  | nil => rfl
  | cons a vs ih =>
    have h : lg_sl ((a :: vs).map (rb_cv ad)) = (if (rb_cv ad a).category = 2 then [.val (rb_cv ad a), .second] else [.val (rb_cv ad a)]) ++ lg_sl (vs.map (rb_cv ad)) := rfl
    rw [h, ih, rb_cat]
    rfl
theorem rb_largs (ad : Nat → Nat) : ∀ (vs : List rb_AV) (n i : Nat) (v : rb_AV), vs[i]? = some v → (n + i, rb_cv ad v) ∈ lv_args n (vs.map (rb_cv ad))
  | [], n, i, v, h => by simp at h
  | a :: vs, n, 0, v, h => by
    cases h
    exact List.mem_cons_self
  | a :: vs, n, i + 1, v, h => by
    have h2 := rb_largs ad vs (n + 1) i v (by simpa using h)
    have e : lv_args n ((a :: vs).map (rb_cv ad)) = (n, rb_cv ad a) :: lv_args (if (rb_cv ad a).category = 2 then n + 2 else n + 1) (vs.map (rb_cv ad)) := rfl
    rw [e, rb_cat]
    refine List.mem_cons_of_mem _ ?_
    have e2 : n + (i + 1) = n + 1 + i := by omega
    rw [e2]
    exact h2
/-- the contract out of a run from the entry -/
theorem rb_ct {y : MethodName} {cc : ByteArray} {mL : Nat} {ret : Option FieldType} {k : Nat} {av : List rb_AV} {μ : rb_Mem} {r : Option Int32} {μf : rb_Mem} {own : String} {L : List (Option rb_AV)} (hown : y.cls = own) (hy : plainName y.cls = true) (hty : ∀ ty, ret = some ty → ty = .int ∨ ty = .boolean) (hr0 : (ret = none ∧ r = none) ∨ (∃ ty v, ret = some ty ∧ r = some v)) (hlen : av.length ≤ mL) (hL : L = av.map some ++ List.replicate (mL - av.length) none) (ev : rb_Ev own cc mL ret none k r μf 0 L [] μ) : rb_Ct y cc mL ret k av μ r μf := by
  intro l dC dI cI cZ ad sz
  refine Met.ofW (cc := cc) (maxL := mL) (ret := ret) hy rfl ?_
  intro p e s m args below meth c s₁ B hml hv
  obtain ⟨rfl, hsz, hP, hK, hD0, hN⟩ := hv
  have hx := B.exec
  have hb := B.bytes
  have hr := B.returns
  have hts := atoms_spec (ws := Cond.code y cc mL ret :: rb_tbl) B.pre
  have hown2 : s.vm.findClass own = some m.cls := by rw [← hown]; exact findClass_of_methodNamed B.named
  have hlocks := B.notSynchronized
  subst hsz
  have hD := hD0.self (sz := s.heap.size)
  generalize hAe : va_A (rb_wl ad cI cZ μ) s.heap.size = A at hD ⊢
  have hA : ∀ q : Nat, s.heap.size ≤ q → A q := fun q h => by rw [← hAe]; exact Or.inr h
  rw [lg_entry_eq]
  have hsl := rb_sl av ad
  have hlen2 : (lg_sl (av.map (rb_cv ad))).length ≤ mL := by rw [hsl]; simpa using hlen
  have hl := lv_entry (av.map (rb_cv ad)) (n := mL) hlen2
  refine ev p l e (rb_rm k) s m _ below meth c s.heap 0 0 _ A dC dI cI cZ ad ⟨hx, hb, hml, hown2, fun w hw => hts w (List.mem_cons_of_mem _ hw), ⟨Nat.le_refl k, Nat.le_refl (40 * k), Nat.le_refl 0, Nat.le_refl 0⟩, hK, hA, (fun Ls xs h => by cases h), rb_D _ hD, hN⟩ ?_ s.heap [] _ hP va_S.rf ⟨hl.1, by rw [hL]; simp; omega, hl.2.1, fun i v hi => ?_⟩
  · intro H locs ls pc hP2 hS2
    refine ⟨fun v w ty h1 h2 h3 hdg => ?_, fun h1 h2 hdg => ?_⟩
    · subst h2
      have hn : narrow ty (.int w) = .int v := by
        rcases hty ty h1 with rfl | rfl
        · rw [← h3]; rfl
        · rw [← h3]; rfl
      exact rb_ret0 hx hb (hr.trans h1) hn (fun t ht hW => ⟨⟨v, μf, rfl, ⟨rfl, rfl⟩, by rw [ht]; exact hP2, va_K.moved hW.alike hK, rb_D _ hD⟩, hS2.F ht⟩) hS2.2.2 hdg hlocks
    · subst h2
      exact W.vret hx hb (hr.trans h1) (fun t ht hW => ⟨⟨μf, rfl, rfl, by rw [ht]; exact hP2, va_K.moved hW.alike hK, rb_D _ hD⟩, hS2.F ht⟩) hS2.2.2 hdg hlocks
  · subst hL
    rw [List.getElem?_append] at hi
    by_cases hlt : i < (av.map some).length
    · rw [if_pos hlt, List.getElem?_map] at hi
      cases ha : av[i]? with
      | none => rw [ha] at hi; cases hi
      | some a =>
        rw [ha] at hi
        cases hi
        have := hl.2.2 _ (rb_largs ad av 0 i v ha)
        simpa using this
    · rw [if_neg hlt, List.getElem?_replicate] at hi
      by_cases h2 : i - (av.map some).length < mL - av.length
      · rw [if_pos h2] at hi; cases hi
      · rw [if_neg h2] at hi; cases hi
/-- what the tables say of an instance method, of a static one, of a link -/
def rb_MV (y : MethodName) (cc : ByteArray) (mL : Nat) (ret : Option FieldType) (n : Nat) : Prop := Cond.code y cc mL ret ∈ rb_tbl ∧ Cond.instanceMethod y ∈ rb_tbl ∧ Cond.selects y.cls y y ∈ rb_tbl ∧ Cond.initialized y.cls ∈ rb_tbl ∧ (y.cls ≠ "java/lang/invoke/MethodHandle" ∧ y.cls ≠ "java/lang/invoke/VarHandle" ∧ (parseMethodDescriptor y.desc).map (fun d => d.parameters.length) = some n) ∧ mL ≤ 21
def rb_MS (y : MethodName) (cc : ByteArray) (mL : Nat) (ret : Option FieldType) (n : Nat) : Prop := Cond.code y cc mL ret ∈ rb_tbl ∧ Cond.static y ∈ rb_tbl ∧ Cond.initialized y.cls ∈ rb_tbl ∧ (y.cls ≠ "java/lang/invoke/MethodHandle" ∧ y.cls ≠ "java/lang/invoke/VarHandle" ∧ (parseMethodDescriptor y.desc).map (fun d => d.parameters.length) = some n) ∧ mL ≤ 21
def rb_LV (own : String) (idx : Nat) (y : MethodName) : Prop := Cond.methodLink own idx y ∈ rb_tbl ∨ ∃ host, (own, idx, y, host) ∈ rb_nest
def rb_isC (q : Nat) (C : String) : Prop := ∃ (ci : Nat) (fs : List (Option Nat)) (D : vw_C), rb_SH[q]? = some (.inl (ci, fs)) ∧ rb_cl[ci]? = some D ∧ D.1 = C
theorem rb_blind {av : List rb_AV} {μ : rb_Mem} {dC : Nat → ClassId} {dI : Nat → Nat → Nat} {cI cZ : ClassId} {ad : Nat → Nat} {sz : Nat} : FrameBlind (rb_Pr av μ dC dI cI cZ ad sz) := fun a U g mk q => by
  obtain ⟨q0, q1, qP, qK, qD, qN⟩ := q
  exact ⟨q0, q1, qP, va_K.moved (u := U) (U := U.calling g mk a) (Vm.Alike.refl U.vm) qK, qD, rb_N_same rfl qN⟩
section rb_calls
variable {own : String} {cc : ByteArray} {mL : Nat} {ret : Option FieldType} {X : Option (Nat × rb_Row)} {k : Nat} {r : Option Int32} {μf : rb_Mem} {pc : Nat} {L : List (Option rb_AV)} {st : List rb_AV} {μ μ1 : rb_Mem} {y : MethodName} {cc' : ByteArray} {mL' : Nat} {ret' : Option FieldType} {n idx q k' : Nat} {av : List rb_AV}
theorem ev_callVi {v : Int32} (d : decode cc pc = .ok (.invokevirtual idx, 3)) (mv : rb_MV y cc' mL' ret' n) (lk : rb_LV own idx y) (hq : rb_isC q y.cls) (ct : rb_Ct y cc' mL' ret' k' (.inr q :: av) μ (some v) μ1) (hk : k' + 1 ≤ k) (hlen : av.length = n) (hst : st.length ≤ 8) (K : rb_Ev own cc mL ret X k r μf (pc + 3) L (.inl v :: st) μ1) : rb_Ev own cc mL ret X k r μf pc L (av.reverse ++ .inr q :: st) μ := by
  intro p l e R s m args below meth c H0 cells slots Q A dC dI cI cZ ad C F H locs ls hP hS hl
  obtain ⟨m1, m2, m3, m4, m5, m6⟩ := mv
  obtain ⟨hR1, hR2, hR3, hR4⟩ := C.2.2.2.2.2.1
  have hsum := rb_csum ad st
  obtain ⟨ci, fs, D, hD1, hD2, hD3⟩ := hq
  have hmem : ∀ w ∈ Cond.code y cc' mL' ret' :: rb_tbl, w ∈ rb_tbl := fun w hw => (List.mem_cons.mp hw).elim (fun h => h ▸ m1) id
  have hrecv := va_recv C.2.2.2.2.2.2.1 hP hD2 (rb_wl_get ad cI cZ μ hD1)
  rw [hD3] at hrecv
  have hDm := rb_D μ C.2.2.2.2.2.2.2.2.2.1
  have hpre : PreV s H y.cls (ad q) (rb_Pr (.inr q :: av) μ dC dI cI cZ ad H.size) (av.map (rb_cv ad)) := ⟨rb_blind, hrecv, fun U hU hW => ⟨rfl, by rw [hU], by rw [hU]; exact hP, va_K.moved hW.alike C.2.2.2.2.2.2.1, hDm.weaken (fun _ _ _ _ => trivial), rb_N_warm hW C.2.2.2.2.2.2.2.2.2.2⟩⟩
  have hFc : ∀ z, va_A (rb_wl ad cI cZ μ) H.size z → A z := fun z hz => hz.elim (fun ⟨j, e0, he⟩ => hDm.2 j _ he) (fun h => C.2.2.2.2.2.2.2.1 z (Nat.le_trans hS.1 h))
  have hstk : (F0 m pc ls ((av.reverse ++ .inr q :: st).map (rb_cv ad))).stack = (av.map (rb_cv ad)).reverse ++ Value.ref (ad q) :: st.map (rb_cv ad) := by simp [rb_cv]
  have hfix : CallFix p m c cc mL s args rb_tbl own := ⟨C.1, C.2.1, C.2.2.1, C.2.2.2.1, C.2.2.2.2.1⟩
  have hroom : (rb_rm k').frames + 1 ≤ R.frames ∧ 8 + (mL' + 11) + (rb_rm k').locals ≤ R.locals := by
    show k' + 1 ≤ R.frames ∧ 8 + (mL' + 11) + 40 * k' ≤ R.locals
    omega
  have hrun : va_Run p l e R s m args below meth c H locs cells slots 0 0 (F0 m pc ls ((av.reverse ++ .inr q :: st).map (rb_cv ad))) (st.map (rb_cv ad)) (rb_Q (some v) μ1 dC dI cI cZ ad (va_A (rb_wl ad cI cZ μ) H.size) (Value.ref (ad q) :: av.map (rb_cv ad)).toArray) (va_A (rb_wl ad cI cZ μ) H.size) := by
    rcases lk with lk | ⟨host, lk⟩
    · exact va_runV (y := y) (C := y.cls) (As := av.map (rb_cv ad)) (rest := st.map (rb_cv ad)) hfix (ct l dC dI cI cZ ad H.size) (cwV n C.2.2.2.2.1 (rb_goodIn (fun w hw => by
        rcases List.mem_append.mp hw with h | h
        · simp only [List.mem_cons, List.not_mem_nil, or_false] at h
          rcases h with rfl | rfl | rfl | rfl
          · exact lk
          · exact m2
          · exact m3
          · exact m4
        · exact hmem w h)) rfl rfl rfl ⟨rfl, m5⟩ hroom) hpre rfl (by simpa using hlen) hl.1 hstk (lv_room (by rw [hsum]; exact hst)) d ⟨hR3, hR4⟩
    · exact va_runVN (y := y) (C := y.cls) (host := host) (As := av.map (rb_cv ad)) (rest := st.map (rb_cv ad)) hfix (ct l dC dI cI cZ ad H.size) ⟨va_cnB n C.2.2.2.2.1 (rb_goodIn hmem) rfl rfl rfl (C.2.2.2.2.2.2.2.2.2.2 _ lk) (C.2.2.2.2.1 _ m4) m5 hroom, C.2.2.2.2.1 _ m2, C.2.2.2.2.1 _ m3⟩ hpre rfl (by simpa using hlen) hl.1 hstk (lv_room (by rw [hsum]; exact hst)) d ⟨hR3, hR4⟩
  have hrun2 : va_Run p l e R s m args below meth c H locs cells slots 0 0 (F0 m pc ls ((av.reverse ++ .inr q :: st).map (rb_cv ad))) (st.map (rb_cv ad)) (va_Qi (fun (x : Int32) (u : rb_Mem) => x = v ∧ u = μ1) (rb_B dC dI cI cZ ad (va_A (rb_wl ad cI cZ μ) H.size)) (va_A (rb_wl ad cI cZ μ) H.size) (Value.ref (ad q) :: av.map (rb_cv ad)).toArray) (va_A (rb_wl ad cI cZ μ) H.size) := hrun
  refine va_calli hrun2 hS (fun z _ h => hFc z h) hFc (fun r1 u t H1 locs1 ht hvm hw hB hz1 hk1 hS1 => ?_)
  obtain ⟨rfl, rfl⟩ := hw
  obtain ⟨hP1, hK1, hD1⟩ := hB
  rw [ht] at hP1
  exact K p l e R s m args below meth c H0 cells slots Q A dC dI cI cZ ad C F H1 locs1 ls hP1 hS1 hl
theorem ev_callVv (d : decode cc pc = .ok (.invokevirtual idx, 3)) (mv : rb_MV y cc' mL' ret' n) (lk : rb_LV own idx y) (hq : rb_isC q y.cls) (ct : rb_Ct y cc' mL' ret' k' (.inr q :: av) μ none μ1) (hk : k' + 1 ≤ k) (hlen : av.length = n) (hst : st.length ≤ 8) (K : rb_Ev own cc mL ret X k r μf (pc + 3) L st μ1) : rb_Ev own cc mL ret X k r μf pc L (av.reverse ++ .inr q :: st) μ := by
  intro p l e R s m args below meth c H0 cells slots Q A dC dI cI cZ ad C F H locs ls hP hS hl
  obtain ⟨m1, m2, m3, m4, m5, m6⟩ := mv
  obtain ⟨hR1, hR2, hR3, hR4⟩ := C.2.2.2.2.2.1
  have hsum := rb_csum ad st
  obtain ⟨ci, fs, D, hD1, hD2, hD3⟩ := hq
  have hmem : ∀ w ∈ Cond.code y cc' mL' ret' :: rb_tbl, w ∈ rb_tbl := fun w hw => (List.mem_cons.mp hw).elim (fun h => h ▸ m1) id
  have hrecv := va_recv C.2.2.2.2.2.2.1 hP hD2 (rb_wl_get ad cI cZ μ hD1)
  rw [hD3] at hrecv
  have hDm := rb_D μ C.2.2.2.2.2.2.2.2.2.1
  have hpre : PreV s H y.cls (ad q) (rb_Pr (.inr q :: av) μ dC dI cI cZ ad H.size) (av.map (rb_cv ad)) := ⟨rb_blind, hrecv, fun U hU hW => ⟨rfl, by rw [hU], by rw [hU]; exact hP, va_K.moved hW.alike C.2.2.2.2.2.2.1, hDm.weaken (fun _ _ _ _ => trivial), rb_N_warm hW C.2.2.2.2.2.2.2.2.2.2⟩⟩
  have hFc : ∀ z, va_A (rb_wl ad cI cZ μ) H.size z → A z := fun z hz => hz.elim (fun ⟨j, e0, he⟩ => hDm.2 j _ he) (fun h => C.2.2.2.2.2.2.2.1 z (Nat.le_trans hS.1 h))
  have hstk : (F0 m pc ls ((av.reverse ++ .inr q :: st).map (rb_cv ad))).stack = (av.map (rb_cv ad)).reverse ++ Value.ref (ad q) :: st.map (rb_cv ad) := by simp [rb_cv]
  have hfix : CallFix p m c cc mL s args rb_tbl own := ⟨C.1, C.2.1, C.2.2.1, C.2.2.2.1, C.2.2.2.2.1⟩
  have hroom : (rb_rm k').frames + 1 ≤ R.frames ∧ 8 + (mL' + 11) + (rb_rm k').locals ≤ R.locals := by
    show k' + 1 ≤ R.frames ∧ 8 + (mL' + 11) + 40 * k' ≤ R.locals
    omega
  have hrun : va_Run p l e R s m args below meth c H locs cells slots 0 0 (F0 m pc ls ((av.reverse ++ .inr q :: st).map (rb_cv ad))) (st.map (rb_cv ad)) (rb_Q none μ1 dC dI cI cZ ad (va_A (rb_wl ad cI cZ μ) H.size) (Value.ref (ad q) :: av.map (rb_cv ad)).toArray) (va_A (rb_wl ad cI cZ μ) H.size) := by
    rcases lk with lk | ⟨host, lk⟩
    · exact va_runV (y := y) (C := y.cls) (As := av.map (rb_cv ad)) (rest := st.map (rb_cv ad)) hfix (ct l dC dI cI cZ ad H.size) (cwV n C.2.2.2.2.1 (rb_goodIn (fun w hw => by
        rcases List.mem_append.mp hw with h | h
        · simp only [List.mem_cons, List.not_mem_nil, or_false] at h
          rcases h with rfl | rfl | rfl | rfl
          · exact lk
          · exact m2
          · exact m3
          · exact m4
        · exact hmem w h)) rfl rfl rfl ⟨rfl, m5⟩ hroom) hpre rfl (by simpa using hlen) hl.1 hstk (lv_room (by rw [hsum]; exact hst)) d ⟨hR3, hR4⟩
    · exact va_runVN (y := y) (C := y.cls) (host := host) (As := av.map (rb_cv ad)) (rest := st.map (rb_cv ad)) hfix (ct l dC dI cI cZ ad H.size) ⟨va_cnB n C.2.2.2.2.1 (rb_goodIn hmem) rfl rfl rfl (C.2.2.2.2.2.2.2.2.2.2 _ lk) (C.2.2.2.2.1 _ m4) m5 hroom, C.2.2.2.2.1 _ m2, C.2.2.2.2.1 _ m3⟩ hpre rfl (by simpa using hlen) hl.1 hstk (lv_room (by rw [hsum]; exact hst)) d ⟨hR3, hR4⟩
  have hrun2 : va_Run p l e R s m args below meth c H locs cells slots 0 0 (F0 m pc ls ((av.reverse ++ .inr q :: st).map (rb_cv ad))) (st.map (rb_cv ad)) (va_Qv (fun (u : rb_Mem) => u = μ1) (rb_B dC dI cI cZ ad (va_A (rb_wl ad cI cZ μ) H.size)) (va_A (rb_wl ad cI cZ μ) H.size) (Value.ref (ad q) :: av.map (rb_cv ad)).toArray) (va_A (rb_wl ad cI cZ μ) H.size) := hrun
  refine va_callv hrun2 hS (fun z _ h => hFc z h) hFc (fun u t H1 locs1 ht hvm hw hB hz1 hk1 hS1 => ?_)
  subst hw
  obtain ⟨hP1, hK1, hD1⟩ := hB
  rw [ht] at hP1
  exact K p l e R s m args below meth c H0 cells slots Q A dC dI cI cZ ad C F H1 locs1 ls hP1 hS1 hl
theorem ev_callSi {v : Int32} (d : decode cc pc = .ok (.invokestatic idx, 3)) (mv : rb_MS y cc' mL' ret' n) (lk : rb_LV own idx y) (ct : rb_Ct y cc' mL' ret' k' av μ (some v) μ1) (hk : k' + 1 ≤ k) (hlen : av.length = n) (hst : st.length ≤ 8) (K : rb_Ev own cc mL ret X k r μf (pc + 3) L (.inl v :: st) μ1) : rb_Ev own cc mL ret X k r μf pc L (av.reverse ++ st) μ := by
  intro p l e R s m args below meth c H0 cells slots Q A dC dI cI cZ ad C F H locs ls hP hS hl
  obtain ⟨m1, m2, m4, m5, m6⟩ := mv
  obtain ⟨hR1, hR2, hR3, hR4⟩ := C.2.2.2.2.2.1
  have hsum := rb_csum ad st
  have hmem : ∀ w ∈ Cond.code y cc' mL' ret' :: rb_tbl, w ∈ rb_tbl := fun w hw => (List.mem_cons.mp hw).elim (fun h => h ▸ m1) id
  have hDm := rb_D μ C.2.2.2.2.2.2.2.2.2.1
  have hpre : PreS s H (rb_Pr av μ dC dI cI cZ ad H.size) (av.map (rb_cv ad)) := ⟨rb_blind, fun U hU hW => ⟨rfl, by rw [hU], by rw [hU]; exact hP, va_K.moved hW.alike C.2.2.2.2.2.2.1, hDm.weaken (fun _ _ _ _ => trivial), rb_N_warm hW C.2.2.2.2.2.2.2.2.2.2⟩⟩
  have hFc : ∀ z, va_A (rb_wl ad cI cZ μ) H.size z → A z := fun z hz => hz.elim (fun ⟨j, e0, he⟩ => hDm.2 j _ he) (fun h => C.2.2.2.2.2.2.2.1 z (Nat.le_trans hS.1 h))
  have hstk : (F0 m pc ls ((av.reverse ++ st).map (rb_cv ad))).stack = (av.map (rb_cv ad)).reverse ++ st.map (rb_cv ad) := by simp
  have hfix : CallFix p m c cc mL s args rb_tbl own := ⟨C.1, C.2.1, C.2.2.1, C.2.2.2.1, C.2.2.2.2.1⟩
  have hroom : (rb_rm k').frames + 1 ≤ R.frames ∧ 8 + (mL' + 11) + (rb_rm k').locals ≤ R.locals := by
    show k' + 1 ≤ R.frames ∧ 8 + (mL' + 11) + 40 * k' ≤ R.locals
    omega
  have hrun : va_Run p l e R s m args below meth c H locs cells slots 0 0 (F0 m pc ls ((av.reverse ++ st).map (rb_cv ad))) (st.map (rb_cv ad)) (rb_Q (some v) μ1 dC dI cI cZ ad (va_A (rb_wl ad cI cZ μ) H.size) (av.map (rb_cv ad)).toArray) (va_A (rb_wl ad cI cZ μ) H.size) := by
    rcases lk with lk | ⟨host, lk⟩
    · exact va_runS (y := y) (As := av.map (rb_cv ad)) (rest := st.map (rb_cv ad)) hfix (ct l dC dI cI cZ ad H.size) (va_cwS n C.2.2.2.2.1 (rb_goodIn (fun w hw => by
        rcases List.mem_append.mp hw with h | h
        · simp only [List.mem_cons, List.not_mem_nil, or_false] at h
          rcases h with rfl | rfl | rfl
          · exact lk
          · exact m2
          · exact m4
        · exact hmem w h)) rfl rfl rfl m5 hroom) hpre rfl (by simpa using hlen) hl.1 hstk (lv_room (by rw [hsum]; exact hst)) d ⟨hR3, hR4⟩
    · exact va_runSN (y := y) (host := host) (As := av.map (rb_cv ad)) (rest := st.map (rb_cv ad)) hfix (ct l dC dI cI cZ ad H.size) ⟨va_cnB n C.2.2.2.2.1 (rb_goodIn hmem) rfl rfl rfl (C.2.2.2.2.2.2.2.2.2.2 _ lk) (C.2.2.2.2.1 _ m4) m5 hroom, C.2.2.2.2.1 _ m2, trivial⟩ hpre rfl (by simpa using hlen) hl.1 hstk (lv_room (by rw [hsum]; exact hst)) d ⟨hR3, hR4⟩
  have hrun2 : va_Run p l e R s m args below meth c H locs cells slots 0 0 (F0 m pc ls ((av.reverse ++ st).map (rb_cv ad))) (st.map (rb_cv ad)) (va_Qi (fun (x : Int32) (u : rb_Mem) => x = v ∧ u = μ1) (rb_B dC dI cI cZ ad (va_A (rb_wl ad cI cZ μ) H.size)) (va_A (rb_wl ad cI cZ μ) H.size) (av.map (rb_cv ad)).toArray) (va_A (rb_wl ad cI cZ μ) H.size) := hrun
  refine va_calli hrun2 hS (fun z _ h => hFc z h) hFc (fun r1 u t H1 locs1 ht hvm hw hB hz1 hk1 hS1 => ?_)
  obtain ⟨rfl, rfl⟩ := hw
  obtain ⟨hP1, hK1, hD1⟩ := hB
  rw [ht] at hP1
  exact K p l e R s m args below meth c H0 cells slots Q A dC dI cI cZ ad C F H1 locs1 ls hP1 hS1 hl
theorem ev_callSv (d : decode cc pc = .ok (.invokestatic idx, 3)) (mv : rb_MS y cc' mL' ret' n) (lk : rb_LV own idx y) (ct : rb_Ct y cc' mL' ret' k' av μ none μ1) (hk : k' + 1 ≤ k) (hlen : av.length = n) (hst : st.length ≤ 8) (K : rb_Ev own cc mL ret X k r μf (pc + 3) L st μ1) : rb_Ev own cc mL ret X k r μf pc L (av.reverse ++ st) μ := by
  intro p l e R s m args below meth c H0 cells slots Q A dC dI cI cZ ad C F H locs ls hP hS hl
  obtain ⟨m1, m2, m4, m5, m6⟩ := mv
  obtain ⟨hR1, hR2, hR3, hR4⟩ := C.2.2.2.2.2.1
  have hsum := rb_csum ad st
  have hmem : ∀ w ∈ Cond.code y cc' mL' ret' :: rb_tbl, w ∈ rb_tbl := fun w hw => (List.mem_cons.mp hw).elim (fun h => h ▸ m1) id
  have hDm := rb_D μ C.2.2.2.2.2.2.2.2.2.1
  have hpre : PreS s H (rb_Pr av μ dC dI cI cZ ad H.size) (av.map (rb_cv ad)) := ⟨rb_blind, fun U hU hW => ⟨rfl, by rw [hU], by rw [hU]; exact hP, va_K.moved hW.alike C.2.2.2.2.2.2.1, hDm.weaken (fun _ _ _ _ => trivial), rb_N_warm hW C.2.2.2.2.2.2.2.2.2.2⟩⟩
  have hFc : ∀ z, va_A (rb_wl ad cI cZ μ) H.size z → A z := fun z hz => hz.elim (fun ⟨j, e0, he⟩ => hDm.2 j _ he) (fun h => C.2.2.2.2.2.2.2.1 z (Nat.le_trans hS.1 h))
  have hstk : (F0 m pc ls ((av.reverse ++ st).map (rb_cv ad))).stack = (av.map (rb_cv ad)).reverse ++ st.map (rb_cv ad) := by simp
  have hfix : CallFix p m c cc mL s args rb_tbl own := ⟨C.1, C.2.1, C.2.2.1, C.2.2.2.1, C.2.2.2.2.1⟩
  have hroom : (rb_rm k').frames + 1 ≤ R.frames ∧ 8 + (mL' + 11) + (rb_rm k').locals ≤ R.locals := by
    show k' + 1 ≤ R.frames ∧ 8 + (mL' + 11) + 40 * k' ≤ R.locals
    omega
  have hrun : va_Run p l e R s m args below meth c H locs cells slots 0 0 (F0 m pc ls ((av.reverse ++ st).map (rb_cv ad))) (st.map (rb_cv ad)) (rb_Q none μ1 dC dI cI cZ ad (va_A (rb_wl ad cI cZ μ) H.size) (av.map (rb_cv ad)).toArray) (va_A (rb_wl ad cI cZ μ) H.size) := by
    rcases lk with lk | ⟨host, lk⟩
    · exact va_runS (y := y) (As := av.map (rb_cv ad)) (rest := st.map (rb_cv ad)) hfix (ct l dC dI cI cZ ad H.size) (va_cwS n C.2.2.2.2.1 (rb_goodIn (fun w hw => by
        rcases List.mem_append.mp hw with h | h
        · simp only [List.mem_cons, List.not_mem_nil, or_false] at h
          rcases h with rfl | rfl | rfl
          · exact lk
          · exact m2
          · exact m4
        · exact hmem w h)) rfl rfl rfl m5 hroom) hpre rfl (by simpa using hlen) hl.1 hstk (lv_room (by rw [hsum]; exact hst)) d ⟨hR3, hR4⟩
    · exact va_runSN (y := y) (host := host) (As := av.map (rb_cv ad)) (rest := st.map (rb_cv ad)) hfix (ct l dC dI cI cZ ad H.size) ⟨va_cnB n C.2.2.2.2.1 (rb_goodIn hmem) rfl rfl rfl (C.2.2.2.2.2.2.2.2.2.2 _ lk) (C.2.2.2.2.1 _ m4) m5 hroom, C.2.2.2.2.1 _ m2, trivial⟩ hpre rfl (by simpa using hlen) hl.1 hstk (lv_room (by rw [hsum]; exact hst)) d ⟨hR3, hR4⟩
  have hrun2 : va_Run p l e R s m args below meth c H locs cells slots 0 0 (F0 m pc ls ((av.reverse ++ st).map (rb_cv ad))) (st.map (rb_cv ad)) (va_Qv (fun (u : rb_Mem) => u = μ1) (rb_B dC dI cI cZ ad (va_A (rb_wl ad cI cZ μ) H.size)) (va_A (rb_wl ad cI cZ μ) H.size) (av.map (rb_cv ad)).toArray) (va_A (rb_wl ad cI cZ μ) H.size) := hrun
  refine va_callv hrun2 hS (fun z _ h => hFc z h) hFc (fun u t H1 locs1 ht hvm hw hB hz1 hk1 hS1 => ?_)
  subst hw
  obtain ⟨hP1, hK1, hD1⟩ := hB
  rw [ht] at hP1
  exact K p l e R s m args below meth c H0 cells slots Q A dC dI cI cZ ad C F H1 locs1 ls hP1 hS1 hl
end rb_calls
