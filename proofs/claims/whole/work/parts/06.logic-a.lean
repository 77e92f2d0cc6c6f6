abbrev rb_Row : Type := Nat → Int32
abbrev rb_Mem : Type := Nat → rb_Row
abbrev rb_AV : Type := Int32 ⊕ Nat
/-- a place: an object (number of its class, its fields: a place or an int), or an array (of booleans?, its length) -/
abbrev rb_Sp : Type := (Nat × List (Option Nat)) ⊕ (Bool × Nat)
def rb_cv (ad : Nat → Nat) (v : rb_AV) : Value := match v with
  | .inl x => .int x
  | .inr p => .ref (ad p)
def rb_fv (ad : Nat → Nat) (r : rb_Row) (k : Nat) (f : Option Nat) : Value := match f with
  | some q => .ref (ad q)
  | none => .int (r k)
def rb_en (ad : Nat → Nat) (cI cZ : ClassId) (r : rb_Row) (sp : rb_Sp) : va_E := match sp with
  | .inl o => .inr (o.1, o.2.mapIdx (rb_fv ad r))
  | .inr a => .inl (bif a.1 then cZ else cI, a.2, .inl r)
def rb_SH : List rb_Sp := [
  .inl (6, [some 5, some 1, some 7, some 13, some 15, some 18, none]),
  .inl (0, [some 2, some 3, some 4, some 5, some 6, none, none, none]), .inl (5, [some 5]), .inl (1, [some 5]), .inl (4, [some 5]), .inr (false, 773), .inr (false, 8),
  .inl (0, [some 8, some 9, some 10, some 11, some 12, none, none, none]), .inl (5, [some 11]), .inl (1, [some 11]), .inl (4, [some 11]), .inr (false, 773), .inr (false, 8),
  .inl (2, [some 14, none, none, none]), .inr (false, 10049),
  .inl (3, [some 7, some 11, some 16, some 17, none, none, none]), .inr (false, 6184), .inr (false, 5), .inr (false, 1546),
  .inl (7, [some 20, some 21, some 22, none, some 23, some 24, some 25, some 26, some 27, some 28, some 29, none, some 30, none, some 31, some 32, none, none, some 33]),
  .inr (false, 796), .inr (false, 28), .inr (false, 8), .inr (false, 6), .inr (false, 6), .inr (false, 6), .inr (true, 6), .inr (false, 28), .inr (false, 28), .inr (false, 796), .inr (false, 5), .inr (false, 10348), .inr (false, 1592), .inr (true, 2)]
def rb_wl (ad : Nat → Nat) (cI cZ : ClassId) (μ : rb_Mem) : va_W := rb_SH.mapIdx (fun p sp => (ad p, rb_en ad cI cZ (μ p) sp))
def rb_up (μ : rb_Mem) (p : Nat) (r : rb_Row) : rb_Mem := fun q => if q = p then r else μ q
theorem rb_wl_get (ad : Nat → Nat) (cI cZ : ClassId) (μ : rb_Mem) {p : Nat} {sp : rb_Sp} (h : rb_SH[p]? = some sp) : (rb_wl ad cI cZ μ)[p]? = some (ad p, rb_en ad cI cZ (μ p) sp) := by
  simp [rb_wl, List.getElem?_mapIdx, h]
theorem rb_wl_set (ad : Nat → Nat) (cI cZ : ClassId) (μ : rb_Mem) {p : Nat} {sp : rb_Sp} (r : rb_Row) (h : rb_SH[p]? = some sp) : (rb_wl ad cI cZ μ).set p (ad p, rb_en ad cI cZ r sp) = rb_wl ad cI cZ (rb_up μ p r) := by
  apply List.ext_getElem?
  intro q
  rw [List.getElem?_set]
  have hl : p < (rb_wl ad cI cZ μ).length := (List.getElem?_eq_some_iff.mp (rb_wl_get ad cI cZ μ h)).1
  by_cases hq : p = q
  · subst hq
    rw [if_pos rfl, if_pos hl, rb_wl_get ad cI cZ _ h]
    simp [rb_up]
  · rw [if_neg hq]
    simp only [rb_wl, List.getElem?_mapIdx]
    cases rb_SH[q]? with
    | none => rfl
    | some sp2 => simp [rb_up, Ne.symm hq]
theorem rb_D {A : Nat → Prop} {ad : Nat → Nat} {cI cZ : ClassId} {μ : rb_Mem} (μ' : rb_Mem) (h : va_D A (rb_wl ad cI cZ μ)) : va_D A (rb_wl ad cI cZ μ') := by
  have key : ∀ (k : Nat) (q : Nat × va_E), (rb_wl ad cI cZ μ')[k]? = some q → ∃ q0, (rb_wl ad cI cZ μ)[k]? = some q0 ∧ q0.1 = q.1 := by
    intro k q hk
    simp only [rb_wl, List.getElem?_mapIdx] at hk ⊢
    cases hs : rb_SH[k]? with
    | none => rw [hs] at hk; cases hk
    | some sp => rw [hs] at hk; cases hk; exact ⟨_, rfl, rfl⟩
  refine ⟨fun i j p q hi hj hpq => ?_, fun k q hk => ?_⟩
  · obtain ⟨a, ha, ea⟩ := key i p hi
    obtain ⟨b, hb, eb⟩ := key j q hj
    exact h.1 i j a b ha hb (by rw [ea, eb, hpq])
  · obtain ⟨a, ha, ea⟩ := key k q hk
    rw [← ea]; exact h.2 k a ha
theorem rb_A {ad : Nat → Nat} {cI cZ : ClassId} {μ : rb_Mem} (μ' : rb_Mem) {sz q : Nat} (h : va_A (rb_wl ad cI cZ μ) sz q) : va_A (rb_wl ad cI cZ μ') sz q := by
  rcases h with ⟨k, e, h⟩ | h
  · left
    simp only [rb_wl, List.getElem?_mapIdx] at h ⊢
    cases hs : rb_SH[k]? with
    | none => rw [hs] at h; cases h
    | some sp => rw [hs] at h; cases h; exact ⟨k, rb_en ad cI cZ (μ' k) sp, by simp [hs]⟩
  · exact Or.inr h
/-- the memory, written over at some places -/
def rb_lk (μ : rb_Mem) : List (Nat × rb_Row) → Nat → rb_Row
  | [], q => μ q
  | x :: l, q => bif Nat.beq q x.1 then x.2 else rb_lk μ l q
def rb_ov (μ : rb_Mem) (l : List (Nat × rb_Row)) : rb_Mem := fun q => rb_lk μ l q
def rb_st : List (Nat × rb_Row) → Nat → rb_Row → List (Nat × rb_Row)
  | [], p, r => [(p, r)]
  | x :: l, p, r => bif Nat.beq x.1 p then (x.1, r) :: l else x :: rb_st l p r
def rb_mg (l : List (Nat × rb_Row)) : List (Nat × rb_Row) → List (Nat × rb_Row)
  | [] => l
  | x :: l2 => rb_st (rb_mg l l2) x.1 x.2
theorem rb_bne {p q : Nat} (h : ¬ p = q) : Nat.beq p q = false := by
  cases hb : Nat.beq p q with
  | false => rfl
  | true => exact absurd (Nat.eq_of_beq_eq_true hb) h
theorem rb_lk_st (μ : rb_Mem) (l : List (Nat × rb_Row)) (p : Nat) (r : rb_Row) (q : Nat) : rb_lk μ (rb_st l p r) q = if q = p then r else rb_lk μ l q := by
  induction l with
  | nil =>
    simp only [rb_st, rb_lk]
    by_cases h : q = p
    · subst h; simp
    · have h2 : Nat.beq q p = false := rb_bne h
      simp [h, h2]
  | cons x l ih =>
    simp only [rb_st]
    by_cases hx : x.1 = p
    · have h2 : Nat.beq x.1 p = true := by rw [hx]; simp
      rw [h2]
      simp only [cond_true, rb_lk]
      by_cases h : q = p
      · subst h; simp [hx]
      · have h3 : Nat.beq q x.1 = false := by rw [hx]; exact rb_bne h
        simp [h, h3]
    · have h2 : Nat.beq x.1 p = false := rb_bne hx
      rw [h2]
      simp only [cond_false, rb_lk]
      rw [ih]
      by_cases h : q = p
      · subst h
        have h3 : Nat.beq q x.1 = false := rb_bne (fun e => hx e.symm)
        simp [h3]
      · simp [h]
theorem rb_up_ov (μ : rb_Mem) (l : List (Nat × rb_Row)) (p : Nat) (r : rb_Row) : rb_up (rb_ov μ l) p r = rb_ov μ (rb_st l p r) := by
  funext q
  simp only [rb_up, rb_ov, rb_lk_st]
theorem rb_ov_ov (μ : rb_Mem) (l l2 : List (Nat × rb_Row)) : rb_ov (rb_ov μ l) l2 = rb_ov μ (rb_mg l l2) := by
  funext q
  simp only [rb_ov]
  induction l2 with
  | nil => rfl
  | cons x l2 ih =>
    simp only [rb_mg, rb_lk_st, rb_lk]
    by_cases h : q = x.1
    · subst h; simp
    · have h3 : Nat.beq q x.1 = false := rb_bne h
      simp only [h3, cond_false, h, if_false]
      exact ih
theorem rb_ov_nil (μ : rb_Mem) : rb_ov μ [] = μ := rfl
def rb_tbl : List Cond := lw_tbl.filter goodWord
theorem rb_mem {w : Cond} (h : w ∈ lw_tbl) (hg : goodWord w = true) : w ∈ rb_tbl := List.mem_filter.mpr ⟨h, hg⟩
theorem rb_at {w : Cond} (i : Nat) (h : lw_tbl[i]? = some w) (hg : goodWord w = true) : w ∈ rb_tbl := rb_mem (List.mem_of_getElem? h) hg
def rb_cl : List vw_C := [(RX0, TX0, 8), (RX1, TX1, 1), (RX2, TX2, 4), (RX3, TX3, 7), (RX4, TX4, 1), (RX5, TX5, 1), (RX6, TX6, 7), (RX7, TX7, 19)]
theorem rb_in0 : ∀ w ∈ u_ws RX0 TX0 8, w ∈ rb_tbl := by
  have h : ∀ w ∈ u_ws RX0 TX0 8, w ∈ lw_tbl ∧ goodWord w = true := by decide +kernel
  exact fun w hw => rb_mem (h w hw).1 (h w hw).2
theorem rb_in1 : ∀ w ∈ u_ws RX1 TX1 1, w ∈ rb_tbl := by
  have h : ∀ w ∈ u_ws RX1 TX1 1, w ∈ lw_tbl ∧ goodWord w = true := by decide +kernel
  exact fun w hw => rb_mem (h w hw).1 (h w hw).2
theorem rb_in2 : ∀ w ∈ u_ws RX2 TX2 4, w ∈ rb_tbl := by
  have h : ∀ w ∈ u_ws RX2 TX2 4, w ∈ lw_tbl ∧ goodWord w = true := by decide +kernel
  exact fun w hw => rb_mem (h w hw).1 (h w hw).2
theorem rb_in3 : ∀ w ∈ u_ws RX3 TX3 7, w ∈ rb_tbl := by
  have h : ∀ w ∈ u_ws RX3 TX3 7, w ∈ lw_tbl ∧ goodWord w = true := by decide +kernel
  exact fun w hw => rb_mem (h w hw).1 (h w hw).2
theorem rb_in4 : ∀ w ∈ u_ws RX4 TX4 1, w ∈ rb_tbl := by
  have h : ∀ w ∈ u_ws RX4 TX4 1, w ∈ lw_tbl ∧ goodWord w = true := by decide +kernel
  exact fun w hw => rb_mem (h w hw).1 (h w hw).2
theorem rb_in5 : ∀ w ∈ u_ws RX5 TX5 1, w ∈ rb_tbl := by
  have h : ∀ w ∈ u_ws RX5 TX5 1, w ∈ lw_tbl ∧ goodWord w = true := by decide +kernel
  exact fun w hw => rb_mem (h w hw).1 (h w hw).2
theorem rb_in6 : ∀ w ∈ u_ws RX6 TX6 7, w ∈ rb_tbl := by
  have h : ∀ w ∈ u_ws RX6 TX6 7, w ∈ lw_tbl ∧ goodWord w = true := by decide +kernel
  exact fun w hw => rb_mem (h w hw).1 (h w hw).2
theorem rb_in7 : ∀ w ∈ u_ws RX7 TX7 19, w ∈ rb_tbl := by
  have h : ∀ w ∈ u_ws RX7 TX7 19, w ∈ lw_tbl ∧ goodWord w = true := by decide +kernel
  exact fun w hw => rb_mem (h w hw).1 (h w hw).2
theorem rb_in {ci : Nat} {C : vw_C} (h : rb_cl[ci]? = some C) : ∀ w ∈ u_ws C.1 C.2.1 C.2.2, w ∈ rb_tbl := by
  match ci, h with
  | 0, h => cases h; exact rb_in0
  | 1, h => cases h; exact rb_in1
  | 2, h => cases h; exact rb_in2
  | 3, h => cases h; exact rb_in3
  | 4, h => cases h; exact rb_in4
  | 5, h => cases h; exact rb_in5
  | 6, h => cases h; exact rb_in6
  | 7, h => cases h; exact rb_in7
  | n + 8, h => simp [rb_cl] at h
def rb_ty : Nat → Nat → FieldType
  | 0 => tyX0
  | 1 => tyX1
  | 2 => tyX2
  | 3 => tyX3
  | 4 => tyX4
  | 5 => tyX5
  | 6 => tyX6
  | _ => tyX7
theorem rb_tyok {ci : Nat} {C : vw_C} (h : rb_cl[ci]? = some C) : ∀ k, k < C.2.2 → parseFieldDescriptor (C.2.1 k).2.2.1 = some (rb_ty ci k) := by
  match ci, h with
  | 0, h => cases h; exact tyX0_ok
  | 1, h => cases h; exact tyX1_ok
  | 2, h => cases h; exact tyX2_ok
  | 3, h => cases h; exact tyX3_ok
  | 4, h => cases h; exact tyX4_ok
  | 5, h => cases h; exact tyX5_ok
  | 6, h => cases h; exact tyX6_ok
  | 7, h => cases h; exact tyX7_ok
  | n + 8, h => simp [rb_cl] at h
theorem rb_nm {ci : Nat} {C : vw_C} (h : rb_cl[ci]? = some C) : ∀ a, a < C.2.2 → ∀ b, b < C.2.2 → a ≠ b → (C.2.1 a).2.1 ≠ (C.2.1 b).2.1 := by
  match ci, h with
  | 0, h => cases h; exact nmX0
  | 1, h => cases h; exact nmX1
  | 2, h => cases h; exact nmX2
  | 3, h => cases h; exact nmX3
  | 4, h => cases h; exact nmX4
  | 5, h => cases h; exact nmX5
  | 6, h => cases h; exact nmX6
  | 7, h => cases h; exact nmX7
  | n + 8, h => simp [rb_cl] at h
theorem rb_goodIn {ws : List Cond} (h : ∀ w ∈ ws, w ∈ rb_tbl) : GoodIn rb_tbl ws := fun w hw => ⟨h w hw, good_of_word (List.mem_filter.mp (h w hw)).2⟩
/-- links to private methods of a nest mate: no words of a list, they are carried along -/
def rb_nest : List (String × Nat × MethodName × String) := [("ReadyBell$House", 72, ⟨"ReadyBell", "between", "(III)Z"⟩, "ReadyBell"), ("ReadyBell$House", 175, ⟨"ReadyBell$Interests", "ready", "(II)I"⟩, "ReadyBell"), ("ReadyBell$House", 124, ⟨"ReadyBell$Interests", "deepAbove", "(II)I"⟩, "ReadyBell"), ("ReadyBell$House", 127, ⟨"ReadyBell$Interests", "deepBelow", "(II)I"⟩, "ReadyBell"), ("ReadyBell$House", 181, ⟨"ReadyBell", "isTask", "(I)Z"⟩, "ReadyBell"), ("ReadyBell", 157, ⟨"ReadyBell$Interests", "ready", "(II)I"⟩, "ReadyBell"), ("ReadyBell", 202, ⟨"ReadyBell$Interests", "deepBelow", "(II)I"⟩, "ReadyBell"), ("ReadyBell", 232, ⟨"ReadyBell$House", "sendNotice", "(III)V"⟩, "ReadyBell"), ("ReadyBell", 254, ⟨"ReadyBell$Paths", "explore", "(I)V"⟩, "ReadyBell"), ("ReadyBell$Paths", 80, ⟨"ReadyBell$Interests", "ready", "(II)I"⟩, "ReadyBell")]
def rb_N (U : State) : Prop := ∀ q ∈ rb_nest, va_Nw (.methodLinkNest q.1 q.2.1 q.2.2.1 q.2.2.2) U
theorem rb_N_warm {s U : State} (hW : s.WarmedH U.vm) (h : rb_N s) : rb_N U := fun q hq => va_Nw.warmM hW (h q hq)
theorem rb_N_same {s U : State} (hv : s.vm = U.vm) (h : rb_N s) : rb_N U := fun q hq => va_Nw.same rfl hv (h q hq)
/-- the locals -/
def rb_lv (ad : Nat → Nat) (ls : Array Slot) (mL : Nat) (L : List (Option rb_AV)) : Prop := ls.size = mL ∧ L.length = mL ∧ lv_wf ls ∧ ∀ (i : Nat) (v : rb_AV), L[i]? = some (some v) → ls[i]? = some (.val (rb_cv ad v))
def rb_pr (ad : Nat → Nat) (L : List (Option rb_AV)) : List (Nat × Value) := (List.range L.length).filterMap (fun i => (L[i]?.join).map (fun v => (i, rb_cv ad v)))
theorem rb_pr_mem {ad : Nat → Nat} {L : List (Option rb_AV)} {q : Nat × Value} : q ∈ rb_pr ad L ↔ ∃ v, L[q.1]? = some (some v) ∧ q.2 = rb_cv ad v := by
  unfold rb_pr
  rw [List.mem_filterMap]
  constructor
  · rintro ⟨i, hi, h⟩
    cases hL : L[i]? with
    | none => rw [hL] at h; cases h
    | some o =>
      cases o with
      | none => rw [hL] at h; cases h
      | some v => rw [hL] at h; cases h; exact ⟨v, hL, rfl⟩
  · rintro ⟨v, h1, h2⟩
    obtain ⟨i, w⟩ := q
    refine ⟨i, List.mem_range.mpr (List.getElem?_eq_some_iff.mp h1).1, ?_⟩
    dsimp only at h1 h2
    rw [h1, h2]; rfl
theorem rb_cat (ad : Nat → Nat) (v : rb_AV) : (rb_cv ad v).category = 1 := by
  cases v <;> rfl
theorem rb_lv_has {ad : Nat → Nat} {ls : Array Slot} {mL : Nat} {L : List (Option rb_AV)} (h : rb_lv ad ls mL L) : lv_has ls mL (rb_pr ad L) := by
  refine ⟨h.1, h.2.2.1, fun q hq => ?_⟩
  obtain ⟨v, h1, h2⟩ := rb_pr_mem.mp hq
  rw [h2]; exact h.2.2.2 q.1 v h1
theorem rb_lv_set {ad : Nat → Nat} {ls ls' : Array Slot} {mL i : Nat} {L : List (Option rb_AV)} {v : rb_AV} (h : rb_lv ad ls mL L) (hi : i < mL) (h' : lv_has ls' mL ((i, rb_cv ad v) :: (rb_pr ad L).filter (fun q => !(q.1 == i) && !(q.1 + 1 == i && q.2.category == 2)))) : rb_lv ad ls' mL (L.set i (some v)) := by
  refine ⟨h'.1, by rw [List.length_set]; exact h.2.1, h'.2.1, fun j w hj => ?_⟩
  rw [List.getElem?_set] at hj
  by_cases hij : i = j
  · subst hij
    rw [if_pos rfl, if_pos (by rw [h.2.1]; exact hi)] at hj
    cases hj
    exact h'.2.2 (i, rb_cv ad v) List.mem_cons_self
  · rw [if_neg hij] at hj
    refine h'.2.2 (j, rb_cv ad w) (List.mem_cons_of_mem _ (List.mem_filter.mpr ⟨rb_pr_mem.mpr ⟨w, hj, rfl⟩, ?_⟩))
    simp [rb_cat, Ne.symm hij]
/-- what holds all along a method's run -/
def rb_Cs (own : String) (cc : ByteArray) (mL : Nat) (X : Option (Nat × rb_Row)) (k : Nat) (p : Program) (R : Room) (s : State) (m : MethodId) (args : Array Value) (c : Code) (cells slots : Nat) (A : Nat → Prop) (dC : Nat → ClassId) (dI : Nat → Nat → Nat) (cI cZ : ClassId) (ad : Nat → Nat) (H0 : Heap) : Prop :=
  p.tables.exec = Jvm.exec ∧ c.code = cc ∧ c.maxLocals = mL ∧ s.vm.findClass own = some m.cls ∧ (∀ w ∈ rb_tbl, w.before args s = true) ∧ (k ≤ R.frames ∧ 40 * k ≤ R.locals ∧ cells ≤ R.cells ∧ slots ≤ R.slots) ∧ va_K (dC, dI) rb_cl [(cI, .int), (cZ, .boolean)] s ∧ (∀ q : Nat, H0.size ≤ q → A q) ∧ (∀ (Ls : Nat) (xs : rb_Row), X = some (Ls, xs) → va_X (ad 99) Ls xs s H0 ∧ ad 99 < H0.size ∧ ¬ A (ad 99)) ∧ va_D A (rb_wl ad cI cZ (fun _ _ => 0)) ∧ rb_N s
def rb_Fin (p : Program) (l : Launch) (e : Env) (R : Room) (s : State) (m : MethodId) (args : Array Value) (below : List Frame) (meth : Method) (c : Code) (H0 : Heap) (cells slots : Nat) (Q : State → Prop) (A : Nat → Prop) (dC : Nat → ClassId) (dI : Nat → Nat → Nat) (cI cZ : ClassId) (ad : Nat → Nat) (cc : ByteArray) (ret : Option FieldType) (r : Option Int32) (μf : rb_Mem) : Prop :=
  ∀ (H : Heap) (locs : List Loc) (ls : Array Slot) (pc : Nat), va_P (dC, dI) rb_cl (rb_wl ad cI cZ μf) H → va_S A H0 H locs →
    (∀ (v w : Int32) (ty : FieldType), ret = some ty → r = some v → vp_nar ty w = v → decode cc pc = .ok (.ireturn, 1) → W p l e R s m args below meth c H locs cells slots Q (F0 m pc ls [.int w])) ∧
    (ret = none → r = none → decode cc pc = .ok (.return_, 1) → W p l e R s m args below meth c H locs cells slots Q (F0 m pc ls []))
/-- from here, with these locals, this stack and this memory, the method comes to its end with the answer r and the memory μf -/
def rb_Ev (own : String) (cc : ByteArray) (mL : Nat) (ret : Option FieldType) (X : Option (Nat × rb_Row)) (k : Nat) (r : Option Int32) (μf : rb_Mem) (pc : Nat) (L : List (Option rb_AV)) (st : List rb_AV) (μ : rb_Mem) : Prop :=
  ∀ (p : Program) (l : Launch) (e : Env) (R : Room) (s : State) (m : MethodId) (args : Array Value) (below : List Frame) (meth : Method) (c : Code) (H0 : Heap) (cells slots : Nat) (Q : State → Prop) (A : Nat → Prop) (dC : Nat → ClassId) (dI : Nat → Nat → Nat) (cI cZ : ClassId) (ad : Nat → Nat),
  rb_Cs own cc mL X k p R s m args c cells slots A dC dI cI cZ ad H0 →
  rb_Fin p l e R s m args below meth c H0 cells slots Q A dC dI cI cZ ad cc ret r μf →
  ∀ (H : Heap) (locs : List Loc) (ls : Array Slot), va_P (dC, dI) rb_cl (rb_wl ad cI cZ μ) H → va_S A H0 H locs → rb_lv ad ls mL L →
  W p l e R s m args below meth c H locs cells slots Q (F0 m pc ls (st.map (rb_cv ad)))
section rb_rules
variable {own : String} {cc : ByteArray} {mL : Nat} {ret : Option FieldType} {X : Option (Nat × rb_Row)} {k : Nat} {r : Option Int32} {μf : rb_Mem} {pc : Nat} {L : List (Option rb_AV)} {st : List rb_AV} {μ : rb_Mem}
theorem ev_iconst {n : Int} {v : Int32} (d : decode cc pc = .ok (.iconst n, 1)) (hv : Int32.ofInt n = v) (K : rb_Ev own cc mL ret X k r μf (pc + 1) L (.inl v :: st) μ) : rb_Ev own cc mL ret X k r μf pc L st μ := by
  intro p l e R s m args below meth c H0 cells slots Q A dC dI cI cZ ad C F H locs ls hP hS hl
  exact lv_iconst C.1 C.2.1 d hv (K p l e R s m args below meth c H0 cells slots Q A dC dI cI cZ ad C F H locs ls hP hS hl)
theorem ev_bipush {n : Int} {v : Int32} (d : decode cc pc = .ok (.bipush n, 2)) (hv : (Int8.ofInt n).toInt32 = v) (K : rb_Ev own cc mL ret X k r μf (pc + 2) L (.inl v :: st) μ) : rb_Ev own cc mL ret X k r μf pc L st μ := by
  intro p l e R s m args below meth c H0 cells slots Q A dC dI cI cZ ad C F H locs ls hP hS hl
  exact lv_bipush C.1 C.2.1 d hv (K p l e R s m args below meth c H0 cells slots Q A dC dI cI cZ ad C F H locs ls hP hS hl)
theorem ev_sipush {n : Int} {v : Int32} (d : decode cc pc = .ok (.sipush n, 3)) (hv : (Int16.ofInt n).toInt32 = v) (K : rb_Ev own cc mL ret X k r μf (pc + 3) L (.inl v :: st) μ) : rb_Ev own cc mL ret X k r μf pc L st μ := by
  intro p l e R s m args below meth c H0 cells slots Q A dC dI cI cZ ad C F H locs ls hP hS hl
  exact lv_sipush C.1 C.2.1 d hv (K p l e R s m args below meth c H0 cells slots Q A dC dI cI cZ ad C F H locs ls hP hS hl)
theorem ev_ldc {index : Nat} {v : Int32} (d : decode cc pc = .ok (.ldc index, 2)) (hw : Cond.constant own index v ∈ rb_tbl) (K : rb_Ev own cc mL ret X k r μf (pc + 2) L (.inl v :: st) μ) : rb_Ev own cc mL ret X k r μf pc L st μ := by
  intro p l e R s m args below meth c H0 cells slots Q A dC dI cI cZ ad C F H locs ls hP hS hl
  exact lv_ldc C.1 C.2.1 C.2.2.2.1 (C.2.2.2.2.1 _ hw) d (K p l e R s m args below meth c H0 cells slots Q A dC dI cI cZ ad C F H locs ls hP hS hl)
theorem ev_iload_n {n : Fin 4} {v : Int32} (d : decode cc pc = .ok (.iload_n n, 1)) (hv : L[(n : Nat)]? = some (some (.inl v))) (K : rb_Ev own cc mL ret X k r μf (pc + 1) L (.inl v :: st) μ) : rb_Ev own cc mL ret X k r μf pc L st μ := by
  intro p l e R s m args below meth c H0 cells slots Q A dC dI cI cZ ad C F H locs ls hP hS hl
  exact lv_iload_n C.1 C.2.1 d rfl (hl.2.2.2 _ _ hv) (K p l e R s m args below meth c H0 cells slots Q A dC dI cI cZ ad C F H locs ls hP hS hl)
theorem ev_iload {n : Nat} {v : Int32} (d : decode cc pc = .ok (.iload n, 2)) (hv : L[n]? = some (some (.inl v))) (K : rb_Ev own cc mL ret X k r μf (pc + 2) L (.inl v :: st) μ) : rb_Ev own cc mL ret X k r μf pc L st μ := by
  intro p l e R s m args below meth c H0 cells slots Q A dC dI cI cZ ad C F H locs ls hP hS hl
  exact lv_iload C.1 C.2.1 d (hl.2.2.2 _ _ hv) (K p l e R s m args below meth c H0 cells slots Q A dC dI cI cZ ad C F H locs ls hP hS hl)
theorem ev_aload_n {n : Fin 4} {v : Nat} (d : decode cc pc = .ok (.aload_n n, 1)) (hv : L[(n : Nat)]? = some (some (.inr v))) (K : rb_Ev own cc mL ret X k r μf (pc + 1) L (.inr v :: st) μ) : rb_Ev own cc mL ret X k r μf pc L st μ := by
  intro p l e R s m args below meth c H0 cells slots Q A dC dI cI cZ ad C F H locs ls hP hS hl
  exact lv_aload_n C.1 C.2.1 d rfl (hl.2.2.2 _ _ hv) (K p l e R s m args below meth c H0 cells slots Q A dC dI cI cZ ad C F H locs ls hP hS hl)
theorem ev_istore_n {n : Fin 4} {v : Int32} {L' : List (Option rb_AV)} (d : decode cc pc = .ok (.istore_n n, 1)) (hn : (n : Nat) < mL) (hL : L.set n (some (.inl v)) = L') (K : rb_Ev own cc mL ret X k r μf (pc + 1) L' st μ) : rb_Ev own cc mL ret X k r μf pc L (.inl v :: st) μ := by
  intro p l e R s m args below meth c H0 cells slots Q A dC dI cI cZ ad C F H locs ls hP hS hl
  exact lv_istore_n C.1 C.2.1 d rfl (rb_lv_has hl) hn rfl (fun ls' h' => K p l e R s m args below meth c H0 cells slots Q A dC dI cI cZ ad C F H locs ls' hP hS (by rw [← hL]; exact rb_lv_set hl hn h'))
theorem ev_istore {n : Nat} {v : Int32} {L' : List (Option rb_AV)} (d : decode cc pc = .ok (.istore n, 2)) (hn : n < mL) (hL : L.set n (some (.inl v)) = L') (K : rb_Ev own cc mL ret X k r μf (pc + 2) L' st μ) : rb_Ev own cc mL ret X k r μf pc L (.inl v :: st) μ := by
  intro p l e R s m args below meth c H0 cells slots Q A dC dI cI cZ ad C F H locs ls hP hS hl
  exact lv_istore C.1 C.2.1 d (rb_lv_has hl) hn rfl (fun ls' h' => K p l e R s m args below meth c H0 cells slots Q A dC dI cI cZ ad C F H locs ls' hP hS (by rw [← hL]; exact rb_lv_set hl hn h'))
theorem ev_astore_n {n : Fin 4} {v : Nat} {L' : List (Option rb_AV)} (d : decode cc pc = .ok (.astore_n n, 1)) (hn : (n : Nat) < mL) (hL : L.set n (some (.inr v)) = L') (K : rb_Ev own cc mL ret X k r μf (pc + 1) L' st μ) : rb_Ev own cc mL ret X k r μf pc L (.inr v :: st) μ := by
  intro p l e R s m args below meth c H0 cells slots Q A dC dI cI cZ ad C F H locs ls hP hS hl
  exact lv_astore_n C.1 C.2.1 d rfl (rb_lv_has hl) hn rfl (fun ls' h' => K p l e R s m args below meth c H0 cells slots Q A dC dI cI cZ ad C F H locs ls' hP hS (by rw [← hL]; exact rb_lv_set hl hn h'))
theorem ev_iinc {i : Nat} {n : Int} {x v : Int32} {L' : List (Option rb_AV)} (d : decode cc pc = .ok (.iinc i n, 3)) (hx : L[i]? = some (some (.inl x))) (hv : x + Int32.ofInt n = v) (hn : i < mL) (hL : L.set i (some (.inl v)) = L') (K : rb_Ev own cc mL ret X k r μf (pc + 3) L' st μ) : rb_Ev own cc mL ret X k r μf pc L st μ := by
  intro p l e R s m args below meth c H0 cells slots Q A dC dI cI cZ ad C F H locs ls hP hS hl
  obtain ⟨j, hj⟩ := List.getElem?_of_mem (rb_pr_mem.mpr ⟨.inl x, hx, rfl⟩ : (i, rb_cv ad (.inl x)) ∈ rb_pr ad L)
  exact lv_iinc C.1 C.2.1 d (rb_lv_has hl) hj hv hn rfl (fun ls' h' => K p l e R s m args below meth c H0 cells slots Q A dC dI cI cZ ad C F H locs ls' hP hS (by rw [← hL]; exact rb_lv_set hl hn h'))
theorem ev_iadd {x y : Int32} (d : decode cc pc = .ok (.iadd, 1)) (K : rb_Ev own cc mL ret X k r μf (pc + 1) L (.inl (x + y) :: st) μ) : rb_Ev own cc mL ret X k r μf pc L (.inl y :: .inl x :: st) μ := by
  intro p l e R s m args below meth c H0 cells slots Q A dC dI cI cZ ad C F H locs ls hP hS hl
  exact lv_iadd C.1 C.2.1 d (K p l e R s m args below meth c H0 cells slots Q A dC dI cI cZ ad C F H locs ls hP hS hl)
theorem ev_isub {x y : Int32} (d : decode cc pc = .ok (.isub, 1)) (K : rb_Ev own cc mL ret X k r μf (pc + 1) L (.inl (x - y) :: st) μ) : rb_Ev own cc mL ret X k r μf pc L (.inl y :: .inl x :: st) μ := by
  intro p l e R s m args below meth c H0 cells slots Q A dC dI cI cZ ad C F H locs ls hP hS hl
  exact lv_isub C.1 C.2.1 d (K p l e R s m args below meth c H0 cells slots Q A dC dI cI cZ ad C F H locs ls hP hS hl)
theorem ev_imul {x y : Int32} (d : decode cc pc = .ok (.imul, 1)) (K : rb_Ev own cc mL ret X k r μf (pc + 1) L (.inl (x * y) :: st) μ) : rb_Ev own cc mL ret X k r μf pc L (.inl y :: .inl x :: st) μ := by
  intro p l e R s m args below meth c H0 cells slots Q A dC dI cI cZ ad C F H locs ls hP hS hl
  exact lv_imul C.1 C.2.1 d (K p l e R s m args below meth c H0 cells slots Q A dC dI cI cZ ad C F H locs ls hP hS hl)
theorem ev_iand {x y : Int32} (d : decode cc pc = .ok (.iand, 1)) (K : rb_Ev own cc mL ret X k r μf (pc + 1) L (.inl (x &&& y) :: st) μ) : rb_Ev own cc mL ret X k r μf pc L (.inl y :: .inl x :: st) μ := by
  intro p l e R s m args below meth c H0 cells slots Q A dC dI cI cZ ad C F H locs ls hP hS hl
  exact lv_iand C.1 C.2.1 d (K p l e R s m args below meth c H0 cells slots Q A dC dI cI cZ ad C F H locs ls hP hS hl)
theorem ev_ior {x y : Int32} (d : decode cc pc = .ok (.ior, 1)) (K : rb_Ev own cc mL ret X k r μf (pc + 1) L (.inl (x ||| y) :: st) μ) : rb_Ev own cc mL ret X k r μf pc L (.inl y :: .inl x :: st) μ := by
  intro p l e R s m args below meth c H0 cells slots Q A dC dI cI cZ ad C F H locs ls hP hS hl
  exact lv_ior C.1 C.2.1 d (K p l e R s m args below meth c H0 cells slots Q A dC dI cI cZ ad C F H locs ls hP hS hl)
theorem ev_ishl {x y : Int32} (d : decode cc pc = .ok (.ishl, 1)) (K : rb_Ev own cc mL ret X k r μf (pc + 1) L (.inl (x <<< (y &&& 31)) :: st) μ) : rb_Ev own cc mL ret X k r μf pc L (.inl y :: .inl x :: st) μ := by
  intro p l e R s m args below meth c H0 cells slots Q A dC dI cI cZ ad C F H locs ls hP hS hl
  exact lv_ishl C.1 C.2.1 d (K p l e R s m args below meth c H0 cells slots Q A dC dI cI cZ ad C F H locs ls hP hS hl)
theorem ev_ishr {x y : Int32} (d : decode cc pc = .ok (.ishr, 1)) (K : rb_Ev own cc mL ret X k r μf (pc + 1) L (.inl (x >>> (y &&& 31)) :: st) μ) : rb_Ev own cc mL ret X k r μf pc L (.inl y :: .inl x :: st) μ := by
  intro p l e R s m args below meth c H0 cells slots Q A dC dI cI cZ ad C F H locs ls hP hS hl
  exact lv_ishr C.1 C.2.1 d (K p l e R s m args below meth c H0 cells slots Q A dC dI cI cZ ad C F H locs ls hP hS hl)
theorem ev_irem {x y : Int32} (d : decode cc pc = .ok (.irem, 1)) (hne : ¬ y = 0) (K : rb_Ev own cc mL ret X k r μf (pc + 1) L (.inl (x - x / y * y) :: st) μ) : rb_Ev own cc mL ret X k r μf pc L (.inl y :: .inl x :: st) μ := by
  intro p l e R s m args below meth c H0 cells slots Q A dC dI cI cZ ad C F H locs ls hP hS hl
  exact lv_irem C.1 C.2.1 d hne (K p l e R s m args below meth c H0 cells slots Q A dC dI cI cZ ad C F H locs ls hP hS hl)
theorem ev_dup {a : rb_AV} (d : decode cc pc = .ok (.dup, 1)) (K : rb_Ev own cc mL ret X k r μf (pc + 1) L (a :: a :: st) μ) : rb_Ev own cc mL ret X k r μf pc L (a :: st) μ := by
  intro p l e R s m args below meth c H0 cells slots Q A dC dI cI cZ ad C F H locs ls hP hS hl
  exact lv_dup C.1 C.2.1 d (rb_cat _ _) (K p l e R s m args below meth c H0 cells slots Q A dC dI cI cZ ad C F H locs ls hP hS hl)
theorem ev_pop {a : rb_AV} (d : decode cc pc = .ok (.pop, 1)) (K : rb_Ev own cc mL ret X k r μf (pc + 1) L st μ) : rb_Ev own cc mL ret X k r μf pc L (a :: st) μ := by
  intro p l e R s m args below meth c H0 cells slots Q A dC dI cI cZ ad C F H locs ls hP hS hl
  exact lv_pop C.1 C.2.1 d (rb_cat ad a) (K p l e R s m args below meth c H0 cells slots Q A dC dI cI cZ ad C F H locs ls hP hS hl)
theorem ev_dup2 {a b : rb_AV} (d : decode cc pc = .ok (.dup2, 1)) (K : rb_Ev own cc mL ret X k r μf (pc + 1) L (a :: b :: a :: b :: st) μ) : rb_Ev own cc mL ret X k r μf pc L (a :: b :: st) μ := by
  intro p l e R s m args below meth c H0 cells slots Q A dC dI cI cZ ad C F H locs ls hP hS hl
  exact lv_dup2_11 C.1 C.2.1 d (rb_cat _ _) (rb_cat _ _) (K p l e R s m args below meth c H0 cells slots Q A dC dI cI cZ ad C F H locs ls hP hS hl)
theorem ev_dup_x2 {a b c : rb_AV} (d : decode cc pc = .ok (.dup_x2, 1)) (K : rb_Ev own cc mL ret X k r μf (pc + 1) L (a :: b :: c :: a :: st) μ) : rb_Ev own cc mL ret X k r μf pc L (a :: b :: c :: st) μ := by
  intro p l e R s m args below meth c H0 cells slots Q A dC dI cI cZ ad C F H locs ls hP hS hl
  exact lv_dup_x2 C.1 C.2.1 d (rb_cat _ _) (rb_cat _ _) (rb_cat _ _) (K p l e R s m args below meth c H0 cells slots Q A dC dI cI cZ ad C F H locs ls hP hS hl)
theorem ev_goto {off : Int} {t : Nat} (d : decode cc pc = .ok (.goto off, 3)) (ht : (pc : Int) + off = (t : Int)) (K : rb_Ev own cc mL ret X k r μf t L st μ) : rb_Ev own cc mL ret X k r μf pc L st μ := by
  intro p l e R s m args below meth c H0 cells slots Q A dC dI cI cZ ad C F H locs ls hP hS hl
  exact lv_goto C.1 C.2.1 d ht (K p l e R s m args below meth c H0 cells slots Q A dC dI cI cZ ad C F H locs ls hP hS hl)
theorem ev_icmp_eq_t {x y : Int32} {off : Int} {t : Nat} (d : decode cc pc = .ok (.if_icmp .eq off, 3)) (ht : (pc : Int) + off = (t : Int)) (h : x = y) (K : rb_Ev own cc mL ret X k r μf t L st μ) : rb_Ev own cc mL ret X k r μf pc L (.inl y :: .inl x :: st) μ := by
  intro p l e R s m args below meth c H0 cells slots Q A dC dI cI cZ ad C F H locs ls hP hS hl
  exact lv_icmp_eq C.1 C.2.1 d ht (fun _ => (K p l e R s m args below meth c H0 cells slots Q A dC dI cI cZ ad C F H locs ls hP hS hl)) (fun hc => absurd h hc)
theorem ev_icmp_eq_f {x y : Int32} {off : Int} {t : Nat} (d : decode cc pc = .ok (.if_icmp .eq off, 3)) (ht : (pc : Int) + off = (t : Int)) (h : ¬ x = y) (K : rb_Ev own cc mL ret X k r μf (pc + 3) L st μ) : rb_Ev own cc mL ret X k r μf pc L (.inl y :: .inl x :: st) μ := by
  intro p l e R s m args below meth c H0 cells slots Q A dC dI cI cZ ad C F H locs ls hP hS hl
  exact lv_icmp_eq C.1 C.2.1 d ht (fun hc => absurd hc h) (fun _ => (K p l e R s m args below meth c H0 cells slots Q A dC dI cI cZ ad C F H locs ls hP hS hl))
theorem ev_if_eq_t {x : Int32} {off : Int} {t : Nat} (d : decode cc pc = .ok (.ifCond .eq off, 3)) (ht : (pc : Int) + off = (t : Int)) (h : x = 0) (K : rb_Ev own cc mL ret X k r μf t L st μ) : rb_Ev own cc mL ret X k r μf pc L (.inl x :: st) μ := by
  intro p l e R s m args below meth c H0 cells slots Q A dC dI cI cZ ad C F H locs ls hP hS hl
  exact lv_if_eq C.1 C.2.1 d ht (fun _ => (K p l e R s m args below meth c H0 cells slots Q A dC dI cI cZ ad C F H locs ls hP hS hl)) (fun hc => absurd h hc)
theorem ev_if_eq_f {x : Int32} {off : Int} {t : Nat} (d : decode cc pc = .ok (.ifCond .eq off, 3)) (ht : (pc : Int) + off = (t : Int)) (h : ¬ x = 0) (K : rb_Ev own cc mL ret X k r μf (pc + 3) L st μ) : rb_Ev own cc mL ret X k r μf pc L (.inl x :: st) μ := by
  intro p l e R s m args below meth c H0 cells slots Q A dC dI cI cZ ad C F H locs ls hP hS hl
  exact lv_if_eq C.1 C.2.1 d ht (fun hc => absurd hc h) (fun _ => (K p l e R s m args below meth c H0 cells slots Q A dC dI cI cZ ad C F H locs ls hP hS hl))
theorem ev_icmp_ne_t {x y : Int32} {off : Int} {t : Nat} (d : decode cc pc = .ok (.if_icmp .ne off, 3)) (ht : (pc : Int) + off = (t : Int)) (h : ¬ x = y) (K : rb_Ev own cc mL ret X k r μf t L st μ) : rb_Ev own cc mL ret X k r μf pc L (.inl y :: .inl x :: st) μ := by
  intro p l e R s m args below meth c H0 cells slots Q A dC dI cI cZ ad C F H locs ls hP hS hl
  exact lv_icmp_ne C.1 C.2.1 d ht (fun _ => (K p l e R s m args below meth c H0 cells slots Q A dC dI cI cZ ad C F H locs ls hP hS hl)) (fun hc => absurd hc h)
theorem ev_icmp_ne_f {x y : Int32} {off : Int} {t : Nat} (d : decode cc pc = .ok (.if_icmp .ne off, 3)) (ht : (pc : Int) + off = (t : Int)) (h : x = y) (K : rb_Ev own cc mL ret X k r μf (pc + 3) L st μ) : rb_Ev own cc mL ret X k r μf pc L (.inl y :: .inl x :: st) μ := by
  intro p l e R s m args below meth c H0 cells slots Q A dC dI cI cZ ad C F H locs ls hP hS hl
  exact lv_icmp_ne C.1 C.2.1 d ht (fun hc => absurd h hc) (fun _ => (K p l e R s m args below meth c H0 cells slots Q A dC dI cI cZ ad C F H locs ls hP hS hl))
theorem ev_if_ne_t {x : Int32} {off : Int} {t : Nat} (d : decode cc pc = .ok (.ifCond .ne off, 3)) (ht : (pc : Int) + off = (t : Int)) (h : ¬ x = 0) (K : rb_Ev own cc mL ret X k r μf t L st μ) : rb_Ev own cc mL ret X k r μf pc L (.inl x :: st) μ := by
  intro p l e R s m args below meth c H0 cells slots Q A dC dI cI cZ ad C F H locs ls hP hS hl
  exact lv_if_ne C.1 C.2.1 d ht (fun _ => (K p l e R s m args below meth c H0 cells slots Q A dC dI cI cZ ad C F H locs ls hP hS hl)) (fun hc => absurd hc h)
theorem ev_if_ne_f {x : Int32} {off : Int} {t : Nat} (d : decode cc pc = .ok (.ifCond .ne off, 3)) (ht : (pc : Int) + off = (t : Int)) (h : x = 0) (K : rb_Ev own cc mL ret X k r μf (pc + 3) L st μ) : rb_Ev own cc mL ret X k r μf pc L (.inl x :: st) μ := by
  intro p l e R s m args below meth c H0 cells slots Q A dC dI cI cZ ad C F H locs ls hP hS hl
  exact lv_if_ne C.1 C.2.1 d ht (fun hc => absurd h hc) (fun _ => (K p l e R s m args below meth c H0 cells slots Q A dC dI cI cZ ad C F H locs ls hP hS hl))
theorem ev_icmp_lt_t {x y : Int32} {off : Int} {t : Nat} (d : decode cc pc = .ok (.if_icmp .lt off, 3)) (ht : (pc : Int) + off = (t : Int)) (h : x < y) (K : rb_Ev own cc mL ret X k r μf t L st μ) : rb_Ev own cc mL ret X k r μf pc L (.inl y :: .inl x :: st) μ := by
  intro p l e R s m args below meth c H0 cells slots Q A dC dI cI cZ ad C F H locs ls hP hS hl
  exact lv_icmp_lt C.1 C.2.1 d ht (fun _ => (K p l e R s m args below meth c H0 cells slots Q A dC dI cI cZ ad C F H locs ls hP hS hl)) (fun hc => absurd h hc)
theorem ev_icmp_lt_f {x y : Int32} {off : Int} {t : Nat} (d : decode cc pc = .ok (.if_icmp .lt off, 3)) (ht : (pc : Int) + off = (t : Int)) (h : ¬ x < y) (K : rb_Ev own cc mL ret X k r μf (pc + 3) L st μ) : rb_Ev own cc mL ret X k r μf pc L (.inl y :: .inl x :: st) μ := by
  intro p l e R s m args below meth c H0 cells slots Q A dC dI cI cZ ad C F H locs ls hP hS hl
  exact lv_icmp_lt C.1 C.2.1 d ht (fun hc => absurd hc h) (fun _ => (K p l e R s m args below meth c H0 cells slots Q A dC dI cI cZ ad C F H locs ls hP hS hl))
theorem ev_if_lt_t {x : Int32} {off : Int} {t : Nat} (d : decode cc pc = .ok (.ifCond .lt off, 3)) (ht : (pc : Int) + off = (t : Int)) (h : x < 0) (K : rb_Ev own cc mL ret X k r μf t L st μ) : rb_Ev own cc mL ret X k r μf pc L (.inl x :: st) μ := by
  intro p l e R s m args below meth c H0 cells slots Q A dC dI cI cZ ad C F H locs ls hP hS hl
  exact lv_if_lt C.1 C.2.1 d ht (fun _ => (K p l e R s m args below meth c H0 cells slots Q A dC dI cI cZ ad C F H locs ls hP hS hl)) (fun hc => absurd h hc)
theorem ev_if_lt_f {x : Int32} {off : Int} {t : Nat} (d : decode cc pc = .ok (.ifCond .lt off, 3)) (ht : (pc : Int) + off = (t : Int)) (h : ¬ x < 0) (K : rb_Ev own cc mL ret X k r μf (pc + 3) L st μ) : rb_Ev own cc mL ret X k r μf pc L (.inl x :: st) μ := by
  intro p l e R s m args below meth c H0 cells slots Q A dC dI cI cZ ad C F H locs ls hP hS hl
  exact lv_if_lt C.1 C.2.1 d ht (fun hc => absurd hc h) (fun _ => (K p l e R s m args below meth c H0 cells slots Q A dC dI cI cZ ad C F H locs ls hP hS hl))
theorem ev_icmp_ge_t {x y : Int32} {off : Int} {t : Nat} (d : decode cc pc = .ok (.if_icmp .ge off, 3)) (ht : (pc : Int) + off = (t : Int)) (h : y ≤ x) (K : rb_Ev own cc mL ret X k r μf t L st μ) : rb_Ev own cc mL ret X k r μf pc L (.inl y :: .inl x :: st) μ := by
  intro p l e R s m args below meth c H0 cells slots Q A dC dI cI cZ ad C F H locs ls hP hS hl
  exact lv_icmp_ge C.1 C.2.1 d ht (fun _ => (K p l e R s m args below meth c H0 cells slots Q A dC dI cI cZ ad C F H locs ls hP hS hl)) (fun hc => absurd h hc)
theorem ev_icmp_ge_f {x y : Int32} {off : Int} {t : Nat} (d : decode cc pc = .ok (.if_icmp .ge off, 3)) (ht : (pc : Int) + off = (t : Int)) (h : ¬ y ≤ x) (K : rb_Ev own cc mL ret X k r μf (pc + 3) L st μ) : rb_Ev own cc mL ret X k r μf pc L (.inl y :: .inl x :: st) μ := by
  intro p l e R s m args below meth c H0 cells slots Q A dC dI cI cZ ad C F H locs ls hP hS hl
  exact lv_icmp_ge C.1 C.2.1 d ht (fun hc => absurd hc h) (fun _ => (K p l e R s m args below meth c H0 cells slots Q A dC dI cI cZ ad C F H locs ls hP hS hl))
theorem ev_if_ge_t {x : Int32} {off : Int} {t : Nat} (d : decode cc pc = .ok (.ifCond .ge off, 3)) (ht : (pc : Int) + off = (t : Int)) (h : 0 ≤ x) (K : rb_Ev own cc mL ret X k r μf t L st μ) : rb_Ev own cc mL ret X k r μf pc L (.inl x :: st) μ := by
  intro p l e R s m args below meth c H0 cells slots Q A dC dI cI cZ ad C F H locs ls hP hS hl
  exact lv_if_ge C.1 C.2.1 d ht (fun _ => (K p l e R s m args below meth c H0 cells slots Q A dC dI cI cZ ad C F H locs ls hP hS hl)) (fun hc => absurd h hc)
theorem ev_if_ge_f {x : Int32} {off : Int} {t : Nat} (d : decode cc pc = .ok (.ifCond .ge off, 3)) (ht : (pc : Int) + off = (t : Int)) (h : ¬ 0 ≤ x) (K : rb_Ev own cc mL ret X k r μf (pc + 3) L st μ) : rb_Ev own cc mL ret X k r μf pc L (.inl x :: st) μ := by
  intro p l e R s m args below meth c H0 cells slots Q A dC dI cI cZ ad C F H locs ls hP hS hl
  exact lv_if_ge C.1 C.2.1 d ht (fun hc => absurd hc h) (fun _ => (K p l e R s m args below meth c H0 cells slots Q A dC dI cI cZ ad C F H locs ls hP hS hl))
theorem ev_icmp_gt_t {x y : Int32} {off : Int} {t : Nat} (d : decode cc pc = .ok (.if_icmp .gt off, 3)) (ht : (pc : Int) + off = (t : Int)) (h : y < x) (K : rb_Ev own cc mL ret X k r μf t L st μ) : rb_Ev own cc mL ret X k r μf pc L (.inl y :: .inl x :: st) μ := by
  intro p l e R s m args below meth c H0 cells slots Q A dC dI cI cZ ad C F H locs ls hP hS hl
  exact lv_icmp_gt C.1 C.2.1 d ht (fun _ => (K p l e R s m args below meth c H0 cells slots Q A dC dI cI cZ ad C F H locs ls hP hS hl)) (fun hc => absurd h hc)
theorem ev_icmp_gt_f {x y : Int32} {off : Int} {t : Nat} (d : decode cc pc = .ok (.if_icmp .gt off, 3)) (ht : (pc : Int) + off = (t : Int)) (h : ¬ y < x) (K : rb_Ev own cc mL ret X k r μf (pc + 3) L st μ) : rb_Ev own cc mL ret X k r μf pc L (.inl y :: .inl x :: st) μ := by
  intro p l e R s m args below meth c H0 cells slots Q A dC dI cI cZ ad C F H locs ls hP hS hl
  exact lv_icmp_gt C.1 C.2.1 d ht (fun hc => absurd hc h) (fun _ => (K p l e R s m args below meth c H0 cells slots Q A dC dI cI cZ ad C F H locs ls hP hS hl))
theorem ev_if_gt_t {x : Int32} {off : Int} {t : Nat} (d : decode cc pc = .ok (.ifCond .gt off, 3)) (ht : (pc : Int) + off = (t : Int)) (h : 0 < x) (K : rb_Ev own cc mL ret X k r μf t L st μ) : rb_Ev own cc mL ret X k r μf pc L (.inl x :: st) μ := by
  intro p l e R s m args below meth c H0 cells slots Q A dC dI cI cZ ad C F H locs ls hP hS hl
  exact lv_if_gt C.1 C.2.1 d ht (fun _ => (K p l e R s m args below meth c H0 cells slots Q A dC dI cI cZ ad C F H locs ls hP hS hl)) (fun hc => absurd h hc)
theorem ev_if_gt_f {x : Int32} {off : Int} {t : Nat} (d : decode cc pc = .ok (.ifCond .gt off, 3)) (ht : (pc : Int) + off = (t : Int)) (h : ¬ 0 < x) (K : rb_Ev own cc mL ret X k r μf (pc + 3) L st μ) : rb_Ev own cc mL ret X k r μf pc L (.inl x :: st) μ := by
  intro p l e R s m args below meth c H0 cells slots Q A dC dI cI cZ ad C F H locs ls hP hS hl
  exact lv_if_gt C.1 C.2.1 d ht (fun hc => absurd hc h) (fun _ => (K p l e R s m args below meth c H0 cells slots Q A dC dI cI cZ ad C F H locs ls hP hS hl))
theorem ev_icmp_le_t {x y : Int32} {off : Int} {t : Nat} (d : decode cc pc = .ok (.if_icmp .le off, 3)) (ht : (pc : Int) + off = (t : Int)) (h : x ≤ y) (K : rb_Ev own cc mL ret X k r μf t L st μ) : rb_Ev own cc mL ret X k r μf pc L (.inl y :: .inl x :: st) μ := by
  intro p l e R s m args below meth c H0 cells slots Q A dC dI cI cZ ad C F H locs ls hP hS hl
  exact lv_icmp_le C.1 C.2.1 d ht (fun _ => (K p l e R s m args below meth c H0 cells slots Q A dC dI cI cZ ad C F H locs ls hP hS hl)) (fun hc => absurd h hc)
theorem ev_icmp_le_f {x y : Int32} {off : Int} {t : Nat} (d : decode cc pc = .ok (.if_icmp .le off, 3)) (ht : (pc : Int) + off = (t : Int)) (h : ¬ x ≤ y) (K : rb_Ev own cc mL ret X k r μf (pc + 3) L st μ) : rb_Ev own cc mL ret X k r μf pc L (.inl y :: .inl x :: st) μ := by
  intro p l e R s m args below meth c H0 cells slots Q A dC dI cI cZ ad C F H locs ls hP hS hl
  exact lv_icmp_le C.1 C.2.1 d ht (fun hc => absurd hc h) (fun _ => (K p l e R s m args below meth c H0 cells slots Q A dC dI cI cZ ad C F H locs ls hP hS hl))
theorem ev_if_le_t {x : Int32} {off : Int} {t : Nat} (d : decode cc pc = .ok (.ifCond .le off, 3)) (ht : (pc : Int) + off = (t : Int)) (h : x ≤ 0) (K : rb_Ev own cc mL ret X k r μf t L st μ) : rb_Ev own cc mL ret X k r μf pc L (.inl x :: st) μ := by
  intro p l e R s m args below meth c H0 cells slots Q A dC dI cI cZ ad C F H locs ls hP hS hl
  exact lv_if_le C.1 C.2.1 d ht (fun _ => (K p l e R s m args below meth c H0 cells slots Q A dC dI cI cZ ad C F H locs ls hP hS hl)) (fun hc => absurd h hc)
theorem ev_if_le_f {x : Int32} {off : Int} {t : Nat} (d : decode cc pc = .ok (.ifCond .le off, 3)) (ht : (pc : Int) + off = (t : Int)) (h : ¬ x ≤ 0) (K : rb_Ev own cc mL ret X k r μf (pc + 3) L st μ) : rb_Ev own cc mL ret X k r μf pc L (.inl x :: st) μ := by
  intro p l e R s m args below meth c H0 cells slots Q A dC dI cI cZ ad C F H locs ls hP hS hl
  exact lv_if_le C.1 C.2.1 d ht (fun hc => absurd hc h) (fun _ => (K p l e R s m args below meth c H0 cells slots Q A dC dI cI cZ ad C F H locs ls hP hS hl))
theorem ev_tsOut {dflt lo hi : Int} {offs : Array Int} {len : Nat} {x : Int32} {t : Nat} (d : decode cc pc = .ok (.tableswitch dflt lo hi offs, len)) (h : x.toInt < lo ∨ hi < x.toInt) (ht : (pc : Int) + dflt = (t : Int)) (K : rb_Ev own cc mL ret X k r μf t L st μ) : rb_Ev own cc mL ret X k r μf pc L (.inl x :: st) μ := by
  intro p l e R s m args below meth c H0 cells slots Q A dC dI cI cZ ad C F H locs ls hP hS hl
  exact lv_tableOut C.1 C.2.1 d h ht (K p l e R s m args below meth c H0 cells slots Q A dC dI cI cZ ad C F H locs ls hP hS hl)
theorem ev_tsIn {dflt lo hi : Int} {offs : Array Int} {len : Nat} {x : Int32} {off : Int} {t : Nat} (d : decode cc pc = .ok (.tableswitch dflt lo hi offs, len)) (h1 : ¬ x.toInt < lo) (h2 : ¬ hi < x.toInt) (ho : offs[(x.toInt - lo).toNat]? = some off) (ht : (pc : Int) + off = (t : Int)) (K : rb_Ev own cc mL ret X k r μf t L st μ) : rb_Ev own cc mL ret X k r μf pc L (.inl x :: st) μ := by
  intro p l e R s m args below meth c H0 cells slots Q A dC dI cI cZ ad C F H locs ls hP hS hl
  exact lv_tableIn C.1 C.2.1 d h1 h2 ho ht (K p l e R s m args below meth c H0 cells slots Q A dC dI cI cZ ad C F H locs ls hP hS hl)
theorem ev_lsw {dflt : Int} {ps : Array (Int × Int)} {len : Nat} {x : Int32} {off : Int} {t : Nat} (d : decode cc pc = .ok (.lookupswitch dflt ps, len)) (hp : (ps.toList.zip (ps.toList.drop 1)).all (fun (a, next) => a.1 < next.1) = true) (ho : Op.lookupswitch.offset ps.toList dflt x.toInt = off) (ht : (pc : Int) + off = (t : Int)) (K : rb_Ev own cc mL ret X k r μf t L st μ) : rb_Ev own cc mL ret X k r μf pc L (.inl x :: st) μ := by
  intro p l e R s m args below meth c H0 cells slots Q A dC dI cI cZ ad C F H locs ls hP hS hl
  exact lv_lookup C.1 C.2.1 d hp ho ht (K p l e R s m args below meth c H0 cells slots Q A dC dI cI cZ ad C F H locs ls hP hS hl)
end rb_rules
