/-- reading an updated row -/
theorem rb_upn {f : rb_Row} {k j : Nat} {x : Int32} (h : j ≠ k) : upd f k x j = f j := by simp [upd, h]
theorem rb_upe {f : rb_Row} {k j : Nat} {x : Int32} (h : j = k) : upd f k x j = x := by simp [upd, h]
theorem rb_upi {f : rb_Row} {k j : Nat} {x : Int32} : upd f k x j = if j = k then x else f j := rfl
def nt (v : Int32) : Nat := v.toNatClampNeg
theorem nt_nI {k : Nat} (h : k < 2 ^ 31) : nt (nI k) = k := nI_clamp h
theorem nt_n {k : Nat} {v : Int32} (e : v = nI k) (h : k < 2 ^ 31) : nt v = k := by rw [e]; exact nI_clamp h
theorem rb_lpg {ρ : Type} {body : Int32 → Option (Int32 ⊕ (Unit ⊕ ρ))} (p : Nat → Bool) (r : Nat → ρ) (n : Nat) (hn : n < 99999) (hb0 : ∀ j, j < n → p j = false → body (nI j) = some (.inl (nI (j + 1)))) (hb1 : ∀ j, j < n → p j = true → body (nI j) = some (.inr (.inr (r j)))) (he : body (nI n) = some (.inr (.inl ()))) : rb_lp body 100000 0 = some (match rb_fd p n with
  | some i => .inr (r i)
  | none => .inl ()) := by
  show rb_lp body 100000 (nI 0) = _
  cases hf : rb_fd p n with
  | none => exact rb_lps0 (fun j => nI j) n _ rfl (fun j hj => hb0 j hj (rb_fd_none hf j hj)) he (by omega)
  | some i =>
    obtain ⟨h1, h2, h3⟩ := rb_fd_some hf
    exact rb_lps0 (fun j => nI j) i _ rfl (fun j hj => hb0 j (by omega) (h3 j hj)) (hb1 i h1 h2) (by omega)
/-- a run of a loop: k steps lead from s to s' -/
def rb_rn {σ ρ : Type} (body : σ → Option (σ ⊕ ρ)) (k : Nat) (s s' : σ) : Prop := ∀ N, rb_lp body (N + k) s = rb_lp body N s'
theorem rb_rn0 {σ ρ : Type} {body : σ → Option (σ ⊕ ρ)} {s : σ} : rb_rn body 0 s s := fun _ => rfl
theorem rb_rn1 {σ ρ : Type} {body : σ → Option (σ ⊕ ρ)} {s s' : σ} (h : body s = some (.inl s')) : rb_rn body 1 s s' := by
  intro N
  show (body s).bind _ = _
  rw [h]
  rfl
theorem rb_rnt {σ ρ : Type} {body : σ → Option (σ ⊕ ρ)} {s s' s'' : σ} {k k' : Nat} (h : rb_rn body k s s') (h' : rb_rn body k' s' s'') : rb_rn body (k + k') s s'' := by
  intro N
  have := h (N + k')
  rw [show N + (k + k') = N + k' + k by omega, this]
  exact h' N
theorem rb_rne {σ ρ : Type} {body : σ → Option (σ ⊕ ρ)} {s s' : σ} {k N : Nat} {r : ρ} (h : rb_rn body k s s') (he : body s' = some (.inr r)) (hN : k < N) : rb_lp body N s = some r := by
  have := h (N - k)
  rw [show N - k + k = N by omega] at this
  rw [this]
  have e : N - k = (N - k - 1) + 1 := by omega
  rw [e]
  show (body s').bind _ = _
  rw [he]
  rfl
/-- what an object that is no set tells -/
def rb_pl (c : rb_Row) (x : Nat) : Int32 :=
  if c (19 + x) = nI 0 then (if c (47 + x) ≤ nI 0 then nI 0 else nI 1) ||| (if nI 0 ≤ c (131 + x) then nI 0 else nI 4)
  else if c (19 + x) = nI 1 then (if nI 0 ≤ c (131 + x) then (if c (75 + x) ≤ c (47 + x) then nI 0 else nI 2) else nI 8)
  else if c (19 + x) = nI 2 then (if c (47 + x) ≤ nI 0 then nI 0 else nI 1) ||| (if nI 1000 ≤ c (47 + x) then nI 0 else nI 2)
  else (if c (47 + x) ≤ nI 0 then nI 0 else nI 1)
def rb_bt (c : rb_Row) (i : Nat) : Int32 := (c (371 + i) ||| nI 4) ||| nI 8
def rb_tr (c : rb_Row) (F : Nat → Int32) (x i : Nat) : Bool := decide (c (299 + i) = nI x) && (!decide (c (443 + i) < nI 0) && (!decide (c (419 + i) = nI 0) && !decide (rb_bt c i &&& F (nt (c (323 + i))) = nI 0)))
def rq (c : rb_Row) (n : Nat) : Nat → Nat → Int32
  | 0, _ => nI 0
  | l + 1, x => if c (19 + x) = nI 4 then (match rb_fd (rb_tr c (rq c n l) x) n with
    | some _ => nI 1
    | none => nI 0) else rb_pl c x
def rb_live (c : rb_Row) (x : Nat) : Prop := ∃ k, k < 6 ∧ c (19 + x) = nI k
def rb_aims (c : rb_Row) (n : Nat) : Prop := ∀ i, i < n → ∃ y, y < 28 ∧ c (323 + i) = nI y ∧ rb_live c y
theorem rb_n0le {k : Nat} (h : k < 2 ^ 31) : (nI 0 ≤ nI k) = True := eq_true (nI_pos' h)
theorem kd_00 : (nI 0 = (0 : Int32)) = True := by decide
theorem ke_00 : (nI 0 = nI 0) = True := by decide
theorem kd_01 : (nI 0 = (1 : Int32)) = False := by decide
theorem ke_01 : (nI 0 = nI 1) = False := by decide
theorem kd_02 : (nI 0 = (2 : Int32)) = False := by decide
theorem ke_02 : (nI 0 = nI 2) = False := by decide
theorem kd_03 : (nI 0 = (3 : Int32)) = False := by decide
theorem ke_03 : (nI 0 = nI 3) = False := by decide
theorem kd_04 : (nI 0 = (4 : Int32)) = False := by decide
theorem ke_04 : (nI 0 = nI 4) = False := by decide
theorem kd_05 : (nI 0 = (5 : Int32)) = False := by decide
theorem ke_05 : (nI 0 = nI 5) = False := by decide
theorem kd_10 : (nI 1 = (0 : Int32)) = False := by decide
theorem ke_10 : (nI 1 = nI 0) = False := by decide
theorem kd_11 : (nI 1 = (1 : Int32)) = True := by decide
theorem ke_11 : (nI 1 = nI 1) = True := by decide
theorem kd_12 : (nI 1 = (2 : Int32)) = False := by decide
theorem ke_12 : (nI 1 = nI 2) = False := by decide
theorem kd_13 : (nI 1 = (3 : Int32)) = False := by decide
theorem ke_13 : (nI 1 = nI 3) = False := by decide
theorem kd_14 : (nI 1 = (4 : Int32)) = False := by decide
theorem ke_14 : (nI 1 = nI 4) = False := by decide
theorem kd_15 : (nI 1 = (5 : Int32)) = False := by decide
theorem ke_15 : (nI 1 = nI 5) = False := by decide
theorem kd_20 : (nI 2 = (0 : Int32)) = False := by decide
theorem ke_20 : (nI 2 = nI 0) = False := by decide
theorem kd_21 : (nI 2 = (1 : Int32)) = False := by decide
theorem ke_21 : (nI 2 = nI 1) = False := by decide
theorem kd_22 : (nI 2 = (2 : Int32)) = True := by decide
theorem ke_22 : (nI 2 = nI 2) = True := by decide
theorem kd_23 : (nI 2 = (3 : Int32)) = False := by decide
theorem ke_23 : (nI 2 = nI 3) = False := by decide
theorem kd_24 : (nI 2 = (4 : Int32)) = False := by decide
theorem ke_24 : (nI 2 = nI 4) = False := by decide
theorem kd_25 : (nI 2 = (5 : Int32)) = False := by decide
theorem ke_25 : (nI 2 = nI 5) = False := by decide
theorem kd_30 : (nI 3 = (0 : Int32)) = False := by decide
theorem ke_30 : (nI 3 = nI 0) = False := by decide
theorem kd_31 : (nI 3 = (1 : Int32)) = False := by decide
theorem ke_31 : (nI 3 = nI 1) = False := by decide
theorem kd_32 : (nI 3 = (2 : Int32)) = False := by decide
theorem ke_32 : (nI 3 = nI 2) = False := by decide
theorem kd_33 : (nI 3 = (3 : Int32)) = True := by decide
theorem ke_33 : (nI 3 = nI 3) = True := by decide
theorem kd_34 : (nI 3 = (4 : Int32)) = False := by decide
theorem ke_34 : (nI 3 = nI 4) = False := by decide
theorem kd_35 : (nI 3 = (5 : Int32)) = False := by decide
theorem ke_35 : (nI 3 = nI 5) = False := by decide
theorem kd_40 : (nI 4 = (0 : Int32)) = False := by decide
theorem ke_40 : (nI 4 = nI 0) = False := by decide
theorem kd_41 : (nI 4 = (1 : Int32)) = False := by decide
theorem ke_41 : (nI 4 = nI 1) = False := by decide
theorem kd_42 : (nI 4 = (2 : Int32)) = False := by decide
theorem ke_42 : (nI 4 = nI 2) = False := by decide
theorem kd_43 : (nI 4 = (3 : Int32)) = False := by decide
theorem ke_43 : (nI 4 = nI 3) = False := by decide
theorem kd_44 : (nI 4 = (4 : Int32)) = True := by decide
theorem ke_44 : (nI 4 = nI 4) = True := by decide
theorem kd_45 : (nI 4 = (5 : Int32)) = False := by decide
theorem ke_45 : (nI 4 = nI 5) = False := by decide
theorem kd_50 : (nI 5 = (0 : Int32)) = False := by decide
theorem ke_50 : (nI 5 = nI 0) = False := by decide
theorem kd_51 : (nI 5 = (1 : Int32)) = False := by decide
theorem ke_51 : (nI 5 = nI 1) = False := by decide
theorem kd_52 : (nI 5 = (2 : Int32)) = False := by decide
theorem ke_52 : (nI 5 = nI 2) = False := by decide
theorem kd_53 : (nI 5 = (3 : Int32)) = False := by decide
theorem ke_53 : (nI 5 = nI 3) = False := by decide
theorem kd_54 : (nI 5 = (4 : Int32)) = False := by decide
theorem ke_54 : (nI 5 = nI 4) = False := by decide
theorem kd_55 : (nI 5 = (5 : Int32)) = True := by decide
theorem ke_55 : (nI 5 = nI 5) = True := by decide
theorem kd_le {v : Int32} : (v ≤ (0 : Int32)) = (v ≤ nI 0) := rfl
theorem kd_0le {v : Int32} : ((0 : Int32) ≤ v) = (nI 0 ≤ v) := rfl
theorem kd_1000 {v : Int32} : ((1000 : Int32) ≤ v) = (nI 1000 ≤ v) := rfl
set_option maxHeartbeats 4000000 in
theorem xn_ready (c : rb_Row) (n : Nat) (hc : c 2 = nI n) (hn : n ≤ 24) (hw : rb_aims c n) : ∀ l x, l ≤ 4 → x < 28 → rb_live c x → XX1_ready (l + 1) c (nI x) (nI (4 - l)) = some (rq c n l x) := by
  intro l
  induction l with
  | zero =>
    intro x _ hx _
    rw [XX1_ready, if_neg (nI_pos (by omega)), if_neg (by decide)]
    rfl
  | succ l ih =>
    intro x hl hx hk
    obtain ⟨k, hk, ek⟩ := hk
    rw [XX1_ready, if_neg (nI_pos (by omega)), if_pos (show nI (4 - (l + 1)) ≤ (3 : Int32) from nI_le (a := 4 - (l + 1)) (b := 3) (by omega) (by omega))]
    have e47 : rb_rd c 773 (47 + nI x) = some (c (47 + x)) := by simp (disch := omega) only [li_0, li_1, li_2, li_3, li_4, li_5, li_6, li_7, li_8, li_9, li_10, li_11, li_12, li_13, li_14, li_15, li_16, li_17, li_18, li_19, li_20, li_21, li_22, li_23, li_24, li_25, li_26, li_27, li_28, li_29, li_30, li_31, li_32, li_33, li_34, li_35, li_36, li_37, li_38, li_39, li_40, li_41, li_42, li_47, li_50, li_60, li_63, li_75, li_100, li_103, li_131, li_159, li_184, li_187, li_215, li_243, li_256, li_271, li_296, li_299, li_323, li_347, li_371, li_395, li_419, li_443, li_467, li_491, li_515, li_539, li_545, li_551, li_557, li_560, li_563, li_569, li_575, li_581, li_587, li_593, li_599, li_605, li_629, li_653, li_677, li_725, li_773, li_794, li_795, li_796, li_1000, li_1546, li_1592, li_6184, li_9552, li_10049, li_10348, li_100000, rb_mI, nI_add, nI_mul, nI_leI, nI_ltI, nI_eq, rb_rdn, rb_wrn, rb_n0, rb_m0, rb_m1n, rb_nm1, rb_m1lt, rb_m1le, rb_0m1, rb_ltm1, rb_lem1]
    have e131 : rb_rd c 773 (131 + nI x) = some (c (131 + x)) := by simp (disch := omega) only [li_0, li_1, li_2, li_3, li_4, li_5, li_6, li_7, li_8, li_9, li_10, li_11, li_12, li_13, li_14, li_15, li_16, li_17, li_18, li_19, li_20, li_21, li_22, li_23, li_24, li_25, li_26, li_27, li_28, li_29, li_30, li_31, li_32, li_33, li_34, li_35, li_36, li_37, li_38, li_39, li_40, li_41, li_42, li_47, li_50, li_60, li_63, li_75, li_100, li_103, li_131, li_159, li_184, li_187, li_215, li_243, li_256, li_271, li_296, li_299, li_323, li_347, li_371, li_395, li_419, li_443, li_467, li_491, li_515, li_539, li_545, li_551, li_557, li_560, li_563, li_569, li_575, li_581, li_587, li_593, li_599, li_605, li_629, li_653, li_677, li_725, li_773, li_794, li_795, li_796, li_1000, li_1546, li_1592, li_6184, li_9552, li_10049, li_10348, li_100000, rb_mI, nI_add, nI_mul, nI_leI, nI_ltI, nI_eq, rb_rdn, rb_wrn, rb_n0, rb_m0, rb_m1n, rb_nm1, rb_m1lt, rb_m1le, rb_0m1, rb_ltm1, rb_lem1]
    have e19 : rb_rd c 773 (19 + nI x) = some (c (19 + x)) := by simp (disch := omega) only [li_0, li_1, li_2, li_3, li_4, li_5, li_6, li_7, li_8, li_9, li_10, li_11, li_12, li_13, li_14, li_15, li_16, li_17, li_18, li_19, li_20, li_21, li_22, li_23, li_24, li_25, li_26, li_27, li_28, li_29, li_30, li_31, li_32, li_33, li_34, li_35, li_36, li_37, li_38, li_39, li_40, li_41, li_42, li_47, li_50, li_60, li_63, li_75, li_100, li_103, li_131, li_159, li_184, li_187, li_215, li_243, li_256, li_271, li_296, li_299, li_323, li_347, li_371, li_395, li_419, li_443, li_467, li_491, li_515, li_539, li_545, li_551, li_557, li_560, li_563, li_569, li_575, li_581, li_587, li_593, li_599, li_605, li_629, li_653, li_677, li_725, li_773, li_794, li_795, li_796, li_1000, li_1546, li_1592, li_6184, li_9552, li_10049, li_10348, li_100000, rb_mI, nI_add, nI_mul, nI_leI, nI_ltI, nI_eq, rb_rdn, rb_wrn, rb_n0, rb_m0, rb_m1n, rb_nm1, rb_m1lt, rb_m1le, rb_0m1, rb_ltm1, rb_lem1]
    have e75 : rb_rd c 773 (75 + nI x) = some (c (75 + x)) := by simp (disch := omega) only [li_0, li_1, li_2, li_3, li_4, li_5, li_6, li_7, li_8, li_9, li_10, li_11, li_12, li_13, li_14, li_15, li_16, li_17, li_18, li_19, li_20, li_21, li_22, li_23, li_24, li_25, li_26, li_27, li_28, li_29, li_30, li_31, li_32, li_33, li_34, li_35, li_36, li_37, li_38, li_39, li_40, li_41, li_42, li_47, li_50, li_60, li_63, li_75, li_100, li_103, li_131, li_159, li_184, li_187, li_215, li_243, li_256, li_271, li_296, li_299, li_323, li_347, li_371, li_395, li_419, li_443, li_467, li_491, li_515, li_539, li_545, li_551, li_557, li_560, li_563, li_569, li_575, li_581, li_587, li_593, li_599, li_605, li_629, li_653, li_677, li_725, li_773, li_794, li_795, li_796, li_1000, li_1546, li_1592, li_6184, li_9552, li_10049, li_10348, li_100000, rb_mI, nI_add, nI_mul, nI_leI, nI_ltI, nI_eq, rb_rdn, rb_wrn, rb_n0, rb_m0, rb_m1n, rb_nm1, rb_m1lt, rb_m1le, rb_0m1, rb_ltm1, rb_lem1]
    have e2 : rb_rd c 773 2 = some (nI n) := by simp (disch := omega) only [li_0, li_1, li_2, li_3, li_4, li_5, li_6, li_7, li_8, li_9, li_10, li_11, li_12, li_13, li_14, li_15, li_16, li_17, li_18, li_19, li_20, li_21, li_22, li_23, li_24, li_25, li_26, li_27, li_28, li_29, li_30, li_31, li_32, li_33, li_34, li_35, li_36, li_37, li_38, li_39, li_40, li_41, li_42, li_47, li_50, li_60, li_63, li_75, li_100, li_103, li_131, li_159, li_184, li_187, li_215, li_243, li_256, li_271, li_296, li_299, li_323, li_347, li_371, li_395, li_419, li_443, li_467, li_491, li_515, li_539, li_545, li_551, li_557, li_560, li_563, li_569, li_575, li_581, li_587, li_593, li_599, li_605, li_629, li_653, li_677, li_725, li_773, li_794, li_795, li_796, li_1000, li_1546, li_1592, li_6184, li_9552, li_10049, li_10348, li_100000, rb_mI, nI_add, nI_mul, nI_leI, nI_ltI, nI_eq, rb_rdn, rb_wrn, rb_n0, rb_m0, rb_m1n, rb_nm1, rb_m1lt, rb_m1le, rb_0m1, rb_ltm1, rb_lem1, hc]
    have hkk : k = 0 ∨ k = 1 ∨ k = 2 ∨ k = 3 ∨ k = 5 ∨ k = 4 := by omega
    rcases hkk with e | e | e | e | e | e
    · subst e
      by_cases h1 : c (47 + x) ≤ nI 0 <;> by_cases h2 : nI 0 ≤ c (131 + x) <;> simp only [↓reduceIte, e47, e131, e19, e75, Option.bind_some, ek, kd_le, kd_0le, kd_1000, kd_00, ke_00, kd_01, ke_01, kd_02, ke_02, kd_03, ke_03, kd_04, ke_04, kd_05, ke_05, kd_10, ke_10, kd_11, ke_11, kd_12, ke_12, kd_13, ke_13, kd_14, ke_14, kd_15, ke_15, kd_20, ke_20, kd_21, ke_21, kd_22, ke_22, kd_23, ke_23, kd_24, ke_24, kd_25, ke_25, kd_30, ke_30, kd_31, ke_31, kd_32, ke_32, kd_33, ke_33, kd_34, ke_34, kd_35, ke_35, kd_40, ke_40, kd_41, ke_41, kd_42, ke_42, kd_43, ke_43, kd_44, ke_44, kd_45, ke_45, kd_50, ke_50, kd_51, ke_51, kd_52, ke_52, kd_53, ke_53, kd_54, ke_54, kd_55, ke_55, h1, h2, rq, rb_pl, li_0, li_1, li_2, li_4]
    · subst e
      by_cases h3 : c (75 + x) ≤ c (47 + x) <;> by_cases h1 : c (47 + x) ≤ nI 0 <;> by_cases h2 : nI 0 ≤ c (131 + x) <;> simp only [↓reduceIte, e47, e131, e19, e75, Option.bind_some, ek, kd_le, kd_0le, kd_1000, kd_00, ke_00, kd_01, ke_01, kd_02, ke_02, kd_03, ke_03, kd_04, ke_04, kd_05, ke_05, kd_10, ke_10, kd_11, ke_11, kd_12, ke_12, kd_13, ke_13, kd_14, ke_14, kd_15, ke_15, kd_20, ke_20, kd_21, ke_21, kd_22, ke_22, kd_23, ke_23, kd_24, ke_24, kd_25, ke_25, kd_30, ke_30, kd_31, ke_31, kd_32, ke_32, kd_33, ke_33, kd_34, ke_34, kd_35, ke_35, kd_40, ke_40, kd_41, ke_41, kd_42, ke_42, kd_43, ke_43, kd_44, ke_44, kd_45, ke_45, kd_50, ke_50, kd_51, ke_51, kd_52, ke_52, kd_53, ke_53, kd_54, ke_54, kd_55, ke_55, h1, h2, h3, rq, rb_pl, li_0, li_1, li_2, li_4, li_8]
    · subst e
      by_cases h3 : nI 1000 ≤ c (47 + x) <;> by_cases h1 : c (47 + x) ≤ nI 0 <;> by_cases h2 : nI 0 ≤ c (131 + x) <;> simp only [↓reduceIte, e47, e131, e19, e75, Option.bind_some, ek, kd_le, kd_0le, kd_1000, kd_00, ke_00, kd_01, ke_01, kd_02, ke_02, kd_03, ke_03, kd_04, ke_04, kd_05, ke_05, kd_10, ke_10, kd_11, ke_11, kd_12, ke_12, kd_13, ke_13, kd_14, ke_14, kd_15, ke_15, kd_20, ke_20, kd_21, ke_21, kd_22, ke_22, kd_23, ke_23, kd_24, ke_24, kd_25, ke_25, kd_30, ke_30, kd_31, ke_31, kd_32, ke_32, kd_33, ke_33, kd_34, ke_34, kd_35, ke_35, kd_40, ke_40, kd_41, ke_41, kd_42, ke_42, kd_43, ke_43, kd_44, ke_44, kd_45, ke_45, kd_50, ke_50, kd_51, ke_51, kd_52, ke_52, kd_53, ke_53, kd_54, ke_54, kd_55, ke_55, h1, h2, h3, rq, rb_pl, li_0, li_1, li_2, li_4]
    · subst e
      by_cases h1 : c (47 + x) ≤ nI 0 <;> by_cases h2 : nI 0 ≤ c (131 + x) <;> simp only [↓reduceIte, e47, e131, e19, e75, Option.bind_some, ek, kd_le, kd_0le, kd_1000, kd_00, ke_00, kd_01, ke_01, kd_02, ke_02, kd_03, ke_03, kd_04, ke_04, kd_05, ke_05, kd_10, ke_10, kd_11, ke_11, kd_12, ke_12, kd_13, ke_13, kd_14, ke_14, kd_15, ke_15, kd_20, ke_20, kd_21, ke_21, kd_22, ke_22, kd_23, ke_23, kd_24, ke_24, kd_25, ke_25, kd_30, ke_30, kd_31, ke_31, kd_32, ke_32, kd_33, ke_33, kd_34, ke_34, kd_35, ke_35, kd_40, ke_40, kd_41, ke_41, kd_42, ke_42, kd_43, ke_43, kd_44, ke_44, kd_45, ke_45, kd_50, ke_50, kd_51, ke_51, kd_52, ke_52, kd_53, ke_53, kd_54, ke_54, kd_55, ke_55, h1, h2, rq, rb_pl, li_0, li_1, li_2, li_4]
    · subst e
      by_cases h1 : c (47 + x) ≤ nI 0 <;> by_cases h2 : nI 0 ≤ c (131 + x) <;> simp only [↓reduceIte, e47, e131, e19, e75, Option.bind_some, ek, kd_le, kd_0le, kd_1000, kd_00, ke_00, kd_01, ke_01, kd_02, ke_02, kd_03, ke_03, kd_04, ke_04, kd_05, ke_05, kd_10, ke_10, kd_11, ke_11, kd_12, ke_12, kd_13, ke_13, kd_14, ke_14, kd_15, ke_15, kd_20, ke_20, kd_21, ke_21, kd_22, ke_22, kd_23, ke_23, kd_24, ke_24, kd_25, ke_25, kd_30, ke_30, kd_31, ke_31, kd_32, ke_32, kd_33, ke_33, kd_34, ke_34, kd_35, ke_35, kd_40, ke_40, kd_41, ke_41, kd_42, ke_42, kd_43, ke_43, kd_44, ke_44, kd_45, ke_45, kd_50, ke_50, kd_51, ke_51, kd_52, ke_52, kd_53, ke_53, kd_54, ke_54, kd_55, ke_55, h1, h2, rq, rb_pl, li_0, li_1, li_2, li_4]
    · subst e
      have step : ∀ j, j < n → ∀ P : Prop, P = True ∨ P = False → True := fun _ _ _ _ => trivial
      rw [e47, e131, e19, e2]
      by_cases h2 : nI 0 ≤ c (131 + x) <;> simp only [↓reduceIte, Option.bind_some, kd_0le, h2, kd_00, ke_00, kd_01, ke_01, kd_02, ke_02, kd_03, ke_03, kd_04, ke_04, kd_05, ke_05, kd_10, ke_10, kd_11, ke_11, kd_12, ke_12, kd_13, ke_13, kd_14, ke_14, kd_15, ke_15, kd_20, ke_20, kd_21, ke_21, kd_22, ke_22, kd_23, ke_23, kd_24, ke_24, kd_25, ke_25, kd_30, ke_30, kd_31, ke_31, kd_32, ke_32, kd_33, ke_33, kd_34, ke_34, kd_35, ke_35, kd_40, ke_40, kd_41, ke_41, kd_42, ke_42, kd_43, ke_43, kd_44, ke_44, kd_45, ke_45, kd_50, ke_50, kd_51, ke_51, kd_52, ke_52, kd_53, ke_53, kd_54, ke_54, kd_55, ke_55, ek, rq] <;> (
        refine rb_bnd _ (rb_lpg (rb_tr c (rq c n l) x) (fun _ => 1) n (by omega) ?_ ?_ ?_) ?_
        · intro j hj hp
          obtain ⟨y, hy, ey, hly⟩ := hw j hj
          have ihy := ih y (by omega) hy hly
          rw [show 4 - l = 4 - (l + 1) + 1 by omega] at ihy
          simp (disch := omega) only [li_0, li_1, li_2, li_3, li_4, li_5, li_6, li_7, li_8, li_9, li_10, li_11, li_12, li_13, li_14, li_15, li_16, li_17, li_18, li_19, li_20, li_21, li_22, li_23, li_24, li_25, li_26, li_27, li_28, li_29, li_30, li_31, li_32, li_33, li_34, li_35, li_36, li_37, li_38, li_39, li_40, li_41, li_42, li_47, li_50, li_60, li_63, li_75, li_100, li_103, li_131, li_159, li_184, li_187, li_215, li_243, li_256, li_271, li_296, li_299, li_323, li_347, li_371, li_395, li_419, li_443, li_467, li_491, li_515, li_539, li_545, li_551, li_557, li_560, li_563, li_569, li_575, li_581, li_587, li_593, li_599, li_605, li_629, li_653, li_677, li_725, li_773, li_794, li_795, li_796, li_1000, li_1546, li_1592, li_6184, li_9552, li_10049, li_10348, li_100000, rb_mI, nI_add, nI_mul, nI_leI, nI_ltI, nI_eq, rb_rdn, rb_wrn, rb_n0, rb_m0, rb_m1n, rb_nm1, rb_m1lt, rb_m1le, rb_0m1, rb_ltm1, rb_lem1, Nat.add_zero, Option.bind_some, Option.bind_none, Option.some.injEq, if_true, if_false, ite_true, ite_false, Sum.elim_inl, Sum.elim_inr, ey, ihy]
          rw [if_neg (by omega)]
          simp (disch := omega) only [rb_tr, ey, nt_nI, rb_bt] at hp
          by_cases g1 : c (299 + j) = nI x <;> by_cases g2 : c (443 + j) < nI 0 <;> by_cases g3 : c (419 + j) = nI 0 <;> by_cases g4 : ((c (371 + j) ||| nI 4) ||| nI 8) &&& rq c n l y = nI 0 <;> simp [g1, g2, g3, g4] at hp ⊢
        · intro j hj hp
          obtain ⟨y, hy, ey, hly⟩ := hw j hj
          have ihy := ih y (by omega) hy hly
          rw [show 4 - l = 4 - (l + 1) + 1 by omega] at ihy
          simp (disch := omega) only [li_0, li_1, li_2, li_3, li_4, li_5, li_6, li_7, li_8, li_9, li_10, li_11, li_12, li_13, li_14, li_15, li_16, li_17, li_18, li_19, li_20, li_21, li_22, li_23, li_24, li_25, li_26, li_27, li_28, li_29, li_30, li_31, li_32, li_33, li_34, li_35, li_36, li_37, li_38, li_39, li_40, li_41, li_42, li_47, li_50, li_60, li_63, li_75, li_100, li_103, li_131, li_159, li_184, li_187, li_215, li_243, li_256, li_271, li_296, li_299, li_323, li_347, li_371, li_395, li_419, li_443, li_467, li_491, li_515, li_539, li_545, li_551, li_557, li_560, li_563, li_569, li_575, li_581, li_587, li_593, li_599, li_605, li_629, li_653, li_677, li_725, li_773, li_794, li_795, li_796, li_1000, li_1546, li_1592, li_6184, li_9552, li_10049, li_10348, li_100000, rb_mI, nI_add, nI_mul, nI_leI, nI_ltI, nI_eq, rb_rdn, rb_wrn, rb_n0, rb_m0, rb_m1n, rb_nm1, rb_m1lt, rb_m1le, rb_0m1, rb_ltm1, rb_lem1, Nat.add_zero, Option.bind_some, Option.bind_none, Option.some.injEq, if_true, if_false, ite_true, ite_false, Sum.elim_inl, Sum.elim_inr, ey, ihy]
          rw [if_neg (by omega)]
          simp (disch := omega) only [rb_tr, ey, nt_nI, rb_bt] at hp
          by_cases g1 : c (299 + j) = nI x <;> by_cases g2 : c (443 + j) < nI 0 <;> by_cases g3 : c (419 + j) = nI 0 <;> by_cases g4 : ((c (371 + j) ||| nI 4) ||| nI 8) &&& rq c n l y = nI 0 <;> simp [g1, g2, g3, g4] at hp ⊢
        · simp (disch := omega) only [li_0, li_1, li_2, li_3, li_4, li_5, li_6, li_7, li_8, li_9, li_10, li_11, li_12, li_13, li_14, li_15, li_16, li_17, li_18, li_19, li_20, li_21, li_22, li_23, li_24, li_25, li_26, li_27, li_28, li_29, li_30, li_31, li_32, li_33, li_34, li_35, li_36, li_37, li_38, li_39, li_40, li_41, li_42, li_47, li_50, li_60, li_63, li_75, li_100, li_103, li_131, li_159, li_184, li_187, li_215, li_243, li_256, li_271, li_296, li_299, li_323, li_347, li_371, li_395, li_419, li_443, li_467, li_491, li_515, li_539, li_545, li_551, li_557, li_560, li_563, li_569, li_575, li_581, li_587, li_593, li_599, li_605, li_629, li_653, li_677, li_725, li_773, li_794, li_795, li_796, li_1000, li_1546, li_1592, li_6184, li_9552, li_10049, li_10348, li_100000, rb_mI, nI_add, nI_mul, nI_leI, nI_ltI, nI_eq, rb_rdn, rb_wrn, rb_n0, rb_m0, rb_m1n, rb_nm1, rb_m1lt, rb_m1le, rb_0m1, rb_ltm1, rb_lem1, Nat.add_zero, Option.bind_some, Option.bind_none, Option.some.injEq, if_true, if_false, ite_true, ite_false, Sum.elim_inl, Sum.elim_inr]
          rw [if_pos (by omega)]
        · cases rb_fd (rb_tr c (rq c n l) x) n <;> rfl)
