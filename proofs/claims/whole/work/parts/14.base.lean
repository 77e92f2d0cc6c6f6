theorem nI_mul (a b : Nat) : nI a * nI b = nI (a * b) := (Int32.ofNat_mul a b).symm
theorem rb_rdn {f : rb_Row} {n k : Nat} (h : k < n) (hn : n ≤ 2 ^ 31) : rb_rd f n (nI k) = some (f k) := by
  unfold rb_rd
  have hk : k < 2 ^ 31 := Nat.lt_of_lt_of_le h hn
  rw [if_neg, nI_clamp hk]
  rintro (h1 | h1)
  · exact nI_pos hk h1
  · rw [nI_clamp hk] at h1; omega
theorem rb_wrn {f : rb_Row} {n k : Nat} {x : Int32} (h : k < n) (hn : n ≤ 2 ^ 31) : rb_wr f n (nI k) x = some (upd f k x) := by
  unfold rb_wr
  have hk : k < 2 ^ 31 := Nat.lt_of_lt_of_le h hn
  rw [if_neg, nI_clamp hk]
  rintro (h1 | h1)
  · exact nI_pos hk h1
  · rw [nI_clamp hk] at h1; omega
theorem rb_n0 {k : Nat} (h : k < 2 ^ 31) : (nI k < nI 0) = False := eq_false (nI_pos h)
def mI : Int32 := -1
theorem rb_mI : -nI 1 = mI := by decide
theorem rb_mIr : (-1 : Int32) = mI := rfl
theorem rb_m1i : mI.toInt = -1 := by decide
theorem rb_m1n {k : Nat} (h : k < 2 ^ 31) : (mI = nI k) = False := eq_false (fun e => by
  have := congrArg Int32.toInt e
  rw [nI_toInt h, rb_m1i] at this
  omega)
theorem rb_nm1 {k : Nat} (h : k < 2 ^ 31) : (nI k = mI) = False := eq_false (fun e => by
  have := congrArg Int32.toInt e
  rw [nI_toInt h, rb_m1i] at this
  omega)
theorem rb_m1lt {k : Nat} (h : k < 2 ^ 31) : (mI < nI k) = True := eq_true (by
  rw [Int32.lt_iff_toInt_lt, nI_toInt h, rb_m1i]; omega)
theorem rb_m1le {k : Nat} (h : k < 2 ^ 31) : (mI ≤ nI k) = True := eq_true (by
  rw [Int32.le_iff_toInt_le, nI_toInt h, rb_m1i]; omega)
theorem rb_ltm1 {k : Nat} (h : k < 2 ^ 31) : (nI k < mI) = False := eq_false (by
  rw [Int32.lt_iff_toInt_lt, nI_toInt h, rb_m1i]; omega)
theorem rb_lem1 {k : Nat} (h : k < 2 ^ 31) : (nI k ≤ mI) = False := eq_false (by
  rw [Int32.le_iff_toInt_le, nI_toInt h, rb_m1i]; omega)
theorem rb_m0 : (mI < nI 0) = True := rb_m1lt (by decide)
theorem rb_0m1 : (nI 0 ≤ mI) = False := rb_lem1 (by decide)
/-- a loop whose states are known one by one -/
theorem rb_lps {σ ρ : Type} {body : σ → Option (σ ⊕ ρ)} (st : Nat → σ) (h : Nat) (r : ρ) (hs : ∀ j, j < h → body (st j) = some (.inl (st (j + 1)))) (he : body (st h) = some (.inr r)) (N : Nat) (hN : h < N) : rb_lp body N (st 0) = some r := by
  have key : ∀ (d j : Nat), j + d = h → ∀ N, d < N → rb_lp body N (st j) = some r := by
    intro d
    induction d with
    | zero =>
      intro j hj N hN
      have e : j = h := by omega
      subst e
      cases N with
      | zero => omega
      | succ N =>
        show (body (st j)).bind _ = _
        rw [he]
        rfl
    | succ d ih =>
      intro j hj N hN
      cases N with
      | zero => omega
      | succ N =>
        show (body (st j)).bind _ = _
        rw [hs j (by omega)]
        exact ih (j + 1) (by omega) N (by omega)
  exact key h 0 (by omega) N hN
theorem rb_lps0 {σ ρ : Type} {body : σ → Option (σ ⊕ ρ)} {s0 : σ} (st : Nat → σ) (h : Nat) (r : ρ) (h0 : st 0 = s0) (hs : ∀ j, j < h → body (st j) = some (.inl (st (j + 1)))) (he : body (st h) = some (.inr r)) {N : Nat} (hN : h < N) : rb_lp body N s0 = some r := by
  rw [← h0]; exact rb_lps st h r hs he N hN
/-- how many, the first, the one with the least key -/
def rb_cn (p : Nat → Bool) : Nat → Nat
  | 0 => 0
  | n + 1 => rb_cn p n + (bif p n then 1 else 0)
def rb_fd (p : Nat → Bool) : Nat → Option Nat
  | 0 => none
  | n + 1 => match rb_fd p n with
    | some i => some i
    | none => bif p n then some n else none
def rb_am (p : Nat → Bool) (k : Nat → Int32) : Nat → Option Nat
  | 0 => none
  | n + 1 => match rb_am p k n with
    | some b => bif p n && decide (k n < k b) then some n else some b
    | none => bif p n then some n else none
def rb_oi (o : Option Nat) : Int32 := match o with
  | some i => nI i
  | none => mI
theorem rb_cn_le (p : Nat → Bool) (n : Nat) : rb_cn p n ≤ n := by
  induction n with
  | zero => exact Nat.le_refl 0
  | succ n ih =>
    simp only [rb_cn]
    cases p n <;> simp <;> omega
theorem rb_fd_none {p : Nat → Bool} {n : Nat} (h : rb_fd p n = none) : ∀ j, j < n → p j = false := by
  induction n with
  | zero => intro j hj; omega
  | succ n ih =>
    simp only [rb_fd] at h
    cases hf : rb_fd p n with
    | some i => rw [hf] at h; cases h
    | none =>
      rw [hf] at h
      intro j hj
      cases hp : p n with
      | true => rw [hp] at h; cases h
      | false =>
        rcases Nat.lt_or_ge j n with q | q
        · exact ih hf j q
        · have : j = n := by omega
          rw [this]; exact hp
theorem rb_fd_some {p : Nat → Bool} {n i : Nat} (h : rb_fd p n = some i) : i < n ∧ p i = true ∧ ∀ j, j < i → p j = false := by
  induction n with
  | zero => cases h
  | succ n ih =>
    simp only [rb_fd] at h
    cases hf : rb_fd p n with
    | some k =>
      rw [hf] at h
      cases h
      obtain ⟨a, b, c⟩ := ih hf
      exact ⟨by omega, b, c⟩
    | none =>
      rw [hf] at h
      cases hp : p n with
      | false => rw [hp] at h; cases h
      | true =>
        rw [hp] at h
        cases h
        exact ⟨by omega, hp, rb_fd_none hf⟩
theorem rb_am_lt {p : Nat → Bool} {k : Nat → Int32} {n i : Nat} (h : rb_am p k n = some i) : i < n ∧ p i = true := by
  induction n generalizing i with
  | zero => cases h
  | succ n ih =>
    simp only [rb_am] at h
    cases hf : rb_am p k n with
    | some b =>
      rw [hf] at h
      cases hc : (p n && decide (k n < k b)) with
      | true =>
        simp only [hc, cond_true] at h
        cases h
        rw [Bool.and_eq_true] at hc
        exact ⟨by omega, hc.1⟩
      | false =>
        simp only [hc, cond_false] at h
        cases h
        have := ih hf
        exact ⟨by omega, this.2⟩
    | none =>
      rw [hf] at h
      cases hp : p n with
      | true => rw [hp] at h; cases h; exact ⟨by omega, hp⟩
      | false => rw [hp] at h; cases h
theorem rb_am_none {p : Nat → Bool} {k : Nat → Int32} {n : Nat} (h : rb_am p k n = none) : ∀ j, j < n → p j = false := by
  induction n with
  | zero => intro j hj; omega
  | succ n ih =>
    simp only [rb_am] at h
    cases hf : rb_am p k n with
    | some b =>
      rw [hf] at h
      cases hc : (p n && decide (k n < k b)) with
      | true => simp only [hc, cond_true] at h; cases h
      | false => simp only [hc, cond_false] at h; cases h
    | none =>
      rw [hf] at h
      intro j hj
      cases hp : p n with
      | true => rw [hp] at h; cases h
      | false =>
        rcases Nat.lt_or_ge j n with q | q
        · exact ih hf j q
        · have : j = n := by omega
          rw [this]; exact hp
theorem rb_am_min {p : Nat → Bool} {k : Nat → Int32} {n i : Nat} (h : rb_am p k n = some i) : ∀ j, j < n → p j = true → k i ≤ k j := by
  induction n generalizing i with
  | zero => cases h
  | succ n ih =>
    simp only [rb_am] at h
    intro j hj hpj
    cases hf : rb_am p k n with
    | some b =>
      rw [hf] at h
      have hb := ih hf
      cases hc : (p n && decide (k n < k b)) with
      | true =>
        simp only [hc, cond_true] at h
        cases h
        rw [Bool.and_eq_true, decide_eq_true_eq] at hc
        rcases Nat.lt_or_ge j n with q | q
        · exact Int32.le_trans (Int32.le_of_lt hc.2) (hb j q hpj)
        · have : j = n := by omega
          rw [this]; exact Int32.le_refl _
      | false =>
        simp only [hc, cond_false] at h
        cases h
        rcases Nat.lt_or_ge j n with q | q
        · exact hb j q hpj
        · have e : j = n := by omega
          subst e
          rw [hpj, Bool.true_and, decide_eq_false_iff_not] at hc
          exact Int32.not_lt.mp hc
    | none =>
      rw [hf] at h
      have hn := rb_am_none hf
      cases hp : p n with
      | true =>
        rw [hp] at h
        cases h
        rcases Nat.lt_or_ge j n with q | q
        · rw [hn j q] at hpj; cases hpj
        · have : j = n := by omega
          rw [this]; exact Int32.le_refl _
      | false => rw [hp] at h; cases h
theorem li_0 : (0 : Int32) = nI 0 := by decide
theorem li_1 : (1 : Int32) = nI 1 := by decide
theorem li_2 : (2 : Int32) = nI 2 := by decide
theorem li_3 : (3 : Int32) = nI 3 := by decide
theorem li_4 : (4 : Int32) = nI 4 := by decide
theorem li_5 : (5 : Int32) = nI 5 := by decide
theorem li_6 : (6 : Int32) = nI 6 := by decide
theorem li_7 : (7 : Int32) = nI 7 := by decide
theorem li_8 : (8 : Int32) = nI 8 := by decide
theorem li_9 : (9 : Int32) = nI 9 := by decide
theorem li_10 : (10 : Int32) = nI 10 := by decide
theorem li_11 : (11 : Int32) = nI 11 := by decide
theorem li_12 : (12 : Int32) = nI 12 := by decide
theorem li_13 : (13 : Int32) = nI 13 := by decide
theorem li_14 : (14 : Int32) = nI 14 := by decide
theorem li_15 : (15 : Int32) = nI 15 := by decide
theorem li_16 : (16 : Int32) = nI 16 := by decide
theorem li_17 : (17 : Int32) = nI 17 := by decide
theorem li_18 : (18 : Int32) = nI 18 := by decide
theorem li_19 : (19 : Int32) = nI 19 := by decide
theorem li_20 : (20 : Int32) = nI 20 := by decide
theorem li_21 : (21 : Int32) = nI 21 := by decide
theorem li_22 : (22 : Int32) = nI 22 := by decide
theorem li_23 : (23 : Int32) = nI 23 := by decide
theorem li_24 : (24 : Int32) = nI 24 := by decide
theorem li_25 : (25 : Int32) = nI 25 := by decide
theorem li_26 : (26 : Int32) = nI 26 := by decide
theorem li_27 : (27 : Int32) = nI 27 := by decide
theorem li_28 : (28 : Int32) = nI 28 := by decide
theorem li_29 : (29 : Int32) = nI 29 := by decide
theorem li_30 : (30 : Int32) = nI 30 := by decide
theorem li_31 : (31 : Int32) = nI 31 := by decide
theorem li_32 : (32 : Int32) = nI 32 := by decide
theorem li_33 : (33 : Int32) = nI 33 := by decide
theorem li_34 : (34 : Int32) = nI 34 := by decide
theorem li_35 : (35 : Int32) = nI 35 := by decide
theorem li_36 : (36 : Int32) = nI 36 := by decide
theorem li_37 : (37 : Int32) = nI 37 := by decide
theorem li_38 : (38 : Int32) = nI 38 := by decide
theorem li_39 : (39 : Int32) = nI 39 := by decide
theorem li_40 : (40 : Int32) = nI 40 := by decide
theorem li_41 : (41 : Int32) = nI 41 := by decide
theorem li_42 : (42 : Int32) = nI 42 := by decide
theorem li_47 : (47 : Int32) = nI 47 := by decide
theorem li_50 : (50 : Int32) = nI 50 := by decide
theorem li_60 : (60 : Int32) = nI 60 := by decide
theorem li_63 : (63 : Int32) = nI 63 := by decide
theorem li_75 : (75 : Int32) = nI 75 := by decide
theorem li_100 : (100 : Int32) = nI 100 := by decide
theorem li_103 : (103 : Int32) = nI 103 := by decide
theorem li_131 : (131 : Int32) = nI 131 := by decide
theorem li_159 : (159 : Int32) = nI 159 := by decide
theorem li_184 : (184 : Int32) = nI 184 := by decide
theorem li_187 : (187 : Int32) = nI 187 := by decide
theorem li_215 : (215 : Int32) = nI 215 := by decide
theorem li_243 : (243 : Int32) = nI 243 := by decide
theorem li_256 : (256 : Int32) = nI 256 := by decide
theorem li_271 : (271 : Int32) = nI 271 := by decide
theorem li_296 : (296 : Int32) = nI 296 := by decide
theorem li_299 : (299 : Int32) = nI 299 := by decide
theorem li_323 : (323 : Int32) = nI 323 := by decide
theorem li_347 : (347 : Int32) = nI 347 := by decide
theorem li_371 : (371 : Int32) = nI 371 := by decide
theorem li_395 : (395 : Int32) = nI 395 := by decide
theorem li_419 : (419 : Int32) = nI 419 := by decide
theorem li_443 : (443 : Int32) = nI 443 := by decide
theorem li_467 : (467 : Int32) = nI 467 := by decide
theorem li_491 : (491 : Int32) = nI 491 := by decide
theorem li_515 : (515 : Int32) = nI 515 := by decide
theorem li_539 : (539 : Int32) = nI 539 := by decide
theorem li_545 : (545 : Int32) = nI 545 := by decide
theorem li_551 : (551 : Int32) = nI 551 := by decide
theorem li_557 : (557 : Int32) = nI 557 := by decide
theorem li_560 : (560 : Int32) = nI 560 := by decide
theorem li_563 : (563 : Int32) = nI 563 := by decide
theorem li_569 : (569 : Int32) = nI 569 := by decide
theorem li_575 : (575 : Int32) = nI 575 := by decide
theorem li_581 : (581 : Int32) = nI 581 := by decide
theorem li_587 : (587 : Int32) = nI 587 := by decide
theorem li_593 : (593 : Int32) = nI 593 := by decide
theorem li_599 : (599 : Int32) = nI 599 := by decide
theorem li_605 : (605 : Int32) = nI 605 := by decide
theorem li_629 : (629 : Int32) = nI 629 := by decide
theorem li_653 : (653 : Int32) = nI 653 := by decide
theorem li_677 : (677 : Int32) = nI 677 := by decide
theorem li_725 : (725 : Int32) = nI 725 := by decide
theorem li_773 : (773 : Int32) = nI 773 := by decide
theorem li_794 : (794 : Int32) = nI 794 := by decide
theorem li_795 : (795 : Int32) = nI 795 := by decide
theorem li_796 : (796 : Int32) = nI 796 := by decide
theorem li_1000 : (1000 : Int32) = nI 1000 := by decide
theorem li_1546 : (1546 : Int32) = nI 1546 := by decide
theorem li_1592 : (1592 : Int32) = nI 1592 := by decide
theorem li_6184 : (6184 : Int32) = nI 6184 := by decide
theorem li_9552 : (9552 : Int32) = nI 9552 := by decide
theorem li_10049 : (10049 : Int32) = nI 10049 := by decide
theorem li_10348 : (10348 : Int32) = nI 10348 := by decide
theorem li_100000 : (100000 : Int32) = nI 100000 := by decide
theorem rb_lpc {body : Int32 × Int32 → Option ((Int32 × Int32) ⊕ Int32)} (p : Nat → Bool) (n : Nat) (hn : n < 99999) (hb : ∀ j m, j < n → m ≤ j → body (nI m, nI j) = some (.inl (nI (m + (bif p j then 1 else 0)), nI (j + 1)))) (he : ∀ m, m ≤ n → body (nI m, nI n) = some (.inr (nI m))) : rb_lp body 100000 (nI 0, nI 0) = some (nI (rb_cn p n)) :=
  rb_lps0 (fun j => (nI (rb_cn p j), nI j)) n (nI (rb_cn p n)) rfl (fun j hj => hb j (rb_cn p j) hj (rb_cn_le p j)) (he _ (rb_cn_le p n)) (by omega)
theorem rb_lpf {body : Int32 → Option (Int32 ⊕ (Unit ⊕ Int32))} (p : Nat → Bool) (n : Nat) (hn : n < 99999) (hb0 : ∀ j, j < n → p j = false → body (nI j) = some (.inl (nI (j + 1)))) (hb1 : ∀ j, j < n → p j = true → body (nI j) = some (.inr (.inr (nI j)))) (he : body (nI n) = some (.inr (.inl ()))) : rb_lp body 100000 (nI 0) = some (match rb_fd p n with
  | some i => .inr (nI i)
  | none => .inl ()) := by
  cases hf : rb_fd p n with
  | none => exact rb_lps0 (fun j => nI j) n _ rfl (fun j hj => hb0 j hj (rb_fd_none hf j hj)) he (by omega)
  | some i =>
    obtain ⟨h1, h2, h3⟩ := rb_fd_some hf
    exact rb_lps0 (fun j => nI j) i _ rfl (fun j hj => hb0 j (by omega) (h3 j hj)) (hb1 i h1 h2) (by omega)
def rb_as (p : Nat → Bool) (k : Nat → Int32) (n : Nat) (o : Option Nat) : Option Nat := match o with
  | some b => bif p n && decide (k n < k b) then some n else some b
  | none => bif p n then some n else none
theorem rb_lpa {body : Int32 × Int32 → Option ((Int32 × Int32) ⊕ Int32)} (p : Nat → Bool) (k : Nat → Int32) (n : Nat) (hn : n < 99999) (hb0 : ∀ j m, m = mI → (m < nI 0) = True → j < n → body (m, nI j) = some (.inl (rb_oi (rb_as p k j none), nI (j + 1)))) (hb1 : ∀ j b, j < n → b < j → body (nI b, nI j) = some (.inl (rb_oi (rb_as p k j (some b)), nI (j + 1)))) (he0 : ∀ m, m = mI → body (m, nI n) = some (.inr m)) (he1 : ∀ b, b < n → body (nI b, nI n) = some (.inr (nI b))) : rb_lp body 100000 (mI, nI 0) = some (rb_oi (rb_am p k n)) := by
  refine rb_lps0 (fun j => (rb_oi (rb_am p k j), nI j)) n _ rfl (fun j hj => ?_) ?_ (by omega)
  · cases hf : rb_am p k j with
    | none =>
      have e : rb_am p k (j + 1) = rb_as p k j none := by simp only [rb_am, hf, rb_as]
      simp only [e]
      exact hb0 j _ rfl rb_m0 hj
    | some b =>
      have e : rb_am p k (j + 1) = rb_as p k j (some b) := by simp only [rb_am, hf, rb_as]
      simp only [e]
      exact hb1 j b hj (rb_am_lt hf).1
  · cases hf : rb_am p k n with
    | none => exact he0 _ rfl
    | some b => exact he1 b (rb_am_lt hf).1
