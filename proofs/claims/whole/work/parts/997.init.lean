theorem rb_ws_in {g : Nat → Nat} {f : rb_Row} : ∀ {n i : Nat}, i < n → rb_ws g f n (g i) = mI := by
  intro n
  induction n with
  | zero => intro i h; omega
  | succ n ih =>
    intro i h
    show upd (rb_ws g f n) (g n) mI (g i) = mI
    by_cases e : g i = g n
    · exact rb_upe e
    · rw [rb_upn e]
      exact ih (by
        have : i ≠ n := fun z => e (by rw [z])
        omega)
theorem rb_ws_out {g : Nat → Nat} {f : rb_Row} {k : Nat} : ∀ {n : Nat}, (∀ i, i < n → k ≠ g i) → rb_ws g f n k = f k := by
  intro n
  induction n with
  | zero => intro _; rfl
  | succ n ih =>
    intro h
    show upd (rb_ws g f n) (g n) mI k = f k
    rw [rb_upn (h n (by omega))]
    exact ih (fun i hi => h i (by omega))
theorem rb_ws2_in {g h : Nat → Nat} {f : rb_Row} : ∀ {n i : Nat}, i < n → rb_ws2 g h f n (g i) = mI ∧ rb_ws2 g h f n (h i) = mI := by
  intro n
  induction n with
  | zero => intro i h; omega
  | succ n ih =>
    intro i hi
    have key : ∀ k, (k = g n ∨ k = h n ∨ rb_ws2 g h f n k = mI) → rb_ws2 g h f (n + 1) k = mI := fun k hk => by
      show upd (upd (rb_ws2 g h f n) (g n) mI) (h n) mI k = mI
      by_cases e : k = h n
      · exact rb_upe e
      · rw [rb_upn e]
        by_cases e' : k = g n
        · exact rb_upe e'
        · rw [rb_upn e']
          rcases hk with z | z | z
          · exact absurd z e'
          · exact absurd z e
          · exact z
    by_cases e : i = n
    · subst e
      exact ⟨key _ (Or.inl rfl), key _ (Or.inr (Or.inl rfl))⟩
    · have := ih (i := i) (by omega)
      exact ⟨key _ (Or.inr (Or.inr this.1)), key _ (Or.inr (Or.inr this.2))⟩
theorem rb_ws2_out {g h : Nat → Nat} {f : rb_Row} {k : Nat} : ∀ {n : Nat}, (∀ i, i < n → k ≠ g i ∧ k ≠ h i) → rb_ws2 g h f n k = f k := by
  intro n
  induction n with
  | zero => intro _; rfl
  | succ n ih =>
    intro hh
    show upd (upd (rb_ws2 g h f n) (g n) mI) (h n) mI k = f k
    rw [rb_upn (hh n (by omega)).2, rb_upn (hh n (by omega)).1]
    exact ih (fun i hi => hh i (by omega))
def rb_a0 : rb_Row := rb_ai (fun _ => 0)
def rb_c0 : rb_Row := rb_fill (rb_fill (rb_fill (rb_fill (rb_fill (fun _ => 0) 3 16) 19 28) 243 28) 539 6) 557 6
theorem rb_a0_names {h : Nat} (hh : h < 16) : rb_a0 h = mI := by
  unfold rb_a0 rb_ai
  rw [rb_ws2_out (fun i hi => ⟨by omega, by omega⟩), rb_ws_out (fun i hi => by omega), rb_ws2_out (fun i hi => ⟨by omega, by omega⟩), rb_ws_out (fun i hi => by omega)]
  exact rb_ws_in (g := fun h => h) hh
theorem rb_a0_kind {x : Nat} (hx : x < 28) : rb_a0 (16 + 6 * x) = mI := by
  unfold rb_a0 rb_ai
  rw [rb_ws2_out (fun i hi => ⟨by omega, by omega⟩), rb_ws_out (fun i hi => by omega), rb_ws2_out (fun i hi => ⟨by omega, by omega⟩)]
  exact rb_ws_in (g := fun x => 16 + 6 * x + 0) hx
theorem rb_a0_pipe {p : Nat} (hp : p < 28) : rb_a0 (184 + 4 * p + 2) = mI ∧ rb_a0 (184 + 4 * p + 3) = mI := by
  unfold rb_a0 rb_ai
  refine ⟨?_, ?_⟩
  · rw [rb_ws2_out (fun i hi => ⟨by omega, by omega⟩), rb_ws_out (fun i hi => by omega)]
    exact (rb_ws2_in (g := fun p => 184 + 4 * p + 2) (h := fun p => 184 + 4 * p + 3) hp).1
  · rw [rb_ws2_out (fun i hi => ⟨by omega, by omega⟩), rb_ws_out (fun i hi => by omega)]
    exact (rb_ws2_in (g := fun p => 184 + 4 * p + 2) (h := fun p => 184 + 4 * p + 3) hp).2
theorem rb_a0_int {i : Nat} (hi : i < 24) : rb_a0 (296 + 11 * i) = mI := by
  unfold rb_a0 rb_ai
  rw [rb_ws2_out (fun i hi => ⟨by omega, by omega⟩)]
  exact rb_ws_in (g := fun i => 296 + 11 * i + 0) hi
theorem rb_a0_task {t : Nat} (ht : t < 6) : rb_a0 (560 + 39 * t) = mI ∧ rb_a0 (560 + 39 * t + 3) = mI := by
  unfold rb_a0 rb_ai
  exact rb_ws2_in (g := fun t => 560 + 39 * t + 0) (h := fun t => 560 + 39 * t + 3) ht
theorem rb_a0_zero {k : Nat} (h1 : 560 ≤ k) (h2 : ∀ t, t < 6 → k ≠ 560 + 39 * t ∧ k ≠ 560 + 39 * t + 3) : rb_a0 k = nI 0 := by
  unfold rb_a0 rb_ai
  rw [rb_ws2_out (g := fun t => 560 + 39 * t + 0) (h := fun t => 560 + 39 * t + 3) (fun i hi => ⟨(h2 i hi).1, (h2 i hi).2⟩), rb_ws_out (fun i hi => by omega), rb_ws2_out (fun i hi => ⟨by omega, by omega⟩), rb_ws_out (fun i hi => by omega), rb_ws_out (fun i hi => by omega)]
  rfl
theorem rb_fin' {f : rb_Row} {a n k : Nat} (h : a ≤ k ∧ k < a + n) : rb_fill f a n k = mI := if_pos h
theorem rb_fout {f : rb_Row} {a n k : Nat} (h : ¬ (a ≤ k ∧ k < a + n)) : rb_fill f a n k = f k := if_neg h
theorem rb_c0_name {h : Nat} (hh : h < 16) : rb_c0 (3 + h) = mI := by
  unfold rb_c0
  rw [rb_fout (by omega), rb_fout (by omega), rb_fout (by omega), rb_fout (by omega)]; exact rb_fin' (by omega)
theorem rb_c0_kind {x : Nat} (hx : x < 28) : rb_c0 (19 + x) = mI := by
  unfold rb_c0
  rw [rb_fout (by omega), rb_fout (by omega), rb_fout (by omega)]; exact rb_fin' (by omega)
theorem rb_c0_wait {x : Nat} (hx : x < 28) : rb_c0 (243 + x) = mI := by
  unfold rb_c0
  rw [rb_fout (by omega), rb_fout (by omega)]; exact rb_fin' (by omega)
theorem rb_c0_sleep {t : Nat} (ht : t < 6) : rb_c0 (539 + t) = mI ∧ rb_c0 (557 + t) = mI := by
  unfold rb_c0
  refine ⟨?_, rb_fin' (by omega)⟩
  rw [rb_fout (by omega)]; exact rb_fin' (by omega)
theorem rb_c0_zero {k : Nat} (h : k < 3 ∨ (47 ≤ k ∧ k < 243) ∨ (271 ≤ k ∧ k < 539) ∨ (545 ≤ k ∧ k < 557) ∨ 563 ≤ k) : rb_c0 k = nI 0 := by
  unfold rb_c0
  rw [rb_fout (by omega), rb_fout (by omega), rb_fout (by omega), rb_fout (by omega), rb_fout (by omega)]; rfl
theorem rb_RB0 : rb_RB 0 0 rb_c0 rb_a0 := by
  have dead : ∀ x, x < 28 → ¬ rb_live rb_c0 x := fun x hx hl => by
    obtain ⟨k, hk, e⟩ := hl
    rw [rb_c0_kind hx] at e
    exact rb_nmm (k := k) (by omega) e.symm
  have az : ∀ t f, t < 6 → f < 39 → f ≠ 0 → f ≠ 3 → rb_a0 (560 + 39 * t + f) = nI 0 := fun t f ht hf h1 h2 => rb_a0_zero (by omega) (fun u hu => by
    rcases Nat.lt_trichotomy u t with e | e | e
    · exact ⟨by omega, by omega⟩
    · subst e; exact ⟨by omega, by omega⟩
    · exact ⟨by omega, by omega⟩)
  refine ⟨0, fun _ => 0, 0, 0, ⟨⟨?_, ⟨0, by omega, rb_c0_zero (by omega)⟩, rb_c0_zero (by omega), ?_, Nat.le_refl _, Nat.zero_le _, rb_c0_zero (by omega), by omega⟩, ⟨?_, ?_, ?_, ?_, ?_, ?_, ?_⟩, ⟨?_, ?_, ?_, ?_, ?_, ?_, ?_, ?_⟩, ⟨?_, ?_, ?_⟩, ⟨?_, ?_, ?_, ?_, ?_, ?_⟩⟩, ?_⟩
  · rw [rb_c0_zero (by omega)]
    exact rb_a0_zero (by omega) (fun t ht => ⟨by omega, by omega⟩)
  · exact rb_a0_zero (by omega) (fun t ht => ⟨by omega, by omega⟩)
  · intro h hh
    refine ⟨(rb_a0_names hh).trans (rb_c0_name hh).symm, ?_, Or.inl (rb_c0_name hh)⟩
    rw [rb_c0_name hh]; decide
  · intro x hx
    exact ⟨(rb_a0_kind hx).trans (rb_c0_kind hx).symm, Or.inl ⟨rb_c0_kind hx, rb_c0_wait hx⟩⟩
  · intro x hx _ hl
    exact absurd hl (dead x hx)
  · intro p e hp he
    rcases (show e = 0 ∨ e = 1 by omega) with z | z
    · subst z; exact Or.inl (rb_a0_pipe hp).1
    · subst z; exact Or.inl (rb_a0_pipe hp).2
  · intro x hx
    exact Or.inl ⟨rb_c0_wait hx, fun hl => absurd hl (dead x hx)⟩
  · intro x y hx _ h
    exact absurd (rb_c0_wait hx) h
  · rw [rb_cn_zero (fun i hi => by rw [rb_c0_wait hi]; simp)]; omega
  · intro i hi; omega
  · intro i hi; omega
  · intro i hi; omega
  · intro i hi; omega
  · intro i j hi hj; omega
  · intro t ht _
    exact rb_a0_int ht
  · intro i j k x hi; omega
  · intro i j hi; omega
  · intro i hi; omega
  · intro i hi; omega
  · intro i j hi; omega
  · intro t ht
    refine ⟨(rb_a0_task ht).1.trans (rb_c0_sleep ht).1.symm, ?_, (rb_a0_task ht).2.trans (rb_c0_sleep ht).2.symm, ?_, ?_, ?_, ?_, ?_, ?_, ?_⟩
    · rw [az t 2 ht (by omega) (by omega) (by omega), rb_c0_zero (by omega)]
    · rw [az t 4 ht (by omega) (by omega) (by omega), rb_c0_zero (by omega)]
    · rw [az t 5 ht (by omega) (by omega) (by omega), rb_c0_zero (by omega)]
    · rw [az t 6 ht (by omega) (by omega) (by omega), rb_c0_zero (by omega)]
    · rw [az t 7 ht (by omega) (by omega) (by omega), rb_c0_zero (by omega)]
    · rw [az t 8 ht (by omega) (by omega) (by omega), rb_c0_zero (by omega)]
    · rw [az t 9 ht (by omega) (by omega) (by omega), rb_c0_zero (by omega)]
    · rw [az t 38 ht (by omega) (by omega) (by omega), rb_c0_zero (by omega)]
  · intro t ht
    exact ⟨Or.inl (rb_c0_zero (by omega)), ⟨0, by omega, rb_c0_zero (by omega)⟩, ⟨0, by omega, rb_c0_zero (by omega)⟩, ⟨0, by omega, rb_c0_zero (by omega)⟩, 0, by omega, rb_c0_zero (by omega)⟩
  · intro t ht
    exact Or.inl (rb_c0_sleep ht).1
  · intro t u ht _ h
    exact absurd (rb_c0_sleep ht).1 h
  · intro t k ht hk
    rw [az t (22 + 2 * k) ht (by omega) (by omega) (by omega), az t (22 + 2 * k + 1) ht (by omega) (by omega) (by omega), rb_c0_zero (by omega), rb_c0_zero (by omega)]
    exact ⟨rfl, rfl⟩
  · intro t k l ht hk hl e
    rw [rb_c0_zero (by omega)] at e
    have := (nI_eq (by omega) (by omega)).mp e
    omega
  · have : rb_asl rb_c0 = 0 := rb_cn_zero (fun i hi => by rw [(rb_c0_sleep hi).1]; simp)
    omega
theorem rb_Inv0 : rb_Inv 0 rb_mu0 := by
  refine ⟨?_, ⟨0, 0, 0, by omega, by omega, rfl, rfl, rfl, rfl, rfl, fun k hk => ?_, fun i hi => absurd hi (Nat.not_lt_zero i), fun i hi => absurd hi (Nat.not_lt_zero i)⟩, ⟨0, by omega, rfl, rfl, rfl, fun j hj e => ?_⟩⟩
  · have h : rb_RB (0 * 1000000) 0 rb_c0 rb_a0 := rb_RB_mono rb_RB0 (Nat.zero_le _)
    exact h
  · show va_cpy rb_c0 (fun _ => 0) ((0) : Int32).toNatClampNeg (((0 * 773)) : Int32).toNatClampNeg ((773) : Int32).toNatClampNeg (773 * 0 + k) = rb_c0 k
    have e1 : ((0) : Int32).toNatClampNeg = 0 := by decide
    have e2 : (((0 * 773)) : Int32).toNatClampNeg = 0 := by decide
    have e3 : ((773) : Int32).toNatClampNeg = 773 := by decide
    rw [e1, e2, e3, rb_vcin (by omega) (by omega)]
    exact congrArg rb_c0 (by omega)
  · have z : rb_mu0 33 j = (0 : Int32) := rfl
    rw [z] at e
    exact absurd e (by decide)
theorem rb_sim0 : rb_Sim rb_Inv := ⟨rs_pipe, rs_counter, rs_timer, rs_set, rs_listener, rs_connect, rs_accept, rs_twin, rs_close, rs_write, rs_read, rs_arm, rs_tick, rs_add, rs_change, rs_drop, rs_collect, rs_await, rs_handle, rs_other, rs_interest, rs_listed, rs_shows, rs_shown, rs_depth, rs_sleeper, rs_task, rs_got, rs_wakes, rs_plan, rs_round, rs_rounds, rs_stuck, rs_soon, rs_calls, rs_image, rs_back, rs_forget, rs_step, rs_orders, rs_undo, rs_redo, rs_about⟩
