set_option maxHeartbeats 8000000 in
theorem rp_add1 {B q n : Nat} {π : Nat → Nat} {s s' : Nat} {c a : rb_Row} (hR : rR 28 B q n π s s' c a) (hB : s + 8 * rb_asl c ≤ B) (hb : B + q + 30000 < 2000000000) (hn : n < 24) {x y k0 k1 m w : Nat} (hx : x < 28) (hy : y < 28) (h0 : k0 < 16) (h1 : k1 < 16) (e0 : c (3 + k0) = nI x) (e1 : c (3 + k1) = nI y) (hx4 : c (19 + x) = nI 4) (hyl : rb_live c y) (hxy : x ≠ y) (hm : m < 4) (hw : w < 8) {S T : Nat → Nat} (hSL : rb_SL n S T (fun y => decide (c (19 + y) = nI 4)) a) (hS : ∀ i, i < n → S i < 28 ∧ c (299 + i) = nI (S i)) (hT : ∀ i, i < n → T i < 28 ∧ c (323 + i) = nI (T i)) (hd : decide (c (19 + y) = nI 4) = false ∨ rb_dp n T S (fun _ => true) 2 x + rb_dp n S T (fun y => decide (c (19 + y) = nI 4)) 2 y ≤ 3) (hnew : ∀ i, i < n → c (299 + i) = nI x → c (347 + i) = nI k1 → c (323 + i) = nI y → False) (g f rd ag mf na nb nl sv : rb_Row) :
    ∃ t v c' g' f' a' rd' ag' mf' na' nb' nl' sv', t < 24 ∧ a (296 + 11 * t) = mI ∧ (∀ u, u < t → ∃ x, x < 28 ∧ a (296 + 11 * u) = nI x) ∧ XX0_armInterest (rb_ap c n x y (nI k1) (nI m) (nI w)) g f (nI n) = some (nI 1, c', g', f') ∧ XX7_tell (rb_aq a t x y (nI k1) s') rd ag mf na nb nl sv (nI t) (nI m) (nI w) = some (a', rd', ag', mf', na', nb', nl', sv') ∧ rb_RB (B + 700) (q + 1) c' a' ∧ (∀ k, k ≠ 3 → k ≠ 11 → mf' k = mf k) ∧ 1 ≤ v ∧ v ≤ 24 ∧ XX1_heldBy c' (nI x) = some (nI v) ∧ XX7_heldBy a' (nI x) = some (nI v) ∧ a' k0 = nI x := by
  obtain ⟨t, ht, f0, f1, f2⟩ := rp_free hR hn
  have hI := hR.2.2.1
  have hss : s' + 1 < 2000000000 := by
    have := hR.1.2.2.2.2.2.1
    omega
  have old : ∀ i j k, i < n → j < n → k < n → T i = S j → T j = S k → (fun y => decide (c (19 + y) = nI 4)) (T k) = true → False := fun i j k hi hj hk q1 q2 q3 =>
    hI.2.2.2.2.2.2.1 i j k (T k) hi hj hk (by rw [(hT i hi).2, (hS j hj).2, q1]) (by rw [(hT j hj).2, (hS k hk).2, q2]) (hT k hk).1 (hT k hk).2 (of_decide_eq_true q3)
  have cl : ∀ k, k ≠ 2 → (∀ u, u < 10 → k ≠ 299 + 24 * u + n) → rb_ap c n x y (nI k1) (nI m) (nI w) k = c k := fun k q1 q2 => by
    have r0 := q2 0 (by omega); have r1 := q2 1 (by omega); have r2 := q2 2 (by omega); have r3 := q2 3 (by omega); have r4 := q2 4 (by omega); have r5 := q2 5 (by omega); have r6 := q2 6 (by omega); have r7 := q2 7 (by omega); have r8 := q2 8 (by omega); have r9 := q2 9 (by omega)
    unfold rb_ap
    rw [rb_upn (by omega), rb_upn (by omega), rb_upn (by omega), rb_upn (by omega), rb_upn (by omega), rb_upn (by omega), rb_upn (by omega), rb_upn (by omega), rb_upn (by omega), rb_upn (by omega), rb_upn (by omega)]
  have cmid : ∀ u i, u < 10 → i < n → rb_ap c n x y (nI k1) (nI m) (nI w) (299 + 24 * u + i) = c (299 + 24 * u + i) := fun u i hu hi => cl _ (by omega) (fun v hv => by
    rcases Nat.lt_trichotomy u v with g | g | g <;> omega)
  have clow : ∀ k, 3 ≤ k → k < 299 → rb_ap c n x y (nI k1) (nI m) (nI w) k = c k := fun k h1 h2 => cl k (by omega) (fun u hu => by omega)
  have e299 : rb_ap c n x y (nI k1) (nI m) (nI w) (299 + n) = nI x := by unfold rb_ap; simp (disch := omega) only [rb_upe, rb_upn]
  have e323 : rb_ap c n x y (nI k1) (nI m) (nI w) (323 + n) = nI y := by unfold rb_ap; simp (disch := omega) only [rb_upe, rb_upn]
  have h7 := rp_deep7 (c2 := rb_ap c n x y (nI k1) (nI m) (nI w)) (fun i hi => ⟨(hS i hi).1, (cmid 0 i (by omega) hi).trans (hS i hi).2⟩) (fun i hi => ⟨(hT i hi).1, (cmid 1 i (by omega) hi).trans (hT i hi).2⟩) e299 e323 hx hy hxy (K := fun y => decide (c (19 + y) = nI 4)) (fun z hz => by rw [clow (19 + z) (by omega) (by omega)]; exact decide_eq_true_iff) (fun i hi => (hSL.2.2.2.1 i hi).2.2) (decide_eq_true hx4) old hd
  have hR2 := rp_append (a2 := upd (upd (upd (rb_aq a t x y (nI k1) s') (296 + 11 * t + 5) (nI 0)) (296 + 11 * t + 3) (nI m)) (296 + 11 * t + 4) (nI w)) hR hn hss hx hx4 ⟨k0, h0, e0⟩ hy hyl ⟨k1, h1, e1⟩ hxy h1 hm hw ht f2 hnew h7 cl
    (by unfold rb_ap; simp (disch := omega) only [rb_upe, rb_upn]) e299 e323 (by unfold rb_ap; simp (disch := omega) only [rb_upe, rb_upn]) (by unfold rb_ap; simp (disch := omega) only [rb_upe, rb_upn]) (by unfold rb_ap; simp (disch := omega) only [rb_upe, rb_upn]) (by unfold rb_ap; simp (disch := omega) only [rb_upe, rb_upn]) (by unfold rb_ap; simp (disch := omega) only [rb_upe, rb_upn]) (by unfold rb_ap; simp (disch := omega) only [rb_upe, rb_upn]) (by unfold rb_ap; simp (disch := omega) only [rb_upe, rb_upn]) (by unfold rb_ap; simp (disch := omega) only [rb_upe, rb_upn])
    (fun k q1 q2 => by
      unfold rb_aq
      rw [rb_upn (by omega), rb_upn (by omega), rb_upn (by omega), rb_upn (by omega), rb_upn (by omega), rb_upn (by omega), rb_upn (by omega), rb_upn (by omega), rb_upn (by omega), rb_upn (by omega), rb_upn (by omega)])
    (by unfold rb_aq; simp (disch := omega) only [rb_upe, rb_upn]) (by unfold rb_aq; simp (disch := omega) only [rb_upe, rb_upn]) (by unfold rb_aq; simp (disch := omega) only [rb_upe, rb_upn]) (by unfold rb_aq; simp (disch := omega) only [rb_upe, rb_upn]) (by unfold rb_aq; simp (disch := omega) only [rb_upe, rb_upn]) (by unfold rb_aq; simp (disch := omega) only [rb_upe, rb_upn]) (by unfold rb_aq; simp (disch := omega) only [rb_upe, rb_upn]) (by unfold rb_aq; simp (disch := omega) only [rb_upe, rb_upn]) (by unfold rb_aq; simp (disch := omega) only [rb_upe, rb_upn]) (by unfold rb_aq; simp (disch := omega) only [rb_upe, rb_upn]) (by unfold rb_aq; simp (disch := omega) only [rb_upe, rb_upn])
  have hpn : (fun i => if i < n then π i else t) n = t := if_neg (by omega)
  have hasl : rb_asl (rb_ap c n x y (nI k1) (nI m) (nI w)) = rb_asl c := rb_asl_congr (fun u hu => cl _ (by omega) (fun v hv => by omega))
  have lastE : (fun i => if i < n then π i else t) n = t := hpn
  generalize hρ : (fun i => if i < n then π i else t) = ρ at hR2 hpn lastE
  obtain ⟨c', g', f', a', rd', ag', mf', na', nb', nl', sv', r1, r2, r3, r4, r5, r6, r7, r8⟩ := rp_tell (a0 := upd (rb_aq a t x y (nI k1) s') (296 + 11 * t + 5) (nI 0)) (i := n) hR2 (by rw [hasl]; exact hB) (by omega) (by omega) (nI m) (nI w) (by rw [hpn]) g f rd ag mf na nb nl sv
  rw [hpn, yn_tell5 _ _ _ _ _ _ _ _ ht] at r2
  obtain ⟨n', π', u, u', z1, z2⟩ := id r3
  obtain ⟨y1, y2⟩ := rp_heldBy z1 hx
  have hn' : n' = n + 1 := by
    have q1 := z1.1.2.2.2.2.2.2.1
    have q2 := r5 2 (by omega) (by omega)
    have q3 := hR2.1.2.2.2.2.2.2.1
    have q4 := z1.1.2.2.2.2.2.2.2
    rw [q2, q3] at q1
    exact ((nI_eq (by omega) (by omega)).mp q1).symm
  refine ⟨t, _, c', g', f', a', rd', ag', mf', na', nb', nl', sv', ht, f0, f1, r1, r2, r3, r4, ?_, ?_, y1, y2, ?_⟩
  · refine rb_cn_pos (i := n) (by omega) (decide_eq_true ?_)
    rw [r5 _ (by omega) (by omega)]; exact e299
  · have := rb_cn_le (fun i => decide (c' (299 + i) = nI x)) n'
    omega
  · rw [(z1.2.1.1 k0 h0).1, r5 _ (by omega) (by omega), clow _ (by omega) (by omega)]; exact e0
