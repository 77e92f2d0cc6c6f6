theorem rp_taskcell {z W q n : Nat} {π : Nat → Nat} {s s' : Nat} {c a : rb_Row} (h : rR z W q n π s s' c a) {t : Nat} (ht : t < 6) {col e : Nat} (he : e < 39) (hcol : col ≤ 700) (E : a (560 + 39 * t + e) = c (col + t)) : (rb_rd c 773 (nI col + nI t)).bind (fun v => some v) = some (c (col + t)) ∧ (XX7_ofTask a (nI t) (nI e)).bind (fun v => some v) = some (c (col + t)) := by
  constructor
  · exact rb_bnd _ ((congrArg (rb_rd c 773) (nI_add col t)).trans (rb_rdn (by omega) (by omega))) rfl
  · exact rb_bnd _ ((xn_ofTask a ht he).trans (congrArg some E)) rfl
