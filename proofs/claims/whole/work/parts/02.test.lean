theorem test_1 (i : Int32) (n : Nat) : vp_in i n ↔ vp_in i n := Iff.rfl
theorem test_2 : tables_1.length = 1357 := by decide +kernel
