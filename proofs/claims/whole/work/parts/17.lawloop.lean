/-- pipe: class and reference answer alike, and stay related -/
def rb_S_pipe (Inv : Nat → rb_Mem → Prop) : Prop := ∀ (n : Nat) (μ : rb_Mem) (v1 : Int32), n < 512 → Inv n μ → ∃ (o1 : Int32 × rb_Row × rb_Row × rb_Row) (o2 : Int32 × rb_Row × rb_Row × rb_Row), XX6_pipe (μ 5) (μ 14) (μ 13) v1 = some o1 ∧ XX7_pipe (μ 20) (μ 19) (μ 31) v1 = some o2 ∧ o1.1 = o2.1 ∧ Inv (n + 1) (rb_ov (rb_ov μ [(5, o1.2.1), (14, o1.2.2.1), (13, o1.2.2.2)]) [(20, o2.2.1), (19, o2.2.2.1), (31, o2.2.2.2)])
/-- counter: class and reference answer alike, and stay related -/
def rb_S_counter (Inv : Nat → rb_Mem → Prop) : Prop := ∀ (n : Nat) (μ : rb_Mem) (v1 v2 : Int32), n < 512 → Inv n μ → (v2 = 0 ∨ v2 = 1) → ∃ (o1 : Int32 × rb_Row × rb_Row × rb_Row) (o2 : Int32 × rb_Row × rb_Row × rb_Row), XX6_counter (μ 5) (μ 14) (μ 13) v1 v2 = some o1 ∧ XX7_counter (μ 20) (μ 19) (μ 31) v1 v2 = some o2 ∧ o1.1 = o2.1 ∧ Inv (n + 1) (rb_ov (rb_ov μ [(5, o1.2.1), (14, o1.2.2.1), (13, o1.2.2.2)]) [(20, o2.2.1), (19, o2.2.2.1), (31, o2.2.2.2)])
/-- timer: class and reference answer alike, and stay related -/
def rb_S_timer (Inv : Nat → rb_Mem → Prop) : Prop := ∀ (n : Nat) (μ : rb_Mem), n < 512 → Inv n μ → ∃ (o1 : Int32 × rb_Row × rb_Row × rb_Row) (o2 : Int32 × rb_Row × rb_Row × rb_Row), XX6_timer (μ 5) (μ 14) (μ 13) = some o1 ∧ XX7_timer (μ 20) (μ 19) (μ 31) = some o2 ∧ o1.1 = o2.1 ∧ Inv (n + 1) (rb_ov (rb_ov μ [(5, o1.2.1), (14, o1.2.2.1), (13, o1.2.2.2)]) [(20, o2.2.1), (19, o2.2.2.1), (31, o2.2.2.2)])
/-- set: class and reference answer alike, and stay related -/
def rb_S_set (Inv : Nat → rb_Mem → Prop) : Prop := ∀ (n : Nat) (μ : rb_Mem), n < 512 → Inv n μ → ∃ (o1 : Int32 × rb_Row × rb_Row × rb_Row) (o2 : Int32 × rb_Row × rb_Row × rb_Row), XX6_set (μ 5) (μ 14) (μ 13) = some o1 ∧ XX7_set (μ 20) (μ 19) (μ 31) = some o2 ∧ o1.1 = o2.1 ∧ Inv (n + 1) (rb_ov (rb_ov μ [(5, o1.2.1), (14, o1.2.2.1), (13, o1.2.2.2)]) [(20, o2.2.1), (19, o2.2.2.1), (31, o2.2.2.2)])
/-- listener: class and reference answer alike, and stay related -/
def rb_S_listener (Inv : Nat → rb_Mem → Prop) : Prop := ∀ (n : Nat) (μ : rb_Mem) (v1 v2 : Int32), n < 512 → Inv n μ → ∃ (o1 : Int32 × rb_Row × rb_Row × rb_Row) (o2 : Int32 × rb_Row × rb_Row × rb_Row), XX6_listener (μ 5) (μ 14) (μ 13) v1 v2 = some o1 ∧ XX7_listener (μ 20) (μ 19) (μ 31) v1 v2 = some o2 ∧ o1.1 = o2.1 ∧ Inv (n + 1) (rb_ov (rb_ov μ [(5, o1.2.1), (14, o1.2.2.1), (13, o1.2.2.2)]) [(20, o2.2.1), (19, o2.2.2.1), (31, o2.2.2.2)])
/-- connect: class and reference answer alike, and stay related -/
def rb_S_connect (Inv : Nat → rb_Mem → Prop) : Prop := ∀ (n : Nat) (μ : rb_Mem) (v1 : Int32), n < 512 → Inv n μ → ∃ (o1 : Int32 × rb_Row × rb_Row × rb_Row × rb_Row × rb_Row) (o2 : Int32 × rb_Row × rb_Row × rb_Row × rb_Row × rb_Row × rb_Row × rb_Row × rb_Row × rb_Row), XX6_connect (μ 5) (μ 6) (μ 1) (μ 14) (μ 13) v1 = some o1 ∧ XX7_connect (μ 20) (μ 21) (μ 22) (μ 19) (μ 23) (μ 24) (μ 25) (μ 26) (μ 31) v1 = some o2 ∧ o1.1 = o2.1 ∧ Inv (n + 1) (rb_ov (rb_ov μ [(5, o1.2.1), (6, o1.2.2.1), (1, o1.2.2.2.1), (14, o1.2.2.2.2.1), (13, o1.2.2.2.2.2)]) [(20, o2.2.1), (21, o2.2.2.1), (22, o2.2.2.2.1), (19, o2.2.2.2.2.1), (23, o2.2.2.2.2.2.1), (24, o2.2.2.2.2.2.2.1), (25, o2.2.2.2.2.2.2.2.1), (26, o2.2.2.2.2.2.2.2.2.1), (31, o2.2.2.2.2.2.2.2.2.2)])
/-- accept: class and reference answer alike, and stay related -/
def rb_S_accept (Inv : Nat → rb_Mem → Prop) : Prop := ∀ (n : Nat) (μ : rb_Mem) (v1 : Int32), n < 512 → Inv n μ → ∃ (o1 : Int32 × rb_Row × rb_Row × rb_Row) (o2 : Int32 × rb_Row × rb_Row × rb_Row), XX6_accept (μ 5) (μ 14) (μ 13) v1 = some o1 ∧ XX7_accept (μ 20) (μ 19) (μ 31) v1 = some o2 ∧ o1.1 = o2.1 ∧ Inv (n + 1) (rb_ov (rb_ov μ [(5, o1.2.1), (14, o1.2.2.1), (13, o1.2.2.2)]) [(20, o2.2.1), (19, o2.2.2.1), (31, o2.2.2.2)])
/-- twin: class and reference answer alike, and stay related -/
def rb_S_twin (Inv : Nat → rb_Mem → Prop) : Prop := ∀ (n : Nat) (μ : rb_Mem) (v1 : Int32), n < 512 → Inv n μ → ∃ (o1 : Int32 × rb_Row × rb_Row × rb_Row) (o2 : Int32 × rb_Row × rb_Row × rb_Row), XX6_twin (μ 5) (μ 14) (μ 13) v1 = some o1 ∧ XX7_twin (μ 20) (μ 19) (μ 31) v1 = some o2 ∧ o1.1 = o2.1 ∧ Inv (n + 1) (rb_ov (rb_ov μ [(5, o1.2.1), (14, o1.2.2.1), (13, o1.2.2.2)]) [(20, o2.2.1), (19, o2.2.2.1), (31, o2.2.2.2)])
/-- close: class and reference answer alike, and stay related -/
def rb_S_close (Inv : Nat → rb_Mem → Prop) : Prop := ∀ (n : Nat) (μ : rb_Mem) (v1 : Int32), n < 512 → Inv n μ → ∃ (o1 : Int32 × rb_Row × rb_Row × rb_Row × rb_Row × rb_Row) (o2 : Int32 × rb_Row × rb_Row × rb_Row × rb_Row × rb_Row × rb_Row × rb_Row × rb_Row × rb_Row), XX6_close (μ 5) (μ 6) (μ 1) (μ 14) (μ 13) v1 = some o1 ∧ XX7_close (μ 20) (μ 21) (μ 22) (μ 19) (μ 23) (μ 24) (μ 25) (μ 26) (μ 31) v1 = some o2 ∧ o1.1 = o2.1 ∧ Inv (n + 1) (rb_ov (rb_ov μ [(5, o1.2.1), (6, o1.2.2.1), (1, o1.2.2.2.1), (14, o1.2.2.2.2.1), (13, o1.2.2.2.2.2)]) [(20, o2.2.1), (21, o2.2.2.1), (22, o2.2.2.2.1), (19, o2.2.2.2.2.1), (23, o2.2.2.2.2.2.1), (24, o2.2.2.2.2.2.2.1), (25, o2.2.2.2.2.2.2.2.1), (26, o2.2.2.2.2.2.2.2.2.1), (31, o2.2.2.2.2.2.2.2.2.2)])
/-- write: class and reference answer alike, and stay related -/
def rb_S_write (Inv : Nat → rb_Mem → Prop) : Prop := ∀ (n : Nat) (μ : rb_Mem) (v1 v2 : Int32), n < 512 → Inv n μ → ∃ (o1 : Int32 × rb_Row × rb_Row × rb_Row × rb_Row × rb_Row) (o2 : Int32 × rb_Row × rb_Row × rb_Row × rb_Row × rb_Row × rb_Row × rb_Row × rb_Row × rb_Row), XX6_write (μ 5) (μ 6) (μ 1) (μ 14) (μ 13) v1 v2 = some o1 ∧ XX7_write (μ 20) (μ 21) (μ 22) (μ 19) (μ 23) (μ 24) (μ 25) (μ 26) (μ 31) v1 v2 = some o2 ∧ o1.1 = o2.1 ∧ Inv (n + 1) (rb_ov (rb_ov μ [(5, o1.2.1), (6, o1.2.2.1), (1, o1.2.2.2.1), (14, o1.2.2.2.2.1), (13, o1.2.2.2.2.2)]) [(20, o2.2.1), (21, o2.2.2.1), (22, o2.2.2.2.1), (19, o2.2.2.2.2.1), (23, o2.2.2.2.2.2.1), (24, o2.2.2.2.2.2.2.1), (25, o2.2.2.2.2.2.2.2.1), (26, o2.2.2.2.2.2.2.2.2.1), (31, o2.2.2.2.2.2.2.2.2.2)])
/-- read: class and reference answer alike, and stay related -/
def rb_S_read (Inv : Nat → rb_Mem → Prop) : Prop := ∀ (n : Nat) (μ : rb_Mem) (v1 v2 : Int32), n < 512 → Inv n μ → ∃ (o1 : Int32 × rb_Row × rb_Row × rb_Row × rb_Row × rb_Row) (o2 : Int32 × rb_Row × rb_Row × rb_Row × rb_Row × rb_Row × rb_Row × rb_Row × rb_Row × rb_Row), XX6_read (μ 5) (μ 6) (μ 1) (μ 14) (μ 13) v1 v2 = some o1 ∧ XX7_read (μ 20) (μ 21) (μ 22) (μ 19) (μ 23) (μ 24) (μ 25) (μ 26) (μ 31) v1 v2 = some o2 ∧ o1.1 = o2.1 ∧ Inv (n + 1) (rb_ov (rb_ov μ [(5, o1.2.1), (6, o1.2.2.1), (1, o1.2.2.2.1), (14, o1.2.2.2.2.1), (13, o1.2.2.2.2.2)]) [(20, o2.2.1), (21, o2.2.2.1), (22, o2.2.2.2.1), (19, o2.2.2.2.2.1), (23, o2.2.2.2.2.2.1), (24, o2.2.2.2.2.2.2.1), (25, o2.2.2.2.2.2.2.2.1), (26, o2.2.2.2.2.2.2.2.2.1), (31, o2.2.2.2.2.2.2.2.2.2)])
/-- arm: class and reference answer alike, and stay related -/
def rb_S_arm (Inv : Nat → rb_Mem → Prop) : Prop := ∀ (n : Nat) (μ : rb_Mem) (v1 v2 v3 : Int32), n < 512 → Inv n μ → ∃ (o1 : Int32 × rb_Row × rb_Row × rb_Row) (o2 : Int32 × rb_Row × rb_Row × rb_Row), XX6_arm (μ 5) (μ 14) (μ 13) v1 v2 v3 = some o1 ∧ XX7_arm (μ 20) (μ 19) (μ 31) v1 v2 v3 = some o2 ∧ o1.1 = o2.1 ∧ Inv (n + 1) (rb_ov (rb_ov μ [(5, o1.2.1), (14, o1.2.2.1), (13, o1.2.2.2)]) [(20, o2.2.1), (19, o2.2.2.1), (31, o2.2.2.2)])
/-- tick: class and reference answer alike, and stay related -/
def rb_S_tick (Inv : Nat → rb_Mem → Prop) : Prop := ∀ (n : Nat) (μ : rb_Mem) (v1 : Int32), n < 512 → Inv n μ → ∃ (o1 : Int32 × rb_Row × rb_Row × rb_Row × rb_Row × rb_Row) (o2 : Int32 × rb_Row × rb_Row × rb_Row × rb_Row × rb_Row × rb_Row × rb_Row × rb_Row × rb_Row), XX6_tick (μ 5) (μ 6) (μ 1) (μ 14) (μ 13) v1 = some o1 ∧ XX7_tick (μ 20) (μ 21) (μ 22) (μ 19) (μ 23) (μ 24) (μ 25) (μ 26) (μ 31) v1 = some o2 ∧ o1.1 = o2.1 ∧ Inv (n + 1) (rb_ov (rb_ov μ [(5, o1.2.1), (6, o1.2.2.1), (1, o1.2.2.2.1), (14, o1.2.2.2.2.1), (13, o1.2.2.2.2.2)]) [(20, o2.2.1), (21, o2.2.2.1), (22, o2.2.2.2.1), (19, o2.2.2.2.2.1), (23, o2.2.2.2.2.2.1), (24, o2.2.2.2.2.2.2.1), (25, o2.2.2.2.2.2.2.2.1), (26, o2.2.2.2.2.2.2.2.2.1), (31, o2.2.2.2.2.2.2.2.2.2)])
/-- add: class and reference answer alike, and stay related -/
def rb_S_add (Inv : Nat → rb_Mem → Prop) : Prop := ∀ (n : Nat) (μ : rb_Mem) (v1 v2 v3 v4 : Int32), n < 512 → Inv n μ → ∃ (o1 : Int32 × rb_Row × rb_Row × rb_Row × rb_Row × rb_Row) (o2 : Int32 × rb_Row × rb_Row × rb_Row × rb_Row × rb_Row × rb_Row × rb_Row × rb_Row × rb_Row × rb_Row × rb_Row), XX6_add (μ 5) (μ 6) (μ 1) (μ 14) (μ 13) v1 v2 v3 v4 = some o1 ∧ XX7_add (μ 20) (μ 21) (μ 22) (μ 19) (μ 23) (μ 24) (μ 25) (μ 26) (μ 27) (μ 28) (μ 31) v1 v2 v3 v4 = some o2 ∧ o1.1 = o2.1 ∧ Inv (n + 1) (rb_ov (rb_ov μ [(5, o1.2.1), (6, o1.2.2.1), (1, o1.2.2.2.1), (14, o1.2.2.2.2.1), (13, o1.2.2.2.2.2)]) [(20, o2.2.1), (21, o2.2.2.1), (22, o2.2.2.2.1), (19, o2.2.2.2.2.1), (23, o2.2.2.2.2.2.1), (24, o2.2.2.2.2.2.2.1), (25, o2.2.2.2.2.2.2.2.1), (26, o2.2.2.2.2.2.2.2.2.1), (27, o2.2.2.2.2.2.2.2.2.2.1), (28, o2.2.2.2.2.2.2.2.2.2.2.1), (31, o2.2.2.2.2.2.2.2.2.2.2.2)])
/-- change: class and reference answer alike, and stay related -/
def rb_S_change (Inv : Nat → rb_Mem → Prop) : Prop := ∀ (n : Nat) (μ : rb_Mem) (v1 v2 v3 v4 : Int32), n < 512 → Inv n μ → ∃ (o1 : Int32 × rb_Row × rb_Row × rb_Row × rb_Row × rb_Row) (o2 : Int32 × rb_Row × rb_Row × rb_Row × rb_Row × rb_Row × rb_Row × rb_Row × rb_Row × rb_Row), XX6_change (μ 5) (μ 6) (μ 1) (μ 14) (μ 13) v1 v2 v3 v4 = some o1 ∧ XX7_change (μ 20) (μ 21) (μ 22) (μ 19) (μ 23) (μ 24) (μ 25) (μ 26) (μ 31) v1 v2 v3 v4 = some o2 ∧ o1.1 = o2.1 ∧ Inv (n + 1) (rb_ov (rb_ov μ [(5, o1.2.1), (6, o1.2.2.1), (1, o1.2.2.2.1), (14, o1.2.2.2.2.1), (13, o1.2.2.2.2.2)]) [(20, o2.2.1), (21, o2.2.2.1), (22, o2.2.2.2.1), (19, o2.2.2.2.2.1), (23, o2.2.2.2.2.2.1), (24, o2.2.2.2.2.2.2.1), (25, o2.2.2.2.2.2.2.2.1), (26, o2.2.2.2.2.2.2.2.2.1), (31, o2.2.2.2.2.2.2.2.2.2)])
/-- drop: class and reference answer alike, and stay related -/
def rb_S_drop (Inv : Nat → rb_Mem → Prop) : Prop := ∀ (n : Nat) (μ : rb_Mem) (v1 v2 : Int32), n < 512 → Inv n μ → ∃ (o1 : Int32 × rb_Row × rb_Row × rb_Row) (o2 : Int32 × rb_Row × rb_Row × rb_Row), XX6_drop (μ 5) (μ 14) (μ 13) v1 v2 = some o1 ∧ XX7_drop (μ 20) (μ 19) (μ 31) v1 v2 = some o2 ∧ o1.1 = o2.1 ∧ Inv (n + 1) (rb_ov (rb_ov μ [(5, o1.2.1), (14, o1.2.2.1), (13, o1.2.2.2)]) [(20, o2.2.1), (19, o2.2.2.1), (31, o2.2.2.2)])
/-- collect: class and reference answer alike, and stay related -/
def rb_S_collect (Inv : Nat → rb_Mem → Prop) : Prop := ∀ (n : Nat) (μ : rb_Mem) (v1 v2 v3 : Int32), n < 512 → Inv n μ → ∃ (o1 : Int32 × rb_Row × rb_Row × rb_Row × rb_Row) (o2 : Int32 × rb_Row × rb_Row × rb_Row × rb_Row × rb_Row), XX6_collect (μ 5) (μ 6) (μ 14) (μ 13) v1 v2 v3 = some o1 ∧ XX7_collect (μ 20) (μ 21) (μ 22) (μ 19) (μ 31) v1 v2 v3 = some o2 ∧ o1.1 = o2.1 ∧ Inv (n + 1) (rb_ov (rb_ov μ [(5, o1.2.1), (6, o1.2.2.1), (14, o1.2.2.2.1), (13, o1.2.2.2.2)]) [(20, o2.2.1), (21, o2.2.2.1), (22, o2.2.2.2.1), (19, o2.2.2.2.2.1), (31, o2.2.2.2.2.2)])
/-- await: class and reference answer alike, and stay related -/
def rb_S_await (Inv : Nat → rb_Mem → Prop) : Prop := ∀ (n : Nat) (μ : rb_Mem) (v1 v2 v3 v4 : Int32), n < 512 → Inv n μ → ∃ (o1 : Int32 × rb_Row × rb_Row × rb_Row × rb_Row) (o2 : Int32 × rb_Row × rb_Row × rb_Row × rb_Row × rb_Row), XX6_await (μ 5) (μ 6) (μ 14) (μ 13) v1 v2 v3 v4 = some o1 ∧ XX7_await (μ 20) (μ 21) (μ 22) (μ 19) (μ 31) v1 v2 v3 v4 = some o2 ∧ o1.1 = o2.1 ∧ Inv (n + 1) (rb_ov (rb_ov μ [(5, o1.2.1), (6, o1.2.2.1), (14, o1.2.2.2.1), (13, o1.2.2.2.2)]) [(20, o2.2.1), (21, o2.2.2.1), (22, o2.2.2.2.1), (19, o2.2.2.2.2.1), (31, o2.2.2.2.2.2)])
/-- handle: class and reference answer alike, and stay related -/
def rb_S_handle (Inv : Nat → rb_Mem → Prop) : Prop := ∀ (n : Nat) (μ : rb_Mem) (v1 v2 : Int32), n < 512 → Inv n μ → ∃ (o1 : Int32) (o2 : Int32 × rb_Row), XX6_handle (μ 5) v1 v2 = some o1 ∧ XX7_handle (μ 21) (μ 20) v1 v2 = some o2 ∧ o1 = o2.1 ∧ Inv (n + 1) (rb_ov μ [(21, o2.2)])
/-- other: class and reference answer alike, and stay related -/
def rb_S_other (Inv : Nat → rb_Mem → Prop) : Prop := ∀ (n : Nat) (μ : rb_Mem) (v1 : Int32), n < 512 → Inv n μ → ∃ (o1 : Int32) (o2 : Int32), XX6_other (μ 5) v1 = some o1 ∧ XX7_other (μ 20) v1 = some o2 ∧ o1 = o2 ∧ Inv (n + 1) μ
/-- interest: class and reference answer alike, and stay related -/
def rb_S_interest (Inv : Nat → rb_Mem → Prop) : Prop := ∀ (n : Nat) (μ : rb_Mem) (v1 v2 v3 : Int32), n < 512 → Inv n μ → ∃ (o1 : Int32) (o2 : Int32 × rb_Row), XX6_interest (μ 5) v1 v2 v3 = some o1 ∧ XX7_interest (μ 21) (μ 20) v1 v2 v3 = some o2 ∧ o1 = o2.1 ∧ Inv (n + 1) (rb_ov μ [(21, o2.2)])
/-- listed: class and reference answer alike, and stay related -/
def rb_S_listed (Inv : Nat → rb_Mem → Prop) : Prop := ∀ (n : Nat) (μ : rb_Mem) (v1 : Int32), n < 512 → Inv n μ → ∃ (o1 : Int32) (o2 : Int32), XX6_listed (μ 5) v1 = some o1 ∧ XX7_listed (μ 20) v1 = some o2 ∧ o1 = o2 ∧ Inv (n + 1) μ
/-- shows: class and reference answer alike, and stay related -/
def rb_S_shows (Inv : Nat → rb_Mem → Prop) : Prop := ∀ (n : Nat) (μ : rb_Mem) (v1 : Int32), n < 512 → Inv n μ → ∃ (o1 : Int32) (o2 : Int32 × rb_Row), XX6_shows (μ 5) v1 = some o1 ∧ XX7_shows (μ 21) (μ 20) v1 = some o2 ∧ o1 = o2.1 ∧ Inv (n + 1) (rb_ov μ [(21, o2.2)])
/-- shown: class and reference answer alike, and stay related -/
def rb_S_shown (Inv : Nat → rb_Mem → Prop) : Prop := ∀ (n : Nat) (μ : rb_Mem) (v1 v2 : Int32), n < 512 → Inv n μ → ∃ (o1 : Int32) (o2 : Int32 × rb_Row), XX6_shown (μ 5) v1 v2 = some o1 ∧ XX7_shown (μ 21) (μ 20) v1 v2 = some o2 ∧ o1 = o2.1 ∧ Inv (n + 1) (rb_ov μ [(21, o2.2)])
/-- depth: class and reference answer alike, and stay related -/
def rb_S_depth (Inv : Nat → rb_Mem → Prop) : Prop := ∀ (n : Nat) (μ : rb_Mem) (v1 : Int32), n < 512 → Inv n μ → ∃ (o1 : Int32) (o2 : Int32 × rb_Row × rb_Row), XX6_depth (μ 5) v1 = some o1 ∧ XX7_depth (μ 27) (μ 28) (μ 20) v1 = some o2 ∧ o1 = o2.1 ∧ Inv (n + 1) (rb_ov μ [(27, o2.2.1), (28, o2.2.2)])
/-- sleeper: class and reference answer alike, and stay related -/
def rb_S_sleeper (Inv : Nat → rb_Mem → Prop) : Prop := ∀ (n : Nat) (μ : rb_Mem) (v1 v2 : Int32), n < 512 → Inv n μ → ∃ (o1 : Int32) (o2 : Int32), XX6_sleeper (μ 5) v1 v2 = some o1 ∧ XX7_sleeper (μ 20) v1 v2 = some o2 ∧ o1 = o2 ∧ Inv (n + 1) μ
/-- task: class and reference answer alike, and stay related -/
def rb_S_task (Inv : Nat → rb_Mem → Prop) : Prop := ∀ (n : Nat) (μ : rb_Mem) (v1 v2 : Int32), n < 512 → Inv n μ → ∃ (o1 : Int32) (o2 : Int32), XX6_task (μ 5) v1 v2 = some o1 ∧ XX7_task (μ 20) v1 v2 = some o2 ∧ o1 = o2 ∧ Inv (n + 1) μ
/-- got: class and reference answer alike, and stay related -/
def rb_S_got (Inv : Nat → rb_Mem → Prop) : Prop := ∀ (n : Nat) (μ : rb_Mem) (v1 v2 v3 : Int32), n < 512 → Inv n μ → ∃ (o1 : Int32) (o2 : Int32), XX6_got (μ 5) v1 v2 v3 = some o1 ∧ XX7_got (μ 20) v1 v2 v3 = some o2 ∧ o1 = o2 ∧ Inv (n + 1) μ
/-- wakes: class and reference answer alike, and stay related -/
def rb_S_wakes (Inv : Nat → rb_Mem → Prop) : Prop := ∀ (n : Nat) (μ : rb_Mem) (v1 : Int32), n < 512 → Inv n μ → ∃ (o1 : Int32 × rb_Row × rb_Row × rb_Row) (o2 : Int32 × rb_Row × rb_Row × rb_Row × rb_Row × rb_Row × rb_Row × rb_Row × rb_Row × rb_Row × rb_Row), XX6_wakes (μ 11) (μ 12) (μ 7) (μ 5) v1 = some o1 ∧ XX7_wakes (μ 20) (μ 21) (μ 22) (μ 19) (μ 23) (μ 24) (μ 25) (μ 26) (μ 29) (μ 31) v1 = some o2 ∧ o1.1 = o2.1 ∧ Inv (n + 1) (rb_ov (rb_ov μ [(11, o1.2.1), (12, o1.2.2.1), (7, o1.2.2.2)]) [(20, o2.2.1), (21, o2.2.2.1), (22, o2.2.2.2.1), (19, o2.2.2.2.2.1), (23, o2.2.2.2.2.2.1), (24, o2.2.2.2.2.2.2.1), (25, o2.2.2.2.2.2.2.2.1), (26, o2.2.2.2.2.2.2.2.2.1), (29, o2.2.2.2.2.2.2.2.2.2.1), (31, o2.2.2.2.2.2.2.2.2.2.2)])
/-- plan: class and reference answer alike, and stay related -/
def rb_S_plan (Inv : Nat → rb_Mem → Prop) : Prop := ∀ (n : Nat) (μ : rb_Mem) (v1 v2 v3 v4 : Int32), n < 512 → Inv n μ → ∃ (o1 : Int32 × rb_Row × rb_Row × rb_Row) (o2 : Int32 × rb_Row × rb_Row × rb_Row), XX6_plan (μ 5) (μ 14) (μ 13) v1 v2 v3 v4 = some o1 ∧ XX7_plan (μ 20) (μ 19) (μ 31) v1 v2 v3 v4 = some o2 ∧ o1.1 = o2.1 ∧ Inv (n + 1) (rb_ov (rb_ov μ [(5, o1.2.1), (14, o1.2.2.1), (13, o1.2.2.2)]) [(20, o2.2.1), (19, o2.2.2.1), (31, o2.2.2.2)])
/-- round: class and reference answer alike, and stay related -/
def rb_S_round (Inv : Nat → rb_Mem → Prop) : Prop := ∀ (n : Nat) (μ : rb_Mem) (v1 v2 : Int32), n < 512 → Inv n μ → (v2 = 0 ∨ v2 = 1) → ∃ (o1 : Int32 × rb_Row × rb_Row × rb_Row) (o2 : Int32 × rb_Row × rb_Row × rb_Row), XX6_round (μ 5) (μ 14) (μ 13) v1 v2 = some o1 ∧ XX7_round (μ 20) (μ 19) (μ 31) v1 v2 = some o2 ∧ o1.1 = o2.1 ∧ Inv (n + 1) (rb_ov (rb_ov μ [(5, o1.2.1), (14, o1.2.2.1), (13, o1.2.2.2)]) [(20, o2.2.1), (19, o2.2.2.1), (31, o2.2.2.2)])
/-- rounds: class and reference answer alike, and stay related -/
def rb_S_rounds (Inv : Nat → rb_Mem → Prop) : Prop := ∀ (n : Nat) (μ : rb_Mem) (v1 : Int32), n < 512 → Inv n μ → ∃ (o1 : Int32 × rb_Row × rb_Row × rb_Row × rb_Row × rb_Row) (o2 : Int32 × rb_Row × rb_Row × rb_Row × rb_Row × rb_Row × rb_Row × rb_Row × rb_Row × rb_Row), XX6_rounds (μ 5) (μ 6) (μ 1) (μ 14) (μ 13) v1 = some o1 ∧ XX7_rounds (μ 20) (μ 21) (μ 22) (μ 19) (μ 23) (μ 24) (μ 25) (μ 26) (μ 31) v1 = some o2 ∧ o1.1 = o2.1 ∧ Inv (n + 1) (rb_ov (rb_ov μ [(5, o1.2.1), (6, o1.2.2.1), (1, o1.2.2.2.1), (14, o1.2.2.2.2.1), (13, o1.2.2.2.2.2)]) [(20, o2.2.1), (21, o2.2.2.1), (22, o2.2.2.2.1), (19, o2.2.2.2.2.1), (23, o2.2.2.2.2.2.1), (24, o2.2.2.2.2.2.2.1), (25, o2.2.2.2.2.2.2.2.1), (26, o2.2.2.2.2.2.2.2.2.1), (31, o2.2.2.2.2.2.2.2.2.2)])
/-- stuck: class and reference answer alike, and stay related -/
def rb_S_stuck (Inv : Nat → rb_Mem → Prop) : Prop := ∀ (n : Nat) (μ : rb_Mem), n < 512 → Inv n μ → ∃ (o1 : Int32 × rb_Row × rb_Row × rb_Row) (o2 : Int32 × rb_Row × rb_Row × rb_Row × rb_Row × rb_Row × rb_Row × rb_Row × rb_Row × rb_Row × rb_Row), XX6_stuck (μ 11) (μ 12) (μ 7) (μ 5) = some o1 ∧ XX7_stuck (μ 20) (μ 21) (μ 22) (μ 19) (μ 23) (μ 24) (μ 25) (μ 26) (μ 29) (μ 31) = some o2 ∧ o1.1 = o2.1 ∧ Inv (n + 1) (rb_ov (rb_ov μ [(11, o1.2.1), (12, o1.2.2.1), (7, o1.2.2.2)]) [(20, o2.2.1), (21, o2.2.2.1), (22, o2.2.2.2.1), (19, o2.2.2.2.2.1), (23, o2.2.2.2.2.2.1), (24, o2.2.2.2.2.2.2.1), (25, o2.2.2.2.2.2.2.2.1), (26, o2.2.2.2.2.2.2.2.2.1), (29, o2.2.2.2.2.2.2.2.2.2.1), (31, o2.2.2.2.2.2.2.2.2.2.2)])
/-- soon: class and reference answer alike, and stay related -/
def rb_S_soon (Inv : Nat → rb_Mem → Prop) : Prop := ∀ (n : Nat) (μ : rb_Mem) (v1 : Int32), n < 512 → Inv n μ → ∃ (o1 : Int32 × rb_Row × rb_Row × rb_Row) (o2 : Int32 × rb_Row × rb_Row × rb_Row × rb_Row × rb_Row × rb_Row × rb_Row × rb_Row × rb_Row), XX6_soon (μ 11) (μ 12) (μ 7) (μ 5) v1 = some o1 ∧ XX7_soon (μ 20) (μ 21) (μ 22) (μ 19) (μ 23) (μ 24) (μ 25) (μ 26) (μ 29) v1 = some o2 ∧ o1.1 = o2.1 ∧ Inv (n + 1) (rb_ov (rb_ov μ [(11, o1.2.1), (12, o1.2.2.1), (7, o1.2.2.2)]) [(20, o2.2.1), (21, o2.2.2.1), (22, o2.2.2.2.1), (19, o2.2.2.2.2.1), (23, o2.2.2.2.2.2.1), (24, o2.2.2.2.2.2.2.1), (25, o2.2.2.2.2.2.2.2.1), (26, o2.2.2.2.2.2.2.2.2.1), (29, o2.2.2.2.2.2.2.2.2.2)])
/-- calls: class and reference answer alike, and stay related -/
def rb_S_calls (Inv : Nat → rb_Mem → Prop) : Prop := ∀ (n : Nat) (μ : rb_Mem) (v1 v2 : Int32), n < 512 → Inv n μ → ∃ (o1 : Int32 × rb_Row × rb_Row × rb_Row) (o2 : Int32 × rb_Row × rb_Row × rb_Row × rb_Row × rb_Row × rb_Row × rb_Row × rb_Row × rb_Row), XX6_calls (μ 11) (μ 12) (μ 7) (μ 5) v1 v2 = some o1 ∧ XX7_calls (μ 20) (μ 21) (μ 22) (μ 19) (μ 23) (μ 24) (μ 25) (μ 26) (μ 29) v1 v2 = some o2 ∧ o1.1 = o2.1 ∧ Inv (n + 1) (rb_ov (rb_ov μ [(11, o1.2.1), (12, o1.2.2.1), (7, o1.2.2.2)]) [(20, o2.2.1), (21, o2.2.2.1), (22, o2.2.2.2.1), (19, o2.2.2.2.2.1), (23, o2.2.2.2.2.2.1), (24, o2.2.2.2.2.2.2.1), (25, o2.2.2.2.2.2.2.2.1), (26, o2.2.2.2.2.2.2.2.2.1), (29, o2.2.2.2.2.2.2.2.2.2)])
/-- image: class and reference answer alike, and stay related -/
def rb_S_image (Inv : Nat → rb_Mem → Prop) : Prop := ∀ (n : Nat) (μ : rb_Mem) (v1 : Int32), n < 512 → Inv n μ → ∃ (o1 : Int32 × rb_Row × rb_Row) (o2 : Int32 × rb_Row × rb_Row), XX6_image (μ 18) (μ 0) (μ 5) v1 = some o1 ∧ XX7_image (μ 32) (μ 33) (μ 20) v1 = some o2 ∧ o1.1 = o2.1 ∧ Inv (n + 1) (rb_ov (rb_ov μ [(18, o1.2.1), (0, o1.2.2)]) [(32, o2.2.1), (33, o2.2.2)])
/-- back: class and reference answer alike, and stay related -/
def rb_S_back (Inv : Nat → rb_Mem → Prop) : Prop := ∀ (n : Nat) (μ : rb_Mem) (v1 : Int32), n < 512 → Inv n μ → ∃ (o1 : Int32 × rb_Row × rb_Row × rb_Row) (o2 : Int32 × rb_Row × rb_Row), XX6_back (μ 5) (μ 14) (μ 13) (μ 18) (μ 0) v1 = some o1 ∧ XX7_back (μ 20) (μ 19) (μ 32) (μ 33) v1 = some o2 ∧ o1.1 = o2.1 ∧ Inv (n + 1) (rb_ov (rb_ov μ [(5, o1.2.1), (14, o1.2.2.1), (13, o1.2.2.2)]) [(20, o2.2.1), (19, o2.2.2)])
/-- forget: class and reference answer alike, and stay related -/
def rb_S_forget (Inv : Nat → rb_Mem → Prop) : Prop := ∀ (n : Nat) (μ : rb_Mem) (v1 : Int32), n < 512 → Inv n μ → ∃ (o1 : Int32 × rb_Row × rb_Row × rb_Row) (o2 : Int32 × rb_Row × rb_Row × rb_Row), XX6_forget (μ 5) (μ 14) (μ 13) v1 = some o1 ∧ XX7_forget (μ 20) (μ 19) (μ 31) v1 = some o2 ∧ o1.1 = o2.1 ∧ Inv (n + 1) (rb_ov (rb_ov μ [(5, o1.2.1), (14, o1.2.2.1), (13, o1.2.2.2)]) [(20, o2.2.1), (19, o2.2.2.1), (31, o2.2.2.2)])
/-- step: class and reference answer alike, and stay related -/
def rb_S_step (Inv : Nat → rb_Mem → Prop) : Prop := ∀ (n : Nat) (μ : rb_Mem) (v1 : Int32), n < 512 → Inv n μ → ∃ (o1 : Int32 × rb_Row × rb_Row × rb_Row × rb_Row × rb_Row) (o2 : Int32 × rb_Row × rb_Row × rb_Row × rb_Row × rb_Row × rb_Row × rb_Row × rb_Row × rb_Row), XX6_step (μ 5) (μ 6) (μ 1) (μ 14) (μ 13) v1 = some o1 ∧ XX7_step (μ 20) (μ 21) (μ 22) (μ 19) (μ 23) (μ 24) (μ 25) (μ 26) (μ 31) v1 = some o2 ∧ o1.1 = o2.1 ∧ Inv (n + 1) (rb_ov (rb_ov μ [(5, o1.2.1), (6, o1.2.2.1), (1, o1.2.2.2.1), (14, o1.2.2.2.2.1), (13, o1.2.2.2.2.2)]) [(20, o2.2.1), (21, o2.2.2.1), (22, o2.2.2.2.1), (19, o2.2.2.2.2.1), (23, o2.2.2.2.2.2.1), (24, o2.2.2.2.2.2.2.1), (25, o2.2.2.2.2.2.2.2.1), (26, o2.2.2.2.2.2.2.2.2.1), (31, o2.2.2.2.2.2.2.2.2.2)])
/-- orders: class and reference answer alike, and stay related -/
def rb_S_orders (Inv : Nat → rb_Mem → Prop) : Prop := ∀ (n : Nat) (μ : rb_Mem) (v1 v2 v3 : Int32), n < 512 → Inv n μ → ∃ (o1 : Int32 × rb_Row × rb_Row × rb_Row × rb_Row × rb_Row × rb_Row) (o2 : Int32 × rb_Row × rb_Row × rb_Row × rb_Row × rb_Row × rb_Row × rb_Row × rb_Row × rb_Row × rb_Row × rb_Row), XX6_orders (μ 11) (μ 12) (μ 7) (μ 16) (μ 17) (μ 15) (μ 5) v1 v2 v3 = some o1 ∧ XX7_orders (μ 20) (μ 21) (μ 22) (μ 19) (μ 23) (μ 24) (μ 25) (μ 26) (μ 29) (μ 30) (μ 31) v1 v2 v3 = some o2 ∧ o1.1 = o2.1 ∧ Inv (n + 1) (rb_ov (rb_ov μ [(11, o1.2.1), (12, o1.2.2.1), (7, o1.2.2.2.1), (16, o1.2.2.2.2.1), (17, o1.2.2.2.2.2.1), (15, o1.2.2.2.2.2.2)]) [(20, o2.2.1), (21, o2.2.2.1), (22, o2.2.2.2.1), (19, o2.2.2.2.2.1), (23, o2.2.2.2.2.2.1), (24, o2.2.2.2.2.2.2.1), (25, o2.2.2.2.2.2.2.2.1), (26, o2.2.2.2.2.2.2.2.2.1), (29, o2.2.2.2.2.2.2.2.2.2.1), (30, o2.2.2.2.2.2.2.2.2.2.2.1), (31, o2.2.2.2.2.2.2.2.2.2.2.2)])
/-- undo: class and reference answer alike, and stay related -/
def rb_S_undo (Inv : Nat → rb_Mem → Prop) : Prop := ∀ (n : Nat) (μ : rb_Mem), n < 512 → Inv n μ → ∃ (o1 : Int32 × rb_Row × rb_Row) (o2 : Int32 × rb_Row × rb_Row × rb_Row), XX6_undo (μ 5) (μ 13) (μ 14) = some o1 ∧ XX7_undo (μ 20) (μ 19) (μ 31) = some o2 ∧ o1.1 = o2.1 ∧ Inv (n + 1) (rb_ov (rb_ov μ [(5, o1.2.1), (13, o1.2.2)]) [(20, o2.2.1), (19, o2.2.2.1), (31, o2.2.2.2)])
/-- redo: class and reference answer alike, and stay related -/
def rb_S_redo (Inv : Nat → rb_Mem → Prop) : Prop := ∀ (n : Nat) (μ : rb_Mem), n < 512 → Inv n μ → ∃ (o1 : Int32 × rb_Row × rb_Row) (o2 : Int32 × rb_Row × rb_Row × rb_Row), XX6_redo (μ 5) (μ 13) (μ 14) = some o1 ∧ XX7_redo (μ 20) (μ 19) (μ 31) = some o2 ∧ o1.1 = o2.1 ∧ Inv (n + 1) (rb_ov (rb_ov μ [(5, o1.2.1), (13, o1.2.2)]) [(20, o2.2.1), (19, o2.2.2.1), (31, o2.2.2.2)])
/-- about: class and reference answer alike, and stay related -/
def rb_S_about (Inv : Nat → rb_Mem → Prop) : Prop := ∀ (n : Nat) (μ : rb_Mem) (v1 : Int32), n < 512 → Inv n μ → ∃ (o1 : Int32) (o2 : Int32), XX6_about (μ 5) (μ 13) v1 = some o1 ∧ XX7_about (μ 20) (μ 19) v1 = some o2 ∧ o1 = o2 ∧ Inv (n + 1) μ
def rb_Sim (Inv : Nat → rb_Mem → Prop) : Prop := rb_S_pipe Inv ∧ rb_S_counter Inv ∧ rb_S_timer Inv ∧ rb_S_set Inv ∧ rb_S_listener Inv ∧ rb_S_connect Inv ∧ rb_S_accept Inv ∧ rb_S_twin Inv ∧ rb_S_close Inv ∧ rb_S_write Inv ∧ rb_S_read Inv ∧ rb_S_arm Inv ∧ rb_S_tick Inv ∧ rb_S_add Inv ∧ rb_S_change Inv ∧ rb_S_drop Inv ∧ rb_S_collect Inv ∧ rb_S_await Inv ∧ rb_S_handle Inv ∧ rb_S_other Inv ∧ rb_S_interest Inv ∧ rb_S_listed Inv ∧ rb_S_shows Inv ∧ rb_S_shown Inv ∧ rb_S_depth Inv ∧ rb_S_sleeper Inv ∧ rb_S_task Inv ∧ rb_S_got Inv ∧ rb_S_wakes Inv ∧ rb_S_plan Inv ∧ rb_S_round Inv ∧ rb_S_rounds Inv ∧ rb_S_stuck Inv ∧ rb_S_soon Inv ∧ rb_S_calls Inv ∧ rb_S_image Inv ∧ rb_S_back Inv ∧ rb_S_forget Inv ∧ rb_S_step Inv ∧ rb_S_orders Inv ∧ rb_S_undo Inv ∧ rb_S_redo Inv ∧ rb_S_about Inv
theorem rb_bz (v : Int32) : (if v = 0 then (0 : Int32) else 1) = 0 ∨ (if v = 0 then (0 : Int32) else 1) = 1 := by
  by_cases h : v = 0
  · rw [if_pos h]; exact Or.inl rfl
  · rw [if_neg h]; exact Or.inr rfl
theorem rb_lcmp {N m : Nat} (hN : N ≤ 2560) (hm : m ≤ 3000) : (Int32.ofNat N - 5 < nI m) ↔ (N : Int) - 5 < m := by
  rw [Int32.lt_iff_toInt_lt, Int32.toInt_sub]
  have h1 : (Int32.ofNat N).toInt = (N : Int) := nI_toInt (n := N) (by omega)
  have h2 : (nI m).toInt = (m : Int) := nI_toInt (by omega)
  have h3 : (5 : Int32).toInt = 5 := by decide
  rw [h1, h2, h3]
  have h4 : ((N : Int) - 5).bmod (2 ^ 32) = (N : Int) - 5 := by
    rw [Int.bmod_def]
    split <;> omega
  rw [h4]
section rb_law
variable {N : Nat} {xs : rb_Row} {μ μf : rb_Mem} {n : Nat}
theorem law_end (hN : N ≤ 2560) (hn : n ≤ 513) (h : (N : Int) - 5 < ((5 * n : Nat) : Int)) : rb_Ev RL cL_law 4 (some .boolean) (some (N, xs)) 60 (some 1) μ 18 [some (.inr 99), some (.inr 0), some (.inr 19), some (.inl (nI (5 * n)))] [] μ := by
  refine ev_iload_n (v := nI (5 * n)) (pc := 18) dL_law_18 rfl ?_
  refine ev_aload_n (v := 99) (pc := 19) dL_law_19 rfl ?_
  refine ev_slen (xs := xs) (pc := 20) dL_law_20 rfl ?_
  refine ev_iconst (v := 5) (pc := 21) dL_law_21 ki_5 ?_
  refine ev_isub (pc := 22) dL_law_22 ?_
  refine ev_icmp_gt_t (t := 1527) (pc := 23) dL_law_23 (by decide) ((rb_lcmp hN (by omega)).mpr h) ?_
  refine ev_iconst (v := 1) (pc := 1527) dL_law_1527 ki_1 ?_
  exact ev_iret (pc := 1528) dL_law_1528 rfl rfl rfl rfl
theorem law_pre (hN : N ≤ 2560) (hn : n ≤ 513) (h : ¬ (N : Int) - 5 < ((5 * n : Nat) : Int)) {v : Int32} (e0 : rb_rd xs N (nI (5 * n)) = some v) (K : rb_Ev RL cL_law 4 (some .boolean) (some (N, xs)) 60 (some 1) μf 32 [some (.inr 99), some (.inr 0), some (.inr 19), some (.inl (nI (5 * n)))] [.inl (v &&& 63)] μ) : rb_Ev RL cL_law 4 (some .boolean) (some (N, xs)) 60 (some 1) μf 18 [some (.inr 99), some (.inr 0), some (.inr 19), some (.inl (nI (5 * n)))] [] μ := by
  refine ev_iload_n (v := nI (5 * n)) (pc := 18) dL_law_18 rfl ?_
  refine ev_aload_n (v := 99) (pc := 19) dL_law_19 rfl ?_
  refine ev_slen (xs := xs) (pc := 20) dL_law_20 rfl ?_
  refine ev_iconst (v := 5) (pc := 21) dL_law_21 ki_5 ?_
  refine ev_isub (pc := 22) dL_law_22 ?_
  refine ev_icmp_gt_f (t := 1527) (pc := 23) dL_law_23 (by decide) (fun q => h ((rb_lcmp hN (by omega)).mp q)) ?_
  refine ev_aload_n (v := 99) (pc := 26) dL_law_26 rfl ?_
  refine ev_iload_n (v := nI (5 * n)) (pc := 27) dL_law_27 rfl ?_
  refine ev_sld (pc := 28) dL_law_28 rfl e0 ?_
  refine ev_bipush (v := 63) (pc := 29) dL_law_29 kb_63 ?_
  exact ev_iand (pc := 31) dL_law_31 K
theorem law_next (K : rb_Ev RL cL_law 4 (some .boolean) (some (N, xs)) 60 (some 1) μf 18 [some (.inr 99), some (.inr 0), some (.inr 19), some (.inl (nI (5 * (n + 1))))] [] μ) : rb_Ev RL cL_law 4 (some .boolean) (some (N, xs)) 60 (some 1) μf 1521 [some (.inr 99), some (.inr 0), some (.inr 19), some (.inl (nI (5 * n)))] [] μ := by
  have e : nI (5 * n) + 5 = nI (5 * (n + 1)) := by
    rw [li_5, nI_add, Nat.mul_add]
  refine ev_iinc (x := nI (5 * n)) (v := nI (5 * (n + 1))) (L' := [some (.inr 99), some (.inr 0), some (.inr 19), some (.inl (nI (5 * (n + 1))))]) (pc := 1521) dL_law_1521 rfl ((kx_5 _).trans e) (Nat.le_of_ble_eq_true rfl) rfl ?_
  exact ev_goto (t := 18) (pc := 1524) dL_law_1524 (by decide) K
end rb_law
set_option maxHeartbeats 8000000 in
set_option maxRecDepth 20000 in
theorem law_loop {Inv : Nat → rb_Mem → Prop} (hmono : ∀ n μ, Inv n μ → Inv (n + 1) μ) (hsim : rb_Sim Inv) {N : Nat} {xs : rb_Row} (hN : N ≤ 2560) : ∀ (d n : Nat) (μ : rb_Mem), n + d = 513 → Inv n μ → ∃ μf, rb_Ev RL cL_law 4 (some .boolean) (some (N, xs)) 60 (some 1) μf 18 [some (.inr 99), some (.inr 0), some (.inr 19), some (.inl (nI (5 * n)))] [] μ := by
  intro d
  induction d with
  | zero =>
    intro n μ hd hI
    exact ⟨μ, law_end hN (by omega) (by omega)⟩
  | succ d ih =>
    intro n μ hd hI
    by_cases hc : (N : Int) - 5 < ((5 * n : Nat) : Int)
    · exact ⟨μ, law_end hN (by omega) hc⟩
    have hn : n < 512 := by omega
    have e0 : rb_rd xs N (nI (5 * n)) = some (xs (5 * n)) := rb_rdn (by omega) (by omega)
    have e1 : rb_rd xs N (nI (5 * n) + 1) = some (xs (5 * n + 1)) := by rw [li_1, nI_add]; exact rb_rdn (by omega) (by omega)
    have e2 : rb_rd xs N (nI (5 * n) + 2) = some (xs (5 * n + 2)) := by rw [li_2, nI_add]; exact rb_rdn (by omega) (by omega)
    have e3 : rb_rd xs N (nI (5 * n) + 3) = some (xs (5 * n + 3)) := by rw [li_3, nI_add]; exact rb_rdn (by omega) (by omega)
    have e4 : rb_rd xs N (nI (5 * n) + 4) = some (xs (5 * n + 4)) := by rw [li_4, nI_add]; exact rb_rdn (by omega) (by omega)
    have hnx : ∀ μ', Inv (n + 1) μ' → ∃ μf, rb_Ev RL cL_law 4 (some .boolean) (some (N, xs)) 60 (some 1) μf 1521 [some (.inr 99), some (.inr 0), some (.inr 19), some (.inl (nI (5 * n)))] [] μ' := fun μ' hI' => by
      obtain ⟨μf, K⟩ := ih (n + 1) μ' (by omega) hI'
      exact ⟨μf, law_next K⟩
    suffices hm : ∃ μf, rb_Ev RL cL_law 4 (some .boolean) (some (N, xs)) 60 (some 1) μf 32 [some (.inr 99), some (.inr 0), some (.inr 19), some (.inl (nI (5 * n)))] [.inl (xs (5 * n) &&& 63)] μ by
      obtain ⟨μf, K⟩ := hm
      exact ⟨μf, law_pre hN (by omega) hc e0 K⟩
    generalize xs (5 * n) &&& 63 = x
    by_cases b0 : x = 0
    · obtain ⟨o1, o2, h1, h2, he, hI2⟩ := hsim.1 n μ (xs (5 * n + 1)) hn hI
      obtain ⟨μf, K⟩ := hnx _ hI2
      exact ⟨μf, ev_tsIn (t := 220) (off := 188) (pc := 32) dL_law_32 (by rw [b0]; decide) (by rw [b0]; decide) (by rw [b0]; decide) (by decide) (lc_pipe e1 h1 h2 he K)⟩
    by_cases b1 : x = 1
    · obtain ⟨o1, o2, h1, h2, he, hI2⟩ := hsim.2.1 n μ (xs (5 * n + 1)) (if xs (5 * n + 2) = 0 then 0 else 1) hn hI (rb_bz _)
      obtain ⟨μf, K⟩ := hnx _ hI2
      exact ⟨μf, ev_tsIn (t := 243) (off := 211) (pc := 32) dL_law_32 (by rw [b1]; decide) (by rw [b1]; decide) (by rw [b1]; decide) (by decide) (lc_counter e1 e2 rfl h1 h2 he K)⟩
    by_cases b2 : x = 2
    · obtain ⟨o1, o2, h1, h2, he, hI2⟩ := hsim.2.2.1 n μ  hn hI
      obtain ⟨μf, K⟩ := hnx _ hI2
      exact ⟨μf, ev_tsIn (t := 292) (off := 260) (pc := 32) dL_law_32 (by rw [b2]; decide) (by rw [b2]; decide) (by rw [b2]; decide) (by decide) (lc_timer  h1 h2 he K)⟩
    by_cases b3 : x = 3
    · obtain ⟨o1, o2, h1, h2, he, hI2⟩ := hsim.2.2.2.1 n μ  hn hI
      obtain ⟨μf, K⟩ := hnx _ hI2
      exact ⟨μf, ev_tsIn (t := 305) (off := 273) (pc := 32) dL_law_32 (by rw [b3]; decide) (by rw [b3]; decide) (by rw [b3]; decide) (by decide) (lc_set  h1 h2 he K)⟩
    by_cases b4 : x = 4
    · obtain ⟨o1, o2, h1, h2, he, hI2⟩ := hsim.2.2.2.2.1 n μ (xs (5 * n + 1)) (xs (5 * n + 2)) hn hI
      obtain ⟨μf, K⟩ := hnx _ hI2
      exact ⟨μf, ev_tsIn (t := 318) (off := 286) (pc := 32) dL_law_32 (by rw [b4]; decide) (by rw [b4]; decide) (by rw [b4]; decide) (by decide) (lc_listener e1 e2 h1 h2 he K)⟩
    by_cases b5 : x = 5
    · obtain ⟨o1, o2, h1, h2, he, hI2⟩ := hsim.2.2.2.2.2.1 n μ (xs (5 * n + 1)) hn hI
      obtain ⟨μf, K⟩ := hnx _ hI2
      exact ⟨μf, ev_tsIn (t := 351) (off := 319) (pc := 32) dL_law_32 (by rw [b5]; decide) (by rw [b5]; decide) (by rw [b5]; decide) (by decide) (lc_connect e1 h1 h2 he K)⟩
    by_cases b6 : x = 6
    · obtain ⟨o1, o2, h1, h2, he, hI2⟩ := hsim.2.2.2.2.2.2.1 n μ (xs (5 * n + 1)) hn hI
      obtain ⟨μf, K⟩ := hnx _ hI2
      exact ⟨μf, ev_tsIn (t := 374) (off := 342) (pc := 32) dL_law_32 (by rw [b6]; decide) (by rw [b6]; decide) (by rw [b6]; decide) (by decide) (lc_accept e1 h1 h2 he K)⟩
    by_cases b7 : x = 7
    · obtain ⟨o1, o2, h1, h2, he, hI2⟩ := hsim.2.2.2.2.2.2.2.1 n μ (xs (5 * n + 1)) hn hI
      obtain ⟨μf, K⟩ := hnx _ hI2
      exact ⟨μf, ev_tsIn (t := 397) (off := 365) (pc := 32) dL_law_32 (by rw [b7]; decide) (by rw [b7]; decide) (by rw [b7]; decide) (by decide) (lc_twin e1 h1 h2 he K)⟩
    by_cases b8 : x = 8
    · obtain ⟨o1, o2, h1, h2, he, hI2⟩ := hsim.2.2.2.2.2.2.2.2.1 n μ (xs (5 * n + 1)) hn hI
      obtain ⟨μf, K⟩ := hnx _ hI2
      exact ⟨μf, ev_tsIn (t := 420) (off := 388) (pc := 32) dL_law_32 (by rw [b8]; decide) (by rw [b8]; decide) (by rw [b8]; decide) (by decide) (lc_close e1 h1 h2 he K)⟩
    by_cases b9 : x = 9
    · obtain ⟨o1, o2, h1, h2, he, hI2⟩ := hsim.2.2.2.2.2.2.2.2.2.1 n μ (xs (5 * n + 1)) (xs (5 * n + 2)) hn hI
      obtain ⟨μf, K⟩ := hnx _ hI2
      exact ⟨μf, ev_tsIn (t := 443) (off := 411) (pc := 32) dL_law_32 (by rw [b9]; decide) (by rw [b9]; decide) (by rw [b9]; decide) (by decide) (lc_write e1 e2 h1 h2 he K)⟩
    by_cases b10 : x = 10
    · obtain ⟨o1, o2, h1, h2, he, hI2⟩ := hsim.2.2.2.2.2.2.2.2.2.2.1 n μ (xs (5 * n + 1)) (xs (5 * n + 2)) hn hI
      obtain ⟨μf, K⟩ := hnx _ hI2
      exact ⟨μf, ev_tsIn (t := 476) (off := 444) (pc := 32) dL_law_32 (by rw [b10]; decide) (by rw [b10]; decide) (by rw [b10]; decide) (by decide) (lc_read e1 e2 h1 h2 he K)⟩
    by_cases b11 : x = 11
    · obtain ⟨o1, o2, h1, h2, he, hI2⟩ := hsim.2.2.2.2.2.2.2.2.2.2.2.1 n μ (xs (5 * n + 1)) (xs (5 * n + 2)) (xs (5 * n + 3)) hn hI
      obtain ⟨μf, K⟩ := hnx _ hI2
      exact ⟨μf, ev_tsIn (t := 509) (off := 477) (pc := 32) dL_law_32 (by rw [b11]; decide) (by rw [b11]; decide) (by rw [b11]; decide) (by decide) (lc_arm e1 e2 e3 h1 h2 he K)⟩
    by_cases b12 : x = 12
    · obtain ⟨o1, o2, h1, h2, he, hI2⟩ := hsim.2.2.2.2.2.2.2.2.2.2.2.2.1 n μ (xs (5 * n + 1)) hn hI
      obtain ⟨μf, K⟩ := hnx _ hI2
      exact ⟨μf, ev_tsIn (t := 552) (off := 520) (pc := 32) dL_law_32 (by rw [b12]; decide) (by rw [b12]; decide) (by rw [b12]; decide) (by decide) (lc_tick e1 h1 h2 he K)⟩
    by_cases b13 : x = 13
    · obtain ⟨o1, o2, h1, h2, he, hI2⟩ := hsim.2.2.2.2.2.2.2.2.2.2.2.2.2.1 n μ (xs (5 * n + 1)) (xs (5 * n + 2)) (xs (5 * n + 3)) (xs (5 * n + 4)) hn hI
      obtain ⟨μf, K⟩ := hnx _ hI2
      exact ⟨μf, ev_tsIn (t := 575) (off := 543) (pc := 32) dL_law_32 (by rw [b13]; decide) (by rw [b13]; decide) (by rw [b13]; decide) (by decide) (lc_add e1 e2 e3 e4 h1 h2 he K)⟩
    by_cases b14 : x = 14
    · obtain ⟨o1, o2, h1, h2, he, hI2⟩ := hsim.2.2.2.2.2.2.2.2.2.2.2.2.2.2.1 n μ (xs (5 * n + 1)) (xs (5 * n + 2)) (xs (5 * n + 3)) (xs (5 * n + 4)) hn hI
      obtain ⟨μf, K⟩ := hnx _ hI2
      exact ⟨μf, ev_tsIn (t := 628) (off := 596) (pc := 32) dL_law_32 (by rw [b14]; decide) (by rw [b14]; decide) (by rw [b14]; decide) (by decide) (lc_change e1 e2 e3 e4 h1 h2 he K)⟩
    by_cases b15 : x = 15
    · obtain ⟨o1, o2, h1, h2, he, hI2⟩ := hsim.2.2.2.2.2.2.2.2.2.2.2.2.2.2.2.1 n μ (xs (5 * n + 1)) (xs (5 * n + 2)) hn hI
      obtain ⟨μf, K⟩ := hnx _ hI2
      exact ⟨μf, ev_tsIn (t := 681) (off := 649) (pc := 32) dL_law_32 (by rw [b15]; decide) (by rw [b15]; decide) (by rw [b15]; decide) (by decide) (lc_drop e1 e2 h1 h2 he K)⟩
    by_cases b16 : x = 16
    · obtain ⟨o1, o2, h1, h2, he, hI2⟩ := hsim.2.2.2.2.2.2.2.2.2.2.2.2.2.2.2.2.1 n μ (xs (5 * n + 1)) (xs (5 * n + 2)) (xs (5 * n + 3)) hn hI
      obtain ⟨μf, K⟩ := hnx _ hI2
      exact ⟨μf, ev_tsIn (t := 714) (off := 682) (pc := 32) dL_law_32 (by rw [b16]; decide) (by rw [b16]; decide) (by rw [b16]; decide) (by decide) (lc_collect e1 e2 e3 h1 h2 he K)⟩
    by_cases b17 : x = 17
    · obtain ⟨o1, o2, h1, h2, he, hI2⟩ := hsim.2.2.2.2.2.2.2.2.2.2.2.2.2.2.2.2.2.1 n μ (xs (5 * n + 1)) (xs (5 * n + 2)) (xs (5 * n + 3)) (xs (5 * n + 4)) hn hI
      obtain ⟨μf, K⟩ := hnx _ hI2
      exact ⟨μf, ev_tsIn (t := 757) (off := 725) (pc := 32) dL_law_32 (by rw [b17]; decide) (by rw [b17]; decide) (by rw [b17]; decide) (by decide) (lc_await e1 e2 e3 e4 h1 h2 he K)⟩
    by_cases b18 : x = 18
    · obtain ⟨o1, o2, h1, h2, he, hI2⟩ := hsim.2.2.2.2.2.2.2.2.2.2.2.2.2.2.2.2.2.2.1 n μ (xs (5 * n + 1)) (xs (5 * n + 2)) hn hI
      obtain ⟨μf, K⟩ := hnx _ hI2
      exact ⟨μf, ev_tsIn (t := 810) (off := 778) (pc := 32) dL_law_32 (by rw [b18]; decide) (by rw [b18]; decide) (by rw [b18]; decide) (by decide) (lc_handle e1 e2 h1 h2 he K)⟩
    by_cases b19 : x = 19
    · obtain ⟨o1, o2, h1, h2, he, hI2⟩ := hsim.2.2.2.2.2.2.2.2.2.2.2.2.2.2.2.2.2.2.2.1 n μ (xs (5 * n + 1)) hn hI
      obtain ⟨μf, K⟩ := hnx _ hI2
      exact ⟨μf, ev_tsIn (t := 843) (off := 811) (pc := 32) dL_law_32 (by rw [b19]; decide) (by rw [b19]; decide) (by rw [b19]; decide) (by decide) (lc_other e1 h1 h2 he K)⟩
    by_cases b20 : x = 20
    · obtain ⟨o1, o2, h1, h2, he, hI2⟩ := hsim.2.2.2.2.2.2.2.2.2.2.2.2.2.2.2.2.2.2.2.2.1 n μ (xs (5 * n + 1)) (xs (5 * n + 2)) (xs (5 * n + 3)) hn hI
      obtain ⟨μf, K⟩ := hnx _ hI2
      exact ⟨μf, ev_tsIn (t := 866) (off := 834) (pc := 32) dL_law_32 (by rw [b20]; decide) (by rw [b20]; decide) (by rw [b20]; decide) (by decide) (lc_interest e1 e2 e3 h1 h2 he K)⟩
    by_cases b21 : x = 21
    · obtain ⟨o1, o2, h1, h2, he, hI2⟩ := hsim.2.2.2.2.2.2.2.2.2.2.2.2.2.2.2.2.2.2.2.2.2.1 n μ (xs (5 * n + 1)) hn hI
      obtain ⟨μf, K⟩ := hnx _ hI2
      exact ⟨μf, ev_tsIn (t := 909) (off := 877) (pc := 32) dL_law_32 (by rw [b21]; decide) (by rw [b21]; decide) (by rw [b21]; decide) (by decide) (lc_listed e1 h1 h2 he K)⟩
    by_cases b22 : x = 22
    · obtain ⟨o1, o2, h1, h2, he, hI2⟩ := hsim.2.2.2.2.2.2.2.2.2.2.2.2.2.2.2.2.2.2.2.2.2.2.1 n μ (xs (5 * n + 1)) hn hI
      obtain ⟨μf, K⟩ := hnx _ hI2
      exact ⟨μf, ev_tsIn (t := 932) (off := 900) (pc := 32) dL_law_32 (by rw [b22]; decide) (by rw [b22]; decide) (by rw [b22]; decide) (by decide) (lc_shows e1 h1 h2 he K)⟩
    by_cases b23 : x = 23
    · obtain ⟨o1, o2, h1, h2, he, hI2⟩ := hsim.2.2.2.2.2.2.2.2.2.2.2.2.2.2.2.2.2.2.2.2.2.2.2.1 n μ (xs (5 * n + 1)) (xs (5 * n + 2)) hn hI
      obtain ⟨μf, K⟩ := hnx _ hI2
      exact ⟨μf, ev_tsIn (t := 955) (off := 923) (pc := 32) dL_law_32 (by rw [b23]; decide) (by rw [b23]; decide) (by rw [b23]; decide) (by decide) (lc_shown e1 e2 h1 h2 he K)⟩
    by_cases b24 : x = 24
    · obtain ⟨o1, o2, h1, h2, he, hI2⟩ := hsim.2.2.2.2.2.2.2.2.2.2.2.2.2.2.2.2.2.2.2.2.2.2.2.2.1 n μ (xs (5 * n + 1)) hn hI
      obtain ⟨μf, K⟩ := hnx _ hI2
      exact ⟨μf, ev_tsIn (t := 988) (off := 956) (pc := 32) dL_law_32 (by rw [b24]; decide) (by rw [b24]; decide) (by rw [b24]; decide) (by decide) (lc_depth e1 h1 h2 he K)⟩
    by_cases b25 : x = 25
    · obtain ⟨o1, o2, h1, h2, he, hI2⟩ := hsim.2.2.2.2.2.2.2.2.2.2.2.2.2.2.2.2.2.2.2.2.2.2.2.2.2.1 n μ (xs (5 * n + 1)) (xs (5 * n + 2)) hn hI
      obtain ⟨μf, K⟩ := hnx _ hI2
      exact ⟨μf, ev_tsIn (t := 1011) (off := 979) (pc := 32) dL_law_32 (by rw [b25]; decide) (by rw [b25]; decide) (by rw [b25]; decide) (by decide) (lc_sleeper e1 e2 h1 h2 he K)⟩
    by_cases b26 : x = 26
    · obtain ⟨o1, o2, h1, h2, he, hI2⟩ := hsim.2.2.2.2.2.2.2.2.2.2.2.2.2.2.2.2.2.2.2.2.2.2.2.2.2.2.1 n μ (xs (5 * n + 1)) (xs (5 * n + 2)) hn hI
      obtain ⟨μf, K⟩ := hnx _ hI2
      exact ⟨μf, ev_tsIn (t := 1044) (off := 1012) (pc := 32) dL_law_32 (by rw [b26]; decide) (by rw [b26]; decide) (by rw [b26]; decide) (by decide) (lc_task e1 e2 h1 h2 he K)⟩
    by_cases b27 : x = 27
    · obtain ⟨o1, o2, h1, h2, he, hI2⟩ := hsim.2.2.2.2.2.2.2.2.2.2.2.2.2.2.2.2.2.2.2.2.2.2.2.2.2.2.2.1 n μ (xs (5 * n + 1)) (xs (5 * n + 2)) (xs (5 * n + 3)) hn hI
      obtain ⟨μf, K⟩ := hnx _ hI2
      exact ⟨μf, ev_tsIn (t := 1077) (off := 1045) (pc := 32) dL_law_32 (by rw [b27]; decide) (by rw [b27]; decide) (by rw [b27]; decide) (by decide) (lc_got e1 e2 e3 h1 h2 he K)⟩
    by_cases b28 : x = 28
    · obtain ⟨o1, o2, h1, h2, he, hI2⟩ := hsim.2.2.2.2.2.2.2.2.2.2.2.2.2.2.2.2.2.2.2.2.2.2.2.2.2.2.2.2.1 n μ (xs (5 * n + 1)) hn hI
      obtain ⟨μf, K⟩ := hnx _ hI2
      exact ⟨μf, ev_tsIn (t := 1120) (off := 1088) (pc := 32) dL_law_32 (by rw [b28]; decide) (by rw [b28]; decide) (by rw [b28]; decide) (by decide) (lc_wakes e1 h1 h2 he K)⟩
    by_cases b29 : x = 29
    · obtain ⟨o1, o2, h1, h2, he, hI2⟩ := hsim.2.2.2.2.2.2.2.2.2.2.2.2.2.2.2.2.2.2.2.2.2.2.2.2.2.2.2.2.2.1 n μ (xs (5 * n + 1)) (xs (5 * n + 2)) (xs (5 * n + 3)) (xs (5 * n + 4)) hn hI
      obtain ⟨μf, K⟩ := hnx _ hI2
      exact ⟨μf, ev_tsIn (t := 1143) (off := 1111) (pc := 32) dL_law_32 (by rw [b29]; decide) (by rw [b29]; decide) (by rw [b29]; decide) (by decide) (lc_plan e1 e2 e3 e4 h1 h2 he K)⟩
    by_cases b30 : x = 30
    · obtain ⟨o1, o2, h1, h2, he, hI2⟩ := hsim.2.2.2.2.2.2.2.2.2.2.2.2.2.2.2.2.2.2.2.2.2.2.2.2.2.2.2.2.2.2.1 n μ (xs (5 * n + 1)) (if xs (5 * n + 2) = 0 then 0 else 1) hn hI (rb_bz _)
      obtain ⟨μf, K⟩ := hnx _ hI2
      exact ⟨μf, ev_tsIn (t := 1196) (off := 1164) (pc := 32) dL_law_32 (by rw [b30]; decide) (by rw [b30]; decide) (by rw [b30]; decide) (by decide) (lc_round e1 e2 rfl h1 h2 he K)⟩
    by_cases b31 : x = 31
    · obtain ⟨o1, o2, h1, h2, he, hI2⟩ := hsim.2.2.2.2.2.2.2.2.2.2.2.2.2.2.2.2.2.2.2.2.2.2.2.2.2.2.2.2.2.2.2.1 n μ (xs (5 * n + 1)) hn hI
      obtain ⟨μf, K⟩ := hnx _ hI2
      exact ⟨μf, ev_tsIn (t := 1245) (off := 1213) (pc := 32) dL_law_32 (by rw [b31]; decide) (by rw [b31]; decide) (by rw [b31]; decide) (by decide) (lc_rounds e1 h1 h2 he K)⟩
    by_cases b32 : x = 32
    · obtain ⟨o1, o2, h1, h2, he, hI2⟩ := hsim.2.2.2.2.2.2.2.2.2.2.2.2.2.2.2.2.2.2.2.2.2.2.2.2.2.2.2.2.2.2.2.2.1 n μ  hn hI
      obtain ⟨μf, K⟩ := hnx _ hI2
      exact ⟨μf, ev_tsIn (t := 1268) (off := 1236) (pc := 32) dL_law_32 (by rw [b32]; decide) (by rw [b32]; decide) (by rw [b32]; decide) (by decide) (lc_stuck  h1 h2 he K)⟩
    by_cases b33 : x = 33
    · obtain ⟨o1, o2, h1, h2, he, hI2⟩ := hsim.2.2.2.2.2.2.2.2.2.2.2.2.2.2.2.2.2.2.2.2.2.2.2.2.2.2.2.2.2.2.2.2.2.1 n μ (xs (5 * n + 1)) hn hI
      obtain ⟨μf, K⟩ := hnx _ hI2
      exact ⟨μf, ev_tsIn (t := 1281) (off := 1249) (pc := 32) dL_law_32 (by rw [b33]; decide) (by rw [b33]; decide) (by rw [b33]; decide) (by decide) (lc_soon e1 h1 h2 he K)⟩
    by_cases b34 : x = 34
    · obtain ⟨o1, o2, h1, h2, he, hI2⟩ := hsim.2.2.2.2.2.2.2.2.2.2.2.2.2.2.2.2.2.2.2.2.2.2.2.2.2.2.2.2.2.2.2.2.2.2.1 n μ (xs (5 * n + 1)) (xs (5 * n + 2)) hn hI
      obtain ⟨μf, K⟩ := hnx _ hI2
      exact ⟨μf, ev_tsIn (t := 1304) (off := 1272) (pc := 32) dL_law_32 (by rw [b34]; decide) (by rw [b34]; decide) (by rw [b34]; decide) (by decide) (lc_calls e1 e2 h1 h2 he K)⟩
    by_cases b35 : x = 35
    · obtain ⟨o1, o2, h1, h2, he, hI2⟩ := hsim.2.2.2.2.2.2.2.2.2.2.2.2.2.2.2.2.2.2.2.2.2.2.2.2.2.2.2.2.2.2.2.2.2.2.2.1 n μ (xs (5 * n + 1)) hn hI
      obtain ⟨μf, K⟩ := hnx _ hI2
      exact ⟨μf, ev_tsIn (t := 1337) (off := 1305) (pc := 32) dL_law_32 (by rw [b35]; decide) (by rw [b35]; decide) (by rw [b35]; decide) (by decide) (lc_image e1 h1 h2 he K)⟩
    by_cases b36 : x = 36
    · obtain ⟨o1, o2, h1, h2, he, hI2⟩ := hsim.2.2.2.2.2.2.2.2.2.2.2.2.2.2.2.2.2.2.2.2.2.2.2.2.2.2.2.2.2.2.2.2.2.2.2.2.1 n μ (xs (5 * n + 1)) hn hI
      obtain ⟨μf, K⟩ := hnx _ hI2
      exact ⟨μf, ev_tsIn (t := 1360) (off := 1328) (pc := 32) dL_law_32 (by rw [b36]; decide) (by rw [b36]; decide) (by rw [b36]; decide) (by decide) (lc_back e1 h1 h2 he K)⟩
    by_cases b37 : x = 37
    · obtain ⟨o1, o2, h1, h2, he, hI2⟩ := hsim.2.2.2.2.2.2.2.2.2.2.2.2.2.2.2.2.2.2.2.2.2.2.2.2.2.2.2.2.2.2.2.2.2.2.2.2.2.1 n μ (xs (5 * n + 1)) hn hI
      obtain ⟨μf, K⟩ := hnx _ hI2
      exact ⟨μf, ev_tsIn (t := 1383) (off := 1351) (pc := 32) dL_law_32 (by rw [b37]; decide) (by rw [b37]; decide) (by rw [b37]; decide) (by decide) (lc_forget e1 h1 h2 he K)⟩
    by_cases b38 : x = 38
    · obtain ⟨o1, o2, h1, h2, he, hI2⟩ := hsim.2.2.2.2.2.2.2.2.2.2.2.2.2.2.2.2.2.2.2.2.2.2.2.2.2.2.2.2.2.2.2.2.2.2.2.2.2.2.1 n μ (xs (5 * n + 1)) hn hI
      obtain ⟨μf, K⟩ := hnx _ hI2
      exact ⟨μf, ev_tsIn (t := 1406) (off := 1374) (pc := 32) dL_law_32 (by rw [b38]; decide) (by rw [b38]; decide) (by rw [b38]; decide) (by decide) (lc_step e1 h1 h2 he K)⟩
    by_cases b39 : x = 39
    · obtain ⟨o1, o2, h1, h2, he, hI2⟩ := hsim.2.2.2.2.2.2.2.2.2.2.2.2.2.2.2.2.2.2.2.2.2.2.2.2.2.2.2.2.2.2.2.2.2.2.2.2.2.2.2.1 n μ (xs (5 * n + 1)) (xs (5 * n + 2)) (xs (5 * n + 3)) hn hI
      obtain ⟨μf, K⟩ := hnx _ hI2
      exact ⟨μf, ev_tsIn (t := 1429) (off := 1397) (pc := 32) dL_law_32 (by rw [b39]; decide) (by rw [b39]; decide) (by rw [b39]; decide) (by decide) (lc_orders e1 e2 e3 h1 h2 he K)⟩
    by_cases b40 : x = 40
    · obtain ⟨o1, o2, h1, h2, he, hI2⟩ := hsim.2.2.2.2.2.2.2.2.2.2.2.2.2.2.2.2.2.2.2.2.2.2.2.2.2.2.2.2.2.2.2.2.2.2.2.2.2.2.2.2.1 n μ  hn hI
      obtain ⟨μf, K⟩ := hnx _ hI2
      exact ⟨μf, ev_tsIn (t := 1472) (off := 1440) (pc := 32) dL_law_32 (by rw [b40]; decide) (by rw [b40]; decide) (by rw [b40]; decide) (by decide) (lc_undo  h1 h2 he K)⟩
    by_cases b41 : x = 41
    · obtain ⟨o1, o2, h1, h2, he, hI2⟩ := hsim.2.2.2.2.2.2.2.2.2.2.2.2.2.2.2.2.2.2.2.2.2.2.2.2.2.2.2.2.2.2.2.2.2.2.2.2.2.2.2.2.2.1 n μ  hn hI
      obtain ⟨μf, K⟩ := hnx _ hI2
      exact ⟨μf, ev_tsIn (t := 1485) (off := 1453) (pc := 32) dL_law_32 (by rw [b41]; decide) (by rw [b41]; decide) (by rw [b41]; decide) (by decide) (lc_redo  h1 h2 he K)⟩
    by_cases b42 : x = 42
    · obtain ⟨o1, o2, h1, h2, he, hI2⟩ := hsim.2.2.2.2.2.2.2.2.2.2.2.2.2.2.2.2.2.2.2.2.2.2.2.2.2.2.2.2.2.2.2.2.2.2.2.2.2.2.2.2.2.2 n μ (xs (5 * n + 1)) hn hI
      obtain ⟨μf, K⟩ := hnx _ hI2
      exact ⟨μf, ev_tsIn (t := 1498) (off := 1466) (pc := 32) dL_law_32 (by rw [b42]; decide) (by rw [b42]; decide) (by rw [b42]; decide) (by decide) (lc_about e1 h1 h2 he K)⟩
    obtain ⟨μf, K⟩ := hnx μ (hmono n μ hI)
    exact ⟨μf, ev_tsOut (t := 1521) (pc := 32) dL_law_32 (rb_tsS (k := 42) (by decide) b42 (rb_tsS (k := 41) (by decide) b41 (rb_tsS (k := 40) (by decide) b40 (rb_tsS (k := 39) (by decide) b39 (rb_tsS (k := 38) (by decide) b38 (rb_tsS (k := 37) (by decide) b37 (rb_tsS (k := 36) (by decide) b36 (rb_tsS (k := 35) (by decide) b35 (rb_tsS (k := 34) (by decide) b34 (rb_tsS (k := 33) (by decide) b33 (rb_tsS (k := 32) (by decide) b32 (rb_tsS (k := 31) (by decide) b31 (rb_tsS (k := 30) (by decide) b30 (rb_tsS (k := 29) (by decide) b29 (rb_tsS (k := 28) (by decide) b28 (rb_tsS (k := 27) (by decide) b27 (rb_tsS (k := 26) (by decide) b26 (rb_tsS (k := 25) (by decide) b25 (rb_tsS (k := 24) (by decide) b24 (rb_tsS (k := 23) (by decide) b23 (rb_tsS (k := 22) (by decide) b22 (rb_tsS (k := 21) (by decide) b21 (rb_tsS (k := 20) (by decide) b20 (rb_tsS (k := 19) (by decide) b19 (rb_tsS (k := 18) (by decide) b18 (rb_tsS (k := 17) (by decide) b17 (rb_tsS (k := 16) (by decide) b16 (rb_tsS (k := 15) (by decide) b15 (rb_tsS (k := 14) (by decide) b14 (rb_tsS (k := 13) (by decide) b13 (rb_tsS (k := 12) (by decide) b12 (rb_tsS (k := 11) (by decide) b11 (rb_tsS (k := 10) (by decide) b10 (rb_tsS (k := 9) (by decide) b9 (rb_tsS (k := 8) (by decide) b8 (rb_tsS (k := 7) (by decide) b7 (rb_tsS (k := 6) (by decide) b6 (rb_tsS (k := 5) (by decide) b5 (rb_tsS (k := 4) (by decide) b4 (rb_tsS (k := 3) (by decide) b3 (rb_tsS (k := 2) (by decide) b2 (rb_tsS (k := 1) (by decide) b1 (rb_tsS (k := 0) (by decide) b0 (rb_ts0 _)))))))))))))))))))))))))))))))))))))))))))) (by decide) K⟩
