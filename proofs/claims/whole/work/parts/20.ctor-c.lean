def XX7_init (a : rb_Row) : Option rb_Row := (rb_lp (ρ := rb_Row) (fun (s1 : Int32 × rb_Row) => if 16 ≤ s1.1 then some (.inr s1.2) else (rb_wr s1.2 796 s1.1 (-1)).bind fun a10 => some (.inl ((s1.1 + 1), a10))) 100000 (0, a)).bind fun q2 => (rb_lp (ρ := rb_Row) (fun (s12 : Int32 × rb_Row) => if 28 ≤ s12.1 then some (.inr s12.2) else (XX7_objectAt s12.1 0).bind fun t21 => (rb_wr s12.2 796 t21 (-1)).bind fun a23 => some (.inl ((s12.1 + 1), a23))) 100000 (0, q2)).bind fun q13 => (rb_lp (ρ := rb_Row) (fun (s25 : Int32 × rb_Row) => if 28 ≤ s25.1 then some (.inr s25.2) else (XX7_pipeAt s25.1 2).bind fun t34 => (rb_wr s25.2 796 t34 (-1)).bind fun a36 => (XX7_pipeAt s25.1 3).bind fun t38 => (rb_wr a36 796 t38 (-1)).bind fun a40 => some (.inl ((s25.1 + 1), a40))) 100000 (0, q13)).bind fun q26 => (rb_lp (ρ := rb_Row) (fun (s42 : Int32 × rb_Row) => if 24 ≤ s42.1 then some (.inr s42.2) else (XX7_interestAt s42.1 0).bind fun t51 => (rb_wr s42.2 796 t51 (-1)).bind fun a53 => some (.inl ((s42.1 + 1), a53))) 100000 (0, q26)).bind fun q43 => (rb_lp (ρ := rb_Row) (fun (s55 : Int32 × rb_Row) => if 6 ≤ s55.1 then some (.inr s55.2) else (XX7_taskAt s55.1 0).bind fun t64 => (rb_wr s55.2 796 t64 (-1)).bind fun a66 => (XX7_taskAt s55.1 3).bind fun t68 => (rb_wr a66 796 t68 (-1)).bind fun a70 => some (.inl ((s55.1 + 1), a70))) 100000 (0, q43)).bind fun q56 => some q56
set_option maxHeartbeats 4000000 in
theorem ev_X7_init (μ : rb_Mem) (a o : rb_Row) (ha : μ 20 = a) (h : XX7_init a = some o) : rb_Ev RX7 cX7_init 2 none none 1 none (rb_ov μ [(20, o)]) 118 [some (.inr 19), none] [] (rb_ov μ [(20, a)]) := by
  unfold XX7_init at h
  have hfin : ∀ u0 : rb_Row, rb_ov μ [(20, u0)] = rb_ov μ [(20, u0)] := fun u0 => rfl
  refine ev_iconst (v := 0) (pc := 118) dX7_init_118 ki_0 ?_
  refine ev_istore_n (L' := [some (.inr 19), some (.inl 0)]) (pc := 119) dX7_init_119 (Nat.le_of_ble_eq_true rfl) rfl ?_
  obtain ⟨q2, l3, h⟩ := rb_bd h
  have hx7 : rb_Ev RX7 cX7_init 2 none none 1 none (rb_ov μ [(20, o)]) 139 [some (.inr 19), none] [] (rb_ov μ [(20, q2)]) := by
    refine ev_iconst (v := 0) (pc := 139) dX7_init_139 ki_0 ?_
    refine ev_istore_n (L' := [some (.inr 19), some (.inl 0)]) (pc := 140) dX7_init_140 (Nat.le_of_ble_eq_true rfl) rfl ?_
    obtain ⟨q13, l14, h⟩ := rb_bd h
    have hx18 : rb_Ev RX7 cX7_init 2 none none 1 none (rb_ov μ [(20, o)]) 164 [some (.inr 19), none] [] (rb_ov μ [(20, q13)]) := by
      refine ev_iconst (v := 0) (pc := 164) dX7_init_164 ki_0 ?_
      refine ev_istore_n (L' := [some (.inr 19), some (.inl 0)]) (pc := 165) dX7_init_165 (Nat.le_of_ble_eq_true rfl) rfl ?_
      obtain ⟨q26, l27, h⟩ := rb_bd h
      have hx31 : rb_Ev RX7 cX7_init 2 none none 1 none (rb_ov μ [(20, o)]) 200 [some (.inr 19), none] [] (rb_ov μ [(20, q26)]) := by
        refine ev_iconst (v := 0) (pc := 200) dX7_init_200 ki_0 ?_
        refine ev_istore_n (L' := [some (.inr 19), some (.inl 0)]) (pc := 201) dX7_init_201 (Nat.le_of_ble_eq_true rfl) rfl ?_
        obtain ⟨q43, l44, h⟩ := rb_bd h
        have hx48 : rb_Ev RX7 cX7_init 2 none none 1 none (rb_ov μ [(20, o)]) 225 [some (.inr 19), none] [] (rb_ov μ [(20, q43)]) := by
          refine ev_iconst (v := 0) (pc := 225) dX7_init_225 ki_0 ?_
          refine ev_istore_n (L' := [some (.inr 19), some (.inl 0)]) (pc := 226) dX7_init_226 (Nat.le_of_ble_eq_true rfl) rfl ?_
          obtain ⟨q56, l57, h⟩ := rb_bd h
          have hx61 : rb_Ev RX7 cX7_init 2 none none 1 none (rb_ov μ [(20, o)]) 261 [none, none] [] (rb_ov μ [(20, q56)]) := by
            obtain rfl := Option.some.inj h
            exact ev_ret (pc := 261) dX7_init_261 rfl rfl (hfin _)
          refine rb_lp_ev (P := fun (s55 : Int32 × rb_Row) => rb_Ev RX7 cX7_init 2 none none 1 none (rb_ov μ [(20, o)]) 227 [some (.inr 19), some (.inl s55.1)] [] (rb_ov μ [(20, s55.2)])) ?_ 100000 (0, q43) l57
          intro s55 y58 h ih59 hE60
          refine ev_iload_n (v := s55.1) (pc := 227) dX7_init_227 rfl ?_
          refine ev_bipush (v := 6) (pc := 228) dX7_init_228 kb_6 ?_
          by_cases b63 : 6 ≤ s55.1
          · rw [if_pos b63] at h
            refine ev_icmp_ge_t (t := 261) (pc := 230) dX7_init_230 (by decide) b63 ?_
            obtain rfl := Option.some.inj h
            obtain rfl := hE60 _ rfl
            exact ev_fg (L := [none, none]) True.intro (hx61)
          · rw [if_neg b63] at h
            refine ev_icmp_ge_f (t := 261) (pc := 230) dX7_init_230 (by decide) b63 ?_
            obtain ⟨t64, e65, h⟩ := rb_bd h
            obtain ⟨a66, e67, h⟩ := rb_bd h
            obtain ⟨t68, e69, h⟩ := rb_bd h
            obtain ⟨a70, e71, h⟩ := rb_bd h
            refine ev_aload_n (v := 19) (pc := 233) dX7_init_233 rfl ?_
            refine ev_getr (q := 20) (pc := 234) dX7_init_234 fl_RX7_7 rfl rfl ?_
            refine ev_iload_n (v := s55.1) (pc := 237) dX7_init_237 rfl ?_
            refine ev_iconst (v := 0) (pc := 238) dX7_init_238 ki_0 ?_
            refine ev_cSi2 (pc := 239) dX7_init_239 ms_X7_taskAt lk_RX7_63 (ct_X7_taskAt _ _ _ _ e65) (Nat.le_of_ble_eq_true rfl) (Nat.le_of_ble_eq_true rfl) ?_
            refine ev_iconst (v := (-1)) (pc := 242) dX7_init_242 ki_m1 ?_
            refine ev_iast (w' := [(20, a66)]) (pc := 243) dX7_init_243 rfl e67 rfl ?_
            refine ev_aload_n (v := 19) (pc := 244) dX7_init_244 rfl ?_
            refine ev_getr (q := 20) (pc := 245) dX7_init_245 fl_RX7_7 rfl rfl ?_
            refine ev_iload_n (v := s55.1) (pc := 248) dX7_init_248 rfl ?_
            refine ev_iconst (v := 3) (pc := 249) dX7_init_249 ki_3 ?_
            refine ev_cSi2 (pc := 250) dX7_init_250 ms_X7_taskAt lk_RX7_63 (ct_X7_taskAt _ _ _ _ e69) (Nat.le_of_ble_eq_true rfl) (Nat.le_of_ble_eq_true rfl) ?_
            refine ev_iconst (v := (-1)) (pc := 253) dX7_init_253 ki_m1 ?_
            refine ev_iast (w' := [(20, a70)]) (pc := 254) dX7_init_254 rfl e71 rfl ?_
            refine ev_iinc (x := s55.1) (v := (s55.1 + 1)) (L' := [some (.inr 19), some (.inl (s55.1 + 1))]) (pc := 255) dX7_init_255 rfl (kx_1 _) (Nat.le_of_ble_eq_true rfl) rfl ?_
            refine ev_goto (t := 227) (pc := 258) dX7_init_258 (by decide) ?_
            obtain rfl := Option.some.inj h
            exact ih59 ((s55.1 + 1), a70) rfl
        refine rb_lp_ev (P := fun (s42 : Int32 × rb_Row) => rb_Ev RX7 cX7_init 2 none none 1 none (rb_ov μ [(20, o)]) 202 [some (.inr 19), some (.inl s42.1)] [] (rb_ov μ [(20, s42.2)])) ?_ 100000 (0, q26) l44
        intro s42 y45 h ih46 hE47
        refine ev_iload_n (v := s42.1) (pc := 202) dX7_init_202 rfl ?_
        refine ev_bipush (v := 24) (pc := 203) dX7_init_203 kb_24 ?_
        by_cases b50 : 24 ≤ s42.1
        · rw [if_pos b50] at h
          refine ev_icmp_ge_t (t := 225) (pc := 205) dX7_init_205 (by decide) b50 ?_
          obtain rfl := Option.some.inj h
          obtain rfl := hE47 _ rfl
          exact ev_fg (L := [some (.inr 19), none]) (And.intro rfl True.intro) (hx48)
        · rw [if_neg b50] at h
          refine ev_icmp_ge_f (t := 225) (pc := 205) dX7_init_205 (by decide) b50 ?_
          obtain ⟨t51, e52, h⟩ := rb_bd h
          obtain ⟨a53, e54, h⟩ := rb_bd h
          refine ev_aload_n (v := 19) (pc := 208) dX7_init_208 rfl ?_
          refine ev_getr (q := 20) (pc := 209) dX7_init_209 fl_RX7_7 rfl rfl ?_
          refine ev_iload_n (v := s42.1) (pc := 212) dX7_init_212 rfl ?_
          refine ev_iconst (v := 0) (pc := 213) dX7_init_213 ki_0 ?_
          refine ev_cSi2 (pc := 214) dX7_init_214 ms_X7_interestAt lk_RX7_60 (ct_X7_interestAt _ _ _ _ e52) (Nat.le_of_ble_eq_true rfl) (Nat.le_of_ble_eq_true rfl) ?_
          refine ev_iconst (v := (-1)) (pc := 217) dX7_init_217 ki_m1 ?_
          refine ev_iast (w' := [(20, a53)]) (pc := 218) dX7_init_218 rfl e54 rfl ?_
          refine ev_iinc (x := s42.1) (v := (s42.1 + 1)) (L' := [some (.inr 19), some (.inl (s42.1 + 1))]) (pc := 219) dX7_init_219 rfl (kx_1 _) (Nat.le_of_ble_eq_true rfl) rfl ?_
          refine ev_goto (t := 202) (pc := 222) dX7_init_222 (by decide) ?_
          obtain rfl := Option.some.inj h
          exact ih46 ((s42.1 + 1), a53) rfl
      refine rb_lp_ev (P := fun (s25 : Int32 × rb_Row) => rb_Ev RX7 cX7_init 2 none none 1 none (rb_ov μ [(20, o)]) 166 [some (.inr 19), some (.inl s25.1)] [] (rb_ov μ [(20, s25.2)])) ?_ 100000 (0, q13) l27
      intro s25 y28 h ih29 hE30
      refine ev_iload_n (v := s25.1) (pc := 166) dX7_init_166 rfl ?_
      refine ev_bipush (v := 28) (pc := 167) dX7_init_167 kb_28 ?_
      by_cases b33 : 28 ≤ s25.1
      · rw [if_pos b33] at h
        refine ev_icmp_ge_t (t := 200) (pc := 169) dX7_init_169 (by decide) b33 ?_
        obtain rfl := Option.some.inj h
        obtain rfl := hE30 _ rfl
        exact ev_fg (L := [some (.inr 19), none]) (And.intro rfl True.intro) (hx31)
      · rw [if_neg b33] at h
        refine ev_icmp_ge_f (t := 200) (pc := 169) dX7_init_169 (by decide) b33 ?_
        obtain ⟨t34, e35, h⟩ := rb_bd h
        obtain ⟨a36, e37, h⟩ := rb_bd h
        obtain ⟨t38, e39, h⟩ := rb_bd h
        obtain ⟨a40, e41, h⟩ := rb_bd h
        refine ev_aload_n (v := 19) (pc := 172) dX7_init_172 rfl ?_
        refine ev_getr (q := 20) (pc := 173) dX7_init_173 fl_RX7_7 rfl rfl ?_
        refine ev_iload_n (v := s25.1) (pc := 176) dX7_init_176 rfl ?_
        refine ev_iconst (v := 2) (pc := 177) dX7_init_177 ki_2 ?_
        refine ev_cSi2 (pc := 178) dX7_init_178 ms_X7_pipeAt lk_RX7_57 (ct_X7_pipeAt _ _ _ _ e35) (Nat.le_of_ble_eq_true rfl) (Nat.le_of_ble_eq_true rfl) ?_
        refine ev_iconst (v := (-1)) (pc := 181) dX7_init_181 ki_m1 ?_
        refine ev_iast (w' := [(20, a36)]) (pc := 182) dX7_init_182 rfl e37 rfl ?_
        refine ev_aload_n (v := 19) (pc := 183) dX7_init_183 rfl ?_
        refine ev_getr (q := 20) (pc := 184) dX7_init_184 fl_RX7_7 rfl rfl ?_
        refine ev_iload_n (v := s25.1) (pc := 187) dX7_init_187 rfl ?_
        refine ev_iconst (v := 3) (pc := 188) dX7_init_188 ki_3 ?_
        refine ev_cSi2 (pc := 189) dX7_init_189 ms_X7_pipeAt lk_RX7_57 (ct_X7_pipeAt _ _ _ _ e39) (Nat.le_of_ble_eq_true rfl) (Nat.le_of_ble_eq_true rfl) ?_
        refine ev_iconst (v := (-1)) (pc := 192) dX7_init_192 ki_m1 ?_
        refine ev_iast (w' := [(20, a40)]) (pc := 193) dX7_init_193 rfl e41 rfl ?_
        refine ev_iinc (x := s25.1) (v := (s25.1 + 1)) (L' := [some (.inr 19), some (.inl (s25.1 + 1))]) (pc := 194) dX7_init_194 rfl (kx_1 _) (Nat.le_of_ble_eq_true rfl) rfl ?_
        refine ev_goto (t := 166) (pc := 197) dX7_init_197 (by decide) ?_
        obtain rfl := Option.some.inj h
        exact ih29 ((s25.1 + 1), a40) rfl
    refine rb_lp_ev (P := fun (s12 : Int32 × rb_Row) => rb_Ev RX7 cX7_init 2 none none 1 none (rb_ov μ [(20, o)]) 141 [some (.inr 19), some (.inl s12.1)] [] (rb_ov μ [(20, s12.2)])) ?_ 100000 (0, q2) l14
    intro s12 y15 h ih16 hE17
    refine ev_iload_n (v := s12.1) (pc := 141) dX7_init_141 rfl ?_
    refine ev_bipush (v := 28) (pc := 142) dX7_init_142 kb_28 ?_
    by_cases b20 : 28 ≤ s12.1
    · rw [if_pos b20] at h
      refine ev_icmp_ge_t (t := 164) (pc := 144) dX7_init_144 (by decide) b20 ?_
      obtain rfl := Option.some.inj h
      obtain rfl := hE17 _ rfl
      exact ev_fg (L := [some (.inr 19), none]) (And.intro rfl True.intro) (hx18)
    · rw [if_neg b20] at h
      refine ev_icmp_ge_f (t := 164) (pc := 144) dX7_init_144 (by decide) b20 ?_
      obtain ⟨t21, e22, h⟩ := rb_bd h
      obtain ⟨a23, e24, h⟩ := rb_bd h
      refine ev_aload_n (v := 19) (pc := 147) dX7_init_147 rfl ?_
      refine ev_getr (q := 20) (pc := 148) dX7_init_148 fl_RX7_7 rfl rfl ?_
      refine ev_iload_n (v := s12.1) (pc := 151) dX7_init_151 rfl ?_
      refine ev_iconst (v := 0) (pc := 152) dX7_init_152 ki_0 ?_
      refine ev_cSi2 (pc := 153) dX7_init_153 ms_X7_objectAt lk_RX7_53 (ct_X7_objectAt _ _ _ _ e22) (Nat.le_of_ble_eq_true rfl) (Nat.le_of_ble_eq_true rfl) ?_
      refine ev_iconst (v := (-1)) (pc := 156) dX7_init_156 ki_m1 ?_
      refine ev_iast (w' := [(20, a23)]) (pc := 157) dX7_init_157 rfl e24 rfl ?_
      refine ev_iinc (x := s12.1) (v := (s12.1 + 1)) (L' := [some (.inr 19), some (.inl (s12.1 + 1))]) (pc := 158) dX7_init_158 rfl (kx_1 _) (Nat.le_of_ble_eq_true rfl) rfl ?_
      refine ev_goto (t := 141) (pc := 161) dX7_init_161 (by decide) ?_
      obtain rfl := Option.some.inj h
      exact ih16 ((s12.1 + 1), a23) rfl
  refine rb_lp_ev (P := fun (s1 : Int32 × rb_Row) => rb_Ev RX7 cX7_init 2 none none 1 none (rb_ov μ [(20, o)]) 120 [some (.inr 19), some (.inl s1.1)] [] (rb_ov μ [(20, s1.2)])) ?_ 100000 (0, a) l3
  intro s1 y4 h ih5 hE6
  refine ev_iload_n (v := s1.1) (pc := 120) dX7_init_120 rfl ?_
  refine ev_bipush (v := 16) (pc := 121) dX7_init_121 kb_16 ?_
  by_cases b9 : 16 ≤ s1.1
  · rw [if_pos b9] at h
    refine ev_icmp_ge_t (t := 139) (pc := 123) dX7_init_123 (by decide) b9 ?_
    obtain rfl := Option.some.inj h
    obtain rfl := hE6 _ rfl
    exact ev_fg (L := [some (.inr 19), none]) (And.intro rfl True.intro) (hx7)
  · rw [if_neg b9] at h
    refine ev_icmp_ge_f (t := 139) (pc := 123) dX7_init_123 (by decide) b9 ?_
    obtain ⟨a10, e11, h⟩ := rb_bd h
    refine ev_aload_n (v := 19) (pc := 126) dX7_init_126 rfl ?_
    refine ev_getr (q := 20) (pc := 127) dX7_init_127 fl_RX7_7 rfl rfl ?_
    refine ev_iload_n (v := s1.1) (pc := 130) dX7_init_130 rfl ?_
    refine ev_iconst (v := (-1)) (pc := 131) dX7_init_131 ki_m1 ?_
    refine ev_iast (w' := [(20, a10)]) (pc := 132) dX7_init_132 rfl e11 rfl ?_
    refine ev_iinc (x := s1.1) (v := (s1.1 + 1)) (L' := [some (.inr 19), some (.inl (s1.1 + 1))]) (pc := 133) dX7_init_133 rfl (kx_1 _) (Nat.le_of_ble_eq_true rfl) rfl ?_
    refine ev_goto (t := 120) (pc := 136) dX7_init_136 (by decide) ?_
    obtain rfl := Option.some.inj h
    exact ih5 ((s1.1 + 1), a10) rfl
