theorem dX0_init_0 : decode prog_2_method_1_code 0 = .ok (.aload_n 0, 1) := by decide +kernel
theorem dX0_init_1 : decode prog_2_method_1_code 1 = .ok (.invokespecial 3, 3) := by decide +kernel
theorem dX0_init_4 : decode prog_2_method_1_code 4 = .ok (.aload_n 0, 1) := by decide +kernel
theorem dX0_init_5 : decode prog_2_method_1_code 5 = .ok (.bipush 6, 2) := by decide +kernel
theorem dX0_init_7 : decode prog_2_method_1_code 7 = .ok (.newarray .int, 2) := by decide +kernel
theorem dX0_init_9 : decode prog_2_method_1_code 9 = .ok (.putfield 9, 3) := by decide +kernel
theorem dX0_init_12 : decode prog_2_method_1_code 12 = .ok (.aload_n 0, 1) := by decide +kernel
theorem dX0_init_13 : decode prog_2_method_1_code 13 = .ok (.bipush 64, 2) := by decide +kernel
theorem dX0_init_15 : decode prog_2_method_1_code 15 = .ok (.newarray .int, 2) := by decide +kernel
theorem dX0_init_17 : decode prog_2_method_1_code 17 = .ok (.putfield 15, 3) := by decide +kernel
theorem dX0_init_20 : decode prog_2_method_1_code 20 = .ok (.return_, 1) := by decide +kernel
theorem rX0_init_0 {d : Nat} {h : Hp} {Q : Option PV → Hp → Prop} {st : List PV}{t : List (Option PV)} {v : Nat} : WP d mX0_init 0 (some (.inr (.inr v)) :: t) st h Q = WP d mX0_init 1 (some (.inr (.inr v)) :: t) (.inr (.inr v) :: st) h Q := WP_step dX0_init_0 rfl rfl rfl
theorem rX0_init_1 {d : Nat} {h : Hp} {Q : Option PV → Hp → Prop} {ls : List (Option PV)}{a : Nat} : WP d mX0_init 1 ls (.inr (.inr a) :: []) h Q = (200 ≤ a ∧ WP d mX0_init 4 ls [] h Q) := R_obj (n := 1) (M' := mX0_init) dX0_init_1 rfl rfl
theorem rX0_init_4 {d : Nat} {h : Hp} {Q : Option PV → Hp → Prop} {st : List PV}{t : List (Option PV)} {v : Nat} : WP d mX0_init 4 (some (.inr (.inr v)) :: t) st h Q = WP d mX0_init 5 (some (.inr (.inr v)) :: t) (.inr (.inr v) :: st) h Q := WP_step dX0_init_4 rfl rfl rfl
theorem rX0_init_5 {d : Nat} {h : Hp} {Q : Option PV → Hp → Prop} {st : List PV}{ls : List (Option PV)} : WP d mX0_init 5 ls st h Q = WP d mX0_init 7 ls (.inl (6) :: st) h Q := WP_step dX0_init_5 rfl rfl rfl
theorem rX0_init_7 {d : Nat} {h : Hp} {Q : Option PV → Hp → Prop} {st : List PV}{ls : List (Option PV)}{z : Int} : WP d mX0_init 7 ls (.inl z :: st) h Q = ((0 ≤ z ∧ z ≤ 100000) ∧ WP d mX0_init 9 ls (.inr (.inr (200 + hN h)) :: st) (nw h 21 z.toNat z.toNat) Q) := R_nwa dX0_init_7 rfl (by decide)
theorem rX0_init_9 {d : Nat} {h : Hp} {Q : Option PV → Hp → Prop} {st : List PV}{ls : List (Option PV)}{a : Nat} {v : Nat} : WP d mX0_init 9 ls (.inr (.inr v) :: .inr (.inr a) :: st) h Q = ((hK h a).1 = 0 ∧ 200 ≤ a ∧ WP d mX0_init 12 ls st (wR h a 0 v) Q) := R_put2 dX0_init_9 rfl
theorem rX0_init_12 {d : Nat} {h : Hp} {Q : Option PV → Hp → Prop} {st : List PV}{t : List (Option PV)} {v : Nat} : WP d mX0_init 12 (some (.inr (.inr v)) :: t) st h Q = WP d mX0_init 13 (some (.inr (.inr v)) :: t) (.inr (.inr v) :: st) h Q := WP_step dX0_init_12 rfl rfl rfl
theorem rX0_init_13 {d : Nat} {h : Hp} {Q : Option PV → Hp → Prop} {st : List PV}{ls : List (Option PV)} : WP d mX0_init 13 ls st h Q = WP d mX0_init 15 ls (.inl (64) :: st) h Q := WP_step dX0_init_13 rfl rfl rfl
theorem rX0_init_15 {d : Nat} {h : Hp} {Q : Option PV → Hp → Prop} {st : List PV}{ls : List (Option PV)}{z : Int} : WP d mX0_init 15 ls (.inl z :: st) h Q = ((0 ≤ z ∧ z ≤ 100000) ∧ WP d mX0_init 17 ls (.inr (.inr (200 + hN h)) :: st) (nw h 21 z.toNat z.toNat) Q) := R_nwa dX0_init_15 rfl (by decide)
theorem rX0_init_17 {d : Nat} {h : Hp} {Q : Option PV → Hp → Prop} {st : List PV}{ls : List (Option PV)}{a : Nat} {v : Nat} : WP d mX0_init 17 ls (.inr (.inr v) :: .inr (.inr a) :: st) h Q = ((hK h a).1 = 0 ∧ 200 ≤ a ∧ WP d mX0_init 20 ls st (wR h a 1 v) Q) := R_put2 dX0_init_17 rfl
theorem rX0_init_20 {d : Nat} {h : Hp} {Q : Option PV → Hp → Prop} {ls : List (Option PV)} : WP d mX0_init 20 ls [] h Q = Q none h := R_vret dX0_init_20 rfl
theorem dX0_look_0 : decode prog_2_method_2_code 0 = .ok (.aload_n 0, 1) := by decide +kernel
theorem dX0_look_1 : decode prog_2_method_2_code 1 = .ok (.getfield 9, 3) := by decide +kernel
theorem dX0_look_4 : decode prog_2_method_2_code 4 = .ok (.iconst 0, 1) := by decide +kernel
theorem dX0_look_5 : decode prog_2_method_2_code 5 = .ok (.iload_n 3, 1) := by decide +kernel
theorem dX0_look_6 : decode prog_2_method_2_code 6 = .ok (.iastore, 1) := by decide +kernel
theorem dX0_look_7 : decode prog_2_method_2_code 7 = .ok (.aload_n 0, 1) := by decide +kernel
theorem dX0_look_8 : decode prog_2_method_2_code 8 = .ok (.getfield 9, 3) := by decide +kernel
theorem dX0_look_11 : decode prog_2_method_2_code 11 = .ok (.iconst 1, 1) := by decide +kernel
theorem dX0_look_12 : decode prog_2_method_2_code 12 = .ok (.aload_n 2, 1) := by decide +kernel
theorem dX0_look_13 : decode prog_2_method_2_code 13 = .ok (.getfield 18, 3) := by decide +kernel
theorem dX0_look_16 : decode prog_2_method_2_code 16 = .ok (.iload_n 3, 1) := by decide +kernel
theorem dX0_look_17 : decode prog_2_method_2_code 17 = .ok (.iaload, 1) := by decide +kernel
theorem dX0_look_18 : decode prog_2_method_2_code 18 = .ok (.iastore, 1) := by decide +kernel
theorem dX0_look_19 : decode prog_2_method_2_code 19 = .ok (.aload_n 0, 1) := by decide +kernel
theorem dX0_look_20 : decode prog_2_method_2_code 20 = .ok (.getfield 9, 3) := by decide +kernel
theorem dX0_look_23 : decode prog_2_method_2_code 23 = .ok (.iconst 2, 1) := by decide +kernel
theorem dX0_look_24 : decode prog_2_method_2_code 24 = .ok (.iload 4, 2) := by decide +kernel
theorem dX0_look_26 : decode prog_2_method_2_code 26 = .ok (.iastore, 1) := by decide +kernel
theorem dX0_look_27 : decode prog_2_method_2_code 27 = .ok (.aload_n 0, 1) := by decide +kernel
theorem dX0_look_28 : decode prog_2_method_2_code 28 = .ok (.getfield 9, 3) := by decide +kernel
theorem dX0_look_31 : decode prog_2_method_2_code 31 = .ok (.iconst 3, 1) := by decide +kernel
theorem dX0_look_32 : decode prog_2_method_2_code 32 = .ok (.iload 5, 2) := by decide +kernel
theorem dX0_look_34 : decode prog_2_method_2_code 34 = .ok (.invokestatic 23, 3) := by decide +kernel
theorem dX0_look_37 : decode prog_2_method_2_code 37 = .ok (.iastore, 1) := by decide +kernel
theorem dX0_look_38 : decode prog_2_method_2_code 38 = .ok (.aload_n 0, 1) := by decide +kernel
theorem dX0_look_39 : decode prog_2_method_2_code 39 = .ok (.getfield 9, 3) := by decide +kernel
theorem dX0_look_42 : decode prog_2_method_2_code 42 = .ok (.iconst 4, 1) := by decide +kernel
theorem dX0_look_43 : decode prog_2_method_2_code 43 = .ok (.aload_n 2, 1) := by decide +kernel
theorem dX0_look_44 : decode prog_2_method_2_code 44 = .ok (.getfield 29, 3) := by decide +kernel
theorem dX0_look_47 : decode prog_2_method_2_code 47 = .ok (.iload_n 3, 1) := by decide +kernel
theorem dX0_look_48 : decode prog_2_method_2_code 48 = .ok (.iaload, 1) := by decide +kernel
theorem dX0_look_49 : decode prog_2_method_2_code 49 = .ok (.iastore, 1) := by decide +kernel
theorem dX0_look_50 : decode prog_2_method_2_code 50 = .ok (.aload_n 0, 1) := by decide +kernel
theorem dX0_look_51 : decode prog_2_method_2_code 51 = .ok (.aload_n 2, 1) := by decide +kernel
theorem dX0_look_52 : decode prog_2_method_2_code 52 = .ok (.getfield 29, 3) := by decide +kernel
theorem dX0_look_55 : decode prog_2_method_2_code 55 = .ok (.iload_n 3, 1) := by decide +kernel
theorem dX0_look_56 : decode prog_2_method_2_code 56 = .ok (.iaload, 1) := by decide +kernel
theorem dX0_look_57 : decode prog_2_method_2_code 57 = .ok (.putfield 32, 3) := by decide +kernel
theorem dX0_look_60 : decode prog_2_method_2_code 60 = .ok (.aload_n 1, 1) := by decide +kernel
theorem dX0_look_61 : decode prog_2_method_2_code 61 = .ok (.getfield 36, 3) := by decide +kernel
theorem dX0_look_64 : decode prog_2_method_2_code 64 = .ok (.arraylength, 1) := by decide +kernel
theorem dX0_look_65 : decode prog_2_method_2_code 65 = .ok (.ifCond .le 22, 3) := by decide +kernel
theorem dX0_look_68 : decode prog_2_method_2_code 68 = .ok (.aload_n 0, 1) := by decide +kernel
theorem dX0_look_69 : decode prog_2_method_2_code 69 = .ok (.aload_n 0, 1) := by decide +kernel
theorem dX0_look_70 : decode prog_2_method_2_code 70 = .ok (.aload_n 1, 1) := by decide +kernel
theorem dX0_look_71 : decode prog_2_method_2_code 71 = .ok (.getfield 36, 3) := by decide +kernel
theorem dX0_look_74 : decode prog_2_method_2_code 74 = .ok (.invokevirtual 41, 3) := by decide +kernel
theorem dX0_look_77 : decode prog_2_method_2_code 77 = .ok (.i2l, 1) := by decide +kernel
theorem dX0_look_78 : decode prog_2_method_2_code 78 = .ok (.iconst 0, 1) := by decide +kernel
theorem dX0_look_79 : decode prog_2_method_2_code 79 = .ok (.bipush 99, 2) := by decide +kernel
theorem dX0_look_81 : decode prog_2_method_2_code 81 = .ok (.invokestatic 45, 3) := by decide +kernel
theorem dX0_look_84 : decode prog_2_method_2_code 84 = .ok (.putfield 32, 3) := by decide +kernel
theorem dX0_look_87 : decode prog_2_method_2_code 87 = .ok (.aload_n 0, 1) := by decide +kernel
theorem dX0_look_88 : decode prog_2_method_2_code 88 = .ok (.iload 5, 2) := by decide +kernel
theorem dX0_look_90 : decode prog_2_method_2_code 90 = .ok (.putfield 49, 3) := by decide +kernel
theorem dX0_look_93 : decode prog_2_method_2_code 93 = .ok (.iconst 0, 1) := by decide +kernel
theorem dX0_look_94 : decode prog_2_method_2_code 94 = .ok (.istore 6, 2) := by decide +kernel
theorem dX0_look_96 : decode prog_2_method_2_code 96 = .ok (.iload 6, 2) := by decide +kernel
theorem dX0_look_98 : decode prog_2_method_2_code 98 = .ok (.aload_n 1, 1) := by decide +kernel
theorem dX0_look_99 : decode prog_2_method_2_code 99 = .ok (.getfield 52, 3) := by decide +kernel
theorem dX0_look_102 : decode prog_2_method_2_code 102 = .ok (.if_icmp .ge 53, 3) := by decide +kernel
theorem dX0_look_105 : decode prog_2_method_2_code 105 = .ok (.iload 5, 2) := by decide +kernel
theorem dX0_look_107 : decode prog_2_method_2_code 107 = .ok (.iload 6, 2) := by decide +kernel
theorem dX0_look_109 : decode prog_2_method_2_code 109 = .ok (.invokestatic 53, 3) := by decide +kernel
theorem dX0_look_112 : decode prog_2_method_2_code 112 = .ok (.ifCond .eq 37, 3) := by decide +kernel
theorem dX0_look_115 : decode prog_2_method_2_code 115 = .ok (.aload_n 1, 1) := by decide +kernel
theorem dX0_look_116 : decode prog_2_method_2_code 116 = .ok (.getfield 57, 3) := by decide +kernel
theorem dX0_look_119 : decode prog_2_method_2_code 119 = .ok (.iload 6, 2) := by decide +kernel
theorem dX0_look_121 : decode prog_2_method_2_code 121 = .ok (.iaload, 1) := by decide +kernel
theorem dX0_look_122 : decode prog_2_method_2_code 122 = .ok (.aload_n 2, 1) := by decide +kernel
theorem dX0_look_123 : decode prog_2_method_2_code 123 = .ok (.getfield 18, 3) := by decide +kernel
theorem dX0_look_126 : decode prog_2_method_2_code 126 = .ok (.iload_n 3, 1) := by decide +kernel
theorem dX0_look_127 : decode prog_2_method_2_code 127 = .ok (.iaload, 1) := by decide +kernel
theorem dX0_look_128 : decode prog_2_method_2_code 128 = .ok (.if_icmp .le 21, 3) := by decide +kernel
theorem dX0_look_131 : decode prog_2_method_2_code 131 = .ok (.aload_n 0, 1) := by decide +kernel
theorem dX0_look_132 : decode prog_2_method_2_code 132 = .ok (.aload_n 0, 1) := by decide +kernel
theorem dX0_look_133 : decode prog_2_method_2_code 133 = .ok (.getfield 32, 3) := by decide +kernel
theorem dX0_look_136 : decode prog_2_method_2_code 136 = .ok (.aload_n 1, 1) := by decide +kernel
theorem dX0_look_137 : decode prog_2_method_2_code 137 = .ok (.getfield 60, 3) := by decide +kernel
theorem dX0_look_140 : decode prog_2_method_2_code 140 = .ok (.iload 6, 2) := by decide +kernel
theorem dX0_look_142 : decode prog_2_method_2_code 142 = .ok (.iaload, 1) := by decide +kernel
theorem dX0_look_143 : decode prog_2_method_2_code 143 = .ok (.invokestatic 63, 3) := by decide +kernel
theorem dX0_look_146 : decode prog_2_method_2_code 146 = .ok (.putfield 32, 3) := by decide +kernel
theorem dX0_look_149 : decode prog_2_method_2_code 149 = .ok (.iinc 6 1, 3) := by decide +kernel
theorem dX0_look_152 : decode prog_2_method_2_code 152 = .ok (.goto (-56), 3) := by decide +kernel
theorem dX0_look_155 : decode prog_2_method_2_code 155 = .ok (.iconst 0, 1) := by decide +kernel
theorem dX0_look_156 : decode prog_2_method_2_code 156 = .ok (.istore 6, 2) := by decide +kernel
theorem dX0_look_158 : decode prog_2_method_2_code 158 = .ok (.iload 6, 2) := by decide +kernel
theorem dX0_look_160 : decode prog_2_method_2_code 160 = .ok (.aload_n 1, 1) := by decide +kernel
theorem dX0_look_161 : decode prog_2_method_2_code 161 = .ok (.getfield 52, 3) := by decide +kernel
theorem dX0_look_164 : decode prog_2_method_2_code 164 = .ok (.if_icmp .ge 51, 3) := by decide +kernel
theorem dX0_look_167 : decode prog_2_method_2_code 167 = .ok (.aload_n 1, 1) := by decide +kernel
theorem dX0_look_168 : decode prog_2_method_2_code 168 = .ok (.getfield 60, 3) := by decide +kernel
theorem dX0_look_171 : decode prog_2_method_2_code 171 = .ok (.iload 6, 2) := by decide +kernel
theorem dX0_look_173 : decode prog_2_method_2_code 173 = .ok (.iaload, 1) := by decide +kernel
theorem dX0_look_174 : decode prog_2_method_2_code 174 = .ok (.aload_n 0, 1) := by decide +kernel
theorem dX0_look_175 : decode prog_2_method_2_code 175 = .ok (.getfield 32, 3) := by decide +kernel
theorem dX0_look_178 : decode prog_2_method_2_code 178 = .ok (.if_icmp .gt 31, 3) := by decide +kernel
theorem dX0_look_181 : decode prog_2_method_2_code 181 = .ok (.aload_n 1, 1) := by decide +kernel
theorem dX0_look_182 : decode prog_2_method_2_code 182 = .ok (.getfield 69, 3) := by decide +kernel
theorem dX0_look_185 : decode prog_2_method_2_code 185 = .ok (.iload 6, 2) := by decide +kernel
theorem dX0_look_187 : decode prog_2_method_2_code 187 = .ok (.iaload, 1) := by decide +kernel
theorem dX0_look_188 : decode prog_2_method_2_code 188 = .ok (.iload 5, 2) := by decide +kernel
theorem dX0_look_190 : decode prog_2_method_2_code 190 = .ok (.iconst (-1), 1) := by decide +kernel
theorem dX0_look_191 : decode prog_2_method_2_code 191 = .ok (.ixor, 1) := by decide +kernel
theorem dX0_look_192 : decode prog_2_method_2_code 192 = .ok (.iand, 1) := by decide +kernel
theorem dX0_look_193 : decode prog_2_method_2_code 193 = .ok (.ifCond .ne 16, 3) := by decide +kernel
theorem dX0_look_196 : decode prog_2_method_2_code 196 = .ok (.aload_n 0, 1) := by decide +kernel
theorem dX0_look_197 : decode prog_2_method_2_code 197 = .ok (.dup, 1) := by decide +kernel
theorem dX0_look_198 : decode prog_2_method_2_code 198 = .ok (.getfield 49, 3) := by decide +kernel
theorem dX0_look_201 : decode prog_2_method_2_code 201 = .ok (.iconst 1, 1) := by decide +kernel
theorem dX0_look_202 : decode prog_2_method_2_code 202 = .ok (.iload 6, 2) := by decide +kernel
theorem dX0_look_204 : decode prog_2_method_2_code 204 = .ok (.ishl, 1) := by decide +kernel
theorem dX0_look_205 : decode prog_2_method_2_code 205 = .ok (.ior, 1) := by decide +kernel
theorem dX0_look_206 : decode prog_2_method_2_code 206 = .ok (.putfield 49, 3) := by decide +kernel
theorem dX0_look_209 : decode prog_2_method_2_code 209 = .ok (.iinc 6 1, 3) := by decide +kernel
theorem dX0_look_212 : decode prog_2_method_2_code 212 = .ok (.goto (-54), 3) := by decide +kernel
theorem dX0_look_215 : decode prog_2_method_2_code 215 = .ok (.aload_n 0, 1) := by decide +kernel
theorem dX0_look_216 : decode prog_2_method_2_code 216 = .ok (.getfield 9, 3) := by decide +kernel
theorem dX0_look_219 : decode prog_2_method_2_code 219 = .ok (.iconst 5, 1) := by decide +kernel
theorem dX0_look_220 : decode prog_2_method_2_code 220 = .ok (.aload_n 0, 1) := by decide +kernel
theorem dX0_look_221 : decode prog_2_method_2_code 221 = .ok (.getfield 32, 3) := by decide +kernel
theorem dX0_look_224 : decode prog_2_method_2_code 224 = .ok (.iastore, 1) := by decide +kernel
theorem dX0_look_225 : decode prog_2_method_2_code 225 = .ok (.aload_n 0, 1) := by decide +kernel
theorem dX0_look_226 : decode prog_2_method_2_code 226 = .ok (.iload 4, 2) := by decide +kernel
theorem dX0_look_228 : decode prog_2_method_2_code 228 = .ok (.iconst 1, 1) := by decide +kernel
theorem dX0_look_229 : decode prog_2_method_2_code 229 = .ok (.iadd, 1) := by decide +kernel
theorem dX0_look_230 : decode prog_2_method_2_code 230 = .ok (.bipush 99, 2) := by decide +kernel
theorem dX0_look_232 : decode prog_2_method_2_code 232 = .ok (.invokestatic 63, 3) := by decide +kernel
theorem dX0_look_235 : decode prog_2_method_2_code 235 = .ok (.putfield 72, 3) := by decide +kernel
theorem dX0_look_238 : decode prog_2_method_2_code 238 = .ok (.aload_n 1, 1) := by decide +kernel
theorem dX0_look_239 : decode prog_2_method_2_code 239 = .ok (.getfield 75, 3) := by decide +kernel
theorem dX0_look_242 : decode prog_2_method_2_code 242 = .ok (.arraylength, 1) := by decide +kernel
theorem dX0_look_243 : decode prog_2_method_2_code 243 = .ok (.ifCond .le 22, 3) := by decide +kernel
theorem dX0_look_246 : decode prog_2_method_2_code 246 = .ok (.aload_n 0, 1) := by decide +kernel
theorem dX0_look_247 : decode prog_2_method_2_code 247 = .ok (.aload_n 0, 1) := by decide +kernel
theorem dX0_look_248 : decode prog_2_method_2_code 248 = .ok (.aload_n 1, 1) := by decide +kernel
theorem dX0_look_249 : decode prog_2_method_2_code 249 = .ok (.getfield 75, 3) := by decide +kernel
theorem dX0_look_252 : decode prog_2_method_2_code 252 = .ok (.invokevirtual 41, 3) := by decide +kernel
theorem dX0_look_255 : decode prog_2_method_2_code 255 = .ok (.i2l, 1) := by decide +kernel
theorem dX0_look_256 : decode prog_2_method_2_code 256 = .ok (.iconst 0, 1) := by decide +kernel
theorem dX0_look_257 : decode prog_2_method_2_code 257 = .ok (.bipush 99, 2) := by decide +kernel
theorem dX0_look_259 : decode prog_2_method_2_code 259 = .ok (.invokestatic 45, 3) := by decide +kernel
theorem dX0_look_262 : decode prog_2_method_2_code 262 = .ok (.putfield 72, 3) := by decide +kernel
theorem dX0_look_265 : decode prog_2_method_2_code 265 = .ok (.return_, 1) := by decide +kernel
theorem rX0_look_0 {d : Nat} {h : Hp} {Q : Option PV → Hp → Prop} {st : List PV}{t : List (Option PV)} {v : Nat} : WP d mX0_look 0 (some (.inr (.inr v)) :: t) st h Q = WP d mX0_look 1 (some (.inr (.inr v)) :: t) (.inr (.inr v) :: st) h Q := WP_step dX0_look_0 rfl rfl rfl
theorem rX0_look_1 {d : Nat} {h : Hp} {Q : Option PV → Hp → Prop} {st : List PV}{ls : List (Option PV)}{a : Nat} : WP d mX0_look 1 ls (.inr (.inr a) :: st) h Q = ((hK h a).1 = 0 ∧ WP d mX0_look 4 ls (.inr (.inr (hR h a 0)) :: st) h Q) := R_get2 dX0_look_1 rfl
theorem rX0_look_4 {d : Nat} {h : Hp} {Q : Option PV → Hp → Prop} {st : List PV}{ls : List (Option PV)} : WP d mX0_look 4 ls st h Q = WP d mX0_look 5 ls (.inl (0) :: st) h Q := WP_step dX0_look_4 rfl rfl rfl
theorem rX0_look_5 {d : Nat} {h : Hp} {Q : Option PV → Hp → Prop} {st : List PV}{x0 x1 x2 : Option PV} {t : List (Option PV)} {v : Int} : WP d mX0_look 5 (x0 :: x1 :: x2 :: some (.inl v) :: t) st h Q = WP d mX0_look 6 (x0 :: x1 :: x2 :: some (.inl v) :: t) (.inl v :: st) h Q := WP_step dX0_look_5 rfl rfl rfl
theorem rX0_look_6 {d : Nat} {h : Hp} {Q : Option PV → Hp → Prop} {st : List PV}{ls : List (Option PV)}{a : Nat} {z v : Int} : WP d mX0_look 6 ls (.inl v :: .inl z :: .inr (.inr a) :: st) h Q = (200 ≤ a ∧ (hK h a).1 = 21 ∧ 0 ≤ z ∧ z < (hK h a).2 ∧ WP d mX0_look 7 ls st (wI h a z.toNat v) Q) := R_iast dX0_look_6
theorem rX0_look_7 {d : Nat} {h : Hp} {Q : Option PV → Hp → Prop} {st : List PV}{t : List (Option PV)} {v : Nat} : WP d mX0_look 7 (some (.inr (.inr v)) :: t) st h Q = WP d mX0_look 8 (some (.inr (.inr v)) :: t) (.inr (.inr v) :: st) h Q := WP_step dX0_look_7 rfl rfl rfl
theorem rX0_look_8 {d : Nat} {h : Hp} {Q : Option PV → Hp → Prop} {st : List PV}{ls : List (Option PV)}{a : Nat} : WP d mX0_look 8 ls (.inr (.inr a) :: st) h Q = ((hK h a).1 = 0 ∧ WP d mX0_look 11 ls (.inr (.inr (hR h a 0)) :: st) h Q) := R_get2 dX0_look_8 rfl
theorem rX0_look_11 {d : Nat} {h : Hp} {Q : Option PV → Hp → Prop} {st : List PV}{ls : List (Option PV)} : WP d mX0_look 11 ls st h Q = WP d mX0_look 12 ls (.inl (1) :: st) h Q := WP_step dX0_look_11 rfl rfl rfl
theorem rX0_look_12 {d : Nat} {h : Hp} {Q : Option PV → Hp → Prop} {st : List PV}{x0 x1 : Option PV} {t : List (Option PV)} {v : Nat} : WP d mX0_look 12 (x0 :: x1 :: some (.inr (.inr v)) :: t) st h Q = WP d mX0_look 13 (x0 :: x1 :: some (.inr (.inr v)) :: t) (.inr (.inr v) :: st) h Q := WP_step dX0_look_12 rfl rfl rfl
theorem rX0_look_13 {d : Nat} {h : Hp} {Q : Option PV → Hp → Prop} {st : List PV}{ls : List (Option PV)}{a : Nat} : WP d mX0_look 13 ls (.inr (.inr a) :: st) h Q = ((hK h a).1 = 8 ∧ WP d mX0_look 16 ls (.inr (.inr (hR h a 1)) :: st) h Q) := R_get2 dX0_look_13 rfl
theorem rX0_look_16 {d : Nat} {h : Hp} {Q : Option PV → Hp → Prop} {st : List PV}{x0 x1 x2 : Option PV} {t : List (Option PV)} {v : Int} : WP d mX0_look 16 (x0 :: x1 :: x2 :: some (.inl v) :: t) st h Q = WP d mX0_look 17 (x0 :: x1 :: x2 :: some (.inl v) :: t) (.inl v :: st) h Q := WP_step dX0_look_16 rfl rfl rfl
theorem rX0_look_17 {d : Nat} {h : Hp} {Q : Option PV → Hp → Prop} {st : List PV}{ls : List (Option PV)}{a : Nat} {z : Int} : WP d mX0_look 17 ls (.inl z :: .inr (.inr a) :: st) h Q = ((hK h a).1 = 21 ∧ 0 ≤ z ∧ z < (hK h a).2 ∧ WP d mX0_look 18 ls (.inl (hI h a z.toNat) :: st) h Q) := R_iald dX0_look_17
theorem rX0_look_18 {d : Nat} {h : Hp} {Q : Option PV → Hp → Prop} {st : List PV}{ls : List (Option PV)}{a : Nat} {z v : Int} : WP d mX0_look 18 ls (.inl v :: .inl z :: .inr (.inr a) :: st) h Q = (200 ≤ a ∧ (hK h a).1 = 21 ∧ 0 ≤ z ∧ z < (hK h a).2 ∧ WP d mX0_look 19 ls st (wI h a z.toNat v) Q) := R_iast dX0_look_18
theorem rX0_look_19 {d : Nat} {h : Hp} {Q : Option PV → Hp → Prop} {st : List PV}{t : List (Option PV)} {v : Nat} : WP d mX0_look 19 (some (.inr (.inr v)) :: t) st h Q = WP d mX0_look 20 (some (.inr (.inr v)) :: t) (.inr (.inr v) :: st) h Q := WP_step dX0_look_19 rfl rfl rfl
theorem rX0_look_20 {d : Nat} {h : Hp} {Q : Option PV → Hp → Prop} {st : List PV}{ls : List (Option PV)}{a : Nat} : WP d mX0_look 20 ls (.inr (.inr a) :: st) h Q = ((hK h a).1 = 0 ∧ WP d mX0_look 23 ls (.inr (.inr (hR h a 0)) :: st) h Q) := R_get2 dX0_look_20 rfl
theorem rX0_look_23 {d : Nat} {h : Hp} {Q : Option PV → Hp → Prop} {st : List PV}{ls : List (Option PV)} : WP d mX0_look 23 ls st h Q = WP d mX0_look 24 ls (.inl (2) :: st) h Q := WP_step dX0_look_23 rfl rfl rfl
theorem rX0_look_24 {d : Nat} {h : Hp} {Q : Option PV → Hp → Prop} {st : List PV}{x0 x1 x2 x3 : Option PV} {t : List (Option PV)} {v : Int} : WP d mX0_look 24 (x0 :: x1 :: x2 :: x3 :: some (.inl v) :: t) st h Q = WP d mX0_look 26 (x0 :: x1 :: x2 :: x3 :: some (.inl v) :: t) (.inl v :: st) h Q := WP_step dX0_look_24 rfl rfl rfl
theorem rX0_look_26 {d : Nat} {h : Hp} {Q : Option PV → Hp → Prop} {st : List PV}{ls : List (Option PV)}{a : Nat} {z v : Int} : WP d mX0_look 26 ls (.inl v :: .inl z :: .inr (.inr a) :: st) h Q = (200 ≤ a ∧ (hK h a).1 = 21 ∧ 0 ≤ z ∧ z < (hK h a).2 ∧ WP d mX0_look 27 ls st (wI h a z.toNat v) Q) := R_iast dX0_look_26
theorem rX0_look_27 {d : Nat} {h : Hp} {Q : Option PV → Hp → Prop} {st : List PV}{t : List (Option PV)} {v : Nat} : WP d mX0_look 27 (some (.inr (.inr v)) :: t) st h Q = WP d mX0_look 28 (some (.inr (.inr v)) :: t) (.inr (.inr v) :: st) h Q := WP_step dX0_look_27 rfl rfl rfl
theorem rX0_look_28 {d : Nat} {h : Hp} {Q : Option PV → Hp → Prop} {st : List PV}{ls : List (Option PV)}{a : Nat} : WP d mX0_look 28 ls (.inr (.inr a) :: st) h Q = ((hK h a).1 = 0 ∧ WP d mX0_look 31 ls (.inr (.inr (hR h a 0)) :: st) h Q) := R_get2 dX0_look_28 rfl
theorem rX0_look_31 {d : Nat} {h : Hp} {Q : Option PV → Hp → Prop} {st : List PV}{ls : List (Option PV)} : WP d mX0_look 31 ls st h Q = WP d mX0_look 32 ls (.inl (3) :: st) h Q := WP_step dX0_look_31 rfl rfl rfl
theorem rX0_look_32 {d : Nat} {h : Hp} {Q : Option PV → Hp → Prop} {st : List PV}{x0 x1 x2 x3 x4 : Option PV} {t : List (Option PV)} {v : Int} : WP d mX0_look 32 (x0 :: x1 :: x2 :: x3 :: x4 :: some (.inl v) :: t) st h Q = WP d mX0_look 34 (x0 :: x1 :: x2 :: x3 :: x4 :: some (.inl v) :: t) (.inl v :: st) h Q := WP_step dX0_look_32 rfl rfl rfl
theorem rX0_look_34 {d : Nat} {h : Hp} {Q : Option PV → Hp → Prop} {ls : List (Option PV)}{r0 r1 : PV}{v0 : Int} : WP (d + 1) mX0_look 34 ls (.inl v0 :: [r0, r1]) h Q = WP d mJ6_bitCount_0f7a4 0 [some (.inl v0)] [] h (fun r h' => WP (d + 1) mX0_look 37 ls (psh r [r0, r1]) h' Q) := R_callS (st := .inl v0 :: [r0, r1]) (M := mX0_look) (pc := 34) (kd := 4) (n := 1) (M' := mJ6_bitCount_0f7a4) (as := [.inl v0]) (rest := [r0, r1]) (en := [some (.inl v0)]) dX0_look_34 rfl (Or.inl rfl) (Nat.le_of_ble_eq_true rfl) rfl (Nat.le_of_ble_eq_true rfl) rfl rfl rfl
theorem rX0_look_37 {d : Nat} {h : Hp} {Q : Option PV → Hp → Prop} {st : List PV}{ls : List (Option PV)}{a : Nat} {z v : Int} : WP d mX0_look 37 ls (.inl v :: .inl z :: .inr (.inr a) :: st) h Q = (200 ≤ a ∧ (hK h a).1 = 21 ∧ 0 ≤ z ∧ z < (hK h a).2 ∧ WP d mX0_look 38 ls st (wI h a z.toNat v) Q) := R_iast dX0_look_37
theorem rX0_look_38 {d : Nat} {h : Hp} {Q : Option PV → Hp → Prop} {st : List PV}{t : List (Option PV)} {v : Nat} : WP d mX0_look 38 (some (.inr (.inr v)) :: t) st h Q = WP d mX0_look 39 (some (.inr (.inr v)) :: t) (.inr (.inr v) :: st) h Q := WP_step dX0_look_38 rfl rfl rfl
theorem rX0_look_39 {d : Nat} {h : Hp} {Q : Option PV → Hp → Prop} {st : List PV}{ls : List (Option PV)}{a : Nat} : WP d mX0_look 39 ls (.inr (.inr a) :: st) h Q = ((hK h a).1 = 0 ∧ WP d mX0_look 42 ls (.inr (.inr (hR h a 0)) :: st) h Q) := R_get2 dX0_look_39 rfl
theorem rX0_look_42 {d : Nat} {h : Hp} {Q : Option PV → Hp → Prop} {st : List PV}{ls : List (Option PV)} : WP d mX0_look 42 ls st h Q = WP d mX0_look 43 ls (.inl (4) :: st) h Q := WP_step dX0_look_42 rfl rfl rfl
theorem rX0_look_43 {d : Nat} {h : Hp} {Q : Option PV → Hp → Prop} {st : List PV}{x0 x1 : Option PV} {t : List (Option PV)} {v : Nat} : WP d mX0_look 43 (x0 :: x1 :: some (.inr (.inr v)) :: t) st h Q = WP d mX0_look 44 (x0 :: x1 :: some (.inr (.inr v)) :: t) (.inr (.inr v) :: st) h Q := WP_step dX0_look_43 rfl rfl rfl
theorem rX0_look_44 {d : Nat} {h : Hp} {Q : Option PV → Hp → Prop} {st : List PV}{ls : List (Option PV)}{a : Nat} : WP d mX0_look 44 ls (.inr (.inr a) :: st) h Q = ((hK h a).1 = 8 ∧ WP d mX0_look 47 ls (.inr (.inr (hR h a 0)) :: st) h Q) := R_get2 dX0_look_44 rfl
theorem rX0_look_47 {d : Nat} {h : Hp} {Q : Option PV → Hp → Prop} {st : List PV}{x0 x1 x2 : Option PV} {t : List (Option PV)} {v : Int} : WP d mX0_look 47 (x0 :: x1 :: x2 :: some (.inl v) :: t) st h Q = WP d mX0_look 48 (x0 :: x1 :: x2 :: some (.inl v) :: t) (.inl v :: st) h Q := WP_step dX0_look_47 rfl rfl rfl
theorem rX0_look_48 {d : Nat} {h : Hp} {Q : Option PV → Hp → Prop} {st : List PV}{ls : List (Option PV)}{a : Nat} {z : Int} : WP d mX0_look 48 ls (.inl z :: .inr (.inr a) :: st) h Q = ((hK h a).1 = 21 ∧ 0 ≤ z ∧ z < (hK h a).2 ∧ WP d mX0_look 49 ls (.inl (hI h a z.toNat) :: st) h Q) := R_iald dX0_look_48
theorem rX0_look_49 {d : Nat} {h : Hp} {Q : Option PV → Hp → Prop} {st : List PV}{ls : List (Option PV)}{a : Nat} {z v : Int} : WP d mX0_look 49 ls (.inl v :: .inl z :: .inr (.inr a) :: st) h Q = (200 ≤ a ∧ (hK h a).1 = 21 ∧ 0 ≤ z ∧ z < (hK h a).2 ∧ WP d mX0_look 50 ls st (wI h a z.toNat v) Q) := R_iast dX0_look_49
theorem rX0_look_50 {d : Nat} {h : Hp} {Q : Option PV → Hp → Prop} {st : List PV}{t : List (Option PV)} {v : Nat} : WP d mX0_look 50 (some (.inr (.inr v)) :: t) st h Q = WP d mX0_look 51 (some (.inr (.inr v)) :: t) (.inr (.inr v) :: st) h Q := WP_step dX0_look_50 rfl rfl rfl
theorem rX0_look_51 {d : Nat} {h : Hp} {Q : Option PV → Hp → Prop} {st : List PV}{x0 x1 : Option PV} {t : List (Option PV)} {v : Nat} : WP d mX0_look 51 (x0 :: x1 :: some (.inr (.inr v)) :: t) st h Q = WP d mX0_look 52 (x0 :: x1 :: some (.inr (.inr v)) :: t) (.inr (.inr v) :: st) h Q := WP_step dX0_look_51 rfl rfl rfl
theorem rX0_look_52 {d : Nat} {h : Hp} {Q : Option PV → Hp → Prop} {st : List PV}{ls : List (Option PV)}{a : Nat} : WP d mX0_look 52 ls (.inr (.inr a) :: st) h Q = ((hK h a).1 = 8 ∧ WP d mX0_look 55 ls (.inr (.inr (hR h a 0)) :: st) h Q) := R_get2 dX0_look_52 rfl
theorem rX0_look_55 {d : Nat} {h : Hp} {Q : Option PV → Hp → Prop} {st : List PV}{x0 x1 x2 : Option PV} {t : List (Option PV)} {v : Int} : WP d mX0_look 55 (x0 :: x1 :: x2 :: some (.inl v) :: t) st h Q = WP d mX0_look 56 (x0 :: x1 :: x2 :: some (.inl v) :: t) (.inl v :: st) h Q := WP_step dX0_look_55 rfl rfl rfl
theorem rX0_look_56 {d : Nat} {h : Hp} {Q : Option PV → Hp → Prop} {st : List PV}{ls : List (Option PV)}{a : Nat} {z : Int} : WP d mX0_look 56 ls (.inl z :: .inr (.inr a) :: st) h Q = ((hK h a).1 = 21 ∧ 0 ≤ z ∧ z < (hK h a).2 ∧ WP d mX0_look 57 ls (.inl (hI h a z.toNat) :: st) h Q) := R_iald dX0_look_56
theorem rX0_look_57 {d : Nat} {h : Hp} {Q : Option PV → Hp → Prop} {st : List PV}{ls : List (Option PV)}{a : Nat} {v : Int} : WP d mX0_look 57 ls (.inl v :: .inr (.inr a) :: st) h Q = ((hK h a).1 = 0 ∧ 200 ≤ a ∧ WP d mX0_look 60 ls st (wI h a 3 v) Q) := R_put0 dX0_look_57 rfl
theorem rX0_look_60 {d : Nat} {h : Hp} {Q : Option PV → Hp → Prop} {st : List PV}{x0 : Option PV} {t : List (Option PV)} {v : Nat} : WP d mX0_look 60 (x0 :: some (.inr (.inr v)) :: t) st h Q = WP d mX0_look 61 (x0 :: some (.inr (.inr v)) :: t) (.inr (.inr v) :: st) h Q := WP_step dX0_look_60 rfl rfl rfl
theorem rX0_look_61 {d : Nat} {h : Hp} {Q : Option PV → Hp → Prop} {st : List PV}{ls : List (Option PV)}{a : Nat} : WP d mX0_look 61 ls (.inr (.inr a) :: st) h Q = ((hK h a).1 = 5 ∧ WP d mX0_look 64 ls (.inr (.inr (hR h a 6)) :: st) h Q) := R_get2 dX0_look_61 rfl
theorem rX0_look_64 {d : Nat} {h : Hp} {Q : Option PV → Hp → Prop} {st : List PV}{ls : List (Option PV)}{a : Nat} : WP d mX0_look 64 ls (.inr (.inr a) :: st) h Q = ((20 ≤ (hK h a).1 ∧ (hK h a).1 ≤ 26) ∧ WP d mX0_look 65 ls (.inl (hK h a).2 :: st) h Q) := R_alen dX0_look_64
theorem rX0_look_65 {d : Nat} {h : Hp} {Q : Option PV → Hp → Prop} {st : List PV}{ls : List (Option PV)}{a : Int} : WP d mX0_look 65 ls (.inl a :: st) h Q = (if 0 < a then WP d mX0_look 68 ls st h Q else WP d mX0_look 87 ls st h Q) := R_if_le dX0_look_65 (by decide)
theorem rX0_look_68 {d : Nat} {h : Hp} {Q : Option PV → Hp → Prop} {st : List PV}{t : List (Option PV)} {v : Nat} : WP d mX0_look 68 (some (.inr (.inr v)) :: t) st h Q = WP d mX0_look 69 (some (.inr (.inr v)) :: t) (.inr (.inr v) :: st) h Q := WP_step dX0_look_68 rfl rfl rfl
theorem rX0_look_69 {d : Nat} {h : Hp} {Q : Option PV → Hp → Prop} {st : List PV}{t : List (Option PV)} {v : Nat} : WP d mX0_look 69 (some (.inr (.inr v)) :: t) st h Q = WP d mX0_look 70 (some (.inr (.inr v)) :: t) (.inr (.inr v) :: st) h Q := WP_step dX0_look_69 rfl rfl rfl
theorem rX0_look_70 {d : Nat} {h : Hp} {Q : Option PV → Hp → Prop} {st : List PV}{x0 : Option PV} {t : List (Option PV)} {v : Nat} : WP d mX0_look 70 (x0 :: some (.inr (.inr v)) :: t) st h Q = WP d mX0_look 71 (x0 :: some (.inr (.inr v)) :: t) (.inr (.inr v) :: st) h Q := WP_step dX0_look_70 rfl rfl rfl
theorem rX0_look_71 {d : Nat} {h : Hp} {Q : Option PV → Hp → Prop} {st : List PV}{ls : List (Option PV)}{a : Nat} : WP d mX0_look 71 ls (.inr (.inr a) :: st) h Q = ((hK h a).1 = 5 ∧ WP d mX0_look 74 ls (.inr (.inr (hR h a 6)) :: st) h Q) := R_get2 dX0_look_71 rfl
theorem rX0_look_74 {d : Nat} {h : Hp} {Q : Option PV → Hp → Prop} {ls : List (Option PV)}{r0 : PV}{v0 : Nat} {v1 : Nat} : WP (d + 1) mX0_look 74 ls (.inr (.inr v1) :: .inr (.inr v0) :: [r0]) h Q = ((hK h v0).1 = 0 ∧ WP d mX0_worth 0 [some (.inr (.inr v0)), some (.inr (.inr v1)), none, none, none, none, none] [] h (fun r h' => WP (d + 1) mX0_look 77 ls (psh r [r0]) h' Q)) := R_callV (st := .inr (.inr v1) :: .inr (.inr v0) :: [r0]) (M := mX0_look) (pc := 74) (kd := 0) (n := 2) (M' := mX0_worth) (as := [.inr (.inr v1), .inr (.inr v0)]) (rest := [r0]) (en := [some (.inr (.inr v0)), some (.inr (.inr v1)), none, none, none, none, none]) dX0_look_74 rfl (Nat.le_of_ble_eq_true rfl) (Nat.le_of_ble_eq_true rfl) rfl rfl (Nat.le_of_ble_eq_true rfl) rfl rfl rfl
theorem rX0_look_77 {d : Nat} {h : Hp} {Q : Option PV → Hp → Prop} {st : List PV}{ls : List (Option PV)}{a : Int} : WP d mX0_look 77 ls (.inl a :: st) h Q = WP d mX0_look 78 ls (.inr (.inl a) :: st) h Q := WP_step dX0_look_77 rfl rfl rfl
theorem rX0_look_78 {d : Nat} {h : Hp} {Q : Option PV → Hp → Prop} {st : List PV}{ls : List (Option PV)} : WP d mX0_look 78 ls st h Q = WP d mX0_look 79 ls (.inl (0) :: st) h Q := WP_step dX0_look_78 rfl rfl rfl
theorem rX0_look_79 {d : Nat} {h : Hp} {Q : Option PV → Hp → Prop} {st : List PV}{ls : List (Option PV)} : WP d mX0_look 79 ls st h Q = WP d mX0_look 81 ls (.inl (99) :: st) h Q := WP_step dX0_look_79 rfl rfl rfl
theorem rX0_look_81 {d : Nat} {h : Hp} {Q : Option PV → Hp → Prop} {ls : List (Option PV)}{r0 : PV}{v0 : Int} {v1 : Int} {v2 : Int} : WP (d + 1) mX0_look 81 ls (.inl v2 :: .inl v1 :: .inr (.inl v0) :: [r0]) h Q = WP d mX0_kept 0 [some (.inr (.inl v0)), none, some (.inl v1), some (.inl v2)] [] h (fun r h' => WP (d + 1) mX0_look 84 ls (psh r [r0]) h' Q) := R_callS (st := .inl v2 :: .inl v1 :: .inr (.inl v0) :: [r0]) (M := mX0_look) (pc := 81) (kd := 4) (n := 3) (M' := mX0_kept) (as := [.inl v2, .inl v1, .inr (.inl v0)]) (rest := [r0]) (en := [some (.inr (.inl v0)), none, some (.inl v1), some (.inl v2)]) dX0_look_81 rfl (Or.inl rfl) (Nat.le_of_ble_eq_true rfl) rfl (Nat.le_of_ble_eq_true rfl) rfl rfl rfl
theorem rX0_look_84 {d : Nat} {h : Hp} {Q : Option PV → Hp → Prop} {st : List PV}{ls : List (Option PV)}{a : Nat} {v : Int} : WP d mX0_look 84 ls (.inl v :: .inr (.inr a) :: st) h Q = ((hK h a).1 = 0 ∧ 200 ≤ a ∧ WP d mX0_look 87 ls st (wI h a 3 v) Q) := R_put0 dX0_look_84 rfl
theorem rX0_look_87 {d : Nat} {h : Hp} {Q : Option PV → Hp → Prop} {st : List PV}{t : List (Option PV)} {v : Nat} : WP d mX0_look 87 (some (.inr (.inr v)) :: t) st h Q = WP d mX0_look 88 (some (.inr (.inr v)) :: t) (.inr (.inr v) :: st) h Q := WP_step dX0_look_87 rfl rfl rfl
theorem rX0_look_88 {d : Nat} {h : Hp} {Q : Option PV → Hp → Prop} {st : List PV}{x0 x1 x2 x3 x4 : Option PV} {t : List (Option PV)} {v : Int} : WP d mX0_look 88 (x0 :: x1 :: x2 :: x3 :: x4 :: some (.inl v) :: t) st h Q = WP d mX0_look 90 (x0 :: x1 :: x2 :: x3 :: x4 :: some (.inl v) :: t) (.inl v :: st) h Q := WP_step dX0_look_88 rfl rfl rfl
theorem rX0_look_90 {d : Nat} {h : Hp} {Q : Option PV → Hp → Prop} {st : List PV}{ls : List (Option PV)}{a : Nat} {v : Int} : WP d mX0_look 90 ls (.inl v :: .inr (.inr a) :: st) h Q = ((hK h a).1 = 0 ∧ 200 ≤ a ∧ WP d mX0_look 93 ls st (wI h a 4 v) Q) := R_put0 dX0_look_90 rfl
theorem rX0_look_93 {d : Nat} {h : Hp} {Q : Option PV → Hp → Prop} {st : List PV}{ls : List (Option PV)} : WP d mX0_look 93 ls st h Q = WP d mX0_look 94 ls (.inl (0) :: st) h Q := WP_step dX0_look_93 rfl rfl rfl
theorem rX0_look_94 {d : Nat} {h : Hp} {Q : Option PV → Hp → Prop} {st : List PV}{x0 x1 x2 x3 x4 x5 x6 : Option PV} {v : Int} : WP d mX0_look 94 [x0, x1, x2, x3, x4, x5, x6] (.inl v :: st) h Q = WP d mX0_look 96 [x0, x1, x2, x3, x4, x5, some (.inl v)] st h Q := WP_step dX0_look_94 rfl rfl rfl
theorem rX0_look_96 {d : Nat} {h : Hp} {Q : Option PV → Hp → Prop} {st : List PV}{x0 x1 x2 x3 x4 x5 : Option PV} {t : List (Option PV)} {v : Int} : WP d mX0_look 96 (x0 :: x1 :: x2 :: x3 :: x4 :: x5 :: some (.inl v) :: t) st h Q = WP d mX0_look 98 (x0 :: x1 :: x2 :: x3 :: x4 :: x5 :: some (.inl v) :: t) (.inl v :: st) h Q := WP_step dX0_look_96 rfl rfl rfl
theorem rX0_look_98 {d : Nat} {h : Hp} {Q : Option PV → Hp → Prop} {st : List PV}{x0 : Option PV} {t : List (Option PV)} {v : Nat} : WP d mX0_look 98 (x0 :: some (.inr (.inr v)) :: t) st h Q = WP d mX0_look 99 (x0 :: some (.inr (.inr v)) :: t) (.inr (.inr v) :: st) h Q := WP_step dX0_look_98 rfl rfl rfl
theorem rX0_look_99 {d : Nat} {h : Hp} {Q : Option PV → Hp → Prop} {st : List PV}{ls : List (Option PV)}{a : Nat} : WP d mX0_look 99 ls (.inr (.inr a) :: st) h Q = ((hK h a).1 = 5 ∧ WP d mX0_look 102 ls (.inl (hI h a 10) :: st) h Q) := R_get0 dX0_look_99 rfl
theorem rX0_look_102 {d : Nat} {h : Hp} {Q : Option PV → Hp → Prop} {st : List PV}{ls : List (Option PV)}{a b : Int} : WP d mX0_look 102 ls (.inl b :: .inl a :: st) h Q = (if a < b then WP d mX0_look 105 ls st h Q else WP d mX0_look 155 ls st h Q) := R_icmp_ge dX0_look_102 (by decide)
theorem rX0_look_105 {d : Nat} {h : Hp} {Q : Option PV → Hp → Prop} {st : List PV}{x0 x1 x2 x3 x4 : Option PV} {t : List (Option PV)} {v : Int} : WP d mX0_look 105 (x0 :: x1 :: x2 :: x3 :: x4 :: some (.inl v) :: t) st h Q = WP d mX0_look 107 (x0 :: x1 :: x2 :: x3 :: x4 :: some (.inl v) :: t) (.inl v :: st) h Q := WP_step dX0_look_105 rfl rfl rfl
theorem rX0_look_107 {d : Nat} {h : Hp} {Q : Option PV → Hp → Prop} {st : List PV}{x0 x1 x2 x3 x4 x5 : Option PV} {t : List (Option PV)} {v : Int} : WP d mX0_look 107 (x0 :: x1 :: x2 :: x3 :: x4 :: x5 :: some (.inl v) :: t) st h Q = WP d mX0_look 109 (x0 :: x1 :: x2 :: x3 :: x4 :: x5 :: some (.inl v) :: t) (.inl v :: st) h Q := WP_step dX0_look_107 rfl rfl rfl
theorem rX0_look_109 {d : Nat} {h : Hp} {Q : Option PV → Hp → Prop} {ls : List (Option PV)}{v0 : Int} {v1 : Int} : WP (d + 1) mX0_look 109 ls (.inl v1 :: .inl v0 :: []) h Q = WP d mX11_has 0 [some (.inl v0), some (.inl v1)] [] h (fun r h' => WP (d + 1) mX0_look 112 ls (psh r []) h' Q) := R_callS (st := .inl v1 :: .inl v0 :: []) (M := mX0_look) (pc := 109) (kd := 5) (n := 2) (M' := mX11_has) (as := [.inl v1, .inl v0]) (rest := []) (en := [some (.inl v0), some (.inl v1)]) dX0_look_109 rfl (Or.inr rfl) (Nat.le_of_ble_eq_true rfl) rfl (Nat.le_of_ble_eq_true rfl) rfl rfl rfl
theorem rX0_look_112 {d : Nat} {h : Hp} {Q : Option PV → Hp → Prop} {st : List PV}{ls : List (Option PV)}{a : Int} : WP d mX0_look 112 ls (.inl a :: st) h Q = (if a = 0 then WP d mX0_look 149 ls st h Q else WP d mX0_look 115 ls st h Q) := R_if_eq dX0_look_112 (by decide)
theorem rX0_look_115 {d : Nat} {h : Hp} {Q : Option PV → Hp → Prop} {st : List PV}{x0 : Option PV} {t : List (Option PV)} {v : Nat} : WP d mX0_look 115 (x0 :: some (.inr (.inr v)) :: t) st h Q = WP d mX0_look 116 (x0 :: some (.inr (.inr v)) :: t) (.inr (.inr v) :: st) h Q := WP_step dX0_look_115 rfl rfl rfl
theorem rX0_look_116 {d : Nat} {h : Hp} {Q : Option PV → Hp → Prop} {st : List PV}{ls : List (Option PV)}{a : Nat} : WP d mX0_look 116 ls (.inr (.inr a) :: st) h Q = ((hK h a).1 = 5 ∧ WP d mX0_look 119 ls (.inr (.inr (hR h a 1)) :: st) h Q) := R_get2 dX0_look_116 rfl
theorem rX0_look_119 {d : Nat} {h : Hp} {Q : Option PV → Hp → Prop} {st : List PV}{x0 x1 x2 x3 x4 x5 : Option PV} {t : List (Option PV)} {v : Int} : WP d mX0_look 119 (x0 :: x1 :: x2 :: x3 :: x4 :: x5 :: some (.inl v) :: t) st h Q = WP d mX0_look 121 (x0 :: x1 :: x2 :: x3 :: x4 :: x5 :: some (.inl v) :: t) (.inl v :: st) h Q := WP_step dX0_look_119 rfl rfl rfl
theorem rX0_look_121 {d : Nat} {h : Hp} {Q : Option PV → Hp → Prop} {st : List PV}{ls : List (Option PV)}{a : Nat} {z : Int} : WP d mX0_look 121 ls (.inl z :: .inr (.inr a) :: st) h Q = ((hK h a).1 = 21 ∧ 0 ≤ z ∧ z < (hK h a).2 ∧ WP d mX0_look 122 ls (.inl (hI h a z.toNat) :: st) h Q) := R_iald dX0_look_121
theorem rX0_look_122 {d : Nat} {h : Hp} {Q : Option PV → Hp → Prop} {st : List PV}{x0 x1 : Option PV} {t : List (Option PV)} {v : Nat} : WP d mX0_look 122 (x0 :: x1 :: some (.inr (.inr v)) :: t) st h Q = WP d mX0_look 123 (x0 :: x1 :: some (.inr (.inr v)) :: t) (.inr (.inr v) :: st) h Q := WP_step dX0_look_122 rfl rfl rfl
theorem rX0_look_123 {d : Nat} {h : Hp} {Q : Option PV → Hp → Prop} {st : List PV}{ls : List (Option PV)}{a : Nat} : WP d mX0_look 123 ls (.inr (.inr a) :: st) h Q = ((hK h a).1 = 8 ∧ WP d mX0_look 126 ls (.inr (.inr (hR h a 1)) :: st) h Q) := R_get2 dX0_look_123 rfl
theorem rX0_look_126 {d : Nat} {h : Hp} {Q : Option PV → Hp → Prop} {st : List PV}{x0 x1 x2 : Option PV} {t : List (Option PV)} {v : Int} : WP d mX0_look 126 (x0 :: x1 :: x2 :: some (.inl v) :: t) st h Q = WP d mX0_look 127 (x0 :: x1 :: x2 :: some (.inl v) :: t) (.inl v :: st) h Q := WP_step dX0_look_126 rfl rfl rfl
theorem rX0_look_127 {d : Nat} {h : Hp} {Q : Option PV → Hp → Prop} {st : List PV}{ls : List (Option PV)}{a : Nat} {z : Int} : WP d mX0_look 127 ls (.inl z :: .inr (.inr a) :: st) h Q = ((hK h a).1 = 21 ∧ 0 ≤ z ∧ z < (hK h a).2 ∧ WP d mX0_look 128 ls (.inl (hI h a z.toNat) :: st) h Q) := R_iald dX0_look_127
theorem rX0_look_128 {d : Nat} {h : Hp} {Q : Option PV → Hp → Prop} {st : List PV}{ls : List (Option PV)}{a b : Int} : WP d mX0_look 128 ls (.inl b :: .inl a :: st) h Q = (if b < a then WP d mX0_look 131 ls st h Q else WP d mX0_look 149 ls st h Q) := R_icmp_le dX0_look_128 (by decide)
theorem rX0_look_131 {d : Nat} {h : Hp} {Q : Option PV → Hp → Prop} {st : List PV}{t : List (Option PV)} {v : Nat} : WP d mX0_look 131 (some (.inr (.inr v)) :: t) st h Q = WP d mX0_look 132 (some (.inr (.inr v)) :: t) (.inr (.inr v) :: st) h Q := WP_step dX0_look_131 rfl rfl rfl
theorem rX0_look_132 {d : Nat} {h : Hp} {Q : Option PV → Hp → Prop} {st : List PV}{t : List (Option PV)} {v : Nat} : WP d mX0_look 132 (some (.inr (.inr v)) :: t) st h Q = WP d mX0_look 133 (some (.inr (.inr v)) :: t) (.inr (.inr v) :: st) h Q := WP_step dX0_look_132 rfl rfl rfl
theorem rX0_look_133 {d : Nat} {h : Hp} {Q : Option PV → Hp → Prop} {st : List PV}{ls : List (Option PV)}{a : Nat} : WP d mX0_look 133 ls (.inr (.inr a) :: st) h Q = ((hK h a).1 = 0 ∧ WP d mX0_look 136 ls (.inl (hI h a 3) :: st) h Q) := R_get0 dX0_look_133 rfl
theorem rX0_look_136 {d : Nat} {h : Hp} {Q : Option PV → Hp → Prop} {st : List PV}{x0 : Option PV} {t : List (Option PV)} {v : Nat} : WP d mX0_look 136 (x0 :: some (.inr (.inr v)) :: t) st h Q = WP d mX0_look 137 (x0 :: some (.inr (.inr v)) :: t) (.inr (.inr v) :: st) h Q := WP_step dX0_look_136 rfl rfl rfl
theorem rX0_look_137 {d : Nat} {h : Hp} {Q : Option PV → Hp → Prop} {st : List PV}{ls : List (Option PV)}{a : Nat} : WP d mX0_look 137 ls (.inr (.inr a) :: st) h Q = ((hK h a).1 = 5 ∧ WP d mX0_look 140 ls (.inr (.inr (hR h a 0)) :: st) h Q) := R_get2 dX0_look_137 rfl
theorem rX0_look_140 {d : Nat} {h : Hp} {Q : Option PV → Hp → Prop} {st : List PV}{x0 x1 x2 x3 x4 x5 : Option PV} {t : List (Option PV)} {v : Int} : WP d mX0_look 140 (x0 :: x1 :: x2 :: x3 :: x4 :: x5 :: some (.inl v) :: t) st h Q = WP d mX0_look 142 (x0 :: x1 :: x2 :: x3 :: x4 :: x5 :: some (.inl v) :: t) (.inl v :: st) h Q := WP_step dX0_look_140 rfl rfl rfl
theorem rX0_look_142 {d : Nat} {h : Hp} {Q : Option PV → Hp → Prop} {st : List PV}{ls : List (Option PV)}{a : Nat} {z : Int} : WP d mX0_look 142 ls (.inl z :: .inr (.inr a) :: st) h Q = ((hK h a).1 = 21 ∧ 0 ≤ z ∧ z < (hK h a).2 ∧ WP d mX0_look 143 ls (.inl (hI h a z.toNat) :: st) h Q) := R_iald dX0_look_142
theorem rX0_look_143 {d : Nat} {h : Hp} {Q : Option PV → Hp → Prop} {ls : List (Option PV)}{r0 : PV}{v0 : Int} {v1 : Int} : WP (d + 1) mX0_look 143 ls (.inl v1 :: .inl v0 :: [r0]) h Q = WP d mJ9_min_7cf53 0 [some (.inl v0), some (.inl v1)] [] h (fun r h' => WP (d + 1) mX0_look 146 ls (psh r [r0]) h' Q) := R_callS (st := .inl v1 :: .inl v0 :: [r0]) (M := mX0_look) (pc := 143) (kd := 4) (n := 2) (M' := mJ9_min_7cf53) (as := [.inl v1, .inl v0]) (rest := [r0]) (en := [some (.inl v0), some (.inl v1)]) dX0_look_143 rfl (Or.inl rfl) (Nat.le_of_ble_eq_true rfl) rfl (Nat.le_of_ble_eq_true rfl) rfl rfl rfl
theorem rX0_look_146 {d : Nat} {h : Hp} {Q : Option PV → Hp → Prop} {st : List PV}{ls : List (Option PV)}{a : Nat} {v : Int} : WP d mX0_look 146 ls (.inl v :: .inr (.inr a) :: st) h Q = ((hK h a).1 = 0 ∧ 200 ≤ a ∧ WP d mX0_look 149 ls st (wI h a 3 v) Q) := R_put0 dX0_look_146 rfl
theorem rX0_look_149 {d : Nat} {h : Hp} {Q : Option PV → Hp → Prop} {st : List PV}{x0 x1 x2 x3 x4 x5 : Option PV} {t : List (Option PV)} {v : Int} : WP d mX0_look 149 (x0 :: x1 :: x2 :: x3 :: x4 :: x5 :: some (.inl v) :: t) st h Q = WP d mX0_look 152 (x0 :: x1 :: x2 :: x3 :: x4 :: x5 :: some (.inl (w32 (v + 1))) :: t) st h Q := WP_step dX0_look_149 rfl rfl rfl
theorem rX0_look_152 {d : Nat} {h : Hp} {Q : Option PV → Hp → Prop} {st : List PV}{ls : List (Option PV)} : WP d mX0_look 152 ls st h Q = WP d mX0_look 96 ls st h Q := R_goto dX0_look_152 (by decide)
theorem rX0_look_155 {d : Nat} {h : Hp} {Q : Option PV → Hp → Prop} {st : List PV}{ls : List (Option PV)} : WP d mX0_look 155 ls st h Q = WP d mX0_look 156 ls (.inl (0) :: st) h Q := WP_step dX0_look_155 rfl rfl rfl
theorem rX0_look_156 {d : Nat} {h : Hp} {Q : Option PV → Hp → Prop} {st : List PV}{x0 x1 x2 x3 x4 x5 x6 : Option PV} {v : Int} : WP d mX0_look 156 [x0, x1, x2, x3, x4, x5, x6] (.inl v :: st) h Q = WP d mX0_look 158 [x0, x1, x2, x3, x4, x5, some (.inl v)] st h Q := WP_step dX0_look_156 rfl rfl rfl
theorem rX0_look_158 {d : Nat} {h : Hp} {Q : Option PV → Hp → Prop} {st : List PV}{x0 x1 x2 x3 x4 x5 : Option PV} {t : List (Option PV)} {v : Int} : WP d mX0_look 158 (x0 :: x1 :: x2 :: x3 :: x4 :: x5 :: some (.inl v) :: t) st h Q = WP d mX0_look 160 (x0 :: x1 :: x2 :: x3 :: x4 :: x5 :: some (.inl v) :: t) (.inl v :: st) h Q := WP_step dX0_look_158 rfl rfl rfl
theorem rX0_look_160 {d : Nat} {h : Hp} {Q : Option PV → Hp → Prop} {st : List PV}{x0 : Option PV} {t : List (Option PV)} {v : Nat} : WP d mX0_look 160 (x0 :: some (.inr (.inr v)) :: t) st h Q = WP d mX0_look 161 (x0 :: some (.inr (.inr v)) :: t) (.inr (.inr v) :: st) h Q := WP_step dX0_look_160 rfl rfl rfl
theorem rX0_look_161 {d : Nat} {h : Hp} {Q : Option PV → Hp → Prop} {st : List PV}{ls : List (Option PV)}{a : Nat} : WP d mX0_look 161 ls (.inr (.inr a) :: st) h Q = ((hK h a).1 = 5 ∧ WP d mX0_look 164 ls (.inl (hI h a 10) :: st) h Q) := R_get0 dX0_look_161 rfl
theorem rX0_look_164 {d : Nat} {h : Hp} {Q : Option PV → Hp → Prop} {st : List PV}{ls : List (Option PV)}{a b : Int} : WP d mX0_look 164 ls (.inl b :: .inl a :: st) h Q = (if a < b then WP d mX0_look 167 ls st h Q else WP d mX0_look 215 ls st h Q) := R_icmp_ge dX0_look_164 (by decide)
theorem rX0_look_167 {d : Nat} {h : Hp} {Q : Option PV → Hp → Prop} {st : List PV}{x0 : Option PV} {t : List (Option PV)} {v : Nat} : WP d mX0_look 167 (x0 :: some (.inr (.inr v)) :: t) st h Q = WP d mX0_look 168 (x0 :: some (.inr (.inr v)) :: t) (.inr (.inr v) :: st) h Q := WP_step dX0_look_167 rfl rfl rfl
theorem rX0_look_168 {d : Nat} {h : Hp} {Q : Option PV → Hp → Prop} {st : List PV}{ls : List (Option PV)}{a : Nat} : WP d mX0_look 168 ls (.inr (.inr a) :: st) h Q = ((hK h a).1 = 5 ∧ WP d mX0_look 171 ls (.inr (.inr (hR h a 0)) :: st) h Q) := R_get2 dX0_look_168 rfl
theorem rX0_look_171 {d : Nat} {h : Hp} {Q : Option PV → Hp → Prop} {st : List PV}{x0 x1 x2 x3 x4 x5 : Option PV} {t : List (Option PV)} {v : Int} : WP d mX0_look 171 (x0 :: x1 :: x2 :: x3 :: x4 :: x5 :: some (.inl v) :: t) st h Q = WP d mX0_look 173 (x0 :: x1 :: x2 :: x3 :: x4 :: x5 :: some (.inl v) :: t) (.inl v :: st) h Q := WP_step dX0_look_171 rfl rfl rfl
theorem rX0_look_173 {d : Nat} {h : Hp} {Q : Option PV → Hp → Prop} {st : List PV}{ls : List (Option PV)}{a : Nat} {z : Int} : WP d mX0_look 173 ls (.inl z :: .inr (.inr a) :: st) h Q = ((hK h a).1 = 21 ∧ 0 ≤ z ∧ z < (hK h a).2 ∧ WP d mX0_look 174 ls (.inl (hI h a z.toNat) :: st) h Q) := R_iald dX0_look_173
theorem rX0_look_174 {d : Nat} {h : Hp} {Q : Option PV → Hp → Prop} {st : List PV}{t : List (Option PV)} {v : Nat} : WP d mX0_look 174 (some (.inr (.inr v)) :: t) st h Q = WP d mX0_look 175 (some (.inr (.inr v)) :: t) (.inr (.inr v) :: st) h Q := WP_step dX0_look_174 rfl rfl rfl
theorem rX0_look_175 {d : Nat} {h : Hp} {Q : Option PV → Hp → Prop} {st : List PV}{ls : List (Option PV)}{a : Nat} : WP d mX0_look 175 ls (.inr (.inr a) :: st) h Q = ((hK h a).1 = 0 ∧ WP d mX0_look 178 ls (.inl (hI h a 3) :: st) h Q) := R_get0 dX0_look_175 rfl
theorem rX0_look_178 {d : Nat} {h : Hp} {Q : Option PV → Hp → Prop} {st : List PV}{ls : List (Option PV)}{a b : Int} : WP d mX0_look 178 ls (.inl b :: .inl a :: st) h Q = (if b < a then WP d mX0_look 209 ls st h Q else WP d mX0_look 181 ls st h Q) := R_icmp_gt dX0_look_178 (by decide)
theorem rX0_look_181 {d : Nat} {h : Hp} {Q : Option PV → Hp → Prop} {st : List PV}{x0 : Option PV} {t : List (Option PV)} {v : Nat} : WP d mX0_look 181 (x0 :: some (.inr (.inr v)) :: t) st h Q = WP d mX0_look 182 (x0 :: some (.inr (.inr v)) :: t) (.inr (.inr v) :: st) h Q := WP_step dX0_look_181 rfl rfl rfl
theorem rX0_look_182 {d : Nat} {h : Hp} {Q : Option PV → Hp → Prop} {st : List PV}{ls : List (Option PV)}{a : Nat} : WP d mX0_look 182 ls (.inr (.inr a) :: st) h Q = ((hK h a).1 = 5 ∧ WP d mX0_look 185 ls (.inr (.inr (hR h a 2)) :: st) h Q) := R_get2 dX0_look_182 rfl
theorem rX0_look_185 {d : Nat} {h : Hp} {Q : Option PV → Hp → Prop} {st : List PV}{x0 x1 x2 x3 x4 x5 : Option PV} {t : List (Option PV)} {v : Int} : WP d mX0_look 185 (x0 :: x1 :: x2 :: x3 :: x4 :: x5 :: some (.inl v) :: t) st h Q = WP d mX0_look 187 (x0 :: x1 :: x2 :: x3 :: x4 :: x5 :: some (.inl v) :: t) (.inl v :: st) h Q := WP_step dX0_look_185 rfl rfl rfl
theorem rX0_look_187 {d : Nat} {h : Hp} {Q : Option PV → Hp → Prop} {st : List PV}{ls : List (Option PV)}{a : Nat} {z : Int} : WP d mX0_look 187 ls (.inl z :: .inr (.inr a) :: st) h Q = ((hK h a).1 = 21 ∧ 0 ≤ z ∧ z < (hK h a).2 ∧ WP d mX0_look 188 ls (.inl (hI h a z.toNat) :: st) h Q) := R_iald dX0_look_187
theorem rX0_look_188 {d : Nat} {h : Hp} {Q : Option PV → Hp → Prop} {st : List PV}{x0 x1 x2 x3 x4 : Option PV} {t : List (Option PV)} {v : Int} : WP d mX0_look 188 (x0 :: x1 :: x2 :: x3 :: x4 :: some (.inl v) :: t) st h Q = WP d mX0_look 190 (x0 :: x1 :: x2 :: x3 :: x4 :: some (.inl v) :: t) (.inl v :: st) h Q := WP_step dX0_look_188 rfl rfl rfl
theorem rX0_look_190 {d : Nat} {h : Hp} {Q : Option PV → Hp → Prop} {st : List PV}{ls : List (Option PV)} : WP d mX0_look 190 ls st h Q = WP d mX0_look 191 ls (.inl (-1) :: st) h Q := WP_step dX0_look_190 rfl rfl rfl
theorem rX0_look_191 {d : Nat} {h : Hp} {Q : Option PV → Hp → Prop} {st : List PV}{ls : List (Option PV)}{a b : Int} : WP d mX0_look 191 ls (.inl b :: .inl a :: st) h Q = WP d mX0_look 192 ls (.inl (ixor a b) :: st) h Q := WP_step dX0_look_191 rfl rfl rfl
theorem rX0_look_192 {d : Nat} {h : Hp} {Q : Option PV → Hp → Prop} {st : List PV}{ls : List (Option PV)}{a b : Int} : WP d mX0_look 192 ls (.inl b :: .inl a :: st) h Q = WP d mX0_look 193 ls (.inl (iand a b) :: st) h Q := WP_step dX0_look_192 rfl rfl rfl
theorem rX0_look_193 {d : Nat} {h : Hp} {Q : Option PV → Hp → Prop} {st : List PV}{ls : List (Option PV)}{a : Int} : WP d mX0_look 193 ls (.inl a :: st) h Q = (if a = 0 then WP d mX0_look 196 ls st h Q else WP d mX0_look 209 ls st h Q) := R_if_ne dX0_look_193 (by decide)
theorem rX0_look_196 {d : Nat} {h : Hp} {Q : Option PV → Hp → Prop} {st : List PV}{t : List (Option PV)} {v : Nat} : WP d mX0_look 196 (some (.inr (.inr v)) :: t) st h Q = WP d mX0_look 197 (some (.inr (.inr v)) :: t) (.inr (.inr v) :: st) h Q := WP_step dX0_look_196 rfl rfl rfl
theorem rX0_look_197 {d : Nat} {h : Hp} {Q : Option PV → Hp → Prop} {st : List PV}{ls : List (Option PV)}{a : Nat} : WP d mX0_look 197 ls (.inr (.inr a) :: st) h Q = WP d mX0_look 198 ls (.inr (.inr a) :: .inr (.inr a) :: st) h Q := WP_step dX0_look_197 rfl rfl rfl
theorem rX0_look_198 {d : Nat} {h : Hp} {Q : Option PV → Hp → Prop} {st : List PV}{ls : List (Option PV)}{a : Nat} : WP d mX0_look 198 ls (.inr (.inr a) :: st) h Q = ((hK h a).1 = 0 ∧ WP d mX0_look 201 ls (.inl (hI h a 4) :: st) h Q) := R_get0 dX0_look_198 rfl
theorem rX0_look_201 {d : Nat} {h : Hp} {Q : Option PV → Hp → Prop} {st : List PV}{ls : List (Option PV)} : WP d mX0_look 201 ls st h Q = WP d mX0_look 202 ls (.inl (1) :: st) h Q := WP_step dX0_look_201 rfl rfl rfl
theorem rX0_look_202 {d : Nat} {h : Hp} {Q : Option PV → Hp → Prop} {st : List PV}{x0 x1 x2 x3 x4 x5 : Option PV} {t : List (Option PV)} {v : Int} : WP d mX0_look 202 (x0 :: x1 :: x2 :: x3 :: x4 :: x5 :: some (.inl v) :: t) st h Q = WP d mX0_look 204 (x0 :: x1 :: x2 :: x3 :: x4 :: x5 :: some (.inl v) :: t) (.inl v :: st) h Q := WP_step dX0_look_202 rfl rfl rfl
theorem rX0_look_204 {d : Nat} {h : Hp} {Q : Option PV → Hp → Prop} {st : List PV}{ls : List (Option PV)}{a b : Int} : WP d mX0_look 204 ls (.inl b :: .inl a :: st) h Q = WP d mX0_look 205 ls (.inl (ishl a b) :: st) h Q := WP_step dX0_look_204 rfl rfl rfl
theorem rX0_look_205 {d : Nat} {h : Hp} {Q : Option PV → Hp → Prop} {st : List PV}{ls : List (Option PV)}{a b : Int} : WP d mX0_look 205 ls (.inl b :: .inl a :: st) h Q = WP d mX0_look 206 ls (.inl (ior a b) :: st) h Q := WP_step dX0_look_205 rfl rfl rfl
theorem rX0_look_206 {d : Nat} {h : Hp} {Q : Option PV → Hp → Prop} {st : List PV}{ls : List (Option PV)}{a : Nat} {v : Int} : WP d mX0_look 206 ls (.inl v :: .inr (.inr a) :: st) h Q = ((hK h a).1 = 0 ∧ 200 ≤ a ∧ WP d mX0_look 209 ls st (wI h a 4 v) Q) := R_put0 dX0_look_206 rfl
theorem rX0_look_209 {d : Nat} {h : Hp} {Q : Option PV → Hp → Prop} {st : List PV}{x0 x1 x2 x3 x4 x5 : Option PV} {t : List (Option PV)} {v : Int} : WP d mX0_look 209 (x0 :: x1 :: x2 :: x3 :: x4 :: x5 :: some (.inl v) :: t) st h Q = WP d mX0_look 212 (x0 :: x1 :: x2 :: x3 :: x4 :: x5 :: some (.inl (w32 (v + 1))) :: t) st h Q := WP_step dX0_look_209 rfl rfl rfl
theorem rX0_look_212 {d : Nat} {h : Hp} {Q : Option PV → Hp → Prop} {st : List PV}{ls : List (Option PV)} : WP d mX0_look 212 ls st h Q = WP d mX0_look 158 ls st h Q := R_goto dX0_look_212 (by decide)
theorem rX0_look_215 {d : Nat} {h : Hp} {Q : Option PV → Hp → Prop} {st : List PV}{t : List (Option PV)} {v : Nat} : WP d mX0_look 215 (some (.inr (.inr v)) :: t) st h Q = WP d mX0_look 216 (some (.inr (.inr v)) :: t) (.inr (.inr v) :: st) h Q := WP_step dX0_look_215 rfl rfl rfl
theorem rX0_look_216 {d : Nat} {h : Hp} {Q : Option PV → Hp → Prop} {st : List PV}{ls : List (Option PV)}{a : Nat} : WP d mX0_look 216 ls (.inr (.inr a) :: st) h Q = ((hK h a).1 = 0 ∧ WP d mX0_look 219 ls (.inr (.inr (hR h a 0)) :: st) h Q) := R_get2 dX0_look_216 rfl
theorem rX0_look_219 {d : Nat} {h : Hp} {Q : Option PV → Hp → Prop} {st : List PV}{ls : List (Option PV)} : WP d mX0_look 219 ls st h Q = WP d mX0_look 220 ls (.inl (5) :: st) h Q := WP_step dX0_look_219 rfl rfl rfl
theorem rX0_look_220 {d : Nat} {h : Hp} {Q : Option PV → Hp → Prop} {st : List PV}{t : List (Option PV)} {v : Nat} : WP d mX0_look 220 (some (.inr (.inr v)) :: t) st h Q = WP d mX0_look 221 (some (.inr (.inr v)) :: t) (.inr (.inr v) :: st) h Q := WP_step dX0_look_220 rfl rfl rfl
theorem rX0_look_221 {d : Nat} {h : Hp} {Q : Option PV → Hp → Prop} {st : List PV}{ls : List (Option PV)}{a : Nat} : WP d mX0_look 221 ls (.inr (.inr a) :: st) h Q = ((hK h a).1 = 0 ∧ WP d mX0_look 224 ls (.inl (hI h a 3) :: st) h Q) := R_get0 dX0_look_221 rfl
theorem rX0_look_224 {d : Nat} {h : Hp} {Q : Option PV → Hp → Prop} {st : List PV}{ls : List (Option PV)}{a : Nat} {z v : Int} : WP d mX0_look 224 ls (.inl v :: .inl z :: .inr (.inr a) :: st) h Q = (200 ≤ a ∧ (hK h a).1 = 21 ∧ 0 ≤ z ∧ z < (hK h a).2 ∧ WP d mX0_look 225 ls st (wI h a z.toNat v) Q) := R_iast dX0_look_224
theorem rX0_look_225 {d : Nat} {h : Hp} {Q : Option PV → Hp → Prop} {st : List PV}{t : List (Option PV)} {v : Nat} : WP d mX0_look 225 (some (.inr (.inr v)) :: t) st h Q = WP d mX0_look 226 (some (.inr (.inr v)) :: t) (.inr (.inr v) :: st) h Q := WP_step dX0_look_225 rfl rfl rfl
theorem rX0_look_226 {d : Nat} {h : Hp} {Q : Option PV → Hp → Prop} {st : List PV}{x0 x1 x2 x3 : Option PV} {t : List (Option PV)} {v : Int} : WP d mX0_look 226 (x0 :: x1 :: x2 :: x3 :: some (.inl v) :: t) st h Q = WP d mX0_look 228 (x0 :: x1 :: x2 :: x3 :: some (.inl v) :: t) (.inl v :: st) h Q := WP_step dX0_look_226 rfl rfl rfl
theorem rX0_look_228 {d : Nat} {h : Hp} {Q : Option PV → Hp → Prop} {st : List PV}{ls : List (Option PV)} : WP d mX0_look 228 ls st h Q = WP d mX0_look 229 ls (.inl (1) :: st) h Q := WP_step dX0_look_228 rfl rfl rfl
theorem rX0_look_229 {d : Nat} {h : Hp} {Q : Option PV → Hp → Prop} {st : List PV}{ls : List (Option PV)}{a b : Int} : WP d mX0_look 229 ls (.inl b :: .inl a :: st) h Q = WP d mX0_look 230 ls (.inl (w32 (a + b)) :: st) h Q := WP_step dX0_look_229 rfl rfl rfl
theorem rX0_look_230 {d : Nat} {h : Hp} {Q : Option PV → Hp → Prop} {st : List PV}{ls : List (Option PV)} : WP d mX0_look 230 ls st h Q = WP d mX0_look 232 ls (.inl (99) :: st) h Q := WP_step dX0_look_230 rfl rfl rfl
theorem rX0_look_232 {d : Nat} {h : Hp} {Q : Option PV → Hp → Prop} {ls : List (Option PV)}{r0 : PV}{v0 : Int} {v1 : Int} : WP (d + 1) mX0_look 232 ls (.inl v1 :: .inl v0 :: [r0]) h Q = WP d mJ9_min_7cf53 0 [some (.inl v0), some (.inl v1)] [] h (fun r h' => WP (d + 1) mX0_look 235 ls (psh r [r0]) h' Q) := R_callS (st := .inl v1 :: .inl v0 :: [r0]) (M := mX0_look) (pc := 232) (kd := 4) (n := 2) (M' := mJ9_min_7cf53) (as := [.inl v1, .inl v0]) (rest := [r0]) (en := [some (.inl v0), some (.inl v1)]) dX0_look_232 rfl (Or.inl rfl) (Nat.le_of_ble_eq_true rfl) rfl (Nat.le_of_ble_eq_true rfl) rfl rfl rfl
theorem rX0_look_235 {d : Nat} {h : Hp} {Q : Option PV → Hp → Prop} {st : List PV}{ls : List (Option PV)}{a : Nat} {v : Int} : WP d mX0_look 235 ls (.inl v :: .inr (.inr a) :: st) h Q = ((hK h a).1 = 0 ∧ 200 ≤ a ∧ WP d mX0_look 238 ls st (wI h a 5 v) Q) := R_put0 dX0_look_235 rfl
theorem rX0_look_238 {d : Nat} {h : Hp} {Q : Option PV → Hp → Prop} {st : List PV}{x0 : Option PV} {t : List (Option PV)} {v : Nat} : WP d mX0_look 238 (x0 :: some (.inr (.inr v)) :: t) st h Q = WP d mX0_look 239 (x0 :: some (.inr (.inr v)) :: t) (.inr (.inr v) :: st) h Q := WP_step dX0_look_238 rfl rfl rfl
theorem rX0_look_239 {d : Nat} {h : Hp} {Q : Option PV → Hp → Prop} {st : List PV}{ls : List (Option PV)}{a : Nat} : WP d mX0_look 239 ls (.inr (.inr a) :: st) h Q = ((hK h a).1 = 5 ∧ WP d mX0_look 242 ls (.inr (.inr (hR h a 7)) :: st) h Q) := R_get2 dX0_look_239 rfl
theorem rX0_look_242 {d : Nat} {h : Hp} {Q : Option PV → Hp → Prop} {st : List PV}{ls : List (Option PV)}{a : Nat} : WP d mX0_look 242 ls (.inr (.inr a) :: st) h Q = ((20 ≤ (hK h a).1 ∧ (hK h a).1 ≤ 26) ∧ WP d mX0_look 243 ls (.inl (hK h a).2 :: st) h Q) := R_alen dX0_look_242
theorem rX0_look_243 {d : Nat} {h : Hp} {Q : Option PV → Hp → Prop} {st : List PV}{ls : List (Option PV)}{a : Int} : WP d mX0_look 243 ls (.inl a :: st) h Q = (if 0 < a then WP d mX0_look 246 ls st h Q else WP d mX0_look 265 ls st h Q) := R_if_le dX0_look_243 (by decide)
theorem rX0_look_246 {d : Nat} {h : Hp} {Q : Option PV → Hp → Prop} {st : List PV}{t : List (Option PV)} {v : Nat} : WP d mX0_look 246 (some (.inr (.inr v)) :: t) st h Q = WP d mX0_look 247 (some (.inr (.inr v)) :: t) (.inr (.inr v) :: st) h Q := WP_step dX0_look_246 rfl rfl rfl
theorem rX0_look_247 {d : Nat} {h : Hp} {Q : Option PV → Hp → Prop} {st : List PV}{t : List (Option PV)} {v : Nat} : WP d mX0_look 247 (some (.inr (.inr v)) :: t) st h Q = WP d mX0_look 248 (some (.inr (.inr v)) :: t) (.inr (.inr v) :: st) h Q := WP_step dX0_look_247 rfl rfl rfl
theorem rX0_look_248 {d : Nat} {h : Hp} {Q : Option PV → Hp → Prop} {st : List PV}{x0 : Option PV} {t : List (Option PV)} {v : Nat} : WP d mX0_look 248 (x0 :: some (.inr (.inr v)) :: t) st h Q = WP d mX0_look 249 (x0 :: some (.inr (.inr v)) :: t) (.inr (.inr v) :: st) h Q := WP_step dX0_look_248 rfl rfl rfl
theorem rX0_look_249 {d : Nat} {h : Hp} {Q : Option PV → Hp → Prop} {st : List PV}{ls : List (Option PV)}{a : Nat} : WP d mX0_look 249 ls (.inr (.inr a) :: st) h Q = ((hK h a).1 = 5 ∧ WP d mX0_look 252 ls (.inr (.inr (hR h a 7)) :: st) h Q) := R_get2 dX0_look_249 rfl
theorem rX0_look_252 {d : Nat} {h : Hp} {Q : Option PV → Hp → Prop} {ls : List (Option PV)}{r0 : PV}{v0 : Nat} {v1 : Nat} : WP (d + 1) mX0_look 252 ls (.inr (.inr v1) :: .inr (.inr v0) :: [r0]) h Q = ((hK h v0).1 = 0 ∧ WP d mX0_worth 0 [some (.inr (.inr v0)), some (.inr (.inr v1)), none, none, none, none, none] [] h (fun r h' => WP (d + 1) mX0_look 255 ls (psh r [r0]) h' Q)) := R_callV (st := .inr (.inr v1) :: .inr (.inr v0) :: [r0]) (M := mX0_look) (pc := 252) (kd := 0) (n := 2) (M' := mX0_worth) (as := [.inr (.inr v1), .inr (.inr v0)]) (rest := [r0]) (en := [some (.inr (.inr v0)), some (.inr (.inr v1)), none, none, none, none, none]) dX0_look_252 rfl (Nat.le_of_ble_eq_true rfl) (Nat.le_of_ble_eq_true rfl) rfl rfl (Nat.le_of_ble_eq_true rfl) rfl rfl rfl
theorem rX0_look_255 {d : Nat} {h : Hp} {Q : Option PV → Hp → Prop} {st : List PV}{ls : List (Option PV)}{a : Int} : WP d mX0_look 255 ls (.inl a :: st) h Q = WP d mX0_look 256 ls (.inr (.inl a) :: st) h Q := WP_step dX0_look_255 rfl rfl rfl
theorem rX0_look_256 {d : Nat} {h : Hp} {Q : Option PV → Hp → Prop} {st : List PV}{ls : List (Option PV)} : WP d mX0_look 256 ls st h Q = WP d mX0_look 257 ls (.inl (0) :: st) h Q := WP_step dX0_look_256 rfl rfl rfl
theorem rX0_look_257 {d : Nat} {h : Hp} {Q : Option PV → Hp → Prop} {st : List PV}{ls : List (Option PV)} : WP d mX0_look 257 ls st h Q = WP d mX0_look 259 ls (.inl (99) :: st) h Q := WP_step dX0_look_257 rfl rfl rfl
theorem rX0_look_259 {d : Nat} {h : Hp} {Q : Option PV → Hp → Prop} {ls : List (Option PV)}{r0 : PV}{v0 : Int} {v1 : Int} {v2 : Int} : WP (d + 1) mX0_look 259 ls (.inl v2 :: .inl v1 :: .inr (.inl v0) :: [r0]) h Q = WP d mX0_kept 0 [some (.inr (.inl v0)), none, some (.inl v1), some (.inl v2)] [] h (fun r h' => WP (d + 1) mX0_look 262 ls (psh r [r0]) h' Q) := R_callS (st := .inl v2 :: .inl v1 :: .inr (.inl v0) :: [r0]) (M := mX0_look) (pc := 259) (kd := 4) (n := 3) (M' := mX0_kept) (as := [.inl v2, .inl v1, .inr (.inl v0)]) (rest := [r0]) (en := [some (.inr (.inl v0)), none, some (.inl v1), some (.inl v2)]) dX0_look_259 rfl (Or.inl rfl) (Nat.le_of_ble_eq_true rfl) rfl (Nat.le_of_ble_eq_true rfl) rfl rfl rfl
theorem rX0_look_262 {d : Nat} {h : Hp} {Q : Option PV → Hp → Prop} {st : List PV}{ls : List (Option PV)}{a : Nat} {v : Int} : WP d mX0_look 262 ls (.inl v :: .inr (.inr a) :: st) h Q = ((hK h a).1 = 0 ∧ 200 ≤ a ∧ WP d mX0_look 265 ls st (wI h a 5 v) Q) := R_put0 dX0_look_262 rfl
theorem rX0_look_265 {d : Nat} {h : Hp} {Q : Option PV → Hp → Prop} {ls : List (Option PV)} : WP d mX0_look 265 ls [] h Q = Q none h := R_vret dX0_look_265 rfl
theorem dX0_worth_0 : decode prog_2_method_3_code 0 = .ok (.aload_n 0, 1) := by decide +kernel
theorem dX0_worth_1 : decode prog_2_method_3_code 1 = .ok (.iconst 0, 1) := by decide +kernel
theorem dX0_worth_2 : decode prog_2_method_3_code 2 = .ok (.putfield 78, 3) := by decide +kernel
theorem dX0_worth_5 : decode prog_2_method_3_code 5 = .ok (.iconst 0, 1) := by decide +kernel
theorem dX0_worth_6 : decode prog_2_method_3_code 6 = .ok (.istore_n 2, 1) := by decide +kernel
theorem dX0_worth_7 : decode prog_2_method_3_code 7 = .ok (.iload_n 2, 1) := by decide +kernel
theorem dX0_worth_8 : decode prog_2_method_3_code 8 = .ok (.aload_n 1, 1) := by decide +kernel
theorem dX0_worth_9 : decode prog_2_method_3_code 9 = .ok (.arraylength, 1) := by decide +kernel
theorem dX0_worth_10 : decode prog_2_method_3_code 10 = .ok (.if_icmp .ge 137, 3) := by decide +kernel
theorem dX0_worth_13 : decode prog_2_method_3_code 13 = .ok (.aload_n 1, 1) := by decide +kernel
theorem dX0_worth_14 : decode prog_2_method_3_code 14 = .ok (.iload_n 2, 1) := by decide +kernel
theorem dX0_worth_15 : decode prog_2_method_3_code 15 = .ok (.iaload, 1) := by decide +kernel
theorem dX0_worth_16 : decode prog_2_method_3_code 16 = .ok (.bipush 15, 2) := by decide +kernel
theorem dX0_worth_18 : decode prog_2_method_3_code 18 = .ok (.iand, 1) := by decide +kernel
theorem dX0_worth_19 : decode prog_2_method_3_code 19 = .ok (.istore_n 3, 1) := by decide +kernel
theorem dX0_worth_20 : decode prog_2_method_3_code 20 = .ok (.aload_n 1, 1) := by decide +kernel
theorem dX0_worth_21 : decode prog_2_method_3_code 21 = .ok (.iload_n 2, 1) := by decide +kernel
theorem dX0_worth_22 : decode prog_2_method_3_code 22 = .ok (.iaload, 1) := by decide +kernel
theorem dX0_worth_23 : decode prog_2_method_3_code 23 = .ok (.iconst 4, 1) := by decide +kernel
theorem dX0_worth_24 : decode prog_2_method_3_code 24 = .ok (.ishr, 1) := by decide +kernel
theorem dX0_worth_25 : decode prog_2_method_3_code 25 = .ok (.istore 4, 2) := by decide +kernel
theorem dX0_worth_27 : decode prog_2_method_3_code 27 = .ok (.iload_n 3, 1) := by decide +kernel
theorem dX0_worth_28 : decode prog_2_method_3_code 28 = .ok (.ifCond .ne 12, 3) := by decide +kernel
theorem dX0_worth_31 : decode prog_2_method_3_code 31 = .ok (.aload_n 0, 1) := by decide +kernel
theorem dX0_worth_32 : decode prog_2_method_3_code 32 = .ok (.iload 4, 2) := by decide +kernel
theorem dX0_worth_34 : decode prog_2_method_3_code 34 = .ok (.invokevirtual 81, 3) := by decide +kernel
theorem dX0_worth_37 : decode prog_2_method_3_code 37 = .ok (.goto 104, 3) := by decide +kernel
theorem dX0_worth_40 : decode prog_2_method_3_code 40 = .ok (.iload_n 3, 1) := by decide +kernel
theorem dX0_worth_41 : decode prog_2_method_3_code 41 = .ok (.iconst 1, 1) := by decide +kernel
theorem dX0_worth_42 : decode prog_2_method_3_code 42 = .ok (.if_icmp .ne 33, 3) := by decide +kernel
theorem dX0_worth_45 : decode prog_2_method_3_code 45 = .ok (.aload_n 0, 1) := by decide +kernel
theorem dX0_worth_46 : decode prog_2_method_3_code 46 = .ok (.iload 4, 2) := by decide +kernel
theorem dX0_worth_48 : decode prog_2_method_3_code 48 = .ok (.ifCond .lt 20, 3) := by decide +kernel
theorem dX0_worth_51 : decode prog_2_method_3_code 51 = .ok (.iload 4, 2) := by decide +kernel
theorem dX0_worth_53 : decode prog_2_method_3_code 53 = .ok (.bipush 6, 2) := by decide +kernel
theorem dX0_worth_55 : decode prog_2_method_3_code 55 = .ok (.if_icmp .ge 13, 3) := by decide +kernel
theorem dX0_worth_58 : decode prog_2_method_3_code 58 = .ok (.aload_n 0, 1) := by decide +kernel
theorem dX0_worth_59 : decode prog_2_method_3_code 59 = .ok (.getfield 9, 3) := by decide +kernel
theorem dX0_worth_62 : decode prog_2_method_3_code 62 = .ok (.iload 4, 2) := by decide +kernel
theorem dX0_worth_64 : decode prog_2_method_3_code 64 = .ok (.iaload, 1) := by decide +kernel
theorem dX0_worth_65 : decode prog_2_method_3_code 65 = .ok (.goto 4, 3) := by decide +kernel
theorem dX0_worth_68 : decode prog_2_method_3_code 68 = .ok (.iconst 0, 1) := by decide +kernel
theorem dX0_worth_69 : decode prog_2_method_3_code 69 = .ok (.invokevirtual 81, 3) := by decide +kernel
theorem dX0_worth_72 : decode prog_2_method_3_code 72 = .ok (.goto 69, 3) := by decide +kernel
theorem dX0_worth_75 : decode prog_2_method_3_code 75 = .ok (.iload_n 3, 1) := by decide +kernel
theorem dX0_worth_76 : decode prog_2_method_3_code 76 = .ok (.bipush 8, 2) := by decide +kernel
theorem dX0_worth_78 : decode prog_2_method_3_code 78 = .ok (.if_icmp .ne 16, 3) := by decide +kernel
theorem dX0_worth_81 : decode prog_2_method_3_code 81 = .ok (.aload_n 0, 1) := by decide +kernel
theorem dX0_worth_82 : decode prog_2_method_3_code 82 = .ok (.iconst 1, 1) := by decide +kernel
theorem dX0_worth_83 : decode prog_2_method_3_code 83 = .ok (.aload_n 0, 1) := by decide +kernel
theorem dX0_worth_84 : decode prog_2_method_3_code 84 = .ok (.invokevirtual 85, 3) := by decide +kernel
theorem dX0_worth_87 : decode prog_2_method_3_code 87 = .ok (.isub, 1) := by decide +kernel
theorem dX0_worth_88 : decode prog_2_method_3_code 88 = .ok (.invokevirtual 81, 3) := by decide +kernel
theorem dX0_worth_91 : decode prog_2_method_3_code 91 = .ok (.goto 50, 3) := by decide +kernel
theorem dX0_worth_94 : decode prog_2_method_3_code 94 = .ok (.aload_n 0, 1) := by decide +kernel
theorem dX0_worth_95 : decode prog_2_method_3_code 95 = .ok (.invokevirtual 85, 3) := by decide +kernel
theorem dX0_worth_98 : decode prog_2_method_3_code 98 = .ok (.istore 5, 2) := by decide +kernel
theorem dX0_worth_100 : decode prog_2_method_3_code 100 = .ok (.aload_n 0, 1) := by decide +kernel
theorem dX0_worth_101 : decode prog_2_method_3_code 101 = .ok (.invokevirtual 85, 3) := by decide +kernel
theorem dX0_worth_104 : decode prog_2_method_3_code 104 = .ok (.istore 6, 2) := by decide +kernel
theorem dX0_worth_106 : decode prog_2_method_3_code 106 = .ok (.aload_n 0, 1) := by decide +kernel
theorem dX0_worth_107 : decode prog_2_method_3_code 107 = .ok (.iload_n 3, 1) := by decide +kernel
theorem dX0_worth_108 : decode prog_2_method_3_code 108 = .ok (.bipush 11, 2) := by decide +kernel
theorem dX0_worth_110 : decode prog_2_method_3_code 110 = .ok (.if_icmp .ne 20, 3) := by decide +kernel
theorem dX0_worth_113 : decode prog_2_method_3_code 113 = .ok (.aload_n 0, 1) := by decide +kernel
theorem dX0_worth_114 : decode prog_2_method_3_code 114 = .ok (.invokevirtual 85, 3) := by decide +kernel
theorem dX0_worth_117 : decode prog_2_method_3_code 117 = .ok (.ifCond .eq 8, 3) := by decide +kernel
theorem dX0_worth_120 : decode prog_2_method_3_code 120 = .ok (.iload 6, 2) := by decide +kernel
theorem dX0_worth_122 : decode prog_2_method_3_code 122 = .ok (.goto 16, 3) := by decide +kernel
theorem dX0_worth_125 : decode prog_2_method_3_code 125 = .ok (.iload 5, 2) := by decide +kernel
theorem dX0_worth_127 : decode prog_2_method_3_code 127 = .ok (.goto 11, 3) := by decide +kernel
theorem dX0_worth_130 : decode prog_2_method_3_code 130 = .ok (.iload_n 3, 1) := by decide +kernel
theorem dX0_worth_131 : decode prog_2_method_3_code 131 = .ok (.iload 6, 2) := by decide +kernel
theorem dX0_worth_133 : decode prog_2_method_3_code 133 = .ok (.iload 5, 2) := by decide +kernel
theorem dX0_worth_135 : decode prog_2_method_3_code 135 = .ok (.invokestatic 89, 3) := by decide +kernel
theorem dX0_worth_138 : decode prog_2_method_3_code 138 = .ok (.invokevirtual 81, 3) := by decide +kernel
theorem dX0_worth_141 : decode prog_2_method_3_code 141 = .ok (.iinc 2 1, 3) := by decide +kernel
theorem dX0_worth_144 : decode prog_2_method_3_code 144 = .ok (.goto (-137), 3) := by decide +kernel
theorem dX0_worth_147 : decode prog_2_method_3_code 147 = .ok (.aload_n 0, 1) := by decide +kernel
theorem dX0_worth_148 : decode prog_2_method_3_code 148 = .ok (.invokevirtual 85, 3) := by decide +kernel
theorem dX0_worth_151 : decode prog_2_method_3_code 151 = .ok (.ireturn, 1) := by decide +kernel
theorem rX0_worth_0 {d : Nat} {h : Hp} {Q : Option PV → Hp → Prop} {st : List PV}{t : List (Option PV)} {v : Nat} : WP d mX0_worth 0 (some (.inr (.inr v)) :: t) st h Q = WP d mX0_worth 1 (some (.inr (.inr v)) :: t) (.inr (.inr v) :: st) h Q := WP_step dX0_worth_0 rfl rfl rfl
theorem rX0_worth_1 {d : Nat} {h : Hp} {Q : Option PV → Hp → Prop} {st : List PV}{ls : List (Option PV)} : WP d mX0_worth 1 ls st h Q = WP d mX0_worth 2 ls (.inl (0) :: st) h Q := WP_step dX0_worth_1 rfl rfl rfl
theorem rX0_worth_2 {d : Nat} {h : Hp} {Q : Option PV → Hp → Prop} {st : List PV}{ls : List (Option PV)}{a : Nat} {v : Int} : WP d mX0_worth 2 ls (.inl v :: .inr (.inr a) :: st) h Q = ((hK h a).1 = 0 ∧ 200 ≤ a ∧ WP d mX0_worth 5 ls st (wI h a 2 v) Q) := R_put0 dX0_worth_2 rfl
theorem rX0_worth_5 {d : Nat} {h : Hp} {Q : Option PV → Hp → Prop} {st : List PV}{ls : List (Option PV)} : WP d mX0_worth 5 ls st h Q = WP d mX0_worth 6 ls (.inl (0) :: st) h Q := WP_step dX0_worth_5 rfl rfl rfl
theorem rX0_worth_6 {d : Nat} {h : Hp} {Q : Option PV → Hp → Prop} {st : List PV}{x0 x1 x2 x3 x4 x5 x6 : Option PV} {v : Int} : WP d mX0_worth 6 [x0, x1, x2, x3, x4, x5, x6] (.inl v :: st) h Q = WP d mX0_worth 7 [x0, x1, some (.inl v), x3, x4, x5, x6] st h Q := WP_step dX0_worth_6 rfl rfl rfl
theorem rX0_worth_7 {d : Nat} {h : Hp} {Q : Option PV → Hp → Prop} {st : List PV}{x0 x1 : Option PV} {t : List (Option PV)} {v : Int} : WP d mX0_worth 7 (x0 :: x1 :: some (.inl v) :: t) st h Q = WP d mX0_worth 8 (x0 :: x1 :: some (.inl v) :: t) (.inl v :: st) h Q := WP_step dX0_worth_7 rfl rfl rfl
theorem rX0_worth_8 {d : Nat} {h : Hp} {Q : Option PV → Hp → Prop} {st : List PV}{x0 : Option PV} {t : List (Option PV)} {v : Nat} : WP d mX0_worth 8 (x0 :: some (.inr (.inr v)) :: t) st h Q = WP d mX0_worth 9 (x0 :: some (.inr (.inr v)) :: t) (.inr (.inr v) :: st) h Q := WP_step dX0_worth_8 rfl rfl rfl
theorem rX0_worth_9 {d : Nat} {h : Hp} {Q : Option PV → Hp → Prop} {st : List PV}{ls : List (Option PV)}{a : Nat} : WP d mX0_worth 9 ls (.inr (.inr a) :: st) h Q = ((20 ≤ (hK h a).1 ∧ (hK h a).1 ≤ 26) ∧ WP d mX0_worth 10 ls (.inl (hK h a).2 :: st) h Q) := R_alen dX0_worth_9
theorem rX0_worth_10 {d : Nat} {h : Hp} {Q : Option PV → Hp → Prop} {st : List PV}{ls : List (Option PV)}{a b : Int} : WP d mX0_worth 10 ls (.inl b :: .inl a :: st) h Q = (if a < b then WP d mX0_worth 13 ls st h Q else WP d mX0_worth 147 ls st h Q) := R_icmp_ge dX0_worth_10 (by decide)
theorem rX0_worth_13 {d : Nat} {h : Hp} {Q : Option PV → Hp → Prop} {st : List PV}{x0 : Option PV} {t : List (Option PV)} {v : Nat} : WP d mX0_worth 13 (x0 :: some (.inr (.inr v)) :: t) st h Q = WP d mX0_worth 14 (x0 :: some (.inr (.inr v)) :: t) (.inr (.inr v) :: st) h Q := WP_step dX0_worth_13 rfl rfl rfl
theorem rX0_worth_14 {d : Nat} {h : Hp} {Q : Option PV → Hp → Prop} {st : List PV}{x0 x1 : Option PV} {t : List (Option PV)} {v : Int} : WP d mX0_worth 14 (x0 :: x1 :: some (.inl v) :: t) st h Q = WP d mX0_worth 15 (x0 :: x1 :: some (.inl v) :: t) (.inl v :: st) h Q := WP_step dX0_worth_14 rfl rfl rfl
theorem rX0_worth_15 {d : Nat} {h : Hp} {Q : Option PV → Hp → Prop} {st : List PV}{ls : List (Option PV)}{a : Nat} {z : Int} : WP d mX0_worth 15 ls (.inl z :: .inr (.inr a) :: st) h Q = ((hK h a).1 = 21 ∧ 0 ≤ z ∧ z < (hK h a).2 ∧ WP d mX0_worth 16 ls (.inl (hI h a z.toNat) :: st) h Q) := R_iald dX0_worth_15
theorem rX0_worth_16 {d : Nat} {h : Hp} {Q : Option PV → Hp → Prop} {st : List PV}{ls : List (Option PV)} : WP d mX0_worth 16 ls st h Q = WP d mX0_worth 18 ls (.inl (15) :: st) h Q := WP_step dX0_worth_16 rfl rfl rfl
theorem rX0_worth_18 {d : Nat} {h : Hp} {Q : Option PV → Hp → Prop} {st : List PV}{ls : List (Option PV)}{a b : Int} : WP d mX0_worth 18 ls (.inl b :: .inl a :: st) h Q = WP d mX0_worth 19 ls (.inl (iand a b) :: st) h Q := WP_step dX0_worth_18 rfl rfl rfl
theorem rX0_worth_19 {d : Nat} {h : Hp} {Q : Option PV → Hp → Prop} {st : List PV}{x0 x1 x2 x3 x4 x5 x6 : Option PV} {v : Int} : WP d mX0_worth 19 [x0, x1, x2, x3, x4, x5, x6] (.inl v :: st) h Q = WP d mX0_worth 20 [x0, x1, x2, some (.inl v), x4, x5, x6] st h Q := WP_step dX0_worth_19 rfl rfl rfl
theorem rX0_worth_20 {d : Nat} {h : Hp} {Q : Option PV → Hp → Prop} {st : List PV}{x0 : Option PV} {t : List (Option PV)} {v : Nat} : WP d mX0_worth 20 (x0 :: some (.inr (.inr v)) :: t) st h Q = WP d mX0_worth 21 (x0 :: some (.inr (.inr v)) :: t) (.inr (.inr v) :: st) h Q := WP_step dX0_worth_20 rfl rfl rfl
theorem rX0_worth_21 {d : Nat} {h : Hp} {Q : Option PV → Hp → Prop} {st : List PV}{x0 x1 : Option PV} {t : List (Option PV)} {v : Int} : WP d mX0_worth 21 (x0 :: x1 :: some (.inl v) :: t) st h Q = WP d mX0_worth 22 (x0 :: x1 :: some (.inl v) :: t) (.inl v :: st) h Q := WP_step dX0_worth_21 rfl rfl rfl
theorem rX0_worth_22 {d : Nat} {h : Hp} {Q : Option PV → Hp → Prop} {st : List PV}{ls : List (Option PV)}{a : Nat} {z : Int} : WP d mX0_worth 22 ls (.inl z :: .inr (.inr a) :: st) h Q = ((hK h a).1 = 21 ∧ 0 ≤ z ∧ z < (hK h a).2 ∧ WP d mX0_worth 23 ls (.inl (hI h a z.toNat) :: st) h Q) := R_iald dX0_worth_22
theorem rX0_worth_23 {d : Nat} {h : Hp} {Q : Option PV → Hp → Prop} {st : List PV}{ls : List (Option PV)} : WP d mX0_worth 23 ls st h Q = WP d mX0_worth 24 ls (.inl (4) :: st) h Q := WP_step dX0_worth_23 rfl rfl rfl
theorem rX0_worth_24 {d : Nat} {h : Hp} {Q : Option PV → Hp → Prop} {st : List PV}{ls : List (Option PV)}{a b : Int} : WP d mX0_worth 24 ls (.inl b :: .inl a :: st) h Q = WP d mX0_worth 25 ls (.inl (ishr a b) :: st) h Q := WP_step dX0_worth_24 rfl rfl rfl
theorem rX0_worth_25 {d : Nat} {h : Hp} {Q : Option PV → Hp → Prop} {st : List PV}{x0 x1 x2 x3 x4 x5 x6 : Option PV} {v : Int} : WP d mX0_worth 25 [x0, x1, x2, x3, x4, x5, x6] (.inl v :: st) h Q = WP d mX0_worth 27 [x0, x1, x2, x3, some (.inl v), x5, x6] st h Q := WP_step dX0_worth_25 rfl rfl rfl
theorem rX0_worth_27 {d : Nat} {h : Hp} {Q : Option PV → Hp → Prop} {st : List PV}{x0 x1 x2 : Option PV} {t : List (Option PV)} {v : Int} : WP d mX0_worth 27 (x0 :: x1 :: x2 :: some (.inl v) :: t) st h Q = WP d mX0_worth 28 (x0 :: x1 :: x2 :: some (.inl v) :: t) (.inl v :: st) h Q := WP_step dX0_worth_27 rfl rfl rfl
theorem rX0_worth_28 {d : Nat} {h : Hp} {Q : Option PV → Hp → Prop} {st : List PV}{ls : List (Option PV)}{a : Int} : WP d mX0_worth 28 ls (.inl a :: st) h Q = (if a = 0 then WP d mX0_worth 31 ls st h Q else WP d mX0_worth 40 ls st h Q) := R_if_ne dX0_worth_28 (by decide)
theorem rX0_worth_31 {d : Nat} {h : Hp} {Q : Option PV → Hp → Prop} {st : List PV}{t : List (Option PV)} {v : Nat} : WP d mX0_worth 31 (some (.inr (.inr v)) :: t) st h Q = WP d mX0_worth 32 (some (.inr (.inr v)) :: t) (.inr (.inr v) :: st) h Q := WP_step dX0_worth_31 rfl rfl rfl
theorem rX0_worth_32 {d : Nat} {h : Hp} {Q : Option PV → Hp → Prop} {st : List PV}{x0 x1 x2 x3 : Option PV} {t : List (Option PV)} {v : Int} : WP d mX0_worth 32 (x0 :: x1 :: x2 :: x3 :: some (.inl v) :: t) st h Q = WP d mX0_worth 34 (x0 :: x1 :: x2 :: x3 :: some (.inl v) :: t) (.inl v :: st) h Q := WP_step dX0_worth_32 rfl rfl rfl
theorem rX0_worth_34 {d : Nat} {h : Hp} {Q : Option PV → Hp → Prop} {ls : List (Option PV)}{v0 : Nat} {v1 : Int} : WP (d + 1) mX0_worth 34 ls (.inl v1 :: .inr (.inr v0) :: []) h Q = ((hK h v0).1 = 0 ∧ WP d mX0_push 0 [some (.inr (.inr v0)), some (.inl v1)] [] h (fun r h' => WP (d + 1) mX0_worth 37 ls (psh r []) h' Q)) := R_callV (st := .inl v1 :: .inr (.inr v0) :: []) (M := mX0_worth) (pc := 34) (kd := 0) (n := 2) (M' := mX0_push) (as := [.inl v1, .inr (.inr v0)]) (rest := []) (en := [some (.inr (.inr v0)), some (.inl v1)]) dX0_worth_34 rfl (Nat.le_of_ble_eq_true rfl) (Nat.le_of_ble_eq_true rfl) rfl rfl (Nat.le_of_ble_eq_true rfl) rfl rfl rfl
theorem rX0_worth_37 {d : Nat} {h : Hp} {Q : Option PV → Hp → Prop} {st : List PV}{ls : List (Option PV)} : WP d mX0_worth 37 ls st h Q = WP d mX0_worth 141 ls st h Q := R_goto dX0_worth_37 (by decide)
theorem rX0_worth_40 {d : Nat} {h : Hp} {Q : Option PV → Hp → Prop} {st : List PV}{x0 x1 x2 : Option PV} {t : List (Option PV)} {v : Int} : WP d mX0_worth 40 (x0 :: x1 :: x2 :: some (.inl v) :: t) st h Q = WP d mX0_worth 41 (x0 :: x1 :: x2 :: some (.inl v) :: t) (.inl v :: st) h Q := WP_step dX0_worth_40 rfl rfl rfl
theorem rX0_worth_41 {d : Nat} {h : Hp} {Q : Option PV → Hp → Prop} {st : List PV}{ls : List (Option PV)} : WP d mX0_worth 41 ls st h Q = WP d mX0_worth 42 ls (.inl (1) :: st) h Q := WP_step dX0_worth_41 rfl rfl rfl
theorem rX0_worth_42 {d : Nat} {h : Hp} {Q : Option PV → Hp → Prop} {st : List PV}{ls : List (Option PV)}{a b : Int} : WP d mX0_worth 42 ls (.inl b :: .inl a :: st) h Q = (if a = b then WP d mX0_worth 45 ls st h Q else WP d mX0_worth 75 ls st h Q) := R_icmp_ne dX0_worth_42 (by decide)
theorem rX0_worth_45 {d : Nat} {h : Hp} {Q : Option PV → Hp → Prop} {st : List PV}{t : List (Option PV)} {v : Nat} : WP d mX0_worth 45 (some (.inr (.inr v)) :: t) st h Q = WP d mX0_worth 46 (some (.inr (.inr v)) :: t) (.inr (.inr v) :: st) h Q := WP_step dX0_worth_45 rfl rfl rfl
theorem rX0_worth_46 {d : Nat} {h : Hp} {Q : Option PV → Hp → Prop} {st : List PV}{x0 x1 x2 x3 : Option PV} {t : List (Option PV)} {v : Int} : WP d mX0_worth 46 (x0 :: x1 :: x2 :: x3 :: some (.inl v) :: t) st h Q = WP d mX0_worth 48 (x0 :: x1 :: x2 :: x3 :: some (.inl v) :: t) (.inl v :: st) h Q := WP_step dX0_worth_46 rfl rfl rfl
theorem rX0_worth_48 {d : Nat} {h : Hp} {Q : Option PV → Hp → Prop} {st : List PV}{ls : List (Option PV)}{a : Int} : WP d mX0_worth 48 ls (.inl a :: st) h Q = (if a < 0 then WP d mX0_worth 68 ls st h Q else WP d mX0_worth 51 ls st h Q) := R_if_lt dX0_worth_48 (by decide)
theorem rX0_worth_51 {d : Nat} {h : Hp} {Q : Option PV → Hp → Prop} {st : List PV}{x0 x1 x2 x3 : Option PV} {t : List (Option PV)} {v : Int} : WP d mX0_worth 51 (x0 :: x1 :: x2 :: x3 :: some (.inl v) :: t) st h Q = WP d mX0_worth 53 (x0 :: x1 :: x2 :: x3 :: some (.inl v) :: t) (.inl v :: st) h Q := WP_step dX0_worth_51 rfl rfl rfl
theorem rX0_worth_53 {d : Nat} {h : Hp} {Q : Option PV → Hp → Prop} {st : List PV}{ls : List (Option PV)} : WP d mX0_worth 53 ls st h Q = WP d mX0_worth 55 ls (.inl (6) :: st) h Q := WP_step dX0_worth_53 rfl rfl rfl
theorem rX0_worth_55 {d : Nat} {h : Hp} {Q : Option PV → Hp → Prop} {st : List PV}{ls : List (Option PV)}{a b : Int} : WP d mX0_worth 55 ls (.inl b :: .inl a :: st) h Q = (if a < b then WP d mX0_worth 58 ls st h Q else WP d mX0_worth 68 ls st h Q) := R_icmp_ge dX0_worth_55 (by decide)
theorem rX0_worth_58 {d : Nat} {h : Hp} {Q : Option PV → Hp → Prop} {st : List PV}{t : List (Option PV)} {v : Nat} : WP d mX0_worth 58 (some (.inr (.inr v)) :: t) st h Q = WP d mX0_worth 59 (some (.inr (.inr v)) :: t) (.inr (.inr v) :: st) h Q := WP_step dX0_worth_58 rfl rfl rfl
theorem rX0_worth_59 {d : Nat} {h : Hp} {Q : Option PV → Hp → Prop} {st : List PV}{ls : List (Option PV)}{a : Nat} : WP d mX0_worth 59 ls (.inr (.inr a) :: st) h Q = ((hK h a).1 = 0 ∧ WP d mX0_worth 62 ls (.inr (.inr (hR h a 0)) :: st) h Q) := R_get2 dX0_worth_59 rfl
theorem rX0_worth_62 {d : Nat} {h : Hp} {Q : Option PV → Hp → Prop} {st : List PV}{x0 x1 x2 x3 : Option PV} {t : List (Option PV)} {v : Int} : WP d mX0_worth 62 (x0 :: x1 :: x2 :: x3 :: some (.inl v) :: t) st h Q = WP d mX0_worth 64 (x0 :: x1 :: x2 :: x3 :: some (.inl v) :: t) (.inl v :: st) h Q := WP_step dX0_worth_62 rfl rfl rfl
theorem rX0_worth_64 {d : Nat} {h : Hp} {Q : Option PV → Hp → Prop} {st : List PV}{ls : List (Option PV)}{a : Nat} {z : Int} : WP d mX0_worth 64 ls (.inl z :: .inr (.inr a) :: st) h Q = ((hK h a).1 = 21 ∧ 0 ≤ z ∧ z < (hK h a).2 ∧ WP d mX0_worth 65 ls (.inl (hI h a z.toNat) :: st) h Q) := R_iald dX0_worth_64
theorem rX0_worth_65 {d : Nat} {h : Hp} {Q : Option PV → Hp → Prop} {st : List PV}{ls : List (Option PV)} : WP d mX0_worth 65 ls st h Q = WP d mX0_worth 69 ls st h Q := R_goto dX0_worth_65 (by decide)
theorem rX0_worth_68 {d : Nat} {h : Hp} {Q : Option PV → Hp → Prop} {st : List PV}{ls : List (Option PV)} : WP d mX0_worth 68 ls st h Q = WP d mX0_worth 69 ls (.inl (0) :: st) h Q := WP_step dX0_worth_68 rfl rfl rfl
theorem rX0_worth_69 {d : Nat} {h : Hp} {Q : Option PV → Hp → Prop} {ls : List (Option PV)}{v0 : Nat} {v1 : Int} : WP (d + 1) mX0_worth 69 ls (.inl v1 :: .inr (.inr v0) :: []) h Q = ((hK h v0).1 = 0 ∧ WP d mX0_push 0 [some (.inr (.inr v0)), some (.inl v1)] [] h (fun r h' => WP (d + 1) mX0_worth 72 ls (psh r []) h' Q)) := R_callV (st := .inl v1 :: .inr (.inr v0) :: []) (M := mX0_worth) (pc := 69) (kd := 0) (n := 2) (M' := mX0_push) (as := [.inl v1, .inr (.inr v0)]) (rest := []) (en := [some (.inr (.inr v0)), some (.inl v1)]) dX0_worth_69 rfl (Nat.le_of_ble_eq_true rfl) (Nat.le_of_ble_eq_true rfl) rfl rfl (Nat.le_of_ble_eq_true rfl) rfl rfl rfl
theorem rX0_worth_72 {d : Nat} {h : Hp} {Q : Option PV → Hp → Prop} {st : List PV}{ls : List (Option PV)} : WP d mX0_worth 72 ls st h Q = WP d mX0_worth 141 ls st h Q := R_goto dX0_worth_72 (by decide)
theorem rX0_worth_75 {d : Nat} {h : Hp} {Q : Option PV → Hp → Prop} {st : List PV}{x0 x1 x2 : Option PV} {t : List (Option PV)} {v : Int} : WP d mX0_worth 75 (x0 :: x1 :: x2 :: some (.inl v) :: t) st h Q = WP d mX0_worth 76 (x0 :: x1 :: x2 :: some (.inl v) :: t) (.inl v :: st) h Q := WP_step dX0_worth_75 rfl rfl rfl
theorem rX0_worth_76 {d : Nat} {h : Hp} {Q : Option PV → Hp → Prop} {st : List PV}{ls : List (Option PV)} : WP d mX0_worth 76 ls st h Q = WP d mX0_worth 78 ls (.inl (8) :: st) h Q := WP_step dX0_worth_76 rfl rfl rfl
theorem rX0_worth_78 {d : Nat} {h : Hp} {Q : Option PV → Hp → Prop} {st : List PV}{ls : List (Option PV)}{a b : Int} : WP d mX0_worth 78 ls (.inl b :: .inl a :: st) h Q = (if a = b then WP d mX0_worth 81 ls st h Q else WP d mX0_worth 94 ls st h Q) := R_icmp_ne dX0_worth_78 (by decide)
theorem rX0_worth_81 {d : Nat} {h : Hp} {Q : Option PV → Hp → Prop} {st : List PV}{t : List (Option PV)} {v : Nat} : WP d mX0_worth 81 (some (.inr (.inr v)) :: t) st h Q = WP d mX0_worth 82 (some (.inr (.inr v)) :: t) (.inr (.inr v) :: st) h Q := WP_step dX0_worth_81 rfl rfl rfl
theorem rX0_worth_82 {d : Nat} {h : Hp} {Q : Option PV → Hp → Prop} {st : List PV}{ls : List (Option PV)} : WP d mX0_worth 82 ls st h Q = WP d mX0_worth 83 ls (.inl (1) :: st) h Q := WP_step dX0_worth_82 rfl rfl rfl
theorem rX0_worth_83 {d : Nat} {h : Hp} {Q : Option PV → Hp → Prop} {st : List PV}{t : List (Option PV)} {v : Nat} : WP d mX0_worth 83 (some (.inr (.inr v)) :: t) st h Q = WP d mX0_worth 84 (some (.inr (.inr v)) :: t) (.inr (.inr v) :: st) h Q := WP_step dX0_worth_83 rfl rfl rfl
theorem rX0_worth_84 {d : Nat} {h : Hp} {Q : Option PV → Hp → Prop} {ls : List (Option PV)}{r0 r1 : PV}{v0 : Nat} : WP (d + 1) mX0_worth 84 ls (.inr (.inr v0) :: [r0, r1]) h Q = ((hK h v0).1 = 0 ∧ WP d mX0_pop 0 [some (.inr (.inr v0))] [] h (fun r h' => WP (d + 1) mX0_worth 87 ls (psh r [r0, r1]) h' Q)) := R_callV (st := .inr (.inr v0) :: [r0, r1]) (M := mX0_worth) (pc := 84) (kd := 0) (n := 1) (M' := mX0_pop) (as := [.inr (.inr v0)]) (rest := [r0, r1]) (en := [some (.inr (.inr v0))]) dX0_worth_84 rfl (Nat.le_of_ble_eq_true rfl) (Nat.le_of_ble_eq_true rfl) rfl rfl (Nat.le_of_ble_eq_true rfl) rfl rfl rfl
theorem rX0_worth_87 {d : Nat} {h : Hp} {Q : Option PV → Hp → Prop} {st : List PV}{ls : List (Option PV)}{a b : Int} : WP d mX0_worth 87 ls (.inl b :: .inl a :: st) h Q = WP d mX0_worth 88 ls (.inl (w32 (a - b)) :: st) h Q := WP_step dX0_worth_87 rfl rfl rfl
theorem rX0_worth_88 {d : Nat} {h : Hp} {Q : Option PV → Hp → Prop} {ls : List (Option PV)}{v0 : Nat} {v1 : Int} : WP (d + 1) mX0_worth 88 ls (.inl v1 :: .inr (.inr v0) :: []) h Q = ((hK h v0).1 = 0 ∧ WP d mX0_push 0 [some (.inr (.inr v0)), some (.inl v1)] [] h (fun r h' => WP (d + 1) mX0_worth 91 ls (psh r []) h' Q)) := R_callV (st := .inl v1 :: .inr (.inr v0) :: []) (M := mX0_worth) (pc := 88) (kd := 0) (n := 2) (M' := mX0_push) (as := [.inl v1, .inr (.inr v0)]) (rest := []) (en := [some (.inr (.inr v0)), some (.inl v1)]) dX0_worth_88 rfl (Nat.le_of_ble_eq_true rfl) (Nat.le_of_ble_eq_true rfl) rfl rfl (Nat.le_of_ble_eq_true rfl) rfl rfl rfl
theorem rX0_worth_91 {d : Nat} {h : Hp} {Q : Option PV → Hp → Prop} {st : List PV}{ls : List (Option PV)} : WP d mX0_worth 91 ls st h Q = WP d mX0_worth 141 ls st h Q := R_goto dX0_worth_91 (by decide)
theorem rX0_worth_94 {d : Nat} {h : Hp} {Q : Option PV → Hp → Prop} {st : List PV}{t : List (Option PV)} {v : Nat} : WP d mX0_worth 94 (some (.inr (.inr v)) :: t) st h Q = WP d mX0_worth 95 (some (.inr (.inr v)) :: t) (.inr (.inr v) :: st) h Q := WP_step dX0_worth_94 rfl rfl rfl
theorem rX0_worth_95 {d : Nat} {h : Hp} {Q : Option PV → Hp → Prop} {ls : List (Option PV)}{v0 : Nat} : WP (d + 1) mX0_worth 95 ls (.inr (.inr v0) :: []) h Q = ((hK h v0).1 = 0 ∧ WP d mX0_pop 0 [some (.inr (.inr v0))] [] h (fun r h' => WP (d + 1) mX0_worth 98 ls (psh r []) h' Q)) := R_callV (st := .inr (.inr v0) :: []) (M := mX0_worth) (pc := 95) (kd := 0) (n := 1) (M' := mX0_pop) (as := [.inr (.inr v0)]) (rest := []) (en := [some (.inr (.inr v0))]) dX0_worth_95 rfl (Nat.le_of_ble_eq_true rfl) (Nat.le_of_ble_eq_true rfl) rfl rfl (Nat.le_of_ble_eq_true rfl) rfl rfl rfl
theorem rX0_worth_98 {d : Nat} {h : Hp} {Q : Option PV → Hp → Prop} {st : List PV}{x0 x1 x2 x3 x4 x5 x6 : Option PV} {v : Int} : WP d mX0_worth 98 [x0, x1, x2, x3, x4, x5, x6] (.inl v :: st) h Q = WP d mX0_worth 100 [x0, x1, x2, x3, x4, some (.inl v), x6] st h Q := WP_step dX0_worth_98 rfl rfl rfl
theorem rX0_worth_100 {d : Nat} {h : Hp} {Q : Option PV → Hp → Prop} {st : List PV}{t : List (Option PV)} {v : Nat} : WP d mX0_worth 100 (some (.inr (.inr v)) :: t) st h Q = WP d mX0_worth 101 (some (.inr (.inr v)) :: t) (.inr (.inr v) :: st) h Q := WP_step dX0_worth_100 rfl rfl rfl
theorem rX0_worth_101 {d : Nat} {h : Hp} {Q : Option PV → Hp → Prop} {ls : List (Option PV)}{v0 : Nat} : WP (d + 1) mX0_worth 101 ls (.inr (.inr v0) :: []) h Q = ((hK h v0).1 = 0 ∧ WP d mX0_pop 0 [some (.inr (.inr v0))] [] h (fun r h' => WP (d + 1) mX0_worth 104 ls (psh r []) h' Q)) := R_callV (st := .inr (.inr v0) :: []) (M := mX0_worth) (pc := 101) (kd := 0) (n := 1) (M' := mX0_pop) (as := [.inr (.inr v0)]) (rest := []) (en := [some (.inr (.inr v0))]) dX0_worth_101 rfl (Nat.le_of_ble_eq_true rfl) (Nat.le_of_ble_eq_true rfl) rfl rfl (Nat.le_of_ble_eq_true rfl) rfl rfl rfl
theorem rX0_worth_104 {d : Nat} {h : Hp} {Q : Option PV → Hp → Prop} {st : List PV}{x0 x1 x2 x3 x4 x5 x6 : Option PV} {v : Int} : WP d mX0_worth 104 [x0, x1, x2, x3, x4, x5, x6] (.inl v :: st) h Q = WP d mX0_worth 106 [x0, x1, x2, x3, x4, x5, some (.inl v)] st h Q := WP_step dX0_worth_104 rfl rfl rfl
theorem rX0_worth_106 {d : Nat} {h : Hp} {Q : Option PV → Hp → Prop} {st : List PV}{t : List (Option PV)} {v : Nat} : WP d mX0_worth 106 (some (.inr (.inr v)) :: t) st h Q = WP d mX0_worth 107 (some (.inr (.inr v)) :: t) (.inr (.inr v) :: st) h Q := WP_step dX0_worth_106 rfl rfl rfl
theorem rX0_worth_107 {d : Nat} {h : Hp} {Q : Option PV → Hp → Prop} {st : List PV}{x0 x1 x2 : Option PV} {t : List (Option PV)} {v : Int} : WP d mX0_worth 107 (x0 :: x1 :: x2 :: some (.inl v) :: t) st h Q = WP d mX0_worth 108 (x0 :: x1 :: x2 :: some (.inl v) :: t) (.inl v :: st) h Q := WP_step dX0_worth_107 rfl rfl rfl
theorem rX0_worth_108 {d : Nat} {h : Hp} {Q : Option PV → Hp → Prop} {st : List PV}{ls : List (Option PV)} : WP d mX0_worth 108 ls st h Q = WP d mX0_worth 110 ls (.inl (11) :: st) h Q := WP_step dX0_worth_108 rfl rfl rfl
theorem rX0_worth_110 {d : Nat} {h : Hp} {Q : Option PV → Hp → Prop} {st : List PV}{ls : List (Option PV)}{a b : Int} : WP d mX0_worth 110 ls (.inl b :: .inl a :: st) h Q = (if a = b then WP d mX0_worth 113 ls st h Q else WP d mX0_worth 130 ls st h Q) := R_icmp_ne dX0_worth_110 (by decide)
theorem rX0_worth_113 {d : Nat} {h : Hp} {Q : Option PV → Hp → Prop} {st : List PV}{t : List (Option PV)} {v : Nat} : WP d mX0_worth 113 (some (.inr (.inr v)) :: t) st h Q = WP d mX0_worth 114 (some (.inr (.inr v)) :: t) (.inr (.inr v) :: st) h Q := WP_step dX0_worth_113 rfl rfl rfl
theorem rX0_worth_114 {d : Nat} {h : Hp} {Q : Option PV → Hp → Prop} {ls : List (Option PV)}{r0 : PV}{v0 : Nat} : WP (d + 1) mX0_worth 114 ls (.inr (.inr v0) :: [r0]) h Q = ((hK h v0).1 = 0 ∧ WP d mX0_pop 0 [some (.inr (.inr v0))] [] h (fun r h' => WP (d + 1) mX0_worth 117 ls (psh r [r0]) h' Q)) := R_callV (st := .inr (.inr v0) :: [r0]) (M := mX0_worth) (pc := 114) (kd := 0) (n := 1) (M' := mX0_pop) (as := [.inr (.inr v0)]) (rest := [r0]) (en := [some (.inr (.inr v0))]) dX0_worth_114 rfl (Nat.le_of_ble_eq_true rfl) (Nat.le_of_ble_eq_true rfl) rfl rfl (Nat.le_of_ble_eq_true rfl) rfl rfl rfl
theorem rX0_worth_117 {d : Nat} {h : Hp} {Q : Option PV → Hp → Prop} {st : List PV}{ls : List (Option PV)}{a : Int} : WP d mX0_worth 117 ls (.inl a :: st) h Q = (if a = 0 then WP d mX0_worth 125 ls st h Q else WP d mX0_worth 120 ls st h Q) := R_if_eq dX0_worth_117 (by decide)
theorem rX0_worth_120 {d : Nat} {h : Hp} {Q : Option PV → Hp → Prop} {st : List PV}{x0 x1 x2 x3 x4 x5 : Option PV} {t : List (Option PV)} {v : Int} : WP d mX0_worth 120 (x0 :: x1 :: x2 :: x3 :: x4 :: x5 :: some (.inl v) :: t) st h Q = WP d mX0_worth 122 (x0 :: x1 :: x2 :: x3 :: x4 :: x5 :: some (.inl v) :: t) (.inl v :: st) h Q := WP_step dX0_worth_120 rfl rfl rfl
theorem rX0_worth_122 {d : Nat} {h : Hp} {Q : Option PV → Hp → Prop} {st : List PV}{ls : List (Option PV)} : WP d mX0_worth 122 ls st h Q = WP d mX0_worth 138 ls st h Q := R_goto dX0_worth_122 (by decide)
theorem rX0_worth_125 {d : Nat} {h : Hp} {Q : Option PV → Hp → Prop} {st : List PV}{x0 x1 x2 x3 x4 : Option PV} {t : List (Option PV)} {v : Int} : WP d mX0_worth 125 (x0 :: x1 :: x2 :: x3 :: x4 :: some (.inl v) :: t) st h Q = WP d mX0_worth 127 (x0 :: x1 :: x2 :: x3 :: x4 :: some (.inl v) :: t) (.inl v :: st) h Q := WP_step dX0_worth_125 rfl rfl rfl
theorem rX0_worth_127 {d : Nat} {h : Hp} {Q : Option PV → Hp → Prop} {st : List PV}{ls : List (Option PV)} : WP d mX0_worth 127 ls st h Q = WP d mX0_worth 138 ls st h Q := R_goto dX0_worth_127 (by decide)
theorem rX0_worth_130 {d : Nat} {h : Hp} {Q : Option PV → Hp → Prop} {st : List PV}{x0 x1 x2 : Option PV} {t : List (Option PV)} {v : Int} : WP d mX0_worth 130 (x0 :: x1 :: x2 :: some (.inl v) :: t) st h Q = WP d mX0_worth 131 (x0 :: x1 :: x2 :: some (.inl v) :: t) (.inl v :: st) h Q := WP_step dX0_worth_130 rfl rfl rfl
theorem rX0_worth_131 {d : Nat} {h : Hp} {Q : Option PV → Hp → Prop} {st : List PV}{x0 x1 x2 x3 x4 x5 : Option PV} {t : List (Option PV)} {v : Int} : WP d mX0_worth 131 (x0 :: x1 :: x2 :: x3 :: x4 :: x5 :: some (.inl v) :: t) st h Q = WP d mX0_worth 133 (x0 :: x1 :: x2 :: x3 :: x4 :: x5 :: some (.inl v) :: t) (.inl v :: st) h Q := WP_step dX0_worth_131 rfl rfl rfl
theorem rX0_worth_133 {d : Nat} {h : Hp} {Q : Option PV → Hp → Prop} {st : List PV}{x0 x1 x2 x3 x4 : Option PV} {t : List (Option PV)} {v : Int} : WP d mX0_worth 133 (x0 :: x1 :: x2 :: x3 :: x4 :: some (.inl v) :: t) st h Q = WP d mX0_worth 135 (x0 :: x1 :: x2 :: x3 :: x4 :: some (.inl v) :: t) (.inl v :: st) h Q := WP_step dX0_worth_133 rfl rfl rfl
theorem rX0_worth_135 {d : Nat} {h : Hp} {Q : Option PV → Hp → Prop} {ls : List (Option PV)}{r0 : PV}{v0 : Int} {v1 : Int} {v2 : Int} : WP (d + 1) mX0_worth 135 ls (.inl v2 :: .inl v1 :: .inl v0 :: [r0]) h Q = WP d mX0_joined 0 [some (.inl v0), some (.inl v1), some (.inl v2)] [] h (fun r h' => WP (d + 1) mX0_worth 138 ls (psh r [r0]) h' Q) := R_callS (st := .inl v2 :: .inl v1 :: .inl v0 :: [r0]) (M := mX0_worth) (pc := 135) (kd := 4) (n := 3) (M' := mX0_joined) (as := [.inl v2, .inl v1, .inl v0]) (rest := [r0]) (en := [some (.inl v0), some (.inl v1), some (.inl v2)]) dX0_worth_135 rfl (Or.inl rfl) (Nat.le_of_ble_eq_true rfl) rfl (Nat.le_of_ble_eq_true rfl) rfl rfl rfl
theorem rX0_worth_138 {d : Nat} {h : Hp} {Q : Option PV → Hp → Prop} {ls : List (Option PV)}{v0 : Nat} {v1 : Int} : WP (d + 1) mX0_worth 138 ls (.inl v1 :: .inr (.inr v0) :: []) h Q = ((hK h v0).1 = 0 ∧ WP d mX0_push 0 [some (.inr (.inr v0)), some (.inl v1)] [] h (fun r h' => WP (d + 1) mX0_worth 141 ls (psh r []) h' Q)) := R_callV (st := .inl v1 :: .inr (.inr v0) :: []) (M := mX0_worth) (pc := 138) (kd := 0) (n := 2) (M' := mX0_push) (as := [.inl v1, .inr (.inr v0)]) (rest := []) (en := [some (.inr (.inr v0)), some (.inl v1)]) dX0_worth_138 rfl (Nat.le_of_ble_eq_true rfl) (Nat.le_of_ble_eq_true rfl) rfl rfl (Nat.le_of_ble_eq_true rfl) rfl rfl rfl
theorem rX0_worth_141 {d : Nat} {h : Hp} {Q : Option PV → Hp → Prop} {st : List PV}{x0 x1 : Option PV} {t : List (Option PV)} {v : Int} : WP d mX0_worth 141 (x0 :: x1 :: some (.inl v) :: t) st h Q = WP d mX0_worth 144 (x0 :: x1 :: some (.inl (w32 (v + 1))) :: t) st h Q := WP_step dX0_worth_141 rfl rfl rfl
theorem rX0_worth_144 {d : Nat} {h : Hp} {Q : Option PV → Hp → Prop} {st : List PV}{ls : List (Option PV)} : WP d mX0_worth 144 ls st h Q = WP d mX0_worth 7 ls st h Q := R_goto dX0_worth_144 (by decide)
theorem rX0_worth_147 {d : Nat} {h : Hp} {Q : Option PV → Hp → Prop} {st : List PV}{t : List (Option PV)} {v : Nat} : WP d mX0_worth 147 (some (.inr (.inr v)) :: t) st h Q = WP d mX0_worth 148 (some (.inr (.inr v)) :: t) (.inr (.inr v) :: st) h Q := WP_step dX0_worth_147 rfl rfl rfl
theorem rX0_worth_148 {d : Nat} {h : Hp} {Q : Option PV → Hp → Prop} {ls : List (Option PV)}{v0 : Nat} : WP (d + 1) mX0_worth 148 ls (.inr (.inr v0) :: []) h Q = ((hK h v0).1 = 0 ∧ WP d mX0_pop 0 [some (.inr (.inr v0))] [] h (fun r h' => WP (d + 1) mX0_worth 151 ls (psh r []) h' Q)) := R_callV (st := .inr (.inr v0) :: []) (M := mX0_worth) (pc := 148) (kd := 0) (n := 1) (M' := mX0_pop) (as := [.inr (.inr v0)]) (rest := []) (en := [some (.inr (.inr v0))]) dX0_worth_148 rfl (Nat.le_of_ble_eq_true rfl) (Nat.le_of_ble_eq_true rfl) rfl rfl (Nat.le_of_ble_eq_true rfl) rfl rfl rfl
theorem rX0_worth_151 {d : Nat} {h : Hp} {Q : Option PV → Hp → Prop} {ls : List (Option PV)}{z : Int} : WP d mX0_worth 151 ls [.inl z] h Q = Q (some (.inl z)) h := R_iret dX0_worth_151 rfl
theorem dX0_push_0 : decode prog_2_method_4_code 0 = .ok (.aload_n 0, 1) := by decide +kernel
theorem dX0_push_1 : decode prog_2_method_4_code 1 = .ok (.getfield 78, 3) := by decide +kernel
theorem dX0_push_4 : decode prog_2_method_4_code 4 = .ok (.bipush 64, 2) := by decide +kernel
theorem dX0_push_6 : decode prog_2_method_4_code 6 = .ok (.if_icmp .ge 23, 3) := by decide +kernel
theorem dX0_push_9 : decode prog_2_method_4_code 9 = .ok (.aload_n 0, 1) := by decide +kernel
theorem dX0_push_10 : decode prog_2_method_4_code 10 = .ok (.getfield 15, 3) := by decide +kernel
theorem dX0_push_13 : decode prog_2_method_4_code 13 = .ok (.aload_n 0, 1) := by decide +kernel
theorem dX0_push_14 : decode prog_2_method_4_code 14 = .ok (.getfield 78, 3) := by decide +kernel
theorem dX0_push_17 : decode prog_2_method_4_code 17 = .ok (.iload_n 1, 1) := by decide +kernel
theorem dX0_push_18 : decode prog_2_method_4_code 18 = .ok (.iastore, 1) := by decide +kernel
theorem dX0_push_19 : decode prog_2_method_4_code 19 = .ok (.aload_n 0, 1) := by decide +kernel
theorem dX0_push_20 : decode prog_2_method_4_code 20 = .ok (.dup, 1) := by decide +kernel
theorem dX0_push_21 : decode prog_2_method_4_code 21 = .ok (.getfield 78, 3) := by decide +kernel
theorem dX0_push_24 : decode prog_2_method_4_code 24 = .ok (.iconst 1, 1) := by decide +kernel
theorem dX0_push_25 : decode prog_2_method_4_code 25 = .ok (.iadd, 1) := by decide +kernel
theorem dX0_push_26 : decode prog_2_method_4_code 26 = .ok (.putfield 78, 3) := by decide +kernel
theorem dX0_push_29 : decode prog_2_method_4_code 29 = .ok (.return_, 1) := by decide +kernel
theorem rX0_push_0 {d : Nat} {h : Hp} {Q : Option PV → Hp → Prop} {st : List PV}{t : List (Option PV)} {v : Nat} : WP d mX0_push 0 (some (.inr (.inr v)) :: t) st h Q = WP d mX0_push 1 (some (.inr (.inr v)) :: t) (.inr (.inr v) :: st) h Q := WP_step dX0_push_0 rfl rfl rfl
theorem rX0_push_1 {d : Nat} {h : Hp} {Q : Option PV → Hp → Prop} {st : List PV}{ls : List (Option PV)}{a : Nat} : WP d mX0_push 1 ls (.inr (.inr a) :: st) h Q = ((hK h a).1 = 0 ∧ WP d mX0_push 4 ls (.inl (hI h a 2) :: st) h Q) := R_get0 dX0_push_1 rfl
theorem rX0_push_4 {d : Nat} {h : Hp} {Q : Option PV → Hp → Prop} {st : List PV}{ls : List (Option PV)} : WP d mX0_push 4 ls st h Q = WP d mX0_push 6 ls (.inl (64) :: st) h Q := WP_step dX0_push_4 rfl rfl rfl
theorem rX0_push_6 {d : Nat} {h : Hp} {Q : Option PV → Hp → Prop} {st : List PV}{ls : List (Option PV)}{a b : Int} : WP d mX0_push 6 ls (.inl b :: .inl a :: st) h Q = (if a < b then WP d mX0_push 9 ls st h Q else WP d mX0_push 29 ls st h Q) := R_icmp_ge dX0_push_6 (by decide)
theorem rX0_push_9 {d : Nat} {h : Hp} {Q : Option PV → Hp → Prop} {st : List PV}{t : List (Option PV)} {v : Nat} : WP d mX0_push 9 (some (.inr (.inr v)) :: t) st h Q = WP d mX0_push 10 (some (.inr (.inr v)) :: t) (.inr (.inr v) :: st) h Q := WP_step dX0_push_9 rfl rfl rfl
theorem rX0_push_10 {d : Nat} {h : Hp} {Q : Option PV → Hp → Prop} {st : List PV}{ls : List (Option PV)}{a : Nat} : WP d mX0_push 10 ls (.inr (.inr a) :: st) h Q = ((hK h a).1 = 0 ∧ WP d mX0_push 13 ls (.inr (.inr (hR h a 1)) :: st) h Q) := R_get2 dX0_push_10 rfl
theorem rX0_push_13 {d : Nat} {h : Hp} {Q : Option PV → Hp → Prop} {st : List PV}{t : List (Option PV)} {v : Nat} : WP d mX0_push 13 (some (.inr (.inr v)) :: t) st h Q = WP d mX0_push 14 (some (.inr (.inr v)) :: t) (.inr (.inr v) :: st) h Q := WP_step dX0_push_13 rfl rfl rfl
theorem rX0_push_14 {d : Nat} {h : Hp} {Q : Option PV → Hp → Prop} {st : List PV}{ls : List (Option PV)}{a : Nat} : WP d mX0_push 14 ls (.inr (.inr a) :: st) h Q = ((hK h a).1 = 0 ∧ WP d mX0_push 17 ls (.inl (hI h a 2) :: st) h Q) := R_get0 dX0_push_14 rfl
theorem rX0_push_17 {d : Nat} {h : Hp} {Q : Option PV → Hp → Prop} {st : List PV}{x0 : Option PV} {t : List (Option PV)} {v : Int} : WP d mX0_push 17 (x0 :: some (.inl v) :: t) st h Q = WP d mX0_push 18 (x0 :: some (.inl v) :: t) (.inl v :: st) h Q := WP_step dX0_push_17 rfl rfl rfl
theorem rX0_push_18 {d : Nat} {h : Hp} {Q : Option PV → Hp → Prop} {st : List PV}{ls : List (Option PV)}{a : Nat} {z v : Int} : WP d mX0_push 18 ls (.inl v :: .inl z :: .inr (.inr a) :: st) h Q = (200 ≤ a ∧ (hK h a).1 = 21 ∧ 0 ≤ z ∧ z < (hK h a).2 ∧ WP d mX0_push 19 ls st (wI h a z.toNat v) Q) := R_iast dX0_push_18
theorem rX0_push_19 {d : Nat} {h : Hp} {Q : Option PV → Hp → Prop} {st : List PV}{t : List (Option PV)} {v : Nat} : WP d mX0_push 19 (some (.inr (.inr v)) :: t) st h Q = WP d mX0_push 20 (some (.inr (.inr v)) :: t) (.inr (.inr v) :: st) h Q := WP_step dX0_push_19 rfl rfl rfl
theorem rX0_push_20 {d : Nat} {h : Hp} {Q : Option PV → Hp → Prop} {st : List PV}{ls : List (Option PV)}{a : Nat} : WP d mX0_push 20 ls (.inr (.inr a) :: st) h Q = WP d mX0_push 21 ls (.inr (.inr a) :: .inr (.inr a) :: st) h Q := WP_step dX0_push_20 rfl rfl rfl
theorem rX0_push_21 {d : Nat} {h : Hp} {Q : Option PV → Hp → Prop} {st : List PV}{ls : List (Option PV)}{a : Nat} : WP d mX0_push 21 ls (.inr (.inr a) :: st) h Q = ((hK h a).1 = 0 ∧ WP d mX0_push 24 ls (.inl (hI h a 2) :: st) h Q) := R_get0 dX0_push_21 rfl
theorem rX0_push_24 {d : Nat} {h : Hp} {Q : Option PV → Hp → Prop} {st : List PV}{ls : List (Option PV)} : WP d mX0_push 24 ls st h Q = WP d mX0_push 25 ls (.inl (1) :: st) h Q := WP_step dX0_push_24 rfl rfl rfl
theorem rX0_push_25 {d : Nat} {h : Hp} {Q : Option PV → Hp → Prop} {st : List PV}{ls : List (Option PV)}{a b : Int} : WP d mX0_push 25 ls (.inl b :: .inl a :: st) h Q = WP d mX0_push 26 ls (.inl (w32 (a + b)) :: st) h Q := WP_step dX0_push_25 rfl rfl rfl
theorem rX0_push_26 {d : Nat} {h : Hp} {Q : Option PV → Hp → Prop} {st : List PV}{ls : List (Option PV)}{a : Nat} {v : Int} : WP d mX0_push 26 ls (.inl v :: .inr (.inr a) :: st) h Q = ((hK h a).1 = 0 ∧ 200 ≤ a ∧ WP d mX0_push 29 ls st (wI h a 2 v) Q) := R_put0 dX0_push_26 rfl
theorem rX0_push_29 {d : Nat} {h : Hp} {Q : Option PV → Hp → Prop} {ls : List (Option PV)} : WP d mX0_push 29 ls [] h Q = Q none h := R_vret dX0_push_29 rfl
theorem dX0_pop_0 : decode prog_2_method_5_code 0 = .ok (.aload_n 0, 1) := by decide +kernel
theorem dX0_pop_1 : decode prog_2_method_5_code 1 = .ok (.getfield 78, 3) := by decide +kernel
theorem dX0_pop_4 : decode prog_2_method_5_code 4 = .ok (.ifCond .gt 5, 3) := by decide +kernel
theorem dX0_pop_7 : decode prog_2_method_5_code 7 = .ok (.iconst 0, 1) := by decide +kernel
theorem dX0_pop_8 : decode prog_2_method_5_code 8 = .ok (.ireturn, 1) := by decide +kernel
theorem dX0_pop_9 : decode prog_2_method_5_code 9 = .ok (.aload_n 0, 1) := by decide +kernel
theorem dX0_pop_10 : decode prog_2_method_5_code 10 = .ok (.dup, 1) := by decide +kernel
theorem dX0_pop_11 : decode prog_2_method_5_code 11 = .ok (.getfield 78, 3) := by decide +kernel
theorem dX0_pop_14 : decode prog_2_method_5_code 14 = .ok (.iconst 1, 1) := by decide +kernel
theorem dX0_pop_15 : decode prog_2_method_5_code 15 = .ok (.isub, 1) := by decide +kernel
theorem dX0_pop_16 : decode prog_2_method_5_code 16 = .ok (.putfield 78, 3) := by decide +kernel
theorem dX0_pop_19 : decode prog_2_method_5_code 19 = .ok (.aload_n 0, 1) := by decide +kernel
theorem dX0_pop_20 : decode prog_2_method_5_code 20 = .ok (.getfield 15, 3) := by decide +kernel
theorem dX0_pop_23 : decode prog_2_method_5_code 23 = .ok (.aload_n 0, 1) := by decide +kernel
theorem dX0_pop_24 : decode prog_2_method_5_code 24 = .ok (.getfield 78, 3) := by decide +kernel
theorem dX0_pop_27 : decode prog_2_method_5_code 27 = .ok (.iaload, 1) := by decide +kernel
theorem dX0_pop_28 : decode prog_2_method_5_code 28 = .ok (.ireturn, 1) := by decide +kernel
theorem rX0_pop_0 {d : Nat} {h : Hp} {Q : Option PV → Hp → Prop} {st : List PV}{t : List (Option PV)} {v : Nat} : WP d mX0_pop 0 (some (.inr (.inr v)) :: t) st h Q = WP d mX0_pop 1 (some (.inr (.inr v)) :: t) (.inr (.inr v) :: st) h Q := WP_step dX0_pop_0 rfl rfl rfl
theorem rX0_pop_1 {d : Nat} {h : Hp} {Q : Option PV → Hp → Prop} {st : List PV}{ls : List (Option PV)}{a : Nat} : WP d mX0_pop 1 ls (.inr (.inr a) :: st) h Q = ((hK h a).1 = 0 ∧ WP d mX0_pop 4 ls (.inl (hI h a 2) :: st) h Q) := R_get0 dX0_pop_1 rfl
theorem rX0_pop_4 {d : Nat} {h : Hp} {Q : Option PV → Hp → Prop} {st : List PV}{ls : List (Option PV)}{a : Int} : WP d mX0_pop 4 ls (.inl a :: st) h Q = (if 0 < a then WP d mX0_pop 9 ls st h Q else WP d mX0_pop 7 ls st h Q) := R_if_gt dX0_pop_4 (by decide)
theorem rX0_pop_7 {d : Nat} {h : Hp} {Q : Option PV → Hp → Prop} {st : List PV}{ls : List (Option PV)} : WP d mX0_pop 7 ls st h Q = WP d mX0_pop 8 ls (.inl (0) :: st) h Q := WP_step dX0_pop_7 rfl rfl rfl
theorem rX0_pop_8 {d : Nat} {h : Hp} {Q : Option PV → Hp → Prop} {ls : List (Option PV)}{z : Int} : WP d mX0_pop 8 ls [.inl z] h Q = Q (some (.inl z)) h := R_iret dX0_pop_8 rfl
theorem rX0_pop_9 {d : Nat} {h : Hp} {Q : Option PV → Hp → Prop} {st : List PV}{t : List (Option PV)} {v : Nat} : WP d mX0_pop 9 (some (.inr (.inr v)) :: t) st h Q = WP d mX0_pop 10 (some (.inr (.inr v)) :: t) (.inr (.inr v) :: st) h Q := WP_step dX0_pop_9 rfl rfl rfl
theorem rX0_pop_10 {d : Nat} {h : Hp} {Q : Option PV → Hp → Prop} {st : List PV}{ls : List (Option PV)}{a : Nat} : WP d mX0_pop 10 ls (.inr (.inr a) :: st) h Q = WP d mX0_pop 11 ls (.inr (.inr a) :: .inr (.inr a) :: st) h Q := WP_step dX0_pop_10 rfl rfl rfl
theorem rX0_pop_11 {d : Nat} {h : Hp} {Q : Option PV → Hp → Prop} {st : List PV}{ls : List (Option PV)}{a : Nat} : WP d mX0_pop 11 ls (.inr (.inr a) :: st) h Q = ((hK h a).1 = 0 ∧ WP d mX0_pop 14 ls (.inl (hI h a 2) :: st) h Q) := R_get0 dX0_pop_11 rfl
theorem rX0_pop_14 {d : Nat} {h : Hp} {Q : Option PV → Hp → Prop} {st : List PV}{ls : List (Option PV)} : WP d mX0_pop 14 ls st h Q = WP d mX0_pop 15 ls (.inl (1) :: st) h Q := WP_step dX0_pop_14 rfl rfl rfl
theorem rX0_pop_15 {d : Nat} {h : Hp} {Q : Option PV → Hp → Prop} {st : List PV}{ls : List (Option PV)}{a b : Int} : WP d mX0_pop 15 ls (.inl b :: .inl a :: st) h Q = WP d mX0_pop 16 ls (.inl (w32 (a - b)) :: st) h Q := WP_step dX0_pop_15 rfl rfl rfl
theorem rX0_pop_16 {d : Nat} {h : Hp} {Q : Option PV → Hp → Prop} {st : List PV}{ls : List (Option PV)}{a : Nat} {v : Int} : WP d mX0_pop 16 ls (.inl v :: .inr (.inr a) :: st) h Q = ((hK h a).1 = 0 ∧ 200 ≤ a ∧ WP d mX0_pop 19 ls st (wI h a 2 v) Q) := R_put0 dX0_pop_16 rfl
theorem rX0_pop_19 {d : Nat} {h : Hp} {Q : Option PV → Hp → Prop} {st : List PV}{t : List (Option PV)} {v : Nat} : WP d mX0_pop 19 (some (.inr (.inr v)) :: t) st h Q = WP d mX0_pop 20 (some (.inr (.inr v)) :: t) (.inr (.inr v) :: st) h Q := WP_step dX0_pop_19 rfl rfl rfl
theorem rX0_pop_20 {d : Nat} {h : Hp} {Q : Option PV → Hp → Prop} {st : List PV}{ls : List (Option PV)}{a : Nat} : WP d mX0_pop 20 ls (.inr (.inr a) :: st) h Q = ((hK h a).1 = 0 ∧ WP d mX0_pop 23 ls (.inr (.inr (hR h a 1)) :: st) h Q) := R_get2 dX0_pop_20 rfl
theorem rX0_pop_23 {d : Nat} {h : Hp} {Q : Option PV → Hp → Prop} {st : List PV}{t : List (Option PV)} {v : Nat} : WP d mX0_pop 23 (some (.inr (.inr v)) :: t) st h Q = WP d mX0_pop 24 (some (.inr (.inr v)) :: t) (.inr (.inr v) :: st) h Q := WP_step dX0_pop_23 rfl rfl rfl
theorem rX0_pop_24 {d : Nat} {h : Hp} {Q : Option PV → Hp → Prop} {st : List PV}{ls : List (Option PV)}{a : Nat} : WP d mX0_pop 24 ls (.inr (.inr a) :: st) h Q = ((hK h a).1 = 0 ∧ WP d mX0_pop 27 ls (.inl (hI h a 2) :: st) h Q) := R_get0 dX0_pop_24 rfl
theorem rX0_pop_27 {d : Nat} {h : Hp} {Q : Option PV → Hp → Prop} {st : List PV}{ls : List (Option PV)}{a : Nat} {z : Int} : WP d mX0_pop 27 ls (.inl z :: .inr (.inr a) :: st) h Q = ((hK h a).1 = 21 ∧ 0 ≤ z ∧ z < (hK h a).2 ∧ WP d mX0_pop 28 ls (.inl (hI h a z.toNat) :: st) h Q) := R_iald dX0_pop_27
theorem rX0_pop_28 {d : Nat} {h : Hp} {Q : Option PV → Hp → Prop} {ls : List (Option PV)}{z : Int} : WP d mX0_pop 28 ls [.inl z] h Q = Q (some (.inl z)) h := R_iret dX0_pop_28 rfl
theorem dX0_joined_0 : decode prog_2_method_6_code 0 = .ok (.iload_n 0, 1) := by decide +kernel
theorem dX0_joined_1 : decode prog_2_method_6_code 1 = .ok (.tableswitch 123 2 9 #[47, 60, 73, 86, 97, 108, 123, 119], 47) := by decide +kernel
theorem dX0_joined_48 : decode prog_2_method_6_code 48 = .ok (.iload_n 1, 1) := by decide +kernel
theorem dX0_joined_49 : decode prog_2_method_6_code 49 = .ok (.i2l, 1) := by decide +kernel
theorem dX0_joined_50 : decode prog_2_method_6_code 50 = .ok (.iload_n 2, 1) := by decide +kernel
theorem dX0_joined_51 : decode prog_2_method_6_code 51 = .ok (.i2l, 1) := by decide +kernel
theorem dX0_joined_52 : decode prog_2_method_6_code 52 = .ok (.ladd, 1) := by decide +kernel
theorem dX0_joined_53 : decode prog_2_method_6_code 53 = .ok (.ldc 93, 2) := by decide +kernel
theorem dX0_joined_55 : decode prog_2_method_6_code 55 = .ok (.ldc 94, 2) := by decide +kernel
theorem dX0_joined_57 : decode prog_2_method_6_code 57 = .ok (.invokestatic 45, 3) := by decide +kernel
theorem dX0_joined_60 : decode prog_2_method_6_code 60 = .ok (.ireturn, 1) := by decide +kernel
theorem dX0_joined_61 : decode prog_2_method_6_code 61 = .ok (.iload_n 1, 1) := by decide +kernel
theorem dX0_joined_62 : decode prog_2_method_6_code 62 = .ok (.i2l, 1) := by decide +kernel
theorem dX0_joined_63 : decode prog_2_method_6_code 63 = .ok (.iload_n 2, 1) := by decide +kernel
theorem dX0_joined_64 : decode prog_2_method_6_code 64 = .ok (.i2l, 1) := by decide +kernel
theorem dX0_joined_65 : decode prog_2_method_6_code 65 = .ok (.lsub, 1) := by decide +kernel
theorem dX0_joined_66 : decode prog_2_method_6_code 66 = .ok (.ldc 93, 2) := by decide +kernel
theorem dX0_joined_68 : decode prog_2_method_6_code 68 = .ok (.ldc 94, 2) := by decide +kernel
theorem dX0_joined_70 : decode prog_2_method_6_code 70 = .ok (.invokestatic 45, 3) := by decide +kernel
theorem dX0_joined_73 : decode prog_2_method_6_code 73 = .ok (.ireturn, 1) := by decide +kernel
theorem dX0_joined_74 : decode prog_2_method_6_code 74 = .ok (.iload_n 1, 1) := by decide +kernel
theorem dX0_joined_75 : decode prog_2_method_6_code 75 = .ok (.i2l, 1) := by decide +kernel
theorem dX0_joined_76 : decode prog_2_method_6_code 76 = .ok (.iload_n 2, 1) := by decide +kernel
theorem dX0_joined_77 : decode prog_2_method_6_code 77 = .ok (.i2l, 1) := by decide +kernel
theorem dX0_joined_78 : decode prog_2_method_6_code 78 = .ok (.lmul, 1) := by decide +kernel
theorem dX0_joined_79 : decode prog_2_method_6_code 79 = .ok (.ldc 93, 2) := by decide +kernel
theorem dX0_joined_81 : decode prog_2_method_6_code 81 = .ok (.ldc 94, 2) := by decide +kernel
theorem dX0_joined_83 : decode prog_2_method_6_code 83 = .ok (.invokestatic 45, 3) := by decide +kernel
theorem dX0_joined_86 : decode prog_2_method_6_code 86 = .ok (.ireturn, 1) := by decide +kernel
theorem dX0_joined_87 : decode prog_2_method_6_code 87 = .ok (.iload_n 1, 1) := by decide +kernel
theorem dX0_joined_88 : decode prog_2_method_6_code 88 = .ok (.iload_n 2, 1) := by decide +kernel
theorem dX0_joined_89 : decode prog_2_method_6_code 89 = .ok (.if_icmp .ne 7, 3) := by decide +kernel
theorem dX0_joined_92 : decode prog_2_method_6_code 92 = .ok (.iconst 1, 1) := by decide +kernel
theorem dX0_joined_93 : decode prog_2_method_6_code 93 = .ok (.goto 4, 3) := by decide +kernel
theorem dX0_joined_96 : decode prog_2_method_6_code 96 = .ok (.iconst 0, 1) := by decide +kernel
theorem dX0_joined_97 : decode prog_2_method_6_code 97 = .ok (.ireturn, 1) := by decide +kernel
theorem dX0_joined_98 : decode prog_2_method_6_code 98 = .ok (.iload_n 1, 1) := by decide +kernel
theorem dX0_joined_99 : decode prog_2_method_6_code 99 = .ok (.iload_n 2, 1) := by decide +kernel
theorem dX0_joined_100 : decode prog_2_method_6_code 100 = .ok (.if_icmp .ge 7, 3) := by decide +kernel
theorem dX0_joined_103 : decode prog_2_method_6_code 103 = .ok (.iconst 1, 1) := by decide +kernel
theorem dX0_joined_104 : decode prog_2_method_6_code 104 = .ok (.goto 4, 3) := by decide +kernel
theorem dX0_joined_107 : decode prog_2_method_6_code 107 = .ok (.iconst 0, 1) := by decide +kernel
theorem dX0_joined_108 : decode prog_2_method_6_code 108 = .ok (.ireturn, 1) := by decide +kernel
theorem dX0_joined_109 : decode prog_2_method_6_code 109 = .ok (.iload_n 1, 1) := by decide +kernel
theorem dX0_joined_110 : decode prog_2_method_6_code 110 = .ok (.iload_n 2, 1) := by decide +kernel
theorem dX0_joined_111 : decode prog_2_method_6_code 111 = .ok (.if_icmp .le 7, 3) := by decide +kernel
theorem dX0_joined_114 : decode prog_2_method_6_code 114 = .ok (.iconst 1, 1) := by decide +kernel
theorem dX0_joined_115 : decode prog_2_method_6_code 115 = .ok (.goto 4, 3) := by decide +kernel
theorem dX0_joined_118 : decode prog_2_method_6_code 118 = .ok (.iconst 0, 1) := by decide +kernel
theorem dX0_joined_119 : decode prog_2_method_6_code 119 = .ok (.ireturn, 1) := by decide +kernel
theorem dX0_joined_120 : decode prog_2_method_6_code 120 = .ok (.iload_n 1, 1) := by decide +kernel
theorem dX0_joined_121 : decode prog_2_method_6_code 121 = .ok (.iload_n 2, 1) := by decide +kernel
theorem dX0_joined_122 : decode prog_2_method_6_code 122 = .ok (.iand, 1) := by decide +kernel
theorem dX0_joined_123 : decode prog_2_method_6_code 123 = .ok (.ireturn, 1) := by decide +kernel
theorem dX0_joined_124 : decode prog_2_method_6_code 124 = .ok (.iload_n 1, 1) := by decide +kernel
theorem dX0_joined_125 : decode prog_2_method_6_code 125 = .ok (.iload_n 2, 1) := by decide +kernel
theorem dX0_joined_126 : decode prog_2_method_6_code 126 = .ok (.ior, 1) := by decide +kernel
theorem dX0_joined_127 : decode prog_2_method_6_code 127 = .ok (.ireturn, 1) := by decide +kernel
theorem rX0_joined_0 {d : Nat} {h : Hp} {Q : Option PV → Hp → Prop} {st : List PV}{t : List (Option PV)} {v : Int} : WP d mX0_joined 0 (some (.inl v) :: t) st h Q = WP d mX0_joined 1 (some (.inl v) :: t) (.inl v :: st) h Q := WP_step dX0_joined_0 rfl rfl rfl
theorem rX0_joined_1 {d : Nat} {h : Hp} {Q : Option PV → Hp → Prop} {st : List PV}{ls : List (Option PV)}{a : Int} : WP d mX0_joined 1 ls (.inl a :: st) h Q = WP d mX0_joined (tabT 1 123 2 9 [47, 60, 73, 86, 97, 108, 123, 119] a) ls st h Q := R_tab dX0_joined_1 (by decide) (by decide) (by decide)
theorem rX0_joined_48 {d : Nat} {h : Hp} {Q : Option PV → Hp → Prop} {st : List PV}{x0 : Option PV} {t : List (Option PV)} {v : Int} : WP d mX0_joined 48 (x0 :: some (.inl v) :: t) st h Q = WP d mX0_joined 49 (x0 :: some (.inl v) :: t) (.inl v :: st) h Q := WP_step dX0_joined_48 rfl rfl rfl
theorem rX0_joined_49 {d : Nat} {h : Hp} {Q : Option PV → Hp → Prop} {st : List PV}{ls : List (Option PV)}{a : Int} : WP d mX0_joined 49 ls (.inl a :: st) h Q = WP d mX0_joined 50 ls (.inr (.inl a) :: st) h Q := WP_step dX0_joined_49 rfl rfl rfl
theorem rX0_joined_50 {d : Nat} {h : Hp} {Q : Option PV → Hp → Prop} {st : List PV}{x0 x1 : Option PV} {t : List (Option PV)} {v : Int} : WP d mX0_joined 50 (x0 :: x1 :: some (.inl v) :: t) st h Q = WP d mX0_joined 51 (x0 :: x1 :: some (.inl v) :: t) (.inl v :: st) h Q := WP_step dX0_joined_50 rfl rfl rfl
theorem rX0_joined_51 {d : Nat} {h : Hp} {Q : Option PV → Hp → Prop} {st : List PV}{ls : List (Option PV)}{a : Int} : WP d mX0_joined 51 ls (.inl a :: st) h Q = WP d mX0_joined 52 ls (.inr (.inl a) :: st) h Q := WP_step dX0_joined_51 rfl rfl rfl
theorem rX0_joined_52 {d : Nat} {h : Hp} {Q : Option PV → Hp → Prop} {st : List PV}{ls : List (Option PV)}{a b : Int} : WP d mX0_joined 52 ls (.inr (.inl b) :: .inr (.inl a) :: st) h Q = WP d mX0_joined 53 ls (.inr (.inl (w64 (a + b))) :: st) h Q := WP_step dX0_joined_52 rfl rfl rfl
theorem rX0_joined_53 {d : Nat} {h : Hp} {Q : Option PV → Hp → Prop} {st : List PV}{ls : List (Option PV)} : WP d mX0_joined 53 ls st h Q = WP d mX0_joined 55 ls (.inl (-1000000) :: st) h Q := WP_step dX0_joined_53 rfl rfl rfl
theorem rX0_joined_55 {d : Nat} {h : Hp} {Q : Option PV → Hp → Prop} {st : List PV}{ls : List (Option PV)} : WP d mX0_joined 55 ls st h Q = WP d mX0_joined 57 ls (.inl (1000000) :: st) h Q := WP_step dX0_joined_55 rfl rfl rfl
theorem rX0_joined_57 {d : Nat} {h : Hp} {Q : Option PV → Hp → Prop} {ls : List (Option PV)}{v0 : Int} {v1 : Int} {v2 : Int} : WP (d + 1) mX0_joined 57 ls (.inl v2 :: .inl v1 :: .inr (.inl v0) :: []) h Q = WP d mX0_kept 0 [some (.inr (.inl v0)), none, some (.inl v1), some (.inl v2)] [] h (fun r h' => WP (d + 1) mX0_joined 60 ls (psh r []) h' Q) := R_callS (st := .inl v2 :: .inl v1 :: .inr (.inl v0) :: []) (M := mX0_joined) (pc := 57) (kd := 4) (n := 3) (M' := mX0_kept) (as := [.inl v2, .inl v1, .inr (.inl v0)]) (rest := []) (en := [some (.inr (.inl v0)), none, some (.inl v1), some (.inl v2)]) dX0_joined_57 rfl (Or.inl rfl) (Nat.le_of_ble_eq_true rfl) rfl (Nat.le_of_ble_eq_true rfl) rfl rfl rfl
theorem rX0_joined_60 {d : Nat} {h : Hp} {Q : Option PV → Hp → Prop} {ls : List (Option PV)}{z : Int} : WP d mX0_joined 60 ls [.inl z] h Q = Q (some (.inl z)) h := R_iret dX0_joined_60 rfl
theorem rX0_joined_61 {d : Nat} {h : Hp} {Q : Option PV → Hp → Prop} {st : List PV}{x0 : Option PV} {t : List (Option PV)} {v : Int} : WP d mX0_joined 61 (x0 :: some (.inl v) :: t) st h Q = WP d mX0_joined 62 (x0 :: some (.inl v) :: t) (.inl v :: st) h Q := WP_step dX0_joined_61 rfl rfl rfl
theorem rX0_joined_62 {d : Nat} {h : Hp} {Q : Option PV → Hp → Prop} {st : List PV}{ls : List (Option PV)}{a : Int} : WP d mX0_joined 62 ls (.inl a :: st) h Q = WP d mX0_joined 63 ls (.inr (.inl a) :: st) h Q := WP_step dX0_joined_62 rfl rfl rfl
theorem rX0_joined_63 {d : Nat} {h : Hp} {Q : Option PV → Hp → Prop} {st : List PV}{x0 x1 : Option PV} {t : List (Option PV)} {v : Int} : WP d mX0_joined 63 (x0 :: x1 :: some (.inl v) :: t) st h Q = WP d mX0_joined 64 (x0 :: x1 :: some (.inl v) :: t) (.inl v :: st) h Q := WP_step dX0_joined_63 rfl rfl rfl
theorem rX0_joined_64 {d : Nat} {h : Hp} {Q : Option PV → Hp → Prop} {st : List PV}{ls : List (Option PV)}{a : Int} : WP d mX0_joined 64 ls (.inl a :: st) h Q = WP d mX0_joined 65 ls (.inr (.inl a) :: st) h Q := WP_step dX0_joined_64 rfl rfl rfl
theorem rX0_joined_65 {d : Nat} {h : Hp} {Q : Option PV → Hp → Prop} {st : List PV}{ls : List (Option PV)}{a b : Int} : WP d mX0_joined 65 ls (.inr (.inl b) :: .inr (.inl a) :: st) h Q = WP d mX0_joined 66 ls (.inr (.inl (w64 (a - b))) :: st) h Q := WP_step dX0_joined_65 rfl rfl rfl
theorem rX0_joined_66 {d : Nat} {h : Hp} {Q : Option PV → Hp → Prop} {st : List PV}{ls : List (Option PV)} : WP d mX0_joined 66 ls st h Q = WP d mX0_joined 68 ls (.inl (-1000000) :: st) h Q := WP_step dX0_joined_66 rfl rfl rfl
theorem rX0_joined_68 {d : Nat} {h : Hp} {Q : Option PV → Hp → Prop} {st : List PV}{ls : List (Option PV)} : WP d mX0_joined 68 ls st h Q = WP d mX0_joined 70 ls (.inl (1000000) :: st) h Q := WP_step dX0_joined_68 rfl rfl rfl
theorem rX0_joined_70 {d : Nat} {h : Hp} {Q : Option PV → Hp → Prop} {ls : List (Option PV)}{v0 : Int} {v1 : Int} {v2 : Int} : WP (d + 1) mX0_joined 70 ls (.inl v2 :: .inl v1 :: .inr (.inl v0) :: []) h Q = WP d mX0_kept 0 [some (.inr (.inl v0)), none, some (.inl v1), some (.inl v2)] [] h (fun r h' => WP (d + 1) mX0_joined 73 ls (psh r []) h' Q) := R_callS (st := .inl v2 :: .inl v1 :: .inr (.inl v0) :: []) (M := mX0_joined) (pc := 70) (kd := 4) (n := 3) (M' := mX0_kept) (as := [.inl v2, .inl v1, .inr (.inl v0)]) (rest := []) (en := [some (.inr (.inl v0)), none, some (.inl v1), some (.inl v2)]) dX0_joined_70 rfl (Or.inl rfl) (Nat.le_of_ble_eq_true rfl) rfl (Nat.le_of_ble_eq_true rfl) rfl rfl rfl
theorem rX0_joined_73 {d : Nat} {h : Hp} {Q : Option PV → Hp → Prop} {ls : List (Option PV)}{z : Int} : WP d mX0_joined 73 ls [.inl z] h Q = Q (some (.inl z)) h := R_iret dX0_joined_73 rfl
theorem rX0_joined_74 {d : Nat} {h : Hp} {Q : Option PV → Hp → Prop} {st : List PV}{x0 : Option PV} {t : List (Option PV)} {v : Int} : WP d mX0_joined 74 (x0 :: some (.inl v) :: t) st h Q = WP d mX0_joined 75 (x0 :: some (.inl v) :: t) (.inl v :: st) h Q := WP_step dX0_joined_74 rfl rfl rfl
theorem rX0_joined_75 {d : Nat} {h : Hp} {Q : Option PV → Hp → Prop} {st : List PV}{ls : List (Option PV)}{a : Int} : WP d mX0_joined 75 ls (.inl a :: st) h Q = WP d mX0_joined 76 ls (.inr (.inl a) :: st) h Q := WP_step dX0_joined_75 rfl rfl rfl
theorem rX0_joined_76 {d : Nat} {h : Hp} {Q : Option PV → Hp → Prop} {st : List PV}{x0 x1 : Option PV} {t : List (Option PV)} {v : Int} : WP d mX0_joined 76 (x0 :: x1 :: some (.inl v) :: t) st h Q = WP d mX0_joined 77 (x0 :: x1 :: some (.inl v) :: t) (.inl v :: st) h Q := WP_step dX0_joined_76 rfl rfl rfl
theorem rX0_joined_77 {d : Nat} {h : Hp} {Q : Option PV → Hp → Prop} {st : List PV}{ls : List (Option PV)}{a : Int} : WP d mX0_joined 77 ls (.inl a :: st) h Q = WP d mX0_joined 78 ls (.inr (.inl a) :: st) h Q := WP_step dX0_joined_77 rfl rfl rfl
theorem rX0_joined_78 {d : Nat} {h : Hp} {Q : Option PV → Hp → Prop} {st : List PV}{ls : List (Option PV)}{a b : Int} : WP d mX0_joined 78 ls (.inr (.inl b) :: .inr (.inl a) :: st) h Q = WP d mX0_joined 79 ls (.inr (.inl (w64 (a * b))) :: st) h Q := WP_step dX0_joined_78 rfl rfl rfl
theorem rX0_joined_79 {d : Nat} {h : Hp} {Q : Option PV → Hp → Prop} {st : List PV}{ls : List (Option PV)} : WP d mX0_joined 79 ls st h Q = WP d mX0_joined 81 ls (.inl (-1000000) :: st) h Q := WP_step dX0_joined_79 rfl rfl rfl
theorem rX0_joined_81 {d : Nat} {h : Hp} {Q : Option PV → Hp → Prop} {st : List PV}{ls : List (Option PV)} : WP d mX0_joined 81 ls st h Q = WP d mX0_joined 83 ls (.inl (1000000) :: st) h Q := WP_step dX0_joined_81 rfl rfl rfl
theorem rX0_joined_83 {d : Nat} {h : Hp} {Q : Option PV → Hp → Prop} {ls : List (Option PV)}{v0 : Int} {v1 : Int} {v2 : Int} : WP (d + 1) mX0_joined 83 ls (.inl v2 :: .inl v1 :: .inr (.inl v0) :: []) h Q = WP d mX0_kept 0 [some (.inr (.inl v0)), none, some (.inl v1), some (.inl v2)] [] h (fun r h' => WP (d + 1) mX0_joined 86 ls (psh r []) h' Q) := R_callS (st := .inl v2 :: .inl v1 :: .inr (.inl v0) :: []) (M := mX0_joined) (pc := 83) (kd := 4) (n := 3) (M' := mX0_kept) (as := [.inl v2, .inl v1, .inr (.inl v0)]) (rest := []) (en := [some (.inr (.inl v0)), none, some (.inl v1), some (.inl v2)]) dX0_joined_83 rfl (Or.inl rfl) (Nat.le_of_ble_eq_true rfl) rfl (Nat.le_of_ble_eq_true rfl) rfl rfl rfl
theorem rX0_joined_86 {d : Nat} {h : Hp} {Q : Option PV → Hp → Prop} {ls : List (Option PV)}{z : Int} : WP d mX0_joined 86 ls [.inl z] h Q = Q (some (.inl z)) h := R_iret dX0_joined_86 rfl
theorem rX0_joined_87 {d : Nat} {h : Hp} {Q : Option PV → Hp → Prop} {st : List PV}{x0 : Option PV} {t : List (Option PV)} {v : Int} : WP d mX0_joined 87 (x0 :: some (.inl v) :: t) st h Q = WP d mX0_joined 88 (x0 :: some (.inl v) :: t) (.inl v :: st) h Q := WP_step dX0_joined_87 rfl rfl rfl
theorem rX0_joined_88 {d : Nat} {h : Hp} {Q : Option PV → Hp → Prop} {st : List PV}{x0 x1 : Option PV} {t : List (Option PV)} {v : Int} : WP d mX0_joined 88 (x0 :: x1 :: some (.inl v) :: t) st h Q = WP d mX0_joined 89 (x0 :: x1 :: some (.inl v) :: t) (.inl v :: st) h Q := WP_step dX0_joined_88 rfl rfl rfl
theorem rX0_joined_89 {d : Nat} {h : Hp} {Q : Option PV → Hp → Prop} {st : List PV}{ls : List (Option PV)}{a b : Int} : WP d mX0_joined 89 ls (.inl b :: .inl a :: st) h Q = (if a = b then WP d mX0_joined 92 ls st h Q else WP d mX0_joined 96 ls st h Q) := R_icmp_ne dX0_joined_89 (by decide)
theorem rX0_joined_92 {d : Nat} {h : Hp} {Q : Option PV → Hp → Prop} {st : List PV}{ls : List (Option PV)} : WP d mX0_joined 92 ls st h Q = WP d mX0_joined 93 ls (.inl (1) :: st) h Q := WP_step dX0_joined_92 rfl rfl rfl
theorem rX0_joined_93 {d : Nat} {h : Hp} {Q : Option PV → Hp → Prop} {st : List PV}{ls : List (Option PV)} : WP d mX0_joined 93 ls st h Q = WP d mX0_joined 97 ls st h Q := R_goto dX0_joined_93 (by decide)
theorem rX0_joined_96 {d : Nat} {h : Hp} {Q : Option PV → Hp → Prop} {st : List PV}{ls : List (Option PV)} : WP d mX0_joined 96 ls st h Q = WP d mX0_joined 97 ls (.inl (0) :: st) h Q := WP_step dX0_joined_96 rfl rfl rfl
theorem rX0_joined_97 {d : Nat} {h : Hp} {Q : Option PV → Hp → Prop} {ls : List (Option PV)}{z : Int} : WP d mX0_joined 97 ls [.inl z] h Q = Q (some (.inl z)) h := R_iret dX0_joined_97 rfl
theorem rX0_joined_98 {d : Nat} {h : Hp} {Q : Option PV → Hp → Prop} {st : List PV}{x0 : Option PV} {t : List (Option PV)} {v : Int} : WP d mX0_joined 98 (x0 :: some (.inl v) :: t) st h Q = WP d mX0_joined 99 (x0 :: some (.inl v) :: t) (.inl v :: st) h Q := WP_step dX0_joined_98 rfl rfl rfl
theorem rX0_joined_99 {d : Nat} {h : Hp} {Q : Option PV → Hp → Prop} {st : List PV}{x0 x1 : Option PV} {t : List (Option PV)} {v : Int} : WP d mX0_joined 99 (x0 :: x1 :: some (.inl v) :: t) st h Q = WP d mX0_joined 100 (x0 :: x1 :: some (.inl v) :: t) (.inl v :: st) h Q := WP_step dX0_joined_99 rfl rfl rfl
theorem rX0_joined_100 {d : Nat} {h : Hp} {Q : Option PV → Hp → Prop} {st : List PV}{ls : List (Option PV)}{a b : Int} : WP d mX0_joined 100 ls (.inl b :: .inl a :: st) h Q = (if a < b then WP d mX0_joined 103 ls st h Q else WP d mX0_joined 107 ls st h Q) := R_icmp_ge dX0_joined_100 (by decide)
theorem rX0_joined_103 {d : Nat} {h : Hp} {Q : Option PV → Hp → Prop} {st : List PV}{ls : List (Option PV)} : WP d mX0_joined 103 ls st h Q = WP d mX0_joined 104 ls (.inl (1) :: st) h Q := WP_step dX0_joined_103 rfl rfl rfl
theorem rX0_joined_104 {d : Nat} {h : Hp} {Q : Option PV → Hp → Prop} {st : List PV}{ls : List (Option PV)} : WP d mX0_joined 104 ls st h Q = WP d mX0_joined 108 ls st h Q := R_goto dX0_joined_104 (by decide)
theorem rX0_joined_107 {d : Nat} {h : Hp} {Q : Option PV → Hp → Prop} {st : List PV}{ls : List (Option PV)} : WP d mX0_joined 107 ls st h Q = WP d mX0_joined 108 ls (.inl (0) :: st) h Q := WP_step dX0_joined_107 rfl rfl rfl
theorem rX0_joined_108 {d : Nat} {h : Hp} {Q : Option PV → Hp → Prop} {ls : List (Option PV)}{z : Int} : WP d mX0_joined 108 ls [.inl z] h Q = Q (some (.inl z)) h := R_iret dX0_joined_108 rfl
theorem rX0_joined_109 {d : Nat} {h : Hp} {Q : Option PV → Hp → Prop} {st : List PV}{x0 : Option PV} {t : List (Option PV)} {v : Int} : WP d mX0_joined 109 (x0 :: some (.inl v) :: t) st h Q = WP d mX0_joined 110 (x0 :: some (.inl v) :: t) (.inl v :: st) h Q := WP_step dX0_joined_109 rfl rfl rfl
theorem rX0_joined_110 {d : Nat} {h : Hp} {Q : Option PV → Hp → Prop} {st : List PV}{x0 x1 : Option PV} {t : List (Option PV)} {v : Int} : WP d mX0_joined 110 (x0 :: x1 :: some (.inl v) :: t) st h Q = WP d mX0_joined 111 (x0 :: x1 :: some (.inl v) :: t) (.inl v :: st) h Q := WP_step dX0_joined_110 rfl rfl rfl
theorem rX0_joined_111 {d : Nat} {h : Hp} {Q : Option PV → Hp → Prop} {st : List PV}{ls : List (Option PV)}{a b : Int} : WP d mX0_joined 111 ls (.inl b :: .inl a :: st) h Q = (if b < a then WP d mX0_joined 114 ls st h Q else WP d mX0_joined 118 ls st h Q) := R_icmp_le dX0_joined_111 (by decide)
theorem rX0_joined_114 {d : Nat} {h : Hp} {Q : Option PV → Hp → Prop} {st : List PV}{ls : List (Option PV)} : WP d mX0_joined 114 ls st h Q = WP d mX0_joined 115 ls (.inl (1) :: st) h Q := WP_step dX0_joined_114 rfl rfl rfl
theorem rX0_joined_115 {d : Nat} {h : Hp} {Q : Option PV → Hp → Prop} {st : List PV}{ls : List (Option PV)} : WP d mX0_joined 115 ls st h Q = WP d mX0_joined 119 ls st h Q := R_goto dX0_joined_115 (by decide)
theorem rX0_joined_118 {d : Nat} {h : Hp} {Q : Option PV → Hp → Prop} {st : List PV}{ls : List (Option PV)} : WP d mX0_joined 118 ls st h Q = WP d mX0_joined 119 ls (.inl (0) :: st) h Q := WP_step dX0_joined_118 rfl rfl rfl
theorem rX0_joined_119 {d : Nat} {h : Hp} {Q : Option PV → Hp → Prop} {ls : List (Option PV)}{z : Int} : WP d mX0_joined 119 ls [.inl z] h Q = Q (some (.inl z)) h := R_iret dX0_joined_119 rfl
theorem rX0_joined_120 {d : Nat} {h : Hp} {Q : Option PV → Hp → Prop} {st : List PV}{x0 : Option PV} {t : List (Option PV)} {v : Int} : WP d mX0_joined 120 (x0 :: some (.inl v) :: t) st h Q = WP d mX0_joined 121 (x0 :: some (.inl v) :: t) (.inl v :: st) h Q := WP_step dX0_joined_120 rfl rfl rfl
theorem rX0_joined_121 {d : Nat} {h : Hp} {Q : Option PV → Hp → Prop} {st : List PV}{x0 x1 : Option PV} {t : List (Option PV)} {v : Int} : WP d mX0_joined 121 (x0 :: x1 :: some (.inl v) :: t) st h Q = WP d mX0_joined 122 (x0 :: x1 :: some (.inl v) :: t) (.inl v :: st) h Q := WP_step dX0_joined_121 rfl rfl rfl
theorem rX0_joined_122 {d : Nat} {h : Hp} {Q : Option PV → Hp → Prop} {st : List PV}{ls : List (Option PV)}{a b : Int} : WP d mX0_joined 122 ls (.inl b :: .inl a :: st) h Q = WP d mX0_joined 123 ls (.inl (iand a b) :: st) h Q := WP_step dX0_joined_122 rfl rfl rfl
theorem rX0_joined_123 {d : Nat} {h : Hp} {Q : Option PV → Hp → Prop} {ls : List (Option PV)}{z : Int} : WP d mX0_joined 123 ls [.inl z] h Q = Q (some (.inl z)) h := R_iret dX0_joined_123 rfl
theorem rX0_joined_124 {d : Nat} {h : Hp} {Q : Option PV → Hp → Prop} {st : List PV}{x0 : Option PV} {t : List (Option PV)} {v : Int} : WP d mX0_joined 124 (x0 :: some (.inl v) :: t) st h Q = WP d mX0_joined 125 (x0 :: some (.inl v) :: t) (.inl v :: st) h Q := WP_step dX0_joined_124 rfl rfl rfl
theorem rX0_joined_125 {d : Nat} {h : Hp} {Q : Option PV → Hp → Prop} {st : List PV}{x0 x1 : Option PV} {t : List (Option PV)} {v : Int} : WP d mX0_joined 125 (x0 :: x1 :: some (.inl v) :: t) st h Q = WP d mX0_joined 126 (x0 :: x1 :: some (.inl v) :: t) (.inl v :: st) h Q := WP_step dX0_joined_125 rfl rfl rfl
theorem rX0_joined_126 {d : Nat} {h : Hp} {Q : Option PV → Hp → Prop} {st : List PV}{ls : List (Option PV)}{a b : Int} : WP d mX0_joined 126 ls (.inl b :: .inl a :: st) h Q = WP d mX0_joined 127 ls (.inl (ior a b) :: st) h Q := WP_step dX0_joined_126 rfl rfl rfl
theorem rX0_joined_127 {d : Nat} {h : Hp} {Q : Option PV → Hp → Prop} {ls : List (Option PV)}{z : Int} : WP d mX0_joined 127 ls [.inl z] h Q = Q (some (.inl z)) h := R_iret dX0_joined_127 rfl
theorem dX0_kept_0 : decode prog_2_method_7_code 0 = .ok (.lload_n 0, 1) := by decide +kernel
theorem dX0_kept_1 : decode prog_2_method_7_code 1 = .ok (.iload_n 2, 1) := by decide +kernel
theorem dX0_kept_2 : decode prog_2_method_7_code 2 = .ok (.i2l, 1) := by decide +kernel
theorem dX0_kept_3 : decode prog_2_method_7_code 3 = .ok (.lcmp, 1) := by decide +kernel
theorem dX0_kept_4 : decode prog_2_method_7_code 4 = .ok (.ifCond .ge 7, 3) := by decide +kernel
theorem dX0_kept_7 : decode prog_2_method_7_code 7 = .ok (.iload_n 2, 1) := by decide +kernel
theorem dX0_kept_8 : decode prog_2_method_7_code 8 = .ok (.goto 16, 3) := by decide +kernel
theorem dX0_kept_11 : decode prog_2_method_7_code 11 = .ok (.lload_n 0, 1) := by decide +kernel
theorem dX0_kept_12 : decode prog_2_method_7_code 12 = .ok (.iload_n 3, 1) := by decide +kernel
theorem dX0_kept_13 : decode prog_2_method_7_code 13 = .ok (.i2l, 1) := by decide +kernel
theorem dX0_kept_14 : decode prog_2_method_7_code 14 = .ok (.lcmp, 1) := by decide +kernel
theorem dX0_kept_15 : decode prog_2_method_7_code 15 = .ok (.ifCond .le 7, 3) := by decide +kernel
theorem dX0_kept_18 : decode prog_2_method_7_code 18 = .ok (.iload_n 3, 1) := by decide +kernel
theorem dX0_kept_19 : decode prog_2_method_7_code 19 = .ok (.goto 5, 3) := by decide +kernel
theorem dX0_kept_22 : decode prog_2_method_7_code 22 = .ok (.lload_n 0, 1) := by decide +kernel
theorem dX0_kept_23 : decode prog_2_method_7_code 23 = .ok (.l2i, 1) := by decide +kernel
theorem dX0_kept_24 : decode prog_2_method_7_code 24 = .ok (.ireturn, 1) := by decide +kernel
theorem rX0_kept_0 {d : Nat} {h : Hp} {Q : Option PV → Hp → Prop} {st : List PV}{t : List (Option PV)} {v : Int} : WP d mX0_kept 0 (some (.inr (.inl v)) :: none :: t) st h Q = WP d mX0_kept 1 (some (.inr (.inl v)) :: none :: t) (.inr (.inl v) :: st) h Q := WP_step dX0_kept_0 rfl rfl rfl
theorem rX0_kept_1 {d : Nat} {h : Hp} {Q : Option PV → Hp → Prop} {st : List PV}{x0 x1 : Option PV} {t : List (Option PV)} {v : Int} : WP d mX0_kept 1 (x0 :: x1 :: some (.inl v) :: t) st h Q = WP d mX0_kept 2 (x0 :: x1 :: some (.inl v) :: t) (.inl v :: st) h Q := WP_step dX0_kept_1 rfl rfl rfl
theorem rX0_kept_2 {d : Nat} {h : Hp} {Q : Option PV → Hp → Prop} {st : List PV}{ls : List (Option PV)}{a : Int} : WP d mX0_kept 2 ls (.inl a :: st) h Q = WP d mX0_kept 3 ls (.inr (.inl a) :: st) h Q := WP_step dX0_kept_2 rfl rfl rfl
theorem rX0_kept_3 {d : Nat} {h : Hp} {Q : Option PV → Hp → Prop} {st : List PV}{ls : List (Option PV)}{a b : Int} : WP d mX0_kept 3 ls (.inr (.inl b) :: .inr (.inl a) :: st) h Q = WP d mX0_kept 4 ls (.inl (lcm a b) :: st) h Q := WP_step dX0_kept_3 rfl rfl rfl
theorem rX0_kept_4 {d : Nat} {h : Hp} {Q : Option PV → Hp → Prop} {st : List PV}{ls : List (Option PV)}{a : Int} : WP d mX0_kept 4 ls (.inl a :: st) h Q = (if a < 0 then WP d mX0_kept 7 ls st h Q else WP d mX0_kept 11 ls st h Q) := R_if_ge dX0_kept_4 (by decide)
theorem rX0_kept_7 {d : Nat} {h : Hp} {Q : Option PV → Hp → Prop} {st : List PV}{x0 x1 : Option PV} {t : List (Option PV)} {v : Int} : WP d mX0_kept 7 (x0 :: x1 :: some (.inl v) :: t) st h Q = WP d mX0_kept 8 (x0 :: x1 :: some (.inl v) :: t) (.inl v :: st) h Q := WP_step dX0_kept_7 rfl rfl rfl
theorem rX0_kept_8 {d : Nat} {h : Hp} {Q : Option PV → Hp → Prop} {st : List PV}{ls : List (Option PV)} : WP d mX0_kept 8 ls st h Q = WP d mX0_kept 24 ls st h Q := R_goto dX0_kept_8 (by decide)
theorem rX0_kept_11 {d : Nat} {h : Hp} {Q : Option PV → Hp → Prop} {st : List PV}{t : List (Option PV)} {v : Int} : WP d mX0_kept 11 (some (.inr (.inl v)) :: none :: t) st h Q = WP d mX0_kept 12 (some (.inr (.inl v)) :: none :: t) (.inr (.inl v) :: st) h Q := WP_step dX0_kept_11 rfl rfl rfl
theorem rX0_kept_12 {d : Nat} {h : Hp} {Q : Option PV → Hp → Prop} {st : List PV}{x0 x1 x2 : Option PV} {t : List (Option PV)} {v : Int} : WP d mX0_kept 12 (x0 :: x1 :: x2 :: some (.inl v) :: t) st h Q = WP d mX0_kept 13 (x0 :: x1 :: x2 :: some (.inl v) :: t) (.inl v :: st) h Q := WP_step dX0_kept_12 rfl rfl rfl
theorem rX0_kept_13 {d : Nat} {h : Hp} {Q : Option PV → Hp → Prop} {st : List PV}{ls : List (Option PV)}{a : Int} : WP d mX0_kept 13 ls (.inl a :: st) h Q = WP d mX0_kept 14 ls (.inr (.inl a) :: st) h Q := WP_step dX0_kept_13 rfl rfl rfl
theorem rX0_kept_14 {d : Nat} {h : Hp} {Q : Option PV → Hp → Prop} {st : List PV}{ls : List (Option PV)}{a b : Int} : WP d mX0_kept 14 ls (.inr (.inl b) :: .inr (.inl a) :: st) h Q = WP d mX0_kept 15 ls (.inl (lcm a b) :: st) h Q := WP_step dX0_kept_14 rfl rfl rfl
theorem rX0_kept_15 {d : Nat} {h : Hp} {Q : Option PV → Hp → Prop} {st : List PV}{ls : List (Option PV)}{a : Int} : WP d mX0_kept 15 ls (.inl a :: st) h Q = (if 0 < a then WP d mX0_kept 18 ls st h Q else WP d mX0_kept 22 ls st h Q) := R_if_le dX0_kept_15 (by decide)
theorem rX0_kept_18 {d : Nat} {h : Hp} {Q : Option PV → Hp → Prop} {st : List PV}{x0 x1 x2 : Option PV} {t : List (Option PV)} {v : Int} : WP d mX0_kept 18 (x0 :: x1 :: x2 :: some (.inl v) :: t) st h Q = WP d mX0_kept 19 (x0 :: x1 :: x2 :: some (.inl v) :: t) (.inl v :: st) h Q := WP_step dX0_kept_18 rfl rfl rfl
theorem rX0_kept_19 {d : Nat} {h : Hp} {Q : Option PV → Hp → Prop} {st : List PV}{ls : List (Option PV)} : WP d mX0_kept 19 ls st h Q = WP d mX0_kept 24 ls st h Q := R_goto dX0_kept_19 (by decide)
theorem rX0_kept_22 {d : Nat} {h : Hp} {Q : Option PV → Hp → Prop} {st : List PV}{t : List (Option PV)} {v : Int} : WP d mX0_kept 22 (some (.inr (.inl v)) :: none :: t) st h Q = WP d mX0_kept 23 (some (.inr (.inl v)) :: none :: t) (.inr (.inl v) :: st) h Q := WP_step dX0_kept_22 rfl rfl rfl
theorem rX0_kept_23 {d : Nat} {h : Hp} {Q : Option PV → Hp → Prop} {st : List PV}{ls : List (Option PV)}{a : Int} : WP d mX0_kept 23 ls (.inr (.inl a) :: st) h Q = WP d mX0_kept 24 ls (.inl (w32 a) :: st) h Q := WP_step dX0_kept_23 rfl rfl rfl
theorem rX0_kept_24 {d : Nat} {h : Hp} {Q : Option PV → Hp → Prop} {ls : List (Option PV)}{z : Int} : WP d mX0_kept 24 ls [.inl z] h Q = Q (some (.inl z)) h := R_iret dX0_kept_24 rfl
