theorem dX1_init_0 : decode prog_3_method_1_code 0 = .ok (.aload_n 0, 1) := by decide +kernel
theorem dX1_init_1 : decode prog_3_method_1_code 1 = .ok (.invokespecial 3, 3) := by decide +kernel
theorem dX1_init_4 : decode prog_3_method_1_code 4 = .ok (.aload_n 0, 1) := by decide +kernel
theorem dX1_init_5 : decode prog_3_method_1_code 5 = .ok (.sipush 1600, 3) := by decide +kernel
theorem dX1_init_8 : decode prog_3_method_1_code 8 = .ok (.newarray .int, 2) := by decide +kernel
theorem dX1_init_10 : decode prog_3_method_1_code 10 = .ok (.putfield 9, 3) := by decide +kernel
theorem dX1_init_13 : decode prog_3_method_1_code 13 = .ok (.aload_n 0, 1) := by decide +kernel
theorem dX1_init_14 : decode prog_3_method_1_code 14 = .ok (.sipush 9600, 3) := by decide +kernel
theorem dX1_init_17 : decode prog_3_method_1_code 17 = .ok (.newarray .int, 2) := by decide +kernel
theorem dX1_init_19 : decode prog_3_method_1_code 19 = .ok (.putfield 15, 3) := by decide +kernel
theorem dX1_init_22 : decode prog_3_method_1_code 22 = .ok (.aload_n 0, 1) := by decide +kernel
theorem dX1_init_23 : decode prog_3_method_1_code 23 = .ok (.sipush 3200, 3) := by decide +kernel
theorem dX1_init_26 : decode prog_3_method_1_code 26 = .ok (.newarray .int, 2) := by decide +kernel
theorem dX1_init_28 : decode prog_3_method_1_code 28 = .ok (.putfield 18, 3) := by decide +kernel
theorem dX1_init_31 : decode prog_3_method_1_code 31 = .ok (.aload_n 0, 1) := by decide +kernel
theorem dX1_init_32 : decode prog_3_method_1_code 32 = .ok (.sipush 3200, 3) := by decide +kernel
theorem dX1_init_35 : decode prog_3_method_1_code 35 = .ok (.newarray .int, 2) := by decide +kernel
theorem dX1_init_37 : decode prog_3_method_1_code 37 = .ok (.putfield 21, 3) := by decide +kernel
theorem dX1_init_40 : decode prog_3_method_1_code 40 = .ok (.aload_n 0, 1) := by decide +kernel
theorem dX1_init_41 : decode prog_3_method_1_code 41 = .ok (.sipush 3200, 3) := by decide +kernel
theorem dX1_init_44 : decode prog_3_method_1_code 44 = .ok (.newarray .int, 2) := by decide +kernel
theorem dX1_init_46 : decode prog_3_method_1_code 46 = .ok (.putfield 24, 3) := by decide +kernel
theorem dX1_init_49 : decode prog_3_method_1_code 49 = .ok (.aload_n 0, 1) := by decide +kernel
theorem dX1_init_50 : decode prog_3_method_1_code 50 = .ok (.aload_n 1, 1) := by decide +kernel
theorem dX1_init_51 : decode prog_3_method_1_code 51 = .ok (.putfield 27, 3) := by decide +kernel
theorem dX1_init_54 : decode prog_3_method_1_code 54 = .ok (.return_, 1) := by decide +kernel
theorem rX1_init_0 {d : Nat} {h : Hp} {Q : Option PV → Hp → Prop} {st : List PV}{t : List (Option PV)} {v : Nat} : WP d mX1_init 0 (some (.inr (.inr v)) :: t) st h Q = WP d mX1_init 1 (some (.inr (.inr v)) :: t) (.inr (.inr v) :: st) h Q := WP_step dX1_init_0 rfl rfl rfl
theorem rX1_init_1 {d : Nat} {h : Hp} {Q : Option PV → Hp → Prop} {ls : List (Option PV)}{a : Nat} : WP d mX1_init 1 ls (.inr (.inr a) :: []) h Q = (200 ≤ a ∧ WP d mX1_init 4 ls [] h Q) := R_obj (n := 1) (M' := mX0_init) dX1_init_1 rfl rfl
theorem rX1_init_4 {d : Nat} {h : Hp} {Q : Option PV → Hp → Prop} {st : List PV}{t : List (Option PV)} {v : Nat} : WP d mX1_init 4 (some (.inr (.inr v)) :: t) st h Q = WP d mX1_init 5 (some (.inr (.inr v)) :: t) (.inr (.inr v) :: st) h Q := WP_step dX1_init_4 rfl rfl rfl
theorem rX1_init_5 {d : Nat} {h : Hp} {Q : Option PV → Hp → Prop} {st : List PV}{ls : List (Option PV)} : WP d mX1_init 5 ls st h Q = WP d mX1_init 8 ls (.inl (1600) :: st) h Q := WP_step dX1_init_5 rfl rfl rfl
theorem rX1_init_8 {d : Nat} {h : Hp} {Q : Option PV → Hp → Prop} {st : List PV}{ls : List (Option PV)}{z : Int} : WP d mX1_init 8 ls (.inl z :: st) h Q = ((0 ≤ z ∧ z ≤ 100000) ∧ WP d mX1_init 10 ls (.inr (.inr (200 + hN h)) :: st) (nw h 21 z.toNat z.toNat) Q) := R_nwa dX1_init_8 rfl (by decide)
theorem rX1_init_10 {d : Nat} {h : Hp} {Q : Option PV → Hp → Prop} {st : List PV}{ls : List (Option PV)}{a : Nat} {v : Nat} : WP d mX1_init 10 ls (.inr (.inr v) :: .inr (.inr a) :: st) h Q = ((hK h a).1 = 1 ∧ 200 ≤ a ∧ WP d mX1_init 13 ls st (wR h a 1 v) Q) := R_put2 dX1_init_10 rfl
theorem rX1_init_13 {d : Nat} {h : Hp} {Q : Option PV → Hp → Prop} {st : List PV}{t : List (Option PV)} {v : Nat} : WP d mX1_init 13 (some (.inr (.inr v)) :: t) st h Q = WP d mX1_init 14 (some (.inr (.inr v)) :: t) (.inr (.inr v) :: st) h Q := WP_step dX1_init_13 rfl rfl rfl
theorem rX1_init_14 {d : Nat} {h : Hp} {Q : Option PV → Hp → Prop} {st : List PV}{ls : List (Option PV)} : WP d mX1_init 14 ls st h Q = WP d mX1_init 17 ls (.inl (9600) :: st) h Q := WP_step dX1_init_14 rfl rfl rfl
theorem rX1_init_17 {d : Nat} {h : Hp} {Q : Option PV → Hp → Prop} {st : List PV}{ls : List (Option PV)}{z : Int} : WP d mX1_init 17 ls (.inl z :: st) h Q = ((0 ≤ z ∧ z ≤ 100000) ∧ WP d mX1_init 19 ls (.inr (.inr (200 + hN h)) :: st) (nw h 21 z.toNat z.toNat) Q) := R_nwa dX1_init_17 rfl (by decide)
theorem rX1_init_19 {d : Nat} {h : Hp} {Q : Option PV → Hp → Prop} {st : List PV}{ls : List (Option PV)}{a : Nat} {v : Nat} : WP d mX1_init 19 ls (.inr (.inr v) :: .inr (.inr a) :: st) h Q = ((hK h a).1 = 1 ∧ 200 ≤ a ∧ WP d mX1_init 22 ls st (wR h a 2 v) Q) := R_put2 dX1_init_19 rfl
theorem rX1_init_22 {d : Nat} {h : Hp} {Q : Option PV → Hp → Prop} {st : List PV}{t : List (Option PV)} {v : Nat} : WP d mX1_init 22 (some (.inr (.inr v)) :: t) st h Q = WP d mX1_init 23 (some (.inr (.inr v)) :: t) (.inr (.inr v) :: st) h Q := WP_step dX1_init_22 rfl rfl rfl
theorem rX1_init_23 {d : Nat} {h : Hp} {Q : Option PV → Hp → Prop} {st : List PV}{ls : List (Option PV)} : WP d mX1_init 23 ls st h Q = WP d mX1_init 26 ls (.inl (3200) :: st) h Q := WP_step dX1_init_23 rfl rfl rfl
theorem rX1_init_26 {d : Nat} {h : Hp} {Q : Option PV → Hp → Prop} {st : List PV}{ls : List (Option PV)}{z : Int} : WP d mX1_init 26 ls (.inl z :: st) h Q = ((0 ≤ z ∧ z ≤ 100000) ∧ WP d mX1_init 28 ls (.inr (.inr (200 + hN h)) :: st) (nw h 21 z.toNat z.toNat) Q) := R_nwa dX1_init_26 rfl (by decide)
theorem rX1_init_28 {d : Nat} {h : Hp} {Q : Option PV → Hp → Prop} {st : List PV}{ls : List (Option PV)}{a : Nat} {v : Nat} : WP d mX1_init 28 ls (.inr (.inr v) :: .inr (.inr a) :: st) h Q = ((hK h a).1 = 1 ∧ 200 ≤ a ∧ WP d mX1_init 31 ls st (wR h a 3 v) Q) := R_put2 dX1_init_28 rfl
theorem rX1_init_31 {d : Nat} {h : Hp} {Q : Option PV → Hp → Prop} {st : List PV}{t : List (Option PV)} {v : Nat} : WP d mX1_init 31 (some (.inr (.inr v)) :: t) st h Q = WP d mX1_init 32 (some (.inr (.inr v)) :: t) (.inr (.inr v) :: st) h Q := WP_step dX1_init_31 rfl rfl rfl
theorem rX1_init_32 {d : Nat} {h : Hp} {Q : Option PV → Hp → Prop} {st : List PV}{ls : List (Option PV)} : WP d mX1_init 32 ls st h Q = WP d mX1_init 35 ls (.inl (3200) :: st) h Q := WP_step dX1_init_32 rfl rfl rfl
theorem rX1_init_35 {d : Nat} {h : Hp} {Q : Option PV → Hp → Prop} {st : List PV}{ls : List (Option PV)}{z : Int} : WP d mX1_init 35 ls (.inl z :: st) h Q = ((0 ≤ z ∧ z ≤ 100000) ∧ WP d mX1_init 37 ls (.inr (.inr (200 + hN h)) :: st) (nw h 21 z.toNat z.toNat) Q) := R_nwa dX1_init_35 rfl (by decide)
theorem rX1_init_37 {d : Nat} {h : Hp} {Q : Option PV → Hp → Prop} {st : List PV}{ls : List (Option PV)}{a : Nat} {v : Nat} : WP d mX1_init 37 ls (.inr (.inr v) :: .inr (.inr a) :: st) h Q = ((hK h a).1 = 1 ∧ 200 ≤ a ∧ WP d mX1_init 40 ls st (wR h a 4 v) Q) := R_put2 dX1_init_37 rfl
theorem rX1_init_40 {d : Nat} {h : Hp} {Q : Option PV → Hp → Prop} {st : List PV}{t : List (Option PV)} {v : Nat} : WP d mX1_init 40 (some (.inr (.inr v)) :: t) st h Q = WP d mX1_init 41 (some (.inr (.inr v)) :: t) (.inr (.inr v) :: st) h Q := WP_step dX1_init_40 rfl rfl rfl
theorem rX1_init_41 {d : Nat} {h : Hp} {Q : Option PV → Hp → Prop} {st : List PV}{ls : List (Option PV)} : WP d mX1_init 41 ls st h Q = WP d mX1_init 44 ls (.inl (3200) :: st) h Q := WP_step dX1_init_41 rfl rfl rfl
theorem rX1_init_44 {d : Nat} {h : Hp} {Q : Option PV → Hp → Prop} {st : List PV}{ls : List (Option PV)}{z : Int} : WP d mX1_init 44 ls (.inl z :: st) h Q = ((0 ≤ z ∧ z ≤ 100000) ∧ WP d mX1_init 46 ls (.inr (.inr (200 + hN h)) :: st) (nw h 21 z.toNat z.toNat) Q) := R_nwa dX1_init_44 rfl (by decide)
theorem rX1_init_46 {d : Nat} {h : Hp} {Q : Option PV → Hp → Prop} {st : List PV}{ls : List (Option PV)}{a : Nat} {v : Nat} : WP d mX1_init 46 ls (.inr (.inr v) :: .inr (.inr a) :: st) h Q = ((hK h a).1 = 1 ∧ 200 ≤ a ∧ WP d mX1_init 49 ls st (wR h a 5 v) Q) := R_put2 dX1_init_46 rfl
theorem rX1_init_49 {d : Nat} {h : Hp} {Q : Option PV → Hp → Prop} {st : List PV}{t : List (Option PV)} {v : Nat} : WP d mX1_init 49 (some (.inr (.inr v)) :: t) st h Q = WP d mX1_init 50 (some (.inr (.inr v)) :: t) (.inr (.inr v) :: st) h Q := WP_step dX1_init_49 rfl rfl rfl
theorem rX1_init_50 {d : Nat} {h : Hp} {Q : Option PV → Hp → Prop} {st : List PV}{x0 : Option PV} {t : List (Option PV)} {v : Nat} : WP d mX1_init 50 (x0 :: some (.inr (.inr v)) :: t) st h Q = WP d mX1_init 51 (x0 :: some (.inr (.inr v)) :: t) (.inr (.inr v) :: st) h Q := WP_step dX1_init_50 rfl rfl rfl
theorem rX1_init_51 {d : Nat} {h : Hp} {Q : Option PV → Hp → Prop} {st : List PV}{ls : List (Option PV)}{a : Nat} {v : Nat} : WP d mX1_init 51 ls (.inr (.inr v) :: .inr (.inr a) :: st) h Q = ((hK h a).1 = 1 ∧ 200 ≤ a ∧ WP d mX1_init 54 ls st (wR h a 0 v) Q) := R_put2 dX1_init_51 rfl
theorem rX1_init_54 {d : Nat} {h : Hp} {Q : Option PV → Hp → Prop} {ls : List (Option PV)} : WP d mX1_init 54 ls [] h Q = Q none h := R_vret dX1_init_54 rfl
theorem dX1_begin_0 : decode prog_3_method_2_code 0 = .ok (.aload_n 0, 1) := by decide +kernel
theorem dX1_begin_1 : decode prog_3_method_2_code 1 = .ok (.iload_n 1, 1) := by decide +kernel
theorem dX1_begin_2 : decode prog_3_method_2_code 2 = .ok (.putfield 31, 3) := by decide +kernel
theorem dX1_begin_5 : decode prog_3_method_2_code 5 = .ok (.aload_n 0, 1) := by decide +kernel
theorem dX1_begin_6 : decode prog_3_method_2_code 6 = .ok (.iload_n 2, 1) := by decide +kernel
theorem dX1_begin_7 : decode prog_3_method_2_code 7 = .ok (.putfield 35, 3) := by decide +kernel
theorem dX1_begin_10 : decode prog_3_method_2_code 10 = .ok (.iconst 0, 1) := by decide +kernel
theorem dX1_begin_11 : decode prog_3_method_2_code 11 = .ok (.istore_n 3, 1) := by decide +kernel
theorem dX1_begin_12 : decode prog_3_method_2_code 12 = .ok (.iload_n 3, 1) := by decide +kernel
theorem dX1_begin_13 : decode prog_3_method_2_code 13 = .ok (.aload_n 0, 1) := by decide +kernel
theorem dX1_begin_14 : decode prog_3_method_2_code 14 = .ok (.getfield 27, 3) := by decide +kernel
theorem dX1_begin_17 : decode prog_3_method_2_code 17 = .ok (.getfield 38, 3) := by decide +kernel
theorem dX1_begin_20 : decode prog_3_method_2_code 20 = .ok (.if_icmp .ge 16, 3) := by decide +kernel
theorem dX1_begin_23 : decode prog_3_method_2_code 23 = .ok (.aload_n 0, 1) := by decide +kernel
theorem dX1_begin_24 : decode prog_3_method_2_code 24 = .ok (.getfield 9, 3) := by decide +kernel
theorem dX1_begin_27 : decode prog_3_method_2_code 27 = .ok (.iload_n 3, 1) := by decide +kernel
theorem dX1_begin_28 : decode prog_3_method_2_code 28 = .ok (.iconst (-1), 1) := by decide +kernel
theorem dX1_begin_29 : decode prog_3_method_2_code 29 = .ok (.iastore, 1) := by decide +kernel
theorem dX1_begin_30 : decode prog_3_method_2_code 30 = .ok (.iinc 3 1, 3) := by decide +kernel
theorem dX1_begin_33 : decode prog_3_method_2_code 33 = .ok (.goto (-21), 3) := by decide +kernel
theorem dX1_begin_36 : decode prog_3_method_2_code 36 = .ok (.iconst 0, 1) := by decide +kernel
theorem dX1_begin_37 : decode prog_3_method_2_code 37 = .ok (.istore_n 3, 1) := by decide +kernel
theorem dX1_begin_38 : decode prog_3_method_2_code 38 = .ok (.iload_n 3, 1) := by decide +kernel
theorem dX1_begin_39 : decode prog_3_method_2_code 39 = .ok (.aload_n 0, 1) := by decide +kernel
theorem dX1_begin_40 : decode prog_3_method_2_code 40 = .ok (.getfield 27, 3) := by decide +kernel
theorem dX1_begin_43 : decode prog_3_method_2_code 43 = .ok (.getfield 38, 3) := by decide +kernel
theorem dX1_begin_46 : decode prog_3_method_2_code 46 = .ok (.if_icmp .ge 95, 3) := by decide +kernel
theorem dX1_begin_49 : decode prog_3_method_2_code 49 = .ok (.iconst 0, 1) := by decide +kernel
theorem dX1_begin_50 : decode prog_3_method_2_code 50 = .ok (.istore 4, 2) := by decide +kernel
theorem dX1_begin_52 : decode prog_3_method_2_code 52 = .ok (.iload 4, 2) := by decide +kernel
theorem dX1_begin_54 : decode prog_3_method_2_code 54 = .ok (.aload_n 0, 1) := by decide +kernel
theorem dX1_begin_55 : decode prog_3_method_2_code 55 = .ok (.getfield 27, 3) := by decide +kernel
theorem dX1_begin_58 : decode prog_3_method_2_code 58 = .ok (.getfield 43, 3) := by decide +kernel
theorem dX1_begin_61 : decode prog_3_method_2_code 61 = .ok (.getfield 47, 3) := by decide +kernel
theorem dX1_begin_64 : decode prog_3_method_2_code 64 = .ok (.if_icmp .ge 71, 3) := by decide +kernel
theorem dX1_begin_67 : decode prog_3_method_2_code 67 = .ok (.aload_n 0, 1) := by decide +kernel
theorem dX1_begin_68 : decode prog_3_method_2_code 68 = .ok (.getfield 31, 3) := by decide +kernel
theorem dX1_begin_71 : decode prog_3_method_2_code 71 = .ok (.aload_n 0, 1) := by decide +kernel
theorem dX1_begin_72 : decode prog_3_method_2_code 72 = .ok (.getfield 35, 3) := by decide +kernel
theorem dX1_begin_75 : decode prog_3_method_2_code 75 = .ok (.ior, 1) := by decide +kernel
theorem dX1_begin_76 : decode prog_3_method_2_code 76 = .ok (.iload 4, 2) := by decide +kernel
theorem dX1_begin_78 : decode prog_3_method_2_code 78 = .ok (.invokestatic 52, 3) := by decide +kernel
theorem dX1_begin_81 : decode prog_3_method_2_code 81 = .ok (.ifCond .eq 48, 3) := by decide +kernel
theorem dX1_begin_84 : decode prog_3_method_2_code 84 = .ok (.aload_n 0, 1) := by decide +kernel
theorem dX1_begin_85 : decode prog_3_method_2_code 85 = .ok (.getfield 27, 3) := by decide +kernel
theorem dX1_begin_88 : decode prog_3_method_2_code 88 = .ok (.iload 4, 2) := by decide +kernel
theorem dX1_begin_90 : decode prog_3_method_2_code 90 = .ok (.iload_n 3, 1) := by decide +kernel
theorem dX1_begin_91 : decode prog_3_method_2_code 91 = .ok (.invokevirtual 56, 3) := by decide +kernel
theorem dX1_begin_94 : decode prog_3_method_2_code 94 = .ok (.istore 5, 2) := by decide +kernel
theorem dX1_begin_96 : decode prog_3_method_2_code 96 = .ok (.aload_n 0, 1) := by decide +kernel
theorem dX1_begin_97 : decode prog_3_method_2_code 97 = .ok (.getfield 15, 3) := by decide +kernel
theorem dX1_begin_100 : decode prog_3_method_2_code 100 = .ok (.iload_n 3, 1) := by decide +kernel
theorem dX1_begin_101 : decode prog_3_method_2_code 101 = .ok (.bipush 6, 2) := by decide +kernel
theorem dX1_begin_103 : decode prog_3_method_2_code 103 = .ok (.imul, 1) := by decide +kernel
theorem dX1_begin_104 : decode prog_3_method_2_code 104 = .ok (.iload 4, 2) := by decide +kernel
theorem dX1_begin_106 : decode prog_3_method_2_code 106 = .ok (.iadd, 1) := by decide +kernel
theorem dX1_begin_107 : decode prog_3_method_2_code 107 = .ok (.aload_n 0, 1) := by decide +kernel
theorem dX1_begin_108 : decode prog_3_method_2_code 108 = .ok (.getfield 9, 3) := by decide +kernel
theorem dX1_begin_111 : decode prog_3_method_2_code 111 = .ok (.iload 5, 2) := by decide +kernel
theorem dX1_begin_113 : decode prog_3_method_2_code 113 = .ok (.iaload, 1) := by decide +kernel
theorem dX1_begin_114 : decode prog_3_method_2_code 114 = .ok (.iastore, 1) := by decide +kernel
theorem dX1_begin_115 : decode prog_3_method_2_code 115 = .ok (.aload_n 0, 1) := by decide +kernel
theorem dX1_begin_116 : decode prog_3_method_2_code 116 = .ok (.getfield 9, 3) := by decide +kernel
theorem dX1_begin_119 : decode prog_3_method_2_code 119 = .ok (.iload 5, 2) := by decide +kernel
theorem dX1_begin_121 : decode prog_3_method_2_code 121 = .ok (.iload_n 3, 1) := by decide +kernel
theorem dX1_begin_122 : decode prog_3_method_2_code 122 = .ok (.bipush 6, 2) := by decide +kernel
theorem dX1_begin_124 : decode prog_3_method_2_code 124 = .ok (.imul, 1) := by decide +kernel
theorem dX1_begin_125 : decode prog_3_method_2_code 125 = .ok (.iload 4, 2) := by decide +kernel
theorem dX1_begin_127 : decode prog_3_method_2_code 127 = .ok (.iadd, 1) := by decide +kernel
theorem dX1_begin_128 : decode prog_3_method_2_code 128 = .ok (.iastore, 1) := by decide +kernel
theorem dX1_begin_129 : decode prog_3_method_2_code 129 = .ok (.iinc 4 1, 3) := by decide +kernel
theorem dX1_begin_132 : decode prog_3_method_2_code 132 = .ok (.goto (-80), 3) := by decide +kernel
theorem dX1_begin_135 : decode prog_3_method_2_code 135 = .ok (.iinc 3 1, 3) := by decide +kernel
theorem dX1_begin_138 : decode prog_3_method_2_code 138 = .ok (.goto (-100), 3) := by decide +kernel
theorem dX1_begin_141 : decode prog_3_method_2_code 141 = .ok (.return_, 1) := by decide +kernel
theorem rX1_begin_0 {d : Nat} {h : Hp} {Q : Option PV → Hp → Prop} {st : List PV}{t : List (Option PV)} {v : Nat} : WP d mX1_begin 0 (some (.inr (.inr v)) :: t) st h Q = WP d mX1_begin 1 (some (.inr (.inr v)) :: t) (.inr (.inr v) :: st) h Q := WP_step dX1_begin_0 rfl rfl rfl
theorem rX1_begin_1 {d : Nat} {h : Hp} {Q : Option PV → Hp → Prop} {st : List PV}{x0 : Option PV} {t : List (Option PV)} {v : Int} : WP d mX1_begin 1 (x0 :: some (.inl v) :: t) st h Q = WP d mX1_begin 2 (x0 :: some (.inl v) :: t) (.inl v :: st) h Q := WP_step dX1_begin_1 rfl rfl rfl
theorem rX1_begin_2 {d : Nat} {h : Hp} {Q : Option PV → Hp → Prop} {st : List PV}{ls : List (Option PV)}{a : Nat} {v : Int} : WP d mX1_begin 2 ls (.inl v :: .inr (.inr a) :: st) h Q = ((hK h a).1 = 1 ∧ 200 ≤ a ∧ WP d mX1_begin 5 ls st (wI h a 7 v) Q) := R_put0 dX1_begin_2 rfl
theorem rX1_begin_5 {d : Nat} {h : Hp} {Q : Option PV → Hp → Prop} {st : List PV}{t : List (Option PV)} {v : Nat} : WP d mX1_begin 5 (some (.inr (.inr v)) :: t) st h Q = WP d mX1_begin 6 (some (.inr (.inr v)) :: t) (.inr (.inr v) :: st) h Q := WP_step dX1_begin_5 rfl rfl rfl
theorem rX1_begin_6 {d : Nat} {h : Hp} {Q : Option PV → Hp → Prop} {st : List PV}{x0 x1 : Option PV} {t : List (Option PV)} {v : Int} : WP d mX1_begin 6 (x0 :: x1 :: some (.inl v) :: t) st h Q = WP d mX1_begin 7 (x0 :: x1 :: some (.inl v) :: t) (.inl v :: st) h Q := WP_step dX1_begin_6 rfl rfl rfl
theorem rX1_begin_7 {d : Nat} {h : Hp} {Q : Option PV → Hp → Prop} {st : List PV}{ls : List (Option PV)}{a : Nat} {v : Int} : WP d mX1_begin 7 ls (.inl v :: .inr (.inr a) :: st) h Q = ((hK h a).1 = 1 ∧ 200 ≤ a ∧ WP d mX1_begin 10 ls st (wI h a 8 v) Q) := R_put0 dX1_begin_7 rfl
theorem rX1_begin_10 {d : Nat} {h : Hp} {Q : Option PV → Hp → Prop} {st : List PV}{ls : List (Option PV)} : WP d mX1_begin 10 ls st h Q = WP d mX1_begin 11 ls (.inl (0) :: st) h Q := WP_step dX1_begin_10 rfl rfl rfl
theorem rX1_begin_11 {d : Nat} {h : Hp} {Q : Option PV → Hp → Prop} {st : List PV}{x0 x1 x2 x3 x4 x5 : Option PV} {v : Int} : WP d mX1_begin 11 [x0, x1, x2, x3, x4, x5] (.inl v :: st) h Q = WP d mX1_begin 12 [x0, x1, x2, some (.inl v), x4, x5] st h Q := WP_step dX1_begin_11 rfl rfl rfl
theorem rX1_begin_12 {d : Nat} {h : Hp} {Q : Option PV → Hp → Prop} {st : List PV}{x0 x1 x2 : Option PV} {t : List (Option PV)} {v : Int} : WP d mX1_begin 12 (x0 :: x1 :: x2 :: some (.inl v) :: t) st h Q = WP d mX1_begin 13 (x0 :: x1 :: x2 :: some (.inl v) :: t) (.inl v :: st) h Q := WP_step dX1_begin_12 rfl rfl rfl
theorem rX1_begin_13 {d : Nat} {h : Hp} {Q : Option PV → Hp → Prop} {st : List PV}{t : List (Option PV)} {v : Nat} : WP d mX1_begin 13 (some (.inr (.inr v)) :: t) st h Q = WP d mX1_begin 14 (some (.inr (.inr v)) :: t) (.inr (.inr v) :: st) h Q := WP_step dX1_begin_13 rfl rfl rfl
theorem rX1_begin_14 {d : Nat} {h : Hp} {Q : Option PV → Hp → Prop} {st : List PV}{ls : List (Option PV)}{a : Nat} : WP d mX1_begin 14 ls (.inr (.inr a) :: st) h Q = ((hK h a).1 = 1 ∧ WP d mX1_begin 17 ls (.inr (.inr (hR h a 0)) :: st) h Q) := R_get2 dX1_begin_14 rfl
theorem rX1_begin_17 {d : Nat} {h : Hp} {Q : Option PV → Hp → Prop} {st : List PV}{ls : List (Option PV)}{a : Nat} : WP d mX1_begin 17 ls (.inr (.inr a) :: st) h Q = ((hK h a).1 = 7 ∧ WP d mX1_begin 20 ls (.inl (hI h a 12) :: st) h Q) := R_get0 dX1_begin_17 rfl
theorem rX1_begin_20 {d : Nat} {h : Hp} {Q : Option PV → Hp → Prop} {st : List PV}{ls : List (Option PV)}{a b : Int} : WP d mX1_begin 20 ls (.inl b :: .inl a :: st) h Q = (if a < b then WP d mX1_begin 23 ls st h Q else WP d mX1_begin 36 ls st h Q) := R_icmp_ge dX1_begin_20 (by decide)
theorem rX1_begin_23 {d : Nat} {h : Hp} {Q : Option PV → Hp → Prop} {st : List PV}{t : List (Option PV)} {v : Nat} : WP d mX1_begin 23 (some (.inr (.inr v)) :: t) st h Q = WP d mX1_begin 24 (some (.inr (.inr v)) :: t) (.inr (.inr v) :: st) h Q := WP_step dX1_begin_23 rfl rfl rfl
theorem rX1_begin_24 {d : Nat} {h : Hp} {Q : Option PV → Hp → Prop} {st : List PV}{ls : List (Option PV)}{a : Nat} : WP d mX1_begin 24 ls (.inr (.inr a) :: st) h Q = ((hK h a).1 = 1 ∧ WP d mX1_begin 27 ls (.inr (.inr (hR h a 1)) :: st) h Q) := R_get2 dX1_begin_24 rfl
theorem rX1_begin_27 {d : Nat} {h : Hp} {Q : Option PV → Hp → Prop} {st : List PV}{x0 x1 x2 : Option PV} {t : List (Option PV)} {v : Int} : WP d mX1_begin 27 (x0 :: x1 :: x2 :: some (.inl v) :: t) st h Q = WP d mX1_begin 28 (x0 :: x1 :: x2 :: some (.inl v) :: t) (.inl v :: st) h Q := WP_step dX1_begin_27 rfl rfl rfl
theorem rX1_begin_28 {d : Nat} {h : Hp} {Q : Option PV → Hp → Prop} {st : List PV}{ls : List (Option PV)} : WP d mX1_begin 28 ls st h Q = WP d mX1_begin 29 ls (.inl (-1) :: st) h Q := WP_step dX1_begin_28 rfl rfl rfl
theorem rX1_begin_29 {d : Nat} {h : Hp} {Q : Option PV → Hp → Prop} {st : List PV}{ls : List (Option PV)}{a : Nat} {z v : Int} : WP d mX1_begin 29 ls (.inl v :: .inl z :: .inr (.inr a) :: st) h Q = (200 ≤ a ∧ (hK h a).1 = 21 ∧ 0 ≤ z ∧ z < (hK h a).2 ∧ WP d mX1_begin 30 ls st (wI h a z.toNat v) Q) := R_iast dX1_begin_29
theorem rX1_begin_30 {d : Nat} {h : Hp} {Q : Option PV → Hp → Prop} {st : List PV}{x0 x1 x2 : Option PV} {t : List (Option PV)} {v : Int} : WP d mX1_begin 30 (x0 :: x1 :: x2 :: some (.inl v) :: t) st h Q = WP d mX1_begin 33 (x0 :: x1 :: x2 :: some (.inl (w32 (v + 1))) :: t) st h Q := WP_step dX1_begin_30 rfl rfl rfl
theorem rX1_begin_33 {d : Nat} {h : Hp} {Q : Option PV → Hp → Prop} {st : List PV}{ls : List (Option PV)} : WP d mX1_begin 33 ls st h Q = WP d mX1_begin 12 ls st h Q := R_goto dX1_begin_33 (by decide)
theorem rX1_begin_36 {d : Nat} {h : Hp} {Q : Option PV → Hp → Prop} {st : List PV}{ls : List (Option PV)} : WP d mX1_begin 36 ls st h Q = WP d mX1_begin 37 ls (.inl (0) :: st) h Q := WP_step dX1_begin_36 rfl rfl rfl
theorem rX1_begin_37 {d : Nat} {h : Hp} {Q : Option PV → Hp → Prop} {st : List PV}{x0 x1 x2 x3 x4 x5 : Option PV} {v : Int} : WP d mX1_begin 37 [x0, x1, x2, x3, x4, x5] (.inl v :: st) h Q = WP d mX1_begin 38 [x0, x1, x2, some (.inl v), x4, x5] st h Q := WP_step dX1_begin_37 rfl rfl rfl
theorem rX1_begin_38 {d : Nat} {h : Hp} {Q : Option PV → Hp → Prop} {st : List PV}{x0 x1 x2 : Option PV} {t : List (Option PV)} {v : Int} : WP d mX1_begin 38 (x0 :: x1 :: x2 :: some (.inl v) :: t) st h Q = WP d mX1_begin 39 (x0 :: x1 :: x2 :: some (.inl v) :: t) (.inl v :: st) h Q := WP_step dX1_begin_38 rfl rfl rfl
theorem rX1_begin_39 {d : Nat} {h : Hp} {Q : Option PV → Hp → Prop} {st : List PV}{t : List (Option PV)} {v : Nat} : WP d mX1_begin 39 (some (.inr (.inr v)) :: t) st h Q = WP d mX1_begin 40 (some (.inr (.inr v)) :: t) (.inr (.inr v) :: st) h Q := WP_step dX1_begin_39 rfl rfl rfl
theorem rX1_begin_40 {d : Nat} {h : Hp} {Q : Option PV → Hp → Prop} {st : List PV}{ls : List (Option PV)}{a : Nat} : WP d mX1_begin 40 ls (.inr (.inr a) :: st) h Q = ((hK h a).1 = 1 ∧ WP d mX1_begin 43 ls (.inr (.inr (hR h a 0)) :: st) h Q) := R_get2 dX1_begin_40 rfl
theorem rX1_begin_43 {d : Nat} {h : Hp} {Q : Option PV → Hp → Prop} {st : List PV}{ls : List (Option PV)}{a : Nat} : WP d mX1_begin 43 ls (.inr (.inr a) :: st) h Q = ((hK h a).1 = 7 ∧ WP d mX1_begin 46 ls (.inl (hI h a 12) :: st) h Q) := R_get0 dX1_begin_43 rfl
theorem rX1_begin_46 {d : Nat} {h : Hp} {Q : Option PV → Hp → Prop} {st : List PV}{ls : List (Option PV)}{a b : Int} : WP d mX1_begin 46 ls (.inl b :: .inl a :: st) h Q = (if a < b then WP d mX1_begin 49 ls st h Q else WP d mX1_begin 141 ls st h Q) := R_icmp_ge dX1_begin_46 (by decide)
theorem rX1_begin_49 {d : Nat} {h : Hp} {Q : Option PV → Hp → Prop} {st : List PV}{ls : List (Option PV)} : WP d mX1_begin 49 ls st h Q = WP d mX1_begin 50 ls (.inl (0) :: st) h Q := WP_step dX1_begin_49 rfl rfl rfl
theorem rX1_begin_50 {d : Nat} {h : Hp} {Q : Option PV → Hp → Prop} {st : List PV}{x0 x1 x2 x3 x4 x5 : Option PV} {v : Int} : WP d mX1_begin 50 [x0, x1, x2, x3, x4, x5] (.inl v :: st) h Q = WP d mX1_begin 52 [x0, x1, x2, x3, some (.inl v), x5] st h Q := WP_step dX1_begin_50 rfl rfl rfl
theorem rX1_begin_52 {d : Nat} {h : Hp} {Q : Option PV → Hp → Prop} {st : List PV}{x0 x1 x2 x3 : Option PV} {t : List (Option PV)} {v : Int} : WP d mX1_begin 52 (x0 :: x1 :: x2 :: x3 :: some (.inl v) :: t) st h Q = WP d mX1_begin 54 (x0 :: x1 :: x2 :: x3 :: some (.inl v) :: t) (.inl v :: st) h Q := WP_step dX1_begin_52 rfl rfl rfl
theorem rX1_begin_54 {d : Nat} {h : Hp} {Q : Option PV → Hp → Prop} {st : List PV}{t : List (Option PV)} {v : Nat} : WP d mX1_begin 54 (some (.inr (.inr v)) :: t) st h Q = WP d mX1_begin 55 (some (.inr (.inr v)) :: t) (.inr (.inr v) :: st) h Q := WP_step dX1_begin_54 rfl rfl rfl
theorem rX1_begin_55 {d : Nat} {h : Hp} {Q : Option PV → Hp → Prop} {st : List PV}{ls : List (Option PV)}{a : Nat} : WP d mX1_begin 55 ls (.inr (.inr a) :: st) h Q = ((hK h a).1 = 1 ∧ WP d mX1_begin 58 ls (.inr (.inr (hR h a 0)) :: st) h Q) := R_get2 dX1_begin_55 rfl
theorem rX1_begin_58 {d : Nat} {h : Hp} {Q : Option PV → Hp → Prop} {st : List PV}{ls : List (Option PV)}{a : Nat} : WP d mX1_begin 58 ls (.inr (.inr a) :: st) h Q = ((hK h a).1 = 7 ∧ WP d mX1_begin 61 ls (.inr (.inr (hR h a 10)) :: st) h Q) := R_get2 dX1_begin_58 rfl
theorem rX1_begin_61 {d : Nat} {h : Hp} {Q : Option PV → Hp → Prop} {st : List PV}{ls : List (Option PV)}{a : Nat} : WP d mX1_begin 61 ls (.inr (.inr a) :: st) h Q = ((hK h a).1 = 5 ∧ WP d mX1_begin 64 ls (.inl (hI h a 11) :: st) h Q) := R_get0 dX1_begin_61 rfl
theorem rX1_begin_64 {d : Nat} {h : Hp} {Q : Option PV → Hp → Prop} {st : List PV}{ls : List (Option PV)}{a b : Int} : WP d mX1_begin 64 ls (.inl b :: .inl a :: st) h Q = (if a < b then WP d mX1_begin 67 ls st h Q else WP d mX1_begin 135 ls st h Q) := R_icmp_ge dX1_begin_64 (by decide)
theorem rX1_begin_67 {d : Nat} {h : Hp} {Q : Option PV → Hp → Prop} {st : List PV}{t : List (Option PV)} {v : Nat} : WP d mX1_begin 67 (some (.inr (.inr v)) :: t) st h Q = WP d mX1_begin 68 (some (.inr (.inr v)) :: t) (.inr (.inr v) :: st) h Q := WP_step dX1_begin_67 rfl rfl rfl
theorem rX1_begin_68 {d : Nat} {h : Hp} {Q : Option PV → Hp → Prop} {st : List PV}{ls : List (Option PV)}{a : Nat} : WP d mX1_begin 68 ls (.inr (.inr a) :: st) h Q = ((hK h a).1 = 1 ∧ WP d mX1_begin 71 ls (.inl (hI h a 7) :: st) h Q) := R_get0 dX1_begin_68 rfl
theorem rX1_begin_71 {d : Nat} {h : Hp} {Q : Option PV → Hp → Prop} {st : List PV}{t : List (Option PV)} {v : Nat} : WP d mX1_begin 71 (some (.inr (.inr v)) :: t) st h Q = WP d mX1_begin 72 (some (.inr (.inr v)) :: t) (.inr (.inr v) :: st) h Q := WP_step dX1_begin_71 rfl rfl rfl
theorem rX1_begin_72 {d : Nat} {h : Hp} {Q : Option PV → Hp → Prop} {st : List PV}{ls : List (Option PV)}{a : Nat} : WP d mX1_begin 72 ls (.inr (.inr a) :: st) h Q = ((hK h a).1 = 1 ∧ WP d mX1_begin 75 ls (.inl (hI h a 8) :: st) h Q) := R_get0 dX1_begin_72 rfl
theorem rX1_begin_75 {d : Nat} {h : Hp} {Q : Option PV → Hp → Prop} {st : List PV}{ls : List (Option PV)}{a b : Int} : WP d mX1_begin 75 ls (.inl b :: .inl a :: st) h Q = WP d mX1_begin 76 ls (.inl (ior a b) :: st) h Q := WP_step dX1_begin_75 rfl rfl rfl
theorem rX1_begin_76 {d : Nat} {h : Hp} {Q : Option PV → Hp → Prop} {st : List PV}{x0 x1 x2 x3 : Option PV} {t : List (Option PV)} {v : Int} : WP d mX1_begin 76 (x0 :: x1 :: x2 :: x3 :: some (.inl v) :: t) st h Q = WP d mX1_begin 78 (x0 :: x1 :: x2 :: x3 :: some (.inl v) :: t) (.inl v :: st) h Q := WP_step dX1_begin_76 rfl rfl rfl
theorem rX1_begin_78 {d : Nat} {h : Hp} {Q : Option PV → Hp → Prop} {ls : List (Option PV)}{v0 : Int} {v1 : Int} : WP (d + 1) mX1_begin 78 ls (.inl v1 :: .inl v0 :: []) h Q = WP d mX11_has 0 [some (.inl v0), some (.inl v1)] [] h (fun r h' => WP (d + 1) mX1_begin 81 ls (psh r []) h' Q) := R_callS (st := .inl v1 :: .inl v0 :: []) (M := mX1_begin) (pc := 78) (kd := 5) (n := 2) (M' := mX11_has) (as := [.inl v1, .inl v0]) (rest := []) (en := [some (.inl v0), some (.inl v1)]) dX1_begin_78 rfl (Or.inr rfl) (Nat.le_of_ble_eq_true rfl) rfl (Nat.le_of_ble_eq_true rfl) rfl rfl rfl
theorem rX1_begin_81 {d : Nat} {h : Hp} {Q : Option PV → Hp → Prop} {st : List PV}{ls : List (Option PV)}{a : Int} : WP d mX1_begin 81 ls (.inl a :: st) h Q = (if a = 0 then WP d mX1_begin 129 ls st h Q else WP d mX1_begin 84 ls st h Q) := R_if_eq dX1_begin_81 (by decide)
theorem rX1_begin_84 {d : Nat} {h : Hp} {Q : Option PV → Hp → Prop} {st : List PV}{t : List (Option PV)} {v : Nat} : WP d mX1_begin 84 (some (.inr (.inr v)) :: t) st h Q = WP d mX1_begin 85 (some (.inr (.inr v)) :: t) (.inr (.inr v) :: st) h Q := WP_step dX1_begin_84 rfl rfl rfl
theorem rX1_begin_85 {d : Nat} {h : Hp} {Q : Option PV → Hp → Prop} {st : List PV}{ls : List (Option PV)}{a : Nat} : WP d mX1_begin 85 ls (.inr (.inr a) :: st) h Q = ((hK h a).1 = 1 ∧ WP d mX1_begin 88 ls (.inr (.inr (hR h a 0)) :: st) h Q) := R_get2 dX1_begin_85 rfl
theorem rX1_begin_88 {d : Nat} {h : Hp} {Q : Option PV → Hp → Prop} {st : List PV}{x0 x1 x2 x3 : Option PV} {t : List (Option PV)} {v : Int} : WP d mX1_begin 88 (x0 :: x1 :: x2 :: x3 :: some (.inl v) :: t) st h Q = WP d mX1_begin 90 (x0 :: x1 :: x2 :: x3 :: some (.inl v) :: t) (.inl v :: st) h Q := WP_step dX1_begin_88 rfl rfl rfl
theorem rX1_begin_90 {d : Nat} {h : Hp} {Q : Option PV → Hp → Prop} {st : List PV}{x0 x1 x2 : Option PV} {t : List (Option PV)} {v : Int} : WP d mX1_begin 90 (x0 :: x1 :: x2 :: some (.inl v) :: t) st h Q = WP d mX1_begin 91 (x0 :: x1 :: x2 :: some (.inl v) :: t) (.inl v :: st) h Q := WP_step dX1_begin_90 rfl rfl rfl
theorem rX1_begin_91 {d : Nat} {h : Hp} {Q : Option PV → Hp → Prop} {ls : List (Option PV)}{v0 : Nat} {v1 : Int} {v2 : Int} : WP (d + 1) mX1_begin 91 ls (.inl v2 :: .inl v1 :: .inr (.inr v0) :: []) h Q = ((hK h v0).1 = 7 ∧ WP d mX7_placeAfter 0 [some (.inr (.inr v0)), some (.inl v1), some (.inl v2)] [] h (fun r h' => WP (d + 1) mX1_begin 94 ls (psh r []) h' Q)) := R_callV (st := .inl v2 :: .inl v1 :: .inr (.inr v0) :: []) (M := mX1_begin) (pc := 91) (kd := 0) (n := 3) (M' := mX7_placeAfter) (as := [.inl v2, .inl v1, .inr (.inr v0)]) (rest := []) (en := [some (.inr (.inr v0)), some (.inl v1), some (.inl v2)]) dX1_begin_91 rfl (Nat.le_of_ble_eq_true rfl) (Nat.le_of_ble_eq_true rfl) rfl rfl (Nat.le_of_ble_eq_true rfl) rfl rfl rfl
theorem rX1_begin_94 {d : Nat} {h : Hp} {Q : Option PV → Hp → Prop} {st : List PV}{x0 x1 x2 x3 x4 x5 : Option PV} {v : Int} : WP d mX1_begin 94 [x0, x1, x2, x3, x4, x5] (.inl v :: st) h Q = WP d mX1_begin 96 [x0, x1, x2, x3, x4, some (.inl v)] st h Q := WP_step dX1_begin_94 rfl rfl rfl
theorem rX1_begin_96 {d : Nat} {h : Hp} {Q : Option PV → Hp → Prop} {st : List PV}{t : List (Option PV)} {v : Nat} : WP d mX1_begin 96 (some (.inr (.inr v)) :: t) st h Q = WP d mX1_begin 97 (some (.inr (.inr v)) :: t) (.inr (.inr v) :: st) h Q := WP_step dX1_begin_96 rfl rfl rfl
theorem rX1_begin_97 {d : Nat} {h : Hp} {Q : Option PV → Hp → Prop} {st : List PV}{ls : List (Option PV)}{a : Nat} : WP d mX1_begin 97 ls (.inr (.inr a) :: st) h Q = ((hK h a).1 = 1 ∧ WP d mX1_begin 100 ls (.inr (.inr (hR h a 2)) :: st) h Q) := R_get2 dX1_begin_97 rfl
theorem rX1_begin_100 {d : Nat} {h : Hp} {Q : Option PV → Hp → Prop} {st : List PV}{x0 x1 x2 : Option PV} {t : List (Option PV)} {v : Int} : WP d mX1_begin 100 (x0 :: x1 :: x2 :: some (.inl v) :: t) st h Q = WP d mX1_begin 101 (x0 :: x1 :: x2 :: some (.inl v) :: t) (.inl v :: st) h Q := WP_step dX1_begin_100 rfl rfl rfl
theorem rX1_begin_101 {d : Nat} {h : Hp} {Q : Option PV → Hp → Prop} {st : List PV}{ls : List (Option PV)} : WP d mX1_begin 101 ls st h Q = WP d mX1_begin 103 ls (.inl (6) :: st) h Q := WP_step dX1_begin_101 rfl rfl rfl
theorem rX1_begin_103 {d : Nat} {h : Hp} {Q : Option PV → Hp → Prop} {st : List PV}{ls : List (Option PV)}{a b : Int} : WP d mX1_begin 103 ls (.inl b :: .inl a :: st) h Q = WP d mX1_begin 104 ls (.inl (w32 (a * b)) :: st) h Q := WP_step dX1_begin_103 rfl rfl rfl
theorem rX1_begin_104 {d : Nat} {h : Hp} {Q : Option PV → Hp → Prop} {st : List PV}{x0 x1 x2 x3 : Option PV} {t : List (Option PV)} {v : Int} : WP d mX1_begin 104 (x0 :: x1 :: x2 :: x3 :: some (.inl v) :: t) st h Q = WP d mX1_begin 106 (x0 :: x1 :: x2 :: x3 :: some (.inl v) :: t) (.inl v :: st) h Q := WP_step dX1_begin_104 rfl rfl rfl
theorem rX1_begin_106 {d : Nat} {h : Hp} {Q : Option PV → Hp → Prop} {st : List PV}{ls : List (Option PV)}{a b : Int} : WP d mX1_begin 106 ls (.inl b :: .inl a :: st) h Q = WP d mX1_begin 107 ls (.inl (w32 (a + b)) :: st) h Q := WP_step dX1_begin_106 rfl rfl rfl
theorem rX1_begin_107 {d : Nat} {h : Hp} {Q : Option PV → Hp → Prop} {st : List PV}{t : List (Option PV)} {v : Nat} : WP d mX1_begin 107 (some (.inr (.inr v)) :: t) st h Q = WP d mX1_begin 108 (some (.inr (.inr v)) :: t) (.inr (.inr v) :: st) h Q := WP_step dX1_begin_107 rfl rfl rfl
theorem rX1_begin_108 {d : Nat} {h : Hp} {Q : Option PV → Hp → Prop} {st : List PV}{ls : List (Option PV)}{a : Nat} : WP d mX1_begin 108 ls (.inr (.inr a) :: st) h Q = ((hK h a).1 = 1 ∧ WP d mX1_begin 111 ls (.inr (.inr (hR h a 1)) :: st) h Q) := R_get2 dX1_begin_108 rfl
theorem rX1_begin_111 {d : Nat} {h : Hp} {Q : Option PV → Hp → Prop} {st : List PV}{x0 x1 x2 x3 x4 : Option PV} {t : List (Option PV)} {v : Int} : WP d mX1_begin 111 (x0 :: x1 :: x2 :: x3 :: x4 :: some (.inl v) :: t) st h Q = WP d mX1_begin 113 (x0 :: x1 :: x2 :: x3 :: x4 :: some (.inl v) :: t) (.inl v :: st) h Q := WP_step dX1_begin_111 rfl rfl rfl
theorem rX1_begin_113 {d : Nat} {h : Hp} {Q : Option PV → Hp → Prop} {st : List PV}{ls : List (Option PV)}{a : Nat} {z : Int} : WP d mX1_begin 113 ls (.inl z :: .inr (.inr a) :: st) h Q = ((hK h a).1 = 21 ∧ 0 ≤ z ∧ z < (hK h a).2 ∧ WP d mX1_begin 114 ls (.inl (hI h a z.toNat) :: st) h Q) := R_iald dX1_begin_113
theorem rX1_begin_114 {d : Nat} {h : Hp} {Q : Option PV → Hp → Prop} {st : List PV}{ls : List (Option PV)}{a : Nat} {z v : Int} : WP d mX1_begin 114 ls (.inl v :: .inl z :: .inr (.inr a) :: st) h Q = (200 ≤ a ∧ (hK h a).1 = 21 ∧ 0 ≤ z ∧ z < (hK h a).2 ∧ WP d mX1_begin 115 ls st (wI h a z.toNat v) Q) := R_iast dX1_begin_114
theorem rX1_begin_115 {d : Nat} {h : Hp} {Q : Option PV → Hp → Prop} {st : List PV}{t : List (Option PV)} {v : Nat} : WP d mX1_begin 115 (some (.inr (.inr v)) :: t) st h Q = WP d mX1_begin 116 (some (.inr (.inr v)) :: t) (.inr (.inr v) :: st) h Q := WP_step dX1_begin_115 rfl rfl rfl
theorem rX1_begin_116 {d : Nat} {h : Hp} {Q : Option PV → Hp → Prop} {st : List PV}{ls : List (Option PV)}{a : Nat} : WP d mX1_begin 116 ls (.inr (.inr a) :: st) h Q = ((hK h a).1 = 1 ∧ WP d mX1_begin 119 ls (.inr (.inr (hR h a 1)) :: st) h Q) := R_get2 dX1_begin_116 rfl
theorem rX1_begin_119 {d : Nat} {h : Hp} {Q : Option PV → Hp → Prop} {st : List PV}{x0 x1 x2 x3 x4 : Option PV} {t : List (Option PV)} {v : Int} : WP d mX1_begin 119 (x0 :: x1 :: x2 :: x3 :: x4 :: some (.inl v) :: t) st h Q = WP d mX1_begin 121 (x0 :: x1 :: x2 :: x3 :: x4 :: some (.inl v) :: t) (.inl v :: st) h Q := WP_step dX1_begin_119 rfl rfl rfl
theorem rX1_begin_121 {d : Nat} {h : Hp} {Q : Option PV → Hp → Prop} {st : List PV}{x0 x1 x2 : Option PV} {t : List (Option PV)} {v : Int} : WP d mX1_begin 121 (x0 :: x1 :: x2 :: some (.inl v) :: t) st h Q = WP d mX1_begin 122 (x0 :: x1 :: x2 :: some (.inl v) :: t) (.inl v :: st) h Q := WP_step dX1_begin_121 rfl rfl rfl
theorem rX1_begin_122 {d : Nat} {h : Hp} {Q : Option PV → Hp → Prop} {st : List PV}{ls : List (Option PV)} : WP d mX1_begin 122 ls st h Q = WP d mX1_begin 124 ls (.inl (6) :: st) h Q := WP_step dX1_begin_122 rfl rfl rfl
theorem rX1_begin_124 {d : Nat} {h : Hp} {Q : Option PV → Hp → Prop} {st : List PV}{ls : List (Option PV)}{a b : Int} : WP d mX1_begin 124 ls (.inl b :: .inl a :: st) h Q = WP d mX1_begin 125 ls (.inl (w32 (a * b)) :: st) h Q := WP_step dX1_begin_124 rfl rfl rfl
theorem rX1_begin_125 {d : Nat} {h : Hp} {Q : Option PV → Hp → Prop} {st : List PV}{x0 x1 x2 x3 : Option PV} {t : List (Option PV)} {v : Int} : WP d mX1_begin 125 (x0 :: x1 :: x2 :: x3 :: some (.inl v) :: t) st h Q = WP d mX1_begin 127 (x0 :: x1 :: x2 :: x3 :: some (.inl v) :: t) (.inl v :: st) h Q := WP_step dX1_begin_125 rfl rfl rfl
theorem rX1_begin_127 {d : Nat} {h : Hp} {Q : Option PV → Hp → Prop} {st : List PV}{ls : List (Option PV)}{a b : Int} : WP d mX1_begin 127 ls (.inl b :: .inl a :: st) h Q = WP d mX1_begin 128 ls (.inl (w32 (a + b)) :: st) h Q := WP_step dX1_begin_127 rfl rfl rfl
theorem rX1_begin_128 {d : Nat} {h : Hp} {Q : Option PV → Hp → Prop} {st : List PV}{ls : List (Option PV)}{a : Nat} {z v : Int} : WP d mX1_begin 128 ls (.inl v :: .inl z :: .inr (.inr a) :: st) h Q = (200 ≤ a ∧ (hK h a).1 = 21 ∧ 0 ≤ z ∧ z < (hK h a).2 ∧ WP d mX1_begin 129 ls st (wI h a z.toNat v) Q) := R_iast dX1_begin_128
theorem rX1_begin_129 {d : Nat} {h : Hp} {Q : Option PV → Hp → Prop} {st : List PV}{x0 x1 x2 x3 : Option PV} {t : List (Option PV)} {v : Int} : WP d mX1_begin 129 (x0 :: x1 :: x2 :: x3 :: some (.inl v) :: t) st h Q = WP d mX1_begin 132 (x0 :: x1 :: x2 :: x3 :: some (.inl (w32 (v + 1))) :: t) st h Q := WP_step dX1_begin_129 rfl rfl rfl
theorem rX1_begin_132 {d : Nat} {h : Hp} {Q : Option PV → Hp → Prop} {st : List PV}{ls : List (Option PV)} : WP d mX1_begin 132 ls st h Q = WP d mX1_begin 52 ls st h Q := R_goto dX1_begin_132 (by decide)
theorem rX1_begin_135 {d : Nat} {h : Hp} {Q : Option PV → Hp → Prop} {st : List PV}{x0 x1 x2 : Option PV} {t : List (Option PV)} {v : Int} : WP d mX1_begin 135 (x0 :: x1 :: x2 :: some (.inl v) :: t) st h Q = WP d mX1_begin 138 (x0 :: x1 :: x2 :: some (.inl (w32 (v + 1))) :: t) st h Q := WP_step dX1_begin_135 rfl rfl rfl
theorem rX1_begin_138 {d : Nat} {h : Hp} {Q : Option PV → Hp → Prop} {st : List PV}{ls : List (Option PV)} : WP d mX1_begin 138 ls st h Q = WP d mX1_begin 38 ls st h Q := R_goto dX1_begin_138 (by decide)
theorem rX1_begin_141 {d : Nat} {h : Hp} {Q : Option PV → Hp → Prop} {ls : List (Option PV)} : WP d mX1_begin 141 ls [] h Q = Q none h := R_vret dX1_begin_141 rfl
theorem dX1_play_0 : decode prog_3_method_3_code 0 = .ok (.aload_n 0, 1) := by decide +kernel
theorem dX1_play_1 : decode prog_3_method_3_code 1 = .ok (.iload_n 1, 1) := by decide +kernel
theorem dX1_play_2 : decode prog_3_method_3_code 2 = .ok (.invokevirtual 60, 3) := by decide +kernel
theorem dX1_play_5 : decode prog_3_method_3_code 5 = .ok (.iconst 0, 1) := by decide +kernel
theorem dX1_play_6 : decode prog_3_method_3_code 6 = .ok (.istore_n 2, 1) := by decide +kernel
theorem dX1_play_7 : decode prog_3_method_3_code 7 = .ok (.iload_n 2, 1) := by decide +kernel
theorem dX1_play_8 : decode prog_3_method_3_code 8 = .ok (.aload_n 0, 1) := by decide +kernel
theorem dX1_play_9 : decode prog_3_method_3_code 9 = .ok (.getfield 64, 3) := by decide +kernel
theorem dX1_play_12 : decode prog_3_method_3_code 12 = .ok (.if_icmp .ge 101, 3) := by decide +kernel
theorem dX1_play_15 : decode prog_3_method_3_code 15 = .ok (.iload_n 2, 1) := by decide +kernel
theorem dX1_play_16 : decode prog_3_method_3_code 16 = .ok (.sipush 3200, 3) := by decide +kernel
theorem dX1_play_19 : decode prog_3_method_3_code 19 = .ok (.if_icmp .ge 94, 3) := by decide +kernel
theorem dX1_play_22 : decode prog_3_method_3_code 22 = .ok (.aload_n 0, 1) := by decide +kernel
theorem dX1_play_23 : decode prog_3_method_3_code 23 = .ok (.getfield 24, 3) := by decide +kernel
theorem dX1_play_26 : decode prog_3_method_3_code 26 = .ok (.iload_n 2, 1) := by decide +kernel
theorem dX1_play_27 : decode prog_3_method_3_code 27 = .ok (.iaload, 1) := by decide +kernel
theorem dX1_play_28 : decode prog_3_method_3_code 28 = .ok (.iconst 1, 1) := by decide +kernel
theorem dX1_play_29 : decode prog_3_method_3_code 29 = .ok (.ishr, 1) := by decide +kernel
theorem dX1_play_30 : decode prog_3_method_3_code 30 = .ok (.istore_n 3, 1) := by decide +kernel
theorem dX1_play_31 : decode prog_3_method_3_code 31 = .ok (.iconst 1, 1) := by decide +kernel
theorem dX1_play_32 : decode prog_3_method_3_code 32 = .ok (.aload_n 0, 1) := by decide +kernel
theorem dX1_play_33 : decode prog_3_method_3_code 33 = .ok (.getfield 24, 3) := by decide +kernel
theorem dX1_play_36 : decode prog_3_method_3_code 36 = .ok (.iload_n 2, 1) := by decide +kernel
theorem dX1_play_37 : decode prog_3_method_3_code 37 = .ok (.iaload, 1) := by decide +kernel
theorem dX1_play_38 : decode prog_3_method_3_code 38 = .ok (.iconst 1, 1) := by decide +kernel
theorem dX1_play_39 : decode prog_3_method_3_code 39 = .ok (.iand, 1) := by decide +kernel
theorem dX1_play_40 : decode prog_3_method_3_code 40 = .ok (.isub, 1) := by decide +kernel
theorem dX1_play_41 : decode prog_3_method_3_code 41 = .ok (.istore 4, 2) := by decide +kernel
theorem dX1_play_43 : decode prog_3_method_3_code 43 = .ok (.iload 4, 2) := by decide +kernel
theorem dX1_play_45 : decode prog_3_method_3_code 45 = .ok (.ifCond .ne 10, 3) := by decide +kernel
theorem dX1_play_48 : decode prog_3_method_3_code 48 = .ok (.aload_n 0, 1) := by decide +kernel
theorem dX1_play_49 : decode prog_3_method_3_code 49 = .ok (.getfield 31, 3) := by decide +kernel
theorem dX1_play_52 : decode prog_3_method_3_code 52 = .ok (.goto 7, 3) := by decide +kernel
theorem dX1_play_55 : decode prog_3_method_3_code 55 = .ok (.aload_n 0, 1) := by decide +kernel
theorem dX1_play_56 : decode prog_3_method_3_code 56 = .ok (.getfield 35, 3) := by decide +kernel
theorem dX1_play_59 : decode prog_3_method_3_code 59 = .ok (.istore 5, 2) := by decide +kernel
theorem dX1_play_61 : decode prog_3_method_3_code 61 = .ok (.aload_n 0, 1) := by decide +kernel
theorem dX1_play_62 : decode prog_3_method_3_code 62 = .ok (.getfield 18, 3) := by decide +kernel
theorem dX1_play_65 : decode prog_3_method_3_code 65 = .ok (.aload_n 0, 1) := by decide +kernel
theorem dX1_play_66 : decode prog_3_method_3_code 66 = .ok (.getfield 24, 3) := by decide +kernel
theorem dX1_play_69 : decode prog_3_method_3_code 69 = .ok (.iload_n 2, 1) := by decide +kernel
theorem dX1_play_70 : decode prog_3_method_3_code 70 = .ok (.iaload, 1) := by decide +kernel
theorem dX1_play_71 : decode prog_3_method_3_code 71 = .ok (.iaload, 1) := by decide +kernel
theorem dX1_play_72 : decode prog_3_method_3_code 72 = .ok (.iconst 1, 1) := by decide +kernel
theorem dX1_play_73 : decode prog_3_method_3_code 73 = .ok (.iadd, 1) := by decide +kernel
theorem dX1_play_74 : decode prog_3_method_3_code 74 = .ok (.istore 6, 2) := by decide +kernel
theorem dX1_play_76 : decode prog_3_method_3_code 76 = .ok (.iload 5, 2) := by decide +kernel
theorem dX1_play_78 : decode prog_3_method_3_code 78 = .ok (.ifCond .ne 18, 3) := by decide +kernel
theorem dX1_play_81 : decode prog_3_method_3_code 81 = .ok (.aload_n 0, 1) := by decide +kernel
theorem dX1_play_82 : decode prog_3_method_3_code 82 = .ok (.iconst 2, 1) := by decide +kernel
theorem dX1_play_83 : decode prog_3_method_3_code 83 = .ok (.iload_n 3, 1) := by decide +kernel
theorem dX1_play_84 : decode prog_3_method_3_code 84 = .ok (.imul, 1) := by decide +kernel
theorem dX1_play_85 : decode prog_3_method_3_code 85 = .ok (.iload 4, 2) := by decide +kernel
theorem dX1_play_87 : decode prog_3_method_3_code 87 = .ok (.iadd, 1) := by decide +kernel
theorem dX1_play_88 : decode prog_3_method_3_code 88 = .ok (.iload 6, 2) := by decide +kernel
theorem dX1_play_90 : decode prog_3_method_3_code 90 = .ok (.invokevirtual 67, 3) := by decide +kernel
theorem dX1_play_93 : decode prog_3_method_3_code 93 = .ok (.goto 14, 3) := by decide +kernel
theorem dX1_play_96 : decode prog_3_method_3_code 96 = .ok (.aload_n 0, 1) := by decide +kernel
theorem dX1_play_97 : decode prog_3_method_3_code 97 = .ok (.iload_n 3, 1) := by decide +kernel
theorem dX1_play_98 : decode prog_3_method_3_code 98 = .ok (.iload 5, 2) := by decide +kernel
theorem dX1_play_100 : decode prog_3_method_3_code 100 = .ok (.iload 4, 2) := by decide +kernel
theorem dX1_play_102 : decode prog_3_method_3_code 102 = .ok (.iload 6, 2) := by decide +kernel
theorem dX1_play_104 : decode prog_3_method_3_code 104 = .ok (.invokevirtual 71, 3) := by decide +kernel
theorem dX1_play_107 : decode prog_3_method_3_code 107 = .ok (.iinc 2 1, 3) := by decide +kernel
theorem dX1_play_110 : decode prog_3_method_3_code 110 = .ok (.goto (-103), 3) := by decide +kernel
theorem dX1_play_113 : decode prog_3_method_3_code 113 = .ok (.aload_n 0, 1) := by decide +kernel
theorem dX1_play_114 : decode prog_3_method_3_code 114 = .ok (.getfield 18, 3) := by decide +kernel
theorem dX1_play_117 : decode prog_3_method_3_code 117 = .ok (.iconst 0, 1) := by decide +kernel
theorem dX1_play_118 : decode prog_3_method_3_code 118 = .ok (.iaload, 1) := by decide +kernel
theorem dX1_play_119 : decode prog_3_method_3_code 119 = .ok (.ireturn, 1) := by decide +kernel
theorem rX1_play_0 {d : Nat} {h : Hp} {Q : Option PV → Hp → Prop} {st : List PV}{t : List (Option PV)} {v : Nat} : WP d mX1_play 0 (some (.inr (.inr v)) :: t) st h Q = WP d mX1_play 1 (some (.inr (.inr v)) :: t) (.inr (.inr v) :: st) h Q := WP_step dX1_play_0 rfl rfl rfl
theorem rX1_play_1 {d : Nat} {h : Hp} {Q : Option PV → Hp → Prop} {st : List PV}{x0 : Option PV} {t : List (Option PV)} {v : Int} : WP d mX1_play 1 (x0 :: some (.inl v) :: t) st h Q = WP d mX1_play 2 (x0 :: some (.inl v) :: t) (.inl v :: st) h Q := WP_step dX1_play_1 rfl rfl rfl
theorem rX1_play_2 {d : Nat} {h : Hp} {Q : Option PV → Hp → Prop} {ls : List (Option PV)}{v0 : Nat} {v1 : Int} : WP (d + 1) mX1_play 2 ls (.inl v1 :: .inr (.inr v0) :: []) h Q = ((hK h v0).1 = 1 ∧ WP d mX1_setOut 0 [some (.inr (.inr v0)), some (.inl v1), none, none] [] h (fun r h' => WP (d + 1) mX1_play 5 ls (psh r []) h' Q)) := R_callV (st := .inl v1 :: .inr (.inr v0) :: []) (M := mX1_play) (pc := 2) (kd := 0) (n := 2) (M' := mX1_setOut) (as := [.inl v1, .inr (.inr v0)]) (rest := []) (en := [some (.inr (.inr v0)), some (.inl v1), none, none]) dX1_play_2 rfl (Nat.le_of_ble_eq_true rfl) (Nat.le_of_ble_eq_true rfl) rfl rfl (Nat.le_of_ble_eq_true rfl) rfl rfl rfl
theorem rX1_play_5 {d : Nat} {h : Hp} {Q : Option PV → Hp → Prop} {st : List PV}{ls : List (Option PV)} : WP d mX1_play 5 ls st h Q = WP d mX1_play 6 ls (.inl (0) :: st) h Q := WP_step dX1_play_5 rfl rfl rfl
theorem rX1_play_6 {d : Nat} {h : Hp} {Q : Option PV → Hp → Prop} {st : List PV}{x0 x1 x2 x3 x4 x5 x6 : Option PV} {v : Int} : WP d mX1_play 6 [x0, x1, x2, x3, x4, x5, x6] (.inl v :: st) h Q = WP d mX1_play 7 [x0, x1, some (.inl v), x3, x4, x5, x6] st h Q := WP_step dX1_play_6 rfl rfl rfl
theorem rX1_play_7 {d : Nat} {h : Hp} {Q : Option PV → Hp → Prop} {st : List PV}{x0 x1 : Option PV} {t : List (Option PV)} {v : Int} : WP d mX1_play 7 (x0 :: x1 :: some (.inl v) :: t) st h Q = WP d mX1_play 8 (x0 :: x1 :: some (.inl v) :: t) (.inl v :: st) h Q := WP_step dX1_play_7 rfl rfl rfl
theorem rX1_play_8 {d : Nat} {h : Hp} {Q : Option PV → Hp → Prop} {st : List PV}{t : List (Option PV)} {v : Nat} : WP d mX1_play 8 (some (.inr (.inr v)) :: t) st h Q = WP d mX1_play 9 (some (.inr (.inr v)) :: t) (.inr (.inr v) :: st) h Q := WP_step dX1_play_8 rfl rfl rfl
theorem rX1_play_9 {d : Nat} {h : Hp} {Q : Option PV → Hp → Prop} {st : List PV}{ls : List (Option PV)}{a : Nat} : WP d mX1_play 9 ls (.inr (.inr a) :: st) h Q = ((hK h a).1 = 1 ∧ WP d mX1_play 12 ls (.inl (hI h a 6) :: st) h Q) := R_get0 dX1_play_9 rfl
theorem rX1_play_12 {d : Nat} {h : Hp} {Q : Option PV → Hp → Prop} {st : List PV}{ls : List (Option PV)}{a b : Int} : WP d mX1_play 12 ls (.inl b :: .inl a :: st) h Q = (if a < b then WP d mX1_play 15 ls st h Q else WP d mX1_play 113 ls st h Q) := R_icmp_ge dX1_play_12 (by decide)
theorem rX1_play_15 {d : Nat} {h : Hp} {Q : Option PV → Hp → Prop} {st : List PV}{x0 x1 : Option PV} {t : List (Option PV)} {v : Int} : WP d mX1_play 15 (x0 :: x1 :: some (.inl v) :: t) st h Q = WP d mX1_play 16 (x0 :: x1 :: some (.inl v) :: t) (.inl v :: st) h Q := WP_step dX1_play_15 rfl rfl rfl
theorem rX1_play_16 {d : Nat} {h : Hp} {Q : Option PV → Hp → Prop} {st : List PV}{ls : List (Option PV)} : WP d mX1_play 16 ls st h Q = WP d mX1_play 19 ls (.inl (3200) :: st) h Q := WP_step dX1_play_16 rfl rfl rfl
theorem rX1_play_19 {d : Nat} {h : Hp} {Q : Option PV → Hp → Prop} {st : List PV}{ls : List (Option PV)}{a b : Int} : WP d mX1_play 19 ls (.inl b :: .inl a :: st) h Q = (if a < b then WP d mX1_play 22 ls st h Q else WP d mX1_play 113 ls st h Q) := R_icmp_ge dX1_play_19 (by decide)
theorem rX1_play_22 {d : Nat} {h : Hp} {Q : Option PV → Hp → Prop} {st : List PV}{t : List (Option PV)} {v : Nat} : WP d mX1_play 22 (some (.inr (.inr v)) :: t) st h Q = WP d mX1_play 23 (some (.inr (.inr v)) :: t) (.inr (.inr v) :: st) h Q := WP_step dX1_play_22 rfl rfl rfl
theorem rX1_play_23 {d : Nat} {h : Hp} {Q : Option PV → Hp → Prop} {st : List PV}{ls : List (Option PV)}{a : Nat} : WP d mX1_play 23 ls (.inr (.inr a) :: st) h Q = ((hK h a).1 = 1 ∧ WP d mX1_play 26 ls (.inr (.inr (hR h a 5)) :: st) h Q) := R_get2 dX1_play_23 rfl
theorem rX1_play_26 {d : Nat} {h : Hp} {Q : Option PV → Hp → Prop} {st : List PV}{x0 x1 : Option PV} {t : List (Option PV)} {v : Int} : WP d mX1_play 26 (x0 :: x1 :: some (.inl v) :: t) st h Q = WP d mX1_play 27 (x0 :: x1 :: some (.inl v) :: t) (.inl v :: st) h Q := WP_step dX1_play_26 rfl rfl rfl
theorem rX1_play_27 {d : Nat} {h : Hp} {Q : Option PV → Hp → Prop} {st : List PV}{ls : List (Option PV)}{a : Nat} {z : Int} : WP d mX1_play 27 ls (.inl z :: .inr (.inr a) :: st) h Q = ((hK h a).1 = 21 ∧ 0 ≤ z ∧ z < (hK h a).2 ∧ WP d mX1_play 28 ls (.inl (hI h a z.toNat) :: st) h Q) := R_iald dX1_play_27
theorem rX1_play_28 {d : Nat} {h : Hp} {Q : Option PV → Hp → Prop} {st : List PV}{ls : List (Option PV)} : WP d mX1_play 28 ls st h Q = WP d mX1_play 29 ls (.inl (1) :: st) h Q := WP_step dX1_play_28 rfl rfl rfl
theorem rX1_play_29 {d : Nat} {h : Hp} {Q : Option PV → Hp → Prop} {st : List PV}{ls : List (Option PV)}{a b : Int} : WP d mX1_play 29 ls (.inl b :: .inl a :: st) h Q = WP d mX1_play 30 ls (.inl (ishr a b) :: st) h Q := WP_step dX1_play_29 rfl rfl rfl
theorem rX1_play_30 {d : Nat} {h : Hp} {Q : Option PV → Hp → Prop} {st : List PV}{x0 x1 x2 x3 x4 x5 x6 : Option PV} {v : Int} : WP d mX1_play 30 [x0, x1, x2, x3, x4, x5, x6] (.inl v :: st) h Q = WP d mX1_play 31 [x0, x1, x2, some (.inl v), x4, x5, x6] st h Q := WP_step dX1_play_30 rfl rfl rfl
theorem rX1_play_31 {d : Nat} {h : Hp} {Q : Option PV → Hp → Prop} {st : List PV}{ls : List (Option PV)} : WP d mX1_play 31 ls st h Q = WP d mX1_play 32 ls (.inl (1) :: st) h Q := WP_step dX1_play_31 rfl rfl rfl
theorem rX1_play_32 {d : Nat} {h : Hp} {Q : Option PV → Hp → Prop} {st : List PV}{t : List (Option PV)} {v : Nat} : WP d mX1_play 32 (some (.inr (.inr v)) :: t) st h Q = WP d mX1_play 33 (some (.inr (.inr v)) :: t) (.inr (.inr v) :: st) h Q := WP_step dX1_play_32 rfl rfl rfl
theorem rX1_play_33 {d : Nat} {h : Hp} {Q : Option PV → Hp → Prop} {st : List PV}{ls : List (Option PV)}{a : Nat} : WP d mX1_play 33 ls (.inr (.inr a) :: st) h Q = ((hK h a).1 = 1 ∧ WP d mX1_play 36 ls (.inr (.inr (hR h a 5)) :: st) h Q) := R_get2 dX1_play_33 rfl
theorem rX1_play_36 {d : Nat} {h : Hp} {Q : Option PV → Hp → Prop} {st : List PV}{x0 x1 : Option PV} {t : List (Option PV)} {v : Int} : WP d mX1_play 36 (x0 :: x1 :: some (.inl v) :: t) st h Q = WP d mX1_play 37 (x0 :: x1 :: some (.inl v) :: t) (.inl v :: st) h Q := WP_step dX1_play_36 rfl rfl rfl
theorem rX1_play_37 {d : Nat} {h : Hp} {Q : Option PV → Hp → Prop} {st : List PV}{ls : List (Option PV)}{a : Nat} {z : Int} : WP d mX1_play 37 ls (.inl z :: .inr (.inr a) :: st) h Q = ((hK h a).1 = 21 ∧ 0 ≤ z ∧ z < (hK h a).2 ∧ WP d mX1_play 38 ls (.inl (hI h a z.toNat) :: st) h Q) := R_iald dX1_play_37
theorem rX1_play_38 {d : Nat} {h : Hp} {Q : Option PV → Hp → Prop} {st : List PV}{ls : List (Option PV)} : WP d mX1_play 38 ls st h Q = WP d mX1_play 39 ls (.inl (1) :: st) h Q := WP_step dX1_play_38 rfl rfl rfl
theorem rX1_play_39 {d : Nat} {h : Hp} {Q : Option PV → Hp → Prop} {st : List PV}{ls : List (Option PV)}{a b : Int} : WP d mX1_play 39 ls (.inl b :: .inl a :: st) h Q = WP d mX1_play 40 ls (.inl (iand a b) :: st) h Q := WP_step dX1_play_39 rfl rfl rfl
theorem rX1_play_40 {d : Nat} {h : Hp} {Q : Option PV → Hp → Prop} {st : List PV}{ls : List (Option PV)}{a b : Int} : WP d mX1_play 40 ls (.inl b :: .inl a :: st) h Q = WP d mX1_play 41 ls (.inl (w32 (a - b)) :: st) h Q := WP_step dX1_play_40 rfl rfl rfl
theorem rX1_play_41 {d : Nat} {h : Hp} {Q : Option PV → Hp → Prop} {st : List PV}{x0 x1 x2 x3 x4 x5 x6 : Option PV} {v : Int} : WP d mX1_play 41 [x0, x1, x2, x3, x4, x5, x6] (.inl v :: st) h Q = WP d mX1_play 43 [x0, x1, x2, x3, some (.inl v), x5, x6] st h Q := WP_step dX1_play_41 rfl rfl rfl
theorem rX1_play_43 {d : Nat} {h : Hp} {Q : Option PV → Hp → Prop} {st : List PV}{x0 x1 x2 x3 : Option PV} {t : List (Option PV)} {v : Int} : WP d mX1_play 43 (x0 :: x1 :: x2 :: x3 :: some (.inl v) :: t) st h Q = WP d mX1_play 45 (x0 :: x1 :: x2 :: x3 :: some (.inl v) :: t) (.inl v :: st) h Q := WP_step dX1_play_43 rfl rfl rfl
theorem rX1_play_45 {d : Nat} {h : Hp} {Q : Option PV → Hp → Prop} {st : List PV}{ls : List (Option PV)}{a : Int} : WP d mX1_play 45 ls (.inl a :: st) h Q = (if a = 0 then WP d mX1_play 48 ls st h Q else WP d mX1_play 55 ls st h Q) := R_if_ne dX1_play_45 (by decide)
theorem rX1_play_48 {d : Nat} {h : Hp} {Q : Option PV → Hp → Prop} {st : List PV}{t : List (Option PV)} {v : Nat} : WP d mX1_play 48 (some (.inr (.inr v)) :: t) st h Q = WP d mX1_play 49 (some (.inr (.inr v)) :: t) (.inr (.inr v) :: st) h Q := WP_step dX1_play_48 rfl rfl rfl
theorem rX1_play_49 {d : Nat} {h : Hp} {Q : Option PV → Hp → Prop} {st : List PV}{ls : List (Option PV)}{a : Nat} : WP d mX1_play 49 ls (.inr (.inr a) :: st) h Q = ((hK h a).1 = 1 ∧ WP d mX1_play 52 ls (.inl (hI h a 7) :: st) h Q) := R_get0 dX1_play_49 rfl
theorem rX1_play_52 {d : Nat} {h : Hp} {Q : Option PV → Hp → Prop} {st : List PV}{ls : List (Option PV)} : WP d mX1_play 52 ls st h Q = WP d mX1_play 59 ls st h Q := R_goto dX1_play_52 (by decide)
theorem rX1_play_55 {d : Nat} {h : Hp} {Q : Option PV → Hp → Prop} {st : List PV}{t : List (Option PV)} {v : Nat} : WP d mX1_play 55 (some (.inr (.inr v)) :: t) st h Q = WP d mX1_play 56 (some (.inr (.inr v)) :: t) (.inr (.inr v) :: st) h Q := WP_step dX1_play_55 rfl rfl rfl
theorem rX1_play_56 {d : Nat} {h : Hp} {Q : Option PV → Hp → Prop} {st : List PV}{ls : List (Option PV)}{a : Nat} : WP d mX1_play 56 ls (.inr (.inr a) :: st) h Q = ((hK h a).1 = 1 ∧ WP d mX1_play 59 ls (.inl (hI h a 8) :: st) h Q) := R_get0 dX1_play_56 rfl
theorem rX1_play_59 {d : Nat} {h : Hp} {Q : Option PV → Hp → Prop} {st : List PV}{x0 x1 x2 x3 x4 x5 x6 : Option PV} {v : Int} : WP d mX1_play 59 [x0, x1, x2, x3, x4, x5, x6] (.inl v :: st) h Q = WP d mX1_play 61 [x0, x1, x2, x3, x4, some (.inl v), x6] st h Q := WP_step dX1_play_59 rfl rfl rfl
theorem rX1_play_61 {d : Nat} {h : Hp} {Q : Option PV → Hp → Prop} {st : List PV}{t : List (Option PV)} {v : Nat} : WP d mX1_play 61 (some (.inr (.inr v)) :: t) st h Q = WP d mX1_play 62 (some (.inr (.inr v)) :: t) (.inr (.inr v) :: st) h Q := WP_step dX1_play_61 rfl rfl rfl
theorem rX1_play_62 {d : Nat} {h : Hp} {Q : Option PV → Hp → Prop} {st : List PV}{ls : List (Option PV)}{a : Nat} : WP d mX1_play 62 ls (.inr (.inr a) :: st) h Q = ((hK h a).1 = 1 ∧ WP d mX1_play 65 ls (.inr (.inr (hR h a 3)) :: st) h Q) := R_get2 dX1_play_62 rfl
theorem rX1_play_65 {d : Nat} {h : Hp} {Q : Option PV → Hp → Prop} {st : List PV}{t : List (Option PV)} {v : Nat} : WP d mX1_play 65 (some (.inr (.inr v)) :: t) st h Q = WP d mX1_play 66 (some (.inr (.inr v)) :: t) (.inr (.inr v) :: st) h Q := WP_step dX1_play_65 rfl rfl rfl
theorem rX1_play_66 {d : Nat} {h : Hp} {Q : Option PV → Hp → Prop} {st : List PV}{ls : List (Option PV)}{a : Nat} : WP d mX1_play 66 ls (.inr (.inr a) :: st) h Q = ((hK h a).1 = 1 ∧ WP d mX1_play 69 ls (.inr (.inr (hR h a 5)) :: st) h Q) := R_get2 dX1_play_66 rfl
theorem rX1_play_69 {d : Nat} {h : Hp} {Q : Option PV → Hp → Prop} {st : List PV}{x0 x1 : Option PV} {t : List (Option PV)} {v : Int} : WP d mX1_play 69 (x0 :: x1 :: some (.inl v) :: t) st h Q = WP d mX1_play 70 (x0 :: x1 :: some (.inl v) :: t) (.inl v :: st) h Q := WP_step dX1_play_69 rfl rfl rfl
theorem rX1_play_70 {d : Nat} {h : Hp} {Q : Option PV → Hp → Prop} {st : List PV}{ls : List (Option PV)}{a : Nat} {z : Int} : WP d mX1_play 70 ls (.inl z :: .inr (.inr a) :: st) h Q = ((hK h a).1 = 21 ∧ 0 ≤ z ∧ z < (hK h a).2 ∧ WP d mX1_play 71 ls (.inl (hI h a z.toNat) :: st) h Q) := R_iald dX1_play_70
theorem rX1_play_71 {d : Nat} {h : Hp} {Q : Option PV → Hp → Prop} {st : List PV}{ls : List (Option PV)}{a : Nat} {z : Int} : WP d mX1_play 71 ls (.inl z :: .inr (.inr a) :: st) h Q = ((hK h a).1 = 21 ∧ 0 ≤ z ∧ z < (hK h a).2 ∧ WP d mX1_play 72 ls (.inl (hI h a z.toNat) :: st) h Q) := R_iald dX1_play_71
theorem rX1_play_72 {d : Nat} {h : Hp} {Q : Option PV → Hp → Prop} {st : List PV}{ls : List (Option PV)} : WP d mX1_play 72 ls st h Q = WP d mX1_play 73 ls (.inl (1) :: st) h Q := WP_step dX1_play_72 rfl rfl rfl
theorem rX1_play_73 {d : Nat} {h : Hp} {Q : Option PV → Hp → Prop} {st : List PV}{ls : List (Option PV)}{a b : Int} : WP d mX1_play 73 ls (.inl b :: .inl a :: st) h Q = WP d mX1_play 74 ls (.inl (w32 (a + b)) :: st) h Q := WP_step dX1_play_73 rfl rfl rfl
theorem rX1_play_74 {d : Nat} {h : Hp} {Q : Option PV → Hp → Prop} {st : List PV}{x0 x1 x2 x3 x4 x5 x6 : Option PV} {v : Int} : WP d mX1_play 74 [x0, x1, x2, x3, x4, x5, x6] (.inl v :: st) h Q = WP d mX1_play 76 [x0, x1, x2, x3, x4, x5, some (.inl v)] st h Q := WP_step dX1_play_74 rfl rfl rfl
theorem rX1_play_76 {d : Nat} {h : Hp} {Q : Option PV → Hp → Prop} {st : List PV}{x0 x1 x2 x3 x4 : Option PV} {t : List (Option PV)} {v : Int} : WP d mX1_play 76 (x0 :: x1 :: x2 :: x3 :: x4 :: some (.inl v) :: t) st h Q = WP d mX1_play 78 (x0 :: x1 :: x2 :: x3 :: x4 :: some (.inl v) :: t) (.inl v :: st) h Q := WP_step dX1_play_76 rfl rfl rfl
theorem rX1_play_78 {d : Nat} {h : Hp} {Q : Option PV → Hp → Prop} {st : List PV}{ls : List (Option PV)}{a : Int} : WP d mX1_play 78 ls (.inl a :: st) h Q = (if a = 0 then WP d mX1_play 81 ls st h Q else WP d mX1_play 96 ls st h Q) := R_if_ne dX1_play_78 (by decide)
theorem rX1_play_81 {d : Nat} {h : Hp} {Q : Option PV → Hp → Prop} {st : List PV}{t : List (Option PV)} {v : Nat} : WP d mX1_play 81 (some (.inr (.inr v)) :: t) st h Q = WP d mX1_play 82 (some (.inr (.inr v)) :: t) (.inr (.inr v) :: st) h Q := WP_step dX1_play_81 rfl rfl rfl
theorem rX1_play_82 {d : Nat} {h : Hp} {Q : Option PV → Hp → Prop} {st : List PV}{ls : List (Option PV)} : WP d mX1_play 82 ls st h Q = WP d mX1_play 83 ls (.inl (2) :: st) h Q := WP_step dX1_play_82 rfl rfl rfl
theorem rX1_play_83 {d : Nat} {h : Hp} {Q : Option PV → Hp → Prop} {st : List PV}{x0 x1 x2 : Option PV} {t : List (Option PV)} {v : Int} : WP d mX1_play 83 (x0 :: x1 :: x2 :: some (.inl v) :: t) st h Q = WP d mX1_play 84 (x0 :: x1 :: x2 :: some (.inl v) :: t) (.inl v :: st) h Q := WP_step dX1_play_83 rfl rfl rfl
theorem rX1_play_84 {d : Nat} {h : Hp} {Q : Option PV → Hp → Prop} {st : List PV}{ls : List (Option PV)}{a b : Int} : WP d mX1_play 84 ls (.inl b :: .inl a :: st) h Q = WP d mX1_play 85 ls (.inl (w32 (a * b)) :: st) h Q := WP_step dX1_play_84 rfl rfl rfl
theorem rX1_play_85 {d : Nat} {h : Hp} {Q : Option PV → Hp → Prop} {st : List PV}{x0 x1 x2 x3 : Option PV} {t : List (Option PV)} {v : Int} : WP d mX1_play 85 (x0 :: x1 :: x2 :: x3 :: some (.inl v) :: t) st h Q = WP d mX1_play 87 (x0 :: x1 :: x2 :: x3 :: some (.inl v) :: t) (.inl v :: st) h Q := WP_step dX1_play_85 rfl rfl rfl
theorem rX1_play_87 {d : Nat} {h : Hp} {Q : Option PV → Hp → Prop} {st : List PV}{ls : List (Option PV)}{a b : Int} : WP d mX1_play 87 ls (.inl b :: .inl a :: st) h Q = WP d mX1_play 88 ls (.inl (w32 (a + b)) :: st) h Q := WP_step dX1_play_87 rfl rfl rfl
theorem rX1_play_88 {d : Nat} {h : Hp} {Q : Option PV → Hp → Prop} {st : List PV}{x0 x1 x2 x3 x4 x5 : Option PV} {t : List (Option PV)} {v : Int} : WP d mX1_play 88 (x0 :: x1 :: x2 :: x3 :: x4 :: x5 :: some (.inl v) :: t) st h Q = WP d mX1_play 90 (x0 :: x1 :: x2 :: x3 :: x4 :: x5 :: some (.inl v) :: t) (.inl v :: st) h Q := WP_step dX1_play_88 rfl rfl rfl
theorem rX1_play_90 {d : Nat} {h : Hp} {Q : Option PV → Hp → Prop} {ls : List (Option PV)}{v0 : Nat} {v1 : Int} {v2 : Int} : WP (d + 1) mX1_play 90 ls (.inl v2 :: .inl v1 :: .inr (.inr v0) :: []) h Q = ((hK h v0).1 = 1 ∧ WP d mX1_reachedFrom 0 [some (.inr (.inr v0)), some (.inl v1), some (.inl v2)] [] h (fun r h' => WP (d + 1) mX1_play 93 ls (psh r []) h' Q)) := R_callV (st := .inl v2 :: .inl v1 :: .inr (.inr v0) :: []) (M := mX1_play) (pc := 90) (kd := 0) (n := 3) (M' := mX1_reachedFrom) (as := [.inl v2, .inl v1, .inr (.inr v0)]) (rest := []) (en := [some (.inr (.inr v0)), some (.inl v1), some (.inl v2)]) dX1_play_90 rfl (Nat.le_of_ble_eq_true rfl) (Nat.le_of_ble_eq_true rfl) rfl rfl (Nat.le_of_ble_eq_true rfl) rfl rfl rfl
theorem rX1_play_93 {d : Nat} {h : Hp} {Q : Option PV → Hp → Prop} {st : List PV}{ls : List (Option PV)} : WP d mX1_play 93 ls st h Q = WP d mX1_play 107 ls st h Q := R_goto dX1_play_93 (by decide)
theorem rX1_play_96 {d : Nat} {h : Hp} {Q : Option PV → Hp → Prop} {st : List PV}{t : List (Option PV)} {v : Nat} : WP d mX1_play 96 (some (.inr (.inr v)) :: t) st h Q = WP d mX1_play 97 (some (.inr (.inr v)) :: t) (.inr (.inr v) :: st) h Q := WP_step dX1_play_96 rfl rfl rfl
theorem rX1_play_97 {d : Nat} {h : Hp} {Q : Option PV → Hp → Prop} {st : List PV}{x0 x1 x2 : Option PV} {t : List (Option PV)} {v : Int} : WP d mX1_play 97 (x0 :: x1 :: x2 :: some (.inl v) :: t) st h Q = WP d mX1_play 98 (x0 :: x1 :: x2 :: some (.inl v) :: t) (.inl v :: st) h Q := WP_step dX1_play_97 rfl rfl rfl
theorem rX1_play_98 {d : Nat} {h : Hp} {Q : Option PV → Hp → Prop} {st : List PV}{x0 x1 x2 x3 x4 : Option PV} {t : List (Option PV)} {v : Int} : WP d mX1_play 98 (x0 :: x1 :: x2 :: x3 :: x4 :: some (.inl v) :: t) st h Q = WP d mX1_play 100 (x0 :: x1 :: x2 :: x3 :: x4 :: some (.inl v) :: t) (.inl v :: st) h Q := WP_step dX1_play_98 rfl rfl rfl
theorem rX1_play_100 {d : Nat} {h : Hp} {Q : Option PV → Hp → Prop} {st : List PV}{x0 x1 x2 x3 : Option PV} {t : List (Option PV)} {v : Int} : WP d mX1_play 100 (x0 :: x1 :: x2 :: x3 :: some (.inl v) :: t) st h Q = WP d mX1_play 102 (x0 :: x1 :: x2 :: x3 :: some (.inl v) :: t) (.inl v :: st) h Q := WP_step dX1_play_100 rfl rfl rfl
theorem rX1_play_102 {d : Nat} {h : Hp} {Q : Option PV → Hp → Prop} {st : List PV}{x0 x1 x2 x3 x4 x5 : Option PV} {t : List (Option PV)} {v : Int} : WP d mX1_play 102 (x0 :: x1 :: x2 :: x3 :: x4 :: x5 :: some (.inl v) :: t) st h Q = WP d mX1_play 104 (x0 :: x1 :: x2 :: x3 :: x4 :: x5 :: some (.inl v) :: t) (.inl v :: st) h Q := WP_step dX1_play_102 rfl rfl rfl
theorem rX1_play_104 {d : Nat} {h : Hp} {Q : Option PV → Hp → Prop} {ls : List (Option PV)}{v0 : Nat} {v1 : Int} {v2 : Int} {v3 : Int} {v4 : Int} : WP (d + 1) mX1_play 104 ls (.inl v4 :: .inl v3 :: .inl v2 :: .inl v1 :: .inr (.inr v0) :: []) h Q = ((hK h v0).1 = 1 ∧ WP d mX1_reachedBy 0 [some (.inr (.inr v0)), some (.inl v1), some (.inl v2), some (.inl v3), some (.inl v4), none, none] [] h (fun r h' => WP (d + 1) mX1_play 107 ls (psh r []) h' Q)) := R_callV (st := .inl v4 :: .inl v3 :: .inl v2 :: .inl v1 :: .inr (.inr v0) :: []) (M := mX1_play) (pc := 104) (kd := 0) (n := 5) (M' := mX1_reachedBy) (as := [.inl v4, .inl v3, .inl v2, .inl v1, .inr (.inr v0)]) (rest := []) (en := [some (.inr (.inr v0)), some (.inl v1), some (.inl v2), some (.inl v3), some (.inl v4), none, none]) dX1_play_104 rfl (Nat.le_of_ble_eq_true rfl) (Nat.le_of_ble_eq_true rfl) rfl rfl (Nat.le_of_ble_eq_true rfl) rfl rfl rfl
theorem rX1_play_107 {d : Nat} {h : Hp} {Q : Option PV → Hp → Prop} {st : List PV}{x0 x1 : Option PV} {t : List (Option PV)} {v : Int} : WP d mX1_play 107 (x0 :: x1 :: some (.inl v) :: t) st h Q = WP d mX1_play 110 (x0 :: x1 :: some (.inl (w32 (v + 1))) :: t) st h Q := WP_step dX1_play_107 rfl rfl rfl
theorem rX1_play_110 {d : Nat} {h : Hp} {Q : Option PV → Hp → Prop} {st : List PV}{ls : List (Option PV)} : WP d mX1_play 110 ls st h Q = WP d mX1_play 7 ls st h Q := R_goto dX1_play_110 (by decide)
theorem rX1_play_113 {d : Nat} {h : Hp} {Q : Option PV → Hp → Prop} {st : List PV}{t : List (Option PV)} {v : Nat} : WP d mX1_play 113 (some (.inr (.inr v)) :: t) st h Q = WP d mX1_play 114 (some (.inr (.inr v)) :: t) (.inr (.inr v) :: st) h Q := WP_step dX1_play_113 rfl rfl rfl
theorem rX1_play_114 {d : Nat} {h : Hp} {Q : Option PV → Hp → Prop} {st : List PV}{ls : List (Option PV)}{a : Nat} : WP d mX1_play 114 ls (.inr (.inr a) :: st) h Q = ((hK h a).1 = 1 ∧ WP d mX1_play 117 ls (.inr (.inr (hR h a 3)) :: st) h Q) := R_get2 dX1_play_114 rfl
theorem rX1_play_117 {d : Nat} {h : Hp} {Q : Option PV → Hp → Prop} {st : List PV}{ls : List (Option PV)} : WP d mX1_play 117 ls st h Q = WP d mX1_play 118 ls (.inl (0) :: st) h Q := WP_step dX1_play_117 rfl rfl rfl
theorem rX1_play_118 {d : Nat} {h : Hp} {Q : Option PV → Hp → Prop} {st : List PV}{ls : List (Option PV)}{a : Nat} {z : Int} : WP d mX1_play 118 ls (.inl z :: .inr (.inr a) :: st) h Q = ((hK h a).1 = 21 ∧ 0 ≤ z ∧ z < (hK h a).2 ∧ WP d mX1_play 119 ls (.inl (hI h a z.toNat) :: st) h Q) := R_iald dX1_play_118
theorem rX1_play_119 {d : Nat} {h : Hp} {Q : Option PV → Hp → Prop} {ls : List (Option PV)}{z : Int} : WP d mX1_play 119 ls [.inl z] h Q = Q (some (.inl z)) h := R_iret dX1_play_119 rfl
theorem dX1_setOut_0 : decode prog_3_method_4_code 0 = .ok (.iconst 1, 1) := by decide +kernel
theorem dX1_setOut_1 : decode prog_3_method_4_code 1 = .ok (.aload_n 0, 1) := by decide +kernel
theorem dX1_setOut_2 : decode prog_3_method_4_code 2 = .ok (.getfield 35, 3) := by decide +kernel
theorem dX1_setOut_5 : decode prog_3_method_4_code 5 = .ok (.invokestatic 75, 3) := by decide +kernel
theorem dX1_setOut_8 : decode prog_3_method_4_code 8 = .ok (.invokestatic 81, 3) := by decide +kernel
theorem dX1_setOut_11 : decode prog_3_method_4_code 11 = .ok (.istore_n 2, 1) := by decide +kernel
theorem dX1_setOut_12 : decode prog_3_method_4_code 12 = .ok (.aload_n 0, 1) := by decide +kernel
theorem dX1_setOut_13 : decode prog_3_method_4_code 13 = .ok (.iconst 0, 1) := by decide +kernel
theorem dX1_setOut_14 : decode prog_3_method_4_code 14 = .ok (.putfield 64, 3) := by decide +kernel
theorem dX1_setOut_17 : decode prog_3_method_4_code 17 = .ok (.iconst 0, 1) := by decide +kernel
theorem dX1_setOut_18 : decode prog_3_method_4_code 18 = .ok (.istore_n 3, 1) := by decide +kernel
theorem dX1_setOut_19 : decode prog_3_method_4_code 19 = .ok (.iload_n 3, 1) := by decide +kernel
theorem dX1_setOut_20 : decode prog_3_method_4_code 20 = .ok (.iconst 2, 1) := by decide +kernel
theorem dX1_setOut_21 : decode prog_3_method_4_code 21 = .ok (.aload_n 0, 1) := by decide +kernel
theorem dX1_setOut_22 : decode prog_3_method_4_code 22 = .ok (.getfield 27, 3) := by decide +kernel
theorem dX1_setOut_25 : decode prog_3_method_4_code 25 = .ok (.getfield 38, 3) := by decide +kernel
theorem dX1_setOut_28 : decode prog_3_method_4_code 28 = .ok (.imul, 1) := by decide +kernel
theorem dX1_setOut_29 : decode prog_3_method_4_code 29 = .ok (.if_icmp .ge 63, 3) := by decide +kernel
theorem dX1_setOut_32 : decode prog_3_method_4_code 32 = .ok (.aload_n 0, 1) := by decide +kernel
theorem dX1_setOut_33 : decode prog_3_method_4_code 33 = .ok (.getfield 18, 3) := by decide +kernel
theorem dX1_setOut_36 : decode prog_3_method_4_code 36 = .ok (.iload_n 3, 1) := by decide +kernel
theorem dX1_setOut_37 : decode prog_3_method_4_code 37 = .ok (.iconst (-1), 1) := by decide +kernel
theorem dX1_setOut_38 : decode prog_3_method_4_code 38 = .ok (.iastore, 1) := by decide +kernel
theorem dX1_setOut_39 : decode prog_3_method_4_code 39 = .ok (.aload_n 0, 1) := by decide +kernel
theorem dX1_setOut_40 : decode prog_3_method_4_code 40 = .ok (.getfield 21, 3) := by decide +kernel
theorem dX1_setOut_43 : decode prog_3_method_4_code 43 = .ok (.iload_n 3, 1) := by decide +kernel
theorem dX1_setOut_44 : decode prog_3_method_4_code 44 = .ok (.iload_n 3, 1) := by decide +kernel
theorem dX1_setOut_45 : decode prog_3_method_4_code 45 = .ok (.iconst 1, 1) := by decide +kernel
theorem dX1_setOut_46 : decode prog_3_method_4_code 46 = .ok (.iand, 1) := by decide +kernel
theorem dX1_setOut_47 : decode prog_3_method_4_code 47 = .ok (.ifCond .ne 7, 3) := by decide +kernel
theorem dX1_setOut_50 : decode prog_3_method_4_code 50 = .ok (.iconst 1, 1) := by decide +kernel
theorem dX1_setOut_51 : decode prog_3_method_4_code 51 = .ok (.goto 4, 3) := by decide +kernel
theorem dX1_setOut_54 : decode prog_3_method_4_code 54 = .ok (.iload_n 2, 1) := by decide +kernel
theorem dX1_setOut_55 : decode prog_3_method_4_code 55 = .ok (.iastore, 1) := by decide +kernel
theorem dX1_setOut_56 : decode prog_3_method_4_code 56 = .ok (.aload_n 0, 1) := by decide +kernel
theorem dX1_setOut_57 : decode prog_3_method_4_code 57 = .ok (.getfield 27, 3) := by decide +kernel
theorem dX1_setOut_60 : decode prog_3_method_4_code 60 = .ok (.iload_n 3, 1) := by decide +kernel
theorem dX1_setOut_61 : decode prog_3_method_4_code 61 = .ok (.iconst 1, 1) := by decide +kernel
theorem dX1_setOut_62 : decode prog_3_method_4_code 62 = .ok (.ishr, 1) := by decide +kernel
theorem dX1_setOut_63 : decode prog_3_method_4_code 63 = .ok (.invokevirtual 86, 3) := by decide +kernel
theorem dX1_setOut_66 : decode prog_3_method_4_code 66 = .ok (.iload_n 1, 1) := by decide +kernel
theorem dX1_setOut_67 : decode prog_3_method_4_code 67 = .ok (.invokestatic 52, 3) := by decide +kernel
theorem dX1_setOut_70 : decode prog_3_method_4_code 70 = .ok (.ifCond .eq 16, 3) := by decide +kernel
theorem dX1_setOut_73 : decode prog_3_method_4_code 73 = .ok (.aload_n 0, 1) := by decide +kernel
theorem dX1_setOut_74 : decode prog_3_method_4_code 74 = .ok (.getfield 21, 3) := by decide +kernel
theorem dX1_setOut_77 : decode prog_3_method_4_code 77 = .ok (.iload_n 3, 1) := by decide +kernel
theorem dX1_setOut_78 : decode prog_3_method_4_code 78 = .ok (.iconst 1, 1) := by decide +kernel
theorem dX1_setOut_79 : decode prog_3_method_4_code 79 = .ok (.iastore, 1) := by decide +kernel
theorem dX1_setOut_80 : decode prog_3_method_4_code 80 = .ok (.aload_n 0, 1) := by decide +kernel
theorem dX1_setOut_81 : decode prog_3_method_4_code 81 = .ok (.iload_n 3, 1) := by decide +kernel
theorem dX1_setOut_82 : decode prog_3_method_4_code 82 = .ok (.iconst 0, 1) := by decide +kernel
theorem dX1_setOut_83 : decode prog_3_method_4_code 83 = .ok (.invokevirtual 67, 3) := by decide +kernel
theorem dX1_setOut_86 : decode prog_3_method_4_code 86 = .ok (.iinc 3 1, 3) := by decide +kernel
theorem dX1_setOut_89 : decode prog_3_method_4_code 89 = .ok (.goto (-70), 3) := by decide +kernel
theorem dX1_setOut_92 : decode prog_3_method_4_code 92 = .ok (.return_, 1) := by decide +kernel
theorem rX1_setOut_0 {d : Nat} {h : Hp} {Q : Option PV → Hp → Prop} {st : List PV}{ls : List (Option PV)} : WP d mX1_setOut 0 ls st h Q = WP d mX1_setOut 1 ls (.inl (1) :: st) h Q := WP_step dX1_setOut_0 rfl rfl rfl
theorem rX1_setOut_1 {d : Nat} {h : Hp} {Q : Option PV → Hp → Prop} {st : List PV}{t : List (Option PV)} {v : Nat} : WP d mX1_setOut 1 (some (.inr (.inr v)) :: t) st h Q = WP d mX1_setOut 2 (some (.inr (.inr v)) :: t) (.inr (.inr v) :: st) h Q := WP_step dX1_setOut_1 rfl rfl rfl
theorem rX1_setOut_2 {d : Nat} {h : Hp} {Q : Option PV → Hp → Prop} {st : List PV}{ls : List (Option PV)}{a : Nat} : WP d mX1_setOut 2 ls (.inr (.inr a) :: st) h Q = ((hK h a).1 = 1 ∧ WP d mX1_setOut 5 ls (.inl (hI h a 8) :: st) h Q) := R_get0 dX1_setOut_2 rfl
theorem rX1_setOut_5 {d : Nat} {h : Hp} {Q : Option PV → Hp → Prop} {ls : List (Option PV)}{r0 : PV}{v0 : Int} : WP (d + 1) mX1_setOut 5 ls (.inl v0 :: [r0]) h Q = WP d mJ6_bitCount_0f7a4 0 [some (.inl v0)] [] h (fun r h' => WP (d + 1) mX1_setOut 8 ls (psh r [r0]) h' Q) := R_callS (st := .inl v0 :: [r0]) (M := mX1_setOut) (pc := 5) (kd := 4) (n := 1) (M' := mJ6_bitCount_0f7a4) (as := [.inl v0]) (rest := [r0]) (en := [some (.inl v0)]) dX1_setOut_5 rfl (Or.inl rfl) (Nat.le_of_ble_eq_true rfl) rfl (Nat.le_of_ble_eq_true rfl) rfl rfl rfl
theorem rX1_setOut_8 {d : Nat} {h : Hp} {Q : Option PV → Hp → Prop} {ls : List (Option PV)}{v0 : Int} {v1 : Int} : WP (d + 1) mX1_setOut 8 ls (.inl v1 :: .inl v0 :: []) h Q = WP d mJ9_max_7cf53 0 [some (.inl v0), some (.inl v1)] [] h (fun r h' => WP (d + 1) mX1_setOut 11 ls (psh r []) h' Q) := R_callS (st := .inl v1 :: .inl v0 :: []) (M := mX1_setOut) (pc := 8) (kd := 4) (n := 2) (M' := mJ9_max_7cf53) (as := [.inl v1, .inl v0]) (rest := []) (en := [some (.inl v0), some (.inl v1)]) dX1_setOut_8 rfl (Or.inl rfl) (Nat.le_of_ble_eq_true rfl) rfl (Nat.le_of_ble_eq_true rfl) rfl rfl rfl
theorem rX1_setOut_11 {d : Nat} {h : Hp} {Q : Option PV → Hp → Prop} {st : List PV}{x0 x1 x2 x3 : Option PV} {v : Int} : WP d mX1_setOut 11 [x0, x1, x2, x3] (.inl v :: st) h Q = WP d mX1_setOut 12 [x0, x1, some (.inl v), x3] st h Q := WP_step dX1_setOut_11 rfl rfl rfl
theorem rX1_setOut_12 {d : Nat} {h : Hp} {Q : Option PV → Hp → Prop} {st : List PV}{t : List (Option PV)} {v : Nat} : WP d mX1_setOut 12 (some (.inr (.inr v)) :: t) st h Q = WP d mX1_setOut 13 (some (.inr (.inr v)) :: t) (.inr (.inr v) :: st) h Q := WP_step dX1_setOut_12 rfl rfl rfl
theorem rX1_setOut_13 {d : Nat} {h : Hp} {Q : Option PV → Hp → Prop} {st : List PV}{ls : List (Option PV)} : WP d mX1_setOut 13 ls st h Q = WP d mX1_setOut 14 ls (.inl (0) :: st) h Q := WP_step dX1_setOut_13 rfl rfl rfl
theorem rX1_setOut_14 {d : Nat} {h : Hp} {Q : Option PV → Hp → Prop} {st : List PV}{ls : List (Option PV)}{a : Nat} {v : Int} : WP d mX1_setOut 14 ls (.inl v :: .inr (.inr a) :: st) h Q = ((hK h a).1 = 1 ∧ 200 ≤ a ∧ WP d mX1_setOut 17 ls st (wI h a 6 v) Q) := R_put0 dX1_setOut_14 rfl
theorem rX1_setOut_17 {d : Nat} {h : Hp} {Q : Option PV → Hp → Prop} {st : List PV}{ls : List (Option PV)} : WP d mX1_setOut 17 ls st h Q = WP d mX1_setOut 18 ls (.inl (0) :: st) h Q := WP_step dX1_setOut_17 rfl rfl rfl
theorem rX1_setOut_18 {d : Nat} {h : Hp} {Q : Option PV → Hp → Prop} {st : List PV}{x0 x1 x2 x3 : Option PV} {v : Int} : WP d mX1_setOut 18 [x0, x1, x2, x3] (.inl v :: st) h Q = WP d mX1_setOut 19 [x0, x1, x2, some (.inl v)] st h Q := WP_step dX1_setOut_18 rfl rfl rfl
theorem rX1_setOut_19 {d : Nat} {h : Hp} {Q : Option PV → Hp → Prop} {st : List PV}{x0 x1 x2 : Option PV} {t : List (Option PV)} {v : Int} : WP d mX1_setOut 19 (x0 :: x1 :: x2 :: some (.inl v) :: t) st h Q = WP d mX1_setOut 20 (x0 :: x1 :: x2 :: some (.inl v) :: t) (.inl v :: st) h Q := WP_step dX1_setOut_19 rfl rfl rfl
theorem rX1_setOut_20 {d : Nat} {h : Hp} {Q : Option PV → Hp → Prop} {st : List PV}{ls : List (Option PV)} : WP d mX1_setOut 20 ls st h Q = WP d mX1_setOut 21 ls (.inl (2) :: st) h Q := WP_step dX1_setOut_20 rfl rfl rfl
theorem rX1_setOut_21 {d : Nat} {h : Hp} {Q : Option PV → Hp → Prop} {st : List PV}{t : List (Option PV)} {v : Nat} : WP d mX1_setOut 21 (some (.inr (.inr v)) :: t) st h Q = WP d mX1_setOut 22 (some (.inr (.inr v)) :: t) (.inr (.inr v) :: st) h Q := WP_step dX1_setOut_21 rfl rfl rfl
theorem rX1_setOut_22 {d : Nat} {h : Hp} {Q : Option PV → Hp → Prop} {st : List PV}{ls : List (Option PV)}{a : Nat} : WP d mX1_setOut 22 ls (.inr (.inr a) :: st) h Q = ((hK h a).1 = 1 ∧ WP d mX1_setOut 25 ls (.inr (.inr (hR h a 0)) :: st) h Q) := R_get2 dX1_setOut_22 rfl
theorem rX1_setOut_25 {d : Nat} {h : Hp} {Q : Option PV → Hp → Prop} {st : List PV}{ls : List (Option PV)}{a : Nat} : WP d mX1_setOut 25 ls (.inr (.inr a) :: st) h Q = ((hK h a).1 = 7 ∧ WP d mX1_setOut 28 ls (.inl (hI h a 12) :: st) h Q) := R_get0 dX1_setOut_25 rfl
theorem rX1_setOut_28 {d : Nat} {h : Hp} {Q : Option PV → Hp → Prop} {st : List PV}{ls : List (Option PV)}{a b : Int} : WP d mX1_setOut 28 ls (.inl b :: .inl a :: st) h Q = WP d mX1_setOut 29 ls (.inl (w32 (a * b)) :: st) h Q := WP_step dX1_setOut_28 rfl rfl rfl
theorem rX1_setOut_29 {d : Nat} {h : Hp} {Q : Option PV → Hp → Prop} {st : List PV}{ls : List (Option PV)}{a b : Int} : WP d mX1_setOut 29 ls (.inl b :: .inl a :: st) h Q = (if a < b then WP d mX1_setOut 32 ls st h Q else WP d mX1_setOut 92 ls st h Q) := R_icmp_ge dX1_setOut_29 (by decide)
theorem rX1_setOut_32 {d : Nat} {h : Hp} {Q : Option PV → Hp → Prop} {st : List PV}{t : List (Option PV)} {v : Nat} : WP d mX1_setOut 32 (some (.inr (.inr v)) :: t) st h Q = WP d mX1_setOut 33 (some (.inr (.inr v)) :: t) (.inr (.inr v) :: st) h Q := WP_step dX1_setOut_32 rfl rfl rfl
theorem rX1_setOut_33 {d : Nat} {h : Hp} {Q : Option PV → Hp → Prop} {st : List PV}{ls : List (Option PV)}{a : Nat} : WP d mX1_setOut 33 ls (.inr (.inr a) :: st) h Q = ((hK h a).1 = 1 ∧ WP d mX1_setOut 36 ls (.inr (.inr (hR h a 3)) :: st) h Q) := R_get2 dX1_setOut_33 rfl
theorem rX1_setOut_36 {d : Nat} {h : Hp} {Q : Option PV → Hp → Prop} {st : List PV}{x0 x1 x2 : Option PV} {t : List (Option PV)} {v : Int} : WP d mX1_setOut 36 (x0 :: x1 :: x2 :: some (.inl v) :: t) st h Q = WP d mX1_setOut 37 (x0 :: x1 :: x2 :: some (.inl v) :: t) (.inl v :: st) h Q := WP_step dX1_setOut_36 rfl rfl rfl
theorem rX1_setOut_37 {d : Nat} {h : Hp} {Q : Option PV → Hp → Prop} {st : List PV}{ls : List (Option PV)} : WP d mX1_setOut 37 ls st h Q = WP d mX1_setOut 38 ls (.inl (-1) :: st) h Q := WP_step dX1_setOut_37 rfl rfl rfl
theorem rX1_setOut_38 {d : Nat} {h : Hp} {Q : Option PV → Hp → Prop} {st : List PV}{ls : List (Option PV)}{a : Nat} {z v : Int} : WP d mX1_setOut 38 ls (.inl v :: .inl z :: .inr (.inr a) :: st) h Q = (200 ≤ a ∧ (hK h a).1 = 21 ∧ 0 ≤ z ∧ z < (hK h a).2 ∧ WP d mX1_setOut 39 ls st (wI h a z.toNat v) Q) := R_iast dX1_setOut_38
theorem rX1_setOut_39 {d : Nat} {h : Hp} {Q : Option PV → Hp → Prop} {st : List PV}{t : List (Option PV)} {v : Nat} : WP d mX1_setOut 39 (some (.inr (.inr v)) :: t) st h Q = WP d mX1_setOut 40 (some (.inr (.inr v)) :: t) (.inr (.inr v) :: st) h Q := WP_step dX1_setOut_39 rfl rfl rfl
theorem rX1_setOut_40 {d : Nat} {h : Hp} {Q : Option PV → Hp → Prop} {st : List PV}{ls : List (Option PV)}{a : Nat} : WP d mX1_setOut 40 ls (.inr (.inr a) :: st) h Q = ((hK h a).1 = 1 ∧ WP d mX1_setOut 43 ls (.inr (.inr (hR h a 4)) :: st) h Q) := R_get2 dX1_setOut_40 rfl
theorem rX1_setOut_43 {d : Nat} {h : Hp} {Q : Option PV → Hp → Prop} {st : List PV}{x0 x1 x2 : Option PV} {t : List (Option PV)} {v : Int} : WP d mX1_setOut 43 (x0 :: x1 :: x2 :: some (.inl v) :: t) st h Q = WP d mX1_setOut 44 (x0 :: x1 :: x2 :: some (.inl v) :: t) (.inl v :: st) h Q := WP_step dX1_setOut_43 rfl rfl rfl
theorem rX1_setOut_44 {d : Nat} {h : Hp} {Q : Option PV → Hp → Prop} {st : List PV}{x0 x1 x2 : Option PV} {t : List (Option PV)} {v : Int} : WP d mX1_setOut 44 (x0 :: x1 :: x2 :: some (.inl v) :: t) st h Q = WP d mX1_setOut 45 (x0 :: x1 :: x2 :: some (.inl v) :: t) (.inl v :: st) h Q := WP_step dX1_setOut_44 rfl rfl rfl
theorem rX1_setOut_45 {d : Nat} {h : Hp} {Q : Option PV → Hp → Prop} {st : List PV}{ls : List (Option PV)} : WP d mX1_setOut 45 ls st h Q = WP d mX1_setOut 46 ls (.inl (1) :: st) h Q := WP_step dX1_setOut_45 rfl rfl rfl
theorem rX1_setOut_46 {d : Nat} {h : Hp} {Q : Option PV → Hp → Prop} {st : List PV}{ls : List (Option PV)}{a b : Int} : WP d mX1_setOut 46 ls (.inl b :: .inl a :: st) h Q = WP d mX1_setOut 47 ls (.inl (iand a b) :: st) h Q := WP_step dX1_setOut_46 rfl rfl rfl
theorem rX1_setOut_47 {d : Nat} {h : Hp} {Q : Option PV → Hp → Prop} {st : List PV}{ls : List (Option PV)}{a : Int} : WP d mX1_setOut 47 ls (.inl a :: st) h Q = (if a = 0 then WP d mX1_setOut 50 ls st h Q else WP d mX1_setOut 54 ls st h Q) := R_if_ne dX1_setOut_47 (by decide)
theorem rX1_setOut_50 {d : Nat} {h : Hp} {Q : Option PV → Hp → Prop} {st : List PV}{ls : List (Option PV)} : WP d mX1_setOut 50 ls st h Q = WP d mX1_setOut 51 ls (.inl (1) :: st) h Q := WP_step dX1_setOut_50 rfl rfl rfl
theorem rX1_setOut_51 {d : Nat} {h : Hp} {Q : Option PV → Hp → Prop} {st : List PV}{ls : List (Option PV)} : WP d mX1_setOut 51 ls st h Q = WP d mX1_setOut 55 ls st h Q := R_goto dX1_setOut_51 (by decide)
theorem rX1_setOut_54 {d : Nat} {h : Hp} {Q : Option PV → Hp → Prop} {st : List PV}{x0 x1 : Option PV} {t : List (Option PV)} {v : Int} : WP d mX1_setOut 54 (x0 :: x1 :: some (.inl v) :: t) st h Q = WP d mX1_setOut 55 (x0 :: x1 :: some (.inl v) :: t) (.inl v :: st) h Q := WP_step dX1_setOut_54 rfl rfl rfl
theorem rX1_setOut_55 {d : Nat} {h : Hp} {Q : Option PV → Hp → Prop} {st : List PV}{ls : List (Option PV)}{a : Nat} {z v : Int} : WP d mX1_setOut 55 ls (.inl v :: .inl z :: .inr (.inr a) :: st) h Q = (200 ≤ a ∧ (hK h a).1 = 21 ∧ 0 ≤ z ∧ z < (hK h a).2 ∧ WP d mX1_setOut 56 ls st (wI h a z.toNat v) Q) := R_iast dX1_setOut_55
theorem rX1_setOut_56 {d : Nat} {h : Hp} {Q : Option PV → Hp → Prop} {st : List PV}{t : List (Option PV)} {v : Nat} : WP d mX1_setOut 56 (some (.inr (.inr v)) :: t) st h Q = WP d mX1_setOut 57 (some (.inr (.inr v)) :: t) (.inr (.inr v) :: st) h Q := WP_step dX1_setOut_56 rfl rfl rfl
theorem rX1_setOut_57 {d : Nat} {h : Hp} {Q : Option PV → Hp → Prop} {st : List PV}{ls : List (Option PV)}{a : Nat} : WP d mX1_setOut 57 ls (.inr (.inr a) :: st) h Q = ((hK h a).1 = 1 ∧ WP d mX1_setOut 60 ls (.inr (.inr (hR h a 0)) :: st) h Q) := R_get2 dX1_setOut_57 rfl
theorem rX1_setOut_60 {d : Nat} {h : Hp} {Q : Option PV → Hp → Prop} {st : List PV}{x0 x1 x2 : Option PV} {t : List (Option PV)} {v : Int} : WP d mX1_setOut 60 (x0 :: x1 :: x2 :: some (.inl v) :: t) st h Q = WP d mX1_setOut 61 (x0 :: x1 :: x2 :: some (.inl v) :: t) (.inl v :: st) h Q := WP_step dX1_setOut_60 rfl rfl rfl
theorem rX1_setOut_61 {d : Nat} {h : Hp} {Q : Option PV → Hp → Prop} {st : List PV}{ls : List (Option PV)} : WP d mX1_setOut 61 ls st h Q = WP d mX1_setOut 62 ls (.inl (1) :: st) h Q := WP_step dX1_setOut_61 rfl rfl rfl
theorem rX1_setOut_62 {d : Nat} {h : Hp} {Q : Option PV → Hp → Prop} {st : List PV}{ls : List (Option PV)}{a b : Int} : WP d mX1_setOut 62 ls (.inl b :: .inl a :: st) h Q = WP d mX1_setOut 63 ls (.inl (ishr a b) :: st) h Q := WP_step dX1_setOut_62 rfl rfl rfl
theorem rX1_setOut_63 {d : Nat} {h : Hp} {Q : Option PV → Hp → Prop} {ls : List (Option PV)}{v0 : Nat} {v1 : Int} : WP (d + 1) mX1_setOut 63 ls (.inl v1 :: .inr (.inr v0) :: []) h Q = ((hK h v0).1 = 7 ∧ WP d mX7_thingsAt 0 [some (.inr (.inr v0)), some (.inl v1)] [] h (fun r h' => WP (d + 1) mX1_setOut 66 ls (psh r []) h' Q)) := R_callV (st := .inl v1 :: .inr (.inr v0) :: []) (M := mX1_setOut) (pc := 63) (kd := 0) (n := 2) (M' := mX7_thingsAt) (as := [.inl v1, .inr (.inr v0)]) (rest := []) (en := [some (.inr (.inr v0)), some (.inl v1)]) dX1_setOut_63 rfl (Nat.le_of_ble_eq_true rfl) (Nat.le_of_ble_eq_true rfl) rfl rfl (Nat.le_of_ble_eq_true rfl) rfl rfl rfl
theorem rX1_setOut_66 {d : Nat} {h : Hp} {Q : Option PV → Hp → Prop} {st : List PV}{x0 : Option PV} {t : List (Option PV)} {v : Int} : WP d mX1_setOut 66 (x0 :: some (.inl v) :: t) st h Q = WP d mX1_setOut 67 (x0 :: some (.inl v) :: t) (.inl v :: st) h Q := WP_step dX1_setOut_66 rfl rfl rfl
theorem rX1_setOut_67 {d : Nat} {h : Hp} {Q : Option PV → Hp → Prop} {ls : List (Option PV)}{v0 : Int} {v1 : Int} : WP (d + 1) mX1_setOut 67 ls (.inl v1 :: .inl v0 :: []) h Q = WP d mX11_has 0 [some (.inl v0), some (.inl v1)] [] h (fun r h' => WP (d + 1) mX1_setOut 70 ls (psh r []) h' Q) := R_callS (st := .inl v1 :: .inl v0 :: []) (M := mX1_setOut) (pc := 67) (kd := 5) (n := 2) (M' := mX11_has) (as := [.inl v1, .inl v0]) (rest := []) (en := [some (.inl v0), some (.inl v1)]) dX1_setOut_67 rfl (Or.inr rfl) (Nat.le_of_ble_eq_true rfl) rfl (Nat.le_of_ble_eq_true rfl) rfl rfl rfl
theorem rX1_setOut_70 {d : Nat} {h : Hp} {Q : Option PV → Hp → Prop} {st : List PV}{ls : List (Option PV)}{a : Int} : WP d mX1_setOut 70 ls (.inl a :: st) h Q = (if a = 0 then WP d mX1_setOut 86 ls st h Q else WP d mX1_setOut 73 ls st h Q) := R_if_eq dX1_setOut_70 (by decide)
theorem rX1_setOut_73 {d : Nat} {h : Hp} {Q : Option PV → Hp → Prop} {st : List PV}{t : List (Option PV)} {v : Nat} : WP d mX1_setOut 73 (some (.inr (.inr v)) :: t) st h Q = WP d mX1_setOut 74 (some (.inr (.inr v)) :: t) (.inr (.inr v) :: st) h Q := WP_step dX1_setOut_73 rfl rfl rfl
theorem rX1_setOut_74 {d : Nat} {h : Hp} {Q : Option PV → Hp → Prop} {st : List PV}{ls : List (Option PV)}{a : Nat} : WP d mX1_setOut 74 ls (.inr (.inr a) :: st) h Q = ((hK h a).1 = 1 ∧ WP d mX1_setOut 77 ls (.inr (.inr (hR h a 4)) :: st) h Q) := R_get2 dX1_setOut_74 rfl
theorem rX1_setOut_77 {d : Nat} {h : Hp} {Q : Option PV → Hp → Prop} {st : List PV}{x0 x1 x2 : Option PV} {t : List (Option PV)} {v : Int} : WP d mX1_setOut 77 (x0 :: x1 :: x2 :: some (.inl v) :: t) st h Q = WP d mX1_setOut 78 (x0 :: x1 :: x2 :: some (.inl v) :: t) (.inl v :: st) h Q := WP_step dX1_setOut_77 rfl rfl rfl
theorem rX1_setOut_78 {d : Nat} {h : Hp} {Q : Option PV → Hp → Prop} {st : List PV}{ls : List (Option PV)} : WP d mX1_setOut 78 ls st h Q = WP d mX1_setOut 79 ls (.inl (1) :: st) h Q := WP_step dX1_setOut_78 rfl rfl rfl
theorem rX1_setOut_79 {d : Nat} {h : Hp} {Q : Option PV → Hp → Prop} {st : List PV}{ls : List (Option PV)}{a : Nat} {z v : Int} : WP d mX1_setOut 79 ls (.inl v :: .inl z :: .inr (.inr a) :: st) h Q = (200 ≤ a ∧ (hK h a).1 = 21 ∧ 0 ≤ z ∧ z < (hK h a).2 ∧ WP d mX1_setOut 80 ls st (wI h a z.toNat v) Q) := R_iast dX1_setOut_79
theorem rX1_setOut_80 {d : Nat} {h : Hp} {Q : Option PV → Hp → Prop} {st : List PV}{t : List (Option PV)} {v : Nat} : WP d mX1_setOut 80 (some (.inr (.inr v)) :: t) st h Q = WP d mX1_setOut 81 (some (.inr (.inr v)) :: t) (.inr (.inr v) :: st) h Q := WP_step dX1_setOut_80 rfl rfl rfl
theorem rX1_setOut_81 {d : Nat} {h : Hp} {Q : Option PV → Hp → Prop} {st : List PV}{x0 x1 x2 : Option PV} {t : List (Option PV)} {v : Int} : WP d mX1_setOut 81 (x0 :: x1 :: x2 :: some (.inl v) :: t) st h Q = WP d mX1_setOut 82 (x0 :: x1 :: x2 :: some (.inl v) :: t) (.inl v :: st) h Q := WP_step dX1_setOut_81 rfl rfl rfl
theorem rX1_setOut_82 {d : Nat} {h : Hp} {Q : Option PV → Hp → Prop} {st : List PV}{ls : List (Option PV)} : WP d mX1_setOut 82 ls st h Q = WP d mX1_setOut 83 ls (.inl (0) :: st) h Q := WP_step dX1_setOut_82 rfl rfl rfl
theorem rX1_setOut_83 {d : Nat} {h : Hp} {Q : Option PV → Hp → Prop} {ls : List (Option PV)}{v0 : Nat} {v1 : Int} {v2 : Int} : WP (d + 1) mX1_setOut 83 ls (.inl v2 :: .inl v1 :: .inr (.inr v0) :: []) h Q = ((hK h v0).1 = 1 ∧ WP d mX1_reachedFrom 0 [some (.inr (.inr v0)), some (.inl v1), some (.inl v2)] [] h (fun r h' => WP (d + 1) mX1_setOut 86 ls (psh r []) h' Q)) := R_callV (st := .inl v2 :: .inl v1 :: .inr (.inr v0) :: []) (M := mX1_setOut) (pc := 83) (kd := 0) (n := 3) (M' := mX1_reachedFrom) (as := [.inl v2, .inl v1, .inr (.inr v0)]) (rest := []) (en := [some (.inr (.inr v0)), some (.inl v1), some (.inl v2)]) dX1_setOut_83 rfl (Nat.le_of_ble_eq_true rfl) (Nat.le_of_ble_eq_true rfl) rfl rfl (Nat.le_of_ble_eq_true rfl) rfl rfl rfl
theorem rX1_setOut_86 {d : Nat} {h : Hp} {Q : Option PV → Hp → Prop} {st : List PV}{x0 x1 x2 : Option PV} {t : List (Option PV)} {v : Int} : WP d mX1_setOut 86 (x0 :: x1 :: x2 :: some (.inl v) :: t) st h Q = WP d mX1_setOut 89 (x0 :: x1 :: x2 :: some (.inl (w32 (v + 1))) :: t) st h Q := WP_step dX1_setOut_86 rfl rfl rfl
theorem rX1_setOut_89 {d : Nat} {h : Hp} {Q : Option PV → Hp → Prop} {st : List PV}{ls : List (Option PV)} : WP d mX1_setOut 89 ls st h Q = WP d mX1_setOut 19 ls st h Q := R_goto dX1_setOut_89 (by decide)
theorem rX1_setOut_92 {d : Nat} {h : Hp} {Q : Option PV → Hp → Prop} {ls : List (Option PV)} : WP d mX1_setOut 92 ls [] h Q = Q none h := R_vret dX1_setOut_92 rfl
theorem dX1_reachedBy_0 : decode prog_3_method_5_code 0 = .ok (.aload_n 0, 1) := by decide +kernel
theorem dX1_reachedBy_1 : decode prog_3_method_5_code 1 = .ok (.getfield 9, 3) := by decide +kernel
theorem dX1_reachedBy_4 : decode prog_3_method_5_code 4 = .ok (.iload_n 1, 1) := by decide +kernel
theorem dX1_reachedBy_5 : decode prog_3_method_5_code 5 = .ok (.iaload, 1) := by decide +kernel
theorem dX1_reachedBy_6 : decode prog_3_method_5_code 6 = .ok (.istore 5, 2) := by decide +kernel
theorem dX1_reachedBy_8 : decode prog_3_method_5_code 8 = .ok (.iconst 0, 1) := by decide +kernel
theorem dX1_reachedBy_9 : decode prog_3_method_5_code 9 = .ok (.istore 6, 2) := by decide +kernel
theorem dX1_reachedBy_11 : decode prog_3_method_5_code 11 = .ok (.iload 6, 2) := by decide +kernel
theorem dX1_reachedBy_13 : decode prog_3_method_5_code 13 = .ok (.aload_n 0, 1) := by decide +kernel
theorem dX1_reachedBy_14 : decode prog_3_method_5_code 14 = .ok (.getfield 15, 3) := by decide +kernel
theorem dX1_reachedBy_17 : decode prog_3_method_5_code 17 = .ok (.arraylength, 1) := by decide +kernel
theorem dX1_reachedBy_18 : decode prog_3_method_5_code 18 = .ok (.if_icmp .ge 51, 3) := by decide +kernel
theorem dX1_reachedBy_21 : decode prog_3_method_5_code 21 = .ok (.iload 5, 2) := by decide +kernel
theorem dX1_reachedBy_23 : decode prog_3_method_5_code 23 = .ok (.iconst (-1), 1) := by decide +kernel
theorem dX1_reachedBy_24 : decode prog_3_method_5_code 24 = .ok (.if_icmp .eq 45, 3) := by decide +kernel
theorem dX1_reachedBy_27 : decode prog_3_method_5_code 27 = .ok (.iload_n 2, 1) := by decide +kernel
theorem dX1_reachedBy_28 : decode prog_3_method_5_code 28 = .ok (.iload 5, 2) := by decide +kernel
theorem dX1_reachedBy_30 : decode prog_3_method_5_code 30 = .ok (.bipush 6, 2) := by decide +kernel
theorem dX1_reachedBy_32 : decode prog_3_method_5_code 32 = .ok (.irem, 1) := by decide +kernel
theorem dX1_reachedBy_33 : decode prog_3_method_5_code 33 = .ok (.invokestatic 52, 3) := by decide +kernel
theorem dX1_reachedBy_36 : decode prog_3_method_5_code 36 = .ok (.ifCond .eq 18, 3) := by decide +kernel
theorem dX1_reachedBy_39 : decode prog_3_method_5_code 39 = .ok (.aload_n 0, 1) := by decide +kernel
theorem dX1_reachedBy_40 : decode prog_3_method_5_code 40 = .ok (.iconst 2, 1) := by decide +kernel
theorem dX1_reachedBy_41 : decode prog_3_method_5_code 41 = .ok (.iload 5, 2) := by decide +kernel
theorem dX1_reachedBy_43 : decode prog_3_method_5_code 43 = .ok (.bipush 6, 2) := by decide +kernel
theorem dX1_reachedBy_45 : decode prog_3_method_5_code 45 = .ok (.idiv, 1) := by decide +kernel
theorem dX1_reachedBy_46 : decode prog_3_method_5_code 46 = .ok (.imul, 1) := by decide +kernel
theorem dX1_reachedBy_47 : decode prog_3_method_5_code 47 = .ok (.iload_n 3, 1) := by decide +kernel
theorem dX1_reachedBy_48 : decode prog_3_method_5_code 48 = .ok (.iadd, 1) := by decide +kernel
theorem dX1_reachedBy_49 : decode prog_3_method_5_code 49 = .ok (.iload 4, 2) := by decide +kernel
theorem dX1_reachedBy_51 : decode prog_3_method_5_code 51 = .ok (.invokevirtual 67, 3) := by decide +kernel
theorem dX1_reachedBy_54 : decode prog_3_method_5_code 54 = .ok (.aload_n 0, 1) := by decide +kernel
theorem dX1_reachedBy_55 : decode prog_3_method_5_code 55 = .ok (.getfield 15, 3) := by decide +kernel
theorem dX1_reachedBy_58 : decode prog_3_method_5_code 58 = .ok (.iload 5, 2) := by decide +kernel
theorem dX1_reachedBy_60 : decode prog_3_method_5_code 60 = .ok (.iaload, 1) := by decide +kernel
theorem dX1_reachedBy_61 : decode prog_3_method_5_code 61 = .ok (.istore 5, 2) := by decide +kernel
theorem dX1_reachedBy_63 : decode prog_3_method_5_code 63 = .ok (.iinc 6 1, 3) := by decide +kernel
theorem dX1_reachedBy_66 : decode prog_3_method_5_code 66 = .ok (.goto (-55), 3) := by decide +kernel
theorem dX1_reachedBy_69 : decode prog_3_method_5_code 69 = .ok (.return_, 1) := by decide +kernel
theorem rX1_reachedBy_0 {d : Nat} {h : Hp} {Q : Option PV → Hp → Prop} {st : List PV}{t : List (Option PV)} {v : Nat} : WP d mX1_reachedBy 0 (some (.inr (.inr v)) :: t) st h Q = WP d mX1_reachedBy 1 (some (.inr (.inr v)) :: t) (.inr (.inr v) :: st) h Q := WP_step dX1_reachedBy_0 rfl rfl rfl
theorem rX1_reachedBy_1 {d : Nat} {h : Hp} {Q : Option PV → Hp → Prop} {st : List PV}{ls : List (Option PV)}{a : Nat} : WP d mX1_reachedBy 1 ls (.inr (.inr a) :: st) h Q = ((hK h a).1 = 1 ∧ WP d mX1_reachedBy 4 ls (.inr (.inr (hR h a 1)) :: st) h Q) := R_get2 dX1_reachedBy_1 rfl
theorem rX1_reachedBy_4 {d : Nat} {h : Hp} {Q : Option PV → Hp → Prop} {st : List PV}{x0 : Option PV} {t : List (Option PV)} {v : Int} : WP d mX1_reachedBy 4 (x0 :: some (.inl v) :: t) st h Q = WP d mX1_reachedBy 5 (x0 :: some (.inl v) :: t) (.inl v :: st) h Q := WP_step dX1_reachedBy_4 rfl rfl rfl
theorem rX1_reachedBy_5 {d : Nat} {h : Hp} {Q : Option PV → Hp → Prop} {st : List PV}{ls : List (Option PV)}{a : Nat} {z : Int} : WP d mX1_reachedBy 5 ls (.inl z :: .inr (.inr a) :: st) h Q = ((hK h a).1 = 21 ∧ 0 ≤ z ∧ z < (hK h a).2 ∧ WP d mX1_reachedBy 6 ls (.inl (hI h a z.toNat) :: st) h Q) := R_iald dX1_reachedBy_5
theorem rX1_reachedBy_6 {d : Nat} {h : Hp} {Q : Option PV → Hp → Prop} {st : List PV}{x0 x1 x2 x3 x4 x5 x6 : Option PV} {v : Int} : WP d mX1_reachedBy 6 [x0, x1, x2, x3, x4, x5, x6] (.inl v :: st) h Q = WP d mX1_reachedBy 8 [x0, x1, x2, x3, x4, some (.inl v), x6] st h Q := WP_step dX1_reachedBy_6 rfl rfl rfl
theorem rX1_reachedBy_8 {d : Nat} {h : Hp} {Q : Option PV → Hp → Prop} {st : List PV}{ls : List (Option PV)} : WP d mX1_reachedBy 8 ls st h Q = WP d mX1_reachedBy 9 ls (.inl (0) :: st) h Q := WP_step dX1_reachedBy_8 rfl rfl rfl
theorem rX1_reachedBy_9 {d : Nat} {h : Hp} {Q : Option PV → Hp → Prop} {st : List PV}{x0 x1 x2 x3 x4 x5 x6 : Option PV} {v : Int} : WP d mX1_reachedBy 9 [x0, x1, x2, x3, x4, x5, x6] (.inl v :: st) h Q = WP d mX1_reachedBy 11 [x0, x1, x2, x3, x4, x5, some (.inl v)] st h Q := WP_step dX1_reachedBy_9 rfl rfl rfl
theorem rX1_reachedBy_11 {d : Nat} {h : Hp} {Q : Option PV → Hp → Prop} {st : List PV}{x0 x1 x2 x3 x4 x5 : Option PV} {t : List (Option PV)} {v : Int} : WP d mX1_reachedBy 11 (x0 :: x1 :: x2 :: x3 :: x4 :: x5 :: some (.inl v) :: t) st h Q = WP d mX1_reachedBy 13 (x0 :: x1 :: x2 :: x3 :: x4 :: x5 :: some (.inl v) :: t) (.inl v :: st) h Q := WP_step dX1_reachedBy_11 rfl rfl rfl
theorem rX1_reachedBy_13 {d : Nat} {h : Hp} {Q : Option PV → Hp → Prop} {st : List PV}{t : List (Option PV)} {v : Nat} : WP d mX1_reachedBy 13 (some (.inr (.inr v)) :: t) st h Q = WP d mX1_reachedBy 14 (some (.inr (.inr v)) :: t) (.inr (.inr v) :: st) h Q := WP_step dX1_reachedBy_13 rfl rfl rfl
theorem rX1_reachedBy_14 {d : Nat} {h : Hp} {Q : Option PV → Hp → Prop} {st : List PV}{ls : List (Option PV)}{a : Nat} : WP d mX1_reachedBy 14 ls (.inr (.inr a) :: st) h Q = ((hK h a).1 = 1 ∧ WP d mX1_reachedBy 17 ls (.inr (.inr (hR h a 2)) :: st) h Q) := R_get2 dX1_reachedBy_14 rfl
theorem rX1_reachedBy_17 {d : Nat} {h : Hp} {Q : Option PV → Hp → Prop} {st : List PV}{ls : List (Option PV)}{a : Nat} : WP d mX1_reachedBy 17 ls (.inr (.inr a) :: st) h Q = ((20 ≤ (hK h a).1 ∧ (hK h a).1 ≤ 26) ∧ WP d mX1_reachedBy 18 ls (.inl (hK h a).2 :: st) h Q) := R_alen dX1_reachedBy_17
theorem rX1_reachedBy_18 {d : Nat} {h : Hp} {Q : Option PV → Hp → Prop} {st : List PV}{ls : List (Option PV)}{a b : Int} : WP d mX1_reachedBy 18 ls (.inl b :: .inl a :: st) h Q = (if a < b then WP d mX1_reachedBy 21 ls st h Q else WP d mX1_reachedBy 69 ls st h Q) := R_icmp_ge dX1_reachedBy_18 (by decide)
theorem rX1_reachedBy_21 {d : Nat} {h : Hp} {Q : Option PV → Hp → Prop} {st : List PV}{x0 x1 x2 x3 x4 : Option PV} {t : List (Option PV)} {v : Int} : WP d mX1_reachedBy 21 (x0 :: x1 :: x2 :: x3 :: x4 :: some (.inl v) :: t) st h Q = WP d mX1_reachedBy 23 (x0 :: x1 :: x2 :: x3 :: x4 :: some (.inl v) :: t) (.inl v :: st) h Q := WP_step dX1_reachedBy_21 rfl rfl rfl
theorem rX1_reachedBy_23 {d : Nat} {h : Hp} {Q : Option PV → Hp → Prop} {st : List PV}{ls : List (Option PV)} : WP d mX1_reachedBy 23 ls st h Q = WP d mX1_reachedBy 24 ls (.inl (-1) :: st) h Q := WP_step dX1_reachedBy_23 rfl rfl rfl
theorem rX1_reachedBy_24 {d : Nat} {h : Hp} {Q : Option PV → Hp → Prop} {st : List PV}{ls : List (Option PV)}{a b : Int} : WP d mX1_reachedBy 24 ls (.inl b :: .inl a :: st) h Q = (if a = b then WP d mX1_reachedBy 69 ls st h Q else WP d mX1_reachedBy 27 ls st h Q) := R_icmp_eq dX1_reachedBy_24 (by decide)
theorem rX1_reachedBy_27 {d : Nat} {h : Hp} {Q : Option PV → Hp → Prop} {st : List PV}{x0 x1 : Option PV} {t : List (Option PV)} {v : Int} : WP d mX1_reachedBy 27 (x0 :: x1 :: some (.inl v) :: t) st h Q = WP d mX1_reachedBy 28 (x0 :: x1 :: some (.inl v) :: t) (.inl v :: st) h Q := WP_step dX1_reachedBy_27 rfl rfl rfl
theorem rX1_reachedBy_28 {d : Nat} {h : Hp} {Q : Option PV → Hp → Prop} {st : List PV}{x0 x1 x2 x3 x4 : Option PV} {t : List (Option PV)} {v : Int} : WP d mX1_reachedBy 28 (x0 :: x1 :: x2 :: x3 :: x4 :: some (.inl v) :: t) st h Q = WP d mX1_reachedBy 30 (x0 :: x1 :: x2 :: x3 :: x4 :: some (.inl v) :: t) (.inl v :: st) h Q := WP_step dX1_reachedBy_28 rfl rfl rfl
theorem rX1_reachedBy_30 {d : Nat} {h : Hp} {Q : Option PV → Hp → Prop} {st : List PV}{ls : List (Option PV)} : WP d mX1_reachedBy 30 ls st h Q = WP d mX1_reachedBy 32 ls (.inl (6) :: st) h Q := WP_step dX1_reachedBy_30 rfl rfl rfl
theorem rX1_reachedBy_32 {d : Nat} {h : Hp} {Q : Option PV → Hp → Prop} {st : List PV}{ls : List (Option PV)}{a b : Int} : WP d mX1_reachedBy 32 ls (.inl b :: .inl a :: st) h Q = (b ≠ 0 ∧ WP d mX1_reachedBy 33 ls (.inl (a.tmod b) :: st) h Q) := R_rem dX1_reachedBy_32
theorem rX1_reachedBy_33 {d : Nat} {h : Hp} {Q : Option PV → Hp → Prop} {ls : List (Option PV)}{v0 : Int} {v1 : Int} : WP (d + 1) mX1_reachedBy 33 ls (.inl v1 :: .inl v0 :: []) h Q = WP d mX11_has 0 [some (.inl v0), some (.inl v1)] [] h (fun r h' => WP (d + 1) mX1_reachedBy 36 ls (psh r []) h' Q) := R_callS (st := .inl v1 :: .inl v0 :: []) (M := mX1_reachedBy) (pc := 33) (kd := 5) (n := 2) (M' := mX11_has) (as := [.inl v1, .inl v0]) (rest := []) (en := [some (.inl v0), some (.inl v1)]) dX1_reachedBy_33 rfl (Or.inr rfl) (Nat.le_of_ble_eq_true rfl) rfl (Nat.le_of_ble_eq_true rfl) rfl rfl rfl
theorem rX1_reachedBy_36 {d : Nat} {h : Hp} {Q : Option PV → Hp → Prop} {st : List PV}{ls : List (Option PV)}{a : Int} : WP d mX1_reachedBy 36 ls (.inl a :: st) h Q = (if a = 0 then WP d mX1_reachedBy 54 ls st h Q else WP d mX1_reachedBy 39 ls st h Q) := R_if_eq dX1_reachedBy_36 (by decide)
theorem rX1_reachedBy_39 {d : Nat} {h : Hp} {Q : Option PV → Hp → Prop} {st : List PV}{t : List (Option PV)} {v : Nat} : WP d mX1_reachedBy 39 (some (.inr (.inr v)) :: t) st h Q = WP d mX1_reachedBy 40 (some (.inr (.inr v)) :: t) (.inr (.inr v) :: st) h Q := WP_step dX1_reachedBy_39 rfl rfl rfl
theorem rX1_reachedBy_40 {d : Nat} {h : Hp} {Q : Option PV → Hp → Prop} {st : List PV}{ls : List (Option PV)} : WP d mX1_reachedBy 40 ls st h Q = WP d mX1_reachedBy 41 ls (.inl (2) :: st) h Q := WP_step dX1_reachedBy_40 rfl rfl rfl
theorem rX1_reachedBy_41 {d : Nat} {h : Hp} {Q : Option PV → Hp → Prop} {st : List PV}{x0 x1 x2 x3 x4 : Option PV} {t : List (Option PV)} {v : Int} : WP d mX1_reachedBy 41 (x0 :: x1 :: x2 :: x3 :: x4 :: some (.inl v) :: t) st h Q = WP d mX1_reachedBy 43 (x0 :: x1 :: x2 :: x3 :: x4 :: some (.inl v) :: t) (.inl v :: st) h Q := WP_step dX1_reachedBy_41 rfl rfl rfl
theorem rX1_reachedBy_43 {d : Nat} {h : Hp} {Q : Option PV → Hp → Prop} {st : List PV}{ls : List (Option PV)} : WP d mX1_reachedBy 43 ls st h Q = WP d mX1_reachedBy 45 ls (.inl (6) :: st) h Q := WP_step dX1_reachedBy_43 rfl rfl rfl
theorem rX1_reachedBy_45 {d : Nat} {h : Hp} {Q : Option PV → Hp → Prop} {st : List PV}{ls : List (Option PV)}{a b : Int} : WP d mX1_reachedBy 45 ls (.inl b :: .inl a :: st) h Q = (b ≠ 0 ∧ WP d mX1_reachedBy 46 ls (.inl (w32 (a.tdiv b)) :: st) h Q) := R_div dX1_reachedBy_45
theorem rX1_reachedBy_46 {d : Nat} {h : Hp} {Q : Option PV → Hp → Prop} {st : List PV}{ls : List (Option PV)}{a b : Int} : WP d mX1_reachedBy 46 ls (.inl b :: .inl a :: st) h Q = WP d mX1_reachedBy 47 ls (.inl (w32 (a * b)) :: st) h Q := WP_step dX1_reachedBy_46 rfl rfl rfl
theorem rX1_reachedBy_47 {d : Nat} {h : Hp} {Q : Option PV → Hp → Prop} {st : List PV}{x0 x1 x2 : Option PV} {t : List (Option PV)} {v : Int} : WP d mX1_reachedBy 47 (x0 :: x1 :: x2 :: some (.inl v) :: t) st h Q = WP d mX1_reachedBy 48 (x0 :: x1 :: x2 :: some (.inl v) :: t) (.inl v :: st) h Q := WP_step dX1_reachedBy_47 rfl rfl rfl
theorem rX1_reachedBy_48 {d : Nat} {h : Hp} {Q : Option PV → Hp → Prop} {st : List PV}{ls : List (Option PV)}{a b : Int} : WP d mX1_reachedBy 48 ls (.inl b :: .inl a :: st) h Q = WP d mX1_reachedBy 49 ls (.inl (w32 (a + b)) :: st) h Q := WP_step dX1_reachedBy_48 rfl rfl rfl
theorem rX1_reachedBy_49 {d : Nat} {h : Hp} {Q : Option PV → Hp → Prop} {st : List PV}{x0 x1 x2 x3 : Option PV} {t : List (Option PV)} {v : Int} : WP d mX1_reachedBy 49 (x0 :: x1 :: x2 :: x3 :: some (.inl v) :: t) st h Q = WP d mX1_reachedBy 51 (x0 :: x1 :: x2 :: x3 :: some (.inl v) :: t) (.inl v :: st) h Q := WP_step dX1_reachedBy_49 rfl rfl rfl
theorem rX1_reachedBy_51 {d : Nat} {h : Hp} {Q : Option PV → Hp → Prop} {ls : List (Option PV)}{v0 : Nat} {v1 : Int} {v2 : Int} : WP (d + 1) mX1_reachedBy 51 ls (.inl v2 :: .inl v1 :: .inr (.inr v0) :: []) h Q = ((hK h v0).1 = 1 ∧ WP d mX1_reachedFrom 0 [some (.inr (.inr v0)), some (.inl v1), some (.inl v2)] [] h (fun r h' => WP (d + 1) mX1_reachedBy 54 ls (psh r []) h' Q)) := R_callV (st := .inl v2 :: .inl v1 :: .inr (.inr v0) :: []) (M := mX1_reachedBy) (pc := 51) (kd := 0) (n := 3) (M' := mX1_reachedFrom) (as := [.inl v2, .inl v1, .inr (.inr v0)]) (rest := []) (en := [some (.inr (.inr v0)), some (.inl v1), some (.inl v2)]) dX1_reachedBy_51 rfl (Nat.le_of_ble_eq_true rfl) (Nat.le_of_ble_eq_true rfl) rfl rfl (Nat.le_of_ble_eq_true rfl) rfl rfl rfl
theorem rX1_reachedBy_54 {d : Nat} {h : Hp} {Q : Option PV → Hp → Prop} {st : List PV}{t : List (Option PV)} {v : Nat} : WP d mX1_reachedBy 54 (some (.inr (.inr v)) :: t) st h Q = WP d mX1_reachedBy 55 (some (.inr (.inr v)) :: t) (.inr (.inr v) :: st) h Q := WP_step dX1_reachedBy_54 rfl rfl rfl
theorem rX1_reachedBy_55 {d : Nat} {h : Hp} {Q : Option PV → Hp → Prop} {st : List PV}{ls : List (Option PV)}{a : Nat} : WP d mX1_reachedBy 55 ls (.inr (.inr a) :: st) h Q = ((hK h a).1 = 1 ∧ WP d mX1_reachedBy 58 ls (.inr (.inr (hR h a 2)) :: st) h Q) := R_get2 dX1_reachedBy_55 rfl
theorem rX1_reachedBy_58 {d : Nat} {h : Hp} {Q : Option PV → Hp → Prop} {st : List PV}{x0 x1 x2 x3 x4 : Option PV} {t : List (Option PV)} {v : Int} : WP d mX1_reachedBy 58 (x0 :: x1 :: x2 :: x3 :: x4 :: some (.inl v) :: t) st h Q = WP d mX1_reachedBy 60 (x0 :: x1 :: x2 :: x3 :: x4 :: some (.inl v) :: t) (.inl v :: st) h Q := WP_step dX1_reachedBy_58 rfl rfl rfl
theorem rX1_reachedBy_60 {d : Nat} {h : Hp} {Q : Option PV → Hp → Prop} {st : List PV}{ls : List (Option PV)}{a : Nat} {z : Int} : WP d mX1_reachedBy 60 ls (.inl z :: .inr (.inr a) :: st) h Q = ((hK h a).1 = 21 ∧ 0 ≤ z ∧ z < (hK h a).2 ∧ WP d mX1_reachedBy 61 ls (.inl (hI h a z.toNat) :: st) h Q) := R_iald dX1_reachedBy_60
theorem rX1_reachedBy_61 {d : Nat} {h : Hp} {Q : Option PV → Hp → Prop} {st : List PV}{x0 x1 x2 x3 x4 x5 x6 : Option PV} {v : Int} : WP d mX1_reachedBy 61 [x0, x1, x2, x3, x4, x5, x6] (.inl v :: st) h Q = WP d mX1_reachedBy 63 [x0, x1, x2, x3, x4, some (.inl v), x6] st h Q := WP_step dX1_reachedBy_61 rfl rfl rfl
theorem rX1_reachedBy_63 {d : Nat} {h : Hp} {Q : Option PV → Hp → Prop} {st : List PV}{x0 x1 x2 x3 x4 x5 : Option PV} {t : List (Option PV)} {v : Int} : WP d mX1_reachedBy 63 (x0 :: x1 :: x2 :: x3 :: x4 :: x5 :: some (.inl v) :: t) st h Q = WP d mX1_reachedBy 66 (x0 :: x1 :: x2 :: x3 :: x4 :: x5 :: some (.inl (w32 (v + 1))) :: t) st h Q := WP_step dX1_reachedBy_63 rfl rfl rfl
theorem rX1_reachedBy_66 {d : Nat} {h : Hp} {Q : Option PV → Hp → Prop} {st : List PV}{ls : List (Option PV)} : WP d mX1_reachedBy 66 ls st h Q = WP d mX1_reachedBy 11 ls st h Q := R_goto dX1_reachedBy_66 (by decide)
theorem rX1_reachedBy_69 {d : Nat} {h : Hp} {Q : Option PV → Hp → Prop} {ls : List (Option PV)} : WP d mX1_reachedBy 69 ls [] h Q = Q none h := R_vret dX1_reachedBy_69 rfl
theorem dX1_reachedFrom_0 : decode prog_3_method_6_code 0 = .ok (.aload_n 0, 1) := by decide +kernel
theorem dX1_reachedFrom_1 : decode prog_3_method_6_code 1 = .ok (.getfield 18, 3) := by decide +kernel
theorem dX1_reachedFrom_4 : decode prog_3_method_6_code 4 = .ok (.iload_n 1, 1) := by decide +kernel
theorem dX1_reachedFrom_5 : decode prog_3_method_6_code 5 = .ok (.iaload, 1) := by decide +kernel
theorem dX1_reachedFrom_6 : decode prog_3_method_6_code 6 = .ok (.iconst (-1), 1) := by decide +kernel
theorem dX1_reachedFrom_7 : decode prog_3_method_6_code 7 = .ok (.if_icmp .ne 13, 3) := by decide +kernel
theorem dX1_reachedFrom_10 : decode prog_3_method_6_code 10 = .ok (.aload_n 0, 1) := by decide +kernel
theorem dX1_reachedFrom_11 : decode prog_3_method_6_code 11 = .ok (.getfield 64, 3) := by decide +kernel
theorem dX1_reachedFrom_14 : decode prog_3_method_6_code 14 = .ok (.sipush 3200, 3) := by decide +kernel
theorem dX1_reachedFrom_17 : decode prog_3_method_6_code 17 = .ok (.if_icmp .lt 4, 3) := by decide +kernel
theorem dX1_reachedFrom_20 : decode prog_3_method_6_code 20 = .ok (.return_, 1) := by decide +kernel
theorem dX1_reachedFrom_21 : decode prog_3_method_6_code 21 = .ok (.aload_n 0, 1) := by decide +kernel
theorem dX1_reachedFrom_22 : decode prog_3_method_6_code 22 = .ok (.getfield 21, 3) := by decide +kernel
theorem dX1_reachedFrom_25 : decode prog_3_method_6_code 25 = .ok (.iload_n 1, 1) := by decide +kernel
theorem dX1_reachedFrom_26 : decode prog_3_method_6_code 26 = .ok (.dup2, 1) := by decide +kernel
theorem dX1_reachedFrom_27 : decode prog_3_method_6_code 27 = .ok (.iaload, 1) := by decide +kernel
theorem dX1_reachedFrom_28 : decode prog_3_method_6_code 28 = .ok (.iconst 1, 1) := by decide +kernel
theorem dX1_reachedFrom_29 : decode prog_3_method_6_code 29 = .ok (.isub, 1) := by decide +kernel
theorem dX1_reachedFrom_30 : decode prog_3_method_6_code 30 = .ok (.iastore, 1) := by decide +kernel
theorem dX1_reachedFrom_31 : decode prog_3_method_6_code 31 = .ok (.aload_n 0, 1) := by decide +kernel
theorem dX1_reachedFrom_32 : decode prog_3_method_6_code 32 = .ok (.getfield 21, 3) := by decide +kernel
theorem dX1_reachedFrom_35 : decode prog_3_method_6_code 35 = .ok (.iload_n 1, 1) := by decide +kernel
theorem dX1_reachedFrom_36 : decode prog_3_method_6_code 36 = .ok (.iaload, 1) := by decide +kernel
theorem dX1_reachedFrom_37 : decode prog_3_method_6_code 37 = .ok (.ifCond .gt 30, 3) := by decide +kernel
theorem dX1_reachedFrom_40 : decode prog_3_method_6_code 40 = .ok (.aload_n 0, 1) := by decide +kernel
theorem dX1_reachedFrom_41 : decode prog_3_method_6_code 41 = .ok (.getfield 18, 3) := by decide +kernel
theorem dX1_reachedFrom_44 : decode prog_3_method_6_code 44 = .ok (.iload_n 1, 1) := by decide +kernel
theorem dX1_reachedFrom_45 : decode prog_3_method_6_code 45 = .ok (.iload_n 2, 1) := by decide +kernel
theorem dX1_reachedFrom_46 : decode prog_3_method_6_code 46 = .ok (.iastore, 1) := by decide +kernel
theorem dX1_reachedFrom_47 : decode prog_3_method_6_code 47 = .ok (.aload_n 0, 1) := by decide +kernel
theorem dX1_reachedFrom_48 : decode prog_3_method_6_code 48 = .ok (.getfield 24, 3) := by decide +kernel
theorem dX1_reachedFrom_51 : decode prog_3_method_6_code 51 = .ok (.aload_n 0, 1) := by decide +kernel
theorem dX1_reachedFrom_52 : decode prog_3_method_6_code 52 = .ok (.getfield 64, 3) := by decide +kernel
theorem dX1_reachedFrom_55 : decode prog_3_method_6_code 55 = .ok (.iload_n 1, 1) := by decide +kernel
theorem dX1_reachedFrom_56 : decode prog_3_method_6_code 56 = .ok (.iastore, 1) := by decide +kernel
theorem dX1_reachedFrom_57 : decode prog_3_method_6_code 57 = .ok (.aload_n 0, 1) := by decide +kernel
theorem dX1_reachedFrom_58 : decode prog_3_method_6_code 58 = .ok (.dup, 1) := by decide +kernel
theorem dX1_reachedFrom_59 : decode prog_3_method_6_code 59 = .ok (.getfield 64, 3) := by decide +kernel
theorem dX1_reachedFrom_62 : decode prog_3_method_6_code 62 = .ok (.iconst 1, 1) := by decide +kernel
theorem dX1_reachedFrom_63 : decode prog_3_method_6_code 63 = .ok (.iadd, 1) := by decide +kernel
theorem dX1_reachedFrom_64 : decode prog_3_method_6_code 64 = .ok (.putfield 64, 3) := by decide +kernel
theorem dX1_reachedFrom_67 : decode prog_3_method_6_code 67 = .ok (.return_, 1) := by decide +kernel
theorem rX1_reachedFrom_0 {d : Nat} {h : Hp} {Q : Option PV → Hp → Prop} {st : List PV}{t : List (Option PV)} {v : Nat} : WP d mX1_reachedFrom 0 (some (.inr (.inr v)) :: t) st h Q = WP d mX1_reachedFrom 1 (some (.inr (.inr v)) :: t) (.inr (.inr v) :: st) h Q := WP_step dX1_reachedFrom_0 rfl rfl rfl
theorem rX1_reachedFrom_1 {d : Nat} {h : Hp} {Q : Option PV → Hp → Prop} {st : List PV}{ls : List (Option PV)}{a : Nat} : WP d mX1_reachedFrom 1 ls (.inr (.inr a) :: st) h Q = ((hK h a).1 = 1 ∧ WP d mX1_reachedFrom 4 ls (.inr (.inr (hR h a 3)) :: st) h Q) := R_get2 dX1_reachedFrom_1 rfl
theorem rX1_reachedFrom_4 {d : Nat} {h : Hp} {Q : Option PV → Hp → Prop} {st : List PV}{x0 : Option PV} {t : List (Option PV)} {v : Int} : WP d mX1_reachedFrom 4 (x0 :: some (.inl v) :: t) st h Q = WP d mX1_reachedFrom 5 (x0 :: some (.inl v) :: t) (.inl v :: st) h Q := WP_step dX1_reachedFrom_4 rfl rfl rfl
theorem rX1_reachedFrom_5 {d : Nat} {h : Hp} {Q : Option PV → Hp → Prop} {st : List PV}{ls : List (Option PV)}{a : Nat} {z : Int} : WP d mX1_reachedFrom 5 ls (.inl z :: .inr (.inr a) :: st) h Q = ((hK h a).1 = 21 ∧ 0 ≤ z ∧ z < (hK h a).2 ∧ WP d mX1_reachedFrom 6 ls (.inl (hI h a z.toNat) :: st) h Q) := R_iald dX1_reachedFrom_5
theorem rX1_reachedFrom_6 {d : Nat} {h : Hp} {Q : Option PV → Hp → Prop} {st : List PV}{ls : List (Option PV)} : WP d mX1_reachedFrom 6 ls st h Q = WP d mX1_reachedFrom 7 ls (.inl (-1) :: st) h Q := WP_step dX1_reachedFrom_6 rfl rfl rfl
theorem rX1_reachedFrom_7 {d : Nat} {h : Hp} {Q : Option PV → Hp → Prop} {st : List PV}{ls : List (Option PV)}{a b : Int} : WP d mX1_reachedFrom 7 ls (.inl b :: .inl a :: st) h Q = (if a = b then WP d mX1_reachedFrom 10 ls st h Q else WP d mX1_reachedFrom 20 ls st h Q) := R_icmp_ne dX1_reachedFrom_7 (by decide)
theorem rX1_reachedFrom_10 {d : Nat} {h : Hp} {Q : Option PV → Hp → Prop} {st : List PV}{t : List (Option PV)} {v : Nat} : WP d mX1_reachedFrom 10 (some (.inr (.inr v)) :: t) st h Q = WP d mX1_reachedFrom 11 (some (.inr (.inr v)) :: t) (.inr (.inr v) :: st) h Q := WP_step dX1_reachedFrom_10 rfl rfl rfl
theorem rX1_reachedFrom_11 {d : Nat} {h : Hp} {Q : Option PV → Hp → Prop} {st : List PV}{ls : List (Option PV)}{a : Nat} : WP d mX1_reachedFrom 11 ls (.inr (.inr a) :: st) h Q = ((hK h a).1 = 1 ∧ WP d mX1_reachedFrom 14 ls (.inl (hI h a 6) :: st) h Q) := R_get0 dX1_reachedFrom_11 rfl
theorem rX1_reachedFrom_14 {d : Nat} {h : Hp} {Q : Option PV → Hp → Prop} {st : List PV}{ls : List (Option PV)} : WP d mX1_reachedFrom 14 ls st h Q = WP d mX1_reachedFrom 17 ls (.inl (3200) :: st) h Q := WP_step dX1_reachedFrom_14 rfl rfl rfl
theorem rX1_reachedFrom_17 {d : Nat} {h : Hp} {Q : Option PV → Hp → Prop} {st : List PV}{ls : List (Option PV)}{a b : Int} : WP d mX1_reachedFrom 17 ls (.inl b :: .inl a :: st) h Q = (if a < b then WP d mX1_reachedFrom 21 ls st h Q else WP d mX1_reachedFrom 20 ls st h Q) := R_icmp_lt dX1_reachedFrom_17 (by decide)
theorem rX1_reachedFrom_20 {d : Nat} {h : Hp} {Q : Option PV → Hp → Prop} {ls : List (Option PV)} : WP d mX1_reachedFrom 20 ls [] h Q = Q none h := R_vret dX1_reachedFrom_20 rfl
theorem rX1_reachedFrom_21 {d : Nat} {h : Hp} {Q : Option PV → Hp → Prop} {st : List PV}{t : List (Option PV)} {v : Nat} : WP d mX1_reachedFrom 21 (some (.inr (.inr v)) :: t) st h Q = WP d mX1_reachedFrom 22 (some (.inr (.inr v)) :: t) (.inr (.inr v) :: st) h Q := WP_step dX1_reachedFrom_21 rfl rfl rfl
theorem rX1_reachedFrom_22 {d : Nat} {h : Hp} {Q : Option PV → Hp → Prop} {st : List PV}{ls : List (Option PV)}{a : Nat} : WP d mX1_reachedFrom 22 ls (.inr (.inr a) :: st) h Q = ((hK h a).1 = 1 ∧ WP d mX1_reachedFrom 25 ls (.inr (.inr (hR h a 4)) :: st) h Q) := R_get2 dX1_reachedFrom_22 rfl
theorem rX1_reachedFrom_25 {d : Nat} {h : Hp} {Q : Option PV → Hp → Prop} {st : List PV}{x0 : Option PV} {t : List (Option PV)} {v : Int} : WP d mX1_reachedFrom 25 (x0 :: some (.inl v) :: t) st h Q = WP d mX1_reachedFrom 26 (x0 :: some (.inl v) :: t) (.inl v :: st) h Q := WP_step dX1_reachedFrom_25 rfl rfl rfl
theorem rX1_reachedFrom_26 {d : Nat} {h : Hp} {Q : Option PV → Hp → Prop} {st : List PV}{ls : List (Option PV)}{b : Int} {a : Nat} : WP d mX1_reachedFrom 26 ls (.inl b :: .inr (.inr a) :: st) h Q = WP d mX1_reachedFrom 27 ls (.inl b :: .inr (.inr a) :: .inl b :: .inr (.inr a) :: st) h Q := WP_step dX1_reachedFrom_26 rfl rfl rfl
theorem rX1_reachedFrom_27 {d : Nat} {h : Hp} {Q : Option PV → Hp → Prop} {st : List PV}{ls : List (Option PV)}{a : Nat} {z : Int} : WP d mX1_reachedFrom 27 ls (.inl z :: .inr (.inr a) :: st) h Q = ((hK h a).1 = 21 ∧ 0 ≤ z ∧ z < (hK h a).2 ∧ WP d mX1_reachedFrom 28 ls (.inl (hI h a z.toNat) :: st) h Q) := R_iald dX1_reachedFrom_27
theorem rX1_reachedFrom_28 {d : Nat} {h : Hp} {Q : Option PV → Hp → Prop} {st : List PV}{ls : List (Option PV)} : WP d mX1_reachedFrom 28 ls st h Q = WP d mX1_reachedFrom 29 ls (.inl (1) :: st) h Q := WP_step dX1_reachedFrom_28 rfl rfl rfl
theorem rX1_reachedFrom_29 {d : Nat} {h : Hp} {Q : Option PV → Hp → Prop} {st : List PV}{ls : List (Option PV)}{a b : Int} : WP d mX1_reachedFrom 29 ls (.inl b :: .inl a :: st) h Q = WP d mX1_reachedFrom 30 ls (.inl (w32 (a - b)) :: st) h Q := WP_step dX1_reachedFrom_29 rfl rfl rfl
theorem rX1_reachedFrom_30 {d : Nat} {h : Hp} {Q : Option PV → Hp → Prop} {st : List PV}{ls : List (Option PV)}{a : Nat} {z v : Int} : WP d mX1_reachedFrom 30 ls (.inl v :: .inl z :: .inr (.inr a) :: st) h Q = (200 ≤ a ∧ (hK h a).1 = 21 ∧ 0 ≤ z ∧ z < (hK h a).2 ∧ WP d mX1_reachedFrom 31 ls st (wI h a z.toNat v) Q) := R_iast dX1_reachedFrom_30
theorem rX1_reachedFrom_31 {d : Nat} {h : Hp} {Q : Option PV → Hp → Prop} {st : List PV}{t : List (Option PV)} {v : Nat} : WP d mX1_reachedFrom 31 (some (.inr (.inr v)) :: t) st h Q = WP d mX1_reachedFrom 32 (some (.inr (.inr v)) :: t) (.inr (.inr v) :: st) h Q := WP_step dX1_reachedFrom_31 rfl rfl rfl
theorem rX1_reachedFrom_32 {d : Nat} {h : Hp} {Q : Option PV → Hp → Prop} {st : List PV}{ls : List (Option PV)}{a : Nat} : WP d mX1_reachedFrom 32 ls (.inr (.inr a) :: st) h Q = ((hK h a).1 = 1 ∧ WP d mX1_reachedFrom 35 ls (.inr (.inr (hR h a 4)) :: st) h Q) := R_get2 dX1_reachedFrom_32 rfl
theorem rX1_reachedFrom_35 {d : Nat} {h : Hp} {Q : Option PV → Hp → Prop} {st : List PV}{x0 : Option PV} {t : List (Option PV)} {v : Int} : WP d mX1_reachedFrom 35 (x0 :: some (.inl v) :: t) st h Q = WP d mX1_reachedFrom 36 (x0 :: some (.inl v) :: t) (.inl v :: st) h Q := WP_step dX1_reachedFrom_35 rfl rfl rfl
theorem rX1_reachedFrom_36 {d : Nat} {h : Hp} {Q : Option PV → Hp → Prop} {st : List PV}{ls : List (Option PV)}{a : Nat} {z : Int} : WP d mX1_reachedFrom 36 ls (.inl z :: .inr (.inr a) :: st) h Q = ((hK h a).1 = 21 ∧ 0 ≤ z ∧ z < (hK h a).2 ∧ WP d mX1_reachedFrom 37 ls (.inl (hI h a z.toNat) :: st) h Q) := R_iald dX1_reachedFrom_36
theorem rX1_reachedFrom_37 {d : Nat} {h : Hp} {Q : Option PV → Hp → Prop} {st : List PV}{ls : List (Option PV)}{a : Int} : WP d mX1_reachedFrom 37 ls (.inl a :: st) h Q = (if 0 < a then WP d mX1_reachedFrom 67 ls st h Q else WP d mX1_reachedFrom 40 ls st h Q) := R_if_gt dX1_reachedFrom_37 (by decide)
theorem rX1_reachedFrom_40 {d : Nat} {h : Hp} {Q : Option PV → Hp → Prop} {st : List PV}{t : List (Option PV)} {v : Nat} : WP d mX1_reachedFrom 40 (some (.inr (.inr v)) :: t) st h Q = WP d mX1_reachedFrom 41 (some (.inr (.inr v)) :: t) (.inr (.inr v) :: st) h Q := WP_step dX1_reachedFrom_40 rfl rfl rfl
theorem rX1_reachedFrom_41 {d : Nat} {h : Hp} {Q : Option PV → Hp → Prop} {st : List PV}{ls : List (Option PV)}{a : Nat} : WP d mX1_reachedFrom 41 ls (.inr (.inr a) :: st) h Q = ((hK h a).1 = 1 ∧ WP d mX1_reachedFrom 44 ls (.inr (.inr (hR h a 3)) :: st) h Q) := R_get2 dX1_reachedFrom_41 rfl
theorem rX1_reachedFrom_44 {d : Nat} {h : Hp} {Q : Option PV → Hp → Prop} {st : List PV}{x0 : Option PV} {t : List (Option PV)} {v : Int} : WP d mX1_reachedFrom 44 (x0 :: some (.inl v) :: t) st h Q = WP d mX1_reachedFrom 45 (x0 :: some (.inl v) :: t) (.inl v :: st) h Q := WP_step dX1_reachedFrom_44 rfl rfl rfl
theorem rX1_reachedFrom_45 {d : Nat} {h : Hp} {Q : Option PV → Hp → Prop} {st : List PV}{x0 x1 : Option PV} {t : List (Option PV)} {v : Int} : WP d mX1_reachedFrom 45 (x0 :: x1 :: some (.inl v) :: t) st h Q = WP d mX1_reachedFrom 46 (x0 :: x1 :: some (.inl v) :: t) (.inl v :: st) h Q := WP_step dX1_reachedFrom_45 rfl rfl rfl
theorem rX1_reachedFrom_46 {d : Nat} {h : Hp} {Q : Option PV → Hp → Prop} {st : List PV}{ls : List (Option PV)}{a : Nat} {z v : Int} : WP d mX1_reachedFrom 46 ls (.inl v :: .inl z :: .inr (.inr a) :: st) h Q = (200 ≤ a ∧ (hK h a).1 = 21 ∧ 0 ≤ z ∧ z < (hK h a).2 ∧ WP d mX1_reachedFrom 47 ls st (wI h a z.toNat v) Q) := R_iast dX1_reachedFrom_46
theorem rX1_reachedFrom_47 {d : Nat} {h : Hp} {Q : Option PV → Hp → Prop} {st : List PV}{t : List (Option PV)} {v : Nat} : WP d mX1_reachedFrom 47 (some (.inr (.inr v)) :: t) st h Q = WP d mX1_reachedFrom 48 (some (.inr (.inr v)) :: t) (.inr (.inr v) :: st) h Q := WP_step dX1_reachedFrom_47 rfl rfl rfl
theorem rX1_reachedFrom_48 {d : Nat} {h : Hp} {Q : Option PV → Hp → Prop} {st : List PV}{ls : List (Option PV)}{a : Nat} : WP d mX1_reachedFrom 48 ls (.inr (.inr a) :: st) h Q = ((hK h a).1 = 1 ∧ WP d mX1_reachedFrom 51 ls (.inr (.inr (hR h a 5)) :: st) h Q) := R_get2 dX1_reachedFrom_48 rfl
theorem rX1_reachedFrom_51 {d : Nat} {h : Hp} {Q : Option PV → Hp → Prop} {st : List PV}{t : List (Option PV)} {v : Nat} : WP d mX1_reachedFrom 51 (some (.inr (.inr v)) :: t) st h Q = WP d mX1_reachedFrom 52 (some (.inr (.inr v)) :: t) (.inr (.inr v) :: st) h Q := WP_step dX1_reachedFrom_51 rfl rfl rfl
theorem rX1_reachedFrom_52 {d : Nat} {h : Hp} {Q : Option PV → Hp → Prop} {st : List PV}{ls : List (Option PV)}{a : Nat} : WP d mX1_reachedFrom 52 ls (.inr (.inr a) :: st) h Q = ((hK h a).1 = 1 ∧ WP d mX1_reachedFrom 55 ls (.inl (hI h a 6) :: st) h Q) := R_get0 dX1_reachedFrom_52 rfl
theorem rX1_reachedFrom_55 {d : Nat} {h : Hp} {Q : Option PV → Hp → Prop} {st : List PV}{x0 : Option PV} {t : List (Option PV)} {v : Int} : WP d mX1_reachedFrom 55 (x0 :: some (.inl v) :: t) st h Q = WP d mX1_reachedFrom 56 (x0 :: some (.inl v) :: t) (.inl v :: st) h Q := WP_step dX1_reachedFrom_55 rfl rfl rfl
theorem rX1_reachedFrom_56 {d : Nat} {h : Hp} {Q : Option PV → Hp → Prop} {st : List PV}{ls : List (Option PV)}{a : Nat} {z v : Int} : WP d mX1_reachedFrom 56 ls (.inl v :: .inl z :: .inr (.inr a) :: st) h Q = (200 ≤ a ∧ (hK h a).1 = 21 ∧ 0 ≤ z ∧ z < (hK h a).2 ∧ WP d mX1_reachedFrom 57 ls st (wI h a z.toNat v) Q) := R_iast dX1_reachedFrom_56
theorem rX1_reachedFrom_57 {d : Nat} {h : Hp} {Q : Option PV → Hp → Prop} {st : List PV}{t : List (Option PV)} {v : Nat} : WP d mX1_reachedFrom 57 (some (.inr (.inr v)) :: t) st h Q = WP d mX1_reachedFrom 58 (some (.inr (.inr v)) :: t) (.inr (.inr v) :: st) h Q := WP_step dX1_reachedFrom_57 rfl rfl rfl
theorem rX1_reachedFrom_58 {d : Nat} {h : Hp} {Q : Option PV → Hp → Prop} {st : List PV}{ls : List (Option PV)}{a : Nat} : WP d mX1_reachedFrom 58 ls (.inr (.inr a) :: st) h Q = WP d mX1_reachedFrom 59 ls (.inr (.inr a) :: .inr (.inr a) :: st) h Q := WP_step dX1_reachedFrom_58 rfl rfl rfl
theorem rX1_reachedFrom_59 {d : Nat} {h : Hp} {Q : Option PV → Hp → Prop} {st : List PV}{ls : List (Option PV)}{a : Nat} : WP d mX1_reachedFrom 59 ls (.inr (.inr a) :: st) h Q = ((hK h a).1 = 1 ∧ WP d mX1_reachedFrom 62 ls (.inl (hI h a 6) :: st) h Q) := R_get0 dX1_reachedFrom_59 rfl
theorem rX1_reachedFrom_62 {d : Nat} {h : Hp} {Q : Option PV → Hp → Prop} {st : List PV}{ls : List (Option PV)} : WP d mX1_reachedFrom 62 ls st h Q = WP d mX1_reachedFrom 63 ls (.inl (1) :: st) h Q := WP_step dX1_reachedFrom_62 rfl rfl rfl
theorem rX1_reachedFrom_63 {d : Nat} {h : Hp} {Q : Option PV → Hp → Prop} {st : List PV}{ls : List (Option PV)}{a b : Int} : WP d mX1_reachedFrom 63 ls (.inl b :: .inl a :: st) h Q = WP d mX1_reachedFrom 64 ls (.inl (w32 (a + b)) :: st) h Q := WP_step dX1_reachedFrom_63 rfl rfl rfl
theorem rX1_reachedFrom_64 {d : Nat} {h : Hp} {Q : Option PV → Hp → Prop} {st : List PV}{ls : List (Option PV)}{a : Nat} {v : Int} : WP d mX1_reachedFrom 64 ls (.inl v :: .inr (.inr a) :: st) h Q = ((hK h a).1 = 1 ∧ 200 ≤ a ∧ WP d mX1_reachedFrom 67 ls st (wI h a 6 v) Q) := R_put0 dX1_reachedFrom_64 rfl
theorem rX1_reachedFrom_67 {d : Nat} {h : Hp} {Q : Option PV → Hp → Prop} {ls : List (Option PV)} : WP d mX1_reachedFrom 67 ls [] h Q = Q none h := R_vret dX1_reachedFrom_67 rfl
theorem dX1_firstBest_0 : decode prog_3_method_7_code 0 = .ok (.iconst 0, 1) := by decide +kernel
theorem dX1_firstBest_1 : decode prog_3_method_7_code 1 = .ok (.istore_n 2, 1) := by decide +kernel
theorem dX1_firstBest_2 : decode prog_3_method_7_code 2 = .ok (.iload_n 1, 1) := by decide +kernel
theorem dX1_firstBest_3 : decode prog_3_method_7_code 3 = .ok (.ifCond .le 60, 3) := by decide +kernel
theorem dX1_firstBest_6 : decode prog_3_method_7_code 6 = .ok (.iload_n 2, 1) := by decide +kernel
theorem dX1_firstBest_7 : decode prog_3_method_7_code 7 = .ok (.aload_n 0, 1) := by decide +kernel
theorem dX1_firstBest_8 : decode prog_3_method_7_code 8 = .ok (.getfield 27, 3) := by decide +kernel
theorem dX1_firstBest_11 : decode prog_3_method_7_code 11 = .ok (.getfield 43, 3) := by decide +kernel
theorem dX1_firstBest_14 : decode prog_3_method_7_code 14 = .ok (.getfield 47, 3) := by decide +kernel
theorem dX1_firstBest_17 : decode prog_3_method_7_code 17 = .ok (.if_icmp .ge 46, 3) := by decide +kernel
theorem dX1_firstBest_20 : decode prog_3_method_7_code 20 = .ok (.aload_n 0, 1) := by decide +kernel
theorem dX1_firstBest_21 : decode prog_3_method_7_code 21 = .ok (.getfield 31, 3) := by decide +kernel
theorem dX1_firstBest_24 : decode prog_3_method_7_code 24 = .ok (.iload_n 2, 1) := by decide +kernel
theorem dX1_firstBest_25 : decode prog_3_method_7_code 25 = .ok (.invokestatic 52, 3) := by decide +kernel
theorem dX1_firstBest_28 : decode prog_3_method_7_code 28 = .ok (.ifCond .eq 29, 3) := by decide +kernel
theorem dX1_firstBest_31 : decode prog_3_method_7_code 31 = .ok (.aload_n 0, 1) := by decide +kernel
theorem dX1_firstBest_32 : decode prog_3_method_7_code 32 = .ok (.getfield 18, 3) := by decide +kernel
theorem dX1_firstBest_35 : decode prog_3_method_7_code 35 = .ok (.iconst 2, 1) := by decide +kernel
theorem dX1_firstBest_36 : decode prog_3_method_7_code 36 = .ok (.aload_n 0, 1) := by decide +kernel
theorem dX1_firstBest_37 : decode prog_3_method_7_code 37 = .ok (.getfield 27, 3) := by decide +kernel
theorem dX1_firstBest_40 : decode prog_3_method_7_code 40 = .ok (.iload_n 2, 1) := by decide +kernel
theorem dX1_firstBest_41 : decode prog_3_method_7_code 41 = .ok (.iconst 0, 1) := by decide +kernel
theorem dX1_firstBest_42 : decode prog_3_method_7_code 42 = .ok (.invokevirtual 56, 3) := by decide +kernel
theorem dX1_firstBest_45 : decode prog_3_method_7_code 45 = .ok (.imul, 1) := by decide +kernel
theorem dX1_firstBest_46 : decode prog_3_method_7_code 46 = .ok (.iconst 1, 1) := by decide +kernel
theorem dX1_firstBest_47 : decode prog_3_method_7_code 47 = .ok (.iadd, 1) := by decide +kernel
theorem dX1_firstBest_48 : decode prog_3_method_7_code 48 = .ok (.iaload, 1) := by decide +kernel
theorem dX1_firstBest_49 : decode prog_3_method_7_code 49 = .ok (.iload_n 1, 1) := by decide +kernel
theorem dX1_firstBest_50 : decode prog_3_method_7_code 50 = .ok (.iconst 1, 1) := by decide +kernel
theorem dX1_firstBest_51 : decode prog_3_method_7_code 51 = .ok (.isub, 1) := by decide +kernel
theorem dX1_firstBest_52 : decode prog_3_method_7_code 52 = .ok (.if_icmp .ne 5, 3) := by decide +kernel
theorem dX1_firstBest_55 : decode prog_3_method_7_code 55 = .ok (.iload_n 2, 1) := by decide +kernel
theorem dX1_firstBest_56 : decode prog_3_method_7_code 56 = .ok (.ireturn, 1) := by decide +kernel
theorem dX1_firstBest_57 : decode prog_3_method_7_code 57 = .ok (.iinc 2 1, 3) := by decide +kernel
theorem dX1_firstBest_60 : decode prog_3_method_7_code 60 = .ok (.goto (-58), 3) := by decide +kernel
theorem dX1_firstBest_63 : decode prog_3_method_7_code 63 = .ok (.iconst (-1), 1) := by decide +kernel
theorem dX1_firstBest_64 : decode prog_3_method_7_code 64 = .ok (.ireturn, 1) := by decide +kernel
theorem rX1_firstBest_0 {d : Nat} {h : Hp} {Q : Option PV → Hp → Prop} {st : List PV}{ls : List (Option PV)} : WP d mX1_firstBest 0 ls st h Q = WP d mX1_firstBest 1 ls (.inl (0) :: st) h Q := WP_step dX1_firstBest_0 rfl rfl rfl
theorem rX1_firstBest_1 {d : Nat} {h : Hp} {Q : Option PV → Hp → Prop} {st : List PV}{x0 x1 x2 : Option PV} {v : Int} : WP d mX1_firstBest 1 [x0, x1, x2] (.inl v :: st) h Q = WP d mX1_firstBest 2 [x0, x1, some (.inl v)] st h Q := WP_step dX1_firstBest_1 rfl rfl rfl
theorem rX1_firstBest_2 {d : Nat} {h : Hp} {Q : Option PV → Hp → Prop} {st : List PV}{x0 : Option PV} {t : List (Option PV)} {v : Int} : WP d mX1_firstBest 2 (x0 :: some (.inl v) :: t) st h Q = WP d mX1_firstBest 3 (x0 :: some (.inl v) :: t) (.inl v :: st) h Q := WP_step dX1_firstBest_2 rfl rfl rfl
theorem rX1_firstBest_3 {d : Nat} {h : Hp} {Q : Option PV → Hp → Prop} {st : List PV}{ls : List (Option PV)}{a : Int} : WP d mX1_firstBest 3 ls (.inl a :: st) h Q = (if 0 < a then WP d mX1_firstBest 6 ls st h Q else WP d mX1_firstBest 63 ls st h Q) := R_if_le dX1_firstBest_3 (by decide)
theorem rX1_firstBest_6 {d : Nat} {h : Hp} {Q : Option PV → Hp → Prop} {st : List PV}{x0 x1 : Option PV} {t : List (Option PV)} {v : Int} : WP d mX1_firstBest 6 (x0 :: x1 :: some (.inl v) :: t) st h Q = WP d mX1_firstBest 7 (x0 :: x1 :: some (.inl v) :: t) (.inl v :: st) h Q := WP_step dX1_firstBest_6 rfl rfl rfl
theorem rX1_firstBest_7 {d : Nat} {h : Hp} {Q : Option PV → Hp → Prop} {st : List PV}{t : List (Option PV)} {v : Nat} : WP d mX1_firstBest 7 (some (.inr (.inr v)) :: t) st h Q = WP d mX1_firstBest 8 (some (.inr (.inr v)) :: t) (.inr (.inr v) :: st) h Q := WP_step dX1_firstBest_7 rfl rfl rfl
theorem rX1_firstBest_8 {d : Nat} {h : Hp} {Q : Option PV → Hp → Prop} {st : List PV}{ls : List (Option PV)}{a : Nat} : WP d mX1_firstBest 8 ls (.inr (.inr a) :: st) h Q = ((hK h a).1 = 1 ∧ WP d mX1_firstBest 11 ls (.inr (.inr (hR h a 0)) :: st) h Q) := R_get2 dX1_firstBest_8 rfl
theorem rX1_firstBest_11 {d : Nat} {h : Hp} {Q : Option PV → Hp → Prop} {st : List PV}{ls : List (Option PV)}{a : Nat} : WP d mX1_firstBest 11 ls (.inr (.inr a) :: st) h Q = ((hK h a).1 = 7 ∧ WP d mX1_firstBest 14 ls (.inr (.inr (hR h a 10)) :: st) h Q) := R_get2 dX1_firstBest_11 rfl
theorem rX1_firstBest_14 {d : Nat} {h : Hp} {Q : Option PV → Hp → Prop} {st : List PV}{ls : List (Option PV)}{a : Nat} : WP d mX1_firstBest 14 ls (.inr (.inr a) :: st) h Q = ((hK h a).1 = 5 ∧ WP d mX1_firstBest 17 ls (.inl (hI h a 11) :: st) h Q) := R_get0 dX1_firstBest_14 rfl
theorem rX1_firstBest_17 {d : Nat} {h : Hp} {Q : Option PV → Hp → Prop} {st : List PV}{ls : List (Option PV)}{a b : Int} : WP d mX1_firstBest 17 ls (.inl b :: .inl a :: st) h Q = (if a < b then WP d mX1_firstBest 20 ls st h Q else WP d mX1_firstBest 63 ls st h Q) := R_icmp_ge dX1_firstBest_17 (by decide)
theorem rX1_firstBest_20 {d : Nat} {h : Hp} {Q : Option PV → Hp → Prop} {st : List PV}{t : List (Option PV)} {v : Nat} : WP d mX1_firstBest 20 (some (.inr (.inr v)) :: t) st h Q = WP d mX1_firstBest 21 (some (.inr (.inr v)) :: t) (.inr (.inr v) :: st) h Q := WP_step dX1_firstBest_20 rfl rfl rfl
theorem rX1_firstBest_21 {d : Nat} {h : Hp} {Q : Option PV → Hp → Prop} {st : List PV}{ls : List (Option PV)}{a : Nat} : WP d mX1_firstBest 21 ls (.inr (.inr a) :: st) h Q = ((hK h a).1 = 1 ∧ WP d mX1_firstBest 24 ls (.inl (hI h a 7) :: st) h Q) := R_get0 dX1_firstBest_21 rfl
theorem rX1_firstBest_24 {d : Nat} {h : Hp} {Q : Option PV → Hp → Prop} {st : List PV}{x0 x1 : Option PV} {t : List (Option PV)} {v : Int} : WP d mX1_firstBest 24 (x0 :: x1 :: some (.inl v) :: t) st h Q = WP d mX1_firstBest 25 (x0 :: x1 :: some (.inl v) :: t) (.inl v :: st) h Q := WP_step dX1_firstBest_24 rfl rfl rfl
theorem rX1_firstBest_25 {d : Nat} {h : Hp} {Q : Option PV → Hp → Prop} {ls : List (Option PV)}{v0 : Int} {v1 : Int} : WP (d + 1) mX1_firstBest 25 ls (.inl v1 :: .inl v0 :: []) h Q = WP d mX11_has 0 [some (.inl v0), some (.inl v1)] [] h (fun r h' => WP (d + 1) mX1_firstBest 28 ls (psh r []) h' Q) := R_callS (st := .inl v1 :: .inl v0 :: []) (M := mX1_firstBest) (pc := 25) (kd := 5) (n := 2) (M' := mX11_has) (as := [.inl v1, .inl v0]) (rest := []) (en := [some (.inl v0), some (.inl v1)]) dX1_firstBest_25 rfl (Or.inr rfl) (Nat.le_of_ble_eq_true rfl) rfl (Nat.le_of_ble_eq_true rfl) rfl rfl rfl
theorem rX1_firstBest_28 {d : Nat} {h : Hp} {Q : Option PV → Hp → Prop} {st : List PV}{ls : List (Option PV)}{a : Int} : WP d mX1_firstBest 28 ls (.inl a :: st) h Q = (if a = 0 then WP d mX1_firstBest 57 ls st h Q else WP d mX1_firstBest 31 ls st h Q) := R_if_eq dX1_firstBest_28 (by decide)
theorem rX1_firstBest_31 {d : Nat} {h : Hp} {Q : Option PV → Hp → Prop} {st : List PV}{t : List (Option PV)} {v : Nat} : WP d mX1_firstBest 31 (some (.inr (.inr v)) :: t) st h Q = WP d mX1_firstBest 32 (some (.inr (.inr v)) :: t) (.inr (.inr v) :: st) h Q := WP_step dX1_firstBest_31 rfl rfl rfl
theorem rX1_firstBest_32 {d : Nat} {h : Hp} {Q : Option PV → Hp → Prop} {st : List PV}{ls : List (Option PV)}{a : Nat} : WP d mX1_firstBest 32 ls (.inr (.inr a) :: st) h Q = ((hK h a).1 = 1 ∧ WP d mX1_firstBest 35 ls (.inr (.inr (hR h a 3)) :: st) h Q) := R_get2 dX1_firstBest_32 rfl
theorem rX1_firstBest_35 {d : Nat} {h : Hp} {Q : Option PV → Hp → Prop} {st : List PV}{ls : List (Option PV)} : WP d mX1_firstBest 35 ls st h Q = WP d mX1_firstBest 36 ls (.inl (2) :: st) h Q := WP_step dX1_firstBest_35 rfl rfl rfl
theorem rX1_firstBest_36 {d : Nat} {h : Hp} {Q : Option PV → Hp → Prop} {st : List PV}{t : List (Option PV)} {v : Nat} : WP d mX1_firstBest 36 (some (.inr (.inr v)) :: t) st h Q = WP d mX1_firstBest 37 (some (.inr (.inr v)) :: t) (.inr (.inr v) :: st) h Q := WP_step dX1_firstBest_36 rfl rfl rfl
theorem rX1_firstBest_37 {d : Nat} {h : Hp} {Q : Option PV → Hp → Prop} {st : List PV}{ls : List (Option PV)}{a : Nat} : WP d mX1_firstBest 37 ls (.inr (.inr a) :: st) h Q = ((hK h a).1 = 1 ∧ WP d mX1_firstBest 40 ls (.inr (.inr (hR h a 0)) :: st) h Q) := R_get2 dX1_firstBest_37 rfl
theorem rX1_firstBest_40 {d : Nat} {h : Hp} {Q : Option PV → Hp → Prop} {st : List PV}{x0 x1 : Option PV} {t : List (Option PV)} {v : Int} : WP d mX1_firstBest 40 (x0 :: x1 :: some (.inl v) :: t) st h Q = WP d mX1_firstBest 41 (x0 :: x1 :: some (.inl v) :: t) (.inl v :: st) h Q := WP_step dX1_firstBest_40 rfl rfl rfl
theorem rX1_firstBest_41 {d : Nat} {h : Hp} {Q : Option PV → Hp → Prop} {st : List PV}{ls : List (Option PV)} : WP d mX1_firstBest 41 ls st h Q = WP d mX1_firstBest 42 ls (.inl (0) :: st) h Q := WP_step dX1_firstBest_41 rfl rfl rfl
theorem rX1_firstBest_42 {d : Nat} {h : Hp} {Q : Option PV → Hp → Prop} {ls : List (Option PV)}{r0 r1 : PV}{v0 : Nat} {v1 : Int} {v2 : Int} : WP (d + 1) mX1_firstBest 42 ls (.inl v2 :: .inl v1 :: .inr (.inr v0) :: [r0, r1]) h Q = ((hK h v0).1 = 7 ∧ WP d mX7_placeAfter 0 [some (.inr (.inr v0)), some (.inl v1), some (.inl v2)] [] h (fun r h' => WP (d + 1) mX1_firstBest 45 ls (psh r [r0, r1]) h' Q)) := R_callV (st := .inl v2 :: .inl v1 :: .inr (.inr v0) :: [r0, r1]) (M := mX1_firstBest) (pc := 42) (kd := 0) (n := 3) (M' := mX7_placeAfter) (as := [.inl v2, .inl v1, .inr (.inr v0)]) (rest := [r0, r1]) (en := [some (.inr (.inr v0)), some (.inl v1), some (.inl v2)]) dX1_firstBest_42 rfl (Nat.le_of_ble_eq_true rfl) (Nat.le_of_ble_eq_true rfl) rfl rfl (Nat.le_of_ble_eq_true rfl) rfl rfl rfl
theorem rX1_firstBest_45 {d : Nat} {h : Hp} {Q : Option PV → Hp → Prop} {st : List PV}{ls : List (Option PV)}{a b : Int} : WP d mX1_firstBest 45 ls (.inl b :: .inl a :: st) h Q = WP d mX1_firstBest 46 ls (.inl (w32 (a * b)) :: st) h Q := WP_step dX1_firstBest_45 rfl rfl rfl
theorem rX1_firstBest_46 {d : Nat} {h : Hp} {Q : Option PV → Hp → Prop} {st : List PV}{ls : List (Option PV)} : WP d mX1_firstBest 46 ls st h Q = WP d mX1_firstBest 47 ls (.inl (1) :: st) h Q := WP_step dX1_firstBest_46 rfl rfl rfl
theorem rX1_firstBest_47 {d : Nat} {h : Hp} {Q : Option PV → Hp → Prop} {st : List PV}{ls : List (Option PV)}{a b : Int} : WP d mX1_firstBest 47 ls (.inl b :: .inl a :: st) h Q = WP d mX1_firstBest 48 ls (.inl (w32 (a + b)) :: st) h Q := WP_step dX1_firstBest_47 rfl rfl rfl
theorem rX1_firstBest_48 {d : Nat} {h : Hp} {Q : Option PV → Hp → Prop} {st : List PV}{ls : List (Option PV)}{a : Nat} {z : Int} : WP d mX1_firstBest 48 ls (.inl z :: .inr (.inr a) :: st) h Q = ((hK h a).1 = 21 ∧ 0 ≤ z ∧ z < (hK h a).2 ∧ WP d mX1_firstBest 49 ls (.inl (hI h a z.toNat) :: st) h Q) := R_iald dX1_firstBest_48
theorem rX1_firstBest_49 {d : Nat} {h : Hp} {Q : Option PV → Hp → Prop} {st : List PV}{x0 : Option PV} {t : List (Option PV)} {v : Int} : WP d mX1_firstBest 49 (x0 :: some (.inl v) :: t) st h Q = WP d mX1_firstBest 50 (x0 :: some (.inl v) :: t) (.inl v :: st) h Q := WP_step dX1_firstBest_49 rfl rfl rfl
theorem rX1_firstBest_50 {d : Nat} {h : Hp} {Q : Option PV → Hp → Prop} {st : List PV}{ls : List (Option PV)} : WP d mX1_firstBest 50 ls st h Q = WP d mX1_firstBest 51 ls (.inl (1) :: st) h Q := WP_step dX1_firstBest_50 rfl rfl rfl
theorem rX1_firstBest_51 {d : Nat} {h : Hp} {Q : Option PV → Hp → Prop} {st : List PV}{ls : List (Option PV)}{a b : Int} : WP d mX1_firstBest 51 ls (.inl b :: .inl a :: st) h Q = WP d mX1_firstBest 52 ls (.inl (w32 (a - b)) :: st) h Q := WP_step dX1_firstBest_51 rfl rfl rfl
theorem rX1_firstBest_52 {d : Nat} {h : Hp} {Q : Option PV → Hp → Prop} {st : List PV}{ls : List (Option PV)}{a b : Int} : WP d mX1_firstBest 52 ls (.inl b :: .inl a :: st) h Q = (if a = b then WP d mX1_firstBest 55 ls st h Q else WP d mX1_firstBest 57 ls st h Q) := R_icmp_ne dX1_firstBest_52 (by decide)
theorem rX1_firstBest_55 {d : Nat} {h : Hp} {Q : Option PV → Hp → Prop} {st : List PV}{x0 x1 : Option PV} {t : List (Option PV)} {v : Int} : WP d mX1_firstBest 55 (x0 :: x1 :: some (.inl v) :: t) st h Q = WP d mX1_firstBest 56 (x0 :: x1 :: some (.inl v) :: t) (.inl v :: st) h Q := WP_step dX1_firstBest_55 rfl rfl rfl
theorem rX1_firstBest_56 {d : Nat} {h : Hp} {Q : Option PV → Hp → Prop} {ls : List (Option PV)}{z : Int} : WP d mX1_firstBest 56 ls [.inl z] h Q = Q (some (.inl z)) h := R_iret dX1_firstBest_56 rfl
theorem rX1_firstBest_57 {d : Nat} {h : Hp} {Q : Option PV → Hp → Prop} {st : List PV}{x0 x1 : Option PV} {t : List (Option PV)} {v : Int} : WP d mX1_firstBest 57 (x0 :: x1 :: some (.inl v) :: t) st h Q = WP d mX1_firstBest 60 (x0 :: x1 :: some (.inl (w32 (v + 1))) :: t) st h Q := WP_step dX1_firstBest_57 rfl rfl rfl
theorem rX1_firstBest_60 {d : Nat} {h : Hp} {Q : Option PV → Hp → Prop} {st : List PV}{ls : List (Option PV)} : WP d mX1_firstBest 60 ls st h Q = WP d mX1_firstBest 2 ls st h Q := R_goto dX1_firstBest_60 (by decide)
theorem rX1_firstBest_63 {d : Nat} {h : Hp} {Q : Option PV → Hp → Prop} {st : List PV}{ls : List (Option PV)} : WP d mX1_firstBest 63 ls st h Q = WP d mX1_firstBest 64 ls (.inl (-1) :: st) h Q := WP_step dX1_firstBest_63 rfl rfl rfl
theorem rX1_firstBest_64 {d : Nat} {h : Hp} {Q : Option PV → Hp → Prop} {ls : List (Option PV)}{z : Int} : WP d mX1_firstBest 64 ls [.inl z] h Q = Q (some (.inl z)) h := R_iret dX1_firstBest_64 rfl
